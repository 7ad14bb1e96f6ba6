theorem iw_X1 : ∀ w ∈ u_ws RX1 TX1 3, w ∈ hw_ws := fun w h => hw_win ((by decide +kernel : ∀ w ∈ u_ws RX1 TX1 3, w ∈ lw_tbl) w h) ((by decide +kernel : ∀ w ∈ u_ws RX1 TX1 3, goodWord w = true) w h)
theorem fd_X1_9 : hw_FD RX1 9 2 0 := ⟨RX1, TX1, 3, "MeltPool$Melt", rfl, by decide, iw_X1, (hw_win (w := .fieldLink RX1 9 "MeltPool$Melt" (TX1 0).2.1 (TX1 0).2.2.1) (by decide +kernel) (by decide +kernel)), Or.inl rfl⟩
theorem cb_J7_fill_7f8df (own : String) (index : Nat) : hw_CB own index yJ7_fill_7f8df cJ7_fill_7f8df 5 none 2 := ⟨⟨by decide +kernel, by decide +kernel, by decide +kernel⟩, (hw_win (w := .code yJ7_fill_7f8df cJ7_fill_7f8df 5 none) (by decide +kernel) (by decide +kernel)), (hw_win (w := .initialized yJ7_fill_7f8df.cls) (by decide +kernel) (by decide +kernel))⟩
theorem cs_X1_15 : hw_CS RX1 15 yJ7_fill_7f8df cJ7_fill_7f8df 5 none 2 := ⟨cb_J7_fill_7f8df _ _, (hw_win (w := .methodLink RX1 15 yJ7_fill_7f8df) (by decide +kernel) (by decide +kernel)), (hw_win (w := .static yJ7_fill_7f8df) (by decide +kernel) (by decide +kernel))⟩
theorem fd_X1_39 : hw_FD RX1 39 2 2 := ⟨RX1, TX1, 3, "MeltPool$Melt", rfl, by decide, iw_X1, (hw_win (w := .fieldLink RX1 39 "MeltPool$Melt" (TX1 2).2.1 (TX1 2).2.2.1) (by decide +kernel) (by decide +kernel)), Or.inl rfl⟩
theorem fp_X1_39 : hw_FP RX1 39 2 2 (.int) false := ⟨RX1, TX1, 3, "MeltPool$Melt", tyX1, rfl, by decide, iw_X1, (hw_win (w := .fieldLink RX1 39 "MeltPool$Melt" (TX1 2).2.1 (TX1 2).2.2.1) (by decide +kernel) (by decide +kernel)), Or.inl rfl, tyX1_ok, nmX1, rfl, (fun h => by cases h), by decide +kernel⟩
theorem fd_X1_33 : hw_FD RX1 33 2 1 := ⟨RX1, TX1, 3, "MeltPool$Melt", rfl, by decide, iw_X1, (hw_win (w := .fieldLink RX1 33 "MeltPool$Melt" (TX1 1).2.1 (TX1 1).2.2.1) (by decide +kernel) (by decide +kernel)), Or.inl rfl⟩
theorem fp_X1_33 : hw_FP RX1 33 2 1 (.int) false := ⟨RX1, TX1, 3, "MeltPool$Melt", tyX1, rfl, by decide, iw_X1, (hw_win (w := .fieldLink RX1 33 "MeltPool$Melt" (TX1 1).2.1 (TX1 1).2.2.1) (by decide +kernel) (by decide +kernel)), Or.inl rfl, tyX1_ok, nmX1, rfl, (fun h => by cases h), by decide +kernel⟩
theorem cb_X1_judge (own : String) (index : Nat) : hw_CB own index yX1_judge cX1_judge 3 none 1 := ⟨⟨by decide +kernel, by decide +kernel, by decide +kernel⟩, (hw_win (w := .code yX1_judge cX1_judge 3 none) (by decide +kernel) (by decide +kernel)), (hw_win (w := .initialized yX1_judge.cls) (by decide +kernel) (by decide +kernel))⟩
theorem cv_X1_27 : hw_CV RX1 27 yX1_judge cX1_judge 3 none 1 := ⟨cb_X1_judge _ _, (hw_win (w := .methodLink RX1 27 yX1_judge) (by decide +kernel) (by decide +kernel)), (hw_win (w := .instanceMethod yX1_judge) (by decide +kernel) (by decide +kernel)), (hw_win (w := .selects yX1_judge.cls yX1_judge yX1_judge) (by decide +kernel) (by decide +kernel))⟩
theorem iw_X3 : ∀ w ∈ u_ws RX3 TX3 6, w ∈ hw_ws := fun w h => hw_win ((by decide +kernel : ∀ w ∈ u_ws RX3 TX3 6, w ∈ lw_tbl) w h) ((by decide +kernel : ∀ w ∈ u_ws RX3 TX3 6, goodWord w = true) w h)
theorem fd_X3_21 : hw_FD RX3 21 4 2 := ⟨RX3, TX3, 6, "MeltPool$Powder", rfl, by decide, iw_X3, (hw_win (w := .fieldLink RX3 21 "MeltPool$Powder" (TX3 2).2.1 (TX3 2).2.2.1) (by decide +kernel) (by decide +kernel)), Or.inl rfl⟩
theorem fp_X3_21 : hw_FP RX3 21 4 2 (.int) false := ⟨RX3, TX3, 6, "MeltPool$Powder", tyX3, rfl, by decide, iw_X3, (hw_win (w := .fieldLink RX3 21 "MeltPool$Powder" (TX3 2).2.1 (TX3 2).2.2.1) (by decide +kernel) (by decide +kernel)), Or.inl rfl, tyX3_ok, nmX3, rfl, (fun h => by cases h), by decide +kernel⟩
theorem fd_X3_24 : hw_FD RX3 24 4 3 := ⟨RX3, TX3, 6, "MeltPool$Powder", rfl, by decide, iw_X3, (hw_win (w := .fieldLink RX3 24 "MeltPool$Powder" (TX3 3).2.1 (TX3 3).2.2.1) (by decide +kernel) (by decide +kernel)), Or.inl rfl⟩
theorem fp_X3_24 : hw_FP RX3 24 4 3 (.int) false := ⟨RX3, TX3, 6, "MeltPool$Powder", tyX3, rfl, by decide, iw_X3, (hw_win (w := .fieldLink RX3 24 "MeltPool$Powder" (TX3 3).2.1 (TX3 3).2.2.1) (by decide +kernel) (by decide +kernel)), Or.inl rfl, tyX3_ok, nmX3, rfl, (fun h => by cases h), by decide +kernel⟩
theorem fd_X3_18 : hw_FD RX3 18 4 4 := ⟨RX3, TX3, 6, "MeltPool$Powder", rfl, by decide, iw_X3, (hw_win (w := .fieldLink RX3 18 "MeltPool$Powder" (TX3 4).2.1 (TX3 4).2.2.1) (by decide +kernel) (by decide +kernel)), Or.inl rfl⟩
theorem fp_X3_18 : hw_FP RX3 18 4 4 (.int) false := ⟨RX3, TX3, 6, "MeltPool$Powder", tyX3, rfl, by decide, iw_X3, (hw_win (w := .fieldLink RX3 18 "MeltPool$Powder" (TX3 4).2.1 (TX3 4).2.2.1) (by decide +kernel) (by decide +kernel)), Or.inl rfl, tyX3_ok, nmX3, rfl, (fun h => by cases h), by decide +kernel⟩
theorem iw_X0 : ∀ w ∈ u_ws RX0 TX0 7, w ∈ hw_ws := fun w h => hw_win ((by decide +kernel : ∀ w ∈ u_ws RX0 TX0 7, w ∈ lw_tbl) w h) ((by decide +kernel : ∀ w ∈ u_ws RX0 TX0 7, goodWord w = true) w h)
theorem fp_X0_22 : hw_FP RX0 22 1 2 (.object "MeltPool$Powder") false := ⟨RX0, TX0, 7, "MeltPool$Machine", tyX0, rfl, by decide, iw_X0, (hw_win (w := .fieldLink RX0 22 "MeltPool$Machine" (TX0 2).2.1 (TX0 2).2.2.1) (by decide +kernel) (by decide +kernel)), Or.inl rfl, tyX0_ok, nmX0, rfl, (fun h => by cases h), by decide +kernel⟩
theorem fd_X0_26 : hw_FD RX0 26 4 2 := ⟨RX3, TX3, 6, "MeltPool$Powder", rfl, by decide, iw_X3, (hw_win (w := .fieldLink RX0 26 "MeltPool$Powder" (TX3 2).2.1 (TX3 2).2.2.1) (by decide +kernel) (by decide +kernel)), Or.inl rfl⟩
theorem fp_X0_31 : hw_FP RX0 31 1 3 (.int) false := ⟨RX0, TX0, 7, "MeltPool$Machine", tyX0, rfl, by decide, iw_X0, (hw_win (w := .fieldLink RX0 31 "MeltPool$Machine" (TX0 3).2.1 (TX0 3).2.2.1) (by decide +kernel) (by decide +kernel)), Or.inl rfl, tyX0_ok, nmX0, rfl, (fun h => by cases h), by decide +kernel⟩
theorem fp_X0_26 : hw_FP RX0 26 4 2 (.int) false := ⟨RX3, TX3, 6, "MeltPool$Powder", tyX3, rfl, by decide, iw_X3, (hw_win (w := .fieldLink RX0 26 "MeltPool$Powder" (TX3 2).2.1 (TX3 2).2.2.1) (by decide +kernel) (by decide +kernel)), Or.inl rfl, tyX3_ok, nmX3, rfl, (fun h => by cases h), by decide +kernel⟩
theorem fd_X0_19 : hw_FD RX0 19 1 0 := ⟨RX0, TX0, 7, "MeltPool$Machine", rfl, by decide, iw_X0, (hw_win (w := .fieldLink RX0 19 "MeltPool$Machine" (TX0 0).2.1 (TX0 0).2.2.1) (by decide +kernel) (by decide +kernel)), Or.inl rfl⟩
theorem fp_X0_34 : hw_FP RX0 34 4 5 (.int) false := ⟨RX3, TX3, 6, "MeltPool$Powder", tyX3, rfl, by decide, iw_X3, (hw_win (w := .fieldLink RX0 34 "MeltPool$Powder" (TX3 5).2.1 (TX3 5).2.2.1) (by decide +kernel) (by decide +kernel)), Or.inl rfl, tyX3_ok, nmX3, rfl, (fun h => by cases h), by decide +kernel⟩
theorem fd_X0_37 : hw_FD RX0 37 4 1 := ⟨RX3, TX3, 6, "MeltPool$Powder", rfl, by decide, iw_X3, (hw_win (w := .fieldLink RX0 37 "MeltPool$Powder" (TX3 1).2.1 (TX3 1).2.2.1) (by decide +kernel) (by decide +kernel)), Or.inl rfl⟩
theorem fp_X0_9 : hw_FP RX0 9 1 1 (.int) false := ⟨RX0, TX0, 7, "MeltPool$Machine", tyX0, rfl, by decide, iw_X0, (hw_win (w := .fieldLink RX0 9 "MeltPool$Machine" (TX0 1).2.1 (TX0 1).2.2.1) (by decide +kernel) (by decide +kernel)), Or.inl rfl, tyX0_ok, nmX0, rfl, (fun h => by cases h), by decide +kernel⟩
theorem fd_X0_22 : hw_FD RX0 22 1 2 := ⟨RX0, TX0, 7, "MeltPool$Machine", rfl, by decide, iw_X0, (hw_win (w := .fieldLink RX0 22 "MeltPool$Machine" (TX0 2).2.1 (TX0 2).2.2.1) (by decide +kernel) (by decide +kernel)), Or.inl rfl⟩
theorem fd_X0_40 : hw_FD RX0 40 4 3 := ⟨RX3, TX3, 6, "MeltPool$Powder", rfl, by decide, iw_X3, (hw_win (w := .fieldLink RX0 40 "MeltPool$Powder" (TX3 3).2.1 (TX3 3).2.2.1) (by decide +kernel) (by decide +kernel)), Or.inl rfl⟩
theorem fp_X0_40 : hw_FP RX0 40 4 3 (.int) false := ⟨RX3, TX3, 6, "MeltPool$Powder", tyX3, rfl, by decide, iw_X3, (hw_win (w := .fieldLink RX0 40 "MeltPool$Powder" (TX3 3).2.1 (TX3 3).2.2.1) (by decide +kernel) (by decide +kernel)), Or.inl rfl, tyX3_ok, nmX3, rfl, (fun h => by cases h), by decide +kernel⟩
set_option maxHeartbeats 4000000 in
set_option maxRecDepth 100000 in
theorem m_J7_fill_7f8df (l : Launch) (Z : hw_Z) (M : hw_M) (a : Nat) (x : UInt64) (f : Nat → UInt64) (h0 : M a = hw_ad Z 64 f) : Met l yJ7_fill_7f8df (hw_m yJ7_fill_7f8df cJ7_fill_7f8df 5 none) ({ frames := 0, cells := 0, slots := 0, locals := 0 } : Room) (va_Pc [.ref a, .double x] (hw_P Z M)) (hw_Qv Z (fun M' => va_up M a (hw_ad Z 64 (fun _ => x)) = M')) 0 0 (hw_A Z) := by
  refine hw_ofv (by decide +kernel) rfl (Nat.le_of_ble_eq_true rfl) ?_
  intro p e s m below meth c ls Q hx hb hml hown hts hk hnm hI hl hret
  refine lv_iconst (v := nI 0) hx hb dJ7_fill_7f8df_0 (by decide) ?_
  refine lv_istore_n (lv' := [(3, .int (nI 0)), (0, .ref a), (1, .double x)]) hx hb dJ7_fill_7f8df_1 rfl hl (by decide) rfl (fun ls hl => ?_)
  refine lv_aload_n hx hb dJ7_fill_7f8df_2 rfl (lv_at hl 1 rfl) ?_
  refine hw_alen (v := nI 64) hx hb hk hI 2 h0 rfl rfl dJ7_fill_7f8df_3 ?_
  refine lv_istore (lv' := [(4, .int (nI 64)), (3, .int (nI 0)), (0, .ref a), (1, .double x)]) hx hb dJ7_fill_7f8df_4 hl (by decide) rfl (fun ls hl => ?_)
  suffices LP6 : ∀ i, i ≤ 64 → ∀ (H : Heap) (locs : List Loc) (ls : Array Slot), hw_iv Z s (va_up M a (hw_ad Z 64 (hb_mix (fun _ => x) f i))) H locs → lv_has ls 5 [(3, .int (nI i)), (4, .int (nI 64)), (0, .ref a), (1, .double x)] → W p l e ({ frames := 0, cells := 0, slots := 0, locals := 0 } : Room) s m ([.ref a, .double x] : List Value).toArray below meth c H locs 0 0 Q (F0 m 6 ls []) from LP6 0 (by omega) _ _ _ (hI.eq (hw_id h0 (hw_adc (hb_mix_0 _ _)))) (lv_sub hl [1, 0, 2, 3] rfl)
  refine hw_loop ?_ (fun i hi6 ih6 => ?_)
  · intro H locs ls hI hl
    refine lv_iload_n hx hb dJ7_fill_7f8df_6 rfl (lv_at hl 0 rfl) ?_
    refine lv_iload hx hb dJ7_fill_7f8df_7 (lv_at hl 1 rfl) ?_
    refine lv_icmp_ge (tgt := 22) hx hb dJ7_fill_7f8df_9 (by decide) (fun _ => ?_) (fun hc => absurd (Int32.le_refl _) hc)
    have hI := (hI.exd (fun _ => x) (hw_us _ _ _) (fun j hj => hb_mix_lt hj))
    exact hret hI ((bx_uu _ _ _ _).symm) (Nat.le_of_ble_eq_true rfl) (Nat.le_of_ble_eq_true rfl) dJ7_fill_7f8df_22
  · intro H locs ls hI hl
    refine lv_iload_n hx hb dJ7_fill_7f8df_6 rfl (lv_at hl 0 rfl) ?_
    refine lv_iload hx hb dJ7_fill_7f8df_7 (lv_at hl 1 rfl) ?_
    refine lv_icmp_ge (tgt := 22) hx hb dJ7_fill_7f8df_9 (by decide) (fun hc => absurd hc (nI_ge hi6 (by decide))) (fun _ => ?_)
    refine lv_aload_n hx hb dJ7_fill_7f8df_12 rfl (lv_at hl 2 rfl) ?_
    refine lv_iload_n hx hb dJ7_fill_7f8df_13 rfl (lv_at hl 0 rfl) ?_
    refine lv_dload_n hx hb dJ7_fill_7f8df_14 rfl (lv_at hl 3 rfl) ?_
    refine hw_dast hx hb hk hI (hw_us _ _ _) (j := i) rfl (by omega) (by decide) dJ7_fill_7f8df_15 (fun H locs hI => ?_)
    refine lv_iinc (v := nI (i + 1)) (lv' := [(3, .int (nI (i + 1))), (4, .int (nI 64)), (0, .ref a), (1, .double x)]) hx hb dJ7_fill_7f8df_16 hl (k := 0) rfl (hw_inc _) (by decide) rfl (fun ls hl => ?_)
    refine lv_goto (tgt := 6) hx hb dJ7_fill_7f8df_19 (by decide) ?_
    exact ih6 _ _ _ (hI.eq (hw_uu1 (hw_adc (hb_mix_s rfl)))) (lv_sub hl [0, 1, 2, 3] rfl)

set_option maxHeartbeats 4000000 in
set_option maxRecDepth 100000 in
theorem m_X1_cool (l : Launch) (Z : hw_Z) (M : hw_M) (a : Nat) (wa : Nat) (lk : Int32) (ho : Int32) (Wm : Nat → UInt64) (h0 : M a = hw_ob 2 [.ref wa, .int lk, .int ho]) (h1 : M wa = hw_ad Z 64 Wm) : Met l yX1_cool (hw_m yX1_cool cX1_cool 1 none) ({ frames := 1, cells := 0, slots := 0, locals := 24 } : Room) (va_Pc [.ref a] (hw_P Z M)) (hw_Qv Z (fun M' => va_up M wa (hw_ad Z 64 (fun _ => FP.dconst0)) = M')) 0 0 (hw_A Z) := by
  refine hw_ofv (by decide +kernel) rfl (Nat.le_of_ble_eq_true rfl) ?_
  intro p e s m below meth c ls Q hx hb hml hown hts hk hnm hI hl hret
  refine lv_aload_n hx hb dX1_cool_0 rfl (lv_at hl 0 rfl) ?_
  refine hw_get hx hb hts hown hk hI fd_X1_9 h0 rfl dX1_cool_1 ?_
  refine lv_dconst0 hx hb dX1_cool_4 ?_
  refine hw_cv hI (hw_rS hx hb hml hown hts hk hI (m_J7_fill_7f8df l Z M wa FP.dconst0 Wm h1) cs_X1_15 ⟨rfl, rfl⟩ ⟨(Nat.le_of_ble_eq_true rfl), (Nat.le_of_ble_eq_true rfl)⟩ rfl hl.1 rfl (Nat.le_of_ble_eq_true rfl) ⟨(Nat.le_of_ble_eq_true rfl), (Nat.le_of_ble_eq_true rfl)⟩ dX1_cool_5) (fun M5 H locs hR hI => ?_)
  subst hR
  exact hret hI rfl (Nat.le_of_ble_eq_true rfl) (Nat.le_of_ble_eq_true rfl) dX1_cool_8

set_option maxHeartbeats 4000000 in
set_option maxRecDepth 100000 in
theorem m_X1_judge (l : Launch) (Z : hw_Z) (M : hw_M) (a : Nat) (wa : Nat) (lk : Int32) (ho : Int32) (d : UInt64) (h0 : M a = hw_ob 2 [.ref wa, .int lk, .int ho]) : Met l yX1_judge (hw_m yX1_judge cX1_judge 3 none) ({ frames := 0, cells := 0, slots := 0, locals := 0 } : Room) (va_Pc [.ref a, .double d] (hw_P Z M)) (hw_Qv Z (fun M' => va_up M a (hw_ob 2 [.ref wa, .int (lk + nI (hb_lack d).toNat), .int (ho + nI (hb_hole d).toNat)]) = M')) 0 0 (hw_A Z) := by
  refine hw_ofv (by decide +kernel) rfl (Nat.le_of_ble_eq_true rfl) ?_
  intro p e s m below meth c ls Q hx hb hml hown hts hk hnm hI hl hret
  refine lv_dload_n hx hb dX1_judge_0 rfl (lv_at hl 1 rfl) ?_
  refine lv_ldc2d (v := 4611686018427387904) hx hb hown (hts _ (hw_win (w := .constantDouble RX1 31 4611686018427387904) (by decide +kernel) (by decide +kernel))) dX1_judge_1 ?_
  refine lv_dcmp hx hb dX1_judge_4 ?_
  refine lv_if_ge (tgt := 21) hx hb dX1_judge_5 (by decide) (fun c5 => ?_) (fun c5 => ?_)
  · refine lv_dload_n hx hb dX1_judge_21 rfl (lv_at hl 1 rfl) ?_
    refine lv_ldc2d (v := 4618441417868443648) hx hb hown (hts _ (hw_win (w := .constantDouble RX1 37 4618441417868443648) (by decide +kernel) (by decide +kernel))) dX1_judge_22 ?_
    refine lv_dcmp hx hb dX1_judge_25 ?_
    refine lv_if_le (tgt := 39) hx hb dX1_judge_26 (by decide) (fun c26 => ?_) (fun c26 => ?_)
    · exact hret hI (by rw [show hb_lack d = false from decide_eq_false (hc_lt.mp c5), show hb_hole d = false by unfold hb_hole; rw [show decide (FP.dcmp d 4618441417868443648 = some .gt) = false from decide_eq_false (hc_gt.mp c26)]; exact Bool.and_false _]; show va_up M a (hw_ob 2 [.ref wa, .int (lk + nI 0), .int (ho + nI 0)]) = _; rw [hb_add0, hb_add0]; exact (hw_id h0 rfl).symm) (Nat.le_of_ble_eq_true rfl) (Nat.le_of_ble_eq_true rfl) dX1_judge_39
    · refine lv_aload_n hx hb dX1_judge_29 rfl (lv_at hl 0 rfl) ?_
      refine lv_dup hx hb dX1_judge_30 rfl ?_
      refine hw_get hx hb hts hown hk hI fd_X1_39 h0 rfl dX1_judge_31 ?_
      refine lv_iconst (v := nI 1) hx hb dX1_judge_34 (by decide) ?_
      refine lv_iadd hx hb dX1_judge_35 ?_
      refine hw_put (fs' := [.ref wa, .int lk, .int (ho + (nI 1))]) hx hb hts hown hk hI fp_X1_39 h0 (Nat.le_of_ble_eq_true rfl) rfl rfl rfl dX1_judge_36 (fun H locs hI => ?_)
      exact hret hI (by rw [show hb_lack d = false from decide_eq_false (hc_lt.mp c5), show hb_hole d = true by unfold hb_hole; rw [show hb_lack d = false from decide_eq_false (hc_lt.mp c5), show decide (FP.dcmp d 4618441417868443648 = some .gt) = true from decide_eq_true (Decidable.byContradiction (fun q => c26 (hc_gt.mpr q)))]; rfl]; show va_up M a (hw_ob 2 [.ref wa, .int (lk + nI 0), .int (ho + nI 1)]) = _; rw [hb_add0]) (Nat.le_of_ble_eq_true rfl) (Nat.le_of_ble_eq_true rfl) dX1_judge_39
  · refine lv_aload_n hx hb dX1_judge_8 rfl (lv_at hl 0 rfl) ?_
    refine lv_dup hx hb dX1_judge_9 rfl ?_
    refine hw_get hx hb hts hown hk hI fd_X1_33 h0 rfl dX1_judge_10 ?_
    refine lv_iconst (v := nI 1) hx hb dX1_judge_13 (by decide) ?_
    refine lv_iadd hx hb dX1_judge_14 ?_
    refine hw_put (fs' := [.ref wa, .int (lk + (nI 1)), .int ho]) hx hb hts hown hk hI fp_X1_33 h0 (Nat.le_of_ble_eq_true rfl) rfl rfl rfl dX1_judge_15 (fun H locs hI => ?_)
    refine lv_goto (tgt := 39) hx hb dX1_judge_18 (by decide) ?_
    exact hret hI (by rw [show hb_hole d = false by unfold hb_hole; rw [show hb_lack d = true from decide_eq_true (Decidable.byContradiction (fun q => c5 (hc_lt.mpr q)))]; rfl, show hb_lack d = true from decide_eq_true (Decidable.byContradiction (fun q => c5 (hc_lt.mpr q)))]; show va_up M a (hw_ob 2 [.ref wa, .int (lk + nI 1), .int (ho + nI 0)]) = _; rw [hb_add0]) (Nat.le_of_ble_eq_true rfl) (Nat.le_of_ble_eq_true rfl) dX1_judge_39

set_option maxHeartbeats 4000000 in
set_option maxRecDepth 100000 in
theorem m_X1_shine (l : Launch) (Z : hw_Z) (M : hw_M) (a : Nat) (wa : Nat) (lk : Int32) (ho : Int32) (Wm : Nat → UInt64) (C : Int64) (Hg : Int64) (en : UInt64) (h0 : M a = hw_ob 2 [.ref wa, .int lk, .int ho]) (h1 : M wa = hw_ad Z 64 Wm) (n0 : a ≠ wa) (hW : ∀ p, hb_pz (Wm p)) (hen : hb_pz en) : Met l yX1_shine (hw_m yX1_shine cX1_shine 14 none) ({ frames := 1, cells := 0, slots := 0, locals := 22 } : Room) (va_Pc [.ref a, .long C, .long Hg, .double en] (hw_P Z M)) (hw_Qv Z (fun M' => va_up (va_up M a (hw_ob 2 [.ref wa, .int (lk + nI (hb_ct (hb_lp C Hg en Wm) 64)), .int (ho + nI (hb_ct (hb_hp C Hg en Wm) 64))])) wa (hw_ad Z 64 (hb_wf C en Wm)) = M')) 0 0 (hw_A Z) := by
  refine hw_ofv (by decide +kernel) rfl (Nat.le_of_ble_eq_true rfl) ?_
  intro p e s m below meth c ls Q hx hb hml hown hts hk hnm hI hl hret
  refine lv_iconst (v := nI 0) hx hb dX1_shine_0 (by decide) ?_
  refine lv_istore (lv' := [(7, .int (nI 0)), (0, .ref a), (1, .long C), (3, .long Hg), (5, .double en)]) hx hb dX1_shine_1 hl (by decide) rfl (fun ls hl => ?_)
  suffices LP3 : ∀ i, i ≤ 64 → ∀ (H : Heap) (locs : List Loc) (ls : Array Slot), hw_iv Z s (va_up (va_up M a (hw_ob 2 [.ref wa, .int (lk + nI (hb_ct (hb_lp C Hg en Wm) i)), .int (ho + nI (hb_ct (hb_hp C Hg en Wm) i))])) wa (hw_ad Z 64 (hb_mix (hb_wf C en Wm) Wm i))) H locs → lv_has ls 14 [(7, .int (nI i)), (0, .ref a), (1, .long C), (3, .long Hg), (5, .double en)] → W p l e ({ frames := 1, cells := 0, slots := 0, locals := 22 } : Room) s m ([.ref a, .long C, .long Hg, .double en] : List Value).toArray below meth c H locs 0 0 Q (F0 m 3 ls []) from LP3 0 (by omega) _ _ _ (hI.eq (hb_sh0 h0 h1)) (lv_sub hl [0, 1, 2, 3, 4] rfl)
  refine hw_loop ?_ (fun i hi3 ih3 => ?_)
  · intro H locs ls hI hl
    refine lv_iload hx hb dX1_shine_3 (lv_at hl 0 rfl) ?_
    refine lv_bipush (v := nI 64) hx hb dX1_shine_5 (by decide) ?_
    refine lv_icmp_ge (tgt := 108) hx hb dX1_shine_7 (by decide) (fun _ => ?_) (fun hc => absurd (Int32.le_refl _) hc)
    have hI := (hI.exd (a := wa) (hb_wf C en Wm) (hw_us _ _ _) (fun j hj => hb_mix_lt hj)).eq hb_up2
    exact hret hI rfl (Nat.le_of_ble_eq_true rfl) (Nat.le_of_ble_eq_true rfl) dX1_shine_108
  · intro H locs ls hI hl
    refine lv_iload hx hb dX1_shine_3 (lv_at hl 0 rfl) ?_
    refine lv_bipush (v := nI 64) hx hb dX1_shine_5 (by decide) ?_
    refine lv_icmp_ge (tgt := 108) hx hb dX1_shine_7 (by decide) (fun hc => absurd hc (nI_ge hi3 (by decide))) (fun _ => ?_)
    refine lv_lconst (v := 1) hx hb dX1_shine_10 (by decide) ?_
    refine lv_iload hx hb dX1_shine_11 (lv_at hl 0 rfl) ?_
    refine lv_lshl (v := hb_shl 1 (nI i)) hx hb dX1_shine_13 rfl ?_
    refine lv_lstore (lv' := [(8, .long (hb_shl 1 (nI i))), (7, .int (nI i)), (0, .ref a), (1, .long C), (3, .long Hg), (5, .double en)]) hx hb dX1_shine_14 hl (by decide) rfl (fun ls hl => ?_)
    refine lv_aload_n hx hb dX1_shine_16 rfl (lv_at hl 2 rfl) ?_
    refine hw_get hx hb hts hown hk hI fd_X1_9 (hw_up (hw_us _ _ _) n0) rfl dX1_shine_17 ?_
    refine lv_iload hx hb dX1_shine_20 (lv_at hl 1 rfl) ?_
    refine hw_dald hx hb hk hI (hw_us _ _ _) (j := i) rfl (by omega) (by decide) dX1_shine_22 ?_
    refine hw_td (hb_mix_ge (Nat.le_refl _)) ?_
    refine lv_ldc2d (v := 4602678819172646912) hx hb hown (hts _ (hw_win (w := .constantDouble RX1 21 4602678819172646912) (by decide +kernel) (by decide +kernel))) dX1_shine_23 ?_
    refine lv_dmul hx hb dX1_shine_26 (hf_n (hf_mul (hW i) hf_half)) ?_
    refine lv_dstore (lv' := [(10, .double (FP.dmul (Wm i) 4602678819172646912)), (8, .long (hb_shl 1 (nI i))), (7, .int (nI i)), (0, .ref a), (1, .long C), (3, .long Hg), (5, .double en)]) hx hb dX1_shine_27 hl (by decide) rfl (fun ls hl => ?_)
    refine lv_lload_n hx hb dX1_shine_29 rfl (lv_at hl 4 rfl) ?_
    refine lv_lload hx hb dX1_shine_30 (lv_at hl 1 rfl) ?_
    refine lv_land hx hb dX1_shine_32 ?_
    refine lv_lconst (v := 0) hx hb dX1_shine_33 (by decide) ?_
    refine W.lcmp hx hb dX1_shine_34 ?_
    refine lv_if_ne (tgt := 50) hx hb dX1_shine_35 (by decide) (fun c35 => ?_) (fun c35 => ?_)
    · refine lv_aload_n hx hb dX1_shine_50 rfl (lv_at hl 3 rfl) ?_
      refine hw_get hx hb hts hown hk hI fd_X1_9 (hw_up (hw_us _ _ _) n0) rfl dX1_shine_51 ?_
      refine lv_iload hx hb dX1_shine_54 (lv_at hl 2 rfl) ?_
      refine lv_dload hx hb dX1_shine_56 (lv_at hl 0 rfl) ?_
      refine lv_dload hx hb dX1_shine_58 (lv_at hl 6 rfl) ?_
      refine lv_ldc2d (v := 4598175219545276416) hx hb hown (hts _ (hw_win (w := .constantDouble RX1 23 4598175219545276416) (by decide +kernel) (by decide +kernel))) dX1_shine_60 ?_
      refine lv_dmul hx hb dX1_shine_63 (hf_n (hf_mul hen hf_quarter)) ?_
      refine lv_dadd hx hb dX1_shine_64 (hf_n (hf_add (hf_mul (hW i) hf_half) (hf_mul hen hf_quarter))) ?_
      refine hw_dast hx hb hk hI (hw_us _ _ _) (j := i) rfl (by omega) (by decide) dX1_shine_65 (fun H locs hI => ?_)
      have hw : FP.dadd (FP.dmul (Wm i) 4602678819172646912) (FP.dmul en 4598175219545276416) = hb_wf C en Wm i := by unfold hb_wf hb_w1; rw [hb_bit_t (by omega) c35]; rfl
      refine lv_dload hx hb dX1_shine_66 (lv_at hl 6 rfl) ?_
      refine lv_aload_n hx hb dX1_shine_68 rfl (lv_at hl 3 rfl) ?_
      refine hw_get hx hb hts hown hk hI fd_X1_9 (hw_up (hw_up (hw_us _ _ _) n0) n0) rfl dX1_shine_69 ?_
      refine lv_iload hx hb dX1_shine_72 (lv_at hl 2 rfl) ?_
      refine hw_dald hx hb hk hI (hw_us _ _ _) (j := i) rfl (by omega) (by decide) dX1_shine_74 ?_
      refine hw_td (va_up_self _ _ _) ?_
      refine lv_dadd hx hb dX1_shine_75 (hf_n (hf_add hen (hf_add (hf_mul (hW i) hf_half) (hf_mul hen hf_quarter)))) ?_
      refine lv_dstore (lv' := [(12, .double (FP.dadd en (FP.dadd (FP.dmul (Wm i) 4602678819172646912) (FP.dmul en 4598175219545276416)))), (10, .double (FP.dmul (Wm i) 4602678819172646912)), (8, .long (hb_shl 1 (nI i))), (7, .int (nI i)), (0, .ref a), (1, .long C), (3, .long Hg), (5, .double en)]) hx hb dX1_shine_76 hl (by decide) rfl (fun ls hl => ?_)
      refine lv_aload_n hx hb dX1_shine_78 rfl (lv_at hl 4 rfl) ?_
      refine lv_lload_n hx hb dX1_shine_79 rfl (lv_at hl 6 rfl) ?_
      refine lv_lload hx hb dX1_shine_80 (lv_at hl 2 rfl) ?_
      refine lv_land hx hb dX1_shine_82 ?_
      refine lv_lconst (v := 0) hx hb dX1_shine_83 (by decide) ?_
      refine W.lcmp hx hb dX1_shine_84 ?_
      refine lv_if_ne (tgt := 93) hx hb dX1_shine_85 (by decide) (fun c85 => ?_) (fun c85 => ?_)
      · refine lv_dload hx hb dX1_shine_93 (lv_at hl 0 rfl) ?_
        refine lv_ldc2d (v := 4609434218613702656) hx hb hown (hts _ (hw_win (w := .constantDouble RX1 25 4609434218613702656) (by decide +kernel) (by decide +kernel))) dX1_shine_95 ?_
        refine lv_dmul hx hb dX1_shine_98 (hf_n (hf_mul (hf_add hen (hf_add (hf_mul (hW i) hf_half) (hf_mul hen hf_quarter))) hf_onehalf)) ?_
        refine hw_cv hI (hw_rV hx hb hml hown hts hk hI (m_X1_judge l Z (va_up (va_up (va_up M a (hw_ob 2 [.ref wa, .int (lk + nI (hb_ct (hb_lp C Hg en Wm) i)), .int (ho + nI (hb_ct (hb_hp C Hg en Wm) i))])) wa (hw_ad Z 64 (hb_mix (hb_wf C en Wm) Wm i))) wa (hw_ad Z 64 (va_up (hb_mix (hb_wf C en Wm) Wm i) i (FP.dadd (FP.dmul (Wm i) 4602678819172646912) (FP.dmul en 4598175219545276416))))) a wa (lk + nI (hb_ct (hb_lp C Hg en Wm) i)) (ho + nI (hb_ct (hb_hp C Hg en Wm) i)) (FP.dmul (FP.dadd en (FP.dadd (FP.dmul (Wm i) 4602678819172646912) (FP.dmul en 4598175219545276416))) 4609434218613702656) (hw_up (hw_up (hw_us _ _ _) n0) n0)) cv_X1_27 (hw_up (hw_up (hw_us _ _ _) n0) n0) rfl rfl ⟨rfl, rfl⟩ ⟨(Nat.le_of_ble_eq_true rfl), (Nat.le_of_ble_eq_true rfl)⟩ rfl hl.1 rfl (Nat.le_of_ble_eq_true rfl) ⟨(Nat.le_of_ble_eq_true rfl), (Nat.le_of_ble_eq_true rfl)⟩ dX1_shine_99) (fun M99 H locs hR hI => ?_)
        subst hR
        refine lv_iinc (v := nI (i + 1)) (lv' := [(7, .int (nI (i + 1))), (12, .double (FP.dadd en (FP.dadd (FP.dmul (Wm i) 4602678819172646912) (FP.dmul en 4598175219545276416)))), (10, .double (FP.dmul (Wm i) 4602678819172646912)), (8, .long (hb_shl 1 (nI i))), (0, .ref a), (1, .long C), (3, .long Hg), (5, .double en)]) hx hb dX1_shine_102 hl (k := 3) rfl (hw_inc _) (by decide) rfl (fun ls hl => ?_)
        refine lv_goto (tgt := 3) hx hb dX1_shine_105 (by decide) ?_
        exact ih3 _ _ _ (hI.eq (by rw [hb_up3 n0, hb_mix_s hw, ← hb_lkT lk (hb_lp C Hg en Wm) i, ← hb_lkT ho (hb_hp C Hg en Wm) i, show hb_lp C Hg en Wm i = hb_lack (hb_dep en (hb_bit Hg i) (hb_wf C en Wm i)) by unfold hb_lp; rw [hb_bit_t (by omega) c35]; rfl, show hb_hp C Hg en Wm i = hb_hole (hb_dep en (hb_bit Hg i) (hb_wf C en Wm i)) by unfold hb_hp; rw [hb_bit_t (by omega) c35]; rfl, show hb_bit Hg i = _ from hb_bit_t (by omega) c85, ← hw]; rfl)) (lv_sub hl [0, 4, 5, 6, 7] rfl)
      · refine lv_dload hx hb dX1_shine_88 (lv_at hl 0 rfl) ?_
        refine lv_goto (tgt := 99) hx hb dX1_shine_90 (by decide) ?_
        refine hw_cv hI (hw_rV hx hb hml hown hts hk hI (m_X1_judge l Z (va_up (va_up (va_up M a (hw_ob 2 [.ref wa, .int (lk + nI (hb_ct (hb_lp C Hg en Wm) i)), .int (ho + nI (hb_ct (hb_hp C Hg en Wm) i))])) wa (hw_ad Z 64 (hb_mix (hb_wf C en Wm) Wm i))) wa (hw_ad Z 64 (va_up (hb_mix (hb_wf C en Wm) Wm i) i (FP.dadd (FP.dmul (Wm i) 4602678819172646912) (FP.dmul en 4598175219545276416))))) a wa (lk + nI (hb_ct (hb_lp C Hg en Wm) i)) (ho + nI (hb_ct (hb_hp C Hg en Wm) i)) (FP.dadd en (FP.dadd (FP.dmul (Wm i) 4602678819172646912) (FP.dmul en 4598175219545276416))) (hw_up (hw_up (hw_us _ _ _) n0) n0)) cv_X1_27 (hw_up (hw_up (hw_us _ _ _) n0) n0) rfl rfl ⟨rfl, rfl⟩ ⟨(Nat.le_of_ble_eq_true rfl), (Nat.le_of_ble_eq_true rfl)⟩ rfl hl.1 rfl (Nat.le_of_ble_eq_true rfl) ⟨(Nat.le_of_ble_eq_true rfl), (Nat.le_of_ble_eq_true rfl)⟩ dX1_shine_99) (fun M99 H locs hR hI => ?_)
        subst hR
        refine lv_iinc (v := nI (i + 1)) (lv' := [(7, .int (nI (i + 1))), (12, .double (FP.dadd en (FP.dadd (FP.dmul (Wm i) 4602678819172646912) (FP.dmul en 4598175219545276416)))), (10, .double (FP.dmul (Wm i) 4602678819172646912)), (8, .long (hb_shl 1 (nI i))), (0, .ref a), (1, .long C), (3, .long Hg), (5, .double en)]) hx hb dX1_shine_102 hl (k := 3) rfl (hw_inc _) (by decide) rfl (fun ls hl => ?_)
        refine lv_goto (tgt := 3) hx hb dX1_shine_105 (by decide) ?_
        exact ih3 _ _ _ (hI.eq (by rw [hb_up3 n0, hb_mix_s hw, ← hb_lkT lk (hb_lp C Hg en Wm) i, ← hb_lkT ho (hb_hp C Hg en Wm) i, show hb_lp C Hg en Wm i = hb_lack (hb_dep en (hb_bit Hg i) (hb_wf C en Wm i)) by unfold hb_lp; rw [hb_bit_t (by omega) c35]; rfl, show hb_hp C Hg en Wm i = hb_hole (hb_dep en (hb_bit Hg i) (hb_wf C en Wm i)) by unfold hb_hp; rw [hb_bit_t (by omega) c35]; rfl, show hb_bit Hg i = _ from hb_bit_f (by omega) c85, ← hw]; rfl)) (lv_sub hl [0, 4, 5, 6, 7] rfl)
    · refine lv_aload_n hx hb dX1_shine_38 rfl (lv_at hl 3 rfl) ?_
      refine hw_get hx hb hts hown hk hI fd_X1_9 (hw_up (hw_us _ _ _) n0) rfl dX1_shine_39 ?_
      refine lv_iload hx hb dX1_shine_42 (lv_at hl 2 rfl) ?_
      refine lv_dload hx hb dX1_shine_44 (lv_at hl 0 rfl) ?_
      refine hw_dast hx hb hk hI (hw_us _ _ _) (j := i) rfl (by omega) (by decide) dX1_shine_46 (fun H locs hI => ?_)
      refine lv_goto (tgt := 102) hx hb dX1_shine_47 (by decide) ?_
      refine lv_iinc (v := nI (i + 1)) (lv' := [(7, .int (nI (i + 1))), (10, .double (FP.dmul (Wm i) 4602678819172646912)), (8, .long (hb_shl 1 (nI i))), (0, .ref a), (1, .long C), (3, .long Hg), (5, .double en)]) hx hb dX1_shine_102 hl (k := 2) rfl (hw_inc _) (by decide) rfl (fun ls hl => ?_)
      refine lv_goto (tgt := 3) hx hb dX1_shine_105 (by decide) ?_
      exact ih3 _ _ _ (hI.eq (by rw [hb_up2, ← hb_lk0 lk (hb_lp C Hg en Wm) i (by unfold hb_lp; rw [hb_bit_f (by omega) c35]; rfl), ← hb_lk0 ho (hb_hp C Hg en Wm) i (by unfold hb_hp; rw [hb_bit_f (by omega) c35]; rfl), hb_mix_s (show _ = hb_wf C en Wm i by unfold hb_wf hb_w1; rw [hb_bit_f (by omega) c35]; rfl)])) (lv_sub hl [0, 3, 4, 5, 6] rfl)

set_option maxHeartbeats 4000000 in
set_option maxRecDepth 100000 in
theorem m_X3_takeIn (l : Launch) (Z : hw_Z) (M : hw_M) (a : Nat) (b : Nat) (x1 : Int32) (x2 : Int32) (x3 : Int32) (x4 : Int32) (x5 : Int32) (x6 : Int32) (y1 : Int32) (y2 : Int32) (y3 : Int32) (y4 : Int32) (y5 : Int32) (y6 : Int32) (h0 : M a = hw_ob 4 [.int x1, .int x2, .int x3, .int x4, .int x5, .int x6]) (h1 : M b = hw_ob 4 [.int y1, .int y2, .int y3, .int y4, .int y5, .int y6]) (n0 : a ≠ b) : Met l yX3_takeIn (hw_m yX3_takeIn cX3_takeIn 2 none) ({ frames := 1, cells := 0, slots := 0, locals := 21 } : Room) (va_Pc [.ref a, .ref b] (hw_P Z M)) (hw_Qv Z (fun M' => va_up (va_up M a (hw_ob 4 [.int x1, .int x2, .int (x3 + y3), .int (hb_max x4 y4), .int (x5 ||| y5), .int x6])) b (hw_ob 4 [.int y1, .int y2, .int (nI 0), .int y4, .int y5, .int y6]) = M')) 0 0 (hw_A Z) := by
  refine hw_ofv (by decide +kernel) rfl (Nat.le_of_ble_eq_true rfl) ?_
  intro p e s m below meth c ls Q hx hb hml hown hts hk hnm hI hl hret
  refine lv_aload_n hx hb dX3_takeIn_0 rfl (lv_at hl 0 rfl) ?_
  refine lv_dup hx hb dX3_takeIn_1 rfl ?_
  refine hw_get hx hb hts hown hk hI fd_X3_21 h0 rfl dX3_takeIn_2 ?_
  refine lv_aload_n hx hb dX3_takeIn_5 rfl (lv_at hl 1 rfl) ?_
  refine hw_get hx hb hts hown hk hI fd_X3_21 h1 rfl dX3_takeIn_6 ?_
  refine lv_iadd hx hb dX3_takeIn_9 ?_
  refine hw_put (fs' := [.int x1, .int x2, .int (x3 + y3), .int x4, .int x5, .int x6]) hx hb hts hown hk hI fp_X3_21 h0 (Nat.le_of_ble_eq_true rfl) rfl rfl rfl dX3_takeIn_10 (fun H locs hI => ?_)
  refine lv_aload_n hx hb dX3_takeIn_13 rfl (lv_at hl 1 rfl) ?_
  refine lv_iconst (v := nI 0) hx hb dX3_takeIn_14 (by decide) ?_
  refine hw_put (fs' := [.int y1, .int y2, .int (nI 0), .int y4, .int y5, .int y6]) hx hb hts hown hk hI fp_X3_21 (hw_up h1 (Ne.symm n0)) (Nat.le_of_ble_eq_true rfl) rfl rfl rfl dX3_takeIn_15 (fun H locs hI => ?_)
  refine lv_aload_n hx hb dX3_takeIn_18 rfl (lv_at hl 0 rfl) ?_
  refine lv_aload_n hx hb dX3_takeIn_19 rfl (lv_at hl 0 rfl) ?_
  refine hw_get hx hb hts hown hk hI fd_X3_24 (hw_up (hw_us _ _ _) n0) rfl dX3_takeIn_20 ?_
  refine lv_aload_n hx hb dX3_takeIn_23 rfl (lv_at hl 1 rfl) ?_
  refine hw_get hx hb hts hown hk hI fd_X3_24 (hw_us _ _ _) rfl dX3_takeIn_24 ?_
  refine va_mmax hx hb (by rw [hml]; exact hl.1.symm) hown (hts _ (hw_win (w := .methodLink RX3 27 Lib.Math.max.name) (by decide +kernel) (by decide +kernel))) (hts _ (hw_win (w := .static Lib.Math.max.name) (by decide +kernel) (by decide +kernel))) (hts _ (hw_win (w := .initialized "java/lang/Math") (by decide +kernel) (by decide +kernel))) (hts _ (hw_win (w := .code Lib.Math.max.name Lib.Math.max.code 2 (some .int)) (by decide +kernel) (by decide +kernel))) (Nat.le_of_ble_eq_true rfl) (Nat.le_of_ble_eq_true rfl) (Nat.le_of_ble_eq_true rfl) (Nat.le_of_ble_eq_true rfl) dX3_takeIn_27 ?_
  refine hw_ti (y := hb_max x4 y4) rfl ?_
  refine hw_put (fs' := [.int x1, .int x2, .int (x3 + y3), .int (hb_max x4 y4), .int x5, .int x6]) hx hb hts hown hk hI fp_X3_24 (hw_up (hw_us _ _ _) n0) (Nat.le_of_ble_eq_true rfl) rfl rfl rfl dX3_takeIn_30 (fun H locs hI => ?_)
  refine lv_aload_n hx hb dX3_takeIn_33 rfl (lv_at hl 0 rfl) ?_
  refine lv_dup hx hb dX3_takeIn_34 rfl ?_
  refine hw_get hx hb hts hown hk hI fd_X3_18 (hw_us _ _ _) rfl dX3_takeIn_35 ?_
  refine lv_aload_n hx hb dX3_takeIn_38 rfl (lv_at hl 1 rfl) ?_
  refine hw_get hx hb hts hown hk hI fd_X3_18 (hw_up (hw_us _ _ _) (Ne.symm n0)) rfl dX3_takeIn_39 ?_
  refine lv_ior hx hb dX3_takeIn_42 ?_
  refine hw_put (fs' := [.int x1, .int x2, .int (x3 + y3), .int (hb_max x4 y4), .int (x5 ||| y5), .int x6]) hx hb hts hown hk hI fp_X3_18 (hw_us _ _ _) (Nat.le_of_ble_eq_true rfl) rfl rfl rfl dX3_takeIn_43 (fun H locs hI => ?_)
  exact hret hI (hb_two n0 (by simp [va_up, n0]) (by simp [va_up, Ne.symm n0]) (by intro k h1 h2; simp [va_up, h1, h2])) (Nat.le_of_ble_eq_true rfl) (Nat.le_of_ble_eq_true rfl) dX3_takeIn_46

set_option maxHeartbeats 4000000 in
set_option maxRecDepth 100000 in
theorem m_X0_putIn (l : Launch) (Z : hw_Z) (M : hw_M) (a : Nat) (b : Nat) (pa : Nat) (z1 : Int32) (z2 : Int32) (z3 : Int32) (z4 : Int32) (x1 : Int32) (x2 : Int32) (x3 : Int32) (x4 : Int32) (x5 : Int32) (x6 : Int32) (gv : Value) (h0 : M a = hw_ob 1 [.int z1, .int z2, .null, .int z3, gv, .ref pa, .int z4]) (h1 : M b = hw_ob 4 [.int x1, .int x2, .int x3, .int x4, .int x5, .int x6]) : Met l yX0_putIn (hw_m yX0_putIn cX0_putIn 2 none) ({ frames := 0, cells := 0, slots := 0, locals := 0 } : Room) (va_Pc [.ref a, .ref b] (hw_P Z M)) (hw_Qv Z (fun M' => va_up (va_up M a (hw_ob 1 [.int z1, .int x2, .ref b, .int x3, gv, .ref pa, .int z4])) b (hw_ob 4 [.int x1, .int x2, .int (nI 0), .int x4, .int x5, .int z1]) = M')) 0 0 (hw_A Z) := by
  refine hw_ofv (by decide +kernel) rfl (Nat.le_of_ble_eq_true rfl) ?_
  intro p e s m below meth c ls Q hx hb hml hown hts hk hnm hI hl hret
  refine lv_aload_n hx hb dX0_putIn_0 rfl (lv_at hl 0 rfl) ?_
  refine lv_aload_n hx hb dX0_putIn_1 rfl (lv_at hl 1 rfl) ?_
  refine hw_put (fs' := [.int z1, .int z2, .ref b, .int z3, gv, .ref pa, .int z4]) hx hb hts hown hk hI fp_X0_22 h0 (Nat.le_of_ble_eq_true rfl) rfl rfl rfl dX0_putIn_2 (fun H locs hI => ?_)
  refine lv_aload_n hx hb dX0_putIn_5 rfl (lv_at hl 0 rfl) ?_
  refine lv_aload_n hx hb dX0_putIn_6 rfl (lv_at hl 1 rfl) ?_
  refine hw_get hx hb hts hown hk hI fd_X0_26 (hw_up h1 (hw_noo h1 h0 (by decide))) rfl dX0_putIn_7 ?_
  refine hw_put (fs' := [.int z1, .int z2, .ref b, .int x3, gv, .ref pa, .int z4]) hx hb hts hown hk hI fp_X0_31 (hw_us _ _ _) (Nat.le_of_ble_eq_true rfl) rfl rfl rfl dX0_putIn_10 (fun H locs hI => ?_)
  refine lv_aload_n hx hb dX0_putIn_13 rfl (lv_at hl 1 rfl) ?_
  refine lv_iconst (v := nI 0) hx hb dX0_putIn_14 (by decide) ?_
  refine hw_put (fs' := [.int x1, .int x2, .int (nI 0), .int x4, .int x5, .int x6]) hx hb hts hown hk hI fp_X0_26 (hw_up (hw_up h1 (hw_noo h1 h0 (by decide))) (hw_noo h1 h0 (by decide))) (Nat.le_of_ble_eq_true rfl) rfl rfl rfl dX0_putIn_15 (fun H locs hI => ?_)
  refine lv_aload_n hx hb dX0_putIn_18 rfl (lv_at hl 1 rfl) ?_
  refine lv_aload_n hx hb dX0_putIn_19 rfl (lv_at hl 0 rfl) ?_
  refine hw_get hx hb hts hown hk hI fd_X0_19 (hw_up (hw_us _ _ _) (hw_noo h0 h1 (by decide))) rfl dX0_putIn_20 ?_
  refine hw_put (fs' := [.int x1, .int x2, .int (nI 0), .int x4, .int x5, .int z1]) hx hb hts hown hk hI fp_X0_34 (hw_us _ _ _) (Nat.le_of_ble_eq_true rfl) rfl rfl rfl dX0_putIn_23 (fun H locs hI => ?_)
  refine lv_aload_n hx hb dX0_putIn_26 rfl (lv_at hl 0 rfl) ?_
  refine lv_aload_n hx hb dX0_putIn_27 rfl (lv_at hl 1 rfl) ?_
  refine hw_get hx hb hts hown hk hI fd_X0_37 (hw_us _ _ _) rfl dX0_putIn_28 ?_
  refine hw_put (fs' := [.int z1, .int x2, .ref b, .int x3, gv, .ref pa, .int z4]) hx hb hts hown hk hI fp_X0_9 (hw_up (hw_up (hw_us _ _ _) (hw_noo h0 h1 (by decide))) (hw_noo h0 h1 (by decide))) (Nat.le_of_ble_eq_true rfl) rfl rfl rfl dX0_putIn_31 (fun H locs hI => ?_)
  exact hret hI (hb_two (hw_noo h0 h1 (by decide)) (by simp [va_up, (hw_noo h0 h1 (by decide))]) (by simp [va_up, Ne.symm (hw_noo h0 h1 (by decide))]) (by intro k h1 h2; simp [va_up, h1, h2])) (Nat.le_of_ble_eq_true rfl) (Nat.le_of_ble_eq_true rfl) dX0_putIn_34

set_option maxHeartbeats 4000000 in
set_option maxRecDepth 100000 in
theorem m_X0_giveBack_n (l : Launch) (Z : hw_Z) (M : hw_M) (a : Nat) (pa : Nat) (z1 : Int32) (z2 : Int32) (z3 : Int32) (z4 : Int32) (k : Int32) (gv : Value) (h0 : M a = hw_ob 1 [.int z1, .int z2, .null, .int z3, gv, .ref pa, .int z4]) : Met l yX0_giveBack (hw_m yX0_giveBack cX0_giveBack 2 none) ({ frames := 0, cells := 0, slots := 0, locals := 0 } : Room) (va_Pc [.ref a, .int k] (hw_P Z M)) (hw_Qv Z (fun M' => M = M')) 0 0 (hw_A Z) := by
  refine hw_ofv (by decide +kernel) rfl (Nat.le_of_ble_eq_true rfl) ?_
  intro p e s m below meth c ls Q hx hb hml hown hts hk hnm hI hl hret
  refine lv_aload_n hx hb dX0_giveBack_0 rfl (lv_at hl 0 rfl) ?_
  refine hw_get hx hb hts hown hk hI fd_X0_22 h0 rfl dX0_giveBack_1 ?_
  refine lv_ifnullN (tgt := 51) hx hb dX0_giveBack_4 (by decide) ?_
  exact hret hI rfl (Nat.le_of_ble_eq_true rfl) (Nat.le_of_ble_eq_true rfl) dX0_giveBack_51

set_option maxHeartbeats 4000000 in
set_option maxRecDepth 100000 in
theorem m_X0_giveBack_s (l : Launch) (Z : hw_Z) (M : hw_M) (a : Nat) (b : Nat) (pa : Nat) (z1 : Int32) (z2 : Int32) (z3 : Int32) (z4 : Int32) (x1 : Int32) (x2 : Int32) (x3 : Int32) (x4 : Int32) (x5 : Int32) (x6 : Int32) (k : Int32) (gv : Value) (h0 : M a = hw_ob 1 [.int z1, .int z2, .ref b, .int z3, gv, .ref pa, .int z4]) (h1 : M b = hw_ob 4 [.int x1, .int x2, .int x3, .int x4, .int x5, .int x6]) : Met l yX0_giveBack (hw_m yX0_giveBack cX0_giveBack 2 none) ({ frames := 0, cells := 0, slots := 0, locals := 0 } : Room) (va_Pc [.ref a, .int k] (hw_P Z M)) (hw_Qv Z (fun M' => va_up (va_up M a (hw_ob 1 [.int z1, .int z2, .null, .int (nI 0), gv, .ref pa, .int z4])) b (hw_ob 4 [.int x1, .int x2, .int (x3 + k), .int (x4 + nI 1), .int x5, .int (-1)]) = M')) 0 0 (hw_A Z) := by
  refine hw_ofv (by decide +kernel) rfl (Nat.le_of_ble_eq_true rfl) ?_
  intro p e s m below meth c ls Q hx hb hml hown hts hk hnm hI hl hret
  refine lv_aload_n hx hb dX0_giveBack_0 rfl (lv_at hl 0 rfl) ?_
  refine hw_get hx hb hts hown hk hI fd_X0_22 h0 rfl dX0_giveBack_1 ?_
  refine lv_ifnull hx hb dX0_giveBack_4 ?_
  refine lv_aload_n hx hb dX0_giveBack_7 rfl (lv_at hl 0 rfl) ?_
  refine hw_get hx hb hts hown hk hI fd_X0_22 h0 rfl dX0_giveBack_8 ?_
  refine lv_dup hx hb dX0_giveBack_11 rfl ?_
  refine hw_get hx hb hts hown hk hI fd_X0_26 h1 rfl dX0_giveBack_12 ?_
  refine lv_iload_n hx hb dX0_giveBack_15 rfl (lv_at hl 1 rfl) ?_
  refine lv_iadd hx hb dX0_giveBack_16 ?_
  refine hw_put (fs' := [.int x1, .int x2, .int (x3 + k), .int x4, .int x5, .int x6]) hx hb hts hown hk hI fp_X0_26 h1 (Nat.le_of_ble_eq_true rfl) rfl rfl rfl dX0_giveBack_17 (fun H locs hI => ?_)
  refine lv_aload_n hx hb dX0_giveBack_20 rfl (lv_at hl 0 rfl) ?_
  refine hw_get hx hb hts hown hk hI fd_X0_22 (hw_up h0 (hw_noo h0 h1 (by decide))) rfl dX0_giveBack_21 ?_
  refine lv_dup hx hb dX0_giveBack_24 rfl ?_
  refine hw_get hx hb hts hown hk hI fd_X0_40 (hw_us _ _ _) rfl dX0_giveBack_25 ?_
  refine lv_iconst (v := nI 1) hx hb dX0_giveBack_28 (by decide) ?_
  refine lv_iadd hx hb dX0_giveBack_29 ?_
  refine hw_put (fs' := [.int x1, .int x2, .int (x3 + k), .int (x4 + (nI 1)), .int x5, .int x6]) hx hb hts hown hk hI fp_X0_40 (hw_us _ _ _) (Nat.le_of_ble_eq_true rfl) rfl rfl rfl dX0_giveBack_30 (fun H locs hI => ?_)
  refine lv_aload_n hx hb dX0_giveBack_33 rfl (lv_at hl 0 rfl) ?_
  refine hw_get hx hb hts hown hk hI fd_X0_22 (hw_up (hw_up h0 (hw_noo h0 h1 (by decide))) (hw_noo h0 h1 (by decide))) rfl dX0_giveBack_34 ?_
  refine lv_iconst (v := (-1)) hx hb dX0_giveBack_37 (by decide) ?_
  refine hw_put (fs' := [.int x1, .int x2, .int (x3 + k), .int (x4 + (nI 1)), .int x5, .int (-1)]) hx hb hts hown hk hI fp_X0_34 (hw_us _ _ _) (Nat.le_of_ble_eq_true rfl) rfl rfl rfl dX0_giveBack_38 (fun H locs hI => ?_)
  refine lv_aload_n hx hb dX0_giveBack_41 rfl (lv_at hl 0 rfl) ?_
  refine lv_null hx hb dX0_giveBack_42 ?_
  refine hw_put (fs' := [.int z1, .int z2, .null, .int z3, gv, .ref pa, .int z4]) hx hb hts hown hk hI fp_X0_22 (hw_up (hw_up (hw_up h0 (hw_noo h0 h1 (by decide))) (hw_noo h0 h1 (by decide))) (hw_noo h0 h1 (by decide))) (Nat.le_of_ble_eq_true rfl) rfl rfl rfl dX0_giveBack_43 (fun H locs hI => ?_)
  refine lv_aload_n hx hb dX0_giveBack_46 rfl (lv_at hl 0 rfl) ?_
  refine lv_iconst (v := nI 0) hx hb dX0_giveBack_47 (by decide) ?_
  refine hw_put (fs' := [.int z1, .int z2, .null, .int (nI 0), gv, .ref pa, .int z4]) hx hb hts hown hk hI fp_X0_31 (hw_us _ _ _) (Nat.le_of_ble_eq_true rfl) rfl rfl rfl dX0_giveBack_48 (fun H locs hI => ?_)
  exact hret hI (hb_two (hw_noo h0 h1 (by decide)) (by simp [va_up, (hw_noo h0 h1 (by decide))]) (by simp [va_up, Ne.symm (hw_noo h0 h1 (by decide))]) (by intro k h1 h2; simp [va_up, h1, h2])) (Nat.le_of_ble_eq_true rfl) (Nat.le_of_ble_eq_true rfl) dX0_giveBack_51
