theorem th_X5_50_160_54 : hw_TH RX5 50 160 54 "java/lang/IllegalStateException" "no powder is in the machine" := ⟨by decide +kernel, (hw_win (w := .classLink RX5 50 "java/lang/IllegalStateException") (by decide +kernel) (by decide +kernel)), (hw_win (w := .initialized "java/lang/IllegalStateException") (by decide +kernel) (by decide +kernel)), by decide +kernel, (fun w h => hw_win ((by decide +kernel : ∀ w ∈ (vx_atS RX5 54 "java/lang/IllegalStateException" ["java/lang/RuntimeException", "java/lang/Exception"]).filter goodWord, w ∈ lw_tbl) w h) ((List.mem_filter.mp h).2)), by decide +kernel, by decide +kernel, by decide +kernel⟩
theorem cb_X0_giveBack (own : String) (index : Nat) : hw_CB own index yX0_giveBack cX0_giveBack 2 none 1 := ⟨⟨by decide +kernel, by decide +kernel, by decide +kernel⟩, (hw_win (w := .code yX0_giveBack cX0_giveBack 2 none) (by decide +kernel) (by decide +kernel)), (hw_win (w := .initialized yX0_giveBack.cls) (by decide +kernel) (by decide +kernel))⟩
theorem cv_X5_168 : hw_CV RX5 168 yX0_giveBack cX0_giveBack 2 none 1 := ⟨cb_X0_giveBack _ _, (hw_win (w := .methodLink RX5 168 yX0_giveBack) (by decide +kernel) (by decide +kernel)), (hw_win (w := .instanceMethod yX0_giveBack) (by decide +kernel) (by decide +kernel)), (hw_win (w := .selects yX0_giveBack.cls yX0_giveBack yX0_giveBack) (by decide +kernel) (by decide +kernel))⟩
theorem th_X5_50_166_54 : hw_TH RX5 50 166 54 "java/lang/IllegalStateException" "a piece is growing in the machine" := ⟨by decide +kernel, (hw_win (w := .classLink RX5 50 "java/lang/IllegalStateException") (by decide +kernel) (by decide +kernel)), (hw_win (w := .initialized "java/lang/IllegalStateException") (by decide +kernel) (by decide +kernel)), by decide +kernel, (fun w h => hw_win ((by decide +kernel : ∀ w ∈ (vx_atS RX5 54 "java/lang/IllegalStateException" ["java/lang/RuntimeException", "java/lang/Exception"]).filter goodWord, w ∈ lw_tbl) w h) ((List.mem_filter.mp h).2)), by decide +kernel, by decide +kernel, by decide +kernel⟩
theorem cb_X5_checkPower (own : String) (index : Nat) : hw_CB own index yX5_checkPower cX5_checkPower 1 none 1 := ⟨⟨by decide +kernel, by decide +kernel, by decide +kernel⟩, (hw_win (w := .code yX5_checkPower cX5_checkPower 1 none) (by decide +kernel) (by decide +kernel)), (hw_win (w := .initialized yX5_checkPower.cls) (by decide +kernel) (by decide +kernel))⟩
theorem cs_X5_177 : hw_CS RX5 177 yX5_checkPower cX5_checkPower 1 none 1 := ⟨cb_X5_checkPower _ _, (hw_win (w := .methodLink RX5 177 yX5_checkPower) (by decide +kernel) (by decide +kernel)), (hw_win (w := .static yX5_checkPower) (by decide +kernel) (by decide +kernel))⟩
theorem th_X5_96_180_100 : hw_TH RX5 96 180 100 "java/lang/IllegalArgumentException" "speed is not 1 to 20" := ⟨by decide +kernel, (hw_win (w := .classLink RX5 96 "java/lang/IllegalArgumentException") (by decide +kernel) (by decide +kernel)), (hw_win (w := .initialized "java/lang/IllegalArgumentException") (by decide +kernel) (by decide +kernel)), by decide +kernel, (fun w h => hw_win ((by decide +kernel : ∀ w ∈ (vx_atS RX5 100 "java/lang/IllegalArgumentException" ["java/lang/RuntimeException", "java/lang/Exception"]).filter goodWord, w ∈ lw_tbl) w h) ((List.mem_filter.mp h).2)), by decide +kernel, by decide +kernel, by decide +kernel⟩
theorem th_X5_50_182_54 : hw_TH RX5 50 182 54 "java/lang/IllegalStateException" "the piece has no cells" := ⟨by decide +kernel, (hw_win (w := .classLink RX5 50 "java/lang/IllegalStateException") (by decide +kernel) (by decide +kernel)), (hw_win (w := .initialized "java/lang/IllegalStateException") (by decide +kernel) (by decide +kernel)), by decide +kernel, (fun w h => hw_win ((by decide +kernel : ∀ w ∈ (vx_atS RX5 54 "java/lang/IllegalStateException" ["java/lang/RuntimeException", "java/lang/Exception"]).filter goodWord, w ∈ lw_tbl) w h) ((List.mem_filter.mp h).2)), by decide +kernel, by decide +kernel, by decide +kernel⟩
theorem cb_X2_begin (own : String) (index : Nat) : hw_CB own index yX2_begin cX2_begin 5 none 4 := ⟨⟨by decide +kernel, by decide +kernel, by decide +kernel⟩, (hw_win (w := .code yX2_begin cX2_begin 5 none) (by decide +kernel) (by decide +kernel)), (hw_win (w := .initialized yX2_begin.cls) (by decide +kernel) (by decide +kernel))⟩
theorem cv_X5_184 : hw_CV RX5 184 yX2_begin cX2_begin 5 none 4 := ⟨cb_X2_begin _ _, (hw_win (w := .methodLink RX5 184 yX2_begin) (by decide +kernel) (by decide +kernel)), (hw_win (w := .instanceMethod yX2_begin) (by decide +kernel) (by decide +kernel)), (hw_win (w := .selects yX2_begin.cls yX2_begin yX2_begin) (by decide +kernel) (by decide +kernel))⟩
theorem fp_X5_162 : hw_FP RX5 162 1 4 (.object "MeltPool$Piece") false := ⟨RX0, TX0, 7, "MeltPool$Machine", tyX0, rfl, by decide, iw_X0, (hw_win (w := .fieldLink RX5 162 "MeltPool$Machine" (TX0 4).2.1 (TX0 4).2.2.1) (by decide +kernel) (by decide +kernel)), Or.inl rfl, tyX0_ok, nmX0, rfl, (fun h => by cases h), by decide +kernel⟩
set_option maxHeartbeats 4000000 in
set_option maxRecDepth 100000 in
theorem m_X5_unload_n (l : Launch) (hst : l.stackTraces = false) (Z : hw_Z) (M : hw_M) (ad : hp_ad) (S : hs_S) (T : hp_T) (b1 : Nat → Prop) (ka : Int32) (hP : hp_ok Z b1 M ad S T) (hB : hs_b S) (hm : hs_M S (hb_ix ka) 1 = -1) : vx_Met l yX5_unload (hw_m yX5_unload cX5_unload 4 (some .int)) ({ frames := 9, cells := 6, slots := 36, locals := 190 } : Room) (va_Pc [.ref (ad 0 0), .int ka] (hw_P Z M)) (hw_Qi Z (hq_R Z b1 M ad (st_unload S ka))) (hw_X Z (hq_X ["java/lang/IndexOutOfBoundsException", "java/lang/IllegalStateException"] M S (st_unload S ka))) 6 36 (hw_A Z) := by
  refine hw_xofi hst (by decide +kernel) rfl (Nat.le_of_ble_eq_true rfl) ?_
  intro p e s m below meth c ls Q hx hb hml hown hts hk hnm hI hl hret hxo hthr hthrW
  have hnp := hB.np
  have hnw := hB.nw
  have e0_0hP : M (ad 0 0) = hw_ob 6 [.ref (ad 0 1), .ref (ad 0 2), .ref (ad 0 3), .int (nI (hs_np S)), .int (nI (hs_nw S)), .int (hs_G S 0), .int (hs_G S 1), .ref (ad 0 4), .ref (ad 0 8)] := hP.m 0 0 (by decide)
  have e0_3hP : M (ad 0 3) = hw_ar Z 5 2 (fun j => some (ad 9 j)) := hP.m 0 3 (by decide)
  refine lv_aload_n hx hb dX5_unload_0 rfl (lv_at hl 0 rfl) ?_
  refine lv_iload_n hx hb dX5_unload_1 rfl (lv_at hl 1 rfl) ?_
  refine hw_xr hI hxo (hw_xV hx hb hml hown hts hk hI (m_X5_machineAt l hst Z M (ad 0 0) (ad 0 1) (ad 0 2) (ad 0 3) (ad 0 4) (ad 0 8) (hs_np S) (hs_nw S) (hs_G S 0) (hs_G S 1) ka (ad 9) e0_0hP e0_3hP) cv_X5_134 e0_0hP rfl rfl ⟨rfl, rfl⟩ ⟨(Nat.le_of_ble_eq_true rfl), (Nat.le_of_ble_eq_true rfl)⟩ rfl hl.1 rfl (Nat.le_of_ble_eq_true rfl) ⟨(Nat.le_of_ble_eq_true rfl), (Nat.le_of_ble_eq_true rfl)⟩ dX5_unload_2) (hq_xc (c := 1) (fun h => by unfold st_unload; exact (hq_if h ⟨rfl, rfl⟩)) ⟨by decide, rfl⟩) (Nat.le_of_ble_eq_true rfl) (Nat.le_of_ble_eq_true rfl) (fun r2 M2 H locs hR hI => ?_)
  obtain ⟨⟨hk2, rfl⟩, rfl⟩ := hR
  have hx2 := hb_okx (by omega) hk2
  have hi2 : hb_ix ka < 2 := by have := hx2.1; omega
  have e9_hb_ix_kahP : M (ad 9 (hb_ix ka)) = hw_ob 1 [.int (nI (hb_ix ka)), .int (hs_M S (hb_ix ka) 0), .null, .int (hs_M S (hb_ix ka) 2), hp_ref (ad 1) (hs_M S (hb_ix ka) 3), .ref (ad 10 (hb_ix ka)), .int (nI (hs_N S (hb_ix ka)))] := by
    have q := hP.m 9 (hb_ix ka) hi2
    rw [show hp_e Z ad S T 9 (hb_ix ka) = hw_ob 1 [.int (nI (hb_ix ka)), .int (hs_M S (hb_ix ka) 0), hp_ref (ad 8) (hs_M S (hb_ix ka) 1), .int (hs_M S (hb_ix ka) 2), hp_ref (ad 1) (hs_M S (hb_ix ka) 3), .ref (ad 10 (hb_ix ka)), .int (nI (hs_N S (hb_ix ka)))] from rfl] at q
    rw [hp_refn hm] at q
    exact q
  refine lv_astore_n (lv' := [(2, .ref (ad 9 (hb_ix ka))), (0, .ref (ad 0 0)), (1, .int ka)]) hx hb dX5_unload_5 rfl hl (by decide) rfl (fun ls hl => ?_)
  refine lv_aload_n hx hb dX5_unload_6 rfl (lv_at hl 0 rfl) ?_
  refine hw_get hx hb hts hown hk hI fd_X5_138 e9_hb_ix_kahP rfl dX5_unload_7 ?_
  refine lv_astore_nN (lv' := [(3, .null), (2, .ref (ad 9 (hb_ix ka))), (0, .ref (ad 0 0)), (1, .int ka)]) hx hb dX5_unload_10 rfl hl (by decide) rfl (fun ls hl => ?_)
  refine lv_aload_nN hx hb dX5_unload_11 rfl (lv_at hl 0 rfl) ?_
  refine lv_ifnonnullN hx hb dX5_unload_12 ?_
  exact hthr hI th_X5_50_160_54 hl.1 dX5_unload_15 dX5_unload_18 dX5_unload_19 dX5_unload_21 dX5_unload_24 (Nat.le_of_ble_eq_true rfl) (Nat.le_of_ble_eq_true rfl) (Nat.le_of_ble_eq_true rfl) (Nat.le_of_ble_eq_true rfl) (hq_x (c := 2) (by unfold st_unload; exact (hq_el (fun q => q hk2) (hq_if (Or.inl hm) ⟨rfl, rfl⟩))) ⟨by decide, rfl⟩ rfl) (Nat.le_of_ble_eq_true rfl) (Nat.le_of_ble_eq_true rfl)

set_option maxHeartbeats 4000000 in
set_option maxRecDepth 100000 in
theorem m_X5_unload_sn (l : Launch) (hst : l.stackTraces = false) (Z : hw_Z) (M : hw_M) (ad : hp_ad) (S : hs_S) (T : hp_T) (b1 : Nat → Prop) (ka : Int32) (hP : hp_ok Z b1 M ad S T) (hB : hs_b S) (hm : ¬ hs_M S (hb_ix ka) 1 = -1) (hg : hs_M S (hb_ix ka) 3 = -1) : vx_Met l yX5_unload (hw_m yX5_unload cX5_unload 4 (some .int)) ({ frames := 9, cells := 6, slots := 36, locals := 190 } : Room) (va_Pc [.ref (ad 0 0), .int ka] (hw_P Z M)) (hw_Qi Z (hq_R Z b1 M ad (st_unload S ka))) (hw_X Z (hq_X ["java/lang/IndexOutOfBoundsException", "java/lang/IllegalStateException"] M S (st_unload S ka))) 6 36 (hw_A Z) := by
  refine hw_xofi hst (by decide +kernel) rfl (Nat.le_of_ble_eq_true rfl) ?_
  intro p e s m below meth c ls Q hx hb hml hown hts hk hnm hI hl hret hxo hthr hthrW
  have hnp := hB.np
  have hnw := hB.nw
  have e0_0hP : M (ad 0 0) = hw_ob 6 [.ref (ad 0 1), .ref (ad 0 2), .ref (ad 0 3), .int (nI (hs_np S)), .int (nI (hs_nw S)), .int (hs_G S 0), .int (hs_G S 1), .ref (ad 0 4), .ref (ad 0 8)] := hP.m 0 0 (by decide)
  have e0_3hP : M (ad 0 3) = hw_ar Z 5 2 (fun j => some (ad 9 j)) := hP.m 0 3 (by decide)
  refine lv_aload_n hx hb dX5_unload_0 rfl (lv_at hl 0 rfl) ?_
  refine lv_iload_n hx hb dX5_unload_1 rfl (lv_at hl 1 rfl) ?_
  refine hw_xr hI hxo (hw_xV hx hb hml hown hts hk hI (m_X5_machineAt l hst Z M (ad 0 0) (ad 0 1) (ad 0 2) (ad 0 3) (ad 0 4) (ad 0 8) (hs_np S) (hs_nw S) (hs_G S 0) (hs_G S 1) ka (ad 9) e0_0hP e0_3hP) cv_X5_134 e0_0hP rfl rfl ⟨rfl, rfl⟩ ⟨(Nat.le_of_ble_eq_true rfl), (Nat.le_of_ble_eq_true rfl)⟩ rfl hl.1 rfl (Nat.le_of_ble_eq_true rfl) ⟨(Nat.le_of_ble_eq_true rfl), (Nat.le_of_ble_eq_true rfl)⟩ dX5_unload_2) (hq_xc (c := 1) (fun h => by unfold st_unload; exact (hq_if h ⟨rfl, rfl⟩)) ⟨by decide, rfl⟩) (Nat.le_of_ble_eq_true rfl) (Nat.le_of_ble_eq_true rfl) (fun r2 M2 H locs hR hI => ?_)
  obtain ⟨⟨hk2, rfl⟩, rfl⟩ := hR
  have hx2 := hb_okx (by omega) hk2
  have hi2 : hb_ix ka < 2 := by have := hx2.1; omega
  have hib : hb_ix (hs_M S (hb_ix ka) 1) < 6 := hB.mp hi2 hm
  have e9_hb_ix_kahP : M (ad 9 (hb_ix ka)) = hw_ob 1 [.int (nI (hb_ix ka)), .int (hs_M S (hb_ix ka) 0), .ref (ad 8 (hb_ix (hs_M S (hb_ix ka) 1))), .int (hs_M S (hb_ix ka) 2), .null, .ref (ad 10 (hb_ix ka)), .int (nI (hs_N S (hb_ix ka)))] := by
    have q := hP.m 9 (hb_ix ka) hi2
    rw [show hp_e Z ad S T 9 (hb_ix ka) = hw_ob 1 [.int (nI (hb_ix ka)), .int (hs_M S (hb_ix ka) 0), hp_ref (ad 8) (hs_M S (hb_ix ka) 1), .int (hs_M S (hb_ix ka) 2), hp_ref (ad 1) (hs_M S (hb_ix ka) 3), .ref (ad 10 (hb_ix ka)), .int (nI (hs_N S (hb_ix ka)))] from rfl] at q
    rw [hp_refs hm, hp_refn hg] at q
    exact q
  have e8_hb_ix_hs_M_S_hb_ix_ka_1hP : M (ad 8 (hb_ix (hs_M S (hb_ix ka) 1))) = hw_ob 4 [.int (nI (hb_ix (hs_M S (hb_ix ka) 1))), .int (hs_V S (hb_ix (hs_M S (hb_ix ka) 1)) 0), .int (hs_V S (hb_ix (hs_M S (hb_ix ka) 1)) 1), .int (hs_V S (hb_ix (hs_M S (hb_ix ka) 1)) 2), .int (hs_V S (hb_ix (hs_M S (hb_ix ka) 1)) 3), .int (hs_V S (hb_ix (hs_M S (hb_ix ka) 1)) 4)] := hP.m 8 (hb_ix (hs_M S (hb_ix ka) 1)) hib
  refine lv_astore_n (lv' := [(2, .ref (ad 9 (hb_ix ka))), (0, .ref (ad 0 0)), (1, .int ka)]) hx hb dX5_unload_5 rfl hl (by decide) rfl (fun ls hl => ?_)
  refine lv_aload_n hx hb dX5_unload_6 rfl (lv_at hl 0 rfl) ?_
  refine hw_get hx hb hts hown hk hI fd_X5_138 e9_hb_ix_kahP rfl dX5_unload_7 ?_
  refine lv_astore_n (lv' := [(3, .ref (ad 8 (hb_ix (hs_M S (hb_ix ka) 1)))), (2, .ref (ad 9 (hb_ix ka))), (0, .ref (ad 0 0)), (1, .int ka)]) hx hb dX5_unload_10 rfl hl (by decide) rfl (fun ls hl => ?_)
  refine lv_aload_n hx hb dX5_unload_11 rfl (lv_at hl 0 rfl) ?_
  refine lv_ifnonnull (tgt := 25) hx hb dX5_unload_12 (by decide) ?_
  refine lv_aload_n hx hb dX5_unload_25 rfl (lv_at hl 1 rfl) ?_
  refine hw_get hx hb hts hown hk hI fd_X5_162 e9_hb_ix_kahP rfl dX5_unload_26 ?_
  refine lv_ifnullN (tgt := 42) hx hb dX5_unload_29 (by decide) ?_
  refine lv_aload_n hx hb dX5_unload_42 rfl (lv_at hl 1 rfl) ?_
  refine lv_aload_n hx hb dX5_unload_43 rfl (lv_at hl 1 rfl) ?_
  refine hw_get hx hb hts hown hk hI fd_X5_157 e9_hb_ix_kahP rfl dX5_unload_44 ?_
  refine hw_cv hI (hw_rV hx hb hml hown hts hk hI (m_X0_giveBack_s l Z M (ad 9 (hb_ix ka)) (ad 8 (hb_ix (hs_M S (hb_ix ka) 1))) (ad 10 (hb_ix ka)) (nI (hb_ix ka)) (hs_M S (hb_ix ka) 0) (hs_M S (hb_ix ka) 2) (nI (hs_N S (hb_ix ka))) (nI (hb_ix (hs_M S (hb_ix ka) 1))) (hs_V S (hb_ix (hs_M S (hb_ix ka) 1)) 0) (hs_V S (hb_ix (hs_M S (hb_ix ka) 1)) 1) (hs_V S (hb_ix (hs_M S (hb_ix ka) 1)) 2) (hs_V S (hb_ix (hs_M S (hb_ix ka) 1)) 3) (hs_V S (hb_ix (hs_M S (hb_ix ka) 1)) 4) (hs_M S (hb_ix ka) 2) .null e9_hb_ix_kahP e8_hb_ix_hs_M_S_hb_ix_ka_1hP) cv_X5_168 e9_hb_ix_kahP rfl rfl ⟨rfl, rfl⟩ ⟨(Nat.le_of_ble_eq_true rfl), (Nat.le_of_ble_eq_true rfl)⟩ rfl hl.1 rfl (Nat.le_of_ble_eq_true rfl) ⟨(Nat.le_of_ble_eq_true rfl), (Nat.le_of_ble_eq_true rfl)⟩ dX5_unload_47) (fun M47 H locs hR hI => ?_)
  subst hR
  refine lv_aload_n hx hb dX5_unload_50 rfl (lv_at hl 0 rfl) ?_
  refine hw_get hx hb hts hown hk hI fd_X5_111 (hw_us _ _ _) rfl dX5_unload_51 ?_
  have ok_hfin : hp_ok Z b1 (va_up (va_up M (ad 9 (hb_ix ka)) (hw_ob 1 [.int (nI (hb_ix ka)), .int (hs_M S (hb_ix ka) 0), .null, .int (nI 0), .null, .ref (ad 10 (hb_ix ka)), .int (nI (hs_N S (hb_ix ka)))])) (ad 8 (hb_ix (hs_M S (hb_ix ka) 1))) (hw_ob 4 [.int (nI (hb_ix (hs_M S (hb_ix ka) 1))), .int (hs_V S (hb_ix (hs_M S (hb_ix ka) 1)) 0), .int ((hs_V S (hb_ix (hs_M S (hb_ix ka) 1)) 1) + (hs_M S (hb_ix ka) 2)), .int ((hs_V S (hb_ix (hs_M S (hb_ix ka) 1)) 2) + nI 1), .int (hs_V S (hb_ix (hs_M S (hb_ix ka) 1)) 3), .int (-1)])) ad (hs_sV (hs_sM S (hb_ix ka) (va_up (va_up (hs_M S (hb_ix ka)) 1 (-1)) 2 0)) (hb_ix (hs_M S (hb_ix ka) 1)) (va_up (va_up (va_up (hs_V S (hb_ix (hs_M S (hb_ix ka) 1))) 1 (hs_V S (hb_ix (hs_M S (hb_ix ka) 1)) 1 + hs_M S (hb_ix ka) 2)) 2 (hs_V S (hb_ix (hs_M S (hb_ix ka) 1)) 2 + nI 1)) 4 (-1))) (T) := by
    refine hP.fin (fun k i hi => ?_) hP.h0 hP.s7
    by_cases q1 : k = 8 ∧ i = (hb_ix (hs_M S (hb_ix ka) 1))
    · obtain ⟨rfl, qi⟩ := q1; obtain rfl := qi.symm
      rw [va_up_self]
      first | rfl | (simp only [hp_e, hp_e0, hp_hang0, va_up_self, ac_P_M, ac_D_M, ac_V_M, ac_M_M, ac_N_M, ac_Q_M, ac_C_M, ac_W_M, ac_U_M, ac_G_M, ac_np_M, ac_nw_M, ac_P_V, ac_D_V, ac_V_V, ac_M_V, ac_N_V, ac_Q_V, ac_C_V, ac_W_V, ac_U_V, ac_G_V, ac_np_V, ac_nw_V]; done) | (simp only [hp_e, hp_e0, hp_hang0, va_up_self, ac_P_M, ac_D_M, ac_V_M, ac_M_M, ac_N_M, ac_Q_M, ac_C_M, ac_W_M, ac_U_M, ac_G_M, ac_np_M, ac_nw_M, ac_P_V, ac_D_V, ac_V_V, ac_M_V, ac_N_V, ac_Q_V, ac_C_V, ac_W_V, ac_U_V, ac_G_V, ac_np_V, ac_nw_V]; rfl)
    by_cases q0 : k = 9 ∧ i = (hb_ix ka)
    · obtain ⟨rfl, qi⟩ := q0; obtain rfl := qi.symm
      rw [va_up_ne _ _ (hP.n (k := 9) (i := (hb_ix ka)) (k' := 8) (i' := (hb_ix (hs_M S (hb_ix ka) 1))) hi2 hib (fun q => absurd q.1 (by decide))), va_up_self]
      first | rfl | (simp only [hp_e, hp_e0, hp_hang0, va_up_self, ac_P_M, ac_D_M, ac_V_M, ac_M_M, ac_N_M, ac_Q_M, ac_C_M, ac_W_M, ac_U_M, ac_G_M, ac_np_M, ac_nw_M, ac_P_V, ac_D_V, ac_V_V, ac_M_V, ac_N_V, ac_Q_V, ac_C_V, ac_W_V, ac_U_V, ac_G_V, ac_np_V, ac_nw_V]; done) | (simp only [hp_e, hp_e0, hp_hang0, va_up_self, ac_P_M, ac_D_M, ac_V_M, ac_M_M, ac_N_M, ac_Q_M, ac_C_M, ac_W_M, ac_U_M, ac_G_M, ac_np_M, ac_nw_M, ac_P_V, ac_D_V, ac_V_V, ac_M_V, ac_N_V, ac_Q_V, ac_C_V, ac_W_V, ac_U_V, ac_G_V, ac_np_V, ac_nw_V]; rfl) | (simp only [hp_e, hp_e0, hp_hang0, va_up_self, ac_P_M, ac_D_M, ac_V_M, ac_M_M, ac_N_M, ac_Q_M, ac_C_M, ac_W_M, ac_U_M, ac_G_M, ac_np_M, ac_nw_M, ac_P_V, ac_D_V, ac_V_V, ac_M_V, ac_N_V, ac_Q_V, ac_C_V, ac_W_V, ac_U_V, ac_G_V, ac_np_V, ac_nw_V]; refine hw_ob7 ?_ ?_ ?_ ?_ ?_ ?_ ?_ <;> first | rfl | exact (hp_rn (by first | rfl | assumption)).symm | exact (hp_rr (by rfl) (by assumption)).symm)
    rw [va_up_ne _ _ (hP.n (k := k) (i := i) (k' := 8) (i' := (hb_ix (hs_M S (hb_ix ka) 1))) hi hib q1), va_up_ne _ _ (hP.n (k := k) (i := i) (k' := 9) (i' := (hb_ix ka)) hi hi2 q0)]
    exact (hP.m k i hi).trans (((sm_V (k := k) (i := i) _ _ (by omega)).trans (sm_M (k := k) (i := i) _ _ (by omega)))).symm
  have fr_hfin : ∀ a, b1 a → (va_up (va_up M (ad 9 (hb_ix ka)) (hw_ob 1 [.int (nI (hb_ix ka)), .int (hs_M S (hb_ix ka) 0), .null, .int (nI 0), .null, .ref (ad 10 (hb_ix ka)), .int (nI (hs_N S (hb_ix ka)))])) (ad 8 (hb_ix (hs_M S (hb_ix ka) 1))) (hw_ob 4 [.int (nI (hb_ix (hs_M S (hb_ix ka) 1))), .int (hs_V S (hb_ix (hs_M S (hb_ix ka) 1)) 0), .int ((hs_V S (hb_ix (hs_M S (hb_ix ka) 1)) 1) + (hs_M S (hb_ix ka) 2)), .int ((hs_V S (hb_ix (hs_M S (hb_ix ka) 1)) 2) + nI 1), .int (hs_V S (hb_ix (hs_M S (hb_ix ka) 1)) 3), .int (-1)])) a = M a := by
    intro a ha
    rw [va_up_ne _ _ (hP.f (k := 8) (i := (hb_ix (hs_M S (hb_ix ka) 1))) hib ha), va_up_ne _ _ (hP.f (k := 9) (i := (hb_ix ka)) hi2 ha)]
  have hfin : hq_R Z b1 M ad (st_unload S ka) ((hs_V S (hb_ix (hs_M S (hb_ix ka) 1)) 1) + (hs_M S (hb_ix ka) 2)) (va_up (va_up M (ad 9 (hb_ix ka)) (hw_ob 1 [.int (nI (hb_ix ka)), .int (hs_M S (hb_ix ka) 0), .null, .int (nI 0), .null, .ref (ad 10 (hb_ix ka)), .int (nI (hs_N S (hb_ix ka)))])) (ad 8 (hb_ix (hs_M S (hb_ix ka) 1))) (hw_ob 4 [.int (nI (hb_ix (hs_M S (hb_ix ka) 1))), .int (hs_V S (hb_ix (hs_M S (hb_ix ka) 1)) 0), .int ((hs_V S (hb_ix (hs_M S (hb_ix ka) 1)) 1) + (hs_M S (hb_ix ka) 2)), .int ((hs_V S (hb_ix (hs_M S (hb_ix ka) 1)) 2) + nI 1), .int (hs_V S (hb_ix (hs_M S (hb_ix ka) 1)) 3), .int (-1)])) := hq_r (S' := hs_sV (hs_sM S (hb_ix ka) (va_up (va_up (hs_M S (hb_ix ka)) 1 (-1)) 2 0)) (hb_ix (hs_M S (hb_ix ka) 1)) (va_up (va_up (va_up (hs_V S (hb_ix (hs_M S (hb_ix ka) 1))) 1 (hs_V S (hb_ix (hs_M S (hb_ix ka) 1)) 1 + hs_M S (hb_ix ka) 2)) 2 (hs_V S (hb_ix (hs_M S (hb_ix ka) 1)) 2 + nI 1)) 4 (-1))) (T' := T) (by unfold st_unload; exact ((if_neg (fun q => q hk2)).trans ((if_neg (fun q => q.elim hm (fun q => q hg))).trans rfl))) ok_hfin fr_hfin
  exact hret hI hfin (Nat.le_of_ble_eq_true rfl) (Nat.le_of_ble_eq_true rfl) dX5_unload_54

set_option maxHeartbeats 4000000 in
set_option maxRecDepth 100000 in
theorem m_X5_unload_ss (l : Launch) (hst : l.stackTraces = false) (Z : hw_Z) (M : hw_M) (ad : hp_ad) (S : hs_S) (T : hp_T) (b1 : Nat → Prop) (ka : Int32) (hP : hp_ok Z b1 M ad S T) (hB : hs_b S) (hm : ¬ hs_M S (hb_ix ka) 1 = -1) (hg : ¬ hs_M S (hb_ix ka) 3 = -1) : vx_Met l yX5_unload (hw_m yX5_unload cX5_unload 4 (some .int)) ({ frames := 9, cells := 6, slots := 36, locals := 190 } : Room) (va_Pc [.ref (ad 0 0), .int ka] (hw_P Z M)) (hw_Qi Z (hq_R Z b1 M ad (st_unload S ka))) (hw_X Z (hq_X ["java/lang/IndexOutOfBoundsException", "java/lang/IllegalStateException"] M S (st_unload S ka))) 6 36 (hw_A Z) := by
  refine hw_xofi hst (by decide +kernel) rfl (Nat.le_of_ble_eq_true rfl) ?_
  intro p e s m below meth c ls Q hx hb hml hown hts hk hnm hI hl hret hxo hthr hthrW
  have hnp := hB.np
  have hnw := hB.nw
  have e0_0hP : M (ad 0 0) = hw_ob 6 [.ref (ad 0 1), .ref (ad 0 2), .ref (ad 0 3), .int (nI (hs_np S)), .int (nI (hs_nw S)), .int (hs_G S 0), .int (hs_G S 1), .ref (ad 0 4), .ref (ad 0 8)] := hP.m 0 0 (by decide)
  have e0_3hP : M (ad 0 3) = hw_ar Z 5 2 (fun j => some (ad 9 j)) := hP.m 0 3 (by decide)
  refine lv_aload_n hx hb dX5_unload_0 rfl (lv_at hl 0 rfl) ?_
  refine lv_iload_n hx hb dX5_unload_1 rfl (lv_at hl 1 rfl) ?_
  refine hw_xr hI hxo (hw_xV hx hb hml hown hts hk hI (m_X5_machineAt l hst Z M (ad 0 0) (ad 0 1) (ad 0 2) (ad 0 3) (ad 0 4) (ad 0 8) (hs_np S) (hs_nw S) (hs_G S 0) (hs_G S 1) ka (ad 9) e0_0hP e0_3hP) cv_X5_134 e0_0hP rfl rfl ⟨rfl, rfl⟩ ⟨(Nat.le_of_ble_eq_true rfl), (Nat.le_of_ble_eq_true rfl)⟩ rfl hl.1 rfl (Nat.le_of_ble_eq_true rfl) ⟨(Nat.le_of_ble_eq_true rfl), (Nat.le_of_ble_eq_true rfl)⟩ dX5_unload_2) (hq_xc (c := 1) (fun h => by unfold st_unload; exact (hq_if h ⟨rfl, rfl⟩)) ⟨by decide, rfl⟩) (Nat.le_of_ble_eq_true rfl) (Nat.le_of_ble_eq_true rfl) (fun r2 M2 H locs hR hI => ?_)
  obtain ⟨⟨hk2, rfl⟩, rfl⟩ := hR
  have hx2 := hb_okx (by omega) hk2
  have hi2 : hb_ix ka < 2 := by have := hx2.1; omega
  have hib : hb_ix (hs_M S (hb_ix ka) 1) < 6 := hB.mp hi2 hm
  have hig : hb_ix (hs_M S (hb_ix ka) 3) < 4 := hB.mg hi2 hg
  have e9_hb_ix_kahP : M (ad 9 (hb_ix ka)) = hw_ob 1 [.int (nI (hb_ix ka)), .int (hs_M S (hb_ix ka) 0), .ref (ad 8 (hb_ix (hs_M S (hb_ix ka) 1))), .int (hs_M S (hb_ix ka) 2), .ref (ad 1 (hb_ix (hs_M S (hb_ix ka) 3))), .ref (ad 10 (hb_ix ka)), .int (nI (hs_N S (hb_ix ka)))] := by
    have q := hP.m 9 (hb_ix ka) hi2
    rw [show hp_e Z ad S T 9 (hb_ix ka) = hw_ob 1 [.int (nI (hb_ix ka)), .int (hs_M S (hb_ix ka) 0), hp_ref (ad 8) (hs_M S (hb_ix ka) 1), .int (hs_M S (hb_ix ka) 2), hp_ref (ad 1) (hs_M S (hb_ix ka) 3), .ref (ad 10 (hb_ix ka)), .int (nI (hs_N S (hb_ix ka)))] from rfl] at q
    rw [hp_refs hm, hp_refs hg] at q
    exact q
  have e8_hb_ix_hs_M_S_hb_ix_ka_1hP : M (ad 8 (hb_ix (hs_M S (hb_ix ka) 1))) = hw_ob 4 [.int (nI (hb_ix (hs_M S (hb_ix ka) 1))), .int (hs_V S (hb_ix (hs_M S (hb_ix ka) 1)) 0), .int (hs_V S (hb_ix (hs_M S (hb_ix ka) 1)) 1), .int (hs_V S (hb_ix (hs_M S (hb_ix ka) 1)) 2), .int (hs_V S (hb_ix (hs_M S (hb_ix ka) 1)) 3), .int (hs_V S (hb_ix (hs_M S (hb_ix ka) 1)) 4)] := hP.m 8 (hb_ix (hs_M S (hb_ix ka) 1)) hib
  have e1_hb_ix_hs_M_S_hb_ix_ka_3hP : M (ad 1 (hb_ix (hs_M S (hb_ix ka) 3))) = hw_ob 3 [.int (nI (hb_ix (hs_M S (hb_ix ka) 3))), .ref (ad 2 (hb_ix (hs_M S (hb_ix ka) 3))), .ref (ad 6 (hb_ix (hs_M S (hb_ix ka) 3))), .int (hs_P S (hb_ix (hs_M S (hb_ix ka) 3)) 0), .int (nI (hs_D S (hb_ix (hs_M S (hb_ix ka) 3)))), .double (hs_U S (hb_ix (hs_M S (hb_ix ka) 3))), .int (hs_P S (hb_ix (hs_M S (hb_ix ka) 3)) 3), hp_ref (ad 9) (hs_P S (hb_ix (hs_M S (hb_ix ka) 3)) 4), .int (hs_P S (hb_ix (hs_M S (hb_ix ka) 3)) 5), .int (hs_P S (hb_ix (hs_M S (hb_ix ka) 3)) 6), .int (hs_P S (hb_ix (hs_M S (hb_ix ka) 3)) 7), .int (hs_P S (hb_ix (hs_M S (hb_ix ka) 3)) 8), .int (hs_P S (hb_ix (hs_M S (hb_ix ka) 3)) 9)] := hP.m 1 (hb_ix (hs_M S (hb_ix ka) 3)) hig
  have e6_hb_ix_hs_M_S_hb_ix_ka_3hP : M (ad 6 (hb_ix (hs_M S (hb_ix ka) 3))) = hw_ob 2 [.ref (ad 7 (hb_ix (hs_M S (hb_ix ka) 3))), .int (hs_P S (hb_ix (hs_M S (hb_ix ka) 3)) 1), .int (hs_P S (hb_ix (hs_M S (hb_ix ka) 3)) 2)] := hP.m 6 (hb_ix (hs_M S (hb_ix ka) 3)) hig
  have e7_hb_ix_hs_M_S_hb_ix_ka_3hP : M (ad 7 (hb_ix (hs_M S (hb_ix ka) 3))) = hw_ad Z 64 (hs_W S (hb_ix (hs_M S (hb_ix ka) 3))) := hP.m 7 (hb_ix (hs_M S (hb_ix ka) 3)) hig
  refine lv_astore_n (lv' := [(2, .ref (ad 9 (hb_ix ka))), (0, .ref (ad 0 0)), (1, .int ka)]) hx hb dX5_unload_5 rfl hl (by decide) rfl (fun ls hl => ?_)
  refine lv_aload_n hx hb dX5_unload_6 rfl (lv_at hl 0 rfl) ?_
  refine hw_get hx hb hts hown hk hI fd_X5_138 e9_hb_ix_kahP rfl dX5_unload_7 ?_
  refine lv_astore_n (lv' := [(3, .ref (ad 8 (hb_ix (hs_M S (hb_ix ka) 1)))), (2, .ref (ad 9 (hb_ix ka))), (0, .ref (ad 0 0)), (1, .int ka)]) hx hb dX5_unload_10 rfl hl (by decide) rfl (fun ls hl => ?_)
  refine lv_aload_n hx hb dX5_unload_11 rfl (lv_at hl 0 rfl) ?_
  refine lv_ifnonnull (tgt := 25) hx hb dX5_unload_12 (by decide) ?_
  refine lv_aload_n hx hb dX5_unload_25 rfl (lv_at hl 1 rfl) ?_
  refine hw_get hx hb hts hown hk hI fd_X5_162 e9_hb_ix_kahP rfl dX5_unload_26 ?_
  refine lv_ifnull hx hb dX5_unload_29 ?_
  exact hthr hI th_X5_50_166_54 hl.1 dX5_unload_32 dX5_unload_35 dX5_unload_36 dX5_unload_38 dX5_unload_41 (Nat.le_of_ble_eq_true rfl) (Nat.le_of_ble_eq_true rfl) (Nat.le_of_ble_eq_true rfl) (Nat.le_of_ble_eq_true rfl) (hq_x (c := 2) (by unfold st_unload; exact (hq_el (fun q => q hk2) (hq_if (Or.inr hg) ⟨rfl, rfl⟩))) ⟨by decide, rfl⟩ rfl) (Nat.le_of_ble_eq_true rfl) (Nat.le_of_ble_eq_true rfl)

theorem m_X5_unload (l : Launch) (hst : l.stackTraces = false) (Z : hw_Z) (M : hw_M) (ad : hp_ad) (S : hs_S) (T : hp_T) (b1 : Nat → Prop) (ka : Int32) (hP : hp_ok Z b1 M ad S T) (hB : hs_b S) : vx_Met l yX5_unload (hw_m yX5_unload cX5_unload 4 (some .int)) ({ frames := 9, cells := 6, slots := 36, locals := 190 } : Room) (va_Pc [.ref (ad 0 0), .int ka] (hw_P Z M)) (hw_Qi Z (hq_R Z b1 M ad (st_unload S ka))) (hw_X Z (hq_X ["java/lang/IndexOutOfBoundsException", "java/lang/IllegalStateException"] M S (st_unload S ka))) 6 36 (hw_A Z) := by
  by_cases hm : hs_M S (hb_ix ka) 1 = -1
  · by_cases hg : hs_M S (hb_ix ka) 3 = -1
    · exact m_X5_unload_n l hst Z M ad S T b1 ka hP hB hm
    · exact m_X5_unload_n l hst Z M ad S T b1 ka hP hB hm
  · by_cases hg : hs_M S (hb_ix ka) 3 = -1
    · exact m_X5_unload_sn l hst Z M ad S T b1 ka hP hB hm hg
    · exact m_X5_unload_ss l hst Z M ad S T b1 ka hP hB hm hg

set_option maxHeartbeats 4000000 in
set_option maxRecDepth 100000 in
theorem m_X5_start_s (l : Launch) (hst : l.stackTraces = false) (Z : hw_Z) (M : hw_M) (ad : hp_ad) (S : hs_S) (T : hp_T) (b1 : Nat → Prop) (ka : Int32) (kp : Int32) (kw : Int32) (kd : Int32) (hP : hp_ok Z b1 M ad S T) (hB : hs_b S) (hg : ¬ hs_M S (hb_ix ka) 3 = -1) : vx_Met l yX5_start (hw_m yX5_start cX5_start 8 (some .int)) ({ frames := 9, cells := 6, slots := 36, locals := 190 } : Room) (va_Pc [.ref (ad 0 0), .int ka, .int kp, .int kw, .int kd] (hw_P Z M)) (hw_Qi Z (hq_R Z b1 M ad (st_start S ka kp kw kd))) (hw_X Z (hq_X ["java/lang/IndexOutOfBoundsException", "java/lang/IllegalArgumentException", "java/lang/IllegalStateException"] M S (st_start S ka kp kw kd))) 6 36 (hw_A Z) := by
  refine hw_xofi hst (by decide +kernel) rfl (Nat.le_of_ble_eq_true rfl) ?_
  intro p e s m below meth c ls Q hx hb hml hown hts hk hnm hI hl hret hxo hthr hthrW
  have hnp := hB.np
  have hnw := hB.nw
  have e0_0hP : M (ad 0 0) = hw_ob 6 [.ref (ad 0 1), .ref (ad 0 2), .ref (ad 0 3), .int (nI (hs_np S)), .int (nI (hs_nw S)), .int (hs_G S 0), .int (hs_G S 1), .ref (ad 0 4), .ref (ad 0 8)] := hP.m 0 0 (by decide)
  have e0_3hP : M (ad 0 3) = hw_ar Z 5 2 (fun j => some (ad 9 j)) := hP.m 0 3 (by decide)
  have e0_1hP : M (ad 0 1) = hw_ar Z 3 4 (fun j => some (ad 1 j)) := hP.m 0 1 (by decide)
  refine lv_aload_n hx hb dX5_start_0 rfl (lv_at hl 0 rfl) ?_
  refine lv_iload_n hx hb dX5_start_1 rfl (lv_at hl 1 rfl) ?_
  refine hw_xr hI hxo (hw_xV hx hb hml hown hts hk hI (m_X5_machineAt l hst Z M (ad 0 0) (ad 0 1) (ad 0 2) (ad 0 3) (ad 0 4) (ad 0 8) (hs_np S) (hs_nw S) (hs_G S 0) (hs_G S 1) ka (ad 9) e0_0hP e0_3hP) cv_X5_134 e0_0hP rfl rfl ⟨rfl, rfl⟩ ⟨(Nat.le_of_ble_eq_true rfl), (Nat.le_of_ble_eq_true rfl)⟩ rfl hl.1 rfl (Nat.le_of_ble_eq_true rfl) ⟨(Nat.le_of_ble_eq_true rfl), (Nat.le_of_ble_eq_true rfl)⟩ dX5_start_2) (hq_xc (c := 1) (fun h => by unfold st_start; exact (hq_if (fun q => h q.1) ⟨rfl, rfl⟩)) ⟨by decide, rfl⟩) (Nat.le_of_ble_eq_true rfl) (Nat.le_of_ble_eq_true rfl) (fun r2 M2 H locs hR hI => ?_)
  obtain ⟨⟨hk2, rfl⟩, rfl⟩ := hR
  have hx2 := hb_okx (by omega) hk2
  have hi2 : hb_ix ka < 2 := by have := hx2.1; omega
  have e9_hb_ix_kahP : M (ad 9 (hb_ix ka)) = hw_ob 1 [.int (nI (hb_ix ka)), .int (hs_M S (hb_ix ka) 0), hp_ref (ad 8) (hs_M S (hb_ix ka) 1), .int (hs_M S (hb_ix ka) 2), .ref (ad 1 (hb_ix (hs_M S (hb_ix ka) 3))), .ref (ad 10 (hb_ix ka)), .int (nI (hs_N S (hb_ix ka)))] := by
    have q := hP.m 9 (hb_ix ka) hi2
    rw [show hp_e Z ad S T 9 (hb_ix ka) = hw_ob 1 [.int (nI (hb_ix ka)), .int (hs_M S (hb_ix ka) 0), hp_ref (ad 8) (hs_M S (hb_ix ka) 1), .int (hs_M S (hb_ix ka) 2), hp_ref (ad 1) (hs_M S (hb_ix ka) 3), .ref (ad 10 (hb_ix ka)), .int (nI (hs_N S (hb_ix ka)))] from rfl] at q
    rw [hp_refs hg] at q
    exact q
  refine lv_astore (lv' := [(5, .ref (ad 9 (hb_ix ka))), (0, .ref (ad 0 0)), (1, .int ka), (2, .int kp), (3, .int kw), (4, .int kd)]) hx hb dX5_start_5 hl (by decide) rfl (fun ls hl => ?_)
  refine lv_aload_n hx hb dX5_start_7 rfl (lv_at hl 1 rfl) ?_
  refine lv_iload_n hx hb dX5_start_8 rfl (lv_at hl 3 rfl) ?_
  refine hw_xr hI hxo (hw_xV hx hb hml hown hts hk hI (m_X5_pieceAt l hst Z M (ad 0 0) (ad 0 1) (ad 0 2) (ad 0 3) (ad 0 4) (ad 0 8) (hs_np S) (hs_nw S) (hs_G S 0) (hs_G S 1) kp (ad 1) e0_0hP e0_1hP hnp) cv_X5_57 e0_0hP rfl rfl ⟨rfl, rfl⟩ ⟨(Nat.le_of_ble_eq_true rfl), (Nat.le_of_ble_eq_true rfl)⟩ rfl hl.1 rfl (Nat.le_of_ble_eq_true rfl) ⟨(Nat.le_of_ble_eq_true rfl), (Nat.le_of_ble_eq_true rfl)⟩ dX5_start_9) (hq_xc (c := 1) (fun h => by unfold st_start; exact (hq_if (fun q => h q.2) ⟨rfl, rfl⟩)) ⟨by decide, rfl⟩) (Nat.le_of_ble_eq_true rfl) (Nat.le_of_ble_eq_true rfl) (fun r9 M9 H locs hR hI => ?_)
  obtain ⟨⟨hk9, rfl⟩, rfl⟩ := hR
  have hx9 := hb_okx (by omega) hk9
  have hi9 : hb_ix kp < 4 := by have := hx9.1; omega
  have e1_hb_ix_kphP : M (ad 1 (hb_ix kp)) = hw_ob 3 [.int (nI (hb_ix kp)), .ref (ad 2 (hb_ix kp)), .ref (ad 6 (hb_ix kp)), .int (hs_P S (hb_ix kp) 0), .int (nI (hs_D S (hb_ix kp))), .double (hs_U S (hb_ix kp)), .int (hs_P S (hb_ix kp) 3), hp_ref (ad 9) (hs_P S (hb_ix kp) 4), .int (hs_P S (hb_ix kp) 5), .int (hs_P S (hb_ix kp) 6), .int (hs_P S (hb_ix kp) 7), .int (hs_P S (hb_ix kp) 8), .int (hs_P S (hb_ix kp) 9)] := hP.m 1 (hb_ix kp) hi9
  have e2_hb_ix_kphP : M (ad 2 (hb_ix kp)) = hw_ob 5 [.ref (ad 3 (hb_ix kp)), .ref (ad 4 (hb_ix kp)), .ref (ad 5 (hb_ix kp))] := hP.m 2 (hb_ix kp) hi9
  have e3_hb_ix_kphP : M (ad 3 (hb_ix kp)) = hw_al Z 8 (hs_C S (hb_ix kp)) := hP.m 3 (hb_ix kp) hi9
  refine lv_astore (lv' := [(6, .ref (ad 1 (hb_ix kp))), (5, .ref (ad 9 (hb_ix ka))), (0, .ref (ad 0 0)), (1, .int ka), (2, .int kp), (3, .int kw), (4, .int kd)]) hx hb dX5_start_12 hl (by decide) rfl (fun ls hl => ?_)
  refine lv_iload_n hx hb dX5_start_14 rfl (lv_at hl 5 rfl) ?_
  refine hw_xv hI hxo (hw_xS hx hb hml hown hts hk hI (m_X5_checkPower l hst Z M kw) cs_X5_177 ⟨rfl, rfl⟩ ⟨(Nat.le_of_ble_eq_true rfl), (Nat.le_of_ble_eq_true rfl)⟩ rfl hl.1 rfl (Nat.le_of_ble_eq_true rfl) ⟨(Nat.le_of_ble_eq_true rfl), (Nat.le_of_ble_eq_true rfl)⟩ dX5_start_15) (hq_xc (c := 2) (fun h => by unfold st_start; exact (hq_el (fun q => q ⟨hk2, hk9⟩) (hq_if (fun q => h q.1) ⟨rfl, rfl⟩))) ⟨by decide, rfl⟩) (Nat.le_of_ble_eq_true rfl) (Nat.le_of_ble_eq_true rfl) (fun M15 H locs hR hI => ?_)
  obtain ⟨hk15, rfl⟩ := hR
  refine lv_iload hx hb dX5_start_18 (lv_at hl 6 rfl) ?_
  refine lv_iconst (v := nI 1) hx hb dX5_start_20 (by decide) ?_
  refine lv_icmp_lt (tgt := 31) hx hb dX5_start_21 (by decide) (fun c21 => ?_) (fun c21 => ?_)
  · exact hthr hI th_X5_96_180_100 hl.1 dX5_start_31 dX5_start_34 dX5_start_35 dX5_start_37 dX5_start_40 (Nat.le_of_ble_eq_true rfl) (Nat.le_of_ble_eq_true rfl) (Nat.le_of_ble_eq_true rfl) (Nat.le_of_ble_eq_true rfl) (hq_x (c := 2) (by unfold st_start; exact (hq_el (fun q => q ⟨hk2, hk9⟩) (hq_if (fun q => q.2.1 c21) ⟨rfl, rfl⟩))) ⟨by decide, rfl⟩ rfl) (Nat.le_of_ble_eq_true rfl) (Nat.le_of_ble_eq_true rfl)
  · refine lv_iload hx hb dX5_start_24 (lv_at hl 6 rfl) ?_
    refine lv_bipush (v := nI 20) hx hb dX5_start_26 (by decide) ?_
    refine lv_icmp_le (tgt := 41) hx hb dX5_start_28 (by decide) (fun c28 => ?_) (fun c28 => ?_)
    · refine lv_aload hx hb dX5_start_41 (lv_at hl 0 rfl) ?_
      refine hw_xv hI hxo (hw_xS hx hb hml hown hts hk hI (m_X5_checkSolid l hst Z M (ad 1 (hb_ix kp)) (ad 2 (hb_ix kp)) (ad 6 (hb_ix kp)) (nI (hb_ix kp)) (hs_P S (hb_ix kp) 0) (hs_P S (hb_ix kp) 3) (hs_P S (hb_ix kp) 5) (hs_P S (hb_ix kp) 6) (hs_P S (hb_ix kp) 7) (hs_P S (hb_ix kp) 8) (hs_P S (hb_ix kp) 9) (hs_U S (hb_ix kp)) (hs_D S (hb_ix kp)) (hp_ref (ad 9) (hs_P S (hb_ix kp) 4)) e1_hb_ix_kphP) cs_X5_64 ⟨rfl, rfl⟩ ⟨(Nat.le_of_ble_eq_true rfl), (Nat.le_of_ble_eq_true rfl)⟩ rfl hl.1 rfl (Nat.le_of_ble_eq_true rfl) ⟨(Nat.le_of_ble_eq_true rfl), (Nat.le_of_ble_eq_true rfl)⟩ dX5_start_43) (hq_xc (c := 3) (fun h => by unfold st_start; exact (hq_el (fun q => q ⟨hk2, hk9⟩) (hq_el (fun q => q ⟨hk15, c21, c28⟩) (hq_if (Or.inl h) ⟨rfl, rfl⟩)))) ⟨by decide, rfl⟩) (Nat.le_of_ble_eq_true rfl) (Nat.le_of_ble_eq_true rfl) (fun M43 H locs hR hI => ?_)
      obtain ⟨hk43, rfl⟩ := hR
      refine lv_aload hx hb dX5_start_46 (lv_at hl 0 rfl) ?_
      refine hw_get hx hb hts hown hk hI fd_X5_68 e1_hb_ix_kphP rfl dX5_start_48 ?_
      refine hw_ci hI (hw_rV hx hb hml hown hts hk hI (m_X4_height l Z M (ad 2 (hb_ix kp)) (ad 3 (hb_ix kp)) (ad 4 (hb_ix kp)) (ad 5 (hb_ix kp)) (hs_C S (hb_ix kp)) e2_hb_ix_kphP e3_hb_ix_kphP) cv_X5_92 e2_hb_ix_kphP rfl rfl ⟨rfl, rfl⟩ ⟨(Nat.le_of_ble_eq_true rfl), (Nat.le_of_ble_eq_true rfl)⟩ rfl hl.1 rfl (Nat.le_of_ble_eq_true rfl) ⟨(Nat.le_of_ble_eq_true rfl), (Nat.le_of_ble_eq_true rfl)⟩ dX5_start_51) (fun r51 M51 H locs hR hI => ?_)
      obtain ⟨rfl, rfl⟩ := hR
      refine lv_if_ne (tgt := 67) hx hb dX5_start_54 (by decide) (fun c54 => ?_) (fun c54 => ?_)
      · refine lv_aload hx hb dX5_start_67 (lv_at hl 1 rfl) ?_
        refine hw_get hx hb hts hown hk hI fd_X5_162 e9_hb_ix_kahP rfl dX5_start_69 ?_
        refine lv_ifnull hx hb dX5_start_72 ?_
        exact hthr hI th_X5_50_166_54 hl.1 dX5_start_75 dX5_start_78 dX5_start_79 dX5_start_81 dX5_start_84 (Nat.le_of_ble_eq_true rfl) (Nat.le_of_ble_eq_true rfl) (Nat.le_of_ble_eq_true rfl) (Nat.le_of_ble_eq_true rfl) (hq_x (c := 3) (by unfold st_start; exact (hq_el (fun q => q ⟨hk2, hk9⟩) (hq_el (fun q => q ⟨hk15, c21, c28⟩) (hq_if (Or.inr (Or.inr (Or.inl hg))) ⟨rfl, rfl⟩)))) ⟨by decide, rfl⟩ rfl) (Nat.le_of_ble_eq_true rfl) (Nat.le_of_ble_eq_true rfl)
      · exact hthr hI th_X5_50_182_54 hl.1 dX5_start_57 dX5_start_60 dX5_start_61 dX5_start_63 dX5_start_66 (Nat.le_of_ble_eq_true rfl) (Nat.le_of_ble_eq_true rfl) (Nat.le_of_ble_eq_true rfl) (Nat.le_of_ble_eq_true rfl) (hq_x (c := 3) (by unfold st_start; exact (hq_el (fun q => q ⟨hk2, hk9⟩) (hq_el (fun q => q ⟨hk15, c21, c28⟩) (hq_if (Or.inr (Or.inl (hq_ht c54))) ⟨rfl, rfl⟩)))) ⟨by decide, rfl⟩ rfl) (Nat.le_of_ble_eq_true rfl) (Nat.le_of_ble_eq_true rfl)
    · exact hthr hI th_X5_96_180_100 hl.1 dX5_start_31 dX5_start_34 dX5_start_35 dX5_start_37 dX5_start_40 (Nat.le_of_ble_eq_true rfl) (Nat.le_of_ble_eq_true rfl) (Nat.le_of_ble_eq_true rfl) (Nat.le_of_ble_eq_true rfl) (hq_x (c := 2) (by unfold st_start; exact (hq_el (fun q => q ⟨hk2, hk9⟩) (hq_if (fun q => c28 q.2.2) ⟨rfl, rfl⟩))) ⟨by decide, rfl⟩ rfl) (Nat.le_of_ble_eq_true rfl) (Nat.le_of_ble_eq_true rfl)

set_option maxHeartbeats 4000000 in
set_option maxRecDepth 100000 in
theorem m_X5_start_nn (l : Launch) (hst : l.stackTraces = false) (Z : hw_Z) (M : hw_M) (ad : hp_ad) (S : hs_S) (T : hp_T) (b1 : Nat → Prop) (ka : Int32) (kp : Int32) (kw : Int32) (kd : Int32) (hP : hp_ok Z b1 M ad S T) (hB : hs_b S) (hm : hs_M S (hb_ix ka) 1 = -1) (hg : hs_M S (hb_ix ka) 3 = -1) : vx_Met l yX5_start (hw_m yX5_start cX5_start 8 (some .int)) ({ frames := 9, cells := 6, slots := 36, locals := 190 } : Room) (va_Pc [.ref (ad 0 0), .int ka, .int kp, .int kw, .int kd] (hw_P Z M)) (hw_Qi Z (hq_R Z b1 M ad (st_start S ka kp kw kd))) (hw_X Z (hq_X ["java/lang/IndexOutOfBoundsException", "java/lang/IllegalArgumentException", "java/lang/IllegalStateException"] M S (st_start S ka kp kw kd))) 6 36 (hw_A Z) := by
  refine hw_xofi hst (by decide +kernel) rfl (Nat.le_of_ble_eq_true rfl) ?_
  intro p e s m below meth c ls Q hx hb hml hown hts hk hnm hI hl hret hxo hthr hthrW
  have hnp := hB.np
  have hnw := hB.nw
  have e0_0hP : M (ad 0 0) = hw_ob 6 [.ref (ad 0 1), .ref (ad 0 2), .ref (ad 0 3), .int (nI (hs_np S)), .int (nI (hs_nw S)), .int (hs_G S 0), .int (hs_G S 1), .ref (ad 0 4), .ref (ad 0 8)] := hP.m 0 0 (by decide)
  have e0_3hP : M (ad 0 3) = hw_ar Z 5 2 (fun j => some (ad 9 j)) := hP.m 0 3 (by decide)
  have e0_1hP : M (ad 0 1) = hw_ar Z 3 4 (fun j => some (ad 1 j)) := hP.m 0 1 (by decide)
  refine lv_aload_n hx hb dX5_start_0 rfl (lv_at hl 0 rfl) ?_
  refine lv_iload_n hx hb dX5_start_1 rfl (lv_at hl 1 rfl) ?_
  refine hw_xr hI hxo (hw_xV hx hb hml hown hts hk hI (m_X5_machineAt l hst Z M (ad 0 0) (ad 0 1) (ad 0 2) (ad 0 3) (ad 0 4) (ad 0 8) (hs_np S) (hs_nw S) (hs_G S 0) (hs_G S 1) ka (ad 9) e0_0hP e0_3hP) cv_X5_134 e0_0hP rfl rfl ⟨rfl, rfl⟩ ⟨(Nat.le_of_ble_eq_true rfl), (Nat.le_of_ble_eq_true rfl)⟩ rfl hl.1 rfl (Nat.le_of_ble_eq_true rfl) ⟨(Nat.le_of_ble_eq_true rfl), (Nat.le_of_ble_eq_true rfl)⟩ dX5_start_2) (hq_xc (c := 1) (fun h => by unfold st_start; exact (hq_if (fun q => h q.1) ⟨rfl, rfl⟩)) ⟨by decide, rfl⟩) (Nat.le_of_ble_eq_true rfl) (Nat.le_of_ble_eq_true rfl) (fun r2 M2 H locs hR hI => ?_)
  obtain ⟨⟨hk2, rfl⟩, rfl⟩ := hR
  have hx2 := hb_okx (by omega) hk2
  have hi2 : hb_ix ka < 2 := by have := hx2.1; omega
  have e9_hb_ix_kahP : M (ad 9 (hb_ix ka)) = hw_ob 1 [.int (nI (hb_ix ka)), .int (hs_M S (hb_ix ka) 0), .null, .int (hs_M S (hb_ix ka) 2), .null, .ref (ad 10 (hb_ix ka)), .int (nI (hs_N S (hb_ix ka)))] := by
    have q := hP.m 9 (hb_ix ka) hi2
    rw [show hp_e Z ad S T 9 (hb_ix ka) = hw_ob 1 [.int (nI (hb_ix ka)), .int (hs_M S (hb_ix ka) 0), hp_ref (ad 8) (hs_M S (hb_ix ka) 1), .int (hs_M S (hb_ix ka) 2), hp_ref (ad 1) (hs_M S (hb_ix ka) 3), .ref (ad 10 (hb_ix ka)), .int (nI (hs_N S (hb_ix ka)))] from rfl] at q
    rw [hp_refn hm, hp_refn hg] at q
    exact q
  refine lv_astore (lv' := [(5, .ref (ad 9 (hb_ix ka))), (0, .ref (ad 0 0)), (1, .int ka), (2, .int kp), (3, .int kw), (4, .int kd)]) hx hb dX5_start_5 hl (by decide) rfl (fun ls hl => ?_)
  refine lv_aload_n hx hb dX5_start_7 rfl (lv_at hl 1 rfl) ?_
  refine lv_iload_n hx hb dX5_start_8 rfl (lv_at hl 3 rfl) ?_
  refine hw_xr hI hxo (hw_xV hx hb hml hown hts hk hI (m_X5_pieceAt l hst Z M (ad 0 0) (ad 0 1) (ad 0 2) (ad 0 3) (ad 0 4) (ad 0 8) (hs_np S) (hs_nw S) (hs_G S 0) (hs_G S 1) kp (ad 1) e0_0hP e0_1hP hnp) cv_X5_57 e0_0hP rfl rfl ⟨rfl, rfl⟩ ⟨(Nat.le_of_ble_eq_true rfl), (Nat.le_of_ble_eq_true rfl)⟩ rfl hl.1 rfl (Nat.le_of_ble_eq_true rfl) ⟨(Nat.le_of_ble_eq_true rfl), (Nat.le_of_ble_eq_true rfl)⟩ dX5_start_9) (hq_xc (c := 1) (fun h => by unfold st_start; exact (hq_if (fun q => h q.2) ⟨rfl, rfl⟩)) ⟨by decide, rfl⟩) (Nat.le_of_ble_eq_true rfl) (Nat.le_of_ble_eq_true rfl) (fun r9 M9 H locs hR hI => ?_)
  obtain ⟨⟨hk9, rfl⟩, rfl⟩ := hR
  have hx9 := hb_okx (by omega) hk9
  have hi9 : hb_ix kp < 4 := by have := hx9.1; omega
  have e1_hb_ix_kphP : M (ad 1 (hb_ix kp)) = hw_ob 3 [.int (nI (hb_ix kp)), .ref (ad 2 (hb_ix kp)), .ref (ad 6 (hb_ix kp)), .int (hs_P S (hb_ix kp) 0), .int (nI (hs_D S (hb_ix kp))), .double (hs_U S (hb_ix kp)), .int (hs_P S (hb_ix kp) 3), hp_ref (ad 9) (hs_P S (hb_ix kp) 4), .int (hs_P S (hb_ix kp) 5), .int (hs_P S (hb_ix kp) 6), .int (hs_P S (hb_ix kp) 7), .int (hs_P S (hb_ix kp) 8), .int (hs_P S (hb_ix kp) 9)] := hP.m 1 (hb_ix kp) hi9
  have e2_hb_ix_kphP : M (ad 2 (hb_ix kp)) = hw_ob 5 [.ref (ad 3 (hb_ix kp)), .ref (ad 4 (hb_ix kp)), .ref (ad 5 (hb_ix kp))] := hP.m 2 (hb_ix kp) hi9
  have e3_hb_ix_kphP : M (ad 3 (hb_ix kp)) = hw_al Z 8 (hs_C S (hb_ix kp)) := hP.m 3 (hb_ix kp) hi9
  refine lv_astore (lv' := [(6, .ref (ad 1 (hb_ix kp))), (5, .ref (ad 9 (hb_ix ka))), (0, .ref (ad 0 0)), (1, .int ka), (2, .int kp), (3, .int kw), (4, .int kd)]) hx hb dX5_start_12 hl (by decide) rfl (fun ls hl => ?_)
  refine lv_iload_n hx hb dX5_start_14 rfl (lv_at hl 5 rfl) ?_
  refine hw_xv hI hxo (hw_xS hx hb hml hown hts hk hI (m_X5_checkPower l hst Z M kw) cs_X5_177 ⟨rfl, rfl⟩ ⟨(Nat.le_of_ble_eq_true rfl), (Nat.le_of_ble_eq_true rfl)⟩ rfl hl.1 rfl (Nat.le_of_ble_eq_true rfl) ⟨(Nat.le_of_ble_eq_true rfl), (Nat.le_of_ble_eq_true rfl)⟩ dX5_start_15) (hq_xc (c := 2) (fun h => by unfold st_start; exact (hq_el (fun q => q ⟨hk2, hk9⟩) (hq_if (fun q => h q.1) ⟨rfl, rfl⟩))) ⟨by decide, rfl⟩) (Nat.le_of_ble_eq_true rfl) (Nat.le_of_ble_eq_true rfl) (fun M15 H locs hR hI => ?_)
  obtain ⟨hk15, rfl⟩ := hR
  refine lv_iload hx hb dX5_start_18 (lv_at hl 6 rfl) ?_
  refine lv_iconst (v := nI 1) hx hb dX5_start_20 (by decide) ?_
  refine lv_icmp_lt (tgt := 31) hx hb dX5_start_21 (by decide) (fun c21 => ?_) (fun c21 => ?_)
  · exact hthr hI th_X5_96_180_100 hl.1 dX5_start_31 dX5_start_34 dX5_start_35 dX5_start_37 dX5_start_40 (Nat.le_of_ble_eq_true rfl) (Nat.le_of_ble_eq_true rfl) (Nat.le_of_ble_eq_true rfl) (Nat.le_of_ble_eq_true rfl) (hq_x (c := 2) (by unfold st_start; exact (hq_el (fun q => q ⟨hk2, hk9⟩) (hq_if (fun q => q.2.1 c21) ⟨rfl, rfl⟩))) ⟨by decide, rfl⟩ rfl) (Nat.le_of_ble_eq_true rfl) (Nat.le_of_ble_eq_true rfl)
  · refine lv_iload hx hb dX5_start_24 (lv_at hl 6 rfl) ?_
    refine lv_bipush (v := nI 20) hx hb dX5_start_26 (by decide) ?_
    refine lv_icmp_le (tgt := 41) hx hb dX5_start_28 (by decide) (fun c28 => ?_) (fun c28 => ?_)
    · refine lv_aload hx hb dX5_start_41 (lv_at hl 0 rfl) ?_
      refine hw_xv hI hxo (hw_xS hx hb hml hown hts hk hI (m_X5_checkSolid l hst Z M (ad 1 (hb_ix kp)) (ad 2 (hb_ix kp)) (ad 6 (hb_ix kp)) (nI (hb_ix kp)) (hs_P S (hb_ix kp) 0) (hs_P S (hb_ix kp) 3) (hs_P S (hb_ix kp) 5) (hs_P S (hb_ix kp) 6) (hs_P S (hb_ix kp) 7) (hs_P S (hb_ix kp) 8) (hs_P S (hb_ix kp) 9) (hs_U S (hb_ix kp)) (hs_D S (hb_ix kp)) (hp_ref (ad 9) (hs_P S (hb_ix kp) 4)) e1_hb_ix_kphP) cs_X5_64 ⟨rfl, rfl⟩ ⟨(Nat.le_of_ble_eq_true rfl), (Nat.le_of_ble_eq_true rfl)⟩ rfl hl.1 rfl (Nat.le_of_ble_eq_true rfl) ⟨(Nat.le_of_ble_eq_true rfl), (Nat.le_of_ble_eq_true rfl)⟩ dX5_start_43) (hq_xc (c := 3) (fun h => by unfold st_start; exact (hq_el (fun q => q ⟨hk2, hk9⟩) (hq_el (fun q => q ⟨hk15, c21, c28⟩) (hq_if (Or.inl h) ⟨rfl, rfl⟩)))) ⟨by decide, rfl⟩) (Nat.le_of_ble_eq_true rfl) (Nat.le_of_ble_eq_true rfl) (fun M43 H locs hR hI => ?_)
      obtain ⟨hk43, rfl⟩ := hR
      refine lv_aload hx hb dX5_start_46 (lv_at hl 0 rfl) ?_
      refine hw_get hx hb hts hown hk hI fd_X5_68 e1_hb_ix_kphP rfl dX5_start_48 ?_
      refine hw_ci hI (hw_rV hx hb hml hown hts hk hI (m_X4_height l Z M (ad 2 (hb_ix kp)) (ad 3 (hb_ix kp)) (ad 4 (hb_ix kp)) (ad 5 (hb_ix kp)) (hs_C S (hb_ix kp)) e2_hb_ix_kphP e3_hb_ix_kphP) cv_X5_92 e2_hb_ix_kphP rfl rfl ⟨rfl, rfl⟩ ⟨(Nat.le_of_ble_eq_true rfl), (Nat.le_of_ble_eq_true rfl)⟩ rfl hl.1 rfl (Nat.le_of_ble_eq_true rfl) ⟨(Nat.le_of_ble_eq_true rfl), (Nat.le_of_ble_eq_true rfl)⟩ dX5_start_51) (fun r51 M51 H locs hR hI => ?_)
      obtain ⟨rfl, rfl⟩ := hR
      refine lv_if_ne (tgt := 67) hx hb dX5_start_54 (by decide) (fun c54 => ?_) (fun c54 => ?_)
      · refine lv_aload hx hb dX5_start_67 (lv_at hl 1 rfl) ?_
        refine hw_get hx hb hts hown hk hI fd_X5_162 e9_hb_ix_kahP rfl dX5_start_69 ?_
        refine lv_ifnullN (tgt := 85) hx hb dX5_start_72 (by decide) ?_
        refine lv_aload hx hb dX5_start_85 (lv_at hl 1 rfl) ?_
        refine hw_get hx hb hts hown hk hI fd_X5_138 e9_hb_ix_kahP rfl dX5_start_87 ?_
        refine lv_astoreN (lv' := [(7, .null), (6, .ref (ad 1 (hb_ix kp))), (5, .ref (ad 9 (hb_ix ka))), (0, .ref (ad 0 0)), (1, .int ka), (2, .int kp), (3, .int kw), (4, .int kd)]) hx hb dX5_start_90 hl (by decide) rfl (fun ls hl => ?_)
        refine lv_aloadN hx hb dX5_start_92 (lv_at hl 0 rfl) ?_
        refine lv_ifnonnullN hx hb dX5_start_94 ?_
        exact hthr hI th_X5_50_160_54 hl.1 dX5_start_97 dX5_start_100 dX5_start_101 dX5_start_103 dX5_start_106 (Nat.le_of_ble_eq_true rfl) (Nat.le_of_ble_eq_true rfl) (Nat.le_of_ble_eq_true rfl) (Nat.le_of_ble_eq_true rfl) (hq_x (c := 3) (by unfold st_start; exact (hq_el (fun q => q ⟨hk2, hk9⟩) (hq_el (fun q => q ⟨hk15, c21, c28⟩) (hq_if (Or.inr (Or.inr (Or.inr hm))) ⟨rfl, rfl⟩)))) ⟨by decide, rfl⟩ rfl) (Nat.le_of_ble_eq_true rfl) (Nat.le_of_ble_eq_true rfl)
      · exact hthr hI th_X5_50_182_54 hl.1 dX5_start_57 dX5_start_60 dX5_start_61 dX5_start_63 dX5_start_66 (Nat.le_of_ble_eq_true rfl) (Nat.le_of_ble_eq_true rfl) (Nat.le_of_ble_eq_true rfl) (Nat.le_of_ble_eq_true rfl) (hq_x (c := 3) (by unfold st_start; exact (hq_el (fun q => q ⟨hk2, hk9⟩) (hq_el (fun q => q ⟨hk15, c21, c28⟩) (hq_if (Or.inr (Or.inl (hq_ht c54))) ⟨rfl, rfl⟩)))) ⟨by decide, rfl⟩ rfl) (Nat.le_of_ble_eq_true rfl) (Nat.le_of_ble_eq_true rfl)
    · exact hthr hI th_X5_96_180_100 hl.1 dX5_start_31 dX5_start_34 dX5_start_35 dX5_start_37 dX5_start_40 (Nat.le_of_ble_eq_true rfl) (Nat.le_of_ble_eq_true rfl) (Nat.le_of_ble_eq_true rfl) (Nat.le_of_ble_eq_true rfl) (hq_x (c := 2) (by unfold st_start; exact (hq_el (fun q => q ⟨hk2, hk9⟩) (hq_if (fun q => c28 q.2.2) ⟨rfl, rfl⟩))) ⟨by decide, rfl⟩ rfl) (Nat.le_of_ble_eq_true rfl) (Nat.le_of_ble_eq_true rfl)

set_option maxHeartbeats 4000000 in
set_option maxRecDepth 100000 in
theorem m_X5_start_sn (l : Launch) (hst : l.stackTraces = false) (Z : hw_Z) (M : hw_M) (ad : hp_ad) (S : hs_S) (T : hp_T) (b1 : Nat → Prop) (ka : Int32) (kp : Int32) (kw : Int32) (kd : Int32) (hP : hp_ok Z b1 M ad S T) (hB : hs_b S) (hm : ¬ hs_M S (hb_ix ka) 1 = -1) (hg : hs_M S (hb_ix ka) 3 = -1) : vx_Met l yX5_start (hw_m yX5_start cX5_start 8 (some .int)) ({ frames := 9, cells := 6, slots := 36, locals := 190 } : Room) (va_Pc [.ref (ad 0 0), .int ka, .int kp, .int kw, .int kd] (hw_P Z M)) (hw_Qi Z (hq_R Z b1 M ad (st_start S ka kp kw kd))) (hw_X Z (hq_X ["java/lang/IndexOutOfBoundsException", "java/lang/IllegalArgumentException", "java/lang/IllegalStateException"] M S (st_start S ka kp kw kd))) 6 36 (hw_A Z) := by
  refine hw_xofi hst (by decide +kernel) rfl (Nat.le_of_ble_eq_true rfl) ?_
  intro p e s m below meth c ls Q hx hb hml hown hts hk hnm hI hl hret hxo hthr hthrW
  have hnp := hB.np
  have hnw := hB.nw
  have e0_0hP : M (ad 0 0) = hw_ob 6 [.ref (ad 0 1), .ref (ad 0 2), .ref (ad 0 3), .int (nI (hs_np S)), .int (nI (hs_nw S)), .int (hs_G S 0), .int (hs_G S 1), .ref (ad 0 4), .ref (ad 0 8)] := hP.m 0 0 (by decide)
  have e0_3hP : M (ad 0 3) = hw_ar Z 5 2 (fun j => some (ad 9 j)) := hP.m 0 3 (by decide)
  have e0_1hP : M (ad 0 1) = hw_ar Z 3 4 (fun j => some (ad 1 j)) := hP.m 0 1 (by decide)
  refine lv_aload_n hx hb dX5_start_0 rfl (lv_at hl 0 rfl) ?_
  refine lv_iload_n hx hb dX5_start_1 rfl (lv_at hl 1 rfl) ?_
  refine hw_xr hI hxo (hw_xV hx hb hml hown hts hk hI (m_X5_machineAt l hst Z M (ad 0 0) (ad 0 1) (ad 0 2) (ad 0 3) (ad 0 4) (ad 0 8) (hs_np S) (hs_nw S) (hs_G S 0) (hs_G S 1) ka (ad 9) e0_0hP e0_3hP) cv_X5_134 e0_0hP rfl rfl ⟨rfl, rfl⟩ ⟨(Nat.le_of_ble_eq_true rfl), (Nat.le_of_ble_eq_true rfl)⟩ rfl hl.1 rfl (Nat.le_of_ble_eq_true rfl) ⟨(Nat.le_of_ble_eq_true rfl), (Nat.le_of_ble_eq_true rfl)⟩ dX5_start_2) (hq_xc (c := 1) (fun h => by unfold st_start; exact (hq_if (fun q => h q.1) ⟨rfl, rfl⟩)) ⟨by decide, rfl⟩) (Nat.le_of_ble_eq_true rfl) (Nat.le_of_ble_eq_true rfl) (fun r2 M2 H locs hR hI => ?_)
  obtain ⟨⟨hk2, rfl⟩, rfl⟩ := hR
  have hx2 := hb_okx (by omega) hk2
  have hi2 : hb_ix ka < 2 := by have := hx2.1; omega
  have hib : hb_ix (hs_M S (hb_ix ka) 1) < 6 := hB.mp hi2 hm
  have e9_hb_ix_kahP : M (ad 9 (hb_ix ka)) = hw_ob 1 [.int (nI (hb_ix ka)), .int (hs_M S (hb_ix ka) 0), .ref (ad 8 (hb_ix (hs_M S (hb_ix ka) 1))), .int (hs_M S (hb_ix ka) 2), .null, .ref (ad 10 (hb_ix ka)), .int (nI (hs_N S (hb_ix ka)))] := by
    have q := hP.m 9 (hb_ix ka) hi2
    rw [show hp_e Z ad S T 9 (hb_ix ka) = hw_ob 1 [.int (nI (hb_ix ka)), .int (hs_M S (hb_ix ka) 0), hp_ref (ad 8) (hs_M S (hb_ix ka) 1), .int (hs_M S (hb_ix ka) 2), hp_ref (ad 1) (hs_M S (hb_ix ka) 3), .ref (ad 10 (hb_ix ka)), .int (nI (hs_N S (hb_ix ka)))] from rfl] at q
    rw [hp_refs hm, hp_refn hg] at q
    exact q
  have e8_hb_ix_hs_M_S_hb_ix_ka_1hP : M (ad 8 (hb_ix (hs_M S (hb_ix ka) 1))) = hw_ob 4 [.int (nI (hb_ix (hs_M S (hb_ix ka) 1))), .int (hs_V S (hb_ix (hs_M S (hb_ix ka) 1)) 0), .int (hs_V S (hb_ix (hs_M S (hb_ix ka) 1)) 1), .int (hs_V S (hb_ix (hs_M S (hb_ix ka) 1)) 2), .int (hs_V S (hb_ix (hs_M S (hb_ix ka) 1)) 3), .int (hs_V S (hb_ix (hs_M S (hb_ix ka) 1)) 4)] := hP.m 8 (hb_ix (hs_M S (hb_ix ka) 1)) hib
  refine lv_astore (lv' := [(5, .ref (ad 9 (hb_ix ka))), (0, .ref (ad 0 0)), (1, .int ka), (2, .int kp), (3, .int kw), (4, .int kd)]) hx hb dX5_start_5 hl (by decide) rfl (fun ls hl => ?_)
  refine lv_aload_n hx hb dX5_start_7 rfl (lv_at hl 1 rfl) ?_
  refine lv_iload_n hx hb dX5_start_8 rfl (lv_at hl 3 rfl) ?_
  refine hw_xr hI hxo (hw_xV hx hb hml hown hts hk hI (m_X5_pieceAt l hst Z M (ad 0 0) (ad 0 1) (ad 0 2) (ad 0 3) (ad 0 4) (ad 0 8) (hs_np S) (hs_nw S) (hs_G S 0) (hs_G S 1) kp (ad 1) e0_0hP e0_1hP hnp) cv_X5_57 e0_0hP rfl rfl ⟨rfl, rfl⟩ ⟨(Nat.le_of_ble_eq_true rfl), (Nat.le_of_ble_eq_true rfl)⟩ rfl hl.1 rfl (Nat.le_of_ble_eq_true rfl) ⟨(Nat.le_of_ble_eq_true rfl), (Nat.le_of_ble_eq_true rfl)⟩ dX5_start_9) (hq_xc (c := 1) (fun h => by unfold st_start; exact (hq_if (fun q => h q.2) ⟨rfl, rfl⟩)) ⟨by decide, rfl⟩) (Nat.le_of_ble_eq_true rfl) (Nat.le_of_ble_eq_true rfl) (fun r9 M9 H locs hR hI => ?_)
  obtain ⟨⟨hk9, rfl⟩, rfl⟩ := hR
  have hx9 := hb_okx (by omega) hk9
  have hi9 : hb_ix kp < 4 := by have := hx9.1; omega
  have e1_hb_ix_kphP : M (ad 1 (hb_ix kp)) = hw_ob 3 [.int (nI (hb_ix kp)), .ref (ad 2 (hb_ix kp)), .ref (ad 6 (hb_ix kp)), .int (hs_P S (hb_ix kp) 0), .int (nI (hs_D S (hb_ix kp))), .double (hs_U S (hb_ix kp)), .int (hs_P S (hb_ix kp) 3), hp_ref (ad 9) (hs_P S (hb_ix kp) 4), .int (hs_P S (hb_ix kp) 5), .int (hs_P S (hb_ix kp) 6), .int (hs_P S (hb_ix kp) 7), .int (hs_P S (hb_ix kp) 8), .int (hs_P S (hb_ix kp) 9)] := hP.m 1 (hb_ix kp) hi9
  have e2_hb_ix_kphP : M (ad 2 (hb_ix kp)) = hw_ob 5 [.ref (ad 3 (hb_ix kp)), .ref (ad 4 (hb_ix kp)), .ref (ad 5 (hb_ix kp))] := hP.m 2 (hb_ix kp) hi9
  have e3_hb_ix_kphP : M (ad 3 (hb_ix kp)) = hw_al Z 8 (hs_C S (hb_ix kp)) := hP.m 3 (hb_ix kp) hi9
  refine lv_astore (lv' := [(6, .ref (ad 1 (hb_ix kp))), (5, .ref (ad 9 (hb_ix ka))), (0, .ref (ad 0 0)), (1, .int ka), (2, .int kp), (3, .int kw), (4, .int kd)]) hx hb dX5_start_12 hl (by decide) rfl (fun ls hl => ?_)
  refine lv_iload_n hx hb dX5_start_14 rfl (lv_at hl 5 rfl) ?_
  refine hw_xv hI hxo (hw_xS hx hb hml hown hts hk hI (m_X5_checkPower l hst Z M kw) cs_X5_177 ⟨rfl, rfl⟩ ⟨(Nat.le_of_ble_eq_true rfl), (Nat.le_of_ble_eq_true rfl)⟩ rfl hl.1 rfl (Nat.le_of_ble_eq_true rfl) ⟨(Nat.le_of_ble_eq_true rfl), (Nat.le_of_ble_eq_true rfl)⟩ dX5_start_15) (hq_xc (c := 2) (fun h => by unfold st_start; exact (hq_el (fun q => q ⟨hk2, hk9⟩) (hq_if (fun q => h q.1) ⟨rfl, rfl⟩))) ⟨by decide, rfl⟩) (Nat.le_of_ble_eq_true rfl) (Nat.le_of_ble_eq_true rfl) (fun M15 H locs hR hI => ?_)
  obtain ⟨hk15, rfl⟩ := hR
  refine lv_iload hx hb dX5_start_18 (lv_at hl 6 rfl) ?_
  refine lv_iconst (v := nI 1) hx hb dX5_start_20 (by decide) ?_
  refine lv_icmp_lt (tgt := 31) hx hb dX5_start_21 (by decide) (fun c21 => ?_) (fun c21 => ?_)
  · exact hthr hI th_X5_96_180_100 hl.1 dX5_start_31 dX5_start_34 dX5_start_35 dX5_start_37 dX5_start_40 (Nat.le_of_ble_eq_true rfl) (Nat.le_of_ble_eq_true rfl) (Nat.le_of_ble_eq_true rfl) (Nat.le_of_ble_eq_true rfl) (hq_x (c := 2) (by unfold st_start; exact (hq_el (fun q => q ⟨hk2, hk9⟩) (hq_if (fun q => q.2.1 c21) ⟨rfl, rfl⟩))) ⟨by decide, rfl⟩ rfl) (Nat.le_of_ble_eq_true rfl) (Nat.le_of_ble_eq_true rfl)
  · refine lv_iload hx hb dX5_start_24 (lv_at hl 6 rfl) ?_
    refine lv_bipush (v := nI 20) hx hb dX5_start_26 (by decide) ?_
    refine lv_icmp_le (tgt := 41) hx hb dX5_start_28 (by decide) (fun c28 => ?_) (fun c28 => ?_)
    · refine lv_aload hx hb dX5_start_41 (lv_at hl 0 rfl) ?_
      refine hw_xv hI hxo (hw_xS hx hb hml hown hts hk hI (m_X5_checkSolid l hst Z M (ad 1 (hb_ix kp)) (ad 2 (hb_ix kp)) (ad 6 (hb_ix kp)) (nI (hb_ix kp)) (hs_P S (hb_ix kp) 0) (hs_P S (hb_ix kp) 3) (hs_P S (hb_ix kp) 5) (hs_P S (hb_ix kp) 6) (hs_P S (hb_ix kp) 7) (hs_P S (hb_ix kp) 8) (hs_P S (hb_ix kp) 9) (hs_U S (hb_ix kp)) (hs_D S (hb_ix kp)) (hp_ref (ad 9) (hs_P S (hb_ix kp) 4)) e1_hb_ix_kphP) cs_X5_64 ⟨rfl, rfl⟩ ⟨(Nat.le_of_ble_eq_true rfl), (Nat.le_of_ble_eq_true rfl)⟩ rfl hl.1 rfl (Nat.le_of_ble_eq_true rfl) ⟨(Nat.le_of_ble_eq_true rfl), (Nat.le_of_ble_eq_true rfl)⟩ dX5_start_43) (hq_xc (c := 3) (fun h => by unfold st_start; exact (hq_el (fun q => q ⟨hk2, hk9⟩) (hq_el (fun q => q ⟨hk15, c21, c28⟩) (hq_if (Or.inl h) ⟨rfl, rfl⟩)))) ⟨by decide, rfl⟩) (Nat.le_of_ble_eq_true rfl) (Nat.le_of_ble_eq_true rfl) (fun M43 H locs hR hI => ?_)
      obtain ⟨hk43, rfl⟩ := hR
      refine lv_aload hx hb dX5_start_46 (lv_at hl 0 rfl) ?_
      refine hw_get hx hb hts hown hk hI fd_X5_68 e1_hb_ix_kphP rfl dX5_start_48 ?_
      refine hw_ci hI (hw_rV hx hb hml hown hts hk hI (m_X4_height l Z M (ad 2 (hb_ix kp)) (ad 3 (hb_ix kp)) (ad 4 (hb_ix kp)) (ad 5 (hb_ix kp)) (hs_C S (hb_ix kp)) e2_hb_ix_kphP e3_hb_ix_kphP) cv_X5_92 e2_hb_ix_kphP rfl rfl ⟨rfl, rfl⟩ ⟨(Nat.le_of_ble_eq_true rfl), (Nat.le_of_ble_eq_true rfl)⟩ rfl hl.1 rfl (Nat.le_of_ble_eq_true rfl) ⟨(Nat.le_of_ble_eq_true rfl), (Nat.le_of_ble_eq_true rfl)⟩ dX5_start_51) (fun r51 M51 H locs hR hI => ?_)
      obtain ⟨rfl, rfl⟩ := hR
      refine lv_if_ne (tgt := 67) hx hb dX5_start_54 (by decide) (fun c54 => ?_) (fun c54 => ?_)
      · refine lv_aload hx hb dX5_start_67 (lv_at hl 1 rfl) ?_
        refine hw_get hx hb hts hown hk hI fd_X5_162 e9_hb_ix_kahP rfl dX5_start_69 ?_
        refine lv_ifnullN (tgt := 85) hx hb dX5_start_72 (by decide) ?_
        refine lv_aload hx hb dX5_start_85 (lv_at hl 1 rfl) ?_
        refine hw_get hx hb hts hown hk hI fd_X5_138 e9_hb_ix_kahP rfl dX5_start_87 ?_
        refine lv_astore (lv' := [(7, .ref (ad 8 (hb_ix (hs_M S (hb_ix ka) 1)))), (6, .ref (ad 1 (hb_ix kp))), (5, .ref (ad 9 (hb_ix ka))), (0, .ref (ad 0 0)), (1, .int ka), (2, .int kp), (3, .int kw), (4, .int kd)]) hx hb dX5_start_90 hl (by decide) rfl (fun ls hl => ?_)
        refine lv_aload hx hb dX5_start_92 (lv_at hl 0 rfl) ?_
        refine lv_ifnonnull (tgt := 107) hx hb dX5_start_94 (by decide) ?_
        refine lv_aload hx hb dX5_start_107 (lv_at hl 1 rfl) ?_
        refine lv_aload hx hb dX5_start_109 (lv_at hl 2 rfl) ?_
        refine lv_aload hx hb dX5_start_111 (lv_at hl 0 rfl) ?_
        refine lv_iload_n hx hb dX5_start_113 rfl (lv_at hl 6 rfl) ?_
        refine lv_iload hx hb dX5_start_114 (lv_at hl 7 rfl) ?_
        refine hw_cv hI (hw_rV hx hb hml hown hts hk hI (m_X2_begin l Z M (ad 1 (hb_ix kp)) (ad 2 (hb_ix kp)) (ad 6 (hb_ix kp)) (nI (hb_ix kp)) (hs_P S (hb_ix kp) 0) (hs_P S (hb_ix kp) 3) (hs_P S (hb_ix kp) 5) (hs_P S (hb_ix kp) 6) (hs_P S (hb_ix kp) 7) (hs_P S (hb_ix kp) 8) (hs_P S (hb_ix kp) 9) (hs_U S (hb_ix kp)) (hs_D S (hb_ix kp)) (hp_ref (ad 9) (hs_P S (hb_ix kp) 4)) (ad 9 (hb_ix ka)) (ad 8 (hb_ix (hs_M S (hb_ix ka) 1))) (nI (hb_ix (hs_M S (hb_ix ka) 1))) (hs_V S (hb_ix (hs_M S (hb_ix ka) 1)) 0) (hs_V S (hb_ix (hs_M S (hb_ix ka) 1)) 1) (hs_V S (hb_ix (hs_M S (hb_ix ka) 1)) 2) (hs_V S (hb_ix (hs_M S (hb_ix ka) 1)) 3) (hs_V S (hb_ix (hs_M S (hb_ix ka) 1)) 4) kw kd e1_hb_ix_kphP e8_hb_ix_hs_M_S_hb_ix_ka_1hP) cv_X5_184 e1_hb_ix_kphP rfl rfl ⟨rfl, rfl⟩ ⟨(Nat.le_of_ble_eq_true rfl), (Nat.le_of_ble_eq_true rfl)⟩ rfl hl.1 rfl (Nat.le_of_ble_eq_true rfl) ⟨(Nat.le_of_ble_eq_true rfl), (Nat.le_of_ble_eq_true rfl)⟩ dX5_start_116) (fun M116 H locs hR hI => ?_)
        subst hR
        refine lv_aload hx hb dX5_start_119 (lv_at hl 2 rfl) ?_
        refine lv_aload hx hb dX5_start_121 (lv_at hl 1 rfl) ?_
        refine hw_put (fs' := [.int (nI (hb_ix ka)), .int (hs_M S (hb_ix ka) 0), .ref (ad 8 (hb_ix (hs_M S (hb_ix ka) 1))), .int (hs_M S (hb_ix ka) 2), .ref (ad 1 (hb_ix kp)), .ref (ad 10 (hb_ix ka)), .int (nI (hs_N S (hb_ix ka)))]) hx hb hts hown hk hI fp_X5_162 (hw_up e9_hb_ix_kahP (hP.n (k := 9) (i := (hb_ix ka)) (k' := 1) (i' := (hb_ix kp)) hi2 hi9 (fun q => absurd q.1 (by decide)))) (Nat.le_of_ble_eq_true rfl) rfl rfl rfl dX5_start_123 (fun H locs hI => ?_)
        refine lv_aload hx hb dX5_start_126 (lv_at hl 1 rfl) ?_
        refine hw_get hx hb hts hown hk hI fd_X5_68 (hw_up (hw_us _ _ _) (hP.n (k := 1) (i := (hb_ix kp)) (k' := 9) (i' := (hb_ix ka)) hi9 hi2 (fun q => absurd q.1 (by decide)))) rfl dX5_start_128 ?_
        refine hw_ci hI (hw_rV hx hb hml hown hts hk hI (m_X4_height l Z (va_up (va_up M (ad 1 (hb_ix kp)) (hw_ob 3 [.int (nI (hb_ix kp)), .ref (ad 2 (hb_ix kp)), .ref (ad 6 (hb_ix kp)), .int (nI 1), .int (nI (hs_D S (hb_ix kp))), .double (hs_U S (hb_ix kp)), .int (hs_P S (hb_ix kp) 3), .ref (ad 9 (hb_ix ka)), .int kw, .int kd, .int (hs_V S (hb_ix (hs_M S (hb_ix ka) 1)) 2), .int (hs_V S (hb_ix (hs_M S (hb_ix ka) 1)) 3), .int (hb_win (hs_V S (hb_ix (hs_M S (hb_ix ka) 1)) 0) kw kd)])) (ad 9 (hb_ix ka)) (hw_ob 1 [.int (nI (hb_ix ka)), .int (hs_M S (hb_ix ka) 0), .ref (ad 8 (hb_ix (hs_M S (hb_ix ka) 1))), .int (hs_M S (hb_ix ka) 2), .ref (ad 1 (hb_ix kp)), .ref (ad 10 (hb_ix ka)), .int (nI (hs_N S (hb_ix ka)))])) (ad 2 (hb_ix kp)) (ad 3 (hb_ix kp)) (ad 4 (hb_ix kp)) (ad 5 (hb_ix kp)) (hs_C S (hb_ix kp)) (hw_up (hw_up e2_hb_ix_kphP (hP.n (k := 2) (i := (hb_ix kp)) (k' := 1) (i' := (hb_ix kp)) hi9 hi9 (fun q => absurd q.1 (by decide)))) (hP.n (k := 2) (i := (hb_ix kp)) (k' := 9) (i' := (hb_ix ka)) hi9 hi2 (fun q => absurd q.1 (by decide)))) (hw_up (hw_up e3_hb_ix_kphP (hP.n (k := 3) (i := (hb_ix kp)) (k' := 1) (i' := (hb_ix kp)) hi9 hi9 (fun q => absurd q.1 (by decide)))) (hP.n (k := 3) (i := (hb_ix kp)) (k' := 9) (i' := (hb_ix ka)) hi9 hi2 (fun q => absurd q.1 (by decide))))) cv_X5_92 (hw_up (hw_up e2_hb_ix_kphP (hP.n (k := 2) (i := (hb_ix kp)) (k' := 1) (i' := (hb_ix kp)) hi9 hi9 (fun q => absurd q.1 (by decide)))) (hP.n (k := 2) (i := (hb_ix kp)) (k' := 9) (i' := (hb_ix ka)) hi9 hi2 (fun q => absurd q.1 (by decide)))) rfl rfl ⟨rfl, rfl⟩ ⟨(Nat.le_of_ble_eq_true rfl), (Nat.le_of_ble_eq_true rfl)⟩ rfl hl.1 rfl (Nat.le_of_ble_eq_true rfl) ⟨(Nat.le_of_ble_eq_true rfl), (Nat.le_of_ble_eq_true rfl)⟩ dX5_start_131) (fun r131 M131 H locs hR hI => ?_)
        obtain ⟨rfl, rfl⟩ := hR
        have hkn := hb_okn hk2
        have hkp := hb_okn hk9
        have ok_hfin : hp_ok Z b1 (va_up (va_up M (ad 1 (hb_ix kp)) (hw_ob 3 [.int (nI (hb_ix kp)), .ref (ad 2 (hb_ix kp)), .ref (ad 6 (hb_ix kp)), .int (nI 1), .int (nI (hs_D S (hb_ix kp))), .double (hs_U S (hb_ix kp)), .int (hs_P S (hb_ix kp) 3), .ref (ad 9 (hb_ix ka)), .int kw, .int kd, .int (hs_V S (hb_ix (hs_M S (hb_ix ka) 1)) 2), .int (hs_V S (hb_ix (hs_M S (hb_ix ka) 1)) 3), .int (hb_win (hs_V S (hb_ix (hs_M S (hb_ix ka) 1)) 0) kw kd)])) (ad 9 (hb_ix ka)) (hw_ob 1 [.int (nI (hb_ix ka)), .int (hs_M S (hb_ix ka) 0), .ref (ad 8 (hb_ix (hs_M S (hb_ix ka) 1))), .int (hs_M S (hb_ix ka) 2), .ref (ad 1 (hb_ix kp)), .ref (ad 10 (hb_ix ka)), .int (nI (hs_N S (hb_ix ka)))])) ad (hs_sM (hs_sP S (hb_ix kp) (va_up (va_up (va_up (va_up (va_up (va_up (va_up (hs_P S (hb_ix kp)) 0 (nI 1)) 4 ka) 5 kw) 6 kd) 7 (hs_V S (hb_ix (hs_M S (hb_ix ka) 1)) 2)) 8 (hs_V S (hb_ix (hs_M S (hb_ix ka) 1)) 3)) 9 (hb_win (hs_V S (hb_ix (hs_M S (hb_ix ka) 1)) 0) kw kd))) (hb_ix ka) (va_up (hs_M S (hb_ix ka)) 3 kp)) (T) := by
          refine hP.fin (fun k i hi => ?_) hP.h0 hP.s7
          by_cases q1 : k = 9 ∧ i = (hb_ix ka)
          · obtain ⟨rfl, qi⟩ := q1; obtain rfl := qi.symm
            rw [va_up_self]
            first | rfl | (simp only [hp_e, hp_e0, hp_hang0, va_up_self, ac_P_P, ac_D_P, ac_V_P, ac_M_P, ac_N_P, ac_Q_P, ac_C_P, ac_W_P, ac_U_P, ac_G_P, ac_np_P, ac_nw_P, ac_P_M, ac_D_M, ac_V_M, ac_M_M, ac_N_M, ac_Q_M, ac_C_M, ac_W_M, ac_U_M, ac_G_M, ac_np_M, ac_nw_M]; done) | (simp only [hp_e, hp_e0, hp_hang0, va_up_self, ac_P_P, ac_D_P, ac_V_P, ac_M_P, ac_N_P, ac_Q_P, ac_C_P, ac_W_P, ac_U_P, ac_G_P, ac_np_P, ac_nw_P, ac_P_M, ac_D_M, ac_V_M, ac_M_M, ac_N_M, ac_Q_M, ac_C_M, ac_W_M, ac_U_M, ac_G_M, ac_np_M, ac_nw_M]; rfl) | (simp only [hp_e, hp_e0, hp_hang0, va_up_self, ac_P_P, ac_D_P, ac_V_P, ac_M_P, ac_N_P, ac_Q_P, ac_C_P, ac_W_P, ac_U_P, ac_G_P, ac_np_P, ac_nw_P, ac_P_M, ac_D_M, ac_V_M, ac_M_M, ac_N_M, ac_Q_M, ac_C_M, ac_W_M, ac_U_M, ac_G_M, ac_np_M, ac_nw_M]; refine hw_ob7 ?_ ?_ ?_ ?_ ?_ ?_ ?_ <;> first | rfl | exact (hp_rn (by first | rfl | assumption)).symm | exact (hp_rr (by rfl) (by assumption)).symm)
          by_cases q0 : k = 1 ∧ i = (hb_ix kp)
          · obtain ⟨rfl, qi⟩ := q0; obtain rfl := qi.symm
            rw [va_up_ne _ _ (hP.n (k := 1) (i := (hb_ix kp)) (k' := 9) (i' := (hb_ix ka)) hi9 hi2 (fun q => absurd q.1 (by decide))), va_up_self]
            first | rfl | (simp only [hp_e, hp_e0, hp_hang0, va_up_self, ac_P_P, ac_D_P, ac_V_P, ac_M_P, ac_N_P, ac_Q_P, ac_C_P, ac_W_P, ac_U_P, ac_G_P, ac_np_P, ac_nw_P, ac_P_M, ac_D_M, ac_V_M, ac_M_M, ac_N_M, ac_Q_M, ac_C_M, ac_W_M, ac_U_M, ac_G_M, ac_np_M, ac_nw_M]; done) | (simp only [hp_e, hp_e0, hp_hang0, va_up_self, ac_P_P, ac_D_P, ac_V_P, ac_M_P, ac_N_P, ac_Q_P, ac_C_P, ac_W_P, ac_U_P, ac_G_P, ac_np_P, ac_nw_P, ac_P_M, ac_D_M, ac_V_M, ac_M_M, ac_N_M, ac_Q_M, ac_C_M, ac_W_M, ac_U_M, ac_G_M, ac_np_M, ac_nw_M]; rfl) | (simp only [hp_e, hp_e0, hp_hang0, va_up_self, ac_P_P, ac_D_P, ac_V_P, ac_M_P, ac_N_P, ac_Q_P, ac_C_P, ac_W_P, ac_U_P, ac_G_P, ac_np_P, ac_nw_P, ac_P_M, ac_D_M, ac_V_M, ac_M_M, ac_N_M, ac_Q_M, ac_C_M, ac_W_M, ac_U_M, ac_G_M, ac_np_M, ac_nw_M]; refine hw_ob13 ?_ ?_ ?_ ?_ ?_ ?_ ?_ ?_ ?_ ?_ ?_ ?_ ?_ <;> first | rfl | exact (hp_rn (by first | rfl | assumption)).symm | exact (hp_rr (by rfl) (by assumption)).symm)
          by_cases qn0 : k = 6 ∧ i = (hb_ix kp)
          · obtain ⟨rfl, qi⟩ := qn0; obtain rfl := qi.symm
            rw [va_up_ne _ _ (hP.n (k := 6) (i := (hb_ix kp)) (k' := 9) (i' := (hb_ix ka)) hi9 hi2 (fun q => absurd q.1 (by decide))), va_up_ne _ _ (hP.n (k := 6) (i := (hb_ix kp)) (k' := 1) (i' := (hb_ix kp)) hi9 hi9 (fun q => absurd q.1 (by decide)))]
            refine (hP.m 6 (hb_ix kp) hi).trans ?_
            first | rfl | (simp only [hp_e, hp_e0, hp_hang0, va_up_self, ac_P_P, ac_D_P, ac_V_P, ac_M_P, ac_N_P, ac_Q_P, ac_C_P, ac_W_P, ac_U_P, ac_G_P, ac_np_P, ac_nw_P, ac_P_M, ac_D_M, ac_V_M, ac_M_M, ac_N_M, ac_Q_M, ac_C_M, ac_W_M, ac_U_M, ac_G_M, ac_np_M, ac_nw_M]; done) | (simp only [hp_e, hp_e0, hp_hang0, va_up_self, ac_P_P, ac_D_P, ac_V_P, ac_M_P, ac_N_P, ac_Q_P, ac_C_P, ac_W_P, ac_U_P, ac_G_P, ac_np_P, ac_nw_P, ac_P_M, ac_D_M, ac_V_M, ac_M_M, ac_N_M, ac_Q_M, ac_C_M, ac_W_M, ac_U_M, ac_G_M, ac_np_M, ac_nw_M]; rfl)
          rw [va_up_ne _ _ (hP.n (k := k) (i := i) (k' := 9) (i' := (hb_ix ka)) hi hi2 q1), va_up_ne _ _ (hP.n (k := k) (i := i) (k' := 1) (i' := (hb_ix kp)) hi hi9 q0)]
          exact (hP.m k i hi).trans (((sm_M (k := k) (i := i) _ _ (by omega)).trans (sm_P (k := k) (i := i) _ _ (by omega)))).symm
        have fr_hfin : ∀ a, b1 a → (va_up (va_up M (ad 1 (hb_ix kp)) (hw_ob 3 [.int (nI (hb_ix kp)), .ref (ad 2 (hb_ix kp)), .ref (ad 6 (hb_ix kp)), .int (nI 1), .int (nI (hs_D S (hb_ix kp))), .double (hs_U S (hb_ix kp)), .int (hs_P S (hb_ix kp) 3), .ref (ad 9 (hb_ix ka)), .int kw, .int kd, .int (hs_V S (hb_ix (hs_M S (hb_ix ka) 1)) 2), .int (hs_V S (hb_ix (hs_M S (hb_ix ka) 1)) 3), .int (hb_win (hs_V S (hb_ix (hs_M S (hb_ix ka) 1)) 0) kw kd)])) (ad 9 (hb_ix ka)) (hw_ob 1 [.int (nI (hb_ix ka)), .int (hs_M S (hb_ix ka) 0), .ref (ad 8 (hb_ix (hs_M S (hb_ix ka) 1))), .int (hs_M S (hb_ix ka) 2), .ref (ad 1 (hb_ix kp)), .ref (ad 10 (hb_ix ka)), .int (nI (hs_N S (hb_ix ka)))])) a = M a := by
          intro a ha
          rw [va_up_ne _ _ (hP.f (k := 9) (i := (hb_ix ka)) hi2 ha), va_up_ne _ _ (hP.f (k := 1) (i := (hb_ix kp)) hi9 ha)]
        have hfin : hq_R Z b1 M ad (st_start S ka kp kw kd) (nI (hb_ht (hs_C S (hb_ix kp)) 8)) (va_up (va_up M (ad 1 (hb_ix kp)) (hw_ob 3 [.int (nI (hb_ix kp)), .ref (ad 2 (hb_ix kp)), .ref (ad 6 (hb_ix kp)), .int (nI 1), .int (nI (hs_D S (hb_ix kp))), .double (hs_U S (hb_ix kp)), .int (hs_P S (hb_ix kp) 3), .ref (ad 9 (hb_ix ka)), .int kw, .int kd, .int (hs_V S (hb_ix (hs_M S (hb_ix ka) 1)) 2), .int (hs_V S (hb_ix (hs_M S (hb_ix ka) 1)) 3), .int (hb_win (hs_V S (hb_ix (hs_M S (hb_ix ka) 1)) 0) kw kd)])) (ad 9 (hb_ix ka)) (hw_ob 1 [.int (nI (hb_ix ka)), .int (hs_M S (hb_ix ka) 0), .ref (ad 8 (hb_ix (hs_M S (hb_ix ka) 1))), .int (hs_M S (hb_ix ka) 2), .ref (ad 1 (hb_ix kp)), .ref (ad 10 (hb_ix ka)), .int (nI (hs_N S (hb_ix ka)))])) := hq_r (S' := hs_sM (hs_sP S (hb_ix kp) (va_up (va_up (va_up (va_up (va_up (va_up (va_up (hs_P S (hb_ix kp)) 0 (nI 1)) 4 ka) 5 kw) 6 kd) 7 (hs_V S (hb_ix (hs_M S (hb_ix ka) 1)) 2)) 8 (hs_V S (hb_ix (hs_M S (hb_ix ka) 1)) 3)) 9 (hb_win (hs_V S (hb_ix (hs_M S (hb_ix ka) 1)) 0) kw kd))) (hb_ix ka) (va_up (hs_M S (hb_ix ka)) 3 kp)) (T' := T) (by unfold st_start; exact ((if_neg (fun q => q ⟨hk2, hk9⟩)).trans ((if_neg (fun q => q ⟨hk15, c21, c28⟩)).trans ((if_neg (fun q => q.elim (fun q => q hk43) (fun q => q.elim (hq_z c54) (fun q => q.elim (fun q => q hg) hm)))).trans rfl)))) ok_hfin fr_hfin
        exact hret hI hfin (Nat.le_of_ble_eq_true rfl) (Nat.le_of_ble_eq_true rfl) dX5_start_134
      · exact hthr hI th_X5_50_182_54 hl.1 dX5_start_57 dX5_start_60 dX5_start_61 dX5_start_63 dX5_start_66 (Nat.le_of_ble_eq_true rfl) (Nat.le_of_ble_eq_true rfl) (Nat.le_of_ble_eq_true rfl) (Nat.le_of_ble_eq_true rfl) (hq_x (c := 3) (by unfold st_start; exact (hq_el (fun q => q ⟨hk2, hk9⟩) (hq_el (fun q => q ⟨hk15, c21, c28⟩) (hq_if (Or.inr (Or.inl (hq_ht c54))) ⟨rfl, rfl⟩)))) ⟨by decide, rfl⟩ rfl) (Nat.le_of_ble_eq_true rfl) (Nat.le_of_ble_eq_true rfl)
    · exact hthr hI th_X5_96_180_100 hl.1 dX5_start_31 dX5_start_34 dX5_start_35 dX5_start_37 dX5_start_40 (Nat.le_of_ble_eq_true rfl) (Nat.le_of_ble_eq_true rfl) (Nat.le_of_ble_eq_true rfl) (Nat.le_of_ble_eq_true rfl) (hq_x (c := 2) (by unfold st_start; exact (hq_el (fun q => q ⟨hk2, hk9⟩) (hq_if (fun q => c28 q.2.2) ⟨rfl, rfl⟩))) ⟨by decide, rfl⟩ rfl) (Nat.le_of_ble_eq_true rfl) (Nat.le_of_ble_eq_true rfl)

theorem m_X5_start (l : Launch) (hst : l.stackTraces = false) (Z : hw_Z) (M : hw_M) (ad : hp_ad) (S : hs_S) (T : hp_T) (b1 : Nat → Prop) (ka : Int32) (kp : Int32) (kw : Int32) (kd : Int32) (hP : hp_ok Z b1 M ad S T) (hB : hs_b S) : vx_Met l yX5_start (hw_m yX5_start cX5_start 8 (some .int)) ({ frames := 9, cells := 6, slots := 36, locals := 190 } : Room) (va_Pc [.ref (ad 0 0), .int ka, .int kp, .int kw, .int kd] (hw_P Z M)) (hw_Qi Z (hq_R Z b1 M ad (st_start S ka kp kw kd))) (hw_X Z (hq_X ["java/lang/IndexOutOfBoundsException", "java/lang/IllegalArgumentException", "java/lang/IllegalStateException"] M S (st_start S ka kp kw kd))) 6 36 (hw_A Z) := by
  by_cases hm : hs_M S (hb_ix ka) 1 = -1
  · by_cases hg : hs_M S (hb_ix ka) 3 = -1
    · exact m_X5_start_nn l hst Z M ad S T b1 ka kp kw kd hP hB hm hg
    · exact m_X5_start_s l hst Z M ad S T b1 ka kp kw kd hP hB hg
  · by_cases hg : hs_M S (hb_ix ka) 3 = -1
    · exact m_X5_start_sn l hst Z M ad S T b1 ka kp kw kd hP hB hm hg
    · exact m_X5_start_s l hst Z M ad S T b1 ka kp kw kd hP hB hg
