theorem fn_X11_86 : hw_FN RX11 86 10 5 [.int 0, .int 0, .int 0, .int 0, .int 0] := ⟨RX9, TX9, tyX9, rfl, iw_X9, tyX9_ok, (hw_win (w := .classLink RX11 86 RX9) (by decide +kernel) (by decide +kernel)), (hw_win (w := .instantiable RX9 5) (by decide +kernel) (by decide +kernel)), (hw_win (w := .initialized RX9) (by decide +kernel) (by decide +kernel)), fun j hj => by rcases (show j = 0 ∨ j = 1 ∨ j = 2 ∨ j = 3 ∨ j = 4 by omega) with rfl | rfl | rfl | rfl | rfl <;> rfl⟩
theorem cb_X9_init (own : String) (index : Nat) : hw_CB own index yX9_init cX9_init 4 none 3 := ⟨⟨by decide +kernel, by decide +kernel, by decide +kernel⟩, (hw_win (w := .code yX9_init cX9_init 4 none) (by decide +kernel) (by decide +kernel)), (hw_win (w := .initialized yX9_init.cls) (by decide +kernel) (by decide +kernel))⟩
theorem ci_X11_88 : hw_CI RX11 88 yX9_init cX9_init 4 3 := ⟨cb_X9_init _ _, (hw_win (w := .methodLink RX11 88 yX9_init) (by decide +kernel) (by decide +kernel)), (hw_win (w := .instanceMethod yX9_init) (by decide +kernel) (by decide +kernel)), rfl⟩
theorem cb_X11_isPowder (own : String) (index : Nat) : hw_CB own index yX11_isPowder cX11_isPowder 2 (some .boolean) 1 := ⟨⟨by decide +kernel, by decide +kernel, by decide +kernel⟩, (hw_win (w := .code yX11_isPowder cX11_isPowder 2 (some .boolean)) (by decide +kernel) (by decide +kernel)), (hw_win (w := .initialized yX11_isPowder.cls) (by decide +kernel) (by decide +kernel))⟩
theorem cv_X11_91 : hw_CV RX11 91 yX11_isPowder cX11_isPowder 2 (some .boolean) 1 := ⟨cb_X11_isPowder _ _, (hw_win (w := .methodLink RX11 91 yX11_isPowder) (by decide +kernel) (by decide +kernel)), (hw_win (w := .instanceMethod yX11_isPowder) (by decide +kernel) (by decide +kernel)), (hw_win (w := .selects yX11_isPowder.cls yX11_isPowder yX11_isPowder) (by decide +kernel) (by decide +kernel))⟩
theorem fd_X11_94 : hw_FD RX11 94 10 0 := ⟨RX9, TX9, 5, "MeltPoolModel$Powder", rfl, by decide, iw_X9, (hw_win (w := .fieldLink RX11 94 "MeltPoolModel$Powder" (TX9 0).2.1 (TX9 0).2.2.1) (by decide +kernel) (by decide +kernel)), Or.inl rfl⟩
theorem fd_X11_97 : hw_FD RX11 97 10 4 := ⟨RX9, TX9, 5, "MeltPoolModel$Powder", rfl, by decide, iw_X9, (hw_win (w := .fieldLink RX11 97 "MeltPoolModel$Powder" (TX9 4).2.1 (TX9 4).2.2.1) (by decide +kernel) (by decide +kernel)), Or.inl rfl⟩
theorem fd_X11_100 : hw_FD RX11 100 10 1 := ⟨RX9, TX9, 5, "MeltPoolModel$Powder", rfl, by decide, iw_X9, (hw_win (w := .fieldLink RX11 100 "MeltPoolModel$Powder" (TX9 1).2.1 (TX9 1).2.2.1) (by decide +kernel) (by decide +kernel)), Or.inl rfl⟩
theorem fp_X11_100 : hw_FP RX11 100 10 1 (.int) false := ⟨RX9, TX9, 5, "MeltPoolModel$Powder", tyX9, rfl, by decide, iw_X9, (hw_win (w := .fieldLink RX11 100 "MeltPoolModel$Powder" (TX9 1).2.1 (TX9 1).2.2.1) (by decide +kernel) (by decide +kernel)), Or.inl rfl, tyX9_ok, nmX9, rfl, (fun h => by cases h), by decide +kernel⟩
theorem fd_X11_103 : hw_FD RX11 103 10 2 := ⟨RX9, TX9, 5, "MeltPoolModel$Powder", rfl, by decide, iw_X9, (hw_win (w := .fieldLink RX11 103 "MeltPoolModel$Powder" (TX9 2).2.1 (TX9 2).2.2.1) (by decide +kernel) (by decide +kernel)), Or.inl rfl⟩
theorem fp_X11_103 : hw_FP RX11 103 10 2 (.int) false := ⟨RX9, TX9, 5, "MeltPoolModel$Powder", tyX9, rfl, by decide, iw_X9, (hw_win (w := .fieldLink RX11 103 "MeltPoolModel$Powder" (TX9 2).2.1 (TX9 2).2.2.1) (by decide +kernel) (by decide +kernel)), Or.inl rfl, tyX9_ok, nmX9, rfl, (fun h => by cases h), by decide +kernel⟩
theorem fd_X11_112 : hw_FD RX11 112 10 3 := ⟨RX9, TX9, 5, "MeltPoolModel$Powder", rfl, by decide, iw_X9, (hw_win (w := .fieldLink RX11 112 "MeltPoolModel$Powder" (TX9 3).2.1 (TX9 3).2.2.1) (by decide +kernel) (by decide +kernel)), Or.inl rfl⟩
theorem fp_X11_112 : hw_FP RX11 112 10 3 (.int) false := ⟨RX9, TX9, 5, "MeltPoolModel$Powder", tyX9, rfl, by decide, iw_X9, (hw_win (w := .fieldLink RX11 112 "MeltPoolModel$Powder" (TX9 3).2.1 (TX9 3).2.2.1) (by decide +kernel) (by decide +kernel)), Or.inl rfl, tyX9_ok, nmX9, rfl, (fun h => by cases h), by decide +kernel⟩
theorem cb_X11_isMachine (own : String) (index : Nat) : hw_CB own index yX11_isMachine cX11_isMachine 1 (some .boolean) 1 := ⟨⟨by decide +kernel, by decide +kernel, by decide +kernel⟩, (hw_win (w := .code yX11_isMachine cX11_isMachine 1 (some .boolean)) (by decide +kernel) (by decide +kernel)), (hw_win (w := .initialized yX11_isMachine.cls) (by decide +kernel) (by decide +kernel))⟩
theorem cs_X11_115 : hw_CS RX11 115 yX11_isMachine cX11_isMachine 1 (some .boolean) 1 := ⟨cb_X11_isMachine _ _, (hw_win (w := .methodLink RX11 115 yX11_isMachine) (by decide +kernel) (by decide +kernel)), (hw_win (w := .static yX11_isMachine) (by decide +kernel) (by decide +kernel))⟩
theorem fd_X11_22 : hw_FD RX11 22 12 5 := ⟨RX11, TX11, 6, "MeltPoolModel", rfl, by decide, iw_X11, (hw_win (w := .fieldLink RX11 22 "MeltPoolModel" (TX11 5).2.1 (TX11 5).2.2.1) (by decide +kernel) (by decide +kernel)), Or.inl rfl⟩
theorem fd_X11_118 : hw_FD RX11 118 8 1 := ⟨RX7, TX7, 5, "MeltPoolModel$Machine", rfl, by decide, iw_X7, (hw_win (w := .fieldLink RX11 118 "MeltPoolModel$Machine" (TX7 1).2.1 (TX7 1).2.2.1) (by decide +kernel) (by decide +kernel)), Or.inl rfl⟩
theorem fd_X11_121 : hw_FD RX11 121 8 0 := ⟨RX7, TX7, 5, "MeltPoolModel$Machine", rfl, by decide, iw_X7, (hw_win (w := .fieldLink RX11 121 "MeltPoolModel$Machine" (TX7 0).2.1 (TX7 0).2.2.1) (by decide +kernel) (by decide +kernel)), Or.inl rfl⟩
theorem fp_X11_121 : hw_FP RX11 121 8 0 (.int) false := ⟨RX7, TX7, 5, "MeltPoolModel$Machine", tyX7, rfl, by decide, iw_X7, (hw_win (w := .fieldLink RX11 121 "MeltPoolModel$Machine" (TX7 0).2.1 (TX7 0).2.2.1) (by decide +kernel) (by decide +kernel)), Or.inl rfl, tyX7_ok, nmX7, rfl, (fun h => by cases h), by decide +kernel⟩
theorem fp_X11_118 : hw_FP RX11 118 8 1 (.int) false := ⟨RX7, TX7, 5, "MeltPoolModel$Machine", tyX7, rfl, by decide, iw_X7, (hw_win (w := .fieldLink RX11 118 "MeltPoolModel$Machine" (TX7 1).2.1 (TX7 1).2.2.1) (by decide +kernel) (by decide +kernel)), Or.inl rfl, tyX7_ok, nmX7, rfl, (fun h => by cases h), by decide +kernel⟩
theorem fp_X11_124 : hw_FP RX11 124 8 2 (.int) false := ⟨RX7, TX7, 5, "MeltPoolModel$Machine", tyX7, rfl, by decide, iw_X7, (hw_win (w := .fieldLink RX11 124 "MeltPoolModel$Machine" (TX7 2).2.1 (TX7 2).2.2.1) (by decide +kernel) (by decide +kernel)), Or.inl rfl, tyX7_ok, nmX7, rfl, (fun h => by cases h), by decide +kernel⟩
theorem fp_X11_97 : hw_FP RX11 97 10 4 (.int) false := ⟨RX9, TX9, 5, "MeltPoolModel$Powder", tyX9, rfl, by decide, iw_X9, (hw_win (w := .fieldLink RX11 97 "MeltPoolModel$Powder" (TX9 4).2.1 (TX9 4).2.2.1) (by decide +kernel) (by decide +kernel)), Or.inl rfl, tyX9_ok, nmX9, rfl, (fun h => by cases h), by decide +kernel⟩
theorem fd_X11_124 : hw_FD RX11 124 8 2 := ⟨RX7, TX7, 5, "MeltPoolModel$Machine", rfl, by decide, iw_X7, (hw_win (w := .fieldLink RX11 124 "MeltPoolModel$Machine" (TX7 2).2.1 (TX7 2).2.2.1) (by decide +kernel) (by decide +kernel)), Or.inl rfl⟩
theorem fd_X11_127 : hw_FD RX11 127 8 3 := ⟨RX7, TX7, 5, "MeltPoolModel$Machine", rfl, by decide, iw_X7, (hw_win (w := .fieldLink RX11 127 "MeltPoolModel$Machine" (TX7 3).2.1 (TX7 3).2.2.1) (by decide +kernel) (by decide +kernel)), Or.inl rfl⟩
theorem cb_X11_giveBack (own : String) (index : Nat) : hw_CB own index yX11_giveBack cX11_giveBack 4 (some (.object "MeltPoolModel$Powder")) 2 := ⟨⟨by decide +kernel, by decide +kernel, by decide +kernel⟩, (hw_win (w := .code yX11_giveBack cX11_giveBack 4 (some (.object "MeltPoolModel$Powder"))) (by decide +kernel) (by decide +kernel)), (hw_win (w := .initialized yX11_giveBack.cls) (by decide +kernel) (by decide +kernel))⟩
theorem cv_X11_130 : hw_CV RX11 130 yX11_giveBack cX11_giveBack 4 (some (.object "MeltPoolModel$Powder")) 2 := ⟨cb_X11_giveBack _ _, (hw_win (w := .methodLink RX11 130 yX11_giveBack) (by decide +kernel) (by decide +kernel)), (hw_win (w := .instanceMethod yX11_giveBack) (by decide +kernel) (by decide +kernel)), (hw_win (w := .selects yX11_giveBack.cls yX11_giveBack yX11_giveBack) (by decide +kernel) (by decide +kernel))⟩
theorem fd_X11_186 : hw_FD RX11 186 9 3 := ⟨RX8, TX8, 9, "MeltPoolModel$Piece", rfl, by decide, iw_X8, (hw_win (w := .fieldLink RX11 186 "MeltPoolModel$Piece" (TX8 3).2.1 (TX8 3).2.2.1) (by decide +kernel) (by decide +kernel)), Or.inl rfl⟩
theorem fp_X11_186 : hw_FP RX11 186 9 3 (.int) false := ⟨RX8, TX8, 9, "MeltPoolModel$Piece", tyX8, rfl, by decide, iw_X8, (hw_win (w := .fieldLink RX11 186 "MeltPoolModel$Piece" (TX8 3).2.1 (TX8 3).2.2.1) (by decide +kernel) (by decide +kernel)), Or.inl rfl, tyX8_ok, nmX8, rfl, (fun h => by cases h), by decide +kernel⟩
theorem fd_X11_182 : hw_FD RX11 182 7 1 := ⟨RX6, TX6, 6, "MeltPoolModel$Growth", rfl, by decide, iw_X6, (hw_win (w := .fieldLink RX11 182 "MeltPoolModel$Growth" (TX6 1).2.1 (TX6 1).2.2.1) (by decide +kernel) (by decide +kernel)), Or.inl rfl⟩
theorem cb_X10_laid (own : String) (index : Nat) : hw_CB own index yX10_laid cX10_laid 10 (some (.object "MeltPoolModel$Solid")) 1 := ⟨⟨by decide +kernel, by decide +kernel, by decide +kernel⟩, (hw_win (w := .code yX10_laid cX10_laid 10 (some (.object "MeltPoolModel$Solid"))) (by decide +kernel) (by decide +kernel)), (hw_win (w := .initialized yX10_laid.cls) (by decide +kernel) (by decide +kernel))⟩
theorem cv_X11_79 : hw_CV RX11 79 yX10_laid cX10_laid 10 (some (.object "MeltPoolModel$Solid")) 1 := ⟨cb_X10_laid _ _, (hw_win (w := .methodLink RX11 79 yX10_laid) (by decide +kernel) (by decide +kernel)), (hw_win (w := .instanceMethod yX10_laid) (by decide +kernel) (by decide +kernel)), (hw_win (w := .selects yX10_laid.cls yX10_laid yX10_laid) (by decide +kernel) (by decide +kernel))⟩
theorem fp_X11_66 : hw_FP RX11 66 9 0 (.object "MeltPoolModel$Solid") false := ⟨RX8, TX8, 9, "MeltPoolModel$Piece", tyX8, rfl, by decide, iw_X8, (hw_win (w := .fieldLink RX11 66 "MeltPoolModel$Piece" (TX8 0).2.1 (TX8 0).2.2.1) (by decide +kernel) (by decide +kernel)), Or.inl rfl, tyX8_ok, nmX8, rfl, (fun h => by cases h), by decide +kernel⟩
theorem cv_X11_83 : hw_CV RX11 83 yX10_height cX10_height 2 (some .int) 0 := ⟨cb_X10_height _ _, (hw_win (w := .methodLink RX11 83 yX10_height) (by decide +kernel) (by decide +kernel)), (hw_win (w := .instanceMethod yX10_height) (by decide +kernel) (by decide +kernel)), (hw_win (w := .selects yX10_height.cls yX10_height yX10_height) (by decide +kernel) (by decide +kernel))⟩
set_option maxHeartbeats 4000000 in
set_option maxRecDepth 100000 in
theorem m_X11_powder_z (l : Launch) (Z : hw_Z) (M : hw_M) (ad : hp_ad) (S : hs_S) (X : hr_X) (b1 : Nat → Prop) (ka : Int32) (kg : Int32) (hP : hr_ok Z b1 M ad S X) (hV : hv_ok S) (hA : ∀ a, b1 a → M a ≠ none) (hz : hs_nw S = 0) : Met l yX11_powder (hw_m yX11_powder cX11_powder 3 (some .int)) ({ frames := 8, cells := 6, slots := 110, locals := 250 } : Room) (va_Pc [.ref (ad 0 0), .int ka, .int kg] (hw_P Z M)) (hw_Qi Z (hr_R Z b1 M ad (st_powder S ka kg))) 6 110 (hw_A Z) := by
  refine hw_ofi (by decide +kernel) rfl (Nat.le_of_ble_eq_true rfl) ?_
  intro p e s m below meth c ls Q hx hb hml hown hts hk hnm hI hl hret
  have hB := hV.b
  have hnp := hB.np
  have hnw := hB.nw
  have e0_0hP : M (ad 0 0) = hw_ob 12 [.int (hr_th X), .int (hs_G S 0), .int (hs_G S 1), .ref (ad 0 2), .ref (ad 0 3), .ref (ad 0 1)] := hP.m 0 0 (show 0 < 4 by decide)
  refine lv_aload_n hx hb dX11_powder_0 rfl (lv_at hl 0 rfl) ?_
  refine lv_iconst (v := nI 0) hx hb dX11_powder_1 (by decide) ?_
  refine hw_put (fs' := [.int (nI 0), .int (hs_G S 0), .int (hs_G S 1), .ref (ad 0 2), .ref (ad 0 3), .ref (ad 0 1)]) hx hb hts hown hk hI fp_X11_26 e0_0hP (Nat.le_of_ble_eq_true rfl) rfl rfl rfl dX11_powder_2 (fun H locs hI => ?_)
  obtain ⟨M1, hM1⟩ : ∃ Y : hw_M, Y = va_up M (ad 0 0) (hw_ob 12 [.int (nI 0), .int (hs_G S 0), .int (hs_G S 1), .ref (ad 0 2), .ref (ad 0 3), .ref (ad 0 1)]) := ⟨_, rfl⟩
  replace hI := hI.eq hM1.symm
  obtain ⟨X1, hX1⟩ : ∃ Y : hr_X, Y = (nI 0, X.2) := ⟨_, rfl⟩
  have hP1 : hr_ok Z b1 M1 ad S X1 := by rw [hM1, hX1]; exact hP.th (nI 0)
  have ht1 : hr_th X1 = nI 0 := by rw [hX1]; rfl
  have hgr1 : hr_gr X1 = hr_gr X := by rw [hX1]; rfl
  have hqq1 : hr_qq X1 = hr_qq X := by rw [hX1]; rfl
  have fr1 : ∀ a, b1 a → M1 a = M a := fun a ha => by rw [hM1]; exact va_up_ne _ _ (hP.f (k := 0) (i := 0) (show 0 < 4 by decide) ha)
  have hA1 : ∀ a, b1 a → M1 a ≠ none := fun a ha => by rw [fr1 a ha]; exact hA a ha
  clear hP hX1
  have e0_0hP1 : M1 (ad 0 0) = hw_ob 12 [.int (hr_th X1), .int (hs_G S 0), .int (hs_G S 1), .ref (ad 0 2), .ref (ad 0 3), .ref (ad 0 1)] := hP1.m 0 0 (show 0 < 4 by decide)
  have e0_3hP1 : M1 (ad 0 3) = hw_ob 0 [.int (hr_mc X1 1), .ref Z.2.2.2, .int (nI 0)] := by
    have q := hP1.m 0 3 (show 3 < 4 by decide)
    rw [show hr_e Z ad S X1 0 3 = hw_ob 0 [.int (hr_mc X1 1), .ref (hr_d (hs_nw S) Z.2.2.2 (ad 12 0)), .int (nI (hs_nw S))] from rfl, hr_dz hz, hz] at q
    exact q
  refine lv_iload_n hx hb dX11_powder_5 rfl (lv_at hl 1 rfl) ?_
  refine lv_iconst (v := nI 0) hx hb dX11_powder_6 (by decide) ?_
  refine lv_iconst (v := nI 2) hx hb dX11_powder_7 (by decide) ?_
  refine hw_ci hI (hw_rS hx hb hml hown hts hk hI (m_X11_in l Z M1 ka (nI 0) (nI 2)) cs_X11_40 ⟨rfl, rfl⟩ ⟨(Nat.le_of_ble_eq_true rfl), (Nat.le_of_ble_eq_true rfl)⟩ rfl hl.1 rfl (Nat.le_of_ble_eq_true rfl) ⟨(Nat.le_of_ble_eq_true rfl), (Nat.le_of_ble_eq_true rfl)⟩ dX11_powder_8) (fun r8 M8 H locs hR hI => ?_)
  obtain ⟨rfl, rfl⟩ := hR
  refine hw_ti (congrArg (fun b => nI (Bool.toNat b)) (hb_in_okL (k := ka) (n := 2) (by decide))) ?_
  refine lv_if_eq (tgt := 25) hx hb dX11_powder_11 (by decide) (fun c11 => ?_) (fun c11 => ?_)
  · refine lv_aload_n hx hb dX11_powder_25 rfl (lv_at hl 0 rfl) ?_
    refine lv_iconst (v := nI 1) hx hb dX11_powder_26 (by decide) ?_
    refine hw_ci hI (hw_rV hx hb hml hown hts hk hI (m_X11_no l Z M1 (ad 0 0) (ad 0 2) (ad 0 3) (ad 0 1) (hr_th X1) (hs_G S 0) (hs_G S 1) (nI 1) e0_0hP1) cv_X11_44 e0_0hP1 rfl rfl ⟨rfl, rfl⟩ ⟨(Nat.le_of_ble_eq_true rfl), (Nat.le_of_ble_eq_true rfl)⟩ rfl hl.1 rfl (Nat.le_of_ble_eq_true rfl) ⟨(Nat.le_of_ble_eq_true rfl), (Nat.le_of_ble_eq_true rfl)⟩ dX11_powder_27) (fun r27 M27 H locs hR hI => ?_)
    obtain ⟨rfl, rfl⟩ := hR
    exact hret hI (hr_x (n := 1) (by unfold st_powder; exact (hq_if (fun q => hq_df c11 q.1) ⟨rfl, rfl⟩)) (by decide) (hP1.th (nI 1)) rfl (fun a ha => (va_up_ne _ _ (hP1.f (k := 0) (i := 0) (show 0 < 4 by decide) ha)).trans (fr1 a ha))) (Nat.le_of_ble_eq_true rfl) (Nat.le_of_ble_eq_true rfl) dX11_powder_30
  · refine lv_iload_n hx hb dX11_powder_14 rfl (lv_at hl 2 rfl) ?_
    refine lv_iconst (v := nI 1) hx hb dX11_powder_15 (by decide) ?_
    refine lv_sipush (v := nI 2000) hx hb dX11_powder_16 (by decide) ?_
    refine hw_ci hI (hw_rS hx hb hml hown hts hk hI (m_X11_in l Z M1 kg (nI 1) (nI 2000)) cs_X11_40 ⟨rfl, rfl⟩ ⟨(Nat.le_of_ble_eq_true rfl), (Nat.le_of_ble_eq_true rfl)⟩ rfl hl.1 rfl (Nat.le_of_ble_eq_true rfl) ⟨(Nat.le_of_ble_eq_true rfl), (Nat.le_of_ble_eq_true rfl)⟩ dX11_powder_19) (fun r19 M19 H locs hR hI => ?_)
    obtain ⟨rfl, rfl⟩ := hR
    refine hw_ti (congrArg (fun b => nI (Bool.toNat b)) hb_in_ge) ?_
    refine lv_if_ne (tgt := 31) hx hb dX11_powder_22 (by decide) (fun c22 => ?_) (fun c22 => ?_)
    · have gk := hq_dt c11
      have gk2 := hq_dt c22
      refine lv_aload_n hx hb dX11_powder_31 rfl (lv_at hl 0 rfl) ?_
      refine hw_get hx hb hts hown hk hI fd_X11_16 e0_0hP1 rfl dX11_powder_32 ?_
      refine hw_cFi hI (hw_rF hx hb hml hown hts hk hI (m_Jx4a65c_size_8abf5 l Z M1 (ad 0 3) 0 (hr_mc X1 1) (.ref Z.2.2.2) e0_3hP1) cf_X11_34 e0_3hP1 rfl rfl ⟨rfl, rfl⟩ ⟨(Nat.le_of_ble_eq_true rfl), (Nat.le_of_ble_eq_true rfl)⟩ rfl hl.1 rfl (Nat.le_of_ble_eq_true rfl) ⟨(Nat.le_of_ble_eq_true rfl), (Nat.le_of_ble_eq_true rfl)⟩ dX11_powder_35) (fun r35 M35 H locs hR hI => ?_)
      obtain ⟨rfl, rfl⟩ := hR
      refine lv_bipush (v := nI 6) hx hb dX11_powder_40 (by decide) ?_
      refine lv_icmp_ne (tgt := 51) hx hb dX11_powder_42 (by decide) (fun _ => ?_) (fun hc => absurd hc (by decide))
      refine lv_aload_n hx hb dX11_powder_51 rfl (lv_at hl 0 rfl) ?_
      refine hw_get hx hb hts hown hk hI fd_X11_16 e0_0hP1 rfl dX11_powder_52 ?_
      refine hw_new hx hb hts hown hk hI fn_X11_86 (Nat.le_of_ble_eq_true rfl) (Nat.le_of_ble_eq_true rfl) dX11_powder_55 (fun q55 H hq55 hI => ?_)
      refine lv_dup hx hb dX11_powder_58 rfl ?_
      refine lv_iload_n hx hb dX11_powder_59 rfl (lv_at hl 1 rfl) ?_
      refine lv_iload_n hx hb dX11_powder_60 rfl (lv_at hl 2 rfl) ?_
      refine lv_iconst (v := nI 1) hx hb dX11_powder_61 (by decide) ?_
      refine lv_aload_n hx hb dX11_powder_62 rfl (lv_at hl 0 rfl) ?_
      refine hw_get hx hb hts hown hk hI fd_X11_16 (hw_up e0_0hP1 (hw_nn e0_0hP1 hq55)) rfl dX11_powder_63 ?_
      refine hw_cFi hI (hw_rF hx hb hml hown hts hk hI (m_Jx4a65c_size_8abf5 l Z (va_up M1 q55 (hw_ob 10 [.int 0, .int 0, .int 0, .int 0, .int 0])) (ad 0 3) 0 (hr_mc X1 1) (.ref Z.2.2.2) (hw_up e0_3hP1 (hw_nn e0_3hP1 hq55))) cf_X11_34 (hw_up e0_3hP1 (hw_nn e0_3hP1 hq55)) rfl rfl ⟨rfl, rfl⟩ ⟨(Nat.le_of_ble_eq_true rfl), (Nat.le_of_ble_eq_true rfl)⟩ rfl hl.1 rfl (Nat.le_of_ble_eq_true rfl) ⟨(Nat.le_of_ble_eq_true rfl), (Nat.le_of_ble_eq_true rfl)⟩ dX11_powder_66) (fun r66 M66 H locs hR hI => ?_)
      obtain ⟨rfl, rfl⟩ := hR
      refine lv_ishl hx hb dX11_powder_71 ?_
      refine hw_cv hI (hw_rI hx hb hml hown hts hk hI (m_X9_init l Z (va_up M1 q55 (hw_ob 10 [.int 0, .int 0, .int 0, .int 0, .int 0])) q55 ka kg ((nI 1) <<< ((nI 0) &&& 31)) (hw_us _ _ _)) ci_X11_88 ⟨rfl, rfl⟩ ⟨(Nat.le_of_ble_eq_true rfl), (Nat.le_of_ble_eq_true rfl)⟩ rfl hl.1 rfl (Nat.le_of_ble_eq_true rfl) ⟨(Nat.le_of_ble_eq_true rfl), (Nat.le_of_ble_eq_true rfl)⟩ dX11_powder_72) (fun M72 H locs hR hI => ?_)
      subst hR
      refine hw_cFi hI (hw_rF hx hb hml hown hts hk hI (m_add_W0 l Z (va_up (va_up M1 q55 (hw_ob 10 [.int 0, .int 0, .int 0, .int 0, .int 0])) q55 (hw_ob 10 [.int ka, .int kg, .int 0, .int ((nI 1) <<< ((nI 0) &&& 31)), .int (-1)])) (ad 0 3) q55 (hr_mc X1 1) ([.int ka, .int kg, .int 0, .int ((nI 1) <<< ((nI 0) &&& 31)), .int (-1)]) (hw_up (hw_up e0_3hP1 (hw_nn e0_3hP1 hq55)) (hw_nn e0_3hP1 hq55)) (hw_us _ _ _)) cf_X11_51 (hw_up (hw_up e0_3hP1 (hw_nn e0_3hP1 hq55)) (hw_nn e0_3hP1 hq55)) rfl rfl ⟨rfl, rfl⟩ ⟨(Nat.le_of_ble_eq_true rfl), (Nat.le_of_ble_eq_true rfl)⟩ rfl hl.1 rfl (Nat.le_of_ble_eq_true rfl) ⟨(Nat.le_of_ble_eq_true rfl), (Nat.le_of_ble_eq_true rfl)⟩ dX11_powder_75) (fun r75 M75 H locs hR hI => ?_)
      obtain ⟨d75, hn75, hr75, rfl⟩ := hR
      refine lv_pop hx hb dX11_powder_80 rfl ?_
      refine lv_aload_n hx hb dX11_powder_81 rfl (lv_at hl 0 rfl) ?_
      refine hw_get hx hb hts hown hk hI fd_X11_16 (hw_up (hw_up (hw_up (hw_up e0_0hP1 (hw_nn e0_0hP1 hq55)) (hw_nn e0_0hP1 hq55)) (hw_nn (hw_up (hw_up e0_0hP1 (hw_nn e0_0hP1 hq55)) (hw_nn e0_0hP1 hq55)) hn75)) (hP1.n (k := 0) (i := 0) (k' := 0) (i' := 3) (show 0 < 4 by decide) (show 3 < 4 by decide) (fun q => absurd q.2 (by decide)))) rfl dX11_powder_82 ?_
      refine hw_cFi hI (hw_rF hx hb hml hown hts hk hI (m_Jx4a65c_size_8abf5 l Z (va_up (va_up (va_up (va_up M1 q55 (hw_ob 10 [.int 0, .int 0, .int 0, .int 0, .int 0])) q55 (hw_ob 10 [.int ka, .int kg, .int 0, .int ((nI 1) <<< ((nI 0) &&& 31)), .int (-1)])) d75 (hw_ar Z 7 10 (va_up (fun _ => none) 0 (some q55)))) (ad 0 3) (hw_ob 0 [.int ((hr_mc X1 1) + nI 1), .ref d75, .int (nI 1)])) (ad 0 3) 1 ((hr_mc X1 1) + nI 1) (.ref d75) (hw_us _ _ _)) cf_X11_34 (hw_us _ _ _) rfl rfl ⟨rfl, rfl⟩ ⟨(Nat.le_of_ble_eq_true rfl), (Nat.le_of_ble_eq_true rfl)⟩ rfl hl.1 rfl (Nat.le_of_ble_eq_true rfl) ⟨(Nat.le_of_ble_eq_true rfl), (Nat.le_of_ble_eq_true rfl)⟩ dX11_powder_85) (fun r85 M85 H locs hR hI => ?_)
      obtain ⟨rfl, rfl⟩ := hR
      refine lv_iconst (v := nI 1) hx hb dX11_powder_90 (by decide) ?_
      refine lv_isub hx hb dX11_powder_91 ?_
      refine hw_ti (show nI 1 - nI 1 = nI (hs_nw S) by rw [hz]; decide) ?_
      have hn6 : hs_nw S < 6 := by have h : ¬ hs_nw S = 6 := fun q => (by omega); omega
      obtain ⟨z2, z3, z4⟩ := hV.newV (Nat.le_refl _) hn6
      rw [hz] at z2 z3 z4
      have hok : hr_ok Z b1 (va_up (va_up (va_up (va_up M1 q55 (hw_ob 10 [.int 0, .int 0, .int 0, .int 0, .int 0])) q55 (hw_ob 10 [.int ka, .int kg, .int 0, .int ((nI 1) <<< ((nI 0) &&& 31)), .int (-1)])) d75 (hw_ar Z 7 10 (va_up (fun _ => none) 0 (some q55)))) (ad 0 3) (hw_ob 0 [.int ((hr_mc X1 1) + nI 1), .ref d75, .int (nI 1)])) (hr_ua (hr_ua ad 6 (va_up (ad 6) (hs_nw S) q55)) 12 (va_up (ad 12) 0 d75)) (hs_sw (hs_sV S (hs_nw S) (va_up (va_up (hs_V S (hs_nw S)) 0 ka) 1 kg)) (hs_nw S + 1)) (hr_smc X1 1 (hr_mc X1 1 + nI 1)) := by
        refine hr_new (nn := fun k i => (k = 6 ∧ i = (hs_nw S)) ∨ (k = 12 ∧ i = 0)) hP1 hA1 (fun k i hi => ?_) (fun k i k' i' h h' he => ?_) ?_ hP1.q hP1.g
        · rcases k with _ | _ | _ | _ | _ | _ | _ | _ | _ | _ | _ | _ | _ | k
          · exact Or.inl ⟨hi, rfl⟩
          · exact Or.inl ⟨hi, rfl⟩
          · exact Or.inl ⟨hi, rfl⟩
          · exact Or.inl ⟨hi, rfl⟩
          · exact Or.inl ⟨hi, rfl⟩
          · exact Or.inl ⟨hi, rfl⟩
          · by_cases q0 : i = (hs_nw S)
            · subst q0
              exact Or.inr ⟨Or.inl ⟨rfl, rfl⟩, (congrArg M1 (va_up_self _ _ _)).trans hq55⟩
            · exact Or.inl ⟨(show i < hs_nw S by have h9 : i < hs_nw S + 1 := hi; omega), va_up_ne _ _ q0⟩
          · exact Or.inl ⟨hi, rfl⟩
          · exact Or.inl ⟨hi, rfl⟩
          · exact Or.inl ⟨hi, rfl⟩
          · exact Or.inl ⟨hi, rfl⟩
          · exact Or.inl ⟨hi, rfl⟩
          · by_cases q0 : i = 0
            · subst q0
              exact Or.inr ⟨Or.inr (⟨rfl, rfl⟩), (hb_no (hb_no hn75))⟩
            · exact Or.inl ⟨(absurd hi.1 q0), va_up_ne _ _ q0⟩
          · exact hi.elim
        · rcases h with ⟨rfl, rfl⟩ | ⟨rfl, rfl⟩ <;> rcases h' with ⟨rfl, rfl⟩ | ⟨rfl, rfl⟩
          · exact ⟨rfl, rfl⟩
          · exact absurd (((va_up_self _ _ _ : (va_up (ad 6) (hs_nw S) q55) (hs_nw S) = q55).symm.trans he).trans (va_up_self _ _ _ : (va_up (ad 12) 0 d75) 0 = d75)) (hw_nn (hw_us _ _ _) hn75)
          · exact absurd (((va_up_self _ _ _ : (va_up (ad 12) 0 d75) 0 = d75).symm.trans he).trans (va_up_self _ _ _ : (va_up (ad 6) (hs_nw S) q55) (hs_nw S) = q55)) (Ne.symm (hw_nn (hw_us _ _ _) hn75))
          · exact ⟨rfl, rfl⟩
        · intro k i hi
          rcases k with _ | _ | _ | _ | _ | _ | _ | _ | _ | _ | _ | _ | _ | k
          · rcases (show i = 0 ∨ i = 1 ∨ i = 2 ∨ i = 3 by have h4 : i < 4 := hi; omega) with rfl | rfl | rfl | rfl
            · show (va_up (va_up (va_up (va_up M1 q55 (hw_ob 10 [.int 0, .int 0, .int 0, .int 0, .int 0])) q55 (hw_ob 10 [.int ka, .int kg, .int 0, .int ((nI 1) <<< ((nI 0) &&& 31)), .int (-1)])) d75 (hw_ar Z 7 10 (va_up (fun _ => none) 0 (some q55)))) (ad 0 3) (hw_ob 0 [.int ((hr_mc X1 1) + nI 1), .ref d75, .int (nI 1)])) (ad 0 0) = hw_ob 12 [.int (hr_th X1), .int (hs_G S 0), .int (hs_G S 1), .ref (ad 0 2), .ref (ad 0 3), .ref (ad 0 1)]
              rw [va_up_ne _ _ (hP1.n (k := 0) (i := 0) (k' := 0) (i' := 3) (show 0 < 4 by decide) (show 3 < 4 by decide) (fun q => absurd q.2 (by decide))), va_up_ne _ _ (hw_xn (hP1.a 0 0 (show 0 < 4 by decide)) (hb_no (hb_no hn75))), va_up_ne _ _ (hw_xn (hP1.a 0 0 (show 0 < 4 by decide)) hq55), va_up_ne _ _ (hw_xn (hP1.a 0 0 (show 0 < 4 by decide)) hq55)]
              refine (hP1.m 0 0 (show 0 < 4 by decide)).trans ?_
              first | rfl | (simp only [va_up_self, va_up_ne _ _ (show 0 ≠ 1 by omega)]; done) | (simp only [va_up_self, va_up_ne _ _ (show 0 ≠ 1 by omega)]; rfl) | (simp only [va_up_self, va_up_ne _ _ (show 0 ≠ 1 by omega), va_up_ne _ _ (show (2 : Nat) ≠ 1 by decide), va_up_ne _ _ (show (2 : Nat) ≠ 0 by decide), va_up_ne _ _ (show (3 : Nat) ≠ 1 by decide), va_up_ne _ _ (show (3 : Nat) ≠ 0 by decide), va_up_ne _ _ (show (4 : Nat) ≠ 1 by decide), va_up_ne _ _ (show (4 : Nat) ≠ 0 by decide), va_up_ne _ _ (show (0 : Nat) ≠ 1 by decide), z2, z3, z4, hr_fs, hr_ds, hz, hr_f1 (ad 6)]; done)
            · show (va_up (va_up (va_up (va_up M1 q55 (hw_ob 10 [.int 0, .int 0, .int 0, .int 0, .int 0])) q55 (hw_ob 10 [.int ka, .int kg, .int 0, .int ((nI 1) <<< ((nI 0) &&& 31)), .int (-1)])) d75 (hw_ar Z 7 10 (va_up (fun _ => none) 0 (some q55)))) (ad 0 3) (hw_ob 0 [.int ((hr_mc X1 1) + nI 1), .ref d75, .int (nI 1)])) (ad 0 1) = hw_ar Z 6 2 (fun j => some (ad 7 j))
              rw [va_up_ne _ _ (hP1.n (k := 0) (i := 1) (k' := 0) (i' := 3) (show 1 < 4 by decide) (show 3 < 4 by decide) (fun q => absurd q.2 (by decide))), va_up_ne _ _ (hw_xn (hP1.a 0 1 (show 1 < 4 by decide)) (hb_no (hb_no hn75))), va_up_ne _ _ (hw_xn (hP1.a 0 1 (show 1 < 4 by decide)) hq55), va_up_ne _ _ (hw_xn (hP1.a 0 1 (show 1 < 4 by decide)) hq55)]
              refine (hP1.m 0 1 (show 1 < 4 by decide)).trans ?_
              first | rfl | (simp only [va_up_self, va_up_ne _ _ (show 0 ≠ 1 by omega)]; done) | (simp only [va_up_self, va_up_ne _ _ (show 0 ≠ 1 by omega)]; rfl) | (simp only [va_up_self, va_up_ne _ _ (show 0 ≠ 1 by omega), va_up_ne _ _ (show (2 : Nat) ≠ 1 by decide), va_up_ne _ _ (show (2 : Nat) ≠ 0 by decide), va_up_ne _ _ (show (3 : Nat) ≠ 1 by decide), va_up_ne _ _ (show (3 : Nat) ≠ 0 by decide), va_up_ne _ _ (show (4 : Nat) ≠ 1 by decide), va_up_ne _ _ (show (4 : Nat) ≠ 0 by decide), va_up_ne _ _ (show (0 : Nat) ≠ 1 by decide), z2, z3, z4, hr_fs, hr_ds, hz, hr_f1 (ad 6)]; done)
            · show (va_up (va_up (va_up (va_up M1 q55 (hw_ob 10 [.int 0, .int 0, .int 0, .int 0, .int 0])) q55 (hw_ob 10 [.int ka, .int kg, .int 0, .int ((nI 1) <<< ((nI 0) &&& 31)), .int (-1)])) d75 (hw_ar Z 7 10 (va_up (fun _ => none) 0 (some q55)))) (ad 0 3) (hw_ob 0 [.int ((hr_mc X1 1) + nI 1), .ref d75, .int (nI 1)])) (ad 0 2) = hw_ob 0 [.int ((va_up (hr_mc X1) 1 (hr_mc X1 1 + nI 1)) 0), .ref (hr_d (hs_np S) Z.2.2.2 (ad 11 0)), .int (nI (hs_np S))]
              rw [va_up_ne _ _ (hP1.n (k := 0) (i := 2) (k' := 0) (i' := 3) (show 2 < 4 by decide) (show 3 < 4 by decide) (fun q => absurd q.2 (by decide))), va_up_ne _ _ (hw_xn (hP1.a 0 2 (show 2 < 4 by decide)) (hb_no (hb_no hn75))), va_up_ne _ _ (hw_xn (hP1.a 0 2 (show 2 < 4 by decide)) hq55), va_up_ne _ _ (hw_xn (hP1.a 0 2 (show 2 < 4 by decide)) hq55)]
              refine (hP1.m 0 2 (show 2 < 4 by decide)).trans ?_
              first | rfl | (simp only [va_up_self, va_up_ne _ _ (show 0 ≠ 1 by omega)]; done) | (simp only [va_up_self, va_up_ne _ _ (show 0 ≠ 1 by omega)]; rfl) | (simp only [va_up_self, va_up_ne _ _ (show 0 ≠ 1 by omega), va_up_ne _ _ (show (2 : Nat) ≠ 1 by decide), va_up_ne _ _ (show (2 : Nat) ≠ 0 by decide), va_up_ne _ _ (show (3 : Nat) ≠ 1 by decide), va_up_ne _ _ (show (3 : Nat) ≠ 0 by decide), va_up_ne _ _ (show (4 : Nat) ≠ 1 by decide), va_up_ne _ _ (show (4 : Nat) ≠ 0 by decide), va_up_ne _ _ (show (0 : Nat) ≠ 1 by decide), z2, z3, z4, hr_fs, hr_ds, hz, hr_f1 (ad 6)]; done)
            · show (va_up (va_up (va_up (va_up M1 q55 (hw_ob 10 [.int 0, .int 0, .int 0, .int 0, .int 0])) q55 (hw_ob 10 [.int ka, .int kg, .int 0, .int ((nI 1) <<< ((nI 0) &&& 31)), .int (-1)])) d75 (hw_ar Z 7 10 (va_up (fun _ => none) 0 (some q55)))) (ad 0 3) (hw_ob 0 [.int ((hr_mc X1 1) + nI 1), .ref d75, .int (nI 1)])) (ad 0 3) = hw_ob 0 [.int ((va_up (hr_mc X1) 1 (hr_mc X1 1 + nI 1)) 1), .ref (hr_d (hs_nw S + 1) Z.2.2.2 ((va_up (ad 12) 0 d75) 0)), .int (nI (hs_nw S + 1))]
              refine (hw_us _ _ _).trans ?_
              first | rfl | (simp only [va_up_self, va_up_ne _ _ (show 0 ≠ 1 by omega)]; done) | (simp only [va_up_self, va_up_ne _ _ (show 0 ≠ 1 by omega)]; rfl) | (simp only [va_up_self, va_up_ne _ _ (show 0 ≠ 1 by omega), va_up_ne _ _ (show (2 : Nat) ≠ 1 by decide), va_up_ne _ _ (show (2 : Nat) ≠ 0 by decide), va_up_ne _ _ (show (3 : Nat) ≠ 1 by decide), va_up_ne _ _ (show (3 : Nat) ≠ 0 by decide), va_up_ne _ _ (show (4 : Nat) ≠ 1 by decide), va_up_ne _ _ (show (4 : Nat) ≠ 0 by decide), va_up_ne _ _ (show (0 : Nat) ≠ 1 by decide), z2, z3, z4, hr_fs, hr_ds, hz, hr_f1 (ad 6)]; done) | (simp only [va_up_self, va_up_ne _ _ (show 0 ≠ 1 by omega), va_up_ne _ _ (show (2 : Nat) ≠ 1 by decide), va_up_ne _ _ (show (2 : Nat) ≠ 0 by decide), va_up_ne _ _ (show (3 : Nat) ≠ 1 by decide), va_up_ne _ _ (show (3 : Nat) ≠ 0 by decide), va_up_ne _ _ (show (4 : Nat) ≠ 1 by decide), va_up_ne _ _ (show (4 : Nat) ≠ 0 by decide), va_up_ne _ _ (show (0 : Nat) ≠ 1 by decide), z2, z3, z4, hr_fs, hr_ds, hz, hr_f1 (ad 6)]; rfl)
          · show (va_up (va_up (va_up (va_up M1 q55 (hw_ob 10 [.int 0, .int 0, .int 0, .int 0, .int 0])) q55 (hw_ob 10 [.int ka, .int kg, .int 0, .int ((nI 1) <<< ((nI 0) &&& 31)), .int (-1)])) d75 (hw_ar Z 7 10 (va_up (fun _ => none) 0 (some q55)))) (ad 0 3) (hw_ob 0 [.int ((hr_mc X1 1) + nI 1), .ref d75, .int (nI 1)])) (ad 1 i) = hw_ob 9 [.ref (ad 2 i), .int (hs_P S i 0), .ref (ad 4 i), .int (hs_P S i 3), .int (hs_P S i 4), .int (hs_P S i 5), .int (hs_P S i 6), .int (hs_P S i 7), .int (hs_P S i 8)]
            rw [va_up_ne _ _ (hP1.n (k := 1) (i := i) (k' := 0) (i' := 3) hi (show 3 < 4 by decide) (fun q => absurd q.1 (by decide))), va_up_ne _ _ (hw_xn (hP1.a 1 i hi) (hb_no (hb_no hn75))), va_up_ne _ _ (hw_xn (hP1.a 1 i hi) hq55), va_up_ne _ _ (hw_xn (hP1.a 1 i hi) hq55)]
            refine (hP1.m 1 i hi).trans ?_
            first | rfl
          · show (va_up (va_up (va_up (va_up M1 q55 (hw_ob 10 [.int 0, .int 0, .int 0, .int 0, .int 0])) q55 (hw_ob 10 [.int ka, .int kg, .int 0, .int ((nI 1) <<< ((nI 0) &&& 31)), .int (-1)])) d75 (hw_ar Z 7 10 (va_up (fun _ => none) 0 (some q55)))) (ad 0 3) (hw_ob 0 [.int ((hr_mc X1 1) + nI 1), .ref d75, .int (nI 1)])) (ad 2 i) = hw_ob 11 [.ref (ad 3 i)]
            rw [va_up_ne _ _ (hP1.n (k := 2) (i := i) (k' := 0) (i' := 3) hi (show 3 < 4 by decide) (fun q => absurd q.1 (by decide))), va_up_ne _ _ (hw_xn (hP1.a 2 i hi) (hb_no (hb_no hn75))), va_up_ne _ _ (hw_xn (hP1.a 2 i hi) hq55), va_up_ne _ _ (hw_xn (hP1.a 2 i hi) hq55)]
            refine (hP1.m 2 i hi).trans ?_
            first | rfl
          · show (va_up (va_up (va_up (va_up M1 q55 (hw_ob 10 [.int 0, .int 0, .int 0, .int 0, .int 0])) q55 (hw_ob 10 [.int ka, .int kg, .int 0, .int ((nI 1) <<< ((nI 0) &&& 31)), .int (-1)])) d75 (hw_ar Z 7 10 (va_up (fun _ => none) 0 (some q55)))) (ad 0 3) (hw_ob 0 [.int ((hr_mc X1 1) + nI 1), .ref d75, .int (nI 1)])) (ad 3 i) = hw_al Z 8 (hs_C S i)
            rw [va_up_ne _ _ (hP1.n (k := 3) (i := i) (k' := 0) (i' := 3) hi (show 3 < 4 by decide) (fun q => absurd q.1 (by decide))), va_up_ne _ _ (hw_xn (hP1.a 3 i hi) (hb_no (hb_no hn75))), va_up_ne _ _ (hw_xn (hP1.a 3 i hi) hq55), va_up_ne _ _ (hw_xn (hP1.a 3 i hi) hq55)]
            refine (hP1.m 3 i hi).trans ?_
            first | rfl
          · show (va_up (va_up (va_up (va_up M1 q55 (hw_ob 10 [.int 0, .int 0, .int 0, .int 0, .int 0])) q55 (hw_ob 10 [.int ka, .int kg, .int 0, .int ((nI 1) <<< ((nI 0) &&& 31)), .int (-1)])) d75 (hw_ar Z 7 10 (va_up (fun _ => none) 0 (some q55)))) (ad 0 3) (hw_ob 0 [.int ((hr_mc X1 1) + nI 1), .ref d75, .int (nI 1)])) (ad 4 i) = hw_ob 7 [.double (hr_en (hs_P S i)), .ref (ad 5 i), .double (hs_U S i), .int (hs_P S i 1), .int (hs_P S i 2), .int (nI (hs_D S i))]
            rw [va_up_ne _ _ (hP1.n (k := 4) (i := i) (k' := 0) (i' := 3) hi (show 3 < 4 by decide) (fun q => absurd q.1 (by decide))), va_up_ne _ _ (hw_xn (hP1.a 4 i hi) (hb_no (hb_no hn75))), va_up_ne _ _ (hw_xn (hP1.a 4 i hi) hq55), va_up_ne _ _ (hw_xn (hP1.a 4 i hi) hq55)]
            refine (hP1.m 4 i hi).trans ?_
            first | rfl
          · show (va_up (va_up (va_up (va_up M1 q55 (hw_ob 10 [.int 0, .int 0, .int 0, .int 0, .int 0])) q55 (hw_ob 10 [.int ka, .int kg, .int 0, .int ((nI 1) <<< ((nI 0) &&& 31)), .int (-1)])) d75 (hw_ar Z 7 10 (va_up (fun _ => none) 0 (some q55)))) (ad 0 3) (hw_ob 0 [.int ((hr_mc X1 1) + nI 1), .ref d75, .int (nI 1)])) (ad 5 i) = hw_ad Z 64 (hs_W S i)
            rw [va_up_ne _ _ (hP1.n (k := 5) (i := i) (k' := 0) (i' := 3) hi (show 3 < 4 by decide) (fun q => absurd q.1 (by decide))), va_up_ne _ _ (hw_xn (hP1.a 5 i hi) (hb_no (hb_no hn75))), va_up_ne _ _ (hw_xn (hP1.a 5 i hi) hq55), va_up_ne _ _ (hw_xn (hP1.a 5 i hi) hq55)]
            refine (hP1.m 5 i hi).trans ?_
            first | rfl
          · by_cases q0 : i = (hs_nw S)
            · subst q0
              show (va_up (va_up (va_up (va_up M1 q55 (hw_ob 10 [.int 0, .int 0, .int 0, .int 0, .int 0])) q55 (hw_ob 10 [.int ka, .int kg, .int 0, .int ((nI 1) <<< ((nI 0) &&& 31)), .int (-1)])) d75 (hw_ar Z 7 10 (va_up (fun _ => none) 0 (some q55)))) (ad 0 3) (hw_ob 0 [.int ((hr_mc X1 1) + nI 1), .ref d75, .int (nI 1)])) ((va_up (ad 6) (hs_nw S) q55) (hs_nw S)) = hw_ob 10 [.int ((va_up (hs_V S) (hs_nw S) (va_up (va_up (hs_V S (hs_nw S)) 0 ka) 1 kg)) (hs_nw S) 0), .int ((va_up (hs_V S) (hs_nw S) (va_up (va_up (hs_V S (hs_nw S)) 0 ka) 1 kg)) (hs_nw S) 1), .int ((va_up (hs_V S) (hs_nw S) (va_up (va_up (hs_V S (hs_nw S)) 0 ka) 1 kg)) (hs_nw S) 2), .int ((va_up (hs_V S) (hs_nw S) (va_up (va_up (hs_V S (hs_nw S)) 0 ka) 1 kg)) (hs_nw S) 3), .int ((va_up (hs_V S) (hs_nw S) (va_up (va_up (hs_V S (hs_nw S)) 0 ka) 1 kg)) (hs_nw S) 4)]
              rw [show (va_up (ad 6) (hs_nw S) q55) (hs_nw S) = q55 from va_up_self _ _ _]
              refine (hw_up (hw_up (hw_us _ _ _) (hw_nn (hw_us _ _ _) hn75)) (Ne.symm (hw_nn e0_3hP1 hq55))).trans ?_
              first | rfl | (simp only [va_up_self, va_up_ne _ _ (show 0 ≠ 1 by omega)]; done) | (simp only [va_up_self, va_up_ne _ _ (show 0 ≠ 1 by omega)]; rfl) | (simp only [va_up_self, va_up_ne _ _ (show 0 ≠ 1 by omega), va_up_ne _ _ (show (2 : Nat) ≠ 1 by decide), va_up_ne _ _ (show (2 : Nat) ≠ 0 by decide), va_up_ne _ _ (show (3 : Nat) ≠ 1 by decide), va_up_ne _ _ (show (3 : Nat) ≠ 0 by decide), va_up_ne _ _ (show (4 : Nat) ≠ 1 by decide), va_up_ne _ _ (show (4 : Nat) ≠ 0 by decide), va_up_ne _ _ (show (0 : Nat) ≠ 1 by decide), z2, z3, z4, hr_fs, hr_ds, hz, hr_f1 (ad 6)]; done) | (simp only [va_up_self, va_up_ne _ _ (show 0 ≠ 1 by omega), va_up_ne _ _ (show (2 : Nat) ≠ 1 by decide), va_up_ne _ _ (show (2 : Nat) ≠ 0 by decide), va_up_ne _ _ (show (3 : Nat) ≠ 1 by decide), va_up_ne _ _ (show (3 : Nat) ≠ 0 by decide), va_up_ne _ _ (show (4 : Nat) ≠ 1 by decide), va_up_ne _ _ (show (4 : Nat) ≠ 0 by decide), va_up_ne _ _ (show (0 : Nat) ≠ 1 by decide), z2, z3, z4, hr_fs, hr_ds, hz, hr_f1 (ad 6)]; rfl)
            have hi0 := hi
            replace hi0 : hr_p S X1 6 i := (show i < hs_nw S by have h9 : i < hs_nw S + 1 := hi; omega)
            show (va_up (va_up (va_up (va_up M1 q55 (hw_ob 10 [.int 0, .int 0, .int 0, .int 0, .int 0])) q55 (hw_ob 10 [.int ka, .int kg, .int 0, .int ((nI 1) <<< ((nI 0) &&& 31)), .int (-1)])) d75 (hw_ar Z 7 10 (va_up (fun _ => none) 0 (some q55)))) (ad 0 3) (hw_ob 0 [.int ((hr_mc X1 1) + nI 1), .ref d75, .int (nI 1)])) ((va_up (ad 6) (hs_nw S) q55) i) = hw_ob 10 [.int ((va_up (hs_V S) (hs_nw S) (va_up (va_up (hs_V S (hs_nw S)) 0 ka) 1 kg)) i 0), .int ((va_up (hs_V S) (hs_nw S) (va_up (va_up (hs_V S (hs_nw S)) 0 ka) 1 kg)) i 1), .int ((va_up (hs_V S) (hs_nw S) (va_up (va_up (hs_V S (hs_nw S)) 0 ka) 1 kg)) i 2), .int ((va_up (hs_V S) (hs_nw S) (va_up (va_up (hs_V S (hs_nw S)) 0 ka) 1 kg)) i 3), .int ((va_up (hs_V S) (hs_nw S) (va_up (va_up (hs_V S (hs_nw S)) 0 ka) 1 kg)) i 4)]
            rw [va_up_ne _ _ q0]
            rw [va_up_ne _ _ (hP1.n (k := 6) (i := i) (k' := 0) (i' := 3) hi0 (show 3 < 4 by decide) (fun q => absurd q.1 (by decide))), va_up_ne _ _ (hw_xn (hP1.a 6 i hi0) (hb_no (hb_no hn75))), va_up_ne _ _ (hw_xn (hP1.a 6 i hi0) hq55), va_up_ne _ _ (hw_xn (hP1.a 6 i hi0) hq55)]
            refine (hP1.m 6 i hi0).trans ?_
            first | rfl | (simp only [va_up_ne _ _ q0]; done) | (simp only [va_up_ne _ _ q0]; rfl)
          · show (va_up (va_up (va_up (va_up M1 q55 (hw_ob 10 [.int 0, .int 0, .int 0, .int 0, .int 0])) q55 (hw_ob 10 [.int ka, .int kg, .int 0, .int ((nI 1) <<< ((nI 0) &&& 31)), .int (-1)])) d75 (hw_ar Z 7 10 (va_up (fun _ => none) 0 (some q55)))) (ad 0 3) (hw_ob 0 [.int ((hr_mc X1 1) + nI 1), .ref d75, .int (nI 1)])) (ad 7 i) = hw_ob 8 [.int (hs_M S i 0), .int (hs_M S i 1), .int (hs_M S i 2), .int (hs_M S i 3), .ref (ad 8 i)]
            rw [va_up_ne _ _ (hP1.n (k := 7) (i := i) (k' := 0) (i' := 3) hi (show 3 < 4 by decide) (fun q => absurd q.1 (by decide))), va_up_ne _ _ (hw_xn (hP1.a 7 i hi) (hb_no (hb_no hn75))), va_up_ne _ _ (hw_xn (hP1.a 7 i hi) hq55), va_up_ne _ _ (hw_xn (hP1.a 7 i hi) hq55)]
            refine (hP1.m 7 i hi).trans ?_
            first | rfl
          · show (va_up (va_up (va_up (va_up M1 q55 (hw_ob 10 [.int 0, .int 0, .int 0, .int 0, .int 0])) q55 (hw_ob 10 [.int ka, .int kg, .int 0, .int ((nI 1) <<< ((nI 0) &&& 31)), .int (-1)])) d75 (hw_ar Z 7 10 (va_up (fun _ => none) 0 (some q55)))) (ad 0 3) (hw_ob 0 [.int ((hr_mc X1 1) + nI 1), .ref d75, .int (nI 1)])) (ad 8 i) = hw_ob 0 [.int ((va_up (hr_mc X1) 1 (hr_mc X1 1 + nI 1)) (2 + i)), .ref (if hr_gr X1 i then ad 9 i else Z.2.2.2), .int (nI (hs_N S i))]
            rw [va_up_ne _ _ (hP1.n (k := 8) (i := i) (k' := 0) (i' := 3) hi (show 3 < 4 by decide) (fun q => absurd q.1 (by decide))), va_up_ne _ _ (hw_xn (hP1.a 8 i hi) (hb_no (hb_no hn75))), va_up_ne _ _ (hw_xn (hP1.a 8 i hi) hq55), va_up_ne _ _ (hw_xn (hP1.a 8 i hi) hq55)]
            refine (hP1.m 8 i hi).trans ?_
            first | rfl | (simp only [va_up_ne _ _ (show 2 + i ≠ 1 by omega)]; done) | (simp only [va_up_ne _ _ (show 2 + i ≠ 1 by omega)]; rfl)
          · show (va_up (va_up (va_up (va_up M1 q55 (hw_ob 10 [.int 0, .int 0, .int 0, .int 0, .int 0])) q55 (hw_ob 10 [.int ka, .int kg, .int 0, .int ((nI 1) <<< ((nI 0) &&& 31)), .int (-1)])) d75 (hw_ar Z 7 10 (va_up (fun _ => none) 0 (some q55)))) (ad 0 3) (hw_ob 0 [.int ((hr_mc X1 1) + nI 1), .ref d75, .int (nI 1)])) (ad 9 i) = hw_ar Z 7 10 (hc_f (fun j => ad 10 (i + 2 * j)) (hs_N S i))
            rw [va_up_ne _ _ (hP1.n (k := 9) (i := i) (k' := 0) (i' := 3) hi (show 3 < 4 by decide) (fun q => absurd q.1 (by decide))), va_up_ne _ _ (hw_xn (hP1.a 9 i hi) (hb_no (hb_no hn75))), va_up_ne _ _ (hw_xn (hP1.a 9 i hi) hq55), va_up_ne _ _ (hw_xn (hP1.a 9 i hi) hq55)]
            refine (hP1.m 9 i hi).trans ?_
            first | rfl
          · show (va_up (va_up (va_up (va_up M1 q55 (hw_ob 10 [.int 0, .int 0, .int 0, .int 0, .int 0])) q55 (hw_ob 10 [.int ka, .int kg, .int 0, .int ((nI 1) <<< ((nI 0) &&& 31)), .int (-1)])) d75 (hw_ar Z 7 10 (va_up (fun _ => none) 0 (some q55)))) (ad 0 3) (hw_ob 0 [.int ((hr_mc X1 1) + nI 1), .ref d75, .int (nI 1)])) (ad 10 i) = hw_ai Z 3 (hr_qq X1 (i % 2) (i / 2))
            rw [va_up_ne _ _ (hP1.n (k := 10) (i := i) (k' := 0) (i' := 3) hi (show 3 < 4 by decide) (fun q => absurd q.1 (by decide))), va_up_ne _ _ (hw_xn (hP1.a 10 i hi) (hb_no (hb_no hn75))), va_up_ne _ _ (hw_xn (hP1.a 10 i hi) hq55), va_up_ne _ _ (hw_xn (hP1.a 10 i hi) hq55)]
            refine (hP1.m 10 i hi).trans ?_
            first | rfl
          · show (va_up (va_up (va_up (va_up M1 q55 (hw_ob 10 [.int 0, .int 0, .int 0, .int 0, .int 0])) q55 (hw_ob 10 [.int ka, .int kg, .int 0, .int ((nI 1) <<< ((nI 0) &&& 31)), .int (-1)])) d75 (hw_ar Z 7 10 (va_up (fun _ => none) 0 (some q55)))) (ad 0 3) (hw_ob 0 [.int ((hr_mc X1 1) + nI 1), .ref d75, .int (nI 1)])) (ad 11 i) = hw_ar Z 7 10 (hc_f (ad 1) (hs_np S))
            rw [va_up_ne _ _ (hP1.n (k := 11) (i := i) (k' := 0) (i' := 3) hi (show 3 < 4 by decide) (fun q => absurd q.1 (by decide))), va_up_ne _ _ (hw_xn (hP1.a 11 i hi) (hb_no (hb_no hn75))), va_up_ne _ _ (hw_xn (hP1.a 11 i hi) hq55), va_up_ne _ _ (hw_xn (hP1.a 11 i hi) hq55)]
            refine (hP1.m 11 i hi).trans ?_
            first | rfl
          · by_cases q0 : i = 0
            · subst q0
              show (va_up (va_up (va_up (va_up M1 q55 (hw_ob 10 [.int 0, .int 0, .int 0, .int 0, .int 0])) q55 (hw_ob 10 [.int ka, .int kg, .int 0, .int ((nI 1) <<< ((nI 0) &&& 31)), .int (-1)])) d75 (hw_ar Z 7 10 (va_up (fun _ => none) 0 (some q55)))) (ad 0 3) (hw_ob 0 [.int ((hr_mc X1 1) + nI 1), .ref d75, .int (nI 1)])) ((va_up (ad 12) 0 d75) 0) = hw_ar Z 7 10 (hc_f ((va_up (ad 6) (hs_nw S) q55)) (hs_nw S + 1))
              rw [show (va_up (ad 12) 0 d75) 0 = d75 from va_up_self _ _ _]
              refine (hw_up (hw_us _ _ _) (Ne.symm (hw_nn (hw_up (hw_up e0_3hP1 (hw_nn e0_3hP1 hq55)) (hw_nn e0_3hP1 hq55)) hn75))).trans ?_
              first | rfl | (simp only [va_up_self, va_up_ne _ _ (show 0 ≠ 1 by omega)]; done) | (simp only [va_up_self, va_up_ne _ _ (show 0 ≠ 1 by omega)]; rfl) | (simp only [va_up_self, va_up_ne _ _ (show 0 ≠ 1 by omega), va_up_ne _ _ (show (2 : Nat) ≠ 1 by decide), va_up_ne _ _ (show (2 : Nat) ≠ 0 by decide), va_up_ne _ _ (show (3 : Nat) ≠ 1 by decide), va_up_ne _ _ (show (3 : Nat) ≠ 0 by decide), va_up_ne _ _ (show (4 : Nat) ≠ 1 by decide), va_up_ne _ _ (show (4 : Nat) ≠ 0 by decide), va_up_ne _ _ (show (0 : Nat) ≠ 1 by decide), z2, z3, z4, hr_fs, hr_ds, hz, hr_f1 (ad 6)]; done) | (simp only [va_up_self, va_up_ne _ _ (show 0 ≠ 1 by omega), va_up_ne _ _ (show (2 : Nat) ≠ 1 by decide), va_up_ne _ _ (show (2 : Nat) ≠ 0 by decide), va_up_ne _ _ (show (3 : Nat) ≠ 1 by decide), va_up_ne _ _ (show (3 : Nat) ≠ 0 by decide), va_up_ne _ _ (show (4 : Nat) ≠ 1 by decide), va_up_ne _ _ (show (4 : Nat) ≠ 0 by decide), va_up_ne _ _ (show (0 : Nat) ≠ 1 by decide), z2, z3, z4, hr_fs, hr_ds, hz, hr_f1 (ad 6)]; rfl)
            exact (absurd hi.1 q0)
          · exact hi.elim
      have fr_hok : ∀ a, b1 a → (va_up (va_up (va_up (va_up M1 q55 (hw_ob 10 [.int 0, .int 0, .int 0, .int 0, .int 0])) q55 (hw_ob 10 [.int ka, .int kg, .int 0, .int ((nI 1) <<< ((nI 0) &&& 31)), .int (-1)])) d75 (hw_ar Z 7 10 (va_up (fun _ => none) 0 (some q55)))) (ad 0 3) (hw_ob 0 [.int ((hr_mc X1 1) + nI 1), .ref d75, .int (nI 1)])) a = M a := fun a ha => by rw [va_up_ne _ _ (hP1.f (k := 0) (i := 3) (show 3 < 4 by decide) ha), va_up_ne _ _ (hw_xn (hA1 a ha) (hb_no (hb_no hn75))), va_up_ne _ _ (hw_xn (hA1 a ha) hq55), va_up_ne _ _ (hw_xn (hA1 a ha) hq55)]; exact fr1 a ha
      have hfin : hr_R Z b1 M ad (st_powder S ka kg) (nI (hs_nw S)) (va_up (va_up (va_up (va_up M1 q55 (hw_ob 10 [.int 0, .int 0, .int 0, .int 0, .int 0])) q55 (hw_ob 10 [.int ka, .int kg, .int 0, .int ((nI 1) <<< ((nI 0) &&& 31)), .int (-1)])) d75 (hw_ar Z 7 10 (va_up (fun _ => none) 0 (some q55)))) (ad 0 3) (hw_ob 0 [.int ((hr_mc X1 1) + nI 1), .ref d75, .int (nI 1)])) := hr_r (S' := hs_sw (hs_sV S (hs_nw S) (va_up (va_up (hs_V S (hs_nw S)) 0 ka) 1 kg)) (hs_nw S + 1)) (X' := hr_smc X1 1 (hr_mc X1 1 + nI 1)) (ad' := hr_ua (hr_ua ad 6 (va_up (ad 6) (hs_nw S) q55)) 12 (va_up (ad 12) 0 d75)) (by unfold st_powder; exact ((if_neg (fun q => q ⟨gk, gk2⟩)).trans ((if_neg (fun q => by omega)).trans rfl))) rfl hok ht1 fr_hok
      exact hret hI hfin (Nat.le_of_ble_eq_true rfl) (Nat.le_of_ble_eq_true rfl) dX11_powder_92
    · refine lv_aload_n hx hb dX11_powder_25 rfl (lv_at hl 0 rfl) ?_
      refine lv_iconst (v := nI 1) hx hb dX11_powder_26 (by decide) ?_
      refine hw_ci hI (hw_rV hx hb hml hown hts hk hI (m_X11_no l Z M1 (ad 0 0) (ad 0 2) (ad 0 3) (ad 0 1) (hr_th X1) (hs_G S 0) (hs_G S 1) (nI 1) e0_0hP1) cv_X11_44 e0_0hP1 rfl rfl ⟨rfl, rfl⟩ ⟨(Nat.le_of_ble_eq_true rfl), (Nat.le_of_ble_eq_true rfl)⟩ rfl hl.1 rfl (Nat.le_of_ble_eq_true rfl) ⟨(Nat.le_of_ble_eq_true rfl), (Nat.le_of_ble_eq_true rfl)⟩ dX11_powder_27) (fun r27 M27 H locs hR hI => ?_)
      obtain ⟨rfl, rfl⟩ := hR
      exact hret hI (hr_x (n := 1) (by unfold st_powder; exact (hq_if (fun q => hq_df c22 q.2) ⟨rfl, rfl⟩)) (by decide) (hP1.th (nI 1)) rfl (fun a ha => (va_up_ne _ _ (hP1.f (k := 0) (i := 0) (show 0 < 4 by decide) ha)).trans (fr1 a ha))) (Nat.le_of_ble_eq_true rfl) (Nat.le_of_ble_eq_true rfl) dX11_powder_30

set_option maxHeartbeats 4000000 in
set_option maxRecDepth 100000 in
theorem m_X11_powder_s (l : Launch) (Z : hw_Z) (M : hw_M) (ad : hp_ad) (S : hs_S) (X : hr_X) (b1 : Nat → Prop) (ka : Int32) (kg : Int32) (hP : hr_ok Z b1 M ad S X) (hV : hv_ok S) (hA : ∀ a, b1 a → M a ≠ none) (hz : 0 < hs_nw S) : Met l yX11_powder (hw_m yX11_powder cX11_powder 3 (some .int)) ({ frames := 8, cells := 6, slots := 110, locals := 250 } : Room) (va_Pc [.ref (ad 0 0), .int ka, .int kg] (hw_P Z M)) (hw_Qi Z (hr_R Z b1 M ad (st_powder S ka kg))) 6 110 (hw_A Z) := by
  refine hw_ofi (by decide +kernel) rfl (Nat.le_of_ble_eq_true rfl) ?_
  intro p e s m below meth c ls Q hx hb hml hown hts hk hnm hI hl hret
  have hB := hV.b
  have hnp := hB.np
  have hnw := hB.nw
  have e0_0hP : M (ad 0 0) = hw_ob 12 [.int (hr_th X), .int (hs_G S 0), .int (hs_G S 1), .ref (ad 0 2), .ref (ad 0 3), .ref (ad 0 1)] := hP.m 0 0 (show 0 < 4 by decide)
  refine lv_aload_n hx hb dX11_powder_0 rfl (lv_at hl 0 rfl) ?_
  refine lv_iconst (v := nI 0) hx hb dX11_powder_1 (by decide) ?_
  refine hw_put (fs' := [.int (nI 0), .int (hs_G S 0), .int (hs_G S 1), .ref (ad 0 2), .ref (ad 0 3), .ref (ad 0 1)]) hx hb hts hown hk hI fp_X11_26 e0_0hP (Nat.le_of_ble_eq_true rfl) rfl rfl rfl dX11_powder_2 (fun H locs hI => ?_)
  have h12 : 0 = 0 ∧ 0 < hs_nw S := ⟨rfl, hz⟩
  obtain ⟨M1, hM1⟩ : ∃ Y : hw_M, Y = va_up M (ad 0 0) (hw_ob 12 [.int (nI 0), .int (hs_G S 0), .int (hs_G S 1), .ref (ad 0 2), .ref (ad 0 3), .ref (ad 0 1)]) := ⟨_, rfl⟩
  replace hI := hI.eq hM1.symm
  obtain ⟨X1, hX1⟩ : ∃ Y : hr_X, Y = (nI 0, X.2) := ⟨_, rfl⟩
  have hP1 : hr_ok Z b1 M1 ad S X1 := by rw [hM1, hX1]; exact hP.th (nI 0)
  have ht1 : hr_th X1 = nI 0 := by rw [hX1]; rfl
  have hgr1 : hr_gr X1 = hr_gr X := by rw [hX1]; rfl
  have hqq1 : hr_qq X1 = hr_qq X := by rw [hX1]; rfl
  have fr1 : ∀ a, b1 a → M1 a = M a := fun a ha => by rw [hM1]; exact va_up_ne _ _ (hP.f (k := 0) (i := 0) (show 0 < 4 by decide) ha)
  have hA1 : ∀ a, b1 a → M1 a ≠ none := fun a ha => by rw [fr1 a ha]; exact hA a ha
  clear hP hX1
  have e0_0hP1 : M1 (ad 0 0) = hw_ob 12 [.int (hr_th X1), .int (hs_G S 0), .int (hs_G S 1), .ref (ad 0 2), .ref (ad 0 3), .ref (ad 0 1)] := hP1.m 0 0 (show 0 < 4 by decide)
  have e0_3hP1 : M1 (ad 0 3) = hw_ob 0 [.int (hr_mc X1 1), .ref (ad 12 0), .int (nI (hs_nw S))] := by
    have q := hP1.m 0 3 (show 3 < 4 by decide)
    rw [show hr_e Z ad S X1 0 3 = hw_ob 0 [.int (hr_mc X1 1), .ref (hr_d (hs_nw S) Z.2.2.2 (ad 12 0)), .int (nI (hs_nw S))] from rfl, hr_d0 h12.2] at q
    exact q
  have e12_0hP1 : M1 (ad 12 0) = hw_ar Z 7 10 (hc_f (ad 6) (hs_nw S)) := hP1.m 12 0 h12
  refine lv_iload_n hx hb dX11_powder_5 rfl (lv_at hl 1 rfl) ?_
  refine lv_iconst (v := nI 0) hx hb dX11_powder_6 (by decide) ?_
  refine lv_iconst (v := nI 2) hx hb dX11_powder_7 (by decide) ?_
  refine hw_ci hI (hw_rS hx hb hml hown hts hk hI (m_X11_in l Z M1 ka (nI 0) (nI 2)) cs_X11_40 ⟨rfl, rfl⟩ ⟨(Nat.le_of_ble_eq_true rfl), (Nat.le_of_ble_eq_true rfl)⟩ rfl hl.1 rfl (Nat.le_of_ble_eq_true rfl) ⟨(Nat.le_of_ble_eq_true rfl), (Nat.le_of_ble_eq_true rfl)⟩ dX11_powder_8) (fun r8 M8 H locs hR hI => ?_)
  obtain ⟨rfl, rfl⟩ := hR
  refine hw_ti (congrArg (fun b => nI (Bool.toNat b)) (hb_in_okL (k := ka) (n := 2) (by decide))) ?_
  refine lv_if_eq (tgt := 25) hx hb dX11_powder_11 (by decide) (fun c11 => ?_) (fun c11 => ?_)
  · refine lv_aload_n hx hb dX11_powder_25 rfl (lv_at hl 0 rfl) ?_
    refine lv_iconst (v := nI 1) hx hb dX11_powder_26 (by decide) ?_
    refine hw_ci hI (hw_rV hx hb hml hown hts hk hI (m_X11_no l Z M1 (ad 0 0) (ad 0 2) (ad 0 3) (ad 0 1) (hr_th X1) (hs_G S 0) (hs_G S 1) (nI 1) e0_0hP1) cv_X11_44 e0_0hP1 rfl rfl ⟨rfl, rfl⟩ ⟨(Nat.le_of_ble_eq_true rfl), (Nat.le_of_ble_eq_true rfl)⟩ rfl hl.1 rfl (Nat.le_of_ble_eq_true rfl) ⟨(Nat.le_of_ble_eq_true rfl), (Nat.le_of_ble_eq_true rfl)⟩ dX11_powder_27) (fun r27 M27 H locs hR hI => ?_)
    obtain ⟨rfl, rfl⟩ := hR
    exact hret hI (hr_x (n := 1) (by unfold st_powder; exact (hq_if (fun q => hq_df c11 q.1) ⟨rfl, rfl⟩)) (by decide) (hP1.th (nI 1)) rfl (fun a ha => (va_up_ne _ _ (hP1.f (k := 0) (i := 0) (show 0 < 4 by decide) ha)).trans (fr1 a ha))) (Nat.le_of_ble_eq_true rfl) (Nat.le_of_ble_eq_true rfl) dX11_powder_30
  · refine lv_iload_n hx hb dX11_powder_14 rfl (lv_at hl 2 rfl) ?_
    refine lv_iconst (v := nI 1) hx hb dX11_powder_15 (by decide) ?_
    refine lv_sipush (v := nI 2000) hx hb dX11_powder_16 (by decide) ?_
    refine hw_ci hI (hw_rS hx hb hml hown hts hk hI (m_X11_in l Z M1 kg (nI 1) (nI 2000)) cs_X11_40 ⟨rfl, rfl⟩ ⟨(Nat.le_of_ble_eq_true rfl), (Nat.le_of_ble_eq_true rfl)⟩ rfl hl.1 rfl (Nat.le_of_ble_eq_true rfl) ⟨(Nat.le_of_ble_eq_true rfl), (Nat.le_of_ble_eq_true rfl)⟩ dX11_powder_19) (fun r19 M19 H locs hR hI => ?_)
    obtain ⟨rfl, rfl⟩ := hR
    refine hw_ti (congrArg (fun b => nI (Bool.toNat b)) hb_in_ge) ?_
    refine lv_if_ne (tgt := 31) hx hb dX11_powder_22 (by decide) (fun c22 => ?_) (fun c22 => ?_)
    · have gk := hq_dt c11
      have gk2 := hq_dt c22
      refine lv_aload_n hx hb dX11_powder_31 rfl (lv_at hl 0 rfl) ?_
      refine hw_get hx hb hts hown hk hI fd_X11_16 e0_0hP1 rfl dX11_powder_32 ?_
      refine hw_cFi hI (hw_rF hx hb hml hown hts hk hI (m_Jx4a65c_size_8abf5 l Z M1 (ad 0 3) (hs_nw S) (hr_mc X1 1) (.ref (ad 12 0)) e0_3hP1) cf_X11_34 e0_3hP1 rfl rfl ⟨rfl, rfl⟩ ⟨(Nat.le_of_ble_eq_true rfl), (Nat.le_of_ble_eq_true rfl)⟩ rfl hl.1 rfl (Nat.le_of_ble_eq_true rfl) ⟨(Nat.le_of_ble_eq_true rfl), (Nat.le_of_ble_eq_true rfl)⟩ dX11_powder_35) (fun r35 M35 H locs hR hI => ?_)
      obtain ⟨rfl, rfl⟩ := hR
      refine lv_bipush (v := nI 6) hx hb dX11_powder_40 (by decide) ?_
      refine lv_icmp_ne (tgt := 51) hx hb dX11_powder_42 (by decide) (fun c42 => ?_) (fun c42 => ?_)
      · refine lv_aload_n hx hb dX11_powder_51 rfl (lv_at hl 0 rfl) ?_
        refine hw_get hx hb hts hown hk hI fd_X11_16 e0_0hP1 rfl dX11_powder_52 ?_
        refine hw_new hx hb hts hown hk hI fn_X11_86 (Nat.le_of_ble_eq_true rfl) (Nat.le_of_ble_eq_true rfl) dX11_powder_55 (fun q55 H hq55 hI => ?_)
        refine lv_dup hx hb dX11_powder_58 rfl ?_
        refine lv_iload_n hx hb dX11_powder_59 rfl (lv_at hl 1 rfl) ?_
        refine lv_iload_n hx hb dX11_powder_60 rfl (lv_at hl 2 rfl) ?_
        refine lv_iconst (v := nI 1) hx hb dX11_powder_61 (by decide) ?_
        refine lv_aload_n hx hb dX11_powder_62 rfl (lv_at hl 0 rfl) ?_
        refine hw_get hx hb hts hown hk hI fd_X11_16 (hw_up e0_0hP1 (hw_nn e0_0hP1 hq55)) rfl dX11_powder_63 ?_
        refine hw_cFi hI (hw_rF hx hb hml hown hts hk hI (m_Jx4a65c_size_8abf5 l Z (va_up M1 q55 (hw_ob 10 [.int 0, .int 0, .int 0, .int 0, .int 0])) (ad 0 3) (hs_nw S) (hr_mc X1 1) (.ref (ad 12 0)) (hw_up e0_3hP1 (hw_nn e0_3hP1 hq55))) cf_X11_34 (hw_up e0_3hP1 (hw_nn e0_3hP1 hq55)) rfl rfl ⟨rfl, rfl⟩ ⟨(Nat.le_of_ble_eq_true rfl), (Nat.le_of_ble_eq_true rfl)⟩ rfl hl.1 rfl (Nat.le_of_ble_eq_true rfl) ⟨(Nat.le_of_ble_eq_true rfl), (Nat.le_of_ble_eq_true rfl)⟩ dX11_powder_66) (fun r66 M66 H locs hR hI => ?_)
        obtain ⟨rfl, rfl⟩ := hR
        refine lv_ishl hx hb dX11_powder_71 ?_
        refine hw_cv hI (hw_rI hx hb hml hown hts hk hI (m_X9_init l Z (va_up M1 q55 (hw_ob 10 [.int 0, .int 0, .int 0, .int 0, .int 0])) q55 ka kg ((nI 1) <<< ((nI (hs_nw S)) &&& 31)) (hw_us _ _ _)) ci_X11_88 ⟨rfl, rfl⟩ ⟨(Nat.le_of_ble_eq_true rfl), (Nat.le_of_ble_eq_true rfl)⟩ rfl hl.1 rfl (Nat.le_of_ble_eq_true rfl) ⟨(Nat.le_of_ble_eq_true rfl), (Nat.le_of_ble_eq_true rfl)⟩ dX11_powder_72) (fun M72 H locs hR hI => ?_)
        subst hR
        refine hw_cFi hI (hw_rF hx hb hml hown hts hk hI (m_add_W l Z (va_up (va_up M1 q55 (hw_ob 10 [.int 0, .int 0, .int 0, .int 0, .int 0])) q55 (hw_ob 10 [.int ka, .int kg, .int 0, .int ((nI 1) <<< ((nI (hs_nw S)) &&& 31)), .int (-1)])) (ad 0 3) (ad 12 0) q55 (hs_nw S) (hr_mc X1 1) (hc_f (ad 6) (hs_nw S)) ([.int ka, .int kg, .int 0, .int ((nI 1) <<< ((nI (hs_nw S)) &&& 31)), .int (-1)]) (hw_up (hw_up e0_3hP1 (hw_nn e0_3hP1 hq55)) (hw_nn e0_3hP1 hq55)) (hw_up (hw_up e12_0hP1 (hw_nn e12_0hP1 hq55)) (hw_nn e12_0hP1 hq55)) (hw_us _ _ _) (by omega)) cf_X11_51 (hw_up (hw_up e0_3hP1 (hw_nn e0_3hP1 hq55)) (hw_nn e0_3hP1 hq55)) rfl rfl ⟨rfl, rfl⟩ ⟨(Nat.le_of_ble_eq_true rfl), (Nat.le_of_ble_eq_true rfl)⟩ rfl hl.1 rfl (Nat.le_of_ble_eq_true rfl) ⟨(Nat.le_of_ble_eq_true rfl), (Nat.le_of_ble_eq_true rfl)⟩ dX11_powder_75) (fun r75 M75 H locs hR hI => ?_)
        obtain ⟨rfl, rfl⟩ := hR
        refine lv_pop hx hb dX11_powder_80 rfl ?_
        refine lv_aload_n hx hb dX11_powder_81 rfl (lv_at hl 0 rfl) ?_
        refine hw_get hx hb hts hown hk hI fd_X11_16 (hw_up (hw_up (hw_up (hw_up e0_0hP1 (hw_nn e0_0hP1 hq55)) (hw_nn e0_0hP1 hq55)) (hP1.n (k := 0) (i := 0) (k' := 12) (i' := 0) (show 0 < 4 by decide) h12 (fun q => absurd q.1 (by decide)))) (hP1.n (k := 0) (i := 0) (k' := 0) (i' := 3) (show 0 < 4 by decide) (show 3 < 4 by decide) (fun q => absurd q.2 (by decide)))) rfl dX11_powder_82 ?_
        refine hw_cFi hI (hw_rF hx hb hml hown hts hk hI (m_Jx4a65c_size_8abf5 l Z (va_up (va_up (va_up (va_up M1 q55 (hw_ob 10 [.int 0, .int 0, .int 0, .int 0, .int 0])) q55 (hw_ob 10 [.int ka, .int kg, .int 0, .int ((nI 1) <<< ((nI (hs_nw S)) &&& 31)), .int (-1)])) (ad 12 0) (hw_ar Z 7 10 (va_up (hc_f (ad 6) (hs_nw S)) (hs_nw S) (some q55)))) (ad 0 3) (hw_ob 0 [.int ((hr_mc X1 1) + nI 1), .ref (ad 12 0), .int (nI ((hs_nw S) + 1))])) (ad 0 3) ((hs_nw S) + 1) ((hr_mc X1 1) + nI 1) (.ref (ad 12 0)) (hw_us _ _ _)) cf_X11_34 (hw_us _ _ _) rfl rfl ⟨rfl, rfl⟩ ⟨(Nat.le_of_ble_eq_true rfl), (Nat.le_of_ble_eq_true rfl)⟩ rfl hl.1 rfl (Nat.le_of_ble_eq_true rfl) ⟨(Nat.le_of_ble_eq_true rfl), (Nat.le_of_ble_eq_true rfl)⟩ dX11_powder_85) (fun r85 M85 H locs hR hI => ?_)
        obtain ⟨rfl, rfl⟩ := hR
        refine lv_iconst (v := nI 1) hx hb dX11_powder_90 (by decide) ?_
        refine lv_isub hx hb dX11_powder_91 ?_
        refine hw_ti (pk_sub (by omega) : nI (hs_nw S + 1) - nI 1 = nI (hs_nw S)) ?_
        have hn6 : hs_nw S < 6 := by have h : ¬ hs_nw S = 6 := fun q => c42 (congrArg nI q); omega
        obtain ⟨z2, z3, z4⟩ := hV.newV (Nat.le_refl _) hn6
        have hok : hr_ok Z b1 (va_up (va_up (va_up (va_up M1 q55 (hw_ob 10 [.int 0, .int 0, .int 0, .int 0, .int 0])) q55 (hw_ob 10 [.int ka, .int kg, .int 0, .int ((nI 1) <<< ((nI (hs_nw S)) &&& 31)), .int (-1)])) (ad 12 0) (hw_ar Z 7 10 (va_up (hc_f (ad 6) (hs_nw S)) (hs_nw S) (some q55)))) (ad 0 3) (hw_ob 0 [.int ((hr_mc X1 1) + nI 1), .ref (ad 12 0), .int (nI ((hs_nw S) + 1))])) (hr_ua ad 6 (va_up (ad 6) (hs_nw S) q55)) (hs_sw (hs_sV S (hs_nw S) (va_up (va_up (hs_V S (hs_nw S)) 0 ka) 1 kg)) (hs_nw S + 1)) (hr_smc X1 1 (hr_mc X1 1 + nI 1)) := by
          refine hr_new (nn := fun k i => (k = 6 ∧ i = (hs_nw S))) hP1 hA1 (fun k i hi => ?_) (fun k i k' i' h h' he => ?_) ?_ hP1.q hP1.g
          · rcases k with _ | _ | _ | _ | _ | _ | _ | _ | _ | _ | _ | _ | _ | k
            · exact Or.inl ⟨hi, rfl⟩
            · exact Or.inl ⟨hi, rfl⟩
            · exact Or.inl ⟨hi, rfl⟩
            · exact Or.inl ⟨hi, rfl⟩
            · exact Or.inl ⟨hi, rfl⟩
            · exact Or.inl ⟨hi, rfl⟩
            · by_cases q0 : i = (hs_nw S)
              · subst q0
                exact Or.inr ⟨⟨rfl, rfl⟩, (congrArg M1 (va_up_self _ _ _)).trans hq55⟩
              · exact Or.inl ⟨(show i < hs_nw S by have h9 : i < hs_nw S + 1 := hi; omega), va_up_ne _ _ q0⟩
            · exact Or.inl ⟨hi, rfl⟩
            · exact Or.inl ⟨hi, rfl⟩
            · exact Or.inl ⟨hi, rfl⟩
            · exact Or.inl ⟨hi, rfl⟩
            · exact Or.inl ⟨hi, rfl⟩
            · exact Or.inl ⟨⟨hi.1, hz⟩, rfl⟩
            · exact hi.elim
          · rcases h with ⟨rfl, rfl⟩ <;> rcases h' with ⟨rfl, rfl⟩
            · exact ⟨rfl, rfl⟩
          · intro k i hi
            rcases k with _ | _ | _ | _ | _ | _ | _ | _ | _ | _ | _ | _ | _ | k
            · rcases (show i = 0 ∨ i = 1 ∨ i = 2 ∨ i = 3 by have h4 : i < 4 := hi; omega) with rfl | rfl | rfl | rfl
              · show (va_up (va_up (va_up (va_up M1 q55 (hw_ob 10 [.int 0, .int 0, .int 0, .int 0, .int 0])) q55 (hw_ob 10 [.int ka, .int kg, .int 0, .int ((nI 1) <<< ((nI (hs_nw S)) &&& 31)), .int (-1)])) (ad 12 0) (hw_ar Z 7 10 (va_up (hc_f (ad 6) (hs_nw S)) (hs_nw S) (some q55)))) (ad 0 3) (hw_ob 0 [.int ((hr_mc X1 1) + nI 1), .ref (ad 12 0), .int (nI ((hs_nw S) + 1))])) (ad 0 0) = hw_ob 12 [.int (hr_th X1), .int (hs_G S 0), .int (hs_G S 1), .ref (ad 0 2), .ref (ad 0 3), .ref (ad 0 1)]
                rw [va_up_ne _ _ (hP1.n (k := 0) (i := 0) (k' := 0) (i' := 3) (show 0 < 4 by decide) (show 3 < 4 by decide) (fun q => absurd q.2 (by decide))), va_up_ne _ _ (hP1.n (k := 0) (i := 0) (k' := 12) (i' := 0) (show 0 < 4 by decide) h12 (fun q => absurd q.1 (by decide))), va_up_ne _ _ (hw_xn (hP1.a 0 0 (show 0 < 4 by decide)) hq55), va_up_ne _ _ (hw_xn (hP1.a 0 0 (show 0 < 4 by decide)) hq55)]
                refine (hP1.m 0 0 (show 0 < 4 by decide)).trans ?_
                first | rfl | (simp only [va_up_self, va_up_ne _ _ (show 0 ≠ 1 by omega)]; done) | (simp only [va_up_self, va_up_ne _ _ (show 0 ≠ 1 by omega)]; rfl) | (simp only [va_up_self, va_up_ne _ _ (show 0 ≠ 1 by omega), va_up_ne _ _ (show (2 : Nat) ≠ 1 by decide), va_up_ne _ _ (show (2 : Nat) ≠ 0 by decide), va_up_ne _ _ (show (3 : Nat) ≠ 1 by decide), va_up_ne _ _ (show (3 : Nat) ≠ 0 by decide), va_up_ne _ _ (show (4 : Nat) ≠ 1 by decide), va_up_ne _ _ (show (4 : Nat) ≠ 0 by decide), va_up_ne _ _ (show (0 : Nat) ≠ 1 by decide), z2, z3, z4, hr_fs, hr_ds]; done)
              · show (va_up (va_up (va_up (va_up M1 q55 (hw_ob 10 [.int 0, .int 0, .int 0, .int 0, .int 0])) q55 (hw_ob 10 [.int ka, .int kg, .int 0, .int ((nI 1) <<< ((nI (hs_nw S)) &&& 31)), .int (-1)])) (ad 12 0) (hw_ar Z 7 10 (va_up (hc_f (ad 6) (hs_nw S)) (hs_nw S) (some q55)))) (ad 0 3) (hw_ob 0 [.int ((hr_mc X1 1) + nI 1), .ref (ad 12 0), .int (nI ((hs_nw S) + 1))])) (ad 0 1) = hw_ar Z 6 2 (fun j => some (ad 7 j))
                rw [va_up_ne _ _ (hP1.n (k := 0) (i := 1) (k' := 0) (i' := 3) (show 1 < 4 by decide) (show 3 < 4 by decide) (fun q => absurd q.2 (by decide))), va_up_ne _ _ (hP1.n (k := 0) (i := 1) (k' := 12) (i' := 0) (show 1 < 4 by decide) h12 (fun q => absurd q.1 (by decide))), va_up_ne _ _ (hw_xn (hP1.a 0 1 (show 1 < 4 by decide)) hq55), va_up_ne _ _ (hw_xn (hP1.a 0 1 (show 1 < 4 by decide)) hq55)]
                refine (hP1.m 0 1 (show 1 < 4 by decide)).trans ?_
                first | rfl | (simp only [va_up_self, va_up_ne _ _ (show 0 ≠ 1 by omega)]; done) | (simp only [va_up_self, va_up_ne _ _ (show 0 ≠ 1 by omega)]; rfl) | (simp only [va_up_self, va_up_ne _ _ (show 0 ≠ 1 by omega), va_up_ne _ _ (show (2 : Nat) ≠ 1 by decide), va_up_ne _ _ (show (2 : Nat) ≠ 0 by decide), va_up_ne _ _ (show (3 : Nat) ≠ 1 by decide), va_up_ne _ _ (show (3 : Nat) ≠ 0 by decide), va_up_ne _ _ (show (4 : Nat) ≠ 1 by decide), va_up_ne _ _ (show (4 : Nat) ≠ 0 by decide), va_up_ne _ _ (show (0 : Nat) ≠ 1 by decide), z2, z3, z4, hr_fs, hr_ds]; done)
              · show (va_up (va_up (va_up (va_up M1 q55 (hw_ob 10 [.int 0, .int 0, .int 0, .int 0, .int 0])) q55 (hw_ob 10 [.int ka, .int kg, .int 0, .int ((nI 1) <<< ((nI (hs_nw S)) &&& 31)), .int (-1)])) (ad 12 0) (hw_ar Z 7 10 (va_up (hc_f (ad 6) (hs_nw S)) (hs_nw S) (some q55)))) (ad 0 3) (hw_ob 0 [.int ((hr_mc X1 1) + nI 1), .ref (ad 12 0), .int (nI ((hs_nw S) + 1))])) (ad 0 2) = hw_ob 0 [.int ((va_up (hr_mc X1) 1 (hr_mc X1 1 + nI 1)) 0), .ref (hr_d (hs_np S) Z.2.2.2 (ad 11 0)), .int (nI (hs_np S))]
                rw [va_up_ne _ _ (hP1.n (k := 0) (i := 2) (k' := 0) (i' := 3) (show 2 < 4 by decide) (show 3 < 4 by decide) (fun q => absurd q.2 (by decide))), va_up_ne _ _ (hP1.n (k := 0) (i := 2) (k' := 12) (i' := 0) (show 2 < 4 by decide) h12 (fun q => absurd q.1 (by decide))), va_up_ne _ _ (hw_xn (hP1.a 0 2 (show 2 < 4 by decide)) hq55), va_up_ne _ _ (hw_xn (hP1.a 0 2 (show 2 < 4 by decide)) hq55)]
                refine (hP1.m 0 2 (show 2 < 4 by decide)).trans ?_
                first | rfl | (simp only [va_up_self, va_up_ne _ _ (show 0 ≠ 1 by omega)]; done) | (simp only [va_up_self, va_up_ne _ _ (show 0 ≠ 1 by omega)]; rfl) | (simp only [va_up_self, va_up_ne _ _ (show 0 ≠ 1 by omega), va_up_ne _ _ (show (2 : Nat) ≠ 1 by decide), va_up_ne _ _ (show (2 : Nat) ≠ 0 by decide), va_up_ne _ _ (show (3 : Nat) ≠ 1 by decide), va_up_ne _ _ (show (3 : Nat) ≠ 0 by decide), va_up_ne _ _ (show (4 : Nat) ≠ 1 by decide), va_up_ne _ _ (show (4 : Nat) ≠ 0 by decide), va_up_ne _ _ (show (0 : Nat) ≠ 1 by decide), z2, z3, z4, hr_fs, hr_ds]; done)
              · show (va_up (va_up (va_up (va_up M1 q55 (hw_ob 10 [.int 0, .int 0, .int 0, .int 0, .int 0])) q55 (hw_ob 10 [.int ka, .int kg, .int 0, .int ((nI 1) <<< ((nI (hs_nw S)) &&& 31)), .int (-1)])) (ad 12 0) (hw_ar Z 7 10 (va_up (hc_f (ad 6) (hs_nw S)) (hs_nw S) (some q55)))) (ad 0 3) (hw_ob 0 [.int ((hr_mc X1 1) + nI 1), .ref (ad 12 0), .int (nI ((hs_nw S) + 1))])) (ad 0 3) = hw_ob 0 [.int ((va_up (hr_mc X1) 1 (hr_mc X1 1 + nI 1)) 1), .ref (hr_d (hs_nw S + 1) Z.2.2.2 (ad 12 0)), .int (nI (hs_nw S + 1))]
                refine (hw_us _ _ _).trans ?_
                first | rfl | (simp only [va_up_self, va_up_ne _ _ (show 0 ≠ 1 by omega)]; done) | (simp only [va_up_self, va_up_ne _ _ (show 0 ≠ 1 by omega)]; rfl) | (simp only [va_up_self, va_up_ne _ _ (show 0 ≠ 1 by omega), va_up_ne _ _ (show (2 : Nat) ≠ 1 by decide), va_up_ne _ _ (show (2 : Nat) ≠ 0 by decide), va_up_ne _ _ (show (3 : Nat) ≠ 1 by decide), va_up_ne _ _ (show (3 : Nat) ≠ 0 by decide), va_up_ne _ _ (show (4 : Nat) ≠ 1 by decide), va_up_ne _ _ (show (4 : Nat) ≠ 0 by decide), va_up_ne _ _ (show (0 : Nat) ≠ 1 by decide), z2, z3, z4, hr_fs, hr_ds]; done) | (simp only [va_up_self, va_up_ne _ _ (show 0 ≠ 1 by omega), va_up_ne _ _ (show (2 : Nat) ≠ 1 by decide), va_up_ne _ _ (show (2 : Nat) ≠ 0 by decide), va_up_ne _ _ (show (3 : Nat) ≠ 1 by decide), va_up_ne _ _ (show (3 : Nat) ≠ 0 by decide), va_up_ne _ _ (show (4 : Nat) ≠ 1 by decide), va_up_ne _ _ (show (4 : Nat) ≠ 0 by decide), va_up_ne _ _ (show (0 : Nat) ≠ 1 by decide), z2, z3, z4, hr_fs, hr_ds]; rfl)
            · show (va_up (va_up (va_up (va_up M1 q55 (hw_ob 10 [.int 0, .int 0, .int 0, .int 0, .int 0])) q55 (hw_ob 10 [.int ka, .int kg, .int 0, .int ((nI 1) <<< ((nI (hs_nw S)) &&& 31)), .int (-1)])) (ad 12 0) (hw_ar Z 7 10 (va_up (hc_f (ad 6) (hs_nw S)) (hs_nw S) (some q55)))) (ad 0 3) (hw_ob 0 [.int ((hr_mc X1 1) + nI 1), .ref (ad 12 0), .int (nI ((hs_nw S) + 1))])) (ad 1 i) = hw_ob 9 [.ref (ad 2 i), .int (hs_P S i 0), .ref (ad 4 i), .int (hs_P S i 3), .int (hs_P S i 4), .int (hs_P S i 5), .int (hs_P S i 6), .int (hs_P S i 7), .int (hs_P S i 8)]
              rw [va_up_ne _ _ (hP1.n (k := 1) (i := i) (k' := 0) (i' := 3) hi (show 3 < 4 by decide) (fun q => absurd q.1 (by decide))), va_up_ne _ _ (hP1.n (k := 1) (i := i) (k' := 12) (i' := 0) hi h12 (fun q => absurd q.1 (by decide))), va_up_ne _ _ (hw_xn (hP1.a 1 i hi) hq55), va_up_ne _ _ (hw_xn (hP1.a 1 i hi) hq55)]
              refine (hP1.m 1 i hi).trans ?_
              first | rfl
            · show (va_up (va_up (va_up (va_up M1 q55 (hw_ob 10 [.int 0, .int 0, .int 0, .int 0, .int 0])) q55 (hw_ob 10 [.int ka, .int kg, .int 0, .int ((nI 1) <<< ((nI (hs_nw S)) &&& 31)), .int (-1)])) (ad 12 0) (hw_ar Z 7 10 (va_up (hc_f (ad 6) (hs_nw S)) (hs_nw S) (some q55)))) (ad 0 3) (hw_ob 0 [.int ((hr_mc X1 1) + nI 1), .ref (ad 12 0), .int (nI ((hs_nw S) + 1))])) (ad 2 i) = hw_ob 11 [.ref (ad 3 i)]
              rw [va_up_ne _ _ (hP1.n (k := 2) (i := i) (k' := 0) (i' := 3) hi (show 3 < 4 by decide) (fun q => absurd q.1 (by decide))), va_up_ne _ _ (hP1.n (k := 2) (i := i) (k' := 12) (i' := 0) hi h12 (fun q => absurd q.1 (by decide))), va_up_ne _ _ (hw_xn (hP1.a 2 i hi) hq55), va_up_ne _ _ (hw_xn (hP1.a 2 i hi) hq55)]
              refine (hP1.m 2 i hi).trans ?_
              first | rfl
            · show (va_up (va_up (va_up (va_up M1 q55 (hw_ob 10 [.int 0, .int 0, .int 0, .int 0, .int 0])) q55 (hw_ob 10 [.int ka, .int kg, .int 0, .int ((nI 1) <<< ((nI (hs_nw S)) &&& 31)), .int (-1)])) (ad 12 0) (hw_ar Z 7 10 (va_up (hc_f (ad 6) (hs_nw S)) (hs_nw S) (some q55)))) (ad 0 3) (hw_ob 0 [.int ((hr_mc X1 1) + nI 1), .ref (ad 12 0), .int (nI ((hs_nw S) + 1))])) (ad 3 i) = hw_al Z 8 (hs_C S i)
              rw [va_up_ne _ _ (hP1.n (k := 3) (i := i) (k' := 0) (i' := 3) hi (show 3 < 4 by decide) (fun q => absurd q.1 (by decide))), va_up_ne _ _ (hP1.n (k := 3) (i := i) (k' := 12) (i' := 0) hi h12 (fun q => absurd q.1 (by decide))), va_up_ne _ _ (hw_xn (hP1.a 3 i hi) hq55), va_up_ne _ _ (hw_xn (hP1.a 3 i hi) hq55)]
              refine (hP1.m 3 i hi).trans ?_
              first | rfl
            · show (va_up (va_up (va_up (va_up M1 q55 (hw_ob 10 [.int 0, .int 0, .int 0, .int 0, .int 0])) q55 (hw_ob 10 [.int ka, .int kg, .int 0, .int ((nI 1) <<< ((nI (hs_nw S)) &&& 31)), .int (-1)])) (ad 12 0) (hw_ar Z 7 10 (va_up (hc_f (ad 6) (hs_nw S)) (hs_nw S) (some q55)))) (ad 0 3) (hw_ob 0 [.int ((hr_mc X1 1) + nI 1), .ref (ad 12 0), .int (nI ((hs_nw S) + 1))])) (ad 4 i) = hw_ob 7 [.double (hr_en (hs_P S i)), .ref (ad 5 i), .double (hs_U S i), .int (hs_P S i 1), .int (hs_P S i 2), .int (nI (hs_D S i))]
              rw [va_up_ne _ _ (hP1.n (k := 4) (i := i) (k' := 0) (i' := 3) hi (show 3 < 4 by decide) (fun q => absurd q.1 (by decide))), va_up_ne _ _ (hP1.n (k := 4) (i := i) (k' := 12) (i' := 0) hi h12 (fun q => absurd q.1 (by decide))), va_up_ne _ _ (hw_xn (hP1.a 4 i hi) hq55), va_up_ne _ _ (hw_xn (hP1.a 4 i hi) hq55)]
              refine (hP1.m 4 i hi).trans ?_
              first | rfl
            · show (va_up (va_up (va_up (va_up M1 q55 (hw_ob 10 [.int 0, .int 0, .int 0, .int 0, .int 0])) q55 (hw_ob 10 [.int ka, .int kg, .int 0, .int ((nI 1) <<< ((nI (hs_nw S)) &&& 31)), .int (-1)])) (ad 12 0) (hw_ar Z 7 10 (va_up (hc_f (ad 6) (hs_nw S)) (hs_nw S) (some q55)))) (ad 0 3) (hw_ob 0 [.int ((hr_mc X1 1) + nI 1), .ref (ad 12 0), .int (nI ((hs_nw S) + 1))])) (ad 5 i) = hw_ad Z 64 (hs_W S i)
              rw [va_up_ne _ _ (hP1.n (k := 5) (i := i) (k' := 0) (i' := 3) hi (show 3 < 4 by decide) (fun q => absurd q.1 (by decide))), va_up_ne _ _ (hP1.n (k := 5) (i := i) (k' := 12) (i' := 0) hi h12 (fun q => absurd q.1 (by decide))), va_up_ne _ _ (hw_xn (hP1.a 5 i hi) hq55), va_up_ne _ _ (hw_xn (hP1.a 5 i hi) hq55)]
              refine (hP1.m 5 i hi).trans ?_
              first | rfl
            · by_cases q0 : i = (hs_nw S)
              · subst q0
                show (va_up (va_up (va_up (va_up M1 q55 (hw_ob 10 [.int 0, .int 0, .int 0, .int 0, .int 0])) q55 (hw_ob 10 [.int ka, .int kg, .int 0, .int ((nI 1) <<< ((nI (hs_nw S)) &&& 31)), .int (-1)])) (ad 12 0) (hw_ar Z 7 10 (va_up (hc_f (ad 6) (hs_nw S)) (hs_nw S) (some q55)))) (ad 0 3) (hw_ob 0 [.int ((hr_mc X1 1) + nI 1), .ref (ad 12 0), .int (nI ((hs_nw S) + 1))])) ((va_up (ad 6) (hs_nw S) q55) (hs_nw S)) = hw_ob 10 [.int ((va_up (hs_V S) (hs_nw S) (va_up (va_up (hs_V S (hs_nw S)) 0 ka) 1 kg)) (hs_nw S) 0), .int ((va_up (hs_V S) (hs_nw S) (va_up (va_up (hs_V S (hs_nw S)) 0 ka) 1 kg)) (hs_nw S) 1), .int ((va_up (hs_V S) (hs_nw S) (va_up (va_up (hs_V S (hs_nw S)) 0 ka) 1 kg)) (hs_nw S) 2), .int ((va_up (hs_V S) (hs_nw S) (va_up (va_up (hs_V S (hs_nw S)) 0 ka) 1 kg)) (hs_nw S) 3), .int ((va_up (hs_V S) (hs_nw S) (va_up (va_up (hs_V S (hs_nw S)) 0 ka) 1 kg)) (hs_nw S) 4)]
                rw [show (va_up (ad 6) (hs_nw S) q55) (hs_nw S) = q55 from va_up_self _ _ _]
                refine (hw_up (hw_up (hw_us _ _ _) (Ne.symm (hw_nn e12_0hP1 hq55))) (Ne.symm (hw_nn e0_3hP1 hq55))).trans ?_
                first | rfl | (simp only [va_up_self, va_up_ne _ _ (show 0 ≠ 1 by omega)]; done) | (simp only [va_up_self, va_up_ne _ _ (show 0 ≠ 1 by omega)]; rfl) | (simp only [va_up_self, va_up_ne _ _ (show 0 ≠ 1 by omega), va_up_ne _ _ (show (2 : Nat) ≠ 1 by decide), va_up_ne _ _ (show (2 : Nat) ≠ 0 by decide), va_up_ne _ _ (show (3 : Nat) ≠ 1 by decide), va_up_ne _ _ (show (3 : Nat) ≠ 0 by decide), va_up_ne _ _ (show (4 : Nat) ≠ 1 by decide), va_up_ne _ _ (show (4 : Nat) ≠ 0 by decide), va_up_ne _ _ (show (0 : Nat) ≠ 1 by decide), z2, z3, z4, hr_fs, hr_ds]; done) | (simp only [va_up_self, va_up_ne _ _ (show 0 ≠ 1 by omega), va_up_ne _ _ (show (2 : Nat) ≠ 1 by decide), va_up_ne _ _ (show (2 : Nat) ≠ 0 by decide), va_up_ne _ _ (show (3 : Nat) ≠ 1 by decide), va_up_ne _ _ (show (3 : Nat) ≠ 0 by decide), va_up_ne _ _ (show (4 : Nat) ≠ 1 by decide), va_up_ne _ _ (show (4 : Nat) ≠ 0 by decide), va_up_ne _ _ (show (0 : Nat) ≠ 1 by decide), z2, z3, z4, hr_fs, hr_ds]; rfl)
              have hi0 := hi
              replace hi0 : hr_p S X1 6 i := (show i < hs_nw S by have h9 : i < hs_nw S + 1 := hi; omega)
              show (va_up (va_up (va_up (va_up M1 q55 (hw_ob 10 [.int 0, .int 0, .int 0, .int 0, .int 0])) q55 (hw_ob 10 [.int ka, .int kg, .int 0, .int ((nI 1) <<< ((nI (hs_nw S)) &&& 31)), .int (-1)])) (ad 12 0) (hw_ar Z 7 10 (va_up (hc_f (ad 6) (hs_nw S)) (hs_nw S) (some q55)))) (ad 0 3) (hw_ob 0 [.int ((hr_mc X1 1) + nI 1), .ref (ad 12 0), .int (nI ((hs_nw S) + 1))])) ((va_up (ad 6) (hs_nw S) q55) i) = hw_ob 10 [.int ((va_up (hs_V S) (hs_nw S) (va_up (va_up (hs_V S (hs_nw S)) 0 ka) 1 kg)) i 0), .int ((va_up (hs_V S) (hs_nw S) (va_up (va_up (hs_V S (hs_nw S)) 0 ka) 1 kg)) i 1), .int ((va_up (hs_V S) (hs_nw S) (va_up (va_up (hs_V S (hs_nw S)) 0 ka) 1 kg)) i 2), .int ((va_up (hs_V S) (hs_nw S) (va_up (va_up (hs_V S (hs_nw S)) 0 ka) 1 kg)) i 3), .int ((va_up (hs_V S) (hs_nw S) (va_up (va_up (hs_V S (hs_nw S)) 0 ka) 1 kg)) i 4)]
              rw [va_up_ne _ _ q0]
              rw [va_up_ne _ _ (hP1.n (k := 6) (i := i) (k' := 0) (i' := 3) hi0 (show 3 < 4 by decide) (fun q => absurd q.1 (by decide))), va_up_ne _ _ (hP1.n (k := 6) (i := i) (k' := 12) (i' := 0) hi0 h12 (fun q => absurd q.1 (by decide))), va_up_ne _ _ (hw_xn (hP1.a 6 i hi0) hq55), va_up_ne _ _ (hw_xn (hP1.a 6 i hi0) hq55)]
              refine (hP1.m 6 i hi0).trans ?_
              first | rfl | (simp only [va_up_ne _ _ q0]; done) | (simp only [va_up_ne _ _ q0]; rfl)
            · show (va_up (va_up (va_up (va_up M1 q55 (hw_ob 10 [.int 0, .int 0, .int 0, .int 0, .int 0])) q55 (hw_ob 10 [.int ka, .int kg, .int 0, .int ((nI 1) <<< ((nI (hs_nw S)) &&& 31)), .int (-1)])) (ad 12 0) (hw_ar Z 7 10 (va_up (hc_f (ad 6) (hs_nw S)) (hs_nw S) (some q55)))) (ad 0 3) (hw_ob 0 [.int ((hr_mc X1 1) + nI 1), .ref (ad 12 0), .int (nI ((hs_nw S) + 1))])) (ad 7 i) = hw_ob 8 [.int (hs_M S i 0), .int (hs_M S i 1), .int (hs_M S i 2), .int (hs_M S i 3), .ref (ad 8 i)]
              rw [va_up_ne _ _ (hP1.n (k := 7) (i := i) (k' := 0) (i' := 3) hi (show 3 < 4 by decide) (fun q => absurd q.1 (by decide))), va_up_ne _ _ (hP1.n (k := 7) (i := i) (k' := 12) (i' := 0) hi h12 (fun q => absurd q.1 (by decide))), va_up_ne _ _ (hw_xn (hP1.a 7 i hi) hq55), va_up_ne _ _ (hw_xn (hP1.a 7 i hi) hq55)]
              refine (hP1.m 7 i hi).trans ?_
              first | rfl
            · show (va_up (va_up (va_up (va_up M1 q55 (hw_ob 10 [.int 0, .int 0, .int 0, .int 0, .int 0])) q55 (hw_ob 10 [.int ka, .int kg, .int 0, .int ((nI 1) <<< ((nI (hs_nw S)) &&& 31)), .int (-1)])) (ad 12 0) (hw_ar Z 7 10 (va_up (hc_f (ad 6) (hs_nw S)) (hs_nw S) (some q55)))) (ad 0 3) (hw_ob 0 [.int ((hr_mc X1 1) + nI 1), .ref (ad 12 0), .int (nI ((hs_nw S) + 1))])) (ad 8 i) = hw_ob 0 [.int ((va_up (hr_mc X1) 1 (hr_mc X1 1 + nI 1)) (2 + i)), .ref (if hr_gr X1 i then ad 9 i else Z.2.2.2), .int (nI (hs_N S i))]
              rw [va_up_ne _ _ (hP1.n (k := 8) (i := i) (k' := 0) (i' := 3) hi (show 3 < 4 by decide) (fun q => absurd q.1 (by decide))), va_up_ne _ _ (hP1.n (k := 8) (i := i) (k' := 12) (i' := 0) hi h12 (fun q => absurd q.1 (by decide))), va_up_ne _ _ (hw_xn (hP1.a 8 i hi) hq55), va_up_ne _ _ (hw_xn (hP1.a 8 i hi) hq55)]
              refine (hP1.m 8 i hi).trans ?_
              first | rfl | (simp only [va_up_ne _ _ (show 2 + i ≠ 1 by omega)]; done) | (simp only [va_up_ne _ _ (show 2 + i ≠ 1 by omega)]; rfl)
            · show (va_up (va_up (va_up (va_up M1 q55 (hw_ob 10 [.int 0, .int 0, .int 0, .int 0, .int 0])) q55 (hw_ob 10 [.int ka, .int kg, .int 0, .int ((nI 1) <<< ((nI (hs_nw S)) &&& 31)), .int (-1)])) (ad 12 0) (hw_ar Z 7 10 (va_up (hc_f (ad 6) (hs_nw S)) (hs_nw S) (some q55)))) (ad 0 3) (hw_ob 0 [.int ((hr_mc X1 1) + nI 1), .ref (ad 12 0), .int (nI ((hs_nw S) + 1))])) (ad 9 i) = hw_ar Z 7 10 (hc_f (fun j => ad 10 (i + 2 * j)) (hs_N S i))
              rw [va_up_ne _ _ (hP1.n (k := 9) (i := i) (k' := 0) (i' := 3) hi (show 3 < 4 by decide) (fun q => absurd q.1 (by decide))), va_up_ne _ _ (hP1.n (k := 9) (i := i) (k' := 12) (i' := 0) hi h12 (fun q => absurd q.1 (by decide))), va_up_ne _ _ (hw_xn (hP1.a 9 i hi) hq55), va_up_ne _ _ (hw_xn (hP1.a 9 i hi) hq55)]
              refine (hP1.m 9 i hi).trans ?_
              first | rfl
            · show (va_up (va_up (va_up (va_up M1 q55 (hw_ob 10 [.int 0, .int 0, .int 0, .int 0, .int 0])) q55 (hw_ob 10 [.int ka, .int kg, .int 0, .int ((nI 1) <<< ((nI (hs_nw S)) &&& 31)), .int (-1)])) (ad 12 0) (hw_ar Z 7 10 (va_up (hc_f (ad 6) (hs_nw S)) (hs_nw S) (some q55)))) (ad 0 3) (hw_ob 0 [.int ((hr_mc X1 1) + nI 1), .ref (ad 12 0), .int (nI ((hs_nw S) + 1))])) (ad 10 i) = hw_ai Z 3 (hr_qq X1 (i % 2) (i / 2))
              rw [va_up_ne _ _ (hP1.n (k := 10) (i := i) (k' := 0) (i' := 3) hi (show 3 < 4 by decide) (fun q => absurd q.1 (by decide))), va_up_ne _ _ (hP1.n (k := 10) (i := i) (k' := 12) (i' := 0) hi h12 (fun q => absurd q.1 (by decide))), va_up_ne _ _ (hw_xn (hP1.a 10 i hi) hq55), va_up_ne _ _ (hw_xn (hP1.a 10 i hi) hq55)]
              refine (hP1.m 10 i hi).trans ?_
              first | rfl
            · show (va_up (va_up (va_up (va_up M1 q55 (hw_ob 10 [.int 0, .int 0, .int 0, .int 0, .int 0])) q55 (hw_ob 10 [.int ka, .int kg, .int 0, .int ((nI 1) <<< ((nI (hs_nw S)) &&& 31)), .int (-1)])) (ad 12 0) (hw_ar Z 7 10 (va_up (hc_f (ad 6) (hs_nw S)) (hs_nw S) (some q55)))) (ad 0 3) (hw_ob 0 [.int ((hr_mc X1 1) + nI 1), .ref (ad 12 0), .int (nI ((hs_nw S) + 1))])) (ad 11 i) = hw_ar Z 7 10 (hc_f (ad 1) (hs_np S))
              rw [va_up_ne _ _ (hP1.n (k := 11) (i := i) (k' := 0) (i' := 3) hi (show 3 < 4 by decide) (fun q => absurd q.1 (by decide))), va_up_ne _ _ (hP1.n (k := 11) (i := i) (k' := 12) (i' := 0) hi h12 (fun q => absurd q.1 (by decide))), va_up_ne _ _ (hw_xn (hP1.a 11 i hi) hq55), va_up_ne _ _ (hw_xn (hP1.a 11 i hi) hq55)]
              refine (hP1.m 11 i hi).trans ?_
              first | rfl
            · by_cases q0 : i = 0
              · subst q0
                show (va_up (va_up (va_up (va_up M1 q55 (hw_ob 10 [.int 0, .int 0, .int 0, .int 0, .int 0])) q55 (hw_ob 10 [.int ka, .int kg, .int 0, .int ((nI 1) <<< ((nI (hs_nw S)) &&& 31)), .int (-1)])) (ad 12 0) (hw_ar Z 7 10 (va_up (hc_f (ad 6) (hs_nw S)) (hs_nw S) (some q55)))) (ad 0 3) (hw_ob 0 [.int ((hr_mc X1 1) + nI 1), .ref (ad 12 0), .int (nI ((hs_nw S) + 1))])) (ad 12 0) = hw_ar Z 7 10 (hc_f ((va_up (ad 6) (hs_nw S) q55)) (hs_nw S + 1))
                refine (hw_up (hw_us _ _ _) (hP1.n (k := 12) (i := 0) (k' := 0) (i' := 3) h12 (show 3 < 4 by decide) (fun q => absurd q.1 (by decide)))).trans ?_
                first | rfl | (simp only [va_up_self, va_up_ne _ _ (show 0 ≠ 1 by omega)]; done) | (simp only [va_up_self, va_up_ne _ _ (show 0 ≠ 1 by omega)]; rfl) | (simp only [va_up_self, va_up_ne _ _ (show 0 ≠ 1 by omega), va_up_ne _ _ (show (2 : Nat) ≠ 1 by decide), va_up_ne _ _ (show (2 : Nat) ≠ 0 by decide), va_up_ne _ _ (show (3 : Nat) ≠ 1 by decide), va_up_ne _ _ (show (3 : Nat) ≠ 0 by decide), va_up_ne _ _ (show (4 : Nat) ≠ 1 by decide), va_up_ne _ _ (show (4 : Nat) ≠ 0 by decide), va_up_ne _ _ (show (0 : Nat) ≠ 1 by decide), z2, z3, z4, hr_fs, hr_ds]; done) | (simp only [va_up_self, va_up_ne _ _ (show 0 ≠ 1 by omega), va_up_ne _ _ (show (2 : Nat) ≠ 1 by decide), va_up_ne _ _ (show (2 : Nat) ≠ 0 by decide), va_up_ne _ _ (show (3 : Nat) ≠ 1 by decide), va_up_ne _ _ (show (3 : Nat) ≠ 0 by decide), va_up_ne _ _ (show (4 : Nat) ≠ 1 by decide), va_up_ne _ _ (show (4 : Nat) ≠ 0 by decide), va_up_ne _ _ (show (0 : Nat) ≠ 1 by decide), z2, z3, z4, hr_fs, hr_ds]; rfl)
              exact absurd hi.1 q0
            · exact hi.elim
        have fr_hok : ∀ a, b1 a → (va_up (va_up (va_up (va_up M1 q55 (hw_ob 10 [.int 0, .int 0, .int 0, .int 0, .int 0])) q55 (hw_ob 10 [.int ka, .int kg, .int 0, .int ((nI 1) <<< ((nI (hs_nw S)) &&& 31)), .int (-1)])) (ad 12 0) (hw_ar Z 7 10 (va_up (hc_f (ad 6) (hs_nw S)) (hs_nw S) (some q55)))) (ad 0 3) (hw_ob 0 [.int ((hr_mc X1 1) + nI 1), .ref (ad 12 0), .int (nI ((hs_nw S) + 1))])) a = M a := fun a ha => by rw [va_up_ne _ _ (hP1.f (k := 0) (i := 3) (show 3 < 4 by decide) ha), va_up_ne _ _ (hP1.f (k := 12) (i := 0) h12 ha), va_up_ne _ _ (hw_xn (hA1 a ha) hq55), va_up_ne _ _ (hw_xn (hA1 a ha) hq55)]; exact fr1 a ha
        have hfin : hr_R Z b1 M ad (st_powder S ka kg) (nI (hs_nw S)) (va_up (va_up (va_up (va_up M1 q55 (hw_ob 10 [.int 0, .int 0, .int 0, .int 0, .int 0])) q55 (hw_ob 10 [.int ka, .int kg, .int 0, .int ((nI 1) <<< ((nI (hs_nw S)) &&& 31)), .int (-1)])) (ad 12 0) (hw_ar Z 7 10 (va_up (hc_f (ad 6) (hs_nw S)) (hs_nw S) (some q55)))) (ad 0 3) (hw_ob 0 [.int ((hr_mc X1 1) + nI 1), .ref (ad 12 0), .int (nI ((hs_nw S) + 1))])) := hr_r (S' := hs_sw (hs_sV S (hs_nw S) (va_up (va_up (hs_V S (hs_nw S)) 0 ka) 1 kg)) (hs_nw S + 1)) (X' := hr_smc X1 1 (hr_mc X1 1 + nI 1)) (ad' := hr_ua ad 6 (va_up (ad 6) (hs_nw S) q55)) (by unfold st_powder; exact ((if_neg (fun q => q ⟨gk, gk2⟩)).trans ((if_neg (fun q => by omega)).trans rfl))) rfl hok ht1 fr_hok
        exact hret hI hfin (Nat.le_of_ble_eq_true rfl) (Nat.le_of_ble_eq_true rfl) dX11_powder_92
      · refine lv_aload_n hx hb dX11_powder_45 rfl (lv_at hl 0 rfl) ?_
        refine lv_iconst (v := nI 2) hx hb dX11_powder_46 (by decide) ?_
        refine hw_ci hI (hw_rV hx hb hml hown hts hk hI (m_X11_no l Z M1 (ad 0 0) (ad 0 2) (ad 0 3) (ad 0 1) (hr_th X1) (hs_G S 0) (hs_G S 1) (nI 2) e0_0hP1) cv_X11_44 e0_0hP1 rfl rfl ⟨rfl, rfl⟩ ⟨(Nat.le_of_ble_eq_true rfl), (Nat.le_of_ble_eq_true rfl)⟩ rfl hl.1 rfl (Nat.le_of_ble_eq_true rfl) ⟨(Nat.le_of_ble_eq_true rfl), (Nat.le_of_ble_eq_true rfl)⟩ dX11_powder_47) (fun r47 M47 H locs hR hI => ?_)
        obtain ⟨rfl, rfl⟩ := hR
        exact hret hI (hr_x (n := 2) (by unfold st_powder; exact (hq_el (fun q => q ⟨gk, gk2⟩) (hq_if (Nat.le_of_eq ((nI_eq (by decide) (by omega)).mp c42.symm)) ⟨rfl, rfl⟩))) (by decide) (hP1.th (nI 2)) rfl (fun a ha => (va_up_ne _ _ (hP1.f (k := 0) (i := 0) (show 0 < 4 by decide) ha)).trans (fr1 a ha))) (Nat.le_of_ble_eq_true rfl) (Nat.le_of_ble_eq_true rfl) dX11_powder_50
    · refine lv_aload_n hx hb dX11_powder_25 rfl (lv_at hl 0 rfl) ?_
      refine lv_iconst (v := nI 1) hx hb dX11_powder_26 (by decide) ?_
      refine hw_ci hI (hw_rV hx hb hml hown hts hk hI (m_X11_no l Z M1 (ad 0 0) (ad 0 2) (ad 0 3) (ad 0 1) (hr_th X1) (hs_G S 0) (hs_G S 1) (nI 1) e0_0hP1) cv_X11_44 e0_0hP1 rfl rfl ⟨rfl, rfl⟩ ⟨(Nat.le_of_ble_eq_true rfl), (Nat.le_of_ble_eq_true rfl)⟩ rfl hl.1 rfl (Nat.le_of_ble_eq_true rfl) ⟨(Nat.le_of_ble_eq_true rfl), (Nat.le_of_ble_eq_true rfl)⟩ dX11_powder_27) (fun r27 M27 H locs hR hI => ?_)
      obtain ⟨rfl, rfl⟩ := hR
      exact hret hI (hr_x (n := 1) (by unfold st_powder; exact (hq_if (fun q => hq_df c22 q.2) ⟨rfl, rfl⟩)) (by decide) (hP1.th (nI 1)) rfl (fun a ha => (va_up_ne _ _ (hP1.f (k := 0) (i := 0) (show 0 < 4 by decide) ha)).trans (fr1 a ha))) (Nat.le_of_ble_eq_true rfl) (Nat.le_of_ble_eq_true rfl) dX11_powder_30

theorem m_X11_powder (l : Launch) (Z : hw_Z) (M : hw_M) (ad : hp_ad) (S : hs_S) (X : hr_X) (b1 : Nat → Prop) (ka : Int32) (kg : Int32) (hP : hr_ok Z b1 M ad S X) (hV : hv_ok S) (hA : ∀ a, b1 a → M a ≠ none) : Met l yX11_powder (hw_m yX11_powder cX11_powder 3 (some .int)) ({ frames := 8, cells := 6, slots := 110, locals := 250 } : Room) (va_Pc [.ref (ad 0 0), .int ka, .int kg] (hw_P Z M)) (hw_Qi Z (hr_R Z b1 M ad (st_powder S ka kg))) 6 110 (hw_A Z) := by
  rcases Nat.eq_zero_or_pos (hs_nw S) with h | h
  · exact m_X11_powder_z l Z M ad S X b1 ka kg hP hV hA h
  · exact m_X11_powder_s l Z M ad S X b1 ka kg hP hV hA h

set_option maxHeartbeats 4000000 in
set_option maxRecDepth 100000 in
theorem m_X11_blend (l : Launch) (Z : hw_Z) (M : hw_M) (ad : hp_ad) (S : hs_S) (X : hr_X) (b1 : Nat → Prop) (ka : Int32) (kc : Int32) (hP : hr_ok Z b1 M ad S X) (hV : hv_ok S) (hA : ∀ a, b1 a → M a ≠ none) : Met l yX11_blend (hw_m yX11_blend cX11_blend 5 (some .int)) ({ frames := 8, cells := 2, slots := 90, locals := 250 } : Room) (va_Pc [.ref (ad 0 0), .int ka, .int kc] (hw_P Z M)) (hw_Qi Z (hr_R Z b1 M ad (st_blend S ka kc))) 2 90 (hw_A Z) := by
  refine hw_ofi (by decide +kernel) rfl (Nat.le_of_ble_eq_true rfl) ?_
  intro p e s m below meth c ls Q hx hb hml hown hts hk hnm hI hl hret
  have hB := hV.b
  have hnp := hB.np
  have hnw := hB.nw
  have e0_0hP : M (ad 0 0) = hw_ob 12 [.int (hr_th X), .int (hs_G S 0), .int (hs_G S 1), .ref (ad 0 2), .ref (ad 0 3), .ref (ad 0 1)] := hP.m 0 0 (show 0 < 4 by decide)
  refine lv_aload_n hx hb dX11_blend_0 rfl (lv_at hl 0 rfl) ?_
  refine lv_iconst (v := nI 0) hx hb dX11_blend_1 (by decide) ?_
  refine hw_put (fs' := [.int (nI 0), .int (hs_G S 0), .int (hs_G S 1), .ref (ad 0 2), .ref (ad 0 3), .ref (ad 0 1)]) hx hb hts hown hk hI fp_X11_26 e0_0hP (Nat.le_of_ble_eq_true rfl) rfl rfl rfl dX11_blend_2 (fun H locs hI => ?_)
  obtain ⟨M1, hM1⟩ : ∃ Y : hw_M, Y = va_up M (ad 0 0) (hw_ob 12 [.int (nI 0), .int (hs_G S 0), .int (hs_G S 1), .ref (ad 0 2), .ref (ad 0 3), .ref (ad 0 1)]) := ⟨_, rfl⟩
  replace hI := hI.eq hM1.symm
  obtain ⟨X1, hX1⟩ : ∃ Y : hr_X, Y = (nI 0, X.2) := ⟨_, rfl⟩
  have hP1 : hr_ok Z b1 M1 ad S X1 := by rw [hM1, hX1]; exact hP.th (nI 0)
  have ht1 : hr_th X1 = nI 0 := by rw [hX1]; rfl
  have hgr1 : hr_gr X1 = hr_gr X := by rw [hX1]; rfl
  have hqq1 : hr_qq X1 = hr_qq X := by rw [hX1]; rfl
  have fr1 : ∀ a, b1 a → M1 a = M a := fun a ha => by rw [hM1]; exact va_up_ne _ _ (hP.f (k := 0) (i := 0) (show 0 < 4 by decide) ha)
  have hA1 : ∀ a, b1 a → M1 a ≠ none := fun a ha => by rw [fr1 a ha]; exact hA a ha
  clear hP hX1
  have e0_0hP1 : M1 (ad 0 0) = hw_ob 12 [.int (hr_th X1), .int (hs_G S 0), .int (hs_G S 1), .ref (ad 0 2), .ref (ad 0 3), .ref (ad 0 1)] := hP1.m 0 0 (show 0 < 4 by decide)
  have e0_3hP1 : M1 (ad 0 3) = hw_ob 0 [.int (hr_mc X1 1), .ref (hr_d (hs_nw S) Z.2.2.2 (ad 12 0)), .int (nI (hs_nw S))] := hP1.m 0 3 (show 3 < 4 by decide)
  refine lv_aload_n hx hb dX11_blend_5 rfl (lv_at hl 0 rfl) ?_
  refine lv_iload_n hx hb dX11_blend_6 rfl (lv_at hl 1 rfl) ?_
  refine hw_ci hI (hw_rV hx hb hml hown hts hk hI (m_X11_isPowder l Z M1 (ad 0 0) (ad 0 2) (ad 0 3) (ad 0 1) (hr_th X1) (hs_G S 0) (hs_G S 1) ka (hr_mc X1 1) (hs_nw S) (.ref (hr_d (hs_nw S) Z.2.2.2 (ad 12 0))) e0_0hP1 e0_3hP1 (by omega)) cv_X11_91 e0_0hP1 rfl rfl ⟨rfl, rfl⟩ ⟨(Nat.le_of_ble_eq_true rfl), (Nat.le_of_ble_eq_true rfl)⟩ rfl hl.1 rfl (Nat.le_of_ble_eq_true rfl) ⟨(Nat.le_of_ble_eq_true rfl), (Nat.le_of_ble_eq_true rfl)⟩ dX11_blend_7) (fun r7 M7 H locs hR hI => ?_)
  obtain ⟨rfl, rfl⟩ := hR
  refine lv_if_eq (tgt := 21) hx hb dX11_blend_10 (by decide) (fun c10 => ?_) (fun c10 => ?_)
  · refine lv_aload_n hx hb dX11_blend_21 rfl (lv_at hl 0 rfl) ?_
    refine lv_iconst (v := nI 1) hx hb dX11_blend_22 (by decide) ?_
    refine hw_ci hI (hw_rV hx hb hml hown hts hk hI (m_X11_no l Z M1 (ad 0 0) (ad 0 2) (ad 0 3) (ad 0 1) (hr_th X1) (hs_G S 0) (hs_G S 1) (nI 1) e0_0hP1) cv_X11_44 e0_0hP1 rfl rfl ⟨rfl, rfl⟩ ⟨(Nat.le_of_ble_eq_true rfl), (Nat.le_of_ble_eq_true rfl)⟩ rfl hl.1 rfl (Nat.le_of_ble_eq_true rfl) ⟨(Nat.le_of_ble_eq_true rfl), (Nat.le_of_ble_eq_true rfl)⟩ dX11_blend_23) (fun r23 M23 H locs hR hI => ?_)
    obtain ⟨rfl, rfl⟩ := hR
    exact hret hI (hr_x (n := 1) (by unfold st_blend; exact (hq_if (fun q => hq_df c10 q.1) ⟨rfl, rfl⟩)) (by decide) (hP1.th (nI 1)) rfl (fun a ha => (va_up_ne _ _ (hP1.f (k := 0) (i := 0) (show 0 < 4 by decide) ha)).trans (fr1 a ha))) (Nat.le_of_ble_eq_true rfl) (Nat.le_of_ble_eq_true rfl) dX11_blend_26
  · refine lv_aload_n hx hb dX11_blend_13 rfl (lv_at hl 0 rfl) ?_
    refine lv_iload_n hx hb dX11_blend_14 rfl (lv_at hl 2 rfl) ?_
    refine hw_ci hI (hw_rV hx hb hml hown hts hk hI (m_X11_isPowder l Z M1 (ad 0 0) (ad 0 2) (ad 0 3) (ad 0 1) (hr_th X1) (hs_G S 0) (hs_G S 1) kc (hr_mc X1 1) (hs_nw S) (.ref (hr_d (hs_nw S) Z.2.2.2 (ad 12 0))) e0_0hP1 e0_3hP1 (by omega)) cv_X11_91 e0_0hP1 rfl rfl ⟨rfl, rfl⟩ ⟨(Nat.le_of_ble_eq_true rfl), (Nat.le_of_ble_eq_true rfl)⟩ rfl hl.1 rfl (Nat.le_of_ble_eq_true rfl) ⟨(Nat.le_of_ble_eq_true rfl), (Nat.le_of_ble_eq_true rfl)⟩ dX11_blend_15) (fun r15 M15 H locs hR hI => ?_)
    obtain ⟨rfl, rfl⟩ := hR
    refine lv_if_ne (tgt := 27) hx hb dX11_blend_18 (by decide) (fun c18 => ?_) (fun c18 => ?_)
    · have gk := hq_dt c10
      have gk2 := hq_dt c18
      have hx_ka := hb_okx (by omega) gk
      have hi_ka : hb_ix ka < hs_nw S := hx_ka.1
      have h6_ka : hb_ix ka < 6 := by omega
      have h12 : 0 = 0 ∧ 0 < hs_nw S := ⟨rfl, by omega⟩
      have e0_3hP1 : M1 (ad 0 3) = hw_ob 0 [.int (hr_mc X1 1), .ref (ad 12 0), .int (nI (hs_nw S))] := by
        have q := hP1.m 0 3 (show 3 < 4 by decide)
        rw [show hr_e Z ad S X1 0 3 = hw_ob 0 [.int (hr_mc X1 1), .ref (hr_d (hs_nw S) Z.2.2.2 (ad 12 0)), .int (nI (hs_nw S))] from rfl, hr_d0 h12.2] at q
        exact q
      have e12_0hP1 : M1 (ad 12 0) = hw_ar Z 7 10 (hc_f (ad 6) (hs_nw S)) := hP1.m 12 0 h12
      have e6_hb_ix_kahP1 : M1 (ad 6 (hb_ix ka)) = hw_ob 10 [.int (hs_V S (hb_ix ka) 0), .int (hs_V S (hb_ix ka) 1), .int (hs_V S (hb_ix ka) 2), .int (hs_V S (hb_ix ka) 3), .int (hs_V S (hb_ix ka) 4)] := hP1.m 6 (hb_ix ka) hi_ka
      have hx_kc := hb_okx (by omega) gk2
      have hi_kc : hb_ix kc < hs_nw S := hx_kc.1
      have h6_kc : hb_ix kc < 6 := by omega
      have e6_hb_ix_kchP1 : M1 (ad 6 (hb_ix kc)) = hw_ob 10 [.int (hs_V S (hb_ix kc) 0), .int (hs_V S (hb_ix kc) 1), .int (hs_V S (hb_ix kc) 2), .int (hs_V S (hb_ix kc) 3), .int (hs_V S (hb_ix kc) 4)] := hP1.m 6 (hb_ix kc) hi_kc
      refine lv_aload_n hx hb dX11_blend_27 rfl (lv_at hl 0 rfl) ?_
      refine hw_get hx hb hts hown hk hI fd_X11_16 e0_0hP1 rfl dX11_blend_28 ?_
      refine lv_iload_n hx hb dX11_blend_31 rfl (lv_at hl 1 rfl) ?_
      refine hw_ti hx_ka.2 ?_
      refine hw_cFr hI (hw_rF hx hb hml hown hts hk hI (m_Jx4a65c_get_915e3 l Z M1 (ad 0 3) (ad 12 0) (hs_nw S) (hb_ix ka) (ad 6 (hb_ix ka)) (hr_mc X1 1) (hc_f (ad 6) (hs_nw S)) e0_3hP1 e12_0hP1 hi_ka (by omega) (if_pos hi_ka)) cf_X11_59 e0_3hP1 rfl rfl ⟨rfl, rfl⟩ ⟨(Nat.le_of_ble_eq_true rfl), (Nat.le_of_ble_eq_true rfl)⟩ rfl hl.1 rfl (Nat.le_of_ble_eq_true rfl) ⟨(Nat.le_of_ble_eq_true rfl), (Nat.le_of_ble_eq_true rfl)⟩ dX11_blend_32) (fun r32 M32 H locs hR hI => ?_)
      obtain ⟨rfl, rfl⟩ := hR
      refine hw_cast hx hb hts hown hk hI e6_hb_ix_kahP1 rfl (hw_win (w := .classLink RX11 86 RX9) (by decide +kernel) (by decide +kernel)) dX11_blend_37 ?_
      refine lv_astore_n (lv' := [(3, .ref (ad 6 (hb_ix ka))), (0, .ref (ad 0 0)), (1, .int ka), (2, .int kc)]) hx hb dX11_blend_40 rfl hl (by decide) rfl (fun ls hl => ?_)
      refine lv_aload_n hx hb dX11_blend_41 rfl (lv_at hl 1 rfl) ?_
      refine hw_get hx hb hts hown hk hI fd_X11_16 e0_0hP1 rfl dX11_blend_42 ?_
      refine lv_iload_n hx hb dX11_blend_45 rfl (lv_at hl 3 rfl) ?_
      refine hw_ti hx_kc.2 ?_
      refine hw_cFr hI (hw_rF hx hb hml hown hts hk hI (m_Jx4a65c_get_915e3 l Z M1 (ad 0 3) (ad 12 0) (hs_nw S) (hb_ix kc) (ad 6 (hb_ix kc)) (hr_mc X1 1) (hc_f (ad 6) (hs_nw S)) e0_3hP1 e12_0hP1 hi_kc (by omega) (if_pos hi_kc)) cf_X11_59 e0_3hP1 rfl rfl ⟨rfl, rfl⟩ ⟨(Nat.le_of_ble_eq_true rfl), (Nat.le_of_ble_eq_true rfl)⟩ rfl hl.1 rfl (Nat.le_of_ble_eq_true rfl) ⟨(Nat.le_of_ble_eq_true rfl), (Nat.le_of_ble_eq_true rfl)⟩ dX11_blend_46) (fun r46 M46 H locs hR hI => ?_)
      obtain ⟨rfl, rfl⟩ := hR
      refine hw_cast hx hb hts hown hk hI e6_hb_ix_kchP1 rfl (hw_win (w := .classLink RX11 86 RX9) (by decide +kernel) (by decide +kernel)) dX11_blend_51 ?_
      refine lv_astore (lv' := [(4, .ref (ad 6 (hb_ix kc))), (3, .ref (ad 6 (hb_ix ka))), (0, .ref (ad 0 0)), (1, .int ka), (2, .int kc)]) hx hb dX11_blend_54 hl (by decide) rfl (fun ls hl => ?_)
      refine lv_iload_n hx hb dX11_blend_56 rfl (lv_at hl 3 rfl) ?_
      refine lv_iload_n hx hb dX11_blend_57 rfl (lv_at hl 4 rfl) ?_
      refine lv_icmp_eq (tgt := 73) hx hb dX11_blend_58 (by decide) (fun c58 => ?_) (fun c58 => ?_)
      · refine lv_aload_n hx hb dX11_blend_73 rfl (lv_at hl 2 rfl) ?_
        refine lv_iconst (v := nI 2) hx hb dX11_blend_74 (by decide) ?_
        refine hw_ci hI (hw_rV hx hb hml hown hts hk hI (m_X11_no l Z M1 (ad 0 0) (ad 0 2) (ad 0 3) (ad 0 1) (hr_th X1) (hs_G S 0) (hs_G S 1) (nI 2) e0_0hP1) cv_X11_44 e0_0hP1 rfl rfl ⟨rfl, rfl⟩ ⟨(Nat.le_of_ble_eq_true rfl), (Nat.le_of_ble_eq_true rfl)⟩ rfl hl.1 rfl (Nat.le_of_ble_eq_true rfl) ⟨(Nat.le_of_ble_eq_true rfl), (Nat.le_of_ble_eq_true rfl)⟩ dX11_blend_75) (fun r75 M75 H locs hR hI => ?_)
        obtain ⟨rfl, rfl⟩ := hR
        exact hret hI (hr_x (n := 2) (by unfold st_blend; exact (hq_el (fun q => q ⟨gk, gk2⟩) (hq_if (Or.inl c58) ⟨rfl, rfl⟩))) (by decide) (hP1.th (nI 2)) rfl (fun a ha => (va_up_ne _ _ (hP1.f (k := 0) (i := 0) (show 0 < 4 by decide) ha)).trans (fr1 a ha))) (Nat.le_of_ble_eq_true rfl) (Nat.le_of_ble_eq_true rfl) dX11_blend_78
      · refine lv_aload_n hx hb dX11_blend_61 rfl (lv_at hl 1 rfl) ?_
        refine hw_get hx hb hts hown hk hI fd_X11_94 e6_hb_ix_kahP1 rfl dX11_blend_62 ?_
        refine lv_aload hx hb dX11_blend_65 (lv_at hl 0 rfl) ?_
        refine hw_get hx hb hts hown hk hI fd_X11_94 e6_hb_ix_kchP1 rfl dX11_blend_67 ?_
        refine lv_icmp_eq (tgt := 79) hx hb dX11_blend_70 (by decide) (fun c70 => ?_) (fun c70 => ?_)
        · have hfg : hb_ix ka ≠ hb_ix kc := fun q => c58 (by rw [hx_ka.2, hx_kc.2, q])
          refine lv_aload_n hx hb dX11_blend_79 rfl (lv_at hl 1 rfl) ?_
          refine hw_get hx hb hts hown hk hI fd_X11_97 e6_hb_ix_kahP1 rfl dX11_blend_80 ?_
          refine lv_iconst (v := (-1)) hx hb dX11_blend_83 (by decide) ?_
          refine lv_icmp_ne (tgt := 96) hx hb dX11_blend_84 (by decide) (fun c84 => ?_) (fun c84 => ?_)
          · refine lv_aload_n hx hb dX11_blend_96 rfl (lv_at hl 2 rfl) ?_
            refine lv_iconst (v := nI 3) hx hb dX11_blend_97 (by decide) ?_
            refine hw_ci hI (hw_rV hx hb hml hown hts hk hI (m_X11_no l Z M1 (ad 0 0) (ad 0 2) (ad 0 3) (ad 0 1) (hr_th X1) (hs_G S 0) (hs_G S 1) (nI 3) e0_0hP1) cv_X11_44 e0_0hP1 rfl rfl ⟨rfl, rfl⟩ ⟨(Nat.le_of_ble_eq_true rfl), (Nat.le_of_ble_eq_true rfl)⟩ rfl hl.1 rfl (Nat.le_of_ble_eq_true rfl) ⟨(Nat.le_of_ble_eq_true rfl), (Nat.le_of_ble_eq_true rfl)⟩ dX11_blend_98) (fun r98 M98 H locs hR hI => ?_)
            obtain ⟨rfl, rfl⟩ := hR
            exact hret hI (hr_x (n := 3) (by unfold st_blend; exact (hq_el (fun q => q ⟨gk, gk2⟩) (hq_el (fun q => q.elim c58 (fun q => q c70)) (hq_if (Or.inl c84) ⟨rfl, rfl⟩)))) (by decide) (hP1.th (nI 3)) rfl (fun a ha => (va_up_ne _ _ (hP1.f (k := 0) (i := 0) (show 0 < 4 by decide) ha)).trans (fr1 a ha))) (Nat.le_of_ble_eq_true rfl) (Nat.le_of_ble_eq_true rfl) dX11_blend_101
          · refine lv_aload hx hb dX11_blend_87 (lv_at hl 0 rfl) ?_
            refine hw_get hx hb hts hown hk hI fd_X11_97 e6_hb_ix_kchP1 rfl dX11_blend_89 ?_
            refine lv_iconst (v := (-1)) hx hb dX11_blend_92 (by decide) ?_
            refine lv_icmp_eq (tgt := 102) hx hb dX11_blend_93 (by decide) (fun c93 => ?_) (fun c93 => ?_)
            · refine lv_aload_n hx hb dX11_blend_102 rfl (lv_at hl 1 rfl) ?_
              refine lv_dup hx hb dX11_blend_103 rfl ?_
              refine hw_get hx hb hts hown hk hI fd_X11_100 e6_hb_ix_kahP1 rfl dX11_blend_104 ?_
              refine lv_aload hx hb dX11_blend_107 (lv_at hl 0 rfl) ?_
              refine hw_get hx hb hts hown hk hI fd_X11_100 e6_hb_ix_kchP1 rfl dX11_blend_109 ?_
              refine lv_iadd hx hb dX11_blend_112 ?_
              refine hw_put (fs' := [.int (hs_V S (hb_ix ka) 0), .int ((hs_V S (hb_ix ka) 1) + (hs_V S (hb_ix kc) 1)), .int (hs_V S (hb_ix ka) 2), .int (hs_V S (hb_ix ka) 3), .int (hs_V S (hb_ix ka) 4)]) hx hb hts hown hk hI fp_X11_100 e6_hb_ix_kahP1 (Nat.le_of_ble_eq_true rfl) rfl rfl rfl dX11_blend_113 (fun H locs hI => ?_)
              refine lv_aload hx hb dX11_blend_116 (lv_at hl 0 rfl) ?_
              refine lv_iconst (v := nI 0) hx hb dX11_blend_118 (by decide) ?_
              refine hw_put (fs' := [.int (hs_V S (hb_ix kc) 0), .int (nI 0), .int (hs_V S (hb_ix kc) 2), .int (hs_V S (hb_ix kc) 3), .int (hs_V S (hb_ix kc) 4)]) hx hb hts hown hk hI fp_X11_100 (hw_up e6_hb_ix_kchP1 (hP1.n (k := 6) (i := (hb_ix kc)) (k' := 6) (i' := (hb_ix ka)) hi_kc hi_ka (fun q => hfg q.2.symm))) (Nat.le_of_ble_eq_true rfl) rfl rfl rfl dX11_blend_119 (fun H locs hI => ?_)
              refine lv_aload_n hx hb dX11_blend_122 rfl (lv_at hl 1 rfl) ?_
              refine lv_aload_n hx hb dX11_blend_123 rfl (lv_at hl 1 rfl) ?_
              refine hw_get hx hb hts hown hk hI fd_X11_103 (hw_up (hw_us _ _ _) (hP1.n (k := 6) (i := (hb_ix ka)) (k' := 6) (i' := (hb_ix kc)) hi_ka hi_kc (fun q => hfg q.2))) rfl dX11_blend_124 ?_
              refine lv_aload hx hb dX11_blend_127 (lv_at hl 0 rfl) ?_
              refine hw_get hx hb hts hown hk hI fd_X11_103 (hw_us _ _ _) rfl dX11_blend_129 ?_
              refine va_mmax hx hb (by rw [hml]; exact hl.1.symm) hown (hts _ (hw_win (w := .methodLink RX11 106 Lib.Math.max.name) (by decide +kernel) (by decide +kernel))) (hts _ (hw_win (w := .static Lib.Math.max.name) (by decide +kernel) (by decide +kernel))) (hts _ (hw_win (w := .initialized "java/lang/Math") (by decide +kernel) (by decide +kernel))) (hts _ (hw_win (w := .code Lib.Math.max.name Lib.Math.max.code 2 (some .int)) (by decide +kernel) (by decide +kernel))) (Nat.le_of_ble_eq_true rfl) (Nat.le_of_ble_eq_true rfl) (Nat.le_of_ble_eq_true rfl) (Nat.le_of_ble_eq_true rfl) dX11_blend_132 ?_
              refine hw_ti (y := hb_max (hs_V S (hb_ix ka) 2) (hs_V S (hb_ix kc) 2)) rfl ?_
              refine hw_put (fs' := [.int (hs_V S (hb_ix ka) 0), .int ((hs_V S (hb_ix ka) 1) + (hs_V S (hb_ix kc) 1)), .int (hb_max (hs_V S (hb_ix ka) 2) (hs_V S (hb_ix kc) 2)), .int (hs_V S (hb_ix ka) 3), .int (hs_V S (hb_ix ka) 4)]) hx hb hts hown hk hI fp_X11_103 (hw_up (hw_us _ _ _) (hP1.n (k := 6) (i := (hb_ix ka)) (k' := 6) (i' := (hb_ix kc)) hi_ka hi_kc (fun q => hfg q.2))) (Nat.le_of_ble_eq_true rfl) rfl rfl rfl dX11_blend_135 (fun H locs hI => ?_)
              refine lv_aload_n hx hb dX11_blend_138 rfl (lv_at hl 1 rfl) ?_
              refine lv_dup hx hb dX11_blend_139 rfl ?_
              refine hw_get hx hb hts hown hk hI fd_X11_112 (hw_us _ _ _) rfl dX11_blend_140 ?_
              refine lv_aload hx hb dX11_blend_143 (lv_at hl 0 rfl) ?_
              refine hw_get hx hb hts hown hk hI fd_X11_112 (hw_up (hw_us _ _ _) (hP1.n (k := 6) (i := (hb_ix kc)) (k' := 6) (i' := (hb_ix ka)) hi_kc hi_ka (fun q => hfg q.2.symm))) rfl dX11_blend_145 ?_
              refine lv_ior hx hb dX11_blend_148 ?_
              refine hw_put (fs' := [.int (hs_V S (hb_ix ka) 0), .int ((hs_V S (hb_ix ka) 1) + (hs_V S (hb_ix kc) 1)), .int (hb_max (hs_V S (hb_ix ka) 2) (hs_V S (hb_ix kc) 2)), .int ((hs_V S (hb_ix ka) 3) ||| (hs_V S (hb_ix kc) 3)), .int (hs_V S (hb_ix ka) 4)]) hx hb hts hown hk hI fp_X11_112 (hw_us _ _ _) (Nat.le_of_ble_eq_true rfl) rfl rfl rfl dX11_blend_149 (fun H locs hI => ?_)
              refine lv_aload_n hx hb dX11_blend_152 rfl (lv_at hl 1 rfl) ?_
              refine hw_get hx hb hts hown hk hI fd_X11_100 (hw_us _ _ _) rfl dX11_blend_153 ?_
              have hok : hr_ok Z b1 (va_up (va_up (va_up (va_up M1 (ad 6 (hb_ix ka)) (hw_ob 10 [.int (hs_V S (hb_ix ka) 0), .int ((hs_V S (hb_ix ka) 1) + (hs_V S (hb_ix kc) 1)), .int (hs_V S (hb_ix ka) 2), .int (hs_V S (hb_ix ka) 3), .int (hs_V S (hb_ix ka) 4)])) (ad 6 (hb_ix kc)) (hw_ob 10 [.int (hs_V S (hb_ix kc) 0), .int (nI 0), .int (hs_V S (hb_ix kc) 2), .int (hs_V S (hb_ix kc) 3), .int (hs_V S (hb_ix kc) 4)])) (ad 6 (hb_ix ka)) (hw_ob 10 [.int (hs_V S (hb_ix ka) 0), .int ((hs_V S (hb_ix ka) 1) + (hs_V S (hb_ix kc) 1)), .int (hb_max (hs_V S (hb_ix ka) 2) (hs_V S (hb_ix kc) 2)), .int (hs_V S (hb_ix ka) 3), .int (hs_V S (hb_ix ka) 4)])) (ad 6 (hb_ix ka)) (hw_ob 10 [.int (hs_V S (hb_ix ka) 0), .int ((hs_V S (hb_ix ka) 1) + (hs_V S (hb_ix kc) 1)), .int (hb_max (hs_V S (hb_ix ka) 2) (hs_V S (hb_ix kc) 2)), .int ((hs_V S (hb_ix ka) 3) ||| (hs_V S (hb_ix kc) 3)), .int (hs_V S (hb_ix ka) 4)])) ad (hs_sV (hs_sV S (hb_ix ka) (va_up (va_up (va_up (hs_V S (hb_ix ka)) 1 (hs_V S (hb_ix ka) 1 + hs_V S (hb_ix kc) 1)) 2 (hb_max (hs_V S (hb_ix ka) 2) (hs_V S (hb_ix kc) 2))) 3 (hs_V S (hb_ix ka) 3 ||| hs_V S (hb_ix kc) 3))) (hb_ix kc) (va_up (hs_V S (hb_ix kc)) 1 0)) (X1) := by
                refine hr_old hP1 (fun _ _ hi => hi) ?_ hP1.q hP1.g
                intro k i hi
                rcases k with _ | _ | _ | _ | _ | _ | _ | _ | _ | _ | _ | _ | _ | k
                · rcases (show i = 0 ∨ i = 1 ∨ i = 2 ∨ i = 3 by have h4 : i < 4 := hi; omega) with rfl | rfl | rfl | rfl
                  · show (va_up (va_up (va_up (va_up M1 (ad 6 (hb_ix ka)) (hw_ob 10 [.int (hs_V S (hb_ix ka) 0), .int ((hs_V S (hb_ix ka) 1) + (hs_V S (hb_ix kc) 1)), .int (hs_V S (hb_ix ka) 2), .int (hs_V S (hb_ix ka) 3), .int (hs_V S (hb_ix ka) 4)])) (ad 6 (hb_ix kc)) (hw_ob 10 [.int (hs_V S (hb_ix kc) 0), .int (nI 0), .int (hs_V S (hb_ix kc) 2), .int (hs_V S (hb_ix kc) 3), .int (hs_V S (hb_ix kc) 4)])) (ad 6 (hb_ix ka)) (hw_ob 10 [.int (hs_V S (hb_ix ka) 0), .int ((hs_V S (hb_ix ka) 1) + (hs_V S (hb_ix kc) 1)), .int (hb_max (hs_V S (hb_ix ka) 2) (hs_V S (hb_ix kc) 2)), .int (hs_V S (hb_ix ka) 3), .int (hs_V S (hb_ix ka) 4)])) (ad 6 (hb_ix ka)) (hw_ob 10 [.int (hs_V S (hb_ix ka) 0), .int ((hs_V S (hb_ix ka) 1) + (hs_V S (hb_ix kc) 1)), .int (hb_max (hs_V S (hb_ix ka) 2) (hs_V S (hb_ix kc) 2)), .int ((hs_V S (hb_ix ka) 3) ||| (hs_V S (hb_ix kc) 3)), .int (hs_V S (hb_ix ka) 4)])) (ad 0 0) = hw_ob 12 [.int (hr_th X1), .int (hs_G S 0), .int (hs_G S 1), .ref (ad 0 2), .ref (ad 0 3), .ref (ad 0 1)]
                    rw [va_up_ne _ _ (hP1.n (k := 0) (i := 0) (k' := 6) (i' := (hb_ix ka)) (show 0 < 4 by decide) hi_ka (fun q => absurd q.1 (by decide))), va_up_ne _ _ (hP1.n (k := 0) (i := 0) (k' := 6) (i' := (hb_ix ka)) (show 0 < 4 by decide) hi_ka (fun q => absurd q.1 (by decide))), va_up_ne _ _ (hP1.n (k := 0) (i := 0) (k' := 6) (i' := (hb_ix kc)) (show 0 < 4 by decide) hi_kc (fun q => absurd q.1 (by decide))), va_up_ne _ _ (hP1.n (k := 0) (i := 0) (k' := 6) (i' := (hb_ix ka)) (show 0 < 4 by decide) hi_ka (fun q => absurd q.1 (by decide)))]
                    refine (hP1.m 0 0 (show 0 < 4 by decide)).trans ?_
                    first | rfl | (simp only [va_up_self, va_up_ne _ _ hfg, va_up_ne _ _ hfg.symm]; done) | (simp only [va_up_self, va_up_ne _ _ hfg, va_up_ne _ _ hfg.symm]; rfl)
                  · show (va_up (va_up (va_up (va_up M1 (ad 6 (hb_ix ka)) (hw_ob 10 [.int (hs_V S (hb_ix ka) 0), .int ((hs_V S (hb_ix ka) 1) + (hs_V S (hb_ix kc) 1)), .int (hs_V S (hb_ix ka) 2), .int (hs_V S (hb_ix ka) 3), .int (hs_V S (hb_ix ka) 4)])) (ad 6 (hb_ix kc)) (hw_ob 10 [.int (hs_V S (hb_ix kc) 0), .int (nI 0), .int (hs_V S (hb_ix kc) 2), .int (hs_V S (hb_ix kc) 3), .int (hs_V S (hb_ix kc) 4)])) (ad 6 (hb_ix ka)) (hw_ob 10 [.int (hs_V S (hb_ix ka) 0), .int ((hs_V S (hb_ix ka) 1) + (hs_V S (hb_ix kc) 1)), .int (hb_max (hs_V S (hb_ix ka) 2) (hs_V S (hb_ix kc) 2)), .int (hs_V S (hb_ix ka) 3), .int (hs_V S (hb_ix ka) 4)])) (ad 6 (hb_ix ka)) (hw_ob 10 [.int (hs_V S (hb_ix ka) 0), .int ((hs_V S (hb_ix ka) 1) + (hs_V S (hb_ix kc) 1)), .int (hb_max (hs_V S (hb_ix ka) 2) (hs_V S (hb_ix kc) 2)), .int ((hs_V S (hb_ix ka) 3) ||| (hs_V S (hb_ix kc) 3)), .int (hs_V S (hb_ix ka) 4)])) (ad 0 1) = hw_ar Z 6 2 (fun j => some (ad 7 j))
                    rw [va_up_ne _ _ (hP1.n (k := 0) (i := 1) (k' := 6) (i' := (hb_ix ka)) (show 1 < 4 by decide) hi_ka (fun q => absurd q.1 (by decide))), va_up_ne _ _ (hP1.n (k := 0) (i := 1) (k' := 6) (i' := (hb_ix ka)) (show 1 < 4 by decide) hi_ka (fun q => absurd q.1 (by decide))), va_up_ne _ _ (hP1.n (k := 0) (i := 1) (k' := 6) (i' := (hb_ix kc)) (show 1 < 4 by decide) hi_kc (fun q => absurd q.1 (by decide))), va_up_ne _ _ (hP1.n (k := 0) (i := 1) (k' := 6) (i' := (hb_ix ka)) (show 1 < 4 by decide) hi_ka (fun q => absurd q.1 (by decide)))]
                    refine (hP1.m 0 1 (show 1 < 4 by decide)).trans ?_
                    first | rfl | (simp only [va_up_self, va_up_ne _ _ hfg, va_up_ne _ _ hfg.symm]; done) | (simp only [va_up_self, va_up_ne _ _ hfg, va_up_ne _ _ hfg.symm]; rfl)
                  · show (va_up (va_up (va_up (va_up M1 (ad 6 (hb_ix ka)) (hw_ob 10 [.int (hs_V S (hb_ix ka) 0), .int ((hs_V S (hb_ix ka) 1) + (hs_V S (hb_ix kc) 1)), .int (hs_V S (hb_ix ka) 2), .int (hs_V S (hb_ix ka) 3), .int (hs_V S (hb_ix ka) 4)])) (ad 6 (hb_ix kc)) (hw_ob 10 [.int (hs_V S (hb_ix kc) 0), .int (nI 0), .int (hs_V S (hb_ix kc) 2), .int (hs_V S (hb_ix kc) 3), .int (hs_V S (hb_ix kc) 4)])) (ad 6 (hb_ix ka)) (hw_ob 10 [.int (hs_V S (hb_ix ka) 0), .int ((hs_V S (hb_ix ka) 1) + (hs_V S (hb_ix kc) 1)), .int (hb_max (hs_V S (hb_ix ka) 2) (hs_V S (hb_ix kc) 2)), .int (hs_V S (hb_ix ka) 3), .int (hs_V S (hb_ix ka) 4)])) (ad 6 (hb_ix ka)) (hw_ob 10 [.int (hs_V S (hb_ix ka) 0), .int ((hs_V S (hb_ix ka) 1) + (hs_V S (hb_ix kc) 1)), .int (hb_max (hs_V S (hb_ix ka) 2) (hs_V S (hb_ix kc) 2)), .int ((hs_V S (hb_ix ka) 3) ||| (hs_V S (hb_ix kc) 3)), .int (hs_V S (hb_ix ka) 4)])) (ad 0 2) = hw_ob 0 [.int (hr_mc X1 0), .ref (hr_d (hs_np S) Z.2.2.2 (ad 11 0)), .int (nI (hs_np S))]
                    rw [va_up_ne _ _ (hP1.n (k := 0) (i := 2) (k' := 6) (i' := (hb_ix ka)) (show 2 < 4 by decide) hi_ka (fun q => absurd q.1 (by decide))), va_up_ne _ _ (hP1.n (k := 0) (i := 2) (k' := 6) (i' := (hb_ix ka)) (show 2 < 4 by decide) hi_ka (fun q => absurd q.1 (by decide))), va_up_ne _ _ (hP1.n (k := 0) (i := 2) (k' := 6) (i' := (hb_ix kc)) (show 2 < 4 by decide) hi_kc (fun q => absurd q.1 (by decide))), va_up_ne _ _ (hP1.n (k := 0) (i := 2) (k' := 6) (i' := (hb_ix ka)) (show 2 < 4 by decide) hi_ka (fun q => absurd q.1 (by decide)))]
                    refine (hP1.m 0 2 (show 2 < 4 by decide)).trans ?_
                    first | rfl | (simp only [va_up_self, va_up_ne _ _ hfg, va_up_ne _ _ hfg.symm]; done) | (simp only [va_up_self, va_up_ne _ _ hfg, va_up_ne _ _ hfg.symm]; rfl)
                  · show (va_up (va_up (va_up (va_up M1 (ad 6 (hb_ix ka)) (hw_ob 10 [.int (hs_V S (hb_ix ka) 0), .int ((hs_V S (hb_ix ka) 1) + (hs_V S (hb_ix kc) 1)), .int (hs_V S (hb_ix ka) 2), .int (hs_V S (hb_ix ka) 3), .int (hs_V S (hb_ix ka) 4)])) (ad 6 (hb_ix kc)) (hw_ob 10 [.int (hs_V S (hb_ix kc) 0), .int (nI 0), .int (hs_V S (hb_ix kc) 2), .int (hs_V S (hb_ix kc) 3), .int (hs_V S (hb_ix kc) 4)])) (ad 6 (hb_ix ka)) (hw_ob 10 [.int (hs_V S (hb_ix ka) 0), .int ((hs_V S (hb_ix ka) 1) + (hs_V S (hb_ix kc) 1)), .int (hb_max (hs_V S (hb_ix ka) 2) (hs_V S (hb_ix kc) 2)), .int (hs_V S (hb_ix ka) 3), .int (hs_V S (hb_ix ka) 4)])) (ad 6 (hb_ix ka)) (hw_ob 10 [.int (hs_V S (hb_ix ka) 0), .int ((hs_V S (hb_ix ka) 1) + (hs_V S (hb_ix kc) 1)), .int (hb_max (hs_V S (hb_ix ka) 2) (hs_V S (hb_ix kc) 2)), .int ((hs_V S (hb_ix ka) 3) ||| (hs_V S (hb_ix kc) 3)), .int (hs_V S (hb_ix ka) 4)])) (ad 0 3) = hw_ob 0 [.int (hr_mc X1 1), .ref (hr_d (hs_nw S) Z.2.2.2 (ad 12 0)), .int (nI (hs_nw S))]
                    rw [va_up_ne _ _ (hP1.n (k := 0) (i := 3) (k' := 6) (i' := (hb_ix ka)) (show 3 < 4 by decide) hi_ka (fun q => absurd q.1 (by decide))), va_up_ne _ _ (hP1.n (k := 0) (i := 3) (k' := 6) (i' := (hb_ix ka)) (show 3 < 4 by decide) hi_ka (fun q => absurd q.1 (by decide))), va_up_ne _ _ (hP1.n (k := 0) (i := 3) (k' := 6) (i' := (hb_ix kc)) (show 3 < 4 by decide) hi_kc (fun q => absurd q.1 (by decide))), va_up_ne _ _ (hP1.n (k := 0) (i := 3) (k' := 6) (i' := (hb_ix ka)) (show 3 < 4 by decide) hi_ka (fun q => absurd q.1 (by decide)))]
                    refine (hP1.m 0 3 (show 3 < 4 by decide)).trans ?_
                    first | rfl | (simp only [va_up_self, va_up_ne _ _ hfg, va_up_ne _ _ hfg.symm]; done) | (simp only [va_up_self, va_up_ne _ _ hfg, va_up_ne _ _ hfg.symm]; rfl)
                · show (va_up (va_up (va_up (va_up M1 (ad 6 (hb_ix ka)) (hw_ob 10 [.int (hs_V S (hb_ix ka) 0), .int ((hs_V S (hb_ix ka) 1) + (hs_V S (hb_ix kc) 1)), .int (hs_V S (hb_ix ka) 2), .int (hs_V S (hb_ix ka) 3), .int (hs_V S (hb_ix ka) 4)])) (ad 6 (hb_ix kc)) (hw_ob 10 [.int (hs_V S (hb_ix kc) 0), .int (nI 0), .int (hs_V S (hb_ix kc) 2), .int (hs_V S (hb_ix kc) 3), .int (hs_V S (hb_ix kc) 4)])) (ad 6 (hb_ix ka)) (hw_ob 10 [.int (hs_V S (hb_ix ka) 0), .int ((hs_V S (hb_ix ka) 1) + (hs_V S (hb_ix kc) 1)), .int (hb_max (hs_V S (hb_ix ka) 2) (hs_V S (hb_ix kc) 2)), .int (hs_V S (hb_ix ka) 3), .int (hs_V S (hb_ix ka) 4)])) (ad 6 (hb_ix ka)) (hw_ob 10 [.int (hs_V S (hb_ix ka) 0), .int ((hs_V S (hb_ix ka) 1) + (hs_V S (hb_ix kc) 1)), .int (hb_max (hs_V S (hb_ix ka) 2) (hs_V S (hb_ix kc) 2)), .int ((hs_V S (hb_ix ka) 3) ||| (hs_V S (hb_ix kc) 3)), .int (hs_V S (hb_ix ka) 4)])) (ad 1 i) = hw_ob 9 [.ref (ad 2 i), .int (hs_P S i 0), .ref (ad 4 i), .int (hs_P S i 3), .int (hs_P S i 4), .int (hs_P S i 5), .int (hs_P S i 6), .int (hs_P S i 7), .int (hs_P S i 8)]
                  rw [va_up_ne _ _ (hP1.n (k := 1) (i := i) (k' := 6) (i' := (hb_ix ka)) hi hi_ka (fun q => absurd q.1 (by decide))), va_up_ne _ _ (hP1.n (k := 1) (i := i) (k' := 6) (i' := (hb_ix ka)) hi hi_ka (fun q => absurd q.1 (by decide))), va_up_ne _ _ (hP1.n (k := 1) (i := i) (k' := 6) (i' := (hb_ix kc)) hi hi_kc (fun q => absurd q.1 (by decide))), va_up_ne _ _ (hP1.n (k := 1) (i := i) (k' := 6) (i' := (hb_ix ka)) hi hi_ka (fun q => absurd q.1 (by decide)))]
                  refine (hP1.m 1 i hi).trans ?_
                  first | rfl
                · show (va_up (va_up (va_up (va_up M1 (ad 6 (hb_ix ka)) (hw_ob 10 [.int (hs_V S (hb_ix ka) 0), .int ((hs_V S (hb_ix ka) 1) + (hs_V S (hb_ix kc) 1)), .int (hs_V S (hb_ix ka) 2), .int (hs_V S (hb_ix ka) 3), .int (hs_V S (hb_ix ka) 4)])) (ad 6 (hb_ix kc)) (hw_ob 10 [.int (hs_V S (hb_ix kc) 0), .int (nI 0), .int (hs_V S (hb_ix kc) 2), .int (hs_V S (hb_ix kc) 3), .int (hs_V S (hb_ix kc) 4)])) (ad 6 (hb_ix ka)) (hw_ob 10 [.int (hs_V S (hb_ix ka) 0), .int ((hs_V S (hb_ix ka) 1) + (hs_V S (hb_ix kc) 1)), .int (hb_max (hs_V S (hb_ix ka) 2) (hs_V S (hb_ix kc) 2)), .int (hs_V S (hb_ix ka) 3), .int (hs_V S (hb_ix ka) 4)])) (ad 6 (hb_ix ka)) (hw_ob 10 [.int (hs_V S (hb_ix ka) 0), .int ((hs_V S (hb_ix ka) 1) + (hs_V S (hb_ix kc) 1)), .int (hb_max (hs_V S (hb_ix ka) 2) (hs_V S (hb_ix kc) 2)), .int ((hs_V S (hb_ix ka) 3) ||| (hs_V S (hb_ix kc) 3)), .int (hs_V S (hb_ix ka) 4)])) (ad 2 i) = hw_ob 11 [.ref (ad 3 i)]
                  rw [va_up_ne _ _ (hP1.n (k := 2) (i := i) (k' := 6) (i' := (hb_ix ka)) hi hi_ka (fun q => absurd q.1 (by decide))), va_up_ne _ _ (hP1.n (k := 2) (i := i) (k' := 6) (i' := (hb_ix ka)) hi hi_ka (fun q => absurd q.1 (by decide))), va_up_ne _ _ (hP1.n (k := 2) (i := i) (k' := 6) (i' := (hb_ix kc)) hi hi_kc (fun q => absurd q.1 (by decide))), va_up_ne _ _ (hP1.n (k := 2) (i := i) (k' := 6) (i' := (hb_ix ka)) hi hi_ka (fun q => absurd q.1 (by decide)))]
                  refine (hP1.m 2 i hi).trans ?_
                  first | rfl
                · show (va_up (va_up (va_up (va_up M1 (ad 6 (hb_ix ka)) (hw_ob 10 [.int (hs_V S (hb_ix ka) 0), .int ((hs_V S (hb_ix ka) 1) + (hs_V S (hb_ix kc) 1)), .int (hs_V S (hb_ix ka) 2), .int (hs_V S (hb_ix ka) 3), .int (hs_V S (hb_ix ka) 4)])) (ad 6 (hb_ix kc)) (hw_ob 10 [.int (hs_V S (hb_ix kc) 0), .int (nI 0), .int (hs_V S (hb_ix kc) 2), .int (hs_V S (hb_ix kc) 3), .int (hs_V S (hb_ix kc) 4)])) (ad 6 (hb_ix ka)) (hw_ob 10 [.int (hs_V S (hb_ix ka) 0), .int ((hs_V S (hb_ix ka) 1) + (hs_V S (hb_ix kc) 1)), .int (hb_max (hs_V S (hb_ix ka) 2) (hs_V S (hb_ix kc) 2)), .int (hs_V S (hb_ix ka) 3), .int (hs_V S (hb_ix ka) 4)])) (ad 6 (hb_ix ka)) (hw_ob 10 [.int (hs_V S (hb_ix ka) 0), .int ((hs_V S (hb_ix ka) 1) + (hs_V S (hb_ix kc) 1)), .int (hb_max (hs_V S (hb_ix ka) 2) (hs_V S (hb_ix kc) 2)), .int ((hs_V S (hb_ix ka) 3) ||| (hs_V S (hb_ix kc) 3)), .int (hs_V S (hb_ix ka) 4)])) (ad 3 i) = hw_al Z 8 (hs_C S i)
                  rw [va_up_ne _ _ (hP1.n (k := 3) (i := i) (k' := 6) (i' := (hb_ix ka)) hi hi_ka (fun q => absurd q.1 (by decide))), va_up_ne _ _ (hP1.n (k := 3) (i := i) (k' := 6) (i' := (hb_ix ka)) hi hi_ka (fun q => absurd q.1 (by decide))), va_up_ne _ _ (hP1.n (k := 3) (i := i) (k' := 6) (i' := (hb_ix kc)) hi hi_kc (fun q => absurd q.1 (by decide))), va_up_ne _ _ (hP1.n (k := 3) (i := i) (k' := 6) (i' := (hb_ix ka)) hi hi_ka (fun q => absurd q.1 (by decide)))]
                  refine (hP1.m 3 i hi).trans ?_
                  first | rfl
                · show (va_up (va_up (va_up (va_up M1 (ad 6 (hb_ix ka)) (hw_ob 10 [.int (hs_V S (hb_ix ka) 0), .int ((hs_V S (hb_ix ka) 1) + (hs_V S (hb_ix kc) 1)), .int (hs_V S (hb_ix ka) 2), .int (hs_V S (hb_ix ka) 3), .int (hs_V S (hb_ix ka) 4)])) (ad 6 (hb_ix kc)) (hw_ob 10 [.int (hs_V S (hb_ix kc) 0), .int (nI 0), .int (hs_V S (hb_ix kc) 2), .int (hs_V S (hb_ix kc) 3), .int (hs_V S (hb_ix kc) 4)])) (ad 6 (hb_ix ka)) (hw_ob 10 [.int (hs_V S (hb_ix ka) 0), .int ((hs_V S (hb_ix ka) 1) + (hs_V S (hb_ix kc) 1)), .int (hb_max (hs_V S (hb_ix ka) 2) (hs_V S (hb_ix kc) 2)), .int (hs_V S (hb_ix ka) 3), .int (hs_V S (hb_ix ka) 4)])) (ad 6 (hb_ix ka)) (hw_ob 10 [.int (hs_V S (hb_ix ka) 0), .int ((hs_V S (hb_ix ka) 1) + (hs_V S (hb_ix kc) 1)), .int (hb_max (hs_V S (hb_ix ka) 2) (hs_V S (hb_ix kc) 2)), .int ((hs_V S (hb_ix ka) 3) ||| (hs_V S (hb_ix kc) 3)), .int (hs_V S (hb_ix ka) 4)])) (ad 4 i) = hw_ob 7 [.double (hr_en (hs_P S i)), .ref (ad 5 i), .double (hs_U S i), .int (hs_P S i 1), .int (hs_P S i 2), .int (nI (hs_D S i))]
                  rw [va_up_ne _ _ (hP1.n (k := 4) (i := i) (k' := 6) (i' := (hb_ix ka)) hi hi_ka (fun q => absurd q.1 (by decide))), va_up_ne _ _ (hP1.n (k := 4) (i := i) (k' := 6) (i' := (hb_ix ka)) hi hi_ka (fun q => absurd q.1 (by decide))), va_up_ne _ _ (hP1.n (k := 4) (i := i) (k' := 6) (i' := (hb_ix kc)) hi hi_kc (fun q => absurd q.1 (by decide))), va_up_ne _ _ (hP1.n (k := 4) (i := i) (k' := 6) (i' := (hb_ix ka)) hi hi_ka (fun q => absurd q.1 (by decide)))]
                  refine (hP1.m 4 i hi).trans ?_
                  first | rfl
                · show (va_up (va_up (va_up (va_up M1 (ad 6 (hb_ix ka)) (hw_ob 10 [.int (hs_V S (hb_ix ka) 0), .int ((hs_V S (hb_ix ka) 1) + (hs_V S (hb_ix kc) 1)), .int (hs_V S (hb_ix ka) 2), .int (hs_V S (hb_ix ka) 3), .int (hs_V S (hb_ix ka) 4)])) (ad 6 (hb_ix kc)) (hw_ob 10 [.int (hs_V S (hb_ix kc) 0), .int (nI 0), .int (hs_V S (hb_ix kc) 2), .int (hs_V S (hb_ix kc) 3), .int (hs_V S (hb_ix kc) 4)])) (ad 6 (hb_ix ka)) (hw_ob 10 [.int (hs_V S (hb_ix ka) 0), .int ((hs_V S (hb_ix ka) 1) + (hs_V S (hb_ix kc) 1)), .int (hb_max (hs_V S (hb_ix ka) 2) (hs_V S (hb_ix kc) 2)), .int (hs_V S (hb_ix ka) 3), .int (hs_V S (hb_ix ka) 4)])) (ad 6 (hb_ix ka)) (hw_ob 10 [.int (hs_V S (hb_ix ka) 0), .int ((hs_V S (hb_ix ka) 1) + (hs_V S (hb_ix kc) 1)), .int (hb_max (hs_V S (hb_ix ka) 2) (hs_V S (hb_ix kc) 2)), .int ((hs_V S (hb_ix ka) 3) ||| (hs_V S (hb_ix kc) 3)), .int (hs_V S (hb_ix ka) 4)])) (ad 5 i) = hw_ad Z 64 (hs_W S i)
                  rw [va_up_ne _ _ (hP1.n (k := 5) (i := i) (k' := 6) (i' := (hb_ix ka)) hi hi_ka (fun q => absurd q.1 (by decide))), va_up_ne _ _ (hP1.n (k := 5) (i := i) (k' := 6) (i' := (hb_ix ka)) hi hi_ka (fun q => absurd q.1 (by decide))), va_up_ne _ _ (hP1.n (k := 5) (i := i) (k' := 6) (i' := (hb_ix kc)) hi hi_kc (fun q => absurd q.1 (by decide))), va_up_ne _ _ (hP1.n (k := 5) (i := i) (k' := 6) (i' := (hb_ix ka)) hi hi_ka (fun q => absurd q.1 (by decide)))]
                  refine (hP1.m 5 i hi).trans ?_
                  first | rfl
                · by_cases q0 : i = (hb_ix ka)
                  · subst q0
                    show (va_up (va_up (va_up (va_up M1 (ad 6 (hb_ix ka)) (hw_ob 10 [.int (hs_V S (hb_ix ka) 0), .int ((hs_V S (hb_ix ka) 1) + (hs_V S (hb_ix kc) 1)), .int (hs_V S (hb_ix ka) 2), .int (hs_V S (hb_ix ka) 3), .int (hs_V S (hb_ix ka) 4)])) (ad 6 (hb_ix kc)) (hw_ob 10 [.int (hs_V S (hb_ix kc) 0), .int (nI 0), .int (hs_V S (hb_ix kc) 2), .int (hs_V S (hb_ix kc) 3), .int (hs_V S (hb_ix kc) 4)])) (ad 6 (hb_ix ka)) (hw_ob 10 [.int (hs_V S (hb_ix ka) 0), .int ((hs_V S (hb_ix ka) 1) + (hs_V S (hb_ix kc) 1)), .int (hb_max (hs_V S (hb_ix ka) 2) (hs_V S (hb_ix kc) 2)), .int (hs_V S (hb_ix ka) 3), .int (hs_V S (hb_ix ka) 4)])) (ad 6 (hb_ix ka)) (hw_ob 10 [.int (hs_V S (hb_ix ka) 0), .int ((hs_V S (hb_ix ka) 1) + (hs_V S (hb_ix kc) 1)), .int (hb_max (hs_V S (hb_ix ka) 2) (hs_V S (hb_ix kc) 2)), .int ((hs_V S (hb_ix ka) 3) ||| (hs_V S (hb_ix kc) 3)), .int (hs_V S (hb_ix ka) 4)])) (ad 6 (hb_ix ka)) = hw_ob 10 [.int ((va_up (va_up (hs_V S) (hb_ix ka) (va_up (va_up (va_up (hs_V S (hb_ix ka)) 1 (hs_V S (hb_ix ka) 1 + hs_V S (hb_ix kc) 1)) 2 (hb_max (hs_V S (hb_ix ka) 2) (hs_V S (hb_ix kc) 2))) 3 (hs_V S (hb_ix ka) 3 ||| hs_V S (hb_ix kc) 3))) (hb_ix kc) (va_up (hs_V S (hb_ix kc)) 1 0)) (hb_ix ka) 0), .int ((va_up (va_up (hs_V S) (hb_ix ka) (va_up (va_up (va_up (hs_V S (hb_ix ka)) 1 (hs_V S (hb_ix ka) 1 + hs_V S (hb_ix kc) 1)) 2 (hb_max (hs_V S (hb_ix ka) 2) (hs_V S (hb_ix kc) 2))) 3 (hs_V S (hb_ix ka) 3 ||| hs_V S (hb_ix kc) 3))) (hb_ix kc) (va_up (hs_V S (hb_ix kc)) 1 0)) (hb_ix ka) 1), .int ((va_up (va_up (hs_V S) (hb_ix ka) (va_up (va_up (va_up (hs_V S (hb_ix ka)) 1 (hs_V S (hb_ix ka) 1 + hs_V S (hb_ix kc) 1)) 2 (hb_max (hs_V S (hb_ix ka) 2) (hs_V S (hb_ix kc) 2))) 3 (hs_V S (hb_ix ka) 3 ||| hs_V S (hb_ix kc) 3))) (hb_ix kc) (va_up (hs_V S (hb_ix kc)) 1 0)) (hb_ix ka) 2), .int ((va_up (va_up (hs_V S) (hb_ix ka) (va_up (va_up (va_up (hs_V S (hb_ix ka)) 1 (hs_V S (hb_ix ka) 1 + hs_V S (hb_ix kc) 1)) 2 (hb_max (hs_V S (hb_ix ka) 2) (hs_V S (hb_ix kc) 2))) 3 (hs_V S (hb_ix ka) 3 ||| hs_V S (hb_ix kc) 3))) (hb_ix kc) (va_up (hs_V S (hb_ix kc)) 1 0)) (hb_ix ka) 3), .int ((va_up (va_up (hs_V S) (hb_ix ka) (va_up (va_up (va_up (hs_V S (hb_ix ka)) 1 (hs_V S (hb_ix ka) 1 + hs_V S (hb_ix kc) 1)) 2 (hb_max (hs_V S (hb_ix ka) 2) (hs_V S (hb_ix kc) 2))) 3 (hs_V S (hb_ix ka) 3 ||| hs_V S (hb_ix kc) 3))) (hb_ix kc) (va_up (hs_V S (hb_ix kc)) 1 0)) (hb_ix ka) 4)]
                    refine (hw_us _ _ _).trans ?_
                    first | rfl | (simp only [va_up_self, va_up_ne _ _ hfg, va_up_ne _ _ hfg.symm]; done) | (simp only [va_up_self, va_up_ne _ _ hfg, va_up_ne _ _ hfg.symm]; rfl)
                  by_cases q1 : i = (hb_ix kc)
                  · subst q1
                    show (va_up (va_up (va_up (va_up M1 (ad 6 (hb_ix ka)) (hw_ob 10 [.int (hs_V S (hb_ix ka) 0), .int ((hs_V S (hb_ix ka) 1) + (hs_V S (hb_ix kc) 1)), .int (hs_V S (hb_ix ka) 2), .int (hs_V S (hb_ix ka) 3), .int (hs_V S (hb_ix ka) 4)])) (ad 6 (hb_ix kc)) (hw_ob 10 [.int (hs_V S (hb_ix kc) 0), .int (nI 0), .int (hs_V S (hb_ix kc) 2), .int (hs_V S (hb_ix kc) 3), .int (hs_V S (hb_ix kc) 4)])) (ad 6 (hb_ix ka)) (hw_ob 10 [.int (hs_V S (hb_ix ka) 0), .int ((hs_V S (hb_ix ka) 1) + (hs_V S (hb_ix kc) 1)), .int (hb_max (hs_V S (hb_ix ka) 2) (hs_V S (hb_ix kc) 2)), .int (hs_V S (hb_ix ka) 3), .int (hs_V S (hb_ix ka) 4)])) (ad 6 (hb_ix ka)) (hw_ob 10 [.int (hs_V S (hb_ix ka) 0), .int ((hs_V S (hb_ix ka) 1) + (hs_V S (hb_ix kc) 1)), .int (hb_max (hs_V S (hb_ix ka) 2) (hs_V S (hb_ix kc) 2)), .int ((hs_V S (hb_ix ka) 3) ||| (hs_V S (hb_ix kc) 3)), .int (hs_V S (hb_ix ka) 4)])) (ad 6 (hb_ix kc)) = hw_ob 10 [.int ((va_up (va_up (hs_V S) (hb_ix ka) (va_up (va_up (va_up (hs_V S (hb_ix ka)) 1 (hs_V S (hb_ix ka) 1 + hs_V S (hb_ix kc) 1)) 2 (hb_max (hs_V S (hb_ix ka) 2) (hs_V S (hb_ix kc) 2))) 3 (hs_V S (hb_ix ka) 3 ||| hs_V S (hb_ix kc) 3))) (hb_ix kc) (va_up (hs_V S (hb_ix kc)) 1 0)) (hb_ix kc) 0), .int ((va_up (va_up (hs_V S) (hb_ix ka) (va_up (va_up (va_up (hs_V S (hb_ix ka)) 1 (hs_V S (hb_ix ka) 1 + hs_V S (hb_ix kc) 1)) 2 (hb_max (hs_V S (hb_ix ka) 2) (hs_V S (hb_ix kc) 2))) 3 (hs_V S (hb_ix ka) 3 ||| hs_V S (hb_ix kc) 3))) (hb_ix kc) (va_up (hs_V S (hb_ix kc)) 1 0)) (hb_ix kc) 1), .int ((va_up (va_up (hs_V S) (hb_ix ka) (va_up (va_up (va_up (hs_V S (hb_ix ka)) 1 (hs_V S (hb_ix ka) 1 + hs_V S (hb_ix kc) 1)) 2 (hb_max (hs_V S (hb_ix ka) 2) (hs_V S (hb_ix kc) 2))) 3 (hs_V S (hb_ix ka) 3 ||| hs_V S (hb_ix kc) 3))) (hb_ix kc) (va_up (hs_V S (hb_ix kc)) 1 0)) (hb_ix kc) 2), .int ((va_up (va_up (hs_V S) (hb_ix ka) (va_up (va_up (va_up (hs_V S (hb_ix ka)) 1 (hs_V S (hb_ix ka) 1 + hs_V S (hb_ix kc) 1)) 2 (hb_max (hs_V S (hb_ix ka) 2) (hs_V S (hb_ix kc) 2))) 3 (hs_V S (hb_ix ka) 3 ||| hs_V S (hb_ix kc) 3))) (hb_ix kc) (va_up (hs_V S (hb_ix kc)) 1 0)) (hb_ix kc) 3), .int ((va_up (va_up (hs_V S) (hb_ix ka) (va_up (va_up (va_up (hs_V S (hb_ix ka)) 1 (hs_V S (hb_ix ka) 1 + hs_V S (hb_ix kc) 1)) 2 (hb_max (hs_V S (hb_ix ka) 2) (hs_V S (hb_ix kc) 2))) 3 (hs_V S (hb_ix ka) 3 ||| hs_V S (hb_ix kc) 3))) (hb_ix kc) (va_up (hs_V S (hb_ix kc)) 1 0)) (hb_ix kc) 4)]
                    refine (hw_up (hw_up (hw_us _ _ _) (hP1.n (k := 6) (i := (hb_ix kc)) (k' := 6) (i' := (hb_ix ka)) hi_kc hi_ka (fun q => hfg q.2.symm))) (hP1.n (k := 6) (i := (hb_ix kc)) (k' := 6) (i' := (hb_ix ka)) hi_kc hi_ka (fun q => hfg q.2.symm))).trans ?_
                    first | rfl | (simp only [va_up_self, va_up_ne _ _ hfg, va_up_ne _ _ hfg.symm]; done) | (simp only [va_up_self, va_up_ne _ _ hfg, va_up_ne _ _ hfg.symm]; rfl)
                  show (va_up (va_up (va_up (va_up M1 (ad 6 (hb_ix ka)) (hw_ob 10 [.int (hs_V S (hb_ix ka) 0), .int ((hs_V S (hb_ix ka) 1) + (hs_V S (hb_ix kc) 1)), .int (hs_V S (hb_ix ka) 2), .int (hs_V S (hb_ix ka) 3), .int (hs_V S (hb_ix ka) 4)])) (ad 6 (hb_ix kc)) (hw_ob 10 [.int (hs_V S (hb_ix kc) 0), .int (nI 0), .int (hs_V S (hb_ix kc) 2), .int (hs_V S (hb_ix kc) 3), .int (hs_V S (hb_ix kc) 4)])) (ad 6 (hb_ix ka)) (hw_ob 10 [.int (hs_V S (hb_ix ka) 0), .int ((hs_V S (hb_ix ka) 1) + (hs_V S (hb_ix kc) 1)), .int (hb_max (hs_V S (hb_ix ka) 2) (hs_V S (hb_ix kc) 2)), .int (hs_V S (hb_ix ka) 3), .int (hs_V S (hb_ix ka) 4)])) (ad 6 (hb_ix ka)) (hw_ob 10 [.int (hs_V S (hb_ix ka) 0), .int ((hs_V S (hb_ix ka) 1) + (hs_V S (hb_ix kc) 1)), .int (hb_max (hs_V S (hb_ix ka) 2) (hs_V S (hb_ix kc) 2)), .int ((hs_V S (hb_ix ka) 3) ||| (hs_V S (hb_ix kc) 3)), .int (hs_V S (hb_ix ka) 4)])) (ad 6 i) = hw_ob 10 [.int ((va_up (va_up (hs_V S) (hb_ix ka) (va_up (va_up (va_up (hs_V S (hb_ix ka)) 1 (hs_V S (hb_ix ka) 1 + hs_V S (hb_ix kc) 1)) 2 (hb_max (hs_V S (hb_ix ka) 2) (hs_V S (hb_ix kc) 2))) 3 (hs_V S (hb_ix ka) 3 ||| hs_V S (hb_ix kc) 3))) (hb_ix kc) (va_up (hs_V S (hb_ix kc)) 1 0)) i 0), .int ((va_up (va_up (hs_V S) (hb_ix ka) (va_up (va_up (va_up (hs_V S (hb_ix ka)) 1 (hs_V S (hb_ix ka) 1 + hs_V S (hb_ix kc) 1)) 2 (hb_max (hs_V S (hb_ix ka) 2) (hs_V S (hb_ix kc) 2))) 3 (hs_V S (hb_ix ka) 3 ||| hs_V S (hb_ix kc) 3))) (hb_ix kc) (va_up (hs_V S (hb_ix kc)) 1 0)) i 1), .int ((va_up (va_up (hs_V S) (hb_ix ka) (va_up (va_up (va_up (hs_V S (hb_ix ka)) 1 (hs_V S (hb_ix ka) 1 + hs_V S (hb_ix kc) 1)) 2 (hb_max (hs_V S (hb_ix ka) 2) (hs_V S (hb_ix kc) 2))) 3 (hs_V S (hb_ix ka) 3 ||| hs_V S (hb_ix kc) 3))) (hb_ix kc) (va_up (hs_V S (hb_ix kc)) 1 0)) i 2), .int ((va_up (va_up (hs_V S) (hb_ix ka) (va_up (va_up (va_up (hs_V S (hb_ix ka)) 1 (hs_V S (hb_ix ka) 1 + hs_V S (hb_ix kc) 1)) 2 (hb_max (hs_V S (hb_ix ka) 2) (hs_V S (hb_ix kc) 2))) 3 (hs_V S (hb_ix ka) 3 ||| hs_V S (hb_ix kc) 3))) (hb_ix kc) (va_up (hs_V S (hb_ix kc)) 1 0)) i 3), .int ((va_up (va_up (hs_V S) (hb_ix ka) (va_up (va_up (va_up (hs_V S (hb_ix ka)) 1 (hs_V S (hb_ix ka) 1 + hs_V S (hb_ix kc) 1)) 2 (hb_max (hs_V S (hb_ix ka) 2) (hs_V S (hb_ix kc) 2))) 3 (hs_V S (hb_ix ka) 3 ||| hs_V S (hb_ix kc) 3))) (hb_ix kc) (va_up (hs_V S (hb_ix kc)) 1 0)) i 4)]
                  rw [va_up_ne _ _ (hP1.n (k := 6) (i := i) (k' := 6) (i' := (hb_ix ka)) hi hi_ka (fun q => q0 q.2)), va_up_ne _ _ (hP1.n (k := 6) (i := i) (k' := 6) (i' := (hb_ix ka)) hi hi_ka (fun q => q0 q.2)), va_up_ne _ _ (hP1.n (k := 6) (i := i) (k' := 6) (i' := (hb_ix kc)) hi hi_kc (fun q => q1 q.2)), va_up_ne _ _ (hP1.n (k := 6) (i := i) (k' := 6) (i' := (hb_ix ka)) hi hi_ka (fun q => q0 q.2))]
                  refine (hP1.m 6 i hi).trans ?_
                  first | rfl | (simp only [va_up_ne _ _ q0, va_up_ne _ _ q1]; done) | (simp only [va_up_ne _ _ q0, va_up_ne _ _ q1]; rfl)
                · show (va_up (va_up (va_up (va_up M1 (ad 6 (hb_ix ka)) (hw_ob 10 [.int (hs_V S (hb_ix ka) 0), .int ((hs_V S (hb_ix ka) 1) + (hs_V S (hb_ix kc) 1)), .int (hs_V S (hb_ix ka) 2), .int (hs_V S (hb_ix ka) 3), .int (hs_V S (hb_ix ka) 4)])) (ad 6 (hb_ix kc)) (hw_ob 10 [.int (hs_V S (hb_ix kc) 0), .int (nI 0), .int (hs_V S (hb_ix kc) 2), .int (hs_V S (hb_ix kc) 3), .int (hs_V S (hb_ix kc) 4)])) (ad 6 (hb_ix ka)) (hw_ob 10 [.int (hs_V S (hb_ix ka) 0), .int ((hs_V S (hb_ix ka) 1) + (hs_V S (hb_ix kc) 1)), .int (hb_max (hs_V S (hb_ix ka) 2) (hs_V S (hb_ix kc) 2)), .int (hs_V S (hb_ix ka) 3), .int (hs_V S (hb_ix ka) 4)])) (ad 6 (hb_ix ka)) (hw_ob 10 [.int (hs_V S (hb_ix ka) 0), .int ((hs_V S (hb_ix ka) 1) + (hs_V S (hb_ix kc) 1)), .int (hb_max (hs_V S (hb_ix ka) 2) (hs_V S (hb_ix kc) 2)), .int ((hs_V S (hb_ix ka) 3) ||| (hs_V S (hb_ix kc) 3)), .int (hs_V S (hb_ix ka) 4)])) (ad 7 i) = hw_ob 8 [.int (hs_M S i 0), .int (hs_M S i 1), .int (hs_M S i 2), .int (hs_M S i 3), .ref (ad 8 i)]
                  rw [va_up_ne _ _ (hP1.n (k := 7) (i := i) (k' := 6) (i' := (hb_ix ka)) hi hi_ka (fun q => absurd q.1 (by decide))), va_up_ne _ _ (hP1.n (k := 7) (i := i) (k' := 6) (i' := (hb_ix ka)) hi hi_ka (fun q => absurd q.1 (by decide))), va_up_ne _ _ (hP1.n (k := 7) (i := i) (k' := 6) (i' := (hb_ix kc)) hi hi_kc (fun q => absurd q.1 (by decide))), va_up_ne _ _ (hP1.n (k := 7) (i := i) (k' := 6) (i' := (hb_ix ka)) hi hi_ka (fun q => absurd q.1 (by decide)))]
                  refine (hP1.m 7 i hi).trans ?_
                  first | rfl
                · show (va_up (va_up (va_up (va_up M1 (ad 6 (hb_ix ka)) (hw_ob 10 [.int (hs_V S (hb_ix ka) 0), .int ((hs_V S (hb_ix ka) 1) + (hs_V S (hb_ix kc) 1)), .int (hs_V S (hb_ix ka) 2), .int (hs_V S (hb_ix ka) 3), .int (hs_V S (hb_ix ka) 4)])) (ad 6 (hb_ix kc)) (hw_ob 10 [.int (hs_V S (hb_ix kc) 0), .int (nI 0), .int (hs_V S (hb_ix kc) 2), .int (hs_V S (hb_ix kc) 3), .int (hs_V S (hb_ix kc) 4)])) (ad 6 (hb_ix ka)) (hw_ob 10 [.int (hs_V S (hb_ix ka) 0), .int ((hs_V S (hb_ix ka) 1) + (hs_V S (hb_ix kc) 1)), .int (hb_max (hs_V S (hb_ix ka) 2) (hs_V S (hb_ix kc) 2)), .int (hs_V S (hb_ix ka) 3), .int (hs_V S (hb_ix ka) 4)])) (ad 6 (hb_ix ka)) (hw_ob 10 [.int (hs_V S (hb_ix ka) 0), .int ((hs_V S (hb_ix ka) 1) + (hs_V S (hb_ix kc) 1)), .int (hb_max (hs_V S (hb_ix ka) 2) (hs_V S (hb_ix kc) 2)), .int ((hs_V S (hb_ix ka) 3) ||| (hs_V S (hb_ix kc) 3)), .int (hs_V S (hb_ix ka) 4)])) (ad 8 i) = hw_ob 0 [.int (hr_mc X1 (2 + i)), .ref (if hr_gr X1 i then ad 9 i else Z.2.2.2), .int (nI (hs_N S i))]
                  rw [va_up_ne _ _ (hP1.n (k := 8) (i := i) (k' := 6) (i' := (hb_ix ka)) hi hi_ka (fun q => absurd q.1 (by decide))), va_up_ne _ _ (hP1.n (k := 8) (i := i) (k' := 6) (i' := (hb_ix ka)) hi hi_ka (fun q => absurd q.1 (by decide))), va_up_ne _ _ (hP1.n (k := 8) (i := i) (k' := 6) (i' := (hb_ix kc)) hi hi_kc (fun q => absurd q.1 (by decide))), va_up_ne _ _ (hP1.n (k := 8) (i := i) (k' := 6) (i' := (hb_ix ka)) hi hi_ka (fun q => absurd q.1 (by decide)))]
                  refine (hP1.m 8 i hi).trans ?_
                  first | rfl
                · show (va_up (va_up (va_up (va_up M1 (ad 6 (hb_ix ka)) (hw_ob 10 [.int (hs_V S (hb_ix ka) 0), .int ((hs_V S (hb_ix ka) 1) + (hs_V S (hb_ix kc) 1)), .int (hs_V S (hb_ix ka) 2), .int (hs_V S (hb_ix ka) 3), .int (hs_V S (hb_ix ka) 4)])) (ad 6 (hb_ix kc)) (hw_ob 10 [.int (hs_V S (hb_ix kc) 0), .int (nI 0), .int (hs_V S (hb_ix kc) 2), .int (hs_V S (hb_ix kc) 3), .int (hs_V S (hb_ix kc) 4)])) (ad 6 (hb_ix ka)) (hw_ob 10 [.int (hs_V S (hb_ix ka) 0), .int ((hs_V S (hb_ix ka) 1) + (hs_V S (hb_ix kc) 1)), .int (hb_max (hs_V S (hb_ix ka) 2) (hs_V S (hb_ix kc) 2)), .int (hs_V S (hb_ix ka) 3), .int (hs_V S (hb_ix ka) 4)])) (ad 6 (hb_ix ka)) (hw_ob 10 [.int (hs_V S (hb_ix ka) 0), .int ((hs_V S (hb_ix ka) 1) + (hs_V S (hb_ix kc) 1)), .int (hb_max (hs_V S (hb_ix ka) 2) (hs_V S (hb_ix kc) 2)), .int ((hs_V S (hb_ix ka) 3) ||| (hs_V S (hb_ix kc) 3)), .int (hs_V S (hb_ix ka) 4)])) (ad 9 i) = hw_ar Z 7 10 (hc_f (fun j => ad 10 (i + 2 * j)) (hs_N S i))
                  rw [va_up_ne _ _ (hP1.n (k := 9) (i := i) (k' := 6) (i' := (hb_ix ka)) hi hi_ka (fun q => absurd q.1 (by decide))), va_up_ne _ _ (hP1.n (k := 9) (i := i) (k' := 6) (i' := (hb_ix ka)) hi hi_ka (fun q => absurd q.1 (by decide))), va_up_ne _ _ (hP1.n (k := 9) (i := i) (k' := 6) (i' := (hb_ix kc)) hi hi_kc (fun q => absurd q.1 (by decide))), va_up_ne _ _ (hP1.n (k := 9) (i := i) (k' := 6) (i' := (hb_ix ka)) hi hi_ka (fun q => absurd q.1 (by decide)))]
                  refine (hP1.m 9 i hi).trans ?_
                  first | rfl
                · show (va_up (va_up (va_up (va_up M1 (ad 6 (hb_ix ka)) (hw_ob 10 [.int (hs_V S (hb_ix ka) 0), .int ((hs_V S (hb_ix ka) 1) + (hs_V S (hb_ix kc) 1)), .int (hs_V S (hb_ix ka) 2), .int (hs_V S (hb_ix ka) 3), .int (hs_V S (hb_ix ka) 4)])) (ad 6 (hb_ix kc)) (hw_ob 10 [.int (hs_V S (hb_ix kc) 0), .int (nI 0), .int (hs_V S (hb_ix kc) 2), .int (hs_V S (hb_ix kc) 3), .int (hs_V S (hb_ix kc) 4)])) (ad 6 (hb_ix ka)) (hw_ob 10 [.int (hs_V S (hb_ix ka) 0), .int ((hs_V S (hb_ix ka) 1) + (hs_V S (hb_ix kc) 1)), .int (hb_max (hs_V S (hb_ix ka) 2) (hs_V S (hb_ix kc) 2)), .int (hs_V S (hb_ix ka) 3), .int (hs_V S (hb_ix ka) 4)])) (ad 6 (hb_ix ka)) (hw_ob 10 [.int (hs_V S (hb_ix ka) 0), .int ((hs_V S (hb_ix ka) 1) + (hs_V S (hb_ix kc) 1)), .int (hb_max (hs_V S (hb_ix ka) 2) (hs_V S (hb_ix kc) 2)), .int ((hs_V S (hb_ix ka) 3) ||| (hs_V S (hb_ix kc) 3)), .int (hs_V S (hb_ix ka) 4)])) (ad 10 i) = hw_ai Z 3 (hr_qq X1 (i % 2) (i / 2))
                  rw [va_up_ne _ _ (hP1.n (k := 10) (i := i) (k' := 6) (i' := (hb_ix ka)) hi hi_ka (fun q => absurd q.1 (by decide))), va_up_ne _ _ (hP1.n (k := 10) (i := i) (k' := 6) (i' := (hb_ix ka)) hi hi_ka (fun q => absurd q.1 (by decide))), va_up_ne _ _ (hP1.n (k := 10) (i := i) (k' := 6) (i' := (hb_ix kc)) hi hi_kc (fun q => absurd q.1 (by decide))), va_up_ne _ _ (hP1.n (k := 10) (i := i) (k' := 6) (i' := (hb_ix ka)) hi hi_ka (fun q => absurd q.1 (by decide)))]
                  refine (hP1.m 10 i hi).trans ?_
                  first | rfl
                · show (va_up (va_up (va_up (va_up M1 (ad 6 (hb_ix ka)) (hw_ob 10 [.int (hs_V S (hb_ix ka) 0), .int ((hs_V S (hb_ix ka) 1) + (hs_V S (hb_ix kc) 1)), .int (hs_V S (hb_ix ka) 2), .int (hs_V S (hb_ix ka) 3), .int (hs_V S (hb_ix ka) 4)])) (ad 6 (hb_ix kc)) (hw_ob 10 [.int (hs_V S (hb_ix kc) 0), .int (nI 0), .int (hs_V S (hb_ix kc) 2), .int (hs_V S (hb_ix kc) 3), .int (hs_V S (hb_ix kc) 4)])) (ad 6 (hb_ix ka)) (hw_ob 10 [.int (hs_V S (hb_ix ka) 0), .int ((hs_V S (hb_ix ka) 1) + (hs_V S (hb_ix kc) 1)), .int (hb_max (hs_V S (hb_ix ka) 2) (hs_V S (hb_ix kc) 2)), .int (hs_V S (hb_ix ka) 3), .int (hs_V S (hb_ix ka) 4)])) (ad 6 (hb_ix ka)) (hw_ob 10 [.int (hs_V S (hb_ix ka) 0), .int ((hs_V S (hb_ix ka) 1) + (hs_V S (hb_ix kc) 1)), .int (hb_max (hs_V S (hb_ix ka) 2) (hs_V S (hb_ix kc) 2)), .int ((hs_V S (hb_ix ka) 3) ||| (hs_V S (hb_ix kc) 3)), .int (hs_V S (hb_ix ka) 4)])) (ad 11 i) = hw_ar Z 7 10 (hc_f (ad 1) (hs_np S))
                  rw [va_up_ne _ _ (hP1.n (k := 11) (i := i) (k' := 6) (i' := (hb_ix ka)) hi hi_ka (fun q => absurd q.1 (by decide))), va_up_ne _ _ (hP1.n (k := 11) (i := i) (k' := 6) (i' := (hb_ix ka)) hi hi_ka (fun q => absurd q.1 (by decide))), va_up_ne _ _ (hP1.n (k := 11) (i := i) (k' := 6) (i' := (hb_ix kc)) hi hi_kc (fun q => absurd q.1 (by decide))), va_up_ne _ _ (hP1.n (k := 11) (i := i) (k' := 6) (i' := (hb_ix ka)) hi hi_ka (fun q => absurd q.1 (by decide)))]
                  refine (hP1.m 11 i hi).trans ?_
                  first | rfl
                · show (va_up (va_up (va_up (va_up M1 (ad 6 (hb_ix ka)) (hw_ob 10 [.int (hs_V S (hb_ix ka) 0), .int ((hs_V S (hb_ix ka) 1) + (hs_V S (hb_ix kc) 1)), .int (hs_V S (hb_ix ka) 2), .int (hs_V S (hb_ix ka) 3), .int (hs_V S (hb_ix ka) 4)])) (ad 6 (hb_ix kc)) (hw_ob 10 [.int (hs_V S (hb_ix kc) 0), .int (nI 0), .int (hs_V S (hb_ix kc) 2), .int (hs_V S (hb_ix kc) 3), .int (hs_V S (hb_ix kc) 4)])) (ad 6 (hb_ix ka)) (hw_ob 10 [.int (hs_V S (hb_ix ka) 0), .int ((hs_V S (hb_ix ka) 1) + (hs_V S (hb_ix kc) 1)), .int (hb_max (hs_V S (hb_ix ka) 2) (hs_V S (hb_ix kc) 2)), .int (hs_V S (hb_ix ka) 3), .int (hs_V S (hb_ix ka) 4)])) (ad 6 (hb_ix ka)) (hw_ob 10 [.int (hs_V S (hb_ix ka) 0), .int ((hs_V S (hb_ix ka) 1) + (hs_V S (hb_ix kc) 1)), .int (hb_max (hs_V S (hb_ix ka) 2) (hs_V S (hb_ix kc) 2)), .int ((hs_V S (hb_ix ka) 3) ||| (hs_V S (hb_ix kc) 3)), .int (hs_V S (hb_ix ka) 4)])) (ad 12 i) = hw_ar Z 7 10 (hc_f (ad 6) (hs_nw S))
                  rw [va_up_ne _ _ (hP1.n (k := 12) (i := i) (k' := 6) (i' := (hb_ix ka)) hi hi_ka (fun q => absurd q.1 (by decide))), va_up_ne _ _ (hP1.n (k := 12) (i := i) (k' := 6) (i' := (hb_ix ka)) hi hi_ka (fun q => absurd q.1 (by decide))), va_up_ne _ _ (hP1.n (k := 12) (i := i) (k' := 6) (i' := (hb_ix kc)) hi hi_kc (fun q => absurd q.1 (by decide))), va_up_ne _ _ (hP1.n (k := 12) (i := i) (k' := 6) (i' := (hb_ix ka)) hi hi_ka (fun q => absurd q.1 (by decide)))]
                  refine (hP1.m 12 i hi).trans ?_
                  first | rfl
                · exact hi.elim
              have fr_hok : ∀ a, b1 a → (va_up (va_up (va_up (va_up M1 (ad 6 (hb_ix ka)) (hw_ob 10 [.int (hs_V S (hb_ix ka) 0), .int ((hs_V S (hb_ix ka) 1) + (hs_V S (hb_ix kc) 1)), .int (hs_V S (hb_ix ka) 2), .int (hs_V S (hb_ix ka) 3), .int (hs_V S (hb_ix ka) 4)])) (ad 6 (hb_ix kc)) (hw_ob 10 [.int (hs_V S (hb_ix kc) 0), .int (nI 0), .int (hs_V S (hb_ix kc) 2), .int (hs_V S (hb_ix kc) 3), .int (hs_V S (hb_ix kc) 4)])) (ad 6 (hb_ix ka)) (hw_ob 10 [.int (hs_V S (hb_ix ka) 0), .int ((hs_V S (hb_ix ka) 1) + (hs_V S (hb_ix kc) 1)), .int (hb_max (hs_V S (hb_ix ka) 2) (hs_V S (hb_ix kc) 2)), .int (hs_V S (hb_ix ka) 3), .int (hs_V S (hb_ix ka) 4)])) (ad 6 (hb_ix ka)) (hw_ob 10 [.int (hs_V S (hb_ix ka) 0), .int ((hs_V S (hb_ix ka) 1) + (hs_V S (hb_ix kc) 1)), .int (hb_max (hs_V S (hb_ix ka) 2) (hs_V S (hb_ix kc) 2)), .int ((hs_V S (hb_ix ka) 3) ||| (hs_V S (hb_ix kc) 3)), .int (hs_V S (hb_ix ka) 4)])) a = M a := fun a ha => by rw [va_up_ne _ _ (hP1.f (k := 6) (i := (hb_ix ka)) hi_ka ha), va_up_ne _ _ (hP1.f (k := 6) (i := (hb_ix ka)) hi_ka ha), va_up_ne _ _ (hP1.f (k := 6) (i := (hb_ix kc)) hi_kc ha), va_up_ne _ _ (hP1.f (k := 6) (i := (hb_ix ka)) hi_ka ha)]; exact fr1 a ha
              have hfin : hr_R Z b1 M ad (st_blend S ka kc) ((hs_V S (hb_ix ka) 1) + (hs_V S (hb_ix kc) 1)) (va_up (va_up (va_up (va_up M1 (ad 6 (hb_ix ka)) (hw_ob 10 [.int (hs_V S (hb_ix ka) 0), .int ((hs_V S (hb_ix ka) 1) + (hs_V S (hb_ix kc) 1)), .int (hs_V S (hb_ix ka) 2), .int (hs_V S (hb_ix ka) 3), .int (hs_V S (hb_ix ka) 4)])) (ad 6 (hb_ix kc)) (hw_ob 10 [.int (hs_V S (hb_ix kc) 0), .int (nI 0), .int (hs_V S (hb_ix kc) 2), .int (hs_V S (hb_ix kc) 3), .int (hs_V S (hb_ix kc) 4)])) (ad 6 (hb_ix ka)) (hw_ob 10 [.int (hs_V S (hb_ix ka) 0), .int ((hs_V S (hb_ix ka) 1) + (hs_V S (hb_ix kc) 1)), .int (hb_max (hs_V S (hb_ix ka) 2) (hs_V S (hb_ix kc) 2)), .int (hs_V S (hb_ix ka) 3), .int (hs_V S (hb_ix ka) 4)])) (ad 6 (hb_ix ka)) (hw_ob 10 [.int (hs_V S (hb_ix ka) 0), .int ((hs_V S (hb_ix ka) 1) + (hs_V S (hb_ix kc) 1)), .int (hb_max (hs_V S (hb_ix ka) 2) (hs_V S (hb_ix kc) 2)), .int ((hs_V S (hb_ix ka) 3) ||| (hs_V S (hb_ix kc) 3)), .int (hs_V S (hb_ix ka) 4)])) := hr_r (S' := hs_sV (hs_sV S (hb_ix ka) (va_up (va_up (va_up (hs_V S (hb_ix ka)) 1 (hs_V S (hb_ix ka) 1 + hs_V S (hb_ix kc) 1)) 2 (hb_max (hs_V S (hb_ix ka) 2) (hs_V S (hb_ix kc) 2))) 3 (hs_V S (hb_ix ka) 3 ||| hs_V S (hb_ix kc) 3))) (hb_ix kc) (va_up (hs_V S (hb_ix kc)) 1 0)) (X' := X1) (ad' := ad) (by unfold st_blend; exact ((if_neg (fun q => q ⟨gk, gk2⟩)).trans ((if_neg (fun q => q.elim c58 (fun q => q c70))).trans ((if_neg (fun q => q.elim (fun q => q c84) (fun q => q c93))).trans rfl)))) rfl hok ht1 fr_hok
              exact hret hI hfin (Nat.le_of_ble_eq_true rfl) (Nat.le_of_ble_eq_true rfl) dX11_blend_156
            · refine lv_aload_n hx hb dX11_blend_96 rfl (lv_at hl 2 rfl) ?_
              refine lv_iconst (v := nI 3) hx hb dX11_blend_97 (by decide) ?_
              refine hw_ci hI (hw_rV hx hb hml hown hts hk hI (m_X11_no l Z M1 (ad 0 0) (ad 0 2) (ad 0 3) (ad 0 1) (hr_th X1) (hs_G S 0) (hs_G S 1) (nI 3) e0_0hP1) cv_X11_44 e0_0hP1 rfl rfl ⟨rfl, rfl⟩ ⟨(Nat.le_of_ble_eq_true rfl), (Nat.le_of_ble_eq_true rfl)⟩ rfl hl.1 rfl (Nat.le_of_ble_eq_true rfl) ⟨(Nat.le_of_ble_eq_true rfl), (Nat.le_of_ble_eq_true rfl)⟩ dX11_blend_98) (fun r98 M98 H locs hR hI => ?_)
              obtain ⟨rfl, rfl⟩ := hR
              exact hret hI (hr_x (n := 3) (by unfold st_blend; exact (hq_el (fun q => q ⟨gk, gk2⟩) (hq_el (fun q => q.elim c58 (fun q => q c70)) (hq_if (Or.inr c93) ⟨rfl, rfl⟩)))) (by decide) (hP1.th (nI 3)) rfl (fun a ha => (va_up_ne _ _ (hP1.f (k := 0) (i := 0) (show 0 < 4 by decide) ha)).trans (fr1 a ha))) (Nat.le_of_ble_eq_true rfl) (Nat.le_of_ble_eq_true rfl) dX11_blend_101
        · refine lv_aload_n hx hb dX11_blend_73 rfl (lv_at hl 2 rfl) ?_
          refine lv_iconst (v := nI 2) hx hb dX11_blend_74 (by decide) ?_
          refine hw_ci hI (hw_rV hx hb hml hown hts hk hI (m_X11_no l Z M1 (ad 0 0) (ad 0 2) (ad 0 3) (ad 0 1) (hr_th X1) (hs_G S 0) (hs_G S 1) (nI 2) e0_0hP1) cv_X11_44 e0_0hP1 rfl rfl ⟨rfl, rfl⟩ ⟨(Nat.le_of_ble_eq_true rfl), (Nat.le_of_ble_eq_true rfl)⟩ rfl hl.1 rfl (Nat.le_of_ble_eq_true rfl) ⟨(Nat.le_of_ble_eq_true rfl), (Nat.le_of_ble_eq_true rfl)⟩ dX11_blend_75) (fun r75 M75 H locs hR hI => ?_)
          obtain ⟨rfl, rfl⟩ := hR
          exact hret hI (hr_x (n := 2) (by unfold st_blend; exact (hq_el (fun q => q ⟨gk, gk2⟩) (hq_if (Or.inr c70) ⟨rfl, rfl⟩))) (by decide) (hP1.th (nI 2)) rfl (fun a ha => (va_up_ne _ _ (hP1.f (k := 0) (i := 0) (show 0 < 4 by decide) ha)).trans (fr1 a ha))) (Nat.le_of_ble_eq_true rfl) (Nat.le_of_ble_eq_true rfl) dX11_blend_78
    · refine lv_aload_n hx hb dX11_blend_21 rfl (lv_at hl 0 rfl) ?_
      refine lv_iconst (v := nI 1) hx hb dX11_blend_22 (by decide) ?_
      refine hw_ci hI (hw_rV hx hb hml hown hts hk hI (m_X11_no l Z M1 (ad 0 0) (ad 0 2) (ad 0 3) (ad 0 1) (hr_th X1) (hs_G S 0) (hs_G S 1) (nI 1) e0_0hP1) cv_X11_44 e0_0hP1 rfl rfl ⟨rfl, rfl⟩ ⟨(Nat.le_of_ble_eq_true rfl), (Nat.le_of_ble_eq_true rfl)⟩ rfl hl.1 rfl (Nat.le_of_ble_eq_true rfl) ⟨(Nat.le_of_ble_eq_true rfl), (Nat.le_of_ble_eq_true rfl)⟩ dX11_blend_23) (fun r23 M23 H locs hR hI => ?_)
      obtain ⟨rfl, rfl⟩ := hR
      exact hret hI (hr_x (n := 1) (by unfold st_blend; exact (hq_if (fun q => hq_df c18 q.2) ⟨rfl, rfl⟩)) (by decide) (hP1.th (nI 1)) rfl (fun a ha => (va_up_ne _ _ (hP1.f (k := 0) (i := 0) (show 0 < 4 by decide) ha)).trans (fr1 a ha))) (Nat.le_of_ble_eq_true rfl) (Nat.le_of_ble_eq_true rfl) dX11_blend_26

set_option maxHeartbeats 4000000 in
set_option maxRecDepth 100000 in
theorem m_X11_load (l : Launch) (Z : hw_Z) (M : hw_M) (ad : hp_ad) (S : hs_S) (X : hr_X) (b1 : Nat → Prop) (ka : Int32) (kp : Int32) (hP : hr_ok Z b1 M ad S X) (hV : hv_ok S) (hA : ∀ a, b1 a → M a ≠ none) : Met l yX11_load (hw_m yX11_load cX11_load 5 (some .int)) ({ frames := 8, cells := 2, slots := 90, locals := 250 } : Room) (va_Pc [.ref (ad 0 0), .int ka, .int kp] (hw_P Z M)) (hw_Qi Z (hr_R Z b1 M ad (st_load S ka kp))) 2 90 (hw_A Z) := by
  refine hw_ofi (by decide +kernel) rfl (Nat.le_of_ble_eq_true rfl) ?_
  intro p e s m below meth c ls Q hx hb hml hown hts hk hnm hI hl hret
  have hB := hV.b
  have hnp := hB.np
  have hnw := hB.nw
  have e0_0hP : M (ad 0 0) = hw_ob 12 [.int (hr_th X), .int (hs_G S 0), .int (hs_G S 1), .ref (ad 0 2), .ref (ad 0 3), .ref (ad 0 1)] := hP.m 0 0 (show 0 < 4 by decide)
  refine lv_aload_n hx hb dX11_load_0 rfl (lv_at hl 0 rfl) ?_
  refine lv_iconst (v := nI 0) hx hb dX11_load_1 (by decide) ?_
  refine hw_put (fs' := [.int (nI 0), .int (hs_G S 0), .int (hs_G S 1), .ref (ad 0 2), .ref (ad 0 3), .ref (ad 0 1)]) hx hb hts hown hk hI fp_X11_26 e0_0hP (Nat.le_of_ble_eq_true rfl) rfl rfl rfl dX11_load_2 (fun H locs hI => ?_)
  obtain ⟨M1, hM1⟩ : ∃ Y : hw_M, Y = va_up M (ad 0 0) (hw_ob 12 [.int (nI 0), .int (hs_G S 0), .int (hs_G S 1), .ref (ad 0 2), .ref (ad 0 3), .ref (ad 0 1)]) := ⟨_, rfl⟩
  replace hI := hI.eq hM1.symm
  obtain ⟨X1, hX1⟩ : ∃ Y : hr_X, Y = (nI 0, X.2) := ⟨_, rfl⟩
  have hP1 : hr_ok Z b1 M1 ad S X1 := by rw [hM1, hX1]; exact hP.th (nI 0)
  have ht1 : hr_th X1 = nI 0 := by rw [hX1]; rfl
  have hgr1 : hr_gr X1 = hr_gr X := by rw [hX1]; rfl
  have hqq1 : hr_qq X1 = hr_qq X := by rw [hX1]; rfl
  have fr1 : ∀ a, b1 a → M1 a = M a := fun a ha => by rw [hM1]; exact va_up_ne _ _ (hP.f (k := 0) (i := 0) (show 0 < 4 by decide) ha)
  have hA1 : ∀ a, b1 a → M1 a ≠ none := fun a ha => by rw [fr1 a ha]; exact hA a ha
  clear hP hX1
  have e0_0hP1 : M1 (ad 0 0) = hw_ob 12 [.int (hr_th X1), .int (hs_G S 0), .int (hs_G S 1), .ref (ad 0 2), .ref (ad 0 3), .ref (ad 0 1)] := hP1.m 0 0 (show 0 < 4 by decide)
  have e0_3hP1 : M1 (ad 0 3) = hw_ob 0 [.int (hr_mc X1 1), .ref (hr_d (hs_nw S) Z.2.2.2 (ad 12 0)), .int (nI (hs_nw S))] := hP1.m 0 3 (show 3 < 4 by decide)
  refine lv_iload_n hx hb dX11_load_5 rfl (lv_at hl 1 rfl) ?_
  refine hw_ci hI (hw_rS hx hb hml hown hts hk hI (m_X11_isMachine l Z M1 ka) cs_X11_115 ⟨rfl, rfl⟩ ⟨(Nat.le_of_ble_eq_true rfl), (Nat.le_of_ble_eq_true rfl)⟩ rfl hl.1 rfl (Nat.le_of_ble_eq_true rfl) ⟨(Nat.le_of_ble_eq_true rfl), (Nat.le_of_ble_eq_true rfl)⟩ dX11_load_6) (fun r6 M6 H locs hR hI => ?_)
  obtain ⟨rfl, rfl⟩ := hR
  refine lv_if_eq (tgt := 20) hx hb dX11_load_9 (by decide) (fun c9 => ?_) (fun c9 => ?_)
  · refine lv_aload_n hx hb dX11_load_20 rfl (lv_at hl 0 rfl) ?_
    refine lv_iconst (v := nI 1) hx hb dX11_load_21 (by decide) ?_
    refine hw_ci hI (hw_rV hx hb hml hown hts hk hI (m_X11_no l Z M1 (ad 0 0) (ad 0 2) (ad 0 3) (ad 0 1) (hr_th X1) (hs_G S 0) (hs_G S 1) (nI 1) e0_0hP1) cv_X11_44 e0_0hP1 rfl rfl ⟨rfl, rfl⟩ ⟨(Nat.le_of_ble_eq_true rfl), (Nat.le_of_ble_eq_true rfl)⟩ rfl hl.1 rfl (Nat.le_of_ble_eq_true rfl) ⟨(Nat.le_of_ble_eq_true rfl), (Nat.le_of_ble_eq_true rfl)⟩ dX11_load_22) (fun r22 M22 H locs hR hI => ?_)
    obtain ⟨rfl, rfl⟩ := hR
    exact hret hI (hr_x (n := 1) (by unfold st_load; exact (hq_if (fun q => hq_df c9 q.1) ⟨rfl, rfl⟩)) (by decide) (hP1.th (nI 1)) rfl (fun a ha => (va_up_ne _ _ (hP1.f (k := 0) (i := 0) (show 0 < 4 by decide) ha)).trans (fr1 a ha))) (Nat.le_of_ble_eq_true rfl) (Nat.le_of_ble_eq_true rfl) dX11_load_25
  · refine lv_aload_n hx hb dX11_load_12 rfl (lv_at hl 0 rfl) ?_
    refine lv_iload_n hx hb dX11_load_13 rfl (lv_at hl 2 rfl) ?_
    refine hw_ci hI (hw_rV hx hb hml hown hts hk hI (m_X11_isPowder l Z M1 (ad 0 0) (ad 0 2) (ad 0 3) (ad 0 1) (hr_th X1) (hs_G S 0) (hs_G S 1) kp (hr_mc X1 1) (hs_nw S) (.ref (hr_d (hs_nw S) Z.2.2.2 (ad 12 0))) e0_0hP1 e0_3hP1 (by omega)) cv_X11_91 e0_0hP1 rfl rfl ⟨rfl, rfl⟩ ⟨(Nat.le_of_ble_eq_true rfl), (Nat.le_of_ble_eq_true rfl)⟩ rfl hl.1 rfl (Nat.le_of_ble_eq_true rfl) ⟨(Nat.le_of_ble_eq_true rfl), (Nat.le_of_ble_eq_true rfl)⟩ dX11_load_14) (fun r14 M14 H locs hR hI => ?_)
    obtain ⟨rfl, rfl⟩ := hR
    refine lv_if_ne (tgt := 26) hx hb dX11_load_17 (by decide) (fun c17 => ?_) (fun c17 => ?_)
    · have gk := hq_dt c9
      have gk2 := hq_dt c17
      have hx_ka := hb_okx (by decide) gk
      have hi_ka : hb_ix ka < 2 := hx_ka.1
      have e0_1hP1 : M1 (ad 0 1) = hw_ar Z 6 2 (fun j => some (ad 7 j)) := hP1.m 0 1 (show 1 < 4 by decide)
      have e7_hb_ix_kahP1 : M1 (ad 7 (hb_ix ka)) = hw_ob 8 [.int (hs_M S (hb_ix ka) 0), .int (hs_M S (hb_ix ka) 1), .int (hs_M S (hb_ix ka) 2), .int (hs_M S (hb_ix ka) 3), .ref (ad 8 (hb_ix ka))] := hP1.m 7 (hb_ix ka) hi_ka
      have hx_kp := hb_okx (by omega) gk2
      have hi_kp : hb_ix kp < hs_nw S := hx_kp.1
      have h6_kp : hb_ix kp < 6 := by omega
      have h12 : 0 = 0 ∧ 0 < hs_nw S := ⟨rfl, by omega⟩
      have e0_3hP1 : M1 (ad 0 3) = hw_ob 0 [.int (hr_mc X1 1), .ref (ad 12 0), .int (nI (hs_nw S))] := by
        have q := hP1.m 0 3 (show 3 < 4 by decide)
        rw [show hr_e Z ad S X1 0 3 = hw_ob 0 [.int (hr_mc X1 1), .ref (hr_d (hs_nw S) Z.2.2.2 (ad 12 0)), .int (nI (hs_nw S))] from rfl, hr_d0 h12.2] at q
        exact q
      have e12_0hP1 : M1 (ad 12 0) = hw_ar Z 7 10 (hc_f (ad 6) (hs_nw S)) := hP1.m 12 0 h12
      have e6_hb_ix_kphP1 : M1 (ad 6 (hb_ix kp)) = hw_ob 10 [.int (hs_V S (hb_ix kp) 0), .int (hs_V S (hb_ix kp) 1), .int (hs_V S (hb_ix kp) 2), .int (hs_V S (hb_ix kp) 3), .int (hs_V S (hb_ix kp) 4)] := hP1.m 6 (hb_ix kp) hi_kp
      refine lv_aload_n hx hb dX11_load_26 rfl (lv_at hl 0 rfl) ?_
      refine hw_get hx hb hts hown hk hI fd_X11_22 e0_0hP1 rfl dX11_load_27 ?_
      refine lv_iload_n hx hb dX11_load_30 rfl (lv_at hl 1 rfl) ?_
      refine hw_aald hx hb hk hI 6 (v := .ref (ad 7 (hb_ix ka))) e0_1hP1 rfl (j := hb_ix ka) hx_ka.2 hi_ka (by decide) rfl dX11_load_31 ?_
      refine lv_astore_n (lv' := [(3, .ref (ad 7 (hb_ix ka))), (0, .ref (ad 0 0)), (1, .int ka), (2, .int kp)]) hx hb dX11_load_32 rfl hl (by decide) rfl (fun ls hl => ?_)
      refine lv_aload_n hx hb dX11_load_33 rfl (lv_at hl 1 rfl) ?_
      refine hw_get hx hb hts hown hk hI fd_X11_16 e0_0hP1 rfl dX11_load_34 ?_
      refine lv_iload_n hx hb dX11_load_37 rfl (lv_at hl 3 rfl) ?_
      refine hw_ti hx_kp.2 ?_
      refine hw_cFr hI (hw_rF hx hb hml hown hts hk hI (m_Jx4a65c_get_915e3 l Z M1 (ad 0 3) (ad 12 0) (hs_nw S) (hb_ix kp) (ad 6 (hb_ix kp)) (hr_mc X1 1) (hc_f (ad 6) (hs_nw S)) e0_3hP1 e12_0hP1 hi_kp (by omega) (if_pos hi_kp)) cf_X11_59 e0_3hP1 rfl rfl ⟨rfl, rfl⟩ ⟨(Nat.le_of_ble_eq_true rfl), (Nat.le_of_ble_eq_true rfl)⟩ rfl hl.1 rfl (Nat.le_of_ble_eq_true rfl) ⟨(Nat.le_of_ble_eq_true rfl), (Nat.le_of_ble_eq_true rfl)⟩ dX11_load_38) (fun r38 M38 H locs hR hI => ?_)
      obtain ⟨rfl, rfl⟩ := hR
      refine hw_cast hx hb hts hown hk hI e6_hb_ix_kphP1 rfl (hw_win (w := .classLink RX11 86 RX9) (by decide +kernel) (by decide +kernel)) dX11_load_43 ?_
      refine lv_astore (lv' := [(4, .ref (ad 6 (hb_ix kp))), (3, .ref (ad 7 (hb_ix ka))), (0, .ref (ad 0 0)), (1, .int ka), (2, .int kp)]) hx hb dX11_load_46 hl (by decide) rfl (fun ls hl => ?_)
      refine lv_aload_n hx hb dX11_load_48 rfl (lv_at hl 1 rfl) ?_
      refine hw_get hx hb hts hown hk hI fd_X11_118 e7_hb_ix_kahP1 rfl dX11_load_49 ?_
      refine lv_iconst (v := (-1)) hx hb dX11_load_52 (by decide) ?_
      refine lv_icmp_ne (tgt := 73) hx hb dX11_load_53 (by decide) (fun c53 => ?_) (fun c53 => ?_)
      · refine lv_aload_n hx hb dX11_load_73 rfl (lv_at hl 2 rfl) ?_
        refine lv_iconst (v := nI 2) hx hb dX11_load_74 (by decide) ?_
        refine hw_ci hI (hw_rV hx hb hml hown hts hk hI (m_X11_no l Z M1 (ad 0 0) (ad 0 2) (ad 0 3) (ad 0 1) (hr_th X1) (hs_G S 0) (hs_G S 1) (nI 2) e0_0hP1) cv_X11_44 e0_0hP1 rfl rfl ⟨rfl, rfl⟩ ⟨(Nat.le_of_ble_eq_true rfl), (Nat.le_of_ble_eq_true rfl)⟩ rfl hl.1 rfl (Nat.le_of_ble_eq_true rfl) ⟨(Nat.le_of_ble_eq_true rfl), (Nat.le_of_ble_eq_true rfl)⟩ dX11_load_75) (fun r75 M75 H locs hR hI => ?_)
        obtain ⟨rfl, rfl⟩ := hR
        exact hret hI (hr_x (n := 2) (by unfold st_load; exact (hq_el (fun q => q ⟨gk, gk2⟩) (hq_if (Or.inl c53) ⟨rfl, rfl⟩))) (by decide) (hP1.th (nI 2)) rfl (fun a ha => (va_up_ne _ _ (hP1.f (k := 0) (i := 0) (show 0 < 4 by decide) ha)).trans (fr1 a ha))) (Nat.le_of_ble_eq_true rfl) (Nat.le_of_ble_eq_true rfl) dX11_load_78
      · refine lv_aload hx hb dX11_load_56 (lv_at hl 0 rfl) ?_
        refine hw_get hx hb hts hown hk hI fd_X11_97 e6_hb_ix_kphP1 rfl dX11_load_58 ?_
        refine lv_iconst (v := (-1)) hx hb dX11_load_61 (by decide) ?_
        refine lv_icmp_ne (tgt := 73) hx hb dX11_load_62 (by decide) (fun c62 => ?_) (fun c62 => ?_)
        · refine lv_aload_n hx hb dX11_load_73 rfl (lv_at hl 2 rfl) ?_
          refine lv_iconst (v := nI 2) hx hb dX11_load_74 (by decide) ?_
          refine hw_ci hI (hw_rV hx hb hml hown hts hk hI (m_X11_no l Z M1 (ad 0 0) (ad 0 2) (ad 0 3) (ad 0 1) (hr_th X1) (hs_G S 0) (hs_G S 1) (nI 2) e0_0hP1) cv_X11_44 e0_0hP1 rfl rfl ⟨rfl, rfl⟩ ⟨(Nat.le_of_ble_eq_true rfl), (Nat.le_of_ble_eq_true rfl)⟩ rfl hl.1 rfl (Nat.le_of_ble_eq_true rfl) ⟨(Nat.le_of_ble_eq_true rfl), (Nat.le_of_ble_eq_true rfl)⟩ dX11_load_75) (fun r75 M75 H locs hR hI => ?_)
          obtain ⟨rfl, rfl⟩ := hR
          exact hret hI (hr_x (n := 2) (by unfold st_load; exact (hq_el (fun q => q ⟨gk, gk2⟩) (hq_if (Or.inr (Or.inl c62)) ⟨rfl, rfl⟩))) (by decide) (hP1.th (nI 2)) rfl (fun a ha => (va_up_ne _ _ (hP1.f (k := 0) (i := 0) (show 0 < 4 by decide) ha)).trans (fr1 a ha))) (Nat.le_of_ble_eq_true rfl) (Nat.le_of_ble_eq_true rfl) dX11_load_78
        · refine lv_aload hx hb dX11_load_65 (lv_at hl 0 rfl) ?_
          refine hw_get hx hb hts hown hk hI fd_X11_100 e6_hb_ix_kphP1 rfl dX11_load_67 ?_
          refine lv_if_ne (tgt := 79) hx hb dX11_load_70 (by decide) (fun c70 => ?_) (fun c70 => ?_)
          · refine lv_aload_n hx hb dX11_load_79 rfl (lv_at hl 1 rfl) ?_
            refine hw_get hx hb hts hown hk hI fd_X11_121 e7_hb_ix_kahP1 rfl dX11_load_80 ?_
            refine lv_iconst (v := (-1)) hx hb dX11_load_83 (by decide) ?_
            refine lv_icmp_eq (tgt := 102) hx hb dX11_load_84 (by decide) (fun c84 => ?_) (fun c84 => ?_)
            · refine lv_aload hx hb dX11_load_102 (lv_at hl 0 rfl) ?_
              refine hw_get hx hb hts hown hk hI fd_X11_103 e6_hb_ix_kphP1 rfl dX11_load_104 ?_
              refine lv_iconst (v := nI 4) hx hb dX11_load_107 (by decide) ?_
              refine lv_icmp_le (tgt := 114) hx hb dX11_load_108 (by decide) (fun c108 => ?_) (fun c108 => ?_)
              · refine lv_aload_n hx hb dX11_load_114 rfl (lv_at hl 1 rfl) ?_
                refine lv_aload hx hb dX11_load_115 (lv_at hl 0 rfl) ?_
                refine hw_get hx hb hts hown hk hI fd_X11_94 e6_hb_ix_kphP1 rfl dX11_load_117 ?_
                refine hw_put (fs' := [.int (hs_V S (hb_ix kp) 0), .int (hs_M S (hb_ix ka) 1), .int (hs_M S (hb_ix ka) 2), .int (hs_M S (hb_ix ka) 3), .ref (ad 8 (hb_ix ka))]) hx hb hts hown hk hI fp_X11_121 e7_hb_ix_kahP1 (Nat.le_of_ble_eq_true rfl) rfl rfl rfl dX11_load_120 (fun H locs hI => ?_)
                refine lv_aload_n hx hb dX11_load_123 rfl (lv_at hl 1 rfl) ?_
                refine lv_iload_n hx hb dX11_load_124 rfl (lv_at hl 4 rfl) ?_
                refine hw_put (fs' := [.int (hs_V S (hb_ix kp) 0), .int kp, .int (hs_M S (hb_ix ka) 2), .int (hs_M S (hb_ix ka) 3), .ref (ad 8 (hb_ix ka))]) hx hb hts hown hk hI fp_X11_118 (hw_us _ _ _) (Nat.le_of_ble_eq_true rfl) rfl rfl rfl dX11_load_125 (fun H locs hI => ?_)
                refine lv_aload_n hx hb dX11_load_128 rfl (lv_at hl 1 rfl) ?_
                refine lv_aload hx hb dX11_load_129 (lv_at hl 0 rfl) ?_
                refine hw_get hx hb hts hown hk hI fd_X11_100 (hw_up (hw_up e6_hb_ix_kphP1 (hP1.n (k := 6) (i := (hb_ix kp)) (k' := 7) (i' := (hb_ix ka)) hi_kp hi_ka (fun q => absurd q.1 (by decide)))) (hP1.n (k := 6) (i := (hb_ix kp)) (k' := 7) (i' := (hb_ix ka)) hi_kp hi_ka (fun q => absurd q.1 (by decide)))) rfl dX11_load_131 ?_
                refine hw_put (fs' := [.int (hs_V S (hb_ix kp) 0), .int kp, .int (hs_V S (hb_ix kp) 1), .int (hs_M S (hb_ix ka) 3), .ref (ad 8 (hb_ix ka))]) hx hb hts hown hk hI fp_X11_124 (hw_us _ _ _) (Nat.le_of_ble_eq_true rfl) rfl rfl rfl dX11_load_134 (fun H locs hI => ?_)
                refine lv_aload hx hb dX11_load_137 (lv_at hl 0 rfl) ?_
                refine lv_iconst (v := nI 0) hx hb dX11_load_139 (by decide) ?_
                refine hw_put (fs' := [.int (hs_V S (hb_ix kp) 0), .int (nI 0), .int (hs_V S (hb_ix kp) 2), .int (hs_V S (hb_ix kp) 3), .int (hs_V S (hb_ix kp) 4)]) hx hb hts hown hk hI fp_X11_100 (hw_up (hw_up (hw_up e6_hb_ix_kphP1 (hP1.n (k := 6) (i := (hb_ix kp)) (k' := 7) (i' := (hb_ix ka)) hi_kp hi_ka (fun q => absurd q.1 (by decide)))) (hP1.n (k := 6) (i := (hb_ix kp)) (k' := 7) (i' := (hb_ix ka)) hi_kp hi_ka (fun q => absurd q.1 (by decide)))) (hP1.n (k := 6) (i := (hb_ix kp)) (k' := 7) (i' := (hb_ix ka)) hi_kp hi_ka (fun q => absurd q.1 (by decide)))) (Nat.le_of_ble_eq_true rfl) rfl rfl rfl dX11_load_140 (fun H locs hI => ?_)
                refine lv_aload hx hb dX11_load_143 (lv_at hl 0 rfl) ?_
                refine lv_iload_n hx hb dX11_load_145 rfl (lv_at hl 3 rfl) ?_
                refine hw_put (fs' := [.int (hs_V S (hb_ix kp) 0), .int (nI 0), .int (hs_V S (hb_ix kp) 2), .int (hs_V S (hb_ix kp) 3), .int ka]) hx hb hts hown hk hI fp_X11_97 (hw_us _ _ _) (Nat.le_of_ble_eq_true rfl) rfl rfl rfl dX11_load_146 (fun H locs hI => ?_)
                refine lv_aload_n hx hb dX11_load_149 rfl (lv_at hl 1 rfl) ?_
                refine hw_get hx hb hts hown hk hI fd_X11_124 (hw_up (hw_up (hw_us _ _ _) (hP1.n (k := 7) (i := (hb_ix ka)) (k' := 6) (i' := (hb_ix kp)) hi_ka hi_kp (fun q => absurd q.1 (by decide)))) (hP1.n (k := 7) (i := (hb_ix ka)) (k' := 6) (i' := (hb_ix kp)) hi_ka hi_kp (fun q => absurd q.1 (by decide)))) rfl dX11_load_150 ?_
                have hok : hr_ok Z b1 (va_up (va_up (va_up (va_up (va_up M1 (ad 7 (hb_ix ka)) (hw_ob 8 [.int (hs_V S (hb_ix kp) 0), .int (hs_M S (hb_ix ka) 1), .int (hs_M S (hb_ix ka) 2), .int (hs_M S (hb_ix ka) 3), .ref (ad 8 (hb_ix ka))])) (ad 7 (hb_ix ka)) (hw_ob 8 [.int (hs_V S (hb_ix kp) 0), .int kp, .int (hs_M S (hb_ix ka) 2), .int (hs_M S (hb_ix ka) 3), .ref (ad 8 (hb_ix ka))])) (ad 7 (hb_ix ka)) (hw_ob 8 [.int (hs_V S (hb_ix kp) 0), .int kp, .int (hs_V S (hb_ix kp) 1), .int (hs_M S (hb_ix ka) 3), .ref (ad 8 (hb_ix ka))])) (ad 6 (hb_ix kp)) (hw_ob 10 [.int (hs_V S (hb_ix kp) 0), .int (nI 0), .int (hs_V S (hb_ix kp) 2), .int (hs_V S (hb_ix kp) 3), .int (hs_V S (hb_ix kp) 4)])) (ad 6 (hb_ix kp)) (hw_ob 10 [.int (hs_V S (hb_ix kp) 0), .int (nI 0), .int (hs_V S (hb_ix kp) 2), .int (hs_V S (hb_ix kp) 3), .int ka])) ad (hs_sV (hs_sM S (hb_ix ka) (va_up (va_up (va_up (hs_M S (hb_ix ka)) 0 (hs_V S (hb_ix kp) 0)) 1 kp) 2 (hs_V S (hb_ix kp) 1))) (hb_ix kp) (va_up (va_up (hs_V S (hb_ix kp)) 1 0) 4 ka)) (X1) := by
                  refine hr_old hP1 (fun _ _ hi => hi) ?_ hP1.q hP1.g
                  intro k i hi
                  rcases k with _ | _ | _ | _ | _ | _ | _ | _ | _ | _ | _ | _ | _ | k
                  · rcases (show i = 0 ∨ i = 1 ∨ i = 2 ∨ i = 3 by have h4 : i < 4 := hi; omega) with rfl | rfl | rfl | rfl
                    · show (va_up (va_up (va_up (va_up (va_up M1 (ad 7 (hb_ix ka)) (hw_ob 8 [.int (hs_V S (hb_ix kp) 0), .int (hs_M S (hb_ix ka) 1), .int (hs_M S (hb_ix ka) 2), .int (hs_M S (hb_ix ka) 3), .ref (ad 8 (hb_ix ka))])) (ad 7 (hb_ix ka)) (hw_ob 8 [.int (hs_V S (hb_ix kp) 0), .int kp, .int (hs_M S (hb_ix ka) 2), .int (hs_M S (hb_ix ka) 3), .ref (ad 8 (hb_ix ka))])) (ad 7 (hb_ix ka)) (hw_ob 8 [.int (hs_V S (hb_ix kp) 0), .int kp, .int (hs_V S (hb_ix kp) 1), .int (hs_M S (hb_ix ka) 3), .ref (ad 8 (hb_ix ka))])) (ad 6 (hb_ix kp)) (hw_ob 10 [.int (hs_V S (hb_ix kp) 0), .int (nI 0), .int (hs_V S (hb_ix kp) 2), .int (hs_V S (hb_ix kp) 3), .int (hs_V S (hb_ix kp) 4)])) (ad 6 (hb_ix kp)) (hw_ob 10 [.int (hs_V S (hb_ix kp) 0), .int (nI 0), .int (hs_V S (hb_ix kp) 2), .int (hs_V S (hb_ix kp) 3), .int ka])) (ad 0 0) = hw_ob 12 [.int (hr_th X1), .int (hs_G S 0), .int (hs_G S 1), .ref (ad 0 2), .ref (ad 0 3), .ref (ad 0 1)]
                      rw [va_up_ne _ _ (hP1.n (k := 0) (i := 0) (k' := 6) (i' := (hb_ix kp)) (show 0 < 4 by decide) hi_kp (fun q => absurd q.1 (by decide))), va_up_ne _ _ (hP1.n (k := 0) (i := 0) (k' := 6) (i' := (hb_ix kp)) (show 0 < 4 by decide) hi_kp (fun q => absurd q.1 (by decide))), va_up_ne _ _ (hP1.n (k := 0) (i := 0) (k' := 7) (i' := (hb_ix ka)) (show 0 < 4 by decide) hi_ka (fun q => absurd q.1 (by decide))), va_up_ne _ _ (hP1.n (k := 0) (i := 0) (k' := 7) (i' := (hb_ix ka)) (show 0 < 4 by decide) hi_ka (fun q => absurd q.1 (by decide))), va_up_ne _ _ (hP1.n (k := 0) (i := 0) (k' := 7) (i' := (hb_ix ka)) (show 0 < 4 by decide) hi_ka (fun q => absurd q.1 (by decide)))]
                      refine (hP1.m 0 0 (show 0 < 4 by decide)).trans ?_
                      first | rfl | (simp only [va_up_self]; done) | (simp only [va_up_self]; rfl)
                    · show (va_up (va_up (va_up (va_up (va_up M1 (ad 7 (hb_ix ka)) (hw_ob 8 [.int (hs_V S (hb_ix kp) 0), .int (hs_M S (hb_ix ka) 1), .int (hs_M S (hb_ix ka) 2), .int (hs_M S (hb_ix ka) 3), .ref (ad 8 (hb_ix ka))])) (ad 7 (hb_ix ka)) (hw_ob 8 [.int (hs_V S (hb_ix kp) 0), .int kp, .int (hs_M S (hb_ix ka) 2), .int (hs_M S (hb_ix ka) 3), .ref (ad 8 (hb_ix ka))])) (ad 7 (hb_ix ka)) (hw_ob 8 [.int (hs_V S (hb_ix kp) 0), .int kp, .int (hs_V S (hb_ix kp) 1), .int (hs_M S (hb_ix ka) 3), .ref (ad 8 (hb_ix ka))])) (ad 6 (hb_ix kp)) (hw_ob 10 [.int (hs_V S (hb_ix kp) 0), .int (nI 0), .int (hs_V S (hb_ix kp) 2), .int (hs_V S (hb_ix kp) 3), .int (hs_V S (hb_ix kp) 4)])) (ad 6 (hb_ix kp)) (hw_ob 10 [.int (hs_V S (hb_ix kp) 0), .int (nI 0), .int (hs_V S (hb_ix kp) 2), .int (hs_V S (hb_ix kp) 3), .int ka])) (ad 0 1) = hw_ar Z 6 2 (fun j => some (ad 7 j))
                      rw [va_up_ne _ _ (hP1.n (k := 0) (i := 1) (k' := 6) (i' := (hb_ix kp)) (show 1 < 4 by decide) hi_kp (fun q => absurd q.1 (by decide))), va_up_ne _ _ (hP1.n (k := 0) (i := 1) (k' := 6) (i' := (hb_ix kp)) (show 1 < 4 by decide) hi_kp (fun q => absurd q.1 (by decide))), va_up_ne _ _ (hP1.n (k := 0) (i := 1) (k' := 7) (i' := (hb_ix ka)) (show 1 < 4 by decide) hi_ka (fun q => absurd q.1 (by decide))), va_up_ne _ _ (hP1.n (k := 0) (i := 1) (k' := 7) (i' := (hb_ix ka)) (show 1 < 4 by decide) hi_ka (fun q => absurd q.1 (by decide))), va_up_ne _ _ (hP1.n (k := 0) (i := 1) (k' := 7) (i' := (hb_ix ka)) (show 1 < 4 by decide) hi_ka (fun q => absurd q.1 (by decide)))]
                      refine (hP1.m 0 1 (show 1 < 4 by decide)).trans ?_
                      first | rfl | (simp only [va_up_self]; done) | (simp only [va_up_self]; rfl)
                    · show (va_up (va_up (va_up (va_up (va_up M1 (ad 7 (hb_ix ka)) (hw_ob 8 [.int (hs_V S (hb_ix kp) 0), .int (hs_M S (hb_ix ka) 1), .int (hs_M S (hb_ix ka) 2), .int (hs_M S (hb_ix ka) 3), .ref (ad 8 (hb_ix ka))])) (ad 7 (hb_ix ka)) (hw_ob 8 [.int (hs_V S (hb_ix kp) 0), .int kp, .int (hs_M S (hb_ix ka) 2), .int (hs_M S (hb_ix ka) 3), .ref (ad 8 (hb_ix ka))])) (ad 7 (hb_ix ka)) (hw_ob 8 [.int (hs_V S (hb_ix kp) 0), .int kp, .int (hs_V S (hb_ix kp) 1), .int (hs_M S (hb_ix ka) 3), .ref (ad 8 (hb_ix ka))])) (ad 6 (hb_ix kp)) (hw_ob 10 [.int (hs_V S (hb_ix kp) 0), .int (nI 0), .int (hs_V S (hb_ix kp) 2), .int (hs_V S (hb_ix kp) 3), .int (hs_V S (hb_ix kp) 4)])) (ad 6 (hb_ix kp)) (hw_ob 10 [.int (hs_V S (hb_ix kp) 0), .int (nI 0), .int (hs_V S (hb_ix kp) 2), .int (hs_V S (hb_ix kp) 3), .int ka])) (ad 0 2) = hw_ob 0 [.int (hr_mc X1 0), .ref (hr_d (hs_np S) Z.2.2.2 (ad 11 0)), .int (nI (hs_np S))]
                      rw [va_up_ne _ _ (hP1.n (k := 0) (i := 2) (k' := 6) (i' := (hb_ix kp)) (show 2 < 4 by decide) hi_kp (fun q => absurd q.1 (by decide))), va_up_ne _ _ (hP1.n (k := 0) (i := 2) (k' := 6) (i' := (hb_ix kp)) (show 2 < 4 by decide) hi_kp (fun q => absurd q.1 (by decide))), va_up_ne _ _ (hP1.n (k := 0) (i := 2) (k' := 7) (i' := (hb_ix ka)) (show 2 < 4 by decide) hi_ka (fun q => absurd q.1 (by decide))), va_up_ne _ _ (hP1.n (k := 0) (i := 2) (k' := 7) (i' := (hb_ix ka)) (show 2 < 4 by decide) hi_ka (fun q => absurd q.1 (by decide))), va_up_ne _ _ (hP1.n (k := 0) (i := 2) (k' := 7) (i' := (hb_ix ka)) (show 2 < 4 by decide) hi_ka (fun q => absurd q.1 (by decide)))]
                      refine (hP1.m 0 2 (show 2 < 4 by decide)).trans ?_
                      first | rfl | (simp only [va_up_self]; done) | (simp only [va_up_self]; rfl)
                    · show (va_up (va_up (va_up (va_up (va_up M1 (ad 7 (hb_ix ka)) (hw_ob 8 [.int (hs_V S (hb_ix kp) 0), .int (hs_M S (hb_ix ka) 1), .int (hs_M S (hb_ix ka) 2), .int (hs_M S (hb_ix ka) 3), .ref (ad 8 (hb_ix ka))])) (ad 7 (hb_ix ka)) (hw_ob 8 [.int (hs_V S (hb_ix kp) 0), .int kp, .int (hs_M S (hb_ix ka) 2), .int (hs_M S (hb_ix ka) 3), .ref (ad 8 (hb_ix ka))])) (ad 7 (hb_ix ka)) (hw_ob 8 [.int (hs_V S (hb_ix kp) 0), .int kp, .int (hs_V S (hb_ix kp) 1), .int (hs_M S (hb_ix ka) 3), .ref (ad 8 (hb_ix ka))])) (ad 6 (hb_ix kp)) (hw_ob 10 [.int (hs_V S (hb_ix kp) 0), .int (nI 0), .int (hs_V S (hb_ix kp) 2), .int (hs_V S (hb_ix kp) 3), .int (hs_V S (hb_ix kp) 4)])) (ad 6 (hb_ix kp)) (hw_ob 10 [.int (hs_V S (hb_ix kp) 0), .int (nI 0), .int (hs_V S (hb_ix kp) 2), .int (hs_V S (hb_ix kp) 3), .int ka])) (ad 0 3) = hw_ob 0 [.int (hr_mc X1 1), .ref (hr_d (hs_nw S) Z.2.2.2 (ad 12 0)), .int (nI (hs_nw S))]
                      rw [va_up_ne _ _ (hP1.n (k := 0) (i := 3) (k' := 6) (i' := (hb_ix kp)) (show 3 < 4 by decide) hi_kp (fun q => absurd q.1 (by decide))), va_up_ne _ _ (hP1.n (k := 0) (i := 3) (k' := 6) (i' := (hb_ix kp)) (show 3 < 4 by decide) hi_kp (fun q => absurd q.1 (by decide))), va_up_ne _ _ (hP1.n (k := 0) (i := 3) (k' := 7) (i' := (hb_ix ka)) (show 3 < 4 by decide) hi_ka (fun q => absurd q.1 (by decide))), va_up_ne _ _ (hP1.n (k := 0) (i := 3) (k' := 7) (i' := (hb_ix ka)) (show 3 < 4 by decide) hi_ka (fun q => absurd q.1 (by decide))), va_up_ne _ _ (hP1.n (k := 0) (i := 3) (k' := 7) (i' := (hb_ix ka)) (show 3 < 4 by decide) hi_ka (fun q => absurd q.1 (by decide)))]
                      refine (hP1.m 0 3 (show 3 < 4 by decide)).trans ?_
                      first | rfl | (simp only [va_up_self]; done) | (simp only [va_up_self]; rfl)
                  · show (va_up (va_up (va_up (va_up (va_up M1 (ad 7 (hb_ix ka)) (hw_ob 8 [.int (hs_V S (hb_ix kp) 0), .int (hs_M S (hb_ix ka) 1), .int (hs_M S (hb_ix ka) 2), .int (hs_M S (hb_ix ka) 3), .ref (ad 8 (hb_ix ka))])) (ad 7 (hb_ix ka)) (hw_ob 8 [.int (hs_V S (hb_ix kp) 0), .int kp, .int (hs_M S (hb_ix ka) 2), .int (hs_M S (hb_ix ka) 3), .ref (ad 8 (hb_ix ka))])) (ad 7 (hb_ix ka)) (hw_ob 8 [.int (hs_V S (hb_ix kp) 0), .int kp, .int (hs_V S (hb_ix kp) 1), .int (hs_M S (hb_ix ka) 3), .ref (ad 8 (hb_ix ka))])) (ad 6 (hb_ix kp)) (hw_ob 10 [.int (hs_V S (hb_ix kp) 0), .int (nI 0), .int (hs_V S (hb_ix kp) 2), .int (hs_V S (hb_ix kp) 3), .int (hs_V S (hb_ix kp) 4)])) (ad 6 (hb_ix kp)) (hw_ob 10 [.int (hs_V S (hb_ix kp) 0), .int (nI 0), .int (hs_V S (hb_ix kp) 2), .int (hs_V S (hb_ix kp) 3), .int ka])) (ad 1 i) = hw_ob 9 [.ref (ad 2 i), .int (hs_P S i 0), .ref (ad 4 i), .int (hs_P S i 3), .int (hs_P S i 4), .int (hs_P S i 5), .int (hs_P S i 6), .int (hs_P S i 7), .int (hs_P S i 8)]
                    rw [va_up_ne _ _ (hP1.n (k := 1) (i := i) (k' := 6) (i' := (hb_ix kp)) hi hi_kp (fun q => absurd q.1 (by decide))), va_up_ne _ _ (hP1.n (k := 1) (i := i) (k' := 6) (i' := (hb_ix kp)) hi hi_kp (fun q => absurd q.1 (by decide))), va_up_ne _ _ (hP1.n (k := 1) (i := i) (k' := 7) (i' := (hb_ix ka)) hi hi_ka (fun q => absurd q.1 (by decide))), va_up_ne _ _ (hP1.n (k := 1) (i := i) (k' := 7) (i' := (hb_ix ka)) hi hi_ka (fun q => absurd q.1 (by decide))), va_up_ne _ _ (hP1.n (k := 1) (i := i) (k' := 7) (i' := (hb_ix ka)) hi hi_ka (fun q => absurd q.1 (by decide)))]
                    refine (hP1.m 1 i hi).trans ?_
                    first | rfl
                  · show (va_up (va_up (va_up (va_up (va_up M1 (ad 7 (hb_ix ka)) (hw_ob 8 [.int (hs_V S (hb_ix kp) 0), .int (hs_M S (hb_ix ka) 1), .int (hs_M S (hb_ix ka) 2), .int (hs_M S (hb_ix ka) 3), .ref (ad 8 (hb_ix ka))])) (ad 7 (hb_ix ka)) (hw_ob 8 [.int (hs_V S (hb_ix kp) 0), .int kp, .int (hs_M S (hb_ix ka) 2), .int (hs_M S (hb_ix ka) 3), .ref (ad 8 (hb_ix ka))])) (ad 7 (hb_ix ka)) (hw_ob 8 [.int (hs_V S (hb_ix kp) 0), .int kp, .int (hs_V S (hb_ix kp) 1), .int (hs_M S (hb_ix ka) 3), .ref (ad 8 (hb_ix ka))])) (ad 6 (hb_ix kp)) (hw_ob 10 [.int (hs_V S (hb_ix kp) 0), .int (nI 0), .int (hs_V S (hb_ix kp) 2), .int (hs_V S (hb_ix kp) 3), .int (hs_V S (hb_ix kp) 4)])) (ad 6 (hb_ix kp)) (hw_ob 10 [.int (hs_V S (hb_ix kp) 0), .int (nI 0), .int (hs_V S (hb_ix kp) 2), .int (hs_V S (hb_ix kp) 3), .int ka])) (ad 2 i) = hw_ob 11 [.ref (ad 3 i)]
                    rw [va_up_ne _ _ (hP1.n (k := 2) (i := i) (k' := 6) (i' := (hb_ix kp)) hi hi_kp (fun q => absurd q.1 (by decide))), va_up_ne _ _ (hP1.n (k := 2) (i := i) (k' := 6) (i' := (hb_ix kp)) hi hi_kp (fun q => absurd q.1 (by decide))), va_up_ne _ _ (hP1.n (k := 2) (i := i) (k' := 7) (i' := (hb_ix ka)) hi hi_ka (fun q => absurd q.1 (by decide))), va_up_ne _ _ (hP1.n (k := 2) (i := i) (k' := 7) (i' := (hb_ix ka)) hi hi_ka (fun q => absurd q.1 (by decide))), va_up_ne _ _ (hP1.n (k := 2) (i := i) (k' := 7) (i' := (hb_ix ka)) hi hi_ka (fun q => absurd q.1 (by decide)))]
                    refine (hP1.m 2 i hi).trans ?_
                    first | rfl
                  · show (va_up (va_up (va_up (va_up (va_up M1 (ad 7 (hb_ix ka)) (hw_ob 8 [.int (hs_V S (hb_ix kp) 0), .int (hs_M S (hb_ix ka) 1), .int (hs_M S (hb_ix ka) 2), .int (hs_M S (hb_ix ka) 3), .ref (ad 8 (hb_ix ka))])) (ad 7 (hb_ix ka)) (hw_ob 8 [.int (hs_V S (hb_ix kp) 0), .int kp, .int (hs_M S (hb_ix ka) 2), .int (hs_M S (hb_ix ka) 3), .ref (ad 8 (hb_ix ka))])) (ad 7 (hb_ix ka)) (hw_ob 8 [.int (hs_V S (hb_ix kp) 0), .int kp, .int (hs_V S (hb_ix kp) 1), .int (hs_M S (hb_ix ka) 3), .ref (ad 8 (hb_ix ka))])) (ad 6 (hb_ix kp)) (hw_ob 10 [.int (hs_V S (hb_ix kp) 0), .int (nI 0), .int (hs_V S (hb_ix kp) 2), .int (hs_V S (hb_ix kp) 3), .int (hs_V S (hb_ix kp) 4)])) (ad 6 (hb_ix kp)) (hw_ob 10 [.int (hs_V S (hb_ix kp) 0), .int (nI 0), .int (hs_V S (hb_ix kp) 2), .int (hs_V S (hb_ix kp) 3), .int ka])) (ad 3 i) = hw_al Z 8 (hs_C S i)
                    rw [va_up_ne _ _ (hP1.n (k := 3) (i := i) (k' := 6) (i' := (hb_ix kp)) hi hi_kp (fun q => absurd q.1 (by decide))), va_up_ne _ _ (hP1.n (k := 3) (i := i) (k' := 6) (i' := (hb_ix kp)) hi hi_kp (fun q => absurd q.1 (by decide))), va_up_ne _ _ (hP1.n (k := 3) (i := i) (k' := 7) (i' := (hb_ix ka)) hi hi_ka (fun q => absurd q.1 (by decide))), va_up_ne _ _ (hP1.n (k := 3) (i := i) (k' := 7) (i' := (hb_ix ka)) hi hi_ka (fun q => absurd q.1 (by decide))), va_up_ne _ _ (hP1.n (k := 3) (i := i) (k' := 7) (i' := (hb_ix ka)) hi hi_ka (fun q => absurd q.1 (by decide)))]
                    refine (hP1.m 3 i hi).trans ?_
                    first | rfl
                  · show (va_up (va_up (va_up (va_up (va_up M1 (ad 7 (hb_ix ka)) (hw_ob 8 [.int (hs_V S (hb_ix kp) 0), .int (hs_M S (hb_ix ka) 1), .int (hs_M S (hb_ix ka) 2), .int (hs_M S (hb_ix ka) 3), .ref (ad 8 (hb_ix ka))])) (ad 7 (hb_ix ka)) (hw_ob 8 [.int (hs_V S (hb_ix kp) 0), .int kp, .int (hs_M S (hb_ix ka) 2), .int (hs_M S (hb_ix ka) 3), .ref (ad 8 (hb_ix ka))])) (ad 7 (hb_ix ka)) (hw_ob 8 [.int (hs_V S (hb_ix kp) 0), .int kp, .int (hs_V S (hb_ix kp) 1), .int (hs_M S (hb_ix ka) 3), .ref (ad 8 (hb_ix ka))])) (ad 6 (hb_ix kp)) (hw_ob 10 [.int (hs_V S (hb_ix kp) 0), .int (nI 0), .int (hs_V S (hb_ix kp) 2), .int (hs_V S (hb_ix kp) 3), .int (hs_V S (hb_ix kp) 4)])) (ad 6 (hb_ix kp)) (hw_ob 10 [.int (hs_V S (hb_ix kp) 0), .int (nI 0), .int (hs_V S (hb_ix kp) 2), .int (hs_V S (hb_ix kp) 3), .int ka])) (ad 4 i) = hw_ob 7 [.double (hr_en (hs_P S i)), .ref (ad 5 i), .double (hs_U S i), .int (hs_P S i 1), .int (hs_P S i 2), .int (nI (hs_D S i))]
                    rw [va_up_ne _ _ (hP1.n (k := 4) (i := i) (k' := 6) (i' := (hb_ix kp)) hi hi_kp (fun q => absurd q.1 (by decide))), va_up_ne _ _ (hP1.n (k := 4) (i := i) (k' := 6) (i' := (hb_ix kp)) hi hi_kp (fun q => absurd q.1 (by decide))), va_up_ne _ _ (hP1.n (k := 4) (i := i) (k' := 7) (i' := (hb_ix ka)) hi hi_ka (fun q => absurd q.1 (by decide))), va_up_ne _ _ (hP1.n (k := 4) (i := i) (k' := 7) (i' := (hb_ix ka)) hi hi_ka (fun q => absurd q.1 (by decide))), va_up_ne _ _ (hP1.n (k := 4) (i := i) (k' := 7) (i' := (hb_ix ka)) hi hi_ka (fun q => absurd q.1 (by decide)))]
                    refine (hP1.m 4 i hi).trans ?_
                    first | rfl
                  · show (va_up (va_up (va_up (va_up (va_up M1 (ad 7 (hb_ix ka)) (hw_ob 8 [.int (hs_V S (hb_ix kp) 0), .int (hs_M S (hb_ix ka) 1), .int (hs_M S (hb_ix ka) 2), .int (hs_M S (hb_ix ka) 3), .ref (ad 8 (hb_ix ka))])) (ad 7 (hb_ix ka)) (hw_ob 8 [.int (hs_V S (hb_ix kp) 0), .int kp, .int (hs_M S (hb_ix ka) 2), .int (hs_M S (hb_ix ka) 3), .ref (ad 8 (hb_ix ka))])) (ad 7 (hb_ix ka)) (hw_ob 8 [.int (hs_V S (hb_ix kp) 0), .int kp, .int (hs_V S (hb_ix kp) 1), .int (hs_M S (hb_ix ka) 3), .ref (ad 8 (hb_ix ka))])) (ad 6 (hb_ix kp)) (hw_ob 10 [.int (hs_V S (hb_ix kp) 0), .int (nI 0), .int (hs_V S (hb_ix kp) 2), .int (hs_V S (hb_ix kp) 3), .int (hs_V S (hb_ix kp) 4)])) (ad 6 (hb_ix kp)) (hw_ob 10 [.int (hs_V S (hb_ix kp) 0), .int (nI 0), .int (hs_V S (hb_ix kp) 2), .int (hs_V S (hb_ix kp) 3), .int ka])) (ad 5 i) = hw_ad Z 64 (hs_W S i)
                    rw [va_up_ne _ _ (hP1.n (k := 5) (i := i) (k' := 6) (i' := (hb_ix kp)) hi hi_kp (fun q => absurd q.1 (by decide))), va_up_ne _ _ (hP1.n (k := 5) (i := i) (k' := 6) (i' := (hb_ix kp)) hi hi_kp (fun q => absurd q.1 (by decide))), va_up_ne _ _ (hP1.n (k := 5) (i := i) (k' := 7) (i' := (hb_ix ka)) hi hi_ka (fun q => absurd q.1 (by decide))), va_up_ne _ _ (hP1.n (k := 5) (i := i) (k' := 7) (i' := (hb_ix ka)) hi hi_ka (fun q => absurd q.1 (by decide))), va_up_ne _ _ (hP1.n (k := 5) (i := i) (k' := 7) (i' := (hb_ix ka)) hi hi_ka (fun q => absurd q.1 (by decide)))]
                    refine (hP1.m 5 i hi).trans ?_
                    first | rfl
                  · by_cases q0 : i = (hb_ix kp)
                    · subst q0
                      show (va_up (va_up (va_up (va_up (va_up M1 (ad 7 (hb_ix ka)) (hw_ob 8 [.int (hs_V S (hb_ix kp) 0), .int (hs_M S (hb_ix ka) 1), .int (hs_M S (hb_ix ka) 2), .int (hs_M S (hb_ix ka) 3), .ref (ad 8 (hb_ix ka))])) (ad 7 (hb_ix ka)) (hw_ob 8 [.int (hs_V S (hb_ix kp) 0), .int kp, .int (hs_M S (hb_ix ka) 2), .int (hs_M S (hb_ix ka) 3), .ref (ad 8 (hb_ix ka))])) (ad 7 (hb_ix ka)) (hw_ob 8 [.int (hs_V S (hb_ix kp) 0), .int kp, .int (hs_V S (hb_ix kp) 1), .int (hs_M S (hb_ix ka) 3), .ref (ad 8 (hb_ix ka))])) (ad 6 (hb_ix kp)) (hw_ob 10 [.int (hs_V S (hb_ix kp) 0), .int (nI 0), .int (hs_V S (hb_ix kp) 2), .int (hs_V S (hb_ix kp) 3), .int (hs_V S (hb_ix kp) 4)])) (ad 6 (hb_ix kp)) (hw_ob 10 [.int (hs_V S (hb_ix kp) 0), .int (nI 0), .int (hs_V S (hb_ix kp) 2), .int (hs_V S (hb_ix kp) 3), .int ka])) (ad 6 (hb_ix kp)) = hw_ob 10 [.int ((va_up (hs_V S) (hb_ix kp) (va_up (va_up (hs_V S (hb_ix kp)) 1 0) 4 ka)) (hb_ix kp) 0), .int ((va_up (hs_V S) (hb_ix kp) (va_up (va_up (hs_V S (hb_ix kp)) 1 0) 4 ka)) (hb_ix kp) 1), .int ((va_up (hs_V S) (hb_ix kp) (va_up (va_up (hs_V S (hb_ix kp)) 1 0) 4 ka)) (hb_ix kp) 2), .int ((va_up (hs_V S) (hb_ix kp) (va_up (va_up (hs_V S (hb_ix kp)) 1 0) 4 ka)) (hb_ix kp) 3), .int ((va_up (hs_V S) (hb_ix kp) (va_up (va_up (hs_V S (hb_ix kp)) 1 0) 4 ka)) (hb_ix kp) 4)]
                      refine (hw_us _ _ _).trans ?_
                      first | rfl | (simp only [va_up_self]; done) | (simp only [va_up_self]; rfl)
                    show (va_up (va_up (va_up (va_up (va_up M1 (ad 7 (hb_ix ka)) (hw_ob 8 [.int (hs_V S (hb_ix kp) 0), .int (hs_M S (hb_ix ka) 1), .int (hs_M S (hb_ix ka) 2), .int (hs_M S (hb_ix ka) 3), .ref (ad 8 (hb_ix ka))])) (ad 7 (hb_ix ka)) (hw_ob 8 [.int (hs_V S (hb_ix kp) 0), .int kp, .int (hs_M S (hb_ix ka) 2), .int (hs_M S (hb_ix ka) 3), .ref (ad 8 (hb_ix ka))])) (ad 7 (hb_ix ka)) (hw_ob 8 [.int (hs_V S (hb_ix kp) 0), .int kp, .int (hs_V S (hb_ix kp) 1), .int (hs_M S (hb_ix ka) 3), .ref (ad 8 (hb_ix ka))])) (ad 6 (hb_ix kp)) (hw_ob 10 [.int (hs_V S (hb_ix kp) 0), .int (nI 0), .int (hs_V S (hb_ix kp) 2), .int (hs_V S (hb_ix kp) 3), .int (hs_V S (hb_ix kp) 4)])) (ad 6 (hb_ix kp)) (hw_ob 10 [.int (hs_V S (hb_ix kp) 0), .int (nI 0), .int (hs_V S (hb_ix kp) 2), .int (hs_V S (hb_ix kp) 3), .int ka])) (ad 6 i) = hw_ob 10 [.int ((va_up (hs_V S) (hb_ix kp) (va_up (va_up (hs_V S (hb_ix kp)) 1 0) 4 ka)) i 0), .int ((va_up (hs_V S) (hb_ix kp) (va_up (va_up (hs_V S (hb_ix kp)) 1 0) 4 ka)) i 1), .int ((va_up (hs_V S) (hb_ix kp) (va_up (va_up (hs_V S (hb_ix kp)) 1 0) 4 ka)) i 2), .int ((va_up (hs_V S) (hb_ix kp) (va_up (va_up (hs_V S (hb_ix kp)) 1 0) 4 ka)) i 3), .int ((va_up (hs_V S) (hb_ix kp) (va_up (va_up (hs_V S (hb_ix kp)) 1 0) 4 ka)) i 4)]
                    rw [va_up_ne _ _ (hP1.n (k := 6) (i := i) (k' := 6) (i' := (hb_ix kp)) hi hi_kp (fun q => q0 q.2)), va_up_ne _ _ (hP1.n (k := 6) (i := i) (k' := 6) (i' := (hb_ix kp)) hi hi_kp (fun q => q0 q.2)), va_up_ne _ _ (hP1.n (k := 6) (i := i) (k' := 7) (i' := (hb_ix ka)) hi hi_ka (fun q => absurd q.1 (by decide))), va_up_ne _ _ (hP1.n (k := 6) (i := i) (k' := 7) (i' := (hb_ix ka)) hi hi_ka (fun q => absurd q.1 (by decide))), va_up_ne _ _ (hP1.n (k := 6) (i := i) (k' := 7) (i' := (hb_ix ka)) hi hi_ka (fun q => absurd q.1 (by decide)))]
                    refine (hP1.m 6 i hi).trans ?_
                    first | rfl | (simp only [va_up_ne _ _ q0]; done) | (simp only [va_up_ne _ _ q0]; rfl)
                  · by_cases q0 : i = (hb_ix ka)
                    · subst q0
                      show (va_up (va_up (va_up (va_up (va_up M1 (ad 7 (hb_ix ka)) (hw_ob 8 [.int (hs_V S (hb_ix kp) 0), .int (hs_M S (hb_ix ka) 1), .int (hs_M S (hb_ix ka) 2), .int (hs_M S (hb_ix ka) 3), .ref (ad 8 (hb_ix ka))])) (ad 7 (hb_ix ka)) (hw_ob 8 [.int (hs_V S (hb_ix kp) 0), .int kp, .int (hs_M S (hb_ix ka) 2), .int (hs_M S (hb_ix ka) 3), .ref (ad 8 (hb_ix ka))])) (ad 7 (hb_ix ka)) (hw_ob 8 [.int (hs_V S (hb_ix kp) 0), .int kp, .int (hs_V S (hb_ix kp) 1), .int (hs_M S (hb_ix ka) 3), .ref (ad 8 (hb_ix ka))])) (ad 6 (hb_ix kp)) (hw_ob 10 [.int (hs_V S (hb_ix kp) 0), .int (nI 0), .int (hs_V S (hb_ix kp) 2), .int (hs_V S (hb_ix kp) 3), .int (hs_V S (hb_ix kp) 4)])) (ad 6 (hb_ix kp)) (hw_ob 10 [.int (hs_V S (hb_ix kp) 0), .int (nI 0), .int (hs_V S (hb_ix kp) 2), .int (hs_V S (hb_ix kp) 3), .int ka])) (ad 7 (hb_ix ka)) = hw_ob 8 [.int ((va_up (hs_M S) (hb_ix ka) (va_up (va_up (va_up (hs_M S (hb_ix ka)) 0 (hs_V S (hb_ix kp) 0)) 1 kp) 2 (hs_V S (hb_ix kp) 1))) (hb_ix ka) 0), .int ((va_up (hs_M S) (hb_ix ka) (va_up (va_up (va_up (hs_M S (hb_ix ka)) 0 (hs_V S (hb_ix kp) 0)) 1 kp) 2 (hs_V S (hb_ix kp) 1))) (hb_ix ka) 1), .int ((va_up (hs_M S) (hb_ix ka) (va_up (va_up (va_up (hs_M S (hb_ix ka)) 0 (hs_V S (hb_ix kp) 0)) 1 kp) 2 (hs_V S (hb_ix kp) 1))) (hb_ix ka) 2), .int ((va_up (hs_M S) (hb_ix ka) (va_up (va_up (va_up (hs_M S (hb_ix ka)) 0 (hs_V S (hb_ix kp) 0)) 1 kp) 2 (hs_V S (hb_ix kp) 1))) (hb_ix ka) 3), .ref (ad 8 (hb_ix ka))]
                      refine (hw_up (hw_up (hw_us _ _ _) (hP1.n (k := 7) (i := (hb_ix ka)) (k' := 6) (i' := (hb_ix kp)) hi_ka hi_kp (fun q => absurd q.1 (by decide)))) (hP1.n (k := 7) (i := (hb_ix ka)) (k' := 6) (i' := (hb_ix kp)) hi_ka hi_kp (fun q => absurd q.1 (by decide)))).trans ?_
                      first | rfl | (simp only [va_up_self]; done) | (simp only [va_up_self]; rfl)
                    show (va_up (va_up (va_up (va_up (va_up M1 (ad 7 (hb_ix ka)) (hw_ob 8 [.int (hs_V S (hb_ix kp) 0), .int (hs_M S (hb_ix ka) 1), .int (hs_M S (hb_ix ka) 2), .int (hs_M S (hb_ix ka) 3), .ref (ad 8 (hb_ix ka))])) (ad 7 (hb_ix ka)) (hw_ob 8 [.int (hs_V S (hb_ix kp) 0), .int kp, .int (hs_M S (hb_ix ka) 2), .int (hs_M S (hb_ix ka) 3), .ref (ad 8 (hb_ix ka))])) (ad 7 (hb_ix ka)) (hw_ob 8 [.int (hs_V S (hb_ix kp) 0), .int kp, .int (hs_V S (hb_ix kp) 1), .int (hs_M S (hb_ix ka) 3), .ref (ad 8 (hb_ix ka))])) (ad 6 (hb_ix kp)) (hw_ob 10 [.int (hs_V S (hb_ix kp) 0), .int (nI 0), .int (hs_V S (hb_ix kp) 2), .int (hs_V S (hb_ix kp) 3), .int (hs_V S (hb_ix kp) 4)])) (ad 6 (hb_ix kp)) (hw_ob 10 [.int (hs_V S (hb_ix kp) 0), .int (nI 0), .int (hs_V S (hb_ix kp) 2), .int (hs_V S (hb_ix kp) 3), .int ka])) (ad 7 i) = hw_ob 8 [.int ((va_up (hs_M S) (hb_ix ka) (va_up (va_up (va_up (hs_M S (hb_ix ka)) 0 (hs_V S (hb_ix kp) 0)) 1 kp) 2 (hs_V S (hb_ix kp) 1))) i 0), .int ((va_up (hs_M S) (hb_ix ka) (va_up (va_up (va_up (hs_M S (hb_ix ka)) 0 (hs_V S (hb_ix kp) 0)) 1 kp) 2 (hs_V S (hb_ix kp) 1))) i 1), .int ((va_up (hs_M S) (hb_ix ka) (va_up (va_up (va_up (hs_M S (hb_ix ka)) 0 (hs_V S (hb_ix kp) 0)) 1 kp) 2 (hs_V S (hb_ix kp) 1))) i 2), .int ((va_up (hs_M S) (hb_ix ka) (va_up (va_up (va_up (hs_M S (hb_ix ka)) 0 (hs_V S (hb_ix kp) 0)) 1 kp) 2 (hs_V S (hb_ix kp) 1))) i 3), .ref (ad 8 i)]
                    rw [va_up_ne _ _ (hP1.n (k := 7) (i := i) (k' := 6) (i' := (hb_ix kp)) hi hi_kp (fun q => absurd q.1 (by decide))), va_up_ne _ _ (hP1.n (k := 7) (i := i) (k' := 6) (i' := (hb_ix kp)) hi hi_kp (fun q => absurd q.1 (by decide))), va_up_ne _ _ (hP1.n (k := 7) (i := i) (k' := 7) (i' := (hb_ix ka)) hi hi_ka (fun q => q0 q.2)), va_up_ne _ _ (hP1.n (k := 7) (i := i) (k' := 7) (i' := (hb_ix ka)) hi hi_ka (fun q => q0 q.2)), va_up_ne _ _ (hP1.n (k := 7) (i := i) (k' := 7) (i' := (hb_ix ka)) hi hi_ka (fun q => q0 q.2))]
                    refine (hP1.m 7 i hi).trans ?_
                    first | rfl | (simp only [va_up_ne _ _ q0]; done) | (simp only [va_up_ne _ _ q0]; rfl)
                  · show (va_up (va_up (va_up (va_up (va_up M1 (ad 7 (hb_ix ka)) (hw_ob 8 [.int (hs_V S (hb_ix kp) 0), .int (hs_M S (hb_ix ka) 1), .int (hs_M S (hb_ix ka) 2), .int (hs_M S (hb_ix ka) 3), .ref (ad 8 (hb_ix ka))])) (ad 7 (hb_ix ka)) (hw_ob 8 [.int (hs_V S (hb_ix kp) 0), .int kp, .int (hs_M S (hb_ix ka) 2), .int (hs_M S (hb_ix ka) 3), .ref (ad 8 (hb_ix ka))])) (ad 7 (hb_ix ka)) (hw_ob 8 [.int (hs_V S (hb_ix kp) 0), .int kp, .int (hs_V S (hb_ix kp) 1), .int (hs_M S (hb_ix ka) 3), .ref (ad 8 (hb_ix ka))])) (ad 6 (hb_ix kp)) (hw_ob 10 [.int (hs_V S (hb_ix kp) 0), .int (nI 0), .int (hs_V S (hb_ix kp) 2), .int (hs_V S (hb_ix kp) 3), .int (hs_V S (hb_ix kp) 4)])) (ad 6 (hb_ix kp)) (hw_ob 10 [.int (hs_V S (hb_ix kp) 0), .int (nI 0), .int (hs_V S (hb_ix kp) 2), .int (hs_V S (hb_ix kp) 3), .int ka])) (ad 8 i) = hw_ob 0 [.int (hr_mc X1 (2 + i)), .ref (if hr_gr X1 i then ad 9 i else Z.2.2.2), .int (nI (hs_N S i))]
                    rw [va_up_ne _ _ (hP1.n (k := 8) (i := i) (k' := 6) (i' := (hb_ix kp)) hi hi_kp (fun q => absurd q.1 (by decide))), va_up_ne _ _ (hP1.n (k := 8) (i := i) (k' := 6) (i' := (hb_ix kp)) hi hi_kp (fun q => absurd q.1 (by decide))), va_up_ne _ _ (hP1.n (k := 8) (i := i) (k' := 7) (i' := (hb_ix ka)) hi hi_ka (fun q => absurd q.1 (by decide))), va_up_ne _ _ (hP1.n (k := 8) (i := i) (k' := 7) (i' := (hb_ix ka)) hi hi_ka (fun q => absurd q.1 (by decide))), va_up_ne _ _ (hP1.n (k := 8) (i := i) (k' := 7) (i' := (hb_ix ka)) hi hi_ka (fun q => absurd q.1 (by decide)))]
                    refine (hP1.m 8 i hi).trans ?_
                    first | rfl
                  · show (va_up (va_up (va_up (va_up (va_up M1 (ad 7 (hb_ix ka)) (hw_ob 8 [.int (hs_V S (hb_ix kp) 0), .int (hs_M S (hb_ix ka) 1), .int (hs_M S (hb_ix ka) 2), .int (hs_M S (hb_ix ka) 3), .ref (ad 8 (hb_ix ka))])) (ad 7 (hb_ix ka)) (hw_ob 8 [.int (hs_V S (hb_ix kp) 0), .int kp, .int (hs_M S (hb_ix ka) 2), .int (hs_M S (hb_ix ka) 3), .ref (ad 8 (hb_ix ka))])) (ad 7 (hb_ix ka)) (hw_ob 8 [.int (hs_V S (hb_ix kp) 0), .int kp, .int (hs_V S (hb_ix kp) 1), .int (hs_M S (hb_ix ka) 3), .ref (ad 8 (hb_ix ka))])) (ad 6 (hb_ix kp)) (hw_ob 10 [.int (hs_V S (hb_ix kp) 0), .int (nI 0), .int (hs_V S (hb_ix kp) 2), .int (hs_V S (hb_ix kp) 3), .int (hs_V S (hb_ix kp) 4)])) (ad 6 (hb_ix kp)) (hw_ob 10 [.int (hs_V S (hb_ix kp) 0), .int (nI 0), .int (hs_V S (hb_ix kp) 2), .int (hs_V S (hb_ix kp) 3), .int ka])) (ad 9 i) = hw_ar Z 7 10 (hc_f (fun j => ad 10 (i + 2 * j)) (hs_N S i))
                    rw [va_up_ne _ _ (hP1.n (k := 9) (i := i) (k' := 6) (i' := (hb_ix kp)) hi hi_kp (fun q => absurd q.1 (by decide))), va_up_ne _ _ (hP1.n (k := 9) (i := i) (k' := 6) (i' := (hb_ix kp)) hi hi_kp (fun q => absurd q.1 (by decide))), va_up_ne _ _ (hP1.n (k := 9) (i := i) (k' := 7) (i' := (hb_ix ka)) hi hi_ka (fun q => absurd q.1 (by decide))), va_up_ne _ _ (hP1.n (k := 9) (i := i) (k' := 7) (i' := (hb_ix ka)) hi hi_ka (fun q => absurd q.1 (by decide))), va_up_ne _ _ (hP1.n (k := 9) (i := i) (k' := 7) (i' := (hb_ix ka)) hi hi_ka (fun q => absurd q.1 (by decide)))]
                    refine (hP1.m 9 i hi).trans ?_
                    first | rfl
                  · show (va_up (va_up (va_up (va_up (va_up M1 (ad 7 (hb_ix ka)) (hw_ob 8 [.int (hs_V S (hb_ix kp) 0), .int (hs_M S (hb_ix ka) 1), .int (hs_M S (hb_ix ka) 2), .int (hs_M S (hb_ix ka) 3), .ref (ad 8 (hb_ix ka))])) (ad 7 (hb_ix ka)) (hw_ob 8 [.int (hs_V S (hb_ix kp) 0), .int kp, .int (hs_M S (hb_ix ka) 2), .int (hs_M S (hb_ix ka) 3), .ref (ad 8 (hb_ix ka))])) (ad 7 (hb_ix ka)) (hw_ob 8 [.int (hs_V S (hb_ix kp) 0), .int kp, .int (hs_V S (hb_ix kp) 1), .int (hs_M S (hb_ix ka) 3), .ref (ad 8 (hb_ix ka))])) (ad 6 (hb_ix kp)) (hw_ob 10 [.int (hs_V S (hb_ix kp) 0), .int (nI 0), .int (hs_V S (hb_ix kp) 2), .int (hs_V S (hb_ix kp) 3), .int (hs_V S (hb_ix kp) 4)])) (ad 6 (hb_ix kp)) (hw_ob 10 [.int (hs_V S (hb_ix kp) 0), .int (nI 0), .int (hs_V S (hb_ix kp) 2), .int (hs_V S (hb_ix kp) 3), .int ka])) (ad 10 i) = hw_ai Z 3 (hr_qq X1 (i % 2) (i / 2))
                    rw [va_up_ne _ _ (hP1.n (k := 10) (i := i) (k' := 6) (i' := (hb_ix kp)) hi hi_kp (fun q => absurd q.1 (by decide))), va_up_ne _ _ (hP1.n (k := 10) (i := i) (k' := 6) (i' := (hb_ix kp)) hi hi_kp (fun q => absurd q.1 (by decide))), va_up_ne _ _ (hP1.n (k := 10) (i := i) (k' := 7) (i' := (hb_ix ka)) hi hi_ka (fun q => absurd q.1 (by decide))), va_up_ne _ _ (hP1.n (k := 10) (i := i) (k' := 7) (i' := (hb_ix ka)) hi hi_ka (fun q => absurd q.1 (by decide))), va_up_ne _ _ (hP1.n (k := 10) (i := i) (k' := 7) (i' := (hb_ix ka)) hi hi_ka (fun q => absurd q.1 (by decide)))]
                    refine (hP1.m 10 i hi).trans ?_
                    first | rfl
                  · show (va_up (va_up (va_up (va_up (va_up M1 (ad 7 (hb_ix ka)) (hw_ob 8 [.int (hs_V S (hb_ix kp) 0), .int (hs_M S (hb_ix ka) 1), .int (hs_M S (hb_ix ka) 2), .int (hs_M S (hb_ix ka) 3), .ref (ad 8 (hb_ix ka))])) (ad 7 (hb_ix ka)) (hw_ob 8 [.int (hs_V S (hb_ix kp) 0), .int kp, .int (hs_M S (hb_ix ka) 2), .int (hs_M S (hb_ix ka) 3), .ref (ad 8 (hb_ix ka))])) (ad 7 (hb_ix ka)) (hw_ob 8 [.int (hs_V S (hb_ix kp) 0), .int kp, .int (hs_V S (hb_ix kp) 1), .int (hs_M S (hb_ix ka) 3), .ref (ad 8 (hb_ix ka))])) (ad 6 (hb_ix kp)) (hw_ob 10 [.int (hs_V S (hb_ix kp) 0), .int (nI 0), .int (hs_V S (hb_ix kp) 2), .int (hs_V S (hb_ix kp) 3), .int (hs_V S (hb_ix kp) 4)])) (ad 6 (hb_ix kp)) (hw_ob 10 [.int (hs_V S (hb_ix kp) 0), .int (nI 0), .int (hs_V S (hb_ix kp) 2), .int (hs_V S (hb_ix kp) 3), .int ka])) (ad 11 i) = hw_ar Z 7 10 (hc_f (ad 1) (hs_np S))
                    rw [va_up_ne _ _ (hP1.n (k := 11) (i := i) (k' := 6) (i' := (hb_ix kp)) hi hi_kp (fun q => absurd q.1 (by decide))), va_up_ne _ _ (hP1.n (k := 11) (i := i) (k' := 6) (i' := (hb_ix kp)) hi hi_kp (fun q => absurd q.1 (by decide))), va_up_ne _ _ (hP1.n (k := 11) (i := i) (k' := 7) (i' := (hb_ix ka)) hi hi_ka (fun q => absurd q.1 (by decide))), va_up_ne _ _ (hP1.n (k := 11) (i := i) (k' := 7) (i' := (hb_ix ka)) hi hi_ka (fun q => absurd q.1 (by decide))), va_up_ne _ _ (hP1.n (k := 11) (i := i) (k' := 7) (i' := (hb_ix ka)) hi hi_ka (fun q => absurd q.1 (by decide)))]
                    refine (hP1.m 11 i hi).trans ?_
                    first | rfl
                  · show (va_up (va_up (va_up (va_up (va_up M1 (ad 7 (hb_ix ka)) (hw_ob 8 [.int (hs_V S (hb_ix kp) 0), .int (hs_M S (hb_ix ka) 1), .int (hs_M S (hb_ix ka) 2), .int (hs_M S (hb_ix ka) 3), .ref (ad 8 (hb_ix ka))])) (ad 7 (hb_ix ka)) (hw_ob 8 [.int (hs_V S (hb_ix kp) 0), .int kp, .int (hs_M S (hb_ix ka) 2), .int (hs_M S (hb_ix ka) 3), .ref (ad 8 (hb_ix ka))])) (ad 7 (hb_ix ka)) (hw_ob 8 [.int (hs_V S (hb_ix kp) 0), .int kp, .int (hs_V S (hb_ix kp) 1), .int (hs_M S (hb_ix ka) 3), .ref (ad 8 (hb_ix ka))])) (ad 6 (hb_ix kp)) (hw_ob 10 [.int (hs_V S (hb_ix kp) 0), .int (nI 0), .int (hs_V S (hb_ix kp) 2), .int (hs_V S (hb_ix kp) 3), .int (hs_V S (hb_ix kp) 4)])) (ad 6 (hb_ix kp)) (hw_ob 10 [.int (hs_V S (hb_ix kp) 0), .int (nI 0), .int (hs_V S (hb_ix kp) 2), .int (hs_V S (hb_ix kp) 3), .int ka])) (ad 12 i) = hw_ar Z 7 10 (hc_f (ad 6) (hs_nw S))
                    rw [va_up_ne _ _ (hP1.n (k := 12) (i := i) (k' := 6) (i' := (hb_ix kp)) hi hi_kp (fun q => absurd q.1 (by decide))), va_up_ne _ _ (hP1.n (k := 12) (i := i) (k' := 6) (i' := (hb_ix kp)) hi hi_kp (fun q => absurd q.1 (by decide))), va_up_ne _ _ (hP1.n (k := 12) (i := i) (k' := 7) (i' := (hb_ix ka)) hi hi_ka (fun q => absurd q.1 (by decide))), va_up_ne _ _ (hP1.n (k := 12) (i := i) (k' := 7) (i' := (hb_ix ka)) hi hi_ka (fun q => absurd q.1 (by decide))), va_up_ne _ _ (hP1.n (k := 12) (i := i) (k' := 7) (i' := (hb_ix ka)) hi hi_ka (fun q => absurd q.1 (by decide)))]
                    refine (hP1.m 12 i hi).trans ?_
                    first | rfl
                  · exact hi.elim
                have fr_hok : ∀ a, b1 a → (va_up (va_up (va_up (va_up (va_up M1 (ad 7 (hb_ix ka)) (hw_ob 8 [.int (hs_V S (hb_ix kp) 0), .int (hs_M S (hb_ix ka) 1), .int (hs_M S (hb_ix ka) 2), .int (hs_M S (hb_ix ka) 3), .ref (ad 8 (hb_ix ka))])) (ad 7 (hb_ix ka)) (hw_ob 8 [.int (hs_V S (hb_ix kp) 0), .int kp, .int (hs_M S (hb_ix ka) 2), .int (hs_M S (hb_ix ka) 3), .ref (ad 8 (hb_ix ka))])) (ad 7 (hb_ix ka)) (hw_ob 8 [.int (hs_V S (hb_ix kp) 0), .int kp, .int (hs_V S (hb_ix kp) 1), .int (hs_M S (hb_ix ka) 3), .ref (ad 8 (hb_ix ka))])) (ad 6 (hb_ix kp)) (hw_ob 10 [.int (hs_V S (hb_ix kp) 0), .int (nI 0), .int (hs_V S (hb_ix kp) 2), .int (hs_V S (hb_ix kp) 3), .int (hs_V S (hb_ix kp) 4)])) (ad 6 (hb_ix kp)) (hw_ob 10 [.int (hs_V S (hb_ix kp) 0), .int (nI 0), .int (hs_V S (hb_ix kp) 2), .int (hs_V S (hb_ix kp) 3), .int ka])) a = M a := fun a ha => by rw [va_up_ne _ _ (hP1.f (k := 6) (i := (hb_ix kp)) hi_kp ha), va_up_ne _ _ (hP1.f (k := 6) (i := (hb_ix kp)) hi_kp ha), va_up_ne _ _ (hP1.f (k := 7) (i := (hb_ix ka)) hi_ka ha), va_up_ne _ _ (hP1.f (k := 7) (i := (hb_ix ka)) hi_ka ha), va_up_ne _ _ (hP1.f (k := 7) (i := (hb_ix ka)) hi_ka ha)]; exact fr1 a ha
                have hfin : hr_R Z b1 M ad (st_load S ka kp) (hs_V S (hb_ix kp) 1) (va_up (va_up (va_up (va_up (va_up M1 (ad 7 (hb_ix ka)) (hw_ob 8 [.int (hs_V S (hb_ix kp) 0), .int (hs_M S (hb_ix ka) 1), .int (hs_M S (hb_ix ka) 2), .int (hs_M S (hb_ix ka) 3), .ref (ad 8 (hb_ix ka))])) (ad 7 (hb_ix ka)) (hw_ob 8 [.int (hs_V S (hb_ix kp) 0), .int kp, .int (hs_M S (hb_ix ka) 2), .int (hs_M S (hb_ix ka) 3), .ref (ad 8 (hb_ix ka))])) (ad 7 (hb_ix ka)) (hw_ob 8 [.int (hs_V S (hb_ix kp) 0), .int kp, .int (hs_V S (hb_ix kp) 1), .int (hs_M S (hb_ix ka) 3), .ref (ad 8 (hb_ix ka))])) (ad 6 (hb_ix kp)) (hw_ob 10 [.int (hs_V S (hb_ix kp) 0), .int (nI 0), .int (hs_V S (hb_ix kp) 2), .int (hs_V S (hb_ix kp) 3), .int (hs_V S (hb_ix kp) 4)])) (ad 6 (hb_ix kp)) (hw_ob 10 [.int (hs_V S (hb_ix kp) 0), .int (nI 0), .int (hs_V S (hb_ix kp) 2), .int (hs_V S (hb_ix kp) 3), .int ka])) := hr_r (S' := hs_sV (hs_sM S (hb_ix ka) (va_up (va_up (va_up (hs_M S (hb_ix ka)) 0 (hs_V S (hb_ix kp) 0)) 1 kp) 2 (hs_V S (hb_ix kp) 1))) (hb_ix kp) (va_up (va_up (hs_V S (hb_ix kp)) 1 0) 4 ka)) (X' := X1) (ad' := ad) (by unfold st_load; exact ((if_neg (fun q => q ⟨gk, gk2⟩)).trans ((if_neg (fun q => q.elim (fun q => q c53) (fun q => q.elim (fun q => q c62) c70))).trans ((if_neg (fun q => q.1 c84)).trans ((if_neg (Int32.not_lt.mpr c108)).trans rfl))))) rfl hok ht1 fr_hok
                exact hret hI hfin (Nat.le_of_ble_eq_true rfl) (Nat.le_of_ble_eq_true rfl) dX11_load_153
              · refine lv_bipush (v := (-3)) hx hb dX11_load_111 (by decide) ?_
                have hok : hr_ok Z b1 (M1) ad (S) (X1) := by
                  refine hr_old hP1 (fun _ _ hi => hi) ?_ hP1.q hP1.g
                  intro k i hi
                  rcases k with _ | _ | _ | _ | _ | _ | _ | _ | _ | _ | _ | _ | _ | k
                  · rcases (show i = 0 ∨ i = 1 ∨ i = 2 ∨ i = 3 by have h4 : i < 4 := hi; omega) with rfl | rfl | rfl | rfl
                    · show (M1) (ad 0 0) = hw_ob 12 [.int (hr_th X1), .int (hs_G S 0), .int (hs_G S 1), .ref (ad 0 2), .ref (ad 0 3), .ref (ad 0 1)]
                      refine (hP1.m 0 0 (show 0 < 4 by decide)).trans ?_
                      first | rfl | (simp only [va_up_self]; done) | (simp only [va_up_self]; rfl)
                    · show (M1) (ad 0 1) = hw_ar Z 6 2 (fun j => some (ad 7 j))
                      refine (hP1.m 0 1 (show 1 < 4 by decide)).trans ?_
                      first | rfl | (simp only [va_up_self]; done) | (simp only [va_up_self]; rfl)
                    · show (M1) (ad 0 2) = hw_ob 0 [.int (hr_mc X1 0), .ref (hr_d (hs_np S) Z.2.2.2 (ad 11 0)), .int (nI (hs_np S))]
                      refine (hP1.m 0 2 (show 2 < 4 by decide)).trans ?_
                      first | rfl | (simp only [va_up_self]; done) | (simp only [va_up_self]; rfl)
                    · show (M1) (ad 0 3) = hw_ob 0 [.int (hr_mc X1 1), .ref (hr_d (hs_nw S) Z.2.2.2 (ad 12 0)), .int (nI (hs_nw S))]
                      refine (hP1.m 0 3 (show 3 < 4 by decide)).trans ?_
                      first | rfl | (simp only [va_up_self]; done) | (simp only [va_up_self]; rfl)
                  · show (M1) (ad 1 i) = hw_ob 9 [.ref (ad 2 i), .int (hs_P S i 0), .ref (ad 4 i), .int (hs_P S i 3), .int (hs_P S i 4), .int (hs_P S i 5), .int (hs_P S i 6), .int (hs_P S i 7), .int (hs_P S i 8)]
                    refine (hP1.m 1 i hi).trans ?_
                    first | rfl
                  · show (M1) (ad 2 i) = hw_ob 11 [.ref (ad 3 i)]
                    refine (hP1.m 2 i hi).trans ?_
                    first | rfl
                  · show (M1) (ad 3 i) = hw_al Z 8 (hs_C S i)
                    refine (hP1.m 3 i hi).trans ?_
                    first | rfl
                  · show (M1) (ad 4 i) = hw_ob 7 [.double (hr_en (hs_P S i)), .ref (ad 5 i), .double (hs_U S i), .int (hs_P S i 1), .int (hs_P S i 2), .int (nI (hs_D S i))]
                    refine (hP1.m 4 i hi).trans ?_
                    first | rfl
                  · show (M1) (ad 5 i) = hw_ad Z 64 (hs_W S i)
                    refine (hP1.m 5 i hi).trans ?_
                    first | rfl
                  · show (M1) (ad 6 i) = hw_ob 10 [.int (hs_V S i 0), .int (hs_V S i 1), .int (hs_V S i 2), .int (hs_V S i 3), .int (hs_V S i 4)]
                    refine (hP1.m 6 i hi).trans ?_
                    first | rfl
                  · show (M1) (ad 7 i) = hw_ob 8 [.int (hs_M S i 0), .int (hs_M S i 1), .int (hs_M S i 2), .int (hs_M S i 3), .ref (ad 8 i)]
                    refine (hP1.m 7 i hi).trans ?_
                    first | rfl
                  · show (M1) (ad 8 i) = hw_ob 0 [.int (hr_mc X1 (2 + i)), .ref (if hr_gr X1 i then ad 9 i else Z.2.2.2), .int (nI (hs_N S i))]
                    refine (hP1.m 8 i hi).trans ?_
                    first | rfl
                  · show (M1) (ad 9 i) = hw_ar Z 7 10 (hc_f (fun j => ad 10 (i + 2 * j)) (hs_N S i))
                    refine (hP1.m 9 i hi).trans ?_
                    first | rfl
                  · show (M1) (ad 10 i) = hw_ai Z 3 (hr_qq X1 (i % 2) (i / 2))
                    refine (hP1.m 10 i hi).trans ?_
                    first | rfl
                  · show (M1) (ad 11 i) = hw_ar Z 7 10 (hc_f (ad 1) (hs_np S))
                    refine (hP1.m 11 i hi).trans ?_
                    first | rfl
                  · show (M1) (ad 12 i) = hw_ar Z 7 10 (hc_f (ad 6) (hs_nw S))
                    refine (hP1.m 12 i hi).trans ?_
                    first | rfl
                  · exact hi.elim
                have fr_hok : ∀ a, b1 a → (M1) a = M a := fun a ha => fr1 a ha
                have hfin : hr_R Z b1 M ad (st_load S ka kp) ((-3)) (M1) := hr_r (S' := S) (X' := X1) (ad' := ad) (by unfold st_load; exact ((if_neg (fun q => q ⟨gk, gk2⟩)).trans ((if_neg (fun q => q.elim (fun q => q c53) (fun q => q.elim (fun q => q c62) c70))).trans ((if_neg (fun q => q.1 c84)).trans (if_pos (Int32.not_le.mp c108)))))) rfl hok ht1 fr_hok
                exact hret hI hfin (Nat.le_of_ble_eq_true rfl) (Nat.le_of_ble_eq_true rfl) dX11_load_113
            · refine lv_aload_n hx hb dX11_load_87 rfl (lv_at hl 1 rfl) ?_
              refine hw_get hx hb hts hown hk hI fd_X11_121 e7_hb_ix_kahP1 rfl dX11_load_88 ?_
              refine lv_aload hx hb dX11_load_91 (lv_at hl 0 rfl) ?_
              refine hw_get hx hb hts hown hk hI fd_X11_94 e6_hb_ix_kphP1 rfl dX11_load_93 ?_
              refine lv_icmp_eq (tgt := 102) hx hb dX11_load_96 (by decide) (fun c96 => ?_) (fun c96 => ?_)
              · refine lv_aload hx hb dX11_load_102 (lv_at hl 0 rfl) ?_
                refine hw_get hx hb hts hown hk hI fd_X11_103 e6_hb_ix_kphP1 rfl dX11_load_104 ?_
                refine lv_iconst (v := nI 4) hx hb dX11_load_107 (by decide) ?_
                refine lv_icmp_le (tgt := 114) hx hb dX11_load_108 (by decide) (fun c108 => ?_) (fun c108 => ?_)
                · refine lv_aload_n hx hb dX11_load_114 rfl (lv_at hl 1 rfl) ?_
                  refine lv_aload hx hb dX11_load_115 (lv_at hl 0 rfl) ?_
                  refine hw_get hx hb hts hown hk hI fd_X11_94 e6_hb_ix_kphP1 rfl dX11_load_117 ?_
                  refine hw_put (fs' := [.int (hs_V S (hb_ix kp) 0), .int (hs_M S (hb_ix ka) 1), .int (hs_M S (hb_ix ka) 2), .int (hs_M S (hb_ix ka) 3), .ref (ad 8 (hb_ix ka))]) hx hb hts hown hk hI fp_X11_121 e7_hb_ix_kahP1 (Nat.le_of_ble_eq_true rfl) rfl rfl rfl dX11_load_120 (fun H locs hI => ?_)
                  refine lv_aload_n hx hb dX11_load_123 rfl (lv_at hl 1 rfl) ?_
                  refine lv_iload_n hx hb dX11_load_124 rfl (lv_at hl 4 rfl) ?_
                  refine hw_put (fs' := [.int (hs_V S (hb_ix kp) 0), .int kp, .int (hs_M S (hb_ix ka) 2), .int (hs_M S (hb_ix ka) 3), .ref (ad 8 (hb_ix ka))]) hx hb hts hown hk hI fp_X11_118 (hw_us _ _ _) (Nat.le_of_ble_eq_true rfl) rfl rfl rfl dX11_load_125 (fun H locs hI => ?_)
                  refine lv_aload_n hx hb dX11_load_128 rfl (lv_at hl 1 rfl) ?_
                  refine lv_aload hx hb dX11_load_129 (lv_at hl 0 rfl) ?_
                  refine hw_get hx hb hts hown hk hI fd_X11_100 (hw_up (hw_up e6_hb_ix_kphP1 (hP1.n (k := 6) (i := (hb_ix kp)) (k' := 7) (i' := (hb_ix ka)) hi_kp hi_ka (fun q => absurd q.1 (by decide)))) (hP1.n (k := 6) (i := (hb_ix kp)) (k' := 7) (i' := (hb_ix ka)) hi_kp hi_ka (fun q => absurd q.1 (by decide)))) rfl dX11_load_131 ?_
                  refine hw_put (fs' := [.int (hs_V S (hb_ix kp) 0), .int kp, .int (hs_V S (hb_ix kp) 1), .int (hs_M S (hb_ix ka) 3), .ref (ad 8 (hb_ix ka))]) hx hb hts hown hk hI fp_X11_124 (hw_us _ _ _) (Nat.le_of_ble_eq_true rfl) rfl rfl rfl dX11_load_134 (fun H locs hI => ?_)
                  refine lv_aload hx hb dX11_load_137 (lv_at hl 0 rfl) ?_
                  refine lv_iconst (v := nI 0) hx hb dX11_load_139 (by decide) ?_
                  refine hw_put (fs' := [.int (hs_V S (hb_ix kp) 0), .int (nI 0), .int (hs_V S (hb_ix kp) 2), .int (hs_V S (hb_ix kp) 3), .int (hs_V S (hb_ix kp) 4)]) hx hb hts hown hk hI fp_X11_100 (hw_up (hw_up (hw_up e6_hb_ix_kphP1 (hP1.n (k := 6) (i := (hb_ix kp)) (k' := 7) (i' := (hb_ix ka)) hi_kp hi_ka (fun q => absurd q.1 (by decide)))) (hP1.n (k := 6) (i := (hb_ix kp)) (k' := 7) (i' := (hb_ix ka)) hi_kp hi_ka (fun q => absurd q.1 (by decide)))) (hP1.n (k := 6) (i := (hb_ix kp)) (k' := 7) (i' := (hb_ix ka)) hi_kp hi_ka (fun q => absurd q.1 (by decide)))) (Nat.le_of_ble_eq_true rfl) rfl rfl rfl dX11_load_140 (fun H locs hI => ?_)
                  refine lv_aload hx hb dX11_load_143 (lv_at hl 0 rfl) ?_
                  refine lv_iload_n hx hb dX11_load_145 rfl (lv_at hl 3 rfl) ?_
                  refine hw_put (fs' := [.int (hs_V S (hb_ix kp) 0), .int (nI 0), .int (hs_V S (hb_ix kp) 2), .int (hs_V S (hb_ix kp) 3), .int ka]) hx hb hts hown hk hI fp_X11_97 (hw_us _ _ _) (Nat.le_of_ble_eq_true rfl) rfl rfl rfl dX11_load_146 (fun H locs hI => ?_)
                  refine lv_aload_n hx hb dX11_load_149 rfl (lv_at hl 1 rfl) ?_
                  refine hw_get hx hb hts hown hk hI fd_X11_124 (hw_up (hw_up (hw_us _ _ _) (hP1.n (k := 7) (i := (hb_ix ka)) (k' := 6) (i' := (hb_ix kp)) hi_ka hi_kp (fun q => absurd q.1 (by decide)))) (hP1.n (k := 7) (i := (hb_ix ka)) (k' := 6) (i' := (hb_ix kp)) hi_ka hi_kp (fun q => absurd q.1 (by decide)))) rfl dX11_load_150 ?_
                  have hok : hr_ok Z b1 (va_up (va_up (va_up (va_up (va_up M1 (ad 7 (hb_ix ka)) (hw_ob 8 [.int (hs_V S (hb_ix kp) 0), .int (hs_M S (hb_ix ka) 1), .int (hs_M S (hb_ix ka) 2), .int (hs_M S (hb_ix ka) 3), .ref (ad 8 (hb_ix ka))])) (ad 7 (hb_ix ka)) (hw_ob 8 [.int (hs_V S (hb_ix kp) 0), .int kp, .int (hs_M S (hb_ix ka) 2), .int (hs_M S (hb_ix ka) 3), .ref (ad 8 (hb_ix ka))])) (ad 7 (hb_ix ka)) (hw_ob 8 [.int (hs_V S (hb_ix kp) 0), .int kp, .int (hs_V S (hb_ix kp) 1), .int (hs_M S (hb_ix ka) 3), .ref (ad 8 (hb_ix ka))])) (ad 6 (hb_ix kp)) (hw_ob 10 [.int (hs_V S (hb_ix kp) 0), .int (nI 0), .int (hs_V S (hb_ix kp) 2), .int (hs_V S (hb_ix kp) 3), .int (hs_V S (hb_ix kp) 4)])) (ad 6 (hb_ix kp)) (hw_ob 10 [.int (hs_V S (hb_ix kp) 0), .int (nI 0), .int (hs_V S (hb_ix kp) 2), .int (hs_V S (hb_ix kp) 3), .int ka])) ad (hs_sV (hs_sM S (hb_ix ka) (va_up (va_up (va_up (hs_M S (hb_ix ka)) 0 (hs_V S (hb_ix kp) 0)) 1 kp) 2 (hs_V S (hb_ix kp) 1))) (hb_ix kp) (va_up (va_up (hs_V S (hb_ix kp)) 1 0) 4 ka)) (X1) := by
                    refine hr_old hP1 (fun _ _ hi => hi) ?_ hP1.q hP1.g
                    intro k i hi
                    rcases k with _ | _ | _ | _ | _ | _ | _ | _ | _ | _ | _ | _ | _ | k
                    · rcases (show i = 0 ∨ i = 1 ∨ i = 2 ∨ i = 3 by have h4 : i < 4 := hi; omega) with rfl | rfl | rfl | rfl
                      · show (va_up (va_up (va_up (va_up (va_up M1 (ad 7 (hb_ix ka)) (hw_ob 8 [.int (hs_V S (hb_ix kp) 0), .int (hs_M S (hb_ix ka) 1), .int (hs_M S (hb_ix ka) 2), .int (hs_M S (hb_ix ka) 3), .ref (ad 8 (hb_ix ka))])) (ad 7 (hb_ix ka)) (hw_ob 8 [.int (hs_V S (hb_ix kp) 0), .int kp, .int (hs_M S (hb_ix ka) 2), .int (hs_M S (hb_ix ka) 3), .ref (ad 8 (hb_ix ka))])) (ad 7 (hb_ix ka)) (hw_ob 8 [.int (hs_V S (hb_ix kp) 0), .int kp, .int (hs_V S (hb_ix kp) 1), .int (hs_M S (hb_ix ka) 3), .ref (ad 8 (hb_ix ka))])) (ad 6 (hb_ix kp)) (hw_ob 10 [.int (hs_V S (hb_ix kp) 0), .int (nI 0), .int (hs_V S (hb_ix kp) 2), .int (hs_V S (hb_ix kp) 3), .int (hs_V S (hb_ix kp) 4)])) (ad 6 (hb_ix kp)) (hw_ob 10 [.int (hs_V S (hb_ix kp) 0), .int (nI 0), .int (hs_V S (hb_ix kp) 2), .int (hs_V S (hb_ix kp) 3), .int ka])) (ad 0 0) = hw_ob 12 [.int (hr_th X1), .int (hs_G S 0), .int (hs_G S 1), .ref (ad 0 2), .ref (ad 0 3), .ref (ad 0 1)]
                        rw [va_up_ne _ _ (hP1.n (k := 0) (i := 0) (k' := 6) (i' := (hb_ix kp)) (show 0 < 4 by decide) hi_kp (fun q => absurd q.1 (by decide))), va_up_ne _ _ (hP1.n (k := 0) (i := 0) (k' := 6) (i' := (hb_ix kp)) (show 0 < 4 by decide) hi_kp (fun q => absurd q.1 (by decide))), va_up_ne _ _ (hP1.n (k := 0) (i := 0) (k' := 7) (i' := (hb_ix ka)) (show 0 < 4 by decide) hi_ka (fun q => absurd q.1 (by decide))), va_up_ne _ _ (hP1.n (k := 0) (i := 0) (k' := 7) (i' := (hb_ix ka)) (show 0 < 4 by decide) hi_ka (fun q => absurd q.1 (by decide))), va_up_ne _ _ (hP1.n (k := 0) (i := 0) (k' := 7) (i' := (hb_ix ka)) (show 0 < 4 by decide) hi_ka (fun q => absurd q.1 (by decide)))]
                        refine (hP1.m 0 0 (show 0 < 4 by decide)).trans ?_
                        first | rfl | (simp only [va_up_self]; done) | (simp only [va_up_self]; rfl)
                      · show (va_up (va_up (va_up (va_up (va_up M1 (ad 7 (hb_ix ka)) (hw_ob 8 [.int (hs_V S (hb_ix kp) 0), .int (hs_M S (hb_ix ka) 1), .int (hs_M S (hb_ix ka) 2), .int (hs_M S (hb_ix ka) 3), .ref (ad 8 (hb_ix ka))])) (ad 7 (hb_ix ka)) (hw_ob 8 [.int (hs_V S (hb_ix kp) 0), .int kp, .int (hs_M S (hb_ix ka) 2), .int (hs_M S (hb_ix ka) 3), .ref (ad 8 (hb_ix ka))])) (ad 7 (hb_ix ka)) (hw_ob 8 [.int (hs_V S (hb_ix kp) 0), .int kp, .int (hs_V S (hb_ix kp) 1), .int (hs_M S (hb_ix ka) 3), .ref (ad 8 (hb_ix ka))])) (ad 6 (hb_ix kp)) (hw_ob 10 [.int (hs_V S (hb_ix kp) 0), .int (nI 0), .int (hs_V S (hb_ix kp) 2), .int (hs_V S (hb_ix kp) 3), .int (hs_V S (hb_ix kp) 4)])) (ad 6 (hb_ix kp)) (hw_ob 10 [.int (hs_V S (hb_ix kp) 0), .int (nI 0), .int (hs_V S (hb_ix kp) 2), .int (hs_V S (hb_ix kp) 3), .int ka])) (ad 0 1) = hw_ar Z 6 2 (fun j => some (ad 7 j))
                        rw [va_up_ne _ _ (hP1.n (k := 0) (i := 1) (k' := 6) (i' := (hb_ix kp)) (show 1 < 4 by decide) hi_kp (fun q => absurd q.1 (by decide))), va_up_ne _ _ (hP1.n (k := 0) (i := 1) (k' := 6) (i' := (hb_ix kp)) (show 1 < 4 by decide) hi_kp (fun q => absurd q.1 (by decide))), va_up_ne _ _ (hP1.n (k := 0) (i := 1) (k' := 7) (i' := (hb_ix ka)) (show 1 < 4 by decide) hi_ka (fun q => absurd q.1 (by decide))), va_up_ne _ _ (hP1.n (k := 0) (i := 1) (k' := 7) (i' := (hb_ix ka)) (show 1 < 4 by decide) hi_ka (fun q => absurd q.1 (by decide))), va_up_ne _ _ (hP1.n (k := 0) (i := 1) (k' := 7) (i' := (hb_ix ka)) (show 1 < 4 by decide) hi_ka (fun q => absurd q.1 (by decide)))]
                        refine (hP1.m 0 1 (show 1 < 4 by decide)).trans ?_
                        first | rfl | (simp only [va_up_self]; done) | (simp only [va_up_self]; rfl)
                      · show (va_up (va_up (va_up (va_up (va_up M1 (ad 7 (hb_ix ka)) (hw_ob 8 [.int (hs_V S (hb_ix kp) 0), .int (hs_M S (hb_ix ka) 1), .int (hs_M S (hb_ix ka) 2), .int (hs_M S (hb_ix ka) 3), .ref (ad 8 (hb_ix ka))])) (ad 7 (hb_ix ka)) (hw_ob 8 [.int (hs_V S (hb_ix kp) 0), .int kp, .int (hs_M S (hb_ix ka) 2), .int (hs_M S (hb_ix ka) 3), .ref (ad 8 (hb_ix ka))])) (ad 7 (hb_ix ka)) (hw_ob 8 [.int (hs_V S (hb_ix kp) 0), .int kp, .int (hs_V S (hb_ix kp) 1), .int (hs_M S (hb_ix ka) 3), .ref (ad 8 (hb_ix ka))])) (ad 6 (hb_ix kp)) (hw_ob 10 [.int (hs_V S (hb_ix kp) 0), .int (nI 0), .int (hs_V S (hb_ix kp) 2), .int (hs_V S (hb_ix kp) 3), .int (hs_V S (hb_ix kp) 4)])) (ad 6 (hb_ix kp)) (hw_ob 10 [.int (hs_V S (hb_ix kp) 0), .int (nI 0), .int (hs_V S (hb_ix kp) 2), .int (hs_V S (hb_ix kp) 3), .int ka])) (ad 0 2) = hw_ob 0 [.int (hr_mc X1 0), .ref (hr_d (hs_np S) Z.2.2.2 (ad 11 0)), .int (nI (hs_np S))]
                        rw [va_up_ne _ _ (hP1.n (k := 0) (i := 2) (k' := 6) (i' := (hb_ix kp)) (show 2 < 4 by decide) hi_kp (fun q => absurd q.1 (by decide))), va_up_ne _ _ (hP1.n (k := 0) (i := 2) (k' := 6) (i' := (hb_ix kp)) (show 2 < 4 by decide) hi_kp (fun q => absurd q.1 (by decide))), va_up_ne _ _ (hP1.n (k := 0) (i := 2) (k' := 7) (i' := (hb_ix ka)) (show 2 < 4 by decide) hi_ka (fun q => absurd q.1 (by decide))), va_up_ne _ _ (hP1.n (k := 0) (i := 2) (k' := 7) (i' := (hb_ix ka)) (show 2 < 4 by decide) hi_ka (fun q => absurd q.1 (by decide))), va_up_ne _ _ (hP1.n (k := 0) (i := 2) (k' := 7) (i' := (hb_ix ka)) (show 2 < 4 by decide) hi_ka (fun q => absurd q.1 (by decide)))]
                        refine (hP1.m 0 2 (show 2 < 4 by decide)).trans ?_
                        first | rfl | (simp only [va_up_self]; done) | (simp only [va_up_self]; rfl)
                      · show (va_up (va_up (va_up (va_up (va_up M1 (ad 7 (hb_ix ka)) (hw_ob 8 [.int (hs_V S (hb_ix kp) 0), .int (hs_M S (hb_ix ka) 1), .int (hs_M S (hb_ix ka) 2), .int (hs_M S (hb_ix ka) 3), .ref (ad 8 (hb_ix ka))])) (ad 7 (hb_ix ka)) (hw_ob 8 [.int (hs_V S (hb_ix kp) 0), .int kp, .int (hs_M S (hb_ix ka) 2), .int (hs_M S (hb_ix ka) 3), .ref (ad 8 (hb_ix ka))])) (ad 7 (hb_ix ka)) (hw_ob 8 [.int (hs_V S (hb_ix kp) 0), .int kp, .int (hs_V S (hb_ix kp) 1), .int (hs_M S (hb_ix ka) 3), .ref (ad 8 (hb_ix ka))])) (ad 6 (hb_ix kp)) (hw_ob 10 [.int (hs_V S (hb_ix kp) 0), .int (nI 0), .int (hs_V S (hb_ix kp) 2), .int (hs_V S (hb_ix kp) 3), .int (hs_V S (hb_ix kp) 4)])) (ad 6 (hb_ix kp)) (hw_ob 10 [.int (hs_V S (hb_ix kp) 0), .int (nI 0), .int (hs_V S (hb_ix kp) 2), .int (hs_V S (hb_ix kp) 3), .int ka])) (ad 0 3) = hw_ob 0 [.int (hr_mc X1 1), .ref (hr_d (hs_nw S) Z.2.2.2 (ad 12 0)), .int (nI (hs_nw S))]
                        rw [va_up_ne _ _ (hP1.n (k := 0) (i := 3) (k' := 6) (i' := (hb_ix kp)) (show 3 < 4 by decide) hi_kp (fun q => absurd q.1 (by decide))), va_up_ne _ _ (hP1.n (k := 0) (i := 3) (k' := 6) (i' := (hb_ix kp)) (show 3 < 4 by decide) hi_kp (fun q => absurd q.1 (by decide))), va_up_ne _ _ (hP1.n (k := 0) (i := 3) (k' := 7) (i' := (hb_ix ka)) (show 3 < 4 by decide) hi_ka (fun q => absurd q.1 (by decide))), va_up_ne _ _ (hP1.n (k := 0) (i := 3) (k' := 7) (i' := (hb_ix ka)) (show 3 < 4 by decide) hi_ka (fun q => absurd q.1 (by decide))), va_up_ne _ _ (hP1.n (k := 0) (i := 3) (k' := 7) (i' := (hb_ix ka)) (show 3 < 4 by decide) hi_ka (fun q => absurd q.1 (by decide)))]
                        refine (hP1.m 0 3 (show 3 < 4 by decide)).trans ?_
                        first | rfl | (simp only [va_up_self]; done) | (simp only [va_up_self]; rfl)
                    · show (va_up (va_up (va_up (va_up (va_up M1 (ad 7 (hb_ix ka)) (hw_ob 8 [.int (hs_V S (hb_ix kp) 0), .int (hs_M S (hb_ix ka) 1), .int (hs_M S (hb_ix ka) 2), .int (hs_M S (hb_ix ka) 3), .ref (ad 8 (hb_ix ka))])) (ad 7 (hb_ix ka)) (hw_ob 8 [.int (hs_V S (hb_ix kp) 0), .int kp, .int (hs_M S (hb_ix ka) 2), .int (hs_M S (hb_ix ka) 3), .ref (ad 8 (hb_ix ka))])) (ad 7 (hb_ix ka)) (hw_ob 8 [.int (hs_V S (hb_ix kp) 0), .int kp, .int (hs_V S (hb_ix kp) 1), .int (hs_M S (hb_ix ka) 3), .ref (ad 8 (hb_ix ka))])) (ad 6 (hb_ix kp)) (hw_ob 10 [.int (hs_V S (hb_ix kp) 0), .int (nI 0), .int (hs_V S (hb_ix kp) 2), .int (hs_V S (hb_ix kp) 3), .int (hs_V S (hb_ix kp) 4)])) (ad 6 (hb_ix kp)) (hw_ob 10 [.int (hs_V S (hb_ix kp) 0), .int (nI 0), .int (hs_V S (hb_ix kp) 2), .int (hs_V S (hb_ix kp) 3), .int ka])) (ad 1 i) = hw_ob 9 [.ref (ad 2 i), .int (hs_P S i 0), .ref (ad 4 i), .int (hs_P S i 3), .int (hs_P S i 4), .int (hs_P S i 5), .int (hs_P S i 6), .int (hs_P S i 7), .int (hs_P S i 8)]
                      rw [va_up_ne _ _ (hP1.n (k := 1) (i := i) (k' := 6) (i' := (hb_ix kp)) hi hi_kp (fun q => absurd q.1 (by decide))), va_up_ne _ _ (hP1.n (k := 1) (i := i) (k' := 6) (i' := (hb_ix kp)) hi hi_kp (fun q => absurd q.1 (by decide))), va_up_ne _ _ (hP1.n (k := 1) (i := i) (k' := 7) (i' := (hb_ix ka)) hi hi_ka (fun q => absurd q.1 (by decide))), va_up_ne _ _ (hP1.n (k := 1) (i := i) (k' := 7) (i' := (hb_ix ka)) hi hi_ka (fun q => absurd q.1 (by decide))), va_up_ne _ _ (hP1.n (k := 1) (i := i) (k' := 7) (i' := (hb_ix ka)) hi hi_ka (fun q => absurd q.1 (by decide)))]
                      refine (hP1.m 1 i hi).trans ?_
                      first | rfl
                    · show (va_up (va_up (va_up (va_up (va_up M1 (ad 7 (hb_ix ka)) (hw_ob 8 [.int (hs_V S (hb_ix kp) 0), .int (hs_M S (hb_ix ka) 1), .int (hs_M S (hb_ix ka) 2), .int (hs_M S (hb_ix ka) 3), .ref (ad 8 (hb_ix ka))])) (ad 7 (hb_ix ka)) (hw_ob 8 [.int (hs_V S (hb_ix kp) 0), .int kp, .int (hs_M S (hb_ix ka) 2), .int (hs_M S (hb_ix ka) 3), .ref (ad 8 (hb_ix ka))])) (ad 7 (hb_ix ka)) (hw_ob 8 [.int (hs_V S (hb_ix kp) 0), .int kp, .int (hs_V S (hb_ix kp) 1), .int (hs_M S (hb_ix ka) 3), .ref (ad 8 (hb_ix ka))])) (ad 6 (hb_ix kp)) (hw_ob 10 [.int (hs_V S (hb_ix kp) 0), .int (nI 0), .int (hs_V S (hb_ix kp) 2), .int (hs_V S (hb_ix kp) 3), .int (hs_V S (hb_ix kp) 4)])) (ad 6 (hb_ix kp)) (hw_ob 10 [.int (hs_V S (hb_ix kp) 0), .int (nI 0), .int (hs_V S (hb_ix kp) 2), .int (hs_V S (hb_ix kp) 3), .int ka])) (ad 2 i) = hw_ob 11 [.ref (ad 3 i)]
                      rw [va_up_ne _ _ (hP1.n (k := 2) (i := i) (k' := 6) (i' := (hb_ix kp)) hi hi_kp (fun q => absurd q.1 (by decide))), va_up_ne _ _ (hP1.n (k := 2) (i := i) (k' := 6) (i' := (hb_ix kp)) hi hi_kp (fun q => absurd q.1 (by decide))), va_up_ne _ _ (hP1.n (k := 2) (i := i) (k' := 7) (i' := (hb_ix ka)) hi hi_ka (fun q => absurd q.1 (by decide))), va_up_ne _ _ (hP1.n (k := 2) (i := i) (k' := 7) (i' := (hb_ix ka)) hi hi_ka (fun q => absurd q.1 (by decide))), va_up_ne _ _ (hP1.n (k := 2) (i := i) (k' := 7) (i' := (hb_ix ka)) hi hi_ka (fun q => absurd q.1 (by decide)))]
                      refine (hP1.m 2 i hi).trans ?_
                      first | rfl
                    · show (va_up (va_up (va_up (va_up (va_up M1 (ad 7 (hb_ix ka)) (hw_ob 8 [.int (hs_V S (hb_ix kp) 0), .int (hs_M S (hb_ix ka) 1), .int (hs_M S (hb_ix ka) 2), .int (hs_M S (hb_ix ka) 3), .ref (ad 8 (hb_ix ka))])) (ad 7 (hb_ix ka)) (hw_ob 8 [.int (hs_V S (hb_ix kp) 0), .int kp, .int (hs_M S (hb_ix ka) 2), .int (hs_M S (hb_ix ka) 3), .ref (ad 8 (hb_ix ka))])) (ad 7 (hb_ix ka)) (hw_ob 8 [.int (hs_V S (hb_ix kp) 0), .int kp, .int (hs_V S (hb_ix kp) 1), .int (hs_M S (hb_ix ka) 3), .ref (ad 8 (hb_ix ka))])) (ad 6 (hb_ix kp)) (hw_ob 10 [.int (hs_V S (hb_ix kp) 0), .int (nI 0), .int (hs_V S (hb_ix kp) 2), .int (hs_V S (hb_ix kp) 3), .int (hs_V S (hb_ix kp) 4)])) (ad 6 (hb_ix kp)) (hw_ob 10 [.int (hs_V S (hb_ix kp) 0), .int (nI 0), .int (hs_V S (hb_ix kp) 2), .int (hs_V S (hb_ix kp) 3), .int ka])) (ad 3 i) = hw_al Z 8 (hs_C S i)
                      rw [va_up_ne _ _ (hP1.n (k := 3) (i := i) (k' := 6) (i' := (hb_ix kp)) hi hi_kp (fun q => absurd q.1 (by decide))), va_up_ne _ _ (hP1.n (k := 3) (i := i) (k' := 6) (i' := (hb_ix kp)) hi hi_kp (fun q => absurd q.1 (by decide))), va_up_ne _ _ (hP1.n (k := 3) (i := i) (k' := 7) (i' := (hb_ix ka)) hi hi_ka (fun q => absurd q.1 (by decide))), va_up_ne _ _ (hP1.n (k := 3) (i := i) (k' := 7) (i' := (hb_ix ka)) hi hi_ka (fun q => absurd q.1 (by decide))), va_up_ne _ _ (hP1.n (k := 3) (i := i) (k' := 7) (i' := (hb_ix ka)) hi hi_ka (fun q => absurd q.1 (by decide)))]
                      refine (hP1.m 3 i hi).trans ?_
                      first | rfl
                    · show (va_up (va_up (va_up (va_up (va_up M1 (ad 7 (hb_ix ka)) (hw_ob 8 [.int (hs_V S (hb_ix kp) 0), .int (hs_M S (hb_ix ka) 1), .int (hs_M S (hb_ix ka) 2), .int (hs_M S (hb_ix ka) 3), .ref (ad 8 (hb_ix ka))])) (ad 7 (hb_ix ka)) (hw_ob 8 [.int (hs_V S (hb_ix kp) 0), .int kp, .int (hs_M S (hb_ix ka) 2), .int (hs_M S (hb_ix ka) 3), .ref (ad 8 (hb_ix ka))])) (ad 7 (hb_ix ka)) (hw_ob 8 [.int (hs_V S (hb_ix kp) 0), .int kp, .int (hs_V S (hb_ix kp) 1), .int (hs_M S (hb_ix ka) 3), .ref (ad 8 (hb_ix ka))])) (ad 6 (hb_ix kp)) (hw_ob 10 [.int (hs_V S (hb_ix kp) 0), .int (nI 0), .int (hs_V S (hb_ix kp) 2), .int (hs_V S (hb_ix kp) 3), .int (hs_V S (hb_ix kp) 4)])) (ad 6 (hb_ix kp)) (hw_ob 10 [.int (hs_V S (hb_ix kp) 0), .int (nI 0), .int (hs_V S (hb_ix kp) 2), .int (hs_V S (hb_ix kp) 3), .int ka])) (ad 4 i) = hw_ob 7 [.double (hr_en (hs_P S i)), .ref (ad 5 i), .double (hs_U S i), .int (hs_P S i 1), .int (hs_P S i 2), .int (nI (hs_D S i))]
                      rw [va_up_ne _ _ (hP1.n (k := 4) (i := i) (k' := 6) (i' := (hb_ix kp)) hi hi_kp (fun q => absurd q.1 (by decide))), va_up_ne _ _ (hP1.n (k := 4) (i := i) (k' := 6) (i' := (hb_ix kp)) hi hi_kp (fun q => absurd q.1 (by decide))), va_up_ne _ _ (hP1.n (k := 4) (i := i) (k' := 7) (i' := (hb_ix ka)) hi hi_ka (fun q => absurd q.1 (by decide))), va_up_ne _ _ (hP1.n (k := 4) (i := i) (k' := 7) (i' := (hb_ix ka)) hi hi_ka (fun q => absurd q.1 (by decide))), va_up_ne _ _ (hP1.n (k := 4) (i := i) (k' := 7) (i' := (hb_ix ka)) hi hi_ka (fun q => absurd q.1 (by decide)))]
                      refine (hP1.m 4 i hi).trans ?_
                      first | rfl
                    · show (va_up (va_up (va_up (va_up (va_up M1 (ad 7 (hb_ix ka)) (hw_ob 8 [.int (hs_V S (hb_ix kp) 0), .int (hs_M S (hb_ix ka) 1), .int (hs_M S (hb_ix ka) 2), .int (hs_M S (hb_ix ka) 3), .ref (ad 8 (hb_ix ka))])) (ad 7 (hb_ix ka)) (hw_ob 8 [.int (hs_V S (hb_ix kp) 0), .int kp, .int (hs_M S (hb_ix ka) 2), .int (hs_M S (hb_ix ka) 3), .ref (ad 8 (hb_ix ka))])) (ad 7 (hb_ix ka)) (hw_ob 8 [.int (hs_V S (hb_ix kp) 0), .int kp, .int (hs_V S (hb_ix kp) 1), .int (hs_M S (hb_ix ka) 3), .ref (ad 8 (hb_ix ka))])) (ad 6 (hb_ix kp)) (hw_ob 10 [.int (hs_V S (hb_ix kp) 0), .int (nI 0), .int (hs_V S (hb_ix kp) 2), .int (hs_V S (hb_ix kp) 3), .int (hs_V S (hb_ix kp) 4)])) (ad 6 (hb_ix kp)) (hw_ob 10 [.int (hs_V S (hb_ix kp) 0), .int (nI 0), .int (hs_V S (hb_ix kp) 2), .int (hs_V S (hb_ix kp) 3), .int ka])) (ad 5 i) = hw_ad Z 64 (hs_W S i)
                      rw [va_up_ne _ _ (hP1.n (k := 5) (i := i) (k' := 6) (i' := (hb_ix kp)) hi hi_kp (fun q => absurd q.1 (by decide))), va_up_ne _ _ (hP1.n (k := 5) (i := i) (k' := 6) (i' := (hb_ix kp)) hi hi_kp (fun q => absurd q.1 (by decide))), va_up_ne _ _ (hP1.n (k := 5) (i := i) (k' := 7) (i' := (hb_ix ka)) hi hi_ka (fun q => absurd q.1 (by decide))), va_up_ne _ _ (hP1.n (k := 5) (i := i) (k' := 7) (i' := (hb_ix ka)) hi hi_ka (fun q => absurd q.1 (by decide))), va_up_ne _ _ (hP1.n (k := 5) (i := i) (k' := 7) (i' := (hb_ix ka)) hi hi_ka (fun q => absurd q.1 (by decide)))]
                      refine (hP1.m 5 i hi).trans ?_
                      first | rfl
                    · by_cases q0 : i = (hb_ix kp)
                      · subst q0
                        show (va_up (va_up (va_up (va_up (va_up M1 (ad 7 (hb_ix ka)) (hw_ob 8 [.int (hs_V S (hb_ix kp) 0), .int (hs_M S (hb_ix ka) 1), .int (hs_M S (hb_ix ka) 2), .int (hs_M S (hb_ix ka) 3), .ref (ad 8 (hb_ix ka))])) (ad 7 (hb_ix ka)) (hw_ob 8 [.int (hs_V S (hb_ix kp) 0), .int kp, .int (hs_M S (hb_ix ka) 2), .int (hs_M S (hb_ix ka) 3), .ref (ad 8 (hb_ix ka))])) (ad 7 (hb_ix ka)) (hw_ob 8 [.int (hs_V S (hb_ix kp) 0), .int kp, .int (hs_V S (hb_ix kp) 1), .int (hs_M S (hb_ix ka) 3), .ref (ad 8 (hb_ix ka))])) (ad 6 (hb_ix kp)) (hw_ob 10 [.int (hs_V S (hb_ix kp) 0), .int (nI 0), .int (hs_V S (hb_ix kp) 2), .int (hs_V S (hb_ix kp) 3), .int (hs_V S (hb_ix kp) 4)])) (ad 6 (hb_ix kp)) (hw_ob 10 [.int (hs_V S (hb_ix kp) 0), .int (nI 0), .int (hs_V S (hb_ix kp) 2), .int (hs_V S (hb_ix kp) 3), .int ka])) (ad 6 (hb_ix kp)) = hw_ob 10 [.int ((va_up (hs_V S) (hb_ix kp) (va_up (va_up (hs_V S (hb_ix kp)) 1 0) 4 ka)) (hb_ix kp) 0), .int ((va_up (hs_V S) (hb_ix kp) (va_up (va_up (hs_V S (hb_ix kp)) 1 0) 4 ka)) (hb_ix kp) 1), .int ((va_up (hs_V S) (hb_ix kp) (va_up (va_up (hs_V S (hb_ix kp)) 1 0) 4 ka)) (hb_ix kp) 2), .int ((va_up (hs_V S) (hb_ix kp) (va_up (va_up (hs_V S (hb_ix kp)) 1 0) 4 ka)) (hb_ix kp) 3), .int ((va_up (hs_V S) (hb_ix kp) (va_up (va_up (hs_V S (hb_ix kp)) 1 0) 4 ka)) (hb_ix kp) 4)]
                        refine (hw_us _ _ _).trans ?_
                        first | rfl | (simp only [va_up_self]; done) | (simp only [va_up_self]; rfl)
                      show (va_up (va_up (va_up (va_up (va_up M1 (ad 7 (hb_ix ka)) (hw_ob 8 [.int (hs_V S (hb_ix kp) 0), .int (hs_M S (hb_ix ka) 1), .int (hs_M S (hb_ix ka) 2), .int (hs_M S (hb_ix ka) 3), .ref (ad 8 (hb_ix ka))])) (ad 7 (hb_ix ka)) (hw_ob 8 [.int (hs_V S (hb_ix kp) 0), .int kp, .int (hs_M S (hb_ix ka) 2), .int (hs_M S (hb_ix ka) 3), .ref (ad 8 (hb_ix ka))])) (ad 7 (hb_ix ka)) (hw_ob 8 [.int (hs_V S (hb_ix kp) 0), .int kp, .int (hs_V S (hb_ix kp) 1), .int (hs_M S (hb_ix ka) 3), .ref (ad 8 (hb_ix ka))])) (ad 6 (hb_ix kp)) (hw_ob 10 [.int (hs_V S (hb_ix kp) 0), .int (nI 0), .int (hs_V S (hb_ix kp) 2), .int (hs_V S (hb_ix kp) 3), .int (hs_V S (hb_ix kp) 4)])) (ad 6 (hb_ix kp)) (hw_ob 10 [.int (hs_V S (hb_ix kp) 0), .int (nI 0), .int (hs_V S (hb_ix kp) 2), .int (hs_V S (hb_ix kp) 3), .int ka])) (ad 6 i) = hw_ob 10 [.int ((va_up (hs_V S) (hb_ix kp) (va_up (va_up (hs_V S (hb_ix kp)) 1 0) 4 ka)) i 0), .int ((va_up (hs_V S) (hb_ix kp) (va_up (va_up (hs_V S (hb_ix kp)) 1 0) 4 ka)) i 1), .int ((va_up (hs_V S) (hb_ix kp) (va_up (va_up (hs_V S (hb_ix kp)) 1 0) 4 ka)) i 2), .int ((va_up (hs_V S) (hb_ix kp) (va_up (va_up (hs_V S (hb_ix kp)) 1 0) 4 ka)) i 3), .int ((va_up (hs_V S) (hb_ix kp) (va_up (va_up (hs_V S (hb_ix kp)) 1 0) 4 ka)) i 4)]
                      rw [va_up_ne _ _ (hP1.n (k := 6) (i := i) (k' := 6) (i' := (hb_ix kp)) hi hi_kp (fun q => q0 q.2)), va_up_ne _ _ (hP1.n (k := 6) (i := i) (k' := 6) (i' := (hb_ix kp)) hi hi_kp (fun q => q0 q.2)), va_up_ne _ _ (hP1.n (k := 6) (i := i) (k' := 7) (i' := (hb_ix ka)) hi hi_ka (fun q => absurd q.1 (by decide))), va_up_ne _ _ (hP1.n (k := 6) (i := i) (k' := 7) (i' := (hb_ix ka)) hi hi_ka (fun q => absurd q.1 (by decide))), va_up_ne _ _ (hP1.n (k := 6) (i := i) (k' := 7) (i' := (hb_ix ka)) hi hi_ka (fun q => absurd q.1 (by decide)))]
                      refine (hP1.m 6 i hi).trans ?_
                      first | rfl | (simp only [va_up_ne _ _ q0]; done) | (simp only [va_up_ne _ _ q0]; rfl)
                    · by_cases q0 : i = (hb_ix ka)
                      · subst q0
                        show (va_up (va_up (va_up (va_up (va_up M1 (ad 7 (hb_ix ka)) (hw_ob 8 [.int (hs_V S (hb_ix kp) 0), .int (hs_M S (hb_ix ka) 1), .int (hs_M S (hb_ix ka) 2), .int (hs_M S (hb_ix ka) 3), .ref (ad 8 (hb_ix ka))])) (ad 7 (hb_ix ka)) (hw_ob 8 [.int (hs_V S (hb_ix kp) 0), .int kp, .int (hs_M S (hb_ix ka) 2), .int (hs_M S (hb_ix ka) 3), .ref (ad 8 (hb_ix ka))])) (ad 7 (hb_ix ka)) (hw_ob 8 [.int (hs_V S (hb_ix kp) 0), .int kp, .int (hs_V S (hb_ix kp) 1), .int (hs_M S (hb_ix ka) 3), .ref (ad 8 (hb_ix ka))])) (ad 6 (hb_ix kp)) (hw_ob 10 [.int (hs_V S (hb_ix kp) 0), .int (nI 0), .int (hs_V S (hb_ix kp) 2), .int (hs_V S (hb_ix kp) 3), .int (hs_V S (hb_ix kp) 4)])) (ad 6 (hb_ix kp)) (hw_ob 10 [.int (hs_V S (hb_ix kp) 0), .int (nI 0), .int (hs_V S (hb_ix kp) 2), .int (hs_V S (hb_ix kp) 3), .int ka])) (ad 7 (hb_ix ka)) = hw_ob 8 [.int ((va_up (hs_M S) (hb_ix ka) (va_up (va_up (va_up (hs_M S (hb_ix ka)) 0 (hs_V S (hb_ix kp) 0)) 1 kp) 2 (hs_V S (hb_ix kp) 1))) (hb_ix ka) 0), .int ((va_up (hs_M S) (hb_ix ka) (va_up (va_up (va_up (hs_M S (hb_ix ka)) 0 (hs_V S (hb_ix kp) 0)) 1 kp) 2 (hs_V S (hb_ix kp) 1))) (hb_ix ka) 1), .int ((va_up (hs_M S) (hb_ix ka) (va_up (va_up (va_up (hs_M S (hb_ix ka)) 0 (hs_V S (hb_ix kp) 0)) 1 kp) 2 (hs_V S (hb_ix kp) 1))) (hb_ix ka) 2), .int ((va_up (hs_M S) (hb_ix ka) (va_up (va_up (va_up (hs_M S (hb_ix ka)) 0 (hs_V S (hb_ix kp) 0)) 1 kp) 2 (hs_V S (hb_ix kp) 1))) (hb_ix ka) 3), .ref (ad 8 (hb_ix ka))]
                        refine (hw_up (hw_up (hw_us _ _ _) (hP1.n (k := 7) (i := (hb_ix ka)) (k' := 6) (i' := (hb_ix kp)) hi_ka hi_kp (fun q => absurd q.1 (by decide)))) (hP1.n (k := 7) (i := (hb_ix ka)) (k' := 6) (i' := (hb_ix kp)) hi_ka hi_kp (fun q => absurd q.1 (by decide)))).trans ?_
                        first | rfl | (simp only [va_up_self]; done) | (simp only [va_up_self]; rfl)
                      show (va_up (va_up (va_up (va_up (va_up M1 (ad 7 (hb_ix ka)) (hw_ob 8 [.int (hs_V S (hb_ix kp) 0), .int (hs_M S (hb_ix ka) 1), .int (hs_M S (hb_ix ka) 2), .int (hs_M S (hb_ix ka) 3), .ref (ad 8 (hb_ix ka))])) (ad 7 (hb_ix ka)) (hw_ob 8 [.int (hs_V S (hb_ix kp) 0), .int kp, .int (hs_M S (hb_ix ka) 2), .int (hs_M S (hb_ix ka) 3), .ref (ad 8 (hb_ix ka))])) (ad 7 (hb_ix ka)) (hw_ob 8 [.int (hs_V S (hb_ix kp) 0), .int kp, .int (hs_V S (hb_ix kp) 1), .int (hs_M S (hb_ix ka) 3), .ref (ad 8 (hb_ix ka))])) (ad 6 (hb_ix kp)) (hw_ob 10 [.int (hs_V S (hb_ix kp) 0), .int (nI 0), .int (hs_V S (hb_ix kp) 2), .int (hs_V S (hb_ix kp) 3), .int (hs_V S (hb_ix kp) 4)])) (ad 6 (hb_ix kp)) (hw_ob 10 [.int (hs_V S (hb_ix kp) 0), .int (nI 0), .int (hs_V S (hb_ix kp) 2), .int (hs_V S (hb_ix kp) 3), .int ka])) (ad 7 i) = hw_ob 8 [.int ((va_up (hs_M S) (hb_ix ka) (va_up (va_up (va_up (hs_M S (hb_ix ka)) 0 (hs_V S (hb_ix kp) 0)) 1 kp) 2 (hs_V S (hb_ix kp) 1))) i 0), .int ((va_up (hs_M S) (hb_ix ka) (va_up (va_up (va_up (hs_M S (hb_ix ka)) 0 (hs_V S (hb_ix kp) 0)) 1 kp) 2 (hs_V S (hb_ix kp) 1))) i 1), .int ((va_up (hs_M S) (hb_ix ka) (va_up (va_up (va_up (hs_M S (hb_ix ka)) 0 (hs_V S (hb_ix kp) 0)) 1 kp) 2 (hs_V S (hb_ix kp) 1))) i 2), .int ((va_up (hs_M S) (hb_ix ka) (va_up (va_up (va_up (hs_M S (hb_ix ka)) 0 (hs_V S (hb_ix kp) 0)) 1 kp) 2 (hs_V S (hb_ix kp) 1))) i 3), .ref (ad 8 i)]
                      rw [va_up_ne _ _ (hP1.n (k := 7) (i := i) (k' := 6) (i' := (hb_ix kp)) hi hi_kp (fun q => absurd q.1 (by decide))), va_up_ne _ _ (hP1.n (k := 7) (i := i) (k' := 6) (i' := (hb_ix kp)) hi hi_kp (fun q => absurd q.1 (by decide))), va_up_ne _ _ (hP1.n (k := 7) (i := i) (k' := 7) (i' := (hb_ix ka)) hi hi_ka (fun q => q0 q.2)), va_up_ne _ _ (hP1.n (k := 7) (i := i) (k' := 7) (i' := (hb_ix ka)) hi hi_ka (fun q => q0 q.2)), va_up_ne _ _ (hP1.n (k := 7) (i := i) (k' := 7) (i' := (hb_ix ka)) hi hi_ka (fun q => q0 q.2))]
                      refine (hP1.m 7 i hi).trans ?_
                      first | rfl | (simp only [va_up_ne _ _ q0]; done) | (simp only [va_up_ne _ _ q0]; rfl)
                    · show (va_up (va_up (va_up (va_up (va_up M1 (ad 7 (hb_ix ka)) (hw_ob 8 [.int (hs_V S (hb_ix kp) 0), .int (hs_M S (hb_ix ka) 1), .int (hs_M S (hb_ix ka) 2), .int (hs_M S (hb_ix ka) 3), .ref (ad 8 (hb_ix ka))])) (ad 7 (hb_ix ka)) (hw_ob 8 [.int (hs_V S (hb_ix kp) 0), .int kp, .int (hs_M S (hb_ix ka) 2), .int (hs_M S (hb_ix ka) 3), .ref (ad 8 (hb_ix ka))])) (ad 7 (hb_ix ka)) (hw_ob 8 [.int (hs_V S (hb_ix kp) 0), .int kp, .int (hs_V S (hb_ix kp) 1), .int (hs_M S (hb_ix ka) 3), .ref (ad 8 (hb_ix ka))])) (ad 6 (hb_ix kp)) (hw_ob 10 [.int (hs_V S (hb_ix kp) 0), .int (nI 0), .int (hs_V S (hb_ix kp) 2), .int (hs_V S (hb_ix kp) 3), .int (hs_V S (hb_ix kp) 4)])) (ad 6 (hb_ix kp)) (hw_ob 10 [.int (hs_V S (hb_ix kp) 0), .int (nI 0), .int (hs_V S (hb_ix kp) 2), .int (hs_V S (hb_ix kp) 3), .int ka])) (ad 8 i) = hw_ob 0 [.int (hr_mc X1 (2 + i)), .ref (if hr_gr X1 i then ad 9 i else Z.2.2.2), .int (nI (hs_N S i))]
                      rw [va_up_ne _ _ (hP1.n (k := 8) (i := i) (k' := 6) (i' := (hb_ix kp)) hi hi_kp (fun q => absurd q.1 (by decide))), va_up_ne _ _ (hP1.n (k := 8) (i := i) (k' := 6) (i' := (hb_ix kp)) hi hi_kp (fun q => absurd q.1 (by decide))), va_up_ne _ _ (hP1.n (k := 8) (i := i) (k' := 7) (i' := (hb_ix ka)) hi hi_ka (fun q => absurd q.1 (by decide))), va_up_ne _ _ (hP1.n (k := 8) (i := i) (k' := 7) (i' := (hb_ix ka)) hi hi_ka (fun q => absurd q.1 (by decide))), va_up_ne _ _ (hP1.n (k := 8) (i := i) (k' := 7) (i' := (hb_ix ka)) hi hi_ka (fun q => absurd q.1 (by decide)))]
                      refine (hP1.m 8 i hi).trans ?_
                      first | rfl
                    · show (va_up (va_up (va_up (va_up (va_up M1 (ad 7 (hb_ix ka)) (hw_ob 8 [.int (hs_V S (hb_ix kp) 0), .int (hs_M S (hb_ix ka) 1), .int (hs_M S (hb_ix ka) 2), .int (hs_M S (hb_ix ka) 3), .ref (ad 8 (hb_ix ka))])) (ad 7 (hb_ix ka)) (hw_ob 8 [.int (hs_V S (hb_ix kp) 0), .int kp, .int (hs_M S (hb_ix ka) 2), .int (hs_M S (hb_ix ka) 3), .ref (ad 8 (hb_ix ka))])) (ad 7 (hb_ix ka)) (hw_ob 8 [.int (hs_V S (hb_ix kp) 0), .int kp, .int (hs_V S (hb_ix kp) 1), .int (hs_M S (hb_ix ka) 3), .ref (ad 8 (hb_ix ka))])) (ad 6 (hb_ix kp)) (hw_ob 10 [.int (hs_V S (hb_ix kp) 0), .int (nI 0), .int (hs_V S (hb_ix kp) 2), .int (hs_V S (hb_ix kp) 3), .int (hs_V S (hb_ix kp) 4)])) (ad 6 (hb_ix kp)) (hw_ob 10 [.int (hs_V S (hb_ix kp) 0), .int (nI 0), .int (hs_V S (hb_ix kp) 2), .int (hs_V S (hb_ix kp) 3), .int ka])) (ad 9 i) = hw_ar Z 7 10 (hc_f (fun j => ad 10 (i + 2 * j)) (hs_N S i))
                      rw [va_up_ne _ _ (hP1.n (k := 9) (i := i) (k' := 6) (i' := (hb_ix kp)) hi hi_kp (fun q => absurd q.1 (by decide))), va_up_ne _ _ (hP1.n (k := 9) (i := i) (k' := 6) (i' := (hb_ix kp)) hi hi_kp (fun q => absurd q.1 (by decide))), va_up_ne _ _ (hP1.n (k := 9) (i := i) (k' := 7) (i' := (hb_ix ka)) hi hi_ka (fun q => absurd q.1 (by decide))), va_up_ne _ _ (hP1.n (k := 9) (i := i) (k' := 7) (i' := (hb_ix ka)) hi hi_ka (fun q => absurd q.1 (by decide))), va_up_ne _ _ (hP1.n (k := 9) (i := i) (k' := 7) (i' := (hb_ix ka)) hi hi_ka (fun q => absurd q.1 (by decide)))]
                      refine (hP1.m 9 i hi).trans ?_
                      first | rfl
                    · show (va_up (va_up (va_up (va_up (va_up M1 (ad 7 (hb_ix ka)) (hw_ob 8 [.int (hs_V S (hb_ix kp) 0), .int (hs_M S (hb_ix ka) 1), .int (hs_M S (hb_ix ka) 2), .int (hs_M S (hb_ix ka) 3), .ref (ad 8 (hb_ix ka))])) (ad 7 (hb_ix ka)) (hw_ob 8 [.int (hs_V S (hb_ix kp) 0), .int kp, .int (hs_M S (hb_ix ka) 2), .int (hs_M S (hb_ix ka) 3), .ref (ad 8 (hb_ix ka))])) (ad 7 (hb_ix ka)) (hw_ob 8 [.int (hs_V S (hb_ix kp) 0), .int kp, .int (hs_V S (hb_ix kp) 1), .int (hs_M S (hb_ix ka) 3), .ref (ad 8 (hb_ix ka))])) (ad 6 (hb_ix kp)) (hw_ob 10 [.int (hs_V S (hb_ix kp) 0), .int (nI 0), .int (hs_V S (hb_ix kp) 2), .int (hs_V S (hb_ix kp) 3), .int (hs_V S (hb_ix kp) 4)])) (ad 6 (hb_ix kp)) (hw_ob 10 [.int (hs_V S (hb_ix kp) 0), .int (nI 0), .int (hs_V S (hb_ix kp) 2), .int (hs_V S (hb_ix kp) 3), .int ka])) (ad 10 i) = hw_ai Z 3 (hr_qq X1 (i % 2) (i / 2))
                      rw [va_up_ne _ _ (hP1.n (k := 10) (i := i) (k' := 6) (i' := (hb_ix kp)) hi hi_kp (fun q => absurd q.1 (by decide))), va_up_ne _ _ (hP1.n (k := 10) (i := i) (k' := 6) (i' := (hb_ix kp)) hi hi_kp (fun q => absurd q.1 (by decide))), va_up_ne _ _ (hP1.n (k := 10) (i := i) (k' := 7) (i' := (hb_ix ka)) hi hi_ka (fun q => absurd q.1 (by decide))), va_up_ne _ _ (hP1.n (k := 10) (i := i) (k' := 7) (i' := (hb_ix ka)) hi hi_ka (fun q => absurd q.1 (by decide))), va_up_ne _ _ (hP1.n (k := 10) (i := i) (k' := 7) (i' := (hb_ix ka)) hi hi_ka (fun q => absurd q.1 (by decide)))]
                      refine (hP1.m 10 i hi).trans ?_
                      first | rfl
                    · show (va_up (va_up (va_up (va_up (va_up M1 (ad 7 (hb_ix ka)) (hw_ob 8 [.int (hs_V S (hb_ix kp) 0), .int (hs_M S (hb_ix ka) 1), .int (hs_M S (hb_ix ka) 2), .int (hs_M S (hb_ix ka) 3), .ref (ad 8 (hb_ix ka))])) (ad 7 (hb_ix ka)) (hw_ob 8 [.int (hs_V S (hb_ix kp) 0), .int kp, .int (hs_M S (hb_ix ka) 2), .int (hs_M S (hb_ix ka) 3), .ref (ad 8 (hb_ix ka))])) (ad 7 (hb_ix ka)) (hw_ob 8 [.int (hs_V S (hb_ix kp) 0), .int kp, .int (hs_V S (hb_ix kp) 1), .int (hs_M S (hb_ix ka) 3), .ref (ad 8 (hb_ix ka))])) (ad 6 (hb_ix kp)) (hw_ob 10 [.int (hs_V S (hb_ix kp) 0), .int (nI 0), .int (hs_V S (hb_ix kp) 2), .int (hs_V S (hb_ix kp) 3), .int (hs_V S (hb_ix kp) 4)])) (ad 6 (hb_ix kp)) (hw_ob 10 [.int (hs_V S (hb_ix kp) 0), .int (nI 0), .int (hs_V S (hb_ix kp) 2), .int (hs_V S (hb_ix kp) 3), .int ka])) (ad 11 i) = hw_ar Z 7 10 (hc_f (ad 1) (hs_np S))
                      rw [va_up_ne _ _ (hP1.n (k := 11) (i := i) (k' := 6) (i' := (hb_ix kp)) hi hi_kp (fun q => absurd q.1 (by decide))), va_up_ne _ _ (hP1.n (k := 11) (i := i) (k' := 6) (i' := (hb_ix kp)) hi hi_kp (fun q => absurd q.1 (by decide))), va_up_ne _ _ (hP1.n (k := 11) (i := i) (k' := 7) (i' := (hb_ix ka)) hi hi_ka (fun q => absurd q.1 (by decide))), va_up_ne _ _ (hP1.n (k := 11) (i := i) (k' := 7) (i' := (hb_ix ka)) hi hi_ka (fun q => absurd q.1 (by decide))), va_up_ne _ _ (hP1.n (k := 11) (i := i) (k' := 7) (i' := (hb_ix ka)) hi hi_ka (fun q => absurd q.1 (by decide)))]
                      refine (hP1.m 11 i hi).trans ?_
                      first | rfl
                    · show (va_up (va_up (va_up (va_up (va_up M1 (ad 7 (hb_ix ka)) (hw_ob 8 [.int (hs_V S (hb_ix kp) 0), .int (hs_M S (hb_ix ka) 1), .int (hs_M S (hb_ix ka) 2), .int (hs_M S (hb_ix ka) 3), .ref (ad 8 (hb_ix ka))])) (ad 7 (hb_ix ka)) (hw_ob 8 [.int (hs_V S (hb_ix kp) 0), .int kp, .int (hs_M S (hb_ix ka) 2), .int (hs_M S (hb_ix ka) 3), .ref (ad 8 (hb_ix ka))])) (ad 7 (hb_ix ka)) (hw_ob 8 [.int (hs_V S (hb_ix kp) 0), .int kp, .int (hs_V S (hb_ix kp) 1), .int (hs_M S (hb_ix ka) 3), .ref (ad 8 (hb_ix ka))])) (ad 6 (hb_ix kp)) (hw_ob 10 [.int (hs_V S (hb_ix kp) 0), .int (nI 0), .int (hs_V S (hb_ix kp) 2), .int (hs_V S (hb_ix kp) 3), .int (hs_V S (hb_ix kp) 4)])) (ad 6 (hb_ix kp)) (hw_ob 10 [.int (hs_V S (hb_ix kp) 0), .int (nI 0), .int (hs_V S (hb_ix kp) 2), .int (hs_V S (hb_ix kp) 3), .int ka])) (ad 12 i) = hw_ar Z 7 10 (hc_f (ad 6) (hs_nw S))
                      rw [va_up_ne _ _ (hP1.n (k := 12) (i := i) (k' := 6) (i' := (hb_ix kp)) hi hi_kp (fun q => absurd q.1 (by decide))), va_up_ne _ _ (hP1.n (k := 12) (i := i) (k' := 6) (i' := (hb_ix kp)) hi hi_kp (fun q => absurd q.1 (by decide))), va_up_ne _ _ (hP1.n (k := 12) (i := i) (k' := 7) (i' := (hb_ix ka)) hi hi_ka (fun q => absurd q.1 (by decide))), va_up_ne _ _ (hP1.n (k := 12) (i := i) (k' := 7) (i' := (hb_ix ka)) hi hi_ka (fun q => absurd q.1 (by decide))), va_up_ne _ _ (hP1.n (k := 12) (i := i) (k' := 7) (i' := (hb_ix ka)) hi hi_ka (fun q => absurd q.1 (by decide)))]
                      refine (hP1.m 12 i hi).trans ?_
                      first | rfl
                    · exact hi.elim
                  have fr_hok : ∀ a, b1 a → (va_up (va_up (va_up (va_up (va_up M1 (ad 7 (hb_ix ka)) (hw_ob 8 [.int (hs_V S (hb_ix kp) 0), .int (hs_M S (hb_ix ka) 1), .int (hs_M S (hb_ix ka) 2), .int (hs_M S (hb_ix ka) 3), .ref (ad 8 (hb_ix ka))])) (ad 7 (hb_ix ka)) (hw_ob 8 [.int (hs_V S (hb_ix kp) 0), .int kp, .int (hs_M S (hb_ix ka) 2), .int (hs_M S (hb_ix ka) 3), .ref (ad 8 (hb_ix ka))])) (ad 7 (hb_ix ka)) (hw_ob 8 [.int (hs_V S (hb_ix kp) 0), .int kp, .int (hs_V S (hb_ix kp) 1), .int (hs_M S (hb_ix ka) 3), .ref (ad 8 (hb_ix ka))])) (ad 6 (hb_ix kp)) (hw_ob 10 [.int (hs_V S (hb_ix kp) 0), .int (nI 0), .int (hs_V S (hb_ix kp) 2), .int (hs_V S (hb_ix kp) 3), .int (hs_V S (hb_ix kp) 4)])) (ad 6 (hb_ix kp)) (hw_ob 10 [.int (hs_V S (hb_ix kp) 0), .int (nI 0), .int (hs_V S (hb_ix kp) 2), .int (hs_V S (hb_ix kp) 3), .int ka])) a = M a := fun a ha => by rw [va_up_ne _ _ (hP1.f (k := 6) (i := (hb_ix kp)) hi_kp ha), va_up_ne _ _ (hP1.f (k := 6) (i := (hb_ix kp)) hi_kp ha), va_up_ne _ _ (hP1.f (k := 7) (i := (hb_ix ka)) hi_ka ha), va_up_ne _ _ (hP1.f (k := 7) (i := (hb_ix ka)) hi_ka ha), va_up_ne _ _ (hP1.f (k := 7) (i := (hb_ix ka)) hi_ka ha)]; exact fr1 a ha
                  have hfin : hr_R Z b1 M ad (st_load S ka kp) (hs_V S (hb_ix kp) 1) (va_up (va_up (va_up (va_up (va_up M1 (ad 7 (hb_ix ka)) (hw_ob 8 [.int (hs_V S (hb_ix kp) 0), .int (hs_M S (hb_ix ka) 1), .int (hs_M S (hb_ix ka) 2), .int (hs_M S (hb_ix ka) 3), .ref (ad 8 (hb_ix ka))])) (ad 7 (hb_ix ka)) (hw_ob 8 [.int (hs_V S (hb_ix kp) 0), .int kp, .int (hs_M S (hb_ix ka) 2), .int (hs_M S (hb_ix ka) 3), .ref (ad 8 (hb_ix ka))])) (ad 7 (hb_ix ka)) (hw_ob 8 [.int (hs_V S (hb_ix kp) 0), .int kp, .int (hs_V S (hb_ix kp) 1), .int (hs_M S (hb_ix ka) 3), .ref (ad 8 (hb_ix ka))])) (ad 6 (hb_ix kp)) (hw_ob 10 [.int (hs_V S (hb_ix kp) 0), .int (nI 0), .int (hs_V S (hb_ix kp) 2), .int (hs_V S (hb_ix kp) 3), .int (hs_V S (hb_ix kp) 4)])) (ad 6 (hb_ix kp)) (hw_ob 10 [.int (hs_V S (hb_ix kp) 0), .int (nI 0), .int (hs_V S (hb_ix kp) 2), .int (hs_V S (hb_ix kp) 3), .int ka])) := hr_r (S' := hs_sV (hs_sM S (hb_ix ka) (va_up (va_up (va_up (hs_M S (hb_ix ka)) 0 (hs_V S (hb_ix kp) 0)) 1 kp) 2 (hs_V S (hb_ix kp) 1))) (hb_ix kp) (va_up (va_up (hs_V S (hb_ix kp)) 1 0) 4 ka)) (X' := X1) (ad' := ad) (by unfold st_load; exact ((if_neg (fun q => q ⟨gk, gk2⟩)).trans ((if_neg (fun q => q.elim (fun q => q c53) (fun q => q.elim (fun q => q c62) c70))).trans ((if_neg (fun q => q.2 c96)).trans ((if_neg (Int32.not_lt.mpr c108)).trans rfl))))) rfl hok ht1 fr_hok
                  exact hret hI hfin (Nat.le_of_ble_eq_true rfl) (Nat.le_of_ble_eq_true rfl) dX11_load_153
                · refine lv_bipush (v := (-3)) hx hb dX11_load_111 (by decide) ?_
                  have hok : hr_ok Z b1 (M1) ad (S) (X1) := by
                    refine hr_old hP1 (fun _ _ hi => hi) ?_ hP1.q hP1.g
                    intro k i hi
                    rcases k with _ | _ | _ | _ | _ | _ | _ | _ | _ | _ | _ | _ | _ | k
                    · rcases (show i = 0 ∨ i = 1 ∨ i = 2 ∨ i = 3 by have h4 : i < 4 := hi; omega) with rfl | rfl | rfl | rfl
                      · show (M1) (ad 0 0) = hw_ob 12 [.int (hr_th X1), .int (hs_G S 0), .int (hs_G S 1), .ref (ad 0 2), .ref (ad 0 3), .ref (ad 0 1)]
                        refine (hP1.m 0 0 (show 0 < 4 by decide)).trans ?_
                        first | rfl | (simp only [va_up_self]; done) | (simp only [va_up_self]; rfl)
                      · show (M1) (ad 0 1) = hw_ar Z 6 2 (fun j => some (ad 7 j))
                        refine (hP1.m 0 1 (show 1 < 4 by decide)).trans ?_
                        first | rfl | (simp only [va_up_self]; done) | (simp only [va_up_self]; rfl)
                      · show (M1) (ad 0 2) = hw_ob 0 [.int (hr_mc X1 0), .ref (hr_d (hs_np S) Z.2.2.2 (ad 11 0)), .int (nI (hs_np S))]
                        refine (hP1.m 0 2 (show 2 < 4 by decide)).trans ?_
                        first | rfl | (simp only [va_up_self]; done) | (simp only [va_up_self]; rfl)
                      · show (M1) (ad 0 3) = hw_ob 0 [.int (hr_mc X1 1), .ref (hr_d (hs_nw S) Z.2.2.2 (ad 12 0)), .int (nI (hs_nw S))]
                        refine (hP1.m 0 3 (show 3 < 4 by decide)).trans ?_
                        first | rfl | (simp only [va_up_self]; done) | (simp only [va_up_self]; rfl)
                    · show (M1) (ad 1 i) = hw_ob 9 [.ref (ad 2 i), .int (hs_P S i 0), .ref (ad 4 i), .int (hs_P S i 3), .int (hs_P S i 4), .int (hs_P S i 5), .int (hs_P S i 6), .int (hs_P S i 7), .int (hs_P S i 8)]
                      refine (hP1.m 1 i hi).trans ?_
                      first | rfl
                    · show (M1) (ad 2 i) = hw_ob 11 [.ref (ad 3 i)]
                      refine (hP1.m 2 i hi).trans ?_
                      first | rfl
                    · show (M1) (ad 3 i) = hw_al Z 8 (hs_C S i)
                      refine (hP1.m 3 i hi).trans ?_
                      first | rfl
                    · show (M1) (ad 4 i) = hw_ob 7 [.double (hr_en (hs_P S i)), .ref (ad 5 i), .double (hs_U S i), .int (hs_P S i 1), .int (hs_P S i 2), .int (nI (hs_D S i))]
                      refine (hP1.m 4 i hi).trans ?_
                      first | rfl
                    · show (M1) (ad 5 i) = hw_ad Z 64 (hs_W S i)
                      refine (hP1.m 5 i hi).trans ?_
                      first | rfl
                    · show (M1) (ad 6 i) = hw_ob 10 [.int (hs_V S i 0), .int (hs_V S i 1), .int (hs_V S i 2), .int (hs_V S i 3), .int (hs_V S i 4)]
                      refine (hP1.m 6 i hi).trans ?_
                      first | rfl
                    · show (M1) (ad 7 i) = hw_ob 8 [.int (hs_M S i 0), .int (hs_M S i 1), .int (hs_M S i 2), .int (hs_M S i 3), .ref (ad 8 i)]
                      refine (hP1.m 7 i hi).trans ?_
                      first | rfl
                    · show (M1) (ad 8 i) = hw_ob 0 [.int (hr_mc X1 (2 + i)), .ref (if hr_gr X1 i then ad 9 i else Z.2.2.2), .int (nI (hs_N S i))]
                      refine (hP1.m 8 i hi).trans ?_
                      first | rfl
                    · show (M1) (ad 9 i) = hw_ar Z 7 10 (hc_f (fun j => ad 10 (i + 2 * j)) (hs_N S i))
                      refine (hP1.m 9 i hi).trans ?_
                      first | rfl
                    · show (M1) (ad 10 i) = hw_ai Z 3 (hr_qq X1 (i % 2) (i / 2))
                      refine (hP1.m 10 i hi).trans ?_
                      first | rfl
                    · show (M1) (ad 11 i) = hw_ar Z 7 10 (hc_f (ad 1) (hs_np S))
                      refine (hP1.m 11 i hi).trans ?_
                      first | rfl
                    · show (M1) (ad 12 i) = hw_ar Z 7 10 (hc_f (ad 6) (hs_nw S))
                      refine (hP1.m 12 i hi).trans ?_
                      first | rfl
                    · exact hi.elim
                  have fr_hok : ∀ a, b1 a → (M1) a = M a := fun a ha => fr1 a ha
                  have hfin : hr_R Z b1 M ad (st_load S ka kp) ((-3)) (M1) := hr_r (S' := S) (X' := X1) (ad' := ad) (by unfold st_load; exact ((if_neg (fun q => q ⟨gk, gk2⟩)).trans ((if_neg (fun q => q.elim (fun q => q c53) (fun q => q.elim (fun q => q c62) c70))).trans ((if_neg (fun q => q.2 c96)).trans (if_pos (Int32.not_le.mp c108)))))) rfl hok ht1 fr_hok
                  exact hret hI hfin (Nat.le_of_ble_eq_true rfl) (Nat.le_of_ble_eq_true rfl) dX11_load_113
              · refine lv_bipush (v := (-2)) hx hb dX11_load_99 (by decide) ?_
                have hok : hr_ok Z b1 (M1) ad (S) (X1) := by
                  refine hr_old hP1 (fun _ _ hi => hi) ?_ hP1.q hP1.g
                  intro k i hi
                  rcases k with _ | _ | _ | _ | _ | _ | _ | _ | _ | _ | _ | _ | _ | k
                  · rcases (show i = 0 ∨ i = 1 ∨ i = 2 ∨ i = 3 by have h4 : i < 4 := hi; omega) with rfl | rfl | rfl | rfl
                    · show (M1) (ad 0 0) = hw_ob 12 [.int (hr_th X1), .int (hs_G S 0), .int (hs_G S 1), .ref (ad 0 2), .ref (ad 0 3), .ref (ad 0 1)]
                      refine (hP1.m 0 0 (show 0 < 4 by decide)).trans ?_
                      first | rfl | (simp only [va_up_self]; done) | (simp only [va_up_self]; rfl)
                    · show (M1) (ad 0 1) = hw_ar Z 6 2 (fun j => some (ad 7 j))
                      refine (hP1.m 0 1 (show 1 < 4 by decide)).trans ?_
                      first | rfl | (simp only [va_up_self]; done) | (simp only [va_up_self]; rfl)
                    · show (M1) (ad 0 2) = hw_ob 0 [.int (hr_mc X1 0), .ref (hr_d (hs_np S) Z.2.2.2 (ad 11 0)), .int (nI (hs_np S))]
                      refine (hP1.m 0 2 (show 2 < 4 by decide)).trans ?_
                      first | rfl | (simp only [va_up_self]; done) | (simp only [va_up_self]; rfl)
                    · show (M1) (ad 0 3) = hw_ob 0 [.int (hr_mc X1 1), .ref (hr_d (hs_nw S) Z.2.2.2 (ad 12 0)), .int (nI (hs_nw S))]
                      refine (hP1.m 0 3 (show 3 < 4 by decide)).trans ?_
                      first | rfl | (simp only [va_up_self]; done) | (simp only [va_up_self]; rfl)
                  · show (M1) (ad 1 i) = hw_ob 9 [.ref (ad 2 i), .int (hs_P S i 0), .ref (ad 4 i), .int (hs_P S i 3), .int (hs_P S i 4), .int (hs_P S i 5), .int (hs_P S i 6), .int (hs_P S i 7), .int (hs_P S i 8)]
                    refine (hP1.m 1 i hi).trans ?_
                    first | rfl
                  · show (M1) (ad 2 i) = hw_ob 11 [.ref (ad 3 i)]
                    refine (hP1.m 2 i hi).trans ?_
                    first | rfl
                  · show (M1) (ad 3 i) = hw_al Z 8 (hs_C S i)
                    refine (hP1.m 3 i hi).trans ?_
                    first | rfl
                  · show (M1) (ad 4 i) = hw_ob 7 [.double (hr_en (hs_P S i)), .ref (ad 5 i), .double (hs_U S i), .int (hs_P S i 1), .int (hs_P S i 2), .int (nI (hs_D S i))]
                    refine (hP1.m 4 i hi).trans ?_
                    first | rfl
                  · show (M1) (ad 5 i) = hw_ad Z 64 (hs_W S i)
                    refine (hP1.m 5 i hi).trans ?_
                    first | rfl
                  · show (M1) (ad 6 i) = hw_ob 10 [.int (hs_V S i 0), .int (hs_V S i 1), .int (hs_V S i 2), .int (hs_V S i 3), .int (hs_V S i 4)]
                    refine (hP1.m 6 i hi).trans ?_
                    first | rfl
                  · show (M1) (ad 7 i) = hw_ob 8 [.int (hs_M S i 0), .int (hs_M S i 1), .int (hs_M S i 2), .int (hs_M S i 3), .ref (ad 8 i)]
                    refine (hP1.m 7 i hi).trans ?_
                    first | rfl
                  · show (M1) (ad 8 i) = hw_ob 0 [.int (hr_mc X1 (2 + i)), .ref (if hr_gr X1 i then ad 9 i else Z.2.2.2), .int (nI (hs_N S i))]
                    refine (hP1.m 8 i hi).trans ?_
                    first | rfl
                  · show (M1) (ad 9 i) = hw_ar Z 7 10 (hc_f (fun j => ad 10 (i + 2 * j)) (hs_N S i))
                    refine (hP1.m 9 i hi).trans ?_
                    first | rfl
                  · show (M1) (ad 10 i) = hw_ai Z 3 (hr_qq X1 (i % 2) (i / 2))
                    refine (hP1.m 10 i hi).trans ?_
                    first | rfl
                  · show (M1) (ad 11 i) = hw_ar Z 7 10 (hc_f (ad 1) (hs_np S))
                    refine (hP1.m 11 i hi).trans ?_
                    first | rfl
                  · show (M1) (ad 12 i) = hw_ar Z 7 10 (hc_f (ad 6) (hs_nw S))
                    refine (hP1.m 12 i hi).trans ?_
                    first | rfl
                  · exact hi.elim
                have fr_hok : ∀ a, b1 a → (M1) a = M a := fun a ha => fr1 a ha
                have hfin : hr_R Z b1 M ad (st_load S ka kp) ((-2)) (M1) := hr_r (S' := S) (X' := X1) (ad' := ad) (by unfold st_load; exact ((if_neg (fun q => q ⟨gk, gk2⟩)).trans ((if_neg (fun q => q.elim (fun q => q c53) (fun q => q.elim (fun q => q c62) c70))).trans (if_pos ⟨c84, c96⟩)))) rfl hok ht1 fr_hok
                exact hret hI hfin (Nat.le_of_ble_eq_true rfl) (Nat.le_of_ble_eq_true rfl) dX11_load_101
          · refine lv_aload_n hx hb dX11_load_73 rfl (lv_at hl 2 rfl) ?_
            refine lv_iconst (v := nI 2) hx hb dX11_load_74 (by decide) ?_
            refine hw_ci hI (hw_rV hx hb hml hown hts hk hI (m_X11_no l Z M1 (ad 0 0) (ad 0 2) (ad 0 3) (ad 0 1) (hr_th X1) (hs_G S 0) (hs_G S 1) (nI 2) e0_0hP1) cv_X11_44 e0_0hP1 rfl rfl ⟨rfl, rfl⟩ ⟨(Nat.le_of_ble_eq_true rfl), (Nat.le_of_ble_eq_true rfl)⟩ rfl hl.1 rfl (Nat.le_of_ble_eq_true rfl) ⟨(Nat.le_of_ble_eq_true rfl), (Nat.le_of_ble_eq_true rfl)⟩ dX11_load_75) (fun r75 M75 H locs hR hI => ?_)
            obtain ⟨rfl, rfl⟩ := hR
            exact hret hI (hr_x (n := 2) (by unfold st_load; exact (hq_el (fun q => q ⟨gk, gk2⟩) (hq_if (Or.inr (Or.inr c70)) ⟨rfl, rfl⟩))) (by decide) (hP1.th (nI 2)) rfl (fun a ha => (va_up_ne _ _ (hP1.f (k := 0) (i := 0) (show 0 < 4 by decide) ha)).trans (fr1 a ha))) (Nat.le_of_ble_eq_true rfl) (Nat.le_of_ble_eq_true rfl) dX11_load_78
    · refine lv_aload_n hx hb dX11_load_20 rfl (lv_at hl 0 rfl) ?_
      refine lv_iconst (v := nI 1) hx hb dX11_load_21 (by decide) ?_
      refine hw_ci hI (hw_rV hx hb hml hown hts hk hI (m_X11_no l Z M1 (ad 0 0) (ad 0 2) (ad 0 3) (ad 0 1) (hr_th X1) (hs_G S 0) (hs_G S 1) (nI 1) e0_0hP1) cv_X11_44 e0_0hP1 rfl rfl ⟨rfl, rfl⟩ ⟨(Nat.le_of_ble_eq_true rfl), (Nat.le_of_ble_eq_true rfl)⟩ rfl hl.1 rfl (Nat.le_of_ble_eq_true rfl) ⟨(Nat.le_of_ble_eq_true rfl), (Nat.le_of_ble_eq_true rfl)⟩ dX11_load_22) (fun r22 M22 H locs hR hI => ?_)
      obtain ⟨rfl, rfl⟩ := hR
      exact hret hI (hr_x (n := 1) (by unfold st_load; exact (hq_if (fun q => hq_df c17 q.2) ⟨rfl, rfl⟩)) (by decide) (hP1.th (nI 1)) rfl (fun a ha => (va_up_ne _ _ (hP1.f (k := 0) (i := 0) (show 0 < 4 by decide) ha)).trans (fr1 a ha))) (Nat.le_of_ble_eq_true rfl) (Nat.le_of_ble_eq_true rfl) dX11_load_25

set_option maxHeartbeats 4000000 in
set_option maxRecDepth 100000 in
theorem m_X11_giveBack (l : Launch) (Z : hw_Z) (M : hw_M) (o : Nat) (lp : Nat) (lw : Nat) (lm : Nat) (t0 : Int32) (g0 : Int32) (g1 : Int32) (a : Nat) (pl : Nat) (d : Nat) (jj : Nat) (n : Nat) (q : Nat) (mc : Int32) (x : Int32) (p1 : Int32) (z0 : Int32) (z2 : Int32) (z3 : Int32) (v0 : Int32) (v1 : Int32) (v2 : Int32) (v3 : Int32) (v4 : Int32) (f : Nat → Option Nat) (h0 : M o = hw_ob 12 [.int t0, .int g0, .int g1, .ref lp, .ref lw, .ref lm]) (h1 : M a = hw_ob 8 [.int z0, .int p1, .int z2, .int z3, .ref pl]) (h2 : M lw = hw_ob 0 [.int mc, .ref d, .int (nI n)]) (h3 : M d = hw_ar Z 7 10 f) (h4 : M q = hw_ob 10 [.int v0, .int v1, .int v2, .int v3, .int v4]) (hp1 : p1 = nI jj) (hj : jj < n) (hn : n ≤ 6) (hf : f jj = some q) : Met l yX11_giveBack (hw_m yX11_giveBack cX11_giveBack 4 (some (.object "MeltPoolModel$Powder"))) ({ frames := 3, cells := 0, slots := 0, locals := 70 } : Room) (va_Pc [.ref o, .ref a, .int x] (hw_P Z M)) (hw_Qr Z (fun r M' => q = r ∧ va_up (va_up M q (hw_ob 10 [.int v0, .int (v1 + x), .int (v2 + nI 1), .int v3, .int (-1)])) a (hw_ob 8 [.int z0, .int (-1), .int (nI 0), .int z3, .ref pl]) = M')) 0 0 (hw_A Z) := by
  refine hw_ofr (by decide +kernel) rfl (Or.inl ⟨_, rfl⟩) (Nat.le_of_ble_eq_true rfl) ?_
  intro p e s m below meth c ls Q hx hb hml hown hts hk hnm hI hl hret
  refine lv_aload_n hx hb dX11_giveBack_0 rfl (lv_at hl 0 rfl) ?_
  refine hw_get hx hb hts hown hk hI fd_X11_16 h0 rfl dX11_giveBack_1 ?_
  refine lv_aload_n hx hb dX11_giveBack_4 rfl (lv_at hl 1 rfl) ?_
  refine hw_get hx hb hts hown hk hI fd_X11_118 h1 rfl dX11_giveBack_5 ?_
  refine hw_ti hp1 ?_
  refine hw_cFr hI (hw_rF hx hb hml hown hts hk hI (m_Jx4a65c_get_915e3 l Z M lw d n jj q mc f h2 h3 (by omega) (by omega) hf) cf_X11_59 h2 rfl rfl ⟨rfl, rfl⟩ ⟨(Nat.le_of_ble_eq_true rfl), (Nat.le_of_ble_eq_true rfl)⟩ rfl hl.1 rfl (Nat.le_of_ble_eq_true rfl) ⟨(Nat.le_of_ble_eq_true rfl), (Nat.le_of_ble_eq_true rfl)⟩ dX11_giveBack_8) (fun r8 M8 H locs hR hI => ?_)
  obtain ⟨rfl, rfl⟩ := hR
  refine hw_cast hx hb hts hown hk hI h4 rfl (hw_win (w := .classLink RX11 86 RX9) (by decide +kernel) (by decide +kernel)) dX11_giveBack_13 ?_
  refine lv_astore_n (lv' := [(3, .ref q), (0, .ref o), (1, .ref a), (2, .int x)]) hx hb dX11_giveBack_16 rfl hl (by decide) rfl (fun ls hl => ?_)
  refine lv_aload_n hx hb dX11_giveBack_17 rfl (lv_at hl 0 rfl) ?_
  refine lv_dup hx hb dX11_giveBack_18 rfl ?_
  refine hw_get hx hb hts hown hk hI fd_X11_100 h4 rfl dX11_giveBack_19 ?_
  refine lv_iload_n hx hb dX11_giveBack_22 rfl (lv_at hl 3 rfl) ?_
  refine lv_iadd hx hb dX11_giveBack_23 ?_
  refine hw_put (fs' := [.int v0, .int (v1 + x), .int v2, .int v3, .int v4]) hx hb hts hown hk hI fp_X11_100 h4 (Nat.le_of_ble_eq_true rfl) rfl rfl rfl dX11_giveBack_24 (fun H locs hI => ?_)
  refine lv_aload_n hx hb dX11_giveBack_27 rfl (lv_at hl 0 rfl) ?_
  refine lv_dup hx hb dX11_giveBack_28 rfl ?_
  refine hw_get hx hb hts hown hk hI fd_X11_103 (hw_us _ _ _) rfl dX11_giveBack_29 ?_
  refine lv_iconst (v := nI 1) hx hb dX11_giveBack_32 (by decide) ?_
  refine lv_iadd hx hb dX11_giveBack_33 ?_
  refine hw_put (fs' := [.int v0, .int (v1 + x), .int (v2 + (nI 1)), .int v3, .int v4]) hx hb hts hown hk hI fp_X11_103 (hw_us _ _ _) (Nat.le_of_ble_eq_true rfl) rfl rfl rfl dX11_giveBack_34 (fun H locs hI => ?_)
  refine lv_aload_n hx hb dX11_giveBack_37 rfl (lv_at hl 0 rfl) ?_
  refine lv_iconst (v := (-1)) hx hb dX11_giveBack_38 (by decide) ?_
  refine hw_put (fs' := [.int v0, .int (v1 + x), .int (v2 + (nI 1)), .int v3, .int (-1)]) hx hb hts hown hk hI fp_X11_97 (hw_us _ _ _) (Nat.le_of_ble_eq_true rfl) rfl rfl rfl dX11_giveBack_39 (fun H locs hI => ?_)
  refine lv_aload_n hx hb dX11_giveBack_42 rfl (lv_at hl 2 rfl) ?_
  refine lv_iconst (v := (-1)) hx hb dX11_giveBack_43 (by decide) ?_
  refine hw_put (fs' := [.int z0, .int (-1), .int z2, .int z3, .ref pl]) hx hb hts hown hk hI fp_X11_118 (hw_up (hw_up (hw_up h1 (hw_noo h1 h4 (by decide))) (hw_noo h1 h4 (by decide))) (hw_noo h1 h4 (by decide))) (Nat.le_of_ble_eq_true rfl) rfl rfl rfl dX11_giveBack_44 (fun H locs hI => ?_)
  refine lv_aload_n hx hb dX11_giveBack_47 rfl (lv_at hl 2 rfl) ?_
  refine lv_iconst (v := nI 0) hx hb dX11_giveBack_48 (by decide) ?_
  refine hw_put (fs' := [.int z0, .int (-1), .int (nI 0), .int z3, .ref pl]) hx hb hts hown hk hI fp_X11_124 (hw_us _ _ _) (Nat.le_of_ble_eq_true rfl) rfl rfl rfl dX11_giveBack_49 (fun H locs hI => ?_)
  refine lv_aload_n hx hb dX11_giveBack_52 rfl (lv_at hl 0 rfl) ?_
  exact hret hI (⟨rfl, by simp only [bx_uu]⟩) (Nat.le_of_ble_eq_true rfl) (Nat.le_of_ble_eq_true rfl) dX11_giveBack_53

set_option maxHeartbeats 4000000 in
set_option maxRecDepth 100000 in
theorem m_X11_unload (l : Launch) (Z : hw_Z) (M : hw_M) (ad : hp_ad) (S : hs_S) (X : hr_X) (b1 : Nat → Prop) (ka : Int32) (hP : hr_ok Z b1 M ad S X) (hV : hv_ok S) (hA : ∀ a, b1 a → M a ≠ none) : Met l yX11_unload (hw_m yX11_unload cX11_unload 3 (some .int)) ({ frames := 8, cells := 2, slots := 90, locals := 250 } : Room) (va_Pc [.ref (ad 0 0), .int ka] (hw_P Z M)) (hw_Qi Z (hr_R Z b1 M ad (st_unload S ka))) 2 90 (hw_A Z) := by
  refine hw_ofi (by decide +kernel) rfl (Nat.le_of_ble_eq_true rfl) ?_
  intro p e s m below meth c ls Q hx hb hml hown hts hk hnm hI hl hret
  have hB := hV.b
  have hnp := hB.np
  have hnw := hB.nw
  have e0_0hP : M (ad 0 0) = hw_ob 12 [.int (hr_th X), .int (hs_G S 0), .int (hs_G S 1), .ref (ad 0 2), .ref (ad 0 3), .ref (ad 0 1)] := hP.m 0 0 (show 0 < 4 by decide)
  refine lv_aload_n hx hb dX11_unload_0 rfl (lv_at hl 0 rfl) ?_
  refine lv_iconst (v := nI 0) hx hb dX11_unload_1 (by decide) ?_
  refine hw_put (fs' := [.int (nI 0), .int (hs_G S 0), .int (hs_G S 1), .ref (ad 0 2), .ref (ad 0 3), .ref (ad 0 1)]) hx hb hts hown hk hI fp_X11_26 e0_0hP (Nat.le_of_ble_eq_true rfl) rfl rfl rfl dX11_unload_2 (fun H locs hI => ?_)
  obtain ⟨M1, hM1⟩ : ∃ Y : hw_M, Y = va_up M (ad 0 0) (hw_ob 12 [.int (nI 0), .int (hs_G S 0), .int (hs_G S 1), .ref (ad 0 2), .ref (ad 0 3), .ref (ad 0 1)]) := ⟨_, rfl⟩
  replace hI := hI.eq hM1.symm
  obtain ⟨X1, hX1⟩ : ∃ Y : hr_X, Y = (nI 0, X.2) := ⟨_, rfl⟩
  have hP1 : hr_ok Z b1 M1 ad S X1 := by rw [hM1, hX1]; exact hP.th (nI 0)
  have ht1 : hr_th X1 = nI 0 := by rw [hX1]; rfl
  have hgr1 : hr_gr X1 = hr_gr X := by rw [hX1]; rfl
  have hqq1 : hr_qq X1 = hr_qq X := by rw [hX1]; rfl
  have fr1 : ∀ a, b1 a → M1 a = M a := fun a ha => by rw [hM1]; exact va_up_ne _ _ (hP.f (k := 0) (i := 0) (show 0 < 4 by decide) ha)
  have hA1 : ∀ a, b1 a → M1 a ≠ none := fun a ha => by rw [fr1 a ha]; exact hA a ha
  clear hP hX1
  have e0_0hP1 : M1 (ad 0 0) = hw_ob 12 [.int (hr_th X1), .int (hs_G S 0), .int (hs_G S 1), .ref (ad 0 2), .ref (ad 0 3), .ref (ad 0 1)] := hP1.m 0 0 (show 0 < 4 by decide)
  refine lv_iload_n hx hb dX11_unload_5 rfl (lv_at hl 1 rfl) ?_
  refine hw_ci hI (hw_rS hx hb hml hown hts hk hI (m_X11_isMachine l Z M1 ka) cs_X11_115 ⟨rfl, rfl⟩ ⟨(Nat.le_of_ble_eq_true rfl), (Nat.le_of_ble_eq_true rfl)⟩ rfl hl.1 rfl (Nat.le_of_ble_eq_true rfl) ⟨(Nat.le_of_ble_eq_true rfl), (Nat.le_of_ble_eq_true rfl)⟩ dX11_unload_6) (fun r6 M6 H locs hR hI => ?_)
  obtain ⟨rfl, rfl⟩ := hR
  refine lv_if_ne (tgt := 18) hx hb dX11_unload_9 (by decide) (fun c9 => ?_) (fun c9 => ?_)
  · have gk := hq_dt c9
    have hx_ka := hb_okx (by decide) gk
    have hi_ka : hb_ix ka < 2 := hx_ka.1
    have e0_1hP1 : M1 (ad 0 1) = hw_ar Z 6 2 (fun j => some (ad 7 j)) := hP1.m 0 1 (show 1 < 4 by decide)
    have e7_hb_ix_kahP1 : M1 (ad 7 (hb_ix ka)) = hw_ob 8 [.int (hs_M S (hb_ix ka) 0), .int (hs_M S (hb_ix ka) 1), .int (hs_M S (hb_ix ka) 2), .int (hs_M S (hb_ix ka) 3), .ref (ad 8 (hb_ix ka))] := hP1.m 7 (hb_ix ka) hi_ka
    refine lv_aload_n hx hb dX11_unload_18 rfl (lv_at hl 0 rfl) ?_
    refine hw_get hx hb hts hown hk hI fd_X11_22 e0_0hP1 rfl dX11_unload_19 ?_
    refine lv_iload_n hx hb dX11_unload_22 rfl (lv_at hl 1 rfl) ?_
    refine hw_aald hx hb hk hI 6 (v := .ref (ad 7 (hb_ix ka))) e0_1hP1 rfl (j := hb_ix ka) hx_ka.2 hi_ka (by decide) rfl dX11_unload_23 ?_
    refine lv_astore_n (lv' := [(2, .ref (ad 7 (hb_ix ka))), (0, .ref (ad 0 0)), (1, .int ka)]) hx hb dX11_unload_24 rfl hl (by decide) rfl (fun ls hl => ?_)
    refine lv_aload_n hx hb dX11_unload_25 rfl (lv_at hl 0 rfl) ?_
    refine hw_get hx hb hts hown hk hI fd_X11_118 e7_hb_ix_kahP1 rfl dX11_unload_26 ?_
    refine lv_iconst (v := (-1)) hx hb dX11_unload_29 (by decide) ?_
    refine lv_icmp_eq (tgt := 41) hx hb dX11_unload_30 (by decide) (fun c30 => ?_) (fun c30 => ?_)
    · refine lv_aload_n hx hb dX11_unload_41 rfl (lv_at hl 1 rfl) ?_
      refine lv_iconst (v := nI 2) hx hb dX11_unload_42 (by decide) ?_
      refine hw_ci hI (hw_rV hx hb hml hown hts hk hI (m_X11_no l Z M1 (ad 0 0) (ad 0 2) (ad 0 3) (ad 0 1) (hr_th X1) (hs_G S 0) (hs_G S 1) (nI 2) e0_0hP1) cv_X11_44 e0_0hP1 rfl rfl ⟨rfl, rfl⟩ ⟨(Nat.le_of_ble_eq_true rfl), (Nat.le_of_ble_eq_true rfl)⟩ rfl hl.1 rfl (Nat.le_of_ble_eq_true rfl) ⟨(Nat.le_of_ble_eq_true rfl), (Nat.le_of_ble_eq_true rfl)⟩ dX11_unload_43) (fun r43 M43 H locs hR hI => ?_)
      obtain ⟨rfl, rfl⟩ := hR
      exact hret hI (hr_x (n := 2) (by unfold st_unload; exact (hq_el (fun q => q gk) (hq_if (Or.inl c30) ⟨rfl, rfl⟩))) (by decide) (hP1.th (nI 2)) rfl (fun a ha => (va_up_ne _ _ (hP1.f (k := 0) (i := 0) (show 0 < 4 by decide) ha)).trans (fr1 a ha))) (Nat.le_of_ble_eq_true rfl) (Nat.le_of_ble_eq_true rfl) dX11_unload_46
    · refine lv_aload_n hx hb dX11_unload_33 rfl (lv_at hl 0 rfl) ?_
      refine hw_get hx hb hts hown hk hI fd_X11_127 e7_hb_ix_kahP1 rfl dX11_unload_34 ?_
      refine lv_iconst (v := (-1)) hx hb dX11_unload_37 (by decide) ?_
      refine lv_icmp_eq (tgt := 47) hx hb dX11_unload_38 (by decide) (fun c38 => ?_) (fun c38 => ?_)
      · have gp := hV.mp hi_ka c30
        have hxp := hb_okx (by omega) gp
        have hib : hb_ix (hs_M S (hb_ix ka) 1) < hs_nw S := hxp.1
        have h12 : 0 = 0 ∧ 0 < hs_nw S := ⟨rfl, by omega⟩
        have e0_3hP1 : M1 (ad 0 3) = hw_ob 0 [.int (hr_mc X1 1), .ref (ad 12 0), .int (nI (hs_nw S))] := by
          have q := hP1.m 0 3 (show 3 < 4 by decide)
          rw [show hr_e Z ad S X1 0 3 = hw_ob 0 [.int (hr_mc X1 1), .ref (hr_d (hs_nw S) Z.2.2.2 (ad 12 0)), .int (nI (hs_nw S))] from rfl, hr_d0 h12.2] at q
          exact q
        have e12_0hP1 : M1 (ad 12 0) = hw_ar Z 7 10 (hc_f (ad 6) (hs_nw S)) := hP1.m 12 0 h12
        have e6_hb_ix_hs_M_S_hb_ix_ka_1hP1 : M1 (ad 6 (hb_ix (hs_M S (hb_ix ka) 1))) = hw_ob 10 [.int (hs_V S (hb_ix (hs_M S (hb_ix ka) 1)) 0), .int (hs_V S (hb_ix (hs_M S (hb_ix ka) 1)) 1), .int (hs_V S (hb_ix (hs_M S (hb_ix ka) 1)) 2), .int (hs_V S (hb_ix (hs_M S (hb_ix ka) 1)) 3), .int (hs_V S (hb_ix (hs_M S (hb_ix ka) 1)) 4)] := hP1.m 6 (hb_ix (hs_M S (hb_ix ka) 1)) hib
        refine lv_aload_n hx hb dX11_unload_47 rfl (lv_at hl 1 rfl) ?_
        refine lv_aload_n hx hb dX11_unload_48 rfl (lv_at hl 0 rfl) ?_
        refine lv_aload_n hx hb dX11_unload_49 rfl (lv_at hl 0 rfl) ?_
        refine hw_get hx hb hts hown hk hI fd_X11_124 e7_hb_ix_kahP1 rfl dX11_unload_50 ?_
        refine hw_cr hI (hw_rV hx hb hml hown hts hk hI (m_X11_giveBack l Z M1 (ad 0 0) (ad 0 2) (ad 0 3) (ad 0 1) (hr_th X1) (hs_G S 0) (hs_G S 1) (ad 7 (hb_ix ka)) (ad 8 (hb_ix ka)) (ad 12 0) (hb_ix (hs_M S (hb_ix ka) 1)) (hs_nw S) (ad 6 (hb_ix (hs_M S (hb_ix ka) 1))) (hr_mc X1 1) (hs_M S (hb_ix ka) 2) (hs_M S (hb_ix ka) 1) (hs_M S (hb_ix ka) 0) (hs_M S (hb_ix ka) 2) (hs_M S (hb_ix ka) 3) (hs_V S (hb_ix (hs_M S (hb_ix ka) 1)) 0) (hs_V S (hb_ix (hs_M S (hb_ix ka) 1)) 1) (hs_V S (hb_ix (hs_M S (hb_ix ka) 1)) 2) (hs_V S (hb_ix (hs_M S (hb_ix ka) 1)) 3) (hs_V S (hb_ix (hs_M S (hb_ix ka) 1)) 4) (hc_f (ad 6) (hs_nw S)) e0_0hP1 e7_hb_ix_kahP1 e0_3hP1 e12_0hP1 e6_hb_ix_hs_M_S_hb_ix_ka_1hP1 hxp.2 hib (by omega) (if_pos hib)) cv_X11_130 e0_0hP1 rfl rfl ⟨rfl, rfl⟩ ⟨(Nat.le_of_ble_eq_true rfl), (Nat.le_of_ble_eq_true rfl)⟩ rfl hl.1 rfl (Nat.le_of_ble_eq_true rfl) ⟨(Nat.le_of_ble_eq_true rfl), (Nat.le_of_ble_eq_true rfl)⟩ dX11_unload_53) (fun r53 M53 H locs hR hI => ?_)
        obtain ⟨rfl, rfl⟩ := hR
        refine hw_get hx hb hts hown hk hI fd_X11_100 (hw_up (hw_us _ _ _) (hP1.n (k := 6) (i := (hb_ix (hs_M S (hb_ix ka) 1))) (k' := 7) (i' := (hb_ix ka)) hib hi_ka (fun q => absurd q.1 (by decide)))) rfl dX11_unload_56 ?_
        have hok : hr_ok Z b1 (va_up (va_up M1 (ad 6 (hb_ix (hs_M S (hb_ix ka) 1))) (hw_ob 10 [.int (hs_V S (hb_ix (hs_M S (hb_ix ka) 1)) 0), .int ((hs_V S (hb_ix (hs_M S (hb_ix ka) 1)) 1) + (hs_M S (hb_ix ka) 2)), .int ((hs_V S (hb_ix (hs_M S (hb_ix ka) 1)) 2) + nI 1), .int (hs_V S (hb_ix (hs_M S (hb_ix ka) 1)) 3), .int (-1)])) (ad 7 (hb_ix ka)) (hw_ob 8 [.int (hs_M S (hb_ix ka) 0), .int (-1), .int (nI 0), .int (hs_M S (hb_ix ka) 3), .ref (ad 8 (hb_ix ka))])) ad (hs_sV (hs_sM S (hb_ix ka) (va_up (va_up (hs_M S (hb_ix ka)) 1 (-1)) 2 0)) (hb_ix (hs_M S (hb_ix ka) 1)) (va_up (va_up (va_up (hs_V S (hb_ix (hs_M S (hb_ix ka) 1))) 1 (hs_V S (hb_ix (hs_M S (hb_ix ka) 1)) 1 + hs_M S (hb_ix ka) 2)) 2 (hs_V S (hb_ix (hs_M S (hb_ix ka) 1)) 2 + nI 1)) 4 (-1))) (X1) := by
          refine hr_old hP1 (fun _ _ hi => hi) ?_ hP1.q hP1.g
          intro k i hi
          rcases k with _ | _ | _ | _ | _ | _ | _ | _ | _ | _ | _ | _ | _ | k
          · rcases (show i = 0 ∨ i = 1 ∨ i = 2 ∨ i = 3 by have h4 : i < 4 := hi; omega) with rfl | rfl | rfl | rfl
            · show (va_up (va_up M1 (ad 6 (hb_ix (hs_M S (hb_ix ka) 1))) (hw_ob 10 [.int (hs_V S (hb_ix (hs_M S (hb_ix ka) 1)) 0), .int ((hs_V S (hb_ix (hs_M S (hb_ix ka) 1)) 1) + (hs_M S (hb_ix ka) 2)), .int ((hs_V S (hb_ix (hs_M S (hb_ix ka) 1)) 2) + nI 1), .int (hs_V S (hb_ix (hs_M S (hb_ix ka) 1)) 3), .int (-1)])) (ad 7 (hb_ix ka)) (hw_ob 8 [.int (hs_M S (hb_ix ka) 0), .int (-1), .int (nI 0), .int (hs_M S (hb_ix ka) 3), .ref (ad 8 (hb_ix ka))])) (ad 0 0) = hw_ob 12 [.int (hr_th X1), .int (hs_G S 0), .int (hs_G S 1), .ref (ad 0 2), .ref (ad 0 3), .ref (ad 0 1)]
              rw [va_up_ne _ _ (hP1.n (k := 0) (i := 0) (k' := 7) (i' := (hb_ix ka)) (show 0 < 4 by decide) hi_ka (fun q => absurd q.1 (by decide))), va_up_ne _ _ (hP1.n (k := 0) (i := 0) (k' := 6) (i' := (hb_ix (hs_M S (hb_ix ka) 1))) (show 0 < 4 by decide) hib (fun q => absurd q.1 (by decide)))]
              refine (hP1.m 0 0 (show 0 < 4 by decide)).trans ?_
              first | rfl | (simp only [va_up_self]; done) | (simp only [va_up_self]; rfl)
            · show (va_up (va_up M1 (ad 6 (hb_ix (hs_M S (hb_ix ka) 1))) (hw_ob 10 [.int (hs_V S (hb_ix (hs_M S (hb_ix ka) 1)) 0), .int ((hs_V S (hb_ix (hs_M S (hb_ix ka) 1)) 1) + (hs_M S (hb_ix ka) 2)), .int ((hs_V S (hb_ix (hs_M S (hb_ix ka) 1)) 2) + nI 1), .int (hs_V S (hb_ix (hs_M S (hb_ix ka) 1)) 3), .int (-1)])) (ad 7 (hb_ix ka)) (hw_ob 8 [.int (hs_M S (hb_ix ka) 0), .int (-1), .int (nI 0), .int (hs_M S (hb_ix ka) 3), .ref (ad 8 (hb_ix ka))])) (ad 0 1) = hw_ar Z 6 2 (fun j => some (ad 7 j))
              rw [va_up_ne _ _ (hP1.n (k := 0) (i := 1) (k' := 7) (i' := (hb_ix ka)) (show 1 < 4 by decide) hi_ka (fun q => absurd q.1 (by decide))), va_up_ne _ _ (hP1.n (k := 0) (i := 1) (k' := 6) (i' := (hb_ix (hs_M S (hb_ix ka) 1))) (show 1 < 4 by decide) hib (fun q => absurd q.1 (by decide)))]
              refine (hP1.m 0 1 (show 1 < 4 by decide)).trans ?_
              first | rfl | (simp only [va_up_self]; done) | (simp only [va_up_self]; rfl)
            · show (va_up (va_up M1 (ad 6 (hb_ix (hs_M S (hb_ix ka) 1))) (hw_ob 10 [.int (hs_V S (hb_ix (hs_M S (hb_ix ka) 1)) 0), .int ((hs_V S (hb_ix (hs_M S (hb_ix ka) 1)) 1) + (hs_M S (hb_ix ka) 2)), .int ((hs_V S (hb_ix (hs_M S (hb_ix ka) 1)) 2) + nI 1), .int (hs_V S (hb_ix (hs_M S (hb_ix ka) 1)) 3), .int (-1)])) (ad 7 (hb_ix ka)) (hw_ob 8 [.int (hs_M S (hb_ix ka) 0), .int (-1), .int (nI 0), .int (hs_M S (hb_ix ka) 3), .ref (ad 8 (hb_ix ka))])) (ad 0 2) = hw_ob 0 [.int (hr_mc X1 0), .ref (hr_d (hs_np S) Z.2.2.2 (ad 11 0)), .int (nI (hs_np S))]
              rw [va_up_ne _ _ (hP1.n (k := 0) (i := 2) (k' := 7) (i' := (hb_ix ka)) (show 2 < 4 by decide) hi_ka (fun q => absurd q.1 (by decide))), va_up_ne _ _ (hP1.n (k := 0) (i := 2) (k' := 6) (i' := (hb_ix (hs_M S (hb_ix ka) 1))) (show 2 < 4 by decide) hib (fun q => absurd q.1 (by decide)))]
              refine (hP1.m 0 2 (show 2 < 4 by decide)).trans ?_
              first | rfl | (simp only [va_up_self]; done) | (simp only [va_up_self]; rfl)
            · show (va_up (va_up M1 (ad 6 (hb_ix (hs_M S (hb_ix ka) 1))) (hw_ob 10 [.int (hs_V S (hb_ix (hs_M S (hb_ix ka) 1)) 0), .int ((hs_V S (hb_ix (hs_M S (hb_ix ka) 1)) 1) + (hs_M S (hb_ix ka) 2)), .int ((hs_V S (hb_ix (hs_M S (hb_ix ka) 1)) 2) + nI 1), .int (hs_V S (hb_ix (hs_M S (hb_ix ka) 1)) 3), .int (-1)])) (ad 7 (hb_ix ka)) (hw_ob 8 [.int (hs_M S (hb_ix ka) 0), .int (-1), .int (nI 0), .int (hs_M S (hb_ix ka) 3), .ref (ad 8 (hb_ix ka))])) (ad 0 3) = hw_ob 0 [.int (hr_mc X1 1), .ref (hr_d (hs_nw S) Z.2.2.2 (ad 12 0)), .int (nI (hs_nw S))]
              rw [va_up_ne _ _ (hP1.n (k := 0) (i := 3) (k' := 7) (i' := (hb_ix ka)) (show 3 < 4 by decide) hi_ka (fun q => absurd q.1 (by decide))), va_up_ne _ _ (hP1.n (k := 0) (i := 3) (k' := 6) (i' := (hb_ix (hs_M S (hb_ix ka) 1))) (show 3 < 4 by decide) hib (fun q => absurd q.1 (by decide)))]
              refine (hP1.m 0 3 (show 3 < 4 by decide)).trans ?_
              first | rfl | (simp only [va_up_self]; done) | (simp only [va_up_self]; rfl)
          · show (va_up (va_up M1 (ad 6 (hb_ix (hs_M S (hb_ix ka) 1))) (hw_ob 10 [.int (hs_V S (hb_ix (hs_M S (hb_ix ka) 1)) 0), .int ((hs_V S (hb_ix (hs_M S (hb_ix ka) 1)) 1) + (hs_M S (hb_ix ka) 2)), .int ((hs_V S (hb_ix (hs_M S (hb_ix ka) 1)) 2) + nI 1), .int (hs_V S (hb_ix (hs_M S (hb_ix ka) 1)) 3), .int (-1)])) (ad 7 (hb_ix ka)) (hw_ob 8 [.int (hs_M S (hb_ix ka) 0), .int (-1), .int (nI 0), .int (hs_M S (hb_ix ka) 3), .ref (ad 8 (hb_ix ka))])) (ad 1 i) = hw_ob 9 [.ref (ad 2 i), .int (hs_P S i 0), .ref (ad 4 i), .int (hs_P S i 3), .int (hs_P S i 4), .int (hs_P S i 5), .int (hs_P S i 6), .int (hs_P S i 7), .int (hs_P S i 8)]
            rw [va_up_ne _ _ (hP1.n (k := 1) (i := i) (k' := 7) (i' := (hb_ix ka)) hi hi_ka (fun q => absurd q.1 (by decide))), va_up_ne _ _ (hP1.n (k := 1) (i := i) (k' := 6) (i' := (hb_ix (hs_M S (hb_ix ka) 1))) hi hib (fun q => absurd q.1 (by decide)))]
            refine (hP1.m 1 i hi).trans ?_
            first | rfl
          · show (va_up (va_up M1 (ad 6 (hb_ix (hs_M S (hb_ix ka) 1))) (hw_ob 10 [.int (hs_V S (hb_ix (hs_M S (hb_ix ka) 1)) 0), .int ((hs_V S (hb_ix (hs_M S (hb_ix ka) 1)) 1) + (hs_M S (hb_ix ka) 2)), .int ((hs_V S (hb_ix (hs_M S (hb_ix ka) 1)) 2) + nI 1), .int (hs_V S (hb_ix (hs_M S (hb_ix ka) 1)) 3), .int (-1)])) (ad 7 (hb_ix ka)) (hw_ob 8 [.int (hs_M S (hb_ix ka) 0), .int (-1), .int (nI 0), .int (hs_M S (hb_ix ka) 3), .ref (ad 8 (hb_ix ka))])) (ad 2 i) = hw_ob 11 [.ref (ad 3 i)]
            rw [va_up_ne _ _ (hP1.n (k := 2) (i := i) (k' := 7) (i' := (hb_ix ka)) hi hi_ka (fun q => absurd q.1 (by decide))), va_up_ne _ _ (hP1.n (k := 2) (i := i) (k' := 6) (i' := (hb_ix (hs_M S (hb_ix ka) 1))) hi hib (fun q => absurd q.1 (by decide)))]
            refine (hP1.m 2 i hi).trans ?_
            first | rfl
          · show (va_up (va_up M1 (ad 6 (hb_ix (hs_M S (hb_ix ka) 1))) (hw_ob 10 [.int (hs_V S (hb_ix (hs_M S (hb_ix ka) 1)) 0), .int ((hs_V S (hb_ix (hs_M S (hb_ix ka) 1)) 1) + (hs_M S (hb_ix ka) 2)), .int ((hs_V S (hb_ix (hs_M S (hb_ix ka) 1)) 2) + nI 1), .int (hs_V S (hb_ix (hs_M S (hb_ix ka) 1)) 3), .int (-1)])) (ad 7 (hb_ix ka)) (hw_ob 8 [.int (hs_M S (hb_ix ka) 0), .int (-1), .int (nI 0), .int (hs_M S (hb_ix ka) 3), .ref (ad 8 (hb_ix ka))])) (ad 3 i) = hw_al Z 8 (hs_C S i)
            rw [va_up_ne _ _ (hP1.n (k := 3) (i := i) (k' := 7) (i' := (hb_ix ka)) hi hi_ka (fun q => absurd q.1 (by decide))), va_up_ne _ _ (hP1.n (k := 3) (i := i) (k' := 6) (i' := (hb_ix (hs_M S (hb_ix ka) 1))) hi hib (fun q => absurd q.1 (by decide)))]
            refine (hP1.m 3 i hi).trans ?_
            first | rfl
          · show (va_up (va_up M1 (ad 6 (hb_ix (hs_M S (hb_ix ka) 1))) (hw_ob 10 [.int (hs_V S (hb_ix (hs_M S (hb_ix ka) 1)) 0), .int ((hs_V S (hb_ix (hs_M S (hb_ix ka) 1)) 1) + (hs_M S (hb_ix ka) 2)), .int ((hs_V S (hb_ix (hs_M S (hb_ix ka) 1)) 2) + nI 1), .int (hs_V S (hb_ix (hs_M S (hb_ix ka) 1)) 3), .int (-1)])) (ad 7 (hb_ix ka)) (hw_ob 8 [.int (hs_M S (hb_ix ka) 0), .int (-1), .int (nI 0), .int (hs_M S (hb_ix ka) 3), .ref (ad 8 (hb_ix ka))])) (ad 4 i) = hw_ob 7 [.double (hr_en (hs_P S i)), .ref (ad 5 i), .double (hs_U S i), .int (hs_P S i 1), .int (hs_P S i 2), .int (nI (hs_D S i))]
            rw [va_up_ne _ _ (hP1.n (k := 4) (i := i) (k' := 7) (i' := (hb_ix ka)) hi hi_ka (fun q => absurd q.1 (by decide))), va_up_ne _ _ (hP1.n (k := 4) (i := i) (k' := 6) (i' := (hb_ix (hs_M S (hb_ix ka) 1))) hi hib (fun q => absurd q.1 (by decide)))]
            refine (hP1.m 4 i hi).trans ?_
            first | rfl
          · show (va_up (va_up M1 (ad 6 (hb_ix (hs_M S (hb_ix ka) 1))) (hw_ob 10 [.int (hs_V S (hb_ix (hs_M S (hb_ix ka) 1)) 0), .int ((hs_V S (hb_ix (hs_M S (hb_ix ka) 1)) 1) + (hs_M S (hb_ix ka) 2)), .int ((hs_V S (hb_ix (hs_M S (hb_ix ka) 1)) 2) + nI 1), .int (hs_V S (hb_ix (hs_M S (hb_ix ka) 1)) 3), .int (-1)])) (ad 7 (hb_ix ka)) (hw_ob 8 [.int (hs_M S (hb_ix ka) 0), .int (-1), .int (nI 0), .int (hs_M S (hb_ix ka) 3), .ref (ad 8 (hb_ix ka))])) (ad 5 i) = hw_ad Z 64 (hs_W S i)
            rw [va_up_ne _ _ (hP1.n (k := 5) (i := i) (k' := 7) (i' := (hb_ix ka)) hi hi_ka (fun q => absurd q.1 (by decide))), va_up_ne _ _ (hP1.n (k := 5) (i := i) (k' := 6) (i' := (hb_ix (hs_M S (hb_ix ka) 1))) hi hib (fun q => absurd q.1 (by decide)))]
            refine (hP1.m 5 i hi).trans ?_
            first | rfl
          · by_cases q0 : i = (hb_ix (hs_M S (hb_ix ka) 1))
            · subst q0
              show (va_up (va_up M1 (ad 6 (hb_ix (hs_M S (hb_ix ka) 1))) (hw_ob 10 [.int (hs_V S (hb_ix (hs_M S (hb_ix ka) 1)) 0), .int ((hs_V S (hb_ix (hs_M S (hb_ix ka) 1)) 1) + (hs_M S (hb_ix ka) 2)), .int ((hs_V S (hb_ix (hs_M S (hb_ix ka) 1)) 2) + nI 1), .int (hs_V S (hb_ix (hs_M S (hb_ix ka) 1)) 3), .int (-1)])) (ad 7 (hb_ix ka)) (hw_ob 8 [.int (hs_M S (hb_ix ka) 0), .int (-1), .int (nI 0), .int (hs_M S (hb_ix ka) 3), .ref (ad 8 (hb_ix ka))])) (ad 6 (hb_ix (hs_M S (hb_ix ka) 1))) = hw_ob 10 [.int ((va_up (hs_V S) (hb_ix (hs_M S (hb_ix ka) 1)) (va_up (va_up (va_up (hs_V S (hb_ix (hs_M S (hb_ix ka) 1))) 1 (hs_V S (hb_ix (hs_M S (hb_ix ka) 1)) 1 + hs_M S (hb_ix ka) 2)) 2 (hs_V S (hb_ix (hs_M S (hb_ix ka) 1)) 2 + nI 1)) 4 (-1))) (hb_ix (hs_M S (hb_ix ka) 1)) 0), .int ((va_up (hs_V S) (hb_ix (hs_M S (hb_ix ka) 1)) (va_up (va_up (va_up (hs_V S (hb_ix (hs_M S (hb_ix ka) 1))) 1 (hs_V S (hb_ix (hs_M S (hb_ix ka) 1)) 1 + hs_M S (hb_ix ka) 2)) 2 (hs_V S (hb_ix (hs_M S (hb_ix ka) 1)) 2 + nI 1)) 4 (-1))) (hb_ix (hs_M S (hb_ix ka) 1)) 1), .int ((va_up (hs_V S) (hb_ix (hs_M S (hb_ix ka) 1)) (va_up (va_up (va_up (hs_V S (hb_ix (hs_M S (hb_ix ka) 1))) 1 (hs_V S (hb_ix (hs_M S (hb_ix ka) 1)) 1 + hs_M S (hb_ix ka) 2)) 2 (hs_V S (hb_ix (hs_M S (hb_ix ka) 1)) 2 + nI 1)) 4 (-1))) (hb_ix (hs_M S (hb_ix ka) 1)) 2), .int ((va_up (hs_V S) (hb_ix (hs_M S (hb_ix ka) 1)) (va_up (va_up (va_up (hs_V S (hb_ix (hs_M S (hb_ix ka) 1))) 1 (hs_V S (hb_ix (hs_M S (hb_ix ka) 1)) 1 + hs_M S (hb_ix ka) 2)) 2 (hs_V S (hb_ix (hs_M S (hb_ix ka) 1)) 2 + nI 1)) 4 (-1))) (hb_ix (hs_M S (hb_ix ka) 1)) 3), .int ((va_up (hs_V S) (hb_ix (hs_M S (hb_ix ka) 1)) (va_up (va_up (va_up (hs_V S (hb_ix (hs_M S (hb_ix ka) 1))) 1 (hs_V S (hb_ix (hs_M S (hb_ix ka) 1)) 1 + hs_M S (hb_ix ka) 2)) 2 (hs_V S (hb_ix (hs_M S (hb_ix ka) 1)) 2 + nI 1)) 4 (-1))) (hb_ix (hs_M S (hb_ix ka) 1)) 4)]
              refine (hw_up (hw_us _ _ _) (hP1.n (k := 6) (i := (hb_ix (hs_M S (hb_ix ka) 1))) (k' := 7) (i' := (hb_ix ka)) hib hi_ka (fun q => absurd q.1 (by decide)))).trans ?_
              first | rfl | (simp only [va_up_self]; done) | (simp only [va_up_self]; rfl)
            show (va_up (va_up M1 (ad 6 (hb_ix (hs_M S (hb_ix ka) 1))) (hw_ob 10 [.int (hs_V S (hb_ix (hs_M S (hb_ix ka) 1)) 0), .int ((hs_V S (hb_ix (hs_M S (hb_ix ka) 1)) 1) + (hs_M S (hb_ix ka) 2)), .int ((hs_V S (hb_ix (hs_M S (hb_ix ka) 1)) 2) + nI 1), .int (hs_V S (hb_ix (hs_M S (hb_ix ka) 1)) 3), .int (-1)])) (ad 7 (hb_ix ka)) (hw_ob 8 [.int (hs_M S (hb_ix ka) 0), .int (-1), .int (nI 0), .int (hs_M S (hb_ix ka) 3), .ref (ad 8 (hb_ix ka))])) (ad 6 i) = hw_ob 10 [.int ((va_up (hs_V S) (hb_ix (hs_M S (hb_ix ka) 1)) (va_up (va_up (va_up (hs_V S (hb_ix (hs_M S (hb_ix ka) 1))) 1 (hs_V S (hb_ix (hs_M S (hb_ix ka) 1)) 1 + hs_M S (hb_ix ka) 2)) 2 (hs_V S (hb_ix (hs_M S (hb_ix ka) 1)) 2 + nI 1)) 4 (-1))) i 0), .int ((va_up (hs_V S) (hb_ix (hs_M S (hb_ix ka) 1)) (va_up (va_up (va_up (hs_V S (hb_ix (hs_M S (hb_ix ka) 1))) 1 (hs_V S (hb_ix (hs_M S (hb_ix ka) 1)) 1 + hs_M S (hb_ix ka) 2)) 2 (hs_V S (hb_ix (hs_M S (hb_ix ka) 1)) 2 + nI 1)) 4 (-1))) i 1), .int ((va_up (hs_V S) (hb_ix (hs_M S (hb_ix ka) 1)) (va_up (va_up (va_up (hs_V S (hb_ix (hs_M S (hb_ix ka) 1))) 1 (hs_V S (hb_ix (hs_M S (hb_ix ka) 1)) 1 + hs_M S (hb_ix ka) 2)) 2 (hs_V S (hb_ix (hs_M S (hb_ix ka) 1)) 2 + nI 1)) 4 (-1))) i 2), .int ((va_up (hs_V S) (hb_ix (hs_M S (hb_ix ka) 1)) (va_up (va_up (va_up (hs_V S (hb_ix (hs_M S (hb_ix ka) 1))) 1 (hs_V S (hb_ix (hs_M S (hb_ix ka) 1)) 1 + hs_M S (hb_ix ka) 2)) 2 (hs_V S (hb_ix (hs_M S (hb_ix ka) 1)) 2 + nI 1)) 4 (-1))) i 3), .int ((va_up (hs_V S) (hb_ix (hs_M S (hb_ix ka) 1)) (va_up (va_up (va_up (hs_V S (hb_ix (hs_M S (hb_ix ka) 1))) 1 (hs_V S (hb_ix (hs_M S (hb_ix ka) 1)) 1 + hs_M S (hb_ix ka) 2)) 2 (hs_V S (hb_ix (hs_M S (hb_ix ka) 1)) 2 + nI 1)) 4 (-1))) i 4)]
            rw [va_up_ne _ _ (hP1.n (k := 6) (i := i) (k' := 7) (i' := (hb_ix ka)) hi hi_ka (fun q => absurd q.1 (by decide))), va_up_ne _ _ (hP1.n (k := 6) (i := i) (k' := 6) (i' := (hb_ix (hs_M S (hb_ix ka) 1))) hi hib (fun q => q0 q.2))]
            refine (hP1.m 6 i hi).trans ?_
            first | rfl | (simp only [va_up_ne _ _ q0]; done) | (simp only [va_up_ne _ _ q0]; rfl)
          · by_cases q0 : i = (hb_ix ka)
            · subst q0
              show (va_up (va_up M1 (ad 6 (hb_ix (hs_M S (hb_ix ka) 1))) (hw_ob 10 [.int (hs_V S (hb_ix (hs_M S (hb_ix ka) 1)) 0), .int ((hs_V S (hb_ix (hs_M S (hb_ix ka) 1)) 1) + (hs_M S (hb_ix ka) 2)), .int ((hs_V S (hb_ix (hs_M S (hb_ix ka) 1)) 2) + nI 1), .int (hs_V S (hb_ix (hs_M S (hb_ix ka) 1)) 3), .int (-1)])) (ad 7 (hb_ix ka)) (hw_ob 8 [.int (hs_M S (hb_ix ka) 0), .int (-1), .int (nI 0), .int (hs_M S (hb_ix ka) 3), .ref (ad 8 (hb_ix ka))])) (ad 7 (hb_ix ka)) = hw_ob 8 [.int ((va_up (hs_M S) (hb_ix ka) (va_up (va_up (hs_M S (hb_ix ka)) 1 (-1)) 2 0)) (hb_ix ka) 0), .int ((va_up (hs_M S) (hb_ix ka) (va_up (va_up (hs_M S (hb_ix ka)) 1 (-1)) 2 0)) (hb_ix ka) 1), .int ((va_up (hs_M S) (hb_ix ka) (va_up (va_up (hs_M S (hb_ix ka)) 1 (-1)) 2 0)) (hb_ix ka) 2), .int ((va_up (hs_M S) (hb_ix ka) (va_up (va_up (hs_M S (hb_ix ka)) 1 (-1)) 2 0)) (hb_ix ka) 3), .ref (ad 8 (hb_ix ka))]
              refine (hw_us _ _ _).trans ?_
              first | rfl | (simp only [va_up_self]; done) | (simp only [va_up_self]; rfl)
            show (va_up (va_up M1 (ad 6 (hb_ix (hs_M S (hb_ix ka) 1))) (hw_ob 10 [.int (hs_V S (hb_ix (hs_M S (hb_ix ka) 1)) 0), .int ((hs_V S (hb_ix (hs_M S (hb_ix ka) 1)) 1) + (hs_M S (hb_ix ka) 2)), .int ((hs_V S (hb_ix (hs_M S (hb_ix ka) 1)) 2) + nI 1), .int (hs_V S (hb_ix (hs_M S (hb_ix ka) 1)) 3), .int (-1)])) (ad 7 (hb_ix ka)) (hw_ob 8 [.int (hs_M S (hb_ix ka) 0), .int (-1), .int (nI 0), .int (hs_M S (hb_ix ka) 3), .ref (ad 8 (hb_ix ka))])) (ad 7 i) = hw_ob 8 [.int ((va_up (hs_M S) (hb_ix ka) (va_up (va_up (hs_M S (hb_ix ka)) 1 (-1)) 2 0)) i 0), .int ((va_up (hs_M S) (hb_ix ka) (va_up (va_up (hs_M S (hb_ix ka)) 1 (-1)) 2 0)) i 1), .int ((va_up (hs_M S) (hb_ix ka) (va_up (va_up (hs_M S (hb_ix ka)) 1 (-1)) 2 0)) i 2), .int ((va_up (hs_M S) (hb_ix ka) (va_up (va_up (hs_M S (hb_ix ka)) 1 (-1)) 2 0)) i 3), .ref (ad 8 i)]
            rw [va_up_ne _ _ (hP1.n (k := 7) (i := i) (k' := 7) (i' := (hb_ix ka)) hi hi_ka (fun q => q0 q.2)), va_up_ne _ _ (hP1.n (k := 7) (i := i) (k' := 6) (i' := (hb_ix (hs_M S (hb_ix ka) 1))) hi hib (fun q => absurd q.1 (by decide)))]
            refine (hP1.m 7 i hi).trans ?_
            first | rfl | (simp only [va_up_ne _ _ q0]; done) | (simp only [va_up_ne _ _ q0]; rfl)
          · show (va_up (va_up M1 (ad 6 (hb_ix (hs_M S (hb_ix ka) 1))) (hw_ob 10 [.int (hs_V S (hb_ix (hs_M S (hb_ix ka) 1)) 0), .int ((hs_V S (hb_ix (hs_M S (hb_ix ka) 1)) 1) + (hs_M S (hb_ix ka) 2)), .int ((hs_V S (hb_ix (hs_M S (hb_ix ka) 1)) 2) + nI 1), .int (hs_V S (hb_ix (hs_M S (hb_ix ka) 1)) 3), .int (-1)])) (ad 7 (hb_ix ka)) (hw_ob 8 [.int (hs_M S (hb_ix ka) 0), .int (-1), .int (nI 0), .int (hs_M S (hb_ix ka) 3), .ref (ad 8 (hb_ix ka))])) (ad 8 i) = hw_ob 0 [.int (hr_mc X1 (2 + i)), .ref (if hr_gr X1 i then ad 9 i else Z.2.2.2), .int (nI (hs_N S i))]
            rw [va_up_ne _ _ (hP1.n (k := 8) (i := i) (k' := 7) (i' := (hb_ix ka)) hi hi_ka (fun q => absurd q.1 (by decide))), va_up_ne _ _ (hP1.n (k := 8) (i := i) (k' := 6) (i' := (hb_ix (hs_M S (hb_ix ka) 1))) hi hib (fun q => absurd q.1 (by decide)))]
            refine (hP1.m 8 i hi).trans ?_
            first | rfl
          · show (va_up (va_up M1 (ad 6 (hb_ix (hs_M S (hb_ix ka) 1))) (hw_ob 10 [.int (hs_V S (hb_ix (hs_M S (hb_ix ka) 1)) 0), .int ((hs_V S (hb_ix (hs_M S (hb_ix ka) 1)) 1) + (hs_M S (hb_ix ka) 2)), .int ((hs_V S (hb_ix (hs_M S (hb_ix ka) 1)) 2) + nI 1), .int (hs_V S (hb_ix (hs_M S (hb_ix ka) 1)) 3), .int (-1)])) (ad 7 (hb_ix ka)) (hw_ob 8 [.int (hs_M S (hb_ix ka) 0), .int (-1), .int (nI 0), .int (hs_M S (hb_ix ka) 3), .ref (ad 8 (hb_ix ka))])) (ad 9 i) = hw_ar Z 7 10 (hc_f (fun j => ad 10 (i + 2 * j)) (hs_N S i))
            rw [va_up_ne _ _ (hP1.n (k := 9) (i := i) (k' := 7) (i' := (hb_ix ka)) hi hi_ka (fun q => absurd q.1 (by decide))), va_up_ne _ _ (hP1.n (k := 9) (i := i) (k' := 6) (i' := (hb_ix (hs_M S (hb_ix ka) 1))) hi hib (fun q => absurd q.1 (by decide)))]
            refine (hP1.m 9 i hi).trans ?_
            first | rfl
          · show (va_up (va_up M1 (ad 6 (hb_ix (hs_M S (hb_ix ka) 1))) (hw_ob 10 [.int (hs_V S (hb_ix (hs_M S (hb_ix ka) 1)) 0), .int ((hs_V S (hb_ix (hs_M S (hb_ix ka) 1)) 1) + (hs_M S (hb_ix ka) 2)), .int ((hs_V S (hb_ix (hs_M S (hb_ix ka) 1)) 2) + nI 1), .int (hs_V S (hb_ix (hs_M S (hb_ix ka) 1)) 3), .int (-1)])) (ad 7 (hb_ix ka)) (hw_ob 8 [.int (hs_M S (hb_ix ka) 0), .int (-1), .int (nI 0), .int (hs_M S (hb_ix ka) 3), .ref (ad 8 (hb_ix ka))])) (ad 10 i) = hw_ai Z 3 (hr_qq X1 (i % 2) (i / 2))
            rw [va_up_ne _ _ (hP1.n (k := 10) (i := i) (k' := 7) (i' := (hb_ix ka)) hi hi_ka (fun q => absurd q.1 (by decide))), va_up_ne _ _ (hP1.n (k := 10) (i := i) (k' := 6) (i' := (hb_ix (hs_M S (hb_ix ka) 1))) hi hib (fun q => absurd q.1 (by decide)))]
            refine (hP1.m 10 i hi).trans ?_
            first | rfl
          · show (va_up (va_up M1 (ad 6 (hb_ix (hs_M S (hb_ix ka) 1))) (hw_ob 10 [.int (hs_V S (hb_ix (hs_M S (hb_ix ka) 1)) 0), .int ((hs_V S (hb_ix (hs_M S (hb_ix ka) 1)) 1) + (hs_M S (hb_ix ka) 2)), .int ((hs_V S (hb_ix (hs_M S (hb_ix ka) 1)) 2) + nI 1), .int (hs_V S (hb_ix (hs_M S (hb_ix ka) 1)) 3), .int (-1)])) (ad 7 (hb_ix ka)) (hw_ob 8 [.int (hs_M S (hb_ix ka) 0), .int (-1), .int (nI 0), .int (hs_M S (hb_ix ka) 3), .ref (ad 8 (hb_ix ka))])) (ad 11 i) = hw_ar Z 7 10 (hc_f (ad 1) (hs_np S))
            rw [va_up_ne _ _ (hP1.n (k := 11) (i := i) (k' := 7) (i' := (hb_ix ka)) hi hi_ka (fun q => absurd q.1 (by decide))), va_up_ne _ _ (hP1.n (k := 11) (i := i) (k' := 6) (i' := (hb_ix (hs_M S (hb_ix ka) 1))) hi hib (fun q => absurd q.1 (by decide)))]
            refine (hP1.m 11 i hi).trans ?_
            first | rfl
          · show (va_up (va_up M1 (ad 6 (hb_ix (hs_M S (hb_ix ka) 1))) (hw_ob 10 [.int (hs_V S (hb_ix (hs_M S (hb_ix ka) 1)) 0), .int ((hs_V S (hb_ix (hs_M S (hb_ix ka) 1)) 1) + (hs_M S (hb_ix ka) 2)), .int ((hs_V S (hb_ix (hs_M S (hb_ix ka) 1)) 2) + nI 1), .int (hs_V S (hb_ix (hs_M S (hb_ix ka) 1)) 3), .int (-1)])) (ad 7 (hb_ix ka)) (hw_ob 8 [.int (hs_M S (hb_ix ka) 0), .int (-1), .int (nI 0), .int (hs_M S (hb_ix ka) 3), .ref (ad 8 (hb_ix ka))])) (ad 12 i) = hw_ar Z 7 10 (hc_f (ad 6) (hs_nw S))
            rw [va_up_ne _ _ (hP1.n (k := 12) (i := i) (k' := 7) (i' := (hb_ix ka)) hi hi_ka (fun q => absurd q.1 (by decide))), va_up_ne _ _ (hP1.n (k := 12) (i := i) (k' := 6) (i' := (hb_ix (hs_M S (hb_ix ka) 1))) hi hib (fun q => absurd q.1 (by decide)))]
            refine (hP1.m 12 i hi).trans ?_
            first | rfl
          · exact hi.elim
        have fr_hok : ∀ a, b1 a → (va_up (va_up M1 (ad 6 (hb_ix (hs_M S (hb_ix ka) 1))) (hw_ob 10 [.int (hs_V S (hb_ix (hs_M S (hb_ix ka) 1)) 0), .int ((hs_V S (hb_ix (hs_M S (hb_ix ka) 1)) 1) + (hs_M S (hb_ix ka) 2)), .int ((hs_V S (hb_ix (hs_M S (hb_ix ka) 1)) 2) + nI 1), .int (hs_V S (hb_ix (hs_M S (hb_ix ka) 1)) 3), .int (-1)])) (ad 7 (hb_ix ka)) (hw_ob 8 [.int (hs_M S (hb_ix ka) 0), .int (-1), .int (nI 0), .int (hs_M S (hb_ix ka) 3), .ref (ad 8 (hb_ix ka))])) a = M a := fun a ha => by rw [va_up_ne _ _ (hP1.f (k := 7) (i := (hb_ix ka)) hi_ka ha), va_up_ne _ _ (hP1.f (k := 6) (i := (hb_ix (hs_M S (hb_ix ka) 1))) hib ha)]; exact fr1 a ha
        have hfin : hr_R Z b1 M ad (st_unload S ka) ((hs_V S (hb_ix (hs_M S (hb_ix ka) 1)) 1) + (hs_M S (hb_ix ka) 2)) (va_up (va_up M1 (ad 6 (hb_ix (hs_M S (hb_ix ka) 1))) (hw_ob 10 [.int (hs_V S (hb_ix (hs_M S (hb_ix ka) 1)) 0), .int ((hs_V S (hb_ix (hs_M S (hb_ix ka) 1)) 1) + (hs_M S (hb_ix ka) 2)), .int ((hs_V S (hb_ix (hs_M S (hb_ix ka) 1)) 2) + nI 1), .int (hs_V S (hb_ix (hs_M S (hb_ix ka) 1)) 3), .int (-1)])) (ad 7 (hb_ix ka)) (hw_ob 8 [.int (hs_M S (hb_ix ka) 0), .int (-1), .int (nI 0), .int (hs_M S (hb_ix ka) 3), .ref (ad 8 (hb_ix ka))])) := hr_r (S' := hs_sV (hs_sM S (hb_ix ka) (va_up (va_up (hs_M S (hb_ix ka)) 1 (-1)) 2 0)) (hb_ix (hs_M S (hb_ix ka) 1)) (va_up (va_up (va_up (hs_V S (hb_ix (hs_M S (hb_ix ka) 1))) 1 (hs_V S (hb_ix (hs_M S (hb_ix ka) 1)) 1 + hs_M S (hb_ix ka) 2)) 2 (hs_V S (hb_ix (hs_M S (hb_ix ka) 1)) 2 + nI 1)) 4 (-1))) (X' := X1) (ad' := ad) (by unfold st_unload; exact ((if_neg (fun q => q gk)).trans ((if_neg (fun q => q.elim c30 (fun q => q c38))).trans rfl))) rfl hok ht1 fr_hok
        exact hret hI hfin (Nat.le_of_ble_eq_true rfl) (Nat.le_of_ble_eq_true rfl) dX11_unload_59
      · refine lv_aload_n hx hb dX11_unload_41 rfl (lv_at hl 1 rfl) ?_
        refine lv_iconst (v := nI 2) hx hb dX11_unload_42 (by decide) ?_
        refine hw_ci hI (hw_rV hx hb hml hown hts hk hI (m_X11_no l Z M1 (ad 0 0) (ad 0 2) (ad 0 3) (ad 0 1) (hr_th X1) (hs_G S 0) (hs_G S 1) (nI 2) e0_0hP1) cv_X11_44 e0_0hP1 rfl rfl ⟨rfl, rfl⟩ ⟨(Nat.le_of_ble_eq_true rfl), (Nat.le_of_ble_eq_true rfl)⟩ rfl hl.1 rfl (Nat.le_of_ble_eq_true rfl) ⟨(Nat.le_of_ble_eq_true rfl), (Nat.le_of_ble_eq_true rfl)⟩ dX11_unload_43) (fun r43 M43 H locs hR hI => ?_)
        obtain ⟨rfl, rfl⟩ := hR
        exact hret hI (hr_x (n := 2) (by unfold st_unload; exact (hq_el (fun q => q gk) (hq_if (Or.inr c38) ⟨rfl, rfl⟩))) (by decide) (hP1.th (nI 2)) rfl (fun a ha => (va_up_ne _ _ (hP1.f (k := 0) (i := 0) (show 0 < 4 by decide) ha)).trans (fr1 a ha))) (Nat.le_of_ble_eq_true rfl) (Nat.le_of_ble_eq_true rfl) dX11_unload_46
  · refine lv_aload_n hx hb dX11_unload_12 rfl (lv_at hl 0 rfl) ?_
    refine lv_iconst (v := nI 1) hx hb dX11_unload_13 (by decide) ?_
    refine hw_ci hI (hw_rV hx hb hml hown hts hk hI (m_X11_no l Z M1 (ad 0 0) (ad 0 2) (ad 0 3) (ad 0 1) (hr_th X1) (hs_G S 0) (hs_G S 1) (nI 1) e0_0hP1) cv_X11_44 e0_0hP1 rfl rfl ⟨rfl, rfl⟩ ⟨(Nat.le_of_ble_eq_true rfl), (Nat.le_of_ble_eq_true rfl)⟩ rfl hl.1 rfl (Nat.le_of_ble_eq_true rfl) ⟨(Nat.le_of_ble_eq_true rfl), (Nat.le_of_ble_eq_true rfl)⟩ dX11_unload_14) (fun r14 M14 H locs hR hI => ?_)
    obtain ⟨rfl, rfl⟩ := hR
    exact hret hI (hr_x (n := 1) (by unfold st_unload; exact (hq_if (hq_df c9) ⟨rfl, rfl⟩)) (by decide) (hP1.th (nI 1)) rfl (fun a ha => (va_up_ne _ _ (hP1.f (k := 0) (i := 0) (show 0 < 4 by decide) ha)).trans (fr1 a ha))) (Nat.le_of_ble_eq_true rfl) (Nat.le_of_ble_eq_true rfl) dX11_unload_17

set_option maxHeartbeats 4000000 in
set_option maxRecDepth 100000 in
theorem m_X11_stop (l : Launch) (Z : hw_Z) (M : hw_M) (ad : hp_ad) (S : hs_S) (X : hr_X) (b1 : Nat → Prop) (ka : Int32) (hP : hr_ok Z b1 M ad S X) (hV : hv_ok S) (hA : ∀ a, b1 a → M a ≠ none) : Met l yX11_stop (hw_m yX11_stop cX11_stop 4 (some .int)) ({ frames := 8, cells := 2, slots := 90, locals := 250 } : Room) (va_Pc [.ref (ad 0 0), .int ka] (hw_P Z M)) (hw_Qi Z (hr_R Z b1 M ad (st_stop S ka))) 2 90 (hw_A Z) := by
  refine hw_ofi (by decide +kernel) rfl (Nat.le_of_ble_eq_true rfl) ?_
  intro p e s m below meth c ls Q hx hb hml hown hts hk hnm hI hl hret
  have hB := hV.b
  have hnp := hB.np
  have hnw := hB.nw
  have e0_0hP : M (ad 0 0) = hw_ob 12 [.int (hr_th X), .int (hs_G S 0), .int (hs_G S 1), .ref (ad 0 2), .ref (ad 0 3), .ref (ad 0 1)] := hP.m 0 0 (show 0 < 4 by decide)
  refine lv_aload_n hx hb dX11_stop_0 rfl (lv_at hl 0 rfl) ?_
  refine lv_iconst (v := nI 0) hx hb dX11_stop_1 (by decide) ?_
  refine hw_put (fs' := [.int (nI 0), .int (hs_G S 0), .int (hs_G S 1), .ref (ad 0 2), .ref (ad 0 3), .ref (ad 0 1)]) hx hb hts hown hk hI fp_X11_26 e0_0hP (Nat.le_of_ble_eq_true rfl) rfl rfl rfl dX11_stop_2 (fun H locs hI => ?_)
  obtain ⟨M1, hM1⟩ : ∃ Y : hw_M, Y = va_up M (ad 0 0) (hw_ob 12 [.int (nI 0), .int (hs_G S 0), .int (hs_G S 1), .ref (ad 0 2), .ref (ad 0 3), .ref (ad 0 1)]) := ⟨_, rfl⟩
  replace hI := hI.eq hM1.symm
  obtain ⟨X1, hX1⟩ : ∃ Y : hr_X, Y = (nI 0, X.2) := ⟨_, rfl⟩
  have hP1 : hr_ok Z b1 M1 ad S X1 := by rw [hM1, hX1]; exact hP.th (nI 0)
  have ht1 : hr_th X1 = nI 0 := by rw [hX1]; rfl
  have hgr1 : hr_gr X1 = hr_gr X := by rw [hX1]; rfl
  have hqq1 : hr_qq X1 = hr_qq X := by rw [hX1]; rfl
  have fr1 : ∀ a, b1 a → M1 a = M a := fun a ha => by rw [hM1]; exact va_up_ne _ _ (hP.f (k := 0) (i := 0) (show 0 < 4 by decide) ha)
  have hA1 : ∀ a, b1 a → M1 a ≠ none := fun a ha => by rw [fr1 a ha]; exact hA a ha
  clear hP hX1
  have e0_0hP1 : M1 (ad 0 0) = hw_ob 12 [.int (hr_th X1), .int (hs_G S 0), .int (hs_G S 1), .ref (ad 0 2), .ref (ad 0 3), .ref (ad 0 1)] := hP1.m 0 0 (show 0 < 4 by decide)
  refine lv_iload_n hx hb dX11_stop_5 rfl (lv_at hl 1 rfl) ?_
  refine hw_ci hI (hw_rS hx hb hml hown hts hk hI (m_X11_isMachine l Z M1 ka) cs_X11_115 ⟨rfl, rfl⟩ ⟨(Nat.le_of_ble_eq_true rfl), (Nat.le_of_ble_eq_true rfl)⟩ rfl hl.1 rfl (Nat.le_of_ble_eq_true rfl) ⟨(Nat.le_of_ble_eq_true rfl), (Nat.le_of_ble_eq_true rfl)⟩ dX11_stop_6) (fun r6 M6 H locs hR hI => ?_)
  obtain ⟨rfl, rfl⟩ := hR
  refine lv_if_ne (tgt := 18) hx hb dX11_stop_9 (by decide) (fun c9 => ?_) (fun c9 => ?_)
  · have gk := hq_dt c9
    have hx_ka := hb_okx (by decide) gk
    have hi_ka : hb_ix ka < 2 := hx_ka.1
    have e0_1hP1 : M1 (ad 0 1) = hw_ar Z 6 2 (fun j => some (ad 7 j)) := hP1.m 0 1 (show 1 < 4 by decide)
    have e7_hb_ix_kahP1 : M1 (ad 7 (hb_ix ka)) = hw_ob 8 [.int (hs_M S (hb_ix ka) 0), .int (hs_M S (hb_ix ka) 1), .int (hs_M S (hb_ix ka) 2), .int (hs_M S (hb_ix ka) 3), .ref (ad 8 (hb_ix ka))] := hP1.m 7 (hb_ix ka) hi_ka
    refine lv_aload_n hx hb dX11_stop_18 rfl (lv_at hl 0 rfl) ?_
    refine hw_get hx hb hts hown hk hI fd_X11_22 e0_0hP1 rfl dX11_stop_19 ?_
    refine lv_iload_n hx hb dX11_stop_22 rfl (lv_at hl 1 rfl) ?_
    refine hw_aald hx hb hk hI 6 (v := .ref (ad 7 (hb_ix ka))) e0_1hP1 rfl (j := hb_ix ka) hx_ka.2 hi_ka (by decide) rfl dX11_stop_23 ?_
    refine hw_get hx hb hts hown hk hI fd_X11_127 e7_hb_ix_kahP1 rfl dX11_stop_24 ?_
    refine lv_iconst (v := (-1)) hx hb dX11_stop_27 (by decide) ?_
    refine lv_icmp_ne (tgt := 37) hx hb dX11_stop_28 (by decide) (fun c28 => ?_) (fun c28 => ?_)
    · have gg := hV.mg hi_ka c28
      have hxg := hb_okx (by omega) gg.1
      have hig : hb_ix (hs_M S (hb_ix ka) 3) < hs_np S := hxg.1
      have hig4 : hb_ix (hs_M S (hb_ix ka) 3) < 4 := by omega
      have h11 : 0 = 0 ∧ 0 < hs_np S := ⟨rfl, by omega⟩
      have e0_2hP1 : M1 (ad 0 2) = hw_ob 0 [.int (hr_mc X1 0), .ref (ad 11 0), .int (nI (hs_np S))] := by
        have q := hP1.m 0 2 (show 2 < 4 by decide)
        rw [show hr_e Z ad S X1 0 2 = hw_ob 0 [.int (hr_mc X1 0), .ref (hr_d (hs_np S) Z.2.2.2 (ad 11 0)), .int (nI (hs_np S))] from rfl, hr_d0 h11.2] at q
        exact q
      have e11_0hP1 : M1 (ad 11 0) = hw_ar Z 7 10 (hc_f (ad 1) (hs_np S)) := hP1.m 11 0 h11
      have e1_hb_ix_hs_M_S_hb_ix_ka_3hP1 : M1 (ad 1 (hb_ix (hs_M S (hb_ix ka) 3))) = hw_ob 9 [.ref (ad 2 (hb_ix (hs_M S (hb_ix ka) 3))), .int (hs_P S (hb_ix (hs_M S (hb_ix ka) 3)) 0), .ref (ad 4 (hb_ix (hs_M S (hb_ix ka) 3))), .int (hs_P S (hb_ix (hs_M S (hb_ix ka) 3)) 3), .int (hs_P S (hb_ix (hs_M S (hb_ix ka) 3)) 4), .int (hs_P S (hb_ix (hs_M S (hb_ix ka) 3)) 5), .int (hs_P S (hb_ix (hs_M S (hb_ix ka) 3)) 6), .int (hs_P S (hb_ix (hs_M S (hb_ix ka) 3)) 7), .int (hs_P S (hb_ix (hs_M S (hb_ix ka) 3)) 8)] := hP1.m 1 (hb_ix (hs_M S (hb_ix ka) 3)) hig
      have e4_hb_ix_hs_M_S_hb_ix_ka_3hP1 : M1 (ad 4 (hb_ix (hs_M S (hb_ix ka) 3))) = hw_ob 7 [.double (hr_en (hs_P S (hb_ix (hs_M S (hb_ix ka) 3)))), .ref (ad 5 (hb_ix (hs_M S (hb_ix ka) 3))), .double (hs_U S (hb_ix (hs_M S (hb_ix ka) 3))), .int (hs_P S (hb_ix (hs_M S (hb_ix ka) 3)) 1), .int (hs_P S (hb_ix (hs_M S (hb_ix ka) 3)) 2), .int (nI (hs_D S (hb_ix (hs_M S (hb_ix ka) 3))))] := hP1.m 4 (hb_ix (hs_M S (hb_ix ka) 3)) hig
      have e5_hb_ix_hs_M_S_hb_ix_ka_3hP1 : M1 (ad 5 (hb_ix (hs_M S (hb_ix ka) 3))) = hw_ad Z 64 (hs_W S (hb_ix (hs_M S (hb_ix ka) 3))) := hP1.m 5 (hb_ix (hs_M S (hb_ix ka) 3)) hig
      refine lv_aload_n hx hb dX11_stop_37 rfl (lv_at hl 0 rfl) ?_
      refine hw_get hx hb hts hown hk hI fd_X11_10 e0_0hP1 rfl dX11_stop_38 ?_
      refine lv_aload_n hx hb dX11_stop_41 rfl (lv_at hl 0 rfl) ?_
      refine hw_get hx hb hts hown hk hI fd_X11_22 e0_0hP1 rfl dX11_stop_42 ?_
      refine lv_iload_n hx hb dX11_stop_45 rfl (lv_at hl 1 rfl) ?_
      refine hw_aald hx hb hk hI 6 (v := .ref (ad 7 (hb_ix ka))) e0_1hP1 rfl (j := hb_ix ka) hx_ka.2 hi_ka (by decide) rfl dX11_stop_46 ?_
      refine hw_get hx hb hts hown hk hI fd_X11_127 e7_hb_ix_kahP1 rfl dX11_stop_47 ?_
      refine hw_ti hxg.2 ?_
      refine hw_cFr hI (hw_rF hx hb hml hown hts hk hI (m_Jx4a65c_get_915e3 l Z M1 (ad 0 2) (ad 11 0) (hs_np S) (hb_ix (hs_M S (hb_ix ka) 3)) (ad 1 (hb_ix (hs_M S (hb_ix ka) 3))) (hr_mc X1 0) (hc_f (ad 1) (hs_np S)) e0_2hP1 e11_0hP1 hig (by omega) (if_pos hig)) cf_X11_59 e0_2hP1 rfl rfl ⟨rfl, rfl⟩ ⟨(Nat.le_of_ble_eq_true rfl), (Nat.le_of_ble_eq_true rfl)⟩ rfl hl.1 rfl (Nat.le_of_ble_eq_true rfl) ⟨(Nat.le_of_ble_eq_true rfl), (Nat.le_of_ble_eq_true rfl)⟩ dX11_stop_50) (fun r50 M50 H locs hR hI => ?_)
      obtain ⟨rfl, rfl⟩ := hR
      refine hw_cast hx hb hts hown hk hI e1_hb_ix_hs_M_S_hb_ix_ka_3hP1 rfl (hw_win (w := .classLink RX11 48 RX8) (by decide +kernel) (by decide +kernel)) dX11_stop_55 ?_
      refine lv_astore_n (lv' := [(2, .ref (ad 1 (hb_ix (hs_M S (hb_ix ka) 3)))), (0, .ref (ad 0 0)), (1, .int ka)]) hx hb dX11_stop_58 rfl hl (by decide) rfl (fun ls hl => ?_)
      refine lv_iconst (v := nI 0) hx hb dX11_stop_59 (by decide) ?_
      refine lv_istore_n (lv' := [(3, .int (nI 0)), (2, .ref (ad 1 (hb_ix (hs_M S (hb_ix ka) 3)))), (0, .ref (ad 0 0)), (1, .int ka)]) hx hb dX11_stop_60 rfl hl (by decide) rfl (fun ls hl => ?_)
      suffices LP61 : ∀ i, i ≤ 64 → ∀ (H : Heap) (locs : List Loc) (ls : Array Slot), hw_iv Z s (va_up M1 (ad 5 (hb_ix (hs_M S (hb_ix ka) 3))) (hw_ad Z 64 (hb_mix (fun _ => FP.dconst0) (hs_W S (hb_ix (hs_M S (hb_ix ka) 3))) i))) H locs → lv_has ls 4 [(3, .int (nI i)), (2, .ref (ad 1 (hb_ix (hs_M S (hb_ix ka) 3)))), (0, .ref (ad 0 0)), (1, .int ka)] → W p l e ({ frames := 8, cells := 2, slots := 90, locals := 250 } : Room) s m ([.ref (ad 0 0), .int ka] : List Value).toArray below meth c H locs 0 0 Q (F0 m 61 ls []) from LP61 0 (by omega) _ _ _ (hI.eq (hw_id e5_hb_ix_hs_M_S_hb_ix_ka_3hP1 (hw_adc (hb_mix_0 _ _)))) (lv_sub hl [0, 1, 2, 3] rfl)
      refine hw_loop ?_ (fun i hi61 ih61 => ?_)
      · intro H locs ls hI hl
        refine lv_iload_n hx hb dX11_stop_61 rfl (lv_at hl 0 rfl) ?_
        refine lv_bipush (v := nI 64) hx hb dX11_stop_62 (by decide) ?_
        refine lv_icmp_ge (tgt := 83) hx hb dX11_stop_64 (by decide) (fun _ => ?_) (fun hc => absurd (Int32.le_refl _) hc)
        replace hI := (hI.exd (a := ad 5 (hb_ix (hs_M S (hb_ix ka) 3))) (fun _ => FP.dconst0) (hw_us _ _ _) (fun j hj => hb_mix_lt hj)).eq (bx_uu _ _ _ _)
        refine lv_aload_n hx hb dX11_stop_83 rfl (lv_at hl 1 rfl) ?_
        refine lv_dup hx hb dX11_stop_84 rfl ?_
        refine hw_get hx hb hts hown hk hI fd_X11_186 (hw_up e1_hb_ix_hs_M_S_hb_ix_ka_3hP1 (hP1.n (k := 1) (i := (hb_ix (hs_M S (hb_ix ka) 3))) (k' := 5) (i' := (hb_ix (hs_M S (hb_ix ka) 3))) hig hig (fun q => absurd q.1 (by decide)))) rfl dX11_stop_85 ?_
        refine lv_iconst (v := nI 1) hx hb dX11_stop_88 (by decide) ?_
        refine lv_iadd hx hb dX11_stop_89 ?_
        refine hw_put (fs' := [.ref (ad 2 (hb_ix (hs_M S (hb_ix ka) 3))), .int (hs_P S (hb_ix (hs_M S (hb_ix ka) 3)) 0), .ref (ad 4 (hb_ix (hs_M S (hb_ix ka) 3))), .int ((hs_P S (hb_ix (hs_M S (hb_ix ka) 3)) 3) + (nI 1)), .int (hs_P S (hb_ix (hs_M S (hb_ix ka) 3)) 4), .int (hs_P S (hb_ix (hs_M S (hb_ix ka) 3)) 5), .int (hs_P S (hb_ix (hs_M S (hb_ix ka) 3)) 6), .int (hs_P S (hb_ix (hs_M S (hb_ix ka) 3)) 7), .int (hs_P S (hb_ix (hs_M S (hb_ix ka) 3)) 8)]) hx hb hts hown hk hI fp_X11_186 (hw_up e1_hb_ix_hs_M_S_hb_ix_ka_3hP1 (hP1.n (k := 1) (i := (hb_ix (hs_M S (hb_ix ka) 3))) (k' := 5) (i' := (hb_ix (hs_M S (hb_ix ka) 3))) hig hig (fun q => absurd q.1 (by decide)))) (Nat.le_of_ble_eq_true rfl) rfl rfl rfl dX11_stop_90 (fun H locs hI => ?_)
        refine lv_aload_n hx hb dX11_stop_93 rfl (lv_at hl 1 rfl) ?_
        refine hw_get hx hb hts hown hk hI fd_X11_186 (hw_us _ _ _) rfl dX11_stop_94 ?_
        have hok : hr_ok Z b1 (va_up (va_up M1 (ad 5 (hb_ix (hs_M S (hb_ix ka) 3))) (hw_ad Z 64 (fun _ => FP.dconst0))) (ad 1 (hb_ix (hs_M S (hb_ix ka) 3))) (hw_ob 9 [.ref (ad 2 (hb_ix (hs_M S (hb_ix ka) 3))), .int (hs_P S (hb_ix (hs_M S (hb_ix ka) 3)) 0), .ref (ad 4 (hb_ix (hs_M S (hb_ix ka) 3))), .int ((hs_P S (hb_ix (hs_M S (hb_ix ka) 3)) 3) + (nI 1)), .int (hs_P S (hb_ix (hs_M S (hb_ix ka) 3)) 4), .int (hs_P S (hb_ix (hs_M S (hb_ix ka) 3)) 5), .int (hs_P S (hb_ix (hs_M S (hb_ix ka) 3)) 6), .int (hs_P S (hb_ix (hs_M S (hb_ix ka) 3)) 7), .int (hs_P S (hb_ix (hs_M S (hb_ix ka) 3)) 8)])) ad (hs_sW (hs_sP S (hb_ix (hs_M S (hb_ix ka) 3)) (va_up (hs_P S (hb_ix (hs_M S (hb_ix ka) 3))) 3 (hs_P S (hb_ix (hs_M S (hb_ix ka) 3)) 3 + nI 1))) (hb_ix (hs_M S (hb_ix ka) 3)) (fun _ => FP.dconst0)) (X1) := by
          refine hr_old hP1 (fun _ _ hi => hi) ?_ hP1.q hP1.g
          intro k i hi
          rcases k with _ | _ | _ | _ | _ | _ | _ | _ | _ | _ | _ | _ | _ | k
          · rcases (show i = 0 ∨ i = 1 ∨ i = 2 ∨ i = 3 by have h4 : i < 4 := hi; omega) with rfl | rfl | rfl | rfl
            · show (va_up (va_up M1 (ad 5 (hb_ix (hs_M S (hb_ix ka) 3))) (hw_ad Z 64 (fun _ => FP.dconst0))) (ad 1 (hb_ix (hs_M S (hb_ix ka) 3))) (hw_ob 9 [.ref (ad 2 (hb_ix (hs_M S (hb_ix ka) 3))), .int (hs_P S (hb_ix (hs_M S (hb_ix ka) 3)) 0), .ref (ad 4 (hb_ix (hs_M S (hb_ix ka) 3))), .int ((hs_P S (hb_ix (hs_M S (hb_ix ka) 3)) 3) + (nI 1)), .int (hs_P S (hb_ix (hs_M S (hb_ix ka) 3)) 4), .int (hs_P S (hb_ix (hs_M S (hb_ix ka) 3)) 5), .int (hs_P S (hb_ix (hs_M S (hb_ix ka) 3)) 6), .int (hs_P S (hb_ix (hs_M S (hb_ix ka) 3)) 7), .int (hs_P S (hb_ix (hs_M S (hb_ix ka) 3)) 8)])) (ad 0 0) = hw_ob 12 [.int (hr_th X1), .int (hs_G S 0), .int (hs_G S 1), .ref (ad 0 2), .ref (ad 0 3), .ref (ad 0 1)]
              rw [va_up_ne _ _ (hP1.n (k := 0) (i := 0) (k' := 1) (i' := (hb_ix (hs_M S (hb_ix ka) 3))) (show 0 < 4 by decide) hig (fun q => absurd q.1 (by decide))), va_up_ne _ _ (hP1.n (k := 0) (i := 0) (k' := 5) (i' := (hb_ix (hs_M S (hb_ix ka) 3))) (show 0 < 4 by decide) hig (fun q => absurd q.1 (by decide)))]
              refine (hP1.m 0 0 (show 0 < 4 by decide)).trans ?_
              first | rfl | (simp only [va_up_self]; done) | (simp only [va_up_self]; rfl)
            · show (va_up (va_up M1 (ad 5 (hb_ix (hs_M S (hb_ix ka) 3))) (hw_ad Z 64 (fun _ => FP.dconst0))) (ad 1 (hb_ix (hs_M S (hb_ix ka) 3))) (hw_ob 9 [.ref (ad 2 (hb_ix (hs_M S (hb_ix ka) 3))), .int (hs_P S (hb_ix (hs_M S (hb_ix ka) 3)) 0), .ref (ad 4 (hb_ix (hs_M S (hb_ix ka) 3))), .int ((hs_P S (hb_ix (hs_M S (hb_ix ka) 3)) 3) + (nI 1)), .int (hs_P S (hb_ix (hs_M S (hb_ix ka) 3)) 4), .int (hs_P S (hb_ix (hs_M S (hb_ix ka) 3)) 5), .int (hs_P S (hb_ix (hs_M S (hb_ix ka) 3)) 6), .int (hs_P S (hb_ix (hs_M S (hb_ix ka) 3)) 7), .int (hs_P S (hb_ix (hs_M S (hb_ix ka) 3)) 8)])) (ad 0 1) = hw_ar Z 6 2 (fun j => some (ad 7 j))
              rw [va_up_ne _ _ (hP1.n (k := 0) (i := 1) (k' := 1) (i' := (hb_ix (hs_M S (hb_ix ka) 3))) (show 1 < 4 by decide) hig (fun q => absurd q.1 (by decide))), va_up_ne _ _ (hP1.n (k := 0) (i := 1) (k' := 5) (i' := (hb_ix (hs_M S (hb_ix ka) 3))) (show 1 < 4 by decide) hig (fun q => absurd q.1 (by decide)))]
              refine (hP1.m 0 1 (show 1 < 4 by decide)).trans ?_
              first | rfl | (simp only [va_up_self]; done) | (simp only [va_up_self]; rfl)
            · show (va_up (va_up M1 (ad 5 (hb_ix (hs_M S (hb_ix ka) 3))) (hw_ad Z 64 (fun _ => FP.dconst0))) (ad 1 (hb_ix (hs_M S (hb_ix ka) 3))) (hw_ob 9 [.ref (ad 2 (hb_ix (hs_M S (hb_ix ka) 3))), .int (hs_P S (hb_ix (hs_M S (hb_ix ka) 3)) 0), .ref (ad 4 (hb_ix (hs_M S (hb_ix ka) 3))), .int ((hs_P S (hb_ix (hs_M S (hb_ix ka) 3)) 3) + (nI 1)), .int (hs_P S (hb_ix (hs_M S (hb_ix ka) 3)) 4), .int (hs_P S (hb_ix (hs_M S (hb_ix ka) 3)) 5), .int (hs_P S (hb_ix (hs_M S (hb_ix ka) 3)) 6), .int (hs_P S (hb_ix (hs_M S (hb_ix ka) 3)) 7), .int (hs_P S (hb_ix (hs_M S (hb_ix ka) 3)) 8)])) (ad 0 2) = hw_ob 0 [.int (hr_mc X1 0), .ref (hr_d (hs_np S) Z.2.2.2 (ad 11 0)), .int (nI (hs_np S))]
              rw [va_up_ne _ _ (hP1.n (k := 0) (i := 2) (k' := 1) (i' := (hb_ix (hs_M S (hb_ix ka) 3))) (show 2 < 4 by decide) hig (fun q => absurd q.1 (by decide))), va_up_ne _ _ (hP1.n (k := 0) (i := 2) (k' := 5) (i' := (hb_ix (hs_M S (hb_ix ka) 3))) (show 2 < 4 by decide) hig (fun q => absurd q.1 (by decide)))]
              refine (hP1.m 0 2 (show 2 < 4 by decide)).trans ?_
              first | rfl | (simp only [va_up_self]; done) | (simp only [va_up_self]; rfl)
            · show (va_up (va_up M1 (ad 5 (hb_ix (hs_M S (hb_ix ka) 3))) (hw_ad Z 64 (fun _ => FP.dconst0))) (ad 1 (hb_ix (hs_M S (hb_ix ka) 3))) (hw_ob 9 [.ref (ad 2 (hb_ix (hs_M S (hb_ix ka) 3))), .int (hs_P S (hb_ix (hs_M S (hb_ix ka) 3)) 0), .ref (ad 4 (hb_ix (hs_M S (hb_ix ka) 3))), .int ((hs_P S (hb_ix (hs_M S (hb_ix ka) 3)) 3) + (nI 1)), .int (hs_P S (hb_ix (hs_M S (hb_ix ka) 3)) 4), .int (hs_P S (hb_ix (hs_M S (hb_ix ka) 3)) 5), .int (hs_P S (hb_ix (hs_M S (hb_ix ka) 3)) 6), .int (hs_P S (hb_ix (hs_M S (hb_ix ka) 3)) 7), .int (hs_P S (hb_ix (hs_M S (hb_ix ka) 3)) 8)])) (ad 0 3) = hw_ob 0 [.int (hr_mc X1 1), .ref (hr_d (hs_nw S) Z.2.2.2 (ad 12 0)), .int (nI (hs_nw S))]
              rw [va_up_ne _ _ (hP1.n (k := 0) (i := 3) (k' := 1) (i' := (hb_ix (hs_M S (hb_ix ka) 3))) (show 3 < 4 by decide) hig (fun q => absurd q.1 (by decide))), va_up_ne _ _ (hP1.n (k := 0) (i := 3) (k' := 5) (i' := (hb_ix (hs_M S (hb_ix ka) 3))) (show 3 < 4 by decide) hig (fun q => absurd q.1 (by decide)))]
              refine (hP1.m 0 3 (show 3 < 4 by decide)).trans ?_
              first | rfl | (simp only [va_up_self]; done) | (simp only [va_up_self]; rfl)
          · by_cases q0 : i = (hb_ix (hs_M S (hb_ix ka) 3))
            · subst q0
              show (va_up (va_up M1 (ad 5 (hb_ix (hs_M S (hb_ix ka) 3))) (hw_ad Z 64 (fun _ => FP.dconst0))) (ad 1 (hb_ix (hs_M S (hb_ix ka) 3))) (hw_ob 9 [.ref (ad 2 (hb_ix (hs_M S (hb_ix ka) 3))), .int (hs_P S (hb_ix (hs_M S (hb_ix ka) 3)) 0), .ref (ad 4 (hb_ix (hs_M S (hb_ix ka) 3))), .int ((hs_P S (hb_ix (hs_M S (hb_ix ka) 3)) 3) + (nI 1)), .int (hs_P S (hb_ix (hs_M S (hb_ix ka) 3)) 4), .int (hs_P S (hb_ix (hs_M S (hb_ix ka) 3)) 5), .int (hs_P S (hb_ix (hs_M S (hb_ix ka) 3)) 6), .int (hs_P S (hb_ix (hs_M S (hb_ix ka) 3)) 7), .int (hs_P S (hb_ix (hs_M S (hb_ix ka) 3)) 8)])) (ad 1 (hb_ix (hs_M S (hb_ix ka) 3))) = hw_ob 9 [.ref (ad 2 (hb_ix (hs_M S (hb_ix ka) 3))), .int ((va_up (hs_P S) (hb_ix (hs_M S (hb_ix ka) 3)) (va_up (hs_P S (hb_ix (hs_M S (hb_ix ka) 3))) 3 (hs_P S (hb_ix (hs_M S (hb_ix ka) 3)) 3 + nI 1))) (hb_ix (hs_M S (hb_ix ka) 3)) 0), .ref (ad 4 (hb_ix (hs_M S (hb_ix ka) 3))), .int ((va_up (hs_P S) (hb_ix (hs_M S (hb_ix ka) 3)) (va_up (hs_P S (hb_ix (hs_M S (hb_ix ka) 3))) 3 (hs_P S (hb_ix (hs_M S (hb_ix ka) 3)) 3 + nI 1))) (hb_ix (hs_M S (hb_ix ka) 3)) 3), .int ((va_up (hs_P S) (hb_ix (hs_M S (hb_ix ka) 3)) (va_up (hs_P S (hb_ix (hs_M S (hb_ix ka) 3))) 3 (hs_P S (hb_ix (hs_M S (hb_ix ka) 3)) 3 + nI 1))) (hb_ix (hs_M S (hb_ix ka) 3)) 4), .int ((va_up (hs_P S) (hb_ix (hs_M S (hb_ix ka) 3)) (va_up (hs_P S (hb_ix (hs_M S (hb_ix ka) 3))) 3 (hs_P S (hb_ix (hs_M S (hb_ix ka) 3)) 3 + nI 1))) (hb_ix (hs_M S (hb_ix ka) 3)) 5), .int ((va_up (hs_P S) (hb_ix (hs_M S (hb_ix ka) 3)) (va_up (hs_P S (hb_ix (hs_M S (hb_ix ka) 3))) 3 (hs_P S (hb_ix (hs_M S (hb_ix ka) 3)) 3 + nI 1))) (hb_ix (hs_M S (hb_ix ka) 3)) 6), .int ((va_up (hs_P S) (hb_ix (hs_M S (hb_ix ka) 3)) (va_up (hs_P S (hb_ix (hs_M S (hb_ix ka) 3))) 3 (hs_P S (hb_ix (hs_M S (hb_ix ka) 3)) 3 + nI 1))) (hb_ix (hs_M S (hb_ix ka) 3)) 7), .int ((va_up (hs_P S) (hb_ix (hs_M S (hb_ix ka) 3)) (va_up (hs_P S (hb_ix (hs_M S (hb_ix ka) 3))) 3 (hs_P S (hb_ix (hs_M S (hb_ix ka) 3)) 3 + nI 1))) (hb_ix (hs_M S (hb_ix ka) 3)) 8)]
              refine (hw_us _ _ _).trans ?_
              first | rfl | (simp only [va_up_self]; done) | (simp only [va_up_self]; rfl)
            show (va_up (va_up M1 (ad 5 (hb_ix (hs_M S (hb_ix ka) 3))) (hw_ad Z 64 (fun _ => FP.dconst0))) (ad 1 (hb_ix (hs_M S (hb_ix ka) 3))) (hw_ob 9 [.ref (ad 2 (hb_ix (hs_M S (hb_ix ka) 3))), .int (hs_P S (hb_ix (hs_M S (hb_ix ka) 3)) 0), .ref (ad 4 (hb_ix (hs_M S (hb_ix ka) 3))), .int ((hs_P S (hb_ix (hs_M S (hb_ix ka) 3)) 3) + (nI 1)), .int (hs_P S (hb_ix (hs_M S (hb_ix ka) 3)) 4), .int (hs_P S (hb_ix (hs_M S (hb_ix ka) 3)) 5), .int (hs_P S (hb_ix (hs_M S (hb_ix ka) 3)) 6), .int (hs_P S (hb_ix (hs_M S (hb_ix ka) 3)) 7), .int (hs_P S (hb_ix (hs_M S (hb_ix ka) 3)) 8)])) (ad 1 i) = hw_ob 9 [.ref (ad 2 i), .int ((va_up (hs_P S) (hb_ix (hs_M S (hb_ix ka) 3)) (va_up (hs_P S (hb_ix (hs_M S (hb_ix ka) 3))) 3 (hs_P S (hb_ix (hs_M S (hb_ix ka) 3)) 3 + nI 1))) i 0), .ref (ad 4 i), .int ((va_up (hs_P S) (hb_ix (hs_M S (hb_ix ka) 3)) (va_up (hs_P S (hb_ix (hs_M S (hb_ix ka) 3))) 3 (hs_P S (hb_ix (hs_M S (hb_ix ka) 3)) 3 + nI 1))) i 3), .int ((va_up (hs_P S) (hb_ix (hs_M S (hb_ix ka) 3)) (va_up (hs_P S (hb_ix (hs_M S (hb_ix ka) 3))) 3 (hs_P S (hb_ix (hs_M S (hb_ix ka) 3)) 3 + nI 1))) i 4), .int ((va_up (hs_P S) (hb_ix (hs_M S (hb_ix ka) 3)) (va_up (hs_P S (hb_ix (hs_M S (hb_ix ka) 3))) 3 (hs_P S (hb_ix (hs_M S (hb_ix ka) 3)) 3 + nI 1))) i 5), .int ((va_up (hs_P S) (hb_ix (hs_M S (hb_ix ka) 3)) (va_up (hs_P S (hb_ix (hs_M S (hb_ix ka) 3))) 3 (hs_P S (hb_ix (hs_M S (hb_ix ka) 3)) 3 + nI 1))) i 6), .int ((va_up (hs_P S) (hb_ix (hs_M S (hb_ix ka) 3)) (va_up (hs_P S (hb_ix (hs_M S (hb_ix ka) 3))) 3 (hs_P S (hb_ix (hs_M S (hb_ix ka) 3)) 3 + nI 1))) i 7), .int ((va_up (hs_P S) (hb_ix (hs_M S (hb_ix ka) 3)) (va_up (hs_P S (hb_ix (hs_M S (hb_ix ka) 3))) 3 (hs_P S (hb_ix (hs_M S (hb_ix ka) 3)) 3 + nI 1))) i 8)]
            rw [va_up_ne _ _ (hP1.n (k := 1) (i := i) (k' := 1) (i' := (hb_ix (hs_M S (hb_ix ka) 3))) hi hig (fun q => q0 q.2)), va_up_ne _ _ (hP1.n (k := 1) (i := i) (k' := 5) (i' := (hb_ix (hs_M S (hb_ix ka) 3))) hi hig (fun q => absurd q.1 (by decide)))]
            refine (hP1.m 1 i hi).trans ?_
            first | rfl | (simp only [va_up_ne _ _ q0]; done) | (simp only [va_up_ne _ _ q0]; rfl)
          · show (va_up (va_up M1 (ad 5 (hb_ix (hs_M S (hb_ix ka) 3))) (hw_ad Z 64 (fun _ => FP.dconst0))) (ad 1 (hb_ix (hs_M S (hb_ix ka) 3))) (hw_ob 9 [.ref (ad 2 (hb_ix (hs_M S (hb_ix ka) 3))), .int (hs_P S (hb_ix (hs_M S (hb_ix ka) 3)) 0), .ref (ad 4 (hb_ix (hs_M S (hb_ix ka) 3))), .int ((hs_P S (hb_ix (hs_M S (hb_ix ka) 3)) 3) + (nI 1)), .int (hs_P S (hb_ix (hs_M S (hb_ix ka) 3)) 4), .int (hs_P S (hb_ix (hs_M S (hb_ix ka) 3)) 5), .int (hs_P S (hb_ix (hs_M S (hb_ix ka) 3)) 6), .int (hs_P S (hb_ix (hs_M S (hb_ix ka) 3)) 7), .int (hs_P S (hb_ix (hs_M S (hb_ix ka) 3)) 8)])) (ad 2 i) = hw_ob 11 [.ref (ad 3 i)]
            rw [va_up_ne _ _ (hP1.n (k := 2) (i := i) (k' := 1) (i' := (hb_ix (hs_M S (hb_ix ka) 3))) hi hig (fun q => absurd q.1 (by decide))), va_up_ne _ _ (hP1.n (k := 2) (i := i) (k' := 5) (i' := (hb_ix (hs_M S (hb_ix ka) 3))) hi hig (fun q => absurd q.1 (by decide)))]
            refine (hP1.m 2 i hi).trans ?_
            first | rfl
          · show (va_up (va_up M1 (ad 5 (hb_ix (hs_M S (hb_ix ka) 3))) (hw_ad Z 64 (fun _ => FP.dconst0))) (ad 1 (hb_ix (hs_M S (hb_ix ka) 3))) (hw_ob 9 [.ref (ad 2 (hb_ix (hs_M S (hb_ix ka) 3))), .int (hs_P S (hb_ix (hs_M S (hb_ix ka) 3)) 0), .ref (ad 4 (hb_ix (hs_M S (hb_ix ka) 3))), .int ((hs_P S (hb_ix (hs_M S (hb_ix ka) 3)) 3) + (nI 1)), .int (hs_P S (hb_ix (hs_M S (hb_ix ka) 3)) 4), .int (hs_P S (hb_ix (hs_M S (hb_ix ka) 3)) 5), .int (hs_P S (hb_ix (hs_M S (hb_ix ka) 3)) 6), .int (hs_P S (hb_ix (hs_M S (hb_ix ka) 3)) 7), .int (hs_P S (hb_ix (hs_M S (hb_ix ka) 3)) 8)])) (ad 3 i) = hw_al Z 8 (hs_C S i)
            rw [va_up_ne _ _ (hP1.n (k := 3) (i := i) (k' := 1) (i' := (hb_ix (hs_M S (hb_ix ka) 3))) hi hig (fun q => absurd q.1 (by decide))), va_up_ne _ _ (hP1.n (k := 3) (i := i) (k' := 5) (i' := (hb_ix (hs_M S (hb_ix ka) 3))) hi hig (fun q => absurd q.1 (by decide)))]
            refine (hP1.m 3 i hi).trans ?_
            first | rfl
          · by_cases q0 : i = (hb_ix (hs_M S (hb_ix ka) 3))
            · subst q0
              show (va_up (va_up M1 (ad 5 (hb_ix (hs_M S (hb_ix ka) 3))) (hw_ad Z 64 (fun _ => FP.dconst0))) (ad 1 (hb_ix (hs_M S (hb_ix ka) 3))) (hw_ob 9 [.ref (ad 2 (hb_ix (hs_M S (hb_ix ka) 3))), .int (hs_P S (hb_ix (hs_M S (hb_ix ka) 3)) 0), .ref (ad 4 (hb_ix (hs_M S (hb_ix ka) 3))), .int ((hs_P S (hb_ix (hs_M S (hb_ix ka) 3)) 3) + (nI 1)), .int (hs_P S (hb_ix (hs_M S (hb_ix ka) 3)) 4), .int (hs_P S (hb_ix (hs_M S (hb_ix ka) 3)) 5), .int (hs_P S (hb_ix (hs_M S (hb_ix ka) 3)) 6), .int (hs_P S (hb_ix (hs_M S (hb_ix ka) 3)) 7), .int (hs_P S (hb_ix (hs_M S (hb_ix ka) 3)) 8)])) (ad 4 (hb_ix (hs_M S (hb_ix ka) 3))) = hw_ob 7 [.double (hr_en ((va_up (hs_P S) (hb_ix (hs_M S (hb_ix ka) 3)) (va_up (hs_P S (hb_ix (hs_M S (hb_ix ka) 3))) 3 (hs_P S (hb_ix (hs_M S (hb_ix ka) 3)) 3 + nI 1))) (hb_ix (hs_M S (hb_ix ka) 3)))), .ref (ad 5 (hb_ix (hs_M S (hb_ix ka) 3))), .double (hs_U S (hb_ix (hs_M S (hb_ix ka) 3))), .int ((va_up (hs_P S) (hb_ix (hs_M S (hb_ix ka) 3)) (va_up (hs_P S (hb_ix (hs_M S (hb_ix ka) 3))) 3 (hs_P S (hb_ix (hs_M S (hb_ix ka) 3)) 3 + nI 1))) (hb_ix (hs_M S (hb_ix ka) 3)) 1), .int ((va_up (hs_P S) (hb_ix (hs_M S (hb_ix ka) 3)) (va_up (hs_P S (hb_ix (hs_M S (hb_ix ka) 3))) 3 (hs_P S (hb_ix (hs_M S (hb_ix ka) 3)) 3 + nI 1))) (hb_ix (hs_M S (hb_ix ka) 3)) 2), .int (nI (hs_D S (hb_ix (hs_M S (hb_ix ka) 3))))]
              rw [va_up_ne _ _ (hP1.n (k := 4) (i := (hb_ix (hs_M S (hb_ix ka) 3))) (k' := 1) (i' := (hb_ix (hs_M S (hb_ix ka) 3))) hig hig (fun q => absurd q.1 (by decide))), va_up_ne _ _ (hP1.n (k := 4) (i := (hb_ix (hs_M S (hb_ix ka) 3))) (k' := 5) (i' := (hb_ix (hs_M S (hb_ix ka) 3))) hig hig (fun q => absurd q.1 (by decide)))]
              refine (hP1.m 4 (hb_ix (hs_M S (hb_ix ka) 3)) hig).trans ?_
              show hw_ob 7 [.double (hr_en (hs_P S (hb_ix (hs_M S (hb_ix ka) 3)))), .ref (ad 5 (hb_ix (hs_M S (hb_ix ka) 3))), .double (hs_U S (hb_ix (hs_M S (hb_ix ka) 3))), .int (hs_P S (hb_ix (hs_M S (hb_ix ka) 3)) 1), .int (hs_P S (hb_ix (hs_M S (hb_ix ka) 3)) 2), .int (nI (hs_D S (hb_ix (hs_M S (hb_ix ka) 3))))] = _
              first | rfl | (simp only [va_up_self]; done) | (simp only [va_up_self]; rfl)
            show (va_up (va_up M1 (ad 5 (hb_ix (hs_M S (hb_ix ka) 3))) (hw_ad Z 64 (fun _ => FP.dconst0))) (ad 1 (hb_ix (hs_M S (hb_ix ka) 3))) (hw_ob 9 [.ref (ad 2 (hb_ix (hs_M S (hb_ix ka) 3))), .int (hs_P S (hb_ix (hs_M S (hb_ix ka) 3)) 0), .ref (ad 4 (hb_ix (hs_M S (hb_ix ka) 3))), .int ((hs_P S (hb_ix (hs_M S (hb_ix ka) 3)) 3) + (nI 1)), .int (hs_P S (hb_ix (hs_M S (hb_ix ka) 3)) 4), .int (hs_P S (hb_ix (hs_M S (hb_ix ka) 3)) 5), .int (hs_P S (hb_ix (hs_M S (hb_ix ka) 3)) 6), .int (hs_P S (hb_ix (hs_M S (hb_ix ka) 3)) 7), .int (hs_P S (hb_ix (hs_M S (hb_ix ka) 3)) 8)])) (ad 4 i) = hw_ob 7 [.double (hr_en ((va_up (hs_P S) (hb_ix (hs_M S (hb_ix ka) 3)) (va_up (hs_P S (hb_ix (hs_M S (hb_ix ka) 3))) 3 (hs_P S (hb_ix (hs_M S (hb_ix ka) 3)) 3 + nI 1))) i)), .ref (ad 5 i), .double (hs_U S i), .int ((va_up (hs_P S) (hb_ix (hs_M S (hb_ix ka) 3)) (va_up (hs_P S (hb_ix (hs_M S (hb_ix ka) 3))) 3 (hs_P S (hb_ix (hs_M S (hb_ix ka) 3)) 3 + nI 1))) i 1), .int ((va_up (hs_P S) (hb_ix (hs_M S (hb_ix ka) 3)) (va_up (hs_P S (hb_ix (hs_M S (hb_ix ka) 3))) 3 (hs_P S (hb_ix (hs_M S (hb_ix ka) 3)) 3 + nI 1))) i 2), .int (nI (hs_D S i))]
            rw [va_up_ne _ _ (hP1.n (k := 4) (i := i) (k' := 1) (i' := (hb_ix (hs_M S (hb_ix ka) 3))) hi hig (fun q => absurd q.1 (by decide))), va_up_ne _ _ (hP1.n (k := 4) (i := i) (k' := 5) (i' := (hb_ix (hs_M S (hb_ix ka) 3))) hi hig (fun q => absurd q.1 (by decide)))]
            refine (hP1.m 4 i hi).trans ?_
            first | rfl | (simp only [va_up_ne _ _ q0]; done) | (simp only [va_up_ne _ _ q0]; rfl)
          · by_cases q0 : i = (hb_ix (hs_M S (hb_ix ka) 3))
            · subst q0
              show (va_up (va_up M1 (ad 5 (hb_ix (hs_M S (hb_ix ka) 3))) (hw_ad Z 64 (fun _ => FP.dconst0))) (ad 1 (hb_ix (hs_M S (hb_ix ka) 3))) (hw_ob 9 [.ref (ad 2 (hb_ix (hs_M S (hb_ix ka) 3))), .int (hs_P S (hb_ix (hs_M S (hb_ix ka) 3)) 0), .ref (ad 4 (hb_ix (hs_M S (hb_ix ka) 3))), .int ((hs_P S (hb_ix (hs_M S (hb_ix ka) 3)) 3) + (nI 1)), .int (hs_P S (hb_ix (hs_M S (hb_ix ka) 3)) 4), .int (hs_P S (hb_ix (hs_M S (hb_ix ka) 3)) 5), .int (hs_P S (hb_ix (hs_M S (hb_ix ka) 3)) 6), .int (hs_P S (hb_ix (hs_M S (hb_ix ka) 3)) 7), .int (hs_P S (hb_ix (hs_M S (hb_ix ka) 3)) 8)])) (ad 5 (hb_ix (hs_M S (hb_ix ka) 3))) = hw_ad Z 64 ((va_up (hs_W S) (hb_ix (hs_M S (hb_ix ka) 3)) (fun _ => FP.dconst0)) (hb_ix (hs_M S (hb_ix ka) 3)))
              refine (hw_up (hw_us _ _ _) (hP1.n (k := 5) (i := (hb_ix (hs_M S (hb_ix ka) 3))) (k' := 1) (i' := (hb_ix (hs_M S (hb_ix ka) 3))) hig hig (fun q => absurd q.1 (by decide)))).trans ?_
              first | rfl | (simp only [va_up_self]; done) | (simp only [va_up_self]; rfl)
            show (va_up (va_up M1 (ad 5 (hb_ix (hs_M S (hb_ix ka) 3))) (hw_ad Z 64 (fun _ => FP.dconst0))) (ad 1 (hb_ix (hs_M S (hb_ix ka) 3))) (hw_ob 9 [.ref (ad 2 (hb_ix (hs_M S (hb_ix ka) 3))), .int (hs_P S (hb_ix (hs_M S (hb_ix ka) 3)) 0), .ref (ad 4 (hb_ix (hs_M S (hb_ix ka) 3))), .int ((hs_P S (hb_ix (hs_M S (hb_ix ka) 3)) 3) + (nI 1)), .int (hs_P S (hb_ix (hs_M S (hb_ix ka) 3)) 4), .int (hs_P S (hb_ix (hs_M S (hb_ix ka) 3)) 5), .int (hs_P S (hb_ix (hs_M S (hb_ix ka) 3)) 6), .int (hs_P S (hb_ix (hs_M S (hb_ix ka) 3)) 7), .int (hs_P S (hb_ix (hs_M S (hb_ix ka) 3)) 8)])) (ad 5 i) = hw_ad Z 64 ((va_up (hs_W S) (hb_ix (hs_M S (hb_ix ka) 3)) (fun _ => FP.dconst0)) i)
            rw [va_up_ne _ _ (hP1.n (k := 5) (i := i) (k' := 1) (i' := (hb_ix (hs_M S (hb_ix ka) 3))) hi hig (fun q => absurd q.1 (by decide))), va_up_ne _ _ (hP1.n (k := 5) (i := i) (k' := 5) (i' := (hb_ix (hs_M S (hb_ix ka) 3))) hi hig (fun q => q0 q.2))]
            refine (hP1.m 5 i hi).trans ?_
            first | rfl | (simp only [va_up_ne _ _ q0]; done) | (simp only [va_up_ne _ _ q0]; rfl)
          · show (va_up (va_up M1 (ad 5 (hb_ix (hs_M S (hb_ix ka) 3))) (hw_ad Z 64 (fun _ => FP.dconst0))) (ad 1 (hb_ix (hs_M S (hb_ix ka) 3))) (hw_ob 9 [.ref (ad 2 (hb_ix (hs_M S (hb_ix ka) 3))), .int (hs_P S (hb_ix (hs_M S (hb_ix ka) 3)) 0), .ref (ad 4 (hb_ix (hs_M S (hb_ix ka) 3))), .int ((hs_P S (hb_ix (hs_M S (hb_ix ka) 3)) 3) + (nI 1)), .int (hs_P S (hb_ix (hs_M S (hb_ix ka) 3)) 4), .int (hs_P S (hb_ix (hs_M S (hb_ix ka) 3)) 5), .int (hs_P S (hb_ix (hs_M S (hb_ix ka) 3)) 6), .int (hs_P S (hb_ix (hs_M S (hb_ix ka) 3)) 7), .int (hs_P S (hb_ix (hs_M S (hb_ix ka) 3)) 8)])) (ad 6 i) = hw_ob 10 [.int (hs_V S i 0), .int (hs_V S i 1), .int (hs_V S i 2), .int (hs_V S i 3), .int (hs_V S i 4)]
            rw [va_up_ne _ _ (hP1.n (k := 6) (i := i) (k' := 1) (i' := (hb_ix (hs_M S (hb_ix ka) 3))) hi hig (fun q => absurd q.1 (by decide))), va_up_ne _ _ (hP1.n (k := 6) (i := i) (k' := 5) (i' := (hb_ix (hs_M S (hb_ix ka) 3))) hi hig (fun q => absurd q.1 (by decide)))]
            refine (hP1.m 6 i hi).trans ?_
            first | rfl
          · show (va_up (va_up M1 (ad 5 (hb_ix (hs_M S (hb_ix ka) 3))) (hw_ad Z 64 (fun _ => FP.dconst0))) (ad 1 (hb_ix (hs_M S (hb_ix ka) 3))) (hw_ob 9 [.ref (ad 2 (hb_ix (hs_M S (hb_ix ka) 3))), .int (hs_P S (hb_ix (hs_M S (hb_ix ka) 3)) 0), .ref (ad 4 (hb_ix (hs_M S (hb_ix ka) 3))), .int ((hs_P S (hb_ix (hs_M S (hb_ix ka) 3)) 3) + (nI 1)), .int (hs_P S (hb_ix (hs_M S (hb_ix ka) 3)) 4), .int (hs_P S (hb_ix (hs_M S (hb_ix ka) 3)) 5), .int (hs_P S (hb_ix (hs_M S (hb_ix ka) 3)) 6), .int (hs_P S (hb_ix (hs_M S (hb_ix ka) 3)) 7), .int (hs_P S (hb_ix (hs_M S (hb_ix ka) 3)) 8)])) (ad 7 i) = hw_ob 8 [.int (hs_M S i 0), .int (hs_M S i 1), .int (hs_M S i 2), .int (hs_M S i 3), .ref (ad 8 i)]
            rw [va_up_ne _ _ (hP1.n (k := 7) (i := i) (k' := 1) (i' := (hb_ix (hs_M S (hb_ix ka) 3))) hi hig (fun q => absurd q.1 (by decide))), va_up_ne _ _ (hP1.n (k := 7) (i := i) (k' := 5) (i' := (hb_ix (hs_M S (hb_ix ka) 3))) hi hig (fun q => absurd q.1 (by decide)))]
            refine (hP1.m 7 i hi).trans ?_
            first | rfl
          · show (va_up (va_up M1 (ad 5 (hb_ix (hs_M S (hb_ix ka) 3))) (hw_ad Z 64 (fun _ => FP.dconst0))) (ad 1 (hb_ix (hs_M S (hb_ix ka) 3))) (hw_ob 9 [.ref (ad 2 (hb_ix (hs_M S (hb_ix ka) 3))), .int (hs_P S (hb_ix (hs_M S (hb_ix ka) 3)) 0), .ref (ad 4 (hb_ix (hs_M S (hb_ix ka) 3))), .int ((hs_P S (hb_ix (hs_M S (hb_ix ka) 3)) 3) + (nI 1)), .int (hs_P S (hb_ix (hs_M S (hb_ix ka) 3)) 4), .int (hs_P S (hb_ix (hs_M S (hb_ix ka) 3)) 5), .int (hs_P S (hb_ix (hs_M S (hb_ix ka) 3)) 6), .int (hs_P S (hb_ix (hs_M S (hb_ix ka) 3)) 7), .int (hs_P S (hb_ix (hs_M S (hb_ix ka) 3)) 8)])) (ad 8 i) = hw_ob 0 [.int (hr_mc X1 (2 + i)), .ref (if hr_gr X1 i then ad 9 i else Z.2.2.2), .int (nI (hs_N S i))]
            rw [va_up_ne _ _ (hP1.n (k := 8) (i := i) (k' := 1) (i' := (hb_ix (hs_M S (hb_ix ka) 3))) hi hig (fun q => absurd q.1 (by decide))), va_up_ne _ _ (hP1.n (k := 8) (i := i) (k' := 5) (i' := (hb_ix (hs_M S (hb_ix ka) 3))) hi hig (fun q => absurd q.1 (by decide)))]
            refine (hP1.m 8 i hi).trans ?_
            first | rfl
          · show (va_up (va_up M1 (ad 5 (hb_ix (hs_M S (hb_ix ka) 3))) (hw_ad Z 64 (fun _ => FP.dconst0))) (ad 1 (hb_ix (hs_M S (hb_ix ka) 3))) (hw_ob 9 [.ref (ad 2 (hb_ix (hs_M S (hb_ix ka) 3))), .int (hs_P S (hb_ix (hs_M S (hb_ix ka) 3)) 0), .ref (ad 4 (hb_ix (hs_M S (hb_ix ka) 3))), .int ((hs_P S (hb_ix (hs_M S (hb_ix ka) 3)) 3) + (nI 1)), .int (hs_P S (hb_ix (hs_M S (hb_ix ka) 3)) 4), .int (hs_P S (hb_ix (hs_M S (hb_ix ka) 3)) 5), .int (hs_P S (hb_ix (hs_M S (hb_ix ka) 3)) 6), .int (hs_P S (hb_ix (hs_M S (hb_ix ka) 3)) 7), .int (hs_P S (hb_ix (hs_M S (hb_ix ka) 3)) 8)])) (ad 9 i) = hw_ar Z 7 10 (hc_f (fun j => ad 10 (i + 2 * j)) (hs_N S i))
            rw [va_up_ne _ _ (hP1.n (k := 9) (i := i) (k' := 1) (i' := (hb_ix (hs_M S (hb_ix ka) 3))) hi hig (fun q => absurd q.1 (by decide))), va_up_ne _ _ (hP1.n (k := 9) (i := i) (k' := 5) (i' := (hb_ix (hs_M S (hb_ix ka) 3))) hi hig (fun q => absurd q.1 (by decide)))]
            refine (hP1.m 9 i hi).trans ?_
            first | rfl
          · show (va_up (va_up M1 (ad 5 (hb_ix (hs_M S (hb_ix ka) 3))) (hw_ad Z 64 (fun _ => FP.dconst0))) (ad 1 (hb_ix (hs_M S (hb_ix ka) 3))) (hw_ob 9 [.ref (ad 2 (hb_ix (hs_M S (hb_ix ka) 3))), .int (hs_P S (hb_ix (hs_M S (hb_ix ka) 3)) 0), .ref (ad 4 (hb_ix (hs_M S (hb_ix ka) 3))), .int ((hs_P S (hb_ix (hs_M S (hb_ix ka) 3)) 3) + (nI 1)), .int (hs_P S (hb_ix (hs_M S (hb_ix ka) 3)) 4), .int (hs_P S (hb_ix (hs_M S (hb_ix ka) 3)) 5), .int (hs_P S (hb_ix (hs_M S (hb_ix ka) 3)) 6), .int (hs_P S (hb_ix (hs_M S (hb_ix ka) 3)) 7), .int (hs_P S (hb_ix (hs_M S (hb_ix ka) 3)) 8)])) (ad 10 i) = hw_ai Z 3 (hr_qq X1 (i % 2) (i / 2))
            rw [va_up_ne _ _ (hP1.n (k := 10) (i := i) (k' := 1) (i' := (hb_ix (hs_M S (hb_ix ka) 3))) hi hig (fun q => absurd q.1 (by decide))), va_up_ne _ _ (hP1.n (k := 10) (i := i) (k' := 5) (i' := (hb_ix (hs_M S (hb_ix ka) 3))) hi hig (fun q => absurd q.1 (by decide)))]
            refine (hP1.m 10 i hi).trans ?_
            first | rfl
          · show (va_up (va_up M1 (ad 5 (hb_ix (hs_M S (hb_ix ka) 3))) (hw_ad Z 64 (fun _ => FP.dconst0))) (ad 1 (hb_ix (hs_M S (hb_ix ka) 3))) (hw_ob 9 [.ref (ad 2 (hb_ix (hs_M S (hb_ix ka) 3))), .int (hs_P S (hb_ix (hs_M S (hb_ix ka) 3)) 0), .ref (ad 4 (hb_ix (hs_M S (hb_ix ka) 3))), .int ((hs_P S (hb_ix (hs_M S (hb_ix ka) 3)) 3) + (nI 1)), .int (hs_P S (hb_ix (hs_M S (hb_ix ka) 3)) 4), .int (hs_P S (hb_ix (hs_M S (hb_ix ka) 3)) 5), .int (hs_P S (hb_ix (hs_M S (hb_ix ka) 3)) 6), .int (hs_P S (hb_ix (hs_M S (hb_ix ka) 3)) 7), .int (hs_P S (hb_ix (hs_M S (hb_ix ka) 3)) 8)])) (ad 11 i) = hw_ar Z 7 10 (hc_f (ad 1) (hs_np S))
            rw [va_up_ne _ _ (hP1.n (k := 11) (i := i) (k' := 1) (i' := (hb_ix (hs_M S (hb_ix ka) 3))) hi hig (fun q => absurd q.1 (by decide))), va_up_ne _ _ (hP1.n (k := 11) (i := i) (k' := 5) (i' := (hb_ix (hs_M S (hb_ix ka) 3))) hi hig (fun q => absurd q.1 (by decide)))]
            refine (hP1.m 11 i hi).trans ?_
            first | rfl
          · show (va_up (va_up M1 (ad 5 (hb_ix (hs_M S (hb_ix ka) 3))) (hw_ad Z 64 (fun _ => FP.dconst0))) (ad 1 (hb_ix (hs_M S (hb_ix ka) 3))) (hw_ob 9 [.ref (ad 2 (hb_ix (hs_M S (hb_ix ka) 3))), .int (hs_P S (hb_ix (hs_M S (hb_ix ka) 3)) 0), .ref (ad 4 (hb_ix (hs_M S (hb_ix ka) 3))), .int ((hs_P S (hb_ix (hs_M S (hb_ix ka) 3)) 3) + (nI 1)), .int (hs_P S (hb_ix (hs_M S (hb_ix ka) 3)) 4), .int (hs_P S (hb_ix (hs_M S (hb_ix ka) 3)) 5), .int (hs_P S (hb_ix (hs_M S (hb_ix ka) 3)) 6), .int (hs_P S (hb_ix (hs_M S (hb_ix ka) 3)) 7), .int (hs_P S (hb_ix (hs_M S (hb_ix ka) 3)) 8)])) (ad 12 i) = hw_ar Z 7 10 (hc_f (ad 6) (hs_nw S))
            rw [va_up_ne _ _ (hP1.n (k := 12) (i := i) (k' := 1) (i' := (hb_ix (hs_M S (hb_ix ka) 3))) hi hig (fun q => absurd q.1 (by decide))), va_up_ne _ _ (hP1.n (k := 12) (i := i) (k' := 5) (i' := (hb_ix (hs_M S (hb_ix ka) 3))) hi hig (fun q => absurd q.1 (by decide)))]
            refine (hP1.m 12 i hi).trans ?_
            first | rfl
          · exact hi.elim
        have fr_hok : ∀ a, b1 a → (va_up (va_up M1 (ad 5 (hb_ix (hs_M S (hb_ix ka) 3))) (hw_ad Z 64 (fun _ => FP.dconst0))) (ad 1 (hb_ix (hs_M S (hb_ix ka) 3))) (hw_ob 9 [.ref (ad 2 (hb_ix (hs_M S (hb_ix ka) 3))), .int (hs_P S (hb_ix (hs_M S (hb_ix ka) 3)) 0), .ref (ad 4 (hb_ix (hs_M S (hb_ix ka) 3))), .int ((hs_P S (hb_ix (hs_M S (hb_ix ka) 3)) 3) + (nI 1)), .int (hs_P S (hb_ix (hs_M S (hb_ix ka) 3)) 4), .int (hs_P S (hb_ix (hs_M S (hb_ix ka) 3)) 5), .int (hs_P S (hb_ix (hs_M S (hb_ix ka) 3)) 6), .int (hs_P S (hb_ix (hs_M S (hb_ix ka) 3)) 7), .int (hs_P S (hb_ix (hs_M S (hb_ix ka) 3)) 8)])) a = M a := fun a ha => by rw [va_up_ne _ _ (hP1.f (k := 1) (i := (hb_ix (hs_M S (hb_ix ka) 3))) hig ha), va_up_ne _ _ (hP1.f (k := 5) (i := (hb_ix (hs_M S (hb_ix ka) 3))) hig ha)]; exact fr1 a ha
        have hfin : hr_R Z b1 M ad (st_stop S ka) ((hs_P S (hb_ix (hs_M S (hb_ix ka) 3)) 3) + (nI 1)) (va_up (va_up M1 (ad 5 (hb_ix (hs_M S (hb_ix ka) 3))) (hw_ad Z 64 (fun _ => FP.dconst0))) (ad 1 (hb_ix (hs_M S (hb_ix ka) 3))) (hw_ob 9 [.ref (ad 2 (hb_ix (hs_M S (hb_ix ka) 3))), .int (hs_P S (hb_ix (hs_M S (hb_ix ka) 3)) 0), .ref (ad 4 (hb_ix (hs_M S (hb_ix ka) 3))), .int ((hs_P S (hb_ix (hs_M S (hb_ix ka) 3)) 3) + (nI 1)), .int (hs_P S (hb_ix (hs_M S (hb_ix ka) 3)) 4), .int (hs_P S (hb_ix (hs_M S (hb_ix ka) 3)) 5), .int (hs_P S (hb_ix (hs_M S (hb_ix ka) 3)) 6), .int (hs_P S (hb_ix (hs_M S (hb_ix ka) 3)) 7), .int (hs_P S (hb_ix (hs_M S (hb_ix ka) 3)) 8)])) := hr_r (S' := hs_sW (hs_sP S (hb_ix (hs_M S (hb_ix ka) 3)) (va_up (hs_P S (hb_ix (hs_M S (hb_ix ka) 3))) 3 (hs_P S (hb_ix (hs_M S (hb_ix ka) 3)) 3 + nI 1))) (hb_ix (hs_M S (hb_ix ka) 3)) (fun _ => FP.dconst0)) (X' := X1) (ad' := ad) (by unfold st_stop; exact ((if_neg (fun q => q gk)).trans ((if_neg c28).trans rfl))) rfl hok ht1 fr_hok
        exact hret hI hfin (Nat.le_of_ble_eq_true rfl) (Nat.le_of_ble_eq_true rfl) dX11_stop_97
      · intro H locs ls hI hl
        refine lv_iload_n hx hb dX11_stop_61 rfl (lv_at hl 0 rfl) ?_
        refine lv_bipush (v := nI 64) hx hb dX11_stop_62 (by decide) ?_
        refine lv_icmp_ge (tgt := 83) hx hb dX11_stop_64 (by decide) (fun hc => absurd hc (nI_ge hi61 (by decide))) (fun _ => ?_)
        refine lv_aload_n hx hb dX11_stop_67 rfl (lv_at hl 1 rfl) ?_
        refine hw_get hx hb hts hown hk hI fd_X11_148 (hw_up e1_hb_ix_hs_M_S_hb_ix_ka_3hP1 (hP1.n (k := 1) (i := (hb_ix (hs_M S (hb_ix ka) 3))) (k' := 5) (i' := (hb_ix (hs_M S (hb_ix ka) 3))) hig hig (fun q => absurd q.1 (by decide)))) rfl dX11_stop_68 ?_
        refine hw_get hx hb hts hown hk hI fd_X11_182 (hw_up e4_hb_ix_hs_M_S_hb_ix_ka_3hP1 (hP1.n (k := 4) (i := (hb_ix (hs_M S (hb_ix ka) 3))) (k' := 5) (i' := (hb_ix (hs_M S (hb_ix ka) 3))) hig hig (fun q => absurd q.1 (by decide)))) rfl dX11_stop_71 ?_
        refine lv_iload_n hx hb dX11_stop_74 rfl (lv_at hl 0 rfl) ?_
        refine lv_dconst0 hx hb dX11_stop_75 ?_
        refine hw_dast hx hb hk hI (hw_us _ _ _) (j := i) rfl (by omega) (by decide) dX11_stop_76 (fun H locs hI => ?_)
        refine lv_iinc (v := nI (i + 1)) (lv' := [(3, .int (nI (i + 1))), (2, .ref (ad 1 (hb_ix (hs_M S (hb_ix ka) 3)))), (0, .ref (ad 0 0)), (1, .int ka)]) hx hb dX11_stop_77 hl (k := 0) rfl (hw_inc _) (by decide) rfl (fun ls hl => ?_)
        refine lv_goto (tgt := 61) hx hb dX11_stop_80 (by decide) ?_
        exact ih61 _ _ _ (hI.eq (hw_uu1 (hw_adc (hb_mix_s rfl)))) (lv_sub hl [0, 1, 2, 3] rfl)
    · refine lv_aload_n hx hb dX11_stop_31 rfl (lv_at hl 0 rfl) ?_
      refine lv_iconst (v := nI 2) hx hb dX11_stop_32 (by decide) ?_
      refine hw_ci hI (hw_rV hx hb hml hown hts hk hI (m_X11_no l Z M1 (ad 0 0) (ad 0 2) (ad 0 3) (ad 0 1) (hr_th X1) (hs_G S 0) (hs_G S 1) (nI 2) e0_0hP1) cv_X11_44 e0_0hP1 rfl rfl ⟨rfl, rfl⟩ ⟨(Nat.le_of_ble_eq_true rfl), (Nat.le_of_ble_eq_true rfl)⟩ rfl hl.1 rfl (Nat.le_of_ble_eq_true rfl) ⟨(Nat.le_of_ble_eq_true rfl), (Nat.le_of_ble_eq_true rfl)⟩ dX11_stop_33) (fun r33 M33 H locs hR hI => ?_)
      obtain ⟨rfl, rfl⟩ := hR
      exact hret hI (hr_x (n := 2) (by unfold st_stop; exact (hq_el (fun q => q gk) (hq_if c28 ⟨rfl, rfl⟩))) (by decide) (hP1.th (nI 2)) rfl (fun a ha => (va_up_ne _ _ (hP1.f (k := 0) (i := 0) (show 0 < 4 by decide) ha)).trans (fr1 a ha))) (Nat.le_of_ble_eq_true rfl) (Nat.le_of_ble_eq_true rfl) dX11_stop_36
  · refine lv_aload_n hx hb dX11_stop_12 rfl (lv_at hl 0 rfl) ?_
    refine lv_iconst (v := nI 1) hx hb dX11_stop_13 (by decide) ?_
    refine hw_ci hI (hw_rV hx hb hml hown hts hk hI (m_X11_no l Z M1 (ad 0 0) (ad 0 2) (ad 0 3) (ad 0 1) (hr_th X1) (hs_G S 0) (hs_G S 1) (nI 1) e0_0hP1) cv_X11_44 e0_0hP1 rfl rfl ⟨rfl, rfl⟩ ⟨(Nat.le_of_ble_eq_true rfl), (Nat.le_of_ble_eq_true rfl)⟩ rfl hl.1 rfl (Nat.le_of_ble_eq_true rfl) ⟨(Nat.le_of_ble_eq_true rfl), (Nat.le_of_ble_eq_true rfl)⟩ dX11_stop_14) (fun r14 M14 H locs hR hI => ?_)
    obtain ⟨rfl, rfl⟩ := hR
    exact hret hI (hr_x (n := 1) (by unfold st_stop; exact (hq_if (hq_df c9) ⟨rfl, rfl⟩)) (by decide) (hP1.th (nI 1)) rfl (fun a ha => (va_up_ne _ _ (hP1.f (k := 0) (i := 0) (show 0 < 4 by decide) ha)).trans (fr1 a ha))) (Nat.le_of_ble_eq_true rfl) (Nat.le_of_ble_eq_true rfl) dX11_stop_17

set_option maxHeartbeats 4000000 in
set_option maxRecDepth 100000 in
theorem m_X11_lay (l : Launch) (Z : hw_Z) (M : hw_M) (ad : hp_ad) (S : hs_S) (X : hr_X) (b1 : Nat → Prop) (ka : Int32) (kw : Int32) (hP : hr_ok Z b1 M ad S X) (hV : hv_ok S) (hA : ∀ a, b1 a → M a ≠ none) : Met l yX11_lay (hw_m yX11_lay cX11_lay 4 (some .int)) ({ frames := 8, cells := 4, slots := 40, locals := 250 } : Room) (va_Pc [.ref (ad 0 0), .int ka, .int kw] (hw_P Z M)) (hw_Qi Z (hr_R Z b1 M ad (st_lay S ka kw))) 4 40 (hw_A Z) := by
  refine hw_ofi (by decide +kernel) rfl (Nat.le_of_ble_eq_true rfl) ?_
  intro p e s m below meth c ls Q hx hb hml hown hts hk hnm hI hl hret
  have hB := hV.b
  have hnp := hB.np
  have hnw := hB.nw
  have e0_0hP : M (ad 0 0) = hw_ob 12 [.int (hr_th X), .int (hs_G S 0), .int (hs_G S 1), .ref (ad 0 2), .ref (ad 0 3), .ref (ad 0 1)] := hP.m 0 0 (show 0 < 4 by decide)
  refine lv_aload_n hx hb dX11_lay_0 rfl (lv_at hl 0 rfl) ?_
  refine lv_iconst (v := nI 0) hx hb dX11_lay_1 (by decide) ?_
  refine hw_put (fs' := [.int (nI 0), .int (hs_G S 0), .int (hs_G S 1), .ref (ad 0 2), .ref (ad 0 3), .ref (ad 0 1)]) hx hb hts hown hk hI fp_X11_26 e0_0hP (Nat.le_of_ble_eq_true rfl) rfl rfl rfl dX11_lay_2 (fun H locs hI => ?_)
  obtain ⟨M1, hM1⟩ : ∃ Y : hw_M, Y = va_up M (ad 0 0) (hw_ob 12 [.int (nI 0), .int (hs_G S 0), .int (hs_G S 1), .ref (ad 0 2), .ref (ad 0 3), .ref (ad 0 1)]) := ⟨_, rfl⟩
  replace hI := hI.eq hM1.symm
  obtain ⟨X1, hX1⟩ : ∃ Y : hr_X, Y = (nI 0, X.2) := ⟨_, rfl⟩
  have hP1 : hr_ok Z b1 M1 ad S X1 := by rw [hM1, hX1]; exact hP.th (nI 0)
  have ht1 : hr_th X1 = nI 0 := by rw [hX1]; rfl
  have hgr1 : hr_gr X1 = hr_gr X := by rw [hX1]; rfl
  have hqq1 : hr_qq X1 = hr_qq X := by rw [hX1]; rfl
  have fr1 : ∀ a, b1 a → M1 a = M a := fun a ha => by rw [hM1]; exact va_up_ne _ _ (hP.f (k := 0) (i := 0) (show 0 < 4 by decide) ha)
  have hA1 : ∀ a, b1 a → M1 a ≠ none := fun a ha => by rw [fr1 a ha]; exact hA a ha
  clear hP hX1
  have e0_0hP1 : M1 (ad 0 0) = hw_ob 12 [.int (hr_th X1), .int (hs_G S 0), .int (hs_G S 1), .ref (ad 0 2), .ref (ad 0 3), .ref (ad 0 1)] := hP1.m 0 0 (show 0 < 4 by decide)
  have e0_2hP1 : M1 (ad 0 2) = hw_ob 0 [.int (hr_mc X1 0), .ref (hr_d (hs_np S) Z.2.2.2 (ad 11 0)), .int (nI (hs_np S))] := hP1.m 0 2 (show 2 < 4 by decide)
  refine lv_aload_n hx hb dX11_lay_5 rfl (lv_at hl 0 rfl) ?_
  refine lv_iload_n hx hb dX11_lay_6 rfl (lv_at hl 1 rfl) ?_
  refine hw_ci hI (hw_rV hx hb hml hown hts hk hI (m_X11_isPiece l Z M1 (ad 0 0) (ad 0 2) (ad 0 3) (ad 0 1) (hr_th X1) (hs_G S 0) (hs_G S 1) ka (hr_mc X1 0) (hs_np S) (.ref (hr_d (hs_np S) Z.2.2.2 (ad 11 0))) e0_0hP1 e0_2hP1 (by omega)) cv_X11_55 e0_0hP1 rfl rfl ⟨rfl, rfl⟩ ⟨(Nat.le_of_ble_eq_true rfl), (Nat.le_of_ble_eq_true rfl)⟩ rfl hl.1 rfl (Nat.le_of_ble_eq_true rfl) ⟨(Nat.le_of_ble_eq_true rfl), (Nat.le_of_ble_eq_true rfl)⟩ dX11_lay_7) (fun r7 M7 H locs hR hI => ?_)
  obtain ⟨rfl, rfl⟩ := hR
  refine lv_if_ne (tgt := 19) hx hb dX11_lay_10 (by decide) (fun c10 => ?_) (fun c10 => ?_)
  · have gk := hq_dt c10
    refine lv_iload_n hx hb dX11_lay_19 rfl (lv_at hl 2 rfl) ?_
    refine lv_iconst (v := nI 0) hx hb dX11_lay_20 (by decide) ?_
    refine lv_iconst (v := nI 5) hx hb dX11_lay_21 (by decide) ?_
    refine hw_ci hI (hw_rS hx hb hml hown hts hk hI (m_X11_in l Z M1 kw (nI 0) (nI 5)) cs_X11_40 ⟨rfl, rfl⟩ ⟨(Nat.le_of_ble_eq_true rfl), (Nat.le_of_ble_eq_true rfl)⟩ rfl hl.1 rfl (Nat.le_of_ble_eq_true rfl) ⟨(Nat.le_of_ble_eq_true rfl), (Nat.le_of_ble_eq_true rfl)⟩ dX11_lay_22) (fun r22 M22 H locs hR hI => ?_)
    obtain ⟨rfl, rfl⟩ := hR
    refine hw_ti (congrArg (fun b => nI (Bool.toNat b)) (hb_in_okL (k := kw) (n := 5) (by decide))) ?_
    refine lv_if_ne (tgt := 34) hx hb dX11_lay_25 (by decide) (fun c25 => ?_) (fun c25 => ?_)
    · have gk2 := hq_dt c25
      have hx_kw := hb_okx (by decide) gk2
      have hx_ka := hb_okx (by omega) gk
      have hi_ka : hb_ix ka < hs_np S := hx_ka.1
      have h4_ka : hb_ix ka < 4 := by omega
      have h11 : 0 = 0 ∧ 0 < hs_np S := ⟨rfl, by omega⟩
      have e0_2hP1 : M1 (ad 0 2) = hw_ob 0 [.int (hr_mc X1 0), .ref (ad 11 0), .int (nI (hs_np S))] := by
        have q := hP1.m 0 2 (show 2 < 4 by decide)
        rw [show hr_e Z ad S X1 0 2 = hw_ob 0 [.int (hr_mc X1 0), .ref (hr_d (hs_np S) Z.2.2.2 (ad 11 0)), .int (nI (hs_np S))] from rfl, hr_d0 h11.2] at q
        exact q
      have e11_0hP1 : M1 (ad 11 0) = hw_ar Z 7 10 (hc_f (ad 1) (hs_np S)) := hP1.m 11 0 h11
      have e1_hb_ix_kahP1 : M1 (ad 1 (hb_ix ka)) = hw_ob 9 [.ref (ad 2 (hb_ix ka)), .int (hs_P S (hb_ix ka) 0), .ref (ad 4 (hb_ix ka)), .int (hs_P S (hb_ix ka) 3), .int (hs_P S (hb_ix ka) 4), .int (hs_P S (hb_ix ka) 5), .int (hs_P S (hb_ix ka) 6), .int (hs_P S (hb_ix ka) 7), .int (hs_P S (hb_ix ka) 8)] := hP1.m 1 (hb_ix ka) hi_ka
      have e2_hb_ix_kahP1 : M1 (ad 2 (hb_ix ka)) = hw_ob 11 [.ref (ad 3 (hb_ix ka))] := hP1.m 2 (hb_ix ka) hi_ka
      have e3_hb_ix_kahP1 : M1 (ad 3 (hb_ix ka)) = hw_al Z 8 (hs_C S (hb_ix ka)) := hP1.m 3 (hb_ix ka) hi_ka
      refine lv_aload_n hx hb dX11_lay_34 rfl (lv_at hl 0 rfl) ?_
      refine hw_get hx hb hts hown hk hI fd_X11_10 e0_0hP1 rfl dX11_lay_35 ?_
      refine lv_iload_n hx hb dX11_lay_38 rfl (lv_at hl 1 rfl) ?_
      refine hw_ti hx_ka.2 ?_
      refine hw_cFr hI (hw_rF hx hb hml hown hts hk hI (m_Jx4a65c_get_915e3 l Z M1 (ad 0 2) (ad 11 0) (hs_np S) (hb_ix ka) (ad 1 (hb_ix ka)) (hr_mc X1 0) (hc_f (ad 1) (hs_np S)) e0_2hP1 e11_0hP1 hi_ka (by omega) (if_pos hi_ka)) cf_X11_59 e0_2hP1 rfl rfl ⟨rfl, rfl⟩ ⟨(Nat.le_of_ble_eq_true rfl), (Nat.le_of_ble_eq_true rfl)⟩ rfl hl.1 rfl (Nat.le_of_ble_eq_true rfl) ⟨(Nat.le_of_ble_eq_true rfl), (Nat.le_of_ble_eq_true rfl)⟩ dX11_lay_39) (fun r39 M39 H locs hR hI => ?_)
      obtain ⟨rfl, rfl⟩ := hR
      refine hw_cast hx hb hts hown hk hI e1_hb_ix_kahP1 rfl (hw_win (w := .classLink RX11 48 RX8) (by decide +kernel) (by decide +kernel)) dX11_lay_44 ?_
      refine lv_astore_n (lv' := [(3, .ref (ad 1 (hb_ix ka))), (0, .ref (ad 0 0)), (1, .int ka), (2, .int kw)]) hx hb dX11_lay_47 rfl hl (by decide) rfl (fun ls hl => ?_)
      refine lv_aload_n hx hb dX11_lay_48 rfl (lv_at hl 0 rfl) ?_
      refine hw_get hx hb hts hown hk hI fd_X11_63 e1_hb_ix_kahP1 rfl dX11_lay_49 ?_
      refine lv_if_eq (tgt := 61) hx hb dX11_lay_52 (by decide) (fun c52 => ?_) (fun c52 => ?_)
      · refine lv_aload_n hx hb dX11_lay_61 rfl (lv_at hl 0 rfl) ?_
        refine lv_aload_n hx hb dX11_lay_62 rfl (lv_at hl 0 rfl) ?_
        refine hw_get hx hb hts hown hk hI fd_X11_66 e1_hb_ix_kahP1 rfl dX11_lay_63 ?_
        refine lv_iload_n hx hb dX11_lay_66 rfl (lv_at hl 3 rfl) ?_
        refine hw_ti hx_kw.2 ?_
        refine hw_cr hI (hw_rV hx hb hml hown hts hk hI (m_X10_laid l Z M1 (ad 2 (hb_ix ka)) (ad 3 (hb_ix ka)) (hs_C S (hb_ix ka)) (hb_ix kw) e2_hb_ix_kahP1 e3_hb_ix_kahP1 hx_kw.1) cv_X11_79 e2_hb_ix_kahP1 rfl rfl ⟨rfl, rfl⟩ ⟨(Nat.le_of_ble_eq_true rfl), (Nat.le_of_ble_eq_true rfl)⟩ rfl hl.1 rfl (Nat.le_of_ble_eq_true rfl) ⟨(Nat.le_of_ble_eq_true rfl), (Nat.le_of_ble_eq_true rfl)⟩ dX11_lay_67) (fun r67 M67 H locs hR hI => ?_)
        obtain ⟨sa67, n_r67, n_sa67, d1, e_r67, e_sa67, hF67⟩ := hR
        have hF_M67 : hr_F M1 M67 := hF67
        have hP_M67 : hr_ok Z b1 M67 ad S X1 := hP1.F hF_M67
        have fr_M67 : ∀ a, b1 a → M67 a = M a := fun a ha => (hF_M67 a (hA1 a ha)).trans (fr1 a ha)
        have hA_M67 : ∀ a, b1 a → M67 a ≠ none := fun a ha => by rw [fr_M67 a ha]; exact hA a ha
        have e0_0hP_M67 : M67 (ad 0 0) = hw_ob 12 [.int (hr_th X1), .int (hs_G S 0), .int (hs_G S 1), .ref (ad 0 2), .ref (ad 0 3), .ref (ad 0 1)] := hP_M67.m 0 0 (show 0 < 4 by decide)
        have e1_hb_ix_kahP_M67 : M67 (ad 1 (hb_ix ka)) = hw_ob 9 [.ref (ad 2 (hb_ix ka)), .int (hs_P S (hb_ix ka) 0), .ref (ad 4 (hb_ix ka)), .int (hs_P S (hb_ix ka) 3), .int (hs_P S (hb_ix ka) 4), .int (hs_P S (hb_ix ka) 5), .int (hs_P S (hb_ix ka) 6), .int (hs_P S (hb_ix ka) 7), .int (hs_P S (hb_ix ka) 8)] := hP_M67.m 1 (hb_ix ka) hi_ka
        have e2_hb_ix_kahP_M67 : M67 (ad 2 (hb_ix ka)) = hw_ob 11 [.ref (ad 3 (hb_ix ka))] := hP_M67.m 2 (hb_ix ka) hi_ka
        have e3_hb_ix_kahP_M67 : M67 (ad 3 (hb_ix ka)) = hw_al Z 8 (hs_C S (hb_ix ka)) := hP_M67.m 3 (hb_ix ka) hi_ka
        have d2 : r67 ≠ ad 2 (hb_ix ka) := Ne.symm (hw_xn (hP1.a 2 (hb_ix ka) hi_ka) n_r67)
        refine hw_put (fs' := [.ref r67, .int (hs_P S (hb_ix ka) 0), .ref (ad 4 (hb_ix ka)), .int (hs_P S (hb_ix ka) 3), .int (hs_P S (hb_ix ka) 4), .int (hs_P S (hb_ix ka) 5), .int (hs_P S (hb_ix ka) 6), .int (hs_P S (hb_ix ka) 7), .int (hs_P S (hb_ix ka) 8)]) hx hb hts hown hk hI fp_X11_66 e1_hb_ix_kahP_M67 (Nat.le_of_ble_eq_true rfl) rfl rfl rfl dX11_lay_70 (fun H locs hI => ?_)
        refine lv_aload_n hx hb dX11_lay_73 rfl (lv_at hl 0 rfl) ?_
        refine hw_get hx hb hts hown hk hI fd_X11_66 (hw_us _ _ _) rfl dX11_lay_74 ?_
        refine hw_ci hI (hw_rV hx hb hml hown hts hk hI (m_X10_height l Z (va_up M67 (ad 1 (hb_ix ka)) (hw_ob 9 [.ref r67, .int (hs_P S (hb_ix ka) 0), .ref (ad 4 (hb_ix ka)), .int (hs_P S (hb_ix ka) 3), .int (hs_P S (hb_ix ka) 4), .int (hs_P S (hb_ix ka) 5), .int (hs_P S (hb_ix ka) 6), .int (hs_P S (hb_ix ka) 7), .int (hs_P S (hb_ix ka) 8)])) r67 sa67 (hb_laid (hs_C S (hb_ix ka)) (hb_ix kw)) (hw_up e_r67 (hw_noo e_r67 e1_hb_ix_kahP_M67 (by decide))) (hw_up e_sa67 (Ne.symm (hw_noa e1_hb_ix_kahP_M67 e_sa67)))) cv_X11_83 (hw_up e_r67 (hw_noo e_r67 e1_hb_ix_kahP_M67 (by decide))) rfl rfl ⟨rfl, rfl⟩ ⟨(Nat.le_of_ble_eq_true rfl), (Nat.le_of_ble_eq_true rfl)⟩ rfl hl.1 rfl (Nat.le_of_ble_eq_true rfl) ⟨(Nat.le_of_ble_eq_true rfl), (Nat.le_of_ble_eq_true rfl)⟩ dX11_lay_77) (fun r77 M77 H locs hR hI => ?_)
        obtain ⟨rfl, rfl⟩ := hR
        have hok : hr_ok Z b1 (va_up M67 (ad 1 (hb_ix ka)) (hw_ob 9 [.ref r67, .int (hs_P S (hb_ix ka) 0), .ref (ad 4 (hb_ix ka)), .int (hs_P S (hb_ix ka) 3), .int (hs_P S (hb_ix ka) 4), .int (hs_P S (hb_ix ka) 5), .int (hs_P S (hb_ix ka) 6), .int (hs_P S (hb_ix ka) 7), .int (hs_P S (hb_ix ka) 8)])) (hr_ua (hr_ua ad 2 (va_up (ad 2) (hb_ix ka) r67)) 3 (va_up (ad 3) (hb_ix ka) sa67)) (hs_sC S (hb_ix ka) (hb_laid (hs_C S (hb_ix ka)) (hb_ix kw))) (X1) := by
          refine hr_new (nn := fun k i => (k = 2 ∧ i = (hb_ix ka)) ∨ (k = 3 ∧ i = (hb_ix ka))) hP1 hA1 (fun k i hi => ?_) (fun k i k' i' h h' he => ?_) ?_ hP_M67.q hP_M67.g
          · rcases k with _ | _ | _ | _ | _ | _ | _ | _ | _ | _ | _ | _ | _ | k
            · exact Or.inl ⟨hi, rfl⟩
            · exact Or.inl ⟨hi, rfl⟩
            · by_cases q0 : i = (hb_ix ka)
              · subst q0
                exact Or.inr ⟨Or.inl ⟨rfl, rfl⟩, (congrArg M1 (va_up_self _ _ _)).trans n_r67⟩
              · exact Or.inl ⟨hi, va_up_ne _ _ q0⟩
            · by_cases q0 : i = (hb_ix ka)
              · subst q0
                exact Or.inr ⟨Or.inr (⟨rfl, rfl⟩), (congrArg M1 (va_up_self _ _ _)).trans n_sa67⟩
              · exact Or.inl ⟨hi, va_up_ne _ _ q0⟩
            · exact Or.inl ⟨hi, rfl⟩
            · exact Or.inl ⟨hi, rfl⟩
            · exact Or.inl ⟨hi, rfl⟩
            · exact Or.inl ⟨hi, rfl⟩
            · exact Or.inl ⟨hi, rfl⟩
            · exact Or.inl ⟨hi, rfl⟩
            · exact Or.inl ⟨hi, rfl⟩
            · exact Or.inl ⟨hi, rfl⟩
            · exact Or.inl ⟨hi, rfl⟩
            · exact hi.elim
          · rcases h with ⟨rfl, rfl⟩ | ⟨rfl, rfl⟩ <;> rcases h' with ⟨rfl, rfl⟩ | ⟨rfl, rfl⟩
            · exact ⟨rfl, rfl⟩
            · exact absurd (((va_up_self _ _ _ : (va_up (ad 2) (hb_ix ka) r67) (hb_ix ka) = r67).symm.trans he).trans (va_up_self _ _ _ : (va_up (ad 3) (hb_ix ka) sa67) (hb_ix ka) = sa67)) d1
            · exact absurd (((va_up_self _ _ _ : (va_up (ad 3) (hb_ix ka) sa67) (hb_ix ka) = sa67).symm.trans he).trans (va_up_self _ _ _ : (va_up (ad 2) (hb_ix ka) r67) (hb_ix ka) = r67)) (Ne.symm d1)
            · exact ⟨rfl, rfl⟩
          · intro k i hi
            rcases k with _ | _ | _ | _ | _ | _ | _ | _ | _ | _ | _ | _ | _ | k
            · rcases (show i = 0 ∨ i = 1 ∨ i = 2 ∨ i = 3 by have h4 : i < 4 := hi; omega) with rfl | rfl | rfl | rfl
              · show (va_up M67 (ad 1 (hb_ix ka)) (hw_ob 9 [.ref r67, .int (hs_P S (hb_ix ka) 0), .ref (ad 4 (hb_ix ka)), .int (hs_P S (hb_ix ka) 3), .int (hs_P S (hb_ix ka) 4), .int (hs_P S (hb_ix ka) 5), .int (hs_P S (hb_ix ka) 6), .int (hs_P S (hb_ix ka) 7), .int (hs_P S (hb_ix ka) 8)])) (ad 0 0) = hw_ob 12 [.int (hr_th X1), .int (hs_G S 0), .int (hs_G S 1), .ref (ad 0 2), .ref (ad 0 3), .ref (ad 0 1)]
                rw [va_up_ne _ _ (hP_M67.n (k := 0) (i := 0) (k' := 1) (i' := (hb_ix ka)) (show 0 < 4 by decide) hi_ka (fun q => absurd q.1 (by decide)))]
                refine (hP_M67.m 0 0 (show 0 < 4 by decide)).trans ?_
                first | rfl | (simp only [va_up_self]; done) | (simp only [va_up_self]; rfl)
              · show (va_up M67 (ad 1 (hb_ix ka)) (hw_ob 9 [.ref r67, .int (hs_P S (hb_ix ka) 0), .ref (ad 4 (hb_ix ka)), .int (hs_P S (hb_ix ka) 3), .int (hs_P S (hb_ix ka) 4), .int (hs_P S (hb_ix ka) 5), .int (hs_P S (hb_ix ka) 6), .int (hs_P S (hb_ix ka) 7), .int (hs_P S (hb_ix ka) 8)])) (ad 0 1) = hw_ar Z 6 2 (fun j => some (ad 7 j))
                rw [va_up_ne _ _ (hP_M67.n (k := 0) (i := 1) (k' := 1) (i' := (hb_ix ka)) (show 1 < 4 by decide) hi_ka (fun q => absurd q.1 (by decide)))]
                refine (hP_M67.m 0 1 (show 1 < 4 by decide)).trans ?_
                first | rfl | (simp only [va_up_self]; done) | (simp only [va_up_self]; rfl)
              · show (va_up M67 (ad 1 (hb_ix ka)) (hw_ob 9 [.ref r67, .int (hs_P S (hb_ix ka) 0), .ref (ad 4 (hb_ix ka)), .int (hs_P S (hb_ix ka) 3), .int (hs_P S (hb_ix ka) 4), .int (hs_P S (hb_ix ka) 5), .int (hs_P S (hb_ix ka) 6), .int (hs_P S (hb_ix ka) 7), .int (hs_P S (hb_ix ka) 8)])) (ad 0 2) = hw_ob 0 [.int (hr_mc X1 0), .ref (hr_d (hs_np S) Z.2.2.2 (ad 11 0)), .int (nI (hs_np S))]
                rw [va_up_ne _ _ (hP_M67.n (k := 0) (i := 2) (k' := 1) (i' := (hb_ix ka)) (show 2 < 4 by decide) hi_ka (fun q => absurd q.1 (by decide)))]
                refine (hP_M67.m 0 2 (show 2 < 4 by decide)).trans ?_
                first | rfl | (simp only [va_up_self]; done) | (simp only [va_up_self]; rfl)
              · show (va_up M67 (ad 1 (hb_ix ka)) (hw_ob 9 [.ref r67, .int (hs_P S (hb_ix ka) 0), .ref (ad 4 (hb_ix ka)), .int (hs_P S (hb_ix ka) 3), .int (hs_P S (hb_ix ka) 4), .int (hs_P S (hb_ix ka) 5), .int (hs_P S (hb_ix ka) 6), .int (hs_P S (hb_ix ka) 7), .int (hs_P S (hb_ix ka) 8)])) (ad 0 3) = hw_ob 0 [.int (hr_mc X1 1), .ref (hr_d (hs_nw S) Z.2.2.2 (ad 12 0)), .int (nI (hs_nw S))]
                rw [va_up_ne _ _ (hP_M67.n (k := 0) (i := 3) (k' := 1) (i' := (hb_ix ka)) (show 3 < 4 by decide) hi_ka (fun q => absurd q.1 (by decide)))]
                refine (hP_M67.m 0 3 (show 3 < 4 by decide)).trans ?_
                first | rfl | (simp only [va_up_self]; done) | (simp only [va_up_self]; rfl)
            · by_cases q0 : i = (hb_ix ka)
              · subst q0
                show (va_up M67 (ad 1 (hb_ix ka)) (hw_ob 9 [.ref r67, .int (hs_P S (hb_ix ka) 0), .ref (ad 4 (hb_ix ka)), .int (hs_P S (hb_ix ka) 3), .int (hs_P S (hb_ix ka) 4), .int (hs_P S (hb_ix ka) 5), .int (hs_P S (hb_ix ka) 6), .int (hs_P S (hb_ix ka) 7), .int (hs_P S (hb_ix ka) 8)])) (ad 1 (hb_ix ka)) = hw_ob 9 [.ref ((va_up (ad 2) (hb_ix ka) r67) (hb_ix ka)), .int (hs_P S (hb_ix ka) 0), .ref (ad 4 (hb_ix ka)), .int (hs_P S (hb_ix ka) 3), .int (hs_P S (hb_ix ka) 4), .int (hs_P S (hb_ix ka) 5), .int (hs_P S (hb_ix ka) 6), .int (hs_P S (hb_ix ka) 7), .int (hs_P S (hb_ix ka) 8)]
                refine (hw_us _ _ _).trans ?_
                first | rfl | (simp only [va_up_self]; done) | (simp only [va_up_self]; rfl)
              show (va_up M67 (ad 1 (hb_ix ka)) (hw_ob 9 [.ref r67, .int (hs_P S (hb_ix ka) 0), .ref (ad 4 (hb_ix ka)), .int (hs_P S (hb_ix ka) 3), .int (hs_P S (hb_ix ka) 4), .int (hs_P S (hb_ix ka) 5), .int (hs_P S (hb_ix ka) 6), .int (hs_P S (hb_ix ka) 7), .int (hs_P S (hb_ix ka) 8)])) (ad 1 i) = hw_ob 9 [.ref ((va_up (ad 2) (hb_ix ka) r67) i), .int (hs_P S i 0), .ref (ad 4 i), .int (hs_P S i 3), .int (hs_P S i 4), .int (hs_P S i 5), .int (hs_P S i 6), .int (hs_P S i 7), .int (hs_P S i 8)]
              rw [va_up_ne _ _ (hP_M67.n (k := 1) (i := i) (k' := 1) (i' := (hb_ix ka)) hi hi_ka (fun q => q0 q.2))]
              refine (hP_M67.m 1 i hi).trans ?_
              first | rfl | (simp only [va_up_ne _ _ q0]; done) | (simp only [va_up_ne _ _ q0]; rfl)
            · by_cases q0 : i = (hb_ix ka)
              · subst q0
                show (va_up M67 (ad 1 (hb_ix ka)) (hw_ob 9 [.ref r67, .int (hs_P S (hb_ix ka) 0), .ref (ad 4 (hb_ix ka)), .int (hs_P S (hb_ix ka) 3), .int (hs_P S (hb_ix ka) 4), .int (hs_P S (hb_ix ka) 5), .int (hs_P S (hb_ix ka) 6), .int (hs_P S (hb_ix ka) 7), .int (hs_P S (hb_ix ka) 8)])) ((va_up (ad 2) (hb_ix ka) r67) (hb_ix ka)) = hw_ob 11 [.ref ((va_up (ad 3) (hb_ix ka) sa67) (hb_ix ka))]
                rw [show (va_up (ad 2) (hb_ix ka) r67) (hb_ix ka) = r67 from va_up_self _ _ _]
                refine (hw_up e_r67 (hw_noo e_r67 e1_hb_ix_kahP_M67 (by decide))).trans ?_
                first | rfl | (simp only [va_up_self]; done) | (simp only [va_up_self]; rfl)
              show (va_up M67 (ad 1 (hb_ix ka)) (hw_ob 9 [.ref r67, .int (hs_P S (hb_ix ka) 0), .ref (ad 4 (hb_ix ka)), .int (hs_P S (hb_ix ka) 3), .int (hs_P S (hb_ix ka) 4), .int (hs_P S (hb_ix ka) 5), .int (hs_P S (hb_ix ka) 6), .int (hs_P S (hb_ix ka) 7), .int (hs_P S (hb_ix ka) 8)])) ((va_up (ad 2) (hb_ix ka) r67) i) = hw_ob 11 [.ref ((va_up (ad 3) (hb_ix ka) sa67) i)]
              rw [va_up_ne _ _ q0]
              rw [va_up_ne _ _ (hP_M67.n (k := 2) (i := i) (k' := 1) (i' := (hb_ix ka)) hi hi_ka (fun q => absurd q.1 (by decide)))]
              refine (hP_M67.m 2 i hi).trans ?_
              first | rfl | (simp only [va_up_ne _ _ q0]; done) | (simp only [va_up_ne _ _ q0]; rfl)
            · by_cases q0 : i = (hb_ix ka)
              · subst q0
                show (va_up M67 (ad 1 (hb_ix ka)) (hw_ob 9 [.ref r67, .int (hs_P S (hb_ix ka) 0), .ref (ad 4 (hb_ix ka)), .int (hs_P S (hb_ix ka) 3), .int (hs_P S (hb_ix ka) 4), .int (hs_P S (hb_ix ka) 5), .int (hs_P S (hb_ix ka) 6), .int (hs_P S (hb_ix ka) 7), .int (hs_P S (hb_ix ka) 8)])) ((va_up (ad 3) (hb_ix ka) sa67) (hb_ix ka)) = hw_al Z 8 ((va_up (hs_C S) (hb_ix ka) (hb_laid (hs_C S (hb_ix ka)) (hb_ix kw))) (hb_ix ka))
                rw [show (va_up (ad 3) (hb_ix ka) sa67) (hb_ix ka) = sa67 from va_up_self _ _ _]
                refine (hw_up e_sa67 (Ne.symm (hw_noa e1_hb_ix_kahP_M67 e_sa67))).trans ?_
                first | rfl | (simp only [va_up_self]; done) | (simp only [va_up_self]; rfl)
              show (va_up M67 (ad 1 (hb_ix ka)) (hw_ob 9 [.ref r67, .int (hs_P S (hb_ix ka) 0), .ref (ad 4 (hb_ix ka)), .int (hs_P S (hb_ix ka) 3), .int (hs_P S (hb_ix ka) 4), .int (hs_P S (hb_ix ka) 5), .int (hs_P S (hb_ix ka) 6), .int (hs_P S (hb_ix ka) 7), .int (hs_P S (hb_ix ka) 8)])) ((va_up (ad 3) (hb_ix ka) sa67) i) = hw_al Z 8 ((va_up (hs_C S) (hb_ix ka) (hb_laid (hs_C S (hb_ix ka)) (hb_ix kw))) i)
              rw [va_up_ne _ _ q0]
              rw [va_up_ne _ _ (hP_M67.n (k := 3) (i := i) (k' := 1) (i' := (hb_ix ka)) hi hi_ka (fun q => absurd q.1 (by decide)))]
              refine (hP_M67.m 3 i hi).trans ?_
              first | rfl | (simp only [va_up_ne _ _ q0]; done) | (simp only [va_up_ne _ _ q0]; rfl)
            · show (va_up M67 (ad 1 (hb_ix ka)) (hw_ob 9 [.ref r67, .int (hs_P S (hb_ix ka) 0), .ref (ad 4 (hb_ix ka)), .int (hs_P S (hb_ix ka) 3), .int (hs_P S (hb_ix ka) 4), .int (hs_P S (hb_ix ka) 5), .int (hs_P S (hb_ix ka) 6), .int (hs_P S (hb_ix ka) 7), .int (hs_P S (hb_ix ka) 8)])) (ad 4 i) = hw_ob 7 [.double (hr_en (hs_P S i)), .ref (ad 5 i), .double (hs_U S i), .int (hs_P S i 1), .int (hs_P S i 2), .int (nI (hs_D S i))]
              rw [va_up_ne _ _ (hP_M67.n (k := 4) (i := i) (k' := 1) (i' := (hb_ix ka)) hi hi_ka (fun q => absurd q.1 (by decide)))]
              refine (hP_M67.m 4 i hi).trans ?_
              first | rfl
            · show (va_up M67 (ad 1 (hb_ix ka)) (hw_ob 9 [.ref r67, .int (hs_P S (hb_ix ka) 0), .ref (ad 4 (hb_ix ka)), .int (hs_P S (hb_ix ka) 3), .int (hs_P S (hb_ix ka) 4), .int (hs_P S (hb_ix ka) 5), .int (hs_P S (hb_ix ka) 6), .int (hs_P S (hb_ix ka) 7), .int (hs_P S (hb_ix ka) 8)])) (ad 5 i) = hw_ad Z 64 (hs_W S i)
              rw [va_up_ne _ _ (hP_M67.n (k := 5) (i := i) (k' := 1) (i' := (hb_ix ka)) hi hi_ka (fun q => absurd q.1 (by decide)))]
              refine (hP_M67.m 5 i hi).trans ?_
              first | rfl
            · show (va_up M67 (ad 1 (hb_ix ka)) (hw_ob 9 [.ref r67, .int (hs_P S (hb_ix ka) 0), .ref (ad 4 (hb_ix ka)), .int (hs_P S (hb_ix ka) 3), .int (hs_P S (hb_ix ka) 4), .int (hs_P S (hb_ix ka) 5), .int (hs_P S (hb_ix ka) 6), .int (hs_P S (hb_ix ka) 7), .int (hs_P S (hb_ix ka) 8)])) (ad 6 i) = hw_ob 10 [.int (hs_V S i 0), .int (hs_V S i 1), .int (hs_V S i 2), .int (hs_V S i 3), .int (hs_V S i 4)]
              rw [va_up_ne _ _ (hP_M67.n (k := 6) (i := i) (k' := 1) (i' := (hb_ix ka)) hi hi_ka (fun q => absurd q.1 (by decide)))]
              refine (hP_M67.m 6 i hi).trans ?_
              first | rfl
            · show (va_up M67 (ad 1 (hb_ix ka)) (hw_ob 9 [.ref r67, .int (hs_P S (hb_ix ka) 0), .ref (ad 4 (hb_ix ka)), .int (hs_P S (hb_ix ka) 3), .int (hs_P S (hb_ix ka) 4), .int (hs_P S (hb_ix ka) 5), .int (hs_P S (hb_ix ka) 6), .int (hs_P S (hb_ix ka) 7), .int (hs_P S (hb_ix ka) 8)])) (ad 7 i) = hw_ob 8 [.int (hs_M S i 0), .int (hs_M S i 1), .int (hs_M S i 2), .int (hs_M S i 3), .ref (ad 8 i)]
              rw [va_up_ne _ _ (hP_M67.n (k := 7) (i := i) (k' := 1) (i' := (hb_ix ka)) hi hi_ka (fun q => absurd q.1 (by decide)))]
              refine (hP_M67.m 7 i hi).trans ?_
              first | rfl
            · show (va_up M67 (ad 1 (hb_ix ka)) (hw_ob 9 [.ref r67, .int (hs_P S (hb_ix ka) 0), .ref (ad 4 (hb_ix ka)), .int (hs_P S (hb_ix ka) 3), .int (hs_P S (hb_ix ka) 4), .int (hs_P S (hb_ix ka) 5), .int (hs_P S (hb_ix ka) 6), .int (hs_P S (hb_ix ka) 7), .int (hs_P S (hb_ix ka) 8)])) (ad 8 i) = hw_ob 0 [.int (hr_mc X1 (2 + i)), .ref (if hr_gr X1 i then ad 9 i else Z.2.2.2), .int (nI (hs_N S i))]
              rw [va_up_ne _ _ (hP_M67.n (k := 8) (i := i) (k' := 1) (i' := (hb_ix ka)) hi hi_ka (fun q => absurd q.1 (by decide)))]
              refine (hP_M67.m 8 i hi).trans ?_
              first | rfl
            · show (va_up M67 (ad 1 (hb_ix ka)) (hw_ob 9 [.ref r67, .int (hs_P S (hb_ix ka) 0), .ref (ad 4 (hb_ix ka)), .int (hs_P S (hb_ix ka) 3), .int (hs_P S (hb_ix ka) 4), .int (hs_P S (hb_ix ka) 5), .int (hs_P S (hb_ix ka) 6), .int (hs_P S (hb_ix ka) 7), .int (hs_P S (hb_ix ka) 8)])) (ad 9 i) = hw_ar Z 7 10 (hc_f (fun j => ad 10 (i + 2 * j)) (hs_N S i))
              rw [va_up_ne _ _ (hP_M67.n (k := 9) (i := i) (k' := 1) (i' := (hb_ix ka)) hi hi_ka (fun q => absurd q.1 (by decide)))]
              refine (hP_M67.m 9 i hi).trans ?_
              first | rfl
            · show (va_up M67 (ad 1 (hb_ix ka)) (hw_ob 9 [.ref r67, .int (hs_P S (hb_ix ka) 0), .ref (ad 4 (hb_ix ka)), .int (hs_P S (hb_ix ka) 3), .int (hs_P S (hb_ix ka) 4), .int (hs_P S (hb_ix ka) 5), .int (hs_P S (hb_ix ka) 6), .int (hs_P S (hb_ix ka) 7), .int (hs_P S (hb_ix ka) 8)])) (ad 10 i) = hw_ai Z 3 (hr_qq X1 (i % 2) (i / 2))
              rw [va_up_ne _ _ (hP_M67.n (k := 10) (i := i) (k' := 1) (i' := (hb_ix ka)) hi hi_ka (fun q => absurd q.1 (by decide)))]
              refine (hP_M67.m 10 i hi).trans ?_
              first | rfl
            · show (va_up M67 (ad 1 (hb_ix ka)) (hw_ob 9 [.ref r67, .int (hs_P S (hb_ix ka) 0), .ref (ad 4 (hb_ix ka)), .int (hs_P S (hb_ix ka) 3), .int (hs_P S (hb_ix ka) 4), .int (hs_P S (hb_ix ka) 5), .int (hs_P S (hb_ix ka) 6), .int (hs_P S (hb_ix ka) 7), .int (hs_P S (hb_ix ka) 8)])) (ad 11 i) = hw_ar Z 7 10 (hc_f (ad 1) (hs_np S))
              rw [va_up_ne _ _ (hP_M67.n (k := 11) (i := i) (k' := 1) (i' := (hb_ix ka)) hi hi_ka (fun q => absurd q.1 (by decide)))]
              refine (hP_M67.m 11 i hi).trans ?_
              first | rfl
            · show (va_up M67 (ad 1 (hb_ix ka)) (hw_ob 9 [.ref r67, .int (hs_P S (hb_ix ka) 0), .ref (ad 4 (hb_ix ka)), .int (hs_P S (hb_ix ka) 3), .int (hs_P S (hb_ix ka) 4), .int (hs_P S (hb_ix ka) 5), .int (hs_P S (hb_ix ka) 6), .int (hs_P S (hb_ix ka) 7), .int (hs_P S (hb_ix ka) 8)])) (ad 12 i) = hw_ar Z 7 10 (hc_f (ad 6) (hs_nw S))
              rw [va_up_ne _ _ (hP_M67.n (k := 12) (i := i) (k' := 1) (i' := (hb_ix ka)) hi hi_ka (fun q => absurd q.1 (by decide)))]
              refine (hP_M67.m 12 i hi).trans ?_
              first | rfl
            · exact hi.elim
        have fr_hok : ∀ a, b1 a → (va_up M67 (ad 1 (hb_ix ka)) (hw_ob 9 [.ref r67, .int (hs_P S (hb_ix ka) 0), .ref (ad 4 (hb_ix ka)), .int (hs_P S (hb_ix ka) 3), .int (hs_P S (hb_ix ka) 4), .int (hs_P S (hb_ix ka) 5), .int (hs_P S (hb_ix ka) 6), .int (hs_P S (hb_ix ka) 7), .int (hs_P S (hb_ix ka) 8)])) a = M a := fun a ha => by rw [va_up_ne _ _ (hP_M67.f (k := 1) (i := (hb_ix ka)) hi_ka ha)]; exact fr_M67 a ha
        have hfin : hr_R Z b1 M ad (st_lay S ka kw) (nI (hb_ht (hb_laid (hs_C S (hb_ix ka)) (hb_ix kw)) 8)) (va_up M67 (ad 1 (hb_ix ka)) (hw_ob 9 [.ref r67, .int (hs_P S (hb_ix ka) 0), .ref (ad 4 (hb_ix ka)), .int (hs_P S (hb_ix ka) 3), .int (hs_P S (hb_ix ka) 4), .int (hs_P S (hb_ix ka) 5), .int (hs_P S (hb_ix ka) 6), .int (hs_P S (hb_ix ka) 7), .int (hs_P S (hb_ix ka) 8)])) := hr_r (S' := hs_sC S (hb_ix ka) (hb_laid (hs_C S (hb_ix ka)) (hb_ix kw))) (X' := X1) (ad' := hr_ua (hr_ua ad 2 (va_up (ad 2) (hb_ix ka) r67)) 3 (va_up (ad 3) (hb_ix ka) sa67)) (by unfold st_lay; exact ((if_neg (fun q => q gk)).trans ((if_neg (fun q => q gk2)).trans ((if_neg (fun q => q c52)).trans rfl)))) rfl hok ht1 fr_hok
        exact hret hI hfin (Nat.le_of_ble_eq_true rfl) (Nat.le_of_ble_eq_true rfl) dX11_lay_80
      · refine lv_aload_n hx hb dX11_lay_55 rfl (lv_at hl 1 rfl) ?_
        refine lv_iconst (v := nI 3) hx hb dX11_lay_56 (by decide) ?_
        refine hw_ci hI (hw_rV hx hb hml hown hts hk hI (m_X11_no l Z M1 (ad 0 0) (ad 0 2) (ad 0 3) (ad 0 1) (hr_th X1) (hs_G S 0) (hs_G S 1) (nI 3) e0_0hP1) cv_X11_44 e0_0hP1 rfl rfl ⟨rfl, rfl⟩ ⟨(Nat.le_of_ble_eq_true rfl), (Nat.le_of_ble_eq_true rfl)⟩ rfl hl.1 rfl (Nat.le_of_ble_eq_true rfl) ⟨(Nat.le_of_ble_eq_true rfl), (Nat.le_of_ble_eq_true rfl)⟩ dX11_lay_57) (fun r57 M57 H locs hR hI => ?_)
        obtain ⟨rfl, rfl⟩ := hR
        exact hret hI (hr_x (n := 3) (by unfold st_lay; exact (hq_el (fun q => q gk) (hq_el (fun q => q gk2) (hq_if c52 ⟨rfl, rfl⟩)))) (by decide) (hP1.th (nI 3)) rfl (fun a ha => (va_up_ne _ _ (hP1.f (k := 0) (i := 0) (show 0 < 4 by decide) ha)).trans (fr1 a ha))) (Nat.le_of_ble_eq_true rfl) (Nat.le_of_ble_eq_true rfl) dX11_lay_60
    · refine lv_aload_n hx hb dX11_lay_28 rfl (lv_at hl 0 rfl) ?_
      refine lv_iconst (v := nI 2) hx hb dX11_lay_29 (by decide) ?_
      refine hw_ci hI (hw_rV hx hb hml hown hts hk hI (m_X11_no l Z M1 (ad 0 0) (ad 0 2) (ad 0 3) (ad 0 1) (hr_th X1) (hs_G S 0) (hs_G S 1) (nI 2) e0_0hP1) cv_X11_44 e0_0hP1 rfl rfl ⟨rfl, rfl⟩ ⟨(Nat.le_of_ble_eq_true rfl), (Nat.le_of_ble_eq_true rfl)⟩ rfl hl.1 rfl (Nat.le_of_ble_eq_true rfl) ⟨(Nat.le_of_ble_eq_true rfl), (Nat.le_of_ble_eq_true rfl)⟩ dX11_lay_30) (fun r30 M30 H locs hR hI => ?_)
      obtain ⟨rfl, rfl⟩ := hR
      exact hret hI (hr_x (n := 2) (by unfold st_lay; exact (hq_el (fun q => q gk) (hq_if (hq_df c25) ⟨rfl, rfl⟩))) (by decide) (hP1.th (nI 2)) rfl (fun a ha => (va_up_ne _ _ (hP1.f (k := 0) (i := 0) (show 0 < 4 by decide) ha)).trans (fr1 a ha))) (Nat.le_of_ble_eq_true rfl) (Nat.le_of_ble_eq_true rfl) dX11_lay_33
  · refine lv_aload_n hx hb dX11_lay_13 rfl (lv_at hl 0 rfl) ?_
    refine lv_iconst (v := nI 1) hx hb dX11_lay_14 (by decide) ?_
    refine hw_ci hI (hw_rV hx hb hml hown hts hk hI (m_X11_no l Z M1 (ad 0 0) (ad 0 2) (ad 0 3) (ad 0 1) (hr_th X1) (hs_G S 0) (hs_G S 1) (nI 1) e0_0hP1) cv_X11_44 e0_0hP1 rfl rfl ⟨rfl, rfl⟩ ⟨(Nat.le_of_ble_eq_true rfl), (Nat.le_of_ble_eq_true rfl)⟩ rfl hl.1 rfl (Nat.le_of_ble_eq_true rfl) ⟨(Nat.le_of_ble_eq_true rfl), (Nat.le_of_ble_eq_true rfl)⟩ dX11_lay_15) (fun r15 M15 H locs hR hI => ?_)
    obtain ⟨rfl, rfl⟩ := hR
    exact hret hI (hr_x (n := 1) (by unfold st_lay; exact (hq_if (hq_df c10) ⟨rfl, rfl⟩)) (by decide) (hP1.th (nI 1)) rfl (fun a ha => (va_up_ne _ _ (hP1.f (k := 0) (i := 0) (show 0 < 4 by decide) ha)).trans (fr1 a ha))) (Nat.le_of_ble_eq_true rfl) (Nat.le_of_ble_eq_true rfl) dX11_lay_18
