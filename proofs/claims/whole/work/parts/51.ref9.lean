theorem cb_X11_count (own : String) (index : Nat) : hw_CB own index yX11_count cX11_count 4 (some .int) 1 := ⟨⟨by decide +kernel, by decide +kernel, by decide +kernel⟩, (hw_win (w := .code yX11_count cX11_count 4 (some .int)) (by decide +kernel) (by decide +kernel)), (hw_win (w := .initialized yX11_count.cls) (by decide +kernel) (by decide +kernel))⟩
theorem cv_X11_236 : hw_CV RX11 236 yX11_count cX11_count 4 (some .int) 1 := ⟨cb_X11_count _ _, (hw_win (w := .methodLink RX11 236 yX11_count) (by decide +kernel) (by decide +kernel)), (hw_win (w := .instanceMethod yX11_count) (by decide +kernel) (by decide +kernel)), (hw_win (w := .selects yX11_count.cls yX11_count yX11_count) (by decide +kernel) (by decide +kernel))⟩
theorem fd_X11_179 : hw_FD RX11 179 12 1 := ⟨RX11, TX11, 6, "MeltPoolModel", rfl, by decide, iw_X11, (hw_win (w := .fieldLink RX11 179 "MeltPoolModel" (TX11 1).2.1 (TX11 1).2.2.1) (by decide +kernel) (by decide +kernel)), Or.inl rfl⟩
theorem fd_X11_172 : hw_FD RX11 172 12 2 := ⟨RX11, TX11, 6, "MeltPoolModel", rfl, by decide, iw_X11, (hw_win (w := .fieldLink RX11 172 "MeltPoolModel" (TX11 2).2.1 (TX11 2).2.2.1) (by decide +kernel) (by decide +kernel)), Or.inl rfl⟩
set_option maxHeartbeats 4000000 in
set_option maxRecDepth 100000 in
theorem m_X11_powderNow (l : Launch) (Z : hw_Z) (M : hw_M) (ad : hp_ad) (S : hs_S) (X : hr_X) (b1 : Nat → Prop) (n : Nat) (w : Nat) (hP : hr_ok Z b1 M ad S X) (hV : hv_ok S) (hin : n < hs_nw S) (hw : w < 5) : Met l yX11_powderNow (hw_m yX11_powderNow cX11_powderNow 5 (some .int)) ({ frames := 3, cells := 1, slots := 5, locals := 75 } : Room) (va_Pc [.ref (ad 0 0), .int (nI n), .int (nI w)] (hw_P Z M)) (hw_Qi Z (fun r M' => hs_V S n w = r ∧ hr_F M M')) 1 5 (hw_A Z) := by
  refine hw_ofi (by decide +kernel) rfl (Nat.le_of_ble_eq_true rfl) ?_
  intro p e s m below meth c ls Q hx hb hml hown hts hk hnm hI hl hret
  have hB := hV.b
  have hnp := hB.np
  have hnw := hB.nw
  have h12 : 0 = 0 ∧ 0 < hs_nw S := ⟨rfl, by omega⟩
  have e0_0hP : M (ad 0 0) = hw_ob 12 [.int (hr_th X), .int (hs_G S 0), .int (hs_G S 1), .ref (ad 0 2), .ref (ad 0 3), .ref (ad 0 1)] := hP.m 0 0 (show 0 < 4 by decide)
  have e0_3hP : M (ad 0 3) = hw_ob 0 [.int (hr_mc X 1), .ref (ad 12 0), .int (nI (hs_nw S))] := by
    have q := hP.m 0 3 (show 3 < 4 by decide)
    rw [show hr_e Z ad S X 0 3 = hw_ob 0 [.int (hr_mc X 1), .ref (hr_d (hs_nw S) Z.2.2.2 (ad 12 0)), .int (nI (hs_nw S))] from rfl, hr_d0 h12.2] at q
    exact q
  have e12_0hP : M (ad 12 0) = hw_ar Z 7 10 (hc_f (ad 6) (hs_nw S)) := hP.m 12 0 h12
  have e6_nhP : M (ad 6 n) = hw_ob 10 [.int (hs_V S n 0), .int (hs_V S n 1), .int (hs_V S n 2), .int (hs_V S n 3), .int (hs_V S n 4)] := hP.m 6 n hin
  refine lv_aload_n hx hb dX11_powderNow_0 rfl (lv_at hl 0 rfl) ?_
  refine hw_get hx hb hts hown hk hI fd_X11_16 e0_0hP rfl dX11_powderNow_1 ?_
  refine lv_iload_n hx hb dX11_powderNow_4 rfl (lv_at hl 1 rfl) ?_
  refine hw_cFr hI (hw_rF hx hb hml hown hts hk hI (m_Jx4a65c_get_915e3 l Z M (ad 0 3) (ad 12 0) (hs_nw S) n (ad 6 n) (hr_mc X 1) (hc_f (ad 6) (hs_nw S)) e0_3hP e12_0hP hin (by omega) (if_pos hin)) cf_X11_59 e0_3hP rfl rfl ⟨rfl, rfl⟩ ⟨(Nat.le_of_ble_eq_true rfl), (Nat.le_of_ble_eq_true rfl)⟩ rfl hl.1 rfl (Nat.le_of_ble_eq_true rfl) ⟨(Nat.le_of_ble_eq_true rfl), (Nat.le_of_ble_eq_true rfl)⟩ dX11_powderNow_5) (fun r5 M5 H locs hR hI => ?_)
  obtain ⟨rfl, rfl⟩ := hR
  refine hw_cast hx hb hts hown hk hI e6_nhP rfl (hw_win (w := .classLink RX11 86 RX9) (by decide +kernel) (by decide +kernel)) dX11_powderNow_10 ?_
  refine lv_astore_n (lv' := [(3, .ref (ad 6 n)), (0, .ref (ad 0 0)), (1, .int (nI n)), (2, .int (nI w))]) hx hb dX11_powderNow_13 rfl hl (by decide) rfl (fun ls hl => ?_)
  refine lv_iconst (v := nI 5) hx hb dX11_powderNow_14 (by decide) ?_
  refine hw_newa (a0 := (5, .inl (fun _ => 0))) hx hb hts hk hI (atype := .int) (hw_win (w := .arrayClass .int) (by decide +kernel) (by decide +kernel)) rfl 0 rfl (fun _ h => by cases h) (fun _ => rfl) rfl (by decide) (by decide) (Nat.le_of_ble_eq_true rfl) (Nat.le_of_ble_eq_true rfl) dX11_powderNow_15 (fun q15 H hq15 hI => ?_)
  refine lv_dup hx hb dX11_powderNow_17 rfl ?_
  refine lv_iconst (v := nI 0) hx hb dX11_powderNow_18 (by decide) ?_
  refine lv_aload_n hx hb dX11_powderNow_19 rfl (lv_at hl 0 rfl) ?_
  refine hw_get hx hb hts hown hk hI fd_X11_94 (hw_up e6_nhP (hw_nn e6_nhP hq15)) rfl dX11_powderNow_20 ?_
  refine hw_iast hx hb hk hI (hw_us _ _ _) (j := 0) rfl (by omega) (by decide) dX11_powderNow_23 (fun H locs hI => ?_)
  refine lv_dup hx hb dX11_powderNow_24 rfl ?_
  refine lv_iconst (v := nI 1) hx hb dX11_powderNow_25 (by decide) ?_
  refine lv_aload_n hx hb dX11_powderNow_26 rfl (lv_at hl 0 rfl) ?_
  refine hw_get hx hb hts hown hk hI fd_X11_100 (hw_up (hw_up e6_nhP (hw_nn e6_nhP hq15)) (hw_nn e6_nhP hq15)) rfl dX11_powderNow_27 ?_
  refine hw_iast hx hb hk hI (hw_us _ _ _) (j := 1) rfl (by omega) (by decide) dX11_powderNow_30 (fun H locs hI => ?_)
  refine lv_dup hx hb dX11_powderNow_31 rfl ?_
  refine lv_iconst (v := nI 2) hx hb dX11_powderNow_32 (by decide) ?_
  refine lv_aload_n hx hb dX11_powderNow_33 rfl (lv_at hl 0 rfl) ?_
  refine hw_get hx hb hts hown hk hI fd_X11_103 (hw_up (hw_up (hw_up e6_nhP (hw_nn e6_nhP hq15)) (hw_nn e6_nhP hq15)) (hw_nn e6_nhP hq15)) rfl dX11_powderNow_34 ?_
  refine hw_iast hx hb hk hI (hw_us _ _ _) (j := 2) rfl (by omega) (by decide) dX11_powderNow_37 (fun H locs hI => ?_)
  refine lv_dup hx hb dX11_powderNow_38 rfl ?_
  refine lv_iconst (v := nI 3) hx hb dX11_powderNow_39 (by decide) ?_
  refine lv_aload_n hx hb dX11_powderNow_40 rfl (lv_at hl 0 rfl) ?_
  refine hw_get hx hb hts hown hk hI fd_X11_112 (hw_up (hw_up (hw_up (hw_up e6_nhP (hw_nn e6_nhP hq15)) (hw_nn e6_nhP hq15)) (hw_nn e6_nhP hq15)) (hw_nn e6_nhP hq15)) rfl dX11_powderNow_41 ?_
  refine hw_iast hx hb hk hI (hw_us _ _ _) (j := 3) rfl (by omega) (by decide) dX11_powderNow_44 (fun H locs hI => ?_)
  refine lv_dup hx hb dX11_powderNow_45 rfl ?_
  refine lv_iconst (v := nI 4) hx hb dX11_powderNow_46 (by decide) ?_
  refine lv_aload_n hx hb dX11_powderNow_47 rfl (lv_at hl 0 rfl) ?_
  refine hw_get hx hb hts hown hk hI fd_X11_97 (hw_up (hw_up (hw_up (hw_up (hw_up e6_nhP (hw_nn e6_nhP hq15)) (hw_nn e6_nhP hq15)) (hw_nn e6_nhP hq15)) (hw_nn e6_nhP hq15)) (hw_nn e6_nhP hq15)) rfl dX11_powderNow_48 ?_
  refine hw_iast hx hb hk hI (hw_us _ _ _) (j := 4) rfl (by omega) (by decide) dX11_powderNow_51 (fun H locs hI => ?_)
  refine lv_astore (lv' := [(4, .ref q15), (3, .ref (ad 6 n)), (0, .ref (ad 0 0)), (1, .int (nI n)), (2, .int (nI w))]) hx hb dX11_powderNow_52 hl (by decide) rfl (fun ls hl => ?_)
  refine lv_aload hx hb dX11_powderNow_54 (lv_at hl 0 rfl) ?_
  refine lv_iload_n hx hb dX11_powderNow_56 rfl (lv_at hl 4 rfl) ?_
  refine hw_iald hx hb hk hI (hw_us _ _ _) (j := w) rfl (by omega) (by decide) dX11_powderNow_57 ?_
  exact hret hI (⟨(hs_7e S n hw).symm, hr_F_u (hr_F_u (hr_F_u (hr_F_u (hr_F_u (hr_F_n hq15) hq15) hq15) hq15) hq15) hq15⟩) (Nat.le_of_ble_eq_true rfl) (Nat.le_of_ble_eq_true rfl) dX11_powderNow_58

set_option maxHeartbeats 4000000 in
set_option maxRecDepth 100000 in
theorem m_X11_machineNow (l : Launch) (Z : hw_Z) (M : hw_M) (ad : hp_ad) (S : hs_S) (X : hr_X) (b1 : Nat → Prop) (n : Nat) (w : Nat) (hP : hr_ok Z b1 M ad S X) (hV : hv_ok S) (hin : n < 2) (hw : w < 5) : Met l yX11_machineNow (hw_m yX11_machineNow cX11_machineNow 5 (some .int)) ({ frames := 3, cells := 1, slots := 5, locals := 75 } : Room) (va_Pc [.ref (ad 0 0), .int (nI n), .int (nI w)] (hw_P Z M)) (hw_Qi Z (fun r M' => hs_om S n w = r ∧ hr_F M M')) 1 5 (hw_A Z) := by
  refine hw_ofi (by decide +kernel) rfl (Nat.le_of_ble_eq_true rfl) ?_
  intro p e s m below meth c ls Q hx hb hml hown hts hk hnm hI hl hret
  have hB := hV.b
  have hnp := hB.np
  have hnw := hB.nw
  have e0_0hP : M (ad 0 0) = hw_ob 12 [.int (hr_th X), .int (hs_G S 0), .int (hs_G S 1), .ref (ad 0 2), .ref (ad 0 3), .ref (ad 0 1)] := hP.m 0 0 (show 0 < 4 by decide)
  have e0_1hP : M (ad 0 1) = hw_ar Z 6 2 (fun j => some (ad 7 j)) := hP.m 0 1 (show 1 < 4 by decide)
  have e7_nhP : M (ad 7 n) = hw_ob 8 [.int (hs_M S n 0), .int (hs_M S n 1), .int (hs_M S n 2), .int (hs_M S n 3), .ref (ad 8 n)] := hP.m 7 n hin
  have e8_nhP : M (ad 8 n) = hw_ob 0 [.int (hr_mc X (2 + n)), .ref (if hr_gr X n then ad 9 n else Z.2.2.2), .int (nI (hs_N S n))] := hP.m 8 n hin
  refine lv_aload_n hx hb dX11_machineNow_0 rfl (lv_at hl 0 rfl) ?_
  refine hw_get hx hb hts hown hk hI fd_X11_22 e0_0hP rfl dX11_machineNow_1 ?_
  refine lv_iload_n hx hb dX11_machineNow_4 rfl (lv_at hl 1 rfl) ?_
  refine hw_aald hx hb hk hI 6 (v := .ref (ad 7 n)) e0_1hP rfl (j := n) rfl (by omega) (by decide) rfl dX11_machineNow_5 ?_
  refine lv_astore_n (lv' := [(3, .ref (ad 7 n)), (0, .ref (ad 0 0)), (1, .int (nI n)), (2, .int (nI w))]) hx hb dX11_machineNow_6 rfl hl (by decide) rfl (fun ls hl => ?_)
  refine lv_iconst (v := nI 5) hx hb dX11_machineNow_7 (by decide) ?_
  refine hw_newa (a0 := (5, .inl (fun _ => 0))) hx hb hts hk hI (atype := .int) (hw_win (w := .arrayClass .int) (by decide +kernel) (by decide +kernel)) rfl 0 rfl (fun _ h => by cases h) (fun _ => rfl) rfl (by decide) (by decide) (Nat.le_of_ble_eq_true rfl) (Nat.le_of_ble_eq_true rfl) dX11_machineNow_8 (fun q8 H hq8 hI => ?_)
  refine lv_dup hx hb dX11_machineNow_10 rfl ?_
  refine lv_iconst (v := nI 0) hx hb dX11_machineNow_11 (by decide) ?_
  refine lv_aload_n hx hb dX11_machineNow_12 rfl (lv_at hl 0 rfl) ?_
  refine hw_get hx hb hts hown hk hI fd_X11_121 (hw_up e7_nhP (hw_nn e7_nhP hq8)) rfl dX11_machineNow_13 ?_
  refine hw_iast hx hb hk hI (hw_us _ _ _) (j := 0) rfl (by omega) (by decide) dX11_machineNow_16 (fun H locs hI => ?_)
  refine lv_dup hx hb dX11_machineNow_17 rfl ?_
  refine lv_iconst (v := nI 1) hx hb dX11_machineNow_18 (by decide) ?_
  refine lv_aload_n hx hb dX11_machineNow_19 rfl (lv_at hl 0 rfl) ?_
  refine hw_get hx hb hts hown hk hI fd_X11_118 (hw_up (hw_up e7_nhP (hw_nn e7_nhP hq8)) (hw_nn e7_nhP hq8)) rfl dX11_machineNow_20 ?_
  refine hw_iast hx hb hk hI (hw_us _ _ _) (j := 1) rfl (by omega) (by decide) dX11_machineNow_23 (fun H locs hI => ?_)
  refine lv_dup hx hb dX11_machineNow_24 rfl ?_
  refine lv_iconst (v := nI 2) hx hb dX11_machineNow_25 (by decide) ?_
  refine lv_aload_n hx hb dX11_machineNow_26 rfl (lv_at hl 0 rfl) ?_
  refine hw_get hx hb hts hown hk hI fd_X11_124 (hw_up (hw_up (hw_up e7_nhP (hw_nn e7_nhP hq8)) (hw_nn e7_nhP hq8)) (hw_nn e7_nhP hq8)) rfl dX11_machineNow_27 ?_
  refine hw_iast hx hb hk hI (hw_us _ _ _) (j := 2) rfl (by omega) (by decide) dX11_machineNow_30 (fun H locs hI => ?_)
  refine lv_dup hx hb dX11_machineNow_31 rfl ?_
  refine lv_iconst (v := nI 3) hx hb dX11_machineNow_32 (by decide) ?_
  refine lv_aload_n hx hb dX11_machineNow_33 rfl (lv_at hl 0 rfl) ?_
  refine hw_get hx hb hts hown hk hI fd_X11_127 (hw_up (hw_up (hw_up (hw_up e7_nhP (hw_nn e7_nhP hq8)) (hw_nn e7_nhP hq8)) (hw_nn e7_nhP hq8)) (hw_nn e7_nhP hq8)) rfl dX11_machineNow_34 ?_
  refine hw_iast hx hb hk hI (hw_us _ _ _) (j := 3) rfl (by omega) (by decide) dX11_machineNow_37 (fun H locs hI => ?_)
  refine lv_dup hx hb dX11_machineNow_38 rfl ?_
  refine lv_iconst (v := nI 4) hx hb dX11_machineNow_39 (by decide) ?_
  refine lv_aload_n hx hb dX11_machineNow_40 rfl (lv_at hl 0 rfl) ?_
  refine hw_get hx hb hts hown hk hI fd_X11_134 (hw_up (hw_up (hw_up (hw_up (hw_up e7_nhP (hw_nn e7_nhP hq8)) (hw_nn e7_nhP hq8)) (hw_nn e7_nhP hq8)) (hw_nn e7_nhP hq8)) (hw_nn e7_nhP hq8)) rfl dX11_machineNow_41 ?_
  refine hw_cFi hI (hw_rF hx hb hml hown hts hk hI (m_Jx4a65c_size_8abf5 l Z (va_up (va_up (va_up (va_up (va_up M q8 (hw_ai Z 5 (fun _ => 0))) q8 (hw_ai Z 5 (va_up (fun _ => 0) 0 (hs_M S n 0)))) q8 (hw_ai Z 5 (va_up (va_up (fun _ => 0) 0 (hs_M S n 0)) 1 (hs_M S n 1)))) q8 (hw_ai Z 5 (va_up (va_up (va_up (fun _ => 0) 0 (hs_M S n 0)) 1 (hs_M S n 1)) 2 (hs_M S n 2)))) q8 (hw_ai Z 5 (va_up (va_up (va_up (va_up (fun _ => 0) 0 (hs_M S n 0)) 1 (hs_M S n 1)) 2 (hs_M S n 2)) 3 (hs_M S n 3)))) (ad 8 n) (hs_N S n) (hr_mc X (2 + n)) (.ref (if hr_gr X n then ad 9 n else Z.2.2.2)) (hw_up (hw_up (hw_up (hw_up (hw_up e8_nhP (hw_nn e8_nhP hq8)) (hw_nn e8_nhP hq8)) (hw_nn e8_nhP hq8)) (hw_nn e8_nhP hq8)) (hw_nn e8_nhP hq8))) cf_X11_34 (hw_up (hw_up (hw_up (hw_up (hw_up e8_nhP (hw_nn e8_nhP hq8)) (hw_nn e8_nhP hq8)) (hw_nn e8_nhP hq8)) (hw_nn e8_nhP hq8)) (hw_nn e8_nhP hq8)) rfl rfl ⟨rfl, rfl⟩ ⟨(Nat.le_of_ble_eq_true rfl), (Nat.le_of_ble_eq_true rfl)⟩ rfl hl.1 rfl (Nat.le_of_ble_eq_true rfl) ⟨(Nat.le_of_ble_eq_true rfl), (Nat.le_of_ble_eq_true rfl)⟩ dX11_machineNow_44) (fun r44 M44 H locs hR hI => ?_)
  obtain ⟨rfl, rfl⟩ := hR
  refine hw_iast hx hb hk hI (hw_us _ _ _) (j := 4) rfl (by omega) (by decide) dX11_machineNow_49 (fun H locs hI => ?_)
  refine lv_astore (lv' := [(4, .ref q8), (3, .ref (ad 7 n)), (0, .ref (ad 0 0)), (1, .int (nI n)), (2, .int (nI w))]) hx hb dX11_machineNow_50 hl (by decide) rfl (fun ls hl => ?_)
  refine lv_aload hx hb dX11_machineNow_52 (lv_at hl 0 rfl) ?_
  refine lv_iload_n hx hb dX11_machineNow_54 rfl (lv_at hl 4 rfl) ?_
  refine hw_iald hx hb hk hI (hw_us _ _ _) (j := w) rfl (by omega) (by decide) dX11_machineNow_55 ?_
  exact hret hI (⟨(hs_8e S n hw).symm, hr_F_u (hr_F_u (hr_F_u (hr_F_u (hr_F_u (hr_F_n hq8) hq8) hq8) hq8) hq8) hq8⟩) (Nat.le_of_ble_eq_true rfl) (Nat.le_of_ble_eq_true rfl) dX11_machineNow_56

set_option maxHeartbeats 4000000 in
set_option maxRecDepth 100000 in
theorem m_X11_recallNow (l : Launch) (Z : hw_Z) (M : hw_M) (ad : hp_ad) (S : hs_S) (X : hr_X) (b1 : Nat → Prop) (w : Nat) (hP : hr_ok Z b1 M ad S X) (hV : hv_ok S) (hw : w < 6) : Met l yX11_recallNow (hw_m yX11_recallNow cX11_recallNow 4 (some .int)) ({ frames := 3, cells := 0, slots := 0, locals := 75 } : Room) (va_Pc [.ref (ad 0 0), .int (nI w)] (hw_P Z M)) (hw_Qi Z (fun r M' => hs_re S w (hs_np S) = r ∧ M = M')) 0 0 (hw_A Z) := by
  refine hw_ofi (by decide +kernel) rfl (Nat.le_of_ble_eq_true rfl) ?_
  intro p e s m below meth c ls Q hx hb hml hown hts hk hnm hI hl hret
  have hB := hV.b
  have hnp := hB.np
  have hnw := hB.nw
  have e0_0hP : M (ad 0 0) = hw_ob 12 [.int (hr_th X), .int (hs_G S 0), .int (hs_G S 1), .ref (ad 0 2), .ref (ad 0 3), .ref (ad 0 1)] := hP.m 0 0 (show 0 < 4 by decide)
  have e0_2hP : M (ad 0 2) = hw_ob 0 [.int (hr_mc X 0), .ref (hr_d (hs_np S) Z.2.2.2 (ad 11 0)), .int (nI (hs_np S))] := hP.m 0 2 (show 2 < 4 by decide)
  refine lv_iconst (v := nI 0) hx hb dX11_recallNow_0 (by decide) ?_
  refine lv_istore_n (lv' := [(2, .int (nI 0)), (0, .ref (ad 0 0)), (1, .int (nI w))]) hx hb dX11_recallNow_1 rfl hl (by decide) rfl (fun ls hl => ?_)
  refine lv_iconst (v := nI 0) hx hb dX11_recallNow_2 (by decide) ?_
  refine lv_istore_n (lv' := [(3, .int (nI 0)), (2, .int (nI 0)), (0, .ref (ad 0 0)), (1, .int (nI w))]) hx hb dX11_recallNow_3 rfl hl (by decide) rfl (fun ls hl => ?_)
  suffices LP4 : ∀ i, i ≤ (hs_np S) → ∀ (H : Heap) (locs : List Loc) (ls : Array Slot), hw_iv Z s (M) H locs → lv_has ls 4 [(2, .int (hs_re S w i)), (3, .int (nI i)), (0, .ref (ad 0 0)), (1, .int (nI w))] → W p l e ({ frames := 3, cells := 0, slots := 0, locals := 75 } : Room) s m ([.ref (ad 0 0), .int (nI w)] : List Value).toArray below meth c H locs 0 0 Q (F0 m 4 ls []) from LP4 0 (by omega) _ _ _ hI (lv_sub hl [1, 0, 2, 3] rfl)
  refine hw_loop ?_ (fun i hi4 ih4 => ?_)
  · intro H locs ls hI hl
    refine lv_iload_n hx hb dX11_recallNow_4 rfl (lv_at hl 1 rfl) ?_
    refine lv_aload_n hx hb dX11_recallNow_5 rfl (lv_at hl 2 rfl) ?_
    refine hw_get hx hb hts hown hk hI fd_X11_10 e0_0hP rfl dX11_recallNow_6 ?_
    refine hw_cFi hI (hw_rF hx hb hml hown hts hk hI (m_Jx4a65c_size_8abf5 l Z M (ad 0 2) (hs_np S) (hr_mc X 0) (.ref (hr_d (hs_np S) Z.2.2.2 (ad 11 0))) e0_2hP) cf_X11_34 e0_2hP rfl rfl ⟨rfl, rfl⟩ ⟨(Nat.le_of_ble_eq_true rfl), (Nat.le_of_ble_eq_true rfl)⟩ rfl hl.1 rfl (Nat.le_of_ble_eq_true rfl) ⟨(Nat.le_of_ble_eq_true rfl), (Nat.le_of_ble_eq_true rfl)⟩ dX11_recallNow_9) (fun r9 M9 H locs hR hI => ?_)
    obtain ⟨rfl, rfl⟩ := hR
    refine lv_icmp_ge (tgt := 77) hx hb dX11_recallNow_14 (by decide) (fun _ => ?_) (fun hc => absurd (Int32.le_refl _) hc)
    refine lv_iload_n hx hb dX11_recallNow_77 rfl (lv_at hl 0 rfl) ?_
    exact hret hI (⟨rfl, rfl⟩) (Nat.le_of_ble_eq_true rfl) (Nat.le_of_ble_eq_true rfl) dX11_recallNow_78
  · intro H locs ls hI hl
    refine lv_iload_n hx hb dX11_recallNow_4 rfl (lv_at hl 1 rfl) ?_
    refine lv_aload_n hx hb dX11_recallNow_5 rfl (lv_at hl 2 rfl) ?_
    refine hw_get hx hb hts hown hk hI fd_X11_10 e0_0hP rfl dX11_recallNow_6 ?_
    refine hw_cFi hI (hw_rF hx hb hml hown hts hk hI (m_Jx4a65c_size_8abf5 l Z M (ad 0 2) (hs_np S) (hr_mc X 0) (.ref (hr_d (hs_np S) Z.2.2.2 (ad 11 0))) e0_2hP) cf_X11_34 e0_2hP rfl rfl ⟨rfl, rfl⟩ ⟨(Nat.le_of_ble_eq_true rfl), (Nat.le_of_ble_eq_true rfl)⟩ rfl hl.1 rfl (Nat.le_of_ble_eq_true rfl) ⟨(Nat.le_of_ble_eq_true rfl), (Nat.le_of_ble_eq_true rfl)⟩ dX11_recallNow_9) (fun r9 M9 H locs hR hI => ?_)
    obtain ⟨rfl, rfl⟩ := hR
    refine lv_icmp_ge (tgt := 77) hx hb dX11_recallNow_14 (by decide) (fun hc => absurd hc (nI_ge hi4 (by omega))) (fun _ => ?_)
    have h11 : 0 = 0 ∧ 0 < hs_np S := ⟨rfl, by omega⟩
    have e0_2hP : M (ad 0 2) = hw_ob 0 [.int (hr_mc X 0), .ref (ad 11 0), .int (nI (hs_np S))] := by
      have q := hP.m 0 2 (show 2 < 4 by decide)
      rw [show hr_e Z ad S X 0 2 = hw_ob 0 [.int (hr_mc X 0), .ref (hr_d (hs_np S) Z.2.2.2 (ad 11 0)), .int (nI (hs_np S))] from rfl, hr_d0 h11.2] at q
      exact q
    have e11_0hP : M (ad 11 0) = hw_ar Z 7 10 (hc_f (ad 1) (hs_np S)) := hP.m 11 0 h11
    have e1_ihP : M (ad 1 i) = hw_ob 9 [.ref (ad 2 i), .int (hs_P S i 0), .ref (ad 4 i), .int (hs_P S i 3), .int (hs_P S i 4), .int (hs_P S i 5), .int (hs_P S i 6), .int (hs_P S i 7), .int (hs_P S i 8)] := hP.m 1 i hi4
    refine lv_iload_n hx hb dX11_recallNow_17 rfl (lv_at hl 0 rfl) ?_
    refine lv_aload_n hx hb dX11_recallNow_18 rfl (lv_at hl 2 rfl) ?_
    refine hw_get hx hb hts hown hk hI fd_X11_10 e0_0hP rfl dX11_recallNow_19 ?_
    refine lv_iload_n hx hb dX11_recallNow_22 rfl (lv_at hl 1 rfl) ?_
    refine hw_cFr hI (hw_rF hx hb hml hown hts hk hI (m_Jx4a65c_get_915e3 l Z M (ad 0 2) (ad 11 0) (hs_np S) i (ad 1 i) (hr_mc X 0) (hc_f (ad 1) (hs_np S)) e0_2hP e11_0hP hi4 (by omega) (if_pos hi4)) cf_X11_59 e0_2hP rfl rfl ⟨rfl, rfl⟩ ⟨(Nat.le_of_ble_eq_true rfl), (Nat.le_of_ble_eq_true rfl)⟩ rfl hl.1 rfl (Nat.le_of_ble_eq_true rfl) ⟨(Nat.le_of_ble_eq_true rfl), (Nat.le_of_ble_eq_true rfl)⟩ dX11_recallNow_23) (fun r23 M23 H locs hR hI => ?_)
    obtain ⟨rfl, rfl⟩ := hR
    refine hw_cast hx hb hts hown hk hI e1_ihP rfl (hw_win (w := .classLink RX11 48 RX8) (by decide +kernel) (by decide +kernel)) dX11_recallNow_28 ?_
    refine hw_get hx hb hts hown hk hI fd_X11_160 e1_ihP rfl dX11_recallNow_31 ?_
    refine lv_iconst (v := (-1)) hx hb dX11_recallNow_34 (by decide) ?_
    refine lv_icmp_eq (tgt := 68) hx hb dX11_recallNow_35 (by decide) (fun c35 => ?_) (fun c35 => ?_)
    · refine lv_iconst (v := nI 0) hx hb dX11_recallNow_68 (by decide) ?_
      refine lv_ior hx hb dX11_recallNow_69 ?_
      refine lv_istore_n (lv' := [(2, .int ((hs_re S w i) ||| (nI 0))), (3, .int (nI i)), (0, .ref (ad 0 0)), (1, .int (nI w))]) hx hb dX11_recallNow_70 rfl hl (by decide) rfl (fun ls hl => ?_)
      refine lv_iinc (v := nI (i + 1)) (lv' := [(3, .int (nI (i + 1))), (2, .int ((hs_re S w i) ||| (nI 0))), (0, .ref (ad 0 0)), (1, .int (nI w))]) hx hb dX11_recallNow_71 hl (k := 1) rfl (hw_inc _) (by decide) rfl (fun ls hl => ?_)
      refine lv_goto (tgt := 4) hx hb dX11_recallNow_74 (by decide) ?_
      exact ih4 _ _ _ hI (lv_sub hl [1, 0, 2, 3] (by rw [← hs_re_n (fun q => ((hv_re hV hi4 hw).mpr q).1 c35)]; rfl))
    · refine lv_aload_n hx hb dX11_recallNow_38 rfl (lv_at hl 2 rfl) ?_
      refine hw_get hx hb hts hown hk hI fd_X11_10 e0_0hP rfl dX11_recallNow_39 ?_
      refine lv_iload_n hx hb dX11_recallNow_42 rfl (lv_at hl 1 rfl) ?_
      refine hw_cFr hI (hw_rF hx hb hml hown hts hk hI (m_Jx4a65c_get_915e3 l Z M (ad 0 2) (ad 11 0) (hs_np S) i (ad 1 i) (hr_mc X 0) (hc_f (ad 1) (hs_np S)) e0_2hP e11_0hP hi4 (by omega) (if_pos hi4)) cf_X11_59 e0_2hP rfl rfl ⟨rfl, rfl⟩ ⟨(Nat.le_of_ble_eq_true rfl), (Nat.le_of_ble_eq_true rfl)⟩ rfl hl.1 rfl (Nat.le_of_ble_eq_true rfl) ⟨(Nat.le_of_ble_eq_true rfl), (Nat.le_of_ble_eq_true rfl)⟩ dX11_recallNow_43) (fun r43 M43 H locs hR hI => ?_)
      obtain ⟨rfl, rfl⟩ := hR
      refine hw_cast hx hb hts hown hk hI e1_ihP rfl (hw_win (w := .classLink RX11 48 RX8) (by decide +kernel) (by decide +kernel)) dX11_recallNow_48 ?_
      refine hw_get hx hb hts hown hk hI fd_X11_160 e1_ihP rfl dX11_recallNow_51 ?_
      refine lv_iload_n hx hb dX11_recallNow_54 rfl (lv_at hl 3 rfl) ?_
      refine lv_ishr hx hb dX11_recallNow_55 ?_
      refine lv_iconst (v := nI 1) hx hb dX11_recallNow_56 (by decide) ?_
      refine lv_iand hx hb dX11_recallNow_57 ?_
      refine lv_iconst (v := nI 1) hx hb dX11_recallNow_58 (by decide) ?_
      refine lv_icmp_ne (tgt := 68) hx hb dX11_recallNow_59 (by decide) (fun c59 => ?_) (fun c59 => ?_)
      · refine lv_iconst (v := nI 0) hx hb dX11_recallNow_68 (by decide) ?_
        refine lv_ior hx hb dX11_recallNow_69 ?_
        refine lv_istore_n (lv' := [(2, .int ((hs_re S w i) ||| (nI 0))), (3, .int (nI i)), (0, .ref (ad 0 0)), (1, .int (nI w))]) hx hb dX11_recallNow_70 rfl hl (by decide) rfl (fun ls hl => ?_)
        refine lv_iinc (v := nI (i + 1)) (lv' := [(3, .int (nI (i + 1))), (2, .int ((hs_re S w i) ||| (nI 0))), (0, .ref (ad 0 0)), (1, .int (nI w))]) hx hb dX11_recallNow_71 hl (k := 1) rfl (hw_inc _) (by decide) rfl (fun ls hl => ?_)
        refine lv_goto (tgt := 4) hx hb dX11_recallNow_74 (by decide) ?_
        exact ih4 _ _ _ hI (lv_sub hl [1, 0, 2, 3] (by rw [← hs_re_n (fun q => c59 ((hv_re hV hi4 hw).mpr q).2)]; rfl))
      · refine lv_iconst (v := nI 1) hx hb dX11_recallNow_62 (by decide) ?_
        refine lv_iload_n hx hb dX11_recallNow_63 rfl (lv_at hl 1 rfl) ?_
        refine lv_ishl hx hb dX11_recallNow_64 ?_
        refine lv_goto (tgt := 69) hx hb dX11_recallNow_65 (by decide) ?_
        refine lv_ior hx hb dX11_recallNow_69 ?_
        refine lv_istore_n (lv' := [(2, .int ((hs_re S w i) ||| ((nI 1) <<< ((nI i) &&& 31)))), (3, .int (nI i)), (0, .ref (ad 0 0)), (1, .int (nI w))]) hx hb dX11_recallNow_70 rfl hl (by decide) rfl (fun ls hl => ?_)
        refine lv_iinc (v := nI (i + 1)) (lv' := [(3, .int (nI (i + 1))), (2, .int ((hs_re S w i) ||| ((nI 1) <<< ((nI i) &&& 31)))), (0, .ref (ad 0 0)), (1, .int (nI w))]) hx hb dX11_recallNow_71 hl (k := 1) rfl (hw_inc _) (by decide) rfl (fun ls hl => ?_)
        refine lv_goto (tgt := 4) hx hb dX11_recallNow_74 (by decide) ?_
        exact ih4 _ _ _ hI (lv_sub hl [1, 0, 2, 3] (by rw [← hs_re_y ((hv_re hV hi4 hw).mp ⟨c35, c59⟩)]; rfl))

set_option maxHeartbeats 4000000 in
set_option maxRecDepth 100000 in
theorem m_X11_count (l : Launch) (Z : hw_Z) (M : hw_M) (ad : hp_ad) (S : hs_S) (X : hr_X) (b1 : Nat → Prop) (xw : Int32) (hP : hr_ok Z b1 M ad S X) (hV : hv_ok S) : Met l yX11_count (hw_m yX11_count cX11_count 4 (some .int)) ({ frames := 3, cells := 0, slots := 0, locals := 75 } : Room) (va_Pc [.ref (ad 0 0), .int xw] (hw_P Z M)) (hw_Qi Z (fun r M' => nI (hs_ca S xw (hs_np S)) = r ∧ M = M')) 0 0 (hw_A Z) := by
  refine hw_ofi (by decide +kernel) rfl (Nat.le_of_ble_eq_true rfl) ?_
  intro p e s m below meth c ls Q hx hb hml hown hts hk hnm hI hl hret
  have hB := hV.b
  have hnp := hB.np
  have hnw := hB.nw
  have e0_0hP : M (ad 0 0) = hw_ob 12 [.int (hr_th X), .int (hs_G S 0), .int (hs_G S 1), .ref (ad 0 2), .ref (ad 0 3), .ref (ad 0 1)] := hP.m 0 0 (show 0 < 4 by decide)
  have e0_2hP : M (ad 0 2) = hw_ob 0 [.int (hr_mc X 0), .ref (hr_d (hs_np S) Z.2.2.2 (ad 11 0)), .int (nI (hs_np S))] := hP.m 0 2 (show 2 < 4 by decide)
  refine lv_iconst (v := nI 0) hx hb dX11_count_0 (by decide) ?_
  refine lv_istore_n (lv' := [(2, .int (nI 0)), (0, .ref (ad 0 0)), (1, .int xw)]) hx hb dX11_count_1 rfl hl (by decide) rfl (fun ls hl => ?_)
  refine lv_iconst (v := nI 0) hx hb dX11_count_2 (by decide) ?_
  refine lv_istore_n (lv' := [(3, .int (nI 0)), (2, .int (nI 0)), (0, .ref (ad 0 0)), (1, .int xw)]) hx hb dX11_count_3 rfl hl (by decide) rfl (fun ls hl => ?_)
  suffices LP4 : ∀ i, i ≤ (hs_np S) → ∀ (H : Heap) (locs : List Loc) (ls : Array Slot), hw_iv Z s (M) H locs → lv_has ls 4 [(2, .int (nI (hs_ca S xw i))), (3, .int (nI i)), (0, .ref (ad 0 0)), (1, .int xw)] → W p l e ({ frames := 3, cells := 0, slots := 0, locals := 75 } : Room) s m ([.ref (ad 0 0), .int xw] : List Value).toArray below meth c H locs 0 0 Q (F0 m 4 ls []) from LP4 0 (by omega) _ _ _ hI (lv_sub hl [1, 0, 2, 3] rfl)
  refine hw_loop ?_ (fun i hi4 ih4 => ?_)
  · intro H locs ls hI hl
    refine lv_iload_n hx hb dX11_count_4 rfl (lv_at hl 1 rfl) ?_
    refine lv_aload_n hx hb dX11_count_5 rfl (lv_at hl 2 rfl) ?_
    refine hw_get hx hb hts hown hk hI fd_X11_10 e0_0hP rfl dX11_count_6 ?_
    refine hw_cFi hI (hw_rF hx hb hml hown hts hk hI (m_Jx4a65c_size_8abf5 l Z M (ad 0 2) (hs_np S) (hr_mc X 0) (.ref (hr_d (hs_np S) Z.2.2.2 (ad 11 0))) e0_2hP) cf_X11_34 e0_2hP rfl rfl ⟨rfl, rfl⟩ ⟨(Nat.le_of_ble_eq_true rfl), (Nat.le_of_ble_eq_true rfl)⟩ rfl hl.1 rfl (Nat.le_of_ble_eq_true rfl) ⟨(Nat.le_of_ble_eq_true rfl), (Nat.le_of_ble_eq_true rfl)⟩ dX11_count_9) (fun r9 M9 H locs hR hI => ?_)
    obtain ⟨rfl, rfl⟩ := hR
    refine lv_icmp_ge (tgt := 51) hx hb dX11_count_14 (by decide) (fun _ => ?_) (fun hc => absurd (Int32.le_refl _) hc)
    refine lv_iload_n hx hb dX11_count_51 rfl (lv_at hl 0 rfl) ?_
    exact hret hI (⟨rfl, rfl⟩) (Nat.le_of_ble_eq_true rfl) (Nat.le_of_ble_eq_true rfl) dX11_count_52
  · intro H locs ls hI hl
    refine lv_iload_n hx hb dX11_count_4 rfl (lv_at hl 1 rfl) ?_
    refine lv_aload_n hx hb dX11_count_5 rfl (lv_at hl 2 rfl) ?_
    refine hw_get hx hb hts hown hk hI fd_X11_10 e0_0hP rfl dX11_count_6 ?_
    refine hw_cFi hI (hw_rF hx hb hml hown hts hk hI (m_Jx4a65c_size_8abf5 l Z M (ad 0 2) (hs_np S) (hr_mc X 0) (.ref (hr_d (hs_np S) Z.2.2.2 (ad 11 0))) e0_2hP) cf_X11_34 e0_2hP rfl rfl ⟨rfl, rfl⟩ ⟨(Nat.le_of_ble_eq_true rfl), (Nat.le_of_ble_eq_true rfl)⟩ rfl hl.1 rfl (Nat.le_of_ble_eq_true rfl) ⟨(Nat.le_of_ble_eq_true rfl), (Nat.le_of_ble_eq_true rfl)⟩ dX11_count_9) (fun r9 M9 H locs hR hI => ?_)
    obtain ⟨rfl, rfl⟩ := hR
    refine lv_icmp_ge (tgt := 51) hx hb dX11_count_14 (by decide) (fun hc => absurd hc (nI_ge hi4 (by omega))) (fun _ => ?_)
    have h11 : 0 = 0 ∧ 0 < hs_np S := ⟨rfl, by omega⟩
    have e0_2hP : M (ad 0 2) = hw_ob 0 [.int (hr_mc X 0), .ref (ad 11 0), .int (nI (hs_np S))] := by
      have q := hP.m 0 2 (show 2 < 4 by decide)
      rw [show hr_e Z ad S X 0 2 = hw_ob 0 [.int (hr_mc X 0), .ref (hr_d (hs_np S) Z.2.2.2 (ad 11 0)), .int (nI (hs_np S))] from rfl, hr_d0 h11.2] at q
      exact q
    have e11_0hP : M (ad 11 0) = hw_ar Z 7 10 (hc_f (ad 1) (hs_np S)) := hP.m 11 0 h11
    have e1_ihP : M (ad 1 i) = hw_ob 9 [.ref (ad 2 i), .int (hs_P S i 0), .ref (ad 4 i), .int (hs_P S i 3), .int (hs_P S i 4), .int (hs_P S i 5), .int (hs_P S i 6), .int (hs_P S i 7), .int (hs_P S i 8)] := hP.m 1 i hi4
    refine lv_iload_n hx hb dX11_count_17 rfl (lv_at hl 0 rfl) ?_
    refine lv_aload_n hx hb dX11_count_18 rfl (lv_at hl 2 rfl) ?_
    refine hw_get hx hb hts hown hk hI fd_X11_10 e0_0hP rfl dX11_count_19 ?_
    refine lv_iload_n hx hb dX11_count_22 rfl (lv_at hl 1 rfl) ?_
    refine hw_cFr hI (hw_rF hx hb hml hown hts hk hI (m_Jx4a65c_get_915e3 l Z M (ad 0 2) (ad 11 0) (hs_np S) i (ad 1 i) (hr_mc X 0) (hc_f (ad 1) (hs_np S)) e0_2hP e11_0hP hi4 (by omega) (if_pos hi4)) cf_X11_59 e0_2hP rfl rfl ⟨rfl, rfl⟩ ⟨(Nat.le_of_ble_eq_true rfl), (Nat.le_of_ble_eq_true rfl)⟩ rfl hl.1 rfl (Nat.le_of_ble_eq_true rfl) ⟨(Nat.le_of_ble_eq_true rfl), (Nat.le_of_ble_eq_true rfl)⟩ dX11_count_23) (fun r23 M23 H locs hR hI => ?_)
    obtain ⟨rfl, rfl⟩ := hR
    refine hw_cast hx hb hts hown hk hI e1_ihP rfl (hw_win (w := .classLink RX11 48 RX8) (by decide +kernel) (by decide +kernel)) dX11_count_28 ?_
    refine hw_get hx hb hts hown hk hI fd_X11_63 e1_ihP rfl dX11_count_31 ?_
    refine lv_iload_n hx hb dX11_count_34 rfl (lv_at hl 3 rfl) ?_
    refine lv_icmp_ne (tgt := 42) hx hb dX11_count_35 (by decide) (fun c35 => ?_) (fun c35 => ?_)
    · refine lv_iconst (v := nI 0) hx hb dX11_count_42 (by decide) ?_
      refine lv_iadd hx hb dX11_count_43 ?_
      refine hw_ti (nI_add _ _) ?_
      refine lv_istore_n (lv' := [(2, .int (nI ((hs_ca S xw i) + 0))), (3, .int (nI i)), (0, .ref (ad 0 0)), (1, .int xw)]) hx hb dX11_count_44 rfl hl (by decide) rfl (fun ls hl => ?_)
      refine lv_iinc (v := nI (i + 1)) (lv' := [(3, .int (nI (i + 1))), (2, .int (nI ((hs_ca S xw i) + 0))), (0, .ref (ad 0 0)), (1, .int xw)]) hx hb dX11_count_45 hl (k := 1) rfl (hw_inc _) (by decide) rfl (fun ls hl => ?_)
      refine lv_goto (tgt := 4) hx hb dX11_count_48 (by decide) ?_
      exact ih4 _ _ _ hI (lv_sub hl [1, 0, 2, 3] (by rw [← hs_ca_n c35]; rfl))
    · refine lv_iconst (v := nI 1) hx hb dX11_count_38 (by decide) ?_
      refine lv_goto (tgt := 43) hx hb dX11_count_39 (by decide) ?_
      refine lv_iadd hx hb dX11_count_43 ?_
      refine hw_ti (nI_add _ _) ?_
      refine lv_istore_n (lv' := [(2, .int (nI ((hs_ca S xw i) + 1))), (3, .int (nI i)), (0, .ref (ad 0 0)), (1, .int xw)]) hx hb dX11_count_44 rfl hl (by decide) rfl (fun ls hl => ?_)
      refine lv_iinc (v := nI (i + 1)) (lv' := [(3, .int (nI (i + 1))), (2, .int (nI ((hs_ca S xw i) + 1))), (0, .ref (ad 0 0)), (1, .int xw)]) hx hb dX11_count_45 hl (k := 1) rfl (hw_inc _) (by decide) rfl (fun ls hl => ?_)
      refine lv_goto (tgt := 4) hx hb dX11_count_48 (by decide) ?_
      exact ih4 _ _ _ hI (lv_sub hl [1, 0, 2, 3] (by rw [← hs_ca_y c35]; rfl))

set_option maxHeartbeats 4000000 in
set_option maxRecDepth 100000 in
theorem m_X11_manyNow (l : Launch) (Z : hw_Z) (M : hw_M) (ad : hp_ad) (S : hs_S) (X : hr_X) (b1 : Nat → Prop) (w : Nat) (hP : hr_ok Z b1 M ad S X) (hV : hv_ok S) (hA : ∀ a, b1 a → M a ≠ none) (hw : w < 8) : Met l yX11_manyNow (hw_m yX11_manyNow cX11_manyNow 4 (some .int)) ({ frames := 4, cells := 1, slots := 8, locals := 105 } : Room) (va_Pc [.ref (ad 0 0), .int (nI w)] (hw_P Z M)) (hw_Qi Z (fun r M' => hs_many S w = r ∧ hr_F M M')) 1 8 (hw_A Z) := by
  refine hw_ofi (by decide +kernel) rfl (Nat.le_of_ble_eq_true rfl) ?_
  intro p e s m below meth c ls Q hx hb hml hown hts hk hnm hI hl hret
  have hB := hV.b
  have hnp := hB.np
  have hnw := hB.nw
  have e0_0hP : M (ad 0 0) = hw_ob 12 [.int (hr_th X), .int (hs_G S 0), .int (hs_G S 1), .ref (ad 0 2), .ref (ad 0 3), .ref (ad 0 1)] := hP.m 0 0 (show 0 < 4 by decide)
  have e0_1hP : M (ad 0 1) = hw_ar Z 6 2 (fun j => some (ad 7 j)) := hP.m 0 1 (show 1 < 4 by decide)
  have e0_2hP : M (ad 0 2) = hw_ob 0 [.int (hr_mc X 0), .ref (hr_d (hs_np S) Z.2.2.2 (ad 11 0)), .int (nI (hs_np S))] := hP.m 0 2 (show 2 < 4 by decide)
  have e0_3hP : M (ad 0 3) = hw_ob 0 [.int (hr_mc X 1), .ref (hr_d (hs_nw S) Z.2.2.2 (ad 12 0)), .int (nI (hs_nw S))] := hP.m 0 3 (show 3 < 4 by decide)
  have e7_0hP : M (ad 7 0) = hw_ob 8 [.int (hs_M S 0 0), .int (hs_M S 0 1), .int (hs_M S 0 2), .int (hs_M S 0 3), .ref (ad 8 0)] := hP.m 7 0 (show 0 < 2 by decide)
  have e7_1hP : M (ad 7 1) = hw_ob 8 [.int (hs_M S 1 0), .int (hs_M S 1 1), .int (hs_M S 1 2), .int (hs_M S 1 3), .ref (ad 8 1)] := hP.m 7 1 (show 1 < 2 by decide)
  have e8_0hP : M (ad 8 0) = hw_ob 0 [.int (hr_mc X (2 + 0)), .ref (if hr_gr X 0 then ad 9 0 else Z.2.2.2), .int (nI (hs_N S 0))] := hP.m 8 0 (show 0 < 2 by decide)
  have e8_1hP : M (ad 8 1) = hw_ob 0 [.int (hr_mc X (2 + 1)), .ref (if hr_gr X 1 then ad 9 1 else Z.2.2.2), .int (nI (hs_N S 1))] := hP.m 8 1 (show 1 < 2 by decide)
  refine lv_aload_n hx hb dX11_manyNow_0 rfl (lv_at hl 0 rfl) ?_
  refine hw_get hx hb hts hown hk hI fd_X11_22 e0_0hP rfl dX11_manyNow_1 ?_
  refine lv_iconst (v := nI 0) hx hb dX11_manyNow_4 (by decide) ?_
  refine hw_aald hx hb hk hI 6 (v := .ref (ad 7 0)) e0_1hP rfl (j := 0) rfl (by omega) (by decide) rfl dX11_manyNow_5 ?_
  refine hw_get hx hb hts hown hk hI fd_X11_124 e7_0hP rfl dX11_manyNow_6 ?_
  refine lv_aload_n hx hb dX11_manyNow_9 rfl (lv_at hl 0 rfl) ?_
  refine hw_get hx hb hts hown hk hI fd_X11_22 e0_0hP rfl dX11_manyNow_10 ?_
  refine lv_iconst (v := nI 1) hx hb dX11_manyNow_13 (by decide) ?_
  refine hw_aald hx hb hk hI 6 (v := .ref (ad 7 1)) e0_1hP rfl (j := 1) rfl (by omega) (by decide) rfl dX11_manyNow_14 ?_
  refine hw_get hx hb hts hown hk hI fd_X11_124 e7_1hP rfl dX11_manyNow_15 ?_
  refine lv_iadd hx hb dX11_manyNow_18 ?_
  refine lv_istore_n (lv' := [(2, .int ((hs_M S 0 2) + (hs_M S 1 2))), (0, .ref (ad 0 0)), (1, .int (nI w))]) hx hb dX11_manyNow_19 rfl hl (by decide) rfl (fun ls hl => ?_)
  refine lv_iconst (v := nI 0) hx hb dX11_manyNow_20 (by decide) ?_
  refine lv_istore_n (lv' := [(3, .int (nI 0)), (2, .int ((hs_M S 0 2) + (hs_M S 1 2))), (0, .ref (ad 0 0)), (1, .int (nI w))]) hx hb dX11_manyNow_21 rfl hl (by decide) rfl (fun ls hl => ?_)
  suffices LP22 : ∀ i, i ≤ (hs_nw S) → ∀ (H : Heap) (locs : List Loc) (ls : Array Slot), hw_iv Z s (M) H locs → lv_has ls 4 [(2, .int (hs_M S 0 2 + hs_M S 1 2 + hs_gs S i)), (3, .int (nI i)), (0, .ref (ad 0 0)), (1, .int (nI w))] → W p l e ({ frames := 4, cells := 1, slots := 8, locals := 105 } : Room) s m ([.ref (ad 0 0), .int (nI w)] : List Value).toArray below meth c H locs 0 0 Q (F0 m 22 ls []) from LP22 0 (by omega) _ _ _ hI (lv_sub hl [1, 0, 2, 3] (by rw [show hs_gs S 0 = 0 from rfl, Int32.add_zero]; rfl))
  refine hw_loop ?_ (fun i hi22 ih22 => ?_)
  · intro H locs ls hI hl
    refine lv_iload_n hx hb dX11_manyNow_22 rfl (lv_at hl 1 rfl) ?_
    refine lv_aload_n hx hb dX11_manyNow_23 rfl (lv_at hl 2 rfl) ?_
    refine hw_get hx hb hts hown hk hI fd_X11_16 e0_0hP rfl dX11_manyNow_24 ?_
    refine hw_cFi hI (hw_rF hx hb hml hown hts hk hI (m_Jx4a65c_size_8abf5 l Z M (ad 0 3) (hs_nw S) (hr_mc X 1) (.ref (hr_d (hs_nw S) Z.2.2.2 (ad 12 0))) e0_3hP) cf_X11_34 e0_3hP rfl rfl ⟨rfl, rfl⟩ ⟨(Nat.le_of_ble_eq_true rfl), (Nat.le_of_ble_eq_true rfl)⟩ rfl hl.1 rfl (Nat.le_of_ble_eq_true rfl) ⟨(Nat.le_of_ble_eq_true rfl), (Nat.le_of_ble_eq_true rfl)⟩ dX11_manyNow_27) (fun r27 M27 H locs hR hI => ?_)
    obtain ⟨rfl, rfl⟩ := hR
    refine lv_icmp_ge (tgt := 60) hx hb dX11_manyNow_32 (by decide) (fun _ => ?_) (fun hc => absurd (Int32.le_refl _) hc)
    refine lv_bipush (v := nI 8) hx hb dX11_manyNow_60 (by decide) ?_
    refine hw_newa (a0 := (8, .inl (fun _ => 0))) hx hb hts hk hI (atype := .int) (hw_win (w := .arrayClass .int) (by decide +kernel) (by decide +kernel)) rfl 0 rfl (fun _ h => by cases h) (fun _ => rfl) rfl (by decide) (by decide) (Nat.le_of_ble_eq_true rfl) (Nat.le_of_ble_eq_true rfl) dX11_manyNow_62 (fun q62 H hq62 hI => ?_)
    refine lv_dup hx hb dX11_manyNow_64 rfl ?_
    refine lv_iconst (v := nI 0) hx hb dX11_manyNow_65 (by decide) ?_
    refine lv_aload_n hx hb dX11_manyNow_66 rfl (lv_at hl 2 rfl) ?_
    refine hw_get hx hb hts hown hk hI fd_X11_10 (hw_up e0_0hP (hw_nn e0_0hP hq62)) rfl dX11_manyNow_67 ?_
    refine hw_cFi hI (hw_rF hx hb hml hown hts hk hI (m_Jx4a65c_size_8abf5 l Z (va_up M q62 (hw_ai Z 8 (fun _ => 0))) (ad 0 2) (hs_np S) (hr_mc X 0) (.ref (hr_d (hs_np S) Z.2.2.2 (ad 11 0))) (hw_up e0_2hP (hw_nn e0_2hP hq62))) cf_X11_34 (hw_up e0_2hP (hw_nn e0_2hP hq62)) rfl rfl ⟨rfl, rfl⟩ ⟨(Nat.le_of_ble_eq_true rfl), (Nat.le_of_ble_eq_true rfl)⟩ rfl hl.1 rfl (Nat.le_of_ble_eq_true rfl) ⟨(Nat.le_of_ble_eq_true rfl), (Nat.le_of_ble_eq_true rfl)⟩ dX11_manyNow_70) (fun r70 M70 H locs hR hI => ?_)
    obtain ⟨rfl, rfl⟩ := hR
    refine hw_iast hx hb hk hI (hw_us _ _ _) (j := 0) rfl (by omega) (by decide) dX11_manyNow_75 (fun H locs hI => ?_)
    refine lv_dup hx hb dX11_manyNow_76 rfl ?_
    refine lv_iconst (v := nI 1) hx hb dX11_manyNow_77 (by decide) ?_
    refine lv_aload_n hx hb dX11_manyNow_78 rfl (lv_at hl 2 rfl) ?_
    refine hw_get hx hb hts hown hk hI fd_X11_16 (hw_up (hw_up e0_0hP (hw_nn e0_0hP hq62)) (hw_nn e0_0hP hq62)) rfl dX11_manyNow_79 ?_
    refine hw_cFi hI (hw_rF hx hb hml hown hts hk hI (m_Jx4a65c_size_8abf5 l Z (va_up (va_up M q62 (hw_ai Z 8 (fun _ => 0))) q62 (hw_ai Z 8 (va_up (fun _ => 0) 0 (nI (hs_np S))))) (ad 0 3) (hs_nw S) (hr_mc X 1) (.ref (hr_d (hs_nw S) Z.2.2.2 (ad 12 0))) (hw_up (hw_up e0_3hP (hw_nn e0_3hP hq62)) (hw_nn e0_3hP hq62))) cf_X11_34 (hw_up (hw_up e0_3hP (hw_nn e0_3hP hq62)) (hw_nn e0_3hP hq62)) rfl rfl ⟨rfl, rfl⟩ ⟨(Nat.le_of_ble_eq_true rfl), (Nat.le_of_ble_eq_true rfl)⟩ rfl hl.1 rfl (Nat.le_of_ble_eq_true rfl) ⟨(Nat.le_of_ble_eq_true rfl), (Nat.le_of_ble_eq_true rfl)⟩ dX11_manyNow_82) (fun r82 M82 H locs hR hI => ?_)
    obtain ⟨rfl, rfl⟩ := hR
    refine hw_iast hx hb hk hI (hw_us _ _ _) (j := 1) rfl (by omega) (by decide) dX11_manyNow_87 (fun H locs hI => ?_)
    refine lv_dup hx hb dX11_manyNow_88 rfl ?_
    refine lv_iconst (v := nI 2) hx hb dX11_manyNow_89 (by decide) ?_
    refine lv_aload_n hx hb dX11_manyNow_90 rfl (lv_at hl 2 rfl) ?_
    refine hw_get hx hb hts hown hk hI fd_X11_22 (hw_up (hw_up (hw_up e0_0hP (hw_nn e0_0hP hq62)) (hw_nn e0_0hP hq62)) (hw_nn e0_0hP hq62)) rfl dX11_manyNow_91 ?_
    refine lv_iconst (v := nI 0) hx hb dX11_manyNow_94 (by decide) ?_
    refine hw_aald hx hb hk hI 6 (v := .ref (ad 7 0)) (hw_up (hw_up (hw_up e0_1hP (hw_nn e0_1hP hq62)) (hw_nn e0_1hP hq62)) (hw_nn e0_1hP hq62)) rfl (j := 0) rfl (by omega) (by decide) rfl dX11_manyNow_95 ?_
    refine hw_get hx hb hts hown hk hI fd_X11_134 (hw_up (hw_up (hw_up e7_0hP (hw_nn e7_0hP hq62)) (hw_nn e7_0hP hq62)) (hw_nn e7_0hP hq62)) rfl dX11_manyNow_96 ?_
    refine hw_cFi hI (hw_rF hx hb hml hown hts hk hI (m_Jx4a65c_size_8abf5 l Z (va_up (va_up (va_up M q62 (hw_ai Z 8 (fun _ => 0))) q62 (hw_ai Z 8 (va_up (fun _ => 0) 0 (nI (hs_np S))))) q62 (hw_ai Z 8 (va_up (va_up (fun _ => 0) 0 (nI (hs_np S))) 1 (nI (hs_nw S))))) (ad 8 0) (hs_N S 0) (hr_mc X (2 + 0)) (.ref (if hr_gr X 0 then ad 9 0 else Z.2.2.2)) (hw_up (hw_up (hw_up e8_0hP (hw_nn e8_0hP hq62)) (hw_nn e8_0hP hq62)) (hw_nn e8_0hP hq62))) cf_X11_34 (hw_up (hw_up (hw_up e8_0hP (hw_nn e8_0hP hq62)) (hw_nn e8_0hP hq62)) (hw_nn e8_0hP hq62)) rfl rfl ⟨rfl, rfl⟩ ⟨(Nat.le_of_ble_eq_true rfl), (Nat.le_of_ble_eq_true rfl)⟩ rfl hl.1 rfl (Nat.le_of_ble_eq_true rfl) ⟨(Nat.le_of_ble_eq_true rfl), (Nat.le_of_ble_eq_true rfl)⟩ dX11_manyNow_99) (fun r99 M99 H locs hR hI => ?_)
    obtain ⟨rfl, rfl⟩ := hR
    refine lv_aload_n hx hb dX11_manyNow_104 rfl (lv_at hl 2 rfl) ?_
    refine hw_get hx hb hts hown hk hI fd_X11_22 (hw_up (hw_up (hw_up e0_0hP (hw_nn e0_0hP hq62)) (hw_nn e0_0hP hq62)) (hw_nn e0_0hP hq62)) rfl dX11_manyNow_105 ?_
    refine lv_iconst (v := nI 1) hx hb dX11_manyNow_108 (by decide) ?_
    refine hw_aald hx hb hk hI 6 (v := .ref (ad 7 1)) (hw_up (hw_up (hw_up e0_1hP (hw_nn e0_1hP hq62)) (hw_nn e0_1hP hq62)) (hw_nn e0_1hP hq62)) rfl (j := 1) rfl (by omega) (by decide) rfl dX11_manyNow_109 ?_
    refine hw_get hx hb hts hown hk hI fd_X11_134 (hw_up (hw_up (hw_up e7_1hP (hw_nn e7_1hP hq62)) (hw_nn e7_1hP hq62)) (hw_nn e7_1hP hq62)) rfl dX11_manyNow_110 ?_
    refine hw_cFi hI (hw_rF hx hb hml hown hts hk hI (m_Jx4a65c_size_8abf5 l Z (va_up (va_up (va_up M q62 (hw_ai Z 8 (fun _ => 0))) q62 (hw_ai Z 8 (va_up (fun _ => 0) 0 (nI (hs_np S))))) q62 (hw_ai Z 8 (va_up (va_up (fun _ => 0) 0 (nI (hs_np S))) 1 (nI (hs_nw S))))) (ad 8 1) (hs_N S 1) (hr_mc X (2 + 1)) (.ref (if hr_gr X 1 then ad 9 1 else Z.2.2.2)) (hw_up (hw_up (hw_up e8_1hP (hw_nn e8_1hP hq62)) (hw_nn e8_1hP hq62)) (hw_nn e8_1hP hq62))) cf_X11_34 (hw_up (hw_up (hw_up e8_1hP (hw_nn e8_1hP hq62)) (hw_nn e8_1hP hq62)) (hw_nn e8_1hP hq62)) rfl rfl ⟨rfl, rfl⟩ ⟨(Nat.le_of_ble_eq_true rfl), (Nat.le_of_ble_eq_true rfl)⟩ rfl hl.1 rfl (Nat.le_of_ble_eq_true rfl) ⟨(Nat.le_of_ble_eq_true rfl), (Nat.le_of_ble_eq_true rfl)⟩ dX11_manyNow_113) (fun r113 M113 H locs hR hI => ?_)
    obtain ⟨rfl, rfl⟩ := hR
    refine lv_iadd hx hb dX11_manyNow_118 ?_
    refine hw_ti (nI_add _ _) ?_
    refine hw_iast hx hb hk hI (hw_us _ _ _) (j := 2) rfl (by omega) (by decide) dX11_manyNow_119 (fun H locs hI => ?_)
    refine lv_dup hx hb dX11_manyNow_120 rfl ?_
    refine lv_iconst (v := nI 3) hx hb dX11_manyNow_121 (by decide) ?_
    refine lv_aload_n hx hb dX11_manyNow_122 rfl (lv_at hl 2 rfl) ?_
    refine lv_iconst (v := nI 5) hx hb dX11_manyNow_123 (by decide) ?_
    have hF4 := hr_F_u (hr_F_u (hr_F_u (hr_F_n hq62 (e := (hw_ai Z 8 (fun _ => 0)))) hq62 (e := (hw_ai Z 8 (va_up (fun _ => 0) 0 (nI (hs_np S)))))) hq62 (e := (hw_ai Z 8 (va_up (va_up (fun _ => 0) 0 (nI (hs_np S))) 1 (nI (hs_nw S)))))) hq62 (e := (hw_ai Z 8 (va_up (va_up (va_up (fun _ => 0) 0 (nI (hs_np S))) 1 (nI (hs_nw S))) 2 (nI (hs_N S 0 + hs_N S 1)))))
    have hPa := hP.F hF4
    refine hw_ci hI (hw_rV hx hb hml hown hts hk hI (m_X11_count l Z (va_up (va_up (va_up (va_up M q62 (hw_ai Z 8 (fun _ => 0))) q62 (hw_ai Z 8 (va_up (fun _ => 0) 0 (nI (hs_np S))))) q62 (hw_ai Z 8 (va_up (va_up (fun _ => 0) 0 (nI (hs_np S))) 1 (nI (hs_nw S))))) q62 (hw_ai Z 8 (va_up (va_up (va_up (fun _ => 0) 0 (nI (hs_np S))) 1 (nI (hs_nw S))) 2 (nI ((hs_N S 0) + (hs_N S 1)))))) ad S X b1 (nI 5) hPa hV) cv_X11_236 (hw_up (hw_up (hw_up (hw_up e0_0hP (hw_nn e0_0hP hq62)) (hw_nn e0_0hP hq62)) (hw_nn e0_0hP hq62)) (hw_nn e0_0hP hq62)) rfl rfl ⟨rfl, rfl⟩ ⟨(Nat.le_of_ble_eq_true rfl), (Nat.le_of_ble_eq_true rfl)⟩ rfl hl.1 rfl (Nat.le_of_ble_eq_true rfl) ⟨(Nat.le_of_ble_eq_true rfl), (Nat.le_of_ble_eq_true rfl)⟩ dX11_manyNow_124) (fun r124 M124 H locs hR hI => ?_)
    obtain ⟨rfl, rfl⟩ := hR
    refine hw_iast hx hb hk hI (hw_us _ _ _) (j := 3) rfl (by omega) (by decide) dX11_manyNow_127 (fun H locs hI => ?_)
    refine lv_dup hx hb dX11_manyNow_128 rfl ?_
    refine lv_iconst (v := nI 4) hx hb dX11_manyNow_129 (by decide) ?_
    refine lv_aload_n hx hb dX11_manyNow_130 rfl (lv_at hl 2 rfl) ?_
    refine lv_bipush (v := nI 6) hx hb dX11_manyNow_131 (by decide) ?_
    have hF5 := hr_F_u hF4 hq62 (e := (hw_ai Z 8 (va_up (va_up (va_up (va_up (fun _ => 0) 0 (nI (hs_np S))) 1 (nI (hs_nw S))) 2 (nI (hs_N S 0 + hs_N S 1))) 3 (nI (hs_ca S (nI 5) (hs_np S))))))
    have hPb := hP.F hF5
    refine hw_ci hI (hw_rV hx hb hml hown hts hk hI (m_X11_count l Z (va_up (va_up (va_up (va_up (va_up M q62 (hw_ai Z 8 (fun _ => 0))) q62 (hw_ai Z 8 (va_up (fun _ => 0) 0 (nI (hs_np S))))) q62 (hw_ai Z 8 (va_up (va_up (fun _ => 0) 0 (nI (hs_np S))) 1 (nI (hs_nw S))))) q62 (hw_ai Z 8 (va_up (va_up (va_up (fun _ => 0) 0 (nI (hs_np S))) 1 (nI (hs_nw S))) 2 (nI ((hs_N S 0) + (hs_N S 1)))))) q62 (hw_ai Z 8 (va_up (va_up (va_up (va_up (fun _ => 0) 0 (nI (hs_np S))) 1 (nI (hs_nw S))) 2 (nI ((hs_N S 0) + (hs_N S 1)))) 3 (nI (hs_ca S (nI 5) (hs_np S)))))) ad S X b1 (nI 6) hPb hV) cv_X11_236 (hw_up (hw_up (hw_up (hw_up (hw_up e0_0hP (hw_nn e0_0hP hq62)) (hw_nn e0_0hP hq62)) (hw_nn e0_0hP hq62)) (hw_nn e0_0hP hq62)) (hw_nn e0_0hP hq62)) rfl rfl ⟨rfl, rfl⟩ ⟨(Nat.le_of_ble_eq_true rfl), (Nat.le_of_ble_eq_true rfl)⟩ rfl hl.1 rfl (Nat.le_of_ble_eq_true rfl) ⟨(Nat.le_of_ble_eq_true rfl), (Nat.le_of_ble_eq_true rfl)⟩ dX11_manyNow_133) (fun r133 M133 H locs hR hI => ?_)
    obtain ⟨rfl, rfl⟩ := hR
    refine hw_iast hx hb hk hI (hw_us _ _ _) (j := 4) rfl (by omega) (by decide) dX11_manyNow_136 (fun H locs hI => ?_)
    refine lv_dup hx hb dX11_manyNow_137 rfl ?_
    refine lv_iconst (v := nI 5) hx hb dX11_manyNow_138 (by decide) ?_
    refine lv_iload_n hx hb dX11_manyNow_139 rfl (lv_at hl 0 rfl) ?_
    refine hw_iast hx hb hk hI (hw_us _ _ _) (j := 5) rfl (by omega) (by decide) dX11_manyNow_140 (fun H locs hI => ?_)
    refine lv_dup hx hb dX11_manyNow_141 rfl ?_
    refine lv_bipush (v := nI 6) hx hb dX11_manyNow_142 (by decide) ?_
    refine lv_aload_n hx hb dX11_manyNow_144 rfl (lv_at hl 2 rfl) ?_
    refine hw_get hx hb hts hown hk hI fd_X11_179 (hw_up (hw_up (hw_up (hw_up (hw_up (hw_up (hw_up e0_0hP (hw_nn e0_0hP hq62)) (hw_nn e0_0hP hq62)) (hw_nn e0_0hP hq62)) (hw_nn e0_0hP hq62)) (hw_nn e0_0hP hq62)) (hw_nn e0_0hP hq62)) (hw_nn e0_0hP hq62)) rfl dX11_manyNow_145 ?_
    refine hw_iast hx hb hk hI (hw_us _ _ _) (j := 6) rfl (by omega) (by decide) dX11_manyNow_148 (fun H locs hI => ?_)
    refine lv_dup hx hb dX11_manyNow_149 rfl ?_
    refine lv_bipush (v := nI 7) hx hb dX11_manyNow_150 (by decide) ?_
    refine lv_aload_n hx hb dX11_manyNow_152 rfl (lv_at hl 2 rfl) ?_
    refine hw_get hx hb hts hown hk hI fd_X11_172 (hw_up (hw_up (hw_up (hw_up (hw_up (hw_up (hw_up (hw_up e0_0hP (hw_nn e0_0hP hq62)) (hw_nn e0_0hP hq62)) (hw_nn e0_0hP hq62)) (hw_nn e0_0hP hq62)) (hw_nn e0_0hP hq62)) (hw_nn e0_0hP hq62)) (hw_nn e0_0hP hq62)) (hw_nn e0_0hP hq62)) rfl dX11_manyNow_153 ?_
    refine hw_iast hx hb hk hI (hw_us _ _ _) (j := 7) rfl (by omega) (by decide) dX11_manyNow_156 (fun H locs hI => ?_)
    refine lv_astore_n (lv' := [(3, .ref q62), (2, .int (hs_M S 0 2 + hs_M S 1 2 + hs_gs S (hs_nw S))), (0, .ref (ad 0 0)), (1, .int (nI w))]) hx hb dX11_manyNow_157 rfl hl (by decide) rfl (fun ls hl => ?_)
    refine lv_aload_n hx hb dX11_manyNow_158 rfl (lv_at hl 0 rfl) ?_
    refine lv_iload_n hx hb dX11_manyNow_159 rfl (lv_at hl 3 rfl) ?_
    refine hw_iald hx hb hk hI (hw_us _ _ _) (j := w) rfl (by omega) (by decide) dX11_manyNow_160 ?_
    exact hret hI (⟨by rcases (show w = 0 ∨ w = 1 ∨ w = 2 ∨ w = 3 ∨ w = 4 ∨ w = 5 ∨ w = 6 ∨ w = 7 by omega) with rfl | rfl | rfl | rfl | rfl | rfl | rfl | rfl <;> first | rfl | exact (hs_gs_e S _ _ _).symm, hr_F_u (hr_F_u (hr_F_u (hr_F_u hF5 hq62) hq62) hq62) hq62⟩) (Nat.le_of_ble_eq_true rfl) (Nat.le_of_ble_eq_true rfl) dX11_manyNow_161
  · intro H locs ls hI hl
    refine lv_iload_n hx hb dX11_manyNow_22 rfl (lv_at hl 1 rfl) ?_
    refine lv_aload_n hx hb dX11_manyNow_23 rfl (lv_at hl 2 rfl) ?_
    refine hw_get hx hb hts hown hk hI fd_X11_16 e0_0hP rfl dX11_manyNow_24 ?_
    refine hw_cFi hI (hw_rF hx hb hml hown hts hk hI (m_Jx4a65c_size_8abf5 l Z M (ad 0 3) (hs_nw S) (hr_mc X 1) (.ref (hr_d (hs_nw S) Z.2.2.2 (ad 12 0))) e0_3hP) cf_X11_34 e0_3hP rfl rfl ⟨rfl, rfl⟩ ⟨(Nat.le_of_ble_eq_true rfl), (Nat.le_of_ble_eq_true rfl)⟩ rfl hl.1 rfl (Nat.le_of_ble_eq_true rfl) ⟨(Nat.le_of_ble_eq_true rfl), (Nat.le_of_ble_eq_true rfl)⟩ dX11_manyNow_27) (fun r27 M27 H locs hR hI => ?_)
    obtain ⟨rfl, rfl⟩ := hR
    refine lv_icmp_ge (tgt := 60) hx hb dX11_manyNow_32 (by decide) (fun hc => absurd hc (nI_ge hi22 (by omega))) (fun _ => ?_)
    have h12 : 0 = 0 ∧ 0 < hs_nw S := ⟨rfl, by omega⟩
    have e0_3hP : M (ad 0 3) = hw_ob 0 [.int (hr_mc X 1), .ref (ad 12 0), .int (nI (hs_nw S))] := by
      have q := hP.m 0 3 (show 3 < 4 by decide)
      rw [show hr_e Z ad S X 0 3 = hw_ob 0 [.int (hr_mc X 1), .ref (hr_d (hs_nw S) Z.2.2.2 (ad 12 0)), .int (nI (hs_nw S))] from rfl, hr_d0 h12.2] at q
      exact q
    have e12_0hP : M (ad 12 0) = hw_ar Z 7 10 (hc_f (ad 6) (hs_nw S)) := hP.m 12 0 h12
    have e6_ihP : M (ad 6 i) = hw_ob 10 [.int (hs_V S i 0), .int (hs_V S i 1), .int (hs_V S i 2), .int (hs_V S i 3), .int (hs_V S i 4)] := hP.m 6 i hi22
    refine lv_iload_n hx hb dX11_manyNow_35 rfl (lv_at hl 0 rfl) ?_
    refine lv_aload_n hx hb dX11_manyNow_36 rfl (lv_at hl 2 rfl) ?_
    refine hw_get hx hb hts hown hk hI fd_X11_16 e0_0hP rfl dX11_manyNow_37 ?_
    refine lv_iload_n hx hb dX11_manyNow_40 rfl (lv_at hl 1 rfl) ?_
    refine hw_cFr hI (hw_rF hx hb hml hown hts hk hI (m_Jx4a65c_get_915e3 l Z M (ad 0 3) (ad 12 0) (hs_nw S) i (ad 6 i) (hr_mc X 1) (hc_f (ad 6) (hs_nw S)) e0_3hP e12_0hP hi22 (by omega) (if_pos hi22)) cf_X11_59 e0_3hP rfl rfl ⟨rfl, rfl⟩ ⟨(Nat.le_of_ble_eq_true rfl), (Nat.le_of_ble_eq_true rfl)⟩ rfl hl.1 rfl (Nat.le_of_ble_eq_true rfl) ⟨(Nat.le_of_ble_eq_true rfl), (Nat.le_of_ble_eq_true rfl)⟩ dX11_manyNow_41) (fun r41 M41 H locs hR hI => ?_)
    obtain ⟨rfl, rfl⟩ := hR
    refine hw_cast hx hb hts hown hk hI e6_ihP rfl (hw_win (w := .classLink RX11 86 RX9) (by decide +kernel) (by decide +kernel)) dX11_manyNow_46 ?_
    refine hw_get hx hb hts hown hk hI fd_X11_100 e6_ihP rfl dX11_manyNow_49 ?_
    refine lv_iadd hx hb dX11_manyNow_52 ?_
    refine lv_istore_n (lv' := [(2, .int ((hs_M S 0 2 + hs_M S 1 2 + hs_gs S i) + (hs_V S i 1))), (3, .int (nI i)), (0, .ref (ad 0 0)), (1, .int (nI w))]) hx hb dX11_manyNow_53 rfl hl (by decide) rfl (fun ls hl => ?_)
    refine lv_iinc (v := nI (i + 1)) (lv' := [(3, .int (nI (i + 1))), (2, .int ((hs_M S 0 2 + hs_M S 1 2 + hs_gs S i) + (hs_V S i 1))), (0, .ref (ad 0 0)), (1, .int (nI w))]) hx hb dX11_manyNow_54 hl (k := 1) rfl (hw_inc _) (by decide) rfl (fun ls hl => ?_)
    refine lv_goto (tgt := 22) hx hb dX11_manyNow_57 (by decide) ?_
    exact ih22 _ _ _ hI (lv_sub hl [1, 0, 2, 3] (by rw [← hs_gs_s]; rfl))
