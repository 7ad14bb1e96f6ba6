theorem cb_X5_machineAt (own : String) (index : Nat) : hw_CB own index yX5_machineAt cX5_machineAt 2 (some (.object "MeltPool$Machine")) 1 := ⟨⟨by decide +kernel, by decide +kernel, by decide +kernel⟩, (hw_win (w := .code yX5_machineAt cX5_machineAt 2 (some (.object "MeltPool$Machine"))) (by decide +kernel) (by decide +kernel)), (hw_win (w := .initialized yX5_machineAt.cls) (by decide +kernel) (by decide +kernel))⟩
theorem cv_X5_134 : hw_CV RX5 134 yX5_machineAt cX5_machineAt 2 (some (.object "MeltPool$Machine")) 1 := ⟨cb_X5_machineAt _ _, (hw_win (w := .methodLink RX5 134 yX5_machineAt) (by decide +kernel) (by decide +kernel)), (hw_win (w := .instanceMethod yX5_machineAt) (by decide +kernel) (by decide +kernel)), (hw_win (w := .selects yX5_machineAt.cls yX5_machineAt yX5_machineAt) (by decide +kernel) (by decide +kernel))⟩
theorem fd_X5_138 : hw_FD RX5 138 1 2 := ⟨RX0, TX0, 7, "MeltPool$Machine", rfl, by decide, iw_X0, (hw_win (w := .fieldLink RX5 138 "MeltPool$Machine" (TX0 2).2.1 (TX0 2).2.2.1) (by decide +kernel) (by decide +kernel)), Or.inl rfl⟩
theorem fd_X5_148 : hw_FD RX5 148 1 1 := ⟨RX0, TX0, 7, "MeltPool$Machine", rfl, by decide, iw_X0, (hw_win (w := .fieldLink RX5 148 "MeltPool$Machine" (TX0 1).2.1 (TX0 1).2.2.1) (by decide +kernel) (by decide +kernel)), Or.inl rfl⟩
theorem fd_X5_151 : hw_FD RX5 151 4 3 := ⟨RX3, TX3, 6, "MeltPool$Powder", rfl, by decide, iw_X3, (hw_win (w := .fieldLink RX5 151 "MeltPool$Powder" (TX3 3).2.1 (TX3 3).2.2.1) (by decide +kernel) (by decide +kernel)), Or.inl rfl⟩
theorem cb_X0_putIn (own : String) (index : Nat) : hw_CB own index yX0_putIn cX0_putIn 2 none 1 := ⟨⟨by decide +kernel, by decide +kernel, by decide +kernel⟩, (hw_win (w := .code yX0_putIn cX0_putIn 2 none) (by decide +kernel) (by decide +kernel)), (hw_win (w := .initialized yX0_putIn.cls) (by decide +kernel) (by decide +kernel))⟩
theorem cv_X5_154 : hw_CV RX5 154 yX0_putIn cX0_putIn 2 none 1 := ⟨cb_X0_putIn _ _, (hw_win (w := .methodLink RX5 154 yX0_putIn) (by decide +kernel) (by decide +kernel)), (hw_win (w := .instanceMethod yX0_putIn) (by decide +kernel) (by decide +kernel)), (hw_win (w := .selects yX0_putIn.cls yX0_putIn yX0_putIn) (by decide +kernel) (by decide +kernel))⟩
theorem fd_X5_157 : hw_FD RX5 157 1 3 := ⟨RX0, TX0, 7, "MeltPool$Machine", rfl, by decide, iw_X0, (hw_win (w := .fieldLink RX5 157 "MeltPool$Machine" (TX0 3).2.1 (TX0 3).2.2.1) (by decide +kernel) (by decide +kernel)), Or.inl rfl⟩
theorem th_X5_50_146_54 : hw_TH RX5 50 146 54 "java/lang/IllegalStateException" "the powder has no grams" := ⟨by decide +kernel, (hw_win (w := .classLink RX5 50 "java/lang/IllegalStateException") (by decide +kernel) (by decide +kernel)), (hw_win (w := .initialized "java/lang/IllegalStateException") (by decide +kernel) (by decide +kernel)), by decide +kernel, (fun w h => hw_win ((by decide +kernel : ∀ w ∈ (vx_atS RX5 54 "java/lang/IllegalStateException" ["java/lang/RuntimeException", "java/lang/Exception"]).filter goodWord, w ∈ lw_tbl) w h) ((List.mem_filter.mp h).2)), by decide +kernel, by decide +kernel, by decide +kernel⟩
theorem th_X5_50_144_54 : hw_TH RX5 50 144 54 "java/lang/IllegalStateException" "the powder is in a machine" := ⟨by decide +kernel, (hw_win (w := .classLink RX5 50 "java/lang/IllegalStateException") (by decide +kernel) (by decide +kernel)), (hw_win (w := .initialized "java/lang/IllegalStateException") (by decide +kernel) (by decide +kernel)), by decide +kernel, (fun w h => hw_win ((by decide +kernel : ∀ w ∈ (vx_atS RX5 54 "java/lang/IllegalStateException" ["java/lang/RuntimeException", "java/lang/Exception"]).filter goodWord, w ∈ lw_tbl) w h) ((List.mem_filter.mp h).2)), by decide +kernel, by decide +kernel, by decide +kernel⟩
theorem th_X5_50_142_54 : hw_TH RX5 50 142 54 "java/lang/IllegalStateException" "a powder is in the machine" := ⟨by decide +kernel, (hw_win (w := .classLink RX5 50 "java/lang/IllegalStateException") (by decide +kernel) (by decide +kernel)), (hw_win (w := .initialized "java/lang/IllegalStateException") (by decide +kernel) (by decide +kernel)), by decide +kernel, (fun w h => hw_win ((by decide +kernel : ∀ w ∈ (vx_atS RX5 54 "java/lang/IllegalStateException" ["java/lang/RuntimeException", "java/lang/Exception"]).filter goodWord, w ∈ lw_tbl) w h) ((List.mem_filter.mp h).2)), by decide +kernel, by decide +kernel, by decide +kernel⟩
set_option maxHeartbeats 4000000 in
set_option maxRecDepth 100000 in
theorem m_X5_load_n (l : Launch) (hst : l.stackTraces = false) (Z : hw_Z) (M : hw_M) (ad : hp_ad) (S : hs_S) (T : hp_T) (b1 : Nat → Prop) (ka : Int32) (kp : Int32) (hP : hp_ok Z b1 M ad S T) (hB : hs_b S) (hm : hs_M S (hb_ix ka) 1 = -1) : vx_Met l yX5_load (hw_m yX5_load cX5_load 5 (some .int)) ({ frames := 9, cells := 6, slots := 36, locals := 190 } : Room) (va_Pc [.ref (ad 0 0), .int ka, .int kp] (hw_P Z M)) (hw_Qi Z (hq_R Z b1 M ad (st_load S ka kp))) (hw_X Z (hq_X ["java/lang/IndexOutOfBoundsException", "java/lang/IllegalStateException"] M S (st_load S ka kp))) 6 36 (hw_A Z) := by
  refine hw_xofi hst (by decide +kernel) rfl (Nat.le_of_ble_eq_true rfl) ?_
  intro p e s m below meth c ls Q hx hb hml hown hts hk hnm hI hl hret hxo hthr hthrW
  have hnp := hB.np
  have hnw := hB.nw
  have e0_0hP : M (ad 0 0) = hw_ob 6 [.ref (ad 0 1), .ref (ad 0 2), .ref (ad 0 3), .int (nI (hs_np S)), .int (nI (hs_nw S)), .int (hs_G S 0), .int (hs_G S 1), .ref (ad 0 4), .ref (ad 0 8)] := hP.m 0 0 (by decide)
  have e0_2hP : M (ad 0 2) = hw_ar Z 4 6 (fun j => some (ad 8 j)) := hP.m 0 2 (by decide)
  have e0_3hP : M (ad 0 3) = hw_ar Z 5 2 (fun j => some (ad 9 j)) := hP.m 0 3 (by decide)
  refine lv_aload_n hx hb dX5_load_0 rfl (lv_at hl 0 rfl) ?_
  refine lv_iload_n hx hb dX5_load_1 rfl (lv_at hl 1 rfl) ?_
  refine hw_xr hI hxo (hw_xV hx hb hml hown hts hk hI (m_X5_machineAt l hst Z M (ad 0 0) (ad 0 1) (ad 0 2) (ad 0 3) (ad 0 4) (ad 0 8) (hs_np S) (hs_nw S) (hs_G S 0) (hs_G S 1) ka (ad 9) e0_0hP e0_3hP) cv_X5_134 e0_0hP rfl rfl ⟨rfl, rfl⟩ ⟨(Nat.le_of_ble_eq_true rfl), (Nat.le_of_ble_eq_true rfl)⟩ rfl hl.1 rfl (Nat.le_of_ble_eq_true rfl) ⟨(Nat.le_of_ble_eq_true rfl), (Nat.le_of_ble_eq_true rfl)⟩ dX5_load_2) (hq_xc (c := 1) (fun h => by unfold st_load; exact (hq_if (fun q => h q.1) ⟨rfl, rfl⟩)) ⟨by decide, rfl⟩) (Nat.le_of_ble_eq_true rfl) (Nat.le_of_ble_eq_true rfl) (fun r2 M2 H locs hR hI => ?_)
  obtain ⟨⟨hk2, rfl⟩, rfl⟩ := hR
  have hx2 := hb_okx (by omega) hk2
  have hi2 : hb_ix ka < 2 := by have := hx2.1; omega
  have e9_hb_ix_kahP : M (ad 9 (hb_ix ka)) = hw_ob 1 [.int (nI (hb_ix ka)), .int (hs_M S (hb_ix ka) 0), .null, .int (hs_M S (hb_ix ka) 2), hp_ref (ad 1) (hs_M S (hb_ix ka) 3), .ref (ad 10 (hb_ix ka)), .int (nI (hs_N S (hb_ix ka)))] := by
    have q := hP.m 9 (hb_ix ka) hi2
    rw [show hp_e Z ad S T 9 (hb_ix ka) = hw_ob 1 [.int (nI (hb_ix ka)), .int (hs_M S (hb_ix ka) 0), hp_ref (ad 8) (hs_M S (hb_ix ka) 1), .int (hs_M S (hb_ix ka) 2), hp_ref (ad 1) (hs_M S (hb_ix ka) 3), .ref (ad 10 (hb_ix ka)), .int (nI (hs_N S (hb_ix ka)))] from rfl] at q
    rw [hp_refn hm] at q
    exact q
  refine lv_astore_n (lv' := [(3, .ref (ad 9 (hb_ix ka))), (0, .ref (ad 0 0)), (1, .int ka), (2, .int kp)]) hx hb dX5_load_5 rfl hl (by decide) rfl (fun ls hl => ?_)
  refine lv_aload_n hx hb dX5_load_6 rfl (lv_at hl 1 rfl) ?_
  refine lv_iload_n hx hb dX5_load_7 rfl (lv_at hl 3 rfl) ?_
  refine hw_xr hI hxo (hw_xV hx hb hml hown hts hk hI (m_X5_powderAt l hst Z M (ad 0 0) (ad 0 1) (ad 0 2) (ad 0 3) (ad 0 4) (ad 0 8) (hs_np S) (hs_nw S) (hs_G S 0) (hs_G S 1) kp (ad 8) e0_0hP e0_2hP hnw) cv_X5_117 e0_0hP rfl rfl ⟨rfl, rfl⟩ ⟨(Nat.le_of_ble_eq_true rfl), (Nat.le_of_ble_eq_true rfl)⟩ rfl hl.1 rfl (Nat.le_of_ble_eq_true rfl) ⟨(Nat.le_of_ble_eq_true rfl), (Nat.le_of_ble_eq_true rfl)⟩ dX5_load_8) (hq_xc (c := 1) (fun h => by unfold st_load; exact (hq_if (fun q => h q.2) ⟨rfl, rfl⟩)) ⟨by decide, rfl⟩) (Nat.le_of_ble_eq_true rfl) (Nat.le_of_ble_eq_true rfl) (fun r8 M8 H locs hR hI => ?_)
  obtain ⟨⟨hk8, rfl⟩, rfl⟩ := hR
  have hx8 := hb_okx (by omega) hk8
  have hi8 : hb_ix kp < 6 := by have := hx8.1; omega
  have e8_hb_ix_kphP : M (ad 8 (hb_ix kp)) = hw_ob 4 [.int (nI (hb_ix kp)), .int (hs_V S (hb_ix kp) 0), .int (hs_V S (hb_ix kp) 1), .int (hs_V S (hb_ix kp) 2), .int (hs_V S (hb_ix kp) 3), .int (hs_V S (hb_ix kp) 4)] := hP.m 8 (hb_ix kp) hi8
  refine lv_astore (lv' := [(4, .ref (ad 8 (hb_ix kp))), (3, .ref (ad 9 (hb_ix ka))), (0, .ref (ad 0 0)), (1, .int ka), (2, .int kp)]) hx hb dX5_load_11 hl (by decide) rfl (fun ls hl => ?_)
  refine lv_aload_n hx hb dX5_load_13 rfl (lv_at hl 1 rfl) ?_
  refine hw_get hx hb hts hown hk hI fd_X5_138 e9_hb_ix_kahP rfl dX5_load_14 ?_
  refine lv_ifnullN (tgt := 30) hx hb dX5_load_17 (by decide) ?_
  refine lv_aload hx hb dX5_load_30 (lv_at hl 0 rfl) ?_
  refine hw_get hx hb hts hown hk hI fd_X5_125 e8_hb_ix_kphP rfl dX5_load_32 ?_
  refine lv_iconst (v := (-1)) hx hb dX5_load_35 (by decide) ?_
  refine lv_icmp_eq (tgt := 49) hx hb dX5_load_36 (by decide) (fun c36 => ?_) (fun c36 => ?_)
  · refine lv_aload hx hb dX5_load_49 (lv_at hl 0 rfl) ?_
    refine hw_get hx hb hts hown hk hI fd_X5_111 e8_hb_ix_kphP rfl dX5_load_51 ?_
    refine lv_if_ne (tgt := 67) hx hb dX5_load_54 (by decide) (fun c54 => ?_) (fun c54 => ?_)
    · refine lv_aload_n hx hb dX5_load_67 rfl (lv_at hl 1 rfl) ?_
      refine hw_get hx hb hts hown hk hI fd_X5_148 e9_hb_ix_kahP rfl dX5_load_68 ?_
      refine lv_iconst (v := (-1)) hx hb dX5_load_71 (by decide) ?_
      refine lv_icmp_eq (tgt := 90) hx hb dX5_load_72 (by decide) (fun c72 => ?_) (fun c72 => ?_)
      · refine lv_aload hx hb dX5_load_90 (lv_at hl 0 rfl) ?_
        refine hw_get hx hb hts hown hk hI fd_X5_151 e8_hb_ix_kphP rfl dX5_load_92 ?_
        refine lv_iconst (v := nI 4) hx hb dX5_load_95 (by decide) ?_
        refine lv_icmp_le (tgt := 102) hx hb dX5_load_96 (by decide) (fun c96 => ?_) (fun c96 => ?_)
        · refine lv_aload_n hx hb dX5_load_102 rfl (lv_at hl 1 rfl) ?_
          refine lv_aload hx hb dX5_load_103 (lv_at hl 0 rfl) ?_
          refine hw_cv hI (hw_rV hx hb hml hown hts hk hI (m_X0_putIn l Z M (ad 9 (hb_ix ka)) (ad 8 (hb_ix kp)) (ad 10 (hb_ix ka)) (nI (hb_ix ka)) (hs_M S (hb_ix ka) 0) (hs_M S (hb_ix ka) 2) (nI (hs_N S (hb_ix ka))) (nI (hb_ix kp)) (hs_V S (hb_ix kp) 0) (hs_V S (hb_ix kp) 1) (hs_V S (hb_ix kp) 2) (hs_V S (hb_ix kp) 3) (hs_V S (hb_ix kp) 4) (hp_ref (ad 1) (hs_M S (hb_ix ka) 3)) e9_hb_ix_kahP e8_hb_ix_kphP) cv_X5_154 e9_hb_ix_kahP rfl rfl ⟨rfl, rfl⟩ ⟨(Nat.le_of_ble_eq_true rfl), (Nat.le_of_ble_eq_true rfl)⟩ rfl hl.1 rfl (Nat.le_of_ble_eq_true rfl) ⟨(Nat.le_of_ble_eq_true rfl), (Nat.le_of_ble_eq_true rfl)⟩ dX5_load_105) (fun M105 H locs hR hI => ?_)
          subst hR
          refine lv_aload_n hx hb dX5_load_108 rfl (lv_at hl 1 rfl) ?_
          refine hw_get hx hb hts hown hk hI fd_X5_157 (hw_up (hw_us _ _ _) (hP.n (k := 9) (i := (hb_ix ka)) (k' := 8) (i' := (hb_ix kp)) hi2 hi8 (fun q => absurd q.1 (by decide)))) rfl dX5_load_109 ?_
          have hkn := hb_okn hk8
          have ok_hfin : hp_ok Z b1 (va_up (va_up M (ad 9 (hb_ix ka)) (hw_ob 1 [.int (nI (hb_ix ka)), .int (hs_V S (hb_ix kp) 0), .ref (ad 8 (hb_ix kp)), .int (hs_V S (hb_ix kp) 1), hp_ref (ad 1) (hs_M S (hb_ix ka) 3), .ref (ad 10 (hb_ix ka)), .int (nI (hs_N S (hb_ix ka)))])) (ad 8 (hb_ix kp)) (hw_ob 4 [.int (nI (hb_ix kp)), .int (hs_V S (hb_ix kp) 0), .int (nI 0), .int (hs_V S (hb_ix kp) 2), .int (hs_V S (hb_ix kp) 3), .int (nI (hb_ix ka))])) ad (hs_sV (hs_sM S (hb_ix ka) (va_up (va_up (va_up (hs_M S (hb_ix ka)) 0 (hs_V S (hb_ix kp) 0)) 1 kp) 2 (hs_V S (hb_ix kp) 1))) (hb_ix kp) (va_up (va_up (hs_V S (hb_ix kp)) 1 0) 4 ka)) (T) := by
            have hax := hx2.2
            refine hP.fin (fun k i hi => ?_) hP.h0 hP.s7
            by_cases q1 : k = 8 ∧ i = (hb_ix kp)
            · obtain ⟨rfl, qi⟩ := q1; obtain rfl := qi.symm
              rw [va_up_self]
              first | rfl | (simp only [hp_e, hp_e0, hp_hang0, va_up_self, ac_P_M, ac_D_M, ac_V_M, ac_M_M, ac_N_M, ac_Q_M, ac_C_M, ac_W_M, ac_U_M, ac_G_M, ac_np_M, ac_nw_M, ac_P_V, ac_D_V, ac_V_V, ac_M_V, ac_N_V, ac_Q_V, ac_C_V, ac_W_V, ac_U_V, ac_G_V, ac_np_V, ac_nw_V, ← hx2.2]; done) | (simp only [hp_e, hp_e0, hp_hang0, va_up_self, ac_P_M, ac_D_M, ac_V_M, ac_M_M, ac_N_M, ac_Q_M, ac_C_M, ac_W_M, ac_U_M, ac_G_M, ac_np_M, ac_nw_M, ac_P_V, ac_D_V, ac_V_V, ac_M_V, ac_N_V, ac_Q_V, ac_C_V, ac_W_V, ac_U_V, ac_G_V, ac_np_V, ac_nw_V, ← hx2.2]; rfl)
            by_cases q0 : k = 9 ∧ i = (hb_ix ka)
            · obtain ⟨rfl, qi⟩ := q0; obtain rfl := qi.symm
              rw [va_up_ne _ _ (hP.n (k := 9) (i := (hb_ix ka)) (k' := 8) (i' := (hb_ix kp)) hi2 hi8 (fun q => absurd q.1 (by decide))), va_up_self]
              first | rfl | (simp only [hp_e, hp_e0, hp_hang0, va_up_self, ac_P_M, ac_D_M, ac_V_M, ac_M_M, ac_N_M, ac_Q_M, ac_C_M, ac_W_M, ac_U_M, ac_G_M, ac_np_M, ac_nw_M, ac_P_V, ac_D_V, ac_V_V, ac_M_V, ac_N_V, ac_Q_V, ac_C_V, ac_W_V, ac_U_V, ac_G_V, ac_np_V, ac_nw_V, ← hx2.2]; done) | (simp only [hp_e, hp_e0, hp_hang0, va_up_self, ac_P_M, ac_D_M, ac_V_M, ac_M_M, ac_N_M, ac_Q_M, ac_C_M, ac_W_M, ac_U_M, ac_G_M, ac_np_M, ac_nw_M, ac_P_V, ac_D_V, ac_V_V, ac_M_V, ac_N_V, ac_Q_V, ac_C_V, ac_W_V, ac_U_V, ac_G_V, ac_np_V, ac_nw_V, ← hx2.2]; rfl) | (simp only [hp_e, hp_e0, hp_hang0, va_up_self, ac_P_M, ac_D_M, ac_V_M, ac_M_M, ac_N_M, ac_Q_M, ac_C_M, ac_W_M, ac_U_M, ac_G_M, ac_np_M, ac_nw_M, ac_P_V, ac_D_V, ac_V_V, ac_M_V, ac_N_V, ac_Q_V, ac_C_V, ac_W_V, ac_U_V, ac_G_V, ac_np_V, ac_nw_V, ← hx2.2]; refine hw_ob7 ?_ ?_ ?_ ?_ ?_ ?_ ?_ <;> first | rfl | exact (hp_rn (by first | rfl | assumption)).symm | exact (hp_rr (by rfl) (by assumption)).symm)
            rw [va_up_ne _ _ (hP.n (k := k) (i := i) (k' := 8) (i' := (hb_ix kp)) hi hi8 q1), va_up_ne _ _ (hP.n (k := k) (i := i) (k' := 9) (i' := (hb_ix ka)) hi hi2 q0)]
            exact (hP.m k i hi).trans (((sm_V (k := k) (i := i) _ _ (by omega)).trans (sm_M (k := k) (i := i) _ _ (by omega)))).symm
          have fr_hfin : ∀ a, b1 a → (va_up (va_up M (ad 9 (hb_ix ka)) (hw_ob 1 [.int (nI (hb_ix ka)), .int (hs_V S (hb_ix kp) 0), .ref (ad 8 (hb_ix kp)), .int (hs_V S (hb_ix kp) 1), hp_ref (ad 1) (hs_M S (hb_ix ka) 3), .ref (ad 10 (hb_ix ka)), .int (nI (hs_N S (hb_ix ka)))])) (ad 8 (hb_ix kp)) (hw_ob 4 [.int (nI (hb_ix kp)), .int (hs_V S (hb_ix kp) 0), .int (nI 0), .int (hs_V S (hb_ix kp) 2), .int (hs_V S (hb_ix kp) 3), .int (nI (hb_ix ka))])) a = M a := by
            intro a ha
            rw [va_up_ne _ _ (hP.f (k := 8) (i := (hb_ix kp)) hi8 ha), va_up_ne _ _ (hP.f (k := 9) (i := (hb_ix ka)) hi2 ha)]
          have hfin : hq_R Z b1 M ad (st_load S ka kp) (hs_V S (hb_ix kp) 1) (va_up (va_up M (ad 9 (hb_ix ka)) (hw_ob 1 [.int (nI (hb_ix ka)), .int (hs_V S (hb_ix kp) 0), .ref (ad 8 (hb_ix kp)), .int (hs_V S (hb_ix kp) 1), hp_ref (ad 1) (hs_M S (hb_ix ka) 3), .ref (ad 10 (hb_ix ka)), .int (nI (hs_N S (hb_ix ka)))])) (ad 8 (hb_ix kp)) (hw_ob 4 [.int (nI (hb_ix kp)), .int (hs_V S (hb_ix kp) 0), .int (nI 0), .int (hs_V S (hb_ix kp) 2), .int (hs_V S (hb_ix kp) 3), .int (nI (hb_ix ka))])) := hq_r (S' := hs_sV (hs_sM S (hb_ix ka) (va_up (va_up (va_up (hs_M S (hb_ix ka)) 0 (hs_V S (hb_ix kp) 0)) 1 kp) 2 (hs_V S (hb_ix kp) 1))) (hb_ix kp) (va_up (va_up (hs_V S (hb_ix kp)) 1 0) 4 ka)) (T' := T) (by unfold st_load; exact ((if_neg (fun q => q ⟨hk2, hk8⟩)).trans ((if_neg (fun q => q.elim (fun q => q hm) (fun q => q.elim (fun q => q c36) c54))).trans ((if_neg (fun q => q.1 c72)).trans ((if_neg (Int32.not_lt.mpr c96)).trans rfl))))) ok_hfin fr_hfin
          exact hret hI hfin (Nat.le_of_ble_eq_true rfl) (Nat.le_of_ble_eq_true rfl) dX5_load_112
        · refine lv_bipush (v := (-3)) hx hb dX5_load_99 (by decide) ?_
          have ok_hfin : hp_ok Z b1 (M) ad (S) (T) := by
            refine hP.fin (fun k i hi => ?_) hP.h0 hP.s7
            exact (hP.m k i hi)
          have fr_hfin : ∀ a, b1 a → (M) a = M a := by
            intro a ha
            exact rfl
          have hfin : hq_R Z b1 M ad (st_load S ka kp) ((-3)) (M) := hq_r (S' := S) (T' := T) (by unfold st_load; exact ((if_neg (fun q => q ⟨hk2, hk8⟩)).trans ((if_neg (fun q => q.elim (fun q => q hm) (fun q => q.elim (fun q => q c36) c54))).trans ((if_neg (fun q => q.1 c72)).trans (if_pos (Int32.not_le.mp c96)))))) ok_hfin fr_hfin
          exact hret hI hfin (Nat.le_of_ble_eq_true rfl) (Nat.le_of_ble_eq_true rfl) dX5_load_101
      · refine lv_aload_n hx hb dX5_load_75 rfl (lv_at hl 1 rfl) ?_
        refine hw_get hx hb hts hown hk hI fd_X5_148 e9_hb_ix_kahP rfl dX5_load_76 ?_
        refine lv_aload hx hb dX5_load_79 (lv_at hl 0 rfl) ?_
        refine hw_get hx hb hts hown hk hI fd_X5_108 e8_hb_ix_kphP rfl dX5_load_81 ?_
        refine lv_icmp_eq (tgt := 90) hx hb dX5_load_84 (by decide) (fun c84 => ?_) (fun c84 => ?_)
        · refine lv_aload hx hb dX5_load_90 (lv_at hl 0 rfl) ?_
          refine hw_get hx hb hts hown hk hI fd_X5_151 e8_hb_ix_kphP rfl dX5_load_92 ?_
          refine lv_iconst (v := nI 4) hx hb dX5_load_95 (by decide) ?_
          refine lv_icmp_le (tgt := 102) hx hb dX5_load_96 (by decide) (fun c96 => ?_) (fun c96 => ?_)
          · refine lv_aload_n hx hb dX5_load_102 rfl (lv_at hl 1 rfl) ?_
            refine lv_aload hx hb dX5_load_103 (lv_at hl 0 rfl) ?_
            refine hw_cv hI (hw_rV hx hb hml hown hts hk hI (m_X0_putIn l Z M (ad 9 (hb_ix ka)) (ad 8 (hb_ix kp)) (ad 10 (hb_ix ka)) (nI (hb_ix ka)) (hs_M S (hb_ix ka) 0) (hs_M S (hb_ix ka) 2) (nI (hs_N S (hb_ix ka))) (nI (hb_ix kp)) (hs_V S (hb_ix kp) 0) (hs_V S (hb_ix kp) 1) (hs_V S (hb_ix kp) 2) (hs_V S (hb_ix kp) 3) (hs_V S (hb_ix kp) 4) (hp_ref (ad 1) (hs_M S (hb_ix ka) 3)) e9_hb_ix_kahP e8_hb_ix_kphP) cv_X5_154 e9_hb_ix_kahP rfl rfl ⟨rfl, rfl⟩ ⟨(Nat.le_of_ble_eq_true rfl), (Nat.le_of_ble_eq_true rfl)⟩ rfl hl.1 rfl (Nat.le_of_ble_eq_true rfl) ⟨(Nat.le_of_ble_eq_true rfl), (Nat.le_of_ble_eq_true rfl)⟩ dX5_load_105) (fun M105 H locs hR hI => ?_)
            subst hR
            refine lv_aload_n hx hb dX5_load_108 rfl (lv_at hl 1 rfl) ?_
            refine hw_get hx hb hts hown hk hI fd_X5_157 (hw_up (hw_us _ _ _) (hP.n (k := 9) (i := (hb_ix ka)) (k' := 8) (i' := (hb_ix kp)) hi2 hi8 (fun q => absurd q.1 (by decide)))) rfl dX5_load_109 ?_
            have hkn := hb_okn hk8
            have ok_hfin : hp_ok Z b1 (va_up (va_up M (ad 9 (hb_ix ka)) (hw_ob 1 [.int (nI (hb_ix ka)), .int (hs_V S (hb_ix kp) 0), .ref (ad 8 (hb_ix kp)), .int (hs_V S (hb_ix kp) 1), hp_ref (ad 1) (hs_M S (hb_ix ka) 3), .ref (ad 10 (hb_ix ka)), .int (nI (hs_N S (hb_ix ka)))])) (ad 8 (hb_ix kp)) (hw_ob 4 [.int (nI (hb_ix kp)), .int (hs_V S (hb_ix kp) 0), .int (nI 0), .int (hs_V S (hb_ix kp) 2), .int (hs_V S (hb_ix kp) 3), .int (nI (hb_ix ka))])) ad (hs_sV (hs_sM S (hb_ix ka) (va_up (va_up (va_up (hs_M S (hb_ix ka)) 0 (hs_V S (hb_ix kp) 0)) 1 kp) 2 (hs_V S (hb_ix kp) 1))) (hb_ix kp) (va_up (va_up (hs_V S (hb_ix kp)) 1 0) 4 ka)) (T) := by
              have hax := hx2.2
              refine hP.fin (fun k i hi => ?_) hP.h0 hP.s7
              by_cases q1 : k = 8 ∧ i = (hb_ix kp)
              · obtain ⟨rfl, qi⟩ := q1; obtain rfl := qi.symm
                rw [va_up_self]
                first | rfl | (simp only [hp_e, hp_e0, hp_hang0, va_up_self, ac_P_M, ac_D_M, ac_V_M, ac_M_M, ac_N_M, ac_Q_M, ac_C_M, ac_W_M, ac_U_M, ac_G_M, ac_np_M, ac_nw_M, ac_P_V, ac_D_V, ac_V_V, ac_M_V, ac_N_V, ac_Q_V, ac_C_V, ac_W_V, ac_U_V, ac_G_V, ac_np_V, ac_nw_V, ← hx2.2]; done) | (simp only [hp_e, hp_e0, hp_hang0, va_up_self, ac_P_M, ac_D_M, ac_V_M, ac_M_M, ac_N_M, ac_Q_M, ac_C_M, ac_W_M, ac_U_M, ac_G_M, ac_np_M, ac_nw_M, ac_P_V, ac_D_V, ac_V_V, ac_M_V, ac_N_V, ac_Q_V, ac_C_V, ac_W_V, ac_U_V, ac_G_V, ac_np_V, ac_nw_V, ← hx2.2]; rfl)
              by_cases q0 : k = 9 ∧ i = (hb_ix ka)
              · obtain ⟨rfl, qi⟩ := q0; obtain rfl := qi.symm
                rw [va_up_ne _ _ (hP.n (k := 9) (i := (hb_ix ka)) (k' := 8) (i' := (hb_ix kp)) hi2 hi8 (fun q => absurd q.1 (by decide))), va_up_self]
                first | rfl | (simp only [hp_e, hp_e0, hp_hang0, va_up_self, ac_P_M, ac_D_M, ac_V_M, ac_M_M, ac_N_M, ac_Q_M, ac_C_M, ac_W_M, ac_U_M, ac_G_M, ac_np_M, ac_nw_M, ac_P_V, ac_D_V, ac_V_V, ac_M_V, ac_N_V, ac_Q_V, ac_C_V, ac_W_V, ac_U_V, ac_G_V, ac_np_V, ac_nw_V, ← hx2.2]; done) | (simp only [hp_e, hp_e0, hp_hang0, va_up_self, ac_P_M, ac_D_M, ac_V_M, ac_M_M, ac_N_M, ac_Q_M, ac_C_M, ac_W_M, ac_U_M, ac_G_M, ac_np_M, ac_nw_M, ac_P_V, ac_D_V, ac_V_V, ac_M_V, ac_N_V, ac_Q_V, ac_C_V, ac_W_V, ac_U_V, ac_G_V, ac_np_V, ac_nw_V, ← hx2.2]; rfl) | (simp only [hp_e, hp_e0, hp_hang0, va_up_self, ac_P_M, ac_D_M, ac_V_M, ac_M_M, ac_N_M, ac_Q_M, ac_C_M, ac_W_M, ac_U_M, ac_G_M, ac_np_M, ac_nw_M, ac_P_V, ac_D_V, ac_V_V, ac_M_V, ac_N_V, ac_Q_V, ac_C_V, ac_W_V, ac_U_V, ac_G_V, ac_np_V, ac_nw_V, ← hx2.2]; refine hw_ob7 ?_ ?_ ?_ ?_ ?_ ?_ ?_ <;> first | rfl | exact (hp_rn (by first | rfl | assumption)).symm | exact (hp_rr (by rfl) (by assumption)).symm)
              rw [va_up_ne _ _ (hP.n (k := k) (i := i) (k' := 8) (i' := (hb_ix kp)) hi hi8 q1), va_up_ne _ _ (hP.n (k := k) (i := i) (k' := 9) (i' := (hb_ix ka)) hi hi2 q0)]
              exact (hP.m k i hi).trans (((sm_V (k := k) (i := i) _ _ (by omega)).trans (sm_M (k := k) (i := i) _ _ (by omega)))).symm
            have fr_hfin : ∀ a, b1 a → (va_up (va_up M (ad 9 (hb_ix ka)) (hw_ob 1 [.int (nI (hb_ix ka)), .int (hs_V S (hb_ix kp) 0), .ref (ad 8 (hb_ix kp)), .int (hs_V S (hb_ix kp) 1), hp_ref (ad 1) (hs_M S (hb_ix ka) 3), .ref (ad 10 (hb_ix ka)), .int (nI (hs_N S (hb_ix ka)))])) (ad 8 (hb_ix kp)) (hw_ob 4 [.int (nI (hb_ix kp)), .int (hs_V S (hb_ix kp) 0), .int (nI 0), .int (hs_V S (hb_ix kp) 2), .int (hs_V S (hb_ix kp) 3), .int (nI (hb_ix ka))])) a = M a := by
              intro a ha
              rw [va_up_ne _ _ (hP.f (k := 8) (i := (hb_ix kp)) hi8 ha), va_up_ne _ _ (hP.f (k := 9) (i := (hb_ix ka)) hi2 ha)]
            have hfin : hq_R Z b1 M ad (st_load S ka kp) (hs_V S (hb_ix kp) 1) (va_up (va_up M (ad 9 (hb_ix ka)) (hw_ob 1 [.int (nI (hb_ix ka)), .int (hs_V S (hb_ix kp) 0), .ref (ad 8 (hb_ix kp)), .int (hs_V S (hb_ix kp) 1), hp_ref (ad 1) (hs_M S (hb_ix ka) 3), .ref (ad 10 (hb_ix ka)), .int (nI (hs_N S (hb_ix ka)))])) (ad 8 (hb_ix kp)) (hw_ob 4 [.int (nI (hb_ix kp)), .int (hs_V S (hb_ix kp) 0), .int (nI 0), .int (hs_V S (hb_ix kp) 2), .int (hs_V S (hb_ix kp) 3), .int (nI (hb_ix ka))])) := hq_r (S' := hs_sV (hs_sM S (hb_ix ka) (va_up (va_up (va_up (hs_M S (hb_ix ka)) 0 (hs_V S (hb_ix kp) 0)) 1 kp) 2 (hs_V S (hb_ix kp) 1))) (hb_ix kp) (va_up (va_up (hs_V S (hb_ix kp)) 1 0) 4 ka)) (T' := T) (by unfold st_load; exact ((if_neg (fun q => q ⟨hk2, hk8⟩)).trans ((if_neg (fun q => q.elim (fun q => q hm) (fun q => q.elim (fun q => q c36) c54))).trans ((if_neg (fun q => q.2 c84)).trans ((if_neg (Int32.not_lt.mpr c96)).trans rfl))))) ok_hfin fr_hfin
            exact hret hI hfin (Nat.le_of_ble_eq_true rfl) (Nat.le_of_ble_eq_true rfl) dX5_load_112
          · refine lv_bipush (v := (-3)) hx hb dX5_load_99 (by decide) ?_
            have ok_hfin : hp_ok Z b1 (M) ad (S) (T) := by
              refine hP.fin (fun k i hi => ?_) hP.h0 hP.s7
              exact (hP.m k i hi)
            have fr_hfin : ∀ a, b1 a → (M) a = M a := by
              intro a ha
              exact rfl
            have hfin : hq_R Z b1 M ad (st_load S ka kp) ((-3)) (M) := hq_r (S' := S) (T' := T) (by unfold st_load; exact ((if_neg (fun q => q ⟨hk2, hk8⟩)).trans ((if_neg (fun q => q.elim (fun q => q hm) (fun q => q.elim (fun q => q c36) c54))).trans ((if_neg (fun q => q.2 c84)).trans (if_pos (Int32.not_le.mp c96)))))) ok_hfin fr_hfin
            exact hret hI hfin (Nat.le_of_ble_eq_true rfl) (Nat.le_of_ble_eq_true rfl) dX5_load_101
        · refine lv_bipush (v := (-2)) hx hb dX5_load_87 (by decide) ?_
          have ok_hfin : hp_ok Z b1 (M) ad (S) (T) := by
            refine hP.fin (fun k i hi => ?_) hP.h0 hP.s7
            exact (hP.m k i hi)
          have fr_hfin : ∀ a, b1 a → (M) a = M a := by
            intro a ha
            exact rfl
          have hfin : hq_R Z b1 M ad (st_load S ka kp) ((-2)) (M) := hq_r (S' := S) (T' := T) (by unfold st_load; exact ((if_neg (fun q => q ⟨hk2, hk8⟩)).trans ((if_neg (fun q => q.elim (fun q => q hm) (fun q => q.elim (fun q => q c36) c54))).trans (if_pos ⟨c72, c84⟩)))) ok_hfin fr_hfin
          exact hret hI hfin (Nat.le_of_ble_eq_true rfl) (Nat.le_of_ble_eq_true rfl) dX5_load_89
    · exact hthr hI th_X5_50_146_54 hl.1 dX5_load_57 dX5_load_60 dX5_load_61 dX5_load_63 dX5_load_66 (Nat.le_of_ble_eq_true rfl) (Nat.le_of_ble_eq_true rfl) (Nat.le_of_ble_eq_true rfl) (Nat.le_of_ble_eq_true rfl) (hq_x (c := 2) (by unfold st_load; exact (hq_el (fun q => q ⟨hk2, hk8⟩) (hq_if (Or.inr (Or.inr c54)) ⟨rfl, rfl⟩))) ⟨by decide, rfl⟩ rfl) (Nat.le_of_ble_eq_true rfl) (Nat.le_of_ble_eq_true rfl)
  · exact hthr hI th_X5_50_144_54 hl.1 dX5_load_39 dX5_load_42 dX5_load_43 dX5_load_45 dX5_load_48 (Nat.le_of_ble_eq_true rfl) (Nat.le_of_ble_eq_true rfl) (Nat.le_of_ble_eq_true rfl) (Nat.le_of_ble_eq_true rfl) (hq_x (c := 2) (by unfold st_load; exact (hq_el (fun q => q ⟨hk2, hk8⟩) (hq_if (Or.inr (Or.inl c36)) ⟨rfl, rfl⟩))) ⟨by decide, rfl⟩ rfl) (Nat.le_of_ble_eq_true rfl) (Nat.le_of_ble_eq_true rfl)

set_option maxHeartbeats 4000000 in
set_option maxRecDepth 100000 in
theorem m_X5_load_s (l : Launch) (hst : l.stackTraces = false) (Z : hw_Z) (M : hw_M) (ad : hp_ad) (S : hs_S) (T : hp_T) (b1 : Nat → Prop) (ka : Int32) (kp : Int32) (hP : hp_ok Z b1 M ad S T) (hB : hs_b S) (hm : ¬ hs_M S (hb_ix ka) 1 = -1) : vx_Met l yX5_load (hw_m yX5_load cX5_load 5 (some .int)) ({ frames := 9, cells := 6, slots := 36, locals := 190 } : Room) (va_Pc [.ref (ad 0 0), .int ka, .int kp] (hw_P Z M)) (hw_Qi Z (hq_R Z b1 M ad (st_load S ka kp))) (hw_X Z (hq_X ["java/lang/IndexOutOfBoundsException", "java/lang/IllegalStateException"] M S (st_load S ka kp))) 6 36 (hw_A Z) := by
  refine hw_xofi hst (by decide +kernel) rfl (Nat.le_of_ble_eq_true rfl) ?_
  intro p e s m below meth c ls Q hx hb hml hown hts hk hnm hI hl hret hxo hthr hthrW
  have hnp := hB.np
  have hnw := hB.nw
  have e0_0hP : M (ad 0 0) = hw_ob 6 [.ref (ad 0 1), .ref (ad 0 2), .ref (ad 0 3), .int (nI (hs_np S)), .int (nI (hs_nw S)), .int (hs_G S 0), .int (hs_G S 1), .ref (ad 0 4), .ref (ad 0 8)] := hP.m 0 0 (by decide)
  have e0_2hP : M (ad 0 2) = hw_ar Z 4 6 (fun j => some (ad 8 j)) := hP.m 0 2 (by decide)
  have e0_3hP : M (ad 0 3) = hw_ar Z 5 2 (fun j => some (ad 9 j)) := hP.m 0 3 (by decide)
  refine lv_aload_n hx hb dX5_load_0 rfl (lv_at hl 0 rfl) ?_
  refine lv_iload_n hx hb dX5_load_1 rfl (lv_at hl 1 rfl) ?_
  refine hw_xr hI hxo (hw_xV hx hb hml hown hts hk hI (m_X5_machineAt l hst Z M (ad 0 0) (ad 0 1) (ad 0 2) (ad 0 3) (ad 0 4) (ad 0 8) (hs_np S) (hs_nw S) (hs_G S 0) (hs_G S 1) ka (ad 9) e0_0hP e0_3hP) cv_X5_134 e0_0hP rfl rfl ⟨rfl, rfl⟩ ⟨(Nat.le_of_ble_eq_true rfl), (Nat.le_of_ble_eq_true rfl)⟩ rfl hl.1 rfl (Nat.le_of_ble_eq_true rfl) ⟨(Nat.le_of_ble_eq_true rfl), (Nat.le_of_ble_eq_true rfl)⟩ dX5_load_2) (hq_xc (c := 1) (fun h => by unfold st_load; exact (hq_if (fun q => h q.1) ⟨rfl, rfl⟩)) ⟨by decide, rfl⟩) (Nat.le_of_ble_eq_true rfl) (Nat.le_of_ble_eq_true rfl) (fun r2 M2 H locs hR hI => ?_)
  obtain ⟨⟨hk2, rfl⟩, rfl⟩ := hR
  have hx2 := hb_okx (by omega) hk2
  have hi2 : hb_ix ka < 2 := by have := hx2.1; omega
  have e9_hb_ix_kahP : M (ad 9 (hb_ix ka)) = hw_ob 1 [.int (nI (hb_ix ka)), .int (hs_M S (hb_ix ka) 0), .ref (ad 8 (hb_ix (hs_M S (hb_ix ka) 1))), .int (hs_M S (hb_ix ka) 2), hp_ref (ad 1) (hs_M S (hb_ix ka) 3), .ref (ad 10 (hb_ix ka)), .int (nI (hs_N S (hb_ix ka)))] := by
    have q := hP.m 9 (hb_ix ka) hi2
    rw [show hp_e Z ad S T 9 (hb_ix ka) = hw_ob 1 [.int (nI (hb_ix ka)), .int (hs_M S (hb_ix ka) 0), hp_ref (ad 8) (hs_M S (hb_ix ka) 1), .int (hs_M S (hb_ix ka) 2), hp_ref (ad 1) (hs_M S (hb_ix ka) 3), .ref (ad 10 (hb_ix ka)), .int (nI (hs_N S (hb_ix ka)))] from rfl] at q
    rw [hp_refs hm] at q
    exact q
  refine lv_astore_n (lv' := [(3, .ref (ad 9 (hb_ix ka))), (0, .ref (ad 0 0)), (1, .int ka), (2, .int kp)]) hx hb dX5_load_5 rfl hl (by decide) rfl (fun ls hl => ?_)
  refine lv_aload_n hx hb dX5_load_6 rfl (lv_at hl 1 rfl) ?_
  refine lv_iload_n hx hb dX5_load_7 rfl (lv_at hl 3 rfl) ?_
  refine hw_xr hI hxo (hw_xV hx hb hml hown hts hk hI (m_X5_powderAt l hst Z M (ad 0 0) (ad 0 1) (ad 0 2) (ad 0 3) (ad 0 4) (ad 0 8) (hs_np S) (hs_nw S) (hs_G S 0) (hs_G S 1) kp (ad 8) e0_0hP e0_2hP hnw) cv_X5_117 e0_0hP rfl rfl ⟨rfl, rfl⟩ ⟨(Nat.le_of_ble_eq_true rfl), (Nat.le_of_ble_eq_true rfl)⟩ rfl hl.1 rfl (Nat.le_of_ble_eq_true rfl) ⟨(Nat.le_of_ble_eq_true rfl), (Nat.le_of_ble_eq_true rfl)⟩ dX5_load_8) (hq_xc (c := 1) (fun h => by unfold st_load; exact (hq_if (fun q => h q.2) ⟨rfl, rfl⟩)) ⟨by decide, rfl⟩) (Nat.le_of_ble_eq_true rfl) (Nat.le_of_ble_eq_true rfl) (fun r8 M8 H locs hR hI => ?_)
  obtain ⟨⟨hk8, rfl⟩, rfl⟩ := hR
  have hx8 := hb_okx (by omega) hk8
  have hi8 : hb_ix kp < 6 := by have := hx8.1; omega
  have e8_hb_ix_kphP : M (ad 8 (hb_ix kp)) = hw_ob 4 [.int (nI (hb_ix kp)), .int (hs_V S (hb_ix kp) 0), .int (hs_V S (hb_ix kp) 1), .int (hs_V S (hb_ix kp) 2), .int (hs_V S (hb_ix kp) 3), .int (hs_V S (hb_ix kp) 4)] := hP.m 8 (hb_ix kp) hi8
  refine lv_astore (lv' := [(4, .ref (ad 8 (hb_ix kp))), (3, .ref (ad 9 (hb_ix ka))), (0, .ref (ad 0 0)), (1, .int ka), (2, .int kp)]) hx hb dX5_load_11 hl (by decide) rfl (fun ls hl => ?_)
  refine lv_aload_n hx hb dX5_load_13 rfl (lv_at hl 1 rfl) ?_
  refine hw_get hx hb hts hown hk hI fd_X5_138 e9_hb_ix_kahP rfl dX5_load_14 ?_
  refine lv_ifnull hx hb dX5_load_17 ?_
  exact hthr hI th_X5_50_142_54 hl.1 dX5_load_20 dX5_load_23 dX5_load_24 dX5_load_26 dX5_load_29 (Nat.le_of_ble_eq_true rfl) (Nat.le_of_ble_eq_true rfl) (Nat.le_of_ble_eq_true rfl) (Nat.le_of_ble_eq_true rfl) (hq_x (c := 2) (by unfold st_load; exact (hq_el (fun q => q ⟨hk2, hk8⟩) (hq_if (Or.inl hm) ⟨rfl, rfl⟩))) ⟨by decide, rfl⟩ rfl) (Nat.le_of_ble_eq_true rfl) (Nat.le_of_ble_eq_true rfl)

theorem m_X5_load (l : Launch) (hst : l.stackTraces = false) (Z : hw_Z) (M : hw_M) (ad : hp_ad) (S : hs_S) (T : hp_T) (b1 : Nat → Prop) (ka : Int32) (kp : Int32) (hP : hp_ok Z b1 M ad S T) (hB : hs_b S) : vx_Met l yX5_load (hw_m yX5_load cX5_load 5 (some .int)) ({ frames := 9, cells := 6, slots := 36, locals := 190 } : Room) (va_Pc [.ref (ad 0 0), .int ka, .int kp] (hw_P Z M)) (hw_Qi Z (hq_R Z b1 M ad (st_load S ka kp))) (hw_X Z (hq_X ["java/lang/IndexOutOfBoundsException", "java/lang/IllegalStateException"] M S (st_load S ka kp))) 6 36 (hw_A Z) := by
  by_cases hc : hs_M S (hb_ix ka) 1 = -1
  · exact m_X5_load_n l hst Z M ad S T b1 ka kp hP hB hc
  · exact m_X5_load_s l hst Z M ad S T b1 ka kp hP hB hc
