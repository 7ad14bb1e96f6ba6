theorem fd_X5_37 : hw_FD RX5 37 6 8 := ⟨RX5, TX5, 9, "MeltPool", rfl, by decide, iw_X5, (hw_win (w := .fieldLink RX5 37 "MeltPool" (TX5 8).2.1 (TX5 8).2.2.1) (by decide +kernel) (by decide +kernel)), Or.inl rfl⟩
theorem cb_X1_cool (own : String) (index : Nat) : hw_CB own index yX1_cool cX1_cool 1 none 0 := ⟨⟨by decide +kernel, by decide +kernel, by decide +kernel⟩, (hw_win (w := .code yX1_cool cX1_cool 1 none) (by decide +kernel) (by decide +kernel)), (hw_win (w := .initialized yX1_cool.cls) (by decide +kernel) (by decide +kernel))⟩
theorem cv_X5_201 : hw_CV RX5 201 yX1_cool cX1_cool 1 none 0 := ⟨cb_X1_cool _ _, (hw_win (w := .methodLink RX5 201 yX1_cool) (by decide +kernel) (by decide +kernel)), (hw_win (w := .instanceMethod yX1_cool) (by decide +kernel) (by decide +kernel)), (hw_win (w := .selects yX1_cool.cls yX1_cool yX1_cool) (by decide +kernel) (by decide +kernel))⟩
theorem fp_X5_229 : hw_FP RX5 229 2 1 (.int) false := ⟨RX1, TX1, 3, "MeltPool$Melt", tyX1, rfl, by decide, iw_X1, (hw_win (w := .fieldLink RX5 229 "MeltPool$Melt" (TX1 1).2.1 (TX1 1).2.2.1) (by decide +kernel) (by decide +kernel)), Or.inl rfl, tyX1_ok, nmX1, rfl, (fun h => by cases h), by decide +kernel⟩
theorem fp_X5_267 : hw_FP RX5 267 2 2 (.int) false := ⟨RX1, TX1, 3, "MeltPool$Melt", tyX1, rfl, by decide, iw_X1, (hw_win (w := .fieldLink RX5 267 "MeltPool$Melt" (TX1 2).2.1 (TX1 2).2.2.1) (by decide +kernel) (by decide +kernel)), Or.inl rfl, tyX1_ok, nmX1, rfl, (fun h => by cases h), by decide +kernel⟩
theorem cv_X5_337 : hw_CV RX5 337 yX1_shine cX1_shine 14 none 3 := ⟨cb_X1_shine _ _, (hw_win (w := .methodLink RX5 337 yX1_shine) (by decide +kernel) (by decide +kernel)), (hw_win (w := .instanceMethod yX1_shine) (by decide +kernel) (by decide +kernel)), (hw_win (w := .selects yX1_shine.cls yX1_shine yX1_shine) (by decide +kernel) (by decide +kernel))⟩
set_option maxHeartbeats 4000000 in
set_option maxRecDepth 100000 in
theorem m_X5_flawsAt (l : Launch) (Z : hw_Z) (M : hw_M) (ad : hp_ad) (S : hs_S) (T : hp_T) (b1 : Nat → Prop) (j : Nat) (en : UInt64) (hP : hp_ok Z b1 M ad S T) (hB : hs_b S) (hj : j < 4) (hen : hb_pz en) : Met l yX5_flawsAt (hw_m yX5_flawsAt cX5_flawsAt 6 (some .int)) ({ frames := 4, cells := 0, slots := 0, locals := 90 } : Room) (va_Pc [.ref (ad 0 0), .ref (ad 2 j), .double en] (hw_P Z M)) (hw_Qi Z (hq_T Z b1 M ad S (nI (hb_tl (hs_C S j) en (hb_ht (hs_C S j) 8) + hb_th (hs_C S j) en (hb_ht (hs_C S j) 8))))) 0 0 (hw_A Z) := by
  refine hw_ofi (by decide +kernel) rfl (Nat.le_of_ble_eq_true rfl) ?_
  intro p e s m below meth c ls Q hx hb hml hown hts hk hnm hI hl hret
  have hnp := hB.np
  have hnw := hB.nw
  have e0_0hP : M (ad 0 0) = hw_ob 6 [.ref (ad 0 1), .ref (ad 0 2), .ref (ad 0 3), .int (nI (hs_np S)), .int (nI (hs_nw S)), .int (hs_G S 0), .int (hs_G S 1), .ref (ad 0 4), .ref (ad 0 8)] := hP.m 0 0 (by decide)
  have e0_8hP : M (ad 0 8) = hw_ob 2 [.ref (ad 0 9), .int T.2.2.2.2.1, .int T.2.2.2.2.2] := hP.m 0 8 (by decide)
  have e0_9hP : M (ad 0 9) = hw_ad Z 64 T.2.2.2.1 := hP.m 0 9 (by decide)
  have e2_jhP : M (ad 2 j) = hw_ob 5 [.ref (ad 3 j), .ref (ad 4 j), .ref (ad 5 j)] := hP.m 2 j hj
  have e3_jhP : M (ad 3 j) = hw_al Z 8 (hs_C S j) := hP.m 3 j hj
  have e4_jhP : M (ad 4 j) = hw_al Z 8 (hb_hang (hs_C S j)) := hP.m 4 j hj
  refine lv_aload_n hx hb dX5_flawsAt_0 rfl (lv_at hl 1 rfl) ?_
  refine hw_ci hI (hw_rV hx hb hml hown hts hk hI (m_X4_height l Z M (ad 2 j) (ad 3 j) (ad 4 j) (ad 5 j) (hs_C S j) e2_jhP e3_jhP) cv_X5_92 e2_jhP rfl rfl ⟨rfl, rfl⟩ ⟨(Nat.le_of_ble_eq_true rfl), (Nat.le_of_ble_eq_true rfl)⟩ rfl hl.1 rfl (Nat.le_of_ble_eq_true rfl) ⟨(Nat.le_of_ble_eq_true rfl), (Nat.le_of_ble_eq_true rfl)⟩ dX5_flawsAt_1) (fun r1 M1 H locs hR hI => ?_)
  obtain ⟨rfl, rfl⟩ := hR
  refine lv_istore (lv' := [(4, .int (nI (hb_ht (hs_C S j) 8))), (0, .ref (ad 0 0)), (1, .ref (ad 2 j)), (2, .double en)]) hx hb dX5_flawsAt_4 hl (by decide) rfl (fun ls hl => ?_)
  refine lv_aload_n hx hb dX5_flawsAt_6 rfl (lv_at hl 1 rfl) ?_
  refine hw_get hx hb hts hown hk hI fd_X5_37 e0_0hP rfl dX5_flawsAt_7 ?_
  refine hw_cv hI (hw_rV hx hb hml hown hts hk hI (m_X1_cool l Z M (ad 0 8) (ad 0 9) T.2.2.2.2.1 T.2.2.2.2.2 T.2.2.2.1 e0_8hP e0_9hP) cv_X5_201 e0_8hP rfl rfl ⟨rfl, rfl⟩ ⟨(Nat.le_of_ble_eq_true rfl), (Nat.le_of_ble_eq_true rfl)⟩ rfl hl.1 rfl (Nat.le_of_ble_eq_true rfl) ⟨(Nat.le_of_ble_eq_true rfl), (Nat.le_of_ble_eq_true rfl)⟩ dX5_flawsAt_10) (fun M10 H locs hR hI => ?_)
  subst hR
  refine lv_aload_n hx hb dX5_flawsAt_13 rfl (lv_at hl 1 rfl) ?_
  refine hw_get hx hb hts hown hk hI fd_X5_37 (hw_up e0_0hP (hP.n (k := 0) (i := 0) (k' := 0) (i' := 9) (by decide) (by decide) (by decide))) rfl dX5_flawsAt_14 ?_
  refine lv_iconst (v := nI 0) hx hb dX5_flawsAt_17 (by decide) ?_
  refine hw_put (fs' := [.ref (ad 0 9), .int (nI 0), .int T.2.2.2.2.2]) hx hb hts hown hk hI fp_X5_229 (hw_up e0_8hP (hP.n (k := 0) (i := 8) (k' := 0) (i' := 9) (by decide) (by decide) (by decide))) (Nat.le_of_ble_eq_true rfl) rfl rfl rfl dX5_flawsAt_18 (fun H locs hI => ?_)
  refine lv_aload_n hx hb dX5_flawsAt_21 rfl (lv_at hl 1 rfl) ?_
  refine hw_get hx hb hts hown hk hI fd_X5_37 (hw_up (hw_up e0_0hP (hP.n (k := 0) (i := 0) (k' := 0) (i' := 9) (by decide) (by decide) (by decide))) (hP.n (k := 0) (i := 0) (k' := 0) (i' := 8) (by decide) (by decide) (by decide))) rfl dX5_flawsAt_22 ?_
  refine lv_iconst (v := nI 0) hx hb dX5_flawsAt_25 (by decide) ?_
  refine hw_put (fs' := [.ref (ad 0 9), .int (nI 0), .int (nI 0)]) hx hb hts hown hk hI fp_X5_267 (hw_us _ _ _) (Nat.le_of_ble_eq_true rfl) rfl rfl rfl dX5_flawsAt_26 (fun H locs hI => ?_)
  refine lv_iconst (v := nI 0) hx hb dX5_flawsAt_29 (by decide) ?_
  refine lv_istore (lv' := [(5, .int (nI 0)), (4, .int (nI (hb_ht (hs_C S j) 8))), (0, .ref (ad 0 0)), (1, .ref (ad 2 j)), (2, .double en)]) hx hb dX5_flawsAt_30 hl (by decide) rfl (fun ls hl => ?_)
  have ok_L0 : hp_ok Z b1 (va_up (va_up (va_up M (ad 0 9) (hw_ad Z 64 (fun _ => FP.dconst0))) (ad 0 8) (hw_ob 2 [.ref (ad 0 9), .int (nI 0), .int T.2.2.2.2.2])) (ad 0 8) (hw_ob 2 [.ref (ad 0 9), .int (nI 0), .int (nI 0)])) ad (S) ((T.1, T.2.1, T.2.2.1, hb_tw (hs_C S j) en 0, nI (hb_tl (hs_C S j) en 0), nI (hb_th (hs_C S j) en 0))) := by
    refine hP.fin (fun k i hi => ?_) hP.h0 hP.s7
    have hk0 := hp_k0 hi
    by_cases q2 : k = 0 ∧ i = 8
    · obtain ⟨rfl, qi⟩ := q2; obtain rfl := qi.symm
      rw [va_up_self]
      first | rfl | (simp only [hp_e, hp_e0, hp_hang0, va_up_self]; done) | (simp only [hp_e, hp_e0, hp_hang0, va_up_self]; rfl)
    by_cases q0 : k = 0 ∧ i = 9
    · obtain ⟨rfl, qi⟩ := q0; obtain rfl := qi.symm
      rw [va_up_ne _ _ (hP.n (k := 0) (i := 9) (k' := 0) (i' := 8) (by decide) (by decide) (by decide)), va_up_ne _ _ (hP.n (k := 0) (i := 9) (k' := 0) (i' := 8) (by decide) (by decide) (by decide)), va_up_self]
      first | rfl | (simp only [hp_e, hp_e0, hp_hang0, va_up_self]; done) | (simp only [hp_e, hp_e0, hp_hang0, va_up_self]; rfl)
    rw [va_up_ne _ _ (hP.n (k := k) (i := i) (k' := 0) (i' := 8) hi (by decide) q2), va_up_ne _ _ (hP.n (k := k) (i := i) (k' := 0) (i' := 8) hi (by decide) q2), va_up_ne _ _ (hP.n (k := k) (i := i) (k' := 0) (i' := 9) hi (by decide) q0)]
    exact (hP.m k i hi).trans ((sm_Tm (k := k) (i := i) (by omega))).symm
  have fr_L0 : ∀ a, b1 a → (va_up (va_up (va_up M (ad 0 9) (hw_ad Z 64 (fun _ => FP.dconst0))) (ad 0 8) (hw_ob 2 [.ref (ad 0 9), .int (nI 0), .int T.2.2.2.2.2])) (ad 0 8) (hw_ob 2 [.ref (ad 0 9), .int (nI 0), .int (nI 0)])) a = M a := by
    intro a ha
    rw [va_up_ne _ _ (hP.f (k := 0) (i := 8) (by decide) ha), va_up_ne _ _ (hP.f (k := 0) (i := 8) (by decide) ha), va_up_ne _ _ (hP.f (k := 0) (i := 9) (by decide) ha)]
  suffices LP32 : ∀ v, v ≤ hb_ht (hs_C S j) 8 → ∀ (M1 : hw_M) (hP1 : hp_ok Z b1 M1 ad S (T.1, T.2.1, T.2.2.1, hb_tw (hs_C S j) en v, nI (hb_tl (hs_C S j) en v), nI (hb_th (hs_C S j) en v))) (hF1 : ∀ a, b1 a → M1 a = M a) (H : Heap) (locs : List Loc) (ls : Array Slot), hw_iv Z s (M1) H locs → lv_has ls 6 [(4, .int (nI (hb_ht (hs_C S j) 8))), (5, .int (nI v)), (0, .ref (ad 0 0)), (1, .ref (ad 2 j)), (2, .double en)] → W p l e ({ frames := 4, cells := 0, slots := 0, locals := 90 } : Room) s m ([.ref (ad 0 0), .ref (ad 2 j), .double en] : List Value).toArray below meth c H locs 0 0 Q (F0 m 32 ls []) from LP32 0 (by omega) _ ok_L0 fr_L0 _ _ _ hI (lv_sub hl [1, 0, 2, 3, 4] rfl)
  refine hw_loop ?_ (fun v hi32 ih32 => ?_)
  · intro M1 hP1 hF1 H locs ls hI hl
    have e0_0hP1 : M1 (ad 0 0) = hw_ob 6 [.ref (ad 0 1), .ref (ad 0 2), .ref (ad 0 3), .int (nI (hs_np S)), .int (nI (hs_nw S)), .int (hs_G S 0), .int (hs_G S 1), .ref (ad 0 4), .ref (ad 0 8)] := hP1.m 0 0 (by decide)
    have e0_8hP1 : M1 (ad 0 8) = hw_ob 2 [.ref (ad 0 9), .int ((T.1, T.2.1, T.2.2.1, hb_tw (hs_C S j) en (hb_ht (hs_C S j) 8), nI (hb_tl (hs_C S j) en (hb_ht (hs_C S j) 8)), nI (hb_th (hs_C S j) en (hb_ht (hs_C S j) 8))).2.2.2.2.1), .int ((T.1, T.2.1, T.2.2.1, hb_tw (hs_C S j) en (hb_ht (hs_C S j) 8), nI (hb_tl (hs_C S j) en (hb_ht (hs_C S j) 8)), nI (hb_th (hs_C S j) en (hb_ht (hs_C S j) 8))).2.2.2.2.2)] := hP1.m 0 8 (by decide)
    have e0_9hP1 : M1 (ad 0 9) = hw_ad Z 64 ((T.1, T.2.1, T.2.2.1, hb_tw (hs_C S j) en (hb_ht (hs_C S j) 8), nI (hb_tl (hs_C S j) en (hb_ht (hs_C S j) 8)), nI (hb_th (hs_C S j) en (hb_ht (hs_C S j) 8))).2.2.2.1) := hP1.m 0 9 (by decide)
    have e2_jhP1 : M1 (ad 2 j) = hw_ob 5 [.ref (ad 3 j), .ref (ad 4 j), .ref (ad 5 j)] := hP1.m 2 j hj
    have e3_jhP1 : M1 (ad 3 j) = hw_al Z 8 (hs_C S j) := hP1.m 3 j hj
    have e4_jhP1 : M1 (ad 4 j) = hw_al Z 8 (hb_hang (hs_C S j)) := hP1.m 4 j hj
    refine lv_iload hx hb dX5_flawsAt_32 (lv_at hl 1 rfl) ?_
    refine lv_iload hx hb dX5_flawsAt_34 (lv_at hl 0 rfl) ?_
    refine lv_icmp_ge (tgt := 67) hx hb dX5_flawsAt_36 (by decide) (fun _ => ?_) (fun hc => absurd (Int32.le_refl _) hc)
    refine lv_aload_n hx hb dX5_flawsAt_67 rfl (lv_at hl 2 rfl) ?_
    refine hw_get hx hb hts hown hk hI fd_X5_37 e0_0hP1 rfl dX5_flawsAt_68 ?_
    refine hw_get hx hb hts hown hk hI fd_X5_229 e0_8hP1 rfl dX5_flawsAt_71 ?_
    refine lv_aload_n hx hb dX5_flawsAt_74 rfl (lv_at hl 2 rfl) ?_
    refine hw_get hx hb hts hown hk hI fd_X5_37 e0_0hP1 rfl dX5_flawsAt_75 ?_
    refine hw_get hx hb hts hown hk hI fd_X5_267 e0_8hP1 rfl dX5_flawsAt_78 ?_
    refine lv_iadd hx hb dX5_flawsAt_81 ?_
    exact hret hI (hq_t (nI_add _ _).symm hP1 hF1) (Nat.le_of_ble_eq_true rfl) (Nat.le_of_ble_eq_true rfl) dX5_flawsAt_82
  · intro M1 hP1 hF1 H locs ls hI hl
    have e0_0hP1 : M1 (ad 0 0) = hw_ob 6 [.ref (ad 0 1), .ref (ad 0 2), .ref (ad 0 3), .int (nI (hs_np S)), .int (nI (hs_nw S)), .int (hs_G S 0), .int (hs_G S 1), .ref (ad 0 4), .ref (ad 0 8)] := hP1.m 0 0 (by decide)
    have e0_8hP1 : M1 (ad 0 8) = hw_ob 2 [.ref (ad 0 9), .int ((T.1, T.2.1, T.2.2.1, hb_tw (hs_C S j) en v, nI (hb_tl (hs_C S j) en v), nI (hb_th (hs_C S j) en v)).2.2.2.2.1), .int ((T.1, T.2.1, T.2.2.1, hb_tw (hs_C S j) en v, nI (hb_tl (hs_C S j) en v), nI (hb_th (hs_C S j) en v)).2.2.2.2.2)] := hP1.m 0 8 (by decide)
    have e0_9hP1 : M1 (ad 0 9) = hw_ad Z 64 ((T.1, T.2.1, T.2.2.1, hb_tw (hs_C S j) en v, nI (hb_tl (hs_C S j) en v), nI (hb_th (hs_C S j) en v)).2.2.2.1) := hP1.m 0 9 (by decide)
    have e2_jhP1 : M1 (ad 2 j) = hw_ob 5 [.ref (ad 3 j), .ref (ad 4 j), .ref (ad 5 j)] := hP1.m 2 j hj
    have e3_jhP1 : M1 (ad 3 j) = hw_al Z 8 (hs_C S j) := hP1.m 3 j hj
    have e4_jhP1 : M1 (ad 4 j) = hw_al Z 8 (hb_hang (hs_C S j)) := hP1.m 4 j hj
    refine lv_iload hx hb dX5_flawsAt_32 (lv_at hl 1 rfl) ?_
    refine lv_iload hx hb dX5_flawsAt_34 (lv_at hl 0 rfl) ?_
    refine lv_icmp_ge (tgt := 67) hx hb dX5_flawsAt_36 (by decide) (fun hc => absurd hc (nI_ge hi32 (by have := hb_ht_le (hs_C S j) 8; omega))) (fun _ => ?_)
    refine lv_aload_n hx hb dX5_flawsAt_39 rfl (lv_at hl 2 rfl) ?_
    refine hw_get hx hb hts hown hk hI fd_X5_37 e0_0hP1 rfl dX5_flawsAt_40 ?_
    refine lv_aload_n hx hb dX5_flawsAt_43 rfl (lv_at hl 3 rfl) ?_
    refine hw_get hx hb hts hown hk hI fd_X5_283 e2_jhP1 rfl dX5_flawsAt_44 ?_
    refine lv_iload hx hb dX5_flawsAt_47 (lv_at hl 1 rfl) ?_
    have hv8 : v < 8 := by have := hb_ht_le (hs_C S j) 8; omega
    refine hw_lald hx hb hk hI e3_jhP1 (j := v) rfl (by omega) (by decide) dX5_flawsAt_49 ?_
    refine lv_aload_n hx hb dX5_flawsAt_50 rfl (lv_at hl 3 rfl) ?_
    refine hw_get hx hb hts hown hk hI fd_X5_287 e2_jhP1 rfl dX5_flawsAt_51 ?_
    refine lv_iload hx hb dX5_flawsAt_54 (lv_at hl 1 rfl) ?_
    refine hw_lald hx hb hk hI e4_jhP1 (j := v) rfl (by omega) (by decide) dX5_flawsAt_56 ?_
    refine lv_dload_n hx hb dX5_flawsAt_57 rfl (lv_at hl 4 rfl) ?_
    refine hw_cv hI (hw_rV hx hb hml hown hts hk hI (m_X1_shine l Z M1 (ad 0 8) (ad 0 9) ((T.1, T.2.1, T.2.2.1, hb_tw (hs_C S j) en v, nI (hb_tl (hs_C S j) en v), nI (hb_th (hs_C S j) en v)).2.2.2.2.1) ((T.1, T.2.1, T.2.2.1, hb_tw (hs_C S j) en v, nI (hb_tl (hs_C S j) en v), nI (hb_th (hs_C S j) en v)).2.2.2.2.2) ((T.1, T.2.1, T.2.2.1, hb_tw (hs_C S j) en v, nI (hb_tl (hs_C S j) en v), nI (hb_th (hs_C S j) en v)).2.2.2.1) ((hs_C S j) v) ((hb_hang (hs_C S j)) v) en e0_8hP1 e0_9hP1 (hP.n (k := 0) (i := 8) (k' := 0) (i' := 9) (by decide) (by decide) (by decide)) (hb_tw_pz hen v) hen) cv_X5_337 e0_8hP1 rfl rfl ⟨rfl, rfl⟩ ⟨(Nat.le_of_ble_eq_true rfl), (Nat.le_of_ble_eq_true rfl)⟩ rfl hl.1 rfl (Nat.le_of_ble_eq_true rfl) ⟨(Nat.le_of_ble_eq_true rfl), (Nat.le_of_ble_eq_true rfl)⟩ dX5_flawsAt_58) (fun M58 H locs hR hI => ?_)
    subst hR
    have e8 : hw_ob 2 [.ref (ad 0 9), .int (((T.1, T.2.1, T.2.2.1, hb_tw (hs_C S j) en v, nI (hb_tl (hs_C S j) en v), nI (hb_th (hs_C S j) en v)).2.2.2.2.1) + nI (hb_ct (hb_lp ((hs_C S j) v) ((hb_hang (hs_C S j)) v) en ((T.1, T.2.1, T.2.2.1, hb_tw (hs_C S j) en v, nI (hb_tl (hs_C S j) en v), nI (hb_th (hs_C S j) en v)).2.2.2.1)) 64)), .int (((T.1, T.2.1, T.2.2.1, hb_tw (hs_C S j) en v, nI (hb_tl (hs_C S j) en v), nI (hb_th (hs_C S j) en v)).2.2.2.2.2) + nI (hb_ct (hb_hp ((hs_C S j) v) ((hb_hang (hs_C S j)) v) en ((T.1, T.2.1, T.2.2.1, hb_tw (hs_C S j) en v, nI (hb_tl (hs_C S j) en v), nI (hb_th (hs_C S j) en v)).2.2.2.1)) 64))] = hw_ob 2 [.ref (ad 0 9), .int (nI (hb_tl (hs_C S j) en (v + 1))), .int (nI (hb_th (hs_C S j) en (v + 1)))] := hw_ob3 (congrArg Value.int (nI_add _ _)) (congrArg Value.int (nI_add _ _))
    replace hI := hI.eq (show va_up (va_up M1 (ad 0 8) (hw_ob 2 [.ref (ad 0 9), .int (((T.1, T.2.1, T.2.2.1, hb_tw (hs_C S j) en v, nI (hb_tl (hs_C S j) en v), nI (hb_th (hs_C S j) en v)).2.2.2.2.1) + nI (hb_ct (hb_lp ((hs_C S j) v) ((hb_hang (hs_C S j)) v) en ((T.1, T.2.1, T.2.2.1, hb_tw (hs_C S j) en v, nI (hb_tl (hs_C S j) en v), nI (hb_th (hs_C S j) en v)).2.2.2.1)) 64)), .int (((T.1, T.2.1, T.2.2.1, hb_tw (hs_C S j) en v, nI (hb_tl (hs_C S j) en v), nI (hb_th (hs_C S j) en v)).2.2.2.2.2) + nI (hb_ct (hb_hp ((hs_C S j) v) ((hb_hang (hs_C S j)) v) en ((T.1, T.2.1, T.2.2.1, hb_tw (hs_C S j) en v, nI (hb_tl (hs_C S j) en v), nI (hb_th (hs_C S j) en v)).2.2.2.1)) 64))])) (ad 0 9) (hw_ad Z 64 (hb_wf ((hs_C S j) v) en ((T.1, T.2.1, T.2.2.1, hb_tw (hs_C S j) en v, nI (hb_tl (hs_C S j) en v), nI (hb_th (hs_C S j) en v)).2.2.2.1))) = va_up (va_up M1 (ad 0 8) (hw_ob 2 [.ref (ad 0 9), .int (nI (hb_tl (hs_C S j) en (v + 1))), .int (nI (hb_th (hs_C S j) en (v + 1)))])) (ad 0 9) (hw_ad Z 64 (hb_wf ((hs_C S j) v) en ((T.1, T.2.1, T.2.2.1, hb_tw (hs_C S j) en v, nI (hb_tl (hs_C S j) en v), nI (hb_th (hs_C S j) en v)).2.2.2.1))) by rw [e8])
    refine lv_iinc (v := nI (v + 1)) (lv' := [(5, .int (nI (v + 1))), (4, .int (nI (hb_ht (hs_C S j) 8))), (0, .ref (ad 0 0)), (1, .ref (ad 2 j)), (2, .double en)]) hx hb dX5_flawsAt_61 hl (k := 1) rfl (hw_inc _) (by decide) rfl (fun ls hl => ?_)
    refine lv_goto (tgt := 32) hx hb dX5_flawsAt_64 (by decide) ?_
    have ok_L1 : hp_ok Z b1 (va_up (va_up M1 (ad 0 8) (hw_ob 2 [.ref (ad 0 9), .int (nI (hb_tl (hs_C S j) en (v + 1))), .int (nI (hb_th (hs_C S j) en (v + 1)))])) (ad 0 9) (hw_ad Z 64 (hb_wf ((hs_C S j) v) en ((T.1, T.2.1, T.2.2.1, hb_tw (hs_C S j) en v, nI (hb_tl (hs_C S j) en v), nI (hb_th (hs_C S j) en v)).2.2.2.1)))) ad (S) ((T.1, T.2.1, T.2.2.1, hb_tw (hs_C S j) en (v + 1), nI (hb_tl (hs_C S j) en (v + 1)), nI (hb_th (hs_C S j) en (v + 1)))) := by
      refine hP1.fin (fun k i hi => ?_) hP1.h0 hP1.s7
      have hk0 := hp_k0 hi
      by_cases q1 : k = 0 ∧ i = 9
      · obtain ⟨rfl, qi⟩ := q1; obtain rfl := qi.symm
        rw [va_up_self]
        first | rfl | (simp only [hp_e, hp_e0, hp_hang0, va_up_self]; done) | (simp only [hp_e, hp_e0, hp_hang0, va_up_self]; rfl)
      by_cases q0 : k = 0 ∧ i = 8
      · obtain ⟨rfl, qi⟩ := q0; obtain rfl := qi.symm
        rw [va_up_ne _ _ (hP1.n (k := 0) (i := 8) (k' := 0) (i' := 9) (by decide) (by decide) (by decide)), va_up_self]
        first | rfl | (simp only [hp_e, hp_e0, hp_hang0, va_up_self]; done) | (simp only [hp_e, hp_e0, hp_hang0, va_up_self]; rfl)
      rw [va_up_ne _ _ (hP1.n (k := k) (i := i) (k' := 0) (i' := 9) hi (by decide) q1), va_up_ne _ _ (hP1.n (k := k) (i := i) (k' := 0) (i' := 8) hi (by decide) q0)]
      exact (hP1.m k i hi).trans ((sm_Tm (k := k) (i := i) (by omega))).symm
    have fr_L1 : ∀ a, b1 a → (va_up (va_up M1 (ad 0 8) (hw_ob 2 [.ref (ad 0 9), .int (nI (hb_tl (hs_C S j) en (v + 1))), .int (nI (hb_th (hs_C S j) en (v + 1)))])) (ad 0 9) (hw_ad Z 64 (hb_wf ((hs_C S j) v) en ((T.1, T.2.1, T.2.2.1, hb_tw (hs_C S j) en v, nI (hb_tl (hs_C S j) en v), nI (hb_th (hs_C S j) en v)).2.2.2.1)))) a = M a := by
      intro a ha
      rw [va_up_ne _ _ (hP1.f (k := 0) (i := 9) (by decide) ha), va_up_ne _ _ (hP1.f (k := 0) (i := 8) (by decide) ha)]; exact hF1 a ha
    exact ih32 _ ok_L1 fr_L1 _ _ _ hI (lv_sub hl [1, 0, 2, 3, 4] rfl)

set_option maxHeartbeats 4000000 in
set_option maxRecDepth 100000 in
theorem m_X5_bestWay (l : Launch) (hst : l.stackTraces = false) (Z : hw_Z) (M : hw_M) (ad : hp_ad) (S : hs_S) (T : hp_T) (b1 : Nat → Prop) (ka : Int32) (hP : hp_ok Z b1 M ad S T) (hB : hs_b S) : vx_Met l yX5_bestWay (hw_m yX5_bestWay cX5_bestWay 9 (some .int)) ({ frames := 9, cells := 6, slots := 36, locals := 190 } : Room) (va_Pc [.ref (ad 0 0), .int ka] (hw_P Z M)) (hw_Qi Z (hq_R Z b1 M ad (st_bestWay S ka))) (hw_X Z (hq_X ["java/lang/IndexOutOfBoundsException"] M S (st_bestWay S ka))) 6 36 (hw_A Z) := by
  refine hw_xofi hst (by decide +kernel) rfl (Nat.le_of_ble_eq_true rfl) ?_
  intro p e s m below meth c ls Q hx hb hml hown hts hk hnm hI hl hret hxo hthr hthrW
  have hnp := hB.np
  have hnw := hB.nw
  have e0_0hP : M (ad 0 0) = hw_ob 6 [.ref (ad 0 1), .ref (ad 0 2), .ref (ad 0 3), .int (nI (hs_np S)), .int (nI (hs_nw S)), .int (hs_G S 0), .int (hs_G S 1), .ref (ad 0 4), .ref (ad 0 8)] := hP.m 0 0 (by decide)
  have e0_1hP : M (ad 0 1) = hw_ar Z 3 4 (fun j => some (ad 1 j)) := hP.m 0 1 (by decide)
  have e0_4hP : M (ad 0 4) = hw_ob 5 [.ref (ad 0 5), .ref (ad 0 6), .ref (ad 0 7)] := hP.m 0 4 (by decide)
  have e0_5hP : M (ad 0 5) = hw_al Z 8 T.1 := hP.m 0 5 (by decide)
  have e0_6hP : M (ad 0 6) = hw_al Z 8 T.2.1 := hP.m 0 6 (by decide)
  have e0_7hP : M (ad 0 7) = hw_al Z 8 T.2.2.1 := hP.m 0 7 (by decide)
  refine lv_aload_n hx hb dX5_bestWay_0 rfl (lv_at hl 0 rfl) ?_
  refine lv_iload_n hx hb dX5_bestWay_1 rfl (lv_at hl 1 rfl) ?_
  refine hw_xr hI hxo (hw_xV hx hb hml hown hts hk hI (m_X5_pieceAt l hst Z M (ad 0 0) (ad 0 1) (ad 0 2) (ad 0 3) (ad 0 4) (ad 0 8) (hs_np S) (hs_nw S) (hs_G S 0) (hs_G S 1) ka (ad 1) e0_0hP e0_1hP hnp) cv_X5_57 e0_0hP rfl rfl ⟨rfl, rfl⟩ ⟨(Nat.le_of_ble_eq_true rfl), (Nat.le_of_ble_eq_true rfl)⟩ rfl hl.1 rfl (Nat.le_of_ble_eq_true rfl) ⟨(Nat.le_of_ble_eq_true rfl), (Nat.le_of_ble_eq_true rfl)⟩ dX5_bestWay_2) (hq_xc (c := 1) (fun h => by unfold st_bestWay; exact (hq_if h ⟨rfl, rfl⟩)) ⟨by decide, rfl⟩) (Nat.le_of_ble_eq_true rfl) (Nat.le_of_ble_eq_true rfl) (fun r2 M2 H locs hR hI => ?_)
  obtain ⟨⟨hk2, rfl⟩, rfl⟩ := hR
  have hx2 := hb_okx (by omega) hk2
  have hi2 : hb_ix ka < 4 := by have := hx2.1; omega
  have e1_hb_ix_kahP : M (ad 1 (hb_ix ka)) = hw_ob 3 [.int (nI (hb_ix ka)), .ref (ad 2 (hb_ix ka)), .ref (ad 6 (hb_ix ka)), .int (hs_P S (hb_ix ka) 0), .int (nI (hs_D S (hb_ix ka))), .double (hs_U S (hb_ix ka)), .int (hs_P S (hb_ix ka) 3), hp_ref (ad 9) (hs_P S (hb_ix ka) 4), .int (hs_P S (hb_ix ka) 5), .int (hs_P S (hb_ix ka) 6), .int (hs_P S (hb_ix ka) 7), .int (hs_P S (hb_ix ka) 8), .int (hs_P S (hb_ix ka) 9)] := hP.m 1 (hb_ix ka) hi2
  have e2_hb_ix_kahP : M (ad 2 (hb_ix ka)) = hw_ob 5 [.ref (ad 3 (hb_ix ka)), .ref (ad 4 (hb_ix ka)), .ref (ad 5 (hb_ix ka))] := hP.m 2 (hb_ix ka) hi2
  have e3_hb_ix_kahP : M (ad 3 (hb_ix ka)) = hw_al Z 8 (hs_C S (hb_ix ka)) := hP.m 3 (hb_ix ka) hi2
  refine lv_astore_n (lv' := [(2, .ref (ad 1 (hb_ix ka))), (0, .ref (ad 0 0)), (1, .int ka)]) hx hb dX5_bestWay_5 rfl hl (by decide) rfl (fun ls hl => ?_)
  refine lv_iconst (v := nI 0) hx hb dX5_bestWay_6 (by decide) ?_
  refine lv_istore_n (lv' := [(3, .int (nI 0)), (2, .ref (ad 1 (hb_ix ka))), (0, .ref (ad 0 0)), (1, .int ka)]) hx hb dX5_bestWay_7 rfl hl (by decide) rfl (fun ls hl => ?_)
  refine lv_iconst (v := nI 0) hx hb dX5_bestWay_8 (by decide) ?_
  refine lv_istore (lv' := [(4, .int (nI 0)), (3, .int (nI 0)), (2, .ref (ad 1 (hb_ix ka))), (0, .ref (ad 0 0)), (1, .int ka)]) hx hb dX5_bestWay_9 hl (by decide) rfl (fun ls hl => ?_)
  refine lv_iconst (v := nI 0) hx hb dX5_bestWay_11 (by decide) ?_
  refine lv_istore (lv' := [(5, .int (nI 0)), (4, .int (nI 0)), (3, .int (nI 0)), (2, .ref (ad 1 (hb_ix ka))), (0, .ref (ad 0 0)), (1, .int ka)]) hx hb dX5_bestWay_12 hl (by decide) rfl (fun ls hl => ?_)
  refine lv_iconst (v := nI 0) hx hb dX5_bestWay_14 (by decide) ?_
  refine lv_istore (lv' := [(6, .int (nI 0)), (5, .int (nI 0)), (4, .int (nI 0)), (3, .int (nI 0)), (2, .ref (ad 1 (hb_ix ka))), (0, .ref (ad 0 0)), (1, .int ka)]) hx hb dX5_bestWay_15 hl (by decide) rfl (fun ls hl => ?_)
  suffices LP17 : ∀ v, v ≤ 6 → ∀ (M1 : hw_M) (T1 : hp_T) (hP1 : hp_ok Z b1 M1 ad S T1) (hF1 : ∀ a, b1 a → M1 a = M a) (H : Heap) (locs : List Loc) (ls : Array Slot), hw_iv Z s (M1) H locs → lv_has ls 9 [(3, .int (nI (hb_bwL (hs_C S (hb_ix ka)) v))), (4, .int (nI (hb_bwF (hs_C S (hb_ix ka)) v))), (5, .int (nI (hb_bwG (hs_C S (hb_ix ka)) v))), (6, .int (nI v)), (0, .ref (ad 0 0)), (2, .ref (ad 1 (hb_ix ka)))] → W p l e ({ frames := 9, cells := 6, slots := 36, locals := 190 } : Room) s m ([.ref (ad 0 0), .int ka] : List Value).toArray below meth c H locs 1 6 Q (F0 m 17 ls []) from LP17 0 (by omega) M T hP (fun _ _ => rfl) _ _ _ hI (lv_sub hl [3, 2, 1, 0, 5, 4] rfl)
  refine hw_loop ?_ (fun v hi17 ih17 => ?_)
  · intro M1 T1 hP1 hF1 H locs ls hI hl
    have e0_0hP1 : M1 (ad 0 0) = hw_ob 6 [.ref (ad 0 1), .ref (ad 0 2), .ref (ad 0 3), .int (nI (hs_np S)), .int (nI (hs_nw S)), .int (hs_G S 0), .int (hs_G S 1), .ref (ad 0 4), .ref (ad 0 8)] := hP1.m 0 0 (by decide)
    have e0_1hP1 : M1 (ad 0 1) = hw_ar Z 3 4 (fun j => some (ad 1 j)) := hP1.m 0 1 (by decide)
    have e0_4hP1 : M1 (ad 0 4) = hw_ob 5 [.ref (ad 0 5), .ref (ad 0 6), .ref (ad 0 7)] := hP1.m 0 4 (by decide)
    have e0_5hP1 : M1 (ad 0 5) = hw_al Z 8 T1.1 := hP1.m 0 5 (by decide)
    have e0_6hP1 : M1 (ad 0 6) = hw_al Z 8 T1.2.1 := hP1.m 0 6 (by decide)
    have e0_7hP1 : M1 (ad 0 7) = hw_al Z 8 T1.2.2.1 := hP1.m 0 7 (by decide)
    have e1_hb_ix_kahP1 : M1 (ad 1 (hb_ix ka)) = hw_ob 3 [.int (nI (hb_ix ka)), .ref (ad 2 (hb_ix ka)), .ref (ad 6 (hb_ix ka)), .int (hs_P S (hb_ix ka) 0), .int (nI (hs_D S (hb_ix ka))), .double (hs_U S (hb_ix ka)), .int (hs_P S (hb_ix ka) 3), hp_ref (ad 9) (hs_P S (hb_ix ka) 4), .int (hs_P S (hb_ix ka) 5), .int (hs_P S (hb_ix ka) 6), .int (hs_P S (hb_ix ka) 7), .int (hs_P S (hb_ix ka) 8), .int (hs_P S (hb_ix ka) 9)] := hP1.m 1 (hb_ix ka) hi2
    have e2_hb_ix_kahP1 : M1 (ad 2 (hb_ix ka)) = hw_ob 5 [.ref (ad 3 (hb_ix ka)), .ref (ad 4 (hb_ix ka)), .ref (ad 5 (hb_ix ka))] := hP1.m 2 (hb_ix ka) hi2
    have e3_hb_ix_kahP1 : M1 (ad 3 (hb_ix ka)) = hw_al Z 8 (hs_C S (hb_ix ka)) := hP1.m 3 (hb_ix ka) hi2
    refine lv_iload hx hb dX5_bestWay_17 (lv_at hl 3 rfl) ?_
    refine lv_bipush (v := nI 6) hx hb dX5_bestWay_19 (by decide) ?_
    refine lv_icmp_ge (tgt := 98) hx hb dX5_bestWay_21 (by decide) (fun _ => ?_) (fun hc => absurd (Int32.le_refl _) hc)
    refine lv_iload_n hx hb dX5_bestWay_98 rfl (lv_at hl 0 rfl) ?_
    exact hret hI (hq_r (by unfold st_bestWay; exact (if_neg (fun q => q hk2))) hP1 hF1) (Nat.le_of_ble_eq_true rfl) (Nat.le_of_ble_eq_true rfl) dX5_bestWay_99
  · intro M1 T1 hP1 hF1 H locs ls hI hl
    have e0_0hP1 : M1 (ad 0 0) = hw_ob 6 [.ref (ad 0 1), .ref (ad 0 2), .ref (ad 0 3), .int (nI (hs_np S)), .int (nI (hs_nw S)), .int (hs_G S 0), .int (hs_G S 1), .ref (ad 0 4), .ref (ad 0 8)] := hP1.m 0 0 (by decide)
    have e0_1hP1 : M1 (ad 0 1) = hw_ar Z 3 4 (fun j => some (ad 1 j)) := hP1.m 0 1 (by decide)
    have e0_4hP1 : M1 (ad 0 4) = hw_ob 5 [.ref (ad 0 5), .ref (ad 0 6), .ref (ad 0 7)] := hP1.m 0 4 (by decide)
    have e0_5hP1 : M1 (ad 0 5) = hw_al Z 8 T1.1 := hP1.m 0 5 (by decide)
    have e0_6hP1 : M1 (ad 0 6) = hw_al Z 8 T1.2.1 := hP1.m 0 6 (by decide)
    have e0_7hP1 : M1 (ad 0 7) = hw_al Z 8 T1.2.2.1 := hP1.m 0 7 (by decide)
    have e1_hb_ix_kahP1 : M1 (ad 1 (hb_ix ka)) = hw_ob 3 [.int (nI (hb_ix ka)), .ref (ad 2 (hb_ix ka)), .ref (ad 6 (hb_ix ka)), .int (hs_P S (hb_ix ka) 0), .int (nI (hs_D S (hb_ix ka))), .double (hs_U S (hb_ix ka)), .int (hs_P S (hb_ix ka) 3), hp_ref (ad 9) (hs_P S (hb_ix ka) 4), .int (hs_P S (hb_ix ka) 5), .int (hs_P S (hb_ix ka) 6), .int (hs_P S (hb_ix ka) 7), .int (hs_P S (hb_ix ka) 8), .int (hs_P S (hb_ix ka) 9)] := hP1.m 1 (hb_ix ka) hi2
    have e2_hb_ix_kahP1 : M1 (ad 2 (hb_ix ka)) = hw_ob 5 [.ref (ad 3 (hb_ix ka)), .ref (ad 4 (hb_ix ka)), .ref (ad 5 (hb_ix ka))] := hP1.m 2 (hb_ix ka) hi2
    have e3_hb_ix_kahP1 : M1 (ad 3 (hb_ix ka)) = hw_al Z 8 (hs_C S (hb_ix ka)) := hP1.m 3 (hb_ix ka) hi2
    refine lv_iload hx hb dX5_bestWay_17 (lv_at hl 3 rfl) ?_
    refine lv_bipush (v := nI 6) hx hb dX5_bestWay_19 (by decide) ?_
    refine lv_icmp_ge (tgt := 98) hx hb dX5_bestWay_21 (by decide) (fun hc => absurd hc (nI_ge hi17 (by decide))) (fun _ => ?_)
    refine lv_aload_n hx hb dX5_bestWay_24 rfl (lv_at hl 4 rfl) ?_
    refine hw_get hx hb hts hown hk hI fd_X5_30 e0_0hP1 rfl dX5_bestWay_25 ?_
    refine lv_aload_n hx hb dX5_bestWay_28 rfl (lv_at hl 5 rfl) ?_
    refine hw_get hx hb hts hown hk hI fd_X5_68 e1_hb_ix_kahP1 rfl dX5_bestWay_29 ?_
    refine lv_iload hx hb dX5_bestWay_32 (lv_at hl 3 rfl) ?_
    refine hw_cv hI (hw_rV hx hb hml hown hts hk hI (m_X4_becomeLaid l Z M1 (ad 0 4) (ad 0 5) (ad 0 6) (ad 0 7) T1.1 T1.2.1 T1.2.2.1 (ad 2 (hb_ix ka)) (ad 3 (hb_ix ka)) (ad 4 (hb_ix ka)) (ad 5 (hb_ix ka)) (hs_C S (hb_ix ka)) v e0_4hP1 e0_5hP1 e0_6hP1 e0_7hP1 e2_hb_ix_kahP1 e3_hb_ix_kahP1 (hP.n (k := 0) (i := 5) (k' := 0) (i' := 6) (by decide) (by decide) (by decide)) (hP.n (k := 0) (i := 5) (k' := 0) (i' := 7) (by decide) (by decide) (by decide)) (hP.n (k := 0) (i := 6) (k' := 0) (i' := 7) (by decide) (by decide) (by decide)) (hP.n (k := 3) (i := (hb_ix ka)) (k' := 0) (i' := 5) hi2 (by decide) (fun q => absurd q.1 (by decide))) (hP.n (k := 2) (i := (hb_ix ka)) (k' := 0) (i' := 4) hi2 (by decide) (fun q => absurd q.1 (by decide))) hP1.h0 hP1.s7 hi17) cv_X5_84 e0_4hP1 rfl rfl ⟨rfl, rfl⟩ ⟨(Nat.le_of_ble_eq_true rfl), (Nat.le_of_ble_eq_true rfl)⟩ rfl hl.1 rfl (Nat.le_of_ble_eq_true rfl) ⟨(Nat.le_of_ble_eq_true rfl), (Nat.le_of_ble_eq_true rfl)⟩ dX5_bestWay_34) (fun M34 H locs hR hI => ?_)
    subst hR
    refine lv_aload_n hx hb dX5_bestWay_37 rfl (lv_at hl 4 rfl) ?_
    refine hw_get hx hb hts hown hk hI fd_X5_30 (hw_up (hw_up (hw_up e0_0hP1 (hP.n (k := 0) (i := 0) (k' := 0) (i' := 5) (by decide) (by decide) (by decide))) (hP.n (k := 0) (i := 0) (k' := 0) (i' := 6) (by decide) (by decide) (by decide))) (hP.n (k := 0) (i := 0) (k' := 0) (i' := 7) (by decide) (by decide) (by decide))) rfl dX5_bestWay_38 ?_
    refine hw_ci hI (hw_rV hx hb hml hown hts hk hI (m_X4_supportCount l Z (va_up (va_up (va_up M1 (ad 0 5) (hw_al Z 8 (hb_laid (hs_C S (hb_ix ka)) v))) (ad 0 6) (hw_al Z 8 (hb_hang (hb_laid (hs_C S (hb_ix ka)) v)))) (ad 0 7) (hw_al Z 8 (hb_supp (hb_laid (hs_C S (hb_ix ka)) v)))) (ad 0 4) (ad 0 5) (ad 0 6) (ad 0 7) (hb_supp (hb_laid (hs_C S (hb_ix ka)) v)) (hw_up (hw_up (hw_up e0_4hP1 (hP.n (k := 0) (i := 4) (k' := 0) (i' := 5) (by decide) (by decide) (by decide))) (hP.n (k := 0) (i := 4) (k' := 0) (i' := 6) (by decide) (by decide) (by decide))) (hP.n (k := 0) (i := 4) (k' := 0) (i' := 7) (by decide) (by decide) (by decide))) (hw_us _ _ _)) cv_X5_264 (hw_up (hw_up (hw_up e0_4hP1 (hP.n (k := 0) (i := 4) (k' := 0) (i' := 5) (by decide) (by decide) (by decide))) (hP.n (k := 0) (i := 4) (k' := 0) (i' := 6) (by decide) (by decide) (by decide))) (hP.n (k := 0) (i := 4) (k' := 0) (i' := 7) (by decide) (by decide) (by decide))) rfl rfl ⟨rfl, rfl⟩ ⟨(Nat.le_of_ble_eq_true rfl), (Nat.le_of_ble_eq_true rfl)⟩ rfl hl.1 rfl (Nat.le_of_ble_eq_true rfl) ⟨(Nat.le_of_ble_eq_true rfl), (Nat.le_of_ble_eq_true rfl)⟩ dX5_bestWay_41) (fun r41 M41 H locs hR hI => ?_)
    obtain ⟨rfl, rfl⟩ := hR
    refine lv_istore (lv' := [(7, .int (nI (hb_ws (hs_C S (hb_ix ka)) v))), (3, .int (nI (hb_bwL (hs_C S (hb_ix ka)) v))), (4, .int (nI (hb_bwF (hs_C S (hb_ix ka)) v))), (5, .int (nI (hb_bwG (hs_C S (hb_ix ka)) v))), (6, .int (nI v)), (0, .ref (ad 0 0)), (2, .ref (ad 1 (hb_ix ka)))]) hx hb dX5_bestWay_44 hl (by decide) rfl (fun ls hl => ?_)
    refine lv_aload_n hx hb dX5_bestWay_46 rfl (lv_at hl 5 rfl) ?_
    refine hw_get hx hb hts hown hk hI fd_X5_30 (hw_up (hw_up (hw_up e0_0hP1 (hP.n (k := 0) (i := 0) (k' := 0) (i' := 5) (by decide) (by decide) (by decide))) (hP.n (k := 0) (i := 0) (k' := 0) (i' := 6) (by decide) (by decide) (by decide))) (hP.n (k := 0) (i := 0) (k' := 0) (i' := 7) (by decide) (by decide) (by decide))) rfl dX5_bestWay_47 ?_
    refine hw_ci hI (hw_rV hx hb hml hown hts hk hI (m_X4_height l Z (va_up (va_up (va_up M1 (ad 0 5) (hw_al Z 8 (hb_laid (hs_C S (hb_ix ka)) v))) (ad 0 6) (hw_al Z 8 (hb_hang (hb_laid (hs_C S (hb_ix ka)) v)))) (ad 0 7) (hw_al Z 8 (hb_supp (hb_laid (hs_C S (hb_ix ka)) v)))) (ad 0 4) (ad 0 5) (ad 0 6) (ad 0 7) (hb_laid (hs_C S (hb_ix ka)) v) (hw_up (hw_up (hw_up e0_4hP1 (hP.n (k := 0) (i := 4) (k' := 0) (i' := 5) (by decide) (by decide) (by decide))) (hP.n (k := 0) (i := 4) (k' := 0) (i' := 6) (by decide) (by decide) (by decide))) (hP.n (k := 0) (i := 4) (k' := 0) (i' := 7) (by decide) (by decide) (by decide))) (hw_up (hw_up (hw_us _ _ _) (hP.n (k := 0) (i := 5) (k' := 0) (i' := 6) (by decide) (by decide) (by decide))) (hP.n (k := 0) (i := 5) (k' := 0) (i' := 7) (by decide) (by decide) (by decide)))) cv_X5_92 (hw_up (hw_up (hw_up e0_4hP1 (hP.n (k := 0) (i := 4) (k' := 0) (i' := 5) (by decide) (by decide) (by decide))) (hP.n (k := 0) (i := 4) (k' := 0) (i' := 6) (by decide) (by decide) (by decide))) (hP.n (k := 0) (i := 4) (k' := 0) (i' := 7) (by decide) (by decide) (by decide))) rfl rfl ⟨rfl, rfl⟩ ⟨(Nat.le_of_ble_eq_true rfl), (Nat.le_of_ble_eq_true rfl)⟩ rfl hl.1 rfl (Nat.le_of_ble_eq_true rfl) ⟨(Nat.le_of_ble_eq_true rfl), (Nat.le_of_ble_eq_true rfl)⟩ dX5_bestWay_50) (fun r50 M50 H locs hR hI => ?_)
    obtain ⟨rfl, rfl⟩ := hR
    refine lv_istore (lv' := [(8, .int (nI (hb_wh (hs_C S (hb_ix ka)) v))), (7, .int (nI (hb_ws (hs_C S (hb_ix ka)) v))), (3, .int (nI (hb_bwL (hs_C S (hb_ix ka)) v))), (4, .int (nI (hb_bwF (hs_C S (hb_ix ka)) v))), (5, .int (nI (hb_bwG (hs_C S (hb_ix ka)) v))), (6, .int (nI v)), (0, .ref (ad 0 0)), (2, .ref (ad 1 (hb_ix ka)))]) hx hb dX5_bestWay_53 hl (by decide) rfl (fun ls hl => ?_)
    have b1_ := hb_ws_le (hs_C S (hb_ix ka)) v
    have b2_ := hb_wh_le (hs_C S (hb_ix ka)) v
    have b3_ := hb_bwF_le (hs_C S (hb_ix ka)) v
    have b4_ := hb_bwG_le (hs_C S (hb_ix ka)) v
    refine lv_iload hx hb dX5_bestWay_55 (lv_at hl 5 rfl) ?_
    refine lv_if_eq (tgt := 81) hx hb dX5_bestWay_57 (by decide) (fun c57 => ?_) (fun c57 => ?_)
    · refine lv_iload hx hb dX5_bestWay_81 (lv_at hl 5 rfl) ?_
      refine lv_istore_n (lv' := [(3, .int (nI v)), (8, .int (nI (hb_wh (hs_C S (hb_ix ka)) v))), (7, .int (nI (hb_ws (hs_C S (hb_ix ka)) v))), (4, .int (nI (hb_bwF (hs_C S (hb_ix ka)) v))), (5, .int (nI (hb_bwG (hs_C S (hb_ix ka)) v))), (6, .int (nI v)), (0, .ref (ad 0 0)), (2, .ref (ad 1 (hb_ix ka)))]) hx hb dX5_bestWay_83 rfl hl (by decide) rfl (fun ls hl => ?_)
      refine lv_iload hx hb dX5_bestWay_84 (lv_at hl 2 rfl) ?_
      refine lv_istore (lv' := [(4, .int (nI (hb_ws (hs_C S (hb_ix ka)) v))), (3, .int (nI v)), (8, .int (nI (hb_wh (hs_C S (hb_ix ka)) v))), (7, .int (nI (hb_ws (hs_C S (hb_ix ka)) v))), (5, .int (nI (hb_bwG (hs_C S (hb_ix ka)) v))), (6, .int (nI v)), (0, .ref (ad 0 0)), (2, .ref (ad 1 (hb_ix ka)))]) hx hb dX5_bestWay_86 hl (by decide) rfl (fun ls hl => ?_)
      refine lv_iload hx hb dX5_bestWay_88 (lv_at hl 2 rfl) ?_
      refine lv_istore (lv' := [(5, .int (nI (hb_wh (hs_C S (hb_ix ka)) v))), (4, .int (nI (hb_ws (hs_C S (hb_ix ka)) v))), (3, .int (nI v)), (8, .int (nI (hb_wh (hs_C S (hb_ix ka)) v))), (7, .int (nI (hb_ws (hs_C S (hb_ix ka)) v))), (6, .int (nI v)), (0, .ref (ad 0 0)), (2, .ref (ad 1 (hb_ix ka)))]) hx hb dX5_bestWay_90 hl (by decide) rfl (fun ls hl => ?_)
      have hv0 : v = 0 := (nI_eq (a := v) (b := 0) (by omega) (by omega)).mp c57
      refine lv_iinc (v := nI (v + 1)) (lv' := [(6, .int (nI (v + 1))), (5, .int (nI (hb_wh (hs_C S (hb_ix ka)) v))), (4, .int (nI (hb_ws (hs_C S (hb_ix ka)) v))), (3, .int (nI v)), (8, .int (nI (hb_wh (hs_C S (hb_ix ka)) v))), (7, .int (nI (hb_ws (hs_C S (hb_ix ka)) v))), (0, .ref (ad 0 0)), (2, .ref (ad 1 (hb_ix ka)))]) hx hb dX5_bestWay_92 hl (k := 5) rfl (hw_inc _) (by decide) rfl (fun ls hl => ?_)
      refine lv_goto (tgt := 17) hx hb dX5_bestWay_95 (by decide) ?_
      have ok_L1 : hp_ok Z b1 (va_up (va_up (va_up M1 (ad 0 5) (hw_al Z 8 (hb_laid (hs_C S (hb_ix ka)) v))) (ad 0 6) (hw_al Z 8 (hb_hang (hb_laid (hs_C S (hb_ix ka)) v)))) (ad 0 7) (hw_al Z 8 (hb_supp (hb_laid (hs_C S (hb_ix ka)) v)))) ad (S) ((hb_laid (hs_C S (hb_ix ka)) v, hb_hang (hb_laid (hs_C S (hb_ix ka)) v), hb_supp (hb_laid (hs_C S (hb_ix ka)) v), T1.2.2.2)) := by
        refine hP1.fin (fun k i hi => ?_) rfl rfl
        by_cases q2 : k = 0 ∧ i = 7
        · obtain ⟨rfl, qi⟩ := q2; obtain rfl := qi.symm
          rw [va_up_self]
          first | rfl | (simp only [hp_e, hp_e0, hp_hang0, va_up_self]; done) | (simp only [hp_e, hp_e0, hp_hang0, va_up_self]; rfl)
        by_cases q1 : k = 0 ∧ i = 6
        · obtain ⟨rfl, qi⟩ := q1; obtain rfl := qi.symm
          rw [va_up_ne _ _ (hP1.n (k := 0) (i := 6) (k' := 0) (i' := 7) (by decide) (by decide) (by decide)), va_up_self]
          first | rfl | (simp only [hp_e, hp_e0, hp_hang0, va_up_self]; done) | (simp only [hp_e, hp_e0, hp_hang0, va_up_self]; rfl)
        by_cases q0 : k = 0 ∧ i = 5
        · obtain ⟨rfl, qi⟩ := q0; obtain rfl := qi.symm
          rw [va_up_ne _ _ (hP1.n (k := 0) (i := 5) (k' := 0) (i' := 7) (by decide) (by decide) (by decide)), va_up_ne _ _ (hP1.n (k := 0) (i := 5) (k' := 0) (i' := 6) (by decide) (by decide) (by decide)), va_up_self]
          first | rfl | (simp only [hp_e, hp_e0, hp_hang0, va_up_self]; done) | (simp only [hp_e, hp_e0, hp_hang0, va_up_self]; rfl)
        rw [va_up_ne _ _ (hP1.n (k := k) (i := i) (k' := 0) (i' := 7) hi (by decide) q2), va_up_ne _ _ (hP1.n (k := k) (i := i) (k' := 0) (i' := 6) hi (by decide) q1), va_up_ne _ _ (hP1.n (k := k) (i := i) (k' := 0) (i' := 5) hi (by decide) q0)]
        exact (hP1.m k i hi).trans ((sm_Ts (k := k) (i := i) (by omega))).symm
      have fr_L1 : ∀ a, b1 a → (va_up (va_up (va_up M1 (ad 0 5) (hw_al Z 8 (hb_laid (hs_C S (hb_ix ka)) v))) (ad 0 6) (hw_al Z 8 (hb_hang (hb_laid (hs_C S (hb_ix ka)) v)))) (ad 0 7) (hw_al Z 8 (hb_supp (hb_laid (hs_C S (hb_ix ka)) v)))) a = M a := by
        intro a ha
        rw [va_up_ne _ _ (hP1.f (k := 0) (i := 7) (by decide) ha), va_up_ne _ _ (hP1.f (k := 0) (i := 6) (by decide) ha), va_up_ne _ _ (hP1.f (k := 0) (i := 5) (by decide) ha)]; exact hF1 a ha
      exact ih17 _ _ ok_L1 fr_L1 _ _ _ hI (lv_sub hl [3, 2, 1, 0, 6, 7] (by rw [show hb_bwL (hs_C S (hb_ix ka)) (v + 1) = v from hb_bw_y0 hv0, show hb_bwF (hs_C S (hb_ix ka)) (v + 1) = hb_ws (hs_C S (hb_ix ka)) v by (show hb_ws (hs_C S (hb_ix ka)) (hb_bw (hs_C S (hb_ix ka)) v) = _; rw [hb_bw_y0 hv0]), show hb_bwG (hs_C S (hb_ix ka)) (v + 1) = hb_wh (hs_C S (hb_ix ka)) v by (show hb_wh (hs_C S (hb_ix ka)) (hb_bw (hs_C S (hb_ix ka)) v) = _; rw [hb_bw_y0 hv0])]; rfl))
    · refine lv_iload hx hb dX5_bestWay_60 (lv_at hl 1 rfl) ?_
      refine lv_iload hx hb dX5_bestWay_62 (lv_at hl 3 rfl) ?_
      refine lv_icmp_lt (tgt := 81) hx hb dX5_bestWay_64 (by decide) (fun c64 => ?_) (fun c64 => ?_)
      · refine lv_iload hx hb dX5_bestWay_81 (lv_at hl 5 rfl) ?_
        refine lv_istore_n (lv' := [(3, .int (nI v)), (8, .int (nI (hb_wh (hs_C S (hb_ix ka)) v))), (7, .int (nI (hb_ws (hs_C S (hb_ix ka)) v))), (4, .int (nI (hb_bwF (hs_C S (hb_ix ka)) v))), (5, .int (nI (hb_bwG (hs_C S (hb_ix ka)) v))), (6, .int (nI v)), (0, .ref (ad 0 0)), (2, .ref (ad 1 (hb_ix ka)))]) hx hb dX5_bestWay_83 rfl hl (by decide) rfl (fun ls hl => ?_)
        refine lv_iload hx hb dX5_bestWay_84 (lv_at hl 2 rfl) ?_
        refine lv_istore (lv' := [(4, .int (nI (hb_ws (hs_C S (hb_ix ka)) v))), (3, .int (nI v)), (8, .int (nI (hb_wh (hs_C S (hb_ix ka)) v))), (7, .int (nI (hb_ws (hs_C S (hb_ix ka)) v))), (5, .int (nI (hb_bwG (hs_C S (hb_ix ka)) v))), (6, .int (nI v)), (0, .ref (ad 0 0)), (2, .ref (ad 1 (hb_ix ka)))]) hx hb dX5_bestWay_86 hl (by decide) rfl (fun ls hl => ?_)
        refine lv_iload hx hb dX5_bestWay_88 (lv_at hl 2 rfl) ?_
        refine lv_istore (lv' := [(5, .int (nI (hb_wh (hs_C S (hb_ix ka)) v))), (4, .int (nI (hb_ws (hs_C S (hb_ix ka)) v))), (3, .int (nI v)), (8, .int (nI (hb_wh (hs_C S (hb_ix ka)) v))), (7, .int (nI (hb_ws (hs_C S (hb_ix ka)) v))), (6, .int (nI v)), (0, .ref (ad 0 0)), (2, .ref (ad 1 (hb_ix ka)))]) hx hb dX5_bestWay_90 hl (by decide) rfl (fun ls hl => ?_)
        have hv0 : ¬ v = 0 := fun q => c57 (by rw [q]; rfl)
        have hyn : hb_ws (hs_C S (hb_ix ka)) v < hb_bwF (hs_C S (hb_ix ka)) v ∨ (hb_ws (hs_C S (hb_ix ka)) v = hb_bwF (hs_C S (hb_ix ka)) v ∧ hb_wh (hs_C S (hb_ix ka)) v < hb_bwG (hs_C S (hb_ix ka)) v) := Or.inl (hq_lt (by omega) (by omega) c64)
        refine lv_iinc (v := nI (v + 1)) (lv' := [(6, .int (nI (v + 1))), (5, .int (nI (hb_wh (hs_C S (hb_ix ka)) v))), (4, .int (nI (hb_ws (hs_C S (hb_ix ka)) v))), (3, .int (nI v)), (8, .int (nI (hb_wh (hs_C S (hb_ix ka)) v))), (7, .int (nI (hb_ws (hs_C S (hb_ix ka)) v))), (0, .ref (ad 0 0)), (2, .ref (ad 1 (hb_ix ka)))]) hx hb dX5_bestWay_92 hl (k := 5) rfl (hw_inc _) (by decide) rfl (fun ls hl => ?_)
        refine lv_goto (tgt := 17) hx hb dX5_bestWay_95 (by decide) ?_
        have ok_L1 : hp_ok Z b1 (va_up (va_up (va_up M1 (ad 0 5) (hw_al Z 8 (hb_laid (hs_C S (hb_ix ka)) v))) (ad 0 6) (hw_al Z 8 (hb_hang (hb_laid (hs_C S (hb_ix ka)) v)))) (ad 0 7) (hw_al Z 8 (hb_supp (hb_laid (hs_C S (hb_ix ka)) v)))) ad (S) ((hb_laid (hs_C S (hb_ix ka)) v, hb_hang (hb_laid (hs_C S (hb_ix ka)) v), hb_supp (hb_laid (hs_C S (hb_ix ka)) v), T1.2.2.2)) := by
          refine hP1.fin (fun k i hi => ?_) rfl rfl
          by_cases q2 : k = 0 ∧ i = 7
          · obtain ⟨rfl, qi⟩ := q2; obtain rfl := qi.symm
            rw [va_up_self]
            first | rfl | (simp only [hp_e, hp_e0, hp_hang0, va_up_self]; done) | (simp only [hp_e, hp_e0, hp_hang0, va_up_self]; rfl)
          by_cases q1 : k = 0 ∧ i = 6
          · obtain ⟨rfl, qi⟩ := q1; obtain rfl := qi.symm
            rw [va_up_ne _ _ (hP1.n (k := 0) (i := 6) (k' := 0) (i' := 7) (by decide) (by decide) (by decide)), va_up_self]
            first | rfl | (simp only [hp_e, hp_e0, hp_hang0, va_up_self]; done) | (simp only [hp_e, hp_e0, hp_hang0, va_up_self]; rfl)
          by_cases q0 : k = 0 ∧ i = 5
          · obtain ⟨rfl, qi⟩ := q0; obtain rfl := qi.symm
            rw [va_up_ne _ _ (hP1.n (k := 0) (i := 5) (k' := 0) (i' := 7) (by decide) (by decide) (by decide)), va_up_ne _ _ (hP1.n (k := 0) (i := 5) (k' := 0) (i' := 6) (by decide) (by decide) (by decide)), va_up_self]
            first | rfl | (simp only [hp_e, hp_e0, hp_hang0, va_up_self]; done) | (simp only [hp_e, hp_e0, hp_hang0, va_up_self]; rfl)
          rw [va_up_ne _ _ (hP1.n (k := k) (i := i) (k' := 0) (i' := 7) hi (by decide) q2), va_up_ne _ _ (hP1.n (k := k) (i := i) (k' := 0) (i' := 6) hi (by decide) q1), va_up_ne _ _ (hP1.n (k := k) (i := i) (k' := 0) (i' := 5) hi (by decide) q0)]
          exact (hP1.m k i hi).trans ((sm_Ts (k := k) (i := i) (by omega))).symm
        have fr_L1 : ∀ a, b1 a → (va_up (va_up (va_up M1 (ad 0 5) (hw_al Z 8 (hb_laid (hs_C S (hb_ix ka)) v))) (ad 0 6) (hw_al Z 8 (hb_hang (hb_laid (hs_C S (hb_ix ka)) v)))) (ad 0 7) (hw_al Z 8 (hb_supp (hb_laid (hs_C S (hb_ix ka)) v)))) a = M a := by
          intro a ha
          rw [va_up_ne _ _ (hP1.f (k := 0) (i := 7) (by decide) ha), va_up_ne _ _ (hP1.f (k := 0) (i := 6) (by decide) ha), va_up_ne _ _ (hP1.f (k := 0) (i := 5) (by decide) ha)]; exact hF1 a ha
        exact ih17 _ _ ok_L1 fr_L1 _ _ _ hI (lv_sub hl [3, 2, 1, 0, 6, 7] (by rw [show hb_bwL (hs_C S (hb_ix ka)) (v + 1) = v from hb_bw_y hv0 hyn, show hb_bwF (hs_C S (hb_ix ka)) (v + 1) = hb_ws (hs_C S (hb_ix ka)) v by (show hb_ws (hs_C S (hb_ix ka)) (hb_bw (hs_C S (hb_ix ka)) v) = _; rw [hb_bw_y hv0 hyn]), show hb_bwG (hs_C S (hb_ix ka)) (v + 1) = hb_wh (hs_C S (hb_ix ka)) v by (show hb_wh (hs_C S (hb_ix ka)) (hb_bw (hs_C S (hb_ix ka)) v) = _; rw [hb_bw_y hv0 hyn])]; rfl))
      · refine lv_iload hx hb dX5_bestWay_67 (lv_at hl 1 rfl) ?_
        refine lv_iload hx hb dX5_bestWay_69 (lv_at hl 3 rfl) ?_
        refine lv_icmp_ne (tgt := 92) hx hb dX5_bestWay_71 (by decide) (fun c71 => ?_) (fun c71 => ?_)
        · have hv0 : ¬ v = 0 := fun q => c57 (by rw [q]; rfl)
          have hyn : ¬ (hb_ws (hs_C S (hb_ix ka)) v < hb_bwF (hs_C S (hb_ix ka)) v ∨ (hb_ws (hs_C S (hb_ix ka)) v = hb_bwF (hs_C S (hb_ix ka)) v ∧ hb_wh (hs_C S (hb_ix ka)) v < hb_bwG (hs_C S (hb_ix ka)) v)) := fun q => q.elim (fun q => c64 (nI_lt q (by omega))) (fun q => c71 (by rw [q.1]))
          refine lv_iinc (v := nI (v + 1)) (lv' := [(6, .int (nI (v + 1))), (8, .int (nI (hb_wh (hs_C S (hb_ix ka)) v))), (7, .int (nI (hb_ws (hs_C S (hb_ix ka)) v))), (3, .int (nI (hb_bwL (hs_C S (hb_ix ka)) v))), (4, .int (nI (hb_bwF (hs_C S (hb_ix ka)) v))), (5, .int (nI (hb_bwG (hs_C S (hb_ix ka)) v))), (0, .ref (ad 0 0)), (2, .ref (ad 1 (hb_ix ka)))]) hx hb dX5_bestWay_92 hl (k := 5) rfl (hw_inc _) (by decide) rfl (fun ls hl => ?_)
          refine lv_goto (tgt := 17) hx hb dX5_bestWay_95 (by decide) ?_
          have ok_L1 : hp_ok Z b1 (va_up (va_up (va_up M1 (ad 0 5) (hw_al Z 8 (hb_laid (hs_C S (hb_ix ka)) v))) (ad 0 6) (hw_al Z 8 (hb_hang (hb_laid (hs_C S (hb_ix ka)) v)))) (ad 0 7) (hw_al Z 8 (hb_supp (hb_laid (hs_C S (hb_ix ka)) v)))) ad (S) ((hb_laid (hs_C S (hb_ix ka)) v, hb_hang (hb_laid (hs_C S (hb_ix ka)) v), hb_supp (hb_laid (hs_C S (hb_ix ka)) v), T1.2.2.2)) := by
            refine hP1.fin (fun k i hi => ?_) rfl rfl
            by_cases q2 : k = 0 ∧ i = 7
            · obtain ⟨rfl, qi⟩ := q2; obtain rfl := qi.symm
              rw [va_up_self]
              first | rfl | (simp only [hp_e, hp_e0, hp_hang0, va_up_self]; done) | (simp only [hp_e, hp_e0, hp_hang0, va_up_self]; rfl)
            by_cases q1 : k = 0 ∧ i = 6
            · obtain ⟨rfl, qi⟩ := q1; obtain rfl := qi.symm
              rw [va_up_ne _ _ (hP1.n (k := 0) (i := 6) (k' := 0) (i' := 7) (by decide) (by decide) (by decide)), va_up_self]
              first | rfl | (simp only [hp_e, hp_e0, hp_hang0, va_up_self]; done) | (simp only [hp_e, hp_e0, hp_hang0, va_up_self]; rfl)
            by_cases q0 : k = 0 ∧ i = 5
            · obtain ⟨rfl, qi⟩ := q0; obtain rfl := qi.symm
              rw [va_up_ne _ _ (hP1.n (k := 0) (i := 5) (k' := 0) (i' := 7) (by decide) (by decide) (by decide)), va_up_ne _ _ (hP1.n (k := 0) (i := 5) (k' := 0) (i' := 6) (by decide) (by decide) (by decide)), va_up_self]
              first | rfl | (simp only [hp_e, hp_e0, hp_hang0, va_up_self]; done) | (simp only [hp_e, hp_e0, hp_hang0, va_up_self]; rfl)
            rw [va_up_ne _ _ (hP1.n (k := k) (i := i) (k' := 0) (i' := 7) hi (by decide) q2), va_up_ne _ _ (hP1.n (k := k) (i := i) (k' := 0) (i' := 6) hi (by decide) q1), va_up_ne _ _ (hP1.n (k := k) (i := i) (k' := 0) (i' := 5) hi (by decide) q0)]
            exact (hP1.m k i hi).trans ((sm_Ts (k := k) (i := i) (by omega))).symm
          have fr_L1 : ∀ a, b1 a → (va_up (va_up (va_up M1 (ad 0 5) (hw_al Z 8 (hb_laid (hs_C S (hb_ix ka)) v))) (ad 0 6) (hw_al Z 8 (hb_hang (hb_laid (hs_C S (hb_ix ka)) v)))) (ad 0 7) (hw_al Z 8 (hb_supp (hb_laid (hs_C S (hb_ix ka)) v)))) a = M a := by
            intro a ha
            rw [va_up_ne _ _ (hP1.f (k := 0) (i := 7) (by decide) ha), va_up_ne _ _ (hP1.f (k := 0) (i := 6) (by decide) ha), va_up_ne _ _ (hP1.f (k := 0) (i := 5) (by decide) ha)]; exact hF1 a ha
          exact ih17 _ _ ok_L1 fr_L1 _ _ _ hI (lv_sub hl [3, 4, 5, 0, 6, 7] (by rw [show hb_bwL (hs_C S (hb_ix ka)) (v + 1) = hb_bwL (hs_C S (hb_ix ka)) v from (hb_bw_n hv0 hyn).1, show hb_bwF (hs_C S (hb_ix ka)) (v + 1) = hb_bwF (hs_C S (hb_ix ka)) v from (hb_bw_n hv0 hyn).2.1, show hb_bwG (hs_C S (hb_ix ka)) (v + 1) = hb_bwG (hs_C S (hb_ix ka)) v from (hb_bw_n hv0 hyn).2.2]; rfl))
        · refine lv_iload hx hb dX5_bestWay_74 (lv_at hl 0 rfl) ?_
          refine lv_iload hx hb dX5_bestWay_76 (lv_at hl 4 rfl) ?_
          refine lv_icmp_ge (tgt := 92) hx hb dX5_bestWay_78 (by decide) (fun c78 => ?_) (fun c78 => ?_)
          · have hv0 : ¬ v = 0 := fun q => c57 (by rw [q]; rfl)
            have hyn : ¬ (hb_ws (hs_C S (hb_ix ka)) v < hb_bwF (hs_C S (hb_ix ka)) v ∨ (hb_ws (hs_C S (hb_ix ka)) v = hb_bwF (hs_C S (hb_ix ka)) v ∧ hb_wh (hs_C S (hb_ix ka)) v < hb_bwG (hs_C S (hb_ix ka)) v)) := fun q => q.elim (fun q => c64 (nI_lt q (by omega))) (fun q => absurd c78 (nI_ge q.2 (by omega)))
            refine lv_iinc (v := nI (v + 1)) (lv' := [(6, .int (nI (v + 1))), (8, .int (nI (hb_wh (hs_C S (hb_ix ka)) v))), (7, .int (nI (hb_ws (hs_C S (hb_ix ka)) v))), (3, .int (nI (hb_bwL (hs_C S (hb_ix ka)) v))), (4, .int (nI (hb_bwF (hs_C S (hb_ix ka)) v))), (5, .int (nI (hb_bwG (hs_C S (hb_ix ka)) v))), (0, .ref (ad 0 0)), (2, .ref (ad 1 (hb_ix ka)))]) hx hb dX5_bestWay_92 hl (k := 5) rfl (hw_inc _) (by decide) rfl (fun ls hl => ?_)
            refine lv_goto (tgt := 17) hx hb dX5_bestWay_95 (by decide) ?_
            have ok_L1 : hp_ok Z b1 (va_up (va_up (va_up M1 (ad 0 5) (hw_al Z 8 (hb_laid (hs_C S (hb_ix ka)) v))) (ad 0 6) (hw_al Z 8 (hb_hang (hb_laid (hs_C S (hb_ix ka)) v)))) (ad 0 7) (hw_al Z 8 (hb_supp (hb_laid (hs_C S (hb_ix ka)) v)))) ad (S) ((hb_laid (hs_C S (hb_ix ka)) v, hb_hang (hb_laid (hs_C S (hb_ix ka)) v), hb_supp (hb_laid (hs_C S (hb_ix ka)) v), T1.2.2.2)) := by
              refine hP1.fin (fun k i hi => ?_) rfl rfl
              by_cases q2 : k = 0 ∧ i = 7
              · obtain ⟨rfl, qi⟩ := q2; obtain rfl := qi.symm
                rw [va_up_self]
                first | rfl | (simp only [hp_e, hp_e0, hp_hang0, va_up_self]; done) | (simp only [hp_e, hp_e0, hp_hang0, va_up_self]; rfl)
              by_cases q1 : k = 0 ∧ i = 6
              · obtain ⟨rfl, qi⟩ := q1; obtain rfl := qi.symm
                rw [va_up_ne _ _ (hP1.n (k := 0) (i := 6) (k' := 0) (i' := 7) (by decide) (by decide) (by decide)), va_up_self]
                first | rfl | (simp only [hp_e, hp_e0, hp_hang0, va_up_self]; done) | (simp only [hp_e, hp_e0, hp_hang0, va_up_self]; rfl)
              by_cases q0 : k = 0 ∧ i = 5
              · obtain ⟨rfl, qi⟩ := q0; obtain rfl := qi.symm
                rw [va_up_ne _ _ (hP1.n (k := 0) (i := 5) (k' := 0) (i' := 7) (by decide) (by decide) (by decide)), va_up_ne _ _ (hP1.n (k := 0) (i := 5) (k' := 0) (i' := 6) (by decide) (by decide) (by decide)), va_up_self]
                first | rfl | (simp only [hp_e, hp_e0, hp_hang0, va_up_self]; done) | (simp only [hp_e, hp_e0, hp_hang0, va_up_self]; rfl)
              rw [va_up_ne _ _ (hP1.n (k := k) (i := i) (k' := 0) (i' := 7) hi (by decide) q2), va_up_ne _ _ (hP1.n (k := k) (i := i) (k' := 0) (i' := 6) hi (by decide) q1), va_up_ne _ _ (hP1.n (k := k) (i := i) (k' := 0) (i' := 5) hi (by decide) q0)]
              exact (hP1.m k i hi).trans ((sm_Ts (k := k) (i := i) (by omega))).symm
            have fr_L1 : ∀ a, b1 a → (va_up (va_up (va_up M1 (ad 0 5) (hw_al Z 8 (hb_laid (hs_C S (hb_ix ka)) v))) (ad 0 6) (hw_al Z 8 (hb_hang (hb_laid (hs_C S (hb_ix ka)) v)))) (ad 0 7) (hw_al Z 8 (hb_supp (hb_laid (hs_C S (hb_ix ka)) v)))) a = M a := by
              intro a ha
              rw [va_up_ne _ _ (hP1.f (k := 0) (i := 7) (by decide) ha), va_up_ne _ _ (hP1.f (k := 0) (i := 6) (by decide) ha), va_up_ne _ _ (hP1.f (k := 0) (i := 5) (by decide) ha)]; exact hF1 a ha
            exact ih17 _ _ ok_L1 fr_L1 _ _ _ hI (lv_sub hl [3, 4, 5, 0, 6, 7] (by rw [show hb_bwL (hs_C S (hb_ix ka)) (v + 1) = hb_bwL (hs_C S (hb_ix ka)) v from (hb_bw_n hv0 hyn).1, show hb_bwF (hs_C S (hb_ix ka)) (v + 1) = hb_bwF (hs_C S (hb_ix ka)) v from (hb_bw_n hv0 hyn).2.1, show hb_bwG (hs_C S (hb_ix ka)) (v + 1) = hb_bwG (hs_C S (hb_ix ka)) v from (hb_bw_n hv0 hyn).2.2]; rfl))
          · refine lv_iload hx hb dX5_bestWay_81 (lv_at hl 5 rfl) ?_
            refine lv_istore_n (lv' := [(3, .int (nI v)), (8, .int (nI (hb_wh (hs_C S (hb_ix ka)) v))), (7, .int (nI (hb_ws (hs_C S (hb_ix ka)) v))), (4, .int (nI (hb_bwF (hs_C S (hb_ix ka)) v))), (5, .int (nI (hb_bwG (hs_C S (hb_ix ka)) v))), (6, .int (nI v)), (0, .ref (ad 0 0)), (2, .ref (ad 1 (hb_ix ka)))]) hx hb dX5_bestWay_83 rfl hl (by decide) rfl (fun ls hl => ?_)
            refine lv_iload hx hb dX5_bestWay_84 (lv_at hl 2 rfl) ?_
            refine lv_istore (lv' := [(4, .int (nI (hb_ws (hs_C S (hb_ix ka)) v))), (3, .int (nI v)), (8, .int (nI (hb_wh (hs_C S (hb_ix ka)) v))), (7, .int (nI (hb_ws (hs_C S (hb_ix ka)) v))), (5, .int (nI (hb_bwG (hs_C S (hb_ix ka)) v))), (6, .int (nI v)), (0, .ref (ad 0 0)), (2, .ref (ad 1 (hb_ix ka)))]) hx hb dX5_bestWay_86 hl (by decide) rfl (fun ls hl => ?_)
            refine lv_iload hx hb dX5_bestWay_88 (lv_at hl 2 rfl) ?_
            refine lv_istore (lv' := [(5, .int (nI (hb_wh (hs_C S (hb_ix ka)) v))), (4, .int (nI (hb_ws (hs_C S (hb_ix ka)) v))), (3, .int (nI v)), (8, .int (nI (hb_wh (hs_C S (hb_ix ka)) v))), (7, .int (nI (hb_ws (hs_C S (hb_ix ka)) v))), (6, .int (nI v)), (0, .ref (ad 0 0)), (2, .ref (ad 1 (hb_ix ka)))]) hx hb dX5_bestWay_90 hl (by decide) rfl (fun ls hl => ?_)
            have hv0 : ¬ v = 0 := fun q => c57 (by rw [q]; rfl)
            have hyn : hb_ws (hs_C S (hb_ix ka)) v < hb_bwF (hs_C S (hb_ix ka)) v ∨ (hb_ws (hs_C S (hb_ix ka)) v = hb_bwF (hs_C S (hb_ix ka)) v ∧ hb_wh (hs_C S (hb_ix ka)) v < hb_bwG (hs_C S (hb_ix ka)) v) := Or.inr ⟨(nI_eq (by omega) (by omega)).mp c71, Nat.lt_of_not_le (fun q => c78 (nI_le q (by omega)))⟩
            refine lv_iinc (v := nI (v + 1)) (lv' := [(6, .int (nI (v + 1))), (5, .int (nI (hb_wh (hs_C S (hb_ix ka)) v))), (4, .int (nI (hb_ws (hs_C S (hb_ix ka)) v))), (3, .int (nI v)), (8, .int (nI (hb_wh (hs_C S (hb_ix ka)) v))), (7, .int (nI (hb_ws (hs_C S (hb_ix ka)) v))), (0, .ref (ad 0 0)), (2, .ref (ad 1 (hb_ix ka)))]) hx hb dX5_bestWay_92 hl (k := 5) rfl (hw_inc _) (by decide) rfl (fun ls hl => ?_)
            refine lv_goto (tgt := 17) hx hb dX5_bestWay_95 (by decide) ?_
            have ok_L1 : hp_ok Z b1 (va_up (va_up (va_up M1 (ad 0 5) (hw_al Z 8 (hb_laid (hs_C S (hb_ix ka)) v))) (ad 0 6) (hw_al Z 8 (hb_hang (hb_laid (hs_C S (hb_ix ka)) v)))) (ad 0 7) (hw_al Z 8 (hb_supp (hb_laid (hs_C S (hb_ix ka)) v)))) ad (S) ((hb_laid (hs_C S (hb_ix ka)) v, hb_hang (hb_laid (hs_C S (hb_ix ka)) v), hb_supp (hb_laid (hs_C S (hb_ix ka)) v), T1.2.2.2)) := by
              refine hP1.fin (fun k i hi => ?_) rfl rfl
              by_cases q2 : k = 0 ∧ i = 7
              · obtain ⟨rfl, qi⟩ := q2; obtain rfl := qi.symm
                rw [va_up_self]
                first | rfl | (simp only [hp_e, hp_e0, hp_hang0, va_up_self]; done) | (simp only [hp_e, hp_e0, hp_hang0, va_up_self]; rfl)
              by_cases q1 : k = 0 ∧ i = 6
              · obtain ⟨rfl, qi⟩ := q1; obtain rfl := qi.symm
                rw [va_up_ne _ _ (hP1.n (k := 0) (i := 6) (k' := 0) (i' := 7) (by decide) (by decide) (by decide)), va_up_self]
                first | rfl | (simp only [hp_e, hp_e0, hp_hang0, va_up_self]; done) | (simp only [hp_e, hp_e0, hp_hang0, va_up_self]; rfl)
              by_cases q0 : k = 0 ∧ i = 5
              · obtain ⟨rfl, qi⟩ := q0; obtain rfl := qi.symm
                rw [va_up_ne _ _ (hP1.n (k := 0) (i := 5) (k' := 0) (i' := 7) (by decide) (by decide) (by decide)), va_up_ne _ _ (hP1.n (k := 0) (i := 5) (k' := 0) (i' := 6) (by decide) (by decide) (by decide)), va_up_self]
                first | rfl | (simp only [hp_e, hp_e0, hp_hang0, va_up_self]; done) | (simp only [hp_e, hp_e0, hp_hang0, va_up_self]; rfl)
              rw [va_up_ne _ _ (hP1.n (k := k) (i := i) (k' := 0) (i' := 7) hi (by decide) q2), va_up_ne _ _ (hP1.n (k := k) (i := i) (k' := 0) (i' := 6) hi (by decide) q1), va_up_ne _ _ (hP1.n (k := k) (i := i) (k' := 0) (i' := 5) hi (by decide) q0)]
              exact (hP1.m k i hi).trans ((sm_Ts (k := k) (i := i) (by omega))).symm
            have fr_L1 : ∀ a, b1 a → (va_up (va_up (va_up M1 (ad 0 5) (hw_al Z 8 (hb_laid (hs_C S (hb_ix ka)) v))) (ad 0 6) (hw_al Z 8 (hb_hang (hb_laid (hs_C S (hb_ix ka)) v)))) (ad 0 7) (hw_al Z 8 (hb_supp (hb_laid (hs_C S (hb_ix ka)) v)))) a = M a := by
              intro a ha
              rw [va_up_ne _ _ (hP1.f (k := 0) (i := 7) (by decide) ha), va_up_ne _ _ (hP1.f (k := 0) (i := 6) (by decide) ha), va_up_ne _ _ (hP1.f (k := 0) (i := 5) (by decide) ha)]; exact hF1 a ha
            exact ih17 _ _ ok_L1 fr_L1 _ _ _ hI (lv_sub hl [3, 2, 1, 0, 6, 7] (by rw [show hb_bwL (hs_C S (hb_ix ka)) (v + 1) = v from hb_bw_y hv0 hyn, show hb_bwF (hs_C S (hb_ix ka)) (v + 1) = hb_ws (hs_C S (hb_ix ka)) v by (show hb_ws (hs_C S (hb_ix ka)) (hb_bw (hs_C S (hb_ix ka)) v) = _; rw [hb_bw_y hv0 hyn]), show hb_bwG (hs_C S (hb_ix ka)) (v + 1) = hb_wh (hs_C S (hb_ix ka)) v by (show hb_wh (hs_C S (hb_ix ka)) (hb_bw (hs_C S (hb_ix ka)) v) = _; rw [hb_bw_y hv0 hyn])]; rfl))

set_option maxHeartbeats 4000000 in
set_option maxRecDepth 100000 in
theorem m_X5_bestWay_k (l : Launch) (Z : hw_Z) (M : hw_M) (ad : hp_ad) (S : hs_S) (T : hp_T) (b1 : Nat → Prop) (j : Nat) (hP : hp_ok Z b1 M ad S T) (hB : hs_b S) (hj : j < hs_np S) : Met l yX5_bestWay (hw_m yX5_bestWay cX5_bestWay 9 (some .int)) ({ frames := 9, cells := 0, slots := 0, locals := 190 } : Room) (va_Pc [.ref (ad 0 0), .int (nI j)] (hw_P Z M)) (hw_Qi Z (hq_T Z b1 M ad S (nI (hb_bw (hs_C S j) 5)))) 0 0 (hw_A Z) := by
  refine hw_ofi (by decide +kernel) rfl (Nat.le_of_ble_eq_true rfl) ?_
  intro p e s m below meth c ls Q hx hb hml hown hts hk hnm hI hl hret
  have hnp := hB.np
  have hnw := hB.nw
  have e0_0hP : M (ad 0 0) = hw_ob 6 [.ref (ad 0 1), .ref (ad 0 2), .ref (ad 0 3), .int (nI (hs_np S)), .int (nI (hs_nw S)), .int (hs_G S 0), .int (hs_G S 1), .ref (ad 0 4), .ref (ad 0 8)] := hP.m 0 0 (by decide)
  have e0_1hP : M (ad 0 1) = hw_ar Z 3 4 (fun j => some (ad 1 j)) := hP.m 0 1 (by decide)
  have e0_4hP : M (ad 0 4) = hw_ob 5 [.ref (ad 0 5), .ref (ad 0 6), .ref (ad 0 7)] := hP.m 0 4 (by decide)
  have e0_5hP : M (ad 0 5) = hw_al Z 8 T.1 := hP.m 0 5 (by decide)
  have e0_6hP : M (ad 0 6) = hw_al Z 8 T.2.1 := hP.m 0 6 (by decide)
  have e0_7hP : M (ad 0 7) = hw_al Z 8 T.2.2.1 := hP.m 0 7 (by decide)
  refine lv_aload_n hx hb dX5_bestWay_0 rfl (lv_at hl 0 rfl) ?_
  refine lv_iload_n hx hb dX5_bestWay_1 rfl (lv_at hl 1 rfl) ?_
  refine hw_cr hI (hw_rV hx hb hml hown hts hk hI (m_X5_pieceAt_k l Z M (ad 0 0) (ad 0 1) (ad 0 2) (ad 0 3) (ad 0 4) (ad 0 8) (hs_np S) (hs_nw S) (hs_G S 0) (hs_G S 1) j (ad 1) e0_0hP e0_1hP hnp hj) cv_X5_57 e0_0hP rfl rfl ⟨rfl, rfl⟩ ⟨(Nat.le_of_ble_eq_true rfl), (Nat.le_of_ble_eq_true rfl)⟩ rfl hl.1 rfl (Nat.le_of_ble_eq_true rfl) ⟨(Nat.le_of_ble_eq_true rfl), (Nat.le_of_ble_eq_true rfl)⟩ dX5_bestWay_2) (fun r2 M2 H locs hR hI => ?_)
  obtain ⟨rfl, rfl⟩ := hR
  have hj4 : j < 4 := by omega
  have e1_jhP : M (ad 1 j) = hw_ob 3 [.int (nI j), .ref (ad 2 j), .ref (ad 6 j), .int (hs_P S j 0), .int (nI (hs_D S j)), .double (hs_U S j), .int (hs_P S j 3), hp_ref (ad 9) (hs_P S j 4), .int (hs_P S j 5), .int (hs_P S j 6), .int (hs_P S j 7), .int (hs_P S j 8), .int (hs_P S j 9)] := hP.m 1 j hj4
  have e2_jhP : M (ad 2 j) = hw_ob 5 [.ref (ad 3 j), .ref (ad 4 j), .ref (ad 5 j)] := hP.m 2 j hj4
  have e3_jhP : M (ad 3 j) = hw_al Z 8 (hs_C S j) := hP.m 3 j hj4
  refine lv_astore_n (lv' := [(2, .ref (ad 1 j)), (0, .ref (ad 0 0)), (1, .int (nI j))]) hx hb dX5_bestWay_5 rfl hl (by decide) rfl (fun ls hl => ?_)
  refine lv_iconst (v := nI 0) hx hb dX5_bestWay_6 (by decide) ?_
  refine lv_istore_n (lv' := [(3, .int (nI 0)), (2, .ref (ad 1 j)), (0, .ref (ad 0 0)), (1, .int (nI j))]) hx hb dX5_bestWay_7 rfl hl (by decide) rfl (fun ls hl => ?_)
  refine lv_iconst (v := nI 0) hx hb dX5_bestWay_8 (by decide) ?_
  refine lv_istore (lv' := [(4, .int (nI 0)), (3, .int (nI 0)), (2, .ref (ad 1 j)), (0, .ref (ad 0 0)), (1, .int (nI j))]) hx hb dX5_bestWay_9 hl (by decide) rfl (fun ls hl => ?_)
  refine lv_iconst (v := nI 0) hx hb dX5_bestWay_11 (by decide) ?_
  refine lv_istore (lv' := [(5, .int (nI 0)), (4, .int (nI 0)), (3, .int (nI 0)), (2, .ref (ad 1 j)), (0, .ref (ad 0 0)), (1, .int (nI j))]) hx hb dX5_bestWay_12 hl (by decide) rfl (fun ls hl => ?_)
  refine lv_iconst (v := nI 0) hx hb dX5_bestWay_14 (by decide) ?_
  refine lv_istore (lv' := [(6, .int (nI 0)), (5, .int (nI 0)), (4, .int (nI 0)), (3, .int (nI 0)), (2, .ref (ad 1 j)), (0, .ref (ad 0 0)), (1, .int (nI j))]) hx hb dX5_bestWay_15 hl (by decide) rfl (fun ls hl => ?_)
  suffices LP17 : ∀ v, v ≤ 6 → ∀ (M1 : hw_M) (T1 : hp_T) (hP1 : hp_ok Z b1 M1 ad S T1) (hF1 : ∀ a, b1 a → M1 a = M a) (H : Heap) (locs : List Loc) (ls : Array Slot), hw_iv Z s (M1) H locs → lv_has ls 9 [(3, .int (nI (hb_bwL (hs_C S j) v))), (4, .int (nI (hb_bwF (hs_C S j) v))), (5, .int (nI (hb_bwG (hs_C S j) v))), (6, .int (nI v)), (0, .ref (ad 0 0)), (2, .ref (ad 1 j))] → W p l e ({ frames := 9, cells := 0, slots := 0, locals := 190 } : Room) s m ([.ref (ad 0 0), .int (nI j)] : List Value).toArray below meth c H locs 0 0 Q (F0 m 17 ls []) from LP17 0 (by omega) M T hP (fun _ _ => rfl) _ _ _ hI (lv_sub hl [3, 2, 1, 0, 5, 4] rfl)
  refine hw_loop ?_ (fun v hi17 ih17 => ?_)
  · intro M1 T1 hP1 hF1 H locs ls hI hl
    have e0_0hP1 : M1 (ad 0 0) = hw_ob 6 [.ref (ad 0 1), .ref (ad 0 2), .ref (ad 0 3), .int (nI (hs_np S)), .int (nI (hs_nw S)), .int (hs_G S 0), .int (hs_G S 1), .ref (ad 0 4), .ref (ad 0 8)] := hP1.m 0 0 (by decide)
    have e0_1hP1 : M1 (ad 0 1) = hw_ar Z 3 4 (fun j => some (ad 1 j)) := hP1.m 0 1 (by decide)
    have e0_4hP1 : M1 (ad 0 4) = hw_ob 5 [.ref (ad 0 5), .ref (ad 0 6), .ref (ad 0 7)] := hP1.m 0 4 (by decide)
    have e0_5hP1 : M1 (ad 0 5) = hw_al Z 8 T1.1 := hP1.m 0 5 (by decide)
    have e0_6hP1 : M1 (ad 0 6) = hw_al Z 8 T1.2.1 := hP1.m 0 6 (by decide)
    have e0_7hP1 : M1 (ad 0 7) = hw_al Z 8 T1.2.2.1 := hP1.m 0 7 (by decide)
    have e1_jhP1 : M1 (ad 1 j) = hw_ob 3 [.int (nI j), .ref (ad 2 j), .ref (ad 6 j), .int (hs_P S j 0), .int (nI (hs_D S j)), .double (hs_U S j), .int (hs_P S j 3), hp_ref (ad 9) (hs_P S j 4), .int (hs_P S j 5), .int (hs_P S j 6), .int (hs_P S j 7), .int (hs_P S j 8), .int (hs_P S j 9)] := hP1.m 1 j hj4
    have e2_jhP1 : M1 (ad 2 j) = hw_ob 5 [.ref (ad 3 j), .ref (ad 4 j), .ref (ad 5 j)] := hP1.m 2 j hj4
    have e3_jhP1 : M1 (ad 3 j) = hw_al Z 8 (hs_C S j) := hP1.m 3 j hj4
    refine lv_iload hx hb dX5_bestWay_17 (lv_at hl 3 rfl) ?_
    refine lv_bipush (v := nI 6) hx hb dX5_bestWay_19 (by decide) ?_
    refine lv_icmp_ge (tgt := 98) hx hb dX5_bestWay_21 (by decide) (fun _ => ?_) (fun hc => absurd (Int32.le_refl _) hc)
    refine lv_iload_n hx hb dX5_bestWay_98 rfl (lv_at hl 0 rfl) ?_
    exact hret hI (hq_t rfl hP1 hF1) (Nat.le_of_ble_eq_true rfl) (Nat.le_of_ble_eq_true rfl) dX5_bestWay_99
  · intro M1 T1 hP1 hF1 H locs ls hI hl
    have e0_0hP1 : M1 (ad 0 0) = hw_ob 6 [.ref (ad 0 1), .ref (ad 0 2), .ref (ad 0 3), .int (nI (hs_np S)), .int (nI (hs_nw S)), .int (hs_G S 0), .int (hs_G S 1), .ref (ad 0 4), .ref (ad 0 8)] := hP1.m 0 0 (by decide)
    have e0_1hP1 : M1 (ad 0 1) = hw_ar Z 3 4 (fun j => some (ad 1 j)) := hP1.m 0 1 (by decide)
    have e0_4hP1 : M1 (ad 0 4) = hw_ob 5 [.ref (ad 0 5), .ref (ad 0 6), .ref (ad 0 7)] := hP1.m 0 4 (by decide)
    have e0_5hP1 : M1 (ad 0 5) = hw_al Z 8 T1.1 := hP1.m 0 5 (by decide)
    have e0_6hP1 : M1 (ad 0 6) = hw_al Z 8 T1.2.1 := hP1.m 0 6 (by decide)
    have e0_7hP1 : M1 (ad 0 7) = hw_al Z 8 T1.2.2.1 := hP1.m 0 7 (by decide)
    have e1_jhP1 : M1 (ad 1 j) = hw_ob 3 [.int (nI j), .ref (ad 2 j), .ref (ad 6 j), .int (hs_P S j 0), .int (nI (hs_D S j)), .double (hs_U S j), .int (hs_P S j 3), hp_ref (ad 9) (hs_P S j 4), .int (hs_P S j 5), .int (hs_P S j 6), .int (hs_P S j 7), .int (hs_P S j 8), .int (hs_P S j 9)] := hP1.m 1 j hj4
    have e2_jhP1 : M1 (ad 2 j) = hw_ob 5 [.ref (ad 3 j), .ref (ad 4 j), .ref (ad 5 j)] := hP1.m 2 j hj4
    have e3_jhP1 : M1 (ad 3 j) = hw_al Z 8 (hs_C S j) := hP1.m 3 j hj4
    refine lv_iload hx hb dX5_bestWay_17 (lv_at hl 3 rfl) ?_
    refine lv_bipush (v := nI 6) hx hb dX5_bestWay_19 (by decide) ?_
    refine lv_icmp_ge (tgt := 98) hx hb dX5_bestWay_21 (by decide) (fun hc => absurd hc (nI_ge hi17 (by decide))) (fun _ => ?_)
    refine lv_aload_n hx hb dX5_bestWay_24 rfl (lv_at hl 4 rfl) ?_
    refine hw_get hx hb hts hown hk hI fd_X5_30 e0_0hP1 rfl dX5_bestWay_25 ?_
    refine lv_aload_n hx hb dX5_bestWay_28 rfl (lv_at hl 5 rfl) ?_
    refine hw_get hx hb hts hown hk hI fd_X5_68 e1_jhP1 rfl dX5_bestWay_29 ?_
    refine lv_iload hx hb dX5_bestWay_32 (lv_at hl 3 rfl) ?_
    refine hw_cv hI (hw_rV hx hb hml hown hts hk hI (m_X4_becomeLaid l Z M1 (ad 0 4) (ad 0 5) (ad 0 6) (ad 0 7) T1.1 T1.2.1 T1.2.2.1 (ad 2 j) (ad 3 j) (ad 4 j) (ad 5 j) (hs_C S j) v e0_4hP1 e0_5hP1 e0_6hP1 e0_7hP1 e2_jhP1 e3_jhP1 (hP.n (k := 0) (i := 5) (k' := 0) (i' := 6) (by decide) (by decide) (by decide)) (hP.n (k := 0) (i := 5) (k' := 0) (i' := 7) (by decide) (by decide) (by decide)) (hP.n (k := 0) (i := 6) (k' := 0) (i' := 7) (by decide) (by decide) (by decide)) (hP.n (k := 3) (i := j) (k' := 0) (i' := 5) hj4 (by decide) (fun q => absurd q.1 (by decide))) (hP.n (k := 2) (i := j) (k' := 0) (i' := 4) hj4 (by decide) (fun q => absurd q.1 (by decide))) hP1.h0 hP1.s7 hi17) cv_X5_84 e0_4hP1 rfl rfl ⟨rfl, rfl⟩ ⟨(Nat.le_of_ble_eq_true rfl), (Nat.le_of_ble_eq_true rfl)⟩ rfl hl.1 rfl (Nat.le_of_ble_eq_true rfl) ⟨(Nat.le_of_ble_eq_true rfl), (Nat.le_of_ble_eq_true rfl)⟩ dX5_bestWay_34) (fun M34 H locs hR hI => ?_)
    subst hR
    refine lv_aload_n hx hb dX5_bestWay_37 rfl (lv_at hl 4 rfl) ?_
    refine hw_get hx hb hts hown hk hI fd_X5_30 (hw_up (hw_up (hw_up e0_0hP1 (hP.n (k := 0) (i := 0) (k' := 0) (i' := 5) (by decide) (by decide) (by decide))) (hP.n (k := 0) (i := 0) (k' := 0) (i' := 6) (by decide) (by decide) (by decide))) (hP.n (k := 0) (i := 0) (k' := 0) (i' := 7) (by decide) (by decide) (by decide))) rfl dX5_bestWay_38 ?_
    refine hw_ci hI (hw_rV hx hb hml hown hts hk hI (m_X4_supportCount l Z (va_up (va_up (va_up M1 (ad 0 5) (hw_al Z 8 (hb_laid (hs_C S j) v))) (ad 0 6) (hw_al Z 8 (hb_hang (hb_laid (hs_C S j) v)))) (ad 0 7) (hw_al Z 8 (hb_supp (hb_laid (hs_C S j) v)))) (ad 0 4) (ad 0 5) (ad 0 6) (ad 0 7) (hb_supp (hb_laid (hs_C S j) v)) (hw_up (hw_up (hw_up e0_4hP1 (hP.n (k := 0) (i := 4) (k' := 0) (i' := 5) (by decide) (by decide) (by decide))) (hP.n (k := 0) (i := 4) (k' := 0) (i' := 6) (by decide) (by decide) (by decide))) (hP.n (k := 0) (i := 4) (k' := 0) (i' := 7) (by decide) (by decide) (by decide))) (hw_us _ _ _)) cv_X5_264 (hw_up (hw_up (hw_up e0_4hP1 (hP.n (k := 0) (i := 4) (k' := 0) (i' := 5) (by decide) (by decide) (by decide))) (hP.n (k := 0) (i := 4) (k' := 0) (i' := 6) (by decide) (by decide) (by decide))) (hP.n (k := 0) (i := 4) (k' := 0) (i' := 7) (by decide) (by decide) (by decide))) rfl rfl ⟨rfl, rfl⟩ ⟨(Nat.le_of_ble_eq_true rfl), (Nat.le_of_ble_eq_true rfl)⟩ rfl hl.1 rfl (Nat.le_of_ble_eq_true rfl) ⟨(Nat.le_of_ble_eq_true rfl), (Nat.le_of_ble_eq_true rfl)⟩ dX5_bestWay_41) (fun r41 M41 H locs hR hI => ?_)
    obtain ⟨rfl, rfl⟩ := hR
    refine lv_istore (lv' := [(7, .int (nI (hb_ws (hs_C S j) v))), (3, .int (nI (hb_bwL (hs_C S j) v))), (4, .int (nI (hb_bwF (hs_C S j) v))), (5, .int (nI (hb_bwG (hs_C S j) v))), (6, .int (nI v)), (0, .ref (ad 0 0)), (2, .ref (ad 1 j))]) hx hb dX5_bestWay_44 hl (by decide) rfl (fun ls hl => ?_)
    refine lv_aload_n hx hb dX5_bestWay_46 rfl (lv_at hl 5 rfl) ?_
    refine hw_get hx hb hts hown hk hI fd_X5_30 (hw_up (hw_up (hw_up e0_0hP1 (hP.n (k := 0) (i := 0) (k' := 0) (i' := 5) (by decide) (by decide) (by decide))) (hP.n (k := 0) (i := 0) (k' := 0) (i' := 6) (by decide) (by decide) (by decide))) (hP.n (k := 0) (i := 0) (k' := 0) (i' := 7) (by decide) (by decide) (by decide))) rfl dX5_bestWay_47 ?_
    refine hw_ci hI (hw_rV hx hb hml hown hts hk hI (m_X4_height l Z (va_up (va_up (va_up M1 (ad 0 5) (hw_al Z 8 (hb_laid (hs_C S j) v))) (ad 0 6) (hw_al Z 8 (hb_hang (hb_laid (hs_C S j) v)))) (ad 0 7) (hw_al Z 8 (hb_supp (hb_laid (hs_C S j) v)))) (ad 0 4) (ad 0 5) (ad 0 6) (ad 0 7) (hb_laid (hs_C S j) v) (hw_up (hw_up (hw_up e0_4hP1 (hP.n (k := 0) (i := 4) (k' := 0) (i' := 5) (by decide) (by decide) (by decide))) (hP.n (k := 0) (i := 4) (k' := 0) (i' := 6) (by decide) (by decide) (by decide))) (hP.n (k := 0) (i := 4) (k' := 0) (i' := 7) (by decide) (by decide) (by decide))) (hw_up (hw_up (hw_us _ _ _) (hP.n (k := 0) (i := 5) (k' := 0) (i' := 6) (by decide) (by decide) (by decide))) (hP.n (k := 0) (i := 5) (k' := 0) (i' := 7) (by decide) (by decide) (by decide)))) cv_X5_92 (hw_up (hw_up (hw_up e0_4hP1 (hP.n (k := 0) (i := 4) (k' := 0) (i' := 5) (by decide) (by decide) (by decide))) (hP.n (k := 0) (i := 4) (k' := 0) (i' := 6) (by decide) (by decide) (by decide))) (hP.n (k := 0) (i := 4) (k' := 0) (i' := 7) (by decide) (by decide) (by decide))) rfl rfl ⟨rfl, rfl⟩ ⟨(Nat.le_of_ble_eq_true rfl), (Nat.le_of_ble_eq_true rfl)⟩ rfl hl.1 rfl (Nat.le_of_ble_eq_true rfl) ⟨(Nat.le_of_ble_eq_true rfl), (Nat.le_of_ble_eq_true rfl)⟩ dX5_bestWay_50) (fun r50 M50 H locs hR hI => ?_)
    obtain ⟨rfl, rfl⟩ := hR
    refine lv_istore (lv' := [(8, .int (nI (hb_wh (hs_C S j) v))), (7, .int (nI (hb_ws (hs_C S j) v))), (3, .int (nI (hb_bwL (hs_C S j) v))), (4, .int (nI (hb_bwF (hs_C S j) v))), (5, .int (nI (hb_bwG (hs_C S j) v))), (6, .int (nI v)), (0, .ref (ad 0 0)), (2, .ref (ad 1 j))]) hx hb dX5_bestWay_53 hl (by decide) rfl (fun ls hl => ?_)
    have b1_ := hb_ws_le (hs_C S j) v
    have b2_ := hb_wh_le (hs_C S j) v
    have b3_ := hb_bwF_le (hs_C S j) v
    have b4_ := hb_bwG_le (hs_C S j) v
    refine lv_iload hx hb dX5_bestWay_55 (lv_at hl 5 rfl) ?_
    refine lv_if_eq (tgt := 81) hx hb dX5_bestWay_57 (by decide) (fun c57 => ?_) (fun c57 => ?_)
    · refine lv_iload hx hb dX5_bestWay_81 (lv_at hl 5 rfl) ?_
      refine lv_istore_n (lv' := [(3, .int (nI v)), (8, .int (nI (hb_wh (hs_C S j) v))), (7, .int (nI (hb_ws (hs_C S j) v))), (4, .int (nI (hb_bwF (hs_C S j) v))), (5, .int (nI (hb_bwG (hs_C S j) v))), (6, .int (nI v)), (0, .ref (ad 0 0)), (2, .ref (ad 1 j))]) hx hb dX5_bestWay_83 rfl hl (by decide) rfl (fun ls hl => ?_)
      refine lv_iload hx hb dX5_bestWay_84 (lv_at hl 2 rfl) ?_
      refine lv_istore (lv' := [(4, .int (nI (hb_ws (hs_C S j) v))), (3, .int (nI v)), (8, .int (nI (hb_wh (hs_C S j) v))), (7, .int (nI (hb_ws (hs_C S j) v))), (5, .int (nI (hb_bwG (hs_C S j) v))), (6, .int (nI v)), (0, .ref (ad 0 0)), (2, .ref (ad 1 j))]) hx hb dX5_bestWay_86 hl (by decide) rfl (fun ls hl => ?_)
      refine lv_iload hx hb dX5_bestWay_88 (lv_at hl 2 rfl) ?_
      refine lv_istore (lv' := [(5, .int (nI (hb_wh (hs_C S j) v))), (4, .int (nI (hb_ws (hs_C S j) v))), (3, .int (nI v)), (8, .int (nI (hb_wh (hs_C S j) v))), (7, .int (nI (hb_ws (hs_C S j) v))), (6, .int (nI v)), (0, .ref (ad 0 0)), (2, .ref (ad 1 j))]) hx hb dX5_bestWay_90 hl (by decide) rfl (fun ls hl => ?_)
      have hv0 : v = 0 := (nI_eq (a := v) (b := 0) (by omega) (by omega)).mp c57
      refine lv_iinc (v := nI (v + 1)) (lv' := [(6, .int (nI (v + 1))), (5, .int (nI (hb_wh (hs_C S j) v))), (4, .int (nI (hb_ws (hs_C S j) v))), (3, .int (nI v)), (8, .int (nI (hb_wh (hs_C S j) v))), (7, .int (nI (hb_ws (hs_C S j) v))), (0, .ref (ad 0 0)), (2, .ref (ad 1 j))]) hx hb dX5_bestWay_92 hl (k := 5) rfl (hw_inc _) (by decide) rfl (fun ls hl => ?_)
      refine lv_goto (tgt := 17) hx hb dX5_bestWay_95 (by decide) ?_
      have ok_L1 : hp_ok Z b1 (va_up (va_up (va_up M1 (ad 0 5) (hw_al Z 8 (hb_laid (hs_C S j) v))) (ad 0 6) (hw_al Z 8 (hb_hang (hb_laid (hs_C S j) v)))) (ad 0 7) (hw_al Z 8 (hb_supp (hb_laid (hs_C S j) v)))) ad (S) ((hb_laid (hs_C S j) v, hb_hang (hb_laid (hs_C S j) v), hb_supp (hb_laid (hs_C S j) v), T1.2.2.2)) := by
        refine hP1.fin (fun k i hi => ?_) rfl rfl
        by_cases q2 : k = 0 ∧ i = 7
        · obtain ⟨rfl, qi⟩ := q2; obtain rfl := qi.symm
          rw [va_up_self]
          first | rfl | (simp only [hp_e, hp_e0, hp_hang0, va_up_self]; done) | (simp only [hp_e, hp_e0, hp_hang0, va_up_self]; rfl)
        by_cases q1 : k = 0 ∧ i = 6
        · obtain ⟨rfl, qi⟩ := q1; obtain rfl := qi.symm
          rw [va_up_ne _ _ (hP1.n (k := 0) (i := 6) (k' := 0) (i' := 7) (by decide) (by decide) (by decide)), va_up_self]
          first | rfl | (simp only [hp_e, hp_e0, hp_hang0, va_up_self]; done) | (simp only [hp_e, hp_e0, hp_hang0, va_up_self]; rfl)
        by_cases q0 : k = 0 ∧ i = 5
        · obtain ⟨rfl, qi⟩ := q0; obtain rfl := qi.symm
          rw [va_up_ne _ _ (hP1.n (k := 0) (i := 5) (k' := 0) (i' := 7) (by decide) (by decide) (by decide)), va_up_ne _ _ (hP1.n (k := 0) (i := 5) (k' := 0) (i' := 6) (by decide) (by decide) (by decide)), va_up_self]
          first | rfl | (simp only [hp_e, hp_e0, hp_hang0, va_up_self]; done) | (simp only [hp_e, hp_e0, hp_hang0, va_up_self]; rfl)
        rw [va_up_ne _ _ (hP1.n (k := k) (i := i) (k' := 0) (i' := 7) hi (by decide) q2), va_up_ne _ _ (hP1.n (k := k) (i := i) (k' := 0) (i' := 6) hi (by decide) q1), va_up_ne _ _ (hP1.n (k := k) (i := i) (k' := 0) (i' := 5) hi (by decide) q0)]
        exact (hP1.m k i hi).trans ((sm_Ts (k := k) (i := i) (by omega))).symm
      have fr_L1 : ∀ a, b1 a → (va_up (va_up (va_up M1 (ad 0 5) (hw_al Z 8 (hb_laid (hs_C S j) v))) (ad 0 6) (hw_al Z 8 (hb_hang (hb_laid (hs_C S j) v)))) (ad 0 7) (hw_al Z 8 (hb_supp (hb_laid (hs_C S j) v)))) a = M a := by
        intro a ha
        rw [va_up_ne _ _ (hP1.f (k := 0) (i := 7) (by decide) ha), va_up_ne _ _ (hP1.f (k := 0) (i := 6) (by decide) ha), va_up_ne _ _ (hP1.f (k := 0) (i := 5) (by decide) ha)]; exact hF1 a ha
      exact ih17 _ _ ok_L1 fr_L1 _ _ _ hI (lv_sub hl [3, 2, 1, 0, 6, 7] (by rw [show hb_bwL (hs_C S j) (v + 1) = v from hb_bw_y0 hv0, show hb_bwF (hs_C S j) (v + 1) = hb_ws (hs_C S j) v by (show hb_ws (hs_C S j) (hb_bw (hs_C S j) v) = _; rw [hb_bw_y0 hv0]), show hb_bwG (hs_C S j) (v + 1) = hb_wh (hs_C S j) v by (show hb_wh (hs_C S j) (hb_bw (hs_C S j) v) = _; rw [hb_bw_y0 hv0])]; rfl))
    · refine lv_iload hx hb dX5_bestWay_60 (lv_at hl 1 rfl) ?_
      refine lv_iload hx hb dX5_bestWay_62 (lv_at hl 3 rfl) ?_
      refine lv_icmp_lt (tgt := 81) hx hb dX5_bestWay_64 (by decide) (fun c64 => ?_) (fun c64 => ?_)
      · refine lv_iload hx hb dX5_bestWay_81 (lv_at hl 5 rfl) ?_
        refine lv_istore_n (lv' := [(3, .int (nI v)), (8, .int (nI (hb_wh (hs_C S j) v))), (7, .int (nI (hb_ws (hs_C S j) v))), (4, .int (nI (hb_bwF (hs_C S j) v))), (5, .int (nI (hb_bwG (hs_C S j) v))), (6, .int (nI v)), (0, .ref (ad 0 0)), (2, .ref (ad 1 j))]) hx hb dX5_bestWay_83 rfl hl (by decide) rfl (fun ls hl => ?_)
        refine lv_iload hx hb dX5_bestWay_84 (lv_at hl 2 rfl) ?_
        refine lv_istore (lv' := [(4, .int (nI (hb_ws (hs_C S j) v))), (3, .int (nI v)), (8, .int (nI (hb_wh (hs_C S j) v))), (7, .int (nI (hb_ws (hs_C S j) v))), (5, .int (nI (hb_bwG (hs_C S j) v))), (6, .int (nI v)), (0, .ref (ad 0 0)), (2, .ref (ad 1 j))]) hx hb dX5_bestWay_86 hl (by decide) rfl (fun ls hl => ?_)
        refine lv_iload hx hb dX5_bestWay_88 (lv_at hl 2 rfl) ?_
        refine lv_istore (lv' := [(5, .int (nI (hb_wh (hs_C S j) v))), (4, .int (nI (hb_ws (hs_C S j) v))), (3, .int (nI v)), (8, .int (nI (hb_wh (hs_C S j) v))), (7, .int (nI (hb_ws (hs_C S j) v))), (6, .int (nI v)), (0, .ref (ad 0 0)), (2, .ref (ad 1 j))]) hx hb dX5_bestWay_90 hl (by decide) rfl (fun ls hl => ?_)
        have hv0 : ¬ v = 0 := fun q => c57 (by rw [q]; rfl)
        have hyn : hb_ws (hs_C S j) v < hb_bwF (hs_C S j) v ∨ (hb_ws (hs_C S j) v = hb_bwF (hs_C S j) v ∧ hb_wh (hs_C S j) v < hb_bwG (hs_C S j) v) := Or.inl (hq_lt (by omega) (by omega) c64)
        refine lv_iinc (v := nI (v + 1)) (lv' := [(6, .int (nI (v + 1))), (5, .int (nI (hb_wh (hs_C S j) v))), (4, .int (nI (hb_ws (hs_C S j) v))), (3, .int (nI v)), (8, .int (nI (hb_wh (hs_C S j) v))), (7, .int (nI (hb_ws (hs_C S j) v))), (0, .ref (ad 0 0)), (2, .ref (ad 1 j))]) hx hb dX5_bestWay_92 hl (k := 5) rfl (hw_inc _) (by decide) rfl (fun ls hl => ?_)
        refine lv_goto (tgt := 17) hx hb dX5_bestWay_95 (by decide) ?_
        have ok_L1 : hp_ok Z b1 (va_up (va_up (va_up M1 (ad 0 5) (hw_al Z 8 (hb_laid (hs_C S j) v))) (ad 0 6) (hw_al Z 8 (hb_hang (hb_laid (hs_C S j) v)))) (ad 0 7) (hw_al Z 8 (hb_supp (hb_laid (hs_C S j) v)))) ad (S) ((hb_laid (hs_C S j) v, hb_hang (hb_laid (hs_C S j) v), hb_supp (hb_laid (hs_C S j) v), T1.2.2.2)) := by
          refine hP1.fin (fun k i hi => ?_) rfl rfl
          by_cases q2 : k = 0 ∧ i = 7
          · obtain ⟨rfl, qi⟩ := q2; obtain rfl := qi.symm
            rw [va_up_self]
            first | rfl | (simp only [hp_e, hp_e0, hp_hang0, va_up_self]; done) | (simp only [hp_e, hp_e0, hp_hang0, va_up_self]; rfl)
          by_cases q1 : k = 0 ∧ i = 6
          · obtain ⟨rfl, qi⟩ := q1; obtain rfl := qi.symm
            rw [va_up_ne _ _ (hP1.n (k := 0) (i := 6) (k' := 0) (i' := 7) (by decide) (by decide) (by decide)), va_up_self]
            first | rfl | (simp only [hp_e, hp_e0, hp_hang0, va_up_self]; done) | (simp only [hp_e, hp_e0, hp_hang0, va_up_self]; rfl)
          by_cases q0 : k = 0 ∧ i = 5
          · obtain ⟨rfl, qi⟩ := q0; obtain rfl := qi.symm
            rw [va_up_ne _ _ (hP1.n (k := 0) (i := 5) (k' := 0) (i' := 7) (by decide) (by decide) (by decide)), va_up_ne _ _ (hP1.n (k := 0) (i := 5) (k' := 0) (i' := 6) (by decide) (by decide) (by decide)), va_up_self]
            first | rfl | (simp only [hp_e, hp_e0, hp_hang0, va_up_self]; done) | (simp only [hp_e, hp_e0, hp_hang0, va_up_self]; rfl)
          rw [va_up_ne _ _ (hP1.n (k := k) (i := i) (k' := 0) (i' := 7) hi (by decide) q2), va_up_ne _ _ (hP1.n (k := k) (i := i) (k' := 0) (i' := 6) hi (by decide) q1), va_up_ne _ _ (hP1.n (k := k) (i := i) (k' := 0) (i' := 5) hi (by decide) q0)]
          exact (hP1.m k i hi).trans ((sm_Ts (k := k) (i := i) (by omega))).symm
        have fr_L1 : ∀ a, b1 a → (va_up (va_up (va_up M1 (ad 0 5) (hw_al Z 8 (hb_laid (hs_C S j) v))) (ad 0 6) (hw_al Z 8 (hb_hang (hb_laid (hs_C S j) v)))) (ad 0 7) (hw_al Z 8 (hb_supp (hb_laid (hs_C S j) v)))) a = M a := by
          intro a ha
          rw [va_up_ne _ _ (hP1.f (k := 0) (i := 7) (by decide) ha), va_up_ne _ _ (hP1.f (k := 0) (i := 6) (by decide) ha), va_up_ne _ _ (hP1.f (k := 0) (i := 5) (by decide) ha)]; exact hF1 a ha
        exact ih17 _ _ ok_L1 fr_L1 _ _ _ hI (lv_sub hl [3, 2, 1, 0, 6, 7] (by rw [show hb_bwL (hs_C S j) (v + 1) = v from hb_bw_y hv0 hyn, show hb_bwF (hs_C S j) (v + 1) = hb_ws (hs_C S j) v by (show hb_ws (hs_C S j) (hb_bw (hs_C S j) v) = _; rw [hb_bw_y hv0 hyn]), show hb_bwG (hs_C S j) (v + 1) = hb_wh (hs_C S j) v by (show hb_wh (hs_C S j) (hb_bw (hs_C S j) v) = _; rw [hb_bw_y hv0 hyn])]; rfl))
      · refine lv_iload hx hb dX5_bestWay_67 (lv_at hl 1 rfl) ?_
        refine lv_iload hx hb dX5_bestWay_69 (lv_at hl 3 rfl) ?_
        refine lv_icmp_ne (tgt := 92) hx hb dX5_bestWay_71 (by decide) (fun c71 => ?_) (fun c71 => ?_)
        · have hv0 : ¬ v = 0 := fun q => c57 (by rw [q]; rfl)
          have hyn : ¬ (hb_ws (hs_C S j) v < hb_bwF (hs_C S j) v ∨ (hb_ws (hs_C S j) v = hb_bwF (hs_C S j) v ∧ hb_wh (hs_C S j) v < hb_bwG (hs_C S j) v)) := fun q => q.elim (fun q => c64 (nI_lt q (by omega))) (fun q => c71 (by rw [q.1]))
          refine lv_iinc (v := nI (v + 1)) (lv' := [(6, .int (nI (v + 1))), (8, .int (nI (hb_wh (hs_C S j) v))), (7, .int (nI (hb_ws (hs_C S j) v))), (3, .int (nI (hb_bwL (hs_C S j) v))), (4, .int (nI (hb_bwF (hs_C S j) v))), (5, .int (nI (hb_bwG (hs_C S j) v))), (0, .ref (ad 0 0)), (2, .ref (ad 1 j))]) hx hb dX5_bestWay_92 hl (k := 5) rfl (hw_inc _) (by decide) rfl (fun ls hl => ?_)
          refine lv_goto (tgt := 17) hx hb dX5_bestWay_95 (by decide) ?_
          have ok_L1 : hp_ok Z b1 (va_up (va_up (va_up M1 (ad 0 5) (hw_al Z 8 (hb_laid (hs_C S j) v))) (ad 0 6) (hw_al Z 8 (hb_hang (hb_laid (hs_C S j) v)))) (ad 0 7) (hw_al Z 8 (hb_supp (hb_laid (hs_C S j) v)))) ad (S) ((hb_laid (hs_C S j) v, hb_hang (hb_laid (hs_C S j) v), hb_supp (hb_laid (hs_C S j) v), T1.2.2.2)) := by
            refine hP1.fin (fun k i hi => ?_) rfl rfl
            by_cases q2 : k = 0 ∧ i = 7
            · obtain ⟨rfl, qi⟩ := q2; obtain rfl := qi.symm
              rw [va_up_self]
              first | rfl | (simp only [hp_e, hp_e0, hp_hang0, va_up_self]; done) | (simp only [hp_e, hp_e0, hp_hang0, va_up_self]; rfl)
            by_cases q1 : k = 0 ∧ i = 6
            · obtain ⟨rfl, qi⟩ := q1; obtain rfl := qi.symm
              rw [va_up_ne _ _ (hP1.n (k := 0) (i := 6) (k' := 0) (i' := 7) (by decide) (by decide) (by decide)), va_up_self]
              first | rfl | (simp only [hp_e, hp_e0, hp_hang0, va_up_self]; done) | (simp only [hp_e, hp_e0, hp_hang0, va_up_self]; rfl)
            by_cases q0 : k = 0 ∧ i = 5
            · obtain ⟨rfl, qi⟩ := q0; obtain rfl := qi.symm
              rw [va_up_ne _ _ (hP1.n (k := 0) (i := 5) (k' := 0) (i' := 7) (by decide) (by decide) (by decide)), va_up_ne _ _ (hP1.n (k := 0) (i := 5) (k' := 0) (i' := 6) (by decide) (by decide) (by decide)), va_up_self]
              first | rfl | (simp only [hp_e, hp_e0, hp_hang0, va_up_self]; done) | (simp only [hp_e, hp_e0, hp_hang0, va_up_self]; rfl)
            rw [va_up_ne _ _ (hP1.n (k := k) (i := i) (k' := 0) (i' := 7) hi (by decide) q2), va_up_ne _ _ (hP1.n (k := k) (i := i) (k' := 0) (i' := 6) hi (by decide) q1), va_up_ne _ _ (hP1.n (k := k) (i := i) (k' := 0) (i' := 5) hi (by decide) q0)]
            exact (hP1.m k i hi).trans ((sm_Ts (k := k) (i := i) (by omega))).symm
          have fr_L1 : ∀ a, b1 a → (va_up (va_up (va_up M1 (ad 0 5) (hw_al Z 8 (hb_laid (hs_C S j) v))) (ad 0 6) (hw_al Z 8 (hb_hang (hb_laid (hs_C S j) v)))) (ad 0 7) (hw_al Z 8 (hb_supp (hb_laid (hs_C S j) v)))) a = M a := by
            intro a ha
            rw [va_up_ne _ _ (hP1.f (k := 0) (i := 7) (by decide) ha), va_up_ne _ _ (hP1.f (k := 0) (i := 6) (by decide) ha), va_up_ne _ _ (hP1.f (k := 0) (i := 5) (by decide) ha)]; exact hF1 a ha
          exact ih17 _ _ ok_L1 fr_L1 _ _ _ hI (lv_sub hl [3, 4, 5, 0, 6, 7] (by rw [show hb_bwL (hs_C S j) (v + 1) = hb_bwL (hs_C S j) v from (hb_bw_n hv0 hyn).1, show hb_bwF (hs_C S j) (v + 1) = hb_bwF (hs_C S j) v from (hb_bw_n hv0 hyn).2.1, show hb_bwG (hs_C S j) (v + 1) = hb_bwG (hs_C S j) v from (hb_bw_n hv0 hyn).2.2]; rfl))
        · refine lv_iload hx hb dX5_bestWay_74 (lv_at hl 0 rfl) ?_
          refine lv_iload hx hb dX5_bestWay_76 (lv_at hl 4 rfl) ?_
          refine lv_icmp_ge (tgt := 92) hx hb dX5_bestWay_78 (by decide) (fun c78 => ?_) (fun c78 => ?_)
          · have hv0 : ¬ v = 0 := fun q => c57 (by rw [q]; rfl)
            have hyn : ¬ (hb_ws (hs_C S j) v < hb_bwF (hs_C S j) v ∨ (hb_ws (hs_C S j) v = hb_bwF (hs_C S j) v ∧ hb_wh (hs_C S j) v < hb_bwG (hs_C S j) v)) := fun q => q.elim (fun q => c64 (nI_lt q (by omega))) (fun q => absurd c78 (nI_ge q.2 (by omega)))
            refine lv_iinc (v := nI (v + 1)) (lv' := [(6, .int (nI (v + 1))), (8, .int (nI (hb_wh (hs_C S j) v))), (7, .int (nI (hb_ws (hs_C S j) v))), (3, .int (nI (hb_bwL (hs_C S j) v))), (4, .int (nI (hb_bwF (hs_C S j) v))), (5, .int (nI (hb_bwG (hs_C S j) v))), (0, .ref (ad 0 0)), (2, .ref (ad 1 j))]) hx hb dX5_bestWay_92 hl (k := 5) rfl (hw_inc _) (by decide) rfl (fun ls hl => ?_)
            refine lv_goto (tgt := 17) hx hb dX5_bestWay_95 (by decide) ?_
            have ok_L1 : hp_ok Z b1 (va_up (va_up (va_up M1 (ad 0 5) (hw_al Z 8 (hb_laid (hs_C S j) v))) (ad 0 6) (hw_al Z 8 (hb_hang (hb_laid (hs_C S j) v)))) (ad 0 7) (hw_al Z 8 (hb_supp (hb_laid (hs_C S j) v)))) ad (S) ((hb_laid (hs_C S j) v, hb_hang (hb_laid (hs_C S j) v), hb_supp (hb_laid (hs_C S j) v), T1.2.2.2)) := by
              refine hP1.fin (fun k i hi => ?_) rfl rfl
              by_cases q2 : k = 0 ∧ i = 7
              · obtain ⟨rfl, qi⟩ := q2; obtain rfl := qi.symm
                rw [va_up_self]
                first | rfl | (simp only [hp_e, hp_e0, hp_hang0, va_up_self]; done) | (simp only [hp_e, hp_e0, hp_hang0, va_up_self]; rfl)
              by_cases q1 : k = 0 ∧ i = 6
              · obtain ⟨rfl, qi⟩ := q1; obtain rfl := qi.symm
                rw [va_up_ne _ _ (hP1.n (k := 0) (i := 6) (k' := 0) (i' := 7) (by decide) (by decide) (by decide)), va_up_self]
                first | rfl | (simp only [hp_e, hp_e0, hp_hang0, va_up_self]; done) | (simp only [hp_e, hp_e0, hp_hang0, va_up_self]; rfl)
              by_cases q0 : k = 0 ∧ i = 5
              · obtain ⟨rfl, qi⟩ := q0; obtain rfl := qi.symm
                rw [va_up_ne _ _ (hP1.n (k := 0) (i := 5) (k' := 0) (i' := 7) (by decide) (by decide) (by decide)), va_up_ne _ _ (hP1.n (k := 0) (i := 5) (k' := 0) (i' := 6) (by decide) (by decide) (by decide)), va_up_self]
                first | rfl | (simp only [hp_e, hp_e0, hp_hang0, va_up_self]; done) | (simp only [hp_e, hp_e0, hp_hang0, va_up_self]; rfl)
              rw [va_up_ne _ _ (hP1.n (k := k) (i := i) (k' := 0) (i' := 7) hi (by decide) q2), va_up_ne _ _ (hP1.n (k := k) (i := i) (k' := 0) (i' := 6) hi (by decide) q1), va_up_ne _ _ (hP1.n (k := k) (i := i) (k' := 0) (i' := 5) hi (by decide) q0)]
              exact (hP1.m k i hi).trans ((sm_Ts (k := k) (i := i) (by omega))).symm
            have fr_L1 : ∀ a, b1 a → (va_up (va_up (va_up M1 (ad 0 5) (hw_al Z 8 (hb_laid (hs_C S j) v))) (ad 0 6) (hw_al Z 8 (hb_hang (hb_laid (hs_C S j) v)))) (ad 0 7) (hw_al Z 8 (hb_supp (hb_laid (hs_C S j) v)))) a = M a := by
              intro a ha
              rw [va_up_ne _ _ (hP1.f (k := 0) (i := 7) (by decide) ha), va_up_ne _ _ (hP1.f (k := 0) (i := 6) (by decide) ha), va_up_ne _ _ (hP1.f (k := 0) (i := 5) (by decide) ha)]; exact hF1 a ha
            exact ih17 _ _ ok_L1 fr_L1 _ _ _ hI (lv_sub hl [3, 4, 5, 0, 6, 7] (by rw [show hb_bwL (hs_C S j) (v + 1) = hb_bwL (hs_C S j) v from (hb_bw_n hv0 hyn).1, show hb_bwF (hs_C S j) (v + 1) = hb_bwF (hs_C S j) v from (hb_bw_n hv0 hyn).2.1, show hb_bwG (hs_C S j) (v + 1) = hb_bwG (hs_C S j) v from (hb_bw_n hv0 hyn).2.2]; rfl))
          · refine lv_iload hx hb dX5_bestWay_81 (lv_at hl 5 rfl) ?_
            refine lv_istore_n (lv' := [(3, .int (nI v)), (8, .int (nI (hb_wh (hs_C S j) v))), (7, .int (nI (hb_ws (hs_C S j) v))), (4, .int (nI (hb_bwF (hs_C S j) v))), (5, .int (nI (hb_bwG (hs_C S j) v))), (6, .int (nI v)), (0, .ref (ad 0 0)), (2, .ref (ad 1 j))]) hx hb dX5_bestWay_83 rfl hl (by decide) rfl (fun ls hl => ?_)
            refine lv_iload hx hb dX5_bestWay_84 (lv_at hl 2 rfl) ?_
            refine lv_istore (lv' := [(4, .int (nI (hb_ws (hs_C S j) v))), (3, .int (nI v)), (8, .int (nI (hb_wh (hs_C S j) v))), (7, .int (nI (hb_ws (hs_C S j) v))), (5, .int (nI (hb_bwG (hs_C S j) v))), (6, .int (nI v)), (0, .ref (ad 0 0)), (2, .ref (ad 1 j))]) hx hb dX5_bestWay_86 hl (by decide) rfl (fun ls hl => ?_)
            refine lv_iload hx hb dX5_bestWay_88 (lv_at hl 2 rfl) ?_
            refine lv_istore (lv' := [(5, .int (nI (hb_wh (hs_C S j) v))), (4, .int (nI (hb_ws (hs_C S j) v))), (3, .int (nI v)), (8, .int (nI (hb_wh (hs_C S j) v))), (7, .int (nI (hb_ws (hs_C S j) v))), (6, .int (nI v)), (0, .ref (ad 0 0)), (2, .ref (ad 1 j))]) hx hb dX5_bestWay_90 hl (by decide) rfl (fun ls hl => ?_)
            have hv0 : ¬ v = 0 := fun q => c57 (by rw [q]; rfl)
            have hyn : hb_ws (hs_C S j) v < hb_bwF (hs_C S j) v ∨ (hb_ws (hs_C S j) v = hb_bwF (hs_C S j) v ∧ hb_wh (hs_C S j) v < hb_bwG (hs_C S j) v) := Or.inr ⟨(nI_eq (by omega) (by omega)).mp c71, Nat.lt_of_not_le (fun q => c78 (nI_le q (by omega)))⟩
            refine lv_iinc (v := nI (v + 1)) (lv' := [(6, .int (nI (v + 1))), (5, .int (nI (hb_wh (hs_C S j) v))), (4, .int (nI (hb_ws (hs_C S j) v))), (3, .int (nI v)), (8, .int (nI (hb_wh (hs_C S j) v))), (7, .int (nI (hb_ws (hs_C S j) v))), (0, .ref (ad 0 0)), (2, .ref (ad 1 j))]) hx hb dX5_bestWay_92 hl (k := 5) rfl (hw_inc _) (by decide) rfl (fun ls hl => ?_)
            refine lv_goto (tgt := 17) hx hb dX5_bestWay_95 (by decide) ?_
            have ok_L1 : hp_ok Z b1 (va_up (va_up (va_up M1 (ad 0 5) (hw_al Z 8 (hb_laid (hs_C S j) v))) (ad 0 6) (hw_al Z 8 (hb_hang (hb_laid (hs_C S j) v)))) (ad 0 7) (hw_al Z 8 (hb_supp (hb_laid (hs_C S j) v)))) ad (S) ((hb_laid (hs_C S j) v, hb_hang (hb_laid (hs_C S j) v), hb_supp (hb_laid (hs_C S j) v), T1.2.2.2)) := by
              refine hP1.fin (fun k i hi => ?_) rfl rfl
              by_cases q2 : k = 0 ∧ i = 7
              · obtain ⟨rfl, qi⟩ := q2; obtain rfl := qi.symm
                rw [va_up_self]
                first | rfl | (simp only [hp_e, hp_e0, hp_hang0, va_up_self]; done) | (simp only [hp_e, hp_e0, hp_hang0, va_up_self]; rfl)
              by_cases q1 : k = 0 ∧ i = 6
              · obtain ⟨rfl, qi⟩ := q1; obtain rfl := qi.symm
                rw [va_up_ne _ _ (hP1.n (k := 0) (i := 6) (k' := 0) (i' := 7) (by decide) (by decide) (by decide)), va_up_self]
                first | rfl | (simp only [hp_e, hp_e0, hp_hang0, va_up_self]; done) | (simp only [hp_e, hp_e0, hp_hang0, va_up_self]; rfl)
              by_cases q0 : k = 0 ∧ i = 5
              · obtain ⟨rfl, qi⟩ := q0; obtain rfl := qi.symm
                rw [va_up_ne _ _ (hP1.n (k := 0) (i := 5) (k' := 0) (i' := 7) (by decide) (by decide) (by decide)), va_up_ne _ _ (hP1.n (k := 0) (i := 5) (k' := 0) (i' := 6) (by decide) (by decide) (by decide)), va_up_self]
                first | rfl | (simp only [hp_e, hp_e0, hp_hang0, va_up_self]; done) | (simp only [hp_e, hp_e0, hp_hang0, va_up_self]; rfl)
              rw [va_up_ne _ _ (hP1.n (k := k) (i := i) (k' := 0) (i' := 7) hi (by decide) q2), va_up_ne _ _ (hP1.n (k := k) (i := i) (k' := 0) (i' := 6) hi (by decide) q1), va_up_ne _ _ (hP1.n (k := k) (i := i) (k' := 0) (i' := 5) hi (by decide) q0)]
              exact (hP1.m k i hi).trans ((sm_Ts (k := k) (i := i) (by omega))).symm
            have fr_L1 : ∀ a, b1 a → (va_up (va_up (va_up M1 (ad 0 5) (hw_al Z 8 (hb_laid (hs_C S j) v))) (ad 0 6) (hw_al Z 8 (hb_hang (hb_laid (hs_C S j) v)))) (ad 0 7) (hw_al Z 8 (hb_supp (hb_laid (hs_C S j) v)))) a = M a := by
              intro a ha
              rw [va_up_ne _ _ (hP1.f (k := 0) (i := 7) (by decide) ha), va_up_ne _ _ (hP1.f (k := 0) (i := 6) (by decide) ha), va_up_ne _ _ (hP1.f (k := 0) (i := 5) (by decide) ha)]; exact hF1 a ha
            exact ih17 _ _ ok_L1 fr_L1 _ _ _ hI (lv_sub hl [3, 2, 1, 0, 6, 7] (by rw [show hb_bwL (hs_C S j) (v + 1) = v from hb_bw_y hv0 hyn, show hb_bwF (hs_C S j) (v + 1) = hb_ws (hs_C S j) v by (show hb_ws (hs_C S j) (hb_bw (hs_C S j) v) = _; rw [hb_bw_y hv0 hyn]), show hb_bwG (hs_C S j) (v + 1) = hb_wh (hs_C S j) v by (show hb_wh (hs_C S j) (hb_bw (hs_C S j) v) = _; rw [hb_bw_y hv0 hyn])]; rfl))
