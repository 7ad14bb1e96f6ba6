theorem hb_in_23 {k : Int32} : hb_in k (nI 2) (nI 3) = decide (k = nI 2 ∨ k = nI 3) := by
  unfold hb_in
  refine decide_eq_decide.mpr ⟨fun q => ?_, fun q => ?_⟩
  · have h1 := Int32.le_iff_toInt_le.mp q.1
    have h2 := Int32.le_iff_toInt_le.mp q.2
    rw [show (nI 2).toInt = 2 by decide] at h1
    rw [show (nI 3).toInt = 3 by decide] at h2
    rcases (show k.toInt = 2 ∨ k.toInt = 3 by omega) with h | h
    · exact Or.inl (Int32.toInt_inj.mp h)
    · exact Or.inr (Int32.toInt_inj.mp h)
  · rcases q with rfl | rfl <;> decide
theorem hb_in_34 {k : Int32} : hb_in k (nI 3) (nI 4) = decide (k = nI 3 ∨ k = nI 4) := by
  unfold hb_in
  refine decide_eq_decide.mpr ⟨fun q => ?_, fun q => ?_⟩
  · have h1 := Int32.le_iff_toInt_le.mp q.1
    have h2 := Int32.le_iff_toInt_le.mp q.2
    rw [show (nI 3).toInt = 3 by decide] at h1
    rw [show (nI 4).toInt = 4 by decide] at h2
    rcases (show k.toInt = 3 ∨ k.toInt = 4 by omega) with h | h
    · exact Or.inl (Int32.toInt_inj.mp h)
    · exact Or.inr (Int32.toInt_inj.mp h)
  · rcases q with rfl | rfl <;> decide
theorem cb_X11_isPiece (own : String) (index : Nat) : hw_CB own index yX11_isPiece cX11_isPiece 2 (some .boolean) 1 := ⟨⟨by decide +kernel, by decide +kernel, by decide +kernel⟩, (hw_win (w := .code yX11_isPiece cX11_isPiece 2 (some .boolean)) (by decide +kernel) (by decide +kernel)), (hw_win (w := .initialized yX11_isPiece.cls) (by decide +kernel) (by decide +kernel))⟩
theorem cv_X11_55 : hw_CV RX11 55 yX11_isPiece cX11_isPiece 2 (some .boolean) 1 := ⟨cb_X11_isPiece _ _, (hw_win (w := .methodLink RX11 55 yX11_isPiece) (by decide +kernel) (by decide +kernel)), (hw_win (w := .instanceMethod yX11_isPiece) (by decide +kernel) (by decide +kernel)), (hw_win (w := .selects yX11_isPiece.cls yX11_isPiece yX11_isPiece) (by decide +kernel) (by decide +kernel))⟩
theorem cf_X11_59 : hw_CF RX11 59 "java/util/ArrayList" ⟨"java/util/List", "get", "(I)Ljava/lang/Object;"⟩ yJx4a65c_get_915e3 cJx4a65c_get_915e3 2 (some (.object "java/lang/Object")) 1 := ⟨⟨by decide +kernel, by decide +kernel, by decide +kernel⟩, (hw_win (w := .code yJx4a65c_get_915e3 cJx4a65c_get_915e3 2 (some (.object "java/lang/Object"))) (by decide +kernel) (by decide +kernel)), (hw_win (w := .initialized yJx4a65c_get_915e3.cls) (by decide +kernel) (by decide +kernel)), (hw_win (w := .methodLink RX11 59 ⟨"java/util/List", "get", "(I)Ljava/lang/Object;"⟩) (by decide +kernel) (by decide +kernel)), (hw_win (w := .selects "java/util/ArrayList" ⟨"java/util/List", "get", "(I)Ljava/lang/Object;"⟩ yJx4a65c_get_915e3) (by decide +kernel) (by decide +kernel)), (hw_win (w := .instanceMethod yJx4a65c_get_915e3) (by decide +kernel) (by decide +kernel)), by decide +kernel⟩
theorem fd_X11_63 : hw_FD RX11 63 9 1 := ⟨RX8, TX8, 9, "MeltPoolModel$Piece", rfl, by decide, iw_X8, (hw_win (w := .fieldLink RX11 63 "MeltPoolModel$Piece" (TX8 1).2.1 (TX8 1).2.2.1) (by decide +kernel) (by decide +kernel)), Or.inl rfl⟩
theorem fp_X11_63 : hw_FP RX11 63 9 1 (.int) false := ⟨RX8, TX8, 9, "MeltPoolModel$Piece", tyX8, rfl, by decide, iw_X8, (hw_win (w := .fieldLink RX11 63 "MeltPoolModel$Piece" (TX8 1).2.1 (TX8 1).2.2.1) (by decide +kernel) (by decide +kernel)), Or.inl rfl, tyX8_ok, nmX8, rfl, (fun h => by cases h), by decide +kernel⟩
theorem fd_X11_148 : hw_FD RX11 148 9 2 := ⟨RX8, TX8, 9, "MeltPoolModel$Piece", rfl, by decide, iw_X8, (hw_win (w := .fieldLink RX11 148 "MeltPoolModel$Piece" (TX8 2).2.1 (TX8 2).2.2.1) (by decide +kernel) (by decide +kernel)), Or.inl rfl⟩
theorem fd_X11_189 : hw_FD RX11 189 7 3 := ⟨RX6, TX6, 6, "MeltPoolModel$Growth", rfl, by decide, iw_X6, (hw_win (w := .fieldLink RX11 189 "MeltPoolModel$Growth" (TX6 3).2.1 (TX6 3).2.2.1) (by decide +kernel) (by decide +kernel)), Or.inl rfl⟩
theorem cb_X11_no (own : String) (index : Nat) : hw_CB own index yX11_no cX11_no 2 (some .int) 1 := ⟨⟨by decide +kernel, by decide +kernel, by decide +kernel⟩, (hw_win (w := .code yX11_no cX11_no 2 (some .int)) (by decide +kernel) (by decide +kernel)), (hw_win (w := .initialized yX11_no.cls) (by decide +kernel) (by decide +kernel))⟩
theorem cv_X11_44 : hw_CV RX11 44 yX11_no cX11_no 2 (some .int) 1 := ⟨cb_X11_no _ _, (hw_win (w := .methodLink RX11 44 yX11_no) (by decide +kernel) (by decide +kernel)), (hw_win (w := .instanceMethod yX11_no) (by decide +kernel) (by decide +kernel)), (hw_win (w := .selects yX11_no.cls yX11_no yX11_no) (by decide +kernel) (by decide +kernel))⟩
theorem fp_X11_189 : hw_FP RX11 189 7 3 (.int) false := ⟨RX6, TX6, 6, "MeltPoolModel$Growth", tyX6, rfl, by decide, iw_X6, (hw_win (w := .fieldLink RX11 189 "MeltPoolModel$Growth" (TX6 3).2.1 (TX6 3).2.2.1) (by decide +kernel) (by decide +kernel)), Or.inl rfl, tyX6_ok, nmX6, rfl, (fun h => by cases h), by decide +kernel⟩
theorem fd_X11_66 : hw_FD RX11 66 9 0 := ⟨RX8, TX8, 9, "MeltPoolModel$Piece", rfl, by decide, iw_X8, (hw_win (w := .fieldLink RX11 66 "MeltPoolModel$Piece" (TX8 0).2.1 (TX8 0).2.2.1) (by decide +kernel) (by decide +kernel)), Or.inl rfl⟩
theorem fd_X11_70 : hw_FD RX11 70 11 0 := ⟨RX10, TX10, 1, "MeltPoolModel$Solid", rfl, by decide, iw_X10, (hw_win (w := .fieldLink RX11 70 "MeltPoolModel$Solid" (TX10 0).2.1 (TX10 0).2.2.1) (by decide +kernel) (by decide +kernel)), Or.inl rfl⟩
theorem cs_X11_76 : hw_CS RX11 76 yX11_size cX11_size 4 (some .int) 1 := ⟨cb_X11_size _ _, (hw_win (w := .methodLink RX11 76 yX11_size) (by decide +kernel) (by decide +kernel)), (hw_win (w := .static yX11_size) (by decide +kernel) (by decide +kernel))⟩
set_option maxHeartbeats 4000000 in
set_option maxRecDepth 100000 in
theorem m_X11_relieve (l : Launch) (Z : hw_Z) (M : hw_M) (ad : hp_ad) (S : hs_S) (X : hr_X) (b1 : Nat → Prop) (ka : Int32) (hP : hr_ok Z b1 M ad S X) (hV : hv_ok S) (hA : ∀ a, b1 a → M a ≠ none) : Met l yX11_relieve (hw_m yX11_relieve cX11_relieve 2 (some .int)) ({ frames := 8, cells := 2, slots := 90, locals := 250 } : Room) (va_Pc [.ref (ad 0 0), .int ka] (hw_P Z M)) (hw_Qi Z (hr_R Z b1 M ad (st_relieve S ka))) 2 90 (hw_A Z) := by
  refine hw_ofi (by decide +kernel) rfl (Nat.le_of_ble_eq_true rfl) ?_
  intro p e s m below meth c ls Q hx hb hml hown hts hk hnm hI hl hret
  have hB := hV.b
  have hnp := hB.np
  have hnw := hB.nw
  have e0_0hP : M (ad 0 0) = hw_ob 12 [.int (hr_th X), .int (hs_G S 0), .int (hs_G S 1), .ref (ad 0 2), .ref (ad 0 3), .ref (ad 0 1)] := hP.m 0 0 (show 0 < 4 by decide)
  refine lv_aload_n hx hb dX11_relieve_0 rfl (lv_at hl 0 rfl) ?_
  refine lv_iconst (v := nI 0) hx hb dX11_relieve_1 (by decide) ?_
  refine hw_put (fs' := [.int (nI 0), .int (hs_G S 0), .int (hs_G S 1), .ref (ad 0 2), .ref (ad 0 3), .ref (ad 0 1)]) hx hb hts hown hk hI fp_X11_26 e0_0hP (Nat.le_of_ble_eq_true rfl) rfl rfl rfl dX11_relieve_2 (fun H locs hI => ?_)
  obtain ⟨M1, hM1⟩ : ∃ Y : hw_M, Y = va_up M (ad 0 0) (hw_ob 12 [.int (nI 0), .int (hs_G S 0), .int (hs_G S 1), .ref (ad 0 2), .ref (ad 0 3), .ref (ad 0 1)]) := ⟨_, rfl⟩
  replace hI := hI.eq hM1.symm
  obtain ⟨X1, hX1⟩ : ∃ Y : hr_X, Y = (nI 0, X.2) := ⟨_, rfl⟩
  have hP1 : hr_ok Z b1 M1 ad S X1 := by rw [hM1, hX1]; exact hP.th (nI 0)
  have ht1 : hr_th X1 = nI 0 := by rw [hX1]; rfl
  have hgr1 : hr_gr X1 = hr_gr X := by rw [hX1]; rfl
  have hqq1 : hr_qq X1 = hr_qq X := by rw [hX1]; rfl
  have fr1 : ∀ a, b1 a → M1 a = M a := fun a ha => by rw [hM1]; exact va_up_ne _ _ (hP.f (k := 0) (i := 0) (show 0 < 4 by decide) ha)
  have hA1 : ∀ a, b1 a → M1 a ≠ none := fun a ha => by rw [fr1 a ha]; exact hA a ha
  clear hP hX1
  have e0_0hP1 : M1 (ad 0 0) = hw_ob 12 [.int (hr_th X1), .int (hs_G S 0), .int (hs_G S 1), .ref (ad 0 2), .ref (ad 0 3), .ref (ad 0 1)] := hP1.m 0 0 (show 0 < 4 by decide)
  have e0_2hP1 : M1 (ad 0 2) = hw_ob 0 [.int (hr_mc X1 0), .ref (hr_d (hs_np S) Z.2.2.2 (ad 11 0)), .int (nI (hs_np S))] := hP1.m 0 2 (show 2 < 4 by decide)
  refine lv_aload_n hx hb dX11_relieve_5 rfl (lv_at hl 0 rfl) ?_
  refine lv_iload_n hx hb dX11_relieve_6 rfl (lv_at hl 1 rfl) ?_
  refine hw_ci hI (hw_rV hx hb hml hown hts hk hI (m_X11_isPiece l Z M1 (ad 0 0) (ad 0 2) (ad 0 3) (ad 0 1) (hr_th X1) (hs_G S 0) (hs_G S 1) ka (hr_mc X1 0) (hs_np S) (.ref (hr_d (hs_np S) Z.2.2.2 (ad 11 0))) e0_0hP1 e0_2hP1 (by omega)) cv_X11_55 e0_0hP1 rfl rfl ⟨rfl, rfl⟩ ⟨(Nat.le_of_ble_eq_true rfl), (Nat.le_of_ble_eq_true rfl)⟩ rfl hl.1 rfl (Nat.le_of_ble_eq_true rfl) ⟨(Nat.le_of_ble_eq_true rfl), (Nat.le_of_ble_eq_true rfl)⟩ dX11_relieve_7) (fun r7 M7 H locs hR hI => ?_)
  obtain ⟨rfl, rfl⟩ := hR
  refine lv_if_ne (tgt := 19) hx hb dX11_relieve_10 (by decide) (fun c10 => ?_) (fun c10 => ?_)
  · have gk := hq_dt c10
    have hx_ka := hb_okx (by omega) gk
    have hi_ka : hb_ix ka < hs_np S := hx_ka.1
    have h4_ka : hb_ix ka < 4 := by omega
    have h11 : 0 = 0 ∧ 0 < hs_np S := ⟨rfl, by omega⟩
    have e0_2hP1 : M1 (ad 0 2) = hw_ob 0 [.int (hr_mc X1 0), .ref (ad 11 0), .int (nI (hs_np S))] := by
      have q := hP1.m 0 2 (show 2 < 4 by decide)
      rw [show hr_e Z ad S X1 0 2 = hw_ob 0 [.int (hr_mc X1 0), .ref (hr_d (hs_np S) Z.2.2.2 (ad 11 0)), .int (nI (hs_np S))] from rfl, hr_d0 h11.2] at q
      exact q
    have e11_0hP1 : M1 (ad 11 0) = hw_ar Z 7 10 (hc_f (ad 1) (hs_np S)) := hP1.m 11 0 h11
    have e1_hb_ix_kahP1 : M1 (ad 1 (hb_ix ka)) = hw_ob 9 [.ref (ad 2 (hb_ix ka)), .int (hs_P S (hb_ix ka) 0), .ref (ad 4 (hb_ix ka)), .int (hs_P S (hb_ix ka) 3), .int (hs_P S (hb_ix ka) 4), .int (hs_P S (hb_ix ka) 5), .int (hs_P S (hb_ix ka) 6), .int (hs_P S (hb_ix ka) 7), .int (hs_P S (hb_ix ka) 8)] := hP1.m 1 (hb_ix ka) hi_ka
    have e4_hb_ix_kahP1 : M1 (ad 4 (hb_ix ka)) = hw_ob 7 [.double (hr_en (hs_P S (hb_ix ka))), .ref (ad 5 (hb_ix ka)), .double (hs_U S (hb_ix ka)), .int (hs_P S (hb_ix ka) 1), .int (hs_P S (hb_ix ka) 2), .int (nI (hs_D S (hb_ix ka)))] := hP1.m 4 (hb_ix ka) hi_ka
    refine lv_aload_n hx hb dX11_relieve_19 rfl (lv_at hl 0 rfl) ?_
    refine hw_get hx hb hts hown hk hI fd_X11_10 e0_0hP1 rfl dX11_relieve_20 ?_
    refine lv_iload_n hx hb dX11_relieve_23 rfl (lv_at hl 1 rfl) ?_
    refine hw_ti hx_ka.2 ?_
    refine hw_cFr hI (hw_rF hx hb hml hown hts hk hI (m_Jx4a65c_get_915e3 l Z M1 (ad 0 2) (ad 11 0) (hs_np S) (hb_ix ka) (ad 1 (hb_ix ka)) (hr_mc X1 0) (hc_f (ad 1) (hs_np S)) e0_2hP1 e11_0hP1 hi_ka (by omega) (if_pos hi_ka)) cf_X11_59 e0_2hP1 rfl rfl ⟨rfl, rfl⟩ ⟨(Nat.le_of_ble_eq_true rfl), (Nat.le_of_ble_eq_true rfl)⟩ rfl hl.1 rfl (Nat.le_of_ble_eq_true rfl) ⟨(Nat.le_of_ble_eq_true rfl), (Nat.le_of_ble_eq_true rfl)⟩ dX11_relieve_24) (fun r24 M24 H locs hR hI => ?_)
    obtain ⟨rfl, rfl⟩ := hR
    refine hw_cast hx hb hts hown hk hI e1_hb_ix_kahP1 rfl (hw_win (w := .classLink RX11 48 RX8) (by decide +kernel) (by decide +kernel)) dX11_relieve_29 ?_
    refine hw_get hx hb hts hown hk hI fd_X11_63 e1_hb_ix_kahP1 rfl dX11_relieve_32 ?_
    refine lv_iconst (v := nI 2) hx hb dX11_relieve_35 (by decide) ?_
    refine lv_icmp_eq (tgt := 45) hx hb dX11_relieve_36 (by decide) (fun c36 => ?_) (fun c36 => ?_)
    · refine lv_aload_n hx hb dX11_relieve_45 rfl (lv_at hl 0 rfl) ?_
      refine hw_get hx hb hts hown hk hI fd_X11_10 e0_0hP1 rfl dX11_relieve_46 ?_
      refine lv_iload_n hx hb dX11_relieve_49 rfl (lv_at hl 1 rfl) ?_
      refine hw_ti hx_ka.2 ?_
      refine hw_cFr hI (hw_rF hx hb hml hown hts hk hI (m_Jx4a65c_get_915e3 l Z M1 (ad 0 2) (ad 11 0) (hs_np S) (hb_ix ka) (ad 1 (hb_ix ka)) (hr_mc X1 0) (hc_f (ad 1) (hs_np S)) e0_2hP1 e11_0hP1 hi_ka (by omega) (if_pos hi_ka)) cf_X11_59 e0_2hP1 rfl rfl ⟨rfl, rfl⟩ ⟨(Nat.le_of_ble_eq_true rfl), (Nat.le_of_ble_eq_true rfl)⟩ rfl hl.1 rfl (Nat.le_of_ble_eq_true rfl) ⟨(Nat.le_of_ble_eq_true rfl), (Nat.le_of_ble_eq_true rfl)⟩ dX11_relieve_50) (fun r50 M50 H locs hR hI => ?_)
      obtain ⟨rfl, rfl⟩ := hR
      refine hw_cast hx hb hts hown hk hI e1_hb_ix_kahP1 rfl (hw_win (w := .classLink RX11 48 RX8) (by decide +kernel) (by decide +kernel)) dX11_relieve_55 ?_
      refine lv_iconst (v := nI 3) hx hb dX11_relieve_58 (by decide) ?_
      refine hw_put (fs' := [.ref (ad 2 (hb_ix ka)), .int (nI 3), .ref (ad 4 (hb_ix ka)), .int (hs_P S (hb_ix ka) 3), .int (hs_P S (hb_ix ka) 4), .int (hs_P S (hb_ix ka) 5), .int (hs_P S (hb_ix ka) 6), .int (hs_P S (hb_ix ka) 7), .int (hs_P S (hb_ix ka) 8)]) hx hb hts hown hk hI fp_X11_63 e1_hb_ix_kahP1 (Nat.le_of_ble_eq_true rfl) rfl rfl rfl dX11_relieve_59 (fun H locs hI => ?_)
      refine lv_aload_n hx hb dX11_relieve_62 rfl (lv_at hl 0 rfl) ?_
      refine hw_get hx hb hts hown hk hI fd_X11_10 (hw_up e0_0hP1 (hP1.n (k := 0) (i := 0) (k' := 1) (i' := (hb_ix ka)) (show 0 < 4 by decide) hi_ka (fun q => absurd q.1 (by decide)))) rfl dX11_relieve_63 ?_
      refine lv_iload_n hx hb dX11_relieve_66 rfl (lv_at hl 1 rfl) ?_
      refine hw_ti hx_ka.2 ?_
      refine hw_cFr hI (hw_rF hx hb hml hown hts hk hI (m_Jx4a65c_get_915e3 l Z (va_up M1 (ad 1 (hb_ix ka)) (hw_ob 9 [.ref (ad 2 (hb_ix ka)), .int (nI 3), .ref (ad 4 (hb_ix ka)), .int (hs_P S (hb_ix ka) 3), .int (hs_P S (hb_ix ka) 4), .int (hs_P S (hb_ix ka) 5), .int (hs_P S (hb_ix ka) 6), .int (hs_P S (hb_ix ka) 7), .int (hs_P S (hb_ix ka) 8)])) (ad 0 2) (ad 11 0) (hs_np S) (hb_ix ka) (ad 1 (hb_ix ka)) (hr_mc X1 0) (hc_f (ad 1) (hs_np S)) (hw_up e0_2hP1 (hP1.n (k := 0) (i := 2) (k' := 1) (i' := (hb_ix ka)) (show 2 < 4 by decide) hi_ka (fun q => absurd q.1 (by decide)))) (hw_up e11_0hP1 (hP1.n (k := 11) (i := 0) (k' := 1) (i' := (hb_ix ka)) h11 hi_ka (fun q => absurd q.1 (by decide)))) hi_ka (by omega) (if_pos hi_ka)) cf_X11_59 (hw_up e0_2hP1 (hP1.n (k := 0) (i := 2) (k' := 1) (i' := (hb_ix ka)) (show 2 < 4 by decide) hi_ka (fun q => absurd q.1 (by decide)))) rfl rfl ⟨rfl, rfl⟩ ⟨(Nat.le_of_ble_eq_true rfl), (Nat.le_of_ble_eq_true rfl)⟩ rfl hl.1 rfl (Nat.le_of_ble_eq_true rfl) ⟨(Nat.le_of_ble_eq_true rfl), (Nat.le_of_ble_eq_true rfl)⟩ dX11_relieve_67) (fun r67 M67 H locs hR hI => ?_)
      obtain ⟨rfl, rfl⟩ := hR
      refine hw_cast hx hb hts hown hk hI (hw_us _ _ _) rfl (hw_win (w := .classLink RX11 48 RX8) (by decide +kernel) (by decide +kernel)) dX11_relieve_72 ?_
      refine hw_get hx hb hts hown hk hI fd_X11_148 (hw_us _ _ _) rfl dX11_relieve_75 ?_
      refine hw_get hx hb hts hown hk hI fd_X11_189 (hw_up e4_hb_ix_kahP1 (hP1.n (k := 4) (i := (hb_ix ka)) (k' := 1) (i' := (hb_ix ka)) hi_ka hi_ka (fun q => absurd q.1 (by decide)))) rfl dX11_relieve_78 ?_
      have hok : hr_ok Z b1 (va_up M1 (ad 1 (hb_ix ka)) (hw_ob 9 [.ref (ad 2 (hb_ix ka)), .int (nI 3), .ref (ad 4 (hb_ix ka)), .int (hs_P S (hb_ix ka) 3), .int (hs_P S (hb_ix ka) 4), .int (hs_P S (hb_ix ka) 5), .int (hs_P S (hb_ix ka) 6), .int (hs_P S (hb_ix ka) 7), .int (hs_P S (hb_ix ka) 8)])) ad (hs_sP S (hb_ix ka) (va_up (hs_P S (hb_ix ka)) 0 (nI 3))) (X1) := by
        refine hr_old hP1 (fun _ _ hi => hi) ?_ hP1.q hP1.g
        intro k i hi
        rcases k with _ | _ | _ | _ | _ | _ | _ | _ | _ | _ | _ | _ | _ | k
        · rcases (show i = 0 ∨ i = 1 ∨ i = 2 ∨ i = 3 by have h4 : i < 4 := hi; omega) with rfl | rfl | rfl | rfl
          · show (va_up M1 (ad 1 (hb_ix ka)) (hw_ob 9 [.ref (ad 2 (hb_ix ka)), .int (nI 3), .ref (ad 4 (hb_ix ka)), .int (hs_P S (hb_ix ka) 3), .int (hs_P S (hb_ix ka) 4), .int (hs_P S (hb_ix ka) 5), .int (hs_P S (hb_ix ka) 6), .int (hs_P S (hb_ix ka) 7), .int (hs_P S (hb_ix ka) 8)])) (ad 0 0) = hw_ob 12 [.int (hr_th X1), .int (hs_G S 0), .int (hs_G S 1), .ref (ad 0 2), .ref (ad 0 3), .ref (ad 0 1)]
            rw [va_up_ne _ _ (hP1.n (k := 0) (i := 0) (k' := 1) (i' := (hb_ix ka)) (show 0 < 4 by decide) hi_ka (fun q => absurd q.1 (by decide)))]
            refine (hP1.m 0 0 (show 0 < 4 by decide)).trans ?_
            first | rfl | (simp only [va_up_self]; done) | (simp only [va_up_self]; rfl)
          · show (va_up M1 (ad 1 (hb_ix ka)) (hw_ob 9 [.ref (ad 2 (hb_ix ka)), .int (nI 3), .ref (ad 4 (hb_ix ka)), .int (hs_P S (hb_ix ka) 3), .int (hs_P S (hb_ix ka) 4), .int (hs_P S (hb_ix ka) 5), .int (hs_P S (hb_ix ka) 6), .int (hs_P S (hb_ix ka) 7), .int (hs_P S (hb_ix ka) 8)])) (ad 0 1) = hw_ar Z 6 2 (fun j => some (ad 7 j))
            rw [va_up_ne _ _ (hP1.n (k := 0) (i := 1) (k' := 1) (i' := (hb_ix ka)) (show 1 < 4 by decide) hi_ka (fun q => absurd q.1 (by decide)))]
            refine (hP1.m 0 1 (show 1 < 4 by decide)).trans ?_
            first | rfl | (simp only [va_up_self]; done) | (simp only [va_up_self]; rfl)
          · show (va_up M1 (ad 1 (hb_ix ka)) (hw_ob 9 [.ref (ad 2 (hb_ix ka)), .int (nI 3), .ref (ad 4 (hb_ix ka)), .int (hs_P S (hb_ix ka) 3), .int (hs_P S (hb_ix ka) 4), .int (hs_P S (hb_ix ka) 5), .int (hs_P S (hb_ix ka) 6), .int (hs_P S (hb_ix ka) 7), .int (hs_P S (hb_ix ka) 8)])) (ad 0 2) = hw_ob 0 [.int (hr_mc X1 0), .ref (hr_d (hs_np S) Z.2.2.2 (ad 11 0)), .int (nI (hs_np S))]
            rw [va_up_ne _ _ (hP1.n (k := 0) (i := 2) (k' := 1) (i' := (hb_ix ka)) (show 2 < 4 by decide) hi_ka (fun q => absurd q.1 (by decide)))]
            refine (hP1.m 0 2 (show 2 < 4 by decide)).trans ?_
            first | rfl | (simp only [va_up_self]; done) | (simp only [va_up_self]; rfl)
          · show (va_up M1 (ad 1 (hb_ix ka)) (hw_ob 9 [.ref (ad 2 (hb_ix ka)), .int (nI 3), .ref (ad 4 (hb_ix ka)), .int (hs_P S (hb_ix ka) 3), .int (hs_P S (hb_ix ka) 4), .int (hs_P S (hb_ix ka) 5), .int (hs_P S (hb_ix ka) 6), .int (hs_P S (hb_ix ka) 7), .int (hs_P S (hb_ix ka) 8)])) (ad 0 3) = hw_ob 0 [.int (hr_mc X1 1), .ref (hr_d (hs_nw S) Z.2.2.2 (ad 12 0)), .int (nI (hs_nw S))]
            rw [va_up_ne _ _ (hP1.n (k := 0) (i := 3) (k' := 1) (i' := (hb_ix ka)) (show 3 < 4 by decide) hi_ka (fun q => absurd q.1 (by decide)))]
            refine (hP1.m 0 3 (show 3 < 4 by decide)).trans ?_
            first | rfl | (simp only [va_up_self]; done) | (simp only [va_up_self]; rfl)
        · by_cases q0 : i = (hb_ix ka)
          · subst q0
            show (va_up M1 (ad 1 (hb_ix ka)) (hw_ob 9 [.ref (ad 2 (hb_ix ka)), .int (nI 3), .ref (ad 4 (hb_ix ka)), .int (hs_P S (hb_ix ka) 3), .int (hs_P S (hb_ix ka) 4), .int (hs_P S (hb_ix ka) 5), .int (hs_P S (hb_ix ka) 6), .int (hs_P S (hb_ix ka) 7), .int (hs_P S (hb_ix ka) 8)])) (ad 1 (hb_ix ka)) = hw_ob 9 [.ref (ad 2 (hb_ix ka)), .int ((va_up (hs_P S) (hb_ix ka) (va_up (hs_P S (hb_ix ka)) 0 (nI 3))) (hb_ix ka) 0), .ref (ad 4 (hb_ix ka)), .int ((va_up (hs_P S) (hb_ix ka) (va_up (hs_P S (hb_ix ka)) 0 (nI 3))) (hb_ix ka) 3), .int ((va_up (hs_P S) (hb_ix ka) (va_up (hs_P S (hb_ix ka)) 0 (nI 3))) (hb_ix ka) 4), .int ((va_up (hs_P S) (hb_ix ka) (va_up (hs_P S (hb_ix ka)) 0 (nI 3))) (hb_ix ka) 5), .int ((va_up (hs_P S) (hb_ix ka) (va_up (hs_P S (hb_ix ka)) 0 (nI 3))) (hb_ix ka) 6), .int ((va_up (hs_P S) (hb_ix ka) (va_up (hs_P S (hb_ix ka)) 0 (nI 3))) (hb_ix ka) 7), .int ((va_up (hs_P S) (hb_ix ka) (va_up (hs_P S (hb_ix ka)) 0 (nI 3))) (hb_ix ka) 8)]
            refine (hw_us _ _ _).trans ?_
            first | rfl | (simp only [va_up_self]; done) | (simp only [va_up_self]; rfl)
          show (va_up M1 (ad 1 (hb_ix ka)) (hw_ob 9 [.ref (ad 2 (hb_ix ka)), .int (nI 3), .ref (ad 4 (hb_ix ka)), .int (hs_P S (hb_ix ka) 3), .int (hs_P S (hb_ix ka) 4), .int (hs_P S (hb_ix ka) 5), .int (hs_P S (hb_ix ka) 6), .int (hs_P S (hb_ix ka) 7), .int (hs_P S (hb_ix ka) 8)])) (ad 1 i) = hw_ob 9 [.ref (ad 2 i), .int ((va_up (hs_P S) (hb_ix ka) (va_up (hs_P S (hb_ix ka)) 0 (nI 3))) i 0), .ref (ad 4 i), .int ((va_up (hs_P S) (hb_ix ka) (va_up (hs_P S (hb_ix ka)) 0 (nI 3))) i 3), .int ((va_up (hs_P S) (hb_ix ka) (va_up (hs_P S (hb_ix ka)) 0 (nI 3))) i 4), .int ((va_up (hs_P S) (hb_ix ka) (va_up (hs_P S (hb_ix ka)) 0 (nI 3))) i 5), .int ((va_up (hs_P S) (hb_ix ka) (va_up (hs_P S (hb_ix ka)) 0 (nI 3))) i 6), .int ((va_up (hs_P S) (hb_ix ka) (va_up (hs_P S (hb_ix ka)) 0 (nI 3))) i 7), .int ((va_up (hs_P S) (hb_ix ka) (va_up (hs_P S (hb_ix ka)) 0 (nI 3))) i 8)]
          rw [va_up_ne _ _ (hP1.n (k := 1) (i := i) (k' := 1) (i' := (hb_ix ka)) hi hi_ka (fun q => q0 q.2))]
          refine (hP1.m 1 i hi).trans ?_
          first | rfl | (simp only [va_up_ne _ _ q0]; done) | (simp only [va_up_ne _ _ q0]; rfl)
        · show (va_up M1 (ad 1 (hb_ix ka)) (hw_ob 9 [.ref (ad 2 (hb_ix ka)), .int (nI 3), .ref (ad 4 (hb_ix ka)), .int (hs_P S (hb_ix ka) 3), .int (hs_P S (hb_ix ka) 4), .int (hs_P S (hb_ix ka) 5), .int (hs_P S (hb_ix ka) 6), .int (hs_P S (hb_ix ka) 7), .int (hs_P S (hb_ix ka) 8)])) (ad 2 i) = hw_ob 11 [.ref (ad 3 i)]
          rw [va_up_ne _ _ (hP1.n (k := 2) (i := i) (k' := 1) (i' := (hb_ix ka)) hi hi_ka (fun q => absurd q.1 (by decide)))]
          refine (hP1.m 2 i hi).trans ?_
          first | rfl
        · show (va_up M1 (ad 1 (hb_ix ka)) (hw_ob 9 [.ref (ad 2 (hb_ix ka)), .int (nI 3), .ref (ad 4 (hb_ix ka)), .int (hs_P S (hb_ix ka) 3), .int (hs_P S (hb_ix ka) 4), .int (hs_P S (hb_ix ka) 5), .int (hs_P S (hb_ix ka) 6), .int (hs_P S (hb_ix ka) 7), .int (hs_P S (hb_ix ka) 8)])) (ad 3 i) = hw_al Z 8 (hs_C S i)
          rw [va_up_ne _ _ (hP1.n (k := 3) (i := i) (k' := 1) (i' := (hb_ix ka)) hi hi_ka (fun q => absurd q.1 (by decide)))]
          refine (hP1.m 3 i hi).trans ?_
          first | rfl
        · by_cases q0 : i = (hb_ix ka)
          · subst q0
            show (va_up M1 (ad 1 (hb_ix ka)) (hw_ob 9 [.ref (ad 2 (hb_ix ka)), .int (nI 3), .ref (ad 4 (hb_ix ka)), .int (hs_P S (hb_ix ka) 3), .int (hs_P S (hb_ix ka) 4), .int (hs_P S (hb_ix ka) 5), .int (hs_P S (hb_ix ka) 6), .int (hs_P S (hb_ix ka) 7), .int (hs_P S (hb_ix ka) 8)])) (ad 4 (hb_ix ka)) = hw_ob 7 [.double (hr_en ((va_up (hs_P S) (hb_ix ka) (va_up (hs_P S (hb_ix ka)) 0 (nI 3))) (hb_ix ka))), .ref (ad 5 (hb_ix ka)), .double (hs_U S (hb_ix ka)), .int ((va_up (hs_P S) (hb_ix ka) (va_up (hs_P S (hb_ix ka)) 0 (nI 3))) (hb_ix ka) 1), .int ((va_up (hs_P S) (hb_ix ka) (va_up (hs_P S (hb_ix ka)) 0 (nI 3))) (hb_ix ka) 2), .int (nI (hs_D S (hb_ix ka)))]
            rw [va_up_ne _ _ (hP1.n (k := 4) (i := (hb_ix ka)) (k' := 1) (i' := (hb_ix ka)) hi_ka hi_ka (fun q => absurd q.1 (by decide)))]
            refine (hP1.m 4 (hb_ix ka) hi_ka).trans ?_
            show hw_ob 7 [.double (hr_en (hs_P S (hb_ix ka))), .ref (ad 5 (hb_ix ka)), .double (hs_U S (hb_ix ka)), .int (hs_P S (hb_ix ka) 1), .int (hs_P S (hb_ix ka) 2), .int (nI (hs_D S (hb_ix ka)))] = _
            first | rfl | (simp only [va_up_self]; done) | (simp only [va_up_self]; rfl)
          show (va_up M1 (ad 1 (hb_ix ka)) (hw_ob 9 [.ref (ad 2 (hb_ix ka)), .int (nI 3), .ref (ad 4 (hb_ix ka)), .int (hs_P S (hb_ix ka) 3), .int (hs_P S (hb_ix ka) 4), .int (hs_P S (hb_ix ka) 5), .int (hs_P S (hb_ix ka) 6), .int (hs_P S (hb_ix ka) 7), .int (hs_P S (hb_ix ka) 8)])) (ad 4 i) = hw_ob 7 [.double (hr_en ((va_up (hs_P S) (hb_ix ka) (va_up (hs_P S (hb_ix ka)) 0 (nI 3))) i)), .ref (ad 5 i), .double (hs_U S i), .int ((va_up (hs_P S) (hb_ix ka) (va_up (hs_P S (hb_ix ka)) 0 (nI 3))) i 1), .int ((va_up (hs_P S) (hb_ix ka) (va_up (hs_P S (hb_ix ka)) 0 (nI 3))) i 2), .int (nI (hs_D S i))]
          rw [va_up_ne _ _ (hP1.n (k := 4) (i := i) (k' := 1) (i' := (hb_ix ka)) hi hi_ka (fun q => absurd q.1 (by decide)))]
          refine (hP1.m 4 i hi).trans ?_
          first | rfl | (simp only [va_up_ne _ _ q0]; done) | (simp only [va_up_ne _ _ q0]; rfl)
        · show (va_up M1 (ad 1 (hb_ix ka)) (hw_ob 9 [.ref (ad 2 (hb_ix ka)), .int (nI 3), .ref (ad 4 (hb_ix ka)), .int (hs_P S (hb_ix ka) 3), .int (hs_P S (hb_ix ka) 4), .int (hs_P S (hb_ix ka) 5), .int (hs_P S (hb_ix ka) 6), .int (hs_P S (hb_ix ka) 7), .int (hs_P S (hb_ix ka) 8)])) (ad 5 i) = hw_ad Z 64 (hs_W S i)
          rw [va_up_ne _ _ (hP1.n (k := 5) (i := i) (k' := 1) (i' := (hb_ix ka)) hi hi_ka (fun q => absurd q.1 (by decide)))]
          refine (hP1.m 5 i hi).trans ?_
          first | rfl
        · show (va_up M1 (ad 1 (hb_ix ka)) (hw_ob 9 [.ref (ad 2 (hb_ix ka)), .int (nI 3), .ref (ad 4 (hb_ix ka)), .int (hs_P S (hb_ix ka) 3), .int (hs_P S (hb_ix ka) 4), .int (hs_P S (hb_ix ka) 5), .int (hs_P S (hb_ix ka) 6), .int (hs_P S (hb_ix ka) 7), .int (hs_P S (hb_ix ka) 8)])) (ad 6 i) = hw_ob 10 [.int (hs_V S i 0), .int (hs_V S i 1), .int (hs_V S i 2), .int (hs_V S i 3), .int (hs_V S i 4)]
          rw [va_up_ne _ _ (hP1.n (k := 6) (i := i) (k' := 1) (i' := (hb_ix ka)) hi hi_ka (fun q => absurd q.1 (by decide)))]
          refine (hP1.m 6 i hi).trans ?_
          first | rfl
        · show (va_up M1 (ad 1 (hb_ix ka)) (hw_ob 9 [.ref (ad 2 (hb_ix ka)), .int (nI 3), .ref (ad 4 (hb_ix ka)), .int (hs_P S (hb_ix ka) 3), .int (hs_P S (hb_ix ka) 4), .int (hs_P S (hb_ix ka) 5), .int (hs_P S (hb_ix ka) 6), .int (hs_P S (hb_ix ka) 7), .int (hs_P S (hb_ix ka) 8)])) (ad 7 i) = hw_ob 8 [.int (hs_M S i 0), .int (hs_M S i 1), .int (hs_M S i 2), .int (hs_M S i 3), .ref (ad 8 i)]
          rw [va_up_ne _ _ (hP1.n (k := 7) (i := i) (k' := 1) (i' := (hb_ix ka)) hi hi_ka (fun q => absurd q.1 (by decide)))]
          refine (hP1.m 7 i hi).trans ?_
          first | rfl
        · show (va_up M1 (ad 1 (hb_ix ka)) (hw_ob 9 [.ref (ad 2 (hb_ix ka)), .int (nI 3), .ref (ad 4 (hb_ix ka)), .int (hs_P S (hb_ix ka) 3), .int (hs_P S (hb_ix ka) 4), .int (hs_P S (hb_ix ka) 5), .int (hs_P S (hb_ix ka) 6), .int (hs_P S (hb_ix ka) 7), .int (hs_P S (hb_ix ka) 8)])) (ad 8 i) = hw_ob 0 [.int (hr_mc X1 (2 + i)), .ref (if hr_gr X1 i then ad 9 i else Z.2.2.2), .int (nI (hs_N S i))]
          rw [va_up_ne _ _ (hP1.n (k := 8) (i := i) (k' := 1) (i' := (hb_ix ka)) hi hi_ka (fun q => absurd q.1 (by decide)))]
          refine (hP1.m 8 i hi).trans ?_
          first | rfl
        · show (va_up M1 (ad 1 (hb_ix ka)) (hw_ob 9 [.ref (ad 2 (hb_ix ka)), .int (nI 3), .ref (ad 4 (hb_ix ka)), .int (hs_P S (hb_ix ka) 3), .int (hs_P S (hb_ix ka) 4), .int (hs_P S (hb_ix ka) 5), .int (hs_P S (hb_ix ka) 6), .int (hs_P S (hb_ix ka) 7), .int (hs_P S (hb_ix ka) 8)])) (ad 9 i) = hw_ar Z 7 10 (hc_f (fun j => ad 10 (i + 2 * j)) (hs_N S i))
          rw [va_up_ne _ _ (hP1.n (k := 9) (i := i) (k' := 1) (i' := (hb_ix ka)) hi hi_ka (fun q => absurd q.1 (by decide)))]
          refine (hP1.m 9 i hi).trans ?_
          first | rfl
        · show (va_up M1 (ad 1 (hb_ix ka)) (hw_ob 9 [.ref (ad 2 (hb_ix ka)), .int (nI 3), .ref (ad 4 (hb_ix ka)), .int (hs_P S (hb_ix ka) 3), .int (hs_P S (hb_ix ka) 4), .int (hs_P S (hb_ix ka) 5), .int (hs_P S (hb_ix ka) 6), .int (hs_P S (hb_ix ka) 7), .int (hs_P S (hb_ix ka) 8)])) (ad 10 i) = hw_ai Z 3 (hr_qq X1 (i % 2) (i / 2))
          rw [va_up_ne _ _ (hP1.n (k := 10) (i := i) (k' := 1) (i' := (hb_ix ka)) hi hi_ka (fun q => absurd q.1 (by decide)))]
          refine (hP1.m 10 i hi).trans ?_
          first | rfl
        · show (va_up M1 (ad 1 (hb_ix ka)) (hw_ob 9 [.ref (ad 2 (hb_ix ka)), .int (nI 3), .ref (ad 4 (hb_ix ka)), .int (hs_P S (hb_ix ka) 3), .int (hs_P S (hb_ix ka) 4), .int (hs_P S (hb_ix ka) 5), .int (hs_P S (hb_ix ka) 6), .int (hs_P S (hb_ix ka) 7), .int (hs_P S (hb_ix ka) 8)])) (ad 11 i) = hw_ar Z 7 10 (hc_f (ad 1) (hs_np S))
          rw [va_up_ne _ _ (hP1.n (k := 11) (i := i) (k' := 1) (i' := (hb_ix ka)) hi hi_ka (fun q => absurd q.1 (by decide)))]
          refine (hP1.m 11 i hi).trans ?_
          first | rfl
        · show (va_up M1 (ad 1 (hb_ix ka)) (hw_ob 9 [.ref (ad 2 (hb_ix ka)), .int (nI 3), .ref (ad 4 (hb_ix ka)), .int (hs_P S (hb_ix ka) 3), .int (hs_P S (hb_ix ka) 4), .int (hs_P S (hb_ix ka) 5), .int (hs_P S (hb_ix ka) 6), .int (hs_P S (hb_ix ka) 7), .int (hs_P S (hb_ix ka) 8)])) (ad 12 i) = hw_ar Z 7 10 (hc_f (ad 6) (hs_nw S))
          rw [va_up_ne _ _ (hP1.n (k := 12) (i := i) (k' := 1) (i' := (hb_ix ka)) hi hi_ka (fun q => absurd q.1 (by decide)))]
          refine (hP1.m 12 i hi).trans ?_
          first | rfl
        · exact hi.elim
      have fr_hok : ∀ a, b1 a → (va_up M1 (ad 1 (hb_ix ka)) (hw_ob 9 [.ref (ad 2 (hb_ix ka)), .int (nI 3), .ref (ad 4 (hb_ix ka)), .int (hs_P S (hb_ix ka) 3), .int (hs_P S (hb_ix ka) 4), .int (hs_P S (hb_ix ka) 5), .int (hs_P S (hb_ix ka) 6), .int (hs_P S (hb_ix ka) 7), .int (hs_P S (hb_ix ka) 8)])) a = M a := fun a ha => by rw [va_up_ne _ _ (hP1.f (k := 1) (i := (hb_ix ka)) hi_ka ha)]; exact fr1 a ha
      have hfin : hr_R Z b1 M ad (st_relieve S ka) (hs_P S (hb_ix ka) 1) (va_up M1 (ad 1 (hb_ix ka)) (hw_ob 9 [.ref (ad 2 (hb_ix ka)), .int (nI 3), .ref (ad 4 (hb_ix ka)), .int (hs_P S (hb_ix ka) 3), .int (hs_P S (hb_ix ka) 4), .int (hs_P S (hb_ix ka) 5), .int (hs_P S (hb_ix ka) 6), .int (hs_P S (hb_ix ka) 7), .int (hs_P S (hb_ix ka) 8)])) := hr_r (S' := hs_sP S (hb_ix ka) (va_up (hs_P S (hb_ix ka)) 0 (nI 3))) (X' := X1) (ad' := ad) (by unfold st_relieve; exact ((if_neg (fun q => q gk)).trans ((if_neg (fun q => q c36)).trans rfl))) rfl hok ht1 fr_hok
      exact hret hI hfin (Nat.le_of_ble_eq_true rfl) (Nat.le_of_ble_eq_true rfl) dX11_relieve_81
    · refine lv_aload_n hx hb dX11_relieve_39 rfl (lv_at hl 0 rfl) ?_
      refine lv_iconst (v := nI 2) hx hb dX11_relieve_40 (by decide) ?_
      refine hw_ci hI (hw_rV hx hb hml hown hts hk hI (m_X11_no l Z M1 (ad 0 0) (ad 0 2) (ad 0 3) (ad 0 1) (hr_th X1) (hs_G S 0) (hs_G S 1) (nI 2) e0_0hP1) cv_X11_44 e0_0hP1 rfl rfl ⟨rfl, rfl⟩ ⟨(Nat.le_of_ble_eq_true rfl), (Nat.le_of_ble_eq_true rfl)⟩ rfl hl.1 rfl (Nat.le_of_ble_eq_true rfl) ⟨(Nat.le_of_ble_eq_true rfl), (Nat.le_of_ble_eq_true rfl)⟩ dX11_relieve_41) (fun r41 M41 H locs hR hI => ?_)
      obtain ⟨rfl, rfl⟩ := hR
      exact hret hI (hr_x (n := 2) (by unfold st_relieve; exact (hq_el (fun q => q gk) (hq_if c36 ⟨rfl, rfl⟩))) (by decide) (hP1.th (nI 2)) rfl (fun a ha => (va_up_ne _ _ (hP1.f (k := 0) (i := 0) (show 0 < 4 by decide) ha)).trans (fr1 a ha))) (Nat.le_of_ble_eq_true rfl) (Nat.le_of_ble_eq_true rfl) dX11_relieve_44
  · refine lv_aload_n hx hb dX11_relieve_13 rfl (lv_at hl 0 rfl) ?_
    refine lv_iconst (v := nI 1) hx hb dX11_relieve_14 (by decide) ?_
    refine hw_ci hI (hw_rV hx hb hml hown hts hk hI (m_X11_no l Z M1 (ad 0 0) (ad 0 2) (ad 0 3) (ad 0 1) (hr_th X1) (hs_G S 0) (hs_G S 1) (nI 1) e0_0hP1) cv_X11_44 e0_0hP1 rfl rfl ⟨rfl, rfl⟩ ⟨(Nat.le_of_ble_eq_true rfl), (Nat.le_of_ble_eq_true rfl)⟩ rfl hl.1 rfl (Nat.le_of_ble_eq_true rfl) ⟨(Nat.le_of_ble_eq_true rfl), (Nat.le_of_ble_eq_true rfl)⟩ dX11_relieve_15) (fun r15 M15 H locs hR hI => ?_)
    obtain ⟨rfl, rfl⟩ := hR
    exact hret hI (hr_x (n := 1) (by unfold st_relieve; exact (hq_if (hq_df c10) ⟨rfl, rfl⟩)) (by decide) (hP1.th (nI 1)) rfl (fun a ha => (va_up_ne _ _ (hP1.f (k := 0) (i := 0) (show 0 < 4 by decide) ha)).trans (fr1 a ha))) (Nat.le_of_ble_eq_true rfl) (Nat.le_of_ble_eq_true rfl) dX11_relieve_18

set_option maxHeartbeats 4000000 in
set_option maxRecDepth 100000 in
theorem m_X11_saw (l : Launch) (Z : hw_Z) (M : hw_M) (ad : hp_ad) (S : hs_S) (X : hr_X) (b1 : Nat → Prop) (ka : Int32) (hP : hr_ok Z b1 M ad S X) (hV : hv_ok S) (hA : ∀ a, b1 a → M a ≠ none) : Met l yX11_saw (hw_m yX11_saw cX11_saw 3 (some .boolean)) ({ frames := 8, cells := 2, slots := 90, locals := 250 } : Room) (va_Pc [.ref (ad 0 0), .int ka] (hw_P Z M)) (hw_Qi Z (hr_R Z b1 M ad (st_saw S ka))) 2 90 (hw_A Z) := by
  refine hw_ofz (by decide +kernel) rfl (Nat.le_of_ble_eq_true rfl) ?_
  intro p e s m below meth c ls Q hx hb hml hown hts hk hnm hI hl hret
  have hB := hV.b
  have hnp := hB.np
  have hnw := hB.nw
  have e0_0hP : M (ad 0 0) = hw_ob 12 [.int (hr_th X), .int (hs_G S 0), .int (hs_G S 1), .ref (ad 0 2), .ref (ad 0 3), .ref (ad 0 1)] := hP.m 0 0 (show 0 < 4 by decide)
  refine lv_aload_n hx hb dX11_saw_0 rfl (lv_at hl 0 rfl) ?_
  refine lv_iconst (v := nI 0) hx hb dX11_saw_1 (by decide) ?_
  refine hw_put (fs' := [.int (nI 0), .int (hs_G S 0), .int (hs_G S 1), .ref (ad 0 2), .ref (ad 0 3), .ref (ad 0 1)]) hx hb hts hown hk hI fp_X11_26 e0_0hP (Nat.le_of_ble_eq_true rfl) rfl rfl rfl dX11_saw_2 (fun H locs hI => ?_)
  obtain ⟨M1, hM1⟩ : ∃ Y : hw_M, Y = va_up M (ad 0 0) (hw_ob 12 [.int (nI 0), .int (hs_G S 0), .int (hs_G S 1), .ref (ad 0 2), .ref (ad 0 3), .ref (ad 0 1)]) := ⟨_, rfl⟩
  replace hI := hI.eq hM1.symm
  obtain ⟨X1, hX1⟩ : ∃ Y : hr_X, Y = (nI 0, X.2) := ⟨_, rfl⟩
  have hP1 : hr_ok Z b1 M1 ad S X1 := by rw [hM1, hX1]; exact hP.th (nI 0)
  have ht1 : hr_th X1 = nI 0 := by rw [hX1]; rfl
  have hgr1 : hr_gr X1 = hr_gr X := by rw [hX1]; rfl
  have hqq1 : hr_qq X1 = hr_qq X := by rw [hX1]; rfl
  have fr1 : ∀ a, b1 a → M1 a = M a := fun a ha => by rw [hM1]; exact va_up_ne _ _ (hP.f (k := 0) (i := 0) (show 0 < 4 by decide) ha)
  have hA1 : ∀ a, b1 a → M1 a ≠ none := fun a ha => by rw [fr1 a ha]; exact hA a ha
  clear hP hX1
  have e0_0hP1 : M1 (ad 0 0) = hw_ob 12 [.int (hr_th X1), .int (hs_G S 0), .int (hs_G S 1), .ref (ad 0 2), .ref (ad 0 3), .ref (ad 0 1)] := hP1.m 0 0 (show 0 < 4 by decide)
  have e0_2hP1 : M1 (ad 0 2) = hw_ob 0 [.int (hr_mc X1 0), .ref (hr_d (hs_np S) Z.2.2.2 (ad 11 0)), .int (nI (hs_np S))] := hP1.m 0 2 (show 2 < 4 by decide)
  refine lv_aload_n hx hb dX11_saw_5 rfl (lv_at hl 0 rfl) ?_
  refine lv_iload_n hx hb dX11_saw_6 rfl (lv_at hl 1 rfl) ?_
  refine hw_ci hI (hw_rV hx hb hml hown hts hk hI (m_X11_isPiece l Z M1 (ad 0 0) (ad 0 2) (ad 0 3) (ad 0 1) (hr_th X1) (hs_G S 0) (hs_G S 1) ka (hr_mc X1 0) (hs_np S) (.ref (hr_d (hs_np S) Z.2.2.2 (ad 11 0))) e0_0hP1 e0_2hP1 (by omega)) cv_X11_55 e0_0hP1 rfl rfl ⟨rfl, rfl⟩ ⟨(Nat.le_of_ble_eq_true rfl), (Nat.le_of_ble_eq_true rfl)⟩ rfl hl.1 rfl (Nat.le_of_ble_eq_true rfl) ⟨(Nat.le_of_ble_eq_true rfl), (Nat.le_of_ble_eq_true rfl)⟩ dX11_saw_7) (fun r7 M7 H locs hR hI => ?_)
  obtain ⟨rfl, rfl⟩ := hR
  refine lv_if_ne (tgt := 27) hx hb dX11_saw_10 (by decide) (fun c10 => ?_) (fun c10 => ?_)
  · have gk := hq_dt c10
    have hx_ka := hb_okx (by omega) gk
    have hi_ka : hb_ix ka < hs_np S := hx_ka.1
    have h4_ka : hb_ix ka < 4 := by omega
    have h11 : 0 = 0 ∧ 0 < hs_np S := ⟨rfl, by omega⟩
    have e0_2hP1 : M1 (ad 0 2) = hw_ob 0 [.int (hr_mc X1 0), .ref (ad 11 0), .int (nI (hs_np S))] := by
      have q := hP1.m 0 2 (show 2 < 4 by decide)
      rw [show hr_e Z ad S X1 0 2 = hw_ob 0 [.int (hr_mc X1 0), .ref (hr_d (hs_np S) Z.2.2.2 (ad 11 0)), .int (nI (hs_np S))] from rfl, hr_d0 h11.2] at q
      exact q
    have e11_0hP1 : M1 (ad 11 0) = hw_ar Z 7 10 (hc_f (ad 1) (hs_np S)) := hP1.m 11 0 h11
    have e1_hb_ix_kahP1 : M1 (ad 1 (hb_ix ka)) = hw_ob 9 [.ref (ad 2 (hb_ix ka)), .int (hs_P S (hb_ix ka) 0), .ref (ad 4 (hb_ix ka)), .int (hs_P S (hb_ix ka) 3), .int (hs_P S (hb_ix ka) 4), .int (hs_P S (hb_ix ka) 5), .int (hs_P S (hb_ix ka) 6), .int (hs_P S (hb_ix ka) 7), .int (hs_P S (hb_ix ka) 8)] := hP1.m 1 (hb_ix ka) hi_ka
    refine lv_aload_n hx hb dX11_saw_27 rfl (lv_at hl 0 rfl) ?_
    refine hw_get hx hb hts hown hk hI fd_X11_10 e0_0hP1 rfl dX11_saw_28 ?_
    refine lv_iload_n hx hb dX11_saw_31 rfl (lv_at hl 1 rfl) ?_
    refine hw_ti hx_ka.2 ?_
    refine hw_cFr hI (hw_rF hx hb hml hown hts hk hI (m_Jx4a65c_get_915e3 l Z M1 (ad 0 2) (ad 11 0) (hs_np S) (hb_ix ka) (ad 1 (hb_ix ka)) (hr_mc X1 0) (hc_f (ad 1) (hs_np S)) e0_2hP1 e11_0hP1 hi_ka (by omega) (if_pos hi_ka)) cf_X11_59 e0_2hP1 rfl rfl ⟨rfl, rfl⟩ ⟨(Nat.le_of_ble_eq_true rfl), (Nat.le_of_ble_eq_true rfl)⟩ rfl hl.1 rfl (Nat.le_of_ble_eq_true rfl) ⟨(Nat.le_of_ble_eq_true rfl), (Nat.le_of_ble_eq_true rfl)⟩ dX11_saw_32) (fun r32 M32 H locs hR hI => ?_)
    obtain ⟨rfl, rfl⟩ := hR
    refine hw_cast hx hb hts hown hk hI e1_hb_ix_kahP1 rfl (hw_win (w := .classLink RX11 48 RX8) (by decide +kernel) (by decide +kernel)) dX11_saw_37 ?_
    refine lv_astore_n (lv' := [(2, .ref (ad 1 (hb_ix ka))), (0, .ref (ad 0 0)), (1, .int ka)]) hx hb dX11_saw_40 rfl hl (by decide) rfl (fun ls hl => ?_)
    refine lv_aload_n hx hb dX11_saw_41 rfl (lv_at hl 0 rfl) ?_
    refine hw_get hx hb hts hown hk hI fd_X11_63 e1_hb_ix_kahP1 rfl dX11_saw_42 ?_
    refine lv_iconst (v := nI 2) hx hb dX11_saw_45 (by decide) ?_
    refine lv_iconst (v := nI 3) hx hb dX11_saw_46 (by decide) ?_
    refine hw_ci hI (hw_rS hx hb hml hown hts hk hI (m_X11_in l Z M1 (hs_P S (hb_ix ka) 0) (nI 2) (nI 3)) cs_X11_40 ⟨rfl, rfl⟩ ⟨(Nat.le_of_ble_eq_true rfl), (Nat.le_of_ble_eq_true rfl)⟩ rfl hl.1 rfl (Nat.le_of_ble_eq_true rfl) ⟨(Nat.le_of_ble_eq_true rfl), (Nat.le_of_ble_eq_true rfl)⟩ dX11_saw_47) (fun r47 M47 H locs hR hI => ?_)
    obtain ⟨rfl, rfl⟩ := hR
    refine hw_ti (congrArg (fun b => nI (Bool.toNat b)) hb_in_23) ?_
    refine lv_if_ne (tgt := 67) hx hb dX11_saw_50 (by decide) (fun c50 => ?_) (fun c50 => ?_)
    · have hin := hq_dt c50
      refine lv_aload_n hx hb dX11_saw_67 rfl (lv_at hl 0 rfl) ?_
      refine lv_aload_n hx hb dX11_saw_68 rfl (lv_at hl 0 rfl) ?_
      refine hw_get hx hb hts hown hk hI fd_X11_63 e1_hb_ix_kahP1 rfl dX11_saw_69 ?_
      refine lv_iconst (v := nI 2) hx hb dX11_saw_72 (by decide) ?_
      refine lv_icmp_ne (tgt := 81) hx hb dX11_saw_73 (by decide) (fun c73 => ?_) (fun c73 => ?_)
      · refine lv_iconst (v := nI 4) hx hb dX11_saw_81 (by decide) ?_
        refine hw_put (fs' := [.ref (ad 2 (hb_ix ka)), .int (nI 4), .ref (ad 4 (hb_ix ka)), .int (hs_P S (hb_ix ka) 3), .int (hs_P S (hb_ix ka) 4), .int (hs_P S (hb_ix ka) 5), .int (hs_P S (hb_ix ka) 6), .int (hs_P S (hb_ix ka) 7), .int (hs_P S (hb_ix ka) 8)]) hx hb hts hown hk hI fp_X11_63 e1_hb_ix_kahP1 (Nat.le_of_ble_eq_true rfl) rfl rfl rfl dX11_saw_82 (fun H locs hI => ?_)
        refine lv_aload_n hx hb dX11_saw_85 rfl (lv_at hl 0 rfl) ?_
        refine hw_get hx hb hts hown hk hI fd_X11_63 (hw_us _ _ _) rfl dX11_saw_86 ?_
        refine lv_iconst (v := nI 4) hx hb dX11_saw_89 (by decide) ?_
        refine lv_icmp_ne (tgt := 97) hx hb dX11_saw_90 (by decide) (fun hc => absurd rfl hc) (fun _ => ?_)
        refine lv_iconst (v := nI 1) hx hb dX11_saw_93 (by decide) ?_
        refine lv_goto (tgt := 98) hx hb dX11_saw_94 (by decide) ?_
        have h3 : hs_P S (hb_ix ka) 0 = nI 3 := hin.resolve_left c73
        have hok : hr_ok Z b1 (va_up M1 (ad 1 (hb_ix ka)) (hw_ob 9 [.ref (ad 2 (hb_ix ka)), .int (nI 4), .ref (ad 4 (hb_ix ka)), .int (hs_P S (hb_ix ka) 3), .int (hs_P S (hb_ix ka) 4), .int (hs_P S (hb_ix ka) 5), .int (hs_P S (hb_ix ka) 6), .int (hs_P S (hb_ix ka) 7), .int (hs_P S (hb_ix ka) 8)])) ad (hs_sP S (hb_ix ka) (va_up (hs_P S (hb_ix ka)) 0 (nI 4))) (X1) := by
          refine hr_old hP1 (fun _ _ hi => hi) ?_ hP1.q hP1.g
          intro k i hi
          rcases k with _ | _ | _ | _ | _ | _ | _ | _ | _ | _ | _ | _ | _ | k
          · rcases (show i = 0 ∨ i = 1 ∨ i = 2 ∨ i = 3 by have h4 : i < 4 := hi; omega) with rfl | rfl | rfl | rfl
            · show (va_up M1 (ad 1 (hb_ix ka)) (hw_ob 9 [.ref (ad 2 (hb_ix ka)), .int (nI 4), .ref (ad 4 (hb_ix ka)), .int (hs_P S (hb_ix ka) 3), .int (hs_P S (hb_ix ka) 4), .int (hs_P S (hb_ix ka) 5), .int (hs_P S (hb_ix ka) 6), .int (hs_P S (hb_ix ka) 7), .int (hs_P S (hb_ix ka) 8)])) (ad 0 0) = hw_ob 12 [.int (hr_th X1), .int (hs_G S 0), .int (hs_G S 1), .ref (ad 0 2), .ref (ad 0 3), .ref (ad 0 1)]
              rw [va_up_ne _ _ (hP1.n (k := 0) (i := 0) (k' := 1) (i' := (hb_ix ka)) (show 0 < 4 by decide) hi_ka (fun q => absurd q.1 (by decide)))]
              refine (hP1.m 0 0 (show 0 < 4 by decide)).trans ?_
              first | rfl | (simp only [va_up_self]; done) | (simp only [va_up_self]; rfl)
            · show (va_up M1 (ad 1 (hb_ix ka)) (hw_ob 9 [.ref (ad 2 (hb_ix ka)), .int (nI 4), .ref (ad 4 (hb_ix ka)), .int (hs_P S (hb_ix ka) 3), .int (hs_P S (hb_ix ka) 4), .int (hs_P S (hb_ix ka) 5), .int (hs_P S (hb_ix ka) 6), .int (hs_P S (hb_ix ka) 7), .int (hs_P S (hb_ix ka) 8)])) (ad 0 1) = hw_ar Z 6 2 (fun j => some (ad 7 j))
              rw [va_up_ne _ _ (hP1.n (k := 0) (i := 1) (k' := 1) (i' := (hb_ix ka)) (show 1 < 4 by decide) hi_ka (fun q => absurd q.1 (by decide)))]
              refine (hP1.m 0 1 (show 1 < 4 by decide)).trans ?_
              first | rfl | (simp only [va_up_self]; done) | (simp only [va_up_self]; rfl)
            · show (va_up M1 (ad 1 (hb_ix ka)) (hw_ob 9 [.ref (ad 2 (hb_ix ka)), .int (nI 4), .ref (ad 4 (hb_ix ka)), .int (hs_P S (hb_ix ka) 3), .int (hs_P S (hb_ix ka) 4), .int (hs_P S (hb_ix ka) 5), .int (hs_P S (hb_ix ka) 6), .int (hs_P S (hb_ix ka) 7), .int (hs_P S (hb_ix ka) 8)])) (ad 0 2) = hw_ob 0 [.int (hr_mc X1 0), .ref (hr_d (hs_np S) Z.2.2.2 (ad 11 0)), .int (nI (hs_np S))]
              rw [va_up_ne _ _ (hP1.n (k := 0) (i := 2) (k' := 1) (i' := (hb_ix ka)) (show 2 < 4 by decide) hi_ka (fun q => absurd q.1 (by decide)))]
              refine (hP1.m 0 2 (show 2 < 4 by decide)).trans ?_
              first | rfl | (simp only [va_up_self]; done) | (simp only [va_up_self]; rfl)
            · show (va_up M1 (ad 1 (hb_ix ka)) (hw_ob 9 [.ref (ad 2 (hb_ix ka)), .int (nI 4), .ref (ad 4 (hb_ix ka)), .int (hs_P S (hb_ix ka) 3), .int (hs_P S (hb_ix ka) 4), .int (hs_P S (hb_ix ka) 5), .int (hs_P S (hb_ix ka) 6), .int (hs_P S (hb_ix ka) 7), .int (hs_P S (hb_ix ka) 8)])) (ad 0 3) = hw_ob 0 [.int (hr_mc X1 1), .ref (hr_d (hs_nw S) Z.2.2.2 (ad 12 0)), .int (nI (hs_nw S))]
              rw [va_up_ne _ _ (hP1.n (k := 0) (i := 3) (k' := 1) (i' := (hb_ix ka)) (show 3 < 4 by decide) hi_ka (fun q => absurd q.1 (by decide)))]
              refine (hP1.m 0 3 (show 3 < 4 by decide)).trans ?_
              first | rfl | (simp only [va_up_self]; done) | (simp only [va_up_self]; rfl)
          · by_cases q0 : i = (hb_ix ka)
            · subst q0
              show (va_up M1 (ad 1 (hb_ix ka)) (hw_ob 9 [.ref (ad 2 (hb_ix ka)), .int (nI 4), .ref (ad 4 (hb_ix ka)), .int (hs_P S (hb_ix ka) 3), .int (hs_P S (hb_ix ka) 4), .int (hs_P S (hb_ix ka) 5), .int (hs_P S (hb_ix ka) 6), .int (hs_P S (hb_ix ka) 7), .int (hs_P S (hb_ix ka) 8)])) (ad 1 (hb_ix ka)) = hw_ob 9 [.ref (ad 2 (hb_ix ka)), .int ((va_up (hs_P S) (hb_ix ka) (va_up (hs_P S (hb_ix ka)) 0 (nI 4))) (hb_ix ka) 0), .ref (ad 4 (hb_ix ka)), .int ((va_up (hs_P S) (hb_ix ka) (va_up (hs_P S (hb_ix ka)) 0 (nI 4))) (hb_ix ka) 3), .int ((va_up (hs_P S) (hb_ix ka) (va_up (hs_P S (hb_ix ka)) 0 (nI 4))) (hb_ix ka) 4), .int ((va_up (hs_P S) (hb_ix ka) (va_up (hs_P S (hb_ix ka)) 0 (nI 4))) (hb_ix ka) 5), .int ((va_up (hs_P S) (hb_ix ka) (va_up (hs_P S (hb_ix ka)) 0 (nI 4))) (hb_ix ka) 6), .int ((va_up (hs_P S) (hb_ix ka) (va_up (hs_P S (hb_ix ka)) 0 (nI 4))) (hb_ix ka) 7), .int ((va_up (hs_P S) (hb_ix ka) (va_up (hs_P S (hb_ix ka)) 0 (nI 4))) (hb_ix ka) 8)]
              refine (hw_us _ _ _).trans ?_
              first | rfl | (simp only [va_up_self]; done) | (simp only [va_up_self]; rfl)
            show (va_up M1 (ad 1 (hb_ix ka)) (hw_ob 9 [.ref (ad 2 (hb_ix ka)), .int (nI 4), .ref (ad 4 (hb_ix ka)), .int (hs_P S (hb_ix ka) 3), .int (hs_P S (hb_ix ka) 4), .int (hs_P S (hb_ix ka) 5), .int (hs_P S (hb_ix ka) 6), .int (hs_P S (hb_ix ka) 7), .int (hs_P S (hb_ix ka) 8)])) (ad 1 i) = hw_ob 9 [.ref (ad 2 i), .int ((va_up (hs_P S) (hb_ix ka) (va_up (hs_P S (hb_ix ka)) 0 (nI 4))) i 0), .ref (ad 4 i), .int ((va_up (hs_P S) (hb_ix ka) (va_up (hs_P S (hb_ix ka)) 0 (nI 4))) i 3), .int ((va_up (hs_P S) (hb_ix ka) (va_up (hs_P S (hb_ix ka)) 0 (nI 4))) i 4), .int ((va_up (hs_P S) (hb_ix ka) (va_up (hs_P S (hb_ix ka)) 0 (nI 4))) i 5), .int ((va_up (hs_P S) (hb_ix ka) (va_up (hs_P S (hb_ix ka)) 0 (nI 4))) i 6), .int ((va_up (hs_P S) (hb_ix ka) (va_up (hs_P S (hb_ix ka)) 0 (nI 4))) i 7), .int ((va_up (hs_P S) (hb_ix ka) (va_up (hs_P S (hb_ix ka)) 0 (nI 4))) i 8)]
            rw [va_up_ne _ _ (hP1.n (k := 1) (i := i) (k' := 1) (i' := (hb_ix ka)) hi hi_ka (fun q => q0 q.2))]
            refine (hP1.m 1 i hi).trans ?_
            first | rfl | (simp only [va_up_ne _ _ q0]; done) | (simp only [va_up_ne _ _ q0]; rfl)
          · show (va_up M1 (ad 1 (hb_ix ka)) (hw_ob 9 [.ref (ad 2 (hb_ix ka)), .int (nI 4), .ref (ad 4 (hb_ix ka)), .int (hs_P S (hb_ix ka) 3), .int (hs_P S (hb_ix ka) 4), .int (hs_P S (hb_ix ka) 5), .int (hs_P S (hb_ix ka) 6), .int (hs_P S (hb_ix ka) 7), .int (hs_P S (hb_ix ka) 8)])) (ad 2 i) = hw_ob 11 [.ref (ad 3 i)]
            rw [va_up_ne _ _ (hP1.n (k := 2) (i := i) (k' := 1) (i' := (hb_ix ka)) hi hi_ka (fun q => absurd q.1 (by decide)))]
            refine (hP1.m 2 i hi).trans ?_
            first | rfl
          · show (va_up M1 (ad 1 (hb_ix ka)) (hw_ob 9 [.ref (ad 2 (hb_ix ka)), .int (nI 4), .ref (ad 4 (hb_ix ka)), .int (hs_P S (hb_ix ka) 3), .int (hs_P S (hb_ix ka) 4), .int (hs_P S (hb_ix ka) 5), .int (hs_P S (hb_ix ka) 6), .int (hs_P S (hb_ix ka) 7), .int (hs_P S (hb_ix ka) 8)])) (ad 3 i) = hw_al Z 8 (hs_C S i)
            rw [va_up_ne _ _ (hP1.n (k := 3) (i := i) (k' := 1) (i' := (hb_ix ka)) hi hi_ka (fun q => absurd q.1 (by decide)))]
            refine (hP1.m 3 i hi).trans ?_
            first | rfl
          · by_cases q0 : i = (hb_ix ka)
            · subst q0
              show (va_up M1 (ad 1 (hb_ix ka)) (hw_ob 9 [.ref (ad 2 (hb_ix ka)), .int (nI 4), .ref (ad 4 (hb_ix ka)), .int (hs_P S (hb_ix ka) 3), .int (hs_P S (hb_ix ka) 4), .int (hs_P S (hb_ix ka) 5), .int (hs_P S (hb_ix ka) 6), .int (hs_P S (hb_ix ka) 7), .int (hs_P S (hb_ix ka) 8)])) (ad 4 (hb_ix ka)) = hw_ob 7 [.double (hr_en ((va_up (hs_P S) (hb_ix ka) (va_up (hs_P S (hb_ix ka)) 0 (nI 4))) (hb_ix ka))), .ref (ad 5 (hb_ix ka)), .double (hs_U S (hb_ix ka)), .int ((va_up (hs_P S) (hb_ix ka) (va_up (hs_P S (hb_ix ka)) 0 (nI 4))) (hb_ix ka) 1), .int ((va_up (hs_P S) (hb_ix ka) (va_up (hs_P S (hb_ix ka)) 0 (nI 4))) (hb_ix ka) 2), .int (nI (hs_D S (hb_ix ka)))]
              rw [va_up_ne _ _ (hP1.n (k := 4) (i := (hb_ix ka)) (k' := 1) (i' := (hb_ix ka)) hi_ka hi_ka (fun q => absurd q.1 (by decide)))]
              refine (hP1.m 4 (hb_ix ka) hi_ka).trans ?_
              show hw_ob 7 [.double (hr_en (hs_P S (hb_ix ka))), .ref (ad 5 (hb_ix ka)), .double (hs_U S (hb_ix ka)), .int (hs_P S (hb_ix ka) 1), .int (hs_P S (hb_ix ka) 2), .int (nI (hs_D S (hb_ix ka)))] = _
              first | rfl | (simp only [va_up_self]; done) | (simp only [va_up_self]; rfl)
            show (va_up M1 (ad 1 (hb_ix ka)) (hw_ob 9 [.ref (ad 2 (hb_ix ka)), .int (nI 4), .ref (ad 4 (hb_ix ka)), .int (hs_P S (hb_ix ka) 3), .int (hs_P S (hb_ix ka) 4), .int (hs_P S (hb_ix ka) 5), .int (hs_P S (hb_ix ka) 6), .int (hs_P S (hb_ix ka) 7), .int (hs_P S (hb_ix ka) 8)])) (ad 4 i) = hw_ob 7 [.double (hr_en ((va_up (hs_P S) (hb_ix ka) (va_up (hs_P S (hb_ix ka)) 0 (nI 4))) i)), .ref (ad 5 i), .double (hs_U S i), .int ((va_up (hs_P S) (hb_ix ka) (va_up (hs_P S (hb_ix ka)) 0 (nI 4))) i 1), .int ((va_up (hs_P S) (hb_ix ka) (va_up (hs_P S (hb_ix ka)) 0 (nI 4))) i 2), .int (nI (hs_D S i))]
            rw [va_up_ne _ _ (hP1.n (k := 4) (i := i) (k' := 1) (i' := (hb_ix ka)) hi hi_ka (fun q => absurd q.1 (by decide)))]
            refine (hP1.m 4 i hi).trans ?_
            first | rfl | (simp only [va_up_ne _ _ q0]; done) | (simp only [va_up_ne _ _ q0]; rfl)
          · show (va_up M1 (ad 1 (hb_ix ka)) (hw_ob 9 [.ref (ad 2 (hb_ix ka)), .int (nI 4), .ref (ad 4 (hb_ix ka)), .int (hs_P S (hb_ix ka) 3), .int (hs_P S (hb_ix ka) 4), .int (hs_P S (hb_ix ka) 5), .int (hs_P S (hb_ix ka) 6), .int (hs_P S (hb_ix ka) 7), .int (hs_P S (hb_ix ka) 8)])) (ad 5 i) = hw_ad Z 64 (hs_W S i)
            rw [va_up_ne _ _ (hP1.n (k := 5) (i := i) (k' := 1) (i' := (hb_ix ka)) hi hi_ka (fun q => absurd q.1 (by decide)))]
            refine (hP1.m 5 i hi).trans ?_
            first | rfl
          · show (va_up M1 (ad 1 (hb_ix ka)) (hw_ob 9 [.ref (ad 2 (hb_ix ka)), .int (nI 4), .ref (ad 4 (hb_ix ka)), .int (hs_P S (hb_ix ka) 3), .int (hs_P S (hb_ix ka) 4), .int (hs_P S (hb_ix ka) 5), .int (hs_P S (hb_ix ka) 6), .int (hs_P S (hb_ix ka) 7), .int (hs_P S (hb_ix ka) 8)])) (ad 6 i) = hw_ob 10 [.int (hs_V S i 0), .int (hs_V S i 1), .int (hs_V S i 2), .int (hs_V S i 3), .int (hs_V S i 4)]
            rw [va_up_ne _ _ (hP1.n (k := 6) (i := i) (k' := 1) (i' := (hb_ix ka)) hi hi_ka (fun q => absurd q.1 (by decide)))]
            refine (hP1.m 6 i hi).trans ?_
            first | rfl
          · show (va_up M1 (ad 1 (hb_ix ka)) (hw_ob 9 [.ref (ad 2 (hb_ix ka)), .int (nI 4), .ref (ad 4 (hb_ix ka)), .int (hs_P S (hb_ix ka) 3), .int (hs_P S (hb_ix ka) 4), .int (hs_P S (hb_ix ka) 5), .int (hs_P S (hb_ix ka) 6), .int (hs_P S (hb_ix ka) 7), .int (hs_P S (hb_ix ka) 8)])) (ad 7 i) = hw_ob 8 [.int (hs_M S i 0), .int (hs_M S i 1), .int (hs_M S i 2), .int (hs_M S i 3), .ref (ad 8 i)]
            rw [va_up_ne _ _ (hP1.n (k := 7) (i := i) (k' := 1) (i' := (hb_ix ka)) hi hi_ka (fun q => absurd q.1 (by decide)))]
            refine (hP1.m 7 i hi).trans ?_
            first | rfl
          · show (va_up M1 (ad 1 (hb_ix ka)) (hw_ob 9 [.ref (ad 2 (hb_ix ka)), .int (nI 4), .ref (ad 4 (hb_ix ka)), .int (hs_P S (hb_ix ka) 3), .int (hs_P S (hb_ix ka) 4), .int (hs_P S (hb_ix ka) 5), .int (hs_P S (hb_ix ka) 6), .int (hs_P S (hb_ix ka) 7), .int (hs_P S (hb_ix ka) 8)])) (ad 8 i) = hw_ob 0 [.int (hr_mc X1 (2 + i)), .ref (if hr_gr X1 i then ad 9 i else Z.2.2.2), .int (nI (hs_N S i))]
            rw [va_up_ne _ _ (hP1.n (k := 8) (i := i) (k' := 1) (i' := (hb_ix ka)) hi hi_ka (fun q => absurd q.1 (by decide)))]
            refine (hP1.m 8 i hi).trans ?_
            first | rfl
          · show (va_up M1 (ad 1 (hb_ix ka)) (hw_ob 9 [.ref (ad 2 (hb_ix ka)), .int (nI 4), .ref (ad 4 (hb_ix ka)), .int (hs_P S (hb_ix ka) 3), .int (hs_P S (hb_ix ka) 4), .int (hs_P S (hb_ix ka) 5), .int (hs_P S (hb_ix ka) 6), .int (hs_P S (hb_ix ka) 7), .int (hs_P S (hb_ix ka) 8)])) (ad 9 i) = hw_ar Z 7 10 (hc_f (fun j => ad 10 (i + 2 * j)) (hs_N S i))
            rw [va_up_ne _ _ (hP1.n (k := 9) (i := i) (k' := 1) (i' := (hb_ix ka)) hi hi_ka (fun q => absurd q.1 (by decide)))]
            refine (hP1.m 9 i hi).trans ?_
            first | rfl
          · show (va_up M1 (ad 1 (hb_ix ka)) (hw_ob 9 [.ref (ad 2 (hb_ix ka)), .int (nI 4), .ref (ad 4 (hb_ix ka)), .int (hs_P S (hb_ix ka) 3), .int (hs_P S (hb_ix ka) 4), .int (hs_P S (hb_ix ka) 5), .int (hs_P S (hb_ix ka) 6), .int (hs_P S (hb_ix ka) 7), .int (hs_P S (hb_ix ka) 8)])) (ad 10 i) = hw_ai Z 3 (hr_qq X1 (i % 2) (i / 2))
            rw [va_up_ne _ _ (hP1.n (k := 10) (i := i) (k' := 1) (i' := (hb_ix ka)) hi hi_ka (fun q => absurd q.1 (by decide)))]
            refine (hP1.m 10 i hi).trans ?_
            first | rfl
          · show (va_up M1 (ad 1 (hb_ix ka)) (hw_ob 9 [.ref (ad 2 (hb_ix ka)), .int (nI 4), .ref (ad 4 (hb_ix ka)), .int (hs_P S (hb_ix ka) 3), .int (hs_P S (hb_ix ka) 4), .int (hs_P S (hb_ix ka) 5), .int (hs_P S (hb_ix ka) 6), .int (hs_P S (hb_ix ka) 7), .int (hs_P S (hb_ix ka) 8)])) (ad 11 i) = hw_ar Z 7 10 (hc_f (ad 1) (hs_np S))
            rw [va_up_ne _ _ (hP1.n (k := 11) (i := i) (k' := 1) (i' := (hb_ix ka)) hi hi_ka (fun q => absurd q.1 (by decide)))]
            refine (hP1.m 11 i hi).trans ?_
            first | rfl
          · show (va_up M1 (ad 1 (hb_ix ka)) (hw_ob 9 [.ref (ad 2 (hb_ix ka)), .int (nI 4), .ref (ad 4 (hb_ix ka)), .int (hs_P S (hb_ix ka) 3), .int (hs_P S (hb_ix ka) 4), .int (hs_P S (hb_ix ka) 5), .int (hs_P S (hb_ix ka) 6), .int (hs_P S (hb_ix ka) 7), .int (hs_P S (hb_ix ka) 8)])) (ad 12 i) = hw_ar Z 7 10 (hc_f (ad 6) (hs_nw S))
            rw [va_up_ne _ _ (hP1.n (k := 12) (i := i) (k' := 1) (i' := (hb_ix ka)) hi hi_ka (fun q => absurd q.1 (by decide)))]
            refine (hP1.m 12 i hi).trans ?_
            first | rfl
          · exact hi.elim
        have fr_hok : ∀ a, b1 a → (va_up M1 (ad 1 (hb_ix ka)) (hw_ob 9 [.ref (ad 2 (hb_ix ka)), .int (nI 4), .ref (ad 4 (hb_ix ka)), .int (hs_P S (hb_ix ka) 3), .int (hs_P S (hb_ix ka) 4), .int (hs_P S (hb_ix ka) 5), .int (hs_P S (hb_ix ka) 6), .int (hs_P S (hb_ix ka) 7), .int (hs_P S (hb_ix ka) 8)])) a = M a := fun a ha => by rw [va_up_ne _ _ (hP1.f (k := 1) (i := (hb_ix ka)) hi_ka ha)]; exact fr1 a ha
        have hfin : hr_R Z b1 M ad (st_saw S ka) (nI 1) (va_up M1 (ad 1 (hb_ix ka)) (hw_ob 9 [.ref (ad 2 (hb_ix ka)), .int (nI 4), .ref (ad 4 (hb_ix ka)), .int (hs_P S (hb_ix ka) 3), .int (hs_P S (hb_ix ka) 4), .int (hs_P S (hb_ix ka) 5), .int (hs_P S (hb_ix ka) 6), .int (hs_P S (hb_ix ka) 7), .int (hs_P S (hb_ix ka) 8)])) := hr_r (S' := hs_sP S (hb_ix ka) (va_up (hs_P S (hb_ix ka)) 0 (nI 4))) (X' := X1) (ad' := ad) (by unfold st_saw; exact ((if_neg (fun q => q gk)).trans ((if_neg (fun q => hin.elim q.1 q.2)).trans (if_pos h3)))) rfl hok ht1 fr_hok
        exact hret hI (Or.inr rfl) hfin (Nat.le_of_ble_eq_true rfl) (Nat.le_of_ble_eq_true rfl) dX11_saw_98
      · refine lv_bipush (v := nI 6) hx hb dX11_saw_76 (by decide) ?_
        refine lv_goto (tgt := 82) hx hb dX11_saw_78 (by decide) ?_
        refine hw_put (fs' := [.ref (ad 2 (hb_ix ka)), .int (nI 6), .ref (ad 4 (hb_ix ka)), .int (hs_P S (hb_ix ka) 3), .int (hs_P S (hb_ix ka) 4), .int (hs_P S (hb_ix ka) 5), .int (hs_P S (hb_ix ka) 6), .int (hs_P S (hb_ix ka) 7), .int (hs_P S (hb_ix ka) 8)]) hx hb hts hown hk hI fp_X11_63 e1_hb_ix_kahP1 (Nat.le_of_ble_eq_true rfl) rfl rfl rfl dX11_saw_82 (fun H locs hI => ?_)
        refine lv_aload_n hx hb dX11_saw_85 rfl (lv_at hl 0 rfl) ?_
        refine hw_get hx hb hts hown hk hI fd_X11_63 (hw_us _ _ _) rfl dX11_saw_86 ?_
        refine lv_iconst (v := nI 4) hx hb dX11_saw_89 (by decide) ?_
        refine lv_icmp_ne (tgt := 97) hx hb dX11_saw_90 (by decide) (fun _ => ?_) (fun hc => absurd hc (by decide))
        refine lv_iconst (v := nI 0) hx hb dX11_saw_97 (by decide) ?_
        have h3 : ¬ hs_P S (hb_ix ka) 0 = nI 3 := fun q => absurd (c73.symm.trans q) (by decide)
        have hok : hr_ok Z b1 (va_up M1 (ad 1 (hb_ix ka)) (hw_ob 9 [.ref (ad 2 (hb_ix ka)), .int (nI 6), .ref (ad 4 (hb_ix ka)), .int (hs_P S (hb_ix ka) 3), .int (hs_P S (hb_ix ka) 4), .int (hs_P S (hb_ix ka) 5), .int (hs_P S (hb_ix ka) 6), .int (hs_P S (hb_ix ka) 7), .int (hs_P S (hb_ix ka) 8)])) ad (hs_sP S (hb_ix ka) (va_up (hs_P S (hb_ix ka)) 0 (nI 6))) (X1) := by
          refine hr_old hP1 (fun _ _ hi => hi) ?_ hP1.q hP1.g
          intro k i hi
          rcases k with _ | _ | _ | _ | _ | _ | _ | _ | _ | _ | _ | _ | _ | k
          · rcases (show i = 0 ∨ i = 1 ∨ i = 2 ∨ i = 3 by have h4 : i < 4 := hi; omega) with rfl | rfl | rfl | rfl
            · show (va_up M1 (ad 1 (hb_ix ka)) (hw_ob 9 [.ref (ad 2 (hb_ix ka)), .int (nI 6), .ref (ad 4 (hb_ix ka)), .int (hs_P S (hb_ix ka) 3), .int (hs_P S (hb_ix ka) 4), .int (hs_P S (hb_ix ka) 5), .int (hs_P S (hb_ix ka) 6), .int (hs_P S (hb_ix ka) 7), .int (hs_P S (hb_ix ka) 8)])) (ad 0 0) = hw_ob 12 [.int (hr_th X1), .int (hs_G S 0), .int (hs_G S 1), .ref (ad 0 2), .ref (ad 0 3), .ref (ad 0 1)]
              rw [va_up_ne _ _ (hP1.n (k := 0) (i := 0) (k' := 1) (i' := (hb_ix ka)) (show 0 < 4 by decide) hi_ka (fun q => absurd q.1 (by decide)))]
              refine (hP1.m 0 0 (show 0 < 4 by decide)).trans ?_
              first | rfl | (simp only [va_up_self]; done) | (simp only [va_up_self]; rfl)
            · show (va_up M1 (ad 1 (hb_ix ka)) (hw_ob 9 [.ref (ad 2 (hb_ix ka)), .int (nI 6), .ref (ad 4 (hb_ix ka)), .int (hs_P S (hb_ix ka) 3), .int (hs_P S (hb_ix ka) 4), .int (hs_P S (hb_ix ka) 5), .int (hs_P S (hb_ix ka) 6), .int (hs_P S (hb_ix ka) 7), .int (hs_P S (hb_ix ka) 8)])) (ad 0 1) = hw_ar Z 6 2 (fun j => some (ad 7 j))
              rw [va_up_ne _ _ (hP1.n (k := 0) (i := 1) (k' := 1) (i' := (hb_ix ka)) (show 1 < 4 by decide) hi_ka (fun q => absurd q.1 (by decide)))]
              refine (hP1.m 0 1 (show 1 < 4 by decide)).trans ?_
              first | rfl | (simp only [va_up_self]; done) | (simp only [va_up_self]; rfl)
            · show (va_up M1 (ad 1 (hb_ix ka)) (hw_ob 9 [.ref (ad 2 (hb_ix ka)), .int (nI 6), .ref (ad 4 (hb_ix ka)), .int (hs_P S (hb_ix ka) 3), .int (hs_P S (hb_ix ka) 4), .int (hs_P S (hb_ix ka) 5), .int (hs_P S (hb_ix ka) 6), .int (hs_P S (hb_ix ka) 7), .int (hs_P S (hb_ix ka) 8)])) (ad 0 2) = hw_ob 0 [.int (hr_mc X1 0), .ref (hr_d (hs_np S) Z.2.2.2 (ad 11 0)), .int (nI (hs_np S))]
              rw [va_up_ne _ _ (hP1.n (k := 0) (i := 2) (k' := 1) (i' := (hb_ix ka)) (show 2 < 4 by decide) hi_ka (fun q => absurd q.1 (by decide)))]
              refine (hP1.m 0 2 (show 2 < 4 by decide)).trans ?_
              first | rfl | (simp only [va_up_self]; done) | (simp only [va_up_self]; rfl)
            · show (va_up M1 (ad 1 (hb_ix ka)) (hw_ob 9 [.ref (ad 2 (hb_ix ka)), .int (nI 6), .ref (ad 4 (hb_ix ka)), .int (hs_P S (hb_ix ka) 3), .int (hs_P S (hb_ix ka) 4), .int (hs_P S (hb_ix ka) 5), .int (hs_P S (hb_ix ka) 6), .int (hs_P S (hb_ix ka) 7), .int (hs_P S (hb_ix ka) 8)])) (ad 0 3) = hw_ob 0 [.int (hr_mc X1 1), .ref (hr_d (hs_nw S) Z.2.2.2 (ad 12 0)), .int (nI (hs_nw S))]
              rw [va_up_ne _ _ (hP1.n (k := 0) (i := 3) (k' := 1) (i' := (hb_ix ka)) (show 3 < 4 by decide) hi_ka (fun q => absurd q.1 (by decide)))]
              refine (hP1.m 0 3 (show 3 < 4 by decide)).trans ?_
              first | rfl | (simp only [va_up_self]; done) | (simp only [va_up_self]; rfl)
          · by_cases q0 : i = (hb_ix ka)
            · subst q0
              show (va_up M1 (ad 1 (hb_ix ka)) (hw_ob 9 [.ref (ad 2 (hb_ix ka)), .int (nI 6), .ref (ad 4 (hb_ix ka)), .int (hs_P S (hb_ix ka) 3), .int (hs_P S (hb_ix ka) 4), .int (hs_P S (hb_ix ka) 5), .int (hs_P S (hb_ix ka) 6), .int (hs_P S (hb_ix ka) 7), .int (hs_P S (hb_ix ka) 8)])) (ad 1 (hb_ix ka)) = hw_ob 9 [.ref (ad 2 (hb_ix ka)), .int ((va_up (hs_P S) (hb_ix ka) (va_up (hs_P S (hb_ix ka)) 0 (nI 6))) (hb_ix ka) 0), .ref (ad 4 (hb_ix ka)), .int ((va_up (hs_P S) (hb_ix ka) (va_up (hs_P S (hb_ix ka)) 0 (nI 6))) (hb_ix ka) 3), .int ((va_up (hs_P S) (hb_ix ka) (va_up (hs_P S (hb_ix ka)) 0 (nI 6))) (hb_ix ka) 4), .int ((va_up (hs_P S) (hb_ix ka) (va_up (hs_P S (hb_ix ka)) 0 (nI 6))) (hb_ix ka) 5), .int ((va_up (hs_P S) (hb_ix ka) (va_up (hs_P S (hb_ix ka)) 0 (nI 6))) (hb_ix ka) 6), .int ((va_up (hs_P S) (hb_ix ka) (va_up (hs_P S (hb_ix ka)) 0 (nI 6))) (hb_ix ka) 7), .int ((va_up (hs_P S) (hb_ix ka) (va_up (hs_P S (hb_ix ka)) 0 (nI 6))) (hb_ix ka) 8)]
              refine (hw_us _ _ _).trans ?_
              first | rfl | (simp only [va_up_self]; done) | (simp only [va_up_self]; rfl)
            show (va_up M1 (ad 1 (hb_ix ka)) (hw_ob 9 [.ref (ad 2 (hb_ix ka)), .int (nI 6), .ref (ad 4 (hb_ix ka)), .int (hs_P S (hb_ix ka) 3), .int (hs_P S (hb_ix ka) 4), .int (hs_P S (hb_ix ka) 5), .int (hs_P S (hb_ix ka) 6), .int (hs_P S (hb_ix ka) 7), .int (hs_P S (hb_ix ka) 8)])) (ad 1 i) = hw_ob 9 [.ref (ad 2 i), .int ((va_up (hs_P S) (hb_ix ka) (va_up (hs_P S (hb_ix ka)) 0 (nI 6))) i 0), .ref (ad 4 i), .int ((va_up (hs_P S) (hb_ix ka) (va_up (hs_P S (hb_ix ka)) 0 (nI 6))) i 3), .int ((va_up (hs_P S) (hb_ix ka) (va_up (hs_P S (hb_ix ka)) 0 (nI 6))) i 4), .int ((va_up (hs_P S) (hb_ix ka) (va_up (hs_P S (hb_ix ka)) 0 (nI 6))) i 5), .int ((va_up (hs_P S) (hb_ix ka) (va_up (hs_P S (hb_ix ka)) 0 (nI 6))) i 6), .int ((va_up (hs_P S) (hb_ix ka) (va_up (hs_P S (hb_ix ka)) 0 (nI 6))) i 7), .int ((va_up (hs_P S) (hb_ix ka) (va_up (hs_P S (hb_ix ka)) 0 (nI 6))) i 8)]
            rw [va_up_ne _ _ (hP1.n (k := 1) (i := i) (k' := 1) (i' := (hb_ix ka)) hi hi_ka (fun q => q0 q.2))]
            refine (hP1.m 1 i hi).trans ?_
            first | rfl | (simp only [va_up_ne _ _ q0]; done) | (simp only [va_up_ne _ _ q0]; rfl)
          · show (va_up M1 (ad 1 (hb_ix ka)) (hw_ob 9 [.ref (ad 2 (hb_ix ka)), .int (nI 6), .ref (ad 4 (hb_ix ka)), .int (hs_P S (hb_ix ka) 3), .int (hs_P S (hb_ix ka) 4), .int (hs_P S (hb_ix ka) 5), .int (hs_P S (hb_ix ka) 6), .int (hs_P S (hb_ix ka) 7), .int (hs_P S (hb_ix ka) 8)])) (ad 2 i) = hw_ob 11 [.ref (ad 3 i)]
            rw [va_up_ne _ _ (hP1.n (k := 2) (i := i) (k' := 1) (i' := (hb_ix ka)) hi hi_ka (fun q => absurd q.1 (by decide)))]
            refine (hP1.m 2 i hi).trans ?_
            first | rfl
          · show (va_up M1 (ad 1 (hb_ix ka)) (hw_ob 9 [.ref (ad 2 (hb_ix ka)), .int (nI 6), .ref (ad 4 (hb_ix ka)), .int (hs_P S (hb_ix ka) 3), .int (hs_P S (hb_ix ka) 4), .int (hs_P S (hb_ix ka) 5), .int (hs_P S (hb_ix ka) 6), .int (hs_P S (hb_ix ka) 7), .int (hs_P S (hb_ix ka) 8)])) (ad 3 i) = hw_al Z 8 (hs_C S i)
            rw [va_up_ne _ _ (hP1.n (k := 3) (i := i) (k' := 1) (i' := (hb_ix ka)) hi hi_ka (fun q => absurd q.1 (by decide)))]
            refine (hP1.m 3 i hi).trans ?_
            first | rfl
          · by_cases q0 : i = (hb_ix ka)
            · subst q0
              show (va_up M1 (ad 1 (hb_ix ka)) (hw_ob 9 [.ref (ad 2 (hb_ix ka)), .int (nI 6), .ref (ad 4 (hb_ix ka)), .int (hs_P S (hb_ix ka) 3), .int (hs_P S (hb_ix ka) 4), .int (hs_P S (hb_ix ka) 5), .int (hs_P S (hb_ix ka) 6), .int (hs_P S (hb_ix ka) 7), .int (hs_P S (hb_ix ka) 8)])) (ad 4 (hb_ix ka)) = hw_ob 7 [.double (hr_en ((va_up (hs_P S) (hb_ix ka) (va_up (hs_P S (hb_ix ka)) 0 (nI 6))) (hb_ix ka))), .ref (ad 5 (hb_ix ka)), .double (hs_U S (hb_ix ka)), .int ((va_up (hs_P S) (hb_ix ka) (va_up (hs_P S (hb_ix ka)) 0 (nI 6))) (hb_ix ka) 1), .int ((va_up (hs_P S) (hb_ix ka) (va_up (hs_P S (hb_ix ka)) 0 (nI 6))) (hb_ix ka) 2), .int (nI (hs_D S (hb_ix ka)))]
              rw [va_up_ne _ _ (hP1.n (k := 4) (i := (hb_ix ka)) (k' := 1) (i' := (hb_ix ka)) hi_ka hi_ka (fun q => absurd q.1 (by decide)))]
              refine (hP1.m 4 (hb_ix ka) hi_ka).trans ?_
              show hw_ob 7 [.double (hr_en (hs_P S (hb_ix ka))), .ref (ad 5 (hb_ix ka)), .double (hs_U S (hb_ix ka)), .int (hs_P S (hb_ix ka) 1), .int (hs_P S (hb_ix ka) 2), .int (nI (hs_D S (hb_ix ka)))] = _
              first | rfl | (simp only [va_up_self]; done) | (simp only [va_up_self]; rfl)
            show (va_up M1 (ad 1 (hb_ix ka)) (hw_ob 9 [.ref (ad 2 (hb_ix ka)), .int (nI 6), .ref (ad 4 (hb_ix ka)), .int (hs_P S (hb_ix ka) 3), .int (hs_P S (hb_ix ka) 4), .int (hs_P S (hb_ix ka) 5), .int (hs_P S (hb_ix ka) 6), .int (hs_P S (hb_ix ka) 7), .int (hs_P S (hb_ix ka) 8)])) (ad 4 i) = hw_ob 7 [.double (hr_en ((va_up (hs_P S) (hb_ix ka) (va_up (hs_P S (hb_ix ka)) 0 (nI 6))) i)), .ref (ad 5 i), .double (hs_U S i), .int ((va_up (hs_P S) (hb_ix ka) (va_up (hs_P S (hb_ix ka)) 0 (nI 6))) i 1), .int ((va_up (hs_P S) (hb_ix ka) (va_up (hs_P S (hb_ix ka)) 0 (nI 6))) i 2), .int (nI (hs_D S i))]
            rw [va_up_ne _ _ (hP1.n (k := 4) (i := i) (k' := 1) (i' := (hb_ix ka)) hi hi_ka (fun q => absurd q.1 (by decide)))]
            refine (hP1.m 4 i hi).trans ?_
            first | rfl | (simp only [va_up_ne _ _ q0]; done) | (simp only [va_up_ne _ _ q0]; rfl)
          · show (va_up M1 (ad 1 (hb_ix ka)) (hw_ob 9 [.ref (ad 2 (hb_ix ka)), .int (nI 6), .ref (ad 4 (hb_ix ka)), .int (hs_P S (hb_ix ka) 3), .int (hs_P S (hb_ix ka) 4), .int (hs_P S (hb_ix ka) 5), .int (hs_P S (hb_ix ka) 6), .int (hs_P S (hb_ix ka) 7), .int (hs_P S (hb_ix ka) 8)])) (ad 5 i) = hw_ad Z 64 (hs_W S i)
            rw [va_up_ne _ _ (hP1.n (k := 5) (i := i) (k' := 1) (i' := (hb_ix ka)) hi hi_ka (fun q => absurd q.1 (by decide)))]
            refine (hP1.m 5 i hi).trans ?_
            first | rfl
          · show (va_up M1 (ad 1 (hb_ix ka)) (hw_ob 9 [.ref (ad 2 (hb_ix ka)), .int (nI 6), .ref (ad 4 (hb_ix ka)), .int (hs_P S (hb_ix ka) 3), .int (hs_P S (hb_ix ka) 4), .int (hs_P S (hb_ix ka) 5), .int (hs_P S (hb_ix ka) 6), .int (hs_P S (hb_ix ka) 7), .int (hs_P S (hb_ix ka) 8)])) (ad 6 i) = hw_ob 10 [.int (hs_V S i 0), .int (hs_V S i 1), .int (hs_V S i 2), .int (hs_V S i 3), .int (hs_V S i 4)]
            rw [va_up_ne _ _ (hP1.n (k := 6) (i := i) (k' := 1) (i' := (hb_ix ka)) hi hi_ka (fun q => absurd q.1 (by decide)))]
            refine (hP1.m 6 i hi).trans ?_
            first | rfl
          · show (va_up M1 (ad 1 (hb_ix ka)) (hw_ob 9 [.ref (ad 2 (hb_ix ka)), .int (nI 6), .ref (ad 4 (hb_ix ka)), .int (hs_P S (hb_ix ka) 3), .int (hs_P S (hb_ix ka) 4), .int (hs_P S (hb_ix ka) 5), .int (hs_P S (hb_ix ka) 6), .int (hs_P S (hb_ix ka) 7), .int (hs_P S (hb_ix ka) 8)])) (ad 7 i) = hw_ob 8 [.int (hs_M S i 0), .int (hs_M S i 1), .int (hs_M S i 2), .int (hs_M S i 3), .ref (ad 8 i)]
            rw [va_up_ne _ _ (hP1.n (k := 7) (i := i) (k' := 1) (i' := (hb_ix ka)) hi hi_ka (fun q => absurd q.1 (by decide)))]
            refine (hP1.m 7 i hi).trans ?_
            first | rfl
          · show (va_up M1 (ad 1 (hb_ix ka)) (hw_ob 9 [.ref (ad 2 (hb_ix ka)), .int (nI 6), .ref (ad 4 (hb_ix ka)), .int (hs_P S (hb_ix ka) 3), .int (hs_P S (hb_ix ka) 4), .int (hs_P S (hb_ix ka) 5), .int (hs_P S (hb_ix ka) 6), .int (hs_P S (hb_ix ka) 7), .int (hs_P S (hb_ix ka) 8)])) (ad 8 i) = hw_ob 0 [.int (hr_mc X1 (2 + i)), .ref (if hr_gr X1 i then ad 9 i else Z.2.2.2), .int (nI (hs_N S i))]
            rw [va_up_ne _ _ (hP1.n (k := 8) (i := i) (k' := 1) (i' := (hb_ix ka)) hi hi_ka (fun q => absurd q.1 (by decide)))]
            refine (hP1.m 8 i hi).trans ?_
            first | rfl
          · show (va_up M1 (ad 1 (hb_ix ka)) (hw_ob 9 [.ref (ad 2 (hb_ix ka)), .int (nI 6), .ref (ad 4 (hb_ix ka)), .int (hs_P S (hb_ix ka) 3), .int (hs_P S (hb_ix ka) 4), .int (hs_P S (hb_ix ka) 5), .int (hs_P S (hb_ix ka) 6), .int (hs_P S (hb_ix ka) 7), .int (hs_P S (hb_ix ka) 8)])) (ad 9 i) = hw_ar Z 7 10 (hc_f (fun j => ad 10 (i + 2 * j)) (hs_N S i))
            rw [va_up_ne _ _ (hP1.n (k := 9) (i := i) (k' := 1) (i' := (hb_ix ka)) hi hi_ka (fun q => absurd q.1 (by decide)))]
            refine (hP1.m 9 i hi).trans ?_
            first | rfl
          · show (va_up M1 (ad 1 (hb_ix ka)) (hw_ob 9 [.ref (ad 2 (hb_ix ka)), .int (nI 6), .ref (ad 4 (hb_ix ka)), .int (hs_P S (hb_ix ka) 3), .int (hs_P S (hb_ix ka) 4), .int (hs_P S (hb_ix ka) 5), .int (hs_P S (hb_ix ka) 6), .int (hs_P S (hb_ix ka) 7), .int (hs_P S (hb_ix ka) 8)])) (ad 10 i) = hw_ai Z 3 (hr_qq X1 (i % 2) (i / 2))
            rw [va_up_ne _ _ (hP1.n (k := 10) (i := i) (k' := 1) (i' := (hb_ix ka)) hi hi_ka (fun q => absurd q.1 (by decide)))]
            refine (hP1.m 10 i hi).trans ?_
            first | rfl
          · show (va_up M1 (ad 1 (hb_ix ka)) (hw_ob 9 [.ref (ad 2 (hb_ix ka)), .int (nI 6), .ref (ad 4 (hb_ix ka)), .int (hs_P S (hb_ix ka) 3), .int (hs_P S (hb_ix ka) 4), .int (hs_P S (hb_ix ka) 5), .int (hs_P S (hb_ix ka) 6), .int (hs_P S (hb_ix ka) 7), .int (hs_P S (hb_ix ka) 8)])) (ad 11 i) = hw_ar Z 7 10 (hc_f (ad 1) (hs_np S))
            rw [va_up_ne _ _ (hP1.n (k := 11) (i := i) (k' := 1) (i' := (hb_ix ka)) hi hi_ka (fun q => absurd q.1 (by decide)))]
            refine (hP1.m 11 i hi).trans ?_
            first | rfl
          · show (va_up M1 (ad 1 (hb_ix ka)) (hw_ob 9 [.ref (ad 2 (hb_ix ka)), .int (nI 6), .ref (ad 4 (hb_ix ka)), .int (hs_P S (hb_ix ka) 3), .int (hs_P S (hb_ix ka) 4), .int (hs_P S (hb_ix ka) 5), .int (hs_P S (hb_ix ka) 6), .int (hs_P S (hb_ix ka) 7), .int (hs_P S (hb_ix ka) 8)])) (ad 12 i) = hw_ar Z 7 10 (hc_f (ad 6) (hs_nw S))
            rw [va_up_ne _ _ (hP1.n (k := 12) (i := i) (k' := 1) (i' := (hb_ix ka)) hi hi_ka (fun q => absurd q.1 (by decide)))]
            refine (hP1.m 12 i hi).trans ?_
            first | rfl
          · exact hi.elim
        have fr_hok : ∀ a, b1 a → (va_up M1 (ad 1 (hb_ix ka)) (hw_ob 9 [.ref (ad 2 (hb_ix ka)), .int (nI 6), .ref (ad 4 (hb_ix ka)), .int (hs_P S (hb_ix ka) 3), .int (hs_P S (hb_ix ka) 4), .int (hs_P S (hb_ix ka) 5), .int (hs_P S (hb_ix ka) 6), .int (hs_P S (hb_ix ka) 7), .int (hs_P S (hb_ix ka) 8)])) a = M a := fun a ha => by rw [va_up_ne _ _ (hP1.f (k := 1) (i := (hb_ix ka)) hi_ka ha)]; exact fr1 a ha
        have hfin : hr_R Z b1 M ad (st_saw S ka) (nI 0) (va_up M1 (ad 1 (hb_ix ka)) (hw_ob 9 [.ref (ad 2 (hb_ix ka)), .int (nI 6), .ref (ad 4 (hb_ix ka)), .int (hs_P S (hb_ix ka) 3), .int (hs_P S (hb_ix ka) 4), .int (hs_P S (hb_ix ka) 5), .int (hs_P S (hb_ix ka) 6), .int (hs_P S (hb_ix ka) 7), .int (hs_P S (hb_ix ka) 8)])) := hr_r (S' := hs_sP S (hb_ix ka) (va_up (hs_P S (hb_ix ka)) 0 (nI 6))) (X' := X1) (ad' := ad) (by unfold st_saw; exact ((if_neg (fun q => q gk)).trans ((if_neg (fun q => hin.elim q.1 q.2)).trans ((if_neg h3).trans rfl)))) rfl hok ht1 fr_hok
        exact hret hI (Or.inl rfl) hfin (Nat.le_of_ble_eq_true rfl) (Nat.le_of_ble_eq_true rfl) dX11_saw_98
    · refine lv_aload_n hx hb dX11_saw_53 rfl (lv_at hl 1 rfl) ?_
      refine lv_iconst (v := nI 2) hx hb dX11_saw_54 (by decide) ?_
      refine hw_ci hI (hw_rV hx hb hml hown hts hk hI (m_X11_no l Z M1 (ad 0 0) (ad 0 2) (ad 0 3) (ad 0 1) (hr_th X1) (hs_G S 0) (hs_G S 1) (nI 2) e0_0hP1) cv_X11_44 e0_0hP1 rfl rfl ⟨rfl, rfl⟩ ⟨(Nat.le_of_ble_eq_true rfl), (Nat.le_of_ble_eq_true rfl)⟩ rfl hl.1 rfl (Nat.le_of_ble_eq_true rfl) ⟨(Nat.le_of_ble_eq_true rfl), (Nat.le_of_ble_eq_true rfl)⟩ dX11_saw_55) (fun r55 M55 H locs hR hI => ?_)
      obtain ⟨rfl, rfl⟩ := hR
      refine lv_if_le (tgt := 65) hx hb dX11_saw_58 (by decide) (fun _ => ?_) (fun hc => absurd (by decide) hc)
      refine lv_iconst (v := nI 0) hx hb dX11_saw_65 (by decide) ?_
      exact hret hI (Or.inl rfl) (hr_x (n := 2) (by unfold st_saw; exact (hq_el (fun q => q gk) (hq_if ⟨fun q => hq_df c50 (Or.inl q), fun q => hq_df c50 (Or.inr q)⟩ ⟨rfl, rfl⟩))) (by decide) (hP1.th (nI 2)) rfl (fun a ha => (va_up_ne _ _ (hP1.f (k := 0) (i := 0) (show 0 < 4 by decide) ha)).trans (fr1 a ha))) (Nat.le_of_ble_eq_true rfl) (Nat.le_of_ble_eq_true rfl) dX11_saw_66
  · refine lv_aload_n hx hb dX11_saw_13 rfl (lv_at hl 0 rfl) ?_
    refine lv_iconst (v := nI 1) hx hb dX11_saw_14 (by decide) ?_
    refine hw_ci hI (hw_rV hx hb hml hown hts hk hI (m_X11_no l Z M1 (ad 0 0) (ad 0 2) (ad 0 3) (ad 0 1) (hr_th X1) (hs_G S 0) (hs_G S 1) (nI 1) e0_0hP1) cv_X11_44 e0_0hP1 rfl rfl ⟨rfl, rfl⟩ ⟨(Nat.le_of_ble_eq_true rfl), (Nat.le_of_ble_eq_true rfl)⟩ rfl hl.1 rfl (Nat.le_of_ble_eq_true rfl) ⟨(Nat.le_of_ble_eq_true rfl), (Nat.le_of_ble_eq_true rfl)⟩ dX11_saw_15) (fun r15 M15 H locs hR hI => ?_)
    obtain ⟨rfl, rfl⟩ := hR
    refine lv_if_le (tgt := 25) hx hb dX11_saw_18 (by decide) (fun _ => ?_) (fun hc => absurd (by decide) hc)
    refine lv_iconst (v := nI 0) hx hb dX11_saw_25 (by decide) ?_
    exact hret hI (Or.inl rfl) (hr_x (n := 1) (by unfold st_saw; exact (hq_if (hq_df c10) ⟨rfl, rfl⟩)) (by decide) (hP1.th (nI 1)) rfl (fun a ha => (va_up_ne _ _ (hP1.f (k := 0) (i := 0) (show 0 < 4 by decide) ha)).trans (fr1 a ha))) (Nat.le_of_ble_eq_true rfl) (Nat.le_of_ble_eq_true rfl) dX11_saw_26

set_option maxHeartbeats 4000000 in
set_option maxRecDepth 100000 in
theorem m_X11_press (l : Launch) (Z : hw_Z) (M : hw_M) (ad : hp_ad) (S : hs_S) (X : hr_X) (b1 : Nat → Prop) (ka : Int32) (hP : hr_ok Z b1 M ad S X) (hV : hv_ok S) (hA : ∀ a, b1 a → M a ≠ none) : Met l yX11_press (hw_m yX11_press cX11_press 3 (some .int)) ({ frames := 8, cells := 2, slots := 90, locals := 250 } : Room) (va_Pc [.ref (ad 0 0), .int ka] (hw_P Z M)) (hw_Qi Z (hr_R Z b1 M ad (st_press S ka))) 2 90 (hw_A Z) := by
  refine hw_ofi (by decide +kernel) rfl (Nat.le_of_ble_eq_true rfl) ?_
  intro p e s m below meth c ls Q hx hb hml hown hts hk hnm hI hl hret
  have hB := hV.b
  have hnp := hB.np
  have hnw := hB.nw
  have e0_0hP : M (ad 0 0) = hw_ob 12 [.int (hr_th X), .int (hs_G S 0), .int (hs_G S 1), .ref (ad 0 2), .ref (ad 0 3), .ref (ad 0 1)] := hP.m 0 0 (show 0 < 4 by decide)
  refine lv_aload_n hx hb dX11_press_0 rfl (lv_at hl 0 rfl) ?_
  refine lv_iconst (v := nI 0) hx hb dX11_press_1 (by decide) ?_
  refine hw_put (fs' := [.int (nI 0), .int (hs_G S 0), .int (hs_G S 1), .ref (ad 0 2), .ref (ad 0 3), .ref (ad 0 1)]) hx hb hts hown hk hI fp_X11_26 e0_0hP (Nat.le_of_ble_eq_true rfl) rfl rfl rfl dX11_press_2 (fun H locs hI => ?_)
  obtain ⟨M1, hM1⟩ : ∃ Y : hw_M, Y = va_up M (ad 0 0) (hw_ob 12 [.int (nI 0), .int (hs_G S 0), .int (hs_G S 1), .ref (ad 0 2), .ref (ad 0 3), .ref (ad 0 1)]) := ⟨_, rfl⟩
  replace hI := hI.eq hM1.symm
  obtain ⟨X1, hX1⟩ : ∃ Y : hr_X, Y = (nI 0, X.2) := ⟨_, rfl⟩
  have hP1 : hr_ok Z b1 M1 ad S X1 := by rw [hM1, hX1]; exact hP.th (nI 0)
  have ht1 : hr_th X1 = nI 0 := by rw [hX1]; rfl
  have hgr1 : hr_gr X1 = hr_gr X := by rw [hX1]; rfl
  have hqq1 : hr_qq X1 = hr_qq X := by rw [hX1]; rfl
  have fr1 : ∀ a, b1 a → M1 a = M a := fun a ha => by rw [hM1]; exact va_up_ne _ _ (hP.f (k := 0) (i := 0) (show 0 < 4 by decide) ha)
  have hA1 : ∀ a, b1 a → M1 a ≠ none := fun a ha => by rw [fr1 a ha]; exact hA a ha
  clear hP hX1
  have e0_0hP1 : M1 (ad 0 0) = hw_ob 12 [.int (hr_th X1), .int (hs_G S 0), .int (hs_G S 1), .ref (ad 0 2), .ref (ad 0 3), .ref (ad 0 1)] := hP1.m 0 0 (show 0 < 4 by decide)
  have e0_2hP1 : M1 (ad 0 2) = hw_ob 0 [.int (hr_mc X1 0), .ref (hr_d (hs_np S) Z.2.2.2 (ad 11 0)), .int (nI (hs_np S))] := hP1.m 0 2 (show 2 < 4 by decide)
  refine lv_aload_n hx hb dX11_press_5 rfl (lv_at hl 0 rfl) ?_
  refine lv_iload_n hx hb dX11_press_6 rfl (lv_at hl 1 rfl) ?_
  refine hw_ci hI (hw_rV hx hb hml hown hts hk hI (m_X11_isPiece l Z M1 (ad 0 0) (ad 0 2) (ad 0 3) (ad 0 1) (hr_th X1) (hs_G S 0) (hs_G S 1) ka (hr_mc X1 0) (hs_np S) (.ref (hr_d (hs_np S) Z.2.2.2 (ad 11 0))) e0_0hP1 e0_2hP1 (by omega)) cv_X11_55 e0_0hP1 rfl rfl ⟨rfl, rfl⟩ ⟨(Nat.le_of_ble_eq_true rfl), (Nat.le_of_ble_eq_true rfl)⟩ rfl hl.1 rfl (Nat.le_of_ble_eq_true rfl) ⟨(Nat.le_of_ble_eq_true rfl), (Nat.le_of_ble_eq_true rfl)⟩ dX11_press_7) (fun r7 M7 H locs hR hI => ?_)
  obtain ⟨rfl, rfl⟩ := hR
  refine lv_if_ne (tgt := 19) hx hb dX11_press_10 (by decide) (fun c10 => ?_) (fun c10 => ?_)
  · have gk := hq_dt c10
    have hx_ka := hb_okx (by omega) gk
    have hi_ka : hb_ix ka < hs_np S := hx_ka.1
    have h4_ka : hb_ix ka < 4 := by omega
    have h11 : 0 = 0 ∧ 0 < hs_np S := ⟨rfl, by omega⟩
    have e0_2hP1 : M1 (ad 0 2) = hw_ob 0 [.int (hr_mc X1 0), .ref (ad 11 0), .int (nI (hs_np S))] := by
      have q := hP1.m 0 2 (show 2 < 4 by decide)
      rw [show hr_e Z ad S X1 0 2 = hw_ob 0 [.int (hr_mc X1 0), .ref (hr_d (hs_np S) Z.2.2.2 (ad 11 0)), .int (nI (hs_np S))] from rfl, hr_d0 h11.2] at q
      exact q
    have e11_0hP1 : M1 (ad 11 0) = hw_ar Z 7 10 (hc_f (ad 1) (hs_np S)) := hP1.m 11 0 h11
    have e1_hb_ix_kahP1 : M1 (ad 1 (hb_ix ka)) = hw_ob 9 [.ref (ad 2 (hb_ix ka)), .int (hs_P S (hb_ix ka) 0), .ref (ad 4 (hb_ix ka)), .int (hs_P S (hb_ix ka) 3), .int (hs_P S (hb_ix ka) 4), .int (hs_P S (hb_ix ka) 5), .int (hs_P S (hb_ix ka) 6), .int (hs_P S (hb_ix ka) 7), .int (hs_P S (hb_ix ka) 8)] := hP1.m 1 (hb_ix ka) hi_ka
    have e4_hb_ix_kahP1 : M1 (ad 4 (hb_ix ka)) = hw_ob 7 [.double (hr_en (hs_P S (hb_ix ka))), .ref (ad 5 (hb_ix ka)), .double (hs_U S (hb_ix ka)), .int (hs_P S (hb_ix ka) 1), .int (hs_P S (hb_ix ka) 2), .int (nI (hs_D S (hb_ix ka)))] := hP1.m 4 (hb_ix ka) hi_ka
    refine lv_aload_n hx hb dX11_press_19 rfl (lv_at hl 0 rfl) ?_
    refine hw_get hx hb hts hown hk hI fd_X11_10 e0_0hP1 rfl dX11_press_20 ?_
    refine lv_iload_n hx hb dX11_press_23 rfl (lv_at hl 1 rfl) ?_
    refine hw_ti hx_ka.2 ?_
    refine hw_cFr hI (hw_rF hx hb hml hown hts hk hI (m_Jx4a65c_get_915e3 l Z M1 (ad 0 2) (ad 11 0) (hs_np S) (hb_ix ka) (ad 1 (hb_ix ka)) (hr_mc X1 0) (hc_f (ad 1) (hs_np S)) e0_2hP1 e11_0hP1 hi_ka (by omega) (if_pos hi_ka)) cf_X11_59 e0_2hP1 rfl rfl ⟨rfl, rfl⟩ ⟨(Nat.le_of_ble_eq_true rfl), (Nat.le_of_ble_eq_true rfl)⟩ rfl hl.1 rfl (Nat.le_of_ble_eq_true rfl) ⟨(Nat.le_of_ble_eq_true rfl), (Nat.le_of_ble_eq_true rfl)⟩ dX11_press_24) (fun r24 M24 H locs hR hI => ?_)
    obtain ⟨rfl, rfl⟩ := hR
    refine hw_cast hx hb hts hown hk hI e1_hb_ix_kahP1 rfl (hw_win (w := .classLink RX11 48 RX8) (by decide +kernel) (by decide +kernel)) dX11_press_29 ?_
    refine lv_astore_n (lv' := [(2, .ref (ad 1 (hb_ix ka))), (0, .ref (ad 0 0)), (1, .int ka)]) hx hb dX11_press_32 rfl hl (by decide) rfl (fun ls hl => ?_)
    refine lv_aload_n hx hb dX11_press_33 rfl (lv_at hl 0 rfl) ?_
    refine hw_get hx hb hts hown hk hI fd_X11_63 e1_hb_ix_kahP1 rfl dX11_press_34 ?_
    refine lv_iconst (v := nI 3) hx hb dX11_press_37 (by decide) ?_
    refine lv_iconst (v := nI 4) hx hb dX11_press_38 (by decide) ?_
    refine hw_ci hI (hw_rS hx hb hml hown hts hk hI (m_X11_in l Z M1 (hs_P S (hb_ix ka) 0) (nI 3) (nI 4)) cs_X11_40 ⟨rfl, rfl⟩ ⟨(Nat.le_of_ble_eq_true rfl), (Nat.le_of_ble_eq_true rfl)⟩ rfl hl.1 rfl (Nat.le_of_ble_eq_true rfl) ⟨(Nat.le_of_ble_eq_true rfl), (Nat.le_of_ble_eq_true rfl)⟩ dX11_press_39) (fun r39 M39 H locs hR hI => ?_)
    obtain ⟨rfl, rfl⟩ := hR
    refine hw_ti (congrArg (fun b => nI (Bool.toNat b)) hb_in_34) ?_
    refine lv_if_ne (tgt := 51) hx hb dX11_press_42 (by decide) (fun c42 => ?_) (fun c42 => ?_)
    · have hin := hq_dt c42
      refine lv_aload_n hx hb dX11_press_51 rfl (lv_at hl 0 rfl) ?_
      refine hw_get hx hb hts hown hk hI fd_X11_148 e1_hb_ix_kahP1 rfl dX11_press_52 ?_
      refine lv_dup hx hb dX11_press_55 rfl ?_
      refine hw_get hx hb hts hown hk hI fd_X11_189 e4_hb_ix_kahP1 rfl dX11_press_56 ?_
      refine lv_iconst (v := nI 4) hx hb dX11_press_59 (by decide) ?_
      refine lv_idiv hx hb dX11_press_60 (by decide) ?_
      refine hw_put (fs' := [.double (hr_en (hs_P S (hb_ix ka))), .ref (ad 5 (hb_ix ka)), .double (hs_U S (hb_ix ka)), .int ((hs_P S (hb_ix ka) 1) / (nI 4)), .int (hs_P S (hb_ix ka) 2), .int (nI (hs_D S (hb_ix ka)))]) hx hb hts hown hk hI fp_X11_189 e4_hb_ix_kahP1 (Nat.le_of_ble_eq_true rfl) rfl rfl rfl dX11_press_61 (fun H locs hI => ?_)
      refine lv_aload_n hx hb dX11_press_64 rfl (lv_at hl 0 rfl) ?_
      refine hw_get hx hb hts hown hk hI fd_X11_148 (hw_up e1_hb_ix_kahP1 (hP1.n (k := 1) (i := (hb_ix ka)) (k' := 4) (i' := (hb_ix ka)) hi_ka hi_ka (fun q => absurd q.1 (by decide)))) rfl dX11_press_65 ?_
      refine hw_get hx hb hts hown hk hI fd_X11_189 (hw_us _ _ _) rfl dX11_press_68 ?_
      have hok : hr_ok Z b1 (va_up M1 (ad 4 (hb_ix ka)) (hw_ob 7 [.double (hr_en (hs_P S (hb_ix ka))), .ref (ad 5 (hb_ix ka)), .double (hs_U S (hb_ix ka)), .int ((hs_P S (hb_ix ka) 1) / (nI 4)), .int (hs_P S (hb_ix ka) 2), .int (nI (hs_D S (hb_ix ka)))])) ad (hs_sP S (hb_ix ka) (va_up (hs_P S (hb_ix ka)) 1 (hs_P S (hb_ix ka) 1 / nI 4))) (X1) := by
        refine hr_old hP1 (fun _ _ hi => hi) ?_ hP1.q hP1.g
        intro k i hi
        rcases k with _ | _ | _ | _ | _ | _ | _ | _ | _ | _ | _ | _ | _ | k
        · rcases (show i = 0 ∨ i = 1 ∨ i = 2 ∨ i = 3 by have h4 : i < 4 := hi; omega) with rfl | rfl | rfl | rfl
          · show (va_up M1 (ad 4 (hb_ix ka)) (hw_ob 7 [.double (hr_en (hs_P S (hb_ix ka))), .ref (ad 5 (hb_ix ka)), .double (hs_U S (hb_ix ka)), .int ((hs_P S (hb_ix ka) 1) / (nI 4)), .int (hs_P S (hb_ix ka) 2), .int (nI (hs_D S (hb_ix ka)))])) (ad 0 0) = hw_ob 12 [.int (hr_th X1), .int (hs_G S 0), .int (hs_G S 1), .ref (ad 0 2), .ref (ad 0 3), .ref (ad 0 1)]
            rw [va_up_ne _ _ (hP1.n (k := 0) (i := 0) (k' := 4) (i' := (hb_ix ka)) (show 0 < 4 by decide) hi_ka (fun q => absurd q.1 (by decide)))]
            refine (hP1.m 0 0 (show 0 < 4 by decide)).trans ?_
            first | rfl | (simp only [va_up_self]; done) | (simp only [va_up_self]; rfl)
          · show (va_up M1 (ad 4 (hb_ix ka)) (hw_ob 7 [.double (hr_en (hs_P S (hb_ix ka))), .ref (ad 5 (hb_ix ka)), .double (hs_U S (hb_ix ka)), .int ((hs_P S (hb_ix ka) 1) / (nI 4)), .int (hs_P S (hb_ix ka) 2), .int (nI (hs_D S (hb_ix ka)))])) (ad 0 1) = hw_ar Z 6 2 (fun j => some (ad 7 j))
            rw [va_up_ne _ _ (hP1.n (k := 0) (i := 1) (k' := 4) (i' := (hb_ix ka)) (show 1 < 4 by decide) hi_ka (fun q => absurd q.1 (by decide)))]
            refine (hP1.m 0 1 (show 1 < 4 by decide)).trans ?_
            first | rfl | (simp only [va_up_self]; done) | (simp only [va_up_self]; rfl)
          · show (va_up M1 (ad 4 (hb_ix ka)) (hw_ob 7 [.double (hr_en (hs_P S (hb_ix ka))), .ref (ad 5 (hb_ix ka)), .double (hs_U S (hb_ix ka)), .int ((hs_P S (hb_ix ka) 1) / (nI 4)), .int (hs_P S (hb_ix ka) 2), .int (nI (hs_D S (hb_ix ka)))])) (ad 0 2) = hw_ob 0 [.int (hr_mc X1 0), .ref (hr_d (hs_np S) Z.2.2.2 (ad 11 0)), .int (nI (hs_np S))]
            rw [va_up_ne _ _ (hP1.n (k := 0) (i := 2) (k' := 4) (i' := (hb_ix ka)) (show 2 < 4 by decide) hi_ka (fun q => absurd q.1 (by decide)))]
            refine (hP1.m 0 2 (show 2 < 4 by decide)).trans ?_
            first | rfl | (simp only [va_up_self]; done) | (simp only [va_up_self]; rfl)
          · show (va_up M1 (ad 4 (hb_ix ka)) (hw_ob 7 [.double (hr_en (hs_P S (hb_ix ka))), .ref (ad 5 (hb_ix ka)), .double (hs_U S (hb_ix ka)), .int ((hs_P S (hb_ix ka) 1) / (nI 4)), .int (hs_P S (hb_ix ka) 2), .int (nI (hs_D S (hb_ix ka)))])) (ad 0 3) = hw_ob 0 [.int (hr_mc X1 1), .ref (hr_d (hs_nw S) Z.2.2.2 (ad 12 0)), .int (nI (hs_nw S))]
            rw [va_up_ne _ _ (hP1.n (k := 0) (i := 3) (k' := 4) (i' := (hb_ix ka)) (show 3 < 4 by decide) hi_ka (fun q => absurd q.1 (by decide)))]
            refine (hP1.m 0 3 (show 3 < 4 by decide)).trans ?_
            first | rfl | (simp only [va_up_self]; done) | (simp only [va_up_self]; rfl)
        · by_cases q0 : i = (hb_ix ka)
          · subst q0
            show (va_up M1 (ad 4 (hb_ix ka)) (hw_ob 7 [.double (hr_en (hs_P S (hb_ix ka))), .ref (ad 5 (hb_ix ka)), .double (hs_U S (hb_ix ka)), .int ((hs_P S (hb_ix ka) 1) / (nI 4)), .int (hs_P S (hb_ix ka) 2), .int (nI (hs_D S (hb_ix ka)))])) (ad 1 (hb_ix ka)) = hw_ob 9 [.ref (ad 2 (hb_ix ka)), .int ((va_up (hs_P S) (hb_ix ka) (va_up (hs_P S (hb_ix ka)) 1 (hs_P S (hb_ix ka) 1 / nI 4))) (hb_ix ka) 0), .ref (ad 4 (hb_ix ka)), .int ((va_up (hs_P S) (hb_ix ka) (va_up (hs_P S (hb_ix ka)) 1 (hs_P S (hb_ix ka) 1 / nI 4))) (hb_ix ka) 3), .int ((va_up (hs_P S) (hb_ix ka) (va_up (hs_P S (hb_ix ka)) 1 (hs_P S (hb_ix ka) 1 / nI 4))) (hb_ix ka) 4), .int ((va_up (hs_P S) (hb_ix ka) (va_up (hs_P S (hb_ix ka)) 1 (hs_P S (hb_ix ka) 1 / nI 4))) (hb_ix ka) 5), .int ((va_up (hs_P S) (hb_ix ka) (va_up (hs_P S (hb_ix ka)) 1 (hs_P S (hb_ix ka) 1 / nI 4))) (hb_ix ka) 6), .int ((va_up (hs_P S) (hb_ix ka) (va_up (hs_P S (hb_ix ka)) 1 (hs_P S (hb_ix ka) 1 / nI 4))) (hb_ix ka) 7), .int ((va_up (hs_P S) (hb_ix ka) (va_up (hs_P S (hb_ix ka)) 1 (hs_P S (hb_ix ka) 1 / nI 4))) (hb_ix ka) 8)]
            rw [va_up_ne _ _ (hP1.n (k := 1) (i := (hb_ix ka)) (k' := 4) (i' := (hb_ix ka)) hi_ka hi_ka (fun q => absurd q.1 (by decide)))]
            refine (hP1.m 1 (hb_ix ka) hi_ka).trans ?_
            show hw_ob 9 [.ref (ad 2 (hb_ix ka)), .int (hs_P S (hb_ix ka) 0), .ref (ad 4 (hb_ix ka)), .int (hs_P S (hb_ix ka) 3), .int (hs_P S (hb_ix ka) 4), .int (hs_P S (hb_ix ka) 5), .int (hs_P S (hb_ix ka) 6), .int (hs_P S (hb_ix ka) 7), .int (hs_P S (hb_ix ka) 8)] = _
            first | rfl | (simp only [va_up_self]; done) | (simp only [va_up_self]; rfl)
          show (va_up M1 (ad 4 (hb_ix ka)) (hw_ob 7 [.double (hr_en (hs_P S (hb_ix ka))), .ref (ad 5 (hb_ix ka)), .double (hs_U S (hb_ix ka)), .int ((hs_P S (hb_ix ka) 1) / (nI 4)), .int (hs_P S (hb_ix ka) 2), .int (nI (hs_D S (hb_ix ka)))])) (ad 1 i) = hw_ob 9 [.ref (ad 2 i), .int ((va_up (hs_P S) (hb_ix ka) (va_up (hs_P S (hb_ix ka)) 1 (hs_P S (hb_ix ka) 1 / nI 4))) i 0), .ref (ad 4 i), .int ((va_up (hs_P S) (hb_ix ka) (va_up (hs_P S (hb_ix ka)) 1 (hs_P S (hb_ix ka) 1 / nI 4))) i 3), .int ((va_up (hs_P S) (hb_ix ka) (va_up (hs_P S (hb_ix ka)) 1 (hs_P S (hb_ix ka) 1 / nI 4))) i 4), .int ((va_up (hs_P S) (hb_ix ka) (va_up (hs_P S (hb_ix ka)) 1 (hs_P S (hb_ix ka) 1 / nI 4))) i 5), .int ((va_up (hs_P S) (hb_ix ka) (va_up (hs_P S (hb_ix ka)) 1 (hs_P S (hb_ix ka) 1 / nI 4))) i 6), .int ((va_up (hs_P S) (hb_ix ka) (va_up (hs_P S (hb_ix ka)) 1 (hs_P S (hb_ix ka) 1 / nI 4))) i 7), .int ((va_up (hs_P S) (hb_ix ka) (va_up (hs_P S (hb_ix ka)) 1 (hs_P S (hb_ix ka) 1 / nI 4))) i 8)]
          rw [va_up_ne _ _ (hP1.n (k := 1) (i := i) (k' := 4) (i' := (hb_ix ka)) hi hi_ka (fun q => absurd q.1 (by decide)))]
          refine (hP1.m 1 i hi).trans ?_
          first | rfl | (simp only [va_up_ne _ _ q0]; done) | (simp only [va_up_ne _ _ q0]; rfl)
        · show (va_up M1 (ad 4 (hb_ix ka)) (hw_ob 7 [.double (hr_en (hs_P S (hb_ix ka))), .ref (ad 5 (hb_ix ka)), .double (hs_U S (hb_ix ka)), .int ((hs_P S (hb_ix ka) 1) / (nI 4)), .int (hs_P S (hb_ix ka) 2), .int (nI (hs_D S (hb_ix ka)))])) (ad 2 i) = hw_ob 11 [.ref (ad 3 i)]
          rw [va_up_ne _ _ (hP1.n (k := 2) (i := i) (k' := 4) (i' := (hb_ix ka)) hi hi_ka (fun q => absurd q.1 (by decide)))]
          refine (hP1.m 2 i hi).trans ?_
          first | rfl
        · show (va_up M1 (ad 4 (hb_ix ka)) (hw_ob 7 [.double (hr_en (hs_P S (hb_ix ka))), .ref (ad 5 (hb_ix ka)), .double (hs_U S (hb_ix ka)), .int ((hs_P S (hb_ix ka) 1) / (nI 4)), .int (hs_P S (hb_ix ka) 2), .int (nI (hs_D S (hb_ix ka)))])) (ad 3 i) = hw_al Z 8 (hs_C S i)
          rw [va_up_ne _ _ (hP1.n (k := 3) (i := i) (k' := 4) (i' := (hb_ix ka)) hi hi_ka (fun q => absurd q.1 (by decide)))]
          refine (hP1.m 3 i hi).trans ?_
          first | rfl
        · by_cases q0 : i = (hb_ix ka)
          · subst q0
            show (va_up M1 (ad 4 (hb_ix ka)) (hw_ob 7 [.double (hr_en (hs_P S (hb_ix ka))), .ref (ad 5 (hb_ix ka)), .double (hs_U S (hb_ix ka)), .int ((hs_P S (hb_ix ka) 1) / (nI 4)), .int (hs_P S (hb_ix ka) 2), .int (nI (hs_D S (hb_ix ka)))])) (ad 4 (hb_ix ka)) = hw_ob 7 [.double (hr_en ((va_up (hs_P S) (hb_ix ka) (va_up (hs_P S (hb_ix ka)) 1 (hs_P S (hb_ix ka) 1 / nI 4))) (hb_ix ka))), .ref (ad 5 (hb_ix ka)), .double (hs_U S (hb_ix ka)), .int ((va_up (hs_P S) (hb_ix ka) (va_up (hs_P S (hb_ix ka)) 1 (hs_P S (hb_ix ka) 1 / nI 4))) (hb_ix ka) 1), .int ((va_up (hs_P S) (hb_ix ka) (va_up (hs_P S (hb_ix ka)) 1 (hs_P S (hb_ix ka) 1 / nI 4))) (hb_ix ka) 2), .int (nI (hs_D S (hb_ix ka)))]
            refine (hw_us _ _ _).trans ?_
            first | rfl | (simp only [va_up_self]; done) | (simp only [va_up_self]; rfl)
          show (va_up M1 (ad 4 (hb_ix ka)) (hw_ob 7 [.double (hr_en (hs_P S (hb_ix ka))), .ref (ad 5 (hb_ix ka)), .double (hs_U S (hb_ix ka)), .int ((hs_P S (hb_ix ka) 1) / (nI 4)), .int (hs_P S (hb_ix ka) 2), .int (nI (hs_D S (hb_ix ka)))])) (ad 4 i) = hw_ob 7 [.double (hr_en ((va_up (hs_P S) (hb_ix ka) (va_up (hs_P S (hb_ix ka)) 1 (hs_P S (hb_ix ka) 1 / nI 4))) i)), .ref (ad 5 i), .double (hs_U S i), .int ((va_up (hs_P S) (hb_ix ka) (va_up (hs_P S (hb_ix ka)) 1 (hs_P S (hb_ix ka) 1 / nI 4))) i 1), .int ((va_up (hs_P S) (hb_ix ka) (va_up (hs_P S (hb_ix ka)) 1 (hs_P S (hb_ix ka) 1 / nI 4))) i 2), .int (nI (hs_D S i))]
          rw [va_up_ne _ _ (hP1.n (k := 4) (i := i) (k' := 4) (i' := (hb_ix ka)) hi hi_ka (fun q => q0 q.2))]
          refine (hP1.m 4 i hi).trans ?_
          first | rfl | (simp only [va_up_ne _ _ q0]; done) | (simp only [va_up_ne _ _ q0]; rfl)
        · show (va_up M1 (ad 4 (hb_ix ka)) (hw_ob 7 [.double (hr_en (hs_P S (hb_ix ka))), .ref (ad 5 (hb_ix ka)), .double (hs_U S (hb_ix ka)), .int ((hs_P S (hb_ix ka) 1) / (nI 4)), .int (hs_P S (hb_ix ka) 2), .int (nI (hs_D S (hb_ix ka)))])) (ad 5 i) = hw_ad Z 64 (hs_W S i)
          rw [va_up_ne _ _ (hP1.n (k := 5) (i := i) (k' := 4) (i' := (hb_ix ka)) hi hi_ka (fun q => absurd q.1 (by decide)))]
          refine (hP1.m 5 i hi).trans ?_
          first | rfl
        · show (va_up M1 (ad 4 (hb_ix ka)) (hw_ob 7 [.double (hr_en (hs_P S (hb_ix ka))), .ref (ad 5 (hb_ix ka)), .double (hs_U S (hb_ix ka)), .int ((hs_P S (hb_ix ka) 1) / (nI 4)), .int (hs_P S (hb_ix ka) 2), .int (nI (hs_D S (hb_ix ka)))])) (ad 6 i) = hw_ob 10 [.int (hs_V S i 0), .int (hs_V S i 1), .int (hs_V S i 2), .int (hs_V S i 3), .int (hs_V S i 4)]
          rw [va_up_ne _ _ (hP1.n (k := 6) (i := i) (k' := 4) (i' := (hb_ix ka)) hi hi_ka (fun q => absurd q.1 (by decide)))]
          refine (hP1.m 6 i hi).trans ?_
          first | rfl
        · show (va_up M1 (ad 4 (hb_ix ka)) (hw_ob 7 [.double (hr_en (hs_P S (hb_ix ka))), .ref (ad 5 (hb_ix ka)), .double (hs_U S (hb_ix ka)), .int ((hs_P S (hb_ix ka) 1) / (nI 4)), .int (hs_P S (hb_ix ka) 2), .int (nI (hs_D S (hb_ix ka)))])) (ad 7 i) = hw_ob 8 [.int (hs_M S i 0), .int (hs_M S i 1), .int (hs_M S i 2), .int (hs_M S i 3), .ref (ad 8 i)]
          rw [va_up_ne _ _ (hP1.n (k := 7) (i := i) (k' := 4) (i' := (hb_ix ka)) hi hi_ka (fun q => absurd q.1 (by decide)))]
          refine (hP1.m 7 i hi).trans ?_
          first | rfl
        · show (va_up M1 (ad 4 (hb_ix ka)) (hw_ob 7 [.double (hr_en (hs_P S (hb_ix ka))), .ref (ad 5 (hb_ix ka)), .double (hs_U S (hb_ix ka)), .int ((hs_P S (hb_ix ka) 1) / (nI 4)), .int (hs_P S (hb_ix ka) 2), .int (nI (hs_D S (hb_ix ka)))])) (ad 8 i) = hw_ob 0 [.int (hr_mc X1 (2 + i)), .ref (if hr_gr X1 i then ad 9 i else Z.2.2.2), .int (nI (hs_N S i))]
          rw [va_up_ne _ _ (hP1.n (k := 8) (i := i) (k' := 4) (i' := (hb_ix ka)) hi hi_ka (fun q => absurd q.1 (by decide)))]
          refine (hP1.m 8 i hi).trans ?_
          first | rfl
        · show (va_up M1 (ad 4 (hb_ix ka)) (hw_ob 7 [.double (hr_en (hs_P S (hb_ix ka))), .ref (ad 5 (hb_ix ka)), .double (hs_U S (hb_ix ka)), .int ((hs_P S (hb_ix ka) 1) / (nI 4)), .int (hs_P S (hb_ix ka) 2), .int (nI (hs_D S (hb_ix ka)))])) (ad 9 i) = hw_ar Z 7 10 (hc_f (fun j => ad 10 (i + 2 * j)) (hs_N S i))
          rw [va_up_ne _ _ (hP1.n (k := 9) (i := i) (k' := 4) (i' := (hb_ix ka)) hi hi_ka (fun q => absurd q.1 (by decide)))]
          refine (hP1.m 9 i hi).trans ?_
          first | rfl
        · show (va_up M1 (ad 4 (hb_ix ka)) (hw_ob 7 [.double (hr_en (hs_P S (hb_ix ka))), .ref (ad 5 (hb_ix ka)), .double (hs_U S (hb_ix ka)), .int ((hs_P S (hb_ix ka) 1) / (nI 4)), .int (hs_P S (hb_ix ka) 2), .int (nI (hs_D S (hb_ix ka)))])) (ad 10 i) = hw_ai Z 3 (hr_qq X1 (i % 2) (i / 2))
          rw [va_up_ne _ _ (hP1.n (k := 10) (i := i) (k' := 4) (i' := (hb_ix ka)) hi hi_ka (fun q => absurd q.1 (by decide)))]
          refine (hP1.m 10 i hi).trans ?_
          first | rfl
        · show (va_up M1 (ad 4 (hb_ix ka)) (hw_ob 7 [.double (hr_en (hs_P S (hb_ix ka))), .ref (ad 5 (hb_ix ka)), .double (hs_U S (hb_ix ka)), .int ((hs_P S (hb_ix ka) 1) / (nI 4)), .int (hs_P S (hb_ix ka) 2), .int (nI (hs_D S (hb_ix ka)))])) (ad 11 i) = hw_ar Z 7 10 (hc_f (ad 1) (hs_np S))
          rw [va_up_ne _ _ (hP1.n (k := 11) (i := i) (k' := 4) (i' := (hb_ix ka)) hi hi_ka (fun q => absurd q.1 (by decide)))]
          refine (hP1.m 11 i hi).trans ?_
          first | rfl
        · show (va_up M1 (ad 4 (hb_ix ka)) (hw_ob 7 [.double (hr_en (hs_P S (hb_ix ka))), .ref (ad 5 (hb_ix ka)), .double (hs_U S (hb_ix ka)), .int ((hs_P S (hb_ix ka) 1) / (nI 4)), .int (hs_P S (hb_ix ka) 2), .int (nI (hs_D S (hb_ix ka)))])) (ad 12 i) = hw_ar Z 7 10 (hc_f (ad 6) (hs_nw S))
          rw [va_up_ne _ _ (hP1.n (k := 12) (i := i) (k' := 4) (i' := (hb_ix ka)) hi hi_ka (fun q => absurd q.1 (by decide)))]
          refine (hP1.m 12 i hi).trans ?_
          first | rfl
        · exact hi.elim
      have fr_hok : ∀ a, b1 a → (va_up M1 (ad 4 (hb_ix ka)) (hw_ob 7 [.double (hr_en (hs_P S (hb_ix ka))), .ref (ad 5 (hb_ix ka)), .double (hs_U S (hb_ix ka)), .int ((hs_P S (hb_ix ka) 1) / (nI 4)), .int (hs_P S (hb_ix ka) 2), .int (nI (hs_D S (hb_ix ka)))])) a = M a := fun a ha => by rw [va_up_ne _ _ (hP1.f (k := 4) (i := (hb_ix ka)) hi_ka ha)]; exact fr1 a ha
      have hfin : hr_R Z b1 M ad (st_press S ka) ((hs_P S (hb_ix ka) 1) / (nI 4)) (va_up M1 (ad 4 (hb_ix ka)) (hw_ob 7 [.double (hr_en (hs_P S (hb_ix ka))), .ref (ad 5 (hb_ix ka)), .double (hs_U S (hb_ix ka)), .int ((hs_P S (hb_ix ka) 1) / (nI 4)), .int (hs_P S (hb_ix ka) 2), .int (nI (hs_D S (hb_ix ka)))])) := hr_r (S' := hs_sP S (hb_ix ka) (va_up (hs_P S (hb_ix ka)) 1 (hs_P S (hb_ix ka) 1 / nI 4))) (X' := X1) (ad' := ad) (by unfold st_press; exact ((if_neg (fun q => q gk)).trans ((if_neg (fun q => hin.elim q.1 q.2)).trans rfl))) rfl hok ht1 fr_hok
      exact hret hI hfin (Nat.le_of_ble_eq_true rfl) (Nat.le_of_ble_eq_true rfl) dX11_press_71
    · refine lv_aload_n hx hb dX11_press_45 rfl (lv_at hl 1 rfl) ?_
      refine lv_iconst (v := nI 2) hx hb dX11_press_46 (by decide) ?_
      refine hw_ci hI (hw_rV hx hb hml hown hts hk hI (m_X11_no l Z M1 (ad 0 0) (ad 0 2) (ad 0 3) (ad 0 1) (hr_th X1) (hs_G S 0) (hs_G S 1) (nI 2) e0_0hP1) cv_X11_44 e0_0hP1 rfl rfl ⟨rfl, rfl⟩ ⟨(Nat.le_of_ble_eq_true rfl), (Nat.le_of_ble_eq_true rfl)⟩ rfl hl.1 rfl (Nat.le_of_ble_eq_true rfl) ⟨(Nat.le_of_ble_eq_true rfl), (Nat.le_of_ble_eq_true rfl)⟩ dX11_press_47) (fun r47 M47 H locs hR hI => ?_)
      obtain ⟨rfl, rfl⟩ := hR
      exact hret hI (hr_x (n := 2) (by unfold st_press; exact (hq_el (fun q => q gk) (hq_if ⟨fun q => hq_df c42 (Or.inl q), fun q => hq_df c42 (Or.inr q)⟩ ⟨rfl, rfl⟩))) (by decide) (hP1.th (nI 2)) rfl (fun a ha => (va_up_ne _ _ (hP1.f (k := 0) (i := 0) (show 0 < 4 by decide) ha)).trans (fr1 a ha))) (Nat.le_of_ble_eq_true rfl) (Nat.le_of_ble_eq_true rfl) dX11_press_50
  · refine lv_aload_n hx hb dX11_press_13 rfl (lv_at hl 0 rfl) ?_
    refine lv_iconst (v := nI 1) hx hb dX11_press_14 (by decide) ?_
    refine hw_ci hI (hw_rV hx hb hml hown hts hk hI (m_X11_no l Z M1 (ad 0 0) (ad 0 2) (ad 0 3) (ad 0 1) (hr_th X1) (hs_G S 0) (hs_G S 1) (nI 1) e0_0hP1) cv_X11_44 e0_0hP1 rfl rfl ⟨rfl, rfl⟩ ⟨(Nat.le_of_ble_eq_true rfl), (Nat.le_of_ble_eq_true rfl)⟩ rfl hl.1 rfl (Nat.le_of_ble_eq_true rfl) ⟨(Nat.le_of_ble_eq_true rfl), (Nat.le_of_ble_eq_true rfl)⟩ dX11_press_15) (fun r15 M15 H locs hR hI => ?_)
    obtain ⟨rfl, rfl⟩ := hR
    exact hret hI (hr_x (n := 1) (by unfold st_press; exact (hq_if (hq_df c10) ⟨rfl, rfl⟩)) (by decide) (hP1.th (nI 1)) rfl (fun a ha => (va_up_ne _ _ (hP1.f (k := 0) (i := 0) (show 0 < 4 by decide) ha)).trans (fr1 a ha))) (Nat.le_of_ble_eq_true rfl) (Nat.le_of_ble_eq_true rfl) dX11_press_18

set_option maxHeartbeats 4000000 in
set_option maxRecDepth 100000 in
theorem m_X11_layer (l : Launch) (Z : hw_Z) (M : hw_M) (ad : hp_ad) (S : hs_S) (X : hr_X) (b1 : Nat → Prop) (ka : Int32) (kb : Int32) (x : Int64) (hP : hr_ok Z b1 M ad S X) (hV : hv_ok S) (hA : ∀ a, b1 a → M a ≠ none) : Met l yX11_layer (hw_m yX11_layer cX11_layer 5 (some .int)) ({ frames := 8, cells := 2, slots := 90, locals := 250 } : Room) (va_Pc [.ref (ad 0 0), .int ka, .int kb, .long x] (hw_P Z M)) (hw_Qi Z (hr_R Z b1 M ad (st_layer S ka kb x))) 2 90 (hw_A Z) := by
  refine hw_ofi (by decide +kernel) rfl (Nat.le_of_ble_eq_true rfl) ?_
  intro p e s m below meth c ls Q hx hb hml hown hts hk hnm hI hl hret
  have hB := hV.b
  have hnp := hB.np
  have hnw := hB.nw
  have e0_0hP : M (ad 0 0) = hw_ob 12 [.int (hr_th X), .int (hs_G S 0), .int (hs_G S 1), .ref (ad 0 2), .ref (ad 0 3), .ref (ad 0 1)] := hP.m 0 0 (show 0 < 4 by decide)
  refine lv_aload_n hx hb dX11_layer_0 rfl (lv_at hl 0 rfl) ?_
  refine lv_iconst (v := nI 0) hx hb dX11_layer_1 (by decide) ?_
  refine hw_put (fs' := [.int (nI 0), .int (hs_G S 0), .int (hs_G S 1), .ref (ad 0 2), .ref (ad 0 3), .ref (ad 0 1)]) hx hb hts hown hk hI fp_X11_26 e0_0hP (Nat.le_of_ble_eq_true rfl) rfl rfl rfl dX11_layer_2 (fun H locs hI => ?_)
  obtain ⟨M1, hM1⟩ : ∃ Y : hw_M, Y = va_up M (ad 0 0) (hw_ob 12 [.int (nI 0), .int (hs_G S 0), .int (hs_G S 1), .ref (ad 0 2), .ref (ad 0 3), .ref (ad 0 1)]) := ⟨_, rfl⟩
  replace hI := hI.eq hM1.symm
  obtain ⟨X1, hX1⟩ : ∃ Y : hr_X, Y = (nI 0, X.2) := ⟨_, rfl⟩
  have hP1 : hr_ok Z b1 M1 ad S X1 := by rw [hM1, hX1]; exact hP.th (nI 0)
  have ht1 : hr_th X1 = nI 0 := by rw [hX1]; rfl
  have hgr1 : hr_gr X1 = hr_gr X := by rw [hX1]; rfl
  have hqq1 : hr_qq X1 = hr_qq X := by rw [hX1]; rfl
  have fr1 : ∀ a, b1 a → M1 a = M a := fun a ha => by rw [hM1]; exact va_up_ne _ _ (hP.f (k := 0) (i := 0) (show 0 < 4 by decide) ha)
  have hA1 : ∀ a, b1 a → M1 a ≠ none := fun a ha => by rw [fr1 a ha]; exact hA a ha
  clear hP hX1
  have e0_0hP1 : M1 (ad 0 0) = hw_ob 12 [.int (hr_th X1), .int (hs_G S 0), .int (hs_G S 1), .ref (ad 0 2), .ref (ad 0 3), .ref (ad 0 1)] := hP1.m 0 0 (show 0 < 4 by decide)
  have e0_2hP1 : M1 (ad 0 2) = hw_ob 0 [.int (hr_mc X1 0), .ref (hr_d (hs_np S) Z.2.2.2 (ad 11 0)), .int (nI (hs_np S))] := hP1.m 0 2 (show 2 < 4 by decide)
  refine lv_aload_n hx hb dX11_layer_5 rfl (lv_at hl 0 rfl) ?_
  refine lv_iload_n hx hb dX11_layer_6 rfl (lv_at hl 1 rfl) ?_
  refine hw_ci hI (hw_rV hx hb hml hown hts hk hI (m_X11_isPiece l Z M1 (ad 0 0) (ad 0 2) (ad 0 3) (ad 0 1) (hr_th X1) (hs_G S 0) (hs_G S 1) ka (hr_mc X1 0) (hs_np S) (.ref (hr_d (hs_np S) Z.2.2.2 (ad 11 0))) e0_0hP1 e0_2hP1 (by omega)) cv_X11_55 e0_0hP1 rfl rfl ⟨rfl, rfl⟩ ⟨(Nat.le_of_ble_eq_true rfl), (Nat.le_of_ble_eq_true rfl)⟩ rfl hl.1 rfl (Nat.le_of_ble_eq_true rfl) ⟨(Nat.le_of_ble_eq_true rfl), (Nat.le_of_ble_eq_true rfl)⟩ dX11_layer_7) (fun r7 M7 H locs hR hI => ?_)
  obtain ⟨rfl, rfl⟩ := hR
  refine lv_if_eq (tgt := 23) hx hb dX11_layer_10 (by decide) (fun c10 => ?_) (fun c10 => ?_)
  · refine lv_aload_n hx hb dX11_layer_23 rfl (lv_at hl 0 rfl) ?_
    refine lv_iconst (v := nI 1) hx hb dX11_layer_24 (by decide) ?_
    refine hw_ci hI (hw_rV hx hb hml hown hts hk hI (m_X11_no l Z M1 (ad 0 0) (ad 0 2) (ad 0 3) (ad 0 1) (hr_th X1) (hs_G S 0) (hs_G S 1) (nI 1) e0_0hP1) cv_X11_44 e0_0hP1 rfl rfl ⟨rfl, rfl⟩ ⟨(Nat.le_of_ble_eq_true rfl), (Nat.le_of_ble_eq_true rfl)⟩ rfl hl.1 rfl (Nat.le_of_ble_eq_true rfl) ⟨(Nat.le_of_ble_eq_true rfl), (Nat.le_of_ble_eq_true rfl)⟩ dX11_layer_25) (fun r25 M25 H locs hR hI => ?_)
    obtain ⟨rfl, rfl⟩ := hR
    exact hret hI (hr_x (n := 1) (by unfold st_layer; exact (hq_if (fun q => hq_df c10 q.1) ⟨rfl, rfl⟩)) (by decide) (hP1.th (nI 1)) rfl (fun a ha => (va_up_ne _ _ (hP1.f (k := 0) (i := 0) (show 0 < 4 by decide) ha)).trans (fr1 a ha))) (Nat.le_of_ble_eq_true rfl) (Nat.le_of_ble_eq_true rfl) dX11_layer_28
  · refine lv_iload_n hx hb dX11_layer_13 rfl (lv_at hl 2 rfl) ?_
    refine lv_iconst (v := nI 0) hx hb dX11_layer_14 (by decide) ?_
    refine lv_bipush (v := nI 7) hx hb dX11_layer_15 (by decide) ?_
    refine hw_ci hI (hw_rS hx hb hml hown hts hk hI (m_X11_in l Z M1 kb (nI 0) (nI 7)) cs_X11_40 ⟨rfl, rfl⟩ ⟨(Nat.le_of_ble_eq_true rfl), (Nat.le_of_ble_eq_true rfl)⟩ rfl hl.1 rfl (Nat.le_of_ble_eq_true rfl) ⟨(Nat.le_of_ble_eq_true rfl), (Nat.le_of_ble_eq_true rfl)⟩ dX11_layer_17) (fun r17 M17 H locs hR hI => ?_)
    obtain ⟨rfl, rfl⟩ := hR
    refine hw_ti (congrArg (fun b => nI (Bool.toNat b)) (hb_in_okL (k := kb) (n := 7) (by decide))) ?_
    refine lv_if_ne (tgt := 29) hx hb dX11_layer_20 (by decide) (fun c20 => ?_) (fun c20 => ?_)
    · have gk := hq_dt c10
      have gk2 := hq_dt c20
      have hx_kb := hb_okx (by decide) gk2
      have hx_ka := hb_okx (by omega) gk
      have hi_ka : hb_ix ka < hs_np S := hx_ka.1
      have h4_ka : hb_ix ka < 4 := by omega
      have h11 : 0 = 0 ∧ 0 < hs_np S := ⟨rfl, by omega⟩
      have e0_2hP1 : M1 (ad 0 2) = hw_ob 0 [.int (hr_mc X1 0), .ref (ad 11 0), .int (nI (hs_np S))] := by
        have q := hP1.m 0 2 (show 2 < 4 by decide)
        rw [show hr_e Z ad S X1 0 2 = hw_ob 0 [.int (hr_mc X1 0), .ref (hr_d (hs_np S) Z.2.2.2 (ad 11 0)), .int (nI (hs_np S))] from rfl, hr_d0 h11.2] at q
        exact q
      have e11_0hP1 : M1 (ad 11 0) = hw_ar Z 7 10 (hc_f (ad 1) (hs_np S)) := hP1.m 11 0 h11
      have e1_hb_ix_kahP1 : M1 (ad 1 (hb_ix ka)) = hw_ob 9 [.ref (ad 2 (hb_ix ka)), .int (hs_P S (hb_ix ka) 0), .ref (ad 4 (hb_ix ka)), .int (hs_P S (hb_ix ka) 3), .int (hs_P S (hb_ix ka) 4), .int (hs_P S (hb_ix ka) 5), .int (hs_P S (hb_ix ka) 6), .int (hs_P S (hb_ix ka) 7), .int (hs_P S (hb_ix ka) 8)] := hP1.m 1 (hb_ix ka) hi_ka
      have e2_hb_ix_kahP1 : M1 (ad 2 (hb_ix ka)) = hw_ob 11 [.ref (ad 3 (hb_ix ka))] := hP1.m 2 (hb_ix ka) hi_ka
      have e3_hb_ix_kahP1 : M1 (ad 3 (hb_ix ka)) = hw_al Z 8 (hs_C S (hb_ix ka)) := hP1.m 3 (hb_ix ka) hi_ka
      refine lv_aload_n hx hb dX11_layer_29 rfl (lv_at hl 0 rfl) ?_
      refine hw_get hx hb hts hown hk hI fd_X11_10 e0_0hP1 rfl dX11_layer_30 ?_
      refine lv_iload_n hx hb dX11_layer_33 rfl (lv_at hl 1 rfl) ?_
      refine hw_ti hx_ka.2 ?_
      refine hw_cFr hI (hw_rF hx hb hml hown hts hk hI (m_Jx4a65c_get_915e3 l Z M1 (ad 0 2) (ad 11 0) (hs_np S) (hb_ix ka) (ad 1 (hb_ix ka)) (hr_mc X1 0) (hc_f (ad 1) (hs_np S)) e0_2hP1 e11_0hP1 hi_ka (by omega) (if_pos hi_ka)) cf_X11_59 e0_2hP1 rfl rfl ⟨rfl, rfl⟩ ⟨(Nat.le_of_ble_eq_true rfl), (Nat.le_of_ble_eq_true rfl)⟩ rfl hl.1 rfl (Nat.le_of_ble_eq_true rfl) ⟨(Nat.le_of_ble_eq_true rfl), (Nat.le_of_ble_eq_true rfl)⟩ dX11_layer_34) (fun r34 M34 H locs hR hI => ?_)
      obtain ⟨rfl, rfl⟩ := hR
      refine hw_cast hx hb hts hown hk hI e1_hb_ix_kahP1 rfl (hw_win (w := .classLink RX11 48 RX8) (by decide +kernel) (by decide +kernel)) dX11_layer_39 ?_
      refine hw_get hx hb hts hown hk hI fd_X11_63 e1_hb_ix_kahP1 rfl dX11_layer_42 ?_
      refine lv_if_eq (tgt := 54) hx hb dX11_layer_45 (by decide) (fun c45 => ?_) (fun c45 => ?_)
      · refine lv_aload_n hx hb dX11_layer_54 rfl (lv_at hl 0 rfl) ?_
        refine hw_get hx hb hts hown hk hI fd_X11_10 e0_0hP1 rfl dX11_layer_55 ?_
        refine lv_iload_n hx hb dX11_layer_58 rfl (lv_at hl 1 rfl) ?_
        refine hw_ti hx_ka.2 ?_
        refine hw_cFr hI (hw_rF hx hb hml hown hts hk hI (m_Jx4a65c_get_915e3 l Z M1 (ad 0 2) (ad 11 0) (hs_np S) (hb_ix ka) (ad 1 (hb_ix ka)) (hr_mc X1 0) (hc_f (ad 1) (hs_np S)) e0_2hP1 e11_0hP1 hi_ka (by omega) (if_pos hi_ka)) cf_X11_59 e0_2hP1 rfl rfl ⟨rfl, rfl⟩ ⟨(Nat.le_of_ble_eq_true rfl), (Nat.le_of_ble_eq_true rfl)⟩ rfl hl.1 rfl (Nat.le_of_ble_eq_true rfl) ⟨(Nat.le_of_ble_eq_true rfl), (Nat.le_of_ble_eq_true rfl)⟩ dX11_layer_59) (fun r59 M59 H locs hR hI => ?_)
        obtain ⟨rfl, rfl⟩ := hR
        refine hw_cast hx hb hts hown hk hI e1_hb_ix_kahP1 rfl (hw_win (w := .classLink RX11 48 RX8) (by decide +kernel) (by decide +kernel)) dX11_layer_64 ?_
        refine hw_get hx hb hts hown hk hI fd_X11_66 e1_hb_ix_kahP1 rfl dX11_layer_67 ?_
        refine hw_get hx hb hts hown hk hI fd_X11_70 e2_hb_ix_kahP1 rfl dX11_layer_70 ?_
        refine lv_iload_n hx hb dX11_layer_73 rfl (lv_at hl 2 rfl) ?_
        refine lv_lload_n hx hb dX11_layer_74 rfl (lv_at hl 3 rfl) ?_
        refine hw_last hx hb hk hI e3_hb_ix_kahP1 (j := hb_ix kb) hx_kb.2 hx_kb.1 (by decide) dX11_layer_75 (fun H locs hI => ?_)
        refine lv_lload_n hx hb dX11_layer_76 rfl (lv_at hl 3 rfl) ?_
        refine hw_ci hI (hw_rS hx hb hml hown hts hk hI (m_X11_size l Z (va_up M1 (ad 3 (hb_ix ka)) (hw_al Z 8 (va_up (hs_C S (hb_ix ka)) (hb_ix kb) x))) x) cs_X11_76 ⟨rfl, rfl⟩ ⟨(Nat.le_of_ble_eq_true rfl), (Nat.le_of_ble_eq_true rfl)⟩ rfl hl.1 rfl (Nat.le_of_ble_eq_true rfl) ⟨(Nat.le_of_ble_eq_true rfl), (Nat.le_of_ble_eq_true rfl)⟩ dX11_layer_77) (fun r77 M77 H locs hR hI => ?_)
        obtain ⟨rfl, rfl⟩ := hR
        have hok : hr_ok Z b1 (va_up M1 (ad 3 (hb_ix ka)) (hw_al Z 8 (va_up (hs_C S (hb_ix ka)) (hb_ix kb) x))) ad (hs_sC S (hb_ix ka) (va_up (hs_C S (hb_ix ka)) (hb_ix kb) x)) (X1) := by
          refine hr_old hP1 (fun _ _ hi => hi) ?_ hP1.q hP1.g
          intro k i hi
          rcases k with _ | _ | _ | _ | _ | _ | _ | _ | _ | _ | _ | _ | _ | k
          · rcases (show i = 0 ∨ i = 1 ∨ i = 2 ∨ i = 3 by have h4 : i < 4 := hi; omega) with rfl | rfl | rfl | rfl
            · show (va_up M1 (ad 3 (hb_ix ka)) (hw_al Z 8 (va_up (hs_C S (hb_ix ka)) (hb_ix kb) x))) (ad 0 0) = hw_ob 12 [.int (hr_th X1), .int (hs_G S 0), .int (hs_G S 1), .ref (ad 0 2), .ref (ad 0 3), .ref (ad 0 1)]
              rw [va_up_ne _ _ (hP1.n (k := 0) (i := 0) (k' := 3) (i' := (hb_ix ka)) (show 0 < 4 by decide) hi_ka (fun q => absurd q.1 (by decide)))]
              refine (hP1.m 0 0 (show 0 < 4 by decide)).trans ?_
              first | rfl | (simp only [va_up_self]; done) | (simp only [va_up_self]; rfl)
            · show (va_up M1 (ad 3 (hb_ix ka)) (hw_al Z 8 (va_up (hs_C S (hb_ix ka)) (hb_ix kb) x))) (ad 0 1) = hw_ar Z 6 2 (fun j => some (ad 7 j))
              rw [va_up_ne _ _ (hP1.n (k := 0) (i := 1) (k' := 3) (i' := (hb_ix ka)) (show 1 < 4 by decide) hi_ka (fun q => absurd q.1 (by decide)))]
              refine (hP1.m 0 1 (show 1 < 4 by decide)).trans ?_
              first | rfl | (simp only [va_up_self]; done) | (simp only [va_up_self]; rfl)
            · show (va_up M1 (ad 3 (hb_ix ka)) (hw_al Z 8 (va_up (hs_C S (hb_ix ka)) (hb_ix kb) x))) (ad 0 2) = hw_ob 0 [.int (hr_mc X1 0), .ref (hr_d (hs_np S) Z.2.2.2 (ad 11 0)), .int (nI (hs_np S))]
              rw [va_up_ne _ _ (hP1.n (k := 0) (i := 2) (k' := 3) (i' := (hb_ix ka)) (show 2 < 4 by decide) hi_ka (fun q => absurd q.1 (by decide)))]
              refine (hP1.m 0 2 (show 2 < 4 by decide)).trans ?_
              first | rfl | (simp only [va_up_self]; done) | (simp only [va_up_self]; rfl)
            · show (va_up M1 (ad 3 (hb_ix ka)) (hw_al Z 8 (va_up (hs_C S (hb_ix ka)) (hb_ix kb) x))) (ad 0 3) = hw_ob 0 [.int (hr_mc X1 1), .ref (hr_d (hs_nw S) Z.2.2.2 (ad 12 0)), .int (nI (hs_nw S))]
              rw [va_up_ne _ _ (hP1.n (k := 0) (i := 3) (k' := 3) (i' := (hb_ix ka)) (show 3 < 4 by decide) hi_ka (fun q => absurd q.1 (by decide)))]
              refine (hP1.m 0 3 (show 3 < 4 by decide)).trans ?_
              first | rfl | (simp only [va_up_self]; done) | (simp only [va_up_self]; rfl)
          · show (va_up M1 (ad 3 (hb_ix ka)) (hw_al Z 8 (va_up (hs_C S (hb_ix ka)) (hb_ix kb) x))) (ad 1 i) = hw_ob 9 [.ref (ad 2 i), .int (hs_P S i 0), .ref (ad 4 i), .int (hs_P S i 3), .int (hs_P S i 4), .int (hs_P S i 5), .int (hs_P S i 6), .int (hs_P S i 7), .int (hs_P S i 8)]
            rw [va_up_ne _ _ (hP1.n (k := 1) (i := i) (k' := 3) (i' := (hb_ix ka)) hi hi_ka (fun q => absurd q.1 (by decide)))]
            refine (hP1.m 1 i hi).trans ?_
            first | rfl
          · show (va_up M1 (ad 3 (hb_ix ka)) (hw_al Z 8 (va_up (hs_C S (hb_ix ka)) (hb_ix kb) x))) (ad 2 i) = hw_ob 11 [.ref (ad 3 i)]
            rw [va_up_ne _ _ (hP1.n (k := 2) (i := i) (k' := 3) (i' := (hb_ix ka)) hi hi_ka (fun q => absurd q.1 (by decide)))]
            refine (hP1.m 2 i hi).trans ?_
            first | rfl
          · by_cases q0 : i = (hb_ix ka)
            · subst q0
              show (va_up M1 (ad 3 (hb_ix ka)) (hw_al Z 8 (va_up (hs_C S (hb_ix ka)) (hb_ix kb) x))) (ad 3 (hb_ix ka)) = hw_al Z 8 ((va_up (hs_C S) (hb_ix ka) (va_up (hs_C S (hb_ix ka)) (hb_ix kb) x)) (hb_ix ka))
              refine (hw_us _ _ _).trans ?_
              first | rfl | (simp only [va_up_self]; done) | (simp only [va_up_self]; rfl)
            show (va_up M1 (ad 3 (hb_ix ka)) (hw_al Z 8 (va_up (hs_C S (hb_ix ka)) (hb_ix kb) x))) (ad 3 i) = hw_al Z 8 ((va_up (hs_C S) (hb_ix ka) (va_up (hs_C S (hb_ix ka)) (hb_ix kb) x)) i)
            rw [va_up_ne _ _ (hP1.n (k := 3) (i := i) (k' := 3) (i' := (hb_ix ka)) hi hi_ka (fun q => q0 q.2))]
            refine (hP1.m 3 i hi).trans ?_
            first | rfl | (simp only [va_up_ne _ _ q0]; done) | (simp only [va_up_ne _ _ q0]; rfl)
          · show (va_up M1 (ad 3 (hb_ix ka)) (hw_al Z 8 (va_up (hs_C S (hb_ix ka)) (hb_ix kb) x))) (ad 4 i) = hw_ob 7 [.double (hr_en (hs_P S i)), .ref (ad 5 i), .double (hs_U S i), .int (hs_P S i 1), .int (hs_P S i 2), .int (nI (hs_D S i))]
            rw [va_up_ne _ _ (hP1.n (k := 4) (i := i) (k' := 3) (i' := (hb_ix ka)) hi hi_ka (fun q => absurd q.1 (by decide)))]
            refine (hP1.m 4 i hi).trans ?_
            first | rfl
          · show (va_up M1 (ad 3 (hb_ix ka)) (hw_al Z 8 (va_up (hs_C S (hb_ix ka)) (hb_ix kb) x))) (ad 5 i) = hw_ad Z 64 (hs_W S i)
            rw [va_up_ne _ _ (hP1.n (k := 5) (i := i) (k' := 3) (i' := (hb_ix ka)) hi hi_ka (fun q => absurd q.1 (by decide)))]
            refine (hP1.m 5 i hi).trans ?_
            first | rfl
          · show (va_up M1 (ad 3 (hb_ix ka)) (hw_al Z 8 (va_up (hs_C S (hb_ix ka)) (hb_ix kb) x))) (ad 6 i) = hw_ob 10 [.int (hs_V S i 0), .int (hs_V S i 1), .int (hs_V S i 2), .int (hs_V S i 3), .int (hs_V S i 4)]
            rw [va_up_ne _ _ (hP1.n (k := 6) (i := i) (k' := 3) (i' := (hb_ix ka)) hi hi_ka (fun q => absurd q.1 (by decide)))]
            refine (hP1.m 6 i hi).trans ?_
            first | rfl
          · show (va_up M1 (ad 3 (hb_ix ka)) (hw_al Z 8 (va_up (hs_C S (hb_ix ka)) (hb_ix kb) x))) (ad 7 i) = hw_ob 8 [.int (hs_M S i 0), .int (hs_M S i 1), .int (hs_M S i 2), .int (hs_M S i 3), .ref (ad 8 i)]
            rw [va_up_ne _ _ (hP1.n (k := 7) (i := i) (k' := 3) (i' := (hb_ix ka)) hi hi_ka (fun q => absurd q.1 (by decide)))]
            refine (hP1.m 7 i hi).trans ?_
            first | rfl
          · show (va_up M1 (ad 3 (hb_ix ka)) (hw_al Z 8 (va_up (hs_C S (hb_ix ka)) (hb_ix kb) x))) (ad 8 i) = hw_ob 0 [.int (hr_mc X1 (2 + i)), .ref (if hr_gr X1 i then ad 9 i else Z.2.2.2), .int (nI (hs_N S i))]
            rw [va_up_ne _ _ (hP1.n (k := 8) (i := i) (k' := 3) (i' := (hb_ix ka)) hi hi_ka (fun q => absurd q.1 (by decide)))]
            refine (hP1.m 8 i hi).trans ?_
            first | rfl
          · show (va_up M1 (ad 3 (hb_ix ka)) (hw_al Z 8 (va_up (hs_C S (hb_ix ka)) (hb_ix kb) x))) (ad 9 i) = hw_ar Z 7 10 (hc_f (fun j => ad 10 (i + 2 * j)) (hs_N S i))
            rw [va_up_ne _ _ (hP1.n (k := 9) (i := i) (k' := 3) (i' := (hb_ix ka)) hi hi_ka (fun q => absurd q.1 (by decide)))]
            refine (hP1.m 9 i hi).trans ?_
            first | rfl
          · show (va_up M1 (ad 3 (hb_ix ka)) (hw_al Z 8 (va_up (hs_C S (hb_ix ka)) (hb_ix kb) x))) (ad 10 i) = hw_ai Z 3 (hr_qq X1 (i % 2) (i / 2))
            rw [va_up_ne _ _ (hP1.n (k := 10) (i := i) (k' := 3) (i' := (hb_ix ka)) hi hi_ka (fun q => absurd q.1 (by decide)))]
            refine (hP1.m 10 i hi).trans ?_
            first | rfl
          · show (va_up M1 (ad 3 (hb_ix ka)) (hw_al Z 8 (va_up (hs_C S (hb_ix ka)) (hb_ix kb) x))) (ad 11 i) = hw_ar Z 7 10 (hc_f (ad 1) (hs_np S))
            rw [va_up_ne _ _ (hP1.n (k := 11) (i := i) (k' := 3) (i' := (hb_ix ka)) hi hi_ka (fun q => absurd q.1 (by decide)))]
            refine (hP1.m 11 i hi).trans ?_
            first | rfl
          · show (va_up M1 (ad 3 (hb_ix ka)) (hw_al Z 8 (va_up (hs_C S (hb_ix ka)) (hb_ix kb) x))) (ad 12 i) = hw_ar Z 7 10 (hc_f (ad 6) (hs_nw S))
            rw [va_up_ne _ _ (hP1.n (k := 12) (i := i) (k' := 3) (i' := (hb_ix ka)) hi hi_ka (fun q => absurd q.1 (by decide)))]
            refine (hP1.m 12 i hi).trans ?_
            first | rfl
          · exact hi.elim
        have fr_hok : ∀ a, b1 a → (va_up M1 (ad 3 (hb_ix ka)) (hw_al Z 8 (va_up (hs_C S (hb_ix ka)) (hb_ix kb) x))) a = M a := fun a ha => by rw [va_up_ne _ _ (hP1.f (k := 3) (i := (hb_ix ka)) hi_ka ha)]; exact fr1 a ha
        have hfin : hr_R Z b1 M ad (st_layer S ka kb x) (nI (hb_pc x)) (va_up M1 (ad 3 (hb_ix ka)) (hw_al Z 8 (va_up (hs_C S (hb_ix ka)) (hb_ix kb) x))) := hr_r (S' := hs_sC S (hb_ix ka) (va_up (hs_C S (hb_ix ka)) (hb_ix kb) x)) (X' := X1) (ad' := ad) (by unfold st_layer; exact ((if_neg (fun q => q ⟨gk, gk2⟩)).trans ((if_neg (fun q => q c45)).trans rfl))) rfl hok ht1 fr_hok
        exact hret hI hfin (Nat.le_of_ble_eq_true rfl) (Nat.le_of_ble_eq_true rfl) dX11_layer_80
      · refine lv_aload_n hx hb dX11_layer_48 rfl (lv_at hl 0 rfl) ?_
        refine lv_iconst (v := nI 2) hx hb dX11_layer_49 (by decide) ?_
        refine hw_ci hI (hw_rV hx hb hml hown hts hk hI (m_X11_no l Z M1 (ad 0 0) (ad 0 2) (ad 0 3) (ad 0 1) (hr_th X1) (hs_G S 0) (hs_G S 1) (nI 2) e0_0hP1) cv_X11_44 e0_0hP1 rfl rfl ⟨rfl, rfl⟩ ⟨(Nat.le_of_ble_eq_true rfl), (Nat.le_of_ble_eq_true rfl)⟩ rfl hl.1 rfl (Nat.le_of_ble_eq_true rfl) ⟨(Nat.le_of_ble_eq_true rfl), (Nat.le_of_ble_eq_true rfl)⟩ dX11_layer_50) (fun r50 M50 H locs hR hI => ?_)
        obtain ⟨rfl, rfl⟩ := hR
        exact hret hI (hr_x (n := 2) (by unfold st_layer; exact (hq_el (fun q => q ⟨gk, gk2⟩) (hq_if c45 ⟨rfl, rfl⟩))) (by decide) (hP1.th (nI 2)) rfl (fun a ha => (va_up_ne _ _ (hP1.f (k := 0) (i := 0) (show 0 < 4 by decide) ha)).trans (fr1 a ha))) (Nat.le_of_ble_eq_true rfl) (Nat.le_of_ble_eq_true rfl) dX11_layer_53
    · refine lv_aload_n hx hb dX11_layer_23 rfl (lv_at hl 0 rfl) ?_
      refine lv_iconst (v := nI 1) hx hb dX11_layer_24 (by decide) ?_
      refine hw_ci hI (hw_rV hx hb hml hown hts hk hI (m_X11_no l Z M1 (ad 0 0) (ad 0 2) (ad 0 3) (ad 0 1) (hr_th X1) (hs_G S 0) (hs_G S 1) (nI 1) e0_0hP1) cv_X11_44 e0_0hP1 rfl rfl ⟨rfl, rfl⟩ ⟨(Nat.le_of_ble_eq_true rfl), (Nat.le_of_ble_eq_true rfl)⟩ rfl hl.1 rfl (Nat.le_of_ble_eq_true rfl) ⟨(Nat.le_of_ble_eq_true rfl), (Nat.le_of_ble_eq_true rfl)⟩ dX11_layer_25) (fun r25 M25 H locs hR hI => ?_)
      obtain ⟨rfl, rfl⟩ := hR
      exact hret hI (hr_x (n := 1) (by unfold st_layer; exact (hq_if (fun q => hq_df c20 q.2) ⟨rfl, rfl⟩)) (by decide) (hP1.th (nI 1)) rfl (fun a ha => (va_up_ne _ _ (hP1.f (k := 0) (i := 0) (show 0 < 4 by decide) ha)).trans (fr1 a ha))) (Nat.le_of_ble_eq_true rfl) (Nat.le_of_ble_eq_true rfl) dX11_layer_28
