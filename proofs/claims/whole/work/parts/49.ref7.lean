theorem hr_upid {α : Type} (f : Nat → α) (g : Nat) : va_up f g (f g) = f := by
  funext k
  by_cases h : k = g
  · subst h; rw [va_up_self]
  · rw [va_up_ne _ _ h]
set_option maxHeartbeats 4000000 in
set_option maxRecDepth 100000 in
theorem m_X11_prove_s (l : Launch) (Z : hw_Z) (M : hw_M) (ad : hp_ad) (S : hs_S) (X : hr_X) (b1 : Nat → Prop) (ka : Int32) (hP : hr_ok Z b1 M ad S X) (hV : hv_ok S) (hA : ∀ a, b1 a → M a ≠ none) (hg : hr_gr X (hb_ix (hs_P S (hb_ix ka) 4)) = true) : Met l yX11_prove (hw_m yX11_prove cX11_prove 5 (some .boolean)) ({ frames := 8, cells := 3, slots := 20, locals := 250 } : Room) (va_Pc [.ref (ad 0 0), .int ka] (hw_P Z M)) (hw_Qi Z (hr_R Z b1 M ad (st_prove S ka))) 3 20 (hw_A Z) := by
  refine hw_ofz (by decide +kernel) rfl (Nat.le_of_ble_eq_true rfl) ?_
  intro p e s m below meth c ls Q hx hb hml hown hts hk hnm hI hl hret
  have hB := hV.b
  have hnp := hB.np
  have hnw := hB.nw
  have e0_0hP : M (ad 0 0) = hw_ob 12 [.int (hr_th X), .int (hs_G S 0), .int (hs_G S 1), .ref (ad 0 2), .ref (ad 0 3), .ref (ad 0 1)] := hP.m 0 0 (show 0 < 4 by decide)
  refine lv_aload_n hx hb dX11_prove_0 rfl (lv_at hl 0 rfl) ?_
  refine lv_iconst (v := nI 0) hx hb dX11_prove_1 (by decide) ?_
  refine hw_put (fs' := [.int (nI 0), .int (hs_G S 0), .int (hs_G S 1), .ref (ad 0 2), .ref (ad 0 3), .ref (ad 0 1)]) hx hb hts hown hk hI fp_X11_26 e0_0hP (Nat.le_of_ble_eq_true rfl) rfl rfl rfl dX11_prove_2 (fun H locs hI => ?_)
  obtain ⟨M1, hM1⟩ : ∃ Y : hw_M, Y = va_up M (ad 0 0) (hw_ob 12 [.int (nI 0), .int (hs_G S 0), .int (hs_G S 1), .ref (ad 0 2), .ref (ad 0 3), .ref (ad 0 1)]) := ⟨_, rfl⟩
  replace hI := hI.eq hM1.symm
  obtain ⟨X1, hX1⟩ : ∃ Y : hr_X, Y = (nI 0, X.2) := ⟨_, rfl⟩
  have hP1 : hr_ok Z b1 M1 ad S X1 := by rw [hM1, hX1]; exact hP.th (nI 0)
  have ht1 : hr_th X1 = nI 0 := by rw [hX1]; rfl
  have hgr1 : hr_gr X1 = hr_gr X := by rw [hX1]; rfl
  have hqq1 : hr_qq X1 = hr_qq X := by rw [hX1]; rfl
  have fr1 : ∀ a, b1 a → M1 a = M a := fun a ha => by rw [hM1]; exact va_up_ne _ _ (hP.f (k := 0) (i := 0) (show 0 < 4 by decide) ha)
  have hA1 : ∀ a, b1 a → M1 a ≠ none := fun a ha => by rw [fr1 a ha]; exact hA a ha
  clear hP hX1
  have e0_0hP1 : M1 (ad 0 0) = hw_ob 12 [.int (hr_th X1), .int (hs_G S 0), .int (hs_G S 1), .ref (ad 0 2), .ref (ad 0 3), .ref (ad 0 1)] := hP1.m 0 0 (show 0 < 4 by decide)
  have e0_2hP1 : M1 (ad 0 2) = hw_ob 0 [.int (hr_mc X1 0), .ref (hr_d (hs_np S) Z.2.2.2 (ad 11 0)), .int (nI (hs_np S))] := hP1.m 0 2 (show 2 < 4 by decide)
  refine lv_aload_n hx hb dX11_prove_5 rfl (lv_at hl 0 rfl) ?_
  refine lv_iload_n hx hb dX11_prove_6 rfl (lv_at hl 1 rfl) ?_
  refine hw_ci hI (hw_rV hx hb hml hown hts hk hI (m_X11_isPiece l Z M1 (ad 0 0) (ad 0 2) (ad 0 3) (ad 0 1) (hr_th X1) (hs_G S 0) (hs_G S 1) ka (hr_mc X1 0) (hs_np S) (.ref (hr_d (hs_np S) Z.2.2.2 (ad 11 0))) e0_0hP1 e0_2hP1 (by omega)) cv_X11_55 e0_0hP1 rfl rfl ⟨rfl, rfl⟩ ⟨(Nat.le_of_ble_eq_true rfl), (Nat.le_of_ble_eq_true rfl)⟩ rfl hl.1 rfl (Nat.le_of_ble_eq_true rfl) ⟨(Nat.le_of_ble_eq_true rfl), (Nat.le_of_ble_eq_true rfl)⟩ dX11_prove_7) (fun r7 M7 H locs hR hI => ?_)
  obtain ⟨rfl, rfl⟩ := hR
  refine lv_if_ne (tgt := 27) hx hb dX11_prove_10 (by decide) (fun c10 => ?_) (fun c10 => ?_)
  · have gk := hq_dt c10
    have hx_ka := hb_okx (by omega) gk
    have hi_ka : hb_ix ka < hs_np S := hx_ka.1
    have h4_ka : hb_ix ka < 4 := by omega
    have h11 : 0 = 0 ∧ 0 < hs_np S := ⟨rfl, by omega⟩
    have e0_2hP1 : M1 (ad 0 2) = hw_ob 0 [.int (hr_mc X1 0), .ref (ad 11 0), .int (nI (hs_np S))] := by
      have q := hP1.m 0 2 (show 2 < 4 by decide)
      rw [show hr_e Z ad S X1 0 2 = hw_ob 0 [.int (hr_mc X1 0), .ref (hr_d (hs_np S) Z.2.2.2 (ad 11 0)), .int (nI (hs_np S))] from rfl, hr_d0 h11.2] at q
      exact q
    have e11_0hP1 : M1 (ad 11 0) = hw_ar Z 7 10 (hc_f (ad 1) (hs_np S)) := hP1.m 11 0 h11
    have e1_hb_ix_kahP1 : M1 (ad 1 (hb_ix ka)) = hw_ob 9 [.ref (ad 2 (hb_ix ka)), .int (hs_P S (hb_ix ka) 0), .ref (ad 4 (hb_ix ka)), .int (hs_P S (hb_ix ka) 3), .int (hs_P S (hb_ix ka) 4), .int (hs_P S (hb_ix ka) 5), .int (hs_P S (hb_ix ka) 6), .int (hs_P S (hb_ix ka) 7), .int (hs_P S (hb_ix ka) 8)] := hP1.m 1 (hb_ix ka) hi_ka
    have e2_hb_ix_kahP1 : M1 (ad 2 (hb_ix ka)) = hw_ob 11 [.ref (ad 3 (hb_ix ka))] := hP1.m 2 (hb_ix ka) hi_ka
    have e3_hb_ix_kahP1 : M1 (ad 3 (hb_ix ka)) = hw_al Z 8 (hs_C S (hb_ix ka)) := hP1.m 3 (hb_ix ka) hi_ka
    have e4_hb_ix_kahP1 : M1 (ad 4 (hb_ix ka)) = hw_ob 7 [.double (hr_en (hs_P S (hb_ix ka))), .ref (ad 5 (hb_ix ka)), .double (hs_U S (hb_ix ka)), .int (hs_P S (hb_ix ka) 1), .int (hs_P S (hb_ix ka) 2), .int (nI (hs_D S (hb_ix ka)))] := hP1.m 4 (hb_ix ka) hi_ka
    refine lv_aload_n hx hb dX11_prove_27 rfl (lv_at hl 0 rfl) ?_
    refine hw_get hx hb hts hown hk hI fd_X11_10 e0_0hP1 rfl dX11_prove_28 ?_
    refine lv_iload_n hx hb dX11_prove_31 rfl (lv_at hl 1 rfl) ?_
    refine hw_ti hx_ka.2 ?_
    refine hw_cFr hI (hw_rF hx hb hml hown hts hk hI (m_Jx4a65c_get_915e3 l Z M1 (ad 0 2) (ad 11 0) (hs_np S) (hb_ix ka) (ad 1 (hb_ix ka)) (hr_mc X1 0) (hc_f (ad 1) (hs_np S)) e0_2hP1 e11_0hP1 hi_ka (by omega) (if_pos hi_ka)) cf_X11_59 e0_2hP1 rfl rfl ⟨rfl, rfl⟩ ⟨(Nat.le_of_ble_eq_true rfl), (Nat.le_of_ble_eq_true rfl)⟩ rfl hl.1 rfl (Nat.le_of_ble_eq_true rfl) ⟨(Nat.le_of_ble_eq_true rfl), (Nat.le_of_ble_eq_true rfl)⟩ dX11_prove_32) (fun r32 M32 H locs hR hI => ?_)
    obtain ⟨rfl, rfl⟩ := hR
    refine hw_cast hx hb hts hown hk hI e1_hb_ix_kahP1 rfl (hw_win (w := .classLink RX11 48 RX8) (by decide +kernel) (by decide +kernel)) dX11_prove_37 ?_
    refine lv_astore_n (lv' := [(2, .ref (ad 1 (hb_ix ka))), (0, .ref (ad 0 0)), (1, .int ka)]) hx hb dX11_prove_40 rfl hl (by decide) rfl (fun ls hl => ?_)
    refine lv_aload_n hx hb dX11_prove_41 rfl (lv_at hl 0 rfl) ?_
    refine hw_get hx hb hts hown hk hI fd_X11_63 e1_hb_ix_kahP1 rfl dX11_prove_42 ?_
    refine lv_iconst (v := nI 4) hx hb dX11_prove_45 (by decide) ?_
    refine lv_icmp_eq (tgt := 63) hx hb dX11_prove_46 (by decide) (fun c46 => ?_) (fun c46 => ?_)
    · have hs0 : ¬ hs_P S (hb_ix ka) 0 = 0 := by rw [c46]; decide
      obtain ⟨t4, t5, t6, al, tal, t9, m9, t8, m90, m96, tm⟩ := hV.st hi_ka hs0
      have hx4 := hb_okx (by decide) t4
      have h4n := hb_okn t4
      have hao := hv_ao (S := S) t8 m90 m96 tm
      have hnw0 : 0 < hs_nw S := by obtain ⟨k9, _, hk9⟩ := hb_tbx m9 m90 m96; have := (tm k9 hk9).1; omega
      have h12 : 0 = 0 ∧ 0 < hs_nw S := ⟨rfl, hnw0⟩
      have hq9 : hb_tr (hr_qq X1 (hb_ix (hs_P S (hb_ix ka) 4))) al (hs_P S (hb_ix ka) 5) (hs_P S (hb_ix ka) 6) (hs_N S (hb_ix (hs_P S (hb_ix ka) 4))) = hb_has (hs_Q S (hb_ix (hs_P S (hb_ix ka) 4))) (hs_P S (hb_ix ka) 9) (hs_N S (hb_ix (hs_P S (hb_ix ka) 4))) := hb_tr_has tal t5 t6 t9 _ (fun m hm => hP1.q (hb_ix (hs_P S (hb_ix ka) 4)) m hx4.1 hm)
      have hg1 : hr_gr X1 (hb_ix (hs_P S (hb_ix ka) 4)) = true := by rw [hgr1]; exact hg
      have h9 : hb_ix (hs_P S (hb_ix ka) 4) < 2 ∧ hr_gr X1 (hb_ix (hs_P S (hb_ix ka) 4)) = true := ⟨hx4.1, hg1⟩
      have hif : (if hr_gr X1 (hb_ix (hs_P S (hb_ix ka) 4)) = true then ad 9 (hb_ix (hs_P S (hb_ix ka) 4)) else Z.2.2.2) = ad 9 (hb_ix (hs_P S (hb_ix ka) 4)) := if_pos hg1
      have e0_1hP1 : M1 (ad 0 1) = hw_ar Z 6 2 (fun j => some (ad 7 j)) := hP1.m 0 1 (show 1 < 4 by decide)
      have e0_3hP1 : M1 (ad 0 3) = hw_ob 0 [.int (hr_mc X1 1), .ref (ad 12 0), .int (nI (hs_nw S))] := by
        have q := hP1.m 0 3 (show 3 < 4 by decide)
        rw [show hr_e Z ad S X1 0 3 = hw_ob 0 [.int (hr_mc X1 1), .ref (hr_d (hs_nw S) Z.2.2.2 (ad 12 0)), .int (nI (hs_nw S))] from rfl, hr_d0 h12.2] at q
        exact q
      have e12_0hP1 : M1 (ad 12 0) = hw_ar Z 7 10 (hc_f (ad 6) (hs_nw S)) := hP1.m 12 0 h12
      have e7_hb_ix_hs_P_S_hb_ix_ka_4hP1 : M1 (ad 7 (hb_ix (hs_P S (hb_ix ka) 4))) = hw_ob 8 [.int (hs_M S (hb_ix (hs_P S (hb_ix ka) 4)) 0), .int (hs_M S (hb_ix (hs_P S (hb_ix ka) 4)) 1), .int (hs_M S (hb_ix (hs_P S (hb_ix ka) 4)) 2), .int (hs_M S (hb_ix (hs_P S (hb_ix ka) 4)) 3), .ref (ad 8 (hb_ix (hs_P S (hb_ix ka) 4)))] := hP1.m 7 (hb_ix (hs_P S (hb_ix ka) 4)) hx4.1
      have e8_hb_ix_hs_P_S_hb_ix_ka_4hP1 : M1 (ad 8 (hb_ix (hs_P S (hb_ix ka) 4))) = hw_ob 0 [.int (hr_mc X1 (2 + (hb_ix (hs_P S (hb_ix ka) 4)))), .ref (ad 9 (hb_ix (hs_P S (hb_ix ka) 4))), .int (nI (hs_N S (hb_ix (hs_P S (hb_ix ka) 4))))] := by
        have q := hP1.m 8 (hb_ix (hs_P S (hb_ix ka) 4)) hx4.1
        rw [show hr_e Z ad S X1 8 (hb_ix (hs_P S (hb_ix ka) 4)) = hw_ob 0 [.int (hr_mc X1 (2 + (hb_ix (hs_P S (hb_ix ka) 4)))), .ref (if hr_gr X1 (hb_ix (hs_P S (hb_ix ka) 4)) then ad 9 (hb_ix (hs_P S (hb_ix ka) 4)) else Z.2.2.2), .int (nI (hs_N S (hb_ix (hs_P S (hb_ix ka) 4))))] from rfl, hif] at q
        exact q
      have e9_hb_ix_hs_P_S_hb_ix_ka_4hP1 : M1 (ad 9 (hb_ix (hs_P S (hb_ix ka) 4))) = hw_ar Z 7 10 (hc_f (fun j => ad 10 ((hb_ix (hs_P S (hb_ix ka) 4)) + 2 * j)) (hs_N S (hb_ix (hs_P S (hb_ix ka) 4)))) := hP1.m 9 (hb_ix (hs_P S (hb_ix ka) 4)) h9
      have h10 : ∀ i, i < hs_N S (hb_ix (hs_P S (hb_ix ka) 4)) → hr_p S X1 10 (hb_ix (hs_P S (hb_ix ka) 4) + 2 * i) := fun i hi => by
        show (hb_ix (hs_P S (hb_ix ka) 4) + 2 * i) / 2 < hs_N S ((hb_ix (hs_P S (hb_ix ka) 4) + 2 * i) % 2)
        have h2 := hx4.1
        rw [show (hb_ix (hs_P S (hb_ix ka) 4) + 2 * i) / 2 = i by omega, show (hb_ix (hs_P S (hb_ix ka) 4) + 2 * i) % 2 = hb_ix (hs_P S (hb_ix ka) 4) by omega]; exact hi
      have h10e : ∀ i, hw_ai Z 3 (hr_qq X1 ((hb_ix (hs_P S (hb_ix ka) 4) + 2 * i) % 2) ((hb_ix (hs_P S (hb_ix ka) 4) + 2 * i) / 2)) = hw_ai Z 3 (hr_qq X1 (hb_ix (hs_P S (hb_ix ka) 4)) i) := fun i => by
        have h2 := hx4.1
        rw [show (hb_ix (hs_P S (hb_ix ka) 4) + 2 * i) / 2 = i by omega, show (hb_ix (hs_P S (hb_ix ka) 4) + 2 * i) % 2 = hb_ix (hs_P S (hb_ix ka) 4) by omega]
      refine lv_aload_n hx hb dX11_prove_63 rfl (lv_at hl 0 rfl) ?_
      refine hw_cd hI (hw_rV hx hb hml hown hts hk hI (m_X8_density l Z M1 (ad 1 (hb_ix ka)) (ad 2 (hb_ix ka)) (ad 3 (hb_ix ka)) (ad 4 (hb_ix ka)) (ad 5 (hb_ix ka)) (hs_D S (hb_ix ka)) (hs_P S (hb_ix ka) 0) (hs_P S (hb_ix ka) 3) (hs_P S (hb_ix ka) 4) (hs_P S (hb_ix ka) 5) (hs_P S (hb_ix ka) 6) (hs_P S (hb_ix ka) 7) (hs_P S (hb_ix ka) 8) (hs_P S (hb_ix ka) 1) (hs_P S (hb_ix ka) 2) (hr_en (hs_P S (hb_ix ka))) (hs_U S (hb_ix ka)) (hs_C S (hb_ix ka)) e1_hb_ix_kahP1 e2_hb_ix_kahP1 e3_hb_ix_kahP1 e4_hb_ix_kahP1) cv_X11_192 e1_hb_ix_kahP1 rfl rfl ⟨rfl, rfl⟩ ⟨(Nat.le_of_ble_eq_true rfl), (Nat.le_of_ble_eq_true rfl)⟩ rfl hl.1 rfl (Nat.le_of_ble_eq_true rfl) ⟨(Nat.le_of_ble_eq_true rfl), (Nat.le_of_ble_eq_true rfl)⟩ dX11_prove_64) (fun r64 M64 H locs hR hI => ?_)
      obtain ⟨rfl, rfl⟩ := hR
      refine lv_ldc2d (v := 4606732058837280358) hx hb hown (hts _ (hw_win (w := .constantDouble RX11 196 4606732058837280358) (by decide +kernel) (by decide +kernel))) dX11_prove_67 ?_
      refine lv_dcmp hx hb dX11_prove_70 ?_
      refine lv_if_ge (tgt := 76) hx hb dX11_prove_71 (by decide) (fun c71 => ?_) (fun c71 => ?_)
      · refine lv_aload_n hx hb dX11_prove_76 rfl (lv_at hl 1 rfl) ?_
        refine hw_get hx hb hts hown hk hI fd_X11_22 e0_0hP1 rfl dX11_prove_77 ?_
        refine lv_aload_n hx hb dX11_prove_80 rfl (lv_at hl 0 rfl) ?_
        refine hw_get hx hb hts hown hk hI fd_X11_152 e1_hb_ix_kahP1 rfl dX11_prove_81 ?_
        refine hw_aald hx hb hk hI 6 (v := .ref (ad 7 (hb_ix (hs_P S (hb_ix ka) 4)))) e0_1hP1 rfl (j := hb_ix (hs_P S (hb_ix ka) 4)) hx4.2 hx4.1 (by decide) rfl dX11_prove_84 ?_
        refine lv_astore_n (lv' := [(3, .ref (ad 7 (hb_ix (hs_P S (hb_ix ka) 4)))), (2, .ref (ad 1 (hb_ix ka))), (0, .ref (ad 0 0)), (1, .int ka)]) hx hb dX11_prove_85 rfl hl (by decide) rfl (fun ls hl => ?_)
        refine lv_iconst (v := nI 3) hx hb dX11_prove_86 (by decide) ?_
        refine hw_newa (a0 := (3, .inl (fun _ => 0))) hx hb hts hk hI (atype := .int) (hw_win (w := .arrayClass .int) (by decide +kernel) (by decide +kernel)) rfl 0 rfl (fun _ h => by cases h) (fun _ => rfl) rfl (by decide) (by decide) (Nat.le_of_ble_eq_true rfl) (Nat.le_of_ble_eq_true rfl) dX11_prove_87 (fun q87 H hq87 hI => ?_)
        refine lv_dup hx hb dX11_prove_89 rfl ?_
        refine lv_iconst (v := nI 0) hx hb dX11_prove_90 (by decide) ?_
        refine lv_aload_n hx hb dX11_prove_91 rfl (lv_at hl 2 rfl) ?_
        refine lv_aload_n hx hb dX11_prove_92 rfl (lv_at hl 1 rfl) ?_
        refine hw_ci hI (hw_rV hx hb hml hown hts hk hI (m_X11_alloyOf l Z (va_up M1 q87 (hw_ai Z 3 (fun _ => 0))) (ad 0 0) (ad 0 2) (ad 0 3) (ad 0 1) (hr_th X1) (hs_G S 0) (hs_G S 1) (ad 1 (hb_ix ka)) (ad 2 (hb_ix ka)) (ad 4 (hb_ix ka)) (ad 12 0) (hs_nw S) m9 (hr_mc X1 1) (hs_P S (hb_ix ka) 0) (hs_P S (hb_ix ka) 3) (hs_P S (hb_ix ka) 4) (hs_P S (hb_ix ka) 5) (hs_P S (hb_ix ka) 6) (hs_P S (hb_ix ka) 7) (hs_P S (hb_ix ka) 8) (hc_f (ad 6) (hs_nw S)) (ad 6) (hs_V S) (hw_up e0_0hP1 (hw_nn e0_0hP1 hq87)) (hw_up e1_hb_ix_kahP1 (hw_nn e1_hb_ix_kahP1 hq87)) (hw_up e0_3hP1 (hw_nn e0_3hP1 hq87)) (hw_up e12_0hP1 (hw_nn e12_0hP1 hq87)) t8 m96 hnw (fun i hi => if_pos hi) (fun i hi => (va_up_ne _ _ (hw_xn (hP1.a 6 i hi) hq87)).trans (hP1.m 6 i hi))) cv_X11_198 (hw_up e0_0hP1 (hw_nn e0_0hP1 hq87)) rfl rfl ⟨rfl, rfl⟩ ⟨(Nat.le_of_ble_eq_true rfl), (Nat.le_of_ble_eq_true rfl)⟩ rfl hl.1 rfl (Nat.le_of_ble_eq_true rfl) ⟨(Nat.le_of_ble_eq_true rfl), (Nat.le_of_ble_eq_true rfl)⟩ dX11_prove_93) (fun r93 M93 H locs hR hI => ?_)
        obtain ⟨rfl, rfl⟩ := hR
        refine hw_ti hao ?_
        refine hw_iast hx hb hk hI (hw_us _ _ _) (j := 0) rfl (by omega) (by decide) dX11_prove_96 (fun H locs hI => ?_)
        refine lv_dup hx hb dX11_prove_97 rfl ?_
        refine lv_iconst (v := nI 1) hx hb dX11_prove_98 (by decide) ?_
        refine lv_aload_n hx hb dX11_prove_99 rfl (lv_at hl 1 rfl) ?_
        refine hw_get hx hb hts hown hk hI fd_X11_153 (hw_up (hw_up e1_hb_ix_kahP1 (hw_nn e1_hb_ix_kahP1 hq87)) (hw_nn e1_hb_ix_kahP1 hq87)) rfl dX11_prove_100 ?_
        refine hw_iast hx hb hk hI (hw_us _ _ _) (j := 1) rfl (by omega) (by decide) dX11_prove_103 (fun H locs hI => ?_)
        refine lv_dup hx hb dX11_prove_104 rfl ?_
        refine lv_iconst (v := nI 2) hx hb dX11_prove_105 (by decide) ?_
        refine lv_aload_n hx hb dX11_prove_106 rfl (lv_at hl 1 rfl) ?_
        refine hw_get hx hb hts hown hk hI fd_X11_156 (hw_up (hw_up (hw_up e1_hb_ix_kahP1 (hw_nn e1_hb_ix_kahP1 hq87)) (hw_nn e1_hb_ix_kahP1 hq87)) (hw_nn e1_hb_ix_kahP1 hq87)) rfl dX11_prove_107 ?_
        refine hw_iast hx hb hk hI (hw_us _ _ _) (j := 2) rfl (by omega) (by decide) dX11_prove_110 (fun H locs hI => ?_)
        refine lv_astore (lv' := [(4, .ref q87), (3, .ref (ad 7 (hb_ix (hs_P S (hb_ix ka) 4)))), (2, .ref (ad 1 (hb_ix ka))), (0, .ref (ad 0 0)), (1, .int ka)]) hx hb dX11_prove_111 hl (by decide) rfl (fun ls hl => ?_)
        refine lv_aload_n hx hb dX11_prove_113 rfl (lv_at hl 1 rfl) ?_
        refine lv_aload hx hb dX11_prove_114 (lv_at hl 0 rfl) ?_
        refine lv_iconst (v := nI 0) hx hb dX11_prove_116 (by decide) ?_
        refine hw_iald hx hb hk hI (hw_us _ _ _) (j := 0) rfl (by omega) (by decide) dX11_prove_117 ?_
        refine hw_ti rfl ?_
        refine lv_aload_n hx hb dX11_prove_118 rfl (lv_at hl 2 rfl) ?_
        refine hw_get hx hb hts hown hk hI fd_X11_153 (hw_up (hw_up (hw_up (hw_up e1_hb_ix_kahP1 (hw_nn e1_hb_ix_kahP1 hq87)) (hw_nn e1_hb_ix_kahP1 hq87)) (hw_nn e1_hb_ix_kahP1 hq87)) (hw_nn e1_hb_ix_kahP1 hq87)) rfl dX11_prove_119 ?_
        refine lv_aload_n hx hb dX11_prove_122 rfl (lv_at hl 2 rfl) ?_
        refine hw_get hx hb hts hown hk hI fd_X11_156 (hw_up (hw_up (hw_up (hw_up e1_hb_ix_kahP1 (hw_nn e1_hb_ix_kahP1 hq87)) (hw_nn e1_hb_ix_kahP1 hq87)) (hw_nn e1_hb_ix_kahP1 hq87)) (hw_nn e1_hb_ix_kahP1 hq87)) rfl dX11_prove_123 ?_
        refine hw_ci hI (hw_rV hx hb hml hown hts hk hI (m_X7_isProved l Z (va_up (va_up (va_up (va_up M1 q87 (hw_ai Z 3 (fun _ => 0))) q87 (hw_ai Z 3 (va_up (fun _ => 0) 0 al))) q87 (hw_ai Z 3 (va_up (va_up (fun _ => 0) 0 al) 1 (hs_P S (hb_ix ka) 5)))) q87 (hw_ai Z 3 (va_up (va_up (va_up (fun _ => 0) 0 al) 1 (hs_P S (hb_ix ka) 5)) 2 (hs_P S (hb_ix ka) 6)))) (ad 7 (hb_ix (hs_P S (hb_ix ka) 4))) (ad 8 (hb_ix (hs_P S (hb_ix ka) 4))) (ad 9 (hb_ix (hs_P S (hb_ix ka) 4))) (hs_N S (hb_ix (hs_P S (hb_ix ka) 4))) (hr_mc X1 (2 + (hb_ix (hs_P S (hb_ix ka) 4)))) al (hs_P S (hb_ix ka) 5) (hs_P S (hb_ix ka) 6) (hs_M S (hb_ix (hs_P S (hb_ix ka) 4)) 0) (hs_M S (hb_ix (hs_P S (hb_ix ka) 4)) 1) (hs_M S (hb_ix (hs_P S (hb_ix ka) 4)) 2) (hs_M S (hb_ix (hs_P S (hb_ix ka) 4)) 3) (hc_f (fun j => ad 10 ((hb_ix (hs_P S (hb_ix ka) 4)) + 2 * j)) (hs_N S (hb_ix (hs_P S (hb_ix ka) 4)))) (fun j => ad 10 (hb_ix (hs_P S (hb_ix ka) 4) + 2 * j)) (hr_qq X1 (hb_ix (hs_P S (hb_ix ka) 4))) (hw_up (hw_up (hw_up (hw_up e7_hb_ix_hs_P_S_hb_ix_ka_4hP1 (hw_nn e7_hb_ix_hs_P_S_hb_ix_ka_4hP1 hq87)) (hw_nn e7_hb_ix_hs_P_S_hb_ix_ka_4hP1 hq87)) (hw_nn e7_hb_ix_hs_P_S_hb_ix_ka_4hP1 hq87)) (hw_nn e7_hb_ix_hs_P_S_hb_ix_ka_4hP1 hq87)) (hw_up (hw_up (hw_up (hw_up e8_hb_ix_hs_P_S_hb_ix_ka_4hP1 (hw_nn e8_hb_ix_hs_P_S_hb_ix_ka_4hP1 hq87)) (hw_nn e8_hb_ix_hs_P_S_hb_ix_ka_4hP1 hq87)) (hw_nn e8_hb_ix_hs_P_S_hb_ix_ka_4hP1 hq87)) (hw_nn e8_hb_ix_hs_P_S_hb_ix_ka_4hP1 hq87)) (hw_up (hw_up (hw_up (hw_up e9_hb_ix_hs_P_S_hb_ix_ka_4hP1 (hw_nn e9_hb_ix_hs_P_S_hb_ix_ka_4hP1 hq87)) (hw_nn e9_hb_ix_hs_P_S_hb_ix_ka_4hP1 hq87)) (hw_nn e9_hb_ix_hs_P_S_hb_ix_ka_4hP1 hq87)) (hw_nn e9_hb_ix_hs_P_S_hb_ix_ka_4hP1 hq87)) (by have := hB.N hx4.1; omega) (fun i hi => if_pos hi) (fun i hi => Eq.trans (b := M1 (ad 10 (hb_ix (hs_P S (hb_ix ka) 4) + 2 * i))) (by rw [va_up_ne _ _ (hw_xn (hP1.a 10 (hb_ix (hs_P S (hb_ix ka) 4) + 2 * i) (h10 i hi)) hq87), va_up_ne _ _ (hw_xn (hP1.a 10 (hb_ix (hs_P S (hb_ix ka) 4) + 2 * i) (h10 i hi)) hq87), va_up_ne _ _ (hw_xn (hP1.a 10 (hb_ix (hs_P S (hb_ix ka) 4) + 2 * i) (h10 i hi)) hq87), va_up_ne _ _ (hw_xn (hP1.a 10 (hb_ix (hs_P S (hb_ix ka) 4) + 2 * i) (h10 i hi)) hq87)]) ((hP1.m 10 (hb_ix (hs_P S (hb_ix ka) 4) + 2 * i) (h10 i hi)).trans (h10e i)))) cv_X11_202 (hw_up (hw_up (hw_up (hw_up e7_hb_ix_hs_P_S_hb_ix_ka_4hP1 (hw_nn e7_hb_ix_hs_P_S_hb_ix_ka_4hP1 hq87)) (hw_nn e7_hb_ix_hs_P_S_hb_ix_ka_4hP1 hq87)) (hw_nn e7_hb_ix_hs_P_S_hb_ix_ka_4hP1 hq87)) (hw_nn e7_hb_ix_hs_P_S_hb_ix_ka_4hP1 hq87)) rfl rfl ⟨rfl, rfl⟩ ⟨(Nat.le_of_ble_eq_true rfl), (Nat.le_of_ble_eq_true rfl)⟩ rfl hl.1 rfl (Nat.le_of_ble_eq_true rfl) ⟨(Nat.le_of_ble_eq_true rfl), (Nat.le_of_ble_eq_true rfl)⟩ dX11_prove_126) (fun r126 M126 H locs hR hI => ?_)
        obtain ⟨rfl, rfl⟩ := hR
        refine lv_if_ne (tgt := 144) hx hb dX11_prove_129 (by decide) (fun c129 => ?_) (fun c129 => ?_)
        · refine lv_iconst (v := nI 1) hx hb dX11_prove_144 (by decide) ?_
          have hhas : hb_has (hs_Q S (hb_ix (hs_P S (hb_ix ka) 4))) (hs_P S (hb_ix ka) 9) (hs_N S (hb_ix (hs_P S (hb_ix ka) 4))) = true := by rw [← hq9]; exact hq_bt c129
          have hN9 : ∀ k, va_up (hs_N S) (hb_ix (hs_P S (hb_ix ka) 4)) (hs_N S (hb_ix (hs_P S (hb_ix ka) 4))) k = hs_N S k := fun k => by
            by_cases q : k = hb_ix (hs_P S (hb_ix ka) 4)
            · rw [q, va_up_self]
            · rw [va_up_ne _ _ q]
          have hok : hr_ok Z b1 (va_up (va_up (va_up (va_up M1 q87 (hw_ai Z 3 (fun _ => 0))) q87 (hw_ai Z 3 (va_up (fun _ => 0) 0 al))) q87 (hw_ai Z 3 (va_up (va_up (fun _ => 0) 0 al) 1 (hs_P S (hb_ix ka) 5)))) q87 (hw_ai Z 3 (va_up (va_up (va_up (fun _ => 0) 0 al) 1 (hs_P S (hb_ix ka) 5)) 2 (hs_P S (hb_ix ka) 6)))) ad (hs_sN (hs_sQ S (hb_ix (hs_P S (hb_ix ka) 4)) (hs_Q S (hb_ix (hs_P S (hb_ix ka) 4)))) (hb_ix (hs_P S (hb_ix ka) 4)) (hs_N S (hb_ix (hs_P S (hb_ix ka) 4)))) (X1) := by
            refine hr_old hP1 (fun k i hi => ?_) ?_ (hr_q_sub hP1.q (fun k _ => Nat.le_of_eq (hN9 k)) (hr_upid _ _) rfl) (hr_g_sub hP1.g (fun k _ => Nat.le_of_eq (hN9 k)) rfl)
            · rcases k with _ | _ | _ | _ | _ | _ | _ | _ | _ | _ | _ | _ | _ | k
              · exact hi
              · exact hi
              · exact hi
              · exact hi
              · exact hi
              · exact hi
              · exact hi
              · exact hi
              · exact hi
              · exact hi
              · exact (show i / 2 < hs_N S (i % 2) from (hN9 (i % 2)) ▸ hi)
              · exact hi
              · exact hi
              · exact hi.elim
            intro k i hi
            rcases k with _ | _ | _ | _ | _ | _ | _ | _ | _ | _ | _ | _ | _ | k
            · rcases (show i = 0 ∨ i = 1 ∨ i = 2 ∨ i = 3 by have h4 : i < 4 := hi; omega) with rfl | rfl | rfl | rfl
              · show (va_up (va_up (va_up (va_up M1 q87 (hw_ai Z 3 (fun _ => 0))) q87 (hw_ai Z 3 (va_up (fun _ => 0) 0 al))) q87 (hw_ai Z 3 (va_up (va_up (fun _ => 0) 0 al) 1 (hs_P S (hb_ix ka) 5)))) q87 (hw_ai Z 3 (va_up (va_up (va_up (fun _ => 0) 0 al) 1 (hs_P S (hb_ix ka) 5)) 2 (hs_P S (hb_ix ka) 6)))) (ad 0 0) = hw_ob 12 [.int (hr_th X1), .int (hs_G S 0), .int (hs_G S 1), .ref (ad 0 2), .ref (ad 0 3), .ref (ad 0 1)]
                rw [va_up_ne _ _ (hw_xn (hP1.a 0 0 (show 0 < 4 by decide)) hq87), va_up_ne _ _ (hw_xn (hP1.a 0 0 (show 0 < 4 by decide)) hq87), va_up_ne _ _ (hw_xn (hP1.a 0 0 (show 0 < 4 by decide)) hq87), va_up_ne _ _ (hw_xn (hP1.a 0 0 (show 0 < 4 by decide)) hq87)]
                refine (hP1.m 0 0 (show 0 < 4 by decide)).trans ?_
                first | rfl | (simp only [va_up_self]; done) | (simp only [va_up_self]; rfl) | (simp only [va_up_self, hN9]; done)
              · show (va_up (va_up (va_up (va_up M1 q87 (hw_ai Z 3 (fun _ => 0))) q87 (hw_ai Z 3 (va_up (fun _ => 0) 0 al))) q87 (hw_ai Z 3 (va_up (va_up (fun _ => 0) 0 al) 1 (hs_P S (hb_ix ka) 5)))) q87 (hw_ai Z 3 (va_up (va_up (va_up (fun _ => 0) 0 al) 1 (hs_P S (hb_ix ka) 5)) 2 (hs_P S (hb_ix ka) 6)))) (ad 0 1) = hw_ar Z 6 2 (fun j => some (ad 7 j))
                rw [va_up_ne _ _ (hw_xn (hP1.a 0 1 (show 1 < 4 by decide)) hq87), va_up_ne _ _ (hw_xn (hP1.a 0 1 (show 1 < 4 by decide)) hq87), va_up_ne _ _ (hw_xn (hP1.a 0 1 (show 1 < 4 by decide)) hq87), va_up_ne _ _ (hw_xn (hP1.a 0 1 (show 1 < 4 by decide)) hq87)]
                refine (hP1.m 0 1 (show 1 < 4 by decide)).trans ?_
                first | rfl | (simp only [va_up_self]; done) | (simp only [va_up_self]; rfl) | (simp only [va_up_self, hN9]; done)
              · show (va_up (va_up (va_up (va_up M1 q87 (hw_ai Z 3 (fun _ => 0))) q87 (hw_ai Z 3 (va_up (fun _ => 0) 0 al))) q87 (hw_ai Z 3 (va_up (va_up (fun _ => 0) 0 al) 1 (hs_P S (hb_ix ka) 5)))) q87 (hw_ai Z 3 (va_up (va_up (va_up (fun _ => 0) 0 al) 1 (hs_P S (hb_ix ka) 5)) 2 (hs_P S (hb_ix ka) 6)))) (ad 0 2) = hw_ob 0 [.int (hr_mc X1 0), .ref (hr_d (hs_np S) Z.2.2.2 (ad 11 0)), .int (nI (hs_np S))]
                rw [va_up_ne _ _ (hw_xn (hP1.a 0 2 (show 2 < 4 by decide)) hq87), va_up_ne _ _ (hw_xn (hP1.a 0 2 (show 2 < 4 by decide)) hq87), va_up_ne _ _ (hw_xn (hP1.a 0 2 (show 2 < 4 by decide)) hq87), va_up_ne _ _ (hw_xn (hP1.a 0 2 (show 2 < 4 by decide)) hq87)]
                refine (hP1.m 0 2 (show 2 < 4 by decide)).trans ?_
                first | rfl | (simp only [va_up_self]; done) | (simp only [va_up_self]; rfl) | (simp only [va_up_self, hN9]; done)
              · show (va_up (va_up (va_up (va_up M1 q87 (hw_ai Z 3 (fun _ => 0))) q87 (hw_ai Z 3 (va_up (fun _ => 0) 0 al))) q87 (hw_ai Z 3 (va_up (va_up (fun _ => 0) 0 al) 1 (hs_P S (hb_ix ka) 5)))) q87 (hw_ai Z 3 (va_up (va_up (va_up (fun _ => 0) 0 al) 1 (hs_P S (hb_ix ka) 5)) 2 (hs_P S (hb_ix ka) 6)))) (ad 0 3) = hw_ob 0 [.int (hr_mc X1 1), .ref (hr_d (hs_nw S) Z.2.2.2 (ad 12 0)), .int (nI (hs_nw S))]
                rw [va_up_ne _ _ (hw_xn (hP1.a 0 3 (show 3 < 4 by decide)) hq87), va_up_ne _ _ (hw_xn (hP1.a 0 3 (show 3 < 4 by decide)) hq87), va_up_ne _ _ (hw_xn (hP1.a 0 3 (show 3 < 4 by decide)) hq87), va_up_ne _ _ (hw_xn (hP1.a 0 3 (show 3 < 4 by decide)) hq87)]
                refine (hP1.m 0 3 (show 3 < 4 by decide)).trans ?_
                first | rfl | (simp only [va_up_self]; done) | (simp only [va_up_self]; rfl) | (simp only [va_up_self, hN9]; done)
            · show (va_up (va_up (va_up (va_up M1 q87 (hw_ai Z 3 (fun _ => 0))) q87 (hw_ai Z 3 (va_up (fun _ => 0) 0 al))) q87 (hw_ai Z 3 (va_up (va_up (fun _ => 0) 0 al) 1 (hs_P S (hb_ix ka) 5)))) q87 (hw_ai Z 3 (va_up (va_up (va_up (fun _ => 0) 0 al) 1 (hs_P S (hb_ix ka) 5)) 2 (hs_P S (hb_ix ka) 6)))) (ad 1 i) = hw_ob 9 [.ref (ad 2 i), .int (hs_P S i 0), .ref (ad 4 i), .int (hs_P S i 3), .int (hs_P S i 4), .int (hs_P S i 5), .int (hs_P S i 6), .int (hs_P S i 7), .int (hs_P S i 8)]
              rw [va_up_ne _ _ (hw_xn (hP1.a 1 i hi) hq87), va_up_ne _ _ (hw_xn (hP1.a 1 i hi) hq87), va_up_ne _ _ (hw_xn (hP1.a 1 i hi) hq87), va_up_ne _ _ (hw_xn (hP1.a 1 i hi) hq87)]
              refine (hP1.m 1 i hi).trans ?_
              first | rfl
            · show (va_up (va_up (va_up (va_up M1 q87 (hw_ai Z 3 (fun _ => 0))) q87 (hw_ai Z 3 (va_up (fun _ => 0) 0 al))) q87 (hw_ai Z 3 (va_up (va_up (fun _ => 0) 0 al) 1 (hs_P S (hb_ix ka) 5)))) q87 (hw_ai Z 3 (va_up (va_up (va_up (fun _ => 0) 0 al) 1 (hs_P S (hb_ix ka) 5)) 2 (hs_P S (hb_ix ka) 6)))) (ad 2 i) = hw_ob 11 [.ref (ad 3 i)]
              rw [va_up_ne _ _ (hw_xn (hP1.a 2 i hi) hq87), va_up_ne _ _ (hw_xn (hP1.a 2 i hi) hq87), va_up_ne _ _ (hw_xn (hP1.a 2 i hi) hq87), va_up_ne _ _ (hw_xn (hP1.a 2 i hi) hq87)]
              refine (hP1.m 2 i hi).trans ?_
              first | rfl
            · show (va_up (va_up (va_up (va_up M1 q87 (hw_ai Z 3 (fun _ => 0))) q87 (hw_ai Z 3 (va_up (fun _ => 0) 0 al))) q87 (hw_ai Z 3 (va_up (va_up (fun _ => 0) 0 al) 1 (hs_P S (hb_ix ka) 5)))) q87 (hw_ai Z 3 (va_up (va_up (va_up (fun _ => 0) 0 al) 1 (hs_P S (hb_ix ka) 5)) 2 (hs_P S (hb_ix ka) 6)))) (ad 3 i) = hw_al Z 8 (hs_C S i)
              rw [va_up_ne _ _ (hw_xn (hP1.a 3 i hi) hq87), va_up_ne _ _ (hw_xn (hP1.a 3 i hi) hq87), va_up_ne _ _ (hw_xn (hP1.a 3 i hi) hq87), va_up_ne _ _ (hw_xn (hP1.a 3 i hi) hq87)]
              refine (hP1.m 3 i hi).trans ?_
              first | rfl
            · show (va_up (va_up (va_up (va_up M1 q87 (hw_ai Z 3 (fun _ => 0))) q87 (hw_ai Z 3 (va_up (fun _ => 0) 0 al))) q87 (hw_ai Z 3 (va_up (va_up (fun _ => 0) 0 al) 1 (hs_P S (hb_ix ka) 5)))) q87 (hw_ai Z 3 (va_up (va_up (va_up (fun _ => 0) 0 al) 1 (hs_P S (hb_ix ka) 5)) 2 (hs_P S (hb_ix ka) 6)))) (ad 4 i) = hw_ob 7 [.double (hr_en (hs_P S i)), .ref (ad 5 i), .double (hs_U S i), .int (hs_P S i 1), .int (hs_P S i 2), .int (nI (hs_D S i))]
              rw [va_up_ne _ _ (hw_xn (hP1.a 4 i hi) hq87), va_up_ne _ _ (hw_xn (hP1.a 4 i hi) hq87), va_up_ne _ _ (hw_xn (hP1.a 4 i hi) hq87), va_up_ne _ _ (hw_xn (hP1.a 4 i hi) hq87)]
              refine (hP1.m 4 i hi).trans ?_
              first | rfl
            · show (va_up (va_up (va_up (va_up M1 q87 (hw_ai Z 3 (fun _ => 0))) q87 (hw_ai Z 3 (va_up (fun _ => 0) 0 al))) q87 (hw_ai Z 3 (va_up (va_up (fun _ => 0) 0 al) 1 (hs_P S (hb_ix ka) 5)))) q87 (hw_ai Z 3 (va_up (va_up (va_up (fun _ => 0) 0 al) 1 (hs_P S (hb_ix ka) 5)) 2 (hs_P S (hb_ix ka) 6)))) (ad 5 i) = hw_ad Z 64 (hs_W S i)
              rw [va_up_ne _ _ (hw_xn (hP1.a 5 i hi) hq87), va_up_ne _ _ (hw_xn (hP1.a 5 i hi) hq87), va_up_ne _ _ (hw_xn (hP1.a 5 i hi) hq87), va_up_ne _ _ (hw_xn (hP1.a 5 i hi) hq87)]
              refine (hP1.m 5 i hi).trans ?_
              first | rfl
            · show (va_up (va_up (va_up (va_up M1 q87 (hw_ai Z 3 (fun _ => 0))) q87 (hw_ai Z 3 (va_up (fun _ => 0) 0 al))) q87 (hw_ai Z 3 (va_up (va_up (fun _ => 0) 0 al) 1 (hs_P S (hb_ix ka) 5)))) q87 (hw_ai Z 3 (va_up (va_up (va_up (fun _ => 0) 0 al) 1 (hs_P S (hb_ix ka) 5)) 2 (hs_P S (hb_ix ka) 6)))) (ad 6 i) = hw_ob 10 [.int (hs_V S i 0), .int (hs_V S i 1), .int (hs_V S i 2), .int (hs_V S i 3), .int (hs_V S i 4)]
              rw [va_up_ne _ _ (hw_xn (hP1.a 6 i hi) hq87), va_up_ne _ _ (hw_xn (hP1.a 6 i hi) hq87), va_up_ne _ _ (hw_xn (hP1.a 6 i hi) hq87), va_up_ne _ _ (hw_xn (hP1.a 6 i hi) hq87)]
              refine (hP1.m 6 i hi).trans ?_
              first | rfl
            · show (va_up (va_up (va_up (va_up M1 q87 (hw_ai Z 3 (fun _ => 0))) q87 (hw_ai Z 3 (va_up (fun _ => 0) 0 al))) q87 (hw_ai Z 3 (va_up (va_up (fun _ => 0) 0 al) 1 (hs_P S (hb_ix ka) 5)))) q87 (hw_ai Z 3 (va_up (va_up (va_up (fun _ => 0) 0 al) 1 (hs_P S (hb_ix ka) 5)) 2 (hs_P S (hb_ix ka) 6)))) (ad 7 i) = hw_ob 8 [.int (hs_M S i 0), .int (hs_M S i 1), .int (hs_M S i 2), .int (hs_M S i 3), .ref (ad 8 i)]
              rw [va_up_ne _ _ (hw_xn (hP1.a 7 i hi) hq87), va_up_ne _ _ (hw_xn (hP1.a 7 i hi) hq87), va_up_ne _ _ (hw_xn (hP1.a 7 i hi) hq87), va_up_ne _ _ (hw_xn (hP1.a 7 i hi) hq87)]
              refine (hP1.m 7 i hi).trans ?_
              first | rfl
            · by_cases q0 : i = (hb_ix (hs_P S (hb_ix ka) 4))
              · subst q0
                show (va_up (va_up (va_up (va_up M1 q87 (hw_ai Z 3 (fun _ => 0))) q87 (hw_ai Z 3 (va_up (fun _ => 0) 0 al))) q87 (hw_ai Z 3 (va_up (va_up (fun _ => 0) 0 al) 1 (hs_P S (hb_ix ka) 5)))) q87 (hw_ai Z 3 (va_up (va_up (va_up (fun _ => 0) 0 al) 1 (hs_P S (hb_ix ka) 5)) 2 (hs_P S (hb_ix ka) 6)))) (ad 8 (hb_ix (hs_P S (hb_ix ka) 4))) = hw_ob 0 [.int (hr_mc X1 (2 + (hb_ix (hs_P S (hb_ix ka) 4)))), .ref (if hr_gr X1 (hb_ix (hs_P S (hb_ix ka) 4)) then ad 9 (hb_ix (hs_P S (hb_ix ka) 4)) else Z.2.2.2), .int (nI ((va_up (hs_N S) (hb_ix (hs_P S (hb_ix ka) 4)) (hs_N S (hb_ix (hs_P S (hb_ix ka) 4)))) (hb_ix (hs_P S (hb_ix ka) 4))))]
                rw [va_up_ne _ _ (hw_xn (hP1.a 8 (hb_ix (hs_P S (hb_ix ka) 4)) hx4.1) hq87), va_up_ne _ _ (hw_xn (hP1.a 8 (hb_ix (hs_P S (hb_ix ka) 4)) hx4.1) hq87), va_up_ne _ _ (hw_xn (hP1.a 8 (hb_ix (hs_P S (hb_ix ka) 4)) hx4.1) hq87), va_up_ne _ _ (hw_xn (hP1.a 8 (hb_ix (hs_P S (hb_ix ka) 4)) hx4.1) hq87)]
                refine (hP1.m 8 (hb_ix (hs_P S (hb_ix ka) 4)) hx4.1).trans ?_
                show hw_ob 0 [.int (hr_mc X1 (2 + (hb_ix (hs_P S (hb_ix ka) 4)))), .ref (if hr_gr X1 (hb_ix (hs_P S (hb_ix ka) 4)) then ad 9 (hb_ix (hs_P S (hb_ix ka) 4)) else Z.2.2.2), .int (nI (hs_N S (hb_ix (hs_P S (hb_ix ka) 4))))] = _
                first | rfl | (simp only [va_up_self]; done) | (simp only [va_up_self]; rfl) | (simp only [va_up_self, hN9]; done) | (simp only [va_up_self, hN9]; rfl)
              show (va_up (va_up (va_up (va_up M1 q87 (hw_ai Z 3 (fun _ => 0))) q87 (hw_ai Z 3 (va_up (fun _ => 0) 0 al))) q87 (hw_ai Z 3 (va_up (va_up (fun _ => 0) 0 al) 1 (hs_P S (hb_ix ka) 5)))) q87 (hw_ai Z 3 (va_up (va_up (va_up (fun _ => 0) 0 al) 1 (hs_P S (hb_ix ka) 5)) 2 (hs_P S (hb_ix ka) 6)))) (ad 8 i) = hw_ob 0 [.int (hr_mc X1 (2 + i)), .ref (if hr_gr X1 i then ad 9 i else Z.2.2.2), .int (nI ((va_up (hs_N S) (hb_ix (hs_P S (hb_ix ka) 4)) (hs_N S (hb_ix (hs_P S (hb_ix ka) 4)))) i))]
              rw [va_up_ne _ _ (hw_xn (hP1.a 8 i hi) hq87), va_up_ne _ _ (hw_xn (hP1.a 8 i hi) hq87), va_up_ne _ _ (hw_xn (hP1.a 8 i hi) hq87), va_up_ne _ _ (hw_xn (hP1.a 8 i hi) hq87)]
              refine (hP1.m 8 i hi).trans ?_
              first | rfl | (simp only [va_up_ne _ _ q0, hN9]; done) | (simp only [va_up_ne _ _ q0, hN9]; rfl)
            · by_cases q0 : i = (hb_ix (hs_P S (hb_ix ka) 4))
              · subst q0
                show (va_up (va_up (va_up (va_up M1 q87 (hw_ai Z 3 (fun _ => 0))) q87 (hw_ai Z 3 (va_up (fun _ => 0) 0 al))) q87 (hw_ai Z 3 (va_up (va_up (fun _ => 0) 0 al) 1 (hs_P S (hb_ix ka) 5)))) q87 (hw_ai Z 3 (va_up (va_up (va_up (fun _ => 0) 0 al) 1 (hs_P S (hb_ix ka) 5)) 2 (hs_P S (hb_ix ka) 6)))) (ad 9 (hb_ix (hs_P S (hb_ix ka) 4))) = hw_ar Z 7 10 (hc_f (fun j => ad 10 ((hb_ix (hs_P S (hb_ix ka) 4)) + 2 * j)) ((va_up (hs_N S) (hb_ix (hs_P S (hb_ix ka) 4)) (hs_N S (hb_ix (hs_P S (hb_ix ka) 4)))) (hb_ix (hs_P S (hb_ix ka) 4))))
                rw [va_up_ne _ _ (hw_xn (hP1.a 9 (hb_ix (hs_P S (hb_ix ka) 4)) h9) hq87), va_up_ne _ _ (hw_xn (hP1.a 9 (hb_ix (hs_P S (hb_ix ka) 4)) h9) hq87), va_up_ne _ _ (hw_xn (hP1.a 9 (hb_ix (hs_P S (hb_ix ka) 4)) h9) hq87), va_up_ne _ _ (hw_xn (hP1.a 9 (hb_ix (hs_P S (hb_ix ka) 4)) h9) hq87)]
                refine (hP1.m 9 (hb_ix (hs_P S (hb_ix ka) 4)) h9).trans ?_
                show hw_ar Z 7 10 (hc_f (fun j => ad 10 ((hb_ix (hs_P S (hb_ix ka) 4)) + 2 * j)) (hs_N S (hb_ix (hs_P S (hb_ix ka) 4)))) = _
                first | rfl | (simp only [va_up_self]; done) | (simp only [va_up_self]; rfl) | (simp only [va_up_self, hN9]; done) | (simp only [va_up_self, hN9]; rfl)
              show (va_up (va_up (va_up (va_up M1 q87 (hw_ai Z 3 (fun _ => 0))) q87 (hw_ai Z 3 (va_up (fun _ => 0) 0 al))) q87 (hw_ai Z 3 (va_up (va_up (fun _ => 0) 0 al) 1 (hs_P S (hb_ix ka) 5)))) q87 (hw_ai Z 3 (va_up (va_up (va_up (fun _ => 0) 0 al) 1 (hs_P S (hb_ix ka) 5)) 2 (hs_P S (hb_ix ka) 6)))) (ad 9 i) = hw_ar Z 7 10 (hc_f (fun j => ad 10 (i + 2 * j)) ((va_up (hs_N S) (hb_ix (hs_P S (hb_ix ka) 4)) (hs_N S (hb_ix (hs_P S (hb_ix ka) 4)))) i))
              rw [va_up_ne _ _ (hw_xn (hP1.a 9 i hi) hq87), va_up_ne _ _ (hw_xn (hP1.a 9 i hi) hq87), va_up_ne _ _ (hw_xn (hP1.a 9 i hi) hq87), va_up_ne _ _ (hw_xn (hP1.a 9 i hi) hq87)]
              refine (hP1.m 9 i hi).trans ?_
              first | rfl | (simp only [va_up_ne _ _ q0, hN9]; done) | (simp only [va_up_ne _ _ q0, hN9]; rfl)
            · have hi0 := hi
              replace hi0 : hr_p S X1 10 i := (show i / 2 < hs_N S (i % 2) from (hN9 (i % 2)) ▸ hi)
              show (va_up (va_up (va_up (va_up M1 q87 (hw_ai Z 3 (fun _ => 0))) q87 (hw_ai Z 3 (va_up (fun _ => 0) 0 al))) q87 (hw_ai Z 3 (va_up (va_up (fun _ => 0) 0 al) 1 (hs_P S (hb_ix ka) 5)))) q87 (hw_ai Z 3 (va_up (va_up (va_up (fun _ => 0) 0 al) 1 (hs_P S (hb_ix ka) 5)) 2 (hs_P S (hb_ix ka) 6)))) (ad 10 i) = hw_ai Z 3 (hr_qq X1 (i % 2) (i / 2))
              rw [va_up_ne _ _ (hw_xn (hP1.a 10 i hi0) hq87), va_up_ne _ _ (hw_xn (hP1.a 10 i hi0) hq87), va_up_ne _ _ (hw_xn (hP1.a 10 i hi0) hq87), va_up_ne _ _ (hw_xn (hP1.a 10 i hi0) hq87)]
              refine (hP1.m 10 i hi0).trans ?_
              first | rfl
            · show (va_up (va_up (va_up (va_up M1 q87 (hw_ai Z 3 (fun _ => 0))) q87 (hw_ai Z 3 (va_up (fun _ => 0) 0 al))) q87 (hw_ai Z 3 (va_up (va_up (fun _ => 0) 0 al) 1 (hs_P S (hb_ix ka) 5)))) q87 (hw_ai Z 3 (va_up (va_up (va_up (fun _ => 0) 0 al) 1 (hs_P S (hb_ix ka) 5)) 2 (hs_P S (hb_ix ka) 6)))) (ad 11 i) = hw_ar Z 7 10 (hc_f (ad 1) (hs_np S))
              rw [va_up_ne _ _ (hw_xn (hP1.a 11 i hi) hq87), va_up_ne _ _ (hw_xn (hP1.a 11 i hi) hq87), va_up_ne _ _ (hw_xn (hP1.a 11 i hi) hq87), va_up_ne _ _ (hw_xn (hP1.a 11 i hi) hq87)]
              refine (hP1.m 11 i hi).trans ?_
              first | rfl
            · show (va_up (va_up (va_up (va_up M1 q87 (hw_ai Z 3 (fun _ => 0))) q87 (hw_ai Z 3 (va_up (fun _ => 0) 0 al))) q87 (hw_ai Z 3 (va_up (va_up (fun _ => 0) 0 al) 1 (hs_P S (hb_ix ka) 5)))) q87 (hw_ai Z 3 (va_up (va_up (va_up (fun _ => 0) 0 al) 1 (hs_P S (hb_ix ka) 5)) 2 (hs_P S (hb_ix ka) 6)))) (ad 12 i) = hw_ar Z 7 10 (hc_f (ad 6) (hs_nw S))
              rw [va_up_ne _ _ (hw_xn (hP1.a 12 i hi) hq87), va_up_ne _ _ (hw_xn (hP1.a 12 i hi) hq87), va_up_ne _ _ (hw_xn (hP1.a 12 i hi) hq87), va_up_ne _ _ (hw_xn (hP1.a 12 i hi) hq87)]
              refine (hP1.m 12 i hi).trans ?_
              first | rfl
            · exact hi.elim
          have fr_hok : ∀ a, b1 a → (va_up (va_up (va_up (va_up M1 q87 (hw_ai Z 3 (fun _ => 0))) q87 (hw_ai Z 3 (va_up (fun _ => 0) 0 al))) q87 (hw_ai Z 3 (va_up (va_up (fun _ => 0) 0 al) 1 (hs_P S (hb_ix ka) 5)))) q87 (hw_ai Z 3 (va_up (va_up (va_up (fun _ => 0) 0 al) 1 (hs_P S (hb_ix ka) 5)) 2 (hs_P S (hb_ix ka) 6)))) a = M a := fun a ha => by rw [va_up_ne _ _ (hw_xn (hA1 a ha) hq87), va_up_ne _ _ (hw_xn (hA1 a ha) hq87), va_up_ne _ _ (hw_xn (hA1 a ha) hq87), va_up_ne _ _ (hw_xn (hA1 a ha) hq87)]; exact fr1 a ha
          have hfin : hr_R Z b1 M ad (st_prove S ka) (nI 1) (va_up (va_up (va_up (va_up M1 q87 (hw_ai Z 3 (fun _ => 0))) q87 (hw_ai Z 3 (va_up (fun _ => 0) 0 al))) q87 (hw_ai Z 3 (va_up (va_up (fun _ => 0) 0 al) 1 (hs_P S (hb_ix ka) 5)))) q87 (hw_ai Z 3 (va_up (va_up (va_up (fun _ => 0) 0 al) 1 (hs_P S (hb_ix ka) 5)) 2 (hs_P S (hb_ix ka) 6)))) := hr_r (S' := hs_sN (hs_sQ S (hb_ix (hs_P S (hb_ix ka) 4)) (hs_Q S (hb_ix (hs_P S (hb_ix ka) 4)))) (hb_ix (hs_P S (hb_ix ka) 4)) (hs_N S (hb_ix (hs_P S (hb_ix ka) 4)))) (X' := X1) (ad' := ad) (by unfold st_prove; rw [(hb_apc_f hhas).1, (hb_apc_f hhas).2]; exact ((if_neg (fun q => q gk)).trans ((if_neg (fun q => q c46)).trans ((if_neg (fun q => q.elim h4n (hq_bn (hb_isd_t (hf_dens _ _ _) c71)))).trans rfl)))) rfl hok ht1 fr_hok
          exact hret hI (Or.inr rfl) hfin (Nat.le_of_ble_eq_true rfl) (Nat.le_of_ble_eq_true rfl) dX11_prove_145
        · refine lv_aload_n hx hb dX11_prove_132 rfl (lv_at hl 1 rfl) ?_
          refine hw_get hx hb hts hown hk hI fd_X11_134 (hw_up (hw_up (hw_up (hw_up e7_hb_ix_hs_P_S_hb_ix_ka_4hP1 (hw_nn e7_hb_ix_hs_P_S_hb_ix_ka_4hP1 hq87)) (hw_nn e7_hb_ix_hs_P_S_hb_ix_ka_4hP1 hq87)) (hw_nn e7_hb_ix_hs_P_S_hb_ix_ka_4hP1 hq87)) (hw_nn e7_hb_ix_hs_P_S_hb_ix_ka_4hP1 hq87)) rfl dX11_prove_133 ?_
          refine lv_aload hx hb dX11_prove_136 (lv_at hl 0 rfl) ?_
          refine hw_cFi hI (hw_rF hx hb hml hown hts hk hI (m_add_I l Z (va_up (va_up (va_up (va_up M1 q87 (hw_ai Z 3 (fun _ => 0))) q87 (hw_ai Z 3 (va_up (fun _ => 0) 0 al))) q87 (hw_ai Z 3 (va_up (va_up (fun _ => 0) 0 al) 1 (hs_P S (hb_ix ka) 5)))) q87 (hw_ai Z 3 (va_up (va_up (va_up (fun _ => 0) 0 al) 1 (hs_P S (hb_ix ka) 5)) 2 (hs_P S (hb_ix ka) 6)))) (ad 8 (hb_ix (hs_P S (hb_ix ka) 4))) (ad 9 (hb_ix (hs_P S (hb_ix ka) 4))) q87 (hs_N S (hb_ix (hs_P S (hb_ix ka) 4))) (hr_mc X1 (2 + (hb_ix (hs_P S (hb_ix ka) 4)))) (hc_f (fun j => ad 10 ((hb_ix (hs_P S (hb_ix ka) 4)) + 2 * j)) (hs_N S (hb_ix (hs_P S (hb_ix ka) 4)))) (va_up (va_up (va_up (fun _ => 0) 0 al) 1 (hs_P S (hb_ix ka) 5)) 2 (hs_P S (hb_ix ka) 6)) (hw_up (hw_up (hw_up (hw_up e8_hb_ix_hs_P_S_hb_ix_ka_4hP1 (hw_nn e8_hb_ix_hs_P_S_hb_ix_ka_4hP1 hq87)) (hw_nn e8_hb_ix_hs_P_S_hb_ix_ka_4hP1 hq87)) (hw_nn e8_hb_ix_hs_P_S_hb_ix_ka_4hP1 hq87)) (hw_nn e8_hb_ix_hs_P_S_hb_ix_ka_4hP1 hq87)) (hw_up (hw_up (hw_up (hw_up e9_hb_ix_hs_P_S_hb_ix_ka_4hP1 (hw_nn e9_hb_ix_hs_P_S_hb_ix_ka_4hP1 hq87)) (hw_nn e9_hb_ix_hs_P_S_hb_ix_ka_4hP1 hq87)) (hw_nn e9_hb_ix_hs_P_S_hb_ix_ka_4hP1 hq87)) (hw_nn e9_hb_ix_hs_P_S_hb_ix_ka_4hP1 hq87)) (hw_us _ _ _) (by have := hB.N hx4.1; omega)) cf_X11_51 (hw_up (hw_up (hw_up (hw_up e8_hb_ix_hs_P_S_hb_ix_ka_4hP1 (hw_nn e8_hb_ix_hs_P_S_hb_ix_ka_4hP1 hq87)) (hw_nn e8_hb_ix_hs_P_S_hb_ix_ka_4hP1 hq87)) (hw_nn e8_hb_ix_hs_P_S_hb_ix_ka_4hP1 hq87)) (hw_nn e8_hb_ix_hs_P_S_hb_ix_ka_4hP1 hq87)) rfl rfl ⟨rfl, rfl⟩ ⟨(Nat.le_of_ble_eq_true rfl), (Nat.le_of_ble_eq_true rfl)⟩ rfl hl.1 rfl (Nat.le_of_ble_eq_true rfl) ⟨(Nat.le_of_ble_eq_true rfl), (Nat.le_of_ble_eq_true rfl)⟩ dX11_prove_138) (fun r138 M138 H locs hR hI => ?_)
          obtain ⟨rfl, rfl⟩ := hR
          refine lv_pop hx hb dX11_prove_143 rfl ?_
          refine lv_iconst (v := nI 1) hx hb dX11_prove_144 (by decide) ?_
          have hhas : hb_has (hs_Q S (hb_ix (hs_P S (hb_ix ka) 4))) (hs_P S (hb_ix ka) 9) (hs_N S (hb_ix (hs_P S (hb_ix ka) 4))) = false := by rw [← hq9]; exact hq_bf c129
          have hroom := hv_room hV hx4.1 hi_ka (k := hb_ix (hs_P S (hb_ix ka) 4)) hhas
          have h2 := hx4.1
          have h10a : (hb_ix (hs_P S (hb_ix ka) 4) + 2 * hs_N S (hb_ix (hs_P S (hb_ix ka) 4))) % 2 = hb_ix (hs_P S (hb_ix ka) 4) := by omega
          have h10b : (hb_ix (hs_P S (hb_ix ka) 4) + 2 * hs_N S (hb_ix (hs_P S (hb_ix ka) 4))) / 2 = hs_N S (hb_ix (hs_P S (hb_ix ka) 4)) := by omega
          have hp10n : ∀ i, i / 2 < va_up (hs_N S) (hb_ix (hs_P S (hb_ix ka) 4)) (hs_N S (hb_ix (hs_P S (hb_ix ka) 4)) + 1) (i % 2) → ¬ i = hb_ix (hs_P S (hb_ix ka) 4) + 2 * hs_N S (hb_ix (hs_P S (hb_ix ka) 4)) → i / 2 < hs_N S (i % 2) := fun i h hne => by
            by_cases q : i % 2 = hb_ix (hs_P S (hb_ix ka) 4)
            · rw [q, va_up_self] at h; rw [q]; omega
            · rw [va_up_ne _ _ q] at h; exact h
          have h10n : ∀ i, ¬ i = hb_ix (hs_P S (hb_ix ka) 4) + 2 * hs_N S (hb_ix (hs_P S (hb_ix ka) 4)) → va_up (hr_qq X1) (hb_ix (hs_P S (hb_ix ka) 4)) (va_up (hr_qq X1 (hb_ix (hs_P S (hb_ix ka) 4))) (hs_N S (hb_ix (hs_P S (hb_ix ka) 4))) (va_up (va_up (va_up (fun _ => 0) 0 al) 1 (hs_P S (hb_ix ka) 5)) 2 (hs_P S (hb_ix ka) 6))) (i % 2) (i / 2) = hr_qq X1 (i % 2) (i / 2) := fun i hne => by
            by_cases q : i % 2 = hb_ix (hs_P S (hb_ix ka) 4)
            · rw [q, va_up_self, va_up_ne _ _ (by omega)]
            · rw [va_up_ne _ _ q]
          have hok : hr_ok Z b1 (va_up (va_up (va_up (va_up (va_up (va_up M1 q87 (hw_ai Z 3 (fun _ => 0))) q87 (hw_ai Z 3 (va_up (fun _ => 0) 0 al))) q87 (hw_ai Z 3 (va_up (va_up (fun _ => 0) 0 al) 1 (hs_P S (hb_ix ka) 5)))) q87 (hw_ai Z 3 (va_up (va_up (va_up (fun _ => 0) 0 al) 1 (hs_P S (hb_ix ka) 5)) 2 (hs_P S (hb_ix ka) 6)))) (ad 9 (hb_ix (hs_P S (hb_ix ka) 4))) (hw_ar Z 7 10 (va_up (hc_f (fun j => ad 10 ((hb_ix (hs_P S (hb_ix ka) 4)) + 2 * j)) (hs_N S (hb_ix (hs_P S (hb_ix ka) 4)))) (hs_N S (hb_ix (hs_P S (hb_ix ka) 4))) (some q87)))) (ad 8 (hb_ix (hs_P S (hb_ix ka) 4))) (hw_ob 0 [.int ((hr_mc X1 (2 + (hb_ix (hs_P S (hb_ix ka) 4)))) + nI 1), .ref (ad 9 (hb_ix (hs_P S (hb_ix ka) 4))), .int (nI ((hs_N S (hb_ix (hs_P S (hb_ix ka) 4))) + 1))])) (hr_ua ad 10 (va_up (ad 10) (hb_ix (hs_P S (hb_ix ka) 4) + 2 * hs_N S (hb_ix (hs_P S (hb_ix ka) 4))) q87)) (hs_sN (hs_sQ S (hb_ix (hs_P S (hb_ix ka) 4)) (va_up (hs_Q S (hb_ix (hs_P S (hb_ix ka) 4))) (hs_N S (hb_ix (hs_P S (hb_ix ka) 4))) (hs_P S (hb_ix ka) 9))) (hb_ix (hs_P S (hb_ix ka) 4)) (hs_N S (hb_ix (hs_P S (hb_ix ka) 4)) + 1)) (hr_sqq (hr_smc X1 (2 + hb_ix (hs_P S (hb_ix ka) 4)) (hr_mc X1 (2 + hb_ix (hs_P S (hb_ix ka) 4)) + nI 1)) (hb_ix (hs_P S (hb_ix ka) 4)) (va_up (hr_qq X1 (hb_ix (hs_P S (hb_ix ka) 4))) (hs_N S (hb_ix (hs_P S (hb_ix ka) 4))) (va_up (va_up (va_up (fun _ => 0) 0 al) 1 (hs_P S (hb_ix ka) 5)) 2 (hs_P S (hb_ix ka) 6)))) := by
            refine hr_new (nn := fun k i => (k = 10 ∧ i = (hb_ix (hs_P S (hb_ix ka) 4) + 2 * hs_N S (hb_ix (hs_P S (hb_ix ka) 4))))) hP1 hA1 (fun k i hi => ?_) (fun k i k' i' h h' he => ?_) ?_ (hr_q_add (g := hb_ix (hs_P S (hb_ix ka) 4)) (T := va_up (va_up (va_up (fun _ => 0) 0 al) 1 (hs_P S (hb_ix ka) 5)) 2 (hs_P S (hb_ix ka) 6)) hP1.q rfl (by show va_up (hs_Q S) _ (va_up _ _ (hs_P S (hb_ix ka) 9)) = _; rw [t9]; rfl) rfl ⟨tal, t5, t6.1, t6.2⟩) (hr_g_add (g := hb_ix (hs_P S (hb_ix ka) 4)) hP1.g rfl hg1 (fun _ _ => rfl))
            · rcases k with _ | _ | _ | _ | _ | _ | _ | _ | _ | _ | _ | _ | _ | k
              · exact Or.inl ⟨hi, rfl⟩
              · exact Or.inl ⟨hi, rfl⟩
              · exact Or.inl ⟨hi, rfl⟩
              · exact Or.inl ⟨hi, rfl⟩
              · exact Or.inl ⟨hi, rfl⟩
              · exact Or.inl ⟨hi, rfl⟩
              · exact Or.inl ⟨hi, rfl⟩
              · exact Or.inl ⟨hi, rfl⟩
              · exact Or.inl ⟨hi, rfl⟩
              · exact Or.inl ⟨hi, rfl⟩
              · by_cases q0 : i = (hb_ix (hs_P S (hb_ix ka) 4) + 2 * hs_N S (hb_ix (hs_P S (hb_ix ka) 4)))
                · subst q0
                  exact Or.inr ⟨⟨rfl, rfl⟩, (congrArg M1 (va_up_self _ _ _)).trans hq87⟩
                · exact Or.inl ⟨(hp10n i hi q0), va_up_ne _ _ q0⟩
              · exact Or.inl ⟨hi, rfl⟩
              · exact Or.inl ⟨hi, rfl⟩
              · exact hi.elim
            · rcases h with ⟨rfl, rfl⟩ <;> rcases h' with ⟨rfl, rfl⟩
              · exact ⟨rfl, rfl⟩
            · intro k i hi
              rcases k with _ | _ | _ | _ | _ | _ | _ | _ | _ | _ | _ | _ | _ | k
              · rcases (show i = 0 ∨ i = 1 ∨ i = 2 ∨ i = 3 by have h4 : i < 4 := hi; omega) with rfl | rfl | rfl | rfl
                · show (va_up (va_up (va_up (va_up (va_up (va_up M1 q87 (hw_ai Z 3 (fun _ => 0))) q87 (hw_ai Z 3 (va_up (fun _ => 0) 0 al))) q87 (hw_ai Z 3 (va_up (va_up (fun _ => 0) 0 al) 1 (hs_P S (hb_ix ka) 5)))) q87 (hw_ai Z 3 (va_up (va_up (va_up (fun _ => 0) 0 al) 1 (hs_P S (hb_ix ka) 5)) 2 (hs_P S (hb_ix ka) 6)))) (ad 9 (hb_ix (hs_P S (hb_ix ka) 4))) (hw_ar Z 7 10 (va_up (hc_f (fun j => ad 10 ((hb_ix (hs_P S (hb_ix ka) 4)) + 2 * j)) (hs_N S (hb_ix (hs_P S (hb_ix ka) 4)))) (hs_N S (hb_ix (hs_P S (hb_ix ka) 4))) (some q87)))) (ad 8 (hb_ix (hs_P S (hb_ix ka) 4))) (hw_ob 0 [.int ((hr_mc X1 (2 + (hb_ix (hs_P S (hb_ix ka) 4)))) + nI 1), .ref (ad 9 (hb_ix (hs_P S (hb_ix ka) 4))), .int (nI ((hs_N S (hb_ix (hs_P S (hb_ix ka) 4))) + 1))])) (ad 0 0) = hw_ob 12 [.int (hr_th X1), .int (hs_G S 0), .int (hs_G S 1), .ref (ad 0 2), .ref (ad 0 3), .ref (ad 0 1)]
                  rw [va_up_ne _ _ (hP1.n (k := 0) (i := 0) (k' := 8) (i' := (hb_ix (hs_P S (hb_ix ka) 4))) (show 0 < 4 by decide) hx4.1 (fun q => absurd q.1 (by decide))), va_up_ne _ _ (hP1.n (k := 0) (i := 0) (k' := 9) (i' := (hb_ix (hs_P S (hb_ix ka) 4))) (show 0 < 4 by decide) h9 (fun q => absurd q.1 (by decide))), va_up_ne _ _ (hw_xn (hP1.a 0 0 (show 0 < 4 by decide)) hq87), va_up_ne _ _ (hw_xn (hP1.a 0 0 (show 0 < 4 by decide)) hq87), va_up_ne _ _ (hw_xn (hP1.a 0 0 (show 0 < 4 by decide)) hq87), va_up_ne _ _ (hw_xn (hP1.a 0 0 (show 0 < 4 by decide)) hq87)]
                  refine (hP1.m 0 0 (show 0 < 4 by decide)).trans ?_
                  first | rfl | (simp only [va_up_self, va_up_ne _ _ (show 0 ≠ 2 + hb_ix (hs_P S (hb_ix ka) 4) by omega), va_up_ne _ _ (show 1 ≠ 2 + hb_ix (hs_P S (hb_ix ka) 4) by omega)]; done) | (simp only [va_up_self, va_up_ne _ _ (show 0 ≠ 2 + hb_ix (hs_P S (hb_ix ka) 4) by omega), va_up_ne _ _ (show 1 ≠ 2 + hb_ix (hs_P S (hb_ix ka) 4) by omega)]; rfl) | (simp only [va_up_self, va_up_ne _ _ (show 0 ≠ 2 + hb_ix (hs_P S (hb_ix ka) 4) by omega), va_up_ne _ _ (show 1 ≠ 2 + hb_ix (hs_P S (hb_ix ka) 4) by omega), hif, hr_fs10 (ad 10) (hb_ix (hs_P S (hb_ix ka) 4)) (hs_N S (hb_ix (hs_P S (hb_ix ka) 4))) q87, h10a, h10b]; done)
                · show (va_up (va_up (va_up (va_up (va_up (va_up M1 q87 (hw_ai Z 3 (fun _ => 0))) q87 (hw_ai Z 3 (va_up (fun _ => 0) 0 al))) q87 (hw_ai Z 3 (va_up (va_up (fun _ => 0) 0 al) 1 (hs_P S (hb_ix ka) 5)))) q87 (hw_ai Z 3 (va_up (va_up (va_up (fun _ => 0) 0 al) 1 (hs_P S (hb_ix ka) 5)) 2 (hs_P S (hb_ix ka) 6)))) (ad 9 (hb_ix (hs_P S (hb_ix ka) 4))) (hw_ar Z 7 10 (va_up (hc_f (fun j => ad 10 ((hb_ix (hs_P S (hb_ix ka) 4)) + 2 * j)) (hs_N S (hb_ix (hs_P S (hb_ix ka) 4)))) (hs_N S (hb_ix (hs_P S (hb_ix ka) 4))) (some q87)))) (ad 8 (hb_ix (hs_P S (hb_ix ka) 4))) (hw_ob 0 [.int ((hr_mc X1 (2 + (hb_ix (hs_P S (hb_ix ka) 4)))) + nI 1), .ref (ad 9 (hb_ix (hs_P S (hb_ix ka) 4))), .int (nI ((hs_N S (hb_ix (hs_P S (hb_ix ka) 4))) + 1))])) (ad 0 1) = hw_ar Z 6 2 (fun j => some (ad 7 j))
                  rw [va_up_ne _ _ (hP1.n (k := 0) (i := 1) (k' := 8) (i' := (hb_ix (hs_P S (hb_ix ka) 4))) (show 1 < 4 by decide) hx4.1 (fun q => absurd q.1 (by decide))), va_up_ne _ _ (hP1.n (k := 0) (i := 1) (k' := 9) (i' := (hb_ix (hs_P S (hb_ix ka) 4))) (show 1 < 4 by decide) h9 (fun q => absurd q.1 (by decide))), va_up_ne _ _ (hw_xn (hP1.a 0 1 (show 1 < 4 by decide)) hq87), va_up_ne _ _ (hw_xn (hP1.a 0 1 (show 1 < 4 by decide)) hq87), va_up_ne _ _ (hw_xn (hP1.a 0 1 (show 1 < 4 by decide)) hq87), va_up_ne _ _ (hw_xn (hP1.a 0 1 (show 1 < 4 by decide)) hq87)]
                  refine (hP1.m 0 1 (show 1 < 4 by decide)).trans ?_
                  first | rfl | (simp only [va_up_self, va_up_ne _ _ (show 0 ≠ 2 + hb_ix (hs_P S (hb_ix ka) 4) by omega), va_up_ne _ _ (show 1 ≠ 2 + hb_ix (hs_P S (hb_ix ka) 4) by omega)]; done) | (simp only [va_up_self, va_up_ne _ _ (show 0 ≠ 2 + hb_ix (hs_P S (hb_ix ka) 4) by omega), va_up_ne _ _ (show 1 ≠ 2 + hb_ix (hs_P S (hb_ix ka) 4) by omega)]; rfl) | (simp only [va_up_self, va_up_ne _ _ (show 0 ≠ 2 + hb_ix (hs_P S (hb_ix ka) 4) by omega), va_up_ne _ _ (show 1 ≠ 2 + hb_ix (hs_P S (hb_ix ka) 4) by omega), hif, hr_fs10 (ad 10) (hb_ix (hs_P S (hb_ix ka) 4)) (hs_N S (hb_ix (hs_P S (hb_ix ka) 4))) q87, h10a, h10b]; done)
                · show (va_up (va_up (va_up (va_up (va_up (va_up M1 q87 (hw_ai Z 3 (fun _ => 0))) q87 (hw_ai Z 3 (va_up (fun _ => 0) 0 al))) q87 (hw_ai Z 3 (va_up (va_up (fun _ => 0) 0 al) 1 (hs_P S (hb_ix ka) 5)))) q87 (hw_ai Z 3 (va_up (va_up (va_up (fun _ => 0) 0 al) 1 (hs_P S (hb_ix ka) 5)) 2 (hs_P S (hb_ix ka) 6)))) (ad 9 (hb_ix (hs_P S (hb_ix ka) 4))) (hw_ar Z 7 10 (va_up (hc_f (fun j => ad 10 ((hb_ix (hs_P S (hb_ix ka) 4)) + 2 * j)) (hs_N S (hb_ix (hs_P S (hb_ix ka) 4)))) (hs_N S (hb_ix (hs_P S (hb_ix ka) 4))) (some q87)))) (ad 8 (hb_ix (hs_P S (hb_ix ka) 4))) (hw_ob 0 [.int ((hr_mc X1 (2 + (hb_ix (hs_P S (hb_ix ka) 4)))) + nI 1), .ref (ad 9 (hb_ix (hs_P S (hb_ix ka) 4))), .int (nI ((hs_N S (hb_ix (hs_P S (hb_ix ka) 4))) + 1))])) (ad 0 2) = hw_ob 0 [.int ((va_up (hr_mc X1) (2 + hb_ix (hs_P S (hb_ix ka) 4)) (hr_mc X1 (2 + hb_ix (hs_P S (hb_ix ka) 4)) + nI 1)) 0), .ref (hr_d (hs_np S) Z.2.2.2 (ad 11 0)), .int (nI (hs_np S))]
                  rw [va_up_ne _ _ (hP1.n (k := 0) (i := 2) (k' := 8) (i' := (hb_ix (hs_P S (hb_ix ka) 4))) (show 2 < 4 by decide) hx4.1 (fun q => absurd q.1 (by decide))), va_up_ne _ _ (hP1.n (k := 0) (i := 2) (k' := 9) (i' := (hb_ix (hs_P S (hb_ix ka) 4))) (show 2 < 4 by decide) h9 (fun q => absurd q.1 (by decide))), va_up_ne _ _ (hw_xn (hP1.a 0 2 (show 2 < 4 by decide)) hq87), va_up_ne _ _ (hw_xn (hP1.a 0 2 (show 2 < 4 by decide)) hq87), va_up_ne _ _ (hw_xn (hP1.a 0 2 (show 2 < 4 by decide)) hq87), va_up_ne _ _ (hw_xn (hP1.a 0 2 (show 2 < 4 by decide)) hq87)]
                  refine (hP1.m 0 2 (show 2 < 4 by decide)).trans ?_
                  first | rfl | (simp only [va_up_self, va_up_ne _ _ (show 0 ≠ 2 + hb_ix (hs_P S (hb_ix ka) 4) by omega), va_up_ne _ _ (show 1 ≠ 2 + hb_ix (hs_P S (hb_ix ka) 4) by omega)]; done) | (simp only [va_up_self, va_up_ne _ _ (show 0 ≠ 2 + hb_ix (hs_P S (hb_ix ka) 4) by omega), va_up_ne _ _ (show 1 ≠ 2 + hb_ix (hs_P S (hb_ix ka) 4) by omega)]; rfl) | (simp only [va_up_self, va_up_ne _ _ (show 0 ≠ 2 + hb_ix (hs_P S (hb_ix ka) 4) by omega), va_up_ne _ _ (show 1 ≠ 2 + hb_ix (hs_P S (hb_ix ka) 4) by omega), hif, hr_fs10 (ad 10) (hb_ix (hs_P S (hb_ix ka) 4)) (hs_N S (hb_ix (hs_P S (hb_ix ka) 4))) q87, h10a, h10b]; done)
                · show (va_up (va_up (va_up (va_up (va_up (va_up M1 q87 (hw_ai Z 3 (fun _ => 0))) q87 (hw_ai Z 3 (va_up (fun _ => 0) 0 al))) q87 (hw_ai Z 3 (va_up (va_up (fun _ => 0) 0 al) 1 (hs_P S (hb_ix ka) 5)))) q87 (hw_ai Z 3 (va_up (va_up (va_up (fun _ => 0) 0 al) 1 (hs_P S (hb_ix ka) 5)) 2 (hs_P S (hb_ix ka) 6)))) (ad 9 (hb_ix (hs_P S (hb_ix ka) 4))) (hw_ar Z 7 10 (va_up (hc_f (fun j => ad 10 ((hb_ix (hs_P S (hb_ix ka) 4)) + 2 * j)) (hs_N S (hb_ix (hs_P S (hb_ix ka) 4)))) (hs_N S (hb_ix (hs_P S (hb_ix ka) 4))) (some q87)))) (ad 8 (hb_ix (hs_P S (hb_ix ka) 4))) (hw_ob 0 [.int ((hr_mc X1 (2 + (hb_ix (hs_P S (hb_ix ka) 4)))) + nI 1), .ref (ad 9 (hb_ix (hs_P S (hb_ix ka) 4))), .int (nI ((hs_N S (hb_ix (hs_P S (hb_ix ka) 4))) + 1))])) (ad 0 3) = hw_ob 0 [.int ((va_up (hr_mc X1) (2 + hb_ix (hs_P S (hb_ix ka) 4)) (hr_mc X1 (2 + hb_ix (hs_P S (hb_ix ka) 4)) + nI 1)) 1), .ref (hr_d (hs_nw S) Z.2.2.2 (ad 12 0)), .int (nI (hs_nw S))]
                  rw [va_up_ne _ _ (hP1.n (k := 0) (i := 3) (k' := 8) (i' := (hb_ix (hs_P S (hb_ix ka) 4))) (show 3 < 4 by decide) hx4.1 (fun q => absurd q.1 (by decide))), va_up_ne _ _ (hP1.n (k := 0) (i := 3) (k' := 9) (i' := (hb_ix (hs_P S (hb_ix ka) 4))) (show 3 < 4 by decide) h9 (fun q => absurd q.1 (by decide))), va_up_ne _ _ (hw_xn (hP1.a 0 3 (show 3 < 4 by decide)) hq87), va_up_ne _ _ (hw_xn (hP1.a 0 3 (show 3 < 4 by decide)) hq87), va_up_ne _ _ (hw_xn (hP1.a 0 3 (show 3 < 4 by decide)) hq87), va_up_ne _ _ (hw_xn (hP1.a 0 3 (show 3 < 4 by decide)) hq87)]
                  refine (hP1.m 0 3 (show 3 < 4 by decide)).trans ?_
                  first | rfl | (simp only [va_up_self, va_up_ne _ _ (show 0 ≠ 2 + hb_ix (hs_P S (hb_ix ka) 4) by omega), va_up_ne _ _ (show 1 ≠ 2 + hb_ix (hs_P S (hb_ix ka) 4) by omega)]; done) | (simp only [va_up_self, va_up_ne _ _ (show 0 ≠ 2 + hb_ix (hs_P S (hb_ix ka) 4) by omega), va_up_ne _ _ (show 1 ≠ 2 + hb_ix (hs_P S (hb_ix ka) 4) by omega)]; rfl) | (simp only [va_up_self, va_up_ne _ _ (show 0 ≠ 2 + hb_ix (hs_P S (hb_ix ka) 4) by omega), va_up_ne _ _ (show 1 ≠ 2 + hb_ix (hs_P S (hb_ix ka) 4) by omega), hif, hr_fs10 (ad 10) (hb_ix (hs_P S (hb_ix ka) 4)) (hs_N S (hb_ix (hs_P S (hb_ix ka) 4))) q87, h10a, h10b]; done)
              · show (va_up (va_up (va_up (va_up (va_up (va_up M1 q87 (hw_ai Z 3 (fun _ => 0))) q87 (hw_ai Z 3 (va_up (fun _ => 0) 0 al))) q87 (hw_ai Z 3 (va_up (va_up (fun _ => 0) 0 al) 1 (hs_P S (hb_ix ka) 5)))) q87 (hw_ai Z 3 (va_up (va_up (va_up (fun _ => 0) 0 al) 1 (hs_P S (hb_ix ka) 5)) 2 (hs_P S (hb_ix ka) 6)))) (ad 9 (hb_ix (hs_P S (hb_ix ka) 4))) (hw_ar Z 7 10 (va_up (hc_f (fun j => ad 10 ((hb_ix (hs_P S (hb_ix ka) 4)) + 2 * j)) (hs_N S (hb_ix (hs_P S (hb_ix ka) 4)))) (hs_N S (hb_ix (hs_P S (hb_ix ka) 4))) (some q87)))) (ad 8 (hb_ix (hs_P S (hb_ix ka) 4))) (hw_ob 0 [.int ((hr_mc X1 (2 + (hb_ix (hs_P S (hb_ix ka) 4)))) + nI 1), .ref (ad 9 (hb_ix (hs_P S (hb_ix ka) 4))), .int (nI ((hs_N S (hb_ix (hs_P S (hb_ix ka) 4))) + 1))])) (ad 1 i) = hw_ob 9 [.ref (ad 2 i), .int (hs_P S i 0), .ref (ad 4 i), .int (hs_P S i 3), .int (hs_P S i 4), .int (hs_P S i 5), .int (hs_P S i 6), .int (hs_P S i 7), .int (hs_P S i 8)]
                rw [va_up_ne _ _ (hP1.n (k := 1) (i := i) (k' := 8) (i' := (hb_ix (hs_P S (hb_ix ka) 4))) hi hx4.1 (fun q => absurd q.1 (by decide))), va_up_ne _ _ (hP1.n (k := 1) (i := i) (k' := 9) (i' := (hb_ix (hs_P S (hb_ix ka) 4))) hi h9 (fun q => absurd q.1 (by decide))), va_up_ne _ _ (hw_xn (hP1.a 1 i hi) hq87), va_up_ne _ _ (hw_xn (hP1.a 1 i hi) hq87), va_up_ne _ _ (hw_xn (hP1.a 1 i hi) hq87), va_up_ne _ _ (hw_xn (hP1.a 1 i hi) hq87)]
                refine (hP1.m 1 i hi).trans ?_
                first | rfl
              · show (va_up (va_up (va_up (va_up (va_up (va_up M1 q87 (hw_ai Z 3 (fun _ => 0))) q87 (hw_ai Z 3 (va_up (fun _ => 0) 0 al))) q87 (hw_ai Z 3 (va_up (va_up (fun _ => 0) 0 al) 1 (hs_P S (hb_ix ka) 5)))) q87 (hw_ai Z 3 (va_up (va_up (va_up (fun _ => 0) 0 al) 1 (hs_P S (hb_ix ka) 5)) 2 (hs_P S (hb_ix ka) 6)))) (ad 9 (hb_ix (hs_P S (hb_ix ka) 4))) (hw_ar Z 7 10 (va_up (hc_f (fun j => ad 10 ((hb_ix (hs_P S (hb_ix ka) 4)) + 2 * j)) (hs_N S (hb_ix (hs_P S (hb_ix ka) 4)))) (hs_N S (hb_ix (hs_P S (hb_ix ka) 4))) (some q87)))) (ad 8 (hb_ix (hs_P S (hb_ix ka) 4))) (hw_ob 0 [.int ((hr_mc X1 (2 + (hb_ix (hs_P S (hb_ix ka) 4)))) + nI 1), .ref (ad 9 (hb_ix (hs_P S (hb_ix ka) 4))), .int (nI ((hs_N S (hb_ix (hs_P S (hb_ix ka) 4))) + 1))])) (ad 2 i) = hw_ob 11 [.ref (ad 3 i)]
                rw [va_up_ne _ _ (hP1.n (k := 2) (i := i) (k' := 8) (i' := (hb_ix (hs_P S (hb_ix ka) 4))) hi hx4.1 (fun q => absurd q.1 (by decide))), va_up_ne _ _ (hP1.n (k := 2) (i := i) (k' := 9) (i' := (hb_ix (hs_P S (hb_ix ka) 4))) hi h9 (fun q => absurd q.1 (by decide))), va_up_ne _ _ (hw_xn (hP1.a 2 i hi) hq87), va_up_ne _ _ (hw_xn (hP1.a 2 i hi) hq87), va_up_ne _ _ (hw_xn (hP1.a 2 i hi) hq87), va_up_ne _ _ (hw_xn (hP1.a 2 i hi) hq87)]
                refine (hP1.m 2 i hi).trans ?_
                first | rfl
              · show (va_up (va_up (va_up (va_up (va_up (va_up M1 q87 (hw_ai Z 3 (fun _ => 0))) q87 (hw_ai Z 3 (va_up (fun _ => 0) 0 al))) q87 (hw_ai Z 3 (va_up (va_up (fun _ => 0) 0 al) 1 (hs_P S (hb_ix ka) 5)))) q87 (hw_ai Z 3 (va_up (va_up (va_up (fun _ => 0) 0 al) 1 (hs_P S (hb_ix ka) 5)) 2 (hs_P S (hb_ix ka) 6)))) (ad 9 (hb_ix (hs_P S (hb_ix ka) 4))) (hw_ar Z 7 10 (va_up (hc_f (fun j => ad 10 ((hb_ix (hs_P S (hb_ix ka) 4)) + 2 * j)) (hs_N S (hb_ix (hs_P S (hb_ix ka) 4)))) (hs_N S (hb_ix (hs_P S (hb_ix ka) 4))) (some q87)))) (ad 8 (hb_ix (hs_P S (hb_ix ka) 4))) (hw_ob 0 [.int ((hr_mc X1 (2 + (hb_ix (hs_P S (hb_ix ka) 4)))) + nI 1), .ref (ad 9 (hb_ix (hs_P S (hb_ix ka) 4))), .int (nI ((hs_N S (hb_ix (hs_P S (hb_ix ka) 4))) + 1))])) (ad 3 i) = hw_al Z 8 (hs_C S i)
                rw [va_up_ne _ _ (hP1.n (k := 3) (i := i) (k' := 8) (i' := (hb_ix (hs_P S (hb_ix ka) 4))) hi hx4.1 (fun q => absurd q.1 (by decide))), va_up_ne _ _ (hP1.n (k := 3) (i := i) (k' := 9) (i' := (hb_ix (hs_P S (hb_ix ka) 4))) hi h9 (fun q => absurd q.1 (by decide))), va_up_ne _ _ (hw_xn (hP1.a 3 i hi) hq87), va_up_ne _ _ (hw_xn (hP1.a 3 i hi) hq87), va_up_ne _ _ (hw_xn (hP1.a 3 i hi) hq87), va_up_ne _ _ (hw_xn (hP1.a 3 i hi) hq87)]
                refine (hP1.m 3 i hi).trans ?_
                first | rfl
              · show (va_up (va_up (va_up (va_up (va_up (va_up M1 q87 (hw_ai Z 3 (fun _ => 0))) q87 (hw_ai Z 3 (va_up (fun _ => 0) 0 al))) q87 (hw_ai Z 3 (va_up (va_up (fun _ => 0) 0 al) 1 (hs_P S (hb_ix ka) 5)))) q87 (hw_ai Z 3 (va_up (va_up (va_up (fun _ => 0) 0 al) 1 (hs_P S (hb_ix ka) 5)) 2 (hs_P S (hb_ix ka) 6)))) (ad 9 (hb_ix (hs_P S (hb_ix ka) 4))) (hw_ar Z 7 10 (va_up (hc_f (fun j => ad 10 ((hb_ix (hs_P S (hb_ix ka) 4)) + 2 * j)) (hs_N S (hb_ix (hs_P S (hb_ix ka) 4)))) (hs_N S (hb_ix (hs_P S (hb_ix ka) 4))) (some q87)))) (ad 8 (hb_ix (hs_P S (hb_ix ka) 4))) (hw_ob 0 [.int ((hr_mc X1 (2 + (hb_ix (hs_P S (hb_ix ka) 4)))) + nI 1), .ref (ad 9 (hb_ix (hs_P S (hb_ix ka) 4))), .int (nI ((hs_N S (hb_ix (hs_P S (hb_ix ka) 4))) + 1))])) (ad 4 i) = hw_ob 7 [.double (hr_en (hs_P S i)), .ref (ad 5 i), .double (hs_U S i), .int (hs_P S i 1), .int (hs_P S i 2), .int (nI (hs_D S i))]
                rw [va_up_ne _ _ (hP1.n (k := 4) (i := i) (k' := 8) (i' := (hb_ix (hs_P S (hb_ix ka) 4))) hi hx4.1 (fun q => absurd q.1 (by decide))), va_up_ne _ _ (hP1.n (k := 4) (i := i) (k' := 9) (i' := (hb_ix (hs_P S (hb_ix ka) 4))) hi h9 (fun q => absurd q.1 (by decide))), va_up_ne _ _ (hw_xn (hP1.a 4 i hi) hq87), va_up_ne _ _ (hw_xn (hP1.a 4 i hi) hq87), va_up_ne _ _ (hw_xn (hP1.a 4 i hi) hq87), va_up_ne _ _ (hw_xn (hP1.a 4 i hi) hq87)]
                refine (hP1.m 4 i hi).trans ?_
                first | rfl
              · show (va_up (va_up (va_up (va_up (va_up (va_up M1 q87 (hw_ai Z 3 (fun _ => 0))) q87 (hw_ai Z 3 (va_up (fun _ => 0) 0 al))) q87 (hw_ai Z 3 (va_up (va_up (fun _ => 0) 0 al) 1 (hs_P S (hb_ix ka) 5)))) q87 (hw_ai Z 3 (va_up (va_up (va_up (fun _ => 0) 0 al) 1 (hs_P S (hb_ix ka) 5)) 2 (hs_P S (hb_ix ka) 6)))) (ad 9 (hb_ix (hs_P S (hb_ix ka) 4))) (hw_ar Z 7 10 (va_up (hc_f (fun j => ad 10 ((hb_ix (hs_P S (hb_ix ka) 4)) + 2 * j)) (hs_N S (hb_ix (hs_P S (hb_ix ka) 4)))) (hs_N S (hb_ix (hs_P S (hb_ix ka) 4))) (some q87)))) (ad 8 (hb_ix (hs_P S (hb_ix ka) 4))) (hw_ob 0 [.int ((hr_mc X1 (2 + (hb_ix (hs_P S (hb_ix ka) 4)))) + nI 1), .ref (ad 9 (hb_ix (hs_P S (hb_ix ka) 4))), .int (nI ((hs_N S (hb_ix (hs_P S (hb_ix ka) 4))) + 1))])) (ad 5 i) = hw_ad Z 64 (hs_W S i)
                rw [va_up_ne _ _ (hP1.n (k := 5) (i := i) (k' := 8) (i' := (hb_ix (hs_P S (hb_ix ka) 4))) hi hx4.1 (fun q => absurd q.1 (by decide))), va_up_ne _ _ (hP1.n (k := 5) (i := i) (k' := 9) (i' := (hb_ix (hs_P S (hb_ix ka) 4))) hi h9 (fun q => absurd q.1 (by decide))), va_up_ne _ _ (hw_xn (hP1.a 5 i hi) hq87), va_up_ne _ _ (hw_xn (hP1.a 5 i hi) hq87), va_up_ne _ _ (hw_xn (hP1.a 5 i hi) hq87), va_up_ne _ _ (hw_xn (hP1.a 5 i hi) hq87)]
                refine (hP1.m 5 i hi).trans ?_
                first | rfl
              · show (va_up (va_up (va_up (va_up (va_up (va_up M1 q87 (hw_ai Z 3 (fun _ => 0))) q87 (hw_ai Z 3 (va_up (fun _ => 0) 0 al))) q87 (hw_ai Z 3 (va_up (va_up (fun _ => 0) 0 al) 1 (hs_P S (hb_ix ka) 5)))) q87 (hw_ai Z 3 (va_up (va_up (va_up (fun _ => 0) 0 al) 1 (hs_P S (hb_ix ka) 5)) 2 (hs_P S (hb_ix ka) 6)))) (ad 9 (hb_ix (hs_P S (hb_ix ka) 4))) (hw_ar Z 7 10 (va_up (hc_f (fun j => ad 10 ((hb_ix (hs_P S (hb_ix ka) 4)) + 2 * j)) (hs_N S (hb_ix (hs_P S (hb_ix ka) 4)))) (hs_N S (hb_ix (hs_P S (hb_ix ka) 4))) (some q87)))) (ad 8 (hb_ix (hs_P S (hb_ix ka) 4))) (hw_ob 0 [.int ((hr_mc X1 (2 + (hb_ix (hs_P S (hb_ix ka) 4)))) + nI 1), .ref (ad 9 (hb_ix (hs_P S (hb_ix ka) 4))), .int (nI ((hs_N S (hb_ix (hs_P S (hb_ix ka) 4))) + 1))])) (ad 6 i) = hw_ob 10 [.int (hs_V S i 0), .int (hs_V S i 1), .int (hs_V S i 2), .int (hs_V S i 3), .int (hs_V S i 4)]
                rw [va_up_ne _ _ (hP1.n (k := 6) (i := i) (k' := 8) (i' := (hb_ix (hs_P S (hb_ix ka) 4))) hi hx4.1 (fun q => absurd q.1 (by decide))), va_up_ne _ _ (hP1.n (k := 6) (i := i) (k' := 9) (i' := (hb_ix (hs_P S (hb_ix ka) 4))) hi h9 (fun q => absurd q.1 (by decide))), va_up_ne _ _ (hw_xn (hP1.a 6 i hi) hq87), va_up_ne _ _ (hw_xn (hP1.a 6 i hi) hq87), va_up_ne _ _ (hw_xn (hP1.a 6 i hi) hq87), va_up_ne _ _ (hw_xn (hP1.a 6 i hi) hq87)]
                refine (hP1.m 6 i hi).trans ?_
                first | rfl
              · show (va_up (va_up (va_up (va_up (va_up (va_up M1 q87 (hw_ai Z 3 (fun _ => 0))) q87 (hw_ai Z 3 (va_up (fun _ => 0) 0 al))) q87 (hw_ai Z 3 (va_up (va_up (fun _ => 0) 0 al) 1 (hs_P S (hb_ix ka) 5)))) q87 (hw_ai Z 3 (va_up (va_up (va_up (fun _ => 0) 0 al) 1 (hs_P S (hb_ix ka) 5)) 2 (hs_P S (hb_ix ka) 6)))) (ad 9 (hb_ix (hs_P S (hb_ix ka) 4))) (hw_ar Z 7 10 (va_up (hc_f (fun j => ad 10 ((hb_ix (hs_P S (hb_ix ka) 4)) + 2 * j)) (hs_N S (hb_ix (hs_P S (hb_ix ka) 4)))) (hs_N S (hb_ix (hs_P S (hb_ix ka) 4))) (some q87)))) (ad 8 (hb_ix (hs_P S (hb_ix ka) 4))) (hw_ob 0 [.int ((hr_mc X1 (2 + (hb_ix (hs_P S (hb_ix ka) 4)))) + nI 1), .ref (ad 9 (hb_ix (hs_P S (hb_ix ka) 4))), .int (nI ((hs_N S (hb_ix (hs_P S (hb_ix ka) 4))) + 1))])) (ad 7 i) = hw_ob 8 [.int (hs_M S i 0), .int (hs_M S i 1), .int (hs_M S i 2), .int (hs_M S i 3), .ref (ad 8 i)]
                rw [va_up_ne _ _ (hP1.n (k := 7) (i := i) (k' := 8) (i' := (hb_ix (hs_P S (hb_ix ka) 4))) hi hx4.1 (fun q => absurd q.1 (by decide))), va_up_ne _ _ (hP1.n (k := 7) (i := i) (k' := 9) (i' := (hb_ix (hs_P S (hb_ix ka) 4))) hi h9 (fun q => absurd q.1 (by decide))), va_up_ne _ _ (hw_xn (hP1.a 7 i hi) hq87), va_up_ne _ _ (hw_xn (hP1.a 7 i hi) hq87), va_up_ne _ _ (hw_xn (hP1.a 7 i hi) hq87), va_up_ne _ _ (hw_xn (hP1.a 7 i hi) hq87)]
                refine (hP1.m 7 i hi).trans ?_
                first | rfl
              · by_cases q0 : i = (hb_ix (hs_P S (hb_ix ka) 4))
                · subst q0
                  show (va_up (va_up (va_up (va_up (va_up (va_up M1 q87 (hw_ai Z 3 (fun _ => 0))) q87 (hw_ai Z 3 (va_up (fun _ => 0) 0 al))) q87 (hw_ai Z 3 (va_up (va_up (fun _ => 0) 0 al) 1 (hs_P S (hb_ix ka) 5)))) q87 (hw_ai Z 3 (va_up (va_up (va_up (fun _ => 0) 0 al) 1 (hs_P S (hb_ix ka) 5)) 2 (hs_P S (hb_ix ka) 6)))) (ad 9 (hb_ix (hs_P S (hb_ix ka) 4))) (hw_ar Z 7 10 (va_up (hc_f (fun j => ad 10 ((hb_ix (hs_P S (hb_ix ka) 4)) + 2 * j)) (hs_N S (hb_ix (hs_P S (hb_ix ka) 4)))) (hs_N S (hb_ix (hs_P S (hb_ix ka) 4))) (some q87)))) (ad 8 (hb_ix (hs_P S (hb_ix ka) 4))) (hw_ob 0 [.int ((hr_mc X1 (2 + (hb_ix (hs_P S (hb_ix ka) 4)))) + nI 1), .ref (ad 9 (hb_ix (hs_P S (hb_ix ka) 4))), .int (nI ((hs_N S (hb_ix (hs_P S (hb_ix ka) 4))) + 1))])) (ad 8 (hb_ix (hs_P S (hb_ix ka) 4))) = hw_ob 0 [.int ((va_up (hr_mc X1) (2 + hb_ix (hs_P S (hb_ix ka) 4)) (hr_mc X1 (2 + hb_ix (hs_P S (hb_ix ka) 4)) + nI 1)) (2 + (hb_ix (hs_P S (hb_ix ka) 4)))), .ref (if hr_gr X1 (hb_ix (hs_P S (hb_ix ka) 4)) then ad 9 (hb_ix (hs_P S (hb_ix ka) 4)) else Z.2.2.2), .int (nI ((va_up (hs_N S) (hb_ix (hs_P S (hb_ix ka) 4)) (hs_N S (hb_ix (hs_P S (hb_ix ka) 4)) + 1)) (hb_ix (hs_P S (hb_ix ka) 4))))]
                  refine (hw_us _ _ _).trans ?_
                  first | rfl | (simp only [va_up_self, va_up_ne _ _ (show 0 ≠ 2 + hb_ix (hs_P S (hb_ix ka) 4) by omega), va_up_ne _ _ (show 1 ≠ 2 + hb_ix (hs_P S (hb_ix ka) 4) by omega)]; done) | (simp only [va_up_self, va_up_ne _ _ (show 0 ≠ 2 + hb_ix (hs_P S (hb_ix ka) 4) by omega), va_up_ne _ _ (show 1 ≠ 2 + hb_ix (hs_P S (hb_ix ka) 4) by omega)]; rfl) | (simp only [va_up_self, va_up_ne _ _ (show 0 ≠ 2 + hb_ix (hs_P S (hb_ix ka) 4) by omega), va_up_ne _ _ (show 1 ≠ 2 + hb_ix (hs_P S (hb_ix ka) 4) by omega), hif, hr_fs10 (ad 10) (hb_ix (hs_P S (hb_ix ka) 4)) (hs_N S (hb_ix (hs_P S (hb_ix ka) 4))) q87, h10a, h10b]; done) | (simp only [va_up_self, va_up_ne _ _ (show 0 ≠ 2 + hb_ix (hs_P S (hb_ix ka) 4) by omega), va_up_ne _ _ (show 1 ≠ 2 + hb_ix (hs_P S (hb_ix ka) 4) by omega), hif, hr_fs10 (ad 10) (hb_ix (hs_P S (hb_ix ka) 4)) (hs_N S (hb_ix (hs_P S (hb_ix ka) 4))) q87, h10a, h10b]; rfl)
                show (va_up (va_up (va_up (va_up (va_up (va_up M1 q87 (hw_ai Z 3 (fun _ => 0))) q87 (hw_ai Z 3 (va_up (fun _ => 0) 0 al))) q87 (hw_ai Z 3 (va_up (va_up (fun _ => 0) 0 al) 1 (hs_P S (hb_ix ka) 5)))) q87 (hw_ai Z 3 (va_up (va_up (va_up (fun _ => 0) 0 al) 1 (hs_P S (hb_ix ka) 5)) 2 (hs_P S (hb_ix ka) 6)))) (ad 9 (hb_ix (hs_P S (hb_ix ka) 4))) (hw_ar Z 7 10 (va_up (hc_f (fun j => ad 10 ((hb_ix (hs_P S (hb_ix ka) 4)) + 2 * j)) (hs_N S (hb_ix (hs_P S (hb_ix ka) 4)))) (hs_N S (hb_ix (hs_P S (hb_ix ka) 4))) (some q87)))) (ad 8 (hb_ix (hs_P S (hb_ix ka) 4))) (hw_ob 0 [.int ((hr_mc X1 (2 + (hb_ix (hs_P S (hb_ix ka) 4)))) + nI 1), .ref (ad 9 (hb_ix (hs_P S (hb_ix ka) 4))), .int (nI ((hs_N S (hb_ix (hs_P S (hb_ix ka) 4))) + 1))])) (ad 8 i) = hw_ob 0 [.int ((va_up (hr_mc X1) (2 + hb_ix (hs_P S (hb_ix ka) 4)) (hr_mc X1 (2 + hb_ix (hs_P S (hb_ix ka) 4)) + nI 1)) (2 + i)), .ref (if hr_gr X1 i then ad 9 i else Z.2.2.2), .int (nI ((va_up (hs_N S) (hb_ix (hs_P S (hb_ix ka) 4)) (hs_N S (hb_ix (hs_P S (hb_ix ka) 4)) + 1)) i))]
                rw [va_up_ne _ _ (hP1.n (k := 8) (i := i) (k' := 8) (i' := (hb_ix (hs_P S (hb_ix ka) 4))) hi hx4.1 (fun q => q0 q.2)), va_up_ne _ _ (hP1.n (k := 8) (i := i) (k' := 9) (i' := (hb_ix (hs_P S (hb_ix ka) 4))) hi h9 (fun q => absurd q.1 (by decide))), va_up_ne _ _ (hw_xn (hP1.a 8 i hi) hq87), va_up_ne _ _ (hw_xn (hP1.a 8 i hi) hq87), va_up_ne _ _ (hw_xn (hP1.a 8 i hi) hq87), va_up_ne _ _ (hw_xn (hP1.a 8 i hi) hq87)]
                refine (hP1.m 8 i hi).trans ?_
                first | rfl | (simp only [va_up_ne _ _ q0, va_up_ne _ _ (show 2 + i ≠ 2 + hb_ix (hs_P S (hb_ix ka) 4) by omega)]; done) | (simp only [va_up_ne _ _ q0, va_up_ne _ _ (show 2 + i ≠ 2 + hb_ix (hs_P S (hb_ix ka) 4) by omega)]; rfl)
              · by_cases q0 : i = (hb_ix (hs_P S (hb_ix ka) 4))
                · subst q0
                  show (va_up (va_up (va_up (va_up (va_up (va_up M1 q87 (hw_ai Z 3 (fun _ => 0))) q87 (hw_ai Z 3 (va_up (fun _ => 0) 0 al))) q87 (hw_ai Z 3 (va_up (va_up (fun _ => 0) 0 al) 1 (hs_P S (hb_ix ka) 5)))) q87 (hw_ai Z 3 (va_up (va_up (va_up (fun _ => 0) 0 al) 1 (hs_P S (hb_ix ka) 5)) 2 (hs_P S (hb_ix ka) 6)))) (ad 9 (hb_ix (hs_P S (hb_ix ka) 4))) (hw_ar Z 7 10 (va_up (hc_f (fun j => ad 10 ((hb_ix (hs_P S (hb_ix ka) 4)) + 2 * j)) (hs_N S (hb_ix (hs_P S (hb_ix ka) 4)))) (hs_N S (hb_ix (hs_P S (hb_ix ka) 4))) (some q87)))) (ad 8 (hb_ix (hs_P S (hb_ix ka) 4))) (hw_ob 0 [.int ((hr_mc X1 (2 + (hb_ix (hs_P S (hb_ix ka) 4)))) + nI 1), .ref (ad 9 (hb_ix (hs_P S (hb_ix ka) 4))), .int (nI ((hs_N S (hb_ix (hs_P S (hb_ix ka) 4))) + 1))])) (ad 9 (hb_ix (hs_P S (hb_ix ka) 4))) = hw_ar Z 7 10 (hc_f (fun j => (va_up (ad 10) (hb_ix (hs_P S (hb_ix ka) 4) + 2 * hs_N S (hb_ix (hs_P S (hb_ix ka) 4))) q87) ((hb_ix (hs_P S (hb_ix ka) 4)) + 2 * j)) ((va_up (hs_N S) (hb_ix (hs_P S (hb_ix ka) 4)) (hs_N S (hb_ix (hs_P S (hb_ix ka) 4)) + 1)) (hb_ix (hs_P S (hb_ix ka) 4))))
                  refine (hw_up (hw_us _ _ _) (hP1.n (k := 9) (i := (hb_ix (hs_P S (hb_ix ka) 4))) (k' := 8) (i' := (hb_ix (hs_P S (hb_ix ka) 4))) h9 hx4.1 (fun q => absurd q.1 (by decide)))).trans ?_
                  first | rfl | (simp only [va_up_self, va_up_ne _ _ (show 0 ≠ 2 + hb_ix (hs_P S (hb_ix ka) 4) by omega), va_up_ne _ _ (show 1 ≠ 2 + hb_ix (hs_P S (hb_ix ka) 4) by omega)]; done) | (simp only [va_up_self, va_up_ne _ _ (show 0 ≠ 2 + hb_ix (hs_P S (hb_ix ka) 4) by omega), va_up_ne _ _ (show 1 ≠ 2 + hb_ix (hs_P S (hb_ix ka) 4) by omega)]; rfl) | (simp only [va_up_self, va_up_ne _ _ (show 0 ≠ 2 + hb_ix (hs_P S (hb_ix ka) 4) by omega), va_up_ne _ _ (show 1 ≠ 2 + hb_ix (hs_P S (hb_ix ka) 4) by omega), hif, hr_fs10 (ad 10) (hb_ix (hs_P S (hb_ix ka) 4)) (hs_N S (hb_ix (hs_P S (hb_ix ka) 4))) q87, h10a, h10b]; done) | (simp only [va_up_self, va_up_ne _ _ (show 0 ≠ 2 + hb_ix (hs_P S (hb_ix ka) 4) by omega), va_up_ne _ _ (show 1 ≠ 2 + hb_ix (hs_P S (hb_ix ka) 4) by omega), hif, hr_fs10 (ad 10) (hb_ix (hs_P S (hb_ix ka) 4)) (hs_N S (hb_ix (hs_P S (hb_ix ka) 4))) q87, h10a, h10b]; rfl)
                show (va_up (va_up (va_up (va_up (va_up (va_up M1 q87 (hw_ai Z 3 (fun _ => 0))) q87 (hw_ai Z 3 (va_up (fun _ => 0) 0 al))) q87 (hw_ai Z 3 (va_up (va_up (fun _ => 0) 0 al) 1 (hs_P S (hb_ix ka) 5)))) q87 (hw_ai Z 3 (va_up (va_up (va_up (fun _ => 0) 0 al) 1 (hs_P S (hb_ix ka) 5)) 2 (hs_P S (hb_ix ka) 6)))) (ad 9 (hb_ix (hs_P S (hb_ix ka) 4))) (hw_ar Z 7 10 (va_up (hc_f (fun j => ad 10 ((hb_ix (hs_P S (hb_ix ka) 4)) + 2 * j)) (hs_N S (hb_ix (hs_P S (hb_ix ka) 4)))) (hs_N S (hb_ix (hs_P S (hb_ix ka) 4))) (some q87)))) (ad 8 (hb_ix (hs_P S (hb_ix ka) 4))) (hw_ob 0 [.int ((hr_mc X1 (2 + (hb_ix (hs_P S (hb_ix ka) 4)))) + nI 1), .ref (ad 9 (hb_ix (hs_P S (hb_ix ka) 4))), .int (nI ((hs_N S (hb_ix (hs_P S (hb_ix ka) 4))) + 1))])) (ad 9 i) = hw_ar Z 7 10 (hc_f (fun j => (va_up (ad 10) (hb_ix (hs_P S (hb_ix ka) 4) + 2 * hs_N S (hb_ix (hs_P S (hb_ix ka) 4))) q87) (i + 2 * j)) ((va_up (hs_N S) (hb_ix (hs_P S (hb_ix ka) 4)) (hs_N S (hb_ix (hs_P S (hb_ix ka) 4)) + 1)) i))
                rw [va_up_ne _ _ (hP1.n (k := 9) (i := i) (k' := 8) (i' := (hb_ix (hs_P S (hb_ix ka) 4))) hi hx4.1 (fun q => absurd q.1 (by decide))), va_up_ne _ _ (hP1.n (k := 9) (i := i) (k' := 9) (i' := (hb_ix (hs_P S (hb_ix ka) 4))) hi h9 (fun q => q0 q.2)), va_up_ne _ _ (hw_xn (hP1.a 9 i hi) hq87), va_up_ne _ _ (hw_xn (hP1.a 9 i hi) hq87), va_up_ne _ _ (hw_xn (hP1.a 9 i hi) hq87), va_up_ne _ _ (hw_xn (hP1.a 9 i hi) hq87)]
                refine (hP1.m 9 i hi).trans ?_
                first | rfl | (simp only [va_up_ne _ _ q0, hr_n10 (f := ad 10) (v := hs_N S (hb_ix (hs_P S (hb_ix ka) 4))) (q := q87) hx4.1 hi.1 q0]; done) | (simp only [va_up_ne _ _ q0, hr_n10 (f := ad 10) (v := hs_N S (hb_ix (hs_P S (hb_ix ka) 4))) (q := q87) hx4.1 hi.1 q0]; rfl)
              · by_cases q0 : i = (hb_ix (hs_P S (hb_ix ka) 4) + 2 * hs_N S (hb_ix (hs_P S (hb_ix ka) 4)))
                · subst q0
                  show (va_up (va_up (va_up (va_up (va_up (va_up M1 q87 (hw_ai Z 3 (fun _ => 0))) q87 (hw_ai Z 3 (va_up (fun _ => 0) 0 al))) q87 (hw_ai Z 3 (va_up (va_up (fun _ => 0) 0 al) 1 (hs_P S (hb_ix ka) 5)))) q87 (hw_ai Z 3 (va_up (va_up (va_up (fun _ => 0) 0 al) 1 (hs_P S (hb_ix ka) 5)) 2 (hs_P S (hb_ix ka) 6)))) (ad 9 (hb_ix (hs_P S (hb_ix ka) 4))) (hw_ar Z 7 10 (va_up (hc_f (fun j => ad 10 ((hb_ix (hs_P S (hb_ix ka) 4)) + 2 * j)) (hs_N S (hb_ix (hs_P S (hb_ix ka) 4)))) (hs_N S (hb_ix (hs_P S (hb_ix ka) 4))) (some q87)))) (ad 8 (hb_ix (hs_P S (hb_ix ka) 4))) (hw_ob 0 [.int ((hr_mc X1 (2 + (hb_ix (hs_P S (hb_ix ka) 4)))) + nI 1), .ref (ad 9 (hb_ix (hs_P S (hb_ix ka) 4))), .int (nI ((hs_N S (hb_ix (hs_P S (hb_ix ka) 4))) + 1))])) ((va_up (ad 10) (hb_ix (hs_P S (hb_ix ka) 4) + 2 * hs_N S (hb_ix (hs_P S (hb_ix ka) 4))) q87) (hb_ix (hs_P S (hb_ix ka) 4) + 2 * hs_N S (hb_ix (hs_P S (hb_ix ka) 4)))) = hw_ai Z 3 ((va_up (hr_qq X1) (hb_ix (hs_P S (hb_ix ka) 4)) (va_up (hr_qq X1 (hb_ix (hs_P S (hb_ix ka) 4))) (hs_N S (hb_ix (hs_P S (hb_ix ka) 4))) (va_up (va_up (va_up (fun _ => 0) 0 al) 1 (hs_P S (hb_ix ka) 5)) 2 (hs_P S (hb_ix ka) 6)))) ((hb_ix (hs_P S (hb_ix ka) 4) + 2 * hs_N S (hb_ix (hs_P S (hb_ix ka) 4))) % 2) ((hb_ix (hs_P S (hb_ix ka) 4) + 2 * hs_N S (hb_ix (hs_P S (hb_ix ka) 4))) / 2))
                  rw [show (va_up (ad 10) (hb_ix (hs_P S (hb_ix ka) 4) + 2 * hs_N S (hb_ix (hs_P S (hb_ix ka) 4))) q87) (hb_ix (hs_P S (hb_ix ka) 4) + 2 * hs_N S (hb_ix (hs_P S (hb_ix ka) 4))) = q87 from va_up_self _ _ _]
                  refine (hw_up (hw_up (hw_us _ _ _) (Ne.symm (hw_nn e9_hb_ix_hs_P_S_hb_ix_ka_4hP1 hq87))) (Ne.symm (hw_nn e8_hb_ix_hs_P_S_hb_ix_ka_4hP1 hq87))).trans ?_
                  first | rfl | (simp only [va_up_self, va_up_ne _ _ (show 0 ≠ 2 + hb_ix (hs_P S (hb_ix ka) 4) by omega), va_up_ne _ _ (show 1 ≠ 2 + hb_ix (hs_P S (hb_ix ka) 4) by omega)]; done) | (simp only [va_up_self, va_up_ne _ _ (show 0 ≠ 2 + hb_ix (hs_P S (hb_ix ka) 4) by omega), va_up_ne _ _ (show 1 ≠ 2 + hb_ix (hs_P S (hb_ix ka) 4) by omega)]; rfl) | (simp only [va_up_self, va_up_ne _ _ (show 0 ≠ 2 + hb_ix (hs_P S (hb_ix ka) 4) by omega), va_up_ne _ _ (show 1 ≠ 2 + hb_ix (hs_P S (hb_ix ka) 4) by omega), hif, hr_fs10 (ad 10) (hb_ix (hs_P S (hb_ix ka) 4)) (hs_N S (hb_ix (hs_P S (hb_ix ka) 4))) q87, h10a, h10b]; done) | (simp only [va_up_self, va_up_ne _ _ (show 0 ≠ 2 + hb_ix (hs_P S (hb_ix ka) 4) by omega), va_up_ne _ _ (show 1 ≠ 2 + hb_ix (hs_P S (hb_ix ka) 4) by omega), hif, hr_fs10 (ad 10) (hb_ix (hs_P S (hb_ix ka) 4)) (hs_N S (hb_ix (hs_P S (hb_ix ka) 4))) q87, h10a, h10b]; rfl)
                have hi0 := hi
                replace hi0 : hr_p S X1 10 i := (hp10n i hi q0)
                show (va_up (va_up (va_up (va_up (va_up (va_up M1 q87 (hw_ai Z 3 (fun _ => 0))) q87 (hw_ai Z 3 (va_up (fun _ => 0) 0 al))) q87 (hw_ai Z 3 (va_up (va_up (fun _ => 0) 0 al) 1 (hs_P S (hb_ix ka) 5)))) q87 (hw_ai Z 3 (va_up (va_up (va_up (fun _ => 0) 0 al) 1 (hs_P S (hb_ix ka) 5)) 2 (hs_P S (hb_ix ka) 6)))) (ad 9 (hb_ix (hs_P S (hb_ix ka) 4))) (hw_ar Z 7 10 (va_up (hc_f (fun j => ad 10 ((hb_ix (hs_P S (hb_ix ka) 4)) + 2 * j)) (hs_N S (hb_ix (hs_P S (hb_ix ka) 4)))) (hs_N S (hb_ix (hs_P S (hb_ix ka) 4))) (some q87)))) (ad 8 (hb_ix (hs_P S (hb_ix ka) 4))) (hw_ob 0 [.int ((hr_mc X1 (2 + (hb_ix (hs_P S (hb_ix ka) 4)))) + nI 1), .ref (ad 9 (hb_ix (hs_P S (hb_ix ka) 4))), .int (nI ((hs_N S (hb_ix (hs_P S (hb_ix ka) 4))) + 1))])) ((va_up (ad 10) (hb_ix (hs_P S (hb_ix ka) 4) + 2 * hs_N S (hb_ix (hs_P S (hb_ix ka) 4))) q87) i) = hw_ai Z 3 ((va_up (hr_qq X1) (hb_ix (hs_P S (hb_ix ka) 4)) (va_up (hr_qq X1 (hb_ix (hs_P S (hb_ix ka) 4))) (hs_N S (hb_ix (hs_P S (hb_ix ka) 4))) (va_up (va_up (va_up (fun _ => 0) 0 al) 1 (hs_P S (hb_ix ka) 5)) 2 (hs_P S (hb_ix ka) 6)))) (i % 2) (i / 2))
                rw [va_up_ne _ _ q0]
                rw [va_up_ne _ _ (hP1.n (k := 10) (i := i) (k' := 8) (i' := (hb_ix (hs_P S (hb_ix ka) 4))) hi0 hx4.1 (fun q => absurd q.1 (by decide))), va_up_ne _ _ (hP1.n (k := 10) (i := i) (k' := 9) (i' := (hb_ix (hs_P S (hb_ix ka) 4))) hi0 h9 (fun q => absurd q.1 (by decide))), va_up_ne _ _ (hw_xn (hP1.a 10 i hi0) hq87), va_up_ne _ _ (hw_xn (hP1.a 10 i hi0) hq87), va_up_ne _ _ (hw_xn (hP1.a 10 i hi0) hq87), va_up_ne _ _ (hw_xn (hP1.a 10 i hi0) hq87)]
                refine (hP1.m 10 i hi0).trans ?_
                first | rfl | (simp only [va_up_ne _ _ q0, h10n i q0]; done) | (simp only [va_up_ne _ _ q0, h10n i q0]; rfl)
              · show (va_up (va_up (va_up (va_up (va_up (va_up M1 q87 (hw_ai Z 3 (fun _ => 0))) q87 (hw_ai Z 3 (va_up (fun _ => 0) 0 al))) q87 (hw_ai Z 3 (va_up (va_up (fun _ => 0) 0 al) 1 (hs_P S (hb_ix ka) 5)))) q87 (hw_ai Z 3 (va_up (va_up (va_up (fun _ => 0) 0 al) 1 (hs_P S (hb_ix ka) 5)) 2 (hs_P S (hb_ix ka) 6)))) (ad 9 (hb_ix (hs_P S (hb_ix ka) 4))) (hw_ar Z 7 10 (va_up (hc_f (fun j => ad 10 ((hb_ix (hs_P S (hb_ix ka) 4)) + 2 * j)) (hs_N S (hb_ix (hs_P S (hb_ix ka) 4)))) (hs_N S (hb_ix (hs_P S (hb_ix ka) 4))) (some q87)))) (ad 8 (hb_ix (hs_P S (hb_ix ka) 4))) (hw_ob 0 [.int ((hr_mc X1 (2 + (hb_ix (hs_P S (hb_ix ka) 4)))) + nI 1), .ref (ad 9 (hb_ix (hs_P S (hb_ix ka) 4))), .int (nI ((hs_N S (hb_ix (hs_P S (hb_ix ka) 4))) + 1))])) (ad 11 i) = hw_ar Z 7 10 (hc_f (ad 1) (hs_np S))
                rw [va_up_ne _ _ (hP1.n (k := 11) (i := i) (k' := 8) (i' := (hb_ix (hs_P S (hb_ix ka) 4))) hi hx4.1 (fun q => absurd q.1 (by decide))), va_up_ne _ _ (hP1.n (k := 11) (i := i) (k' := 9) (i' := (hb_ix (hs_P S (hb_ix ka) 4))) hi h9 (fun q => absurd q.1 (by decide))), va_up_ne _ _ (hw_xn (hP1.a 11 i hi) hq87), va_up_ne _ _ (hw_xn (hP1.a 11 i hi) hq87), va_up_ne _ _ (hw_xn (hP1.a 11 i hi) hq87), va_up_ne _ _ (hw_xn (hP1.a 11 i hi) hq87)]
                refine (hP1.m 11 i hi).trans ?_
                first | rfl
              · show (va_up (va_up (va_up (va_up (va_up (va_up M1 q87 (hw_ai Z 3 (fun _ => 0))) q87 (hw_ai Z 3 (va_up (fun _ => 0) 0 al))) q87 (hw_ai Z 3 (va_up (va_up (fun _ => 0) 0 al) 1 (hs_P S (hb_ix ka) 5)))) q87 (hw_ai Z 3 (va_up (va_up (va_up (fun _ => 0) 0 al) 1 (hs_P S (hb_ix ka) 5)) 2 (hs_P S (hb_ix ka) 6)))) (ad 9 (hb_ix (hs_P S (hb_ix ka) 4))) (hw_ar Z 7 10 (va_up (hc_f (fun j => ad 10 ((hb_ix (hs_P S (hb_ix ka) 4)) + 2 * j)) (hs_N S (hb_ix (hs_P S (hb_ix ka) 4)))) (hs_N S (hb_ix (hs_P S (hb_ix ka) 4))) (some q87)))) (ad 8 (hb_ix (hs_P S (hb_ix ka) 4))) (hw_ob 0 [.int ((hr_mc X1 (2 + (hb_ix (hs_P S (hb_ix ka) 4)))) + nI 1), .ref (ad 9 (hb_ix (hs_P S (hb_ix ka) 4))), .int (nI ((hs_N S (hb_ix (hs_P S (hb_ix ka) 4))) + 1))])) (ad 12 i) = hw_ar Z 7 10 (hc_f (ad 6) (hs_nw S))
                rw [va_up_ne _ _ (hP1.n (k := 12) (i := i) (k' := 8) (i' := (hb_ix (hs_P S (hb_ix ka) 4))) hi hx4.1 (fun q => absurd q.1 (by decide))), va_up_ne _ _ (hP1.n (k := 12) (i := i) (k' := 9) (i' := (hb_ix (hs_P S (hb_ix ka) 4))) hi h9 (fun q => absurd q.1 (by decide))), va_up_ne _ _ (hw_xn (hP1.a 12 i hi) hq87), va_up_ne _ _ (hw_xn (hP1.a 12 i hi) hq87), va_up_ne _ _ (hw_xn (hP1.a 12 i hi) hq87), va_up_ne _ _ (hw_xn (hP1.a 12 i hi) hq87)]
                refine (hP1.m 12 i hi).trans ?_
                first | rfl
              · exact hi.elim
          have fr_hok : ∀ a, b1 a → (va_up (va_up (va_up (va_up (va_up (va_up M1 q87 (hw_ai Z 3 (fun _ => 0))) q87 (hw_ai Z 3 (va_up (fun _ => 0) 0 al))) q87 (hw_ai Z 3 (va_up (va_up (fun _ => 0) 0 al) 1 (hs_P S (hb_ix ka) 5)))) q87 (hw_ai Z 3 (va_up (va_up (va_up (fun _ => 0) 0 al) 1 (hs_P S (hb_ix ka) 5)) 2 (hs_P S (hb_ix ka) 6)))) (ad 9 (hb_ix (hs_P S (hb_ix ka) 4))) (hw_ar Z 7 10 (va_up (hc_f (fun j => ad 10 ((hb_ix (hs_P S (hb_ix ka) 4)) + 2 * j)) (hs_N S (hb_ix (hs_P S (hb_ix ka) 4)))) (hs_N S (hb_ix (hs_P S (hb_ix ka) 4))) (some q87)))) (ad 8 (hb_ix (hs_P S (hb_ix ka) 4))) (hw_ob 0 [.int ((hr_mc X1 (2 + (hb_ix (hs_P S (hb_ix ka) 4)))) + nI 1), .ref (ad 9 (hb_ix (hs_P S (hb_ix ka) 4))), .int (nI ((hs_N S (hb_ix (hs_P S (hb_ix ka) 4))) + 1))])) a = M a := fun a ha => by rw [va_up_ne _ _ (hP1.f (k := 8) (i := (hb_ix (hs_P S (hb_ix ka) 4))) hx4.1 ha), va_up_ne _ _ (hP1.f (k := 9) (i := (hb_ix (hs_P S (hb_ix ka) 4))) h9 ha), va_up_ne _ _ (hw_xn (hA1 a ha) hq87), va_up_ne _ _ (hw_xn (hA1 a ha) hq87), va_up_ne _ _ (hw_xn (hA1 a ha) hq87), va_up_ne _ _ (hw_xn (hA1 a ha) hq87)]; exact fr1 a ha
          have hfin : hr_R Z b1 M ad (st_prove S ka) (nI 1) (va_up (va_up (va_up (va_up (va_up (va_up M1 q87 (hw_ai Z 3 (fun _ => 0))) q87 (hw_ai Z 3 (va_up (fun _ => 0) 0 al))) q87 (hw_ai Z 3 (va_up (va_up (fun _ => 0) 0 al) 1 (hs_P S (hb_ix ka) 5)))) q87 (hw_ai Z 3 (va_up (va_up (va_up (fun _ => 0) 0 al) 1 (hs_P S (hb_ix ka) 5)) 2 (hs_P S (hb_ix ka) 6)))) (ad 9 (hb_ix (hs_P S (hb_ix ka) 4))) (hw_ar Z 7 10 (va_up (hc_f (fun j => ad 10 ((hb_ix (hs_P S (hb_ix ka) 4)) + 2 * j)) (hs_N S (hb_ix (hs_P S (hb_ix ka) 4)))) (hs_N S (hb_ix (hs_P S (hb_ix ka) 4))) (some q87)))) (ad 8 (hb_ix (hs_P S (hb_ix ka) 4))) (hw_ob 0 [.int ((hr_mc X1 (2 + (hb_ix (hs_P S (hb_ix ka) 4)))) + nI 1), .ref (ad 9 (hb_ix (hs_P S (hb_ix ka) 4))), .int (nI ((hs_N S (hb_ix (hs_P S (hb_ix ka) 4))) + 1))])) := hr_r (S' := hs_sN (hs_sQ S (hb_ix (hs_P S (hb_ix ka) 4)) (va_up (hs_Q S (hb_ix (hs_P S (hb_ix ka) 4))) (hs_N S (hb_ix (hs_P S (hb_ix ka) 4))) (hs_P S (hb_ix ka) 9))) (hb_ix (hs_P S (hb_ix ka) 4)) (hs_N S (hb_ix (hs_P S (hb_ix ka) 4)) + 1)) (X' := hr_sqq (hr_smc X1 (2 + hb_ix (hs_P S (hb_ix ka) 4)) (hr_mc X1 (2 + hb_ix (hs_P S (hb_ix ka) 4)) + nI 1)) (hb_ix (hs_P S (hb_ix ka) 4)) (va_up (hr_qq X1 (hb_ix (hs_P S (hb_ix ka) 4))) (hs_N S (hb_ix (hs_P S (hb_ix ka) 4))) (va_up (va_up (va_up (fun _ => 0) 0 al) 1 (hs_P S (hb_ix ka) 5)) 2 (hs_P S (hb_ix ka) 6)))) (ad' := hr_ua ad 10 (va_up (ad 10) (hb_ix (hs_P S (hb_ix ka) 4) + 2 * hs_N S (hb_ix (hs_P S (hb_ix ka) 4))) q87)) (by unfold st_prove; rw [(hb_apc_t hroom hhas).1, (hb_apc_t hroom hhas).2]; exact ((if_neg (fun q => q gk)).trans ((if_neg (fun q => q c46)).trans ((if_neg (fun q => q.elim h4n (hq_bn (hb_isd_t (hf_dens _ _ _) c71)))).trans rfl)))) rfl hok ht1 fr_hok
          exact hret hI (Or.inr rfl) hfin (Nat.le_of_ble_eq_true rfl) (Nat.le_of_ble_eq_true rfl) dX11_prove_145
      · refine lv_iconst (v := nI 0) hx hb dX11_prove_74 (by decide) ?_
        have hok : hr_ok Z b1 (M1) ad (S) (X1) := by
          refine hr_old hP1 (fun _ _ hi => hi) ?_ hP1.q hP1.g
          intro k i hi
          rcases k with _ | _ | _ | _ | _ | _ | _ | _ | _ | _ | _ | _ | _ | k
          · rcases (show i = 0 ∨ i = 1 ∨ i = 2 ∨ i = 3 by have h4 : i < 4 := hi; omega) with rfl | rfl | rfl | rfl
            · show (M1) (ad 0 0) = hw_ob 12 [.int (hr_th X1), .int (hs_G S 0), .int (hs_G S 1), .ref (ad 0 2), .ref (ad 0 3), .ref (ad 0 1)]
              refine (hP1.m 0 0 (show 0 < 4 by decide)).trans ?_
              first | rfl | (simp only [va_up_self]; done) | (simp only [va_up_self]; rfl)
            · show (M1) (ad 0 1) = hw_ar Z 6 2 (fun j => some (ad 7 j))
              refine (hP1.m 0 1 (show 1 < 4 by decide)).trans ?_
              first | rfl | (simp only [va_up_self]; done) | (simp only [va_up_self]; rfl)
            · show (M1) (ad 0 2) = hw_ob 0 [.int (hr_mc X1 0), .ref (hr_d (hs_np S) Z.2.2.2 (ad 11 0)), .int (nI (hs_np S))]
              refine (hP1.m 0 2 (show 2 < 4 by decide)).trans ?_
              first | rfl | (simp only [va_up_self]; done) | (simp only [va_up_self]; rfl)
            · show (M1) (ad 0 3) = hw_ob 0 [.int (hr_mc X1 1), .ref (hr_d (hs_nw S) Z.2.2.2 (ad 12 0)), .int (nI (hs_nw S))]
              refine (hP1.m 0 3 (show 3 < 4 by decide)).trans ?_
              first | rfl | (simp only [va_up_self]; done) | (simp only [va_up_self]; rfl)
          · show (M1) (ad 1 i) = hw_ob 9 [.ref (ad 2 i), .int (hs_P S i 0), .ref (ad 4 i), .int (hs_P S i 3), .int (hs_P S i 4), .int (hs_P S i 5), .int (hs_P S i 6), .int (hs_P S i 7), .int (hs_P S i 8)]
            refine (hP1.m 1 i hi).trans ?_
            first | rfl
          · show (M1) (ad 2 i) = hw_ob 11 [.ref (ad 3 i)]
            refine (hP1.m 2 i hi).trans ?_
            first | rfl
          · show (M1) (ad 3 i) = hw_al Z 8 (hs_C S i)
            refine (hP1.m 3 i hi).trans ?_
            first | rfl
          · show (M1) (ad 4 i) = hw_ob 7 [.double (hr_en (hs_P S i)), .ref (ad 5 i), .double (hs_U S i), .int (hs_P S i 1), .int (hs_P S i 2), .int (nI (hs_D S i))]
            refine (hP1.m 4 i hi).trans ?_
            first | rfl
          · show (M1) (ad 5 i) = hw_ad Z 64 (hs_W S i)
            refine (hP1.m 5 i hi).trans ?_
            first | rfl
          · show (M1) (ad 6 i) = hw_ob 10 [.int (hs_V S i 0), .int (hs_V S i 1), .int (hs_V S i 2), .int (hs_V S i 3), .int (hs_V S i 4)]
            refine (hP1.m 6 i hi).trans ?_
            first | rfl
          · show (M1) (ad 7 i) = hw_ob 8 [.int (hs_M S i 0), .int (hs_M S i 1), .int (hs_M S i 2), .int (hs_M S i 3), .ref (ad 8 i)]
            refine (hP1.m 7 i hi).trans ?_
            first | rfl
          · show (M1) (ad 8 i) = hw_ob 0 [.int (hr_mc X1 (2 + i)), .ref (if hr_gr X1 i then ad 9 i else Z.2.2.2), .int (nI (hs_N S i))]
            refine (hP1.m 8 i hi).trans ?_
            first | rfl
          · show (M1) (ad 9 i) = hw_ar Z 7 10 (hc_f (fun j => ad 10 (i + 2 * j)) (hs_N S i))
            refine (hP1.m 9 i hi).trans ?_
            first | rfl
          · show (M1) (ad 10 i) = hw_ai Z 3 (hr_qq X1 (i % 2) (i / 2))
            refine (hP1.m 10 i hi).trans ?_
            first | rfl
          · show (M1) (ad 11 i) = hw_ar Z 7 10 (hc_f (ad 1) (hs_np S))
            refine (hP1.m 11 i hi).trans ?_
            first | rfl
          · show (M1) (ad 12 i) = hw_ar Z 7 10 (hc_f (ad 6) (hs_nw S))
            refine (hP1.m 12 i hi).trans ?_
            first | rfl
          · exact hi.elim
        have fr_hok : ∀ a, b1 a → (M1) a = M a := fun a ha => fr1 a ha
        have hfin : hr_R Z b1 M ad (st_prove S ka) (nI 0) (M1) := hr_r (S' := S) (X' := X1) (ad' := ad) (by unfold st_prove; exact ((if_neg (fun q => q gk)).trans ((if_neg (fun q => q c46)).trans (if_pos (Or.inr (hb_isd_f c71)))))) rfl hok ht1 fr_hok
        exact hret hI (Or.inl rfl) hfin (Nat.le_of_ble_eq_true rfl) (Nat.le_of_ble_eq_true rfl) dX11_prove_75
    · refine lv_aload_n hx hb dX11_prove_49 rfl (lv_at hl 1 rfl) ?_
      refine lv_iconst (v := nI 2) hx hb dX11_prove_50 (by decide) ?_
      refine hw_ci hI (hw_rV hx hb hml hown hts hk hI (m_X11_no l Z M1 (ad 0 0) (ad 0 2) (ad 0 3) (ad 0 1) (hr_th X1) (hs_G S 0) (hs_G S 1) (nI 2) e0_0hP1) cv_X11_44 e0_0hP1 rfl rfl ⟨rfl, rfl⟩ ⟨(Nat.le_of_ble_eq_true rfl), (Nat.le_of_ble_eq_true rfl)⟩ rfl hl.1 rfl (Nat.le_of_ble_eq_true rfl) ⟨(Nat.le_of_ble_eq_true rfl), (Nat.le_of_ble_eq_true rfl)⟩ dX11_prove_51) (fun r51 M51 H locs hR hI => ?_)
      obtain ⟨rfl, rfl⟩ := hR
      refine lv_if_le (tgt := 61) hx hb dX11_prove_54 (by decide) (fun _ => ?_) (fun hc => absurd (by decide) hc)
      refine lv_iconst (v := nI 0) hx hb dX11_prove_61 (by decide) ?_
      exact hret hI (Or.inl rfl) (hr_x (n := 2) (by unfold st_prove; exact (hq_el (fun q => q gk) (hq_if c46 ⟨rfl, rfl⟩))) (by decide) (hP1.th (nI 2)) rfl (fun a ha => (va_up_ne _ _ (hP1.f (k := 0) (i := 0) (show 0 < 4 by decide) ha)).trans (fr1 a ha))) (Nat.le_of_ble_eq_true rfl) (Nat.le_of_ble_eq_true rfl) dX11_prove_62
  · refine lv_aload_n hx hb dX11_prove_13 rfl (lv_at hl 0 rfl) ?_
    refine lv_iconst (v := nI 1) hx hb dX11_prove_14 (by decide) ?_
    refine hw_ci hI (hw_rV hx hb hml hown hts hk hI (m_X11_no l Z M1 (ad 0 0) (ad 0 2) (ad 0 3) (ad 0 1) (hr_th X1) (hs_G S 0) (hs_G S 1) (nI 1) e0_0hP1) cv_X11_44 e0_0hP1 rfl rfl ⟨rfl, rfl⟩ ⟨(Nat.le_of_ble_eq_true rfl), (Nat.le_of_ble_eq_true rfl)⟩ rfl hl.1 rfl (Nat.le_of_ble_eq_true rfl) ⟨(Nat.le_of_ble_eq_true rfl), (Nat.le_of_ble_eq_true rfl)⟩ dX11_prove_15) (fun r15 M15 H locs hR hI => ?_)
    obtain ⟨rfl, rfl⟩ := hR
    refine lv_if_le (tgt := 25) hx hb dX11_prove_18 (by decide) (fun _ => ?_) (fun hc => absurd (by decide) hc)
    refine lv_iconst (v := nI 0) hx hb dX11_prove_25 (by decide) ?_
    exact hret hI (Or.inl rfl) (hr_x (n := 1) (by unfold st_prove; exact (hq_if (hq_df c10) ⟨rfl, rfl⟩)) (by decide) (hP1.th (nI 1)) rfl (fun a ha => (va_up_ne _ _ (hP1.f (k := 0) (i := 0) (show 0 < 4 by decide) ha)).trans (fr1 a ha))) (Nat.le_of_ble_eq_true rfl) (Nat.le_of_ble_eq_true rfl) dX11_prove_26

set_option maxHeartbeats 4000000 in
set_option maxRecDepth 100000 in
theorem m_X11_prove_n (l : Launch) (Z : hw_Z) (M : hw_M) (ad : hp_ad) (S : hs_S) (X : hr_X) (b1 : Nat → Prop) (ka : Int32) (hP : hr_ok Z b1 M ad S X) (hV : hv_ok S) (hA : ∀ a, b1 a → M a ≠ none) (hg : hr_gr X (hb_ix (hs_P S (hb_ix ka) 4)) = false) : Met l yX11_prove (hw_m yX11_prove cX11_prove 5 (some .boolean)) ({ frames := 8, cells := 3, slots := 20, locals := 250 } : Room) (va_Pc [.ref (ad 0 0), .int ka] (hw_P Z M)) (hw_Qi Z (hr_R Z b1 M ad (st_prove S ka))) 3 20 (hw_A Z) := by
  refine hw_ofz (by decide +kernel) rfl (Nat.le_of_ble_eq_true rfl) ?_
  intro p e s m below meth c ls Q hx hb hml hown hts hk hnm hI hl hret
  have hB := hV.b
  have hnp := hB.np
  have hnw := hB.nw
  have e0_0hP : M (ad 0 0) = hw_ob 12 [.int (hr_th X), .int (hs_G S 0), .int (hs_G S 1), .ref (ad 0 2), .ref (ad 0 3), .ref (ad 0 1)] := hP.m 0 0 (show 0 < 4 by decide)
  refine lv_aload_n hx hb dX11_prove_0 rfl (lv_at hl 0 rfl) ?_
  refine lv_iconst (v := nI 0) hx hb dX11_prove_1 (by decide) ?_
  refine hw_put (fs' := [.int (nI 0), .int (hs_G S 0), .int (hs_G S 1), .ref (ad 0 2), .ref (ad 0 3), .ref (ad 0 1)]) hx hb hts hown hk hI fp_X11_26 e0_0hP (Nat.le_of_ble_eq_true rfl) rfl rfl rfl dX11_prove_2 (fun H locs hI => ?_)
  obtain ⟨M1, hM1⟩ : ∃ Y : hw_M, Y = va_up M (ad 0 0) (hw_ob 12 [.int (nI 0), .int (hs_G S 0), .int (hs_G S 1), .ref (ad 0 2), .ref (ad 0 3), .ref (ad 0 1)]) := ⟨_, rfl⟩
  replace hI := hI.eq hM1.symm
  obtain ⟨X1, hX1⟩ : ∃ Y : hr_X, Y = (nI 0, X.2) := ⟨_, rfl⟩
  have hP1 : hr_ok Z b1 M1 ad S X1 := by rw [hM1, hX1]; exact hP.th (nI 0)
  have ht1 : hr_th X1 = nI 0 := by rw [hX1]; rfl
  have hgr1 : hr_gr X1 = hr_gr X := by rw [hX1]; rfl
  have hqq1 : hr_qq X1 = hr_qq X := by rw [hX1]; rfl
  have fr1 : ∀ a, b1 a → M1 a = M a := fun a ha => by rw [hM1]; exact va_up_ne _ _ (hP.f (k := 0) (i := 0) (show 0 < 4 by decide) ha)
  have hA1 : ∀ a, b1 a → M1 a ≠ none := fun a ha => by rw [fr1 a ha]; exact hA a ha
  clear hP hX1
  have e0_0hP1 : M1 (ad 0 0) = hw_ob 12 [.int (hr_th X1), .int (hs_G S 0), .int (hs_G S 1), .ref (ad 0 2), .ref (ad 0 3), .ref (ad 0 1)] := hP1.m 0 0 (show 0 < 4 by decide)
  have e0_2hP1 : M1 (ad 0 2) = hw_ob 0 [.int (hr_mc X1 0), .ref (hr_d (hs_np S) Z.2.2.2 (ad 11 0)), .int (nI (hs_np S))] := hP1.m 0 2 (show 2 < 4 by decide)
  refine lv_aload_n hx hb dX11_prove_5 rfl (lv_at hl 0 rfl) ?_
  refine lv_iload_n hx hb dX11_prove_6 rfl (lv_at hl 1 rfl) ?_
  refine hw_ci hI (hw_rV hx hb hml hown hts hk hI (m_X11_isPiece l Z M1 (ad 0 0) (ad 0 2) (ad 0 3) (ad 0 1) (hr_th X1) (hs_G S 0) (hs_G S 1) ka (hr_mc X1 0) (hs_np S) (.ref (hr_d (hs_np S) Z.2.2.2 (ad 11 0))) e0_0hP1 e0_2hP1 (by omega)) cv_X11_55 e0_0hP1 rfl rfl ⟨rfl, rfl⟩ ⟨(Nat.le_of_ble_eq_true rfl), (Nat.le_of_ble_eq_true rfl)⟩ rfl hl.1 rfl (Nat.le_of_ble_eq_true rfl) ⟨(Nat.le_of_ble_eq_true rfl), (Nat.le_of_ble_eq_true rfl)⟩ dX11_prove_7) (fun r7 M7 H locs hR hI => ?_)
  obtain ⟨rfl, rfl⟩ := hR
  refine lv_if_ne (tgt := 27) hx hb dX11_prove_10 (by decide) (fun c10 => ?_) (fun c10 => ?_)
  · have gk := hq_dt c10
    have hx_ka := hb_okx (by omega) gk
    have hi_ka : hb_ix ka < hs_np S := hx_ka.1
    have h4_ka : hb_ix ka < 4 := by omega
    have h11 : 0 = 0 ∧ 0 < hs_np S := ⟨rfl, by omega⟩
    have e0_2hP1 : M1 (ad 0 2) = hw_ob 0 [.int (hr_mc X1 0), .ref (ad 11 0), .int (nI (hs_np S))] := by
      have q := hP1.m 0 2 (show 2 < 4 by decide)
      rw [show hr_e Z ad S X1 0 2 = hw_ob 0 [.int (hr_mc X1 0), .ref (hr_d (hs_np S) Z.2.2.2 (ad 11 0)), .int (nI (hs_np S))] from rfl, hr_d0 h11.2] at q
      exact q
    have e11_0hP1 : M1 (ad 11 0) = hw_ar Z 7 10 (hc_f (ad 1) (hs_np S)) := hP1.m 11 0 h11
    have e1_hb_ix_kahP1 : M1 (ad 1 (hb_ix ka)) = hw_ob 9 [.ref (ad 2 (hb_ix ka)), .int (hs_P S (hb_ix ka) 0), .ref (ad 4 (hb_ix ka)), .int (hs_P S (hb_ix ka) 3), .int (hs_P S (hb_ix ka) 4), .int (hs_P S (hb_ix ka) 5), .int (hs_P S (hb_ix ka) 6), .int (hs_P S (hb_ix ka) 7), .int (hs_P S (hb_ix ka) 8)] := hP1.m 1 (hb_ix ka) hi_ka
    have e2_hb_ix_kahP1 : M1 (ad 2 (hb_ix ka)) = hw_ob 11 [.ref (ad 3 (hb_ix ka))] := hP1.m 2 (hb_ix ka) hi_ka
    have e3_hb_ix_kahP1 : M1 (ad 3 (hb_ix ka)) = hw_al Z 8 (hs_C S (hb_ix ka)) := hP1.m 3 (hb_ix ka) hi_ka
    have e4_hb_ix_kahP1 : M1 (ad 4 (hb_ix ka)) = hw_ob 7 [.double (hr_en (hs_P S (hb_ix ka))), .ref (ad 5 (hb_ix ka)), .double (hs_U S (hb_ix ka)), .int (hs_P S (hb_ix ka) 1), .int (hs_P S (hb_ix ka) 2), .int (nI (hs_D S (hb_ix ka)))] := hP1.m 4 (hb_ix ka) hi_ka
    refine lv_aload_n hx hb dX11_prove_27 rfl (lv_at hl 0 rfl) ?_
    refine hw_get hx hb hts hown hk hI fd_X11_10 e0_0hP1 rfl dX11_prove_28 ?_
    refine lv_iload_n hx hb dX11_prove_31 rfl (lv_at hl 1 rfl) ?_
    refine hw_ti hx_ka.2 ?_
    refine hw_cFr hI (hw_rF hx hb hml hown hts hk hI (m_Jx4a65c_get_915e3 l Z M1 (ad 0 2) (ad 11 0) (hs_np S) (hb_ix ka) (ad 1 (hb_ix ka)) (hr_mc X1 0) (hc_f (ad 1) (hs_np S)) e0_2hP1 e11_0hP1 hi_ka (by omega) (if_pos hi_ka)) cf_X11_59 e0_2hP1 rfl rfl ⟨rfl, rfl⟩ ⟨(Nat.le_of_ble_eq_true rfl), (Nat.le_of_ble_eq_true rfl)⟩ rfl hl.1 rfl (Nat.le_of_ble_eq_true rfl) ⟨(Nat.le_of_ble_eq_true rfl), (Nat.le_of_ble_eq_true rfl)⟩ dX11_prove_32) (fun r32 M32 H locs hR hI => ?_)
    obtain ⟨rfl, rfl⟩ := hR
    refine hw_cast hx hb hts hown hk hI e1_hb_ix_kahP1 rfl (hw_win (w := .classLink RX11 48 RX8) (by decide +kernel) (by decide +kernel)) dX11_prove_37 ?_
    refine lv_astore_n (lv' := [(2, .ref (ad 1 (hb_ix ka))), (0, .ref (ad 0 0)), (1, .int ka)]) hx hb dX11_prove_40 rfl hl (by decide) rfl (fun ls hl => ?_)
    refine lv_aload_n hx hb dX11_prove_41 rfl (lv_at hl 0 rfl) ?_
    refine hw_get hx hb hts hown hk hI fd_X11_63 e1_hb_ix_kahP1 rfl dX11_prove_42 ?_
    refine lv_iconst (v := nI 4) hx hb dX11_prove_45 (by decide) ?_
    refine lv_icmp_eq (tgt := 63) hx hb dX11_prove_46 (by decide) (fun c46 => ?_) (fun c46 => ?_)
    · have hs0 : ¬ hs_P S (hb_ix ka) 0 = 0 := by rw [c46]; decide
      obtain ⟨t4, t5, t6, al, tal, t9, m9, t8, m90, m96, tm⟩ := hV.st hi_ka hs0
      have hx4 := hb_okx (by decide) t4
      have h4n := hb_okn t4
      have hao := hv_ao (S := S) t8 m90 m96 tm
      have hnw0 : 0 < hs_nw S := by obtain ⟨k9, _, hk9⟩ := hb_tbx m9 m90 m96; have := (tm k9 hk9).1; omega
      have h12 : 0 = 0 ∧ 0 < hs_nw S := ⟨rfl, hnw0⟩
      have hq9 : hb_tr (hr_qq X1 (hb_ix (hs_P S (hb_ix ka) 4))) al (hs_P S (hb_ix ka) 5) (hs_P S (hb_ix ka) 6) (hs_N S (hb_ix (hs_P S (hb_ix ka) 4))) = hb_has (hs_Q S (hb_ix (hs_P S (hb_ix ka) 4))) (hs_P S (hb_ix ka) 9) (hs_N S (hb_ix (hs_P S (hb_ix ka) 4))) := hb_tr_has tal t5 t6 t9 _ (fun m hm => hP1.q (hb_ix (hs_P S (hb_ix ka) 4)) m hx4.1 hm)
      have hg1 : hr_gr X1 (hb_ix (hs_P S (hb_ix ka) 4)) = false := by rw [hgr1]; exact hg
      have hN0 := hP1.g (hb_ix (hs_P S (hb_ix ka) 4)) hx4.1 hg1
      have hif : (if hr_gr X1 (hb_ix (hs_P S (hb_ix ka) 4)) = true then ad 9 (hb_ix (hs_P S (hb_ix ka) 4)) else Z.2.2.2) = Z.2.2.2 := if_neg (by rw [hg1]; decide)
      have e0_1hP1 : M1 (ad 0 1) = hw_ar Z 6 2 (fun j => some (ad 7 j)) := hP1.m 0 1 (show 1 < 4 by decide)
      have e0_3hP1 : M1 (ad 0 3) = hw_ob 0 [.int (hr_mc X1 1), .ref (ad 12 0), .int (nI (hs_nw S))] := by
        have q := hP1.m 0 3 (show 3 < 4 by decide)
        rw [show hr_e Z ad S X1 0 3 = hw_ob 0 [.int (hr_mc X1 1), .ref (hr_d (hs_nw S) Z.2.2.2 (ad 12 0)), .int (nI (hs_nw S))] from rfl, hr_d0 h12.2] at q
        exact q
      have e12_0hP1 : M1 (ad 12 0) = hw_ar Z 7 10 (hc_f (ad 6) (hs_nw S)) := hP1.m 12 0 h12
      have e7_hb_ix_hs_P_S_hb_ix_ka_4hP1 : M1 (ad 7 (hb_ix (hs_P S (hb_ix ka) 4))) = hw_ob 8 [.int (hs_M S (hb_ix (hs_P S (hb_ix ka) 4)) 0), .int (hs_M S (hb_ix (hs_P S (hb_ix ka) 4)) 1), .int (hs_M S (hb_ix (hs_P S (hb_ix ka) 4)) 2), .int (hs_M S (hb_ix (hs_P S (hb_ix ka) 4)) 3), .ref (ad 8 (hb_ix (hs_P S (hb_ix ka) 4)))] := hP1.m 7 (hb_ix (hs_P S (hb_ix ka) 4)) hx4.1
      have e8_hb_ix_hs_P_S_hb_ix_ka_4hP1 : M1 (ad 8 (hb_ix (hs_P S (hb_ix ka) 4))) = hw_ob 0 [.int (hr_mc X1 (2 + hb_ix (hs_P S (hb_ix ka) 4))), .ref Z.2.2.2, .int (nI 0)] := by
        have q := hP1.m 8 (hb_ix (hs_P S (hb_ix ka) 4)) hx4.1
        rw [show hr_e Z ad S X1 8 (hb_ix (hs_P S (hb_ix ka) 4)) = hw_ob 0 [.int (hr_mc X1 (2 + (hb_ix (hs_P S (hb_ix ka) 4)))), .ref (if hr_gr X1 (hb_ix (hs_P S (hb_ix ka) 4)) then ad 9 (hb_ix (hs_P S (hb_ix ka) 4)) else Z.2.2.2), .int (nI (hs_N S (hb_ix (hs_P S (hb_ix ka) 4))))] from rfl, hif, hN0] at q
        exact q
      have h10 : ∀ i, i < hs_N S (hb_ix (hs_P S (hb_ix ka) 4)) → hr_p S X1 10 (hb_ix (hs_P S (hb_ix ka) 4) + 2 * i) := fun i hi => by
        show (hb_ix (hs_P S (hb_ix ka) 4) + 2 * i) / 2 < hs_N S ((hb_ix (hs_P S (hb_ix ka) 4) + 2 * i) % 2)
        have h2 := hx4.1
        rw [show (hb_ix (hs_P S (hb_ix ka) 4) + 2 * i) / 2 = i by omega, show (hb_ix (hs_P S (hb_ix ka) 4) + 2 * i) % 2 = hb_ix (hs_P S (hb_ix ka) 4) by omega]; exact hi
      have h10e : ∀ i, hw_ai Z 3 (hr_qq X1 ((hb_ix (hs_P S (hb_ix ka) 4) + 2 * i) % 2) ((hb_ix (hs_P S (hb_ix ka) 4) + 2 * i) / 2)) = hw_ai Z 3 (hr_qq X1 (hb_ix (hs_P S (hb_ix ka) 4)) i) := fun i => by
        have h2 := hx4.1
        rw [show (hb_ix (hs_P S (hb_ix ka) 4) + 2 * i) / 2 = i by omega, show (hb_ix (hs_P S (hb_ix ka) 4) + 2 * i) % 2 = hb_ix (hs_P S (hb_ix ka) 4) by omega]
      refine lv_aload_n hx hb dX11_prove_63 rfl (lv_at hl 0 rfl) ?_
      refine hw_cd hI (hw_rV hx hb hml hown hts hk hI (m_X8_density l Z M1 (ad 1 (hb_ix ka)) (ad 2 (hb_ix ka)) (ad 3 (hb_ix ka)) (ad 4 (hb_ix ka)) (ad 5 (hb_ix ka)) (hs_D S (hb_ix ka)) (hs_P S (hb_ix ka) 0) (hs_P S (hb_ix ka) 3) (hs_P S (hb_ix ka) 4) (hs_P S (hb_ix ka) 5) (hs_P S (hb_ix ka) 6) (hs_P S (hb_ix ka) 7) (hs_P S (hb_ix ka) 8) (hs_P S (hb_ix ka) 1) (hs_P S (hb_ix ka) 2) (hr_en (hs_P S (hb_ix ka))) (hs_U S (hb_ix ka)) (hs_C S (hb_ix ka)) e1_hb_ix_kahP1 e2_hb_ix_kahP1 e3_hb_ix_kahP1 e4_hb_ix_kahP1) cv_X11_192 e1_hb_ix_kahP1 rfl rfl ⟨rfl, rfl⟩ ⟨(Nat.le_of_ble_eq_true rfl), (Nat.le_of_ble_eq_true rfl)⟩ rfl hl.1 rfl (Nat.le_of_ble_eq_true rfl) ⟨(Nat.le_of_ble_eq_true rfl), (Nat.le_of_ble_eq_true rfl)⟩ dX11_prove_64) (fun r64 M64 H locs hR hI => ?_)
      obtain ⟨rfl, rfl⟩ := hR
      refine lv_ldc2d (v := 4606732058837280358) hx hb hown (hts _ (hw_win (w := .constantDouble RX11 196 4606732058837280358) (by decide +kernel) (by decide +kernel))) dX11_prove_67 ?_
      refine lv_dcmp hx hb dX11_prove_70 ?_
      refine lv_if_ge (tgt := 76) hx hb dX11_prove_71 (by decide) (fun c71 => ?_) (fun c71 => ?_)
      · refine lv_aload_n hx hb dX11_prove_76 rfl (lv_at hl 1 rfl) ?_
        refine hw_get hx hb hts hown hk hI fd_X11_22 e0_0hP1 rfl dX11_prove_77 ?_
        refine lv_aload_n hx hb dX11_prove_80 rfl (lv_at hl 0 rfl) ?_
        refine hw_get hx hb hts hown hk hI fd_X11_152 e1_hb_ix_kahP1 rfl dX11_prove_81 ?_
        refine hw_aald hx hb hk hI 6 (v := .ref (ad 7 (hb_ix (hs_P S (hb_ix ka) 4)))) e0_1hP1 rfl (j := hb_ix (hs_P S (hb_ix ka) 4)) hx4.2 hx4.1 (by decide) rfl dX11_prove_84 ?_
        refine lv_astore_n (lv' := [(3, .ref (ad 7 (hb_ix (hs_P S (hb_ix ka) 4)))), (2, .ref (ad 1 (hb_ix ka))), (0, .ref (ad 0 0)), (1, .int ka)]) hx hb dX11_prove_85 rfl hl (by decide) rfl (fun ls hl => ?_)
        refine lv_iconst (v := nI 3) hx hb dX11_prove_86 (by decide) ?_
        refine hw_newa (a0 := (3, .inl (fun _ => 0))) hx hb hts hk hI (atype := .int) (hw_win (w := .arrayClass .int) (by decide +kernel) (by decide +kernel)) rfl 0 rfl (fun _ h => by cases h) (fun _ => rfl) rfl (by decide) (by decide) (Nat.le_of_ble_eq_true rfl) (Nat.le_of_ble_eq_true rfl) dX11_prove_87 (fun q87 H hq87 hI => ?_)
        refine lv_dup hx hb dX11_prove_89 rfl ?_
        refine lv_iconst (v := nI 0) hx hb dX11_prove_90 (by decide) ?_
        refine lv_aload_n hx hb dX11_prove_91 rfl (lv_at hl 2 rfl) ?_
        refine lv_aload_n hx hb dX11_prove_92 rfl (lv_at hl 1 rfl) ?_
        refine hw_ci hI (hw_rV hx hb hml hown hts hk hI (m_X11_alloyOf l Z (va_up M1 q87 (hw_ai Z 3 (fun _ => 0))) (ad 0 0) (ad 0 2) (ad 0 3) (ad 0 1) (hr_th X1) (hs_G S 0) (hs_G S 1) (ad 1 (hb_ix ka)) (ad 2 (hb_ix ka)) (ad 4 (hb_ix ka)) (ad 12 0) (hs_nw S) m9 (hr_mc X1 1) (hs_P S (hb_ix ka) 0) (hs_P S (hb_ix ka) 3) (hs_P S (hb_ix ka) 4) (hs_P S (hb_ix ka) 5) (hs_P S (hb_ix ka) 6) (hs_P S (hb_ix ka) 7) (hs_P S (hb_ix ka) 8) (hc_f (ad 6) (hs_nw S)) (ad 6) (hs_V S) (hw_up e0_0hP1 (hw_nn e0_0hP1 hq87)) (hw_up e1_hb_ix_kahP1 (hw_nn e1_hb_ix_kahP1 hq87)) (hw_up e0_3hP1 (hw_nn e0_3hP1 hq87)) (hw_up e12_0hP1 (hw_nn e12_0hP1 hq87)) t8 m96 hnw (fun i hi => if_pos hi) (fun i hi => (va_up_ne _ _ (hw_xn (hP1.a 6 i hi) hq87)).trans (hP1.m 6 i hi))) cv_X11_198 (hw_up e0_0hP1 (hw_nn e0_0hP1 hq87)) rfl rfl ⟨rfl, rfl⟩ ⟨(Nat.le_of_ble_eq_true rfl), (Nat.le_of_ble_eq_true rfl)⟩ rfl hl.1 rfl (Nat.le_of_ble_eq_true rfl) ⟨(Nat.le_of_ble_eq_true rfl), (Nat.le_of_ble_eq_true rfl)⟩ dX11_prove_93) (fun r93 M93 H locs hR hI => ?_)
        obtain ⟨rfl, rfl⟩ := hR
        refine hw_ti hao ?_
        refine hw_iast hx hb hk hI (hw_us _ _ _) (j := 0) rfl (by omega) (by decide) dX11_prove_96 (fun H locs hI => ?_)
        refine lv_dup hx hb dX11_prove_97 rfl ?_
        refine lv_iconst (v := nI 1) hx hb dX11_prove_98 (by decide) ?_
        refine lv_aload_n hx hb dX11_prove_99 rfl (lv_at hl 1 rfl) ?_
        refine hw_get hx hb hts hown hk hI fd_X11_153 (hw_up (hw_up e1_hb_ix_kahP1 (hw_nn e1_hb_ix_kahP1 hq87)) (hw_nn e1_hb_ix_kahP1 hq87)) rfl dX11_prove_100 ?_
        refine hw_iast hx hb hk hI (hw_us _ _ _) (j := 1) rfl (by omega) (by decide) dX11_prove_103 (fun H locs hI => ?_)
        refine lv_dup hx hb dX11_prove_104 rfl ?_
        refine lv_iconst (v := nI 2) hx hb dX11_prove_105 (by decide) ?_
        refine lv_aload_n hx hb dX11_prove_106 rfl (lv_at hl 1 rfl) ?_
        refine hw_get hx hb hts hown hk hI fd_X11_156 (hw_up (hw_up (hw_up e1_hb_ix_kahP1 (hw_nn e1_hb_ix_kahP1 hq87)) (hw_nn e1_hb_ix_kahP1 hq87)) (hw_nn e1_hb_ix_kahP1 hq87)) rfl dX11_prove_107 ?_
        refine hw_iast hx hb hk hI (hw_us _ _ _) (j := 2) rfl (by omega) (by decide) dX11_prove_110 (fun H locs hI => ?_)
        refine lv_astore (lv' := [(4, .ref q87), (3, .ref (ad 7 (hb_ix (hs_P S (hb_ix ka) 4)))), (2, .ref (ad 1 (hb_ix ka))), (0, .ref (ad 0 0)), (1, .int ka)]) hx hb dX11_prove_111 hl (by decide) rfl (fun ls hl => ?_)
        refine lv_aload_n hx hb dX11_prove_113 rfl (lv_at hl 1 rfl) ?_
        refine lv_aload hx hb dX11_prove_114 (lv_at hl 0 rfl) ?_
        refine lv_iconst (v := nI 0) hx hb dX11_prove_116 (by decide) ?_
        refine hw_iald hx hb hk hI (hw_us _ _ _) (j := 0) rfl (by omega) (by decide) dX11_prove_117 ?_
        refine hw_ti rfl ?_
        refine lv_aload_n hx hb dX11_prove_118 rfl (lv_at hl 2 rfl) ?_
        refine hw_get hx hb hts hown hk hI fd_X11_153 (hw_up (hw_up (hw_up (hw_up e1_hb_ix_kahP1 (hw_nn e1_hb_ix_kahP1 hq87)) (hw_nn e1_hb_ix_kahP1 hq87)) (hw_nn e1_hb_ix_kahP1 hq87)) (hw_nn e1_hb_ix_kahP1 hq87)) rfl dX11_prove_119 ?_
        refine lv_aload_n hx hb dX11_prove_122 rfl (lv_at hl 2 rfl) ?_
        refine hw_get hx hb hts hown hk hI fd_X11_156 (hw_up (hw_up (hw_up (hw_up e1_hb_ix_kahP1 (hw_nn e1_hb_ix_kahP1 hq87)) (hw_nn e1_hb_ix_kahP1 hq87)) (hw_nn e1_hb_ix_kahP1 hq87)) (hw_nn e1_hb_ix_kahP1 hq87)) rfl dX11_prove_123 ?_
        refine hw_ci hI (hw_rV hx hb hml hown hts hk hI (m_X7_isProved_0 l Z (va_up (va_up (va_up (va_up M1 q87 (hw_ai Z 3 (fun _ => 0))) q87 (hw_ai Z 3 (va_up (fun _ => 0) 0 al))) q87 (hw_ai Z 3 (va_up (va_up (fun _ => 0) 0 al) 1 (hs_P S (hb_ix ka) 5)))) q87 (hw_ai Z 3 (va_up (va_up (va_up (fun _ => 0) 0 al) 1 (hs_P S (hb_ix ka) 5)) 2 (hs_P S (hb_ix ka) 6)))) (ad 7 (hb_ix (hs_P S (hb_ix ka) 4))) (ad 8 (hb_ix (hs_P S (hb_ix ka) 4))) (hr_mc X1 (2 + hb_ix (hs_P S (hb_ix ka) 4))) al (hs_P S (hb_ix ka) 5) (hs_P S (hb_ix ka) 6) (hs_M S (hb_ix (hs_P S (hb_ix ka) 4)) 0) (hs_M S (hb_ix (hs_P S (hb_ix ka) 4)) 1) (hs_M S (hb_ix (hs_P S (hb_ix ka) 4)) 2) (hs_M S (hb_ix (hs_P S (hb_ix ka) 4)) 3) (.ref Z.2.2.2) (hw_up (hw_up (hw_up (hw_up e7_hb_ix_hs_P_S_hb_ix_ka_4hP1 (hw_nn e7_hb_ix_hs_P_S_hb_ix_ka_4hP1 hq87)) (hw_nn e7_hb_ix_hs_P_S_hb_ix_ka_4hP1 hq87)) (hw_nn e7_hb_ix_hs_P_S_hb_ix_ka_4hP1 hq87)) (hw_nn e7_hb_ix_hs_P_S_hb_ix_ka_4hP1 hq87)) (hw_up (hw_up (hw_up (hw_up e8_hb_ix_hs_P_S_hb_ix_ka_4hP1 (hw_nn e8_hb_ix_hs_P_S_hb_ix_ka_4hP1 hq87)) (hw_nn e8_hb_ix_hs_P_S_hb_ix_ka_4hP1 hq87)) (hw_nn e8_hb_ix_hs_P_S_hb_ix_ka_4hP1 hq87)) (hw_nn e8_hb_ix_hs_P_S_hb_ix_ka_4hP1 hq87))) cv_X11_202 (hw_up (hw_up (hw_up (hw_up e7_hb_ix_hs_P_S_hb_ix_ka_4hP1 (hw_nn e7_hb_ix_hs_P_S_hb_ix_ka_4hP1 hq87)) (hw_nn e7_hb_ix_hs_P_S_hb_ix_ka_4hP1 hq87)) (hw_nn e7_hb_ix_hs_P_S_hb_ix_ka_4hP1 hq87)) (hw_nn e7_hb_ix_hs_P_S_hb_ix_ka_4hP1 hq87)) rfl rfl ⟨rfl, rfl⟩ ⟨(Nat.le_of_ble_eq_true rfl), (Nat.le_of_ble_eq_true rfl)⟩ rfl hl.1 rfl (Nat.le_of_ble_eq_true rfl) ⟨(Nat.le_of_ble_eq_true rfl), (Nat.le_of_ble_eq_true rfl)⟩ dX11_prove_126) (fun r126 M126 H locs hR hI => ?_)
        obtain ⟨rfl, rfl⟩ := hR
        refine lv_if_ne (tgt := 144) hx hb dX11_prove_129 (by decide) (fun hc => absurd rfl hc) (fun _ => ?_)
        refine lv_aload_n hx hb dX11_prove_132 rfl (lv_at hl 1 rfl) ?_
        refine hw_get hx hb hts hown hk hI fd_X11_134 (hw_up (hw_up (hw_up (hw_up e7_hb_ix_hs_P_S_hb_ix_ka_4hP1 (hw_nn e7_hb_ix_hs_P_S_hb_ix_ka_4hP1 hq87)) (hw_nn e7_hb_ix_hs_P_S_hb_ix_ka_4hP1 hq87)) (hw_nn e7_hb_ix_hs_P_S_hb_ix_ka_4hP1 hq87)) (hw_nn e7_hb_ix_hs_P_S_hb_ix_ka_4hP1 hq87)) rfl dX11_prove_133 ?_
        refine lv_aload hx hb dX11_prove_136 (lv_at hl 0 rfl) ?_
        refine hw_cFi hI (hw_rF hx hb hml hown hts hk hI (m_add_I0 l Z (va_up (va_up (va_up (va_up M1 q87 (hw_ai Z 3 (fun _ => 0))) q87 (hw_ai Z 3 (va_up (fun _ => 0) 0 al))) q87 (hw_ai Z 3 (va_up (va_up (fun _ => 0) 0 al) 1 (hs_P S (hb_ix ka) 5)))) q87 (hw_ai Z 3 (va_up (va_up (va_up (fun _ => 0) 0 al) 1 (hs_P S (hb_ix ka) 5)) 2 (hs_P S (hb_ix ka) 6)))) (ad 8 (hb_ix (hs_P S (hb_ix ka) 4))) q87 (hr_mc X1 (2 + hb_ix (hs_P S (hb_ix ka) 4))) (va_up (va_up (va_up (fun _ => 0) 0 al) 1 (hs_P S (hb_ix ka) 5)) 2 (hs_P S (hb_ix ka) 6)) (hw_up (hw_up (hw_up (hw_up e8_hb_ix_hs_P_S_hb_ix_ka_4hP1 (hw_nn e8_hb_ix_hs_P_S_hb_ix_ka_4hP1 hq87)) (hw_nn e8_hb_ix_hs_P_S_hb_ix_ka_4hP1 hq87)) (hw_nn e8_hb_ix_hs_P_S_hb_ix_ka_4hP1 hq87)) (hw_nn e8_hb_ix_hs_P_S_hb_ix_ka_4hP1 hq87)) (hw_us _ _ _)) cf_X11_51 (hw_up (hw_up (hw_up (hw_up e8_hb_ix_hs_P_S_hb_ix_ka_4hP1 (hw_nn e8_hb_ix_hs_P_S_hb_ix_ka_4hP1 hq87)) (hw_nn e8_hb_ix_hs_P_S_hb_ix_ka_4hP1 hq87)) (hw_nn e8_hb_ix_hs_P_S_hb_ix_ka_4hP1 hq87)) (hw_nn e8_hb_ix_hs_P_S_hb_ix_ka_4hP1 hq87)) rfl rfl ⟨rfl, rfl⟩ ⟨(Nat.le_of_ble_eq_true rfl), (Nat.le_of_ble_eq_true rfl)⟩ rfl hl.1 rfl (Nat.le_of_ble_eq_true rfl) ⟨(Nat.le_of_ble_eq_true rfl), (Nat.le_of_ble_eq_true rfl)⟩ dX11_prove_138) (fun r138 M138 H locs hR hI => ?_)
        obtain ⟨d138, hn138, hr138, rfl⟩ := hR
        refine lv_pop hx hb dX11_prove_143 rfl ?_
        refine lv_iconst (v := nI 1) hx hb dX11_prove_144 (by decide) ?_
        have hhas : hb_has (hs_Q S (hb_ix (hs_P S (hb_ix ka) 4))) (hs_P S (hb_ix ka) 9) (hs_N S (hb_ix (hs_P S (hb_ix ka) 4))) = false := by rw [hN0]; rfl
        have hroom := hv_room hV hx4.1 hi_ka (k := hb_ix (hs_P S (hb_ix ka) 4)) hhas
        have h2 := hx4.1
        have h10a : (hb_ix (hs_P S (hb_ix ka) 4) + 2 * hs_N S (hb_ix (hs_P S (hb_ix ka) 4))) % 2 = hb_ix (hs_P S (hb_ix ka) 4) := by omega
        have h10b : (hb_ix (hs_P S (hb_ix ka) 4) + 2 * hs_N S (hb_ix (hs_P S (hb_ix ka) 4))) / 2 = hs_N S (hb_ix (hs_P S (hb_ix ka) 4)) := by omega
        have hp10n : ∀ i, i / 2 < va_up (hs_N S) (hb_ix (hs_P S (hb_ix ka) 4)) (hs_N S (hb_ix (hs_P S (hb_ix ka) 4)) + 1) (i % 2) → ¬ i = hb_ix (hs_P S (hb_ix ka) 4) + 2 * hs_N S (hb_ix (hs_P S (hb_ix ka) 4)) → i / 2 < hs_N S (i % 2) := fun i h hne => by
          by_cases q : i % 2 = hb_ix (hs_P S (hb_ix ka) 4)
          · rw [q, va_up_self] at h; rw [q]; omega
          · rw [va_up_ne _ _ q] at h; exact h
        have h10n : ∀ i, ¬ i = hb_ix (hs_P S (hb_ix ka) 4) + 2 * hs_N S (hb_ix (hs_P S (hb_ix ka) 4)) → va_up (hr_qq X1) (hb_ix (hs_P S (hb_ix ka) 4)) (va_up (hr_qq X1 (hb_ix (hs_P S (hb_ix ka) 4))) (hs_N S (hb_ix (hs_P S (hb_ix ka) 4))) (va_up (va_up (va_up (fun _ => 0) 0 al) 1 (hs_P S (hb_ix ka) 5)) 2 (hs_P S (hb_ix ka) 6))) (i % 2) (i / 2) = hr_qq X1 (i % 2) (i / 2) := fun i hne => by
          by_cases q : i % 2 = hb_ix (hs_P S (hb_ix ka) 4)
          · rw [q, va_up_self, va_up_ne _ _ (by omega)]
          · rw [va_up_ne _ _ q]
        have hif0 : (if (true : Bool) = true then d138 else Z.2.2.2) = d138 := if_pos rfl
        have h10a0 : (hb_ix (hs_P S (hb_ix ka) 4) + 2 * 0) % 2 = hb_ix (hs_P S (hb_ix ka) 4) := by omega
        have h10b0 : (hb_ix (hs_P S (hb_ix ka) 4) + 2 * 0) / 2 = 0 := by omega
        have hok : hr_ok Z b1 (va_up (va_up (va_up (va_up (va_up (va_up M1 q87 (hw_ai Z 3 (fun _ => 0))) q87 (hw_ai Z 3 (va_up (fun _ => 0) 0 al))) q87 (hw_ai Z 3 (va_up (va_up (fun _ => 0) 0 al) 1 (hs_P S (hb_ix ka) 5)))) q87 (hw_ai Z 3 (va_up (va_up (va_up (fun _ => 0) 0 al) 1 (hs_P S (hb_ix ka) 5)) 2 (hs_P S (hb_ix ka) 6)))) d138 (hw_ar Z 7 10 (va_up (fun _ => none) 0 (some q87)))) (ad 8 (hb_ix (hs_P S (hb_ix ka) 4))) (hw_ob 0 [.int ((hr_mc X1 (2 + hb_ix (hs_P S (hb_ix ka) 4))) + nI 1), .ref d138, .int (nI 1)])) (hr_ua (hr_ua ad 10 (va_up (ad 10) (hb_ix (hs_P S (hb_ix ka) 4) + 2 * hs_N S (hb_ix (hs_P S (hb_ix ka) 4))) q87)) 9 (va_up (ad 9) (hb_ix (hs_P S (hb_ix ka) 4)) d138)) (hs_sN (hs_sQ S (hb_ix (hs_P S (hb_ix ka) 4)) (va_up (hs_Q S (hb_ix (hs_P S (hb_ix ka) 4))) (hs_N S (hb_ix (hs_P S (hb_ix ka) 4))) (hs_P S (hb_ix ka) 9))) (hb_ix (hs_P S (hb_ix ka) 4)) (hs_N S (hb_ix (hs_P S (hb_ix ka) 4)) + 1)) (hr_sgr (hr_sqq (hr_smc X1 (2 + hb_ix (hs_P S (hb_ix ka) 4)) (hr_mc X1 (2 + hb_ix (hs_P S (hb_ix ka) 4)) + nI 1)) (hb_ix (hs_P S (hb_ix ka) 4)) (va_up (hr_qq X1 (hb_ix (hs_P S (hb_ix ka) 4))) (hs_N S (hb_ix (hs_P S (hb_ix ka) 4))) (va_up (va_up (va_up (fun _ => 0) 0 al) 1 (hs_P S (hb_ix ka) 5)) 2 (hs_P S (hb_ix ka) 6)))) (hb_ix (hs_P S (hb_ix ka) 4))) := by
          refine hr_new (nn := fun k i => (k = 10 ∧ i = (hb_ix (hs_P S (hb_ix ka) 4) + 2 * hs_N S (hb_ix (hs_P S (hb_ix ka) 4)))) ∨ (k = 9 ∧ i = (hb_ix (hs_P S (hb_ix ka) 4)))) hP1 hA1 (fun k i hi => ?_) (fun k i k' i' h h' he => ?_) ?_ (hr_q_add (g := hb_ix (hs_P S (hb_ix ka) 4)) (T := va_up (va_up (va_up (fun _ => 0) 0 al) 1 (hs_P S (hb_ix ka) 5)) 2 (hs_P S (hb_ix ka) 6)) hP1.q rfl (by show va_up (hs_Q S) _ (va_up _ _ (hs_P S (hb_ix ka) 9)) = _; rw [t9]; rfl) rfl ⟨tal, t5, t6.1, t6.2⟩) (hr_g_add (g := hb_ix (hs_P S (hb_ix ka) 4)) hP1.g rfl (va_up_self _ _ _) (fun _ h => va_up_ne _ _ h))
          · rcases k with _ | _ | _ | _ | _ | _ | _ | _ | _ | _ | _ | _ | _ | k
            · exact Or.inl ⟨hi, rfl⟩
            · exact Or.inl ⟨hi, rfl⟩
            · exact Or.inl ⟨hi, rfl⟩
            · exact Or.inl ⟨hi, rfl⟩
            · exact Or.inl ⟨hi, rfl⟩
            · exact Or.inl ⟨hi, rfl⟩
            · exact Or.inl ⟨hi, rfl⟩
            · exact Or.inl ⟨hi, rfl⟩
            · exact Or.inl ⟨hi, rfl⟩
            · by_cases q0 : i = (hb_ix (hs_P S (hb_ix ka) 4))
              · subst q0
                exact Or.inr ⟨Or.inr (⟨rfl, rfl⟩), (congrArg M1 (va_up_self _ _ _)).trans (hb_no (hb_no (hb_no (hb_no (hn138)))))⟩
              · exact Or.inl ⟨(show i < 2 ∧ hr_gr X1 i = true from ⟨hi.1, (va_up_ne _ _ q0).symm.trans hi.2⟩), va_up_ne _ _ q0⟩
            · by_cases q0 : i = (hb_ix (hs_P S (hb_ix ka) 4) + 2 * hs_N S (hb_ix (hs_P S (hb_ix ka) 4)))
              · subst q0
                exact Or.inr ⟨Or.inl ⟨rfl, rfl⟩, (congrArg M1 (va_up_self _ _ _)).trans hq87⟩
              · exact Or.inl ⟨(hp10n i hi q0), va_up_ne _ _ q0⟩
            · exact Or.inl ⟨hi, rfl⟩
            · exact Or.inl ⟨hi, rfl⟩
            · exact hi.elim
          · rcases h with ⟨rfl, rfl⟩ | ⟨rfl, rfl⟩ <;> rcases h' with ⟨rfl, rfl⟩ | ⟨rfl, rfl⟩
            · exact ⟨rfl, rfl⟩
            · exact absurd (((va_up_self _ _ _ : (va_up (ad 10) (hb_ix (hs_P S (hb_ix ka) 4) + 2 * hs_N S (hb_ix (hs_P S (hb_ix ka) 4))) q87) (hb_ix (hs_P S (hb_ix ka) 4) + 2 * hs_N S (hb_ix (hs_P S (hb_ix ka) 4))) = q87).symm.trans he).trans (va_up_self _ _ _ : (va_up (ad 9) (hb_ix (hs_P S (hb_ix ka) 4)) d138) (hb_ix (hs_P S (hb_ix ka) 4)) = d138)) (hw_nn (hw_us _ _ _) hn138)
            · exact absurd (((va_up_self _ _ _ : (va_up (ad 9) (hb_ix (hs_P S (hb_ix ka) 4)) d138) (hb_ix (hs_P S (hb_ix ka) 4)) = d138).symm.trans he).trans (va_up_self _ _ _ : (va_up (ad 10) (hb_ix (hs_P S (hb_ix ka) 4) + 2 * hs_N S (hb_ix (hs_P S (hb_ix ka) 4))) q87) (hb_ix (hs_P S (hb_ix ka) 4) + 2 * hs_N S (hb_ix (hs_P S (hb_ix ka) 4))) = q87)) (Ne.symm (hw_nn (hw_us _ _ _) hn138))
            · exact ⟨rfl, rfl⟩
          · intro k i hi
            rcases k with _ | _ | _ | _ | _ | _ | _ | _ | _ | _ | _ | _ | _ | k
            · rcases (show i = 0 ∨ i = 1 ∨ i = 2 ∨ i = 3 by have h4 : i < 4 := hi; omega) with rfl | rfl | rfl | rfl
              · show (va_up (va_up (va_up (va_up (va_up (va_up M1 q87 (hw_ai Z 3 (fun _ => 0))) q87 (hw_ai Z 3 (va_up (fun _ => 0) 0 al))) q87 (hw_ai Z 3 (va_up (va_up (fun _ => 0) 0 al) 1 (hs_P S (hb_ix ka) 5)))) q87 (hw_ai Z 3 (va_up (va_up (va_up (fun _ => 0) 0 al) 1 (hs_P S (hb_ix ka) 5)) 2 (hs_P S (hb_ix ka) 6)))) d138 (hw_ar Z 7 10 (va_up (fun _ => none) 0 (some q87)))) (ad 8 (hb_ix (hs_P S (hb_ix ka) 4))) (hw_ob 0 [.int ((hr_mc X1 (2 + hb_ix (hs_P S (hb_ix ka) 4))) + nI 1), .ref d138, .int (nI 1)])) (ad 0 0) = hw_ob 12 [.int (hr_th X1), .int (hs_G S 0), .int (hs_G S 1), .ref (ad 0 2), .ref (ad 0 3), .ref (ad 0 1)]
                rw [va_up_ne _ _ (hP1.n (k := 0) (i := 0) (k' := 8) (i' := (hb_ix (hs_P S (hb_ix ka) 4))) (show 0 < 4 by decide) hx4.1 (fun q => absurd q.1 (by decide))), va_up_ne _ _ (hw_xn (hP1.a 0 0 (show 0 < 4 by decide)) (hb_no (hb_no (hb_no (hb_no (hn138)))))), va_up_ne _ _ (hw_xn (hP1.a 0 0 (show 0 < 4 by decide)) hq87), va_up_ne _ _ (hw_xn (hP1.a 0 0 (show 0 < 4 by decide)) hq87), va_up_ne _ _ (hw_xn (hP1.a 0 0 (show 0 < 4 by decide)) hq87), va_up_ne _ _ (hw_xn (hP1.a 0 0 (show 0 < 4 by decide)) hq87)]
                refine (hP1.m 0 0 (show 0 < 4 by decide)).trans ?_
                first | rfl | (simp only [va_up_self, va_up_ne _ _ (show 0 ≠ 2 + hb_ix (hs_P S (hb_ix ka) 4) by omega), va_up_ne _ _ (show 1 ≠ 2 + hb_ix (hs_P S (hb_ix ka) 4) by omega)]; done) | (simp only [va_up_self, va_up_ne _ _ (show 0 ≠ 2 + hb_ix (hs_P S (hb_ix ka) 4) by omega), va_up_ne _ _ (show 1 ≠ 2 + hb_ix (hs_P S (hb_ix ka) 4) by omega)]; rfl) | (simp only [va_up_self, va_up_ne _ _ (show 0 ≠ 2 + hb_ix (hs_P S (hb_ix ka) 4) by omega), va_up_ne _ _ (show 1 ≠ 2 + hb_ix (hs_P S (hb_ix ka) 4) by omega), hif0, hN0, hr_f10 (ad 10) (hb_ix (hs_P S (hb_ix ka) 4)) q87, h10a0, h10b0]; done)
              · show (va_up (va_up (va_up (va_up (va_up (va_up M1 q87 (hw_ai Z 3 (fun _ => 0))) q87 (hw_ai Z 3 (va_up (fun _ => 0) 0 al))) q87 (hw_ai Z 3 (va_up (va_up (fun _ => 0) 0 al) 1 (hs_P S (hb_ix ka) 5)))) q87 (hw_ai Z 3 (va_up (va_up (va_up (fun _ => 0) 0 al) 1 (hs_P S (hb_ix ka) 5)) 2 (hs_P S (hb_ix ka) 6)))) d138 (hw_ar Z 7 10 (va_up (fun _ => none) 0 (some q87)))) (ad 8 (hb_ix (hs_P S (hb_ix ka) 4))) (hw_ob 0 [.int ((hr_mc X1 (2 + hb_ix (hs_P S (hb_ix ka) 4))) + nI 1), .ref d138, .int (nI 1)])) (ad 0 1) = hw_ar Z 6 2 (fun j => some (ad 7 j))
                rw [va_up_ne _ _ (hP1.n (k := 0) (i := 1) (k' := 8) (i' := (hb_ix (hs_P S (hb_ix ka) 4))) (show 1 < 4 by decide) hx4.1 (fun q => absurd q.1 (by decide))), va_up_ne _ _ (hw_xn (hP1.a 0 1 (show 1 < 4 by decide)) (hb_no (hb_no (hb_no (hb_no (hn138)))))), va_up_ne _ _ (hw_xn (hP1.a 0 1 (show 1 < 4 by decide)) hq87), va_up_ne _ _ (hw_xn (hP1.a 0 1 (show 1 < 4 by decide)) hq87), va_up_ne _ _ (hw_xn (hP1.a 0 1 (show 1 < 4 by decide)) hq87), va_up_ne _ _ (hw_xn (hP1.a 0 1 (show 1 < 4 by decide)) hq87)]
                refine (hP1.m 0 1 (show 1 < 4 by decide)).trans ?_
                first | rfl | (simp only [va_up_self, va_up_ne _ _ (show 0 ≠ 2 + hb_ix (hs_P S (hb_ix ka) 4) by omega), va_up_ne _ _ (show 1 ≠ 2 + hb_ix (hs_P S (hb_ix ka) 4) by omega)]; done) | (simp only [va_up_self, va_up_ne _ _ (show 0 ≠ 2 + hb_ix (hs_P S (hb_ix ka) 4) by omega), va_up_ne _ _ (show 1 ≠ 2 + hb_ix (hs_P S (hb_ix ka) 4) by omega)]; rfl) | (simp only [va_up_self, va_up_ne _ _ (show 0 ≠ 2 + hb_ix (hs_P S (hb_ix ka) 4) by omega), va_up_ne _ _ (show 1 ≠ 2 + hb_ix (hs_P S (hb_ix ka) 4) by omega), hif0, hN0, hr_f10 (ad 10) (hb_ix (hs_P S (hb_ix ka) 4)) q87, h10a0, h10b0]; done)
              · show (va_up (va_up (va_up (va_up (va_up (va_up M1 q87 (hw_ai Z 3 (fun _ => 0))) q87 (hw_ai Z 3 (va_up (fun _ => 0) 0 al))) q87 (hw_ai Z 3 (va_up (va_up (fun _ => 0) 0 al) 1 (hs_P S (hb_ix ka) 5)))) q87 (hw_ai Z 3 (va_up (va_up (va_up (fun _ => 0) 0 al) 1 (hs_P S (hb_ix ka) 5)) 2 (hs_P S (hb_ix ka) 6)))) d138 (hw_ar Z 7 10 (va_up (fun _ => none) 0 (some q87)))) (ad 8 (hb_ix (hs_P S (hb_ix ka) 4))) (hw_ob 0 [.int ((hr_mc X1 (2 + hb_ix (hs_P S (hb_ix ka) 4))) + nI 1), .ref d138, .int (nI 1)])) (ad 0 2) = hw_ob 0 [.int ((va_up (hr_mc X1) (2 + hb_ix (hs_P S (hb_ix ka) 4)) (hr_mc X1 (2 + hb_ix (hs_P S (hb_ix ka) 4)) + nI 1)) 0), .ref (hr_d (hs_np S) Z.2.2.2 (ad 11 0)), .int (nI (hs_np S))]
                rw [va_up_ne _ _ (hP1.n (k := 0) (i := 2) (k' := 8) (i' := (hb_ix (hs_P S (hb_ix ka) 4))) (show 2 < 4 by decide) hx4.1 (fun q => absurd q.1 (by decide))), va_up_ne _ _ (hw_xn (hP1.a 0 2 (show 2 < 4 by decide)) (hb_no (hb_no (hb_no (hb_no (hn138)))))), va_up_ne _ _ (hw_xn (hP1.a 0 2 (show 2 < 4 by decide)) hq87), va_up_ne _ _ (hw_xn (hP1.a 0 2 (show 2 < 4 by decide)) hq87), va_up_ne _ _ (hw_xn (hP1.a 0 2 (show 2 < 4 by decide)) hq87), va_up_ne _ _ (hw_xn (hP1.a 0 2 (show 2 < 4 by decide)) hq87)]
                refine (hP1.m 0 2 (show 2 < 4 by decide)).trans ?_
                first | rfl | (simp only [va_up_self, va_up_ne _ _ (show 0 ≠ 2 + hb_ix (hs_P S (hb_ix ka) 4) by omega), va_up_ne _ _ (show 1 ≠ 2 + hb_ix (hs_P S (hb_ix ka) 4) by omega)]; done) | (simp only [va_up_self, va_up_ne _ _ (show 0 ≠ 2 + hb_ix (hs_P S (hb_ix ka) 4) by omega), va_up_ne _ _ (show 1 ≠ 2 + hb_ix (hs_P S (hb_ix ka) 4) by omega)]; rfl) | (simp only [va_up_self, va_up_ne _ _ (show 0 ≠ 2 + hb_ix (hs_P S (hb_ix ka) 4) by omega), va_up_ne _ _ (show 1 ≠ 2 + hb_ix (hs_P S (hb_ix ka) 4) by omega), hif0, hN0, hr_f10 (ad 10) (hb_ix (hs_P S (hb_ix ka) 4)) q87, h10a0, h10b0]; done)
              · show (va_up (va_up (va_up (va_up (va_up (va_up M1 q87 (hw_ai Z 3 (fun _ => 0))) q87 (hw_ai Z 3 (va_up (fun _ => 0) 0 al))) q87 (hw_ai Z 3 (va_up (va_up (fun _ => 0) 0 al) 1 (hs_P S (hb_ix ka) 5)))) q87 (hw_ai Z 3 (va_up (va_up (va_up (fun _ => 0) 0 al) 1 (hs_P S (hb_ix ka) 5)) 2 (hs_P S (hb_ix ka) 6)))) d138 (hw_ar Z 7 10 (va_up (fun _ => none) 0 (some q87)))) (ad 8 (hb_ix (hs_P S (hb_ix ka) 4))) (hw_ob 0 [.int ((hr_mc X1 (2 + hb_ix (hs_P S (hb_ix ka) 4))) + nI 1), .ref d138, .int (nI 1)])) (ad 0 3) = hw_ob 0 [.int ((va_up (hr_mc X1) (2 + hb_ix (hs_P S (hb_ix ka) 4)) (hr_mc X1 (2 + hb_ix (hs_P S (hb_ix ka) 4)) + nI 1)) 1), .ref (hr_d (hs_nw S) Z.2.2.2 (ad 12 0)), .int (nI (hs_nw S))]
                rw [va_up_ne _ _ (hP1.n (k := 0) (i := 3) (k' := 8) (i' := (hb_ix (hs_P S (hb_ix ka) 4))) (show 3 < 4 by decide) hx4.1 (fun q => absurd q.1 (by decide))), va_up_ne _ _ (hw_xn (hP1.a 0 3 (show 3 < 4 by decide)) (hb_no (hb_no (hb_no (hb_no (hn138)))))), va_up_ne _ _ (hw_xn (hP1.a 0 3 (show 3 < 4 by decide)) hq87), va_up_ne _ _ (hw_xn (hP1.a 0 3 (show 3 < 4 by decide)) hq87), va_up_ne _ _ (hw_xn (hP1.a 0 3 (show 3 < 4 by decide)) hq87), va_up_ne _ _ (hw_xn (hP1.a 0 3 (show 3 < 4 by decide)) hq87)]
                refine (hP1.m 0 3 (show 3 < 4 by decide)).trans ?_
                first | rfl | (simp only [va_up_self, va_up_ne _ _ (show 0 ≠ 2 + hb_ix (hs_P S (hb_ix ka) 4) by omega), va_up_ne _ _ (show 1 ≠ 2 + hb_ix (hs_P S (hb_ix ka) 4) by omega)]; done) | (simp only [va_up_self, va_up_ne _ _ (show 0 ≠ 2 + hb_ix (hs_P S (hb_ix ka) 4) by omega), va_up_ne _ _ (show 1 ≠ 2 + hb_ix (hs_P S (hb_ix ka) 4) by omega)]; rfl) | (simp only [va_up_self, va_up_ne _ _ (show 0 ≠ 2 + hb_ix (hs_P S (hb_ix ka) 4) by omega), va_up_ne _ _ (show 1 ≠ 2 + hb_ix (hs_P S (hb_ix ka) 4) by omega), hif0, hN0, hr_f10 (ad 10) (hb_ix (hs_P S (hb_ix ka) 4)) q87, h10a0, h10b0]; done)
            · show (va_up (va_up (va_up (va_up (va_up (va_up M1 q87 (hw_ai Z 3 (fun _ => 0))) q87 (hw_ai Z 3 (va_up (fun _ => 0) 0 al))) q87 (hw_ai Z 3 (va_up (va_up (fun _ => 0) 0 al) 1 (hs_P S (hb_ix ka) 5)))) q87 (hw_ai Z 3 (va_up (va_up (va_up (fun _ => 0) 0 al) 1 (hs_P S (hb_ix ka) 5)) 2 (hs_P S (hb_ix ka) 6)))) d138 (hw_ar Z 7 10 (va_up (fun _ => none) 0 (some q87)))) (ad 8 (hb_ix (hs_P S (hb_ix ka) 4))) (hw_ob 0 [.int ((hr_mc X1 (2 + hb_ix (hs_P S (hb_ix ka) 4))) + nI 1), .ref d138, .int (nI 1)])) (ad 1 i) = hw_ob 9 [.ref (ad 2 i), .int (hs_P S i 0), .ref (ad 4 i), .int (hs_P S i 3), .int (hs_P S i 4), .int (hs_P S i 5), .int (hs_P S i 6), .int (hs_P S i 7), .int (hs_P S i 8)]
              rw [va_up_ne _ _ (hP1.n (k := 1) (i := i) (k' := 8) (i' := (hb_ix (hs_P S (hb_ix ka) 4))) hi hx4.1 (fun q => absurd q.1 (by decide))), va_up_ne _ _ (hw_xn (hP1.a 1 i hi) (hb_no (hb_no (hb_no (hb_no (hn138)))))), va_up_ne _ _ (hw_xn (hP1.a 1 i hi) hq87), va_up_ne _ _ (hw_xn (hP1.a 1 i hi) hq87), va_up_ne _ _ (hw_xn (hP1.a 1 i hi) hq87), va_up_ne _ _ (hw_xn (hP1.a 1 i hi) hq87)]
              refine (hP1.m 1 i hi).trans ?_
              first | rfl
            · show (va_up (va_up (va_up (va_up (va_up (va_up M1 q87 (hw_ai Z 3 (fun _ => 0))) q87 (hw_ai Z 3 (va_up (fun _ => 0) 0 al))) q87 (hw_ai Z 3 (va_up (va_up (fun _ => 0) 0 al) 1 (hs_P S (hb_ix ka) 5)))) q87 (hw_ai Z 3 (va_up (va_up (va_up (fun _ => 0) 0 al) 1 (hs_P S (hb_ix ka) 5)) 2 (hs_P S (hb_ix ka) 6)))) d138 (hw_ar Z 7 10 (va_up (fun _ => none) 0 (some q87)))) (ad 8 (hb_ix (hs_P S (hb_ix ka) 4))) (hw_ob 0 [.int ((hr_mc X1 (2 + hb_ix (hs_P S (hb_ix ka) 4))) + nI 1), .ref d138, .int (nI 1)])) (ad 2 i) = hw_ob 11 [.ref (ad 3 i)]
              rw [va_up_ne _ _ (hP1.n (k := 2) (i := i) (k' := 8) (i' := (hb_ix (hs_P S (hb_ix ka) 4))) hi hx4.1 (fun q => absurd q.1 (by decide))), va_up_ne _ _ (hw_xn (hP1.a 2 i hi) (hb_no (hb_no (hb_no (hb_no (hn138)))))), va_up_ne _ _ (hw_xn (hP1.a 2 i hi) hq87), va_up_ne _ _ (hw_xn (hP1.a 2 i hi) hq87), va_up_ne _ _ (hw_xn (hP1.a 2 i hi) hq87), va_up_ne _ _ (hw_xn (hP1.a 2 i hi) hq87)]
              refine (hP1.m 2 i hi).trans ?_
              first | rfl
            · show (va_up (va_up (va_up (va_up (va_up (va_up M1 q87 (hw_ai Z 3 (fun _ => 0))) q87 (hw_ai Z 3 (va_up (fun _ => 0) 0 al))) q87 (hw_ai Z 3 (va_up (va_up (fun _ => 0) 0 al) 1 (hs_P S (hb_ix ka) 5)))) q87 (hw_ai Z 3 (va_up (va_up (va_up (fun _ => 0) 0 al) 1 (hs_P S (hb_ix ka) 5)) 2 (hs_P S (hb_ix ka) 6)))) d138 (hw_ar Z 7 10 (va_up (fun _ => none) 0 (some q87)))) (ad 8 (hb_ix (hs_P S (hb_ix ka) 4))) (hw_ob 0 [.int ((hr_mc X1 (2 + hb_ix (hs_P S (hb_ix ka) 4))) + nI 1), .ref d138, .int (nI 1)])) (ad 3 i) = hw_al Z 8 (hs_C S i)
              rw [va_up_ne _ _ (hP1.n (k := 3) (i := i) (k' := 8) (i' := (hb_ix (hs_P S (hb_ix ka) 4))) hi hx4.1 (fun q => absurd q.1 (by decide))), va_up_ne _ _ (hw_xn (hP1.a 3 i hi) (hb_no (hb_no (hb_no (hb_no (hn138)))))), va_up_ne _ _ (hw_xn (hP1.a 3 i hi) hq87), va_up_ne _ _ (hw_xn (hP1.a 3 i hi) hq87), va_up_ne _ _ (hw_xn (hP1.a 3 i hi) hq87), va_up_ne _ _ (hw_xn (hP1.a 3 i hi) hq87)]
              refine (hP1.m 3 i hi).trans ?_
              first | rfl
            · show (va_up (va_up (va_up (va_up (va_up (va_up M1 q87 (hw_ai Z 3 (fun _ => 0))) q87 (hw_ai Z 3 (va_up (fun _ => 0) 0 al))) q87 (hw_ai Z 3 (va_up (va_up (fun _ => 0) 0 al) 1 (hs_P S (hb_ix ka) 5)))) q87 (hw_ai Z 3 (va_up (va_up (va_up (fun _ => 0) 0 al) 1 (hs_P S (hb_ix ka) 5)) 2 (hs_P S (hb_ix ka) 6)))) d138 (hw_ar Z 7 10 (va_up (fun _ => none) 0 (some q87)))) (ad 8 (hb_ix (hs_P S (hb_ix ka) 4))) (hw_ob 0 [.int ((hr_mc X1 (2 + hb_ix (hs_P S (hb_ix ka) 4))) + nI 1), .ref d138, .int (nI 1)])) (ad 4 i) = hw_ob 7 [.double (hr_en (hs_P S i)), .ref (ad 5 i), .double (hs_U S i), .int (hs_P S i 1), .int (hs_P S i 2), .int (nI (hs_D S i))]
              rw [va_up_ne _ _ (hP1.n (k := 4) (i := i) (k' := 8) (i' := (hb_ix (hs_P S (hb_ix ka) 4))) hi hx4.1 (fun q => absurd q.1 (by decide))), va_up_ne _ _ (hw_xn (hP1.a 4 i hi) (hb_no (hb_no (hb_no (hb_no (hn138)))))), va_up_ne _ _ (hw_xn (hP1.a 4 i hi) hq87), va_up_ne _ _ (hw_xn (hP1.a 4 i hi) hq87), va_up_ne _ _ (hw_xn (hP1.a 4 i hi) hq87), va_up_ne _ _ (hw_xn (hP1.a 4 i hi) hq87)]
              refine (hP1.m 4 i hi).trans ?_
              first | rfl
            · show (va_up (va_up (va_up (va_up (va_up (va_up M1 q87 (hw_ai Z 3 (fun _ => 0))) q87 (hw_ai Z 3 (va_up (fun _ => 0) 0 al))) q87 (hw_ai Z 3 (va_up (va_up (fun _ => 0) 0 al) 1 (hs_P S (hb_ix ka) 5)))) q87 (hw_ai Z 3 (va_up (va_up (va_up (fun _ => 0) 0 al) 1 (hs_P S (hb_ix ka) 5)) 2 (hs_P S (hb_ix ka) 6)))) d138 (hw_ar Z 7 10 (va_up (fun _ => none) 0 (some q87)))) (ad 8 (hb_ix (hs_P S (hb_ix ka) 4))) (hw_ob 0 [.int ((hr_mc X1 (2 + hb_ix (hs_P S (hb_ix ka) 4))) + nI 1), .ref d138, .int (nI 1)])) (ad 5 i) = hw_ad Z 64 (hs_W S i)
              rw [va_up_ne _ _ (hP1.n (k := 5) (i := i) (k' := 8) (i' := (hb_ix (hs_P S (hb_ix ka) 4))) hi hx4.1 (fun q => absurd q.1 (by decide))), va_up_ne _ _ (hw_xn (hP1.a 5 i hi) (hb_no (hb_no (hb_no (hb_no (hn138)))))), va_up_ne _ _ (hw_xn (hP1.a 5 i hi) hq87), va_up_ne _ _ (hw_xn (hP1.a 5 i hi) hq87), va_up_ne _ _ (hw_xn (hP1.a 5 i hi) hq87), va_up_ne _ _ (hw_xn (hP1.a 5 i hi) hq87)]
              refine (hP1.m 5 i hi).trans ?_
              first | rfl
            · show (va_up (va_up (va_up (va_up (va_up (va_up M1 q87 (hw_ai Z 3 (fun _ => 0))) q87 (hw_ai Z 3 (va_up (fun _ => 0) 0 al))) q87 (hw_ai Z 3 (va_up (va_up (fun _ => 0) 0 al) 1 (hs_P S (hb_ix ka) 5)))) q87 (hw_ai Z 3 (va_up (va_up (va_up (fun _ => 0) 0 al) 1 (hs_P S (hb_ix ka) 5)) 2 (hs_P S (hb_ix ka) 6)))) d138 (hw_ar Z 7 10 (va_up (fun _ => none) 0 (some q87)))) (ad 8 (hb_ix (hs_P S (hb_ix ka) 4))) (hw_ob 0 [.int ((hr_mc X1 (2 + hb_ix (hs_P S (hb_ix ka) 4))) + nI 1), .ref d138, .int (nI 1)])) (ad 6 i) = hw_ob 10 [.int (hs_V S i 0), .int (hs_V S i 1), .int (hs_V S i 2), .int (hs_V S i 3), .int (hs_V S i 4)]
              rw [va_up_ne _ _ (hP1.n (k := 6) (i := i) (k' := 8) (i' := (hb_ix (hs_P S (hb_ix ka) 4))) hi hx4.1 (fun q => absurd q.1 (by decide))), va_up_ne _ _ (hw_xn (hP1.a 6 i hi) (hb_no (hb_no (hb_no (hb_no (hn138)))))), va_up_ne _ _ (hw_xn (hP1.a 6 i hi) hq87), va_up_ne _ _ (hw_xn (hP1.a 6 i hi) hq87), va_up_ne _ _ (hw_xn (hP1.a 6 i hi) hq87), va_up_ne _ _ (hw_xn (hP1.a 6 i hi) hq87)]
              refine (hP1.m 6 i hi).trans ?_
              first | rfl
            · show (va_up (va_up (va_up (va_up (va_up (va_up M1 q87 (hw_ai Z 3 (fun _ => 0))) q87 (hw_ai Z 3 (va_up (fun _ => 0) 0 al))) q87 (hw_ai Z 3 (va_up (va_up (fun _ => 0) 0 al) 1 (hs_P S (hb_ix ka) 5)))) q87 (hw_ai Z 3 (va_up (va_up (va_up (fun _ => 0) 0 al) 1 (hs_P S (hb_ix ka) 5)) 2 (hs_P S (hb_ix ka) 6)))) d138 (hw_ar Z 7 10 (va_up (fun _ => none) 0 (some q87)))) (ad 8 (hb_ix (hs_P S (hb_ix ka) 4))) (hw_ob 0 [.int ((hr_mc X1 (2 + hb_ix (hs_P S (hb_ix ka) 4))) + nI 1), .ref d138, .int (nI 1)])) (ad 7 i) = hw_ob 8 [.int (hs_M S i 0), .int (hs_M S i 1), .int (hs_M S i 2), .int (hs_M S i 3), .ref (ad 8 i)]
              rw [va_up_ne _ _ (hP1.n (k := 7) (i := i) (k' := 8) (i' := (hb_ix (hs_P S (hb_ix ka) 4))) hi hx4.1 (fun q => absurd q.1 (by decide))), va_up_ne _ _ (hw_xn (hP1.a 7 i hi) (hb_no (hb_no (hb_no (hb_no (hn138)))))), va_up_ne _ _ (hw_xn (hP1.a 7 i hi) hq87), va_up_ne _ _ (hw_xn (hP1.a 7 i hi) hq87), va_up_ne _ _ (hw_xn (hP1.a 7 i hi) hq87), va_up_ne _ _ (hw_xn (hP1.a 7 i hi) hq87)]
              refine (hP1.m 7 i hi).trans ?_
              first | rfl
            · by_cases q0 : i = (hb_ix (hs_P S (hb_ix ka) 4))
              · subst q0
                show (va_up (va_up (va_up (va_up (va_up (va_up M1 q87 (hw_ai Z 3 (fun _ => 0))) q87 (hw_ai Z 3 (va_up (fun _ => 0) 0 al))) q87 (hw_ai Z 3 (va_up (va_up (fun _ => 0) 0 al) 1 (hs_P S (hb_ix ka) 5)))) q87 (hw_ai Z 3 (va_up (va_up (va_up (fun _ => 0) 0 al) 1 (hs_P S (hb_ix ka) 5)) 2 (hs_P S (hb_ix ka) 6)))) d138 (hw_ar Z 7 10 (va_up (fun _ => none) 0 (some q87)))) (ad 8 (hb_ix (hs_P S (hb_ix ka) 4))) (hw_ob 0 [.int ((hr_mc X1 (2 + hb_ix (hs_P S (hb_ix ka) 4))) + nI 1), .ref d138, .int (nI 1)])) (ad 8 (hb_ix (hs_P S (hb_ix ka) 4))) = hw_ob 0 [.int ((va_up (hr_mc X1) (2 + hb_ix (hs_P S (hb_ix ka) 4)) (hr_mc X1 (2 + hb_ix (hs_P S (hb_ix ka) 4)) + nI 1)) (2 + (hb_ix (hs_P S (hb_ix ka) 4)))), .ref (if (va_up (hr_gr X1) (hb_ix (hs_P S (hb_ix ka) 4)) true) (hb_ix (hs_P S (hb_ix ka) 4)) then (va_up (ad 9) (hb_ix (hs_P S (hb_ix ka) 4)) d138) (hb_ix (hs_P S (hb_ix ka) 4)) else Z.2.2.2), .int (nI ((va_up (hs_N S) (hb_ix (hs_P S (hb_ix ka) 4)) (hs_N S (hb_ix (hs_P S (hb_ix ka) 4)) + 1)) (hb_ix (hs_P S (hb_ix ka) 4))))]
                refine (hw_us _ _ _).trans ?_
                first | rfl | (simp only [va_up_self, va_up_ne _ _ (show 0 ≠ 2 + hb_ix (hs_P S (hb_ix ka) 4) by omega), va_up_ne _ _ (show 1 ≠ 2 + hb_ix (hs_P S (hb_ix ka) 4) by omega)]; done) | (simp only [va_up_self, va_up_ne _ _ (show 0 ≠ 2 + hb_ix (hs_P S (hb_ix ka) 4) by omega), va_up_ne _ _ (show 1 ≠ 2 + hb_ix (hs_P S (hb_ix ka) 4) by omega)]; rfl) | (simp only [va_up_self, va_up_ne _ _ (show 0 ≠ 2 + hb_ix (hs_P S (hb_ix ka) 4) by omega), va_up_ne _ _ (show 1 ≠ 2 + hb_ix (hs_P S (hb_ix ka) 4) by omega), hif0, hN0, hr_f10 (ad 10) (hb_ix (hs_P S (hb_ix ka) 4)) q87, h10a0, h10b0]; done) | (simp only [va_up_self, va_up_ne _ _ (show 0 ≠ 2 + hb_ix (hs_P S (hb_ix ka) 4) by omega), va_up_ne _ _ (show 1 ≠ 2 + hb_ix (hs_P S (hb_ix ka) 4) by omega), hif0, hN0, hr_f10 (ad 10) (hb_ix (hs_P S (hb_ix ka) 4)) q87, h10a0, h10b0]; rfl)
              show (va_up (va_up (va_up (va_up (va_up (va_up M1 q87 (hw_ai Z 3 (fun _ => 0))) q87 (hw_ai Z 3 (va_up (fun _ => 0) 0 al))) q87 (hw_ai Z 3 (va_up (va_up (fun _ => 0) 0 al) 1 (hs_P S (hb_ix ka) 5)))) q87 (hw_ai Z 3 (va_up (va_up (va_up (fun _ => 0) 0 al) 1 (hs_P S (hb_ix ka) 5)) 2 (hs_P S (hb_ix ka) 6)))) d138 (hw_ar Z 7 10 (va_up (fun _ => none) 0 (some q87)))) (ad 8 (hb_ix (hs_P S (hb_ix ka) 4))) (hw_ob 0 [.int ((hr_mc X1 (2 + hb_ix (hs_P S (hb_ix ka) 4))) + nI 1), .ref d138, .int (nI 1)])) (ad 8 i) = hw_ob 0 [.int ((va_up (hr_mc X1) (2 + hb_ix (hs_P S (hb_ix ka) 4)) (hr_mc X1 (2 + hb_ix (hs_P S (hb_ix ka) 4)) + nI 1)) (2 + i)), .ref (if (va_up (hr_gr X1) (hb_ix (hs_P S (hb_ix ka) 4)) true) i then (va_up (ad 9) (hb_ix (hs_P S (hb_ix ka) 4)) d138) i else Z.2.2.2), .int (nI ((va_up (hs_N S) (hb_ix (hs_P S (hb_ix ka) 4)) (hs_N S (hb_ix (hs_P S (hb_ix ka) 4)) + 1)) i))]
              rw [va_up_ne _ _ (hP1.n (k := 8) (i := i) (k' := 8) (i' := (hb_ix (hs_P S (hb_ix ka) 4))) hi hx4.1 (fun q => q0 q.2)), va_up_ne _ _ (hw_xn (hP1.a 8 i hi) (hb_no (hb_no (hb_no (hb_no (hn138)))))), va_up_ne _ _ (hw_xn (hP1.a 8 i hi) hq87), va_up_ne _ _ (hw_xn (hP1.a 8 i hi) hq87), va_up_ne _ _ (hw_xn (hP1.a 8 i hi) hq87), va_up_ne _ _ (hw_xn (hP1.a 8 i hi) hq87)]
              refine (hP1.m 8 i hi).trans ?_
              first | rfl | (simp only [va_up_ne _ _ q0, va_up_ne _ _ q0, va_up_ne _ _ (show 2 + i ≠ 2 + hb_ix (hs_P S (hb_ix ka) 4) by omega)]; done) | (simp only [va_up_ne _ _ q0, va_up_ne _ _ q0, va_up_ne _ _ (show 2 + i ≠ 2 + hb_ix (hs_P S (hb_ix ka) 4) by omega)]; rfl)
            · by_cases q0 : i = (hb_ix (hs_P S (hb_ix ka) 4))
              · subst q0
                show (va_up (va_up (va_up (va_up (va_up (va_up M1 q87 (hw_ai Z 3 (fun _ => 0))) q87 (hw_ai Z 3 (va_up (fun _ => 0) 0 al))) q87 (hw_ai Z 3 (va_up (va_up (fun _ => 0) 0 al) 1 (hs_P S (hb_ix ka) 5)))) q87 (hw_ai Z 3 (va_up (va_up (va_up (fun _ => 0) 0 al) 1 (hs_P S (hb_ix ka) 5)) 2 (hs_P S (hb_ix ka) 6)))) d138 (hw_ar Z 7 10 (va_up (fun _ => none) 0 (some q87)))) (ad 8 (hb_ix (hs_P S (hb_ix ka) 4))) (hw_ob 0 [.int ((hr_mc X1 (2 + hb_ix (hs_P S (hb_ix ka) 4))) + nI 1), .ref d138, .int (nI 1)])) ((va_up (ad 9) (hb_ix (hs_P S (hb_ix ka) 4)) d138) (hb_ix (hs_P S (hb_ix ka) 4))) = hw_ar Z 7 10 (hc_f (fun j => (va_up (ad 10) (hb_ix (hs_P S (hb_ix ka) 4) + 2 * hs_N S (hb_ix (hs_P S (hb_ix ka) 4))) q87) ((hb_ix (hs_P S (hb_ix ka) 4)) + 2 * j)) ((va_up (hs_N S) (hb_ix (hs_P S (hb_ix ka) 4)) (hs_N S (hb_ix (hs_P S (hb_ix ka) 4)) + 1)) (hb_ix (hs_P S (hb_ix ka) 4))))
                rw [show (va_up (ad 9) (hb_ix (hs_P S (hb_ix ka) 4)) d138) (hb_ix (hs_P S (hb_ix ka) 4)) = d138 from va_up_self _ _ _]
                refine (hw_up (hw_us _ _ _) (Ne.symm (hw_nn (hw_up (hw_up (hw_up (hw_up e8_hb_ix_hs_P_S_hb_ix_ka_4hP1 (hw_nn e8_hb_ix_hs_P_S_hb_ix_ka_4hP1 hq87)) (hw_nn e8_hb_ix_hs_P_S_hb_ix_ka_4hP1 hq87)) (hw_nn e8_hb_ix_hs_P_S_hb_ix_ka_4hP1 hq87)) (hw_nn e8_hb_ix_hs_P_S_hb_ix_ka_4hP1 hq87)) hn138))).trans ?_
                first | rfl | (simp only [va_up_self, va_up_ne _ _ (show 0 ≠ 2 + hb_ix (hs_P S (hb_ix ka) 4) by omega), va_up_ne _ _ (show 1 ≠ 2 + hb_ix (hs_P S (hb_ix ka) 4) by omega)]; done) | (simp only [va_up_self, va_up_ne _ _ (show 0 ≠ 2 + hb_ix (hs_P S (hb_ix ka) 4) by omega), va_up_ne _ _ (show 1 ≠ 2 + hb_ix (hs_P S (hb_ix ka) 4) by omega)]; rfl) | (simp only [va_up_self, va_up_ne _ _ (show 0 ≠ 2 + hb_ix (hs_P S (hb_ix ka) 4) by omega), va_up_ne _ _ (show 1 ≠ 2 + hb_ix (hs_P S (hb_ix ka) 4) by omega), hif0, hN0, hr_f10 (ad 10) (hb_ix (hs_P S (hb_ix ka) 4)) q87, h10a0, h10b0]; done) | (simp only [va_up_self, va_up_ne _ _ (show 0 ≠ 2 + hb_ix (hs_P S (hb_ix ka) 4) by omega), va_up_ne _ _ (show 1 ≠ 2 + hb_ix (hs_P S (hb_ix ka) 4) by omega), hif0, hN0, hr_f10 (ad 10) (hb_ix (hs_P S (hb_ix ka) 4)) q87, h10a0, h10b0]; rfl)
              have hi0 := hi
              replace hi0 : hr_p S X1 9 i := (show i < 2 ∧ hr_gr X1 i = true from ⟨hi.1, (va_up_ne _ _ q0).symm.trans hi.2⟩)
              show (va_up (va_up (va_up (va_up (va_up (va_up M1 q87 (hw_ai Z 3 (fun _ => 0))) q87 (hw_ai Z 3 (va_up (fun _ => 0) 0 al))) q87 (hw_ai Z 3 (va_up (va_up (fun _ => 0) 0 al) 1 (hs_P S (hb_ix ka) 5)))) q87 (hw_ai Z 3 (va_up (va_up (va_up (fun _ => 0) 0 al) 1 (hs_P S (hb_ix ka) 5)) 2 (hs_P S (hb_ix ka) 6)))) d138 (hw_ar Z 7 10 (va_up (fun _ => none) 0 (some q87)))) (ad 8 (hb_ix (hs_P S (hb_ix ka) 4))) (hw_ob 0 [.int ((hr_mc X1 (2 + hb_ix (hs_P S (hb_ix ka) 4))) + nI 1), .ref d138, .int (nI 1)])) ((va_up (ad 9) (hb_ix (hs_P S (hb_ix ka) 4)) d138) i) = hw_ar Z 7 10 (hc_f (fun j => (va_up (ad 10) (hb_ix (hs_P S (hb_ix ka) 4) + 2 * hs_N S (hb_ix (hs_P S (hb_ix ka) 4))) q87) (i + 2 * j)) ((va_up (hs_N S) (hb_ix (hs_P S (hb_ix ka) 4)) (hs_N S (hb_ix (hs_P S (hb_ix ka) 4)) + 1)) i))
              rw [va_up_ne _ _ q0]
              rw [va_up_ne _ _ (hP1.n (k := 9) (i := i) (k' := 8) (i' := (hb_ix (hs_P S (hb_ix ka) 4))) hi0 hx4.1 (fun q => absurd q.1 (by decide))), va_up_ne _ _ (hw_xn (hP1.a 9 i hi0) (hb_no (hb_no (hb_no (hb_no (hn138)))))), va_up_ne _ _ (hw_xn (hP1.a 9 i hi0) hq87), va_up_ne _ _ (hw_xn (hP1.a 9 i hi0) hq87), va_up_ne _ _ (hw_xn (hP1.a 9 i hi0) hq87), va_up_ne _ _ (hw_xn (hP1.a 9 i hi0) hq87)]
              refine (hP1.m 9 i hi0).trans ?_
              first | rfl | (simp only [va_up_ne _ _ q0, hr_n10 (f := ad 10) (v := hs_N S (hb_ix (hs_P S (hb_ix ka) 4))) (q := q87) hx4.1 hi.1 q0]; done) | (simp only [va_up_ne _ _ q0, hr_n10 (f := ad 10) (v := hs_N S (hb_ix (hs_P S (hb_ix ka) 4))) (q := q87) hx4.1 hi.1 q0]; rfl)
            · by_cases q0 : i = (hb_ix (hs_P S (hb_ix ka) 4) + 2 * hs_N S (hb_ix (hs_P S (hb_ix ka) 4)))
              · subst q0
                show (va_up (va_up (va_up (va_up (va_up (va_up M1 q87 (hw_ai Z 3 (fun _ => 0))) q87 (hw_ai Z 3 (va_up (fun _ => 0) 0 al))) q87 (hw_ai Z 3 (va_up (va_up (fun _ => 0) 0 al) 1 (hs_P S (hb_ix ka) 5)))) q87 (hw_ai Z 3 (va_up (va_up (va_up (fun _ => 0) 0 al) 1 (hs_P S (hb_ix ka) 5)) 2 (hs_P S (hb_ix ka) 6)))) d138 (hw_ar Z 7 10 (va_up (fun _ => none) 0 (some q87)))) (ad 8 (hb_ix (hs_P S (hb_ix ka) 4))) (hw_ob 0 [.int ((hr_mc X1 (2 + hb_ix (hs_P S (hb_ix ka) 4))) + nI 1), .ref d138, .int (nI 1)])) ((va_up (ad 10) (hb_ix (hs_P S (hb_ix ka) 4) + 2 * hs_N S (hb_ix (hs_P S (hb_ix ka) 4))) q87) (hb_ix (hs_P S (hb_ix ka) 4) + 2 * hs_N S (hb_ix (hs_P S (hb_ix ka) 4)))) = hw_ai Z 3 ((va_up (hr_qq X1) (hb_ix (hs_P S (hb_ix ka) 4)) (va_up (hr_qq X1 (hb_ix (hs_P S (hb_ix ka) 4))) (hs_N S (hb_ix (hs_P S (hb_ix ka) 4))) (va_up (va_up (va_up (fun _ => 0) 0 al) 1 (hs_P S (hb_ix ka) 5)) 2 (hs_P S (hb_ix ka) 6)))) ((hb_ix (hs_P S (hb_ix ka) 4) + 2 * hs_N S (hb_ix (hs_P S (hb_ix ka) 4))) % 2) ((hb_ix (hs_P S (hb_ix ka) 4) + 2 * hs_N S (hb_ix (hs_P S (hb_ix ka) 4))) / 2))
                rw [show (va_up (ad 10) (hb_ix (hs_P S (hb_ix ka) 4) + 2 * hs_N S (hb_ix (hs_P S (hb_ix ka) 4))) q87) (hb_ix (hs_P S (hb_ix ka) 4) + 2 * hs_N S (hb_ix (hs_P S (hb_ix ka) 4))) = q87 from va_up_self _ _ _]
                refine (hw_up (hw_up (hw_us _ _ _) (hw_nn (hw_us _ _ _) hn138)) (Ne.symm (hw_nn e8_hb_ix_hs_P_S_hb_ix_ka_4hP1 hq87))).trans ?_
                first | rfl | (simp only [va_up_self, va_up_ne _ _ (show 0 ≠ 2 + hb_ix (hs_P S (hb_ix ka) 4) by omega), va_up_ne _ _ (show 1 ≠ 2 + hb_ix (hs_P S (hb_ix ka) 4) by omega)]; done) | (simp only [va_up_self, va_up_ne _ _ (show 0 ≠ 2 + hb_ix (hs_P S (hb_ix ka) 4) by omega), va_up_ne _ _ (show 1 ≠ 2 + hb_ix (hs_P S (hb_ix ka) 4) by omega)]; rfl) | (simp only [va_up_self, va_up_ne _ _ (show 0 ≠ 2 + hb_ix (hs_P S (hb_ix ka) 4) by omega), va_up_ne _ _ (show 1 ≠ 2 + hb_ix (hs_P S (hb_ix ka) 4) by omega), hif0, hN0, hr_f10 (ad 10) (hb_ix (hs_P S (hb_ix ka) 4)) q87, h10a0, h10b0]; done) | (simp only [va_up_self, va_up_ne _ _ (show 0 ≠ 2 + hb_ix (hs_P S (hb_ix ka) 4) by omega), va_up_ne _ _ (show 1 ≠ 2 + hb_ix (hs_P S (hb_ix ka) 4) by omega), hif0, hN0, hr_f10 (ad 10) (hb_ix (hs_P S (hb_ix ka) 4)) q87, h10a0, h10b0]; rfl)
              have hi0 := hi
              replace hi0 : hr_p S X1 10 i := (hp10n i hi q0)
              show (va_up (va_up (va_up (va_up (va_up (va_up M1 q87 (hw_ai Z 3 (fun _ => 0))) q87 (hw_ai Z 3 (va_up (fun _ => 0) 0 al))) q87 (hw_ai Z 3 (va_up (va_up (fun _ => 0) 0 al) 1 (hs_P S (hb_ix ka) 5)))) q87 (hw_ai Z 3 (va_up (va_up (va_up (fun _ => 0) 0 al) 1 (hs_P S (hb_ix ka) 5)) 2 (hs_P S (hb_ix ka) 6)))) d138 (hw_ar Z 7 10 (va_up (fun _ => none) 0 (some q87)))) (ad 8 (hb_ix (hs_P S (hb_ix ka) 4))) (hw_ob 0 [.int ((hr_mc X1 (2 + hb_ix (hs_P S (hb_ix ka) 4))) + nI 1), .ref d138, .int (nI 1)])) ((va_up (ad 10) (hb_ix (hs_P S (hb_ix ka) 4) + 2 * hs_N S (hb_ix (hs_P S (hb_ix ka) 4))) q87) i) = hw_ai Z 3 ((va_up (hr_qq X1) (hb_ix (hs_P S (hb_ix ka) 4)) (va_up (hr_qq X1 (hb_ix (hs_P S (hb_ix ka) 4))) (hs_N S (hb_ix (hs_P S (hb_ix ka) 4))) (va_up (va_up (va_up (fun _ => 0) 0 al) 1 (hs_P S (hb_ix ka) 5)) 2 (hs_P S (hb_ix ka) 6)))) (i % 2) (i / 2))
              rw [va_up_ne _ _ q0]
              rw [va_up_ne _ _ (hP1.n (k := 10) (i := i) (k' := 8) (i' := (hb_ix (hs_P S (hb_ix ka) 4))) hi0 hx4.1 (fun q => absurd q.1 (by decide))), va_up_ne _ _ (hw_xn (hP1.a 10 i hi0) (hb_no (hb_no (hb_no (hb_no (hn138)))))), va_up_ne _ _ (hw_xn (hP1.a 10 i hi0) hq87), va_up_ne _ _ (hw_xn (hP1.a 10 i hi0) hq87), va_up_ne _ _ (hw_xn (hP1.a 10 i hi0) hq87), va_up_ne _ _ (hw_xn (hP1.a 10 i hi0) hq87)]
              refine (hP1.m 10 i hi0).trans ?_
              first | rfl | (simp only [va_up_ne _ _ q0, h10n i q0]; done) | (simp only [va_up_ne _ _ q0, h10n i q0]; rfl)
            · show (va_up (va_up (va_up (va_up (va_up (va_up M1 q87 (hw_ai Z 3 (fun _ => 0))) q87 (hw_ai Z 3 (va_up (fun _ => 0) 0 al))) q87 (hw_ai Z 3 (va_up (va_up (fun _ => 0) 0 al) 1 (hs_P S (hb_ix ka) 5)))) q87 (hw_ai Z 3 (va_up (va_up (va_up (fun _ => 0) 0 al) 1 (hs_P S (hb_ix ka) 5)) 2 (hs_P S (hb_ix ka) 6)))) d138 (hw_ar Z 7 10 (va_up (fun _ => none) 0 (some q87)))) (ad 8 (hb_ix (hs_P S (hb_ix ka) 4))) (hw_ob 0 [.int ((hr_mc X1 (2 + hb_ix (hs_P S (hb_ix ka) 4))) + nI 1), .ref d138, .int (nI 1)])) (ad 11 i) = hw_ar Z 7 10 (hc_f (ad 1) (hs_np S))
              rw [va_up_ne _ _ (hP1.n (k := 11) (i := i) (k' := 8) (i' := (hb_ix (hs_P S (hb_ix ka) 4))) hi hx4.1 (fun q => absurd q.1 (by decide))), va_up_ne _ _ (hw_xn (hP1.a 11 i hi) (hb_no (hb_no (hb_no (hb_no (hn138)))))), va_up_ne _ _ (hw_xn (hP1.a 11 i hi) hq87), va_up_ne _ _ (hw_xn (hP1.a 11 i hi) hq87), va_up_ne _ _ (hw_xn (hP1.a 11 i hi) hq87), va_up_ne _ _ (hw_xn (hP1.a 11 i hi) hq87)]
              refine (hP1.m 11 i hi).trans ?_
              first | rfl
            · show (va_up (va_up (va_up (va_up (va_up (va_up M1 q87 (hw_ai Z 3 (fun _ => 0))) q87 (hw_ai Z 3 (va_up (fun _ => 0) 0 al))) q87 (hw_ai Z 3 (va_up (va_up (fun _ => 0) 0 al) 1 (hs_P S (hb_ix ka) 5)))) q87 (hw_ai Z 3 (va_up (va_up (va_up (fun _ => 0) 0 al) 1 (hs_P S (hb_ix ka) 5)) 2 (hs_P S (hb_ix ka) 6)))) d138 (hw_ar Z 7 10 (va_up (fun _ => none) 0 (some q87)))) (ad 8 (hb_ix (hs_P S (hb_ix ka) 4))) (hw_ob 0 [.int ((hr_mc X1 (2 + hb_ix (hs_P S (hb_ix ka) 4))) + nI 1), .ref d138, .int (nI 1)])) (ad 12 i) = hw_ar Z 7 10 (hc_f (ad 6) (hs_nw S))
              rw [va_up_ne _ _ (hP1.n (k := 12) (i := i) (k' := 8) (i' := (hb_ix (hs_P S (hb_ix ka) 4))) hi hx4.1 (fun q => absurd q.1 (by decide))), va_up_ne _ _ (hw_xn (hP1.a 12 i hi) (hb_no (hb_no (hb_no (hb_no (hn138)))))), va_up_ne _ _ (hw_xn (hP1.a 12 i hi) hq87), va_up_ne _ _ (hw_xn (hP1.a 12 i hi) hq87), va_up_ne _ _ (hw_xn (hP1.a 12 i hi) hq87), va_up_ne _ _ (hw_xn (hP1.a 12 i hi) hq87)]
              refine (hP1.m 12 i hi).trans ?_
              first | rfl
            · exact hi.elim
        have fr_hok : ∀ a, b1 a → (va_up (va_up (va_up (va_up (va_up (va_up M1 q87 (hw_ai Z 3 (fun _ => 0))) q87 (hw_ai Z 3 (va_up (fun _ => 0) 0 al))) q87 (hw_ai Z 3 (va_up (va_up (fun _ => 0) 0 al) 1 (hs_P S (hb_ix ka) 5)))) q87 (hw_ai Z 3 (va_up (va_up (va_up (fun _ => 0) 0 al) 1 (hs_P S (hb_ix ka) 5)) 2 (hs_P S (hb_ix ka) 6)))) d138 (hw_ar Z 7 10 (va_up (fun _ => none) 0 (some q87)))) (ad 8 (hb_ix (hs_P S (hb_ix ka) 4))) (hw_ob 0 [.int ((hr_mc X1 (2 + hb_ix (hs_P S (hb_ix ka) 4))) + nI 1), .ref d138, .int (nI 1)])) a = M a := fun a ha => by rw [va_up_ne _ _ (hP1.f (k := 8) (i := (hb_ix (hs_P S (hb_ix ka) 4))) hx4.1 ha), va_up_ne _ _ (hw_xn (hA1 a ha) (hb_no (hb_no (hb_no (hb_no (hn138)))))), va_up_ne _ _ (hw_xn (hA1 a ha) hq87), va_up_ne _ _ (hw_xn (hA1 a ha) hq87), va_up_ne _ _ (hw_xn (hA1 a ha) hq87), va_up_ne _ _ (hw_xn (hA1 a ha) hq87)]; exact fr1 a ha
        have hfin : hr_R Z b1 M ad (st_prove S ka) (nI 1) (va_up (va_up (va_up (va_up (va_up (va_up M1 q87 (hw_ai Z 3 (fun _ => 0))) q87 (hw_ai Z 3 (va_up (fun _ => 0) 0 al))) q87 (hw_ai Z 3 (va_up (va_up (fun _ => 0) 0 al) 1 (hs_P S (hb_ix ka) 5)))) q87 (hw_ai Z 3 (va_up (va_up (va_up (fun _ => 0) 0 al) 1 (hs_P S (hb_ix ka) 5)) 2 (hs_P S (hb_ix ka) 6)))) d138 (hw_ar Z 7 10 (va_up (fun _ => none) 0 (some q87)))) (ad 8 (hb_ix (hs_P S (hb_ix ka) 4))) (hw_ob 0 [.int ((hr_mc X1 (2 + hb_ix (hs_P S (hb_ix ka) 4))) + nI 1), .ref d138, .int (nI 1)])) := hr_r (S' := hs_sN (hs_sQ S (hb_ix (hs_P S (hb_ix ka) 4)) (va_up (hs_Q S (hb_ix (hs_P S (hb_ix ka) 4))) (hs_N S (hb_ix (hs_P S (hb_ix ka) 4))) (hs_P S (hb_ix ka) 9))) (hb_ix (hs_P S (hb_ix ka) 4)) (hs_N S (hb_ix (hs_P S (hb_ix ka) 4)) + 1)) (X' := hr_sgr (hr_sqq (hr_smc X1 (2 + hb_ix (hs_P S (hb_ix ka) 4)) (hr_mc X1 (2 + hb_ix (hs_P S (hb_ix ka) 4)) + nI 1)) (hb_ix (hs_P S (hb_ix ka) 4)) (va_up (hr_qq X1 (hb_ix (hs_P S (hb_ix ka) 4))) (hs_N S (hb_ix (hs_P S (hb_ix ka) 4))) (va_up (va_up (va_up (fun _ => 0) 0 al) 1 (hs_P S (hb_ix ka) 5)) 2 (hs_P S (hb_ix ka) 6)))) (hb_ix (hs_P S (hb_ix ka) 4))) (ad' := hr_ua (hr_ua ad 10 (va_up (ad 10) (hb_ix (hs_P S (hb_ix ka) 4) + 2 * hs_N S (hb_ix (hs_P S (hb_ix ka) 4))) q87)) 9 (va_up (ad 9) (hb_ix (hs_P S (hb_ix ka) 4)) d138)) (by unfold st_prove; rw [(hb_apc_t hroom hhas).1, (hb_apc_t hroom hhas).2]; exact ((if_neg (fun q => q gk)).trans ((if_neg (fun q => q c46)).trans ((if_neg (fun q => q.elim h4n (hq_bn (hb_isd_t (hf_dens _ _ _) c71)))).trans rfl)))) rfl hok ht1 fr_hok
        exact hret hI (Or.inr rfl) hfin (Nat.le_of_ble_eq_true rfl) (Nat.le_of_ble_eq_true rfl) dX11_prove_145
      · refine lv_iconst (v := nI 0) hx hb dX11_prove_74 (by decide) ?_
        have hok : hr_ok Z b1 (M1) ad (S) (X1) := by
          refine hr_old hP1 (fun _ _ hi => hi) ?_ hP1.q hP1.g
          intro k i hi
          rcases k with _ | _ | _ | _ | _ | _ | _ | _ | _ | _ | _ | _ | _ | k
          · rcases (show i = 0 ∨ i = 1 ∨ i = 2 ∨ i = 3 by have h4 : i < 4 := hi; omega) with rfl | rfl | rfl | rfl
            · show (M1) (ad 0 0) = hw_ob 12 [.int (hr_th X1), .int (hs_G S 0), .int (hs_G S 1), .ref (ad 0 2), .ref (ad 0 3), .ref (ad 0 1)]
              refine (hP1.m 0 0 (show 0 < 4 by decide)).trans ?_
              first | rfl | (simp only [va_up_self]; done) | (simp only [va_up_self]; rfl)
            · show (M1) (ad 0 1) = hw_ar Z 6 2 (fun j => some (ad 7 j))
              refine (hP1.m 0 1 (show 1 < 4 by decide)).trans ?_
              first | rfl | (simp only [va_up_self]; done) | (simp only [va_up_self]; rfl)
            · show (M1) (ad 0 2) = hw_ob 0 [.int (hr_mc X1 0), .ref (hr_d (hs_np S) Z.2.2.2 (ad 11 0)), .int (nI (hs_np S))]
              refine (hP1.m 0 2 (show 2 < 4 by decide)).trans ?_
              first | rfl | (simp only [va_up_self]; done) | (simp only [va_up_self]; rfl)
            · show (M1) (ad 0 3) = hw_ob 0 [.int (hr_mc X1 1), .ref (hr_d (hs_nw S) Z.2.2.2 (ad 12 0)), .int (nI (hs_nw S))]
              refine (hP1.m 0 3 (show 3 < 4 by decide)).trans ?_
              first | rfl | (simp only [va_up_self]; done) | (simp only [va_up_self]; rfl)
          · show (M1) (ad 1 i) = hw_ob 9 [.ref (ad 2 i), .int (hs_P S i 0), .ref (ad 4 i), .int (hs_P S i 3), .int (hs_P S i 4), .int (hs_P S i 5), .int (hs_P S i 6), .int (hs_P S i 7), .int (hs_P S i 8)]
            refine (hP1.m 1 i hi).trans ?_
            first | rfl
          · show (M1) (ad 2 i) = hw_ob 11 [.ref (ad 3 i)]
            refine (hP1.m 2 i hi).trans ?_
            first | rfl
          · show (M1) (ad 3 i) = hw_al Z 8 (hs_C S i)
            refine (hP1.m 3 i hi).trans ?_
            first | rfl
          · show (M1) (ad 4 i) = hw_ob 7 [.double (hr_en (hs_P S i)), .ref (ad 5 i), .double (hs_U S i), .int (hs_P S i 1), .int (hs_P S i 2), .int (nI (hs_D S i))]
            refine (hP1.m 4 i hi).trans ?_
            first | rfl
          · show (M1) (ad 5 i) = hw_ad Z 64 (hs_W S i)
            refine (hP1.m 5 i hi).trans ?_
            first | rfl
          · show (M1) (ad 6 i) = hw_ob 10 [.int (hs_V S i 0), .int (hs_V S i 1), .int (hs_V S i 2), .int (hs_V S i 3), .int (hs_V S i 4)]
            refine (hP1.m 6 i hi).trans ?_
            first | rfl
          · show (M1) (ad 7 i) = hw_ob 8 [.int (hs_M S i 0), .int (hs_M S i 1), .int (hs_M S i 2), .int (hs_M S i 3), .ref (ad 8 i)]
            refine (hP1.m 7 i hi).trans ?_
            first | rfl
          · show (M1) (ad 8 i) = hw_ob 0 [.int (hr_mc X1 (2 + i)), .ref (if hr_gr X1 i then ad 9 i else Z.2.2.2), .int (nI (hs_N S i))]
            refine (hP1.m 8 i hi).trans ?_
            first | rfl
          · show (M1) (ad 9 i) = hw_ar Z 7 10 (hc_f (fun j => ad 10 (i + 2 * j)) (hs_N S i))
            refine (hP1.m 9 i hi).trans ?_
            first | rfl
          · show (M1) (ad 10 i) = hw_ai Z 3 (hr_qq X1 (i % 2) (i / 2))
            refine (hP1.m 10 i hi).trans ?_
            first | rfl
          · show (M1) (ad 11 i) = hw_ar Z 7 10 (hc_f (ad 1) (hs_np S))
            refine (hP1.m 11 i hi).trans ?_
            first | rfl
          · show (M1) (ad 12 i) = hw_ar Z 7 10 (hc_f (ad 6) (hs_nw S))
            refine (hP1.m 12 i hi).trans ?_
            first | rfl
          · exact hi.elim
        have fr_hok : ∀ a, b1 a → (M1) a = M a := fun a ha => fr1 a ha
        have hfin : hr_R Z b1 M ad (st_prove S ka) (nI 0) (M1) := hr_r (S' := S) (X' := X1) (ad' := ad) (by unfold st_prove; exact ((if_neg (fun q => q gk)).trans ((if_neg (fun q => q c46)).trans (if_pos (Or.inr (hb_isd_f c71)))))) rfl hok ht1 fr_hok
        exact hret hI (Or.inl rfl) hfin (Nat.le_of_ble_eq_true rfl) (Nat.le_of_ble_eq_true rfl) dX11_prove_75
    · refine lv_aload_n hx hb dX11_prove_49 rfl (lv_at hl 1 rfl) ?_
      refine lv_iconst (v := nI 2) hx hb dX11_prove_50 (by decide) ?_
      refine hw_ci hI (hw_rV hx hb hml hown hts hk hI (m_X11_no l Z M1 (ad 0 0) (ad 0 2) (ad 0 3) (ad 0 1) (hr_th X1) (hs_G S 0) (hs_G S 1) (nI 2) e0_0hP1) cv_X11_44 e0_0hP1 rfl rfl ⟨rfl, rfl⟩ ⟨(Nat.le_of_ble_eq_true rfl), (Nat.le_of_ble_eq_true rfl)⟩ rfl hl.1 rfl (Nat.le_of_ble_eq_true rfl) ⟨(Nat.le_of_ble_eq_true rfl), (Nat.le_of_ble_eq_true rfl)⟩ dX11_prove_51) (fun r51 M51 H locs hR hI => ?_)
      obtain ⟨rfl, rfl⟩ := hR
      refine lv_if_le (tgt := 61) hx hb dX11_prove_54 (by decide) (fun _ => ?_) (fun hc => absurd (by decide) hc)
      refine lv_iconst (v := nI 0) hx hb dX11_prove_61 (by decide) ?_
      exact hret hI (Or.inl rfl) (hr_x (n := 2) (by unfold st_prove; exact (hq_el (fun q => q gk) (hq_if c46 ⟨rfl, rfl⟩))) (by decide) (hP1.th (nI 2)) rfl (fun a ha => (va_up_ne _ _ (hP1.f (k := 0) (i := 0) (show 0 < 4 by decide) ha)).trans (fr1 a ha))) (Nat.le_of_ble_eq_true rfl) (Nat.le_of_ble_eq_true rfl) dX11_prove_62
  · refine lv_aload_n hx hb dX11_prove_13 rfl (lv_at hl 0 rfl) ?_
    refine lv_iconst (v := nI 1) hx hb dX11_prove_14 (by decide) ?_
    refine hw_ci hI (hw_rV hx hb hml hown hts hk hI (m_X11_no l Z M1 (ad 0 0) (ad 0 2) (ad 0 3) (ad 0 1) (hr_th X1) (hs_G S 0) (hs_G S 1) (nI 1) e0_0hP1) cv_X11_44 e0_0hP1 rfl rfl ⟨rfl, rfl⟩ ⟨(Nat.le_of_ble_eq_true rfl), (Nat.le_of_ble_eq_true rfl)⟩ rfl hl.1 rfl (Nat.le_of_ble_eq_true rfl) ⟨(Nat.le_of_ble_eq_true rfl), (Nat.le_of_ble_eq_true rfl)⟩ dX11_prove_15) (fun r15 M15 H locs hR hI => ?_)
    obtain ⟨rfl, rfl⟩ := hR
    refine lv_if_le (tgt := 25) hx hb dX11_prove_18 (by decide) (fun _ => ?_) (fun hc => absurd (by decide) hc)
    refine lv_iconst (v := nI 0) hx hb dX11_prove_25 (by decide) ?_
    exact hret hI (Or.inl rfl) (hr_x (n := 1) (by unfold st_prove; exact (hq_if (hq_df c10) ⟨rfl, rfl⟩)) (by decide) (hP1.th (nI 1)) rfl (fun a ha => (va_up_ne _ _ (hP1.f (k := 0) (i := 0) (show 0 < 4 by decide) ha)).trans (fr1 a ha))) (Nat.le_of_ble_eq_true rfl) (Nat.le_of_ble_eq_true rfl) dX11_prove_26

theorem m_X11_prove (l : Launch) (Z : hw_Z) (M : hw_M) (ad : hp_ad) (S : hs_S) (X : hr_X) (b1 : Nat → Prop) (ka : Int32) (hP : hr_ok Z b1 M ad S X) (hV : hv_ok S) (hA : ∀ a, b1 a → M a ≠ none) : Met l yX11_prove (hw_m yX11_prove cX11_prove 5 (some .boolean)) ({ frames := 8, cells := 3, slots := 20, locals := 250 } : Room) (va_Pc [.ref (ad 0 0), .int ka] (hw_P Z M)) (hw_Qi Z (hr_R Z b1 M ad (st_prove S ka))) 3 20 (hw_A Z) := by
  cases h : hr_gr X (hb_ix (hs_P S (hb_ix ka) 4)) with
  | true => exact m_X11_prove_s l Z M ad S X b1 ka hP hV hA h
  | false => exact m_X11_prove_n l Z M ad S X b1 ka hP hV hA h
