theorem cv_L_95 : hw_CV RL 95 yX5_recall cX5_recall 5 (some .int) 1 := ⟨cb_X5_recall _ _, (hw_win (w := .methodLink RL 95 yX5_recall) (by decide +kernel) (by decide +kernel)), (hw_win (w := .instanceMethod yX5_recall) (by decide +kernel) (by decide +kernel)), (hw_win (w := .selects yX5_recall.cls yX5_recall yX5_recall) (by decide +kernel) (by decide +kernel))⟩
set_option maxHeartbeats 4000000 in
set_option maxRecDepth 100000 in
theorem sg_E {p : Program} {l : Launch} {e : Env} {s : State} {m : MethodId} {below : List Frame} {meth : Method} {c : Code} {H : Heap} {locs : List Loc} {cells slots : Nat} {Q : State → Prop} {ls : Array Slot} {Z : hw_Z} {M : hw_M} {r : Nat} {i h9 w b al t d q12 q13 q14 : Nat} {ad : hp_ad} {S : hs_S} {C f12 : Nat → Int64} {sp ff : Nat → Int32} {v3 v4 v5 v6 v7 v8 v9 v10 : Value} (hst : l.stackTraces = false) (CX : lw_cx p s m c Z) (hI : hw_iv Z s M H locs) (ht : M t = hw_ob 0 [.ref (ad 0 0), .ref Z.2.2.2, .int (nI d), v3, v4, v5, v6, v7, v8, v9, v10]) (e12 : M q12 = hw_al Z 8 f12) (e13 : M q13 = hw_ai Z 3 sp) (e14 : M q14 = hw_ai Z 3 ff) (hh : lh Z M ad S) (b12 : hq_b ad q12) (b13 : hq_b ad q13) (b14 : hq_b ad q14) (n34 : q13 ≠ q14) (hd : d ≤ 300) (hj : lj 3 4 3 S) (hal : al < 2) (hbe : b = hb_bs C (nI w) 19) (hr : 1 ≤ r ∧ r ≤ 20) (hsp : sp 0 = nI b ∧ sp 1 = nI (min 20 (b + 1)) ∧ sp 2 = nI r) (hff : al = 1 → ff 0 = nI (hb_fw C (nI w) b) ∧ ff 1 = nI (hb_fw C (nI w) (min 20 (b + 1))) ∧ ff 2 = nI (hb_fw C (nI w) r)) (hl : lv_has ls 19 [(0, .ref Z.2.2.2), (1, .int (nI i)), (2, .ref t), (3, .ref (ad 0 0)), (9, .int (nI h9)), (10, .int (nI w)), (11, .int (nI b)), (12, .ref q12), (13, .ref q13), (14, .ref q14), (15, .int (nI al)), (16, .int (nI 3))]) (hc9 : cells + 3000 ≤ 600104) (hs9 : slots + 60000 ≤ 7301314)
    (K : ∀ (M1 : hw_M) (H1 : Heap) (locs1 : List Loc) (cells1 slots1 : Nat) (ls1 : Array Slot), hw_iv Z s M1 H1 locs1 → lv_has ls1 19 [(0, .ref Z.2.2.2), (1, .int (nI i))] → cells1 ≤ cells + 3000 → slots1 ≤ slots + 60000 → W p l e room_1 s m #[Value.ref Z.2.2.2] below meth c H1 locs1 cells1 slots1 Q (F0 m 723 ls1 [])) :
    W p l e room_1 s m #[Value.ref Z.2.2.2] below meth c H locs cells slots Q (F0 m 351 ls []) := by
  obtain ⟨hx, hb, hml, hown, hts, hk⟩ := CX
  have hbt : hq_b ad t := lp_0 hh ht ⟨_, rfl⟩
  have hw0 := hb_fw_le C (nI w) b
  have hw1 := hb_fw_le C (nI w) (min 20 (b + 1))
  have hw2 := hb_fw_le C (nI w) r
  obtain ⟨⟨hb1, hb2⟩, hbs⟩ := lb_bs C (nI w) 19
  rw [← hbe] at hb1 hb2 hbs
  have hs1 := hbs (min 20 (b + 1)) (by omega) (by omega)
  have hs2 := hbs r hr.1 hr.2
  refine lv_iload hx hb dL_law_351 (lv_at hl 11 rfl) ?_
  refine lv_iconst (v := nI 3) hx hb dL_law_353 (by decide) ?_
  refine lv_icmp_ge (tgt := 632) hx hb dL_law_354 (by decide) (fun _ => ?_) (fun hc => absurd (Int32.le_refl _) hc)
  refine lv_iload hx hb dL_law_632 (lv_at hl 10 rfl) ?_
  refine lv_if_eq (tgt := 701) hx hb dL_law_634 (by decide) (fun c634 => ?_) (fun c634 => ?_)
  · refine lv_aload_n hx hb dL_law_701 rfl (lv_at hl 3 rfl) ?_
    refine lv_iconst (v := nI 0) hx hb dL_law_702 (by decide) ?_
    have lh703 : lh Z (M) ad S := hh
    obtain ⟨T703, hP703⟩ := lh703
    have e703 : (M) (ad 0 0) = hp_e0 Z ad S T703 0 := hP703.m 0 0 (by decide)
    refine hw_ci hI (hw_rV hx hb hml hown hts hk hI (m_X5_recall_k l Z M ad S T703 (hq_b ad) 0 hP703 hj.b (by rw [hj.2.1.2]; decide)) cv_L_95 e703 rfl rfl ⟨rfl, rfl⟩ ⟨(by first | exact Nat.le_of_ble_eq_true rfl | (show _ ≤ 600104; omega) | (show _ ≤ 7301314; omega) | omega), (by first | exact Nat.le_of_ble_eq_true rfl | (show _ ≤ 600104; omega) | (show _ ≤ 7301314; omega) | omega)⟩ rfl hl.1 rfl (by first | exact Nat.le_of_ble_eq_true rfl | (show _ ≤ 600104; omega) | (show _ ≤ 7301314; omega) | omega) ⟨(by first | exact Nat.le_of_ble_eq_true rfl | (show _ ≤ 600104; omega) | (show _ ≤ 7301314; omega) | omega), (by first | exact Nat.le_of_ble_eq_true rfl | (show _ ≤ 600104; omega) | (show _ ≤ 7301314; omega) | omega)⟩ dL_law_703) (fun r703 M703 H locs hR hI => ?_)
    obtain ⟨rfl, rfl⟩ := hR
    refine hw_ti (ls_re hj (by decide)) ?_
    refine lv_bipush (v := nI 14) hx hb dL_law_706 (by decide) ?_
    refine lv_icmp_ne (tgt := 721) hx hb dL_law_708 (by decide) (fun hc => absurd rfl hc) (fun _ => ?_)
    refine lv_aload_n hx hb dL_law_711 rfl (lv_at hl 3 rfl) ?_
    refine lv_iconst (v := nI 1) hx hb dL_law_712 (by decide) ?_
    have lh713 : lh Z (M) ad S := hh
    obtain ⟨T713, hP713⟩ := lh713
    have e713 : (M) (ad 0 0) = hp_e0 Z ad S T713 0 := hP713.m 0 0 (by decide)
    refine hw_ci hI (hw_rV hx hb hml hown hts hk hI (m_X5_recall_k l Z M ad S T713 (hq_b ad) 1 hP713 hj.b (by rw [hj.2.1.2]; decide)) cv_L_95 e713 rfl rfl ⟨rfl, rfl⟩ ⟨(by first | exact Nat.le_of_ble_eq_true rfl | (show _ ≤ 600104; omega) | (show _ ≤ 7301314; omega) | omega), (by first | exact Nat.le_of_ble_eq_true rfl | (show _ ≤ 600104; omega) | (show _ ≤ 7301314; omega) | omega)⟩ rfl hl.1 rfl (by first | exact Nat.le_of_ble_eq_true rfl | (show _ ≤ 600104; omega) | (show _ ≤ 7301314; omega) | omega) ⟨(by first | exact Nat.le_of_ble_eq_true rfl | (show _ ≤ 600104; omega) | (show _ ≤ 7301314; omega) | omega), (by first | exact Nat.le_of_ble_eq_true rfl | (show _ ≤ 600104; omega) | (show _ ≤ 7301314; omega) | omega)⟩ dL_law_713) (fun r713 M713 H locs hR hI => ?_)
    obtain ⟨rfl, rfl⟩ := hR
    refine hw_ti (ls_re hj (by decide)) ?_
    refine lv_bipush (v := nI 14) hx hb dL_law_716 (by decide) ?_
    refine lv_icmp_eq (tgt := 723) hx hb dL_law_718 (by decide) (fun _ => ?_) (fun hc => absurd rfl hc)
    exact K _ _ _ _ _ _ hI (lv_sub hl [0, 1] rfl) (by omega) (by omega)
  · have hal1 : al = 1 := by
      rcases (show al = 0 ∨ al = 1 by omega) with h | h
      · exact absurd (by rw [h]; decide) c634
      · exact h
    obtain ⟨z0, z1, z2⟩ := hff hal1
    refine lv_aload hx hb dL_law_637 (lv_at hl 9 rfl) ?_
    refine lv_iconst (v := nI 1) hx hb dL_law_639 (by decide) ?_
    refine hw_iald hx hb hk hI e14 (j := 1) rfl (by omega) (by decide) dL_law_640 ?_
    refine hw_ti z1 ?_
    refine lv_aload hx hb dL_law_641 (lv_at hl 9 rfl) ?_
    refine lv_iconst (v := nI 0) hx hb dL_law_643 (by decide) ?_
    refine hw_iald hx hb hk hI e14 (j := 0) rfl (by omega) (by decide) dL_law_644 ?_
    refine hw_ti z0 ?_
    refine lv_icmp_lt (tgt := 699) hx hb dL_law_645 (by decide) (fun hc => absurd hc (nI_nlt hs1.1 (by omega))) (fun _ => ?_)
    refine lv_aload hx hb dL_law_648 (lv_at hl 9 rfl) ?_
    refine lv_iconst (v := nI 2) hx hb dL_law_650 (by decide) ?_
    refine hw_iald hx hb hk hI e14 (j := 2) rfl (by omega) (by decide) dL_law_651 ?_
    refine hw_ti z2 ?_
    refine lv_aload hx hb dL_law_652 (lv_at hl 9 rfl) ?_
    refine lv_iconst (v := nI 0) hx hb dL_law_654 (by decide) ?_
    refine hw_iald hx hb hk hI e14 (j := 0) rfl (by omega) (by decide) dL_law_655 ?_
    refine hw_ti z0 ?_
    refine lv_icmp_lt (tgt := 699) hx hb dL_law_656 (by decide) (fun hc => absurd hc (nI_nlt hs2.1 (by omega))) (fun _ => ?_)
    refine lv_aload hx hb dL_law_659 (lv_at hl 8 rfl) ?_
    refine lv_iconst (v := nI 1) hx hb dL_law_661 (by decide) ?_
    refine hw_iald hx hb hk hI e13 (j := 1) rfl (by omega) (by decide) dL_law_662 ?_
    refine hw_ti hsp.2.1 ?_
    refine lv_iload hx hb dL_law_663 (lv_at hl 6 rfl) ?_
    refine lv_icmp_le (tgt := 679) hx hb dL_law_665 (by decide) (fun c665 => ?_) (fun c665 => ?_)
    · refine lv_aload hx hb dL_law_679 (lv_at hl 8 rfl) ?_
      refine lv_iconst (v := nI 2) hx hb dL_law_681 (by decide) ?_
      refine hw_iald hx hb hk hI e13 (j := 2) rfl (by omega) (by decide) dL_law_682 ?_
      refine hw_ti hsp.2.2 ?_
      refine lv_iload hx hb dL_law_683 (lv_at hl 6 rfl) ?_
      refine lv_icmp_le (tgt := 701) hx hb dL_law_685 (by decide) (fun c685 => ?_) (fun c685 => ?_)
      · refine lv_aload_n hx hb dL_law_701 rfl (lv_at hl 3 rfl) ?_
        refine lv_iconst (v := nI 0) hx hb dL_law_702 (by decide) ?_
        have lh703 : lh Z (M) ad S := hh
        obtain ⟨T703, hP703⟩ := lh703
        have e703 : (M) (ad 0 0) = hp_e0 Z ad S T703 0 := hP703.m 0 0 (by decide)
        refine hw_ci hI (hw_rV hx hb hml hown hts hk hI (m_X5_recall_k l Z M ad S T703 (hq_b ad) 0 hP703 hj.b (by rw [hj.2.1.2]; decide)) cv_L_95 e703 rfl rfl ⟨rfl, rfl⟩ ⟨(by first | exact Nat.le_of_ble_eq_true rfl | (show _ ≤ 600104; omega) | (show _ ≤ 7301314; omega) | omega), (by first | exact Nat.le_of_ble_eq_true rfl | (show _ ≤ 600104; omega) | (show _ ≤ 7301314; omega) | omega)⟩ rfl hl.1 rfl (by first | exact Nat.le_of_ble_eq_true rfl | (show _ ≤ 600104; omega) | (show _ ≤ 7301314; omega) | omega) ⟨(by first | exact Nat.le_of_ble_eq_true rfl | (show _ ≤ 600104; omega) | (show _ ≤ 7301314; omega) | omega), (by first | exact Nat.le_of_ble_eq_true rfl | (show _ ≤ 600104; omega) | (show _ ≤ 7301314; omega) | omega)⟩ dL_law_703) (fun r703 M703 H locs hR hI => ?_)
        obtain ⟨rfl, rfl⟩ := hR
        refine hw_ti (ls_re hj (by decide)) ?_
        refine lv_bipush (v := nI 14) hx hb dL_law_706 (by decide) ?_
        refine lv_icmp_ne (tgt := 721) hx hb dL_law_708 (by decide) (fun hc => absurd rfl hc) (fun _ => ?_)
        refine lv_aload_n hx hb dL_law_711 rfl (lv_at hl 3 rfl) ?_
        refine lv_iconst (v := nI 1) hx hb dL_law_712 (by decide) ?_
        have lh713 : lh Z (M) ad S := hh
        obtain ⟨T713, hP713⟩ := lh713
        have e713 : (M) (ad 0 0) = hp_e0 Z ad S T713 0 := hP713.m 0 0 (by decide)
        refine hw_ci hI (hw_rV hx hb hml hown hts hk hI (m_X5_recall_k l Z M ad S T713 (hq_b ad) 1 hP713 hj.b (by rw [hj.2.1.2]; decide)) cv_L_95 e713 rfl rfl ⟨rfl, rfl⟩ ⟨(by first | exact Nat.le_of_ble_eq_true rfl | (show _ ≤ 600104; omega) | (show _ ≤ 7301314; omega) | omega), (by first | exact Nat.le_of_ble_eq_true rfl | (show _ ≤ 600104; omega) | (show _ ≤ 7301314; omega) | omega)⟩ rfl hl.1 rfl (by first | exact Nat.le_of_ble_eq_true rfl | (show _ ≤ 600104; omega) | (show _ ≤ 7301314; omega) | omega) ⟨(by first | exact Nat.le_of_ble_eq_true rfl | (show _ ≤ 600104; omega) | (show _ ≤ 7301314; omega) | omega), (by first | exact Nat.le_of_ble_eq_true rfl | (show _ ≤ 600104; omega) | (show _ ≤ 7301314; omega) | omega)⟩ dL_law_713) (fun r713 M713 H locs hR hI => ?_)
        obtain ⟨rfl, rfl⟩ := hR
        refine hw_ti (ls_re hj (by decide)) ?_
        refine lv_bipush (v := nI 14) hx hb dL_law_716 (by decide) ?_
        refine lv_icmp_eq (tgt := 723) hx hb dL_law_718 (by decide) (fun _ => ?_) (fun hc => absurd rfl hc)
        exact K _ _ _ _ _ _ hI (lv_sub hl [0, 1] rfl) (by omega) (by omega)
      · refine lv_aload hx hb dL_law_688 (lv_at hl 9 rfl) ?_
        refine lv_iconst (v := nI 2) hx hb dL_law_690 (by decide) ?_
        refine hw_iald hx hb hk hI e14 (j := 2) rfl (by omega) (by decide) dL_law_691 ?_
        refine hw_ti z2 ?_
        refine lv_aload hx hb dL_law_692 (lv_at hl 9 rfl) ?_
        refine lv_iconst (v := nI 0) hx hb dL_law_694 (by decide) ?_
        refine hw_iald hx hb hk hI e14 (j := 0) rfl (by omega) (by decide) dL_law_695 ?_
        refine hw_ti z0 ?_
        refine lv_icmp_ne (tgt := 701) hx hb dL_law_696 (by decide) (fun _ => ?_) (fun hc => absurd hc (fun q => by have h1 := (nI_eq (by omega) (by omega)).mp q; have h2 := hs2.2 (Nat.lt_of_not_le (fun z => c685 (nI_le z (by omega)))); omega))
        refine lv_aload_n hx hb dL_law_701 rfl (lv_at hl 3 rfl) ?_
        refine lv_iconst (v := nI 0) hx hb dL_law_702 (by decide) ?_
        have lh703 : lh Z (M) ad S := hh
        obtain ⟨T703, hP703⟩ := lh703
        have e703 : (M) (ad 0 0) = hp_e0 Z ad S T703 0 := hP703.m 0 0 (by decide)
        refine hw_ci hI (hw_rV hx hb hml hown hts hk hI (m_X5_recall_k l Z M ad S T703 (hq_b ad) 0 hP703 hj.b (by rw [hj.2.1.2]; decide)) cv_L_95 e703 rfl rfl ⟨rfl, rfl⟩ ⟨(by first | exact Nat.le_of_ble_eq_true rfl | (show _ ≤ 600104; omega) | (show _ ≤ 7301314; omega) | omega), (by first | exact Nat.le_of_ble_eq_true rfl | (show _ ≤ 600104; omega) | (show _ ≤ 7301314; omega) | omega)⟩ rfl hl.1 rfl (by first | exact Nat.le_of_ble_eq_true rfl | (show _ ≤ 600104; omega) | (show _ ≤ 7301314; omega) | omega) ⟨(by first | exact Nat.le_of_ble_eq_true rfl | (show _ ≤ 600104; omega) | (show _ ≤ 7301314; omega) | omega), (by first | exact Nat.le_of_ble_eq_true rfl | (show _ ≤ 600104; omega) | (show _ ≤ 7301314; omega) | omega)⟩ dL_law_703) (fun r703 M703 H locs hR hI => ?_)
        obtain ⟨rfl, rfl⟩ := hR
        refine hw_ti (ls_re hj (by decide)) ?_
        refine lv_bipush (v := nI 14) hx hb dL_law_706 (by decide) ?_
        refine lv_icmp_ne (tgt := 721) hx hb dL_law_708 (by decide) (fun hc => absurd rfl hc) (fun _ => ?_)
        refine lv_aload_n hx hb dL_law_711 rfl (lv_at hl 3 rfl) ?_
        refine lv_iconst (v := nI 1) hx hb dL_law_712 (by decide) ?_
        have lh713 : lh Z (M) ad S := hh
        obtain ⟨T713, hP713⟩ := lh713
        have e713 : (M) (ad 0 0) = hp_e0 Z ad S T713 0 := hP713.m 0 0 (by decide)
        refine hw_ci hI (hw_rV hx hb hml hown hts hk hI (m_X5_recall_k l Z M ad S T713 (hq_b ad) 1 hP713 hj.b (by rw [hj.2.1.2]; decide)) cv_L_95 e713 rfl rfl ⟨rfl, rfl⟩ ⟨(by first | exact Nat.le_of_ble_eq_true rfl | (show _ ≤ 600104; omega) | (show _ ≤ 7301314; omega) | omega), (by first | exact Nat.le_of_ble_eq_true rfl | (show _ ≤ 600104; omega) | (show _ ≤ 7301314; omega) | omega)⟩ rfl hl.1 rfl (by first | exact Nat.le_of_ble_eq_true rfl | (show _ ≤ 600104; omega) | (show _ ≤ 7301314; omega) | omega) ⟨(by first | exact Nat.le_of_ble_eq_true rfl | (show _ ≤ 600104; omega) | (show _ ≤ 7301314; omega) | omega), (by first | exact Nat.le_of_ble_eq_true rfl | (show _ ≤ 600104; omega) | (show _ ≤ 7301314; omega) | omega)⟩ dL_law_713) (fun r713 M713 H locs hR hI => ?_)
        obtain ⟨rfl, rfl⟩ := hR
        refine hw_ti (ls_re hj (by decide)) ?_
        refine lv_bipush (v := nI 14) hx hb dL_law_716 (by decide) ?_
        refine lv_icmp_eq (tgt := 723) hx hb dL_law_718 (by decide) (fun _ => ?_) (fun hc => absurd rfl hc)
        exact K _ _ _ _ _ _ hI (lv_sub hl [0, 1] rfl) (by omega) (by omega)
    · refine lv_aload hx hb dL_law_668 (lv_at hl 9 rfl) ?_
      refine lv_iconst (v := nI 1) hx hb dL_law_670 (by decide) ?_
      refine hw_iald hx hb hk hI e14 (j := 1) rfl (by omega) (by decide) dL_law_671 ?_
      refine hw_ti z1 ?_
      refine lv_aload hx hb dL_law_672 (lv_at hl 9 rfl) ?_
      refine lv_iconst (v := nI 0) hx hb dL_law_674 (by decide) ?_
      refine hw_iald hx hb hk hI e14 (j := 0) rfl (by omega) (by decide) dL_law_675 ?_
      refine hw_ti z0 ?_
      refine lv_icmp_eq (tgt := 699) hx hb dL_law_676 (by decide) (fun hc => absurd hc (fun q => by have h1 := (nI_eq (by omega) (by omega)).mp q; have h2 := hs1.2 (Nat.lt_of_not_le (fun z => c665 (nI_le z (by omega)))); omega)) (fun _ => ?_)
      refine lv_aload hx hb dL_law_679 (lv_at hl 8 rfl) ?_
      refine lv_iconst (v := nI 2) hx hb dL_law_681 (by decide) ?_
      refine hw_iald hx hb hk hI e13 (j := 2) rfl (by omega) (by decide) dL_law_682 ?_
      refine hw_ti hsp.2.2 ?_
      refine lv_iload hx hb dL_law_683 (lv_at hl 6 rfl) ?_
      refine lv_icmp_le (tgt := 701) hx hb dL_law_685 (by decide) (fun c685 => ?_) (fun c685 => ?_)
      · refine lv_aload_n hx hb dL_law_701 rfl (lv_at hl 3 rfl) ?_
        refine lv_iconst (v := nI 0) hx hb dL_law_702 (by decide) ?_
        have lh703 : lh Z (M) ad S := hh
        obtain ⟨T703, hP703⟩ := lh703
        have e703 : (M) (ad 0 0) = hp_e0 Z ad S T703 0 := hP703.m 0 0 (by decide)
        refine hw_ci hI (hw_rV hx hb hml hown hts hk hI (m_X5_recall_k l Z M ad S T703 (hq_b ad) 0 hP703 hj.b (by rw [hj.2.1.2]; decide)) cv_L_95 e703 rfl rfl ⟨rfl, rfl⟩ ⟨(by first | exact Nat.le_of_ble_eq_true rfl | (show _ ≤ 600104; omega) | (show _ ≤ 7301314; omega) | omega), (by first | exact Nat.le_of_ble_eq_true rfl | (show _ ≤ 600104; omega) | (show _ ≤ 7301314; omega) | omega)⟩ rfl hl.1 rfl (by first | exact Nat.le_of_ble_eq_true rfl | (show _ ≤ 600104; omega) | (show _ ≤ 7301314; omega) | omega) ⟨(by first | exact Nat.le_of_ble_eq_true rfl | (show _ ≤ 600104; omega) | (show _ ≤ 7301314; omega) | omega), (by first | exact Nat.le_of_ble_eq_true rfl | (show _ ≤ 600104; omega) | (show _ ≤ 7301314; omega) | omega)⟩ dL_law_703) (fun r703 M703 H locs hR hI => ?_)
        obtain ⟨rfl, rfl⟩ := hR
        refine hw_ti (ls_re hj (by decide)) ?_
        refine lv_bipush (v := nI 14) hx hb dL_law_706 (by decide) ?_
        refine lv_icmp_ne (tgt := 721) hx hb dL_law_708 (by decide) (fun hc => absurd rfl hc) (fun _ => ?_)
        refine lv_aload_n hx hb dL_law_711 rfl (lv_at hl 3 rfl) ?_
        refine lv_iconst (v := nI 1) hx hb dL_law_712 (by decide) ?_
        have lh713 : lh Z (M) ad S := hh
        obtain ⟨T713, hP713⟩ := lh713
        have e713 : (M) (ad 0 0) = hp_e0 Z ad S T713 0 := hP713.m 0 0 (by decide)
        refine hw_ci hI (hw_rV hx hb hml hown hts hk hI (m_X5_recall_k l Z M ad S T713 (hq_b ad) 1 hP713 hj.b (by rw [hj.2.1.2]; decide)) cv_L_95 e713 rfl rfl ⟨rfl, rfl⟩ ⟨(by first | exact Nat.le_of_ble_eq_true rfl | (show _ ≤ 600104; omega) | (show _ ≤ 7301314; omega) | omega), (by first | exact Nat.le_of_ble_eq_true rfl | (show _ ≤ 600104; omega) | (show _ ≤ 7301314; omega) | omega)⟩ rfl hl.1 rfl (by first | exact Nat.le_of_ble_eq_true rfl | (show _ ≤ 600104; omega) | (show _ ≤ 7301314; omega) | omega) ⟨(by first | exact Nat.le_of_ble_eq_true rfl | (show _ ≤ 600104; omega) | (show _ ≤ 7301314; omega) | omega), (by first | exact Nat.le_of_ble_eq_true rfl | (show _ ≤ 600104; omega) | (show _ ≤ 7301314; omega) | omega)⟩ dL_law_713) (fun r713 M713 H locs hR hI => ?_)
        obtain ⟨rfl, rfl⟩ := hR
        refine hw_ti (ls_re hj (by decide)) ?_
        refine lv_bipush (v := nI 14) hx hb dL_law_716 (by decide) ?_
        refine lv_icmp_eq (tgt := 723) hx hb dL_law_718 (by decide) (fun _ => ?_) (fun hc => absurd rfl hc)
        exact K _ _ _ _ _ _ hI (lv_sub hl [0, 1] rfl) (by omega) (by omega)
      · refine lv_aload hx hb dL_law_688 (lv_at hl 9 rfl) ?_
        refine lv_iconst (v := nI 2) hx hb dL_law_690 (by decide) ?_
        refine hw_iald hx hb hk hI e14 (j := 2) rfl (by omega) (by decide) dL_law_691 ?_
        refine hw_ti z2 ?_
        refine lv_aload hx hb dL_law_692 (lv_at hl 9 rfl) ?_
        refine lv_iconst (v := nI 0) hx hb dL_law_694 (by decide) ?_
        refine hw_iald hx hb hk hI e14 (j := 0) rfl (by omega) (by decide) dL_law_695 ?_
        refine hw_ti z0 ?_
        refine lv_icmp_ne (tgt := 701) hx hb dL_law_696 (by decide) (fun _ => ?_) (fun hc => absurd hc (fun q => by have h1 := (nI_eq (by omega) (by omega)).mp q; have h2 := hs2.2 (Nat.lt_of_not_le (fun z => c685 (nI_le z (by omega)))); omega))
        refine lv_aload_n hx hb dL_law_701 rfl (lv_at hl 3 rfl) ?_
        refine lv_iconst (v := nI 0) hx hb dL_law_702 (by decide) ?_
        have lh703 : lh Z (M) ad S := hh
        obtain ⟨T703, hP703⟩ := lh703
        have e703 : (M) (ad 0 0) = hp_e0 Z ad S T703 0 := hP703.m 0 0 (by decide)
        refine hw_ci hI (hw_rV hx hb hml hown hts hk hI (m_X5_recall_k l Z M ad S T703 (hq_b ad) 0 hP703 hj.b (by rw [hj.2.1.2]; decide)) cv_L_95 e703 rfl rfl ⟨rfl, rfl⟩ ⟨(by first | exact Nat.le_of_ble_eq_true rfl | (show _ ≤ 600104; omega) | (show _ ≤ 7301314; omega) | omega), (by first | exact Nat.le_of_ble_eq_true rfl | (show _ ≤ 600104; omega) | (show _ ≤ 7301314; omega) | omega)⟩ rfl hl.1 rfl (by first | exact Nat.le_of_ble_eq_true rfl | (show _ ≤ 600104; omega) | (show _ ≤ 7301314; omega) | omega) ⟨(by first | exact Nat.le_of_ble_eq_true rfl | (show _ ≤ 600104; omega) | (show _ ≤ 7301314; omega) | omega), (by first | exact Nat.le_of_ble_eq_true rfl | (show _ ≤ 600104; omega) | (show _ ≤ 7301314; omega) | omega)⟩ dL_law_703) (fun r703 M703 H locs hR hI => ?_)
        obtain ⟨rfl, rfl⟩ := hR
        refine hw_ti (ls_re hj (by decide)) ?_
        refine lv_bipush (v := nI 14) hx hb dL_law_706 (by decide) ?_
        refine lv_icmp_ne (tgt := 721) hx hb dL_law_708 (by decide) (fun hc => absurd rfl hc) (fun _ => ?_)
        refine lv_aload_n hx hb dL_law_711 rfl (lv_at hl 3 rfl) ?_
        refine lv_iconst (v := nI 1) hx hb dL_law_712 (by decide) ?_
        have lh713 : lh Z (M) ad S := hh
        obtain ⟨T713, hP713⟩ := lh713
        have e713 : (M) (ad 0 0) = hp_e0 Z ad S T713 0 := hP713.m 0 0 (by decide)
        refine hw_ci hI (hw_rV hx hb hml hown hts hk hI (m_X5_recall_k l Z M ad S T713 (hq_b ad) 1 hP713 hj.b (by rw [hj.2.1.2]; decide)) cv_L_95 e713 rfl rfl ⟨rfl, rfl⟩ ⟨(by first | exact Nat.le_of_ble_eq_true rfl | (show _ ≤ 600104; omega) | (show _ ≤ 7301314; omega) | omega), (by first | exact Nat.le_of_ble_eq_true rfl | (show _ ≤ 600104; omega) | (show _ ≤ 7301314; omega) | omega)⟩ rfl hl.1 rfl (by first | exact Nat.le_of_ble_eq_true rfl | (show _ ≤ 600104; omega) | (show _ ≤ 7301314; omega) | omega) ⟨(by first | exact Nat.le_of_ble_eq_true rfl | (show _ ≤ 600104; omega) | (show _ ≤ 7301314; omega) | omega), (by first | exact Nat.le_of_ble_eq_true rfl | (show _ ≤ 600104; omega) | (show _ ≤ 7301314; omega) | omega)⟩ dL_law_713) (fun r713 M713 H locs hR hI => ?_)
        obtain ⟨rfl, rfl⟩ := hR
        refine hw_ti (ls_re hj (by decide)) ?_
        refine lv_bipush (v := nI 14) hx hb dL_law_716 (by decide) ?_
        refine lv_icmp_eq (tgt := 723) hx hb dL_law_718 (by decide) (fun _ => ?_) (fun hc => absurd rfl hc)
        exact K _ _ _ _ _ _ hI (lv_sub hl [0, 1] rfl) (by omega) (by omega)
