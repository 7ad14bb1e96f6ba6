theorem cb_X11_has (own : String) (index : Nat) : hw_CB own index yX11_has cX11_has 3 (some .boolean) 2 := ⟨⟨by decide +kernel, by decide +kernel, by decide +kernel⟩, (hw_win (w := .code yX11_has cX11_has 3 (some .boolean)) (by decide +kernel) (by decide +kernel)), (hw_win (w := .initialized yX11_has.cls) (by decide +kernel) (by decide +kernel))⟩
theorem cs_X11_30 : hw_CS RX11 30 yX11_has cX11_has 3 (some .boolean) 2 := ⟨cb_X11_has _ _, (hw_win (w := .methodLink RX11 30 yX11_has) (by decide +kernel) (by decide +kernel)), (hw_win (w := .static yX11_has) (by decide +kernel) (by decide +kernel))⟩
theorem iw_X10 : ∀ w ∈ u_ws RX10 TX10 1, w ∈ hw_ws := fun w h => hw_win ((by decide +kernel : ∀ w ∈ u_ws RX10 TX10 1, w ∈ lw_tbl) w h) ((by decide +kernel : ∀ w ∈ u_ws RX10 TX10 1, goodWord w = true) w h)
theorem fp_X10_9 : hw_FP RX10 9 11 0 (.array .long) true := ⟨RX10, TX10, 1, "MeltPoolModel$Solid", tyX10, rfl, by decide, iw_X10, (hw_win (w := .fieldLink RX10 9 "MeltPoolModel$Solid" (TX10 0).2.1 (TX10 0).2.2.1) (by decide +kernel) (by decide +kernel)), Or.inl rfl, tyX10_ok, nmX10, rfl, (fun _ => by decide +kernel), by decide +kernel⟩
theorem fd_X10_9 : hw_FD RX10 9 11 0 := ⟨RX10, TX10, 1, "MeltPoolModel$Solid", rfl, by decide, iw_X10, (hw_win (w := .fieldLink RX10 9 "MeltPoolModel$Solid" (TX10 0).2.1 (TX10 0).2.2.1) (by decide +kernel) (by decide +kernel)), Or.inl rfl⟩
theorem cb_X11_size (own : String) (index : Nat) : hw_CB own index yX11_size cX11_size 4 (some .int) 1 := ⟨⟨by decide +kernel, by decide +kernel, by decide +kernel⟩, (hw_win (w := .code yX11_size cX11_size 4 (some .int)) (by decide +kernel) (by decide +kernel)), (hw_win (w := .initialized yX11_size.cls) (by decide +kernel) (by decide +kernel))⟩
theorem cn_X10_15 : hw_CSN RX10 15 yX11_size "MeltPoolModel" cX11_size 4 (some .int) 1 := ⟨cb_X11_size _ _, by decide +kernel, (hw_win (w := .static yX11_size) (by decide +kernel) (by decide +kernel))⟩
theorem cb_X11_grown (own : String) (index : Nat) : hw_CB own index yX11_grown cX11_grown 5 (some .long) 1 := ⟨⟨by decide +kernel, by decide +kernel, by decide +kernel⟩, (hw_win (w := .code yX11_grown cX11_grown 5 (some .long)) (by decide +kernel) (by decide +kernel)), (hw_win (w := .initialized yX11_grown.cls) (by decide +kernel) (by decide +kernel))⟩
theorem cn_X10_19 : hw_CSN RX10 19 yX11_grown "MeltPoolModel" cX11_grown 5 (some .long) 1 := ⟨cb_X11_grown _ _, by decide +kernel, (hw_win (w := .static yX11_grown) (by decide +kernel) (by decide +kernel))⟩
theorem cb_X10_hangs (own : String) (index : Nat) : hw_CB own index yX10_hangs cX10_hangs 2 (some .long) 1 := ⟨⟨by decide +kernel, by decide +kernel, by decide +kernel⟩, (hw_win (w := .code yX10_hangs cX10_hangs 2 (some .long)) (by decide +kernel) (by decide +kernel)), (hw_win (w := .initialized yX10_hangs.cls) (by decide +kernel) (by decide +kernel))⟩
theorem cv_X10_25 : hw_CV RX10 25 yX10_hangs cX10_hangs 2 (some .long) 1 := ⟨cb_X10_hangs _ _, (hw_win (w := .methodLink RX10 25 yX10_hangs) (by decide +kernel) (by decide +kernel)), (hw_win (w := .instanceMethod yX10_hangs) (by decide +kernel) (by decide +kernel)), (hw_win (w := .selects yX10_hangs.cls yX10_hangs yX10_hangs) (by decide +kernel) (by decide +kernel))⟩
theorem cb_X10_support (own : String) (index : Nat) : hw_CB own index yX10_support cX10_support 5 (some .long) 1 := ⟨⟨by decide +kernel, by decide +kernel, by decide +kernel⟩, (hw_win (w := .code yX10_support cX10_support 5 (some .long)) (by decide +kernel) (by decide +kernel)), (hw_win (w := .initialized yX10_support.cls) (by decide +kernel) (by decide +kernel))⟩
theorem cv_X10_29 : hw_CV RX10 29 yX10_support cX10_support 5 (some .long) 1 := ⟨cb_X10_support _ _, (hw_win (w := .methodLink RX10 29 yX10_support) (by decide +kernel) (by decide +kernel)), (hw_win (w := .instanceMethod yX10_support) (by decide +kernel) (by decide +kernel)), (hw_win (w := .selects yX10_support.cls yX10_support yX10_support) (by decide +kernel) (by decide +kernel))⟩
set_option maxHeartbeats 4000000 in
set_option maxRecDepth 100000 in
theorem m_X11_in (l : Launch) (Z : hw_Z) (M : hw_M) (k : Int32) (lo : Int32) (hi : Int32) : Met l yX11_in (hw_m yX11_in cX11_in 3 (some .boolean)) ({ frames := 0, cells := 0, slots := 0, locals := 0 } : Room) (va_Pc [.int k, .int lo, .int hi] (hw_P Z M)) (hw_Qi Z (fun r M' => nI (hb_in k lo hi).toNat = r ∧ M = M')) 0 0 (hw_A Z) := by
  refine hw_ofz (by decide +kernel) rfl (Nat.le_of_ble_eq_true rfl) ?_
  intro p e s m below meth c ls Q hx hb hml hown hts hk hnm hI hl hret
  refine lv_iload_n hx hb dX11_in_0 rfl (lv_at hl 0 rfl) ?_
  refine lv_iload_n hx hb dX11_in_1 rfl (lv_at hl 1 rfl) ?_
  refine lv_icmp_lt (tgt := 14) hx hb dX11_in_2 (by decide) (fun c2 => ?_) (fun c2 => ?_)
  · refine lv_iconst (v := nI 0) hx hb dX11_in_14 (by decide) ?_
    exact hret hI (Or.inl rfl) (⟨hb_in_f (fun q => absurd c2 (Int32.not_lt.mpr q.1)), rfl⟩) (Nat.le_of_ble_eq_true rfl) (Nat.le_of_ble_eq_true rfl) dX11_in_15
  · refine lv_iload_n hx hb dX11_in_5 rfl (lv_at hl 0 rfl) ?_
    refine lv_iload_n hx hb dX11_in_6 rfl (lv_at hl 2 rfl) ?_
    refine lv_icmp_gt (tgt := 14) hx hb dX11_in_7 (by decide) (fun c7 => ?_) (fun c7 => ?_)
    · refine lv_iconst (v := nI 0) hx hb dX11_in_14 (by decide) ?_
      exact hret hI (Or.inl rfl) (⟨hb_in_f (fun q => absurd c7 (Int32.not_lt.mpr q.2)), rfl⟩) (Nat.le_of_ble_eq_true rfl) (Nat.le_of_ble_eq_true rfl) dX11_in_15
    · refine lv_iconst (v := nI 1) hx hb dX11_in_10 (by decide) ?_
      refine lv_goto (tgt := 15) hx hb dX11_in_11 (by decide) ?_
      exact hret hI (Or.inr rfl) (⟨hb_in_t ⟨Int32.not_lt.mp c2, Int32.not_lt.mp c7⟩, rfl⟩) (Nat.le_of_ble_eq_true rfl) (Nat.le_of_ble_eq_true rfl) dX11_in_15

set_option maxHeartbeats 4000000 in
set_option maxRecDepth 100000 in
theorem m_X11_has (l : Launch) (Z : hw_Z) (M : hw_M) (x : Int64) (n : Nat) (hn : n < 64) : Met l yX11_has (hw_m yX11_has cX11_has 3 (some .boolean)) ({ frames := 0, cells := 0, slots := 0, locals := 0 } : Room) (va_Pc [.long x, .int (nI n)] (hw_P Z M)) (hw_Qi Z (fun r M' => nI (hb_bit x n).toNat = r ∧ M = M')) 0 0 (hw_A Z) := by
  refine hw_ofz (by decide +kernel) rfl (Nat.le_of_ble_eq_true rfl) ?_
  intro p e s m below meth c ls Q hx hb hml hown hts hk hnm hI hl hret
  refine lv_lload_n hx hb dX11_has_0 rfl (lv_at hl 0 rfl) ?_
  refine lv_iload_n hx hb dX11_has_1 rfl (lv_at hl 1 rfl) ?_
  refine lv_lushr (v := hb_ushr x (nI n)) hx hb dX11_has_2 rfl ?_
  refine lv_lconst (v := 1) hx hb dX11_has_3 (by decide) ?_
  refine lv_land hx hb dX11_has_4 ?_
  refine lv_lconst (v := 1) hx hb dX11_has_5 (by decide) ?_
  refine W.lcmp hx hb dX11_has_6 ?_
  refine lv_if_ne (tgt := 14) hx hb dX11_has_7 (by decide) (fun c7 => ?_) (fun c7 => ?_)
  · refine lv_iconst (v := nI 0) hx hb dX11_has_14 (by decide) ?_
    exact hret hI (Or.inl rfl) (⟨by cases hq : hb_bit x n with | false => rfl | true => exact absurd ((hb_has1 x hn).mpr hq) (hw_cm c7), rfl⟩) (Nat.le_of_ble_eq_true rfl) (Nat.le_of_ble_eq_true rfl) dX11_has_15
  · refine lv_iconst (v := nI 1) hx hb dX11_has_10 (by decide) ?_
    refine lv_goto (tgt := 15) hx hb dX11_has_11 (by decide) ?_
    exact hret hI (Or.inr rfl) (⟨by rw [(hb_has1 x hn).mp (hw_cn c7)]; rfl, rfl⟩) (Nat.le_of_ble_eq_true rfl) (Nat.le_of_ble_eq_true rfl) dX11_has_15

set_option maxHeartbeats 4000000 in
set_option maxRecDepth 100000 in
theorem m_X11_size (l : Launch) (Z : hw_Z) (M : hw_M) (x : Int64) : Met l yX11_size (hw_m yX11_size cX11_size 4 (some .int)) ({ frames := 1, cells := 0, slots := 0, locals := 22 } : Room) (va_Pc [.long x] (hw_P Z M)) (hw_Qi Z (fun r M' => nI (hb_pc x) = r ∧ M = M')) 0 0 (hw_A Z) := by
  refine hw_ofi (by decide +kernel) rfl (Nat.le_of_ble_eq_true rfl) ?_
  intro p e s m below meth c ls Q hx hb hml hown hts hk hnm hI hl hret
  refine lv_iconst (v := nI 0) hx hb dX11_size_0 (by decide) ?_
  refine lv_istore_n (lv' := [(2, .int (nI 0)), (0, .long x)]) hx hb dX11_size_1 rfl hl (by decide) rfl (fun ls hl => ?_)
  refine lv_iconst (v := nI 0) hx hb dX11_size_2 (by decide) ?_
  refine lv_istore_n (lv' := [(3, .int (nI 0)), (2, .int (nI 0)), (0, .long x)]) hx hb dX11_size_3 rfl hl (by decide) rfl (fun ls hl => ?_)
  suffices LP4 : ∀ i, i ≤ 64 → ∀ (H : Heap) (locs : List Loc) (ls : Array Slot), hw_iv Z s (M) H locs → lv_has ls 4 [(2, .int (nI (hb_ct (hb_bit x) i))), (3, .int (nI i)), (0, .long x)] → W p l e ({ frames := 1, cells := 0, slots := 0, locals := 22 } : Room) s m ([.long x] : List Value).toArray below meth c H locs 0 0 Q (F0 m 4 ls []) from LP4 0 (by omega) _ _ _ hI (lv_sub hl [1, 0, 2] rfl)
  refine hw_loop ?_ (fun i hi4 ih4 => ?_)
  · intro H locs ls hI hl
    refine lv_iload_n hx hb dX11_size_4 rfl (lv_at hl 1 rfl) ?_
    refine lv_bipush (v := nI 64) hx hb dX11_size_5 (by decide) ?_
    refine lv_icmp_ge (tgt := 32) hx hb dX11_size_7 (by decide) (fun _ => ?_) (fun hc => absurd (Int32.le_refl _) hc)
    refine lv_iload_n hx hb dX11_size_32 rfl (lv_at hl 0 rfl) ?_
    exact hret hI (⟨rfl, rfl⟩) (Nat.le_of_ble_eq_true rfl) (Nat.le_of_ble_eq_true rfl) dX11_size_33
  · intro H locs ls hI hl
    refine lv_iload_n hx hb dX11_size_4 rfl (lv_at hl 1 rfl) ?_
    refine lv_bipush (v := nI 64) hx hb dX11_size_5 (by decide) ?_
    refine lv_icmp_ge (tgt := 32) hx hb dX11_size_7 (by decide) (fun hc => absurd hc (nI_ge hi4 (by decide))) (fun _ => ?_)
    refine lv_iload_n hx hb dX11_size_10 rfl (lv_at hl 0 rfl) ?_
    refine lv_lload_n hx hb dX11_size_11 rfl (lv_at hl 2 rfl) ?_
    refine lv_iload_n hx hb dX11_size_12 rfl (lv_at hl 1 rfl) ?_
    refine hw_ci hI (hw_rS hx hb hml hown hts hk hI (m_X11_has l Z M x i (by omega)) cs_X11_30 ⟨rfl, rfl⟩ ⟨(Nat.le_of_ble_eq_true rfl), (Nat.le_of_ble_eq_true rfl)⟩ rfl hl.1 rfl (Nat.le_of_ble_eq_true rfl) ⟨(Nat.le_of_ble_eq_true rfl), (Nat.le_of_ble_eq_true rfl)⟩ dX11_size_13) (fun r13 M13 H locs hR hI => ?_)
    obtain ⟨rfl, rfl⟩ := hR
    refine lv_if_eq (tgt := 23) hx hb dX11_size_16 (by decide) (fun c16 => ?_) (fun c16 => ?_)
    · refine lv_iconst (v := nI 0) hx hb dX11_size_23 (by decide) ?_
      refine lv_iadd hx hb dX11_size_24 ?_
      refine hw_ti (nI_add _ _) ?_
      refine lv_istore_n (lv' := [(2, .int (nI ((hb_ct (hb_bit x) i) + 0))), (3, .int (nI i)), (0, .long x)]) hx hb dX11_size_25 rfl hl (by decide) rfl (fun ls hl => ?_)
      refine lv_iinc (v := nI (i + 1)) (lv' := [(3, .int (nI (i + 1))), (2, .int (nI ((hb_ct (hb_bit x) i) + 0))), (0, .long x)]) hx hb dX11_size_26 hl (k := 1) rfl (hw_inc _) (by decide) rfl (fun ls hl => ?_)
      refine lv_goto (tgt := 4) hx hb dX11_size_29 (by decide) ?_
      exact ih4 _ _ _ hI (lv_sub hl [1, 0, 2] (by rw [← hb_ct_n (hq_bf c16)]; rfl))
    · refine lv_iconst (v := nI 1) hx hb dX11_size_19 (by decide) ?_
      refine lv_goto (tgt := 24) hx hb dX11_size_20 (by decide) ?_
      refine lv_iadd hx hb dX11_size_24 ?_
      refine hw_ti (nI_add _ _) ?_
      refine lv_istore_n (lv' := [(2, .int (nI ((hb_ct (hb_bit x) i) + 1))), (3, .int (nI i)), (0, .long x)]) hx hb dX11_size_25 rfl hl (by decide) rfl (fun ls hl => ?_)
      refine lv_iinc (v := nI (i + 1)) (lv' := [(3, .int (nI (i + 1))), (2, .int (nI ((hb_ct (hb_bit x) i) + 1))), (0, .long x)]) hx hb dX11_size_26 hl (k := 1) rfl (hw_inc _) (by decide) rfl (fun ls hl => ?_)
      refine lv_goto (tgt := 4) hx hb dX11_size_29 (by decide) ?_
      exact ih4 _ _ _ hI (lv_sub hl [1, 0, 2] (by rw [← hb_ct_y (hq_bt c16)]; rfl))

set_option maxHeartbeats 4000000 in
set_option maxRecDepth 100000 in
theorem m_X11_grown (l : Launch) (Z : hw_Z) (M : hw_M) (x : Int64) : Met l yX11_grown (hw_m yX11_grown cX11_grown 5 (some .long)) ({ frames := 1, cells := 0, slots := 0, locals := 23 } : Room) (va_Pc [.long x] (hw_P Z M)) (hw_Ql Z (fun r M' => hb_nb x = r ∧ M = M')) 0 0 (hw_A Z) := by
  refine hw_ofl (by decide +kernel) rfl (Nat.le_of_ble_eq_true rfl) ?_
  intro p e s m below meth c ls Q hx hb hml hown hts hk hnm hI hl hret
  refine lv_lload_n hx hb dX11_grown_0 rfl (lv_at hl 0 rfl) ?_
  refine lv_lload_n hx hb dX11_grown_1 rfl (lv_at hl 0 rfl) ?_
  refine lv_bipush (v := nI 8) hx hb dX11_grown_2 (by decide) ?_
  refine lv_lshl (v := hb_shl x (nI 8)) hx hb dX11_grown_4 rfl ?_
  refine lv_lor hx hb dX11_grown_5 ?_
  refine lv_lload_n hx hb dX11_grown_6 rfl (lv_at hl 0 rfl) ?_
  refine lv_bipush (v := nI 8) hx hb dX11_grown_7 (by decide) ?_
  refine lv_lushr (v := hb_ushr x (nI 8)) hx hb dX11_grown_9 rfl ?_
  refine lv_lor hx hb dX11_grown_10 ?_
  refine lv_lstore_n (lv' := [(2, .long ((x ||| (hb_shl x (nI 8))) ||| (hb_ushr x (nI 8)))), (0, .long x)]) hx hb dX11_grown_11 rfl hl (by decide) rfl (fun ls hl => ?_)
  refine lv_iconst (v := nI 0) hx hb dX11_grown_12 (by decide) ?_
  refine lv_istore (lv' := [(4, .int (nI 0)), (2, .long ((x ||| (hb_shl x (nI 8))) ||| (hb_ushr x (nI 8)))), (0, .long x)]) hx hb dX11_grown_13 hl (by decide) rfl (fun ls hl => ?_)
  suffices LP15 : ∀ i, i ≤ 64 → ∀ (H : Heap) (locs : List Loc) (ls : Array Slot), hw_iv Z s (M) H locs → lv_has ls 5 [(2, .long (hb_gw x i)), (4, .int (nI i)), (0, .long x)] → W p l e ({ frames := 1, cells := 0, slots := 0, locals := 23 } : Room) s m ([.long x] : List Value).toArray below meth c H locs 0 0 Q (F0 m 15 ls []) from LP15 0 (by omega) _ _ _ hI (lv_sub hl [1, 0, 2] rfl)
  refine hw_loop ?_ (fun i hi15 ih15 => ?_)
  · intro H locs ls hI hl
    refine lv_iload hx hb dX11_grown_15 (lv_at hl 1 rfl) ?_
    refine lv_bipush (v := nI 64) hx hb dX11_grown_17 (by decide) ?_
    refine lv_icmp_ge (tgt := 76) hx hb dX11_grown_19 (by decide) (fun _ => ?_) (fun hc => absurd (Int32.le_refl _) hc)
    refine lv_lload_n hx hb dX11_grown_76 rfl (lv_at hl 0 rfl) ?_
    exact hret hI (⟨(hb_gw_end x).symm, rfl⟩) (Nat.le_of_ble_eq_true rfl) (Nat.le_of_ble_eq_true rfl) dX11_grown_77
  · intro H locs ls hI hl
    refine lv_iload hx hb dX11_grown_15 (lv_at hl 1 rfl) ?_
    refine lv_bipush (v := nI 64) hx hb dX11_grown_17 (by decide) ?_
    refine lv_icmp_ge (tgt := 76) hx hb dX11_grown_19 (by decide) (fun hc => absurd hc (nI_ge hi15 (by decide))) (fun _ => ?_)
    refine lv_lload_n hx hb dX11_grown_22 rfl (lv_at hl 2 rfl) ?_
    refine lv_iload hx hb dX11_grown_23 (lv_at hl 1 rfl) ?_
    refine hw_ci hI (hw_rS hx hb hml hown hts hk hI (m_X11_has l Z M x i (by omega)) cs_X11_30 ⟨rfl, rfl⟩ ⟨(Nat.le_of_ble_eq_true rfl), (Nat.le_of_ble_eq_true rfl)⟩ rfl hl.1 rfl (Nat.le_of_ble_eq_true rfl) ⟨(Nat.le_of_ble_eq_true rfl), (Nat.le_of_ble_eq_true rfl)⟩ dX11_grown_25) (fun r25 M25 H locs hR hI => ?_)
    obtain ⟨rfl, rfl⟩ := hR
    refine lv_if_ne (tgt := 34) hx hb dX11_grown_28 (by decide) (fun c28 => ?_) (fun c28 => ?_)
    · refine lv_iload hx hb dX11_grown_34 (lv_at hl 1 rfl) ?_
      refine lv_bipush (v := nI 8) hx hb dX11_grown_36 (by decide) ?_
      refine lv_irem hx hb dX11_grown_38 (by decide) ?_
      refine hw_ti (pk_rem (by omega) (by decide) (by decide)) ?_
      refine lv_if_le (tgt := 51) hx hb dX11_grown_39 (by decide) (fun c39 => ?_) (fun c39 => ?_)
      · have g39 : ¬ 0 < i % 8 := fun q => absurd c39 (nI_nle q (by omega))
        refine lv_iload hx hb dX11_grown_51 (lv_at hl 1 rfl) ?_
        refine lv_bipush (v := nI 8) hx hb dX11_grown_53 (by decide) ?_
        refine lv_irem hx hb dX11_grown_55 (by decide) ?_
        refine hw_ti (pk_rem (by omega) (by decide) (by decide)) ?_
        refine lv_bipush (v := nI 7) hx hb dX11_grown_56 (by decide) ?_
        refine lv_icmp_ge (tgt := 70) hx hb dX11_grown_58 (by decide) (fun c58 => ?_) (fun c58 => ?_)
        · have g58 : ¬ i % 8 < 7 := fun q => absurd c58 (nI_ge q (by decide))
          refine lv_iinc (v := nI (i + 1)) (lv' := [(4, .int (nI (i + 1))), (2, .long (hb_gw x i)), (0, .long x)]) hx hb dX11_grown_70 hl (k := 1) rfl (hw_inc _) (by decide) rfl (fun ls hl => ?_)
          refine lv_goto (tgt := 15) hx hb dX11_grown_73 (by decide) ?_
          exact ih15 _ _ _ hI (lv_sub hl [1, 0, 2] (by rw [← hb_gw_y (hq_bt c28)]; unfold hb_gr hb_gl; rw [if_neg g58, if_neg g39]; rfl))
        · have g58 : i % 8 < 7 := Nat.not_le.mp (fun q => c58 (nI_le q (by omega)))
          refine lv_lload_n hx hb dX11_grown_61 rfl (lv_at hl 0 rfl) ?_
          refine lv_lconst (v := 1) hx hb dX11_grown_62 (by decide) ?_
          refine lv_iload hx hb dX11_grown_63 (lv_at hl 1 rfl) ?_
          refine lv_iconst (v := nI 1) hx hb dX11_grown_65 (by decide) ?_
          refine lv_iadd hx hb dX11_grown_66 ?_
          refine hw_ti (nI_add _ _) ?_
          refine lv_lshl (v := hb_shl 1 (nI (i + 1))) hx hb dX11_grown_67 rfl ?_
          refine lv_lor hx hb dX11_grown_68 ?_
          refine lv_lstore_n (lv' := [(2, .long ((hb_gw x i) ||| (hb_shl 1 (nI (i + 1))))), (4, .int (nI i)), (0, .long x)]) hx hb dX11_grown_69 rfl hl (by decide) rfl (fun ls hl => ?_)
          refine lv_iinc (v := nI (i + 1)) (lv' := [(4, .int (nI (i + 1))), (2, .long ((hb_gw x i) ||| (hb_shl 1 (nI (i + 1))))), (0, .long x)]) hx hb dX11_grown_70 hl (k := 1) rfl (hw_inc _) (by decide) rfl (fun ls hl => ?_)
          refine lv_goto (tgt := 15) hx hb dX11_grown_73 (by decide) ?_
          exact ih15 _ _ _ hI (lv_sub hl [1, 0, 2] (by rw [← hb_gw_y (hq_bt c28)]; unfold hb_gr hb_gl; rw [if_pos g58, if_neg g39]; rfl))
      · have g39 : 0 < i % 8 := Nat.pos_of_ne_zero (fun q => c39 (by rw [q]; decide))
        refine lv_lload_n hx hb dX11_grown_42 rfl (lv_at hl 0 rfl) ?_
        refine lv_lconst (v := 1) hx hb dX11_grown_43 (by decide) ?_
        refine lv_iload hx hb dX11_grown_44 (lv_at hl 1 rfl) ?_
        refine lv_iconst (v := nI 1) hx hb dX11_grown_46 (by decide) ?_
        refine lv_isub hx hb dX11_grown_47 ?_
        refine hw_ti (pk_sub (by omega)) ?_
        refine lv_lshl (v := hb_shl 1 (nI (i - 1))) hx hb dX11_grown_48 rfl ?_
        refine lv_lor hx hb dX11_grown_49 ?_
        refine lv_lstore_n (lv' := [(2, .long ((hb_gw x i) ||| (hb_shl 1 (nI (i - 1))))), (4, .int (nI i)), (0, .long x)]) hx hb dX11_grown_50 rfl hl (by decide) rfl (fun ls hl => ?_)
        refine lv_iload hx hb dX11_grown_51 (lv_at hl 1 rfl) ?_
        refine lv_bipush (v := nI 8) hx hb dX11_grown_53 (by decide) ?_
        refine lv_irem hx hb dX11_grown_55 (by decide) ?_
        refine hw_ti (pk_rem (by omega) (by decide) (by decide)) ?_
        refine lv_bipush (v := nI 7) hx hb dX11_grown_56 (by decide) ?_
        refine lv_icmp_ge (tgt := 70) hx hb dX11_grown_58 (by decide) (fun c58 => ?_) (fun c58 => ?_)
        · have g58 : ¬ i % 8 < 7 := fun q => absurd c58 (nI_ge q (by decide))
          refine lv_iinc (v := nI (i + 1)) (lv' := [(4, .int (nI (i + 1))), (2, .long ((hb_gw x i) ||| (hb_shl 1 (nI (i - 1))))), (0, .long x)]) hx hb dX11_grown_70 hl (k := 1) rfl (hw_inc _) (by decide) rfl (fun ls hl => ?_)
          refine lv_goto (tgt := 15) hx hb dX11_grown_73 (by decide) ?_
          exact ih15 _ _ _ hI (lv_sub hl [1, 0, 2] (by rw [← hb_gw_y (hq_bt c28)]; unfold hb_gr hb_gl; rw [if_neg g58, if_pos g39]; rfl))
        · have g58 : i % 8 < 7 := Nat.not_le.mp (fun q => c58 (nI_le q (by omega)))
          refine lv_lload_n hx hb dX11_grown_61 rfl (lv_at hl 0 rfl) ?_
          refine lv_lconst (v := 1) hx hb dX11_grown_62 (by decide) ?_
          refine lv_iload hx hb dX11_grown_63 (lv_at hl 1 rfl) ?_
          refine lv_iconst (v := nI 1) hx hb dX11_grown_65 (by decide) ?_
          refine lv_iadd hx hb dX11_grown_66 ?_
          refine hw_ti (nI_add _ _) ?_
          refine lv_lshl (v := hb_shl 1 (nI (i + 1))) hx hb dX11_grown_67 rfl ?_
          refine lv_lor hx hb dX11_grown_68 ?_
          refine lv_lstore_n (lv' := [(2, .long (((hb_gw x i) ||| (hb_shl 1 (nI (i - 1)))) ||| (hb_shl 1 (nI (i + 1))))), (4, .int (nI i)), (0, .long x)]) hx hb dX11_grown_69 rfl hl (by decide) rfl (fun ls hl => ?_)
          refine lv_iinc (v := nI (i + 1)) (lv' := [(4, .int (nI (i + 1))), (2, .long (((hb_gw x i) ||| (hb_shl 1 (nI (i - 1)))) ||| (hb_shl 1 (nI (i + 1))))), (0, .long x)]) hx hb dX11_grown_70 hl (k := 1) rfl (hw_inc _) (by decide) rfl (fun ls hl => ?_)
          refine lv_goto (tgt := 15) hx hb dX11_grown_73 (by decide) ?_
          exact ih15 _ _ _ hI (lv_sub hl [1, 0, 2] (by rw [← hb_gw_y (hq_bt c28)]; unfold hb_gr hb_gl; rw [if_pos g58, if_pos g39]; rfl))
    · refine lv_goto (tgt := 70) hx hb dX11_grown_31 (by decide) ?_
      refine lv_iinc (v := nI (i + 1)) (lv' := [(4, .int (nI (i + 1))), (2, .long (hb_gw x i)), (0, .long x)]) hx hb dX11_grown_70 hl (k := 1) rfl (hw_inc _) (by decide) rfl (fun ls hl => ?_)
      refine lv_goto (tgt := 15) hx hb dX11_grown_73 (by decide) ?_
      exact ih15 _ _ _ hI (lv_sub hl [1, 0, 2] (by rw [← hb_gw_n (hq_bf c28)]; rfl))

set_option maxHeartbeats 4000000 in
set_option maxRecDepth 100000 in
theorem m_X10_init (l : Launch) (Z : hw_Z) (M : hw_M) (a : Nat) (h0 : M a = hw_ob 11 [.null]) : Met l yX10_init (hw_m yX10_init cX10_init 1 none) ({ frames := 1, cells := 1, slots := 8, locals := 12 } : Room) (va_Pc [.ref a] (hw_P Z M)) (hw_Qv Z (fun M' => ∃ (ca : Nat), (M ca = none) ∧ (True) ∧ (M' ca = hw_al Z 8 (fun _ => 0)) ∧ M' a = hw_ob 11 [.ref ca] ∧ ∀ x, M x ≠ none → x ≠ a → M' x = M x)) 1 8 (hw_A Z) := by
  refine hw_ofv (by decide +kernel) rfl (Nat.le_of_ble_eq_true rfl) ?_
  intro p e s m below meth c ls Q hx hb hml hown hts hk hnm hI hl hret
  refine lv_aload_n hx hb dX10_init_0 rfl (lv_at hl 0 rfl) ?_
  refine W.objInit hx hb hown (hts _ (hw_win (w := .methodLink RX10 3 objectInit) (by decide +kernel) (by decide +kernel))) (hts _ (hw_win (w := .instanceMethod objectInit) (by decide +kernel) (by decide +kernel))) (hts _ (hw_win (w := .code objectInit ⟨#[0xb1]⟩ 1 none) (by decide +kernel) (by decide +kernel))) rfl (by rw [hml]; exact hl.1) rfl dX10_init_1 (Nat.le_of_ble_eq_true rfl) (Nat.le_of_ble_eq_true rfl) ?_
  refine W.eq (g2 := F0 m 4 ls []) rfl ?_
  refine lv_aload_n hx hb dX10_init_4 rfl (lv_at hl 0 rfl) ?_
  refine lv_bipush (v := nI 8) hx hb dX10_init_5 (by decide) ?_
  refine hw_newa (a0 := (8, .inr (.inl (fun _ => 0)))) hx hb hts hk hI (atype := .long) (hw_win (w := .arrayClass .long) (by decide +kernel) (by decide +kernel)) rfl 1 rfl (fun _ h => by cases h) (fun _ => rfl) rfl (by decide) (by decide) (Nat.le_of_ble_eq_true rfl) (Nat.le_of_ble_eq_true rfl) dX10_init_7 (fun q7 H hq7 hI => ?_)
  have b_q7 : M q7 = none := hw_alv.n (hw_alv_r M) hq7
  refine hw_putF (fs' := [.ref q7]) hx hb hts hown hnm hk hI fp_X10_9 (hw_up h0 (hw_nn h0 hq7)) (Nat.le_of_ble_eq_true rfl) rfl rfl rfl dX10_init_9 (fun H locs hI => ?_)
  have hfin : (fun M' => ∃ (ca : Nat), (M ca = none) ∧ (True) ∧ (M' ca = hw_al Z 8 (fun _ => 0)) ∧ M' a = hw_ob 11 [.ref ca] ∧ ∀ x, M x ≠ none → x ≠ a → M' x = M x) (va_up (va_up M q7 (hw_al Z 8 (fun _ => 0))) a (hw_ob 11 [.ref q7])) := ⟨q7, b_q7, trivial, hw_up (hw_us _ _ _) (Ne.symm (hw_nn h0 hq7)), hw_us _ _ _, fun x hx hxa => by rw [va_up_ne _ _ hxa, va_up_ne _ _ (hw_xn hx b_q7)]⟩
  exact hret hI hfin (Nat.le_of_ble_eq_true rfl) (Nat.le_of_ble_eq_true rfl) dX10_init_12

set_option maxHeartbeats 4000000 in
set_option maxRecDepth 100000 in
theorem m_X10_height (l : Launch) (Z : hw_Z) (M : hw_M) (a : Nat) (ca : Nat) (C : Nat → Int64) (h0 : M a = hw_ob 11 [.ref ca]) (h1 : M ca = hw_al Z 8 C) : Met l yX10_height (hw_m yX10_height cX10_height 2 (some .int)) ({ frames := 0, cells := 0, slots := 0, locals := 0 } : Room) (va_Pc [.ref a] (hw_P Z M)) (hw_Qi Z (fun r M' => nI (hb_ht C 8) = r ∧ M = M')) 0 0 (hw_A Z) := by
  refine hw_ofi (by decide +kernel) rfl (Nat.le_of_ble_eq_true rfl) ?_
  intro p e s m below meth c ls Q hx hb hml hown hts hk hnm hI hl hret
  refine lv_bipush (v := nI 8) hx hb dX10_height_0 (by decide) ?_
  refine lv_istore_n (lv' := [(1, .int (nI 8)), (0, .ref a)]) hx hb dX10_height_2 rfl hl (by decide) rfl (fun ls hl => ?_)
  suffices LP3 : ∀ i, i ≤ 8 → ∀ (H : Heap) (locs : List Loc) (ls : Array Slot), hw_iv Z s (M) H locs → lv_has ls 2 [(1, .int (nI (8 - i))), (0, .ref a)] → hb_ht C 8 = hb_ht C (8 - i) → W p l e ({ frames := 0, cells := 0, slots := 0, locals := 0 } : Room) s m ([.ref a] : List Value).toArray below meth c H locs 0 0 Q (F0 m 3 ls []) from LP3 0 (by omega) _ _ _ hI (lv_sub hl [0, 1] rfl) rfl
  refine hw_loop ?_ (fun i hi3 ih3 => ?_)
  · intro H locs ls hI hl hJ
    refine lv_iload_n hx hb dX10_height_3 rfl (lv_at hl 0 rfl) ?_
    refine lv_if_le (tgt := 26) hx hb dX10_height_4 (by decide) (fun _ => ?_) (fun hc => absurd (show nI (8 - 8) ≤ 0 by decide) hc)
    refine lv_iload_n hx hb dX10_height_26 rfl (lv_at hl 0 rfl) ?_
    exact hret hI (⟨by rw [hJ]; rfl, rfl⟩) (Nat.le_of_ble_eq_true rfl) (Nat.le_of_ble_eq_true rfl) dX10_height_27
  · intro H locs ls hI hl hJ
    refine lv_iload_n hx hb dX10_height_3 rfl (lv_at hl 0 rfl) ?_
    refine lv_if_le (tgt := 26) hx hb dX10_height_4 (by decide) (fun hc => absurd hc (nI_nle (by omega) (by omega))) (fun _ => ?_)
    refine lv_aload_n hx hb dX10_height_7 rfl (lv_at hl 1 rfl) ?_
    refine hw_get hx hb hts hown hk hI fd_X10_9 h0 rfl dX10_height_8 ?_
    refine lv_iload_n hx hb dX10_height_11 rfl (lv_at hl 0 rfl) ?_
    refine lv_iconst (v := nI 1) hx hb dX10_height_12 (by decide) ?_
    refine lv_isub hx hb dX10_height_13 ?_
    refine hw_ti (pk_sub (by omega)) ?_
    refine hw_lald hx hb hk hI h1 (j := (8 - i - 1)) rfl (by omega) (by decide) dX10_height_14 ?_
    refine lv_lconst (v := 0) hx hb dX10_height_15 (by decide) ?_
    refine W.lcmp hx hb dX10_height_16 ?_
    refine lv_if_ne (tgt := 26) hx hb dX10_height_17 (by decide) (fun c17 => ?_) (fun c17 => ?_)
    · refine lv_iload_n hx hb dX10_height_26 rfl (lv_at hl 0 rfl) ?_
      exact hret hI (⟨by rw [hJ, show 8 - i = (8 - i - 1) + 1 by omega]; show nI (if C (8 - i - 1) = 0 then _ else _) = _; rw [if_neg (hw_cm c17)], rfl⟩) (Nat.le_of_ble_eq_true rfl) (Nat.le_of_ble_eq_true rfl) dX10_height_27
    · refine lv_iinc (v := nI (8 - (i + 1))) (lv' := [(1, .int (nI (8 - (i + 1)))), (0, .ref a)]) hx hb dX10_height_20 hl (k := 0) rfl (by rw [show 8 - i = (8 - (i + 1)) + 1 by omega]; exact pk_m1 _) (by decide) rfl (fun ls hl => ?_)
      refine lv_goto (tgt := 3) hx hb dX10_height_23 (by decide) ?_
      exact ih3 _ _ _ hI (lv_sub hl [0, 1] rfl) (by rw [hJ, show 8 - i = (8 - (i + 1)) + 1 by omega]; show (if C (8 - (i + 1)) = 0 then _ else _) = _; rw [if_pos (by rw [show 8 - (i + 1) = 8 - i - 1 by omega]; exact hw_cn c17)])

set_option maxHeartbeats 4000000 in
set_option maxRecDepth 100000 in
theorem m_X10_cells (l : Launch) (Z : hw_Z) (M : hw_M) (a : Nat) (ca : Nat) (C : Nat → Int64) (h0 : M a = hw_ob 11 [.ref ca]) (h1 : M ca = hw_al Z 8 C) : Met l yX10_cells (hw_m yX10_cells cX10_cells 7 (some .int)) ({ frames := 2, cells := 0, slots := 0, locals := 50 } : Room) (va_Pc [.ref a] (hw_P Z M)) (hw_Qi Z (fun r M' => nI (hb_sm (fun k => hb_pc (C k)) 8) = r ∧ M = M')) 0 0 (hw_A Z) := by
  refine hw_ofi (by decide +kernel) rfl (Nat.le_of_ble_eq_true rfl) ?_
  intro p e s m below meth c ls Q hx hb hml hown hts hk hnm hI hl hret
  refine lv_iconst (v := nI 0) hx hb dX10_cells_0 (by decide) ?_
  refine lv_istore_n (lv' := [(1, .int (nI 0)), (0, .ref a)]) hx hb dX10_cells_1 rfl hl (by decide) rfl (fun ls hl => ?_)
  refine lv_aload_n hx hb dX10_cells_2 rfl (lv_at hl 1 rfl) ?_
  refine hw_get hx hb hts hown hk hI fd_X10_9 h0 rfl dX10_cells_3 ?_
  refine lv_astore_n (lv' := [(2, .ref ca), (1, .int (nI 0)), (0, .ref a)]) hx hb dX10_cells_6 rfl hl (by decide) rfl (fun ls hl => ?_)
  refine lv_aload_n hx hb dX10_cells_7 rfl (lv_at hl 0 rfl) ?_
  refine hw_alen (v := nI 8) hx hb hk hI 1 h1 rfl rfl dX10_cells_8 ?_
  refine lv_istore_n (lv' := [(3, .int (nI 8)), (2, .ref ca), (1, .int (nI 0)), (0, .ref a)]) hx hb dX10_cells_9 rfl hl (by decide) rfl (fun ls hl => ?_)
  refine lv_iconst (v := nI 0) hx hb dX10_cells_10 (by decide) ?_
  refine lv_istore (lv' := [(4, .int (nI 0)), (3, .int (nI 8)), (2, .ref ca), (1, .int (nI 0)), (0, .ref a)]) hx hb dX10_cells_11 hl (by decide) rfl (fun ls hl => ?_)
  suffices LP13 : ∀ i, i ≤ 8 → ∀ (H : Heap) (locs : List Loc) (ls : Array Slot), hw_iv Z s (M) H locs → lv_has ls 7 [(1, .int (nI (hb_sm (fun k => hb_pc (C k)) i))), (4, .int (nI i)), (3, .int (nI 8)), (2, .ref ca), (0, .ref a)] → W p l e ({ frames := 2, cells := 0, slots := 0, locals := 50 } : Room) s m ([.ref a] : List Value).toArray below meth c H locs 0 0 Q (F0 m 13 ls []) from LP13 0 (by omega) _ _ _ hI (lv_sub hl [3, 0, 1, 2, 4] rfl)
  refine hw_loop ?_ (fun i hi13 ih13 => ?_)
  · intro H locs ls hI hl
    refine lv_iload hx hb dX10_cells_13 (lv_at hl 1 rfl) ?_
    refine lv_iload_n hx hb dX10_cells_15 rfl (lv_at hl 2 rfl) ?_
    refine lv_icmp_ge (tgt := 39) hx hb dX10_cells_16 (by decide) (fun _ => ?_) (fun hc => absurd (Int32.le_refl _) hc)
    refine lv_iload_n hx hb dX10_cells_39 rfl (lv_at hl 0 rfl) ?_
    exact hret hI (⟨rfl, rfl⟩) (Nat.le_of_ble_eq_true rfl) (Nat.le_of_ble_eq_true rfl) dX10_cells_40
  · intro H locs ls hI hl
    refine lv_iload hx hb dX10_cells_13 (lv_at hl 1 rfl) ?_
    refine lv_iload_n hx hb dX10_cells_15 rfl (lv_at hl 2 rfl) ?_
    refine lv_icmp_ge (tgt := 39) hx hb dX10_cells_16 (by decide) (fun hc => absurd hc (nI_ge hi13 (by decide))) (fun _ => ?_)
    refine lv_aload_n hx hb dX10_cells_19 rfl (lv_at hl 3 rfl) ?_
    refine lv_iload hx hb dX10_cells_20 (lv_at hl 1 rfl) ?_
    refine hw_lald hx hb hk hI h1 (j := i) rfl (by omega) (by decide) dX10_cells_22 ?_
    refine lv_lstore (lv' := [(5, .long (C i)), (1, .int (nI (hb_sm (fun k => hb_pc (C k)) i))), (4, .int (nI i)), (3, .int (nI 8)), (2, .ref ca), (0, .ref a)]) hx hb dX10_cells_23 hl (by decide) rfl (fun ls hl => ?_)
    refine lv_iload_n hx hb dX10_cells_25 rfl (lv_at hl 1 rfl) ?_
    refine lv_lload hx hb dX10_cells_26 (lv_at hl 0 rfl) ?_
    refine hw_ci hI (hw_rSN hx hb hml hown hts hk hI (m_X11_size l Z M (C i)) cn_X10_15 ⟨rfl, rfl⟩ ⟨(Nat.le_of_ble_eq_true rfl), (Nat.le_of_ble_eq_true rfl)⟩ rfl hl.1 rfl (Nat.le_of_ble_eq_true rfl) ⟨(Nat.le_of_ble_eq_true rfl), (Nat.le_of_ble_eq_true rfl)⟩ dX10_cells_28) (fun r28 M28 H locs hR hI => ?_)
    obtain ⟨rfl, rfl⟩ := hR
    refine lv_iadd hx hb dX10_cells_31 ?_
    refine hw_ti (nI_add _ _) ?_
    refine lv_istore_n (lv' := [(1, .int (nI ((hb_sm (fun k => hb_pc (C k)) i) + (hb_pc (C i))))), (5, .long (C i)), (4, .int (nI i)), (3, .int (nI 8)), (2, .ref ca), (0, .ref a)]) hx hb dX10_cells_32 rfl hl (by decide) rfl (fun ls hl => ?_)
    refine lv_iinc (v := nI (i + 1)) (lv' := [(4, .int (nI (i + 1))), (1, .int (nI ((hb_sm (fun k => hb_pc (C k)) i) + (hb_pc (C i))))), (5, .long (C i)), (3, .int (nI 8)), (2, .ref ca), (0, .ref a)]) hx hb dX10_cells_33 hl (k := 2) rfl (hw_inc _) (by decide) rfl (fun ls hl => ?_)
    refine lv_goto (tgt := 13) hx hb dX10_cells_36 (by decide) ?_
    exact ih13 _ _ _ hI (lv_sub hl [1, 0, 3, 4, 5] rfl)

set_option maxHeartbeats 4000000 in
set_option maxRecDepth 100000 in
theorem m_X10_hangs (l : Launch) (Z : hw_Z) (M : hw_M) (a : Nat) (ca : Nat) (C : Nat → Int64) (k : Nat) (h0 : M a = hw_ob 11 [.ref ca]) (h1 : M ca = hw_al Z 8 C) (hk8 : k < 8) : Met l yX10_hangs (hw_m yX10_hangs cX10_hangs 2 (some .long)) ({ frames := 2, cells := 0, slots := 0, locals := 50 } : Room) (va_Pc [.ref a, .int (nI k)] (hw_P Z M)) (hw_Ql Z (fun r M' => hb_hang C k = r ∧ M = M')) 0 0 (hw_A Z) := by
  refine hw_ofl (by decide +kernel) rfl (Nat.le_of_ble_eq_true rfl) ?_
  intro p e s m below meth c ls Q hx hb hml hown hts hk hnm hI hl hret
  refine lv_iload_n hx hb dX10_hangs_0 rfl (lv_at hl 1 rfl) ?_
  refine lv_if_ne (tgt := 8) hx hb dX10_hangs_1 (by decide) (fun c1 => ?_) (fun c1 => ?_)
  · have hk0 : 0 < k := Nat.pos_of_ne_zero (fun q => c1 (by rw [q]; rfl))
    refine lv_aload_n hx hb dX10_hangs_8 rfl (lv_at hl 0 rfl) ?_
    refine hw_get hx hb hts hown hk hI fd_X10_9 h0 rfl dX10_hangs_9 ?_
    refine lv_iload_n hx hb dX10_hangs_12 rfl (lv_at hl 1 rfl) ?_
    refine hw_lald hx hb hk hI h1 (j := k) rfl (by omega) (by decide) dX10_hangs_13 ?_
    refine lv_aload_n hx hb dX10_hangs_14 rfl (lv_at hl 0 rfl) ?_
    refine hw_get hx hb hts hown hk hI fd_X10_9 h0 rfl dX10_hangs_15 ?_
    refine lv_iload_n hx hb dX10_hangs_18 rfl (lv_at hl 1 rfl) ?_
    refine lv_iconst (v := nI 1) hx hb dX10_hangs_19 (by decide) ?_
    refine lv_isub hx hb dX10_hangs_20 ?_
    refine hw_ti (pk_sub (by omega)) ?_
    refine hw_lald hx hb hk hI h1 (j := (k - 1)) rfl (by omega) (by decide) dX10_hangs_21 ?_
    refine hw_cl' hI (hw_rSN hx hb hml hown hts hk hI (m_X11_grown l Z M (C (k - 1))) cn_X10_19 ⟨rfl, rfl⟩ ⟨(Nat.le_of_ble_eq_true rfl), (Nat.le_of_ble_eq_true rfl)⟩ rfl hl.1 rfl (Nat.le_of_ble_eq_true rfl) ⟨(Nat.le_of_ble_eq_true rfl), (Nat.le_of_ble_eq_true rfl)⟩ dX10_hangs_22) (fun r22 M22 H locs hR hI => ?_)
    obtain ⟨rfl, rfl⟩ := hR
    refine lv_ldc2 (v := (-1)) hx hb hown (hts _ (hw_win (w := .constantLong RX10 23 (-1)) (by decide +kernel) (by decide +kernel))) dX10_hangs_25 ?_
    refine lv_lxor hx hb dX10_hangs_28 ?_
    refine lv_land hx hb dX10_hangs_29 ?_
    exact hret hI (⟨(hb_hg C hk0).symm, rfl⟩) (Nat.le_of_ble_eq_true rfl) (Nat.le_of_ble_eq_true rfl) dX10_hangs_30
  · refine lv_lconst (v := 0) hx hb dX10_hangs_4 (by decide) ?_
    refine lv_goto (tgt := 30) hx hb dX10_hangs_5 (by decide) ?_
    exact hret hI (⟨by unfold hb_hang; rw [if_neg (by have := (nI_eq (a := k) (b := 0) (by omega) (by omega)).mp c1; omega)], rfl⟩) (Nat.le_of_ble_eq_true rfl) (Nat.le_of_ble_eq_true rfl) dX10_hangs_30

set_option maxHeartbeats 4000000 in
set_option maxRecDepth 100000 in
theorem m_X10_hangs_ (l : Launch) (Z : hw_Z) (M : hw_M) (a : Nat) (ca : Nat) (C : Nat → Int64) (h0 : M a = hw_ob 11 [.ref ca]) (h1 : M ca = hw_al Z 8 C) : Met l yX10_hangs_ (hw_m yX10_hangs_ cX10_hangs_ 3 (some .int)) ({ frames := 3, cells := 0, slots := 0, locals := 80 } : Room) (va_Pc [.ref a] (hw_P Z M)) (hw_Qi Z (fun r M' => nI (hb_sm (fun k => hb_pc (hb_hang C k)) 8) = r ∧ M = M')) 0 0 (hw_A Z) := by
  refine hw_ofi (by decide +kernel) rfl (Nat.le_of_ble_eq_true rfl) ?_
  intro p e s m below meth c ls Q hx hb hml hown hts hk hnm hI hl hret
  refine lv_iconst (v := nI 0) hx hb dX10_hangs__0 (by decide) ?_
  refine lv_istore_n (lv' := [(1, .int (nI 0)), (0, .ref a)]) hx hb dX10_hangs__1 rfl hl (by decide) rfl (fun ls hl => ?_)
  refine lv_iconst (v := nI 0) hx hb dX10_hangs__2 (by decide) ?_
  refine lv_istore_n (lv' := [(2, .int (nI 0)), (1, .int (nI 0)), (0, .ref a)]) hx hb dX10_hangs__3 rfl hl (by decide) rfl (fun ls hl => ?_)
  suffices LP4 : ∀ i, i ≤ 8 → ∀ (H : Heap) (locs : List Loc) (ls : Array Slot), hw_iv Z s (M) H locs → lv_has ls 3 [(1, .int (nI (hb_sm (fun k => hb_pc (hb_hang C k)) i))), (2, .int (nI i)), (0, .ref a)] → W p l e ({ frames := 3, cells := 0, slots := 0, locals := 80 } : Room) s m ([.ref a] : List Value).toArray below meth c H locs 0 0 Q (F0 m 4 ls []) from LP4 0 (by omega) _ _ _ hI (lv_sub hl [1, 0, 2] rfl)
  refine hw_loop ?_ (fun i hi4 ih4 => ?_)
  · intro H locs ls hI hl
    refine lv_iload_n hx hb dX10_hangs__4 rfl (lv_at hl 1 rfl) ?_
    refine lv_bipush (v := nI 8) hx hb dX10_hangs__5 (by decide) ?_
    refine lv_icmp_ge (tgt := 27) hx hb dX10_hangs__7 (by decide) (fun _ => ?_) (fun hc => absurd (Int32.le_refl _) hc)
    refine lv_iload_n hx hb dX10_hangs__27 rfl (lv_at hl 0 rfl) ?_
    exact hret hI (⟨rfl, rfl⟩) (Nat.le_of_ble_eq_true rfl) (Nat.le_of_ble_eq_true rfl) dX10_hangs__28
  · intro H locs ls hI hl
    refine lv_iload_n hx hb dX10_hangs__4 rfl (lv_at hl 1 rfl) ?_
    refine lv_bipush (v := nI 8) hx hb dX10_hangs__5 (by decide) ?_
    refine lv_icmp_ge (tgt := 27) hx hb dX10_hangs__7 (by decide) (fun hc => absurd hc (nI_ge hi4 (by decide))) (fun _ => ?_)
    refine lv_iload_n hx hb dX10_hangs__10 rfl (lv_at hl 0 rfl) ?_
    refine lv_aload_n hx hb dX10_hangs__11 rfl (lv_at hl 2 rfl) ?_
    refine lv_iload_n hx hb dX10_hangs__12 rfl (lv_at hl 1 rfl) ?_
    refine hw_cl' hI (hw_rV hx hb hml hown hts hk hI (m_X10_hangs l Z M a ca C i h0 h1 (by omega)) cv_X10_25 h0 rfl rfl ⟨rfl, rfl⟩ ⟨(Nat.le_of_ble_eq_true rfl), (Nat.le_of_ble_eq_true rfl)⟩ rfl hl.1 rfl (Nat.le_of_ble_eq_true rfl) ⟨(Nat.le_of_ble_eq_true rfl), (Nat.le_of_ble_eq_true rfl)⟩ dX10_hangs__13) (fun r13 M13 H locs hR hI => ?_)
    obtain ⟨rfl, rfl⟩ := hR
    refine hw_ci hI (hw_rSN hx hb hml hown hts hk hI (m_X11_size l Z M (hb_hang C i)) cn_X10_15 ⟨rfl, rfl⟩ ⟨(Nat.le_of_ble_eq_true rfl), (Nat.le_of_ble_eq_true rfl)⟩ rfl hl.1 rfl (Nat.le_of_ble_eq_true rfl) ⟨(Nat.le_of_ble_eq_true rfl), (Nat.le_of_ble_eq_true rfl)⟩ dX10_hangs__16) (fun r16 M16 H locs hR hI => ?_)
    obtain ⟨rfl, rfl⟩ := hR
    refine lv_iadd hx hb dX10_hangs__19 ?_
    refine hw_ti (nI_add _ _) ?_
    refine lv_istore_n (lv' := [(1, .int (nI ((hb_sm (fun k => hb_pc (hb_hang C k)) i) + (hb_pc (hb_hang C i))))), (2, .int (nI i)), (0, .ref a)]) hx hb dX10_hangs__20 rfl hl (by decide) rfl (fun ls hl => ?_)
    refine lv_iinc (v := nI (i + 1)) (lv' := [(2, .int (nI (i + 1))), (1, .int (nI ((hb_sm (fun k => hb_pc (hb_hang C k)) i) + (hb_pc (hb_hang C i))))), (0, .ref a)]) hx hb dX10_hangs__21 hl (k := 1) rfl (hw_inc _) (by decide) rfl (fun ls hl => ?_)
    refine lv_goto (tgt := 4) hx hb dX10_hangs__24 (by decide) ?_
    exact ih4 _ _ _ hI (lv_sub hl [1, 0, 2] rfl)

set_option maxHeartbeats 4000000 in
set_option maxRecDepth 100000 in
theorem m_X10_support (l : Launch) (Z : hw_Z) (M : hw_M) (a : Nat) (ca : Nat) (C : Nat → Int64) (k : Nat) (h0 : M a = hw_ob 11 [.ref ca]) (h1 : M ca = hw_al Z 8 C) (hk8 : k < 8) : Met l yX10_support (hw_m yX10_support cX10_support 5 (some .long)) ({ frames := 3, cells := 0, slots := 0, locals := 80 } : Room) (va_Pc [.ref a, .int (nI k)] (hw_P Z M)) (hw_Ql Z (fun r M' => hb_supp C k = r ∧ M = M')) 0 0 (hw_A Z) := by
  refine hw_ofl (by decide +kernel) rfl (Nat.le_of_ble_eq_true rfl) ?_
  intro p e s m below meth c ls Q hx hb hml hown hts hk hnm hI hl hret
  refine lv_lconst (v := 0) hx hb dX10_support_0 (by decide) ?_
  refine lv_lstore_n (lv' := [(2, .long 0), (0, .ref a), (1, .int (nI k))]) hx hb dX10_support_1 rfl hl (by decide) rfl (fun ls hl => ?_)
  refine lv_bipush (v := nI 7) hx hb dX10_support_2 (by decide) ?_
  refine lv_istore (lv' := [(4, .int (nI 7)), (2, .long 0), (0, .ref a), (1, .int (nI k))]) hx hb dX10_support_4 hl (by decide) rfl (fun ls hl => ?_)
  suffices LP6 : ∀ i, i ≤ (7 - k) → ∀ (H : Heap) (locs : List Loc) (ls : Array Slot), hw_iv Z s (M) H locs → lv_has ls 5 [(2, .long (hb_hm C i)), (4, .int (nI (7 - i))), (0, .ref a), (1, .int (nI k))] → W p l e ({ frames := 3, cells := 0, slots := 0, locals := 80 } : Room) s m ([.ref a, .int (nI k)] : List Value).toArray below meth c H locs 0 0 Q (F0 m 6 ls []) from LP6 0 (by omega) _ _ _ hI (lv_sub hl [1, 0, 2, 3] rfl)
  refine hw_loop ?_ (fun i hi6 ih6 => ?_)
  · intro H locs ls hI hl
    refine lv_iload hx hb dX10_support_6 (lv_at hl 1 rfl) ?_
    refine lv_iload_n hx hb dX10_support_8 rfl (lv_at hl 3 rfl) ?_
    refine lv_icmp_le (tgt := 39) hx hb dX10_support_9 (by decide) (fun _ => ?_) (fun hc => absurd (nI_le (by omega) (by omega)) hc)
    refine lv_lload_n hx hb dX10_support_39 rfl (lv_at hl 0 rfl) ?_
    refine lv_aload_n hx hb dX10_support_40 rfl (lv_at hl 2 rfl) ?_
    refine hw_get hx hb hts hown hk hI fd_X10_9 h0 rfl dX10_support_41 ?_
    refine lv_iload_n hx hb dX10_support_44 rfl (lv_at hl 3 rfl) ?_
    refine hw_lald hx hb hk hI h1 (j := k) rfl (by omega) (by decide) dX10_support_45 ?_
    refine lv_ldc2 (v := (-1)) hx hb hown (hts _ (hw_win (w := .constantLong RX10 23 (-1)) (by decide +kernel) (by decide +kernel))) dX10_support_46 ?_
    refine lv_lxor hx hb dX10_support_49 ?_
    refine lv_land hx hb dX10_support_50 ?_
    exact hret hI (⟨(hb_hm_supp C hk8).symm, rfl⟩) (Nat.le_of_ble_eq_true rfl) (Nat.le_of_ble_eq_true rfl) dX10_support_51
  · intro H locs ls hI hl
    refine lv_iload hx hb dX10_support_6 (lv_at hl 1 rfl) ?_
    refine lv_iload_n hx hb dX10_support_8 rfl (lv_at hl 3 rfl) ?_
    refine lv_icmp_le (tgt := 39) hx hb dX10_support_9 (by decide) (fun hc => absurd hc (nI_ge (by omega) (by omega))) (fun _ => ?_)
    refine lv_aload_n hx hb dX10_support_12 rfl (lv_at hl 2 rfl) ?_
    refine lv_iload hx hb dX10_support_13 (lv_at hl 1 rfl) ?_
    refine hw_cl' hI (hw_rV hx hb hml hown hts hk hI (m_X10_hangs l Z M a ca C (7 - i) h0 h1 (by omega)) cv_X10_25 h0 rfl rfl ⟨rfl, rfl⟩ ⟨(Nat.le_of_ble_eq_true rfl), (Nat.le_of_ble_eq_true rfl)⟩ rfl hl.1 rfl (Nat.le_of_ble_eq_true rfl) ⟨(Nat.le_of_ble_eq_true rfl), (Nat.le_of_ble_eq_true rfl)⟩ dX10_support_15) (fun r15 M15 H locs hR hI => ?_)
    obtain ⟨rfl, rfl⟩ := hR
    refine lv_lload_n hx hb dX10_support_18 rfl (lv_at hl 0 rfl) ?_
    refine lv_aload_n hx hb dX10_support_19 rfl (lv_at hl 2 rfl) ?_
    refine hw_get hx hb hts hown hk hI fd_X10_9 h0 rfl dX10_support_20 ?_
    refine lv_iload hx hb dX10_support_23 (lv_at hl 1 rfl) ?_
    refine hw_lald hx hb hk hI h1 (j := (7 - i)) rfl (by omega) (by decide) dX10_support_25 ?_
    refine lv_ldc2 (v := (-1)) hx hb hown (hts _ (hw_win (w := .constantLong RX10 23 (-1)) (by decide +kernel) (by decide +kernel))) dX10_support_26 ?_
    refine lv_lxor hx hb dX10_support_29 ?_
    refine lv_land hx hb dX10_support_30 ?_
    refine lv_lor hx hb dX10_support_31 ?_
    refine lv_lstore_n (lv' := [(2, .long ((hb_hang C (7 - i)) ||| ((hb_hm C i) &&& ((C (7 - i)) ^^^ (-1))))), (4, .int (nI (7 - i))), (0, .ref a), (1, .int (nI k))]) hx hb dX10_support_32 rfl hl (by decide) rfl (fun ls hl => ?_)
    refine lv_iinc (v := nI (7 - (i + 1))) (lv' := [(4, .int (nI (7 - (i + 1)))), (2, .long ((hb_hang C (7 - i)) ||| ((hb_hm C i) &&& ((C (7 - i)) ^^^ (-1))))), (0, .ref a), (1, .int (nI k))]) hx hb dX10_support_33 hl (k := 1) rfl (by rw [show 7 - i = (7 - (i + 1)) + 1 by omega]; exact pk_m1 _) (by decide) rfl (fun ls hl => ?_)
    refine lv_goto (tgt := 6) hx hb dX10_support_36 (by decide) ?_
    exact ih6 _ _ _ hI (lv_sub hl [1, 0, 2, 3] rfl)

set_option maxHeartbeats 4000000 in
set_option maxRecDepth 100000 in
theorem m_X10_supports (l : Launch) (Z : hw_Z) (M : hw_M) (a : Nat) (ca : Nat) (C : Nat → Int64) (h0 : M a = hw_ob 11 [.ref ca]) (h1 : M ca = hw_al Z 8 C) : Met l yX10_supports (hw_m yX10_supports cX10_supports 3 (some .int)) ({ frames := 4, cells := 0, slots := 0, locals := 110 } : Room) (va_Pc [.ref a] (hw_P Z M)) (hw_Qi Z (fun r M' => nI (hb_sm (fun k => hb_pc (hb_supp C k)) 8) = r ∧ M = M')) 0 0 (hw_A Z) := by
  refine hw_ofi (by decide +kernel) rfl (Nat.le_of_ble_eq_true rfl) ?_
  intro p e s m below meth c ls Q hx hb hml hown hts hk hnm hI hl hret
  refine lv_iconst (v := nI 0) hx hb dX10_supports_0 (by decide) ?_
  refine lv_istore_n (lv' := [(1, .int (nI 0)), (0, .ref a)]) hx hb dX10_supports_1 rfl hl (by decide) rfl (fun ls hl => ?_)
  refine lv_iconst (v := nI 0) hx hb dX10_supports_2 (by decide) ?_
  refine lv_istore_n (lv' := [(2, .int (nI 0)), (1, .int (nI 0)), (0, .ref a)]) hx hb dX10_supports_3 rfl hl (by decide) rfl (fun ls hl => ?_)
  suffices LP4 : ∀ i, i ≤ 8 → ∀ (H : Heap) (locs : List Loc) (ls : Array Slot), hw_iv Z s (M) H locs → lv_has ls 3 [(1, .int (nI (hb_sm (fun k => hb_pc (hb_supp C k)) i))), (2, .int (nI i)), (0, .ref a)] → W p l e ({ frames := 4, cells := 0, slots := 0, locals := 110 } : Room) s m ([.ref a] : List Value).toArray below meth c H locs 0 0 Q (F0 m 4 ls []) from LP4 0 (by omega) _ _ _ hI (lv_sub hl [1, 0, 2] rfl)
  refine hw_loop ?_ (fun i hi4 ih4 => ?_)
  · intro H locs ls hI hl
    refine lv_iload_n hx hb dX10_supports_4 rfl (lv_at hl 1 rfl) ?_
    refine lv_bipush (v := nI 8) hx hb dX10_supports_5 (by decide) ?_
    refine lv_icmp_ge (tgt := 27) hx hb dX10_supports_7 (by decide) (fun _ => ?_) (fun hc => absurd (Int32.le_refl _) hc)
    refine lv_iload_n hx hb dX10_supports_27 rfl (lv_at hl 0 rfl) ?_
    exact hret hI (⟨rfl, rfl⟩) (Nat.le_of_ble_eq_true rfl) (Nat.le_of_ble_eq_true rfl) dX10_supports_28
  · intro H locs ls hI hl
    refine lv_iload_n hx hb dX10_supports_4 rfl (lv_at hl 1 rfl) ?_
    refine lv_bipush (v := nI 8) hx hb dX10_supports_5 (by decide) ?_
    refine lv_icmp_ge (tgt := 27) hx hb dX10_supports_7 (by decide) (fun hc => absurd hc (nI_ge hi4 (by decide))) (fun _ => ?_)
    refine lv_iload_n hx hb dX10_supports_10 rfl (lv_at hl 0 rfl) ?_
    refine lv_aload_n hx hb dX10_supports_11 rfl (lv_at hl 2 rfl) ?_
    refine lv_iload_n hx hb dX10_supports_12 rfl (lv_at hl 1 rfl) ?_
    refine hw_cl' hI (hw_rV hx hb hml hown hts hk hI (m_X10_support l Z M a ca C i h0 h1 (by omega)) cv_X10_29 h0 rfl rfl ⟨rfl, rfl⟩ ⟨(Nat.le_of_ble_eq_true rfl), (Nat.le_of_ble_eq_true rfl)⟩ rfl hl.1 rfl (Nat.le_of_ble_eq_true rfl) ⟨(Nat.le_of_ble_eq_true rfl), (Nat.le_of_ble_eq_true rfl)⟩ dX10_supports_13) (fun r13 M13 H locs hR hI => ?_)
    obtain ⟨rfl, rfl⟩ := hR
    refine hw_ci hI (hw_rSN hx hb hml hown hts hk hI (m_X11_size l Z M (hb_supp C i)) cn_X10_15 ⟨rfl, rfl⟩ ⟨(Nat.le_of_ble_eq_true rfl), (Nat.le_of_ble_eq_true rfl)⟩ rfl hl.1 rfl (Nat.le_of_ble_eq_true rfl) ⟨(Nat.le_of_ble_eq_true rfl), (Nat.le_of_ble_eq_true rfl)⟩ dX10_supports_16) (fun r16 M16 H locs hR hI => ?_)
    obtain ⟨rfl, rfl⟩ := hR
    refine lv_iadd hx hb dX10_supports_19 ?_
    refine hw_ti (nI_add _ _) ?_
    refine lv_istore_n (lv' := [(1, .int (nI ((hb_sm (fun k => hb_pc (hb_supp C k)) i) + (hb_pc (hb_supp C i))))), (2, .int (nI i)), (0, .ref a)]) hx hb dX10_supports_20 rfl hl (by decide) rfl (fun ls hl => ?_)
    refine lv_iinc (v := nI (i + 1)) (lv' := [(2, .int (nI (i + 1))), (1, .int (nI ((hb_sm (fun k => hb_pc (hb_supp C k)) i) + (hb_pc (hb_supp C i))))), (0, .ref a)]) hx hb dX10_supports_21 hl (k := 1) rfl (hw_inc _) (by decide) rfl (fun ls hl => ?_)
    refine lv_goto (tgt := 4) hx hb dX10_supports_24 (by decide) ?_
    exact ih4 _ _ _ hI (lv_sub hl [1, 0, 2] rfl)

set_option maxHeartbeats 4000000 in
set_option maxRecDepth 100000 in
theorem m_X10_islands (l : Launch) (Z : hw_Z) (M : hw_M) (a : Nat) (ca : Nat) (C : Nat → Int64) (h0 : M a = hw_ob 11 [.ref ca]) (h1 : M ca = hw_al Z 8 C) : Met l yX10_islands (hw_m yX10_islands cX10_islands 9 (some .int)) ({ frames := 2, cells := 0, slots := 0, locals := 50 } : Room) (va_Pc [.ref a] (hw_P Z M)) (hw_Qi Z (fun r M' => nI (hb_isl C 7) = r ∧ M = M')) 0 0 (hw_A Z) := by
  refine hw_ofi (by decide +kernel) rfl (Nat.le_of_ble_eq_true rfl) ?_
  intro p e s m below meth c ls Q hx hb hml hown hts hk hnm hI hl hret
  refine lv_iconst (v := nI 0) hx hb dX10_islands_0 (by decide) ?_
  refine lv_istore_n (lv' := [(1, .int (nI 0)), (0, .ref a)]) hx hb dX10_islands_1 rfl hl (by decide) rfl (fun ls hl => ?_)
  refine lv_iconst (v := nI 1) hx hb dX10_islands_2 (by decide) ?_
  refine lv_istore_n (lv' := [(2, .int (nI 1)), (1, .int (nI 0)), (0, .ref a)]) hx hb dX10_islands_3 rfl hl (by decide) rfl (fun ls hl => ?_)
  suffices LP4 : ∀ k, k ≤ 7 → ∀ (H : Heap) (locs : List Loc) (ls : Array Slot), hw_iv Z s (M) H locs → lv_has ls 9 [(1, .int (nI (hb_isl C k))), (2, .int (nI (k + 1))), (0, .ref a)] → W p l e ({ frames := 2, cells := 0, slots := 0, locals := 50 } : Room) s m ([.ref a] : List Value).toArray below meth c H locs 0 0 Q (F0 m 4 ls []) from LP4 0 (by omega) _ _ _ hI (lv_sub hl [1, 0, 2] rfl)
  refine hw_loop ?_ (fun k hi4 ih4 => ?_)
  · intro H locs ls hI hl
    refine lv_iload_n hx hb dX10_islands_4 rfl (lv_at hl 1 rfl) ?_
    refine lv_bipush (v := nI 8) hx hb dX10_islands_5 (by decide) ?_
    refine lv_icmp_ge (tgt := 104) hx hb dX10_islands_7 (by decide) (fun _ => ?_) (fun hc => absurd (Int32.le_refl _) hc)
    refine lv_iload_n hx hb dX10_islands_104 rfl (lv_at hl 0 rfl) ?_
    exact hret hI (⟨rfl, rfl⟩) (Nat.le_of_ble_eq_true rfl) (Nat.le_of_ble_eq_true rfl) dX10_islands_105
  · intro H locs ls hI hl
    refine lv_iload_n hx hb dX10_islands_4 rfl (lv_at hl 1 rfl) ?_
    refine lv_bipush (v := nI 8) hx hb dX10_islands_5 (by decide) ?_
    refine lv_icmp_ge (tgt := 104) hx hb dX10_islands_7 (by decide) (fun hc => absurd hc (nI_ge (by omega) (by decide))) (fun _ => ?_)
    refine lv_aload_n hx hb dX10_islands_10 rfl (lv_at hl 2 rfl) ?_
    refine hw_get hx hb hts hown hk hI fd_X10_9 h0 rfl dX10_islands_11 ?_
    refine lv_iload_n hx hb dX10_islands_14 rfl (lv_at hl 1 rfl) ?_
    refine hw_lald hx hb hk hI h1 (j := (k + 1)) rfl (by omega) (by decide) dX10_islands_15 ?_
    refine lv_lstore_n (lv' := [(3, .long (C (k + 1))), (1, .int (nI (hb_isl C k))), (2, .int (nI (k + 1))), (0, .ref a)]) hx hb dX10_islands_16 rfl hl (by decide) rfl (fun ls hl => ?_)
    suffices LP17 : ∀ j, j ≤ (hb_jn (C (k + 1))) → ∀ (H : Heap) (locs : List Loc) (ls : Array Slot), hw_iv Z s (M) H locs → lv_has ls 9 [(1, .int (nI (hb_isl C k + hb_jc (C (k + 1)) (C k) j))), (3, .long (hb_jr (C (k + 1)) j)), (2, .int (nI (k + 1))), (0, .ref a)] → W p l e ({ frames := 2, cells := 0, slots := 0, locals := 50 } : Room) s m ([.ref a] : List Value).toArray below meth c H locs 0 0 Q (F0 m 17 ls []) from LP17 0 (by omega) _ _ _ hI (lv_sub hl [1, 0, 2, 3] rfl)
    refine hw_loop ?_ (fun j hi17 ih17 => ?_)
    · intro H locs ls hI hl
      refine lv_lload_n hx hb dX10_islands_17 rfl (lv_at hl 1 rfl) ?_
      refine lv_lconst (v := 0) hx hb dX10_islands_18 (by decide) ?_
      refine W.lcmp hx hb dX10_islands_19 ?_
      refine lv_if_eq (tgt := 98) hx hb dX10_islands_20 (by decide) (fun _ => ?_) (fun hc => absurd ((lg_cmp_eq _ _).mpr (hb_jn_at _)) hc)
      refine lv_iinc (v := nI (k + 1 + 1)) (lv' := [(2, .int (nI (k + 1 + 1))), (1, .int (nI (hb_isl C k + hb_jc (C (k + 1)) (C k) (hb_jn (C (k + 1)))))), (3, .long (hb_jr (C (k + 1)) (hb_jn (C (k + 1))))), (0, .ref a)]) hx hb dX10_islands_98 hl (k := 2) rfl (hw_inc _) (by decide) rfl (fun ls hl => ?_)
      refine lv_goto (tgt := 4) hx hb dX10_islands_101 (by decide) ?_
      exact ih4 _ _ _ hI (lv_sub hl [1, 0, 3] (by rw [← hb_isl_s C (show 0 < k + 1 by omega)]; rfl))
    · intro H locs ls hI hl
      refine lv_lload_n hx hb dX10_islands_17 rfl (lv_at hl 1 rfl) ?_
      refine lv_lconst (v := 0) hx hb dX10_islands_18 (by decide) ?_
      refine W.lcmp hx hb dX10_islands_19 ?_
      refine lv_if_eq (tgt := 98) hx hb dX10_islands_20 (by decide) (fun hc => absurd hc (fun q => hb_jn_lt hi17 ((lg_cmp_eq _ _).mp q))) (fun _ => ?_)
      refine lv_lload_n hx hb dX10_islands_23 rfl (lv_at hl 1 rfl) ?_
      refine lv_lload_n hx hb dX10_islands_24 rfl (lv_at hl 1 rfl) ?_
      refine lv_lneg hx hb dX10_islands_25 ?_
      refine lv_land hx hb dX10_islands_26 ?_
      refine lv_lstore (lv' := [(5, .long ((hb_jr (C (k + 1)) j) &&& (-(hb_jr (C (k + 1)) j)))), (1, .int (nI (hb_isl C k + hb_jc (C (k + 1)) (C k) j))), (3, .long (hb_jr (C (k + 1)) j)), (2, .int (nI (k + 1))), (0, .ref a)]) hx hb dX10_islands_27 hl (by decide) rfl (fun ls hl => ?_)
      refine lv_lload hx hb dX10_islands_29 (lv_at hl 0 rfl) ?_
      refine hw_cl' hI (hw_rSN hx hb hml hown hts hk hI (m_X11_grown l Z M ((hb_jr (C (k + 1)) j) &&& (-(hb_jr (C (k + 1)) j)))) cn_X10_19 ⟨rfl, rfl⟩ ⟨(Nat.le_of_ble_eq_true rfl), (Nat.le_of_ble_eq_true rfl)⟩ rfl hl.1 rfl (Nat.le_of_ble_eq_true rfl) ⟨(Nat.le_of_ble_eq_true rfl), (Nat.le_of_ble_eq_true rfl)⟩ dX10_islands_31) (fun r31 M31 H locs hR hI => ?_)
      obtain ⟨rfl, rfl⟩ := hR
      refine lv_lload_n hx hb dX10_islands_34 rfl (lv_at hl 2 rfl) ?_
      refine lv_land hx hb dX10_islands_35 ?_
      refine lv_lstore (lv' := [(7, .long ((hb_nb ((hb_jr (C (k + 1)) j) &&& (-(hb_jr (C (k + 1)) j)))) &&& (hb_jr (C (k + 1)) j))), (5, .long ((hb_jr (C (k + 1)) j) &&& (-(hb_jr (C (k + 1)) j)))), (1, .int (nI (hb_isl C k + hb_jc (C (k + 1)) (C k) j))), (3, .long (hb_jr (C (k + 1)) j)), (2, .int (nI (k + 1))), (0, .ref a)]) hx hb dX10_islands_36 hl (by decide) rfl (fun ls hl => ?_)
      suffices LP38 : ∀ n, n ≤ (hb_fn (hb_jr (C (k + 1)) j) (hb_jr (C (k + 1)) j &&& -hb_jr (C (k + 1)) j)) → ∀ (H : Heap) (locs : List Loc) (ls : Array Slot), hw_iv Z s (M) H locs → lv_has ls 9 [(5, .long (hb_fl (hb_jr (C (k + 1)) j) n (hb_jr (C (k + 1)) j &&& -hb_jr (C (k + 1)) j))), (7, .long (hb_fl (hb_jr (C (k + 1)) j) (n + 1) (hb_jr (C (k + 1)) j &&& -hb_jr (C (k + 1)) j))), (1, .int (nI (hb_isl C k + hb_jc (C (k + 1)) (C k) j))), (3, .long (hb_jr (C (k + 1)) j)), (2, .int (nI (k + 1))), (0, .ref a)] → W p l e ({ frames := 2, cells := 0, slots := 0, locals := 50 } : Room) s m ([.ref a] : List Value).toArray below meth c H locs 0 0 Q (F0 m 38 ls []) from LP38 0 (by omega) _ _ _ hI (lv_sub hl [1, 0, 2, 3, 4, 5] rfl)
      refine hw_loop ?_ (fun n hi38 ih38 => ?_)
      · intro H locs ls hI hl
        refine lv_lload hx hb dX10_islands_38 (lv_at hl 1 rfl) ?_
        refine lv_lload hx hb dX10_islands_40 (lv_at hl 0 rfl) ?_
        refine W.lcmp hx hb dX10_islands_42 ?_
        refine lv_if_eq (tgt := 62) hx hb dX10_islands_43 (by decide) (fun _ => ?_) (fun hc => absurd ((lg_cmp_eq _ _).mpr (hb_fn_at (hb_low_sub _))) hc)
        have hpa := hb_fn_part (hb_low_sub (hb_jr (C (k + 1)) j))
        rw [hpa] at hl
        refine lv_iload_n hx hb dX10_islands_62 rfl (lv_at hl 2 rfl) ?_
        refine lv_lload hx hb dX10_islands_63 (lv_at hl 0 rfl) ?_
        refine lv_aload_n hx hb dX10_islands_65 rfl (lv_at hl 5 rfl) ?_
        refine hw_get hx hb hts hown hk hI fd_X10_9 h0 rfl dX10_islands_66 ?_
        refine lv_iload_n hx hb dX10_islands_69 rfl (lv_at hl 4 rfl) ?_
        refine lv_iconst (v := nI 1) hx hb dX10_islands_70 (by decide) ?_
        refine lv_isub hx hb dX10_islands_71 ?_
        refine hw_ti (pk_sub (by omega) : nI (k + 1) - nI 1 = nI k) ?_
        refine hw_lald hx hb hk hI h1 (j := k) rfl (by omega) (by decide) dX10_islands_72 ?_
        refine lv_land hx hb dX10_islands_73 ?_
        refine lv_lconst (v := 0) hx hb dX10_islands_74 (by decide) ?_
        refine W.lcmp hx hb dX10_islands_75 ?_
        refine lv_if_ne (tgt := 83) hx hb dX10_islands_76 (by decide) (fun c76 => ?_) (fun c76 => ?_)
        · refine lv_iconst (v := nI 0) hx hb dX10_islands_83 (by decide) ?_
          refine lv_iadd hx hb dX10_islands_84 ?_
          refine hw_ti (nI_add _ _) ?_
          refine lv_istore_n (lv' := [(1, .int (nI ((hb_isl C k + hb_jc (C (k + 1)) (C k) j) + 0))), (5, .long (hb_part (hb_jr (C (k + 1)) j) (hb_jr (C (k + 1)) j &&& -hb_jr (C (k + 1)) j))), (7, .long (hb_fl (hb_jr (C (k + 1)) j) ((hb_fn (hb_jr (C (k + 1)) j) (hb_jr (C (k + 1)) j &&& -hb_jr (C (k + 1)) j)) + 1) (hb_jr (C (k + 1)) j &&& -hb_jr (C (k + 1)) j))), (3, .long (hb_jr (C (k + 1)) j)), (2, .int (nI (k + 1))), (0, .ref a)]) hx hb dX10_islands_85 rfl hl (by decide) rfl (fun ls hl => ?_)
          refine lv_lload_n hx hb dX10_islands_86 rfl (lv_at hl 3 rfl) ?_
          refine lv_lload hx hb dX10_islands_87 (lv_at hl 1 rfl) ?_
          refine lv_ldc2 (v := (-1)) hx hb hown (hts _ (hw_win (w := .constantLong RX10 23 (-1)) (by decide +kernel) (by decide +kernel))) dX10_islands_89 ?_
          refine lv_lxor hx hb dX10_islands_92 ?_
          refine lv_land hx hb dX10_islands_93 ?_
          refine lv_lstore_n (lv' := [(3, .long ((hb_jr (C (k + 1)) j) &&& ((hb_part (hb_jr (C (k + 1)) j) (hb_jr (C (k + 1)) j &&& -hb_jr (C (k + 1)) j)) ^^^ (-1)))), (1, .int (nI ((hb_isl C k + hb_jc (C (k + 1)) (C k) j) + 0))), (5, .long (hb_part (hb_jr (C (k + 1)) j) (hb_jr (C (k + 1)) j &&& -hb_jr (C (k + 1)) j))), (7, .long (hb_fl (hb_jr (C (k + 1)) j) ((hb_fn (hb_jr (C (k + 1)) j) (hb_jr (C (k + 1)) j &&& -hb_jr (C (k + 1)) j)) + 1) (hb_jr (C (k + 1)) j &&& -hb_jr (C (k + 1)) j))), (2, .int (nI (k + 1))), (0, .ref a)]) hx hb dX10_islands_94 rfl hl (by decide) rfl (fun ls hl => ?_)
          refine lv_goto (tgt := 17) hx hb dX10_islands_95 (by decide) ?_
          exact ih17 _ _ _ hI (lv_sub hl [1, 0, 4, 5] (by rw [show hb_jc (C (k + 1)) (C k) (j + 1) = hb_jc (C (k + 1)) (C k) j + 0 from congrArg (hb_jc (C (k + 1)) (C k) j + ·) (if_neg (hw_cm c76))]; rfl))
        · refine lv_iconst (v := nI 1) hx hb dX10_islands_79 (by decide) ?_
          refine lv_goto (tgt := 84) hx hb dX10_islands_80 (by decide) ?_
          refine lv_iadd hx hb dX10_islands_84 ?_
          refine hw_ti (nI_add _ _) ?_
          refine lv_istore_n (lv' := [(1, .int (nI ((hb_isl C k + hb_jc (C (k + 1)) (C k) j) + 1))), (5, .long (hb_part (hb_jr (C (k + 1)) j) (hb_jr (C (k + 1)) j &&& -hb_jr (C (k + 1)) j))), (7, .long (hb_fl (hb_jr (C (k + 1)) j) ((hb_fn (hb_jr (C (k + 1)) j) (hb_jr (C (k + 1)) j &&& -hb_jr (C (k + 1)) j)) + 1) (hb_jr (C (k + 1)) j &&& -hb_jr (C (k + 1)) j))), (3, .long (hb_jr (C (k + 1)) j)), (2, .int (nI (k + 1))), (0, .ref a)]) hx hb dX10_islands_85 rfl hl (by decide) rfl (fun ls hl => ?_)
          refine lv_lload_n hx hb dX10_islands_86 rfl (lv_at hl 3 rfl) ?_
          refine lv_lload hx hb dX10_islands_87 (lv_at hl 1 rfl) ?_
          refine lv_ldc2 (v := (-1)) hx hb hown (hts _ (hw_win (w := .constantLong RX10 23 (-1)) (by decide +kernel) (by decide +kernel))) dX10_islands_89 ?_
          refine lv_lxor hx hb dX10_islands_92 ?_
          refine lv_land hx hb dX10_islands_93 ?_
          refine lv_lstore_n (lv' := [(3, .long ((hb_jr (C (k + 1)) j) &&& ((hb_part (hb_jr (C (k + 1)) j) (hb_jr (C (k + 1)) j &&& -hb_jr (C (k + 1)) j)) ^^^ (-1)))), (1, .int (nI ((hb_isl C k + hb_jc (C (k + 1)) (C k) j) + 1))), (5, .long (hb_part (hb_jr (C (k + 1)) j) (hb_jr (C (k + 1)) j &&& -hb_jr (C (k + 1)) j))), (7, .long (hb_fl (hb_jr (C (k + 1)) j) ((hb_fn (hb_jr (C (k + 1)) j) (hb_jr (C (k + 1)) j &&& -hb_jr (C (k + 1)) j)) + 1) (hb_jr (C (k + 1)) j &&& -hb_jr (C (k + 1)) j))), (2, .int (nI (k + 1))), (0, .ref a)]) hx hb dX10_islands_94 rfl hl (by decide) rfl (fun ls hl => ?_)
          refine lv_goto (tgt := 17) hx hb dX10_islands_95 (by decide) ?_
          exact ih17 _ _ _ hI (lv_sub hl [1, 0, 4, 5] (by rw [show hb_jc (C (k + 1)) (C k) (j + 1) = hb_jc (C (k + 1)) (C k) j + 1 from congrArg (hb_jc (C (k + 1)) (C k) j + ·) (if_pos (hw_cn c76))]; rfl))
      · intro H locs ls hI hl
        refine lv_lload hx hb dX10_islands_38 (lv_at hl 1 rfl) ?_
        refine lv_lload hx hb dX10_islands_40 (lv_at hl 0 rfl) ?_
        refine W.lcmp hx hb dX10_islands_42 ?_
        refine lv_if_eq (tgt := 62) hx hb dX10_islands_43 (by decide) (fun hc => absurd hc (fun q => hb_fn_lt hi38 ((lg_cmp_eq _ _).mp q))) (fun _ => ?_)
        refine lv_lload hx hb dX10_islands_46 (lv_at hl 1 rfl) ?_
        refine lv_lstore (lv' := [(5, .long (hb_fl (hb_jr (C (k + 1)) j) (n + 1) (hb_jr (C (k + 1)) j &&& -hb_jr (C (k + 1)) j))), (7, .long (hb_fl (hb_jr (C (k + 1)) j) (n + 1) (hb_jr (C (k + 1)) j &&& -hb_jr (C (k + 1)) j))), (1, .int (nI (hb_isl C k + hb_jc (C (k + 1)) (C k) j))), (3, .long (hb_jr (C (k + 1)) j)), (2, .int (nI (k + 1))), (0, .ref a)]) hx hb dX10_islands_48 hl (by decide) rfl (fun ls hl => ?_)
        refine lv_lload hx hb dX10_islands_50 (lv_at hl 0 rfl) ?_
        refine hw_cl' hI (hw_rSN hx hb hml hown hts hk hI (m_X11_grown l Z M (hb_fl (hb_jr (C (k + 1)) j) (n + 1) (hb_jr (C (k + 1)) j &&& -hb_jr (C (k + 1)) j))) cn_X10_19 ⟨rfl, rfl⟩ ⟨(Nat.le_of_ble_eq_true rfl), (Nat.le_of_ble_eq_true rfl)⟩ rfl hl.1 rfl (Nat.le_of_ble_eq_true rfl) ⟨(Nat.le_of_ble_eq_true rfl), (Nat.le_of_ble_eq_true rfl)⟩ dX10_islands_52) (fun r52 M52 H locs hR hI => ?_)
        obtain ⟨rfl, rfl⟩ := hR
        refine lv_lload_n hx hb dX10_islands_55 rfl (lv_at hl 3 rfl) ?_
        refine lv_land hx hb dX10_islands_56 ?_
        refine lv_lstore (lv' := [(7, .long ((hb_nb (hb_fl (hb_jr (C (k + 1)) j) (n + 1) (hb_jr (C (k + 1)) j &&& -hb_jr (C (k + 1)) j))) &&& (hb_jr (C (k + 1)) j))), (5, .long (hb_fl (hb_jr (C (k + 1)) j) (n + 1) (hb_jr (C (k + 1)) j &&& -hb_jr (C (k + 1)) j))), (1, .int (nI (hb_isl C k + hb_jc (C (k + 1)) (C k) j))), (3, .long (hb_jr (C (k + 1)) j)), (2, .int (nI (k + 1))), (0, .ref a)]) hx hb dX10_islands_57 hl (by decide) rfl (fun ls hl => ?_)
        refine lv_goto (tgt := 38) hx hb dX10_islands_59 (by decide) ?_
        exact ih38 _ _ _ hI (lv_sub hl [1, 0, 2, 3, 4, 5] rfl)
