theorem iw_X4 : ∀ w ∈ u_ws RX4 TX4 3, w ∈ hw_ws := fun w h => hw_win ((by decide +kernel : ∀ w ∈ u_ws RX4 TX4 3, w ∈ lw_tbl) w h) ((by decide +kernel : ∀ w ∈ u_ws RX4 TX4 3, goodWord w = true) w h)
theorem fd_X4_9 : hw_FD RX4 9 5 0 := ⟨RX4, TX4, 3, "MeltPool$Solid", rfl, by decide, iw_X4, (hw_win (w := .fieldLink RX4 9 "MeltPool$Solid" (TX4 0).2.1 (TX4 0).2.2.1) (by decide +kernel) (by decide +kernel)), Or.inl rfl⟩
theorem cb_J13_bitCount_95d88 (own : String) (index : Nat) : hw_CB own index yJ13_bitCount_95d88 cJ13_bitCount_95d88 2 (some .int) 1 := ⟨⟨by decide +kernel, by decide +kernel, by decide +kernel⟩, (hw_win (w := .code yJ13_bitCount_95d88 cJ13_bitCount_95d88 2 (some .int)) (by decide +kernel) (by decide +kernel)), (hw_win (w := .initialized yJ13_bitCount_95d88.cls) (by decide +kernel) (by decide +kernel))⟩
theorem cs_X4_53 : hw_CS RX4 53 yJ13_bitCount_95d88 cJ13_bitCount_95d88 2 (some .int) 1 := ⟨cb_J13_bitCount_95d88 _ _, (hw_win (w := .methodLink RX4 53 yJ13_bitCount_95d88) (by decide +kernel) (by decide +kernel)), (hw_win (w := .static yJ13_bitCount_95d88) (by decide +kernel) (by decide +kernel))⟩
theorem cb_X4_countOf (own : String) (index : Nat) : hw_CB own index yX4_countOf cX4_countOf 3 (some .int) 1 := ⟨⟨by decide +kernel, by decide +kernel, by decide +kernel⟩, (hw_win (w := .code yX4_countOf cX4_countOf 3 (some .int)) (by decide +kernel) (by decide +kernel)), (hw_win (w := .initialized yX4_countOf.cls) (by decide +kernel) (by decide +kernel))⟩
theorem cs_X4_59 : hw_CS RX4 59 yX4_countOf cX4_countOf 3 (some .int) 1 := ⟨cb_X4_countOf _ _, (hw_win (w := .methodLink RX4 59 yX4_countOf) (by decide +kernel) (by decide +kernel)), (hw_win (w := .static yX4_countOf) (by decide +kernel) (by decide +kernel))⟩
theorem fd_X4_15 : hw_FD RX4 15 5 1 := ⟨RX4, TX4, 3, "MeltPool$Solid", rfl, by decide, iw_X4, (hw_win (w := .fieldLink RX4 15 "MeltPool$Solid" (TX4 1).2.1 (TX4 1).2.2.1) (by decide +kernel) (by decide +kernel)), Or.inl rfl⟩
theorem fd_X4_18 : hw_FD RX4 18 5 2 := ⟨RX4, TX4, 3, "MeltPool$Solid", rfl, by decide, iw_X4, (hw_win (w := .fieldLink RX4 18 "MeltPool$Solid" (TX4 2).2.1 (TX4 2).2.2.1) (by decide +kernel) (by decide +kernel)), Or.inl rfl⟩
theorem cb_X4_withNeighbours (own : String) (index : Nat) : hw_CB own index yX4_withNeighbours cX4_withNeighbours 2 (some .long) 1 := ⟨⟨by decide +kernel, by decide +kernel, by decide +kernel⟩, (hw_win (w := .code yX4_withNeighbours cX4_withNeighbours 2 (some .long)) (by decide +kernel) (by decide +kernel)), (hw_win (w := .initialized yX4_withNeighbours.cls) (by decide +kernel) (by decide +kernel))⟩
theorem cs_X4_47 : hw_CS RX4 47 yX4_withNeighbours cX4_withNeighbours 2 (some .long) 1 := ⟨cb_X4_withNeighbours _ _, (hw_win (w := .methodLink RX4 47 yX4_withNeighbours) (by decide +kernel) (by decide +kernel)), (hw_win (w := .static yX4_withNeighbours) (by decide +kernel) (by decide +kernel))⟩
theorem cb_X4_partOf (own : String) (index : Nat) : hw_CB own index yX4_partOf cX4_partOf 9 (some .long) 2 := ⟨⟨by decide +kernel, by decide +kernel, by decide +kernel⟩, (hw_win (w := .code yX4_partOf cX4_partOf 9 (some .long)) (by decide +kernel) (by decide +kernel)), (hw_win (w := .initialized yX4_partOf.cls) (by decide +kernel) (by decide +kernel))⟩
theorem cs_X4_67 : hw_CS RX4 67 yX4_partOf cX4_partOf 9 (some .long) 2 := ⟨cb_X4_partOf _ _, (hw_win (w := .methodLink RX4 67 yX4_partOf) (by decide +kernel) (by decide +kernel)), (hw_win (w := .static yX4_partOf) (by decide +kernel) (by decide +kernel))⟩
theorem cb_X4_islandsOf (own : String) (index : Nat) : hw_CB own index yX4_islandsOf cX4_islandsOf 10 (some .int) 2 := ⟨⟨by decide +kernel, by decide +kernel, by decide +kernel⟩, (hw_win (w := .code yX4_islandsOf cX4_islandsOf 10 (some .int)) (by decide +kernel) (by decide +kernel)), (hw_win (w := .initialized yX4_islandsOf.cls) (by decide +kernel) (by decide +kernel))⟩
theorem cs_X4_63 : hw_CS RX4 63 yX4_islandsOf cX4_islandsOf 10 (some .int) 2 := ⟨cb_X4_islandsOf _ _, (hw_win (w := .methodLink RX4 63 yX4_islandsOf) (by decide +kernel) (by decide +kernel)), (hw_win (w := .static yX4_islandsOf) (by decide +kernel) (by decide +kernel))⟩
theorem cb_X4_put (own : String) (index : Nat) : hw_CB own index yX4_put cX4_put 4 none 3 := ⟨⟨by decide +kernel, by decide +kernel, by decide +kernel⟩, (hw_win (w := .code yX4_put cX4_put 4 none) (by decide +kernel) (by decide +kernel)), (hw_win (w := .initialized yX4_put.cls) (by decide +kernel) (by decide +kernel))⟩
theorem cv_X4_43 : hw_CV RX4 43 yX4_put cX4_put 4 none 3 := ⟨cb_X4_put _ _, (hw_win (w := .methodLink RX4 43 yX4_put) (by decide +kernel) (by decide +kernel)), (hw_win (w := .instanceMethod yX4_put) (by decide +kernel) (by decide +kernel)), (hw_win (w := .selects yX4_put.cls yX4_put yX4_put) (by decide +kernel) (by decide +kernel))⟩
theorem cb_X4_reckonSets (own : String) (index : Nat) : hw_CB own index yX4_reckonSets cX4_reckonSets 6 none 0 := ⟨⟨by decide +kernel, by decide +kernel, by decide +kernel⟩, (hw_win (w := .code yX4_reckonSets cX4_reckonSets 6 none) (by decide +kernel) (by decide +kernel)), (hw_win (w := .initialized yX4_reckonSets.cls) (by decide +kernel) (by decide +kernel))⟩
theorem cv_X4_21 : hw_CV RX4 21 yX4_reckonSets cX4_reckonSets 6 none 0 := ⟨cb_X4_reckonSets _ _, (hw_win (w := .methodLink RX4 21 yX4_reckonSets) (by decide +kernel) (by decide +kernel)), (hw_win (w := .instanceMethod yX4_reckonSets) (by decide +kernel) (by decide +kernel)), (hw_win (w := .selects yX4_reckonSets.cls yX4_reckonSets yX4_reckonSets) (by decide +kernel) (by decide +kernel))⟩
theorem cb_J7_fill_d0a16 (own : String) (index : Nat) : hw_CB own index yJ7_fill_d0a16 cJ7_fill_d0a16 5 none 2 := ⟨⟨by decide +kernel, by decide +kernel, by decide +kernel⟩, (hw_win (w := .code yJ7_fill_d0a16 cJ7_fill_d0a16 5 none) (by decide +kernel) (by decide +kernel)), (hw_win (w := .initialized yJ7_fill_d0a16.cls) (by decide +kernel) (by decide +kernel))⟩
theorem cs_X4_30 : hw_CS RX4 30 yJ7_fill_d0a16 cJ7_fill_d0a16 5 none 2 := ⟨cb_J7_fill_d0a16 _ _, (hw_win (w := .methodLink RX4 30 yJ7_fill_d0a16) (by decide +kernel) (by decide +kernel)), (hw_win (w := .static yJ7_fill_d0a16) (by decide +kernel) (by decide +kernel))⟩
theorem cb_X4_lower (own : String) (index : Nat) : hw_CB own index yX4_lower cX4_lower 3 none 0 := ⟨⟨by decide +kernel, by decide +kernel, by decide +kernel⟩, (hw_win (w := .code yX4_lower cX4_lower 3 none) (by decide +kernel) (by decide +kernel)), (hw_win (w := .initialized yX4_lower.cls) (by decide +kernel) (by decide +kernel))⟩
theorem cv_X4_40 : hw_CV RX4 40 yX4_lower cX4_lower 3 none 0 := ⟨cb_X4_lower _ _, (hw_win (w := .methodLink RX4 40 yX4_lower) (by decide +kernel) (by decide +kernel)), (hw_win (w := .instanceMethod yX4_lower) (by decide +kernel) (by decide +kernel)), (hw_win (w := .selects yX4_lower.cls yX4_lower yX4_lower) (by decide +kernel) (by decide +kernel))⟩
theorem cb_X4_putLaid (own : String) (index : Nat) : hw_CB own index yX4_putLaid cX4_putLaid 6 none 4 := ⟨⟨by decide +kernel, by decide +kernel, by decide +kernel⟩, (hw_win (w := .code yX4_putLaid cX4_putLaid 6 none) (by decide +kernel) (by decide +kernel)), (hw_win (w := .initialized yX4_putLaid.cls) (by decide +kernel) (by decide +kernel))⟩
theorem cv_X4_36 : hw_CV RX4 36 yX4_putLaid cX4_putLaid 6 none 4 := ⟨cb_X4_putLaid _ _, (hw_win (w := .methodLink RX4 36 yX4_putLaid) (by decide +kernel) (by decide +kernel)), (hw_win (w := .instanceMethod yX4_putLaid) (by decide +kernel) (by decide +kernel)), (hw_win (w := .selects yX4_putLaid.cls yX4_putLaid yX4_putLaid) (by decide +kernel) (by decide +kernel))⟩
set_option maxHeartbeats 4000000 in
set_option maxRecDepth 100000 in
theorem m_J13_bitCount_95d88 (l : Launch) (Z : hw_Z) (M : hw_M) (x : Int64) : Met l yJ13_bitCount_95d88 (hw_m yJ13_bitCount_95d88 cJ13_bitCount_95d88 2 (some .int)) ({ frames := 0, cells := 0, slots := 0, locals := 0 } : Room) (va_Pc [.long x] (hw_P Z M)) (hw_Qi Z (fun r M' => nI (hb_pc x) = r ∧ M = M')) 0 0 (hw_A Z) := by
  refine hw_ofi (by decide +kernel) rfl (Nat.le_of_ble_eq_true rfl) ?_
  intro p e s m below meth c ls Q hx hb hml hown hts hk hnm hI hl hret
  refine lv_lload_n hx hb dJ13_bitCount_95d88_0 rfl (lv_at hl 0 rfl) ?_
  refine lv_lload_n hx hb dJ13_bitCount_95d88_1 rfl (lv_at hl 0 rfl) ?_
  refine lv_iconst (v := nI 1) hx hb dJ13_bitCount_95d88_2 (by decide) ?_
  refine lv_lushr (v := hb_ushr x (nI 1)) hx hb dJ13_bitCount_95d88_3 rfl ?_
  refine lv_ldc2 (v := 6148914691236517205) hx hb hown (hts _ (hw_win (w := .constantLong RJ13 314 (6148914691236517205)) (by decide +kernel) (by decide +kernel))) dJ13_bitCount_95d88_4 ?_
  refine lv_land hx hb dJ13_bitCount_95d88_7 ?_
  refine lv_lsub hx hb dJ13_bitCount_95d88_8 ?_
  refine lv_topl (fun x1 ex1 => ?_)
  refine lv_lstore_n (lv' := [(0, .long x1)]) hx hb dJ13_bitCount_95d88_9 rfl hl (by decide) rfl (fun ls hl => ?_)
  refine lv_lload_n hx hb dJ13_bitCount_95d88_10 rfl (lv_at hl 0 rfl) ?_
  refine lv_ldc2 (v := 3689348814741910323) hx hb hown (hts _ (hw_win (w := .constantLong RJ13 316 (3689348814741910323)) (by decide +kernel) (by decide +kernel))) dJ13_bitCount_95d88_11 ?_
  refine lv_land hx hb dJ13_bitCount_95d88_14 ?_
  refine lv_lload_n hx hb dJ13_bitCount_95d88_15 rfl (lv_at hl 0 rfl) ?_
  refine lv_iconst (v := nI 2) hx hb dJ13_bitCount_95d88_16 (by decide) ?_
  refine lv_lushr (v := hb_ushr x1 (nI 2)) hx hb dJ13_bitCount_95d88_17 rfl ?_
  refine lv_ldc2 (v := 3689348814741910323) hx hb hown (hts _ (hw_win (w := .constantLong RJ13 316 (3689348814741910323)) (by decide +kernel) (by decide +kernel))) dJ13_bitCount_95d88_18 ?_
  refine lv_land hx hb dJ13_bitCount_95d88_21 ?_
  refine lv_ladd hx hb dJ13_bitCount_95d88_22 ?_
  refine lv_topl (fun x2 ex2 => ?_)
  refine lv_lstore_n (lv' := [(0, .long x2)]) hx hb dJ13_bitCount_95d88_23 rfl hl (by decide) rfl (fun ls hl => ?_)
  refine lv_lload_n hx hb dJ13_bitCount_95d88_24 rfl (lv_at hl 0 rfl) ?_
  refine lv_lload_n hx hb dJ13_bitCount_95d88_25 rfl (lv_at hl 0 rfl) ?_
  refine lv_iconst (v := nI 4) hx hb dJ13_bitCount_95d88_26 (by decide) ?_
  refine lv_lushr (v := hb_ushr x2 (nI 4)) hx hb dJ13_bitCount_95d88_27 rfl ?_
  refine lv_ladd hx hb dJ13_bitCount_95d88_28 ?_
  refine lv_ldc2 (v := 1085102592571150095) hx hb hown (hts _ (hw_win (w := .constantLong RJ13 318 (1085102592571150095)) (by decide +kernel) (by decide +kernel))) dJ13_bitCount_95d88_29 ?_
  refine lv_land hx hb dJ13_bitCount_95d88_32 ?_
  refine lv_topl (fun x3 ex3 => ?_)
  refine lv_lstore_n (lv' := [(0, .long x3)]) hx hb dJ13_bitCount_95d88_33 rfl hl (by decide) rfl (fun ls hl => ?_)
  refine lv_lload_n hx hb dJ13_bitCount_95d88_34 rfl (lv_at hl 0 rfl) ?_
  refine lv_lload_n hx hb dJ13_bitCount_95d88_35 rfl (lv_at hl 0 rfl) ?_
  refine lv_bipush (v := nI 8) hx hb dJ13_bitCount_95d88_36 (by decide) ?_
  refine lv_lushr (v := hb_ushr x3 (nI 8)) hx hb dJ13_bitCount_95d88_38 rfl ?_
  refine lv_ladd hx hb dJ13_bitCount_95d88_39 ?_
  refine lv_topl (fun x4 ex4 => ?_)
  refine lv_lstore_n (lv' := [(0, .long x4)]) hx hb dJ13_bitCount_95d88_40 rfl hl (by decide) rfl (fun ls hl => ?_)
  refine lv_lload_n hx hb dJ13_bitCount_95d88_41 rfl (lv_at hl 0 rfl) ?_
  refine lv_lload_n hx hb dJ13_bitCount_95d88_42 rfl (lv_at hl 0 rfl) ?_
  refine lv_bipush (v := nI 16) hx hb dJ13_bitCount_95d88_43 (by decide) ?_
  refine lv_lushr (v := hb_ushr x4 (nI 16)) hx hb dJ13_bitCount_95d88_45 rfl ?_
  refine lv_ladd hx hb dJ13_bitCount_95d88_46 ?_
  refine lv_topl (fun x5 ex5 => ?_)
  refine lv_lstore_n (lv' := [(0, .long x5)]) hx hb dJ13_bitCount_95d88_47 rfl hl (by decide) rfl (fun ls hl => ?_)
  refine lv_lload_n hx hb dJ13_bitCount_95d88_48 rfl (lv_at hl 0 rfl) ?_
  refine lv_lload_n hx hb dJ13_bitCount_95d88_49 rfl (lv_at hl 0 rfl) ?_
  refine lv_bipush (v := nI 32) hx hb dJ13_bitCount_95d88_50 (by decide) ?_
  refine lv_lushr (v := hb_ushr x5 (nI 32)) hx hb dJ13_bitCount_95d88_52 rfl ?_
  refine lv_ladd hx hb dJ13_bitCount_95d88_53 ?_
  refine lv_topl (fun x6 ex6 => ?_)
  refine lv_lstore_n (lv' := [(0, .long x6)]) hx hb dJ13_bitCount_95d88_54 rfl hl (by decide) rfl (fun ls hl => ?_)
  refine lv_lload_n hx hb dJ13_bitCount_95d88_55 rfl (lv_at hl 0 rfl) ?_
  refine lv_l2i (v := x6.toInt32) hx hb dJ13_bitCount_95d88_56 rfl ?_
  refine lv_bipush (v := nI 127) hx hb dJ13_bitCount_95d88_57 (by decide) ?_
  refine lv_iand hx hb dJ13_bitCount_95d88_59 ?_
  exact hret hI (⟨(hb_swar ex1 ex2 ex3 ex4 ex5 ex6).symm, rfl⟩) (Nat.le_of_ble_eq_true rfl) (Nat.le_of_ble_eq_true rfl) dJ13_bitCount_95d88_60

set_option maxHeartbeats 4000000 in
set_option maxRecDepth 100000 in
theorem m_J7_fill_d0a16 (l : Launch) (Z : hw_Z) (M : hw_M) (a : Nat) (x : Int64) (f : Nat → Int64) (h0 : M a = hw_al Z 8 f) : Met l yJ7_fill_d0a16 (hw_m yJ7_fill_d0a16 cJ7_fill_d0a16 5 none) ({ frames := 0, cells := 0, slots := 0, locals := 0 } : Room) (va_Pc [.ref a, .long x] (hw_P Z M)) (hw_Qv Z (fun M' => va_up M a (hw_al Z 8 (fun _ => x)) = M')) 0 0 (hw_A Z) := by
  refine hw_ofv (by decide +kernel) rfl (Nat.le_of_ble_eq_true rfl) ?_
  intro p e s m below meth c ls Q hx hb hml hown hts hk hnm hI hl hret
  refine lv_iconst (v := nI 0) hx hb dJ7_fill_d0a16_0 (by decide) ?_
  refine lv_istore_n (lv' := [(3, .int (nI 0)), (0, .ref a), (1, .long x)]) hx hb dJ7_fill_d0a16_1 rfl hl (by decide) rfl (fun ls hl => ?_)
  refine lv_aload_n hx hb dJ7_fill_d0a16_2 rfl (lv_at hl 1 rfl) ?_
  refine hw_alen (v := nI 8) hx hb hk hI 1 h0 rfl rfl dJ7_fill_d0a16_3 ?_
  refine lv_istore (lv' := [(4, .int (nI 8)), (3, .int (nI 0)), (0, .ref a), (1, .long x)]) hx hb dJ7_fill_d0a16_4 hl (by decide) rfl (fun ls hl => ?_)
  suffices LP6 : ∀ i, i ≤ 8 → ∀ (H : Heap) (locs : List Loc) (ls : Array Slot), hw_iv Z s (va_up M a (hw_al Z 8 (hb_mix (fun _ => x) f i))) H locs → lv_has ls 5 [(3, .int (nI i)), (4, .int (nI 8)), (0, .ref a), (1, .long x)] → W p l e ({ frames := 0, cells := 0, slots := 0, locals := 0 } : Room) s m ([.ref a, .long x] : List Value).toArray below meth c H locs 0 0 Q (F0 m 6 ls []) from LP6 0 (by omega) _ _ _ (hI.eq (hw_id h0 (hw_alc (hb_mix_0 _ _)))) (lv_sub hl [1, 0, 2, 3] rfl)
  refine hw_loop ?_ (fun i hi6 ih6 => ?_)
  · intro H locs ls hI hl
    refine lv_iload_n hx hb dJ7_fill_d0a16_6 rfl (lv_at hl 0 rfl) ?_
    refine lv_iload hx hb dJ7_fill_d0a16_7 (lv_at hl 1 rfl) ?_
    refine lv_icmp_ge (tgt := 22) hx hb dJ7_fill_d0a16_9 (by decide) (fun _ => ?_) (fun hc => absurd (Int32.le_refl _) hc)
    have hI := (hI.exl (fun _ => x) (hw_us _ _ _) (fun j hj => hb_mix_lt hj))
    exact hret hI ((bx_uu _ _ _ _).symm) (Nat.le_of_ble_eq_true rfl) (Nat.le_of_ble_eq_true rfl) dJ7_fill_d0a16_22
  · intro H locs ls hI hl
    refine lv_iload_n hx hb dJ7_fill_d0a16_6 rfl (lv_at hl 0 rfl) ?_
    refine lv_iload hx hb dJ7_fill_d0a16_7 (lv_at hl 1 rfl) ?_
    refine lv_icmp_ge (tgt := 22) hx hb dJ7_fill_d0a16_9 (by decide) (fun hc => absurd hc (nI_ge hi6 (by decide))) (fun _ => ?_)
    refine lv_aload_n hx hb dJ7_fill_d0a16_12 rfl (lv_at hl 2 rfl) ?_
    refine lv_iload_n hx hb dJ7_fill_d0a16_13 rfl (lv_at hl 0 rfl) ?_
    refine lv_lload_n hx hb dJ7_fill_d0a16_14 rfl (lv_at hl 3 rfl) ?_
    refine hw_last hx hb hk hI (hw_us _ _ _) (j := i) rfl (by omega) (by decide) dJ7_fill_d0a16_15 (fun H locs hI => ?_)
    refine lv_iinc (v := nI (i + 1)) (lv' := [(3, .int (nI (i + 1))), (4, .int (nI 8)), (0, .ref a), (1, .long x)]) hx hb dJ7_fill_d0a16_16 hl (k := 0) rfl (hw_inc _) (by decide) rfl (fun ls hl => ?_)
    refine lv_goto (tgt := 6) hx hb dJ7_fill_d0a16_19 (by decide) ?_
    exact ih6 _ _ _ (hI.eq (hw_uu1 (hw_alc (hb_mix_s rfl)))) (lv_sub hl [0, 1, 2, 3] rfl)

set_option maxHeartbeats 4000000 in
set_option maxRecDepth 100000 in
theorem m_X4_height (l : Launch) (Z : hw_Z) (M : hw_M) (a : Nat) (ca : Nat) (ha : Nat) (sa : Nat) (C : Nat → Int64) (h0 : M a = hw_ob 5 [.ref ca, .ref ha, .ref sa]) (h1 : M ca = hw_al Z 8 C) : Met l yX4_height (hw_m yX4_height cX4_height 2 (some .int)) ({ frames := 0, cells := 0, slots := 0, locals := 0 } : Room) (va_Pc [.ref a] (hw_P Z M)) (hw_Qi Z (fun r M' => nI (hb_ht C 8) = r ∧ M = M')) 0 0 (hw_A Z) := by
  refine hw_ofi (by decide +kernel) rfl (Nat.le_of_ble_eq_true rfl) ?_
  intro p e s m below meth c ls Q hx hb hml hown hts hk hnm hI hl hret
  refine lv_bipush (v := nI 8) hx hb dX4_height_0 (by decide) ?_
  refine lv_istore_n (lv' := [(1, .int (nI 8)), (0, .ref a)]) hx hb dX4_height_2 rfl hl (by decide) rfl (fun ls hl => ?_)
  suffices LP3 : ∀ i, i ≤ 8 → ∀ (H : Heap) (locs : List Loc) (ls : Array Slot), hw_iv Z s (M) H locs → lv_has ls 2 [(1, .int (nI (8 - i))), (0, .ref a)] → hb_ht C 8 = hb_ht C (8 - i) → W p l e ({ frames := 0, cells := 0, slots := 0, locals := 0 } : Room) s m ([.ref a] : List Value).toArray below meth c H locs 0 0 Q (F0 m 3 ls []) from LP3 0 (by omega) _ _ _ hI (lv_sub hl [0, 1] rfl) rfl
  refine hw_loop ?_ (fun i hi3 ih3 => ?_)
  · intro H locs ls hI hl hJ
    refine lv_iload_n hx hb dX4_height_3 rfl (lv_at hl 0 rfl) ?_
    refine lv_if_le (tgt := 26) hx hb dX4_height_4 (by decide) (fun _ => ?_) (fun hc => absurd (show nI (8 - 8) ≤ 0 by decide) hc)
    refine lv_iload_n hx hb dX4_height_26 rfl (lv_at hl 0 rfl) ?_
    exact hret hI (⟨by rw [hJ]; rfl, rfl⟩) (Nat.le_of_ble_eq_true rfl) (Nat.le_of_ble_eq_true rfl) dX4_height_27
  · intro H locs ls hI hl hJ
    refine lv_iload_n hx hb dX4_height_3 rfl (lv_at hl 0 rfl) ?_
    refine lv_if_le (tgt := 26) hx hb dX4_height_4 (by decide) (fun hc => absurd hc (nI_nle (by omega) (by omega))) (fun _ => ?_)
    refine lv_aload_n hx hb dX4_height_7 rfl (lv_at hl 1 rfl) ?_
    refine hw_get hx hb hts hown hk hI fd_X4_9 h0 rfl dX4_height_8 ?_
    refine lv_iload_n hx hb dX4_height_11 rfl (lv_at hl 0 rfl) ?_
    refine lv_iconst (v := nI 1) hx hb dX4_height_12 (by decide) ?_
    refine lv_isub hx hb dX4_height_13 ?_
    refine hw_ti (pk_sub (by omega)) ?_
    refine hw_lald hx hb hk hI h1 (j := (8 - i - 1)) rfl (by omega) (by decide) dX4_height_14 ?_
    refine lv_lconst (v := 0) hx hb dX4_height_15 (by decide) ?_
    refine W.lcmp hx hb dX4_height_16 ?_
    refine lv_if_ne (tgt := 26) hx hb dX4_height_17 (by decide) (fun c17 => ?_) (fun c17 => ?_)
    · refine lv_iload_n hx hb dX4_height_26 rfl (lv_at hl 0 rfl) ?_
      exact hret hI (⟨by rw [hJ, show 8 - i = (8 - i - 1) + 1 by omega]; show nI (if C (8 - i - 1) = 0 then _ else _) = _; rw [if_neg (hw_cm c17)], rfl⟩) (Nat.le_of_ble_eq_true rfl) (Nat.le_of_ble_eq_true rfl) dX4_height_27
    · refine lv_iinc (v := nI (8 - (i + 1))) (lv' := [(1, .int (nI (8 - (i + 1)))), (0, .ref a)]) hx hb dX4_height_20 hl (k := 0) rfl (by rw [show 8 - i = (8 - (i + 1)) + 1 by omega]; exact pk_m1 _) (by decide) rfl (fun ls hl => ?_)
      refine lv_goto (tgt := 3) hx hb dX4_height_23 (by decide) ?_
      exact ih3 _ _ _ hI (lv_sub hl [0, 1] rfl) (by rw [hJ, show 8 - i = (8 - (i + 1)) + 1 by omega]; show (if C (8 - (i + 1)) = 0 then _ else _) = _; rw [if_pos (by rw [show 8 - (i + 1) = 8 - i - 1 by omega]; exact hw_cn c17)])

set_option maxHeartbeats 4000000 in
set_option maxRecDepth 100000 in
theorem m_X4_countOf (l : Launch) (Z : hw_Z) (M : hw_M) (a : Nat) (f : Nat → Int64) (h0 : M a = hw_al Z 8 f) : Met l yX4_countOf (hw_m yX4_countOf cX4_countOf 3 (some .int)) ({ frames := 1, cells := 0, slots := 0, locals := 21 } : Room) (va_Pc [.ref a] (hw_P Z M)) (hw_Qi Z (fun r M' => nI (hb_sm (fun k => hb_pc (f k)) 8) = r ∧ M = M')) 0 0 (hw_A Z) := by
  refine hw_ofi (by decide +kernel) rfl (Nat.le_of_ble_eq_true rfl) ?_
  intro p e s m below meth c ls Q hx hb hml hown hts hk hnm hI hl hret
  refine lv_iconst (v := nI 0) hx hb dX4_countOf_0 (by decide) ?_
  refine lv_istore_n (lv' := [(1, .int (nI 0)), (0, .ref a)]) hx hb dX4_countOf_1 rfl hl (by decide) rfl (fun ls hl => ?_)
  refine lv_iconst (v := nI 0) hx hb dX4_countOf_2 (by decide) ?_
  refine lv_istore_n (lv' := [(2, .int (nI 0)), (1, .int (nI 0)), (0, .ref a)]) hx hb dX4_countOf_3 rfl hl (by decide) rfl (fun ls hl => ?_)
  suffices LP4 : ∀ i, i ≤ 8 → ∀ (H : Heap) (locs : List Loc) (ls : Array Slot), hw_iv Z s (M) H locs → lv_has ls 3 [(1, .int (nI (hb_sm (fun k => hb_pc (f k)) i))), (2, .int (nI i)), (0, .ref a)] → W p l e ({ frames := 1, cells := 0, slots := 0, locals := 21 } : Room) s m ([.ref a] : List Value).toArray below meth c H locs 0 0 Q (F0 m 4 ls []) from LP4 0 (by omega) _ _ _ hI (lv_sub hl [1, 0, 2] rfl)
  refine hw_loop ?_ (fun i hi4 ih4 => ?_)
  · intro H locs ls hI hl
    refine lv_iload_n hx hb dX4_countOf_4 rfl (lv_at hl 1 rfl) ?_
    refine lv_bipush (v := nI 8) hx hb dX4_countOf_5 (by decide) ?_
    refine lv_icmp_ge (tgt := 25) hx hb dX4_countOf_7 (by decide) (fun _ => ?_) (fun hc => absurd (Int32.le_refl _) hc)
    refine lv_iload_n hx hb dX4_countOf_25 rfl (lv_at hl 0 rfl) ?_
    exact hret hI (⟨rfl, rfl⟩) (Nat.le_of_ble_eq_true rfl) (Nat.le_of_ble_eq_true rfl) dX4_countOf_26
  · intro H locs ls hI hl
    refine lv_iload_n hx hb dX4_countOf_4 rfl (lv_at hl 1 rfl) ?_
    refine lv_bipush (v := nI 8) hx hb dX4_countOf_5 (by decide) ?_
    refine lv_icmp_ge (tgt := 25) hx hb dX4_countOf_7 (by decide) (fun hc => absurd hc (nI_ge hi4 (by decide))) (fun _ => ?_)
    refine lv_iload_n hx hb dX4_countOf_10 rfl (lv_at hl 0 rfl) ?_
    refine lv_aload_n hx hb dX4_countOf_11 rfl (lv_at hl 2 rfl) ?_
    refine lv_iload_n hx hb dX4_countOf_12 rfl (lv_at hl 1 rfl) ?_
    refine hw_lald hx hb hk hI h0 (j := i) rfl (by omega) (by decide) dX4_countOf_13 ?_
    refine hw_ci hI (hw_rS hx hb hml hown hts hk hI (m_J13_bitCount_95d88 l Z M (f i)) cs_X4_53 ⟨rfl, rfl⟩ ⟨(Nat.le_of_ble_eq_true rfl), (Nat.le_of_ble_eq_true rfl)⟩ rfl hl.1 rfl (Nat.le_of_ble_eq_true rfl) ⟨(Nat.le_of_ble_eq_true rfl), (Nat.le_of_ble_eq_true rfl)⟩ dX4_countOf_14) (fun r14 M14 H locs hR hI => ?_)
    obtain ⟨rfl, rfl⟩ := hR
    refine lv_iadd hx hb dX4_countOf_17 ?_
    refine hw_ti (nI_add _ _) ?_
    refine lv_istore_n (lv' := [(1, .int (nI ((hb_sm (fun k => hb_pc (f k)) i) + (hb_pc (f i))))), (2, .int (nI i)), (0, .ref a)]) hx hb dX4_countOf_18 rfl hl (by decide) rfl (fun ls hl => ?_)
    refine lv_iinc (v := nI (i + 1)) (lv' := [(2, .int (nI (i + 1))), (1, .int (nI ((hb_sm (fun k => hb_pc (f k)) i) + (hb_pc (f i))))), (0, .ref a)]) hx hb dX4_countOf_19 hl (k := 1) rfl (hw_inc _) (by decide) rfl (fun ls hl => ?_)
    refine lv_goto (tgt := 4) hx hb dX4_countOf_22 (by decide) ?_
    exact ih4 _ _ _ hI (lv_sub hl [1, 0, 2] rfl)

set_option maxHeartbeats 4000000 in
set_option maxRecDepth 100000 in
theorem m_X4_cellCount (l : Launch) (Z : hw_Z) (M : hw_M) (a : Nat) (ca : Nat) (ha : Nat) (sa : Nat) (C : Nat → Int64) (h0 : M a = hw_ob 5 [.ref ca, .ref ha, .ref sa]) (h1 : M ca = hw_al Z 8 C) : Met l yX4_cellCount (hw_m yX4_cellCount cX4_cellCount 1 (some .int)) ({ frames := 2, cells := 0, slots := 0, locals := 43 } : Room) (va_Pc [.ref a] (hw_P Z M)) (hw_Qi Z (fun r M' => nI (hb_sm (fun k => hb_pc (C k)) 8) = r ∧ M = M')) 0 0 (hw_A Z) := by
  refine hw_ofi (by decide +kernel) rfl (Nat.le_of_ble_eq_true rfl) ?_
  intro p e s m below meth c ls Q hx hb hml hown hts hk hnm hI hl hret
  refine lv_aload_n hx hb dX4_cellCount_0 rfl (lv_at hl 0 rfl) ?_
  refine hw_get hx hb hts hown hk hI fd_X4_9 h0 rfl dX4_cellCount_1 ?_
  refine hw_ci hI (hw_rS hx hb hml hown hts hk hI (m_X4_countOf l Z M ca C h1) cs_X4_59 ⟨rfl, rfl⟩ ⟨(Nat.le_of_ble_eq_true rfl), (Nat.le_of_ble_eq_true rfl)⟩ rfl hl.1 rfl (Nat.le_of_ble_eq_true rfl) ⟨(Nat.le_of_ble_eq_true rfl), (Nat.le_of_ble_eq_true rfl)⟩ dX4_cellCount_4) (fun r4 M4 H locs hR hI => ?_)
  obtain ⟨rfl, rfl⟩ := hR
  exact hret hI (⟨rfl, rfl⟩) (Nat.le_of_ble_eq_true rfl) (Nat.le_of_ble_eq_true rfl) dX4_cellCount_7

set_option maxHeartbeats 4000000 in
set_option maxRecDepth 100000 in
theorem m_X4_hangingCount (l : Launch) (Z : hw_Z) (M : hw_M) (a : Nat) (ca : Nat) (ha : Nat) (sa : Nat) (H0 : Nat → Int64) (h0 : M a = hw_ob 5 [.ref ca, .ref ha, .ref sa]) (h1 : M ha = hw_al Z 8 H0) : Met l yX4_hangingCount (hw_m yX4_hangingCount cX4_hangingCount 1 (some .int)) ({ frames := 2, cells := 0, slots := 0, locals := 43 } : Room) (va_Pc [.ref a] (hw_P Z M)) (hw_Qi Z (fun r M' => nI (hb_sm (fun k => hb_pc (H0 k)) 8) = r ∧ M = M')) 0 0 (hw_A Z) := by
  refine hw_ofi (by decide +kernel) rfl (Nat.le_of_ble_eq_true rfl) ?_
  intro p e s m below meth c ls Q hx hb hml hown hts hk hnm hI hl hret
  refine lv_aload_n hx hb dX4_hangingCount_0 rfl (lv_at hl 0 rfl) ?_
  refine hw_get hx hb hts hown hk hI fd_X4_15 h0 rfl dX4_hangingCount_1 ?_
  refine hw_ci hI (hw_rS hx hb hml hown hts hk hI (m_X4_countOf l Z M ha H0 h1) cs_X4_59 ⟨rfl, rfl⟩ ⟨(Nat.le_of_ble_eq_true rfl), (Nat.le_of_ble_eq_true rfl)⟩ rfl hl.1 rfl (Nat.le_of_ble_eq_true rfl) ⟨(Nat.le_of_ble_eq_true rfl), (Nat.le_of_ble_eq_true rfl)⟩ dX4_hangingCount_4) (fun r4 M4 H locs hR hI => ?_)
  obtain ⟨rfl, rfl⟩ := hR
  exact hret hI (⟨rfl, rfl⟩) (Nat.le_of_ble_eq_true rfl) (Nat.le_of_ble_eq_true rfl) dX4_hangingCount_7

set_option maxHeartbeats 4000000 in
set_option maxRecDepth 100000 in
theorem m_X4_supportCount (l : Launch) (Z : hw_Z) (M : hw_M) (a : Nat) (ca : Nat) (ha : Nat) (sa : Nat) (S0 : Nat → Int64) (h0 : M a = hw_ob 5 [.ref ca, .ref ha, .ref sa]) (h1 : M sa = hw_al Z 8 S0) : Met l yX4_supportCount (hw_m yX4_supportCount cX4_supportCount 1 (some .int)) ({ frames := 2, cells := 0, slots := 0, locals := 43 } : Room) (va_Pc [.ref a] (hw_P Z M)) (hw_Qi Z (fun r M' => nI (hb_sm (fun k => hb_pc (S0 k)) 8) = r ∧ M = M')) 0 0 (hw_A Z) := by
  refine hw_ofi (by decide +kernel) rfl (Nat.le_of_ble_eq_true rfl) ?_
  intro p e s m below meth c ls Q hx hb hml hown hts hk hnm hI hl hret
  refine lv_aload_n hx hb dX4_supportCount_0 rfl (lv_at hl 0 rfl) ?_
  refine hw_get hx hb hts hown hk hI fd_X4_18 h0 rfl dX4_supportCount_1 ?_
  refine hw_ci hI (hw_rS hx hb hml hown hts hk hI (m_X4_countOf l Z M sa S0 h1) cs_X4_59 ⟨rfl, rfl⟩ ⟨(Nat.le_of_ble_eq_true rfl), (Nat.le_of_ble_eq_true rfl)⟩ rfl hl.1 rfl (Nat.le_of_ble_eq_true rfl) ⟨(Nat.le_of_ble_eq_true rfl), (Nat.le_of_ble_eq_true rfl)⟩ dX4_supportCount_4) (fun r4 M4 H locs hR hI => ?_)
  obtain ⟨rfl, rfl⟩ := hR
  exact hret hI (⟨rfl, rfl⟩) (Nat.le_of_ble_eq_true rfl) (Nat.le_of_ble_eq_true rfl) dX4_supportCount_7

set_option maxHeartbeats 4000000 in
set_option maxRecDepth 100000 in
theorem m_X4_gramsOf (l : Launch) (Z : hw_Z) (M : hw_M) (a : Nat) (ca : Nat) (ha : Nat) (sa : Nat) (C : Nat → Int64) (S0 : Nat → Int64) (k : Nat) (h0 : M a = hw_ob 5 [.ref ca, .ref ha, .ref sa]) (h1 : M ca = hw_al Z 8 C) (h2 : M sa = hw_al Z 8 S0) (hk8 : k < 8) : Met l yX4_gramsOf (hw_m yX4_gramsOf cX4_gramsOf 2 (some .int)) ({ frames := 1, cells := 0, slots := 0, locals := 21 } : Room) (va_Pc [.ref a, .int (nI k)] (hw_P Z M)) (hw_Qi Z (fun r M' => nI (hb_pc (C k) + hb_pc (S0 k)) = r ∧ M = M')) 0 0 (hw_A Z) := by
  refine hw_ofi (by decide +kernel) rfl (Nat.le_of_ble_eq_true rfl) ?_
  intro p e s m below meth c ls Q hx hb hml hown hts hk hnm hI hl hret
  refine lv_aload_n hx hb dX4_gramsOf_0 rfl (lv_at hl 0 rfl) ?_
  refine hw_get hx hb hts hown hk hI fd_X4_9 h0 rfl dX4_gramsOf_1 ?_
  refine lv_iload_n hx hb dX4_gramsOf_4 rfl (lv_at hl 1 rfl) ?_
  refine hw_lald hx hb hk hI h1 (j := k) rfl (by omega) (by decide) dX4_gramsOf_5 ?_
  refine hw_ci hI (hw_rS hx hb hml hown hts hk hI (m_J13_bitCount_95d88 l Z M (C k)) cs_X4_53 ⟨rfl, rfl⟩ ⟨(Nat.le_of_ble_eq_true rfl), (Nat.le_of_ble_eq_true rfl)⟩ rfl hl.1 rfl (Nat.le_of_ble_eq_true rfl) ⟨(Nat.le_of_ble_eq_true rfl), (Nat.le_of_ble_eq_true rfl)⟩ dX4_gramsOf_6) (fun r6 M6 H locs hR hI => ?_)
  obtain ⟨rfl, rfl⟩ := hR
  refine lv_aload_n hx hb dX4_gramsOf_9 rfl (lv_at hl 0 rfl) ?_
  refine hw_get hx hb hts hown hk hI fd_X4_18 h0 rfl dX4_gramsOf_10 ?_
  refine lv_iload_n hx hb dX4_gramsOf_13 rfl (lv_at hl 1 rfl) ?_
  refine hw_lald hx hb hk hI h2 (j := k) rfl (by omega) (by decide) dX4_gramsOf_14 ?_
  refine hw_ci hI (hw_rS hx hb hml hown hts hk hI (m_J13_bitCount_95d88 l Z M (S0 k)) cs_X4_53 ⟨rfl, rfl⟩ ⟨(Nat.le_of_ble_eq_true rfl), (Nat.le_of_ble_eq_true rfl)⟩ rfl hl.1 rfl (Nat.le_of_ble_eq_true rfl) ⟨(Nat.le_of_ble_eq_true rfl), (Nat.le_of_ble_eq_true rfl)⟩ dX4_gramsOf_15) (fun r15 M15 H locs hR hI => ?_)
  obtain ⟨rfl, rfl⟩ := hR
  refine lv_iadd hx hb dX4_gramsOf_18 ?_
  refine hw_ti (nI_add _ _) ?_
  exact hret hI (⟨rfl, rfl⟩) (Nat.le_of_ble_eq_true rfl) (Nat.le_of_ble_eq_true rfl) dX4_gramsOf_19

set_option maxHeartbeats 4000000 in
set_option maxRecDepth 100000 in
theorem m_X4_withNeighbours (l : Launch) (Z : hw_Z) (M : hw_M) (x : Int64) : Met l yX4_withNeighbours (hw_m yX4_withNeighbours cX4_withNeighbours 2 (some .long)) ({ frames := 0, cells := 0, slots := 0, locals := 0 } : Room) (va_Pc [.long x] (hw_P Z M)) (hw_Ql Z (fun r M' => hb_nb x = r ∧ M = M')) 0 0 (hw_A Z) := by
  refine hw_ofl (by decide +kernel) rfl (Nat.le_of_ble_eq_true rfl) ?_
  intro p e s m below meth c ls Q hx hb hml hown hts hk hnm hI hl hret
  refine lv_lload_n hx hb dX4_withNeighbours_0 rfl (lv_at hl 0 rfl) ?_
  refine lv_lload_n hx hb dX4_withNeighbours_1 rfl (lv_at hl 0 rfl) ?_
  refine lv_ldc2 (v := 9187201950435737471) hx hb hown (hts _ (hw_win (w := .constantLong RX4 71 (9187201950435737471)) (by decide +kernel) (by decide +kernel))) dX4_withNeighbours_2 ?_
  refine lv_land hx hb dX4_withNeighbours_5 ?_
  refine lv_iconst (v := nI 1) hx hb dX4_withNeighbours_6 (by decide) ?_
  refine lv_lshl (v := hb_shl (x &&& 9187201950435737471) (nI 1)) hx hb dX4_withNeighbours_7 rfl ?_
  refine lv_lor hx hb dX4_withNeighbours_8 ?_
  refine lv_lload_n hx hb dX4_withNeighbours_9 rfl (lv_at hl 0 rfl) ?_
  refine lv_ldc2 (v := (-72340172838076674)) hx hb hown (hts _ (hw_win (w := .constantLong RX4 73 (-72340172838076674)) (by decide +kernel) (by decide +kernel))) dX4_withNeighbours_10 ?_
  refine lv_land hx hb dX4_withNeighbours_13 ?_
  refine lv_iconst (v := nI 1) hx hb dX4_withNeighbours_14 (by decide) ?_
  refine lv_lushr (v := hb_ushr (x &&& (-72340172838076674)) (nI 1)) hx hb dX4_withNeighbours_15 rfl ?_
  refine lv_lor hx hb dX4_withNeighbours_16 ?_
  refine lv_lload_n hx hb dX4_withNeighbours_17 rfl (lv_at hl 0 rfl) ?_
  refine lv_bipush (v := nI 8) hx hb dX4_withNeighbours_18 (by decide) ?_
  refine lv_lshl (v := hb_shl x (nI 8)) hx hb dX4_withNeighbours_20 rfl ?_
  refine lv_lor hx hb dX4_withNeighbours_21 ?_
  refine lv_lload_n hx hb dX4_withNeighbours_22 rfl (lv_at hl 0 rfl) ?_
  refine lv_bipush (v := nI 8) hx hb dX4_withNeighbours_23 (by decide) ?_
  refine lv_lushr (v := hb_ushr x (nI 8)) hx hb dX4_withNeighbours_25 rfl ?_
  refine lv_lor hx hb dX4_withNeighbours_26 ?_
  exact hret hI (⟨rfl, rfl⟩) (Nat.le_of_ble_eq_true rfl) (Nat.le_of_ble_eq_true rfl) dX4_withNeighbours_27

set_option maxHeartbeats 4000000 in
set_option maxRecDepth 100000 in
theorem m_X4_partOf (l : Launch) (Z : hw_Z) (M : hw_M) (S : Int64) (x : Int64) : Met l yX4_partOf (hw_m yX4_partOf cX4_partOf 9 (some .long)) ({ frames := 1, cells := 0, slots := 0, locals := 21 } : Room) (va_Pc [.long S, .long x] (hw_P Z M)) (hw_Ql Z (fun r M' => hb_part S x = r ∧ M = M')) 0 0 (hw_A Z) := by
  refine hw_ofl (by decide +kernel) rfl (Nat.le_of_ble_eq_true rfl) ?_
  intro p e s m below meth c ls Q hx hb hml hown hts hk hnm hI hl hret
  refine lv_lload_n hx hb dX4_partOf_0 rfl (lv_at hl 1 rfl) ?_
  refine lv_lstore (lv' := [(4, .long x), (0, .long S), (2, .long x)]) hx hb dX4_partOf_1 hl (by decide) rfl (fun ls hl => ?_)
  refine lv_iconst (v := nI 0) hx hb dX4_partOf_3 (by decide) ?_
  refine lv_istore (lv' := [(6, .int (nI 0)), (4, .long x), (0, .long S), (2, .long x)]) hx hb dX4_partOf_4 hl (by decide) rfl (fun ls hl => ?_)
  suffices LP6 : ∀ i, i ≤ 64 → ∀ (H : Heap) (locs : List Loc) (ls : Array Slot), hw_iv Z s (M) H locs → lv_has ls 9 [(4, .long (hb_fl S i x)), (6, .int (nI i)), (0, .long S)] → W p l e ({ frames := 1, cells := 0, slots := 0, locals := 21 } : Room) s m ([.long S, .long x] : List Value).toArray below meth c H locs 0 0 Q (F0 m 6 ls []) from LP6 0 (by omega) _ _ _ hI (lv_sub hl [1, 0, 2] rfl)
  refine hw_loop ?_ (fun i hi6 ih6 => ?_)
  · intro H locs ls hI hl
    refine lv_iload hx hb dX4_partOf_6 (lv_at hl 1 rfl) ?_
    refine lv_bipush (v := nI 64) hx hb dX4_partOf_8 (by decide) ?_
    refine lv_icmp_ge (tgt := 43) hx hb dX4_partOf_10 (by decide) (fun _ => ?_) (fun hc => absurd (Int32.le_refl _) hc)
    refine lv_lload hx hb dX4_partOf_43 (lv_at hl 0 rfl) ?_
    exact hret hI (⟨rfl, rfl⟩) (Nat.le_of_ble_eq_true rfl) (Nat.le_of_ble_eq_true rfl) dX4_partOf_45
  · intro H locs ls hI hl
    refine lv_iload hx hb dX4_partOf_6 (lv_at hl 1 rfl) ?_
    refine lv_bipush (v := nI 64) hx hb dX4_partOf_8 (by decide) ?_
    refine lv_icmp_ge (tgt := 43) hx hb dX4_partOf_10 (by decide) (fun hc => absurd hc (nI_ge hi6 (by decide))) (fun _ => ?_)
    refine lv_lload hx hb dX4_partOf_13 (lv_at hl 0 rfl) ?_
    refine hw_cl' hI (hw_rS hx hb hml hown hts hk hI (m_X4_withNeighbours l Z M (hb_fl S i x)) cs_X4_47 ⟨rfl, rfl⟩ ⟨(Nat.le_of_ble_eq_true rfl), (Nat.le_of_ble_eq_true rfl)⟩ rfl hl.1 rfl (Nat.le_of_ble_eq_true rfl) ⟨(Nat.le_of_ble_eq_true rfl), (Nat.le_of_ble_eq_true rfl)⟩ dX4_partOf_15) (fun r15 M15 H locs hR hI => ?_)
    obtain ⟨rfl, rfl⟩ := hR
    refine lv_lload_n hx hb dX4_partOf_18 rfl (lv_at hl 2 rfl) ?_
    refine lv_land hx hb dX4_partOf_19 ?_
    refine lv_lstore (lv' := [(7, .long ((hb_nb (hb_fl S i x)) &&& S)), (4, .long (hb_fl S i x)), (6, .int (nI i)), (0, .long S)]) hx hb dX4_partOf_20 hl (by decide) rfl (fun ls hl => ?_)
    refine lv_lload hx hb dX4_partOf_22 (lv_at hl 0 rfl) ?_
    refine lv_lload hx hb dX4_partOf_24 (lv_at hl 1 rfl) ?_
    refine W.lcmp hx hb dX4_partOf_26 ?_
    refine lv_if_ne (tgt := 33) hx hb dX4_partOf_27 (by decide) (fun c27 => ?_) (fun c27 => ?_)
    · refine lv_lload hx hb dX4_partOf_33 (lv_at hl 0 rfl) ?_
      refine lv_lstore (lv' := [(4, .long ((hb_nb (hb_fl S i x)) &&& S)), (7, .long ((hb_nb (hb_fl S i x)) &&& S)), (6, .int (nI i)), (0, .long S)]) hx hb dX4_partOf_35 hl (by decide) rfl (fun ls hl => ?_)
      refine lv_iinc (v := nI (i + 1)) (lv' := [(6, .int (nI (i + 1))), (4, .long ((hb_nb (hb_fl S i x)) &&& S)), (7, .long ((hb_nb (hb_fl S i x)) &&& S)), (0, .long S)]) hx hb dX4_partOf_37 hl (k := 2) rfl (hw_inc _) (by decide) rfl (fun ls hl => ?_)
      refine lv_goto (tgt := 6) hx hb dX4_partOf_40 (by decide) ?_
      exact ih6 _ _ _ hI (lv_sub hl [1, 0, 3] rfl)
    · refine lv_goto (tgt := 43) hx hb dX4_partOf_30 (by decide) ?_
      refine lv_lload hx hb dX4_partOf_43 (lv_at hl 1 rfl) ?_
      exact hret hI (⟨hb_fl_end (by omega) (hw_cn c27), rfl⟩) (Nat.le_of_ble_eq_true rfl) (Nat.le_of_ble_eq_true rfl) dX4_partOf_45

set_option maxHeartbeats 4000000 in
set_option maxRecDepth 100000 in
theorem m_X4_islandsOf (l : Launch) (Z : hw_Z) (M : hw_M) (S : Int64) (B : Int64) : Met l yX4_islandsOf (hw_m yX4_islandsOf cX4_islandsOf 10 (some .int)) ({ frames := 2, cells := 0, slots := 0, locals := 49 } : Room) (va_Pc [.long S, .long B] (hw_P Z M)) (hw_Qi Z (fun r M' => nI (hb_ic S B 64) = r ∧ M = M')) 0 0 (hw_A Z) := by
  refine hw_ofi (by decide +kernel) rfl (Nat.le_of_ble_eq_true rfl) ?_
  intro p e s m below meth c ls Q hx hb hml hown hts hk hnm hI hl hret
  refine lv_iconst (v := nI 0) hx hb dX4_islandsOf_0 (by decide) ?_
  refine lv_istore (lv' := [(4, .int (nI 0)), (0, .long S), (2, .long B)]) hx hb dX4_islandsOf_1 hl (by decide) rfl (fun ls hl => ?_)
  refine lv_lload_n hx hb dX4_islandsOf_3 rfl (lv_at hl 1 rfl) ?_
  refine lv_lstore (lv' := [(5, .long S), (4, .int (nI 0)), (0, .long S), (2, .long B)]) hx hb dX4_islandsOf_4 hl (by decide) rfl (fun ls hl => ?_)
  refine lv_iconst (v := nI 0) hx hb dX4_islandsOf_6 (by decide) ?_
  refine lv_istore (lv' := [(7, .int (nI 0)), (5, .long S), (4, .int (nI 0)), (0, .long S), (2, .long B)]) hx hb dX4_islandsOf_7 hl (by decide) rfl (fun ls hl => ?_)
  suffices LP9 : ∀ i, i ≤ 64 → ∀ (H : Heap) (locs : List Loc) (ls : Array Slot), hw_iv Z s (M) H locs → lv_has ls 10 [(4, .int (nI (hb_ic S B i))), (5, .long (hb_ir S i)), (7, .int (nI i)), (0, .long S), (2, .long B)] → W p l e ({ frames := 2, cells := 0, slots := 0, locals := 49 } : Room) s m ([.long S, .long B] : List Value).toArray below meth c H locs 0 0 Q (F0 m 9 ls []) from LP9 0 (by omega) _ _ _ hI (lv_sub hl [2, 1, 0, 3, 4] rfl)
  refine hw_loop ?_ (fun i hi9 ih9 => ?_)
  · intro H locs ls hI hl
    refine lv_iload hx hb dX4_islandsOf_9 (lv_at hl 2 rfl) ?_
    refine lv_bipush (v := nI 64) hx hb dX4_islandsOf_11 (by decide) ?_
    refine lv_icmp_ge (tgt := 64) hx hb dX4_islandsOf_13 (by decide) (fun _ => ?_) (fun hc => absurd (Int32.le_refl _) hc)
    refine lv_iload hx hb dX4_islandsOf_64 (lv_at hl 0 rfl) ?_
    exact hret hI (⟨rfl, rfl⟩) (Nat.le_of_ble_eq_true rfl) (Nat.le_of_ble_eq_true rfl) dX4_islandsOf_66
  · intro H locs ls hI hl
    refine lv_iload hx hb dX4_islandsOf_9 (lv_at hl 2 rfl) ?_
    refine lv_bipush (v := nI 64) hx hb dX4_islandsOf_11 (by decide) ?_
    refine lv_icmp_ge (tgt := 64) hx hb dX4_islandsOf_13 (by decide) (fun hc => absurd hc (nI_ge hi9 (by decide))) (fun _ => ?_)
    refine lv_lload hx hb dX4_islandsOf_16 (lv_at hl 1 rfl) ?_
    refine lv_lconst (v := 0) hx hb dX4_islandsOf_18 (by decide) ?_
    refine W.lcmp hx hb dX4_islandsOf_19 ?_
    refine lv_if_eq (tgt := 64) hx hb dX4_islandsOf_20 (by decide) (fun c20 => ?_) (fun c20 => ?_)
    · refine lv_iload hx hb dX4_islandsOf_64 (lv_at hl 0 rfl) ?_
      exact hret hI (⟨by rw [hb_ic_64 (by omega) (hw_cn c20)], rfl⟩) (Nat.le_of_ble_eq_true rfl) (Nat.le_of_ble_eq_true rfl) dX4_islandsOf_66
    · refine lv_lload_n hx hb dX4_islandsOf_23 rfl (lv_at hl 3 rfl) ?_
      refine lv_lload hx hb dX4_islandsOf_24 (lv_at hl 1 rfl) ?_
      refine lv_lload hx hb dX4_islandsOf_26 (lv_at hl 1 rfl) ?_
      refine lv_lneg hx hb dX4_islandsOf_28 ?_
      refine lv_land hx hb dX4_islandsOf_29 ?_
      refine hw_cl' hI (hw_rS hx hb hml hown hts hk hI (m_X4_partOf l Z M S ((hb_ir S i) &&& (-(hb_ir S i)))) cs_X4_67 ⟨rfl, rfl⟩ ⟨(Nat.le_of_ble_eq_true rfl), (Nat.le_of_ble_eq_true rfl)⟩ rfl hl.1 rfl (Nat.le_of_ble_eq_true rfl) ⟨(Nat.le_of_ble_eq_true rfl), (Nat.le_of_ble_eq_true rfl)⟩ dX4_islandsOf_30) (fun r30 M30 H locs hR hI => ?_)
      obtain ⟨rfl, rfl⟩ := hR
      refine lv_lstore (lv' := [(8, .long (hb_part S ((hb_ir S i) &&& (-(hb_ir S i))))), (4, .int (nI (hb_ic S B i))), (5, .long (hb_ir S i)), (7, .int (nI i)), (0, .long S), (2, .long B)]) hx hb dX4_islandsOf_33 hl (by decide) rfl (fun ls hl => ?_)
      refine lv_lload hx hb dX4_islandsOf_35 (lv_at hl 0 rfl) ?_
      refine lv_lload_n hx hb dX4_islandsOf_37 rfl (lv_at hl 5 rfl) ?_
      refine lv_land hx hb dX4_islandsOf_38 ?_
      refine lv_lconst (v := 0) hx hb dX4_islandsOf_39 (by decide) ?_
      refine W.lcmp hx hb dX4_islandsOf_40 ?_
      refine lv_if_ne (tgt := 47) hx hb dX4_islandsOf_41 (by decide) (fun c41 => ?_) (fun c41 => ?_)
      · refine lv_lload hx hb dX4_islandsOf_47 (lv_at hl 2 rfl) ?_
        refine lv_lload hx hb dX4_islandsOf_49 (lv_at hl 0 rfl) ?_
        refine lv_ldc2 (v := (-1)) hx hb hown (hts _ (hw_win (w := .constantLong RX4 51 (-1)) (by decide +kernel) (by decide +kernel))) dX4_islandsOf_51 ?_
        refine lv_lxor hx hb dX4_islandsOf_54 ?_
        refine lv_land hx hb dX4_islandsOf_55 ?_
        refine lv_lstore (lv' := [(5, .long ((hb_ir S i) &&& ((hb_part S ((hb_ir S i) &&& (-(hb_ir S i)))) ^^^ (-1)))), (8, .long (hb_part S ((hb_ir S i) &&& (-(hb_ir S i))))), (4, .int (nI (hb_ic S B i))), (7, .int (nI i)), (0, .long S), (2, .long B)]) hx hb dX4_islandsOf_56 hl (by decide) rfl (fun ls hl => ?_)
        refine lv_iinc (v := nI (i + 1)) (lv' := [(7, .int (nI (i + 1))), (5, .long ((hb_ir S i) &&& ((hb_part S ((hb_ir S i) &&& (-(hb_ir S i)))) ^^^ (-1)))), (8, .long (hb_part S ((hb_ir S i) &&& (-(hb_ir S i))))), (4, .int (nI (hb_ic S B i))), (0, .long S), (2, .long B)]) hx hb dX4_islandsOf_58 hl (k := 3) rfl (hw_inc _) (by decide) rfl (fun ls hl => ?_)
        refine lv_goto (tgt := 9) hx hb dX4_islandsOf_61 (by decide) ?_
        exact ih9 _ _ _ hI (lv_sub hl [3, 1, 0, 4, 5] (by rw [show hb_ic S B (i + 1) = _ from hb_ic_n (hw_cm c20) (hw_cm c41)]; rfl))
      · refine lv_iinc (v := nI ((hb_ic S B i) + 1)) (lv' := [(4, .int (nI ((hb_ic S B i) + 1))), (8, .long (hb_part S ((hb_ir S i) &&& (-(hb_ir S i))))), (5, .long (hb_ir S i)), (7, .int (nI i)), (0, .long S), (2, .long B)]) hx hb dX4_islandsOf_44 hl (k := 1) rfl (hw_inc _) (by decide) rfl (fun ls hl => ?_)
        refine lv_lload hx hb dX4_islandsOf_47 (lv_at hl 2 rfl) ?_
        refine lv_lload hx hb dX4_islandsOf_49 (lv_at hl 1 rfl) ?_
        refine lv_ldc2 (v := (-1)) hx hb hown (hts _ (hw_win (w := .constantLong RX4 51 (-1)) (by decide +kernel) (by decide +kernel))) dX4_islandsOf_51 ?_
        refine lv_lxor hx hb dX4_islandsOf_54 ?_
        refine lv_land hx hb dX4_islandsOf_55 ?_
        refine lv_lstore (lv' := [(5, .long ((hb_ir S i) &&& ((hb_part S ((hb_ir S i) &&& (-(hb_ir S i)))) ^^^ (-1)))), (4, .int (nI ((hb_ic S B i) + 1))), (8, .long (hb_part S ((hb_ir S i) &&& (-(hb_ir S i))))), (7, .int (nI i)), (0, .long S), (2, .long B)]) hx hb dX4_islandsOf_56 hl (by decide) rfl (fun ls hl => ?_)
        refine lv_iinc (v := nI (i + 1)) (lv' := [(7, .int (nI (i + 1))), (5, .long ((hb_ir S i) &&& ((hb_part S ((hb_ir S i) &&& (-(hb_ir S i)))) ^^^ (-1)))), (4, .int (nI ((hb_ic S B i) + 1))), (8, .long (hb_part S ((hb_ir S i) &&& (-(hb_ir S i))))), (0, .long S), (2, .long B)]) hx hb dX4_islandsOf_58 hl (k := 3) rfl (hw_inc _) (by decide) rfl (fun ls hl => ?_)
        refine lv_goto (tgt := 9) hx hb dX4_islandsOf_61 (by decide) ?_
        exact ih9 _ _ _ hI (lv_sub hl [2, 1, 0, 4, 5] (by rw [show hb_ic S B (i + 1) = _ from hb_ic_y (hw_cm c20) (hw_cn c41)]; rfl))

set_option maxHeartbeats 4000000 in
set_option maxRecDepth 100000 in
theorem m_X4_islandCount (l : Launch) (Z : hw_Z) (M : hw_M) (a : Nat) (ca : Nat) (ha : Nat) (sa : Nat) (C : Nat → Int64) (h0 : M a = hw_ob 5 [.ref ca, .ref ha, .ref sa]) (h1 : M ca = hw_al Z 8 C) : Met l yX4_islandCount (hw_m yX4_islandCount cX4_islandCount 3 (some .int)) ({ frames := 3, cells := 0, slots := 0, locals := 78 } : Room) (va_Pc [.ref a] (hw_P Z M)) (hw_Qi Z (fun r M' => nI (hb_isl C 7) = r ∧ M = M')) 0 0 (hw_A Z) := by
  refine hw_ofi (by decide +kernel) rfl (Nat.le_of_ble_eq_true rfl) ?_
  intro p e s m below meth c ls Q hx hb hml hown hts hk hnm hI hl hret
  refine lv_iconst (v := nI 0) hx hb dX4_islandCount_0 (by decide) ?_
  refine lv_istore_n (lv' := [(1, .int (nI 0)), (0, .ref a)]) hx hb dX4_islandCount_1 rfl hl (by decide) rfl (fun ls hl => ?_)
  refine lv_iconst (v := nI 1) hx hb dX4_islandCount_2 (by decide) ?_
  refine lv_istore_n (lv' := [(2, .int (nI 1)), (1, .int (nI 0)), (0, .ref a)]) hx hb dX4_islandCount_3 rfl hl (by decide) rfl (fun ls hl => ?_)
  suffices LP4 : ∀ i, i ≤ 7 → ∀ (H : Heap) (locs : List Loc) (ls : Array Slot), hw_iv Z s (M) H locs → lv_has ls 3 [(1, .int (nI (hb_isl C i))), (2, .int (nI (i + 1))), (0, .ref a)] → W p l e ({ frames := 3, cells := 0, slots := 0, locals := 78 } : Room) s m ([.ref a] : List Value).toArray below meth c H locs 0 0 Q (F0 m 4 ls []) from LP4 0 (by omega) _ _ _ hI (lv_sub hl [1, 0, 2] rfl)
  refine hw_loop ?_ (fun i hi4 ih4 => ?_)
  · intro H locs ls hI hl
    refine lv_iload_n hx hb dX4_islandCount_4 rfl (lv_at hl 1 rfl) ?_
    refine lv_bipush (v := nI 8) hx hb dX4_islandCount_5 (by decide) ?_
    refine lv_icmp_ge (tgt := 36) hx hb dX4_islandCount_7 (by decide) (fun _ => ?_) (fun hc => absurd (Int32.le_refl _) hc)
    refine lv_iload_n hx hb dX4_islandCount_36 rfl (lv_at hl 0 rfl) ?_
    exact hret hI (⟨rfl, rfl⟩) (Nat.le_of_ble_eq_true rfl) (Nat.le_of_ble_eq_true rfl) dX4_islandCount_37
  · intro H locs ls hI hl
    refine lv_iload_n hx hb dX4_islandCount_4 rfl (lv_at hl 1 rfl) ?_
    refine lv_bipush (v := nI 8) hx hb dX4_islandCount_5 (by decide) ?_
    refine lv_icmp_ge (tgt := 36) hx hb dX4_islandCount_7 (by decide) (fun hc => absurd hc (nI_ge (by omega) (by decide))) (fun _ => ?_)
    refine lv_iload_n hx hb dX4_islandCount_10 rfl (lv_at hl 0 rfl) ?_
    refine lv_aload_n hx hb dX4_islandCount_11 rfl (lv_at hl 2 rfl) ?_
    refine hw_get hx hb hts hown hk hI fd_X4_9 h0 rfl dX4_islandCount_12 ?_
    refine lv_iload_n hx hb dX4_islandCount_15 rfl (lv_at hl 1 rfl) ?_
    refine hw_lald hx hb hk hI h1 (j := (i + 1)) rfl (by omega) (by decide) dX4_islandCount_16 ?_
    refine lv_aload_n hx hb dX4_islandCount_17 rfl (lv_at hl 2 rfl) ?_
    refine hw_get hx hb hts hown hk hI fd_X4_9 h0 rfl dX4_islandCount_18 ?_
    refine lv_iload_n hx hb dX4_islandCount_21 rfl (lv_at hl 1 rfl) ?_
    refine lv_iconst (v := nI 1) hx hb dX4_islandCount_22 (by decide) ?_
    refine lv_isub hx hb dX4_islandCount_23 ?_
    refine hw_ti (pk_sub (by omega) : nI (i + 1) - nI 1 = nI i) ?_
    refine hw_lald hx hb hk hI h1 (j := i) rfl (by omega) (by decide) dX4_islandCount_24 ?_
    refine hw_ci hI (hw_rS hx hb hml hown hts hk hI (m_X4_islandsOf l Z M (C (i + 1)) (C i)) cs_X4_63 ⟨rfl, rfl⟩ ⟨(Nat.le_of_ble_eq_true rfl), (Nat.le_of_ble_eq_true rfl)⟩ rfl hl.1 rfl (Nat.le_of_ble_eq_true rfl) ⟨(Nat.le_of_ble_eq_true rfl), (Nat.le_of_ble_eq_true rfl)⟩ dX4_islandCount_25) (fun r25 M25 H locs hR hI => ?_)
    obtain ⟨rfl, rfl⟩ := hR
    refine lv_iadd hx hb dX4_islandCount_28 ?_
    refine hw_ti (nI_add _ _) ?_
    refine lv_istore_n (lv' := [(1, .int (nI ((hb_isl C i) + (hb_ic (C (i + 1)) (C i) 64)))), (2, .int (nI (i + 1))), (0, .ref a)]) hx hb dX4_islandCount_29 rfl hl (by decide) rfl (fun ls hl => ?_)
    refine lv_iinc (v := nI (i + 1 + 1)) (lv' := [(2, .int (nI (i + 1 + 1))), (1, .int (nI ((hb_isl C i) + (hb_ic (C (i + 1)) (C i) 64)))), (0, .ref a)]) hx hb dX4_islandCount_30 hl (k := 1) rfl (hw_inc _) (by decide) rfl (fun ls hl => ?_)
    refine lv_goto (tgt := 4) hx hb dX4_islandCount_33 (by decide) ?_
    exact ih4 _ _ _ hI (lv_sub hl [1, 0, 2] rfl)

set_option maxHeartbeats 4000000 in
set_option maxRecDepth 100000 in
theorem m_X4_put (l : Launch) (Z : hw_Z) (M : hw_M) (a : Nat) (ca : Nat) (ha : Nat) (sa : Nat) (L : Nat → Int64) (x : Nat) (y : Nat) (z : Nat) (h0 : M a = hw_ob 5 [.ref ca, .ref ha, .ref sa]) (h1 : M ca = hw_al Z 8 L) (hz : z < 8) : Met l yX4_put (hw_m yX4_put cX4_put 4 none) ({ frames := 0, cells := 0, slots := 0, locals := 0 } : Room) (va_Pc [.ref a, .int (nI x), .int (nI y), .int (nI z)] (hw_P Z M)) (hw_Qv Z (fun M' => va_up M ca (hw_al Z 8 (hb_put L x y z)) = M')) 0 0 (hw_A Z) := by
  refine hw_ofv (by decide +kernel) rfl (Nat.le_of_ble_eq_true rfl) ?_
  intro p e s m below meth c ls Q hx hb hml hown hts hk hnm hI hl hret
  refine lv_aload_n hx hb dX4_put_0 rfl (lv_at hl 0 rfl) ?_
  refine hw_get hx hb hts hown hk hI fd_X4_9 h0 rfl dX4_put_1 ?_
  refine lv_iload_n hx hb dX4_put_4 rfl (lv_at hl 3 rfl) ?_
  refine lv_dup2_11 hx hb dX4_put_5 rfl rfl ?_
  refine hw_lald hx hb hk hI h1 (j := z) rfl (by omega) (by decide) dX4_put_6 ?_
  refine lv_lconst (v := 1) hx hb dX4_put_7 (by decide) ?_
  refine lv_iload_n hx hb dX4_put_8 rfl (lv_at hl 1 rfl) ?_
  refine lv_bipush (v := nI 8) hx hb dX4_put_9 (by decide) ?_
  refine lv_iload_n hx hb dX4_put_11 rfl (lv_at hl 2 rfl) ?_
  refine lv_imul hx hb dX4_put_12 ?_
  refine hw_ti (pk_mul _ _) ?_
  refine lv_iadd hx hb dX4_put_13 ?_
  refine hw_ti (nI_add _ _) ?_
  refine lv_lshl (v := hb_shl 1 (nI (x + (8 * y)))) hx hb dX4_put_14 rfl ?_
  refine lv_lor hx hb dX4_put_15 ?_
  refine hw_last hx hb hk hI h1 (j := z) rfl (by omega) (by decide) dX4_put_16 (fun H locs hI => ?_)
  exact hret hI rfl (Nat.le_of_ble_eq_true rfl) (Nat.le_of_ble_eq_true rfl) dX4_put_17

set_option maxHeartbeats 4000000 in
set_option maxRecDepth 100000 in
theorem m_X4_putLaid_0 (l : Launch) (Z : hw_Z) (M : hw_M) (a : Nat) (ca : Nat) (ha : Nat) (sa : Nat) (L : Nat → Int64) (x : Nat) (y : Nat) (z : Nat) (h0 : M a = hw_ob 5 [.ref ca, .ref ha, .ref sa]) (h1 : M ca = hw_al Z 8 L) (hx8 : x < 8) (hy8 : y < 8) (hz8 : z < 8) : Met l yX4_putLaid (hw_m yX4_putLaid cX4_putLaid 6 none) ({ frames := 1, cells := 0, slots := 0, locals := 23 } : Room) (va_Pc [.ref a, .int (nI x), .int (nI y), .int (nI z), .int (nI 0)] (hw_P Z M)) (hw_Qv Z (fun M' => va_up M ca (hw_al Z 8 (hb_put L x y z)) = M')) 0 0 (hw_A Z) := by
  refine hw_ofv (by decide +kernel) rfl (Nat.le_of_ble_eq_true rfl) ?_
  intro p e s m below meth c ls Q hx hb hml hown hts hk hnm hI hl hret
  refine lv_bipush (v := nI 7) hx hb dX4_putLaid_0 (by decide) ?_
  refine lv_istore (lv' := [(5, .int (nI 7)), (0, .ref a), (1, .int (nI x)), (2, .int (nI y)), (3, .int (nI z)), (4, .int (nI 0))]) hx hb dX4_putLaid_2 hl (by decide) rfl (fun ls hl => ?_)
  refine lv_iload hx hb dX4_putLaid_4 (lv_at hl 5 rfl) ?_
  refine lv_tableOut (tgt := 99) hx hb dX4_putLaid_6 (by decide) (by decide) ?_
  refine lv_aload_n hx hb dX4_putLaid_99 rfl (lv_at hl 1 rfl) ?_
  refine lv_iload_n hx hb dX4_putLaid_100 rfl (lv_at hl 2 rfl) ?_
  refine lv_iload_n hx hb dX4_putLaid_101 rfl (lv_at hl 3 rfl) ?_
  refine lv_iload_n hx hb dX4_putLaid_102 rfl (lv_at hl 4 rfl) ?_
  refine hw_cv hI (hw_rV hx hb hml hown hts hk hI (m_X4_put l Z M a ca ha sa L x y z h0 h1 (by omega)) cv_X4_43 h0 rfl rfl ⟨rfl, rfl⟩ ⟨(Nat.le_of_ble_eq_true rfl), (Nat.le_of_ble_eq_true rfl)⟩ rfl hl.1 rfl (Nat.le_of_ble_eq_true rfl) ⟨(Nat.le_of_ble_eq_true rfl), (Nat.le_of_ble_eq_true rfl)⟩ dX4_putLaid_103) (fun M103 H locs hR hI => ?_)
  subst hR
  exact hret hI rfl (Nat.le_of_ble_eq_true rfl) (Nat.le_of_ble_eq_true rfl) dX4_putLaid_106

set_option maxHeartbeats 4000000 in
set_option maxRecDepth 100000 in
theorem m_X4_putLaid_1 (l : Launch) (Z : hw_Z) (M : hw_M) (a : Nat) (ca : Nat) (ha : Nat) (sa : Nat) (L : Nat → Int64) (x : Nat) (y : Nat) (z : Nat) (h0 : M a = hw_ob 5 [.ref ca, .ref ha, .ref sa]) (h1 : M ca = hw_al Z 8 L) (hx8 : x < 8) (hy8 : y < 8) (hz8 : z < 8) : Met l yX4_putLaid (hw_m yX4_putLaid cX4_putLaid 6 none) ({ frames := 1, cells := 0, slots := 0, locals := 23 } : Room) (va_Pc [.ref a, .int (nI x), .int (nI y), .int (nI z), .int (nI 1)] (hw_P Z M)) (hw_Qv Z (fun M' => va_up M ca (hw_al Z 8 (hb_put L x y (7 - z))) = M')) 0 0 (hw_A Z) := by
  refine hw_ofv (by decide +kernel) rfl (Nat.le_of_ble_eq_true rfl) ?_
  intro p e s m below meth c ls Q hx hb hml hown hts hk hnm hI hl hret
  refine lv_bipush (v := nI 7) hx hb dX4_putLaid_0 (by decide) ?_
  refine lv_istore (lv' := [(5, .int (nI 7)), (0, .ref a), (1, .int (nI x)), (2, .int (nI y)), (3, .int (nI z)), (4, .int (nI 1))]) hx hb dX4_putLaid_2 hl (by decide) rfl (fun ls hl => ?_)
  refine lv_iload hx hb dX4_putLaid_4 (lv_at hl 5 rfl) ?_
  refine lv_tableIn (tgt := 40) hx hb dX4_putLaid_6 (by decide) (by decide) rfl (by decide) ?_
  refine lv_aload_n hx hb dX4_putLaid_40 rfl (lv_at hl 1 rfl) ?_
  refine lv_iload_n hx hb dX4_putLaid_41 rfl (lv_at hl 2 rfl) ?_
  refine lv_iload_n hx hb dX4_putLaid_42 rfl (lv_at hl 3 rfl) ?_
  refine lv_iload hx hb dX4_putLaid_43 (lv_at hl 0 rfl) ?_
  refine lv_iload_n hx hb dX4_putLaid_45 rfl (lv_at hl 4 rfl) ?_
  refine lv_isub hx hb dX4_putLaid_46 ?_
  refine hw_ti (pk_sub (by omega)) ?_
  refine hw_cv hI (hw_rV hx hb hml hown hts hk hI (m_X4_put l Z M a ca ha sa L x y (7 - z) h0 h1 (by omega)) cv_X4_43 h0 rfl rfl ⟨rfl, rfl⟩ ⟨(Nat.le_of_ble_eq_true rfl), (Nat.le_of_ble_eq_true rfl)⟩ rfl hl.1 rfl (Nat.le_of_ble_eq_true rfl) ⟨(Nat.le_of_ble_eq_true rfl), (Nat.le_of_ble_eq_true rfl)⟩ dX4_putLaid_47) (fun M47 H locs hR hI => ?_)
  subst hR
  refine lv_goto (tgt := 106) hx hb dX4_putLaid_50 (by decide) ?_
  exact hret hI rfl (Nat.le_of_ble_eq_true rfl) (Nat.le_of_ble_eq_true rfl) dX4_putLaid_106

set_option maxHeartbeats 4000000 in
set_option maxRecDepth 100000 in
theorem m_X4_putLaid_2 (l : Launch) (Z : hw_Z) (M : hw_M) (a : Nat) (ca : Nat) (ha : Nat) (sa : Nat) (L : Nat → Int64) (x : Nat) (y : Nat) (z : Nat) (h0 : M a = hw_ob 5 [.ref ca, .ref ha, .ref sa]) (h1 : M ca = hw_al Z 8 L) (hx8 : x < 8) (hy8 : y < 8) (hz8 : z < 8) : Met l yX4_putLaid (hw_m yX4_putLaid cX4_putLaid 6 none) ({ frames := 1, cells := 0, slots := 0, locals := 23 } : Room) (va_Pc [.ref a, .int (nI x), .int (nI y), .int (nI z), .int (nI 2)] (hw_P Z M)) (hw_Qv Z (fun M' => va_up M ca (hw_al Z 8 (hb_put L z y x)) = M')) 0 0 (hw_A Z) := by
  refine hw_ofv (by decide +kernel) rfl (Nat.le_of_ble_eq_true rfl) ?_
  intro p e s m below meth c ls Q hx hb hml hown hts hk hnm hI hl hret
  refine lv_bipush (v := nI 7) hx hb dX4_putLaid_0 (by decide) ?_
  refine lv_istore (lv' := [(5, .int (nI 7)), (0, .ref a), (1, .int (nI x)), (2, .int (nI y)), (3, .int (nI z)), (4, .int (nI 2))]) hx hb dX4_putLaid_2 hl (by decide) rfl (fun ls hl => ?_)
  refine lv_iload hx hb dX4_putLaid_4 (lv_at hl 5 rfl) ?_
  refine lv_tableIn (tgt := 53) hx hb dX4_putLaid_6 (by decide) (by decide) rfl (by decide) ?_
  refine lv_aload_n hx hb dX4_putLaid_53 rfl (lv_at hl 1 rfl) ?_
  refine lv_iload_n hx hb dX4_putLaid_54 rfl (lv_at hl 4 rfl) ?_
  refine lv_iload_n hx hb dX4_putLaid_55 rfl (lv_at hl 3 rfl) ?_
  refine lv_iload_n hx hb dX4_putLaid_56 rfl (lv_at hl 2 rfl) ?_
  refine hw_cv hI (hw_rV hx hb hml hown hts hk hI (m_X4_put l Z M a ca ha sa L z y x h0 h1 (by omega)) cv_X4_43 h0 rfl rfl ⟨rfl, rfl⟩ ⟨(Nat.le_of_ble_eq_true rfl), (Nat.le_of_ble_eq_true rfl)⟩ rfl hl.1 rfl (Nat.le_of_ble_eq_true rfl) ⟨(Nat.le_of_ble_eq_true rfl), (Nat.le_of_ble_eq_true rfl)⟩ dX4_putLaid_57) (fun M57 H locs hR hI => ?_)
  subst hR
  refine lv_goto (tgt := 106) hx hb dX4_putLaid_60 (by decide) ?_
  exact hret hI rfl (Nat.le_of_ble_eq_true rfl) (Nat.le_of_ble_eq_true rfl) dX4_putLaid_106

set_option maxHeartbeats 4000000 in
set_option maxRecDepth 100000 in
theorem m_X4_putLaid_3 (l : Launch) (Z : hw_Z) (M : hw_M) (a : Nat) (ca : Nat) (ha : Nat) (sa : Nat) (L : Nat → Int64) (x : Nat) (y : Nat) (z : Nat) (h0 : M a = hw_ob 5 [.ref ca, .ref ha, .ref sa]) (h1 : M ca = hw_al Z 8 L) (hx8 : x < 8) (hy8 : y < 8) (hz8 : z < 8) : Met l yX4_putLaid (hw_m yX4_putLaid cX4_putLaid 6 none) ({ frames := 1, cells := 0, slots := 0, locals := 23 } : Room) (va_Pc [.ref a, .int (nI x), .int (nI y), .int (nI z), .int (nI 3)] (hw_P Z M)) (hw_Qv Z (fun M' => va_up M ca (hw_al Z 8 (hb_put L z y (7 - x))) = M')) 0 0 (hw_A Z) := by
  refine hw_ofv (by decide +kernel) rfl (Nat.le_of_ble_eq_true rfl) ?_
  intro p e s m below meth c ls Q hx hb hml hown hts hk hnm hI hl hret
  refine lv_bipush (v := nI 7) hx hb dX4_putLaid_0 (by decide) ?_
  refine lv_istore (lv' := [(5, .int (nI 7)), (0, .ref a), (1, .int (nI x)), (2, .int (nI y)), (3, .int (nI z)), (4, .int (nI 3))]) hx hb dX4_putLaid_2 hl (by decide) rfl (fun ls hl => ?_)
  refine lv_iload hx hb dX4_putLaid_4 (lv_at hl 5 rfl) ?_
  refine lv_tableIn (tgt := 63) hx hb dX4_putLaid_6 (by decide) (by decide) rfl (by decide) ?_
  refine lv_aload_n hx hb dX4_putLaid_63 rfl (lv_at hl 1 rfl) ?_
  refine lv_iload_n hx hb dX4_putLaid_64 rfl (lv_at hl 4 rfl) ?_
  refine lv_iload_n hx hb dX4_putLaid_65 rfl (lv_at hl 3 rfl) ?_
  refine lv_iload hx hb dX4_putLaid_66 (lv_at hl 0 rfl) ?_
  refine lv_iload_n hx hb dX4_putLaid_68 rfl (lv_at hl 2 rfl) ?_
  refine lv_isub hx hb dX4_putLaid_69 ?_
  refine hw_ti (pk_sub (by omega)) ?_
  refine hw_cv hI (hw_rV hx hb hml hown hts hk hI (m_X4_put l Z M a ca ha sa L z y (7 - x) h0 h1 (by omega)) cv_X4_43 h0 rfl rfl ⟨rfl, rfl⟩ ⟨(Nat.le_of_ble_eq_true rfl), (Nat.le_of_ble_eq_true rfl)⟩ rfl hl.1 rfl (Nat.le_of_ble_eq_true rfl) ⟨(Nat.le_of_ble_eq_true rfl), (Nat.le_of_ble_eq_true rfl)⟩ dX4_putLaid_70) (fun M70 H locs hR hI => ?_)
  subst hR
  refine lv_goto (tgt := 106) hx hb dX4_putLaid_73 (by decide) ?_
  exact hret hI rfl (Nat.le_of_ble_eq_true rfl) (Nat.le_of_ble_eq_true rfl) dX4_putLaid_106

set_option maxHeartbeats 4000000 in
set_option maxRecDepth 100000 in
theorem m_X4_putLaid_4 (l : Launch) (Z : hw_Z) (M : hw_M) (a : Nat) (ca : Nat) (ha : Nat) (sa : Nat) (L : Nat → Int64) (x : Nat) (y : Nat) (z : Nat) (h0 : M a = hw_ob 5 [.ref ca, .ref ha, .ref sa]) (h1 : M ca = hw_al Z 8 L) (hx8 : x < 8) (hy8 : y < 8) (hz8 : z < 8) : Met l yX4_putLaid (hw_m yX4_putLaid cX4_putLaid 6 none) ({ frames := 1, cells := 0, slots := 0, locals := 23 } : Room) (va_Pc [.ref a, .int (nI x), .int (nI y), .int (nI z), .int (nI 4)] (hw_P Z M)) (hw_Qv Z (fun M' => va_up M ca (hw_al Z 8 (hb_put L x z y)) = M')) 0 0 (hw_A Z) := by
  refine hw_ofv (by decide +kernel) rfl (Nat.le_of_ble_eq_true rfl) ?_
  intro p e s m below meth c ls Q hx hb hml hown hts hk hnm hI hl hret
  refine lv_bipush (v := nI 7) hx hb dX4_putLaid_0 (by decide) ?_
  refine lv_istore (lv' := [(5, .int (nI 7)), (0, .ref a), (1, .int (nI x)), (2, .int (nI y)), (3, .int (nI z)), (4, .int (nI 4))]) hx hb dX4_putLaid_2 hl (by decide) rfl (fun ls hl => ?_)
  refine lv_iload hx hb dX4_putLaid_4 (lv_at hl 5 rfl) ?_
  refine lv_tableIn (tgt := 76) hx hb dX4_putLaid_6 (by decide) (by decide) rfl (by decide) ?_
  refine lv_aload_n hx hb dX4_putLaid_76 rfl (lv_at hl 1 rfl) ?_
  refine lv_iload_n hx hb dX4_putLaid_77 rfl (lv_at hl 2 rfl) ?_
  refine lv_iload_n hx hb dX4_putLaid_78 rfl (lv_at hl 4 rfl) ?_
  refine lv_iload_n hx hb dX4_putLaid_79 rfl (lv_at hl 3 rfl) ?_
  refine hw_cv hI (hw_rV hx hb hml hown hts hk hI (m_X4_put l Z M a ca ha sa L x z y h0 h1 (by omega)) cv_X4_43 h0 rfl rfl ⟨rfl, rfl⟩ ⟨(Nat.le_of_ble_eq_true rfl), (Nat.le_of_ble_eq_true rfl)⟩ rfl hl.1 rfl (Nat.le_of_ble_eq_true rfl) ⟨(Nat.le_of_ble_eq_true rfl), (Nat.le_of_ble_eq_true rfl)⟩ dX4_putLaid_80) (fun M80 H locs hR hI => ?_)
  subst hR
  refine lv_goto (tgt := 106) hx hb dX4_putLaid_83 (by decide) ?_
  exact hret hI rfl (Nat.le_of_ble_eq_true rfl) (Nat.le_of_ble_eq_true rfl) dX4_putLaid_106

set_option maxHeartbeats 4000000 in
set_option maxRecDepth 100000 in
theorem m_X4_putLaid_5 (l : Launch) (Z : hw_Z) (M : hw_M) (a : Nat) (ca : Nat) (ha : Nat) (sa : Nat) (L : Nat → Int64) (x : Nat) (y : Nat) (z : Nat) (h0 : M a = hw_ob 5 [.ref ca, .ref ha, .ref sa]) (h1 : M ca = hw_al Z 8 L) (hx8 : x < 8) (hy8 : y < 8) (hz8 : z < 8) : Met l yX4_putLaid (hw_m yX4_putLaid cX4_putLaid 6 none) ({ frames := 1, cells := 0, slots := 0, locals := 23 } : Room) (va_Pc [.ref a, .int (nI x), .int (nI y), .int (nI z), .int (nI 5)] (hw_P Z M)) (hw_Qv Z (fun M' => va_up M ca (hw_al Z 8 (hb_put L x z (7 - y))) = M')) 0 0 (hw_A Z) := by
  refine hw_ofv (by decide +kernel) rfl (Nat.le_of_ble_eq_true rfl) ?_
  intro p e s m below meth c ls Q hx hb hml hown hts hk hnm hI hl hret
  refine lv_bipush (v := nI 7) hx hb dX4_putLaid_0 (by decide) ?_
  refine lv_istore (lv' := [(5, .int (nI 7)), (0, .ref a), (1, .int (nI x)), (2, .int (nI y)), (3, .int (nI z)), (4, .int (nI 5))]) hx hb dX4_putLaid_2 hl (by decide) rfl (fun ls hl => ?_)
  refine lv_iload hx hb dX4_putLaid_4 (lv_at hl 5 rfl) ?_
  refine lv_tableIn (tgt := 86) hx hb dX4_putLaid_6 (by decide) (by decide) rfl (by decide) ?_
  refine lv_aload_n hx hb dX4_putLaid_86 rfl (lv_at hl 1 rfl) ?_
  refine lv_iload_n hx hb dX4_putLaid_87 rfl (lv_at hl 2 rfl) ?_
  refine lv_iload_n hx hb dX4_putLaid_88 rfl (lv_at hl 4 rfl) ?_
  refine lv_iload hx hb dX4_putLaid_89 (lv_at hl 0 rfl) ?_
  refine lv_iload_n hx hb dX4_putLaid_91 rfl (lv_at hl 3 rfl) ?_
  refine lv_isub hx hb dX4_putLaid_92 ?_
  refine hw_ti (pk_sub (by omega)) ?_
  refine hw_cv hI (hw_rV hx hb hml hown hts hk hI (m_X4_put l Z M a ca ha sa L x z (7 - y) h0 h1 (by omega)) cv_X4_43 h0 rfl rfl ⟨rfl, rfl⟩ ⟨(Nat.le_of_ble_eq_true rfl), (Nat.le_of_ble_eq_true rfl)⟩ rfl hl.1 rfl (Nat.le_of_ble_eq_true rfl) ⟨(Nat.le_of_ble_eq_true rfl), (Nat.le_of_ble_eq_true rfl)⟩ dX4_putLaid_93) (fun M93 H locs hR hI => ?_)
  subst hR
  refine lv_goto (tgt := 106) hx hb dX4_putLaid_96 (by decide) ?_
  exact hret hI rfl (Nat.le_of_ble_eq_true rfl) (Nat.le_of_ble_eq_true rfl) dX4_putLaid_106

theorem m_X4_putLaid (l : Launch) (Z : hw_Z) (M : hw_M) (a : Nat) (ca : Nat) (ha : Nat) (sa : Nat) (L : Nat → Int64) (x : Nat) (y : Nat) (z : Nat) (way : Nat) (h0 : M a = hw_ob 5 [.ref ca, .ref ha, .ref sa]) (h1 : M ca = hw_al Z 8 L) (hx8 : x < 8) (hy8 : y < 8) (hz8 : z < 8) (hw6 : way < 6) : Met l yX4_putLaid (hw_m yX4_putLaid cX4_putLaid 6 none) ({ frames := 1, cells := 0, slots := 0, locals := 23 } : Room) (va_Pc [.ref a, .int (nI x), .int (nI y), .int (nI z), .int (nI way)] (hw_P Z M)) (hw_Qv Z (fun M' => va_up M ca (hw_al Z 8 (hb_put L (hb_tx way x y z) (hb_ty way x y z) (hb_tz way x y z))) = M')) 0 0 (hw_A Z) := by
  rcases (show way = 0 ∨ way = 1 ∨ way = 2 ∨ way = 3 ∨ way = 4 ∨ way = 5 by omega) with rfl | rfl | rfl | rfl | rfl | rfl
  · exact m_X4_putLaid_0 l Z M a ca ha sa L x y z h0 h1 hx8 hy8 hz8
  · exact m_X4_putLaid_1 l Z M a ca ha sa L x y z h0 h1 hx8 hy8 hz8
  · exact m_X4_putLaid_2 l Z M a ca ha sa L x y z h0 h1 hx8 hy8 hz8
  · exact m_X4_putLaid_3 l Z M a ca ha sa L x y z h0 h1 hx8 hy8 hz8
  · exact m_X4_putLaid_4 l Z M a ca ha sa L x y z h0 h1 hx8 hy8 hz8
  · exact m_X4_putLaid_5 l Z M a ca ha sa L x y z h0 h1 hx8 hy8 hz8

set_option maxHeartbeats 4000000 in
set_option maxRecDepth 100000 in
theorem m_X4_lower (l : Launch) (Z : hw_Z) (M : hw_M) (a : Nat) (ca : Nat) (ha : Nat) (sa : Nat) (L : Nat → Int64) (h0 : M a = hw_ob 5 [.ref ca, .ref ha, .ref sa]) (h1 : M ca = hw_al Z 8 L) : Met l yX4_lower (hw_m yX4_lower cX4_lower 3 none) ({ frames := 0, cells := 0, slots := 0, locals := 0 } : Room) (va_Pc [.ref a] (hw_P Z M)) (hw_Qv Z (fun M' => va_up M ca (hw_al Z 8 (hb_low L)) = M')) 0 0 (hw_A Z) := by
  refine hw_ofv (by decide +kernel) rfl (Nat.le_of_ble_eq_true rfl) ?_
  intro p e s m below meth c ls Q hx hb hml hown hts hk hnm hI hl hret
  have JN25 : ∀ (H : Heap) (locs : List Loc) (ls : Array Slot), hw_iv Z s (M) H locs → lv_has ls 3 [(1, .int (nI (hb_em L 8 0))), (0, .ref a)] → W p l e ({ frames := 0, cells := 0, slots := 0, locals := 0 } : Room) s m ([.ref a] : List Value).toArray below meth c H locs 0 0 Q (F0 m 25 ls []) := by
    intro H locs ls hI hl
    refine lv_iconst (v := nI 0) hx hb dX4_lower_25 (by decide) ?_
    refine lv_istore_n (lv' := [(2, .int (nI 0)), (1, .int (nI (hb_em L 8 0))), (0, .ref a)]) hx hb dX4_lower_26 rfl hl (by decide) rfl (fun ls hl => ?_)
    suffices LP27 : ∀ i, i ≤ 8 → ∀ (H : Heap) (locs : List Loc) (ls : Array Slot), hw_iv Z s (va_up M ca (hw_al Z 8 (hb_mix (hb_low L) L i))) H locs → lv_has ls 3 [(2, .int (nI i)), (1, .int (nI (hb_em L 8 0))), (0, .ref a)] → W p l e ({ frames := 0, cells := 0, slots := 0, locals := 0 } : Room) s m ([.ref a] : List Value).toArray below meth c H locs 0 0 Q (F0 m 27 ls []) from LP27 0 (by omega) _ _ _ (hI.eq (hw_id h1 (hw_alc (hb_mix_0 _ _)))) (lv_sub hl [0, 1, 2] rfl)
    refine hw_loop ?_ (fun i hi27 ih27 => ?_)
    · intro H locs ls hI hl
      refine lv_iload_n hx hb dX4_lower_27 rfl (lv_at hl 0 rfl) ?_
      refine lv_bipush (v := nI 8) hx hb dX4_lower_28 (by decide) ?_
      refine lv_icmp_ge (tgt := 65) hx hb dX4_lower_30 (by decide) (fun _ => ?_) (fun hc => absurd (Int32.le_refl _) hc)
      have hI := (hI.exl (hb_low L) (hw_us _ _ _) (fun j hj => hb_mix_lt hj))
      exact hret hI ((bx_uu _ _ _ _).symm) (Nat.le_of_ble_eq_true rfl) (Nat.le_of_ble_eq_true rfl) dX4_lower_65
    · intro H locs ls hI hl
      refine lv_iload_n hx hb dX4_lower_27 rfl (lv_at hl 0 rfl) ?_
      refine lv_bipush (v := nI 8) hx hb dX4_lower_28 (by decide) ?_
      refine lv_icmp_ge (tgt := 65) hx hb dX4_lower_30 (by decide) (fun hc => absurd hc (nI_ge hi27 (by decide))) (fun _ => ?_)
      refine lv_aload_n hx hb dX4_lower_33 rfl (lv_at hl 2 rfl) ?_
      refine hw_get hx hb hts hown hk hI fd_X4_9 (hw_up h0 (hw_noa h0 h1)) rfl dX4_lower_34 ?_
      refine lv_iload_n hx hb dX4_lower_37 rfl (lv_at hl 0 rfl) ?_
      refine lv_iload_n hx hb dX4_lower_38 rfl (lv_at hl 0 rfl) ?_
      refine lv_iload_n hx hb dX4_lower_39 rfl (lv_at hl 1 rfl) ?_
      refine lv_iadd hx hb dX4_lower_40 ?_
      refine hw_ti (nI_add _ _) ?_
      refine lv_bipush (v := nI 8) hx hb dX4_lower_41 (by decide) ?_
      refine lv_icmp_ge (tgt := 57) hx hb dX4_lower_43 (by decide) (fun c43 => ?_) (fun c43 => ?_)
      · have hE : ¬ i + hb_em L 8 0 < 8 := fun q => absurd c43 (nI_ge q (by decide))
        refine lv_lconst (v := 0) hx hb dX4_lower_57 (by decide) ?_
        refine hw_last hx hb hk hI (hw_us _ _ _) (j := i) rfl (by omega) (by decide) dX4_lower_58 (fun H locs hI => ?_)
        refine lv_iinc (v := nI (i + 1)) (lv' := [(2, .int (nI (i + 1))), (1, .int (nI (hb_em L 8 0))), (0, .ref a)]) hx hb dX4_lower_59 hl (k := 0) rfl (hw_inc _) (by decide) rfl (fun ls hl => ?_)
        refine lv_goto (tgt := 27) hx hb dX4_lower_62 (by decide) ?_
        exact ih27 _ _ _ (hI.eq (hw_uu1 (hw_alc (hb_mix_s (by show _ = (if _ then _ else _); rw [if_neg hE]))))) (lv_sub hl [0, 1, 2] rfl)
      · have hE : i + hb_em L 8 0 < 8 := Nat.not_le.mp (fun q => c43 (nI_le q (by have := hb_em_le L 8 0; omega)))
        refine lv_aload_n hx hb dX4_lower_46 rfl (lv_at hl 2 rfl) ?_
        refine hw_get hx hb hts hown hk hI fd_X4_9 (hw_up h0 (hw_noa h0 h1)) rfl dX4_lower_47 ?_
        refine lv_iload_n hx hb dX4_lower_50 rfl (lv_at hl 0 rfl) ?_
        refine lv_iload_n hx hb dX4_lower_51 rfl (lv_at hl 1 rfl) ?_
        refine lv_iadd hx hb dX4_lower_52 ?_
        refine hw_ti (nI_add _ _) ?_
        refine hw_lald hx hb hk hI (hw_us _ _ _) (j := (i + (hb_em L 8 0))) rfl (by omega) (by decide) dX4_lower_53 ?_
        refine lv_goto (tgt := 58) hx hb dX4_lower_54 (by decide) ?_
        refine hw_last hx hb hk hI (hw_us _ _ _) (j := i) rfl (by omega) (by decide) dX4_lower_58 (fun H locs hI => ?_)
        refine lv_iinc (v := nI (i + 1)) (lv' := [(2, .int (nI (i + 1))), (1, .int (nI (hb_em L 8 0))), (0, .ref a)]) hx hb dX4_lower_59 hl (k := 0) rfl (hw_inc _) (by decide) rfl (fun ls hl => ?_)
        refine lv_goto (tgt := 27) hx hb dX4_lower_62 (by decide) ?_
        exact ih27 _ _ _ (hI.eq (hw_uu1 (hw_alc (hb_mix_s (by show _ = (if _ then _ else _); rw [if_pos hE, hb_mix_ge (by omega)]))))) (lv_sub hl [0, 1, 2] rfl)
  refine lv_iconst (v := nI 0) hx hb dX4_lower_0 (by decide) ?_
  refine lv_istore_n (lv' := [(1, .int (nI 0)), (0, .ref a)]) hx hb dX4_lower_1 rfl hl (by decide) rfl (fun ls hl => ?_)
  suffices LP2 : ∀ i, i ≤ 8 → ∀ (H : Heap) (locs : List Loc) (ls : Array Slot), hw_iv Z s (M) H locs → lv_has ls 3 [(1, .int (nI i)), (0, .ref a)] → hb_em L 8 0 = hb_em L (8 - i) i → W p l e ({ frames := 0, cells := 0, slots := 0, locals := 0 } : Room) s m ([.ref a] : List Value).toArray below meth c H locs 0 0 Q (F0 m 2 ls []) from LP2 0 (by omega) _ _ _ hI (lv_sub hl [0, 1] rfl) rfl
  refine hw_loop ?_ (fun i hi2 ih2 => ?_)
  · intro H locs ls hI hl hJ
    refine lv_iload_n hx hb dX4_lower_2 rfl (lv_at hl 0 rfl) ?_
    refine lv_bipush (v := nI 8) hx hb dX4_lower_3 (by decide) ?_
    refine lv_icmp_ge (tgt := 25) hx hb dX4_lower_5 (by decide) (fun _ => ?_) (fun hc => absurd (Int32.le_refl _) hc)
    exact JN25  _ _ _ hI (lv_sub hl [0, 1] (by rw [hJ]; rfl)) 
  · intro H locs ls hI hl hJ
    refine lv_iload_n hx hb dX4_lower_2 rfl (lv_at hl 0 rfl) ?_
    refine lv_bipush (v := nI 8) hx hb dX4_lower_3 (by decide) ?_
    refine lv_icmp_ge (tgt := 25) hx hb dX4_lower_5 (by decide) (fun hc => absurd hc (nI_ge hi2 (by decide))) (fun _ => ?_)
    refine lv_aload_n hx hb dX4_lower_8 rfl (lv_at hl 1 rfl) ?_
    refine hw_get hx hb hts hown hk hI fd_X4_9 h0 rfl dX4_lower_9 ?_
    refine lv_iload_n hx hb dX4_lower_12 rfl (lv_at hl 0 rfl) ?_
    refine hw_lald hx hb hk hI h1 (j := i) rfl (by omega) (by decide) dX4_lower_13 ?_
    refine lv_lconst (v := 0) hx hb dX4_lower_14 (by decide) ?_
    refine W.lcmp hx hb dX4_lower_15 ?_
    refine lv_if_ne (tgt := 25) hx hb dX4_lower_16 (by decide) (fun c16 => ?_) (fun c16 => ?_)
    · exact JN25  _ _ _ hI (lv_sub hl [0, 1] (by rw [hJ, show 8 - i = (8 - i - 1) + 1 by omega, show hb_em L (8 - i - 1 + 1) i = i from if_neg (hw_cm c16)]; rfl)) 
    · refine lv_iinc (v := nI (i + 1)) (lv' := [(1, .int (nI (i + 1))), (0, .ref a)]) hx hb dX4_lower_19 hl (k := 0) rfl (hw_inc _) (by decide) rfl (fun ls hl => ?_)
      refine lv_goto (tgt := 2) hx hb dX4_lower_22 (by decide) ?_
      exact ih2 _ _ _ hI (lv_sub hl [0, 1] rfl) (by rw [hJ, show 8 - i = (8 - (i + 1)) + 1 by omega]; show (if L i = 0 then _ else _) = _; rw [if_pos (hw_cn c16)])

set_option maxHeartbeats 4000000 in
set_option maxRecDepth 100000 in
theorem m_X4_reckonSets (l : Launch) (Z : hw_Z) (M : hw_M) (a : Nat) (ca : Nat) (ha : Nat) (sa : Nat) (C : Nat → Int64) (H0 : Nat → Int64) (S0 : Nat → Int64) (h0 : M a = hw_ob 5 [.ref ca, .ref ha, .ref sa]) (h1 : M ca = hw_al Z 8 C) (h2 : M ha = hw_al Z 8 H0) (h3 : M sa = hw_al Z 8 S0) (n0 : ca ≠ ha) (n1 : ca ≠ sa) (n2 : ha ≠ sa) (hH0 : H0 0 = 0) (hS7 : S0 7 = 0) : Met l yX4_reckonSets (hw_m yX4_reckonSets cX4_reckonSets 6 none) ({ frames := 1, cells := 0, slots := 0, locals := 21 } : Room) (va_Pc [.ref a] (hw_P Z M)) (hw_Qv Z (fun M' => va_up (va_up M ha (hw_al Z 8 (hb_hang C))) sa (hw_al Z 8 (hb_supp C)) = M')) 0 0 (hw_A Z) := by
  refine hw_ofv (by decide +kernel) rfl (Nat.le_of_ble_eq_true rfl) ?_
  intro p e s m below meth c ls Q hx hb hml hown hts hk hnm hI hl hret
  refine lv_lconst (v := 0) hx hb dX4_reckonSets_0 (by decide) ?_
  refine lv_lstore_n (lv' := [(1, .long 0), (0, .ref a)]) hx hb dX4_reckonSets_1 rfl hl (by decide) rfl (fun ls hl => ?_)
  refine lv_bipush (v := nI 7) hx hb dX4_reckonSets_2 (by decide) ?_
  refine lv_istore_n (lv' := [(3, .int (nI 7)), (1, .long 0), (0, .ref a)]) hx hb dX4_reckonSets_4 rfl hl (by decide) rfl (fun ls hl => ?_)
  suffices LP5 : ∀ i, i ≤ 7 → ∀ (H : Heap) (locs : List Loc) (ls : Array Slot), hw_iv Z s (va_up (va_up M ha (hw_al Z 8 (hb_rH C H0 i))) sa (hw_al Z 8 (hb_rS C S0 i))) H locs → lv_has ls 6 [(1, .long (hb_hd C i)), (3, .int (nI (7 - i))), (0, .ref a)] → W p l e ({ frames := 1, cells := 0, slots := 0, locals := 21 } : Room) s m ([.ref a] : List Value).toArray below meth c H locs 0 0 Q (F0 m 5 ls []) from LP5 0 (by omega) _ _ _ (hI.eq (hb_rk0 h2 h3)) (lv_sub hl [1, 0, 2] rfl)
  refine hw_loop ?_ (fun i hi5 ih5 => ?_)
  · intro H locs ls hI hl
    refine lv_iload_n hx hb dX4_reckonSets_5 rfl (lv_at hl 1 rfl) ?_
    refine lv_if_le (tgt := 72) hx hb dX4_reckonSets_6 (by decide) (fun _ => ?_) (fun hc => absurd (show nI (7 - 7) ≤ 0 by decide) hc)
    have hI := (((hI.exl (a := ha) (hb_hang C) (hw_up (hw_us _ _ _) n2) (fun j hj => by
      show (if 8 - 7 ≤ j ∧ j < 8 then hb_hang C j else H0 j) = _
      by_cases h : 1 ≤ j
      · rw [if_pos ⟨h, hj⟩]
      · rw [if_neg (by omega), show j = 0 by omega, hH0]; rfl)).exl (a := sa) (hb_supp C) (hw_up (hw_us _ _ _) (Ne.symm n2)) (fun j hj => by
      show (if 8 - 7 ≤ j + 1 ∧ j < 7 then hb_supp C j else S0 j) = _
      by_cases h : j < 7
      · rw [if_pos ⟨by omega, h⟩]
      · rw [if_neg (by omega), show j = 7 by omega, hS7]; rfl)).eq (hb_rk2 n2))
    exact hret hI rfl (Nat.le_of_ble_eq_true rfl) (Nat.le_of_ble_eq_true rfl) dX4_reckonSets_72
  · intro H locs ls hI hl
    refine lv_iload_n hx hb dX4_reckonSets_5 rfl (lv_at hl 1 rfl) ?_
    refine lv_if_le (tgt := 72) hx hb dX4_reckonSets_6 (by decide) (fun hc => absurd hc (nI_nle (by omega) (by omega))) (fun _ => ?_)
    refine lv_aload_n hx hb dX4_reckonSets_9 rfl (lv_at hl 2 rfl) ?_
    refine hw_get hx hb hts hown hk hI fd_X4_9 (hw_up (hw_up h0 (hw_noa h0 h2)) (hw_noa h0 h3)) rfl dX4_reckonSets_10 ?_
    refine lv_iload_n hx hb dX4_reckonSets_13 rfl (lv_at hl 1 rfl) ?_
    refine lv_iconst (v := nI 1) hx hb dX4_reckonSets_14 (by decide) ?_
    refine lv_isub hx hb dX4_reckonSets_15 ?_
    refine hw_ti (pk_sub (by omega)) ?_
    refine hw_lald hx hb hk hI (hw_up (hw_up h1 n0) n1) (j := (7 - i - 1)) rfl (by omega) (by decide) dX4_reckonSets_16 ?_
    refine lv_lstore (lv' := [(4, .long (C (7 - i - 1))), (1, .long (hb_hd C i)), (3, .int (nI (7 - i))), (0, .ref a)]) hx hb dX4_reckonSets_17 hl (by decide) rfl (fun ls hl => ?_)
    refine lv_aload_n hx hb dX4_reckonSets_19 rfl (lv_at hl 3 rfl) ?_
    refine hw_get hx hb hts hown hk hI fd_X4_15 (hw_up (hw_up h0 (hw_noa h0 h2)) (hw_noa h0 h3)) rfl dX4_reckonSets_20 ?_
    refine lv_iload_n hx hb dX4_reckonSets_23 rfl (lv_at hl 2 rfl) ?_
    refine lv_aload_n hx hb dX4_reckonSets_24 rfl (lv_at hl 3 rfl) ?_
    refine hw_get hx hb hts hown hk hI fd_X4_9 (hw_up (hw_up h0 (hw_noa h0 h2)) (hw_noa h0 h3)) rfl dX4_reckonSets_25 ?_
    refine lv_iload_n hx hb dX4_reckonSets_28 rfl (lv_at hl 2 rfl) ?_
    refine hw_lald hx hb hk hI (hw_up (hw_up h1 n0) n1) (j := (7 - i)) rfl (by omega) (by decide) dX4_reckonSets_29 ?_
    refine lv_lload hx hb dX4_reckonSets_30 (lv_at hl 0 rfl) ?_
    refine hw_cl' hI (hw_rS hx hb hml hown hts hk hI (m_X4_withNeighbours l Z (va_up (va_up M ha (hw_al Z 8 (hb_rH C H0 i))) sa (hw_al Z 8 (hb_rS C S0 i))) (C (7 - i - 1))) cs_X4_47 ⟨rfl, rfl⟩ ⟨(Nat.le_of_ble_eq_true rfl), (Nat.le_of_ble_eq_true rfl)⟩ rfl hl.1 rfl (Nat.le_of_ble_eq_true rfl) ⟨(Nat.le_of_ble_eq_true rfl), (Nat.le_of_ble_eq_true rfl)⟩ dX4_reckonSets_32) (fun r32 M32 H locs hR hI => ?_)
    obtain ⟨rfl, rfl⟩ := hR
    refine lv_ldc2 (v := (-1)) hx hb hown (hts _ (hw_win (w := .constantLong RX4 51 (-1)) (by decide +kernel) (by decide +kernel))) dX4_reckonSets_35 ?_
    refine lv_lxor hx hb dX4_reckonSets_38 ?_
    refine lv_land hx hb dX4_reckonSets_39 ?_
    refine hw_last hx hb hk hI (hw_up (hw_us _ _ _) n2) (j := (7 - i)) rfl (by omega) (by decide) dX4_reckonSets_40 (fun H locs hI => ?_)
    refine lv_lload_n hx hb dX4_reckonSets_41 rfl (lv_at hl 1 rfl) ?_
    refine lv_aload_n hx hb dX4_reckonSets_42 rfl (lv_at hl 3 rfl) ?_
    refine hw_get hx hb hts hown hk hI fd_X4_15 (hw_up (hw_up (hw_up h0 (hw_noa h0 h2)) (hw_noa h0 h3)) (hw_noa h0 h2)) rfl dX4_reckonSets_43 ?_
    refine lv_iload_n hx hb dX4_reckonSets_46 rfl (lv_at hl 2 rfl) ?_
    refine hw_lald hx hb hk hI (hw_us _ _ _) (j := (7 - i)) rfl (by omega) (by decide) dX4_reckonSets_47 ?_
    refine hw_tl (va_up_self _ _ _) ?_
    refine lv_lor hx hb dX4_reckonSets_48 ?_
    refine lv_lload hx hb dX4_reckonSets_49 (lv_at hl 0 rfl) ?_
    refine lv_ldc2 (v := (-1)) hx hb hown (hts _ (hw_win (w := .constantLong RX4 51 (-1)) (by decide +kernel) (by decide +kernel))) dX4_reckonSets_51 ?_
    refine lv_lxor hx hb dX4_reckonSets_54 ?_
    refine lv_land hx hb dX4_reckonSets_55 ?_
    refine lv_lstore_n (lv' := [(1, .long (((hb_hd C i) ||| ((C (7 - i)) &&& ((hb_nb (C (7 - i - 1))) ^^^ (-1)))) &&& ((C (7 - i - 1)) ^^^ (-1)))), (4, .long (C (7 - i - 1))), (3, .int (nI (7 - i))), (0, .ref a)]) hx hb dX4_reckonSets_56 rfl hl (by decide) rfl (fun ls hl => ?_)
    refine lv_aload_n hx hb dX4_reckonSets_57 rfl (lv_at hl 3 rfl) ?_
    refine hw_get hx hb hts hown hk hI fd_X4_18 (hw_up (hw_up (hw_up h0 (hw_noa h0 h2)) (hw_noa h0 h3)) (hw_noa h0 h2)) rfl dX4_reckonSets_58 ?_
    refine lv_iload_n hx hb dX4_reckonSets_61 rfl (lv_at hl 2 rfl) ?_
    refine lv_iconst (v := nI 1) hx hb dX4_reckonSets_62 (by decide) ?_
    refine lv_isub hx hb dX4_reckonSets_63 ?_
    refine hw_ti (pk_sub (by omega)) ?_
    refine lv_lload_n hx hb dX4_reckonSets_64 rfl (lv_at hl 0 rfl) ?_
    refine hw_last hx hb hk hI (hw_up (hw_us _ _ _) (Ne.symm n2)) (j := (7 - i - 1)) rfl (by omega) (by decide) dX4_reckonSets_65 (fun H locs hI => ?_)
    refine lv_iinc (v := nI (7 - (i + 1))) (lv' := [(3, .int (nI (7 - (i + 1)))), (1, .long (((hb_hd C i) ||| ((C (7 - i)) &&& ((hb_nb (C (7 - i - 1))) ^^^ (-1)))) &&& ((C (7 - i - 1)) ^^^ (-1)))), (4, .long (C (7 - i - 1))), (0, .ref a)]) hx hb dX4_reckonSets_66 hl (k := 2) rfl (by rw [show 7 - i = (7 - (i + 1)) + 1 by omega]; exact pk_m1 _) (by decide) rfl (fun ls hl => ?_)
    refine lv_goto (tgt := 5) hx hb dX4_reckonSets_69 (by decide) ?_
    exact ih5 _ _ _ (hI.eq (hb_rk1 n2 (by omega))) (lv_sub hl [1, 0, 3] (by rw [hb_hd_s C (by omega : i < 7), ← hb_hg C (by omega : 0 < 7 - i)]; rfl))

set_option maxHeartbeats 4000000 in
set_option maxRecDepth 100000 in
theorem m_X4_tell (l : Launch) (Z : hw_Z) (M : hw_M) (a : Nat) (ca : Nat) (ha : Nat) (sa : Nat) (C : Nat → Int64) (H0 : Nat → Int64) (S0 : Nat → Int64) (k : Nat) (x : Int64) (h0 : M a = hw_ob 5 [.ref ca, .ref ha, .ref sa]) (h1 : M ca = hw_al Z 8 C) (h2 : M ha = hw_al Z 8 H0) (h3 : M sa = hw_al Z 8 S0) (n0 : ca ≠ ha) (n1 : ca ≠ sa) (n2 : ha ≠ sa) (hH0 : H0 0 = 0) (hS7 : S0 7 = 0) (hk8 : k < 8) : Met l yX4_tell (hw_m yX4_tell cX4_tell 4 none) ({ frames := 2, cells := 0, slots := 0, locals := 46 } : Room) (va_Pc [.ref a, .int (nI k), .long x] (hw_P Z M)) (hw_Qv Z (fun M' => va_up (va_up (va_up M ca (hw_al Z 8 (va_up C k x))) ha (hw_al Z 8 (hb_hang (va_up C k x)))) sa (hw_al Z 8 (hb_supp (va_up C k x))) = M')) 0 0 (hw_A Z) := by
  refine hw_ofv (by decide +kernel) rfl (Nat.le_of_ble_eq_true rfl) ?_
  intro p e s m below meth c ls Q hx hb hml hown hts hk hnm hI hl hret
  refine lv_aload_n hx hb dX4_tell_0 rfl (lv_at hl 0 rfl) ?_
  refine hw_get hx hb hts hown hk hI fd_X4_9 h0 rfl dX4_tell_1 ?_
  refine lv_iload_n hx hb dX4_tell_4 rfl (lv_at hl 1 rfl) ?_
  refine lv_lload_n hx hb dX4_tell_5 rfl (lv_at hl 2 rfl) ?_
  refine hw_last hx hb hk hI h1 (j := k) rfl (by omega) (by decide) dX4_tell_6 (fun H locs hI => ?_)
  refine lv_aload_n hx hb dX4_tell_7 rfl (lv_at hl 0 rfl) ?_
  refine hw_cv hI (hw_rV hx hb hml hown hts hk hI (m_X4_reckonSets l Z (va_up M ca (hw_al Z 8 (va_up C k x))) a ca ha sa (va_up C k x) H0 S0 (hw_up h0 (hw_noa h0 h1)) (hw_us _ _ _) (hw_up h2 (Ne.symm n0)) (hw_up h3 (Ne.symm n1)) n0 n1 n2 hH0 hS7) cv_X4_21 (hw_up h0 (hw_noa h0 h1)) rfl rfl ⟨rfl, rfl⟩ ⟨(Nat.le_of_ble_eq_true rfl), (Nat.le_of_ble_eq_true rfl)⟩ rfl hl.1 rfl (Nat.le_of_ble_eq_true rfl) ⟨(Nat.le_of_ble_eq_true rfl), (Nat.le_of_ble_eq_true rfl)⟩ dX4_tell_8) (fun M8 H locs hR hI => ?_)
  subst hR
  exact hret hI rfl (Nat.le_of_ble_eq_true rfl) (Nat.le_of_ble_eq_true rfl) dX4_tell_11

set_option maxHeartbeats 4000000 in
set_option maxRecDepth 100000 in
theorem m_X4_becomeCopy (l : Launch) (Z : hw_Z) (M : hw_M) (a : Nat) (ca : Nat) (ha : Nat) (sa : Nat) (C : Nat → Int64) (H0 : Nat → Int64) (S0 : Nat → Int64) (b : Nat) (cb : Nat) (hb0 : Nat) (sb : Nat) (B : Nat → Int64) (h0 : M a = hw_ob 5 [.ref ca, .ref ha, .ref sa]) (h1 : M ca = hw_al Z 8 C) (h2 : M ha = hw_al Z 8 H0) (h3 : M sa = hw_al Z 8 S0) (h4 : M b = hw_ob 5 [.ref cb, .ref hb0, .ref sb]) (h5 : M cb = hw_al Z 8 B) (n0 : ca ≠ ha) (n1 : ca ≠ sa) (n2 : ha ≠ sa) (hH0 : H0 0 = 0) (hS7 : S0 7 = 0) : Met l yX4_becomeCopy (hw_m yX4_becomeCopy cX4_becomeCopy 2 none) ({ frames := 2, cells := 0, slots := 0, locals := 46 } : Room) (va_Pc [.ref a, .ref b] (hw_P Z M)) (hw_Qv Z (fun M' => va_up (va_up (va_up M ca (hw_al Z 8 B)) ha (hw_al Z 8 (hb_hang B))) sa (hw_al Z 8 (hb_supp B)) = M')) 0 0 (hw_A Z) := by
  refine hw_ofv (by decide +kernel) rfl (Nat.le_of_ble_eq_true rfl) ?_
  intro p e s m below meth c ls Q hx hb hml hown hts hk hnm hI hl hret
  refine lv_aload_n hx hb dX4_becomeCopy_0 rfl (lv_at hl 1 rfl) ?_
  refine hw_get hx hb hts hown hk hI fd_X4_9 h4 rfl dX4_becomeCopy_1 ?_
  refine lv_iconst (v := nI 0) hx hb dX4_becomeCopy_4 (by decide) ?_
  refine lv_aload_n hx hb dX4_becomeCopy_5 rfl (lv_at hl 0 rfl) ?_
  refine hw_get hx hb hts hown hk hI fd_X4_9 h0 rfl dX4_becomeCopy_6 ?_
  refine lv_iconst (v := nI 0) hx hb dX4_becomeCopy_9 (by decide) ?_
  refine lv_bipush (v := nI 8) hx hb dX4_becomeCopy_10 (by decide) ?_
  refine hw_copyl hx hb (by rw [hml]; exact hl.1.symm) hts hown hk hI (hw_win (w := .methodLink RX4 24 arraycopyName) (by decide +kernel) (by decide +kernel)) (hw_win (w := .native arraycopyName) (by decide +kernel) (by decide +kernel)) (hw_win (w := .static arraycopyName) (by decide +kernel) (by decide +kernel)) (hw_win (w := .initialized "java/lang/System") (by decide +kernel) (by decide +kernel)) h5 h1 (sp' := 0) (dp' := 0) (n' := 8) rfl rfl rfl (by decide) (by decide) (by decide) (by decide) (by decide) (Nat.le_of_ble_eq_true rfl) (Nat.le_of_ble_eq_true rfl) dX4_becomeCopy_12 (fun H locs hI => ?_)
  replace hI := (hI.exl B (hw_us _ _ _) (fun j hj => hb_cpy8 hj)).eq (bx_uu _ _ _ _)
  refine lv_aload_n hx hb dX4_becomeCopy_15 rfl (lv_at hl 0 rfl) ?_
  refine hw_cv hI (hw_rV hx hb hml hown hts hk hI (m_X4_reckonSets l Z (va_up M ca (hw_al Z 8 B)) a ca ha sa B H0 S0 (hw_up h0 (hw_noa h0 h1)) (hw_us _ _ _) (hw_up h2 (Ne.symm n0)) (hw_up h3 (Ne.symm n1)) n0 n1 n2 hH0 hS7) cv_X4_21 (hw_up h0 (hw_noa h0 h1)) rfl rfl ⟨rfl, rfl⟩ ⟨(Nat.le_of_ble_eq_true rfl), (Nat.le_of_ble_eq_true rfl)⟩ rfl hl.1 rfl (Nat.le_of_ble_eq_true rfl) ⟨(Nat.le_of_ble_eq_true rfl), (Nat.le_of_ble_eq_true rfl)⟩ dX4_becomeCopy_16) (fun M16 H locs hR hI => ?_)
  subst hR
  exact hret hI rfl (Nat.le_of_ble_eq_true rfl) (Nat.le_of_ble_eq_true rfl) dX4_becomeCopy_19

set_option maxHeartbeats 4000000 in
set_option maxRecDepth 100000 in
theorem m_X4_becomeLaid (l : Launch) (Z : hw_Z) (M : hw_M) (a : Nat) (ca : Nat) (ha : Nat) (sa : Nat) (C : Nat → Int64) (H0 : Nat → Int64) (S0 : Nat → Int64) (b : Nat) (cb : Nat) (hb0 : Nat) (sb : Nat) (B : Nat → Int64) (way : Nat) (h0 : M a = hw_ob 5 [.ref ca, .ref ha, .ref sa]) (h1 : M ca = hw_al Z 8 C) (h2 : M ha = hw_al Z 8 H0) (h3 : M sa = hw_al Z 8 S0) (h4 : M b = hw_ob 5 [.ref cb, .ref hb0, .ref sb]) (h5 : M cb = hw_al Z 8 B) (n0 : ca ≠ ha) (n1 : ca ≠ sa) (n2 : ha ≠ sa) (n3 : cb ≠ ca) (n4 : b ≠ a) (hH0 : H0 0 = 0) (hS7 : S0 7 = 0) (hw6 : way < 6) : Met l yX4_becomeLaid (hw_m yX4_becomeLaid cX4_becomeLaid 7 none) ({ frames := 2, cells := 0, slots := 0, locals := 48 } : Room) (va_Pc [.ref a, .ref b, .int (nI way)] (hw_P Z M)) (hw_Qv Z (fun M' => va_up (va_up (va_up M ca (hw_al Z 8 (hb_laid B way))) ha (hw_al Z 8 (hb_hang (hb_laid B way)))) sa (hw_al Z 8 (hb_supp (hb_laid B way))) = M')) 0 0 (hw_A Z) := by
  refine hw_ofv (by decide +kernel) rfl (Nat.le_of_ble_eq_true rfl) ?_
  intro p e s m below meth c ls Q hx hb hml hown hts hk hnm hI hl hret
  refine lv_aload_n hx hb dX4_becomeLaid_0 rfl (lv_at hl 0 rfl) ?_
  refine hw_get hx hb hts hown hk hI fd_X4_9 h0 rfl dX4_becomeLaid_1 ?_
  refine lv_lconst (v := 0) hx hb dX4_becomeLaid_4 (by decide) ?_
  refine hw_cv hI (hw_rS hx hb hml hown hts hk hI (m_J7_fill_d0a16 l Z M ca 0 C h1) cs_X4_30 ⟨rfl, rfl⟩ ⟨(Nat.le_of_ble_eq_true rfl), (Nat.le_of_ble_eq_true rfl)⟩ rfl hl.1 rfl (Nat.le_of_ble_eq_true rfl) ⟨(Nat.le_of_ble_eq_true rfl), (Nat.le_of_ble_eq_true rfl)⟩ dX4_becomeLaid_5) (fun M5 H locs hR hI => ?_)
  subst hR
  refine lv_iconst (v := nI 0) hx hb dX4_becomeLaid_8 (by decide) ?_
  refine lv_istore_n (lv' := [(3, .int (nI 0)), (0, .ref a), (1, .ref b), (2, .int (nI way))]) hx hb dX4_becomeLaid_9 rfl hl (by decide) rfl (fun ls hl => ?_)
  suffices LP10 : ∀ z, z ≤ 8 → ∀ (H : Heap) (locs : List Loc) (ls : Array Slot), hw_iv Z s (va_up M ca (hw_al Z 8 (hb_la B way z))) H locs → lv_has ls 7 [(3, .int (nI z)), (0, .ref a), (1, .ref b), (2, .int (nI way))] → W p l e ({ frames := 2, cells := 0, slots := 0, locals := 48 } : Room) s m ([.ref a, .ref b, .int (nI way)] : List Value).toArray below meth c H locs 0 0 Q (F0 m 10 ls []) from LP10 0 (by omega) _ _ _ hI (lv_sub hl [0, 1, 2, 3] rfl)
  refine hw_loop ?_ (fun z hi10 ih10 => ?_)
  · intro H locs ls hI hl
    refine lv_iload_n hx hb dX4_becomeLaid_10 rfl (lv_at hl 0 rfl) ?_
    refine lv_bipush (v := nI 8) hx hb dX4_becomeLaid_11 (by decide) ?_
    refine lv_icmp_ge (tgt := 84) hx hb dX4_becomeLaid_13 (by decide) (fun _ => ?_) (fun hc => absurd (Int32.le_refl _) hc)
    refine lv_aload_n hx hb dX4_becomeLaid_84 rfl (lv_at hl 1 rfl) ?_
    refine hw_cv hI (hw_rV hx hb hml hown hts hk hI (m_X4_lower l Z (va_up M ca (hw_al Z 8 (hb_la B way 8))) a ca ha sa (hb_la B way 8) (hw_up h0 (hw_noa h0 h1)) (hw_us _ _ _)) cv_X4_40 (hw_up h0 (hw_noa h0 h1)) rfl rfl ⟨rfl, rfl⟩ ⟨(Nat.le_of_ble_eq_true rfl), (Nat.le_of_ble_eq_true rfl)⟩ rfl hl.1 rfl (Nat.le_of_ble_eq_true rfl) ⟨(Nat.le_of_ble_eq_true rfl), (Nat.le_of_ble_eq_true rfl)⟩ dX4_becomeLaid_85) (fun M85 H locs hR hI => ?_)
    subst hR
    refine lv_aload_n hx hb dX4_becomeLaid_88 rfl (lv_at hl 1 rfl) ?_
    refine hw_cv hI (hw_rV hx hb hml hown hts hk hI (m_X4_reckonSets l Z (va_up (va_up M ca (hw_al Z 8 (hb_la B way 8))) ca (hw_al Z 8 (hb_low (hb_la B way 8)))) a ca ha sa (hb_low (hb_la B way 8)) H0 S0 (hw_up (hw_up h0 (hw_noa h0 h1)) (hw_noa h0 h1)) (hw_us _ _ _) (hw_up (hw_up h2 (Ne.symm n0)) (Ne.symm n0)) (hw_up (hw_up h3 (Ne.symm n1)) (Ne.symm n1)) n0 n1 n2 hH0 hS7) cv_X4_21 (hw_up (hw_up h0 (hw_noa h0 h1)) (hw_noa h0 h1)) rfl rfl ⟨rfl, rfl⟩ ⟨(Nat.le_of_ble_eq_true rfl), (Nat.le_of_ble_eq_true rfl)⟩ rfl hl.1 rfl (Nat.le_of_ble_eq_true rfl) ⟨(Nat.le_of_ble_eq_true rfl), (Nat.le_of_ble_eq_true rfl)⟩ dX4_becomeLaid_89) (fun M89 H locs hR hI => ?_)
    subst hR
    exact hret hI (by rw [bx_uu]; rfl) (Nat.le_of_ble_eq_true rfl) (Nat.le_of_ble_eq_true rfl) dX4_becomeLaid_92
  · intro H locs ls hI hl
    refine lv_iload_n hx hb dX4_becomeLaid_10 rfl (lv_at hl 0 rfl) ?_
    refine lv_bipush (v := nI 8) hx hb dX4_becomeLaid_11 (by decide) ?_
    refine lv_icmp_ge (tgt := 84) hx hb dX4_becomeLaid_13 (by decide) (fun hc => absurd hc (nI_ge hi10 (by decide))) (fun _ => ?_)
    have JN78 : ∀ (H : Heap) (locs : List Loc) (ls : Array Slot), hw_iv Z s (va_up M ca (hw_al Z 8 (hb_la B way (z + 1)))) H locs → lv_has ls 7 [(3, .int (nI z)), (0, .ref a), (1, .ref b), (2, .int (nI way))] → W p l e ({ frames := 2, cells := 0, slots := 0, locals := 48 } : Room) s m ([.ref a, .ref b, .int (nI way)] : List Value).toArray below meth c H locs 0 0 Q (F0 m 78 ls []) := by
      intro H locs ls hI hl
      refine lv_iinc (v := nI (z + 1)) (lv' := [(3, .int (nI (z + 1))), (0, .ref a), (1, .ref b), (2, .int (nI way))]) hx hb dX4_becomeLaid_78 hl (k := 0) rfl (hw_inc _) (by decide) rfl (fun ls hl => ?_)
      refine lv_goto (tgt := 10) hx hb dX4_becomeLaid_81 (by decide) ?_
      exact ih10 _ _ _ hI (lv_sub hl [0, 1, 2, 3] rfl)
    refine lv_aload_n hx hb dX4_becomeLaid_16 rfl (lv_at hl 2 rfl) ?_
    refine hw_get hx hb hts hown hk hI fd_X4_9 (hw_up h4 (hw_noa h4 h1)) rfl dX4_becomeLaid_17 ?_
    refine lv_iload_n hx hb dX4_becomeLaid_20 rfl (lv_at hl 0 rfl) ?_
    refine hw_lald hx hb hk hI (hw_up h5 n3) (j := z) rfl (by omega) (by decide) dX4_becomeLaid_21 ?_
    refine lv_lstore (lv' := [(4, .long (B z)), (3, .int (nI z)), (0, .ref a), (1, .ref b), (2, .int (nI way))]) hx hb dX4_becomeLaid_22 hl (by decide) rfl (fun ls hl => ?_)
    refine lv_iconst (v := nI 0) hx hb dX4_becomeLaid_24 (by decide) ?_
    refine lv_istore (lv' := [(6, .int (nI 0)), (4, .long (B z)), (3, .int (nI z)), (0, .ref a), (1, .ref b), (2, .int (nI way))]) hx hb dX4_becomeLaid_25 hl (by decide) rfl (fun ls hl => ?_)
    suffices LP27 : ∀ i, i ≤ 64 → ∀ (H : Heap) (locs : List Loc) (ls : Array Slot), hw_iv Z s (va_up M ca (hw_al Z 8 (hb_lz (B z) way z i (hb_la B way z)))) H locs → lv_has ls 7 [(4, .long (hb_shn (B z) i)), (6, .int (nI i)), (3, .int (nI z)), (0, .ref a), (1, .ref b), (2, .int (nI way))] → W p l e ({ frames := 2, cells := 0, slots := 0, locals := 48 } : Room) s m ([.ref a, .ref b, .int (nI way)] : List Value).toArray below meth c H locs 0 0 Q (F0 m 27 ls []) from LP27 0 (by omega) _ _ _ hI (lv_sub hl [1, 0, 2, 3, 4, 5] rfl)
    refine hw_loop ?_ (fun i hi27 ih27 => ?_)
    · intro H locs ls hI hl
      refine lv_iload hx hb dX4_becomeLaid_27 (lv_at hl 1 rfl) ?_
      refine lv_bipush (v := nI 64) hx hb dX4_becomeLaid_29 (by decide) ?_
      refine lv_icmp_ge (tgt := 78) hx hb dX4_becomeLaid_31 (by decide) (fun _ => ?_) (fun hc => absurd (Int32.le_refl _) hc)
      exact JN78  _ _ _ (hI.eq rfl) (lv_sub hl [2, 3, 4, 5] rfl) 
    · intro H locs ls hI hl
      refine lv_iload hx hb dX4_becomeLaid_27 (lv_at hl 1 rfl) ?_
      refine lv_bipush (v := nI 64) hx hb dX4_becomeLaid_29 (by decide) ?_
      refine lv_icmp_ge (tgt := 78) hx hb dX4_becomeLaid_31 (by decide) (fun hc => absurd hc (nI_ge hi27 (by decide))) (fun _ => ?_)
      refine lv_lload hx hb dX4_becomeLaid_34 (lv_at hl 0 rfl) ?_
      refine lv_lconst (v := 0) hx hb dX4_becomeLaid_36 (by decide) ?_
      refine W.lcmp hx hb dX4_becomeLaid_37 ?_
      refine lv_if_eq (tgt := 78) hx hb dX4_becomeLaid_38 (by decide) (fun c38 => ?_) (fun c38 => ?_)
      · exact JN78  _ _ _ (hI.eq (by show _ = va_up M ca (hw_al Z 8 (hb_lz (B z) way z 64 (hb_la B way z))); rw [hb_lz_end (by omega) (hw_cn c38)])) (lv_sub hl [2, 3, 4, 5] rfl) 
      · refine lv_lload hx hb dX4_becomeLaid_41 (lv_at hl 0 rfl) ?_
        refine lv_lconst (v := 1) hx hb dX4_becomeLaid_43 (by decide) ?_
        refine lv_land hx hb dX4_becomeLaid_44 ?_
        refine lv_lconst (v := 0) hx hb dX4_becomeLaid_45 (by decide) ?_
        refine W.lcmp hx hb dX4_becomeLaid_46 ?_
        refine lv_if_eq (tgt := 66) hx hb dX4_becomeLaid_47 (by decide) (fun c47 => ?_) (fun c47 => ?_)
        · refine lv_lload hx hb dX4_becomeLaid_66 (lv_at hl 0 rfl) ?_
          refine lv_iconst (v := nI 1) hx hb dX4_becomeLaid_68 (by decide) ?_
          refine lv_lushr (v := hb_ushr (hb_shn (B z) i) (nI 1)) hx hb dX4_becomeLaid_69 rfl ?_
          refine lv_lstore (lv' := [(4, .long (hb_ushr (hb_shn (B z) i) (nI 1))), (6, .int (nI i)), (3, .int (nI z)), (0, .ref a), (1, .ref b), (2, .int (nI way))]) hx hb dX4_becomeLaid_70 hl (by decide) rfl (fun ls hl => ?_)
          refine lv_iinc (v := nI (i + 1)) (lv' := [(6, .int (nI (i + 1))), (4, .long (hb_ushr (hb_shn (B z) i) (nI 1))), (3, .int (nI z)), (0, .ref a), (1, .ref b), (2, .int (nI way))]) hx hb dX4_becomeLaid_72 hl (k := 1) rfl (hw_inc _) (by decide) rfl (fun ls hl => ?_)
          refine lv_goto (tgt := 27) hx hb dX4_becomeLaid_75 (by decide) ?_
          exact ih27 _ _ _ (hI.eq (by rw [hb_lz_n ((hb_bit_shn _ i (by omega)).mp (hw_cn c47))])) (lv_sub hl [1, 0, 2, 3, 4, 5] rfl)
        · refine lv_aload_n hx hb dX4_becomeLaid_50 rfl (lv_at hl 3 rfl) ?_
          refine lv_iload hx hb dX4_becomeLaid_51 (lv_at hl 1 rfl) ?_
          refine lv_bipush (v := nI 8) hx hb dX4_becomeLaid_53 (by decide) ?_
          refine lv_irem hx hb dX4_becomeLaid_55 (by decide) ?_
          refine hw_ti (pk_rem (by omega) (by decide) (by decide)) ?_
          refine lv_iload hx hb dX4_becomeLaid_56 (lv_at hl 1 rfl) ?_
          refine lv_bipush (v := nI 8) hx hb dX4_becomeLaid_58 (by decide) ?_
          refine lv_idiv hx hb dX4_becomeLaid_60 (by decide) ?_
          refine hw_ti (pk_div (by omega) (by decide) (by decide)) ?_
          refine lv_iload_n hx hb dX4_becomeLaid_61 rfl (lv_at hl 2 rfl) ?_
          refine lv_iload_n hx hb dX4_becomeLaid_62 rfl (lv_at hl 5 rfl) ?_
          refine hw_cv hI (hw_rV hx hb hml hown hts hk hI (m_X4_putLaid l Z (va_up M ca (hw_al Z 8 (hb_lz (B z) way z i (hb_la B way z)))) a ca ha sa (hb_lz (B z) way z i (hb_la B way z)) (i % 8) (i / 8) z way (hw_up h0 (hw_noa h0 h1)) (hw_us _ _ _) (by omega) (by omega) (by omega) hw6) cv_X4_36 (hw_up h0 (hw_noa h0 h1)) rfl rfl ⟨rfl, rfl⟩ ⟨(Nat.le_of_ble_eq_true rfl), (Nat.le_of_ble_eq_true rfl)⟩ rfl hl.1 rfl (Nat.le_of_ble_eq_true rfl) ⟨(Nat.le_of_ble_eq_true rfl), (Nat.le_of_ble_eq_true rfl)⟩ dX4_becomeLaid_63) (fun M63 H locs hR hI => ?_)
          subst hR
          refine lv_lload hx hb dX4_becomeLaid_66 (lv_at hl 0 rfl) ?_
          refine lv_iconst (v := nI 1) hx hb dX4_becomeLaid_68 (by decide) ?_
          refine lv_lushr (v := hb_ushr (hb_shn (B z) i) (nI 1)) hx hb dX4_becomeLaid_69 rfl ?_
          refine lv_lstore (lv' := [(4, .long (hb_ushr (hb_shn (B z) i) (nI 1))), (6, .int (nI i)), (3, .int (nI z)), (0, .ref a), (1, .ref b), (2, .int (nI way))]) hx hb dX4_becomeLaid_70 hl (by decide) rfl (fun ls hl => ?_)
          refine lv_iinc (v := nI (i + 1)) (lv' := [(6, .int (nI (i + 1))), (4, .long (hb_ushr (hb_shn (B z) i) (nI 1))), (3, .int (nI z)), (0, .ref a), (1, .ref b), (2, .int (nI way))]) hx hb dX4_becomeLaid_72 hl (k := 1) rfl (hw_inc _) (by decide) rfl (fun ls hl => ?_)
          refine lv_goto (tgt := 27) hx hb dX4_becomeLaid_75 (by decide) ?_
          exact ih27 _ _ _ (hI.eq (hw_uu1 (hw_alc (hb_lz_y (fun q => c47 ((lg_cmp_eq _ _).mpr ((hb_bit_shn _ i (by omega)).mpr q))))))) (lv_sub hl [1, 0, 2, 3, 4, 5] rfl)
