theorem cb_J13_bitCount_95d88 (own : String) (index : Nat) : hw_CB own index yJ13_bitCount_95d88 cJ13_bitCount_95d88 2 (some .int) 1 := ⟨⟨by decide +kernel, by decide +kernel, by decide +kernel⟩, (hw_win (w := .code yJ13_bitCount_95d88 cJ13_bitCount_95d88 2 (some .int)) (by decide +kernel) (by decide +kernel)), (hw_win (w := .initialized yJ13_bitCount_95d88.cls) (by decide +kernel) (by decide +kernel))⟩
theorem cs_X4_53 : hw_CS RX4 53 yJ13_bitCount_95d88 cJ13_bitCount_95d88 2 (some .int) 1 := ⟨cb_J13_bitCount_95d88 _ _, (hw_win (w := .methodLink RX4 53 yJ13_bitCount_95d88) (by decide +kernel) (by decide +kernel)), (hw_win (w := .static yJ13_bitCount_95d88) (by decide +kernel) (by decide +kernel))⟩
set_option maxHeartbeats 4000000 in
set_option maxRecDepth 100000 in
theorem m_J13_bitCount_95d88 (l : Launch) (Z : hw_Z) (M : hw_M) (x : Int64) : Met l yJ13_bitCount_95d88 (hw_m yJ13_bitCount_95d88 cJ13_bitCount_95d88 2 (some .int)) ({ frames := 0, cells := 0, slots := 0, locals := 0 } : Room) (va_Pc [.long x] (hw_P Z M)) (hw_Qi Z (fun r M' => nI (hb_pc x) = r ∧ M = M')) 0 0 (hw_A Z) := by
  refine hw_ofi (by decide +kernel) rfl (Nat.le_of_ble_eq_true rfl) ?_
  intro p e s m below meth c ls Q hx hb hml hown hts hk hnm hI hl hret
  refine lv_lload_n hx hb dJ13_bitCount_95d88_0 rfl (lv_at hl 0 rfl) ?_
  refine lv_lload_n hx hb dJ13_bitCount_95d88_1 rfl (lv_at hl 0 rfl) ?_
  refine lv_iconst (v := nI 1) hx hb dJ13_bitCount_95d88_2 (by decide) ?_
  refine lv_lushr (v := hb_ushr x (nI 1)) hx hb dJ13_bitCount_95d88_3 rfl ?_
  refine lv_ldc2 (v := 6148914691236517205) hx hb hown (hts _ (hw_win (w := .constantLong RJ13 314 (6148914691236517205)) (by decide +kernel) (by decide +kernel))) dJ13_bitCount_95d88_4 ?_
  refine lv_land hx hb dJ13_bitCount_95d88_7 ?_
  refine lv_lsub hx hb dJ13_bitCount_95d88_8 ?_
  refine lv_topl (fun x1 ex1 => ?_)
  refine lv_lstore_n (lv' := [(0, .long x1)]) hx hb dJ13_bitCount_95d88_9 rfl hl (by decide) rfl (fun ls hl => ?_)
  refine lv_lload_n hx hb dJ13_bitCount_95d88_10 rfl (lv_at hl 0 rfl) ?_
  refine lv_ldc2 (v := 3689348814741910323) hx hb hown (hts _ (hw_win (w := .constantLong RJ13 316 (3689348814741910323)) (by decide +kernel) (by decide +kernel))) dJ13_bitCount_95d88_11 ?_
  refine lv_land hx hb dJ13_bitCount_95d88_14 ?_
  refine lv_lload_n hx hb dJ13_bitCount_95d88_15 rfl (lv_at hl 0 rfl) ?_
  refine lv_iconst (v := nI 2) hx hb dJ13_bitCount_95d88_16 (by decide) ?_
  refine lv_lushr (v := hb_ushr x1 (nI 2)) hx hb dJ13_bitCount_95d88_17 rfl ?_
  refine lv_ldc2 (v := 3689348814741910323) hx hb hown (hts _ (hw_win (w := .constantLong RJ13 316 (3689348814741910323)) (by decide +kernel) (by decide +kernel))) dJ13_bitCount_95d88_18 ?_
  refine lv_land hx hb dJ13_bitCount_95d88_21 ?_
  refine lv_ladd hx hb dJ13_bitCount_95d88_22 ?_
  refine lv_topl (fun x2 ex2 => ?_)
  refine lv_lstore_n (lv' := [(0, .long x2)]) hx hb dJ13_bitCount_95d88_23 rfl hl (by decide) rfl (fun ls hl => ?_)
  refine lv_lload_n hx hb dJ13_bitCount_95d88_24 rfl (lv_at hl 0 rfl) ?_
  refine lv_lload_n hx hb dJ13_bitCount_95d88_25 rfl (lv_at hl 0 rfl) ?_
  refine lv_iconst (v := nI 4) hx hb dJ13_bitCount_95d88_26 (by decide) ?_
  refine lv_lushr (v := hb_ushr x2 (nI 4)) hx hb dJ13_bitCount_95d88_27 rfl ?_
  refine lv_ladd hx hb dJ13_bitCount_95d88_28 ?_
  refine lv_ldc2 (v := 1085102592571150095) hx hb hown (hts _ (hw_win (w := .constantLong RJ13 318 (1085102592571150095)) (by decide +kernel) (by decide +kernel))) dJ13_bitCount_95d88_29 ?_
  refine lv_land hx hb dJ13_bitCount_95d88_32 ?_
  refine lv_topl (fun x3 ex3 => ?_)
  refine lv_lstore_n (lv' := [(0, .long x3)]) hx hb dJ13_bitCount_95d88_33 rfl hl (by decide) rfl (fun ls hl => ?_)
  refine lv_lload_n hx hb dJ13_bitCount_95d88_34 rfl (lv_at hl 0 rfl) ?_
  refine lv_lload_n hx hb dJ13_bitCount_95d88_35 rfl (lv_at hl 0 rfl) ?_
  refine lv_bipush (v := nI 8) hx hb dJ13_bitCount_95d88_36 (by decide) ?_
  refine lv_lushr (v := hb_ushr x3 (nI 8)) hx hb dJ13_bitCount_95d88_38 rfl ?_
  refine lv_ladd hx hb dJ13_bitCount_95d88_39 ?_
  refine lv_topl (fun x4 ex4 => ?_)
  refine lv_lstore_n (lv' := [(0, .long x4)]) hx hb dJ13_bitCount_95d88_40 rfl hl (by decide) rfl (fun ls hl => ?_)
  refine lv_lload_n hx hb dJ13_bitCount_95d88_41 rfl (lv_at hl 0 rfl) ?_
  refine lv_lload_n hx hb dJ13_bitCount_95d88_42 rfl (lv_at hl 0 rfl) ?_
  refine lv_bipush (v := nI 16) hx hb dJ13_bitCount_95d88_43 (by decide) ?_
  refine lv_lushr (v := hb_ushr x4 (nI 16)) hx hb dJ13_bitCount_95d88_45 rfl ?_
  refine lv_ladd hx hb dJ13_bitCount_95d88_46 ?_
  refine lv_topl (fun x5 ex5 => ?_)
  refine lv_lstore_n (lv' := [(0, .long x5)]) hx hb dJ13_bitCount_95d88_47 rfl hl (by decide) rfl (fun ls hl => ?_)
  refine lv_lload_n hx hb dJ13_bitCount_95d88_48 rfl (lv_at hl 0 rfl) ?_
  refine lv_lload_n hx hb dJ13_bitCount_95d88_49 rfl (lv_at hl 0 rfl) ?_
  refine lv_bipush (v := nI 32) hx hb dJ13_bitCount_95d88_50 (by decide) ?_
  refine lv_lushr (v := hb_ushr x5 (nI 32)) hx hb dJ13_bitCount_95d88_52 rfl ?_
  refine lv_ladd hx hb dJ13_bitCount_95d88_53 ?_
  refine lv_topl (fun x6 ex6 => ?_)
  refine lv_lstore_n (lv' := [(0, .long x6)]) hx hb dJ13_bitCount_95d88_54 rfl hl (by decide) rfl (fun ls hl => ?_)
  refine lv_lload_n hx hb dJ13_bitCount_95d88_55 rfl (lv_at hl 0 rfl) ?_
  refine lv_l2i (v := x6.toInt32) hx hb dJ13_bitCount_95d88_56 rfl ?_
  refine lv_bipush (v := nI 127) hx hb dJ13_bitCount_95d88_57 (by decide) ?_
  refine lv_iand hx hb dJ13_bitCount_95d88_59 ?_
  exact hret hI (⟨(hb_swar ex1 ex2 ex3 ex4 ex5 ex6).symm, rfl⟩) (Nat.le_of_ble_eq_true rfl) (Nat.le_of_ble_eq_true rfl) dJ13_bitCount_95d88_60

set_option maxHeartbeats 4000000 in
set_option maxRecDepth 100000 in
theorem m_X4_countOf (l : Launch) (Z : hw_Z) (M : hw_M) (a : Nat) (f : Nat → Int64) (h0 : M a = hw_al Z 8 f) : Met l yX4_countOf (hw_m yX4_countOf cX4_countOf 3 (some .int)) ({ frames := 1, cells := 0, slots := 0, locals := 21 } : Room) (va_Pc [.ref a] (hw_P Z M)) (hw_Qi Z (fun r M' => nI (hb_sm (fun k => hb_pc (f k)) 8) = r ∧ M = M')) 0 0 (hw_A Z) := by
  refine hw_ofi (by decide +kernel) rfl (Nat.le_of_ble_eq_true rfl) ?_
  intro p e s m below meth c ls Q hx hb hml hown hts hk hnm hI hl hret
  refine lv_iconst (v := nI 0) hx hb dX4_countOf_0 (by decide) ?_
  refine lv_istore_n (lv' := [(1, .int (nI 0)), (0, .ref a)]) hx hb dX4_countOf_1 rfl hl (by decide) rfl (fun ls hl => ?_)
  refine lv_iconst (v := nI 0) hx hb dX4_countOf_2 (by decide) ?_
  refine lv_istore_n (lv' := [(2, .int (nI 0)), (1, .int (nI 0)), (0, .ref a)]) hx hb dX4_countOf_3 rfl hl (by decide) rfl (fun ls hl => ?_)
  suffices LP4 : ∀ i, i ≤ 8 → ∀ (H : Heap) (locs : List Loc) (ls : Array Slot), hw_iv Z s (M) H locs → lv_has ls 3 [(1, .int (nI (hb_sm (fun k => hb_pc (f k)) i))), (2, .int (nI i)), (0, .ref a)] → W p l e ({ frames := 1, cells := 0, slots := 0, locals := 21 } : Room) s m ([.ref a] : List Value).toArray below meth c H locs 0 0 Q (F0 m 4 ls []) from LP4 0 (by omega) _ _ _ hI (lv_sub hl [1, 0, 2] rfl)
  refine hw_loop ?_ (fun i hi4 ih4 => ?_)
  · intro H locs ls hI hl
    refine lv_iload_n hx hb dX4_countOf_4 rfl (lv_at hl 1 rfl) ?_
    refine lv_bipush (v := nI 8) hx hb dX4_countOf_5 (by decide) ?_
    refine lv_icmp_ge (tgt := 25) hx hb dX4_countOf_7 (by decide) (fun _ => ?_) (fun hc => absurd (Int32.le_refl _) hc)
    refine lv_iload_n hx hb dX4_countOf_25 rfl (lv_at hl 0 rfl) ?_
    exact hret hI (⟨rfl, rfl⟩) (Nat.le_of_ble_eq_true rfl) (Nat.le_of_ble_eq_true rfl) dX4_countOf_26
  · intro H locs ls hI hl
    refine lv_iload_n hx hb dX4_countOf_4 rfl (lv_at hl 1 rfl) ?_
    refine lv_bipush (v := nI 8) hx hb dX4_countOf_5 (by decide) ?_
    refine lv_icmp_ge (tgt := 25) hx hb dX4_countOf_7 (by decide) (fun hc => absurd hc (nI_ge hi4 (by decide))) (fun _ => ?_)
    refine lv_iload_n hx hb dX4_countOf_10 rfl (lv_at hl 0 rfl) ?_
    refine lv_aload_n hx hb dX4_countOf_11 rfl (lv_at hl 2 rfl) ?_
    refine lv_iload_n hx hb dX4_countOf_12 rfl (lv_at hl 1 rfl) ?_
    refine hw_lald hx hb hk hI h0 (j := i) rfl (by omega) (by decide) dX4_countOf_13 ?_
    refine hw_ci hI (hw_rS hx hb hml hown hts hk hI (m_J13_bitCount_95d88 l Z M (f i)) cs_X4_53 ⟨rfl, rfl⟩ ⟨(Nat.le_of_ble_eq_true rfl), (Nat.le_of_ble_eq_true rfl)⟩ rfl hl.1 rfl (Nat.le_of_ble_eq_true rfl) ⟨(Nat.le_of_ble_eq_true rfl), (Nat.le_of_ble_eq_true rfl)⟩ dX4_countOf_14) (fun r14 M14 H locs hR hI => ?_)
    obtain ⟨rfl, rfl⟩ := hR
    refine lv_iadd hx hb dX4_countOf_17 ?_
    refine hw_ti (nI_add _ _) ?_
    refine lv_istore_n (lv' := [(1, .int (nI ((hb_sm (fun k => hb_pc (f k)) i) + (hb_pc (f i))))), (2, .int (nI i)), (0, .ref a)]) hx hb dX4_countOf_18 rfl hl (by decide) rfl (fun ls hl => ?_)
    refine lv_iinc (v := nI (i + 1)) (lv' := [(2, .int (nI (i + 1))), (1, .int (nI ((hb_sm (fun k => hb_pc (f k)) i) + (hb_pc (f i))))), (0, .ref a)]) hx hb dX4_countOf_19 hl (k := 1) rfl (hw_inc _) (by decide) rfl (fun ls hl => ?_)
    refine lv_goto (tgt := 4) hx hb dX4_countOf_22 (by decide) ?_
    exact ih4 _ _ _ hI (lv_sub hl [1, 0, 2] rfl)
