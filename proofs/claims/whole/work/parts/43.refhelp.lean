theorem iw_X11 : ∀ w ∈ u_ws RX11 TX11 6, w ∈ hw_ws := fun w h => hw_win ((by decide +kernel : ∀ w ∈ u_ws RX11 TX11 6, w ∈ lw_tbl) w h) ((by decide +kernel : ∀ w ∈ u_ws RX11 TX11 6, goodWord w = true) w h)
theorem fd_X11_26 : hw_FD RX11 26 12 0 := ⟨RX11, TX11, 6, "MeltPoolModel", rfl, by decide, iw_X11, (hw_win (w := .fieldLink RX11 26 "MeltPoolModel" (TX11 0).2.1 (TX11 0).2.2.1) (by decide +kernel) (by decide +kernel)), Or.inl rfl⟩
theorem fp_X11_26 : hw_FP RX11 26 12 0 (.int) false := ⟨RX11, TX11, 6, "MeltPoolModel", tyX11, rfl, by decide, iw_X11, (hw_win (w := .fieldLink RX11 26 "MeltPoolModel" (TX11 0).2.1 (TX11 0).2.2.1) (by decide +kernel) (by decide +kernel)), Or.inl rfl, tyX11_ok, nmX11, rfl, (fun h => by cases h), by decide +kernel⟩
theorem fd_X11_10 : hw_FD RX11 10 12 3 := ⟨RX11, TX11, 6, "MeltPoolModel", rfl, by decide, iw_X11, (hw_win (w := .fieldLink RX11 10 "MeltPoolModel" (TX11 3).2.1 (TX11 3).2.2.1) (by decide +kernel) (by decide +kernel)), Or.inl rfl⟩
theorem cf_X11_34 : hw_CF RX11 34 "java/util/ArrayList" ⟨"java/util/List", "size", "()I"⟩ yJx4a65c_size_8abf5 cJx4a65c_size_8abf5 1 (some .int) 0 := ⟨⟨by decide +kernel, by decide +kernel, by decide +kernel⟩, (hw_win (w := .code yJx4a65c_size_8abf5 cJx4a65c_size_8abf5 1 (some .int)) (by decide +kernel) (by decide +kernel)), (hw_win (w := .initialized yJx4a65c_size_8abf5.cls) (by decide +kernel) (by decide +kernel)), (hw_win (w := .methodLink RX11 34 ⟨"java/util/List", "size", "()I"⟩) (by decide +kernel) (by decide +kernel)), (hw_win (w := .selects "java/util/ArrayList" ⟨"java/util/List", "size", "()I"⟩ yJx4a65c_size_8abf5) (by decide +kernel) (by decide +kernel)), (hw_win (w := .instanceMethod yJx4a65c_size_8abf5) (by decide +kernel) (by decide +kernel)), by decide +kernel⟩
theorem cb_X11_in (own : String) (index : Nat) : hw_CB own index yX11_in cX11_in 3 (some .boolean) 3 := ⟨⟨by decide +kernel, by decide +kernel, by decide +kernel⟩, (hw_win (w := .code yX11_in cX11_in 3 (some .boolean)) (by decide +kernel) (by decide +kernel)), (hw_win (w := .initialized yX11_in.cls) (by decide +kernel) (by decide +kernel))⟩
theorem cs_X11_40 : hw_CS RX11 40 yX11_in cX11_in 3 (some .boolean) 3 := ⟨cb_X11_in _ _, (hw_win (w := .methodLink RX11 40 yX11_in) (by decide +kernel) (by decide +kernel)), (hw_win (w := .static yX11_in) (by decide +kernel) (by decide +kernel))⟩
theorem fd_X11_16 : hw_FD RX11 16 12 4 := ⟨RX11, TX11, 6, "MeltPoolModel", rfl, by decide, iw_X11, (hw_win (w := .fieldLink RX11 16 "MeltPoolModel" (TX11 4).2.1 (TX11 4).2.2.1) (by decide +kernel) (by decide +kernel)), Or.inl rfl⟩
set_option maxHeartbeats 4000000 in
set_option maxRecDepth 100000 in
theorem m_X11_thrown (l : Launch) (Z : hw_Z) (M : hw_M) (o : Nat) (lp : Nat) (lw : Nat) (lm : Nat) (t0 : Int32) (g0 : Int32) (g1 : Int32) (h0 : M o = hw_ob 12 [.int t0, .int g0, .int g1, .ref lp, .ref lw, .ref lm]) : Met l yX11_thrown (hw_m yX11_thrown cX11_thrown 1 (some .int)) ({ frames := 0, cells := 0, slots := 0, locals := 0 } : Room) (va_Pc [.ref o] (hw_P Z M)) (hw_Qi Z (fun r M' => t0 = r ∧ M = M')) 0 0 (hw_A Z) := by
  refine hw_ofi (by decide +kernel) rfl (Nat.le_of_ble_eq_true rfl) ?_
  intro p e s m below meth c ls Q hx hb hml hown hts hk hnm hI hl hret
  refine lv_aload_n hx hb dX11_thrown_0 rfl (lv_at hl 0 rfl) ?_
  refine hw_get hx hb hts hown hk hI fd_X11_26 h0 rfl dX11_thrown_1 ?_
  exact hret hI (⟨rfl, rfl⟩) (Nat.le_of_ble_eq_true rfl) (Nat.le_of_ble_eq_true rfl) dX11_thrown_4

set_option maxHeartbeats 4000000 in
set_option maxRecDepth 100000 in
theorem m_X11_no (l : Launch) (Z : hw_Z) (M : hw_M) (o : Nat) (lp : Nat) (lw : Nat) (lm : Nat) (t0 : Int32) (g0 : Int32) (g1 : Int32) (wh : Int32) (h0 : M o = hw_ob 12 [.int t0, .int g0, .int g1, .ref lp, .ref lw, .ref lm]) : Met l yX11_no (hw_m yX11_no cX11_no 2 (some .int)) ({ frames := 0, cells := 0, slots := 0, locals := 0 } : Room) (va_Pc [.ref o, .int wh] (hw_P Z M)) (hw_Qi Z (fun r M' => nI 0 = r ∧ va_up M o (hw_ob 12 [.int wh, .int g0, .int g1, .ref lp, .ref lw, .ref lm]) = M')) 0 0 (hw_A Z) := by
  refine hw_ofi (by decide +kernel) rfl (Nat.le_of_ble_eq_true rfl) ?_
  intro p e s m below meth c ls Q hx hb hml hown hts hk hnm hI hl hret
  refine lv_aload_n hx hb dX11_no_0 rfl (lv_at hl 0 rfl) ?_
  refine lv_iload_n hx hb dX11_no_1 rfl (lv_at hl 1 rfl) ?_
  refine hw_put (fs' := [.int wh, .int g0, .int g1, .ref lp, .ref lw, .ref lm]) hx hb hts hown hk hI fp_X11_26 h0 (Nat.le_of_ble_eq_true rfl) rfl rfl rfl dX11_no_2 (fun H locs hI => ?_)
  refine lv_iconst (v := nI 0) hx hb dX11_no_5 (by decide) ?_
  exact hret hI (⟨rfl, rfl⟩) (Nat.le_of_ble_eq_true rfl) (Nat.le_of_ble_eq_true rfl) dX11_no_6

set_option maxHeartbeats 4000000 in
set_option maxRecDepth 100000 in
theorem m_X11_isPiece (l : Launch) (Z : hw_Z) (M : hw_M) (o : Nat) (lp : Nat) (lw : Nat) (lm : Nat) (t0 : Int32) (g0 : Int32) (g1 : Int32) (k : Int32) (mc : Int32) (n : Nat) (dv : Value) (h0 : M o = hw_ob 12 [.int t0, .int g0, .int g1, .ref lp, .ref lw, .ref lm]) (h1 : M lp = hw_ob 0 [.int mc, dv, .int (nI n)]) (hn : n ≤ 6) : Met l yX11_isPiece (hw_m yX11_isPiece cX11_isPiece 2 (some .boolean)) ({ frames := 1, cells := 0, slots := 0, locals := 22 } : Room) (va_Pc [.ref o, .int k] (hw_P Z M)) (hw_Qi Z (fun r M' => nI (decide (hb_ok k n)).toNat = r ∧ M = M')) 0 0 (hw_A Z) := by
  refine hw_ofz (by decide +kernel) rfl (Nat.le_of_ble_eq_true rfl) ?_
  intro p e s m below meth c ls Q hx hb hml hown hts hk hnm hI hl hret
  refine lv_iload_n hx hb dX11_isPiece_0 rfl (lv_at hl 1 rfl) ?_
  refine lv_iconst (v := nI 0) hx hb dX11_isPiece_1 (by decide) ?_
  refine lv_aload_n hx hb dX11_isPiece_2 rfl (lv_at hl 0 rfl) ?_
  refine hw_get hx hb hts hown hk hI fd_X11_10 h0 rfl dX11_isPiece_3 ?_
  refine hw_cFi hI (hw_rF hx hb hml hown hts hk hI (m_Jx4a65c_size_8abf5 l Z M lp n mc dv h1) cf_X11_34 h1 rfl rfl ⟨rfl, rfl⟩ ⟨(Nat.le_of_ble_eq_true rfl), (Nat.le_of_ble_eq_true rfl)⟩ rfl hl.1 rfl (Nat.le_of_ble_eq_true rfl) ⟨(Nat.le_of_ble_eq_true rfl), (Nat.le_of_ble_eq_true rfl)⟩ dX11_isPiece_6) (fun r6 M6 H locs hR hI => ?_)
  obtain ⟨rfl, rfl⟩ := hR
  refine lv_iconst (v := nI 1) hx hb dX11_isPiece_11 (by decide) ?_
  refine lv_isub hx hb dX11_isPiece_12 ?_
  refine hw_ci hI (hw_rS hx hb hml hown hts hk hI (m_X11_in l Z M k (nI 0) ((nI n) - (nI 1))) cs_X11_40 ⟨rfl, rfl⟩ ⟨(Nat.le_of_ble_eq_true rfl), (Nat.le_of_ble_eq_true rfl)⟩ rfl hl.1 rfl (Nat.le_of_ble_eq_true rfl) ⟨(Nat.le_of_ble_eq_true rfl), (Nat.le_of_ble_eq_true rfl)⟩ dX11_isPiece_13) (fun r13 M13 H locs hR hI => ?_)
  obtain ⟨rfl, rfl⟩ := hR
  exact hret hI (hb_01 _) (⟨by rw [hb_in_ok (by omega)], rfl⟩) (Nat.le_of_ble_eq_true rfl) (Nat.le_of_ble_eq_true rfl) dX11_isPiece_16

set_option maxHeartbeats 4000000 in
set_option maxRecDepth 100000 in
theorem m_X11_isPowder (l : Launch) (Z : hw_Z) (M : hw_M) (o : Nat) (lp : Nat) (lw : Nat) (lm : Nat) (t0 : Int32) (g0 : Int32) (g1 : Int32) (k : Int32) (mc : Int32) (n : Nat) (dv : Value) (h0 : M o = hw_ob 12 [.int t0, .int g0, .int g1, .ref lp, .ref lw, .ref lm]) (h1 : M lw = hw_ob 0 [.int mc, dv, .int (nI n)]) (hn : n ≤ 6) : Met l yX11_isPowder (hw_m yX11_isPowder cX11_isPowder 2 (some .boolean)) ({ frames := 1, cells := 0, slots := 0, locals := 22 } : Room) (va_Pc [.ref o, .int k] (hw_P Z M)) (hw_Qi Z (fun r M' => nI (decide (hb_ok k n)).toNat = r ∧ M = M')) 0 0 (hw_A Z) := by
  refine hw_ofz (by decide +kernel) rfl (Nat.le_of_ble_eq_true rfl) ?_
  intro p e s m below meth c ls Q hx hb hml hown hts hk hnm hI hl hret
  refine lv_iload_n hx hb dX11_isPowder_0 rfl (lv_at hl 1 rfl) ?_
  refine lv_iconst (v := nI 0) hx hb dX11_isPowder_1 (by decide) ?_
  refine lv_aload_n hx hb dX11_isPowder_2 rfl (lv_at hl 0 rfl) ?_
  refine hw_get hx hb hts hown hk hI fd_X11_16 h0 rfl dX11_isPowder_3 ?_
  refine hw_cFi hI (hw_rF hx hb hml hown hts hk hI (m_Jx4a65c_size_8abf5 l Z M lw n mc dv h1) cf_X11_34 h1 rfl rfl ⟨rfl, rfl⟩ ⟨(Nat.le_of_ble_eq_true rfl), (Nat.le_of_ble_eq_true rfl)⟩ rfl hl.1 rfl (Nat.le_of_ble_eq_true rfl) ⟨(Nat.le_of_ble_eq_true rfl), (Nat.le_of_ble_eq_true rfl)⟩ dX11_isPowder_6) (fun r6 M6 H locs hR hI => ?_)
  obtain ⟨rfl, rfl⟩ := hR
  refine lv_iconst (v := nI 1) hx hb dX11_isPowder_11 (by decide) ?_
  refine lv_isub hx hb dX11_isPowder_12 ?_
  refine hw_ci hI (hw_rS hx hb hml hown hts hk hI (m_X11_in l Z M k (nI 0) ((nI n) - (nI 1))) cs_X11_40 ⟨rfl, rfl⟩ ⟨(Nat.le_of_ble_eq_true rfl), (Nat.le_of_ble_eq_true rfl)⟩ rfl hl.1 rfl (Nat.le_of_ble_eq_true rfl) ⟨(Nat.le_of_ble_eq_true rfl), (Nat.le_of_ble_eq_true rfl)⟩ dX11_isPowder_13) (fun r13 M13 H locs hR hI => ?_)
  obtain ⟨rfl, rfl⟩ := hR
  exact hret hI (hb_01 _) (⟨by rw [hb_in_ok (by omega)], rfl⟩) (Nat.le_of_ble_eq_true rfl) (Nat.le_of_ble_eq_true rfl) dX11_isPowder_16

set_option maxHeartbeats 4000000 in
set_option maxRecDepth 100000 in
theorem m_X11_isMachine (l : Launch) (Z : hw_Z) (M : hw_M) (k : Int32) : Met l yX11_isMachine (hw_m yX11_isMachine cX11_isMachine 1 (some .boolean)) ({ frames := 1, cells := 0, slots := 0, locals := 22 } : Room) (va_Pc [.int k] (hw_P Z M)) (hw_Qi Z (fun r M' => nI (decide (hb_ok k 2)).toNat = r ∧ M = M')) 0 0 (hw_A Z) := by
  refine hw_ofz (by decide +kernel) rfl (Nat.le_of_ble_eq_true rfl) ?_
  intro p e s m below meth c ls Q hx hb hml hown hts hk hnm hI hl hret
  refine lv_iload_n hx hb dX11_isMachine_0 rfl (lv_at hl 0 rfl) ?_
  refine lv_iconst (v := nI 0) hx hb dX11_isMachine_1 (by decide) ?_
  refine lv_iconst (v := nI 1) hx hb dX11_isMachine_2 (by decide) ?_
  refine hw_ci hI (hw_rS hx hb hml hown hts hk hI (m_X11_in l Z M k (nI 0) (nI 1)) cs_X11_40 ⟨rfl, rfl⟩ ⟨(Nat.le_of_ble_eq_true rfl), (Nat.le_of_ble_eq_true rfl)⟩ rfl hl.1 rfl (Nat.le_of_ble_eq_true rfl) ⟨(Nat.le_of_ble_eq_true rfl), (Nat.le_of_ble_eq_true rfl)⟩ dX11_isMachine_3) (fun r3 M3 H locs hR hI => ?_)
  obtain ⟨rfl, rfl⟩ := hR
  exact hret hI (hb_01 _) (⟨by rw [hb_in_okL (by decide)], rfl⟩) (Nat.le_of_ble_eq_true rfl) (Nat.le_of_ble_eq_true rfl) dX11_isMachine_6
