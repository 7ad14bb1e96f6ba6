theorem iw_X6 : ∀ w ∈ u_ws RX6 TX6 11, w ∈ hw_ws := fun w h => hw_win ((by decide +kernel : ∀ w ∈ u_ws RX6 TX6 11, w ∈ lw_tbl) w h) ((by decide +kernel : ∀ w ∈ u_ws RX6 TX6 11, goodWord w = true) w h)
theorem fd_X6_49 : hw_FD RX6 49 0 1 := ⟨RX6, TX6, 11, "MeltPoolLaw$Told", rfl, by decide, iw_X6, (hw_win (w := .fieldLink RX6 49 "MeltPoolLaw$Told" (TX6 1).2.1 (TX6 1).2.2.1) (by decide +kernel) (by decide +kernel)), Or.inl rfl⟩
theorem fd_X6_52 : hw_FD RX6 52 0 2 := ⟨RX6, TX6, 11, "MeltPoolLaw$Told", rfl, by decide, iw_X6, (hw_win (w := .fieldLink RX6 52 "MeltPoolLaw$Told" (TX6 2).2.1 (TX6 2).2.2.1) (by decide +kernel) (by decide +kernel)), Or.inl rfl⟩
theorem cb_L_cell (own : String) (index : Nat) : hw_CB own index yL_cell cL_cell 2 (some .int) 2 := ⟨⟨by decide +kernel, by decide +kernel, by decide +kernel⟩, (hw_win (w := .code yL_cell cL_cell 2 (some .int)) (by decide +kernel) (by decide +kernel)), (hw_win (w := .initialized yL_cell.cls) (by decide +kernel) (by decide +kernel))⟩
theorem cn_X6_56 : hw_CSN RX6 56 yL_cell "MeltPoolLaw" cL_cell 2 (some .int) 2 := ⟨cb_L_cell _ _, by decide +kernel, (hw_win (w := .static yL_cell) (by decide +kernel) (by decide +kernel))⟩
theorem cb_L_below (own : String) (index : Nat) : hw_CB own index yL_below cL_below 2 (some .int) 2 := ⟨⟨by decide +kernel, by decide +kernel, by decide +kernel⟩, (hw_win (w := .code yL_below cL_below 2 (some .int)) (by decide +kernel) (by decide +kernel)), (hw_win (w := .initialized yL_below.cls) (by decide +kernel) (by decide +kernel))⟩
theorem cn_X6_62 : hw_CSN RX6 62 yL_below "MeltPoolLaw" cL_below 2 (some .int) 2 := ⟨cb_L_below _ _, by decide +kernel, (hw_win (w := .static yL_below) (by decide +kernel) (by decide +kernel))⟩
theorem fp_X6_52 : hw_FP RX6 52 0 2 (.int) false := ⟨RX6, TX6, 11, "MeltPoolLaw$Told", tyX6, rfl, by decide, iw_X6, (hw_win (w := .fieldLink RX6 52 "MeltPoolLaw$Told" (TX6 2).2.1 (TX6 2).2.2.1) (by decide +kernel) (by decide +kernel)), Or.inl rfl, tyX6_ok, nmX6, rfl, (fun h => by cases h), by decide +kernel⟩
set_option maxHeartbeats 4000000 in
set_option maxRecDepth 100000 in
theorem m_L_cell (l : Launch) (Z : hw_Z) (M : hw_M) (k : Nat) (hk20 : k < 2 ^ 20) : Met l yL_cell (hw_m yL_cell cL_cell 2 (some .int)) ({ frames := 0, cells := 0, slots := 0, locals := 0 } : Room) (va_Pc [.ref Z.2.2.2, .int (nI k)] (hw_P Z M)) (hw_Qi Z (fun r M' => M = M')) 0 0 (hw_A Z) := by
  refine hw_ofi (by decide +kernel) rfl (Nat.le_of_ble_eq_true rfl) ?_
  intro p e s m below meth c ls Q hx hb hml hown hts hk hnm hI hl hret
  obtain ⟨L, xs, hL, hX, hA⟩ := hk.2.2.2.1
  refine lv_iload_n hx hb dL_cell_0 rfl (lv_at hl 1 rfl) ?_
  refine lv_aload_n hx hb dL_cell_1 rfl (lv_at hl 0 rfl) ?_
  refine hw_slen hx hb hI hX hA dL_cell_2 ?_
  refine lv_icmp_ge (tgt := 12) hx hb dL_cell_3 (by decide) (fun c3 => ?_) (fun c3 => ?_)
  · refine lv_ldc (v := 790386105) hx hb hown (hts _ (hw_win (w := .constant RL 8 790386105) (by decide +kernel) (by decide +kernel))) dL_cell_12 ?_
    refine lv_iload_n hx hb dL_cell_14 rfl (lv_at hl 1 rfl) ?_
    refine lv_iconst (v := nI 3) hx hb dL_cell_15 (by decide) ?_
    refine lv_iadd hx hb dL_cell_16 ?_
    refine hw_ti (nI_add _ _) ?_
    refine lv_imul hx hb dL_cell_17 ?_
    exact hret hI rfl (Nat.le_of_ble_eq_true rfl) (Nat.le_of_ble_eq_true rfl) dL_cell_18
  · have hkL : k < L := Nat.lt_of_not_le (fun q => c3 (nI_le q (by omega)))
    refine lv_aload_n hx hb dL_cell_6 rfl (lv_at hl 0 rfl) ?_
    refine lv_iload_n hx hb dL_cell_7 rfl (lv_at hl 1 rfl) ?_
    refine hw_sld hx hb hI hX hA hL (j := k) rfl (by omega) dL_cell_8 ?_
    refine lv_goto (tgt := 18) hx hb dL_cell_9 (by decide) ?_
    exact hret hI rfl (Nat.le_of_ble_eq_true rfl) (Nat.le_of_ble_eq_true rfl) dL_cell_18

set_option maxHeartbeats 4000000 in
set_option maxRecDepth 100000 in
theorem m_L_below (l : Launch) (Z : hw_Z) (M : hw_M) (v : Int32) (n : Nat) (hn0 : 0 < n) (hn : n < 2 ^ 31) : Met l yL_below (hw_m yL_below cL_below 2 (some .int)) ({ frames := 0, cells := 0, slots := 0, locals := 0 } : Room) (va_Pc [.int v, .int (nI n)] (hw_P Z M)) (hw_Qi Z (fun r M' => (∃ j : Nat, j < n ∧ nI j = r) ∧ M = M')) 0 0 (hw_A Z) := by
  refine hw_ofi (by decide +kernel) rfl (Nat.le_of_ble_eq_true rfl) ?_
  intro p e s m below meth c ls Q hx hb hml hown hts hk hnm hI hl hret
  refine lv_iload_n hx hb dL_below_0 rfl (lv_at hl 0 rfl) ?_
  refine lv_ldc (v := 2147483647) hx hb hown (hts _ (hw_win (w := .constant RL 7 2147483647) (by decide +kernel) (by decide +kernel))) dL_below_1 ?_
  refine lv_iand hx hb dL_below_3 ?_
  refine hw_ti (pk_and v 31 (by decide)) ?_
  refine lv_iload_n hx hb dL_below_4 rfl (lv_at hl 1 rfl) ?_
  refine lv_irem hx hb dL_below_5 (nI_ne0 hn0 hn) ?_
  refine hw_ti (pk_rem (Nat.mod_lt _ (by decide)) hn0 hn) ?_
  exact hret hI (⟨⟨_, Nat.mod_lt _ hn0, rfl⟩, rfl⟩) (Nat.le_of_ble_eq_true rfl) (Nat.le_of_ble_eq_true rfl) dL_below_6

set_option maxHeartbeats 4000000 in
set_option maxRecDepth 100000 in
theorem m_X6_draw (l : Launch) (Z : hw_Z) (M : hw_M) (t : Nat) (d : Nat) (v0 : Value) (v3 : Value) (v4 : Value) (v5 : Value) (v6 : Value) (v7 : Value) (v8 : Value) (v9 : Value) (v10 : Value) (n : Nat) (h0 : M t = hw_ob 0 [v0, .ref Z.2.2.2, .int (nI d), v3, v4, v5, v6, v7, v8, v9, v10]) (hn0 : 0 < n) (hn : n < 2 ^ 31) (hd : d < 2 ^ 20) : Met l yX6_draw (hw_m yX6_draw cX6_draw 3 (some .int)) ({ frames := 1, cells := 0, slots := 0, locals := 21 } : Room) (va_Pc [.ref t, .int (nI n)] (hw_P Z M)) (hw_Qi Z (fun r M' => ∃ j : Nat, j < n ∧ nI j = r ∧ va_up M t (hw_ob 0 [v0, .ref Z.2.2.2, .int (nI (d + 1)), v3, v4, v5, v6, v7, v8, v9, v10]) = M')) 0 0 (hw_A Z) := by
  refine hw_ofi (by decide +kernel) rfl (Nat.le_of_ble_eq_true rfl) ?_
  intro p e s m below meth c ls Q hx hb hml hown hts hk hnm hI hl hret
  refine lv_aload_n hx hb dX6_draw_0 rfl (lv_at hl 0 rfl) ?_
  refine hw_get hx hb hts hown hk hI fd_X6_49 h0 rfl dX6_draw_1 ?_
  refine lv_aload_n hx hb dX6_draw_4 rfl (lv_at hl 0 rfl) ?_
  refine hw_get hx hb hts hown hk hI fd_X6_52 h0 rfl dX6_draw_5 ?_
  refine lv_bipush (v := nI 24) hx hb dX6_draw_8 (by decide) ?_
  refine lv_irem hx hb dX6_draw_10 (by decide) ?_
  refine hw_ti (pk_rem (by omega) (by decide) (by decide)) ?_
  refine hw_ci hI (hw_rSN hx hb hml hown hts hk hI (m_L_cell l Z M (d % 24) (by omega)) cn_X6_56 ⟨rfl, rfl⟩ ⟨(Nat.le_of_ble_eq_true rfl), (Nat.le_of_ble_eq_true rfl)⟩ rfl hl.1 rfl (Nat.le_of_ble_eq_true rfl) ⟨(Nat.le_of_ble_eq_true rfl), (Nat.le_of_ble_eq_true rfl)⟩ dX6_draw_11) (fun r11 M11 H locs hR hI => ?_)
  obtain rfl := hR
  refine lv_aload_n hx hb dX6_draw_14 rfl (lv_at hl 0 rfl) ?_
  refine hw_get hx hb hts hown hk hI fd_X6_52 h0 rfl dX6_draw_15 ?_
  refine lv_bipush (v := nI 24) hx hb dX6_draw_18 (by decide) ?_
  refine lv_idiv hx hb dX6_draw_20 (by decide) ?_
  refine lv_bipush (v := nI 8) hx hb dX6_draw_21 (by decide) ?_
  refine lv_irem hx hb dX6_draw_23 (by decide) ?_
  refine lv_ishr hx hb dX6_draw_24 ?_
  refine lv_sipush (v := nI 397) hx hb dX6_draw_25 (by decide) ?_
  refine lv_aload_n hx hb dX6_draw_28 rfl (lv_at hl 0 rfl) ?_
  refine hw_get hx hb hts hown hk hI fd_X6_52 h0 rfl dX6_draw_29 ?_
  refine lv_imul hx hb dX6_draw_32 ?_
  refine hw_ti (pk_mul _ _) ?_
  refine lv_iadd hx hb dX6_draw_33 ?_
  refine lv_iload_n hx hb dX6_draw_34 rfl (lv_at hl 1 rfl) ?_
  refine hw_ci hI (hw_rSN hx hb hml hown hts hk hI (m_L_below l Z M ((r11 >>> ((((nI d) / (nI 24)) - ((nI d) / (nI 24)) / (nI 8) * (nI 8)) &&& 31)) + (nI (397 * d))) n hn0 hn) cn_X6_62 ⟨rfl, rfl⟩ ⟨(Nat.le_of_ble_eq_true rfl), (Nat.le_of_ble_eq_true rfl)⟩ rfl hl.1 rfl (Nat.le_of_ble_eq_true rfl) ⟨(Nat.le_of_ble_eq_true rfl), (Nat.le_of_ble_eq_true rfl)⟩ dX6_draw_35) (fun r35 M35 H locs hR hI => ?_)
  obtain ⟨⟨j, hj, rfl⟩, rfl⟩ := hR
  refine lv_istore_n (lv' := [(2, .int (nI j)), (0, .ref t), (1, .int (nI n))]) hx hb dX6_draw_38 rfl hl (by decide) rfl (fun ls hl => ?_)
  refine lv_aload_n hx hb dX6_draw_39 rfl (lv_at hl 1 rfl) ?_
  refine lv_dup hx hb dX6_draw_40 rfl ?_
  refine hw_get hx hb hts hown hk hI fd_X6_52 h0 rfl dX6_draw_41 ?_
  refine lv_iconst (v := nI 1) hx hb dX6_draw_44 (by decide) ?_
  refine lv_iadd hx hb dX6_draw_45 ?_
  refine hw_ti (nI_add _ _) ?_
  refine hw_put (fs' := [v0, .ref Z.2.2.2, .int (nI (d + 1)), v3, v4, v5, v6, v7, v8, v9, v10]) hx hb hts hown hk hI fp_X6_52 h0 (Nat.le_of_ble_eq_true rfl) rfl rfl rfl dX6_draw_46 (fun H locs hI => ?_)
  refine lv_iload_n hx hb dX6_draw_49 rfl (lv_at hl 0 rfl) ?_
  exact hret hI (⟨j, hj, rfl, rfl⟩) (Nat.le_of_ble_eq_true rfl) (Nat.le_of_ble_eq_true rfl) dX6_draw_50

set_option maxHeartbeats 4000000 in
set_option maxRecDepth 100000 in
theorem m_X6_plus (l : Launch) (Z : hw_Z) (M : hw_M) (a : Nat) (b : Nat) (f : Nat → Option Nat) (g : Nat → Int32) (h0 : M a = hw_ar Z 6 0 f) (h1 : M b = hw_ai Z 11 g) : Met l yX6_plus (hw_m yX6_plus cX6_plus 3 (some (.array (.array .int)))) ({ frames := 1, cells := 1, slots := 1, locals := 40 } : Room) (va_Pc [.ref a, .ref b] (hw_P Z M)) (hw_Qr Z (fun r M' => ∀ x, M x ≠ none → M' x = M x)) 1 1 (hw_A Z) := by
  refine hw_ofr (by decide +kernel) rfl (Or.inr ⟨_, rfl⟩) (Nat.le_of_ble_eq_true rfl) ?_
  intro p e s m below meth c ls Q hx hb hml hown hts hk hnm hI hl hret
  refine lv_aload_n hx hb dX6_plus_0 rfl (lv_at hl 0 rfl) ?_
  refine hw_alen (v := nI 0) hx hb hk hI 6 h0 rfl rfl dX6_plus_1 ?_
  refine lv_iconst (v := nI 1) hx hb dX6_plus_2 (by decide) ?_
  refine lv_iadd hx hb dX6_plus_3 ?_
  refine hw_ti (nI_add _ _) ?_
  refine hw_ti rfl ?_
  refine hw_newA hx hb hts hown hk hI (t := .int) (hw_win (w := .classLink RX6 22 (FieldType.array .int).toString) (by decide +kernel) (by decide +kernel)) (by decide) 6 rfl rfl (by decide) (Nat.le_of_ble_eq_true rfl) (Nat.le_of_ble_eq_true rfl) dX6_plus_4 (fun q4 H hq4 hI => ?_)
  refine lv_astore_n (lv' := [(2, .ref q4), (0, .ref a), (1, .ref b)]) hx hb dX6_plus_7 rfl hl (by decide) rfl (fun ls hl => ?_)
  refine lv_aload_n hx hb dX6_plus_8 rfl (lv_at hl 1 rfl) ?_
  refine lv_iconst (v := nI 0) hx hb dX6_plus_9 (by decide) ?_
  refine lv_aload_n hx hb dX6_plus_10 rfl (lv_at hl 0 rfl) ?_
  refine lv_iconst (v := nI 0) hx hb dX6_plus_11 (by decide) ?_
  refine lv_aload_n hx hb dX6_plus_12 rfl (lv_at hl 1 rfl) ?_
  refine hw_alen (v := nI 0) hx hb hk hI 6 (hw_up h0 (hw_nn h0 hq4)) rfl rfl dX6_plus_13 ?_
  refine hw_copy0 hx hb (by rw [hml]; exact hl.1.symm) hts hown hk hI (hw_win (w := .methodLink RX6 66 arraycopyName) (by decide +kernel) (by decide +kernel)) (hw_win (w := .native arraycopyName) (by decide +kernel) (by decide +kernel)) (hw_win (w := .static arraycopyName) (by decide +kernel) (by decide +kernel)) (hw_win (w := .initialized "java/lang/System") (by decide +kernel) (by decide +kernel)) 6 rfl (hw_up h0 (hw_nn h0 hq4)) (hw_us _ _ _) rfl rfl rfl (Nat.le_of_ble_eq_true rfl) (Nat.le_of_ble_eq_true rfl) dX6_plus_14 (fun H locs hI => ?_)
  refine lv_aload_n hx hb dX6_plus_17 rfl (lv_at hl 0 rfl) ?_
  refine lv_aload_n hx hb dX6_plus_18 rfl (lv_at hl 1 rfl) ?_
  refine hw_alen (v := nI 0) hx hb hk hI 6 (hw_up h0 (hw_nn h0 hq4)) rfl rfl dX6_plus_19 ?_
  refine lv_aload_n hx hb dX6_plus_20 rfl (lv_at hl 2 rfl) ?_
  refine hw_aastA hx hb hk hI 6 0 (t := .int) (by decide) (hw_us _ _ _) rfl (hk.1.2 0 _ rfl).2 (hw_up h1 (hw_nn h1 hq4)) (j := 0) rfl (by omega) (by decide) dX6_plus_21 (fun H locs hI => ?_)
  refine lv_aload_n hx hb dX6_plus_22 rfl (lv_at hl 0 rfl) ?_
  exact hret hI (fun x hx => by rw [va_up_ne _ _ (hw_xn hx hq4), va_up_ne _ _ (hw_xn hx hq4)]) (Nat.le_of_ble_eq_true rfl) (Nat.le_of_ble_eq_true rfl) dX6_plus_23
