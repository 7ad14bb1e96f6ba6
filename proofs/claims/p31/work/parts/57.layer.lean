theorem cb_X6_draw (own : String) (index : Nat) : hw_CB own index yX6_draw cX6_draw 3 (some .int) 1 := ⟨⟨by decide +kernel, by decide +kernel, by decide +kernel⟩, (hw_win (w := .code yX6_draw cX6_draw 3 (some .int)) (by decide +kernel) (by decide +kernel)), (hw_win (w := .initialized yX6_draw.cls) (by decide +kernel) (by decide +kernel))⟩
theorem cv_X6_80 : hw_CV RX6 80 yX6_draw cX6_draw 3 (some .int) 1 := ⟨cb_X6_draw _ _, (hw_win (w := .methodLink RX6 80 yX6_draw) (by decide +kernel) (by decide +kernel)), (hw_win (w := .instanceMethod yX6_draw) (by decide +kernel) (by decide +kernel)), (hw_win (w := .selects yX6_draw.cls yX6_draw yX6_draw) (by decide +kernel) (by decide +kernel))⟩
theorem cb_X5_layer (own : String) (index : Nat) : hw_CB own index yX5_layer cX5_layer 6 (some .int) 3 := ⟨⟨by decide +kernel, by decide +kernel, by decide +kernel⟩, (hw_win (w := .code yX5_layer cX5_layer 6 (some .int)) (by decide +kernel) (by decide +kernel)), (hw_win (w := .initialized yX5_layer.cls) (by decide +kernel) (by decide +kernel))⟩
theorem cv_X6_84 : hw_CV RX6 84 yX5_layer cX5_layer 6 (some .int) 3 := ⟨cb_X5_layer _ _, (hw_win (w := .methodLink RX6 84 yX5_layer) (by decide +kernel) (by decide +kernel)), (hw_win (w := .instanceMethod yX5_layer) (by decide +kernel) (by decide +kernel)), (hw_win (w := .selects yX5_layer.cls yX5_layer yX5_layer) (by decide +kernel) (by decide +kernel))⟩
set_option maxHeartbeats 4000000 in
set_option maxRecDepth 100000 in
theorem m_X6_layer (l : Launch) (Z : hw_Z) (M : hw_M) (ad : hp_ad) (S : hs_S) (t : Nat) (so : Nat) (bo : Nat) (d : Nat) (v4 : Value) (v5 : Value) (v6 : Value) (v7 : Value) (v8 : Value) (v9 : Value) (v10 : Value) (g : Nat → Int32) (z : Nat) (hst : l.stackTraces = false) (hT : lt_o Z M ad S t so bo d v4 v5 v6 v7 v8 v9 v10 g) (hB : hs_b S) (hnp : 0 < hs_np S) (h0 : hs_P S 0 0 = 0) (hz : z < 8) (hd : d + 13 < 2 ^ 20) : Met l yX6_layer (hw_m yX6_layer cX6_layer 12 (some .boolean)) ({ frames := 10, cells := 6, slots := 36, locals := 240 } : Room) (va_Pc [.ref t, .int (nI 0), .int (nI z)] (hw_P Z M)) (hw_Qi Z (fun r M' => r = nI 1 ∧ ∃ (x : Int64) (d' : Nat) (g' : Nat → Int32), ¬ x = 0 ∧ d' ≤ d + 13 ∧ lt_o Z M' ad (hs_sC S 0 (va_up (hs_C S 0) z x)) t so bo d' v4 v5 v6 v7 v8 v9 v10 g')) 6 36 (hw_A Z) := by
  refine hw_ofz (by decide +kernel) rfl (Nat.le_of_ble_eq_true rfl) ?_
  intro p e s m below meth c ls Q hx hb hml hown hts hk hnm hI hl hret
  have q0 := hT
  obtain ⟨kt0, ⟨f0, ks0, kf0⟩, kb0, kh0, k10, k20, k30⟩ := q0
  refine lv_lconst (v := 0) hx hb dX6_layer_0 (by decide) ?_
  refine lv_lstore_n (lv' := [(3, .long 0), (0, .ref t), (1, .int (nI 0)), (2, .int (nI z))]) hx hb dX6_layer_1 rfl hl (by decide) rfl (fun ls hl => ?_)
  refine lv_iconst (v := nI 0) hx hb dX6_layer_2 (by decide) ?_
  refine lv_istore (lv' := [(5, .int (nI 0)), (3, .long 0), (0, .ref t), (1, .int (nI 0)), (2, .int (nI z))]) hx hb dX6_layer_3 hl (by decide) rfl (fun ls hl => ?_)
  refine lv_iconst (v := nI 0) hx hb dX6_layer_5 (by decide) ?_
  refine lv_istore (lv' := [(6, .int (nI 0)), (5, .int (nI 0)), (3, .long 0), (0, .ref t), (1, .int (nI 0)), (2, .int (nI z))]) hx hb dX6_layer_6 hl (by decide) rfl (fun ls hl => ?_)
  suffices LP8 : ∀ i, i ≤ 64 → ∀ (M1 : hw_M) (g1 : Nat → Int32) (hT1 : lt_o Z M1 ad S t so bo d v4 v5 v6 v7 v8 v9 v10 g1) (hC1 : ∀ q, q < i → g1 (64 * z + q) = nI 0) (H : Heap) (locs : List Loc) (ls : Array Slot), hw_iv Z s (M1) H locs → lv_has ls 12 [(3, .long 0), (5, .int (nI 0)), (6, .int (nI i)), (0, .ref t), (1, .int (nI 0)), (2, .int (nI z))] → W p l e ({ frames := 10, cells := 6, slots := 36, locals := 240 } : Room) s m ([.ref t, .int (nI 0), .int (nI z)] : List Value).toArray below meth c H locs 0 0 Q (F0 m 8 ls []) from LP8 0 (by omega) M g hT (fun _ h => absurd h (Nat.not_lt_zero _)) _ _ _ hI (lv_sub hl [2, 1, 0, 3, 4, 5] rfl)
  refine hw_loop ?_ (fun i hi8 ih8 => ?_)
  · intro M1 g1 hT1 hC1 H locs ls hI hl
    have q8 := hT1
    obtain ⟨kt8, ⟨f8, ks8, kf8⟩, kb8, kh8, k18, k28, k38⟩ := q8
    refine lv_iload hx hb dX6_layer_8 (lv_at hl 2 rfl) ?_
    refine lv_bipush (v := nI 64) hx hb dX6_layer_10 (by decide) ?_
    refine lv_icmp_ge (tgt := 36) hx hb dX6_layer_12 (by decide) (fun _ => ?_) (fun hc => absurd (Int32.le_refl _) hc)
    refine lv_aload_n hx hb dX6_layer_36 rfl (lv_at hl 3 rfl) ?_
    refine lv_iconst (v := nI 3) hx hb dX6_layer_37 (by decide) ?_
    refine hw_ci hI (hw_rV hx hb hml hown hts hk hI (m_X6_draw l Z M1 t d (.ref (ad 0 0)) (.ref so) v4 v5 v6 v7 v8 v9 v10 3 kt8 (by decide) (by decide) (by omega)) cv_X6_80 kt8 rfl rfl ⟨rfl, rfl⟩ ⟨(Nat.le_of_ble_eq_true rfl), (Nat.le_of_ble_eq_true rfl)⟩ rfl hl.1 rfl (Nat.le_of_ble_eq_true rfl) ⟨(Nat.le_of_ble_eq_true rfl), (Nat.le_of_ble_eq_true rfl)⟩ dX6_layer_38) (fun r38 M38 H locs hR hI => ?_)
    obtain ⟨j38, hj38, rfl, hM38⟩ := hR
    have hT38 : lt_o Z M38 ad S t so bo (d + 1) v4 v5 v6 v7 v8 v9 v10 g1 := hM38 ▸ lt_d hT1
    have q38 := hT38
    obtain ⟨kt38, ⟨f38, ks38, kf38⟩, kb38, kh38, k138, k238, k338⟩ := q38
    refine lv_istore (lv' := [(6, .int (nI j38)), (3, .long 0), (5, .int (nI 0)), (0, .ref t), (1, .int (nI 0)), (2, .int (nI z))]) hx hb dX6_layer_41 hl (by decide) rfl (fun ls hl => ?_)
    suffices LP43 : ∀ n, n ≤ (j38 + 1) → ∀ (M2 : hw_M) (x : Int64) (d2 : Nat) (g2 : Nat → Int32) (hT2 : lt_o Z M2 ad S t so bo d2 v4 v5 v6 v7 v8 v9 v10 g2) (hB2 : lr_b z x g2) (hx2 : 0 < n → ¬ x = 0) (hd2 : d2 ≤ d + 1 + 4 * n) (H : Heap) (locs : List Loc) (ls : Array Slot), hw_iv Z s (M2) H locs → lv_has ls 12 [(3, .long x), (5, .int (nI 0)), (6, .int (nI (j38 + 1 - n) + (-1))), (0, .ref t), (1, .int (nI 0)), (2, .int (nI z))] → W p l e ({ frames := 10, cells := 6, slots := 36, locals := 240 } : Room) s m ([.ref t, .int (nI 0), .int (nI z)] : List Value).toArray below meth c H locs 0 0 Q (F0 m 43 ls []) from LP43 0 (by omega) _ 0 _ _ hT38 (lr_0 hC1) (fun h => absurd h (Nat.lt_irrefl 0)) (by omega) _ _ _ hI (lv_sub hl [1, 2, 0, 3, 4, 5] (by rw [Nat.sub_zero, pk_m1]; rfl))
    refine hw_loop ?_ (fun n hi43 ih43 => ?_)
    · intro M2 x d2 g2 hT2 hB2 hx2 hd2 H locs ls hI hl
      have q43 := hT2
      obtain ⟨kt43, ⟨f43, ks43, kf43⟩, kb43, kh43, k143, k243, k343⟩ := q43
      refine lv_iload hx hb dX6_layer_43 (lv_at hl 2 rfl) ?_
      refine lv_if_lt (tgt := 175) hx hb dX6_layer_45 (by decide) (fun _ => ?_) (fun hc => absurd (by rw [Nat.sub_self]; decide) hc)
      refine lv_iconst (v := nI 0) hx hb dX6_layer_175 (by decide) ?_
      refine lv_istore (lv' := [(6, .int (nI 0)), (3, .long x), (5, .int (nI 0)), (0, .ref t), (1, .int (nI 0)), (2, .int (nI z))]) hx hb dX6_layer_176 hl (by decide) rfl (fun ls hl => ?_)
      suffices LP178 : ∀ v, v ≤ 64 → ∀ (H : Heap) (locs : List Loc) (ls : Array Slot), hw_iv Z s (M2) H locs → lv_has ls 12 [(3, .long x), (5, .int (nI (hb_ct (hb_bit x) v))), (6, .int (nI v)), (0, .ref t), (1, .int (nI 0)), (2, .int (nI z))] → W p l e ({ frames := 10, cells := 6, slots := 36, locals := 240 } : Room) s m ([.ref t, .int (nI 0), .int (nI z)] : List Value).toArray below meth c H locs 0 0 Q (F0 m 178 ls []) from LP178 0 (by omega) _ _ _ hI (lv_sub hl [1, 2, 0, 3, 4, 5] rfl)
      refine hw_loop ?_ (fun v hi178 ih178 => ?_)
      · intro H locs ls hI hl
        refine lv_iload hx hb dX6_layer_178 (lv_at hl 2 rfl) ?_
        refine lv_bipush (v := nI 64) hx hb dX6_layer_180 (by decide) ?_
        refine lv_icmp_ge (tgt := 218) hx hb dX6_layer_182 (by decide) (fun _ => ?_) (fun hc => absurd (Int32.le_refl _) hc)
        refine lv_aload_n hx hb dX6_layer_218 rfl (lv_at hl 3 rfl) ?_
        refine hw_get hx hb hts hown hk hI fd_X6_10 kt43 rfl dX6_layer_219 ?_
        refine lv_iload_n hx hb dX6_layer_222 rfl (lv_at hl 4 rfl) ?_
        refine lv_iload_n hx hb dX6_layer_223 rfl (lv_at hl 5 rfl) ?_
        refine lv_lload_n hx hb dX6_layer_224 rfl (lv_at hl 0 rfl) ?_
        have lh225 : lh Z (M2) ad S := kh43
        obtain ⟨T225, hP225⟩ := lh225
        have e225 : (M2) (ad 0 0) = hp_e0 Z ad S T225 0 := hP225.m 0 0 (by decide)
        refine hw_yi hI (hw_xV hx hb hml hown hts hk hI (m_X5_layer l hst Z M2 ad S T225 (hq_b ad) (nI 0) (nI z) x hP225 hB) cv_X6_84 e225 rfl rfl ⟨rfl, rfl⟩ ⟨(Nat.le_of_ble_eq_true rfl), (Nat.le_of_ble_eq_true rfl)⟩ rfl hl.1 rfl (Nat.le_of_ble_eq_true rfl) ⟨(Nat.le_of_ble_eq_true rfl), (Nat.le_of_ble_eq_true rfl)⟩ dX6_layer_225) (fun _ _ _ _ _ _ _ hX9 _ _ _ => lx (ls_layer (x := x) hnp hB.np hz h0) hX9) (fun r225 M225 H locs hR hI => ?_)
        obtain ⟨rfl, hC225, hF225⟩ := lr (ls_layer (x := x) hnp hB.np hz h0) hR
        have b225_t : hq_b ad t := k143
        have f225_t : M225 t = hw_ob 0 [.ref (ad 0 0), .ref Z.2.2.2, .int (nI d2), .ref so, v4, v5, v6, v7, v8, v9, v10] := (hF225 _ b225_t).trans kt43
        have b225_so : hq_b ad so := k243
        have f225_so : M225 so = hw_ar Z 7 1 f43 := (hF225 _ b225_so).trans ks43
        have b225_bo : hq_b ad bo := k343
        have f225_bo : M225 bo = hw_az Z 512 g2 := (hF225 _ b225_bo).trans kb43
        refine lv_iload hx hb dX6_layer_228 (lv_at hl 1 rfl) ?_
        refine lv_icmp_ne (tgt := 237) hx hb dX6_layer_230 (by decide) (fun hc => absurd rfl hc) (fun _ => ?_)
        refine lv_iconst (v := nI 1) hx hb dX6_layer_233 (by decide) ?_
        refine lv_goto (tgt := 238) hx hb dX6_layer_234 (by decide) ?_
        exact hret hI (Or.inr rfl) (⟨rfl, x, d2, g2, hx2 (by omega), by omega, lt_c hT2 hC225 hF225⟩) (Nat.le_of_ble_eq_true rfl) (Nat.le_of_ble_eq_true rfl) dX6_layer_238
      · intro H locs ls hI hl
        refine lv_iload hx hb dX6_layer_178 (lv_at hl 2 rfl) ?_
        refine lv_bipush (v := nI 64) hx hb dX6_layer_180 (by decide) ?_
        refine lv_icmp_ge (tgt := 218) hx hb dX6_layer_182 (by decide) (fun hc => absurd hc (nI_ge hi178 (by decide))) (fun _ => ?_)
        refine lv_iload hx hb dX6_layer_185 (lv_at hl 1 rfl) ?_
        refine lv_aload_n hx hb dX6_layer_187 rfl (lv_at hl 3 rfl) ?_
        refine hw_get hx hb hts hown hk hI fd_X6_18 kt43 rfl dX6_layer_188 ?_
        refine lv_iload_n hx hb dX6_layer_191 rfl (lv_at hl 4 rfl) ?_
        refine hw_aaldA hx hb hk hI 7 (ty := .boolean) (v := .ref bo) ks43 rfl (j := 0) rfl (by omega) (by decide) (by rw [kf43]; rfl) dX6_layer_192 ?_
        refine lv_bipush (v := nI 64) hx hb dX6_layer_193 (by decide) ?_
        refine lv_iload_n hx hb dX6_layer_195 rfl (lv_at hl 5 rfl) ?_
        refine lv_imul hx hb dX6_layer_196 ?_
        refine hw_ti (pk_mul _ _) ?_
        refine lv_iload hx hb dX6_layer_197 (lv_at hl 2 rfl) ?_
        refine lv_iadd hx hb dX6_layer_199 ?_
        refine hw_ti (nI_add _ _) ?_
        refine hw_zald hx hb hk hI kb43 (j := ((64 * z) + v)) rfl (by omega) (by decide) dX6_layer_200 ?_
        refine lv_if_eq (tgt := 208) hx hb dX6_layer_201 (by decide) (fun c201 => ?_) (fun c201 => ?_)
        · refine lv_iconst (v := nI 0) hx hb dX6_layer_208 (by decide) ?_
          refine lv_iadd hx hb dX6_layer_209 ?_
          refine hw_ti (nI_add _ _) ?_
          refine lv_istore (lv' := [(5, .int (nI ((hb_ct (hb_bit x) v) + 0))), (3, .long x), (6, .int (nI v)), (0, .ref t), (1, .int (nI 0)), (2, .int (nI z))]) hx hb dX6_layer_210 hl (by decide) rfl (fun ls hl => ?_)
          refine lv_iinc (v := nI (v + 1)) (lv' := [(6, .int (nI (v + 1))), (5, .int (nI ((hb_ct (hb_bit x) v) + 0))), (3, .long x), (0, .ref t), (1, .int (nI 0)), (2, .int (nI z))]) hx hb dX6_layer_212 hl (k := 2) rfl (hw_inc _) (by decide) rfl (fun ls hl => ?_)
          refine lv_goto (tgt := 178) hx hb dX6_layer_215 (by decide) ?_
          exact ih178 _ _ _ hI (lv_sub hl [2, 1, 0, 3, 4, 5] (by rw [show hb_ct (hb_bit x) (v + 1) = _ from lr_t hB2 (by omega) c201]; rfl))
        · refine lv_iconst (v := nI 1) hx hb dX6_layer_204 (by decide) ?_
          refine lv_goto (tgt := 209) hx hb dX6_layer_205 (by decide) ?_
          refine lv_iadd hx hb dX6_layer_209 ?_
          refine hw_ti (nI_add _ _) ?_
          refine lv_istore (lv' := [(5, .int (nI ((hb_ct (hb_bit x) v) + 1))), (3, .long x), (6, .int (nI v)), (0, .ref t), (1, .int (nI 0)), (2, .int (nI z))]) hx hb dX6_layer_210 hl (by decide) rfl (fun ls hl => ?_)
          refine lv_iinc (v := nI (v + 1)) (lv' := [(6, .int (nI (v + 1))), (5, .int (nI ((hb_ct (hb_bit x) v) + 1))), (3, .long x), (0, .ref t), (1, .int (nI 0)), (2, .int (nI z))]) hx hb dX6_layer_212 hl (k := 2) rfl (hw_inc _) (by decide) rfl (fun ls hl => ?_)
          refine lv_goto (tgt := 178) hx hb dX6_layer_215 (by decide) ?_
          exact ih178 _ _ _ hI (lv_sub hl [2, 1, 0, 3, 4, 5] (by rw [show hb_ct (hb_bit x) (v + 1) = _ from lr_f hB2 (by omega) c201]; rfl))
    · intro M2 x d2 g2 hT2 hB2 hx2 hd2 H locs ls hI hl
      have q43 := hT2
      obtain ⟨kt43, ⟨f43, ks43, kf43⟩, kb43, kh43, k143, k243, k343⟩ := q43
      refine lv_iload hx hb dX6_layer_43 (lv_at hl 2 rfl) ?_
      refine lv_if_lt (tgt := 175) hx hb dX6_layer_45 (by decide) (fun hc => absurd hc (by rw [show j38 + 1 - n = (j38 - n) + 1 by omega, pk_m1]; exact nI_pos (by omega))) (fun _ => ?_)
      refine lv_aload_n hx hb dX6_layer_48 rfl (lv_at hl 3 rfl) ?_
      refine lv_bipush (v := nI 8) hx hb dX6_layer_49 (by decide) ?_
      refine hw_ci hI (hw_rV hx hb hml hown hts hk hI (m_X6_draw l Z M2 t d2 (.ref (ad 0 0)) (.ref so) v4 v5 v6 v7 v8 v9 v10 8 kt43 (by decide) (by decide) (by omega)) cv_X6_80 kt43 rfl rfl ⟨rfl, rfl⟩ ⟨(Nat.le_of_ble_eq_true rfl), (Nat.le_of_ble_eq_true rfl)⟩ rfl hl.1 rfl (Nat.le_of_ble_eq_true rfl) ⟨(Nat.le_of_ble_eq_true rfl), (Nat.le_of_ble_eq_true rfl)⟩ dX6_layer_51) (fun r51 M51 H locs hR hI => ?_)
      obtain ⟨j51, hj51, rfl, hM51⟩ := hR
      have hT51 : lt_o Z M51 ad S t so bo (d2 + 1) v4 v5 v6 v7 v8 v9 v10 g2 := hM51 ▸ lt_d hT2
      have q51 := hT51
      obtain ⟨kt51, ⟨f51, ks51, kf51⟩, kb51, kh51, k151, k251, k351⟩ := q51
      refine lv_istore (lv' := [(7, .int (nI j51)), (3, .long x), (5, .int (nI 0)), (6, .int (nI (j38 + 1 - n) + (-1))), (0, .ref t), (1, .int (nI 0)), (2, .int (nI z))]) hx hb dX6_layer_54 hl (by decide) rfl (fun ls hl => ?_)
      refine lv_aload_n hx hb dX6_layer_56 rfl (lv_at hl 4 rfl) ?_
      refine lv_bipush (v := nI 8) hx hb dX6_layer_57 (by decide) ?_
      refine hw_ci hI (hw_rV hx hb hml hown hts hk hI (m_X6_draw l Z M51 t (d2 + 1) (.ref (ad 0 0)) (.ref so) v4 v5 v6 v7 v8 v9 v10 8 kt51 (by decide) (by decide) (by omega)) cv_X6_80 kt51 rfl rfl ⟨rfl, rfl⟩ ⟨(Nat.le_of_ble_eq_true rfl), (Nat.le_of_ble_eq_true rfl)⟩ rfl hl.1 rfl (Nat.le_of_ble_eq_true rfl) ⟨(Nat.le_of_ble_eq_true rfl), (Nat.le_of_ble_eq_true rfl)⟩ dX6_layer_59) (fun r59 M59 H locs hR hI => ?_)
      obtain ⟨j59, hj59, rfl, hM59⟩ := hR
      have hT59 : lt_o Z M59 ad S t so bo ((d2 + 1) + 1) v4 v5 v6 v7 v8 v9 v10 g2 := hM59 ▸ lt_d hT51
      have q59 := hT59
      obtain ⟨kt59, ⟨f59, ks59, kf59⟩, kb59, kh59, k159, k259, k359⟩ := q59
      refine lv_istore (lv' := [(8, .int (nI j59)), (7, .int (nI j51)), (3, .long x), (5, .int (nI 0)), (6, .int (nI (j38 + 1 - n) + (-1))), (0, .ref t), (1, .int (nI 0)), (2, .int (nI z))]) hx hb dX6_layer_62 hl (by decide) rfl (fun ls hl => ?_)
      refine lv_iconst (v := nI 1) hx hb dX6_layer_64 (by decide) ?_
      refine lv_aload_n hx hb dX6_layer_65 rfl (lv_at hl 5 rfl) ?_
      refine lv_iconst (v := nI 4) hx hb dX6_layer_66 (by decide) ?_
      refine hw_ci hI (hw_rV hx hb hml hown hts hk hI (m_X6_draw l Z M59 t ((d2 + 1) + 1) (.ref (ad 0 0)) (.ref so) v4 v5 v6 v7 v8 v9 v10 4 kt59 (by decide) (by decide) (by omega)) cv_X6_80 kt59 rfl rfl ⟨rfl, rfl⟩ ⟨(Nat.le_of_ble_eq_true rfl), (Nat.le_of_ble_eq_true rfl)⟩ rfl hl.1 rfl (Nat.le_of_ble_eq_true rfl) ⟨(Nat.le_of_ble_eq_true rfl), (Nat.le_of_ble_eq_true rfl)⟩ dX6_layer_67) (fun r67 M67 H locs hR hI => ?_)
      obtain ⟨j67, hj67, rfl, hM67⟩ := hR
      have hT67 : lt_o Z M67 ad S t so bo (((d2 + 1) + 1) + 1) v4 v5 v6 v7 v8 v9 v10 g2 := hM67 ▸ lt_d hT59
      have q67 := hT67
      obtain ⟨kt67, ⟨f67, ks67, kf67⟩, kb67, kh67, k167, k267, k367⟩ := q67
      refine lv_iadd hx hb dX6_layer_70 ?_
      refine hw_ti (nI_add _ _) ?_
      refine lv_istore (lv' := [(9, .int (nI (1 + j67))), (8, .int (nI j59)), (7, .int (nI j51)), (3, .long x), (5, .int (nI 0)), (6, .int (nI (j38 + 1 - n) + (-1))), (0, .ref t), (1, .int (nI 0)), (2, .int (nI z))]) hx hb dX6_layer_71 hl (by decide) rfl (fun ls hl => ?_)
      refine lv_iconst (v := nI 1) hx hb dX6_layer_73 (by decide) ?_
      refine lv_aload_n hx hb dX6_layer_74 rfl (lv_at hl 6 rfl) ?_
      refine lv_iconst (v := nI 3) hx hb dX6_layer_75 (by decide) ?_
      refine hw_ci hI (hw_rV hx hb hml hown hts hk hI (m_X6_draw l Z M67 t (((d2 + 1) + 1) + 1) (.ref (ad 0 0)) (.ref so) v4 v5 v6 v7 v8 v9 v10 3 kt67 (by decide) (by decide) (by omega)) cv_X6_80 kt67 rfl rfl ⟨rfl, rfl⟩ ⟨(Nat.le_of_ble_eq_true rfl), (Nat.le_of_ble_eq_true rfl)⟩ rfl hl.1 rfl (Nat.le_of_ble_eq_true rfl) ⟨(Nat.le_of_ble_eq_true rfl), (Nat.le_of_ble_eq_true rfl)⟩ dX6_layer_76) (fun r76 M76 H locs hR hI => ?_)
      obtain ⟨j76, hj76, rfl, hM76⟩ := hR
      have hT76 : lt_o Z M76 ad S t so bo ((((d2 + 1) + 1) + 1) + 1) v4 v5 v6 v7 v8 v9 v10 g2 := hM76 ▸ lt_d hT67
      have q76 := hT76
      obtain ⟨kt76, ⟨f76, ks76, kf76⟩, kb76, kh76, k176, k276, k376⟩ := q76
      refine lv_iadd hx hb dX6_layer_79 ?_
      refine hw_ti (nI_add _ _) ?_
      refine lv_istore (lv' := [(10, .int (nI (1 + j76))), (9, .int (nI (1 + j67))), (8, .int (nI j59)), (7, .int (nI j51)), (3, .long x), (5, .int (nI 0)), (6, .int (nI (j38 + 1 - n) + (-1))), (0, .ref t), (1, .int (nI 0)), (2, .int (nI z))]) hx hb dX6_layer_80 hl (by decide) rfl (fun ls hl => ?_)
      refine lv_iconst (v := nI 0) hx hb dX6_layer_82 (by decide) ?_
      refine lv_istore (lv' := [(11, .int (nI 0)), (10, .int (nI (1 + j76))), (9, .int (nI (1 + j67))), (8, .int (nI j59)), (7, .int (nI j51)), (3, .long x), (5, .int (nI 0)), (6, .int (nI (j38 + 1 - n) + (-1))), (0, .ref t), (1, .int (nI 0)), (2, .int (nI z))]) hx hb dX6_layer_83 hl (by decide) rfl (fun ls hl => ?_)
      suffices LP85 : ∀ i, i ≤ 64 → ∀ (M3 : hw_M) (x3 : Int64) (g3 : Nat → Int32) (hT3 : lt_o Z M3 ad S t so bo (d2 + 1 + 1 + 1 + 1) v4 v5 v6 v7 v8 v9 v10 g3) (hB3 : lr_b z x3 g3) (hx3 : (j51 + 8 * j59) < i → ¬ x3 = 0) (H : Heap) (locs : List Loc) (ls : Array Slot), hw_iv Z s (M3) H locs → lv_has ls 12 [(3, .long x3), (5, .int (nI 0)), (6, .int (nI (j38 + 1 - n) + (-1))), (7, .int (nI j51)), (8, .int (nI j59)), (9, .int (nI (1 + j67))), (10, .int (nI (1 + j76))), (11, .int (nI i)), (0, .ref t), (1, .int (nI 0)), (2, .int (nI z))] → W p l e ({ frames := 10, cells := 6, slots := 36, locals := 240 } : Room) s m ([.ref t, .int (nI 0), .int (nI z)] : List Value).toArray below meth c H locs 0 0 Q (F0 m 85 ls []) from LP85 0 (by omega) _ _ _ hT76 hB2 (fun h => absurd h (Nat.not_lt_zero _)) _ _ _ hI (lv_sub hl [5, 6, 7, 4, 3, 2, 1, 0, 8, 9, 10] rfl)
      refine hw_loop ?_ (fun i hi85 ih85 => ?_)
      · intro M3 x3 g3 hT3 hB3 hx3 H locs ls hI hl
        have q85 := hT3
        obtain ⟨kt85, ⟨f85, ks85, kf85⟩, kb85, kh85, k185, k285, k385⟩ := q85
        refine lv_iload hx hb dX6_layer_85 (lv_at hl 7 rfl) ?_
        refine lv_bipush (v := nI 64) hx hb dX6_layer_87 (by decide) ?_
        refine lv_icmp_ge (tgt := 169) hx hb dX6_layer_89 (by decide) (fun _ => ?_) (fun hc => absurd (Int32.le_refl _) hc)
        refine lv_iinc (v := nI (j38 + 1 - (n + 1)) + (-1)) (lv' := [(6, .int (nI (j38 + 1 - (n + 1)) + (-1))), (3, .long x3), (5, .int (nI 0)), (7, .int (nI j51)), (8, .int (nI j59)), (9, .int (nI (1 + j67))), (10, .int (nI (1 + j76))), (11, .int (nI 64)), (0, .ref t), (1, .int (nI 0)), (2, .int (nI z))]) hx hb dX6_layer_169 hl (k := 2) rfl (by rw [show j38 + 1 - n = (j38 + 1 - (n + 1)) + 1 by omega, pk_m1]; rfl) (by decide) rfl (fun ls hl => ?_)
        refine lv_goto (tgt := 43) hx hb dX6_layer_172 (by decide) ?_
        exact ih43 _ _ _ _ hT3 hB3 (fun _ => hx3 (by omega)) (by omega) _ _ _ hI (lv_sub hl [1, 2, 0, 8, 9, 10] rfl)
      · intro M3 x3 g3 hT3 hB3 hx3 H locs ls hI hl
        have q85 := hT3
        obtain ⟨kt85, ⟨f85, ks85, kf85⟩, kb85, kh85, k185, k285, k385⟩ := q85
        refine lv_iload hx hb dX6_layer_85 (lv_at hl 7 rfl) ?_
        refine lv_bipush (v := nI 64) hx hb dX6_layer_87 (by decide) ?_
        refine lv_icmp_ge (tgt := 169) hx hb dX6_layer_89 (by decide) (fun hc => absurd hc (nI_ge hi85 (by decide))) (fun _ => ?_)
        refine lv_iload hx hb dX6_layer_92 (lv_at hl 7 rfl) ?_
        refine lv_bipush (v := nI 8) hx hb dX6_layer_94 (by decide) ?_
        refine lv_irem hx hb dX6_layer_96 (by decide) ?_
        refine hw_ti (pk_rem (by omega) (by decide) (by decide)) ?_
        refine lv_iload hx hb dX6_layer_97 (lv_at hl 3 rfl) ?_
        refine lv_icmp_lt (tgt := 163) hx hb dX6_layer_99 (by decide) (fun c99 => ?_) (fun c99 => ?_)
        · refine lv_iinc (v := nI (i + 1)) (lv' := [(11, .int (nI (i + 1))), (3, .long x3), (5, .int (nI 0)), (6, .int (nI (j38 + 1 - n) + (-1))), (7, .int (nI j51)), (8, .int (nI j59)), (9, .int (nI (1 + j67))), (10, .int (nI (1 + j76))), (0, .ref t), (1, .int (nI 0)), (2, .int (nI z))]) hx hb dX6_layer_163 hl (k := 7) rfl (hw_inc _) (by decide) rfl (fun ls hl => ?_)
          refine lv_goto (tgt := 85) hx hb dX6_layer_166 (by decide) ?_
          exact ih85 _ _ _ hT3 hB3 (fun h => by
      by_cases e9 : (j51 + 8 * j59) < i
      · exact hx3 e9
      · exact absurd c99 (nI_nlt (by omega) (by omega))) _ _ _ hI (lv_sub hl [1, 2, 3, 4, 5, 6, 7, 0, 8, 9, 10] rfl)
        · refine lv_iload hx hb dX6_layer_102 (lv_at hl 7 rfl) ?_
          refine lv_bipush (v := nI 8) hx hb dX6_layer_104 (by decide) ?_
          refine lv_irem hx hb dX6_layer_106 (by decide) ?_
          refine hw_ti (pk_rem (by omega) (by decide) (by decide)) ?_
          refine lv_iload hx hb dX6_layer_107 (lv_at hl 3 rfl) ?_
          refine lv_iload hx hb dX6_layer_109 (lv_at hl 5 rfl) ?_
          refine lv_iadd hx hb dX6_layer_111 ?_
          refine hw_ti (nI_add _ _) ?_
          refine lv_icmp_ge (tgt := 163) hx hb dX6_layer_112 (by decide) (fun c112 => ?_) (fun c112 => ?_)
          · refine lv_iinc (v := nI (i + 1)) (lv' := [(11, .int (nI (i + 1))), (3, .long x3), (5, .int (nI 0)), (6, .int (nI (j38 + 1 - n) + (-1))), (7, .int (nI j51)), (8, .int (nI j59)), (9, .int (nI (1 + j67))), (10, .int (nI (1 + j76))), (0, .ref t), (1, .int (nI 0)), (2, .int (nI z))]) hx hb dX6_layer_163 hl (k := 7) rfl (hw_inc _) (by decide) rfl (fun ls hl => ?_)
            refine lv_goto (tgt := 85) hx hb dX6_layer_166 (by decide) ?_
            exact ih85 _ _ _ hT3 hB3 (fun h => by
      by_cases e9 : (j51 + 8 * j59) < i
      · exact hx3 e9
      · exact absurd c112 (nI_ge (by omega) (by omega))) _ _ _ hI (lv_sub hl [1, 2, 3, 4, 5, 6, 7, 0, 8, 9, 10] rfl)
          · refine lv_iload hx hb dX6_layer_115 (lv_at hl 7 rfl) ?_
            refine lv_bipush (v := nI 8) hx hb dX6_layer_117 (by decide) ?_
            refine lv_idiv hx hb dX6_layer_119 (by decide) ?_
            refine hw_ti (pk_div (by omega) (by decide) (by decide)) ?_
            refine lv_iload hx hb dX6_layer_120 (lv_at hl 4 rfl) ?_
            refine lv_icmp_lt (tgt := 163) hx hb dX6_layer_122 (by decide) (fun c122 => ?_) (fun c122 => ?_)
            · refine lv_iinc (v := nI (i + 1)) (lv' := [(11, .int (nI (i + 1))), (3, .long x3), (5, .int (nI 0)), (6, .int (nI (j38 + 1 - n) + (-1))), (7, .int (nI j51)), (8, .int (nI j59)), (9, .int (nI (1 + j67))), (10, .int (nI (1 + j76))), (0, .ref t), (1, .int (nI 0)), (2, .int (nI z))]) hx hb dX6_layer_163 hl (k := 7) rfl (hw_inc _) (by decide) rfl (fun ls hl => ?_)
              refine lv_goto (tgt := 85) hx hb dX6_layer_166 (by decide) ?_
              exact ih85 _ _ _ hT3 hB3 (fun h => by
      by_cases e9 : (j51 + 8 * j59) < i
      · exact hx3 e9
      · exact absurd c122 (nI_nlt (by omega) (by omega))) _ _ _ hI (lv_sub hl [1, 2, 3, 4, 5, 6, 7, 0, 8, 9, 10] rfl)
            · refine lv_iload hx hb dX6_layer_125 (lv_at hl 7 rfl) ?_
              refine lv_bipush (v := nI 8) hx hb dX6_layer_127 (by decide) ?_
              refine lv_idiv hx hb dX6_layer_129 (by decide) ?_
              refine hw_ti (pk_div (by omega) (by decide) (by decide)) ?_
              refine lv_iload hx hb dX6_layer_130 (lv_at hl 4 rfl) ?_
              refine lv_iload hx hb dX6_layer_132 (lv_at hl 6 rfl) ?_
              refine lv_iadd hx hb dX6_layer_134 ?_
              refine hw_ti (nI_add _ _) ?_
              refine lv_icmp_lt (tgt := 141) hx hb dX6_layer_135 (by decide) (fun c135 => ?_) (fun c135 => ?_)
              · refine lv_lload_n hx hb dX6_layer_141 rfl (lv_at hl 0 rfl) ?_
                refine lv_lconst (v := 1) hx hb dX6_layer_142 (by decide) ?_
                refine lv_iload hx hb dX6_layer_143 (lv_at hl 7 rfl) ?_
                refine lv_lshl (v := hb_shl 1 (nI i)) hx hb dX6_layer_145 rfl ?_
                refine lv_lor hx hb dX6_layer_146 ?_
                refine lv_lstore_n (lv' := [(3, .long (x3 ||| (hb_shl 1 (nI i)))), (5, .int (nI 0)), (6, .int (nI (j38 + 1 - n) + (-1))), (7, .int (nI j51)), (8, .int (nI j59)), (9, .int (nI (1 + j67))), (10, .int (nI (1 + j76))), (11, .int (nI i)), (0, .ref t), (1, .int (nI 0)), (2, .int (nI z))]) hx hb dX6_layer_147 rfl hl (by decide) rfl (fun ls hl => ?_)
                refine lv_aload_n hx hb dX6_layer_148 rfl (lv_at hl 8 rfl) ?_
                refine hw_get hx hb hts hown hk hI fd_X6_18 kt85 rfl dX6_layer_149 ?_
                refine lv_iload_n hx hb dX6_layer_152 rfl (lv_at hl 9 rfl) ?_
                refine hw_aaldA hx hb hk hI 7 (ty := .boolean) (v := .ref bo) ks85 rfl (j := 0) rfl (by omega) (by decide) (by rw [kf85]; rfl) dX6_layer_153 ?_
                refine lv_bipush (v := nI 64) hx hb dX6_layer_154 (by decide) ?_
                refine lv_iload_n hx hb dX6_layer_156 rfl (lv_at hl 10 rfl) ?_
                refine lv_imul hx hb dX6_layer_157 ?_
                refine hw_ti (pk_mul _ _) ?_
                refine lv_iload hx hb dX6_layer_158 (lv_at hl 7 rfl) ?_
                refine lv_iadd hx hb dX6_layer_160 ?_
                refine hw_ti (nI_add _ _) ?_
                refine lv_iconst (v := nI 1) hx hb dX6_layer_161 (by decide) ?_
                refine hw_zast hx hb hk hI kb85 (y := nI 1) (j := ((64 * z) + i)) rfl (by omega) (by decide) (by decide) dX6_layer_162 (fun H locs hI => ?_)
                have hT162s : lt_o Z (va_up M3 bo (hw_az Z 512 (va_up g3 ((64 * z) + i) (nI 1)))) ad S t so bo (d2 + 1 + 1 + 1 + 1) v4 v5 v6 v7 v8 v9 v10 (va_up g3 ((64 * z) + i) (nI 1)) := lt_z hT3
                refine lv_iinc (v := nI (i + 1)) (lv' := [(11, .int (nI (i + 1))), (3, .long (x3 ||| (hb_shl 1 (nI i)))), (5, .int (nI 0)), (6, .int (nI (j38 + 1 - n) + (-1))), (7, .int (nI j51)), (8, .int (nI j59)), (9, .int (nI (1 + j67))), (10, .int (nI (1 + j76))), (0, .ref t), (1, .int (nI 0)), (2, .int (nI z))]) hx hb dX6_layer_163 hl (k := 7) rfl (hw_inc _) (by decide) rfl (fun ls hl => ?_)
                refine lv_goto (tgt := 85) hx hb dX6_layer_166 (by decide) ?_
                exact ih85 _ _ _ hT162s (lr_s hi85 hB3) (fun _ => lr_n hi85) _ _ _ hI (lv_sub hl [1, 2, 3, 4, 5, 6, 7, 0, 8, 9, 10] rfl)
              · refine lv_goto (tgt := 163) hx hb dX6_layer_138 (by decide) ?_
                refine lv_iinc (v := nI (i + 1)) (lv' := [(11, .int (nI (i + 1))), (3, .long x3), (5, .int (nI 0)), (6, .int (nI (j38 + 1 - n) + (-1))), (7, .int (nI j51)), (8, .int (nI j59)), (9, .int (nI (1 + j67))), (10, .int (nI (1 + j76))), (0, .ref t), (1, .int (nI 0)), (2, .int (nI z))]) hx hb dX6_layer_163 hl (k := 7) rfl (hw_inc _) (by decide) rfl (fun ls hl => ?_)
                refine lv_goto (tgt := 85) hx hb dX6_layer_166 (by decide) ?_
                exact ih85 _ _ _ hT3 hB3 (fun h => by
      by_cases e9 : (j51 + 8 * j59) < i
      · exact hx3 e9
      · exact absurd (nI_lt (show i / 8 < j59 + (1 + j76) by omega) (by omega)) c135) _ _ _ hI (lv_sub hl [1, 2, 3, 4, 5, 6, 7, 0, 8, 9, 10] rfl)
  · intro M1 g1 hT1 hC1 H locs ls hI hl
    have q8 := hT1
    obtain ⟨kt8, ⟨f8, ks8, kf8⟩, kb8, kh8, k18, k28, k38⟩ := q8
    refine lv_iload hx hb dX6_layer_8 (lv_at hl 2 rfl) ?_
    refine lv_bipush (v := nI 64) hx hb dX6_layer_10 (by decide) ?_
    refine lv_icmp_ge (tgt := 36) hx hb dX6_layer_12 (by decide) (fun hc => absurd hc (nI_ge hi8 (by decide))) (fun _ => ?_)
    refine lv_aload_n hx hb dX6_layer_15 rfl (lv_at hl 3 rfl) ?_
    refine hw_get hx hb hts hown hk hI fd_X6_18 kt8 rfl dX6_layer_16 ?_
    refine lv_iload_n hx hb dX6_layer_19 rfl (lv_at hl 4 rfl) ?_
    refine hw_aaldA hx hb hk hI 7 (ty := .boolean) (v := .ref bo) ks8 rfl (j := 0) rfl (by omega) (by decide) (by rw [kf8]; rfl) dX6_layer_20 ?_
    refine lv_bipush (v := nI 64) hx hb dX6_layer_21 (by decide) ?_
    refine lv_iload_n hx hb dX6_layer_23 rfl (lv_at hl 5 rfl) ?_
    refine lv_imul hx hb dX6_layer_24 ?_
    refine hw_ti (pk_mul _ _) ?_
    refine lv_iload hx hb dX6_layer_25 (lv_at hl 2 rfl) ?_
    refine lv_iadd hx hb dX6_layer_27 ?_
    refine hw_ti (nI_add _ _) ?_
    refine lv_iconst (v := nI 0) hx hb dX6_layer_28 (by decide) ?_
    refine hw_zast hx hb hk hI kb8 (y := nI 0) (j := ((64 * z) + i)) rfl (by omega) (by decide) (by decide) dX6_layer_29 (fun H locs hI => ?_)
    have hT29s : lt_o Z (va_up M1 bo (hw_az Z 512 (va_up g1 ((64 * z) + i) (nI 0)))) ad S t so bo d v4 v5 v6 v7 v8 v9 v10 (va_up g1 ((64 * z) + i) (nI 0)) := lt_z hT1
    refine lv_iinc (v := nI (i + 1)) (lv' := [(6, .int (nI (i + 1))), (3, .long 0), (5, .int (nI 0)), (0, .ref t), (1, .int (nI 0)), (2, .int (nI z))]) hx hb dX6_layer_30 hl (k := 2) rfl (hw_inc _) (by decide) rfl (fun ls hl => ?_)
    refine lv_goto (tgt := 8) hx hb dX6_layer_33 (by decide) ?_
    exact ih8 _ _ hT29s (fun q hq => by
      by_cases e9 : q = i
      · subst e9; exact va_up_self _ _ _
      · exact (va_up_ne _ _ (by omega)).trans (hC1 q (by omega))) _ _ _ hI (lv_sub hl [1, 2, 0, 3, 4, 5] rfl)
