theorem fn_X10_10 : hw_FN RX10 10 11 1 [.null] := ⟨RX10, TX10, tyX10, rfl, iw_X10, tyX10_ok, (hw_win (w := .classLink RX10 10 RX10) (by decide +kernel) (by decide +kernel)), (hw_win (w := .instantiable RX10 1) (by decide +kernel) (by decide +kernel)), (hw_win (w := .initialized RX10) (by decide +kernel) (by decide +kernel)), fun j hj => by rcases (show j = 0 by omega) with rfl <;> rfl⟩
theorem cb_X10_init (own : String) (index : Nat) : hw_CB own index yX10_init cX10_init 1 none 0 := ⟨⟨by decide +kernel, by decide +kernel, by decide +kernel⟩, (hw_win (w := .code yX10_init cX10_init 1 none) (by decide +kernel) (by decide +kernel)), (hw_win (w := .initialized yX10_init.cls) (by decide +kernel) (by decide +kernel))⟩
theorem ci_X10_32 : hw_CI RX10 32 yX10_init cX10_init 1 0 := ⟨cb_X10_init _ _, (hw_win (w := .methodLink RX10 32 yX10_init) (by decide +kernel) (by decide +kernel)), (hw_win (w := .instanceMethod yX10_init) (by decide +kernel) (by decide +kernel)), rfl⟩
theorem cb_X10_height (own : String) (index : Nat) : hw_CB own index yX10_height cX10_height 2 (some .int) 0 := ⟨⟨by decide +kernel, by decide +kernel, by decide +kernel⟩, (hw_win (w := .code yX10_height cX10_height 2 (some .int)) (by decide +kernel) (by decide +kernel)), (hw_win (w := .initialized yX10_height.cls) (by decide +kernel) (by decide +kernel))⟩
theorem cv_X10_37 : hw_CV RX10 37 yX10_height cX10_height 2 (some .int) 0 := ⟨cb_X10_height _ _, (hw_win (w := .methodLink RX10 37 yX10_height) (by decide +kernel) (by decide +kernel)), (hw_win (w := .instanceMethod yX10_height) (by decide +kernel) (by decide +kernel)), (hw_win (w := .selects yX10_height.cls yX10_height yX10_height) (by decide +kernel) (by decide +kernel))⟩
theorem cn_X10_33 : hw_CSN RX10 33 yX11_has "MeltPoolModel" cX11_has 3 (some .boolean) 2 := ⟨cb_X11_has _ _, by decide +kernel, (hw_win (w := .static yX11_has) (by decide +kernel) (by decide +kernel))⟩
set_option maxHeartbeats 4000000 in
set_option maxRecDepth 100000 in
theorem m_X10_laid_0z (l : Launch) (Z : hw_Z) (M : hw_M) (a : Nat) (ca : Nat) (C : Nat → Int64) (h0 : M a = hw_ob 11 [.ref ca]) (h1 : M ca = hw_al Z 8 C) (hz : hb_ht (hb_la C 0 8) 8 = 0) : Met l yX10_laid (hw_m yX10_laid cX10_laid 10 (some (.object "MeltPoolModel$Solid"))) ({ frames := 2, cells := 2, slots := 9, locals := 60 } : Room) (va_Pc [.ref a, .int (nI 0)] (hw_P Z M)) (hw_Qr Z (fun r M' => ∃ sa : Nat, M r = none ∧ M sa = none ∧ r ≠ sa ∧ M' r = hw_ob 11 [.ref sa] ∧ M' sa = hw_al Z 8 (hb_laid C 0) ∧ ∀ x, M x ≠ none → M' x = M x)) 2 9 (hw_A Z) := by
  refine hw_ofr (by decide +kernel) rfl (Or.inl ⟨_, rfl⟩) (Nat.le_of_ble_eq_true rfl) ?_
  intro p e s m below meth c ls Q hx hb hml hown hts hk hnm hI hl hret
  refine hw_new hx hb hts hown hk hI fn_X10_10 (Nat.le_of_ble_eq_true rfl) (Nat.le_of_ble_eq_true rfl) dX10_laid_0 (fun q0 H hq0 hI => ?_)
  have b_q0 : M q0 = none := hw_alv.n (hw_alv_r M) hq0
  refine lv_dup hx hb dX10_laid_3 rfl ?_
  refine hw_cv hI (hw_rI hx hb hml hown hts hk hI (m_X10_init l Z (va_up M q0 (hw_ob 11 [.null])) q0 (hw_us _ _ _)) ci_X10_32 ⟨rfl, rfl⟩ ⟨(Nat.le_of_ble_eq_true rfl), (Nat.le_of_ble_eq_true rfl)⟩ rfl hl.1 rfl (Nat.le_of_ble_eq_true rfl) ⟨(Nat.le_of_ble_eq_true rfl), (Nat.le_of_ble_eq_true rfl)⟩ dX10_laid_4) (fun M4 H locs hR hI => ?_)
  obtain ⟨ca_4, hn_ca_4, hd4, he_ca_4, ha4, hF4⟩ := hR
  have f4_a := (hF4 _ (hw_sn (hw_up h0 (hw_nn h0 hq0))) (hw_nn h0 hq0)).trans (hw_up h0 (hw_nn h0 hq0))
  have g4_a_ca_4 : a ≠ ca_4 := hw_xn (hw_sn (hw_up h0 (hw_nn h0 hq0))) hn_ca_4
  have f4_ca := (hF4 _ (hw_sn (hw_up h1 (hw_nn h1 hq0))) (hw_nn h1 hq0)).trans (hw_up h1 (hw_nn h1 hq0))
  have g4_ca_ca_4 : ca ≠ ca_4 := hw_xn (hw_sn (hw_up h1 (hw_nn h1 hq0))) hn_ca_4
  have g4_q0_ca_4 : q0 ≠ ca_4 := hw_xn (hw_sn (hw_us _ _ _)) hn_ca_4
  have b_ca_4 : M ca_4 = none := hw_alv.n (hw_alv_u (hw_alv_r M)) hn_ca_4
  have al4 : hw_alv M M4 := hw_alv_F (hw_alv_u (hw_alv_r M)) hF4 ha4
  have fr4 : ∀ x, M x ≠ none → x ≠ a → M4 x = M x := fun x hx hxa => by rw [hF4 x ((hw_alv_u (hw_alv_r M)) x hx) (hw_xn hx b_q0), va_up_ne _ _ (hw_xn hx b_q0)]
  refine lv_astore_n (lv' := [(2, .ref q0), (0, .ref a), (1, .int (nI 0))]) hx hb dX10_laid_7 rfl hl (by decide) rfl (fun ls hl => ?_)
  have frq : ∀ x, M x ≠ none → x ≠ q0 → M4 x = M x := fun x hx hxq => (hF4 x (hw_alv_u (hw_alv_r M) x hx) hxq).trans (va_up_ne _ _ hxq)
  refine lv_iconst (v := nI 0) hx hb dX10_laid_8 (by decide) ?_
  refine lv_istore_n (lv' := [(3, .int (nI 0)), (2, .ref q0), (0, .ref a), (1, .int (nI 0))]) hx hb dX10_laid_9 rfl hl (by decide) rfl (fun ls hl => ?_)
  suffices LP10 : ∀ z, z ≤ 8 → ∀ (H : Heap) (locs : List Loc) (ls : Array Slot), hw_iv Z s (va_up M4 ca_4 (hw_al Z 8 (hb_la C 0 z))) H locs → lv_has ls 10 [(3, .int (nI z)), (2, .ref q0), (0, .ref a), (1, .int (nI 0))] → W p l e ({ frames := 2, cells := 2, slots := 9, locals := 60 } : Room) s m ([.ref a, .int (nI 0)] : List Value).toArray below meth c H locs 2 9 Q (F0 m 10 ls []) from LP10 0 (by omega) _ _ _ (hI.eq (hw_id he_ca_4 rfl)) (lv_sub hl [0, 1, 2, 3] rfl)
  refine hw_loop ?_ (fun z hi10 ih10 => ?_)
  · intro H locs ls hI hl
    refine lv_iload_n hx hb dX10_laid_10 rfl (lv_at hl 0 rfl) ?_
    refine lv_bipush (v := nI 8) hx hb dX10_laid_11 (by decide) ?_
    refine lv_icmp_ge (tgt := 157) hx hb dX10_laid_13 (by decide) (fun _ => ?_) (fun hc => absurd (Int32.le_refl _) hc)
    refine lv_aload_n hx hb dX10_laid_157 rfl (lv_at hl 1 rfl) ?_
    refine hw_ci hI (hw_rV hx hb hml hown hts hk hI (m_X10_height l Z (va_up M4 ca_4 (hw_al Z 8 (hb_la C 0 8))) q0 ca_4 (hb_la C 0 8) (hw_up ha4 g4_q0_ca_4) (hw_us _ _ _)) cv_X10_37 (hw_up ha4 g4_q0_ca_4) rfl rfl ⟨rfl, rfl⟩ ⟨(Nat.le_of_ble_eq_true rfl), (Nat.le_of_ble_eq_true rfl)⟩ rfl hl.1 rfl (Nat.le_of_ble_eq_true rfl) ⟨(Nat.le_of_ble_eq_true rfl), (Nat.le_of_ble_eq_true rfl)⟩ dX10_laid_158) (fun r158 M158 H locs hR hI => ?_)
    obtain ⟨rfl, rfl⟩ := hR
    refine lv_if_le (tgt := 201) hx hb dX10_laid_161 (by decide) (fun _ => ?_) (fun hc => absurd (by rw [hz]; decide) hc)
    have hfin : (fun r M' => ∃ sa : Nat, M r = none ∧ M sa = none ∧ r ≠ sa ∧ M' r = hw_ob 11 [.ref sa] ∧ M' sa = hw_al Z 8 (hb_laid C 0) ∧ ∀ x, M x ≠ none → M' x = M x) q0 (va_up M4 ca_4 (hw_al Z 8 (hb_la C 0 8))) := ⟨ca_4, b_q0, b_ca_4, g4_q0_ca_4, hw_up ha4 g4_q0_ca_4, (hw_us _ _ _).trans (hw_alc (hb_sf_low0 hz (hb_la_8 C (by decide) 8 (by decide)))), fun x hx => by rw [va_up_ne _ _ (hw_xn hx b_ca_4)]; exact frq x hx (hw_xn hx b_q0)⟩
    refine lv_aload_n hx hb dX10_laid_201 rfl (lv_at hl 1 rfl) ?_
    exact hret hI hfin (Nat.le_of_ble_eq_true rfl) (Nat.le_of_ble_eq_true rfl) dX10_laid_202
  · intro H locs ls hI hl
    refine lv_iload_n hx hb dX10_laid_10 rfl (lv_at hl 0 rfl) ?_
    refine lv_bipush (v := nI 8) hx hb dX10_laid_11 (by decide) ?_
    refine lv_icmp_ge (tgt := 157) hx hb dX10_laid_13 (by decide) (fun hc => absurd hc (nI_ge hi10 (by decide))) (fun _ => ?_)
    refine lv_iconst (v := nI 0) hx hb dX10_laid_16 (by decide) ?_
    refine lv_istore (lv' := [(4, .int (nI 0)), (3, .int (nI z)), (2, .ref q0), (0, .ref a), (1, .int (nI 0))]) hx hb dX10_laid_17 hl (by decide) rfl (fun ls hl => ?_)
    suffices LP19 : ∀ i, i ≤ 64 → ∀ (H : Heap) (locs : List Loc) (ls : Array Slot), hw_iv Z s (va_up M4 ca_4 (hw_al Z 8 (hb_lz (C z) 0 z i (hb_la C 0 z)))) H locs → lv_has ls 10 [(4, .int (nI i)), (3, .int (nI z)), (2, .ref q0), (0, .ref a), (1, .int (nI 0))] → W p l e ({ frames := 2, cells := 2, slots := 9, locals := 60 } : Room) s m ([.ref a, .int (nI 0)] : List Value).toArray below meth c H locs 2 9 Q (F0 m 19 ls []) from LP19 0 (by omega) _ _ _ hI (lv_sub hl [0, 1, 2, 3, 4] rfl)
    refine hw_loop ?_ (fun i hi19 ih19 => ?_)
    · intro H locs ls hI hl
      refine lv_iload hx hb dX10_laid_19 (lv_at hl 0 rfl) ?_
      refine lv_bipush (v := nI 64) hx hb dX10_laid_21 (by decide) ?_
      refine lv_icmp_ge (tgt := 151) hx hb dX10_laid_23 (by decide) (fun _ => ?_) (fun hc => absurd (Int32.le_refl _) hc)
      refine lv_iinc (v := nI (z + 1)) (lv' := [(3, .int (nI (z + 1))), (4, .int (nI 64)), (2, .ref q0), (0, .ref a), (1, .int (nI 0))]) hx hb dX10_laid_151 hl (k := 1) rfl (hw_inc _) (by decide) rfl (fun ls hl => ?_)
      refine lv_goto (tgt := 10) hx hb dX10_laid_154 (by decide) ?_
      exact ih10 _ _ _ hI (lv_sub hl [0, 2, 3, 4] rfl)
    · intro H locs ls hI hl
      refine lv_iload hx hb dX10_laid_19 (lv_at hl 0 rfl) ?_
      refine lv_bipush (v := nI 64) hx hb dX10_laid_21 (by decide) ?_
      refine lv_icmp_ge (tgt := 151) hx hb dX10_laid_23 (by decide) (fun hc => absurd hc (nI_ge hi19 (by decide))) (fun _ => ?_)
      refine lv_aload_n hx hb dX10_laid_26 rfl (lv_at hl 3 rfl) ?_
      refine hw_get hx hb hts hown hk hI fd_X10_9 (hw_up f4_a g4_a_ca_4) rfl dX10_laid_27 ?_
      refine lv_iload_n hx hb dX10_laid_30 rfl (lv_at hl 1 rfl) ?_
      refine hw_lald hx hb hk hI (hw_up f4_ca g4_ca_ca_4) (j := z) rfl (by omega) (by decide) dX10_laid_31 ?_
      refine lv_iload hx hb dX10_laid_32 (lv_at hl 0 rfl) ?_
      refine hw_ci hI (hw_rSN hx hb hml hown hts hk hI (m_X11_has l Z (va_up M4 ca_4 (hw_al Z 8 (hb_lz (C z) 0 z i (hb_la C 0 z)))) (C z) i (by omega)) cn_X10_33 ⟨rfl, rfl⟩ ⟨(Nat.le_of_ble_eq_true rfl), (Nat.le_of_ble_eq_true rfl)⟩ rfl hl.1 rfl (Nat.le_of_ble_eq_true rfl) ⟨(Nat.le_of_ble_eq_true rfl), (Nat.le_of_ble_eq_true rfl)⟩ dX10_laid_34) (fun r34 M34 H locs hR hI => ?_)
      obtain ⟨rfl, rfl⟩ := hR
      refine lv_if_ne (tgt := 43) hx hb dX10_laid_37 (by decide) (fun c37 => ?_) (fun c37 => ?_)
      · refine lv_iload hx hb dX10_laid_43 (lv_at hl 0 rfl) ?_
        refine lv_bipush (v := nI 8) hx hb dX10_laid_45 (by decide) ?_
        refine lv_irem hx hb dX10_laid_47 (by decide) ?_
        refine hw_ti (pk_rem (by omega) (by decide) (by decide)) ?_
        refine lv_istore (lv' := [(5, .int (nI (i % 8))), (4, .int (nI i)), (3, .int (nI z)), (2, .ref q0), (0, .ref a), (1, .int (nI 0))]) hx hb dX10_laid_48 hl (by decide) rfl (fun ls hl => ?_)
        refine lv_iload hx hb dX10_laid_50 (lv_at hl 1 rfl) ?_
        refine lv_bipush (v := nI 8) hx hb dX10_laid_52 (by decide) ?_
        refine lv_idiv hx hb dX10_laid_54 (by decide) ?_
        refine hw_ti (pk_div (by omega) (by decide) (by decide)) ?_
        refine lv_istore (lv' := [(6, .int (nI (i / 8))), (5, .int (nI (i % 8))), (4, .int (nI i)), (3, .int (nI z)), (2, .ref q0), (0, .ref a), (1, .int (nI 0))]) hx hb dX10_laid_55 hl (by decide) rfl (fun ls hl => ?_)
        refine lv_iload_n hx hb dX10_laid_57 rfl (lv_at hl 6 rfl) ?_
        refine lv_iconst (v := nI 2) hx hb dX10_laid_58 (by decide) ?_
        refine lv_icmp_ge (tgt := 66) hx hb dX10_laid_59 (by decide) (fun hc => absurd hc (by decide)) (fun _ => ?_)
        refine lv_iload_n hx hb dX10_laid_62 rfl (lv_at hl 3 rfl) ?_
        refine lv_goto (tgt := 78) hx hb dX10_laid_63 (by decide) ?_
        refine lv_istore (lv' := [(7, .int (nI z)), (6, .int (nI (i / 8))), (5, .int (nI (i % 8))), (4, .int (nI i)), (3, .int (nI z)), (2, .ref q0), (0, .ref a), (1, .int (nI 0))]) hx hb dX10_laid_78 hl (by decide) rfl (fun ls hl => ?_)
        refine lv_iload_n hx hb dX10_laid_80 rfl (lv_at hl 7 rfl) ?_
        refine lv_iconst (v := nI 2) hx hb dX10_laid_81 (by decide) ?_
        refine lv_icmp_eq (tgt := 90) hx hb dX10_laid_82 (by decide) (fun hc => absurd hc (by decide)) (fun _ => ?_)
        refine lv_iload_n hx hb dX10_laid_85 rfl (lv_at hl 7 rfl) ?_
        refine lv_iconst (v := nI 3) hx hb dX10_laid_86 (by decide) ?_
        refine lv_icmp_ne (tgt := 94) hx hb dX10_laid_87 (by decide) (fun _ => ?_) (fun hc => absurd hc (by decide))
        refine lv_iload hx hb dX10_laid_94 (lv_at hl 2 rfl) ?_
        refine lv_istore (lv' := [(8, .int (nI (i % 8))), (7, .int (nI z)), (6, .int (nI (i / 8))), (5, .int (nI (i % 8))), (4, .int (nI i)), (3, .int (nI z)), (2, .ref q0), (0, .ref a), (1, .int (nI 0))]) hx hb dX10_laid_96 hl (by decide) rfl (fun ls hl => ?_)
        refine lv_iload_n hx hb dX10_laid_98 rfl (lv_at hl 8 rfl) ?_
        refine lv_iconst (v := nI 3) hx hb dX10_laid_99 (by decide) ?_
        refine lv_icmp_le (tgt := 107) hx hb dX10_laid_100 (by decide) (fun _ => ?_) (fun hc => absurd (by decide) hc)
        refine lv_iload hx hb dX10_laid_107 (lv_at hl 2 rfl) ?_
        refine lv_istore (lv' := [(9, .int (nI (i / 8))), (8, .int (nI (i % 8))), (7, .int (nI z)), (6, .int (nI (i / 8))), (5, .int (nI (i % 8))), (4, .int (nI i)), (3, .int (nI z)), (2, .ref q0), (0, .ref a), (1, .int (nI 0))]) hx hb dX10_laid_109 hl (by decide) rfl (fun ls hl => ?_)
        refine lv_aload_n hx hb dX10_laid_111 rfl (lv_at hl 7 rfl) ?_
        refine hw_get hx hb hts hown hk hI fd_X10_9 (hw_up ha4 g4_q0_ca_4) rfl dX10_laid_112 ?_
        refine lv_iload_n hx hb dX10_laid_115 rfl (lv_at hl 9 rfl) ?_
        refine lv_iconst (v := nI 2) hx hb dX10_laid_116 (by decide) ?_
        refine lv_irem hx hb dX10_laid_117 (by decide) ?_
        refine lv_if_ne (tgt := 126) hx hb dX10_laid_118 (by decide) (fun hc => absurd (by decide) hc) (fun _ => ?_)
        refine lv_iload hx hb dX10_laid_121 (lv_at hl 2 rfl) ?_
        refine lv_goto (tgt := 131) hx hb dX10_laid_123 (by decide) ?_
        refine lv_dup2_11 hx hb dX10_laid_131 rfl rfl ?_
        refine hw_lald hx hb hk hI (hw_us _ _ _) (j := z) rfl (by omega) (by decide) dX10_laid_132 ?_
        refine lv_lconst (v := 1) hx hb dX10_laid_133 (by decide) ?_
        refine lv_iload hx hb dX10_laid_134 (lv_at hl 1 rfl) ?_
        refine lv_bipush (v := nI 8) hx hb dX10_laid_136 (by decide) ?_
        refine lv_iload hx hb dX10_laid_138 (lv_at hl 0 rfl) ?_
        refine lv_imul hx hb dX10_laid_140 ?_
        refine hw_ti (pk_mul _ _) ?_
        refine lv_iadd hx hb dX10_laid_141 ?_
        refine hw_ti (nI_add _ _) ?_
        refine lv_lshl (v := hb_shl 1 (nI ((i % 8) + (8 * (i / 8))))) hx hb dX10_laid_142 rfl ?_
        refine lv_lor hx hb dX10_laid_143 ?_
        refine hw_last hx hb hk hI (hw_us _ _ _) (j := z) rfl (by omega) (by decide) dX10_laid_144 (fun H locs hI => ?_)
        refine lv_iinc (v := nI (i + 1)) (lv' := [(4, .int (nI (i + 1))), (9, .int (nI (i / 8))), (8, .int (nI (i % 8))), (7, .int (nI z)), (6, .int (nI (i / 8))), (5, .int (nI (i % 8))), (3, .int (nI z)), (2, .ref q0), (0, .ref a), (1, .int (nI 0))]) hx hb dX10_laid_145 hl (k := 5) rfl (hw_inc _) (by decide) rfl (fun ls hl => ?_)
        refine lv_goto (tgt := 19) hx hb dX10_laid_148 (by decide) ?_
        exact ih19 _ _ _ (hI.eq (hw_uu1 (hw_alc (hb_lz_y (hq_bn (hq_bt c37)))))) (lv_sub hl [0, 6, 7, 8, 9] rfl)
      · refine lv_goto (tgt := 145) hx hb dX10_laid_40 (by decide) ?_
        refine lv_iinc (v := nI (i + 1)) (lv' := [(4, .int (nI (i + 1))), (3, .int (nI z)), (2, .ref q0), (0, .ref a), (1, .int (nI 0))]) hx hb dX10_laid_145 hl (k := 0) rfl (hw_inc _) (by decide) rfl (fun ls hl => ?_)
        refine lv_goto (tgt := 19) hx hb dX10_laid_148 (by decide) ?_
        exact ih19 _ _ _ (hI.eq (by rw [hb_lz_n (hq_bf c37)])) (lv_sub hl [0, 1, 2, 3, 4] rfl)

set_option maxHeartbeats 4000000 in
set_option maxRecDepth 100000 in
theorem m_X10_laid_0s (l : Launch) (Z : hw_Z) (M : hw_M) (a : Nat) (ca : Nat) (C : Nat → Int64) (h0 : M a = hw_ob 11 [.ref ca]) (h1 : M ca = hw_al Z 8 C) (hz : ¬ hb_ht (hb_la C 0 8) 8 = 0) : Met l yX10_laid (hw_m yX10_laid cX10_laid 10 (some (.object "MeltPoolModel$Solid"))) ({ frames := 2, cells := 2, slots := 9, locals := 60 } : Room) (va_Pc [.ref a, .int (nI 0)] (hw_P Z M)) (hw_Qr Z (fun r M' => ∃ sa : Nat, M r = none ∧ M sa = none ∧ r ≠ sa ∧ M' r = hw_ob 11 [.ref sa] ∧ M' sa = hw_al Z 8 (hb_laid C 0) ∧ ∀ x, M x ≠ none → M' x = M x)) 2 9 (hw_A Z) := by
  refine hw_ofr (by decide +kernel) rfl (Or.inl ⟨_, rfl⟩) (Nat.le_of_ble_eq_true rfl) ?_
  intro p e s m below meth c ls Q hx hb hml hown hts hk hnm hI hl hret
  refine hw_new hx hb hts hown hk hI fn_X10_10 (Nat.le_of_ble_eq_true rfl) (Nat.le_of_ble_eq_true rfl) dX10_laid_0 (fun q0 H hq0 hI => ?_)
  have b_q0 : M q0 = none := hw_alv.n (hw_alv_r M) hq0
  refine lv_dup hx hb dX10_laid_3 rfl ?_
  refine hw_cv hI (hw_rI hx hb hml hown hts hk hI (m_X10_init l Z (va_up M q0 (hw_ob 11 [.null])) q0 (hw_us _ _ _)) ci_X10_32 ⟨rfl, rfl⟩ ⟨(Nat.le_of_ble_eq_true rfl), (Nat.le_of_ble_eq_true rfl)⟩ rfl hl.1 rfl (Nat.le_of_ble_eq_true rfl) ⟨(Nat.le_of_ble_eq_true rfl), (Nat.le_of_ble_eq_true rfl)⟩ dX10_laid_4) (fun M4 H locs hR hI => ?_)
  obtain ⟨ca_4, hn_ca_4, hd4, he_ca_4, ha4, hF4⟩ := hR
  have f4_a := (hF4 _ (hw_sn (hw_up h0 (hw_nn h0 hq0))) (hw_nn h0 hq0)).trans (hw_up h0 (hw_nn h0 hq0))
  have g4_a_ca_4 : a ≠ ca_4 := hw_xn (hw_sn (hw_up h0 (hw_nn h0 hq0))) hn_ca_4
  have f4_ca := (hF4 _ (hw_sn (hw_up h1 (hw_nn h1 hq0))) (hw_nn h1 hq0)).trans (hw_up h1 (hw_nn h1 hq0))
  have g4_ca_ca_4 : ca ≠ ca_4 := hw_xn (hw_sn (hw_up h1 (hw_nn h1 hq0))) hn_ca_4
  have g4_q0_ca_4 : q0 ≠ ca_4 := hw_xn (hw_sn (hw_us _ _ _)) hn_ca_4
  have b_ca_4 : M ca_4 = none := hw_alv.n (hw_alv_u (hw_alv_r M)) hn_ca_4
  have al4 : hw_alv M M4 := hw_alv_F (hw_alv_u (hw_alv_r M)) hF4 ha4
  have fr4 : ∀ x, M x ≠ none → x ≠ a → M4 x = M x := fun x hx hxa => by rw [hF4 x ((hw_alv_u (hw_alv_r M)) x hx) (hw_xn hx b_q0), va_up_ne _ _ (hw_xn hx b_q0)]
  refine lv_astore_n (lv' := [(2, .ref q0), (0, .ref a), (1, .int (nI 0))]) hx hb dX10_laid_7 rfl hl (by decide) rfl (fun ls hl => ?_)
  have frq : ∀ x, M x ≠ none → x ≠ q0 → M4 x = M x := fun x hx hxq => (hF4 x (hw_alv_u (hw_alv_r M) x hx) hxq).trans (va_up_ne _ _ hxq)
  refine lv_iconst (v := nI 0) hx hb dX10_laid_8 (by decide) ?_
  refine lv_istore_n (lv' := [(3, .int (nI 0)), (2, .ref q0), (0, .ref a), (1, .int (nI 0))]) hx hb dX10_laid_9 rfl hl (by decide) rfl (fun ls hl => ?_)
  suffices LP10 : ∀ z, z ≤ 8 → ∀ (H : Heap) (locs : List Loc) (ls : Array Slot), hw_iv Z s (va_up M4 ca_4 (hw_al Z 8 (hb_la C 0 z))) H locs → lv_has ls 10 [(3, .int (nI z)), (2, .ref q0), (0, .ref a), (1, .int (nI 0))] → W p l e ({ frames := 2, cells := 2, slots := 9, locals := 60 } : Room) s m ([.ref a, .int (nI 0)] : List Value).toArray below meth c H locs 2 9 Q (F0 m 10 ls []) from LP10 0 (by omega) _ _ _ (hI.eq (hw_id he_ca_4 rfl)) (lv_sub hl [0, 1, 2, 3] rfl)
  refine hw_loop ?_ (fun z hi10 ih10 => ?_)
  · intro H locs ls hI hl
    refine lv_iload_n hx hb dX10_laid_10 rfl (lv_at hl 0 rfl) ?_
    refine lv_bipush (v := nI 8) hx hb dX10_laid_11 (by decide) ?_
    refine lv_icmp_ge (tgt := 157) hx hb dX10_laid_13 (by decide) (fun _ => ?_) (fun hc => absurd (Int32.le_refl _) hc)
    suffices LP157 : ∀ n, n ≤ (hb_em (hb_la C 0 8) 8 0) → ∀ (H : Heap) (locs : List Loc) (ls : Array Slot), hw_iv Z s (va_up M4 ca_4 (hw_al Z 8 (hb_sf (hb_la C 0 8) n))) H locs → lv_has ls 10 [(2, .ref q0)] → W p l e ({ frames := 2, cells := 2, slots := 9, locals := 60 } : Room) s m ([.ref a, .int (nI 0)] : List Value).toArray below meth c H locs 2 9 Q (F0 m 157 ls []) from LP157 0 (by omega) _ _ _ (hI.eq (by rw [hb_sf_0 (hb_la_8 C (by decide) 8 (by decide))])) (lv_sub hl [1] rfl)
    refine hw_loop ?_ (fun n hi157 ih157 => ?_)
    · intro H locs ls hI hl
      refine lv_aload_n hx hb dX10_laid_157 rfl (lv_at hl 0 rfl) ?_
      refine hw_ci hI (hw_rV hx hb hml hown hts hk hI (m_X10_height l Z (va_up M4 ca_4 (hw_al Z 8 (hb_sf (hb_la C 0 8) (hb_em (hb_la C 0 8) 8 0)))) q0 ca_4 (hb_sf (hb_la C 0 8) (hb_em (hb_la C 0 8) 8 0)) (hw_up ha4 g4_q0_ca_4) (hw_us _ _ _)) cv_X10_37 (hw_up ha4 g4_q0_ca_4) rfl rfl ⟨rfl, rfl⟩ ⟨(Nat.le_of_ble_eq_true rfl), (Nat.le_of_ble_eq_true rfl)⟩ rfl hl.1 rfl (Nat.le_of_ble_eq_true rfl) ⟨(Nat.le_of_ble_eq_true rfl), (Nat.le_of_ble_eq_true rfl)⟩ dX10_laid_158) (fun r158 M158 H locs hR hI => ?_)
      obtain ⟨rfl, rfl⟩ := hR
      refine lv_if_le (tgt := 201) hx hb dX10_laid_161 (by decide) (fun hc => absurd hc (fun q => hb_sf_ht hz (by omega) (hb_ht_le0 q))) (fun _ => ?_)
      refine lv_aload_n hx hb dX10_laid_164 rfl (lv_at hl 0 rfl) ?_
      refine hw_get hx hb hts hown hk hI fd_X10_9 (hw_up ha4 g4_q0_ca_4) rfl dX10_laid_165 ?_
      refine lv_iconst (v := nI 0) hx hb dX10_laid_168 (by decide) ?_
      refine hw_lald hx hb hk hI (hw_us _ _ _) (j := 0) rfl (by omega) (by decide) dX10_laid_169 ?_
      refine lv_lconst (v := 0) hx hb dX10_laid_170 (by decide) ?_
      refine W.lcmp hx hb dX10_laid_171 ?_
      refine lv_if_ne (tgt := 201) hx hb dX10_laid_172 (by decide) (fun _ => ?_) (fun hc => absurd hc (fun q => hb_sf_nz hz ((lg_cmp_eq _ _).mp q)))
      have hfin : (fun r M' => ∃ sa : Nat, M r = none ∧ M sa = none ∧ r ≠ sa ∧ M' r = hw_ob 11 [.ref sa] ∧ M' sa = hw_al Z 8 (hb_laid C 0) ∧ ∀ x, M x ≠ none → M' x = M x) q0 (va_up M4 ca_4 (hw_al Z 8 (hb_sf (hb_la C 0 8) (hb_em (hb_la C 0 8) 8 0)))) := ⟨ca_4, b_q0, b_ca_4, g4_q0_ca_4, hw_up ha4 g4_q0_ca_4, (hw_us _ _ _).trans (hw_alc ((congrArg (hb_sf (hb_la C 0 8)) (if_neg hz).symm).trans (hb_sf_low hz))), fun x hx => by rw [va_up_ne _ _ (hw_xn hx b_ca_4)]; exact frq x hx (hw_xn hx b_q0)⟩
      refine lv_aload_n hx hb dX10_laid_201 rfl (lv_at hl 0 rfl) ?_
      exact hret hI hfin (Nat.le_of_ble_eq_true rfl) (Nat.le_of_ble_eq_true rfl) dX10_laid_202
    · intro H locs ls hI hl
      refine lv_aload_n hx hb dX10_laid_157 rfl (lv_at hl 0 rfl) ?_
      refine hw_ci hI (hw_rV hx hb hml hown hts hk hI (m_X10_height l Z (va_up M4 ca_4 (hw_al Z 8 (hb_sf (hb_la C 0 8) n))) q0 ca_4 (hb_sf (hb_la C 0 8) n) (hw_up ha4 g4_q0_ca_4) (hw_us _ _ _)) cv_X10_37 (hw_up ha4 g4_q0_ca_4) rfl rfl ⟨rfl, rfl⟩ ⟨(Nat.le_of_ble_eq_true rfl), (Nat.le_of_ble_eq_true rfl)⟩ rfl hl.1 rfl (Nat.le_of_ble_eq_true rfl) ⟨(Nat.le_of_ble_eq_true rfl), (Nat.le_of_ble_eq_true rfl)⟩ dX10_laid_158) (fun r158 M158 H locs hR hI => ?_)
      obtain ⟨rfl, rfl⟩ := hR
      refine lv_if_le (tgt := 201) hx hb dX10_laid_161 (by decide) (fun hc => absurd hc (fun q => hb_sf_ht hz (by omega) (hb_ht_le0 q))) (fun _ => ?_)
      refine lv_aload_n hx hb dX10_laid_164 rfl (lv_at hl 0 rfl) ?_
      refine hw_get hx hb hts hown hk hI fd_X10_9 (hw_up ha4 g4_q0_ca_4) rfl dX10_laid_165 ?_
      refine lv_iconst (v := nI 0) hx hb dX10_laid_168 (by decide) ?_
      refine hw_lald hx hb hk hI (hw_us _ _ _) (j := 0) rfl (by omega) (by decide) dX10_laid_169 ?_
      refine lv_lconst (v := 0) hx hb dX10_laid_170 (by decide) ?_
      refine W.lcmp hx hb dX10_laid_171 ?_
      refine lv_if_ne (tgt := 201) hx hb dX10_laid_172 (by decide) (fun hc => absurd ((lg_cmp_eq _ _).mpr (hb_sf_z hz hi157)) hc) (fun _ => ?_)
      refine lv_aload_n hx hb dX10_laid_175 rfl (lv_at hl 0 rfl) ?_
      refine hw_get hx hb hts hown hk hI fd_X10_9 (hw_up ha4 g4_q0_ca_4) rfl dX10_laid_176 ?_
      refine lv_iconst (v := nI 1) hx hb dX10_laid_179 (by decide) ?_
      refine lv_aload_n hx hb dX10_laid_180 rfl (lv_at hl 0 rfl) ?_
      refine hw_get hx hb hts hown hk hI fd_X10_9 (hw_up ha4 g4_q0_ca_4) rfl dX10_laid_181 ?_
      refine lv_iconst (v := nI 0) hx hb dX10_laid_184 (by decide) ?_
      refine lv_bipush (v := nI 7) hx hb dX10_laid_185 (by decide) ?_
      refine hw_copyl hx hb (by rw [hml]; exact hl.1.symm) hts hown hk hI (hw_win (w := .methodLink RX10 41 arraycopyName) (by decide +kernel) (by decide +kernel)) (hw_win (w := .native arraycopyName) (by decide +kernel) (by decide +kernel)) (hw_win (w := .static arraycopyName) (by decide +kernel) (by decide +kernel)) (hw_win (w := .initialized "java/lang/System") (by decide +kernel) (by decide +kernel)) (hw_us _ _ _) (hw_us _ _ _) (sp' := 1) (dp' := 0) (n' := 7) rfl rfl rfl (by decide) (by decide) (by decide) (by decide) (by decide) (Nat.le_of_ble_eq_true rfl) (Nat.le_of_ble_eq_true rfl) dX10_laid_187 (fun H locs hI => ?_)
      refine lv_aload_n hx hb dX10_laid_190 rfl (lv_at hl 0 rfl) ?_
      refine hw_get hx hb hts hown hk hI fd_X10_9 (hw_up (hw_up ha4 g4_q0_ca_4) g4_q0_ca_4) rfl dX10_laid_191 ?_
      refine lv_bipush (v := nI 7) hx hb dX10_laid_194 (by decide) ?_
      refine lv_lconst (v := 0) hx hb dX10_laid_196 (by decide) ?_
      refine hw_last hx hb hk hI (hw_us _ _ _) (j := 7) rfl (by omega) (by decide) dX10_laid_197 (fun H locs hI => ?_)
      refine lv_goto (tgt := 157) hx hb dX10_laid_198 (by decide) ?_
      exact ih157 _ _ _ (hI.eq (by rw [bx_uu, bx_uu, hb_sf_s])) (lv_sub hl [0] rfl)
  · intro H locs ls hI hl
    refine lv_iload_n hx hb dX10_laid_10 rfl (lv_at hl 0 rfl) ?_
    refine lv_bipush (v := nI 8) hx hb dX10_laid_11 (by decide) ?_
    refine lv_icmp_ge (tgt := 157) hx hb dX10_laid_13 (by decide) (fun hc => absurd hc (nI_ge hi10 (by decide))) (fun _ => ?_)
    refine lv_iconst (v := nI 0) hx hb dX10_laid_16 (by decide) ?_
    refine lv_istore (lv' := [(4, .int (nI 0)), (3, .int (nI z)), (2, .ref q0), (0, .ref a), (1, .int (nI 0))]) hx hb dX10_laid_17 hl (by decide) rfl (fun ls hl => ?_)
    suffices LP19 : ∀ i, i ≤ 64 → ∀ (H : Heap) (locs : List Loc) (ls : Array Slot), hw_iv Z s (va_up M4 ca_4 (hw_al Z 8 (hb_lz (C z) 0 z i (hb_la C 0 z)))) H locs → lv_has ls 10 [(4, .int (nI i)), (3, .int (nI z)), (2, .ref q0), (0, .ref a), (1, .int (nI 0))] → W p l e ({ frames := 2, cells := 2, slots := 9, locals := 60 } : Room) s m ([.ref a, .int (nI 0)] : List Value).toArray below meth c H locs 2 9 Q (F0 m 19 ls []) from LP19 0 (by omega) _ _ _ hI (lv_sub hl [0, 1, 2, 3, 4] rfl)
    refine hw_loop ?_ (fun i hi19 ih19 => ?_)
    · intro H locs ls hI hl
      refine lv_iload hx hb dX10_laid_19 (lv_at hl 0 rfl) ?_
      refine lv_bipush (v := nI 64) hx hb dX10_laid_21 (by decide) ?_
      refine lv_icmp_ge (tgt := 151) hx hb dX10_laid_23 (by decide) (fun _ => ?_) (fun hc => absurd (Int32.le_refl _) hc)
      refine lv_iinc (v := nI (z + 1)) (lv' := [(3, .int (nI (z + 1))), (4, .int (nI 64)), (2, .ref q0), (0, .ref a), (1, .int (nI 0))]) hx hb dX10_laid_151 hl (k := 1) rfl (hw_inc _) (by decide) rfl (fun ls hl => ?_)
      refine lv_goto (tgt := 10) hx hb dX10_laid_154 (by decide) ?_
      exact ih10 _ _ _ hI (lv_sub hl [0, 2, 3, 4] rfl)
    · intro H locs ls hI hl
      refine lv_iload hx hb dX10_laid_19 (lv_at hl 0 rfl) ?_
      refine lv_bipush (v := nI 64) hx hb dX10_laid_21 (by decide) ?_
      refine lv_icmp_ge (tgt := 151) hx hb dX10_laid_23 (by decide) (fun hc => absurd hc (nI_ge hi19 (by decide))) (fun _ => ?_)
      refine lv_aload_n hx hb dX10_laid_26 rfl (lv_at hl 3 rfl) ?_
      refine hw_get hx hb hts hown hk hI fd_X10_9 (hw_up f4_a g4_a_ca_4) rfl dX10_laid_27 ?_
      refine lv_iload_n hx hb dX10_laid_30 rfl (lv_at hl 1 rfl) ?_
      refine hw_lald hx hb hk hI (hw_up f4_ca g4_ca_ca_4) (j := z) rfl (by omega) (by decide) dX10_laid_31 ?_
      refine lv_iload hx hb dX10_laid_32 (lv_at hl 0 rfl) ?_
      refine hw_ci hI (hw_rSN hx hb hml hown hts hk hI (m_X11_has l Z (va_up M4 ca_4 (hw_al Z 8 (hb_lz (C z) 0 z i (hb_la C 0 z)))) (C z) i (by omega)) cn_X10_33 ⟨rfl, rfl⟩ ⟨(Nat.le_of_ble_eq_true rfl), (Nat.le_of_ble_eq_true rfl)⟩ rfl hl.1 rfl (Nat.le_of_ble_eq_true rfl) ⟨(Nat.le_of_ble_eq_true rfl), (Nat.le_of_ble_eq_true rfl)⟩ dX10_laid_34) (fun r34 M34 H locs hR hI => ?_)
      obtain ⟨rfl, rfl⟩ := hR
      refine lv_if_ne (tgt := 43) hx hb dX10_laid_37 (by decide) (fun c37 => ?_) (fun c37 => ?_)
      · refine lv_iload hx hb dX10_laid_43 (lv_at hl 0 rfl) ?_
        refine lv_bipush (v := nI 8) hx hb dX10_laid_45 (by decide) ?_
        refine lv_irem hx hb dX10_laid_47 (by decide) ?_
        refine hw_ti (pk_rem (by omega) (by decide) (by decide)) ?_
        refine lv_istore (lv' := [(5, .int (nI (i % 8))), (4, .int (nI i)), (3, .int (nI z)), (2, .ref q0), (0, .ref a), (1, .int (nI 0))]) hx hb dX10_laid_48 hl (by decide) rfl (fun ls hl => ?_)
        refine lv_iload hx hb dX10_laid_50 (lv_at hl 1 rfl) ?_
        refine lv_bipush (v := nI 8) hx hb dX10_laid_52 (by decide) ?_
        refine lv_idiv hx hb dX10_laid_54 (by decide) ?_
        refine hw_ti (pk_div (by omega) (by decide) (by decide)) ?_
        refine lv_istore (lv' := [(6, .int (nI (i / 8))), (5, .int (nI (i % 8))), (4, .int (nI i)), (3, .int (nI z)), (2, .ref q0), (0, .ref a), (1, .int (nI 0))]) hx hb dX10_laid_55 hl (by decide) rfl (fun ls hl => ?_)
        refine lv_iload_n hx hb dX10_laid_57 rfl (lv_at hl 6 rfl) ?_
        refine lv_iconst (v := nI 2) hx hb dX10_laid_58 (by decide) ?_
        refine lv_icmp_ge (tgt := 66) hx hb dX10_laid_59 (by decide) (fun hc => absurd hc (by decide)) (fun _ => ?_)
        refine lv_iload_n hx hb dX10_laid_62 rfl (lv_at hl 3 rfl) ?_
        refine lv_goto (tgt := 78) hx hb dX10_laid_63 (by decide) ?_
        refine lv_istore (lv' := [(7, .int (nI z)), (6, .int (nI (i / 8))), (5, .int (nI (i % 8))), (4, .int (nI i)), (3, .int (nI z)), (2, .ref q0), (0, .ref a), (1, .int (nI 0))]) hx hb dX10_laid_78 hl (by decide) rfl (fun ls hl => ?_)
        refine lv_iload_n hx hb dX10_laid_80 rfl (lv_at hl 7 rfl) ?_
        refine lv_iconst (v := nI 2) hx hb dX10_laid_81 (by decide) ?_
        refine lv_icmp_eq (tgt := 90) hx hb dX10_laid_82 (by decide) (fun hc => absurd hc (by decide)) (fun _ => ?_)
        refine lv_iload_n hx hb dX10_laid_85 rfl (lv_at hl 7 rfl) ?_
        refine lv_iconst (v := nI 3) hx hb dX10_laid_86 (by decide) ?_
        refine lv_icmp_ne (tgt := 94) hx hb dX10_laid_87 (by decide) (fun _ => ?_) (fun hc => absurd hc (by decide))
        refine lv_iload hx hb dX10_laid_94 (lv_at hl 2 rfl) ?_
        refine lv_istore (lv' := [(8, .int (nI (i % 8))), (7, .int (nI z)), (6, .int (nI (i / 8))), (5, .int (nI (i % 8))), (4, .int (nI i)), (3, .int (nI z)), (2, .ref q0), (0, .ref a), (1, .int (nI 0))]) hx hb dX10_laid_96 hl (by decide) rfl (fun ls hl => ?_)
        refine lv_iload_n hx hb dX10_laid_98 rfl (lv_at hl 8 rfl) ?_
        refine lv_iconst (v := nI 3) hx hb dX10_laid_99 (by decide) ?_
        refine lv_icmp_le (tgt := 107) hx hb dX10_laid_100 (by decide) (fun _ => ?_) (fun hc => absurd (by decide) hc)
        refine lv_iload hx hb dX10_laid_107 (lv_at hl 2 rfl) ?_
        refine lv_istore (lv' := [(9, .int (nI (i / 8))), (8, .int (nI (i % 8))), (7, .int (nI z)), (6, .int (nI (i / 8))), (5, .int (nI (i % 8))), (4, .int (nI i)), (3, .int (nI z)), (2, .ref q0), (0, .ref a), (1, .int (nI 0))]) hx hb dX10_laid_109 hl (by decide) rfl (fun ls hl => ?_)
        refine lv_aload_n hx hb dX10_laid_111 rfl (lv_at hl 7 rfl) ?_
        refine hw_get hx hb hts hown hk hI fd_X10_9 (hw_up ha4 g4_q0_ca_4) rfl dX10_laid_112 ?_
        refine lv_iload_n hx hb dX10_laid_115 rfl (lv_at hl 9 rfl) ?_
        refine lv_iconst (v := nI 2) hx hb dX10_laid_116 (by decide) ?_
        refine lv_irem hx hb dX10_laid_117 (by decide) ?_
        refine lv_if_ne (tgt := 126) hx hb dX10_laid_118 (by decide) (fun hc => absurd (by decide) hc) (fun _ => ?_)
        refine lv_iload hx hb dX10_laid_121 (lv_at hl 2 rfl) ?_
        refine lv_goto (tgt := 131) hx hb dX10_laid_123 (by decide) ?_
        refine lv_dup2_11 hx hb dX10_laid_131 rfl rfl ?_
        refine hw_lald hx hb hk hI (hw_us _ _ _) (j := z) rfl (by omega) (by decide) dX10_laid_132 ?_
        refine lv_lconst (v := 1) hx hb dX10_laid_133 (by decide) ?_
        refine lv_iload hx hb dX10_laid_134 (lv_at hl 1 rfl) ?_
        refine lv_bipush (v := nI 8) hx hb dX10_laid_136 (by decide) ?_
        refine lv_iload hx hb dX10_laid_138 (lv_at hl 0 rfl) ?_
        refine lv_imul hx hb dX10_laid_140 ?_
        refine hw_ti (pk_mul _ _) ?_
        refine lv_iadd hx hb dX10_laid_141 ?_
        refine hw_ti (nI_add _ _) ?_
        refine lv_lshl (v := hb_shl 1 (nI ((i % 8) + (8 * (i / 8))))) hx hb dX10_laid_142 rfl ?_
        refine lv_lor hx hb dX10_laid_143 ?_
        refine hw_last hx hb hk hI (hw_us _ _ _) (j := z) rfl (by omega) (by decide) dX10_laid_144 (fun H locs hI => ?_)
        refine lv_iinc (v := nI (i + 1)) (lv' := [(4, .int (nI (i + 1))), (9, .int (nI (i / 8))), (8, .int (nI (i % 8))), (7, .int (nI z)), (6, .int (nI (i / 8))), (5, .int (nI (i % 8))), (3, .int (nI z)), (2, .ref q0), (0, .ref a), (1, .int (nI 0))]) hx hb dX10_laid_145 hl (k := 5) rfl (hw_inc _) (by decide) rfl (fun ls hl => ?_)
        refine lv_goto (tgt := 19) hx hb dX10_laid_148 (by decide) ?_
        exact ih19 _ _ _ (hI.eq (hw_uu1 (hw_alc (hb_lz_y (hq_bn (hq_bt c37)))))) (lv_sub hl [0, 6, 7, 8, 9] rfl)
      · refine lv_goto (tgt := 145) hx hb dX10_laid_40 (by decide) ?_
        refine lv_iinc (v := nI (i + 1)) (lv' := [(4, .int (nI (i + 1))), (3, .int (nI z)), (2, .ref q0), (0, .ref a), (1, .int (nI 0))]) hx hb dX10_laid_145 hl (k := 0) rfl (hw_inc _) (by decide) rfl (fun ls hl => ?_)
        refine lv_goto (tgt := 19) hx hb dX10_laid_148 (by decide) ?_
        exact ih19 _ _ _ (hI.eq (by rw [hb_lz_n (hq_bf c37)])) (lv_sub hl [0, 1, 2, 3, 4] rfl)

set_option maxHeartbeats 4000000 in
set_option maxRecDepth 100000 in
theorem m_X10_laid_1z (l : Launch) (Z : hw_Z) (M : hw_M) (a : Nat) (ca : Nat) (C : Nat → Int64) (h0 : M a = hw_ob 11 [.ref ca]) (h1 : M ca = hw_al Z 8 C) (hz : hb_ht (hb_la C 1 8) 8 = 0) : Met l yX10_laid (hw_m yX10_laid cX10_laid 10 (some (.object "MeltPoolModel$Solid"))) ({ frames := 2, cells := 2, slots := 9, locals := 60 } : Room) (va_Pc [.ref a, .int (nI 1)] (hw_P Z M)) (hw_Qr Z (fun r M' => ∃ sa : Nat, M r = none ∧ M sa = none ∧ r ≠ sa ∧ M' r = hw_ob 11 [.ref sa] ∧ M' sa = hw_al Z 8 (hb_laid C 1) ∧ ∀ x, M x ≠ none → M' x = M x)) 2 9 (hw_A Z) := by
  refine hw_ofr (by decide +kernel) rfl (Or.inl ⟨_, rfl⟩) (Nat.le_of_ble_eq_true rfl) ?_
  intro p e s m below meth c ls Q hx hb hml hown hts hk hnm hI hl hret
  refine hw_new hx hb hts hown hk hI fn_X10_10 (Nat.le_of_ble_eq_true rfl) (Nat.le_of_ble_eq_true rfl) dX10_laid_0 (fun q0 H hq0 hI => ?_)
  have b_q0 : M q0 = none := hw_alv.n (hw_alv_r M) hq0
  refine lv_dup hx hb dX10_laid_3 rfl ?_
  refine hw_cv hI (hw_rI hx hb hml hown hts hk hI (m_X10_init l Z (va_up M q0 (hw_ob 11 [.null])) q0 (hw_us _ _ _)) ci_X10_32 ⟨rfl, rfl⟩ ⟨(Nat.le_of_ble_eq_true rfl), (Nat.le_of_ble_eq_true rfl)⟩ rfl hl.1 rfl (Nat.le_of_ble_eq_true rfl) ⟨(Nat.le_of_ble_eq_true rfl), (Nat.le_of_ble_eq_true rfl)⟩ dX10_laid_4) (fun M4 H locs hR hI => ?_)
  obtain ⟨ca_4, hn_ca_4, hd4, he_ca_4, ha4, hF4⟩ := hR
  have f4_a := (hF4 _ (hw_sn (hw_up h0 (hw_nn h0 hq0))) (hw_nn h0 hq0)).trans (hw_up h0 (hw_nn h0 hq0))
  have g4_a_ca_4 : a ≠ ca_4 := hw_xn (hw_sn (hw_up h0 (hw_nn h0 hq0))) hn_ca_4
  have f4_ca := (hF4 _ (hw_sn (hw_up h1 (hw_nn h1 hq0))) (hw_nn h1 hq0)).trans (hw_up h1 (hw_nn h1 hq0))
  have g4_ca_ca_4 : ca ≠ ca_4 := hw_xn (hw_sn (hw_up h1 (hw_nn h1 hq0))) hn_ca_4
  have g4_q0_ca_4 : q0 ≠ ca_4 := hw_xn (hw_sn (hw_us _ _ _)) hn_ca_4
  have b_ca_4 : M ca_4 = none := hw_alv.n (hw_alv_u (hw_alv_r M)) hn_ca_4
  have al4 : hw_alv M M4 := hw_alv_F (hw_alv_u (hw_alv_r M)) hF4 ha4
  have fr4 : ∀ x, M x ≠ none → x ≠ a → M4 x = M x := fun x hx hxa => by rw [hF4 x ((hw_alv_u (hw_alv_r M)) x hx) (hw_xn hx b_q0), va_up_ne _ _ (hw_xn hx b_q0)]
  refine lv_astore_n (lv' := [(2, .ref q0), (0, .ref a), (1, .int (nI 1))]) hx hb dX10_laid_7 rfl hl (by decide) rfl (fun ls hl => ?_)
  have frq : ∀ x, M x ≠ none → x ≠ q0 → M4 x = M x := fun x hx hxq => (hF4 x (hw_alv_u (hw_alv_r M) x hx) hxq).trans (va_up_ne _ _ hxq)
  refine lv_iconst (v := nI 0) hx hb dX10_laid_8 (by decide) ?_
  refine lv_istore_n (lv' := [(3, .int (nI 0)), (2, .ref q0), (0, .ref a), (1, .int (nI 1))]) hx hb dX10_laid_9 rfl hl (by decide) rfl (fun ls hl => ?_)
  suffices LP10 : ∀ z, z ≤ 8 → ∀ (H : Heap) (locs : List Loc) (ls : Array Slot), hw_iv Z s (va_up M4 ca_4 (hw_al Z 8 (hb_la C 1 z))) H locs → lv_has ls 10 [(3, .int (nI z)), (2, .ref q0), (0, .ref a), (1, .int (nI 1))] → W p l e ({ frames := 2, cells := 2, slots := 9, locals := 60 } : Room) s m ([.ref a, .int (nI 1)] : List Value).toArray below meth c H locs 2 9 Q (F0 m 10 ls []) from LP10 0 (by omega) _ _ _ (hI.eq (hw_id he_ca_4 rfl)) (lv_sub hl [0, 1, 2, 3] rfl)
  refine hw_loop ?_ (fun z hi10 ih10 => ?_)
  · intro H locs ls hI hl
    refine lv_iload_n hx hb dX10_laid_10 rfl (lv_at hl 0 rfl) ?_
    refine lv_bipush (v := nI 8) hx hb dX10_laid_11 (by decide) ?_
    refine lv_icmp_ge (tgt := 157) hx hb dX10_laid_13 (by decide) (fun _ => ?_) (fun hc => absurd (Int32.le_refl _) hc)
    refine lv_aload_n hx hb dX10_laid_157 rfl (lv_at hl 1 rfl) ?_
    refine hw_ci hI (hw_rV hx hb hml hown hts hk hI (m_X10_height l Z (va_up M4 ca_4 (hw_al Z 8 (hb_la C 1 8))) q0 ca_4 (hb_la C 1 8) (hw_up ha4 g4_q0_ca_4) (hw_us _ _ _)) cv_X10_37 (hw_up ha4 g4_q0_ca_4) rfl rfl ⟨rfl, rfl⟩ ⟨(Nat.le_of_ble_eq_true rfl), (Nat.le_of_ble_eq_true rfl)⟩ rfl hl.1 rfl (Nat.le_of_ble_eq_true rfl) ⟨(Nat.le_of_ble_eq_true rfl), (Nat.le_of_ble_eq_true rfl)⟩ dX10_laid_158) (fun r158 M158 H locs hR hI => ?_)
    obtain ⟨rfl, rfl⟩ := hR
    refine lv_if_le (tgt := 201) hx hb dX10_laid_161 (by decide) (fun _ => ?_) (fun hc => absurd (by rw [hz]; decide) hc)
    have hfin : (fun r M' => ∃ sa : Nat, M r = none ∧ M sa = none ∧ r ≠ sa ∧ M' r = hw_ob 11 [.ref sa] ∧ M' sa = hw_al Z 8 (hb_laid C 1) ∧ ∀ x, M x ≠ none → M' x = M x) q0 (va_up M4 ca_4 (hw_al Z 8 (hb_la C 1 8))) := ⟨ca_4, b_q0, b_ca_4, g4_q0_ca_4, hw_up ha4 g4_q0_ca_4, (hw_us _ _ _).trans (hw_alc (hb_sf_low0 hz (hb_la_8 C (by decide) 8 (by decide)))), fun x hx => by rw [va_up_ne _ _ (hw_xn hx b_ca_4)]; exact frq x hx (hw_xn hx b_q0)⟩
    refine lv_aload_n hx hb dX10_laid_201 rfl (lv_at hl 1 rfl) ?_
    exact hret hI hfin (Nat.le_of_ble_eq_true rfl) (Nat.le_of_ble_eq_true rfl) dX10_laid_202
  · intro H locs ls hI hl
    refine lv_iload_n hx hb dX10_laid_10 rfl (lv_at hl 0 rfl) ?_
    refine lv_bipush (v := nI 8) hx hb dX10_laid_11 (by decide) ?_
    refine lv_icmp_ge (tgt := 157) hx hb dX10_laid_13 (by decide) (fun hc => absurd hc (nI_ge hi10 (by decide))) (fun _ => ?_)
    refine lv_iconst (v := nI 0) hx hb dX10_laid_16 (by decide) ?_
    refine lv_istore (lv' := [(4, .int (nI 0)), (3, .int (nI z)), (2, .ref q0), (0, .ref a), (1, .int (nI 1))]) hx hb dX10_laid_17 hl (by decide) rfl (fun ls hl => ?_)
    suffices LP19 : ∀ i, i ≤ 64 → ∀ (H : Heap) (locs : List Loc) (ls : Array Slot), hw_iv Z s (va_up M4 ca_4 (hw_al Z 8 (hb_lz (C z) 1 z i (hb_la C 1 z)))) H locs → lv_has ls 10 [(4, .int (nI i)), (3, .int (nI z)), (2, .ref q0), (0, .ref a), (1, .int (nI 1))] → W p l e ({ frames := 2, cells := 2, slots := 9, locals := 60 } : Room) s m ([.ref a, .int (nI 1)] : List Value).toArray below meth c H locs 2 9 Q (F0 m 19 ls []) from LP19 0 (by omega) _ _ _ hI (lv_sub hl [0, 1, 2, 3, 4] rfl)
    refine hw_loop ?_ (fun i hi19 ih19 => ?_)
    · intro H locs ls hI hl
      refine lv_iload hx hb dX10_laid_19 (lv_at hl 0 rfl) ?_
      refine lv_bipush (v := nI 64) hx hb dX10_laid_21 (by decide) ?_
      refine lv_icmp_ge (tgt := 151) hx hb dX10_laid_23 (by decide) (fun _ => ?_) (fun hc => absurd (Int32.le_refl _) hc)
      refine lv_iinc (v := nI (z + 1)) (lv' := [(3, .int (nI (z + 1))), (4, .int (nI 64)), (2, .ref q0), (0, .ref a), (1, .int (nI 1))]) hx hb dX10_laid_151 hl (k := 1) rfl (hw_inc _) (by decide) rfl (fun ls hl => ?_)
      refine lv_goto (tgt := 10) hx hb dX10_laid_154 (by decide) ?_
      exact ih10 _ _ _ hI (lv_sub hl [0, 2, 3, 4] rfl)
    · intro H locs ls hI hl
      refine lv_iload hx hb dX10_laid_19 (lv_at hl 0 rfl) ?_
      refine lv_bipush (v := nI 64) hx hb dX10_laid_21 (by decide) ?_
      refine lv_icmp_ge (tgt := 151) hx hb dX10_laid_23 (by decide) (fun hc => absurd hc (nI_ge hi19 (by decide))) (fun _ => ?_)
      refine lv_aload_n hx hb dX10_laid_26 rfl (lv_at hl 3 rfl) ?_
      refine hw_get hx hb hts hown hk hI fd_X10_9 (hw_up f4_a g4_a_ca_4) rfl dX10_laid_27 ?_
      refine lv_iload_n hx hb dX10_laid_30 rfl (lv_at hl 1 rfl) ?_
      refine hw_lald hx hb hk hI (hw_up f4_ca g4_ca_ca_4) (j := z) rfl (by omega) (by decide) dX10_laid_31 ?_
      refine lv_iload hx hb dX10_laid_32 (lv_at hl 0 rfl) ?_
      refine hw_ci hI (hw_rSN hx hb hml hown hts hk hI (m_X11_has l Z (va_up M4 ca_4 (hw_al Z 8 (hb_lz (C z) 1 z i (hb_la C 1 z)))) (C z) i (by omega)) cn_X10_33 ⟨rfl, rfl⟩ ⟨(Nat.le_of_ble_eq_true rfl), (Nat.le_of_ble_eq_true rfl)⟩ rfl hl.1 rfl (Nat.le_of_ble_eq_true rfl) ⟨(Nat.le_of_ble_eq_true rfl), (Nat.le_of_ble_eq_true rfl)⟩ dX10_laid_34) (fun r34 M34 H locs hR hI => ?_)
      obtain ⟨rfl, rfl⟩ := hR
      refine lv_if_ne (tgt := 43) hx hb dX10_laid_37 (by decide) (fun c37 => ?_) (fun c37 => ?_)
      · refine lv_iload hx hb dX10_laid_43 (lv_at hl 0 rfl) ?_
        refine lv_bipush (v := nI 8) hx hb dX10_laid_45 (by decide) ?_
        refine lv_irem hx hb dX10_laid_47 (by decide) ?_
        refine hw_ti (pk_rem (by omega) (by decide) (by decide)) ?_
        refine lv_istore (lv' := [(5, .int (nI (i % 8))), (4, .int (nI i)), (3, .int (nI z)), (2, .ref q0), (0, .ref a), (1, .int (nI 1))]) hx hb dX10_laid_48 hl (by decide) rfl (fun ls hl => ?_)
        refine lv_iload hx hb dX10_laid_50 (lv_at hl 1 rfl) ?_
        refine lv_bipush (v := nI 8) hx hb dX10_laid_52 (by decide) ?_
        refine lv_idiv hx hb dX10_laid_54 (by decide) ?_
        refine hw_ti (pk_div (by omega) (by decide) (by decide)) ?_
        refine lv_istore (lv' := [(6, .int (nI (i / 8))), (5, .int (nI (i % 8))), (4, .int (nI i)), (3, .int (nI z)), (2, .ref q0), (0, .ref a), (1, .int (nI 1))]) hx hb dX10_laid_55 hl (by decide) rfl (fun ls hl => ?_)
        refine lv_iload_n hx hb dX10_laid_57 rfl (lv_at hl 6 rfl) ?_
        refine lv_iconst (v := nI 2) hx hb dX10_laid_58 (by decide) ?_
        refine lv_icmp_ge (tgt := 66) hx hb dX10_laid_59 (by decide) (fun hc => absurd hc (by decide)) (fun _ => ?_)
        refine lv_iload_n hx hb dX10_laid_62 rfl (lv_at hl 3 rfl) ?_
        refine lv_goto (tgt := 78) hx hb dX10_laid_63 (by decide) ?_
        refine lv_istore (lv' := [(7, .int (nI z)), (6, .int (nI (i / 8))), (5, .int (nI (i % 8))), (4, .int (nI i)), (3, .int (nI z)), (2, .ref q0), (0, .ref a), (1, .int (nI 1))]) hx hb dX10_laid_78 hl (by decide) rfl (fun ls hl => ?_)
        refine lv_iload_n hx hb dX10_laid_80 rfl (lv_at hl 7 rfl) ?_
        refine lv_iconst (v := nI 2) hx hb dX10_laid_81 (by decide) ?_
        refine lv_icmp_eq (tgt := 90) hx hb dX10_laid_82 (by decide) (fun hc => absurd hc (by decide)) (fun _ => ?_)
        refine lv_iload_n hx hb dX10_laid_85 rfl (lv_at hl 7 rfl) ?_
        refine lv_iconst (v := nI 3) hx hb dX10_laid_86 (by decide) ?_
        refine lv_icmp_ne (tgt := 94) hx hb dX10_laid_87 (by decide) (fun _ => ?_) (fun hc => absurd hc (by decide))
        refine lv_iload hx hb dX10_laid_94 (lv_at hl 2 rfl) ?_
        refine lv_istore (lv' := [(8, .int (nI (i % 8))), (7, .int (nI z)), (6, .int (nI (i / 8))), (5, .int (nI (i % 8))), (4, .int (nI i)), (3, .int (nI z)), (2, .ref q0), (0, .ref a), (1, .int (nI 1))]) hx hb dX10_laid_96 hl (by decide) rfl (fun ls hl => ?_)
        refine lv_iload_n hx hb dX10_laid_98 rfl (lv_at hl 8 rfl) ?_
        refine lv_iconst (v := nI 3) hx hb dX10_laid_99 (by decide) ?_
        refine lv_icmp_le (tgt := 107) hx hb dX10_laid_100 (by decide) (fun _ => ?_) (fun hc => absurd (by decide) hc)
        refine lv_iload hx hb dX10_laid_107 (lv_at hl 2 rfl) ?_
        refine lv_istore (lv' := [(9, .int (nI (i / 8))), (8, .int (nI (i % 8))), (7, .int (nI z)), (6, .int (nI (i / 8))), (5, .int (nI (i % 8))), (4, .int (nI i)), (3, .int (nI z)), (2, .ref q0), (0, .ref a), (1, .int (nI 1))]) hx hb dX10_laid_109 hl (by decide) rfl (fun ls hl => ?_)
        refine lv_aload_n hx hb dX10_laid_111 rfl (lv_at hl 7 rfl) ?_
        refine hw_get hx hb hts hown hk hI fd_X10_9 (hw_up ha4 g4_q0_ca_4) rfl dX10_laid_112 ?_
        refine lv_iload_n hx hb dX10_laid_115 rfl (lv_at hl 9 rfl) ?_
        refine lv_iconst (v := nI 2) hx hb dX10_laid_116 (by decide) ?_
        refine lv_irem hx hb dX10_laid_117 (by decide) ?_
        refine lv_if_ne (tgt := 126) hx hb dX10_laid_118 (by decide) (fun _ => ?_) (fun hc => absurd hc (by decide))
        refine lv_bipush (v := nI 7) hx hb dX10_laid_126 (by decide) ?_
        refine lv_iload hx hb dX10_laid_128 (lv_at hl 2 rfl) ?_
        refine lv_isub hx hb dX10_laid_130 ?_
        refine hw_ti (pk_sub (by omega)) ?_
        refine lv_dup2_11 hx hb dX10_laid_131 rfl rfl ?_
        refine hw_lald hx hb hk hI (hw_us _ _ _) (j := (7 - z)) rfl (by omega) (by decide) dX10_laid_132 ?_
        refine lv_lconst (v := 1) hx hb dX10_laid_133 (by decide) ?_
        refine lv_iload hx hb dX10_laid_134 (lv_at hl 1 rfl) ?_
        refine lv_bipush (v := nI 8) hx hb dX10_laid_136 (by decide) ?_
        refine lv_iload hx hb dX10_laid_138 (lv_at hl 0 rfl) ?_
        refine lv_imul hx hb dX10_laid_140 ?_
        refine hw_ti (pk_mul _ _) ?_
        refine lv_iadd hx hb dX10_laid_141 ?_
        refine hw_ti (nI_add _ _) ?_
        refine lv_lshl (v := hb_shl 1 (nI ((i % 8) + (8 * (i / 8))))) hx hb dX10_laid_142 rfl ?_
        refine lv_lor hx hb dX10_laid_143 ?_
        refine hw_last hx hb hk hI (hw_us _ _ _) (j := (7 - z)) rfl (by omega) (by decide) dX10_laid_144 (fun H locs hI => ?_)
        refine lv_iinc (v := nI (i + 1)) (lv' := [(4, .int (nI (i + 1))), (9, .int (nI (i / 8))), (8, .int (nI (i % 8))), (7, .int (nI z)), (6, .int (nI (i / 8))), (5, .int (nI (i % 8))), (3, .int (nI z)), (2, .ref q0), (0, .ref a), (1, .int (nI 1))]) hx hb dX10_laid_145 hl (k := 5) rfl (hw_inc _) (by decide) rfl (fun ls hl => ?_)
        refine lv_goto (tgt := 19) hx hb dX10_laid_148 (by decide) ?_
        exact ih19 _ _ _ (hI.eq (hw_uu1 (hw_alc (hb_lz_y (hq_bn (hq_bt c37)))))) (lv_sub hl [0, 6, 7, 8, 9] rfl)
      · refine lv_goto (tgt := 145) hx hb dX10_laid_40 (by decide) ?_
        refine lv_iinc (v := nI (i + 1)) (lv' := [(4, .int (nI (i + 1))), (3, .int (nI z)), (2, .ref q0), (0, .ref a), (1, .int (nI 1))]) hx hb dX10_laid_145 hl (k := 0) rfl (hw_inc _) (by decide) rfl (fun ls hl => ?_)
        refine lv_goto (tgt := 19) hx hb dX10_laid_148 (by decide) ?_
        exact ih19 _ _ _ (hI.eq (by rw [hb_lz_n (hq_bf c37)])) (lv_sub hl [0, 1, 2, 3, 4] rfl)

set_option maxHeartbeats 4000000 in
set_option maxRecDepth 100000 in
theorem m_X10_laid_1s (l : Launch) (Z : hw_Z) (M : hw_M) (a : Nat) (ca : Nat) (C : Nat → Int64) (h0 : M a = hw_ob 11 [.ref ca]) (h1 : M ca = hw_al Z 8 C) (hz : ¬ hb_ht (hb_la C 1 8) 8 = 0) : Met l yX10_laid (hw_m yX10_laid cX10_laid 10 (some (.object "MeltPoolModel$Solid"))) ({ frames := 2, cells := 2, slots := 9, locals := 60 } : Room) (va_Pc [.ref a, .int (nI 1)] (hw_P Z M)) (hw_Qr Z (fun r M' => ∃ sa : Nat, M r = none ∧ M sa = none ∧ r ≠ sa ∧ M' r = hw_ob 11 [.ref sa] ∧ M' sa = hw_al Z 8 (hb_laid C 1) ∧ ∀ x, M x ≠ none → M' x = M x)) 2 9 (hw_A Z) := by
  refine hw_ofr (by decide +kernel) rfl (Or.inl ⟨_, rfl⟩) (Nat.le_of_ble_eq_true rfl) ?_
  intro p e s m below meth c ls Q hx hb hml hown hts hk hnm hI hl hret
  refine hw_new hx hb hts hown hk hI fn_X10_10 (Nat.le_of_ble_eq_true rfl) (Nat.le_of_ble_eq_true rfl) dX10_laid_0 (fun q0 H hq0 hI => ?_)
  have b_q0 : M q0 = none := hw_alv.n (hw_alv_r M) hq0
  refine lv_dup hx hb dX10_laid_3 rfl ?_
  refine hw_cv hI (hw_rI hx hb hml hown hts hk hI (m_X10_init l Z (va_up M q0 (hw_ob 11 [.null])) q0 (hw_us _ _ _)) ci_X10_32 ⟨rfl, rfl⟩ ⟨(Nat.le_of_ble_eq_true rfl), (Nat.le_of_ble_eq_true rfl)⟩ rfl hl.1 rfl (Nat.le_of_ble_eq_true rfl) ⟨(Nat.le_of_ble_eq_true rfl), (Nat.le_of_ble_eq_true rfl)⟩ dX10_laid_4) (fun M4 H locs hR hI => ?_)
  obtain ⟨ca_4, hn_ca_4, hd4, he_ca_4, ha4, hF4⟩ := hR
  have f4_a := (hF4 _ (hw_sn (hw_up h0 (hw_nn h0 hq0))) (hw_nn h0 hq0)).trans (hw_up h0 (hw_nn h0 hq0))
  have g4_a_ca_4 : a ≠ ca_4 := hw_xn (hw_sn (hw_up h0 (hw_nn h0 hq0))) hn_ca_4
  have f4_ca := (hF4 _ (hw_sn (hw_up h1 (hw_nn h1 hq0))) (hw_nn h1 hq0)).trans (hw_up h1 (hw_nn h1 hq0))
  have g4_ca_ca_4 : ca ≠ ca_4 := hw_xn (hw_sn (hw_up h1 (hw_nn h1 hq0))) hn_ca_4
  have g4_q0_ca_4 : q0 ≠ ca_4 := hw_xn (hw_sn (hw_us _ _ _)) hn_ca_4
  have b_ca_4 : M ca_4 = none := hw_alv.n (hw_alv_u (hw_alv_r M)) hn_ca_4
  have al4 : hw_alv M M4 := hw_alv_F (hw_alv_u (hw_alv_r M)) hF4 ha4
  have fr4 : ∀ x, M x ≠ none → x ≠ a → M4 x = M x := fun x hx hxa => by rw [hF4 x ((hw_alv_u (hw_alv_r M)) x hx) (hw_xn hx b_q0), va_up_ne _ _ (hw_xn hx b_q0)]
  refine lv_astore_n (lv' := [(2, .ref q0), (0, .ref a), (1, .int (nI 1))]) hx hb dX10_laid_7 rfl hl (by decide) rfl (fun ls hl => ?_)
  have frq : ∀ x, M x ≠ none → x ≠ q0 → M4 x = M x := fun x hx hxq => (hF4 x (hw_alv_u (hw_alv_r M) x hx) hxq).trans (va_up_ne _ _ hxq)
  refine lv_iconst (v := nI 0) hx hb dX10_laid_8 (by decide) ?_
  refine lv_istore_n (lv' := [(3, .int (nI 0)), (2, .ref q0), (0, .ref a), (1, .int (nI 1))]) hx hb dX10_laid_9 rfl hl (by decide) rfl (fun ls hl => ?_)
  suffices LP10 : ∀ z, z ≤ 8 → ∀ (H : Heap) (locs : List Loc) (ls : Array Slot), hw_iv Z s (va_up M4 ca_4 (hw_al Z 8 (hb_la C 1 z))) H locs → lv_has ls 10 [(3, .int (nI z)), (2, .ref q0), (0, .ref a), (1, .int (nI 1))] → W p l e ({ frames := 2, cells := 2, slots := 9, locals := 60 } : Room) s m ([.ref a, .int (nI 1)] : List Value).toArray below meth c H locs 2 9 Q (F0 m 10 ls []) from LP10 0 (by omega) _ _ _ (hI.eq (hw_id he_ca_4 rfl)) (lv_sub hl [0, 1, 2, 3] rfl)
  refine hw_loop ?_ (fun z hi10 ih10 => ?_)
  · intro H locs ls hI hl
    refine lv_iload_n hx hb dX10_laid_10 rfl (lv_at hl 0 rfl) ?_
    refine lv_bipush (v := nI 8) hx hb dX10_laid_11 (by decide) ?_
    refine lv_icmp_ge (tgt := 157) hx hb dX10_laid_13 (by decide) (fun _ => ?_) (fun hc => absurd (Int32.le_refl _) hc)
    suffices LP157 : ∀ n, n ≤ (hb_em (hb_la C 1 8) 8 0) → ∀ (H : Heap) (locs : List Loc) (ls : Array Slot), hw_iv Z s (va_up M4 ca_4 (hw_al Z 8 (hb_sf (hb_la C 1 8) n))) H locs → lv_has ls 10 [(2, .ref q0)] → W p l e ({ frames := 2, cells := 2, slots := 9, locals := 60 } : Room) s m ([.ref a, .int (nI 1)] : List Value).toArray below meth c H locs 2 9 Q (F0 m 157 ls []) from LP157 0 (by omega) _ _ _ (hI.eq (by rw [hb_sf_0 (hb_la_8 C (by decide) 8 (by decide))])) (lv_sub hl [1] rfl)
    refine hw_loop ?_ (fun n hi157 ih157 => ?_)
    · intro H locs ls hI hl
      refine lv_aload_n hx hb dX10_laid_157 rfl (lv_at hl 0 rfl) ?_
      refine hw_ci hI (hw_rV hx hb hml hown hts hk hI (m_X10_height l Z (va_up M4 ca_4 (hw_al Z 8 (hb_sf (hb_la C 1 8) (hb_em (hb_la C 1 8) 8 0)))) q0 ca_4 (hb_sf (hb_la C 1 8) (hb_em (hb_la C 1 8) 8 0)) (hw_up ha4 g4_q0_ca_4) (hw_us _ _ _)) cv_X10_37 (hw_up ha4 g4_q0_ca_4) rfl rfl ⟨rfl, rfl⟩ ⟨(Nat.le_of_ble_eq_true rfl), (Nat.le_of_ble_eq_true rfl)⟩ rfl hl.1 rfl (Nat.le_of_ble_eq_true rfl) ⟨(Nat.le_of_ble_eq_true rfl), (Nat.le_of_ble_eq_true rfl)⟩ dX10_laid_158) (fun r158 M158 H locs hR hI => ?_)
      obtain ⟨rfl, rfl⟩ := hR
      refine lv_if_le (tgt := 201) hx hb dX10_laid_161 (by decide) (fun hc => absurd hc (fun q => hb_sf_ht hz (by omega) (hb_ht_le0 q))) (fun _ => ?_)
      refine lv_aload_n hx hb dX10_laid_164 rfl (lv_at hl 0 rfl) ?_
      refine hw_get hx hb hts hown hk hI fd_X10_9 (hw_up ha4 g4_q0_ca_4) rfl dX10_laid_165 ?_
      refine lv_iconst (v := nI 0) hx hb dX10_laid_168 (by decide) ?_
      refine hw_lald hx hb hk hI (hw_us _ _ _) (j := 0) rfl (by omega) (by decide) dX10_laid_169 ?_
      refine lv_lconst (v := 0) hx hb dX10_laid_170 (by decide) ?_
      refine W.lcmp hx hb dX10_laid_171 ?_
      refine lv_if_ne (tgt := 201) hx hb dX10_laid_172 (by decide) (fun _ => ?_) (fun hc => absurd hc (fun q => hb_sf_nz hz ((lg_cmp_eq _ _).mp q)))
      have hfin : (fun r M' => ∃ sa : Nat, M r = none ∧ M sa = none ∧ r ≠ sa ∧ M' r = hw_ob 11 [.ref sa] ∧ M' sa = hw_al Z 8 (hb_laid C 1) ∧ ∀ x, M x ≠ none → M' x = M x) q0 (va_up M4 ca_4 (hw_al Z 8 (hb_sf (hb_la C 1 8) (hb_em (hb_la C 1 8) 8 0)))) := ⟨ca_4, b_q0, b_ca_4, g4_q0_ca_4, hw_up ha4 g4_q0_ca_4, (hw_us _ _ _).trans (hw_alc ((congrArg (hb_sf (hb_la C 1 8)) (if_neg hz).symm).trans (hb_sf_low hz))), fun x hx => by rw [va_up_ne _ _ (hw_xn hx b_ca_4)]; exact frq x hx (hw_xn hx b_q0)⟩
      refine lv_aload_n hx hb dX10_laid_201 rfl (lv_at hl 0 rfl) ?_
      exact hret hI hfin (Nat.le_of_ble_eq_true rfl) (Nat.le_of_ble_eq_true rfl) dX10_laid_202
    · intro H locs ls hI hl
      refine lv_aload_n hx hb dX10_laid_157 rfl (lv_at hl 0 rfl) ?_
      refine hw_ci hI (hw_rV hx hb hml hown hts hk hI (m_X10_height l Z (va_up M4 ca_4 (hw_al Z 8 (hb_sf (hb_la C 1 8) n))) q0 ca_4 (hb_sf (hb_la C 1 8) n) (hw_up ha4 g4_q0_ca_4) (hw_us _ _ _)) cv_X10_37 (hw_up ha4 g4_q0_ca_4) rfl rfl ⟨rfl, rfl⟩ ⟨(Nat.le_of_ble_eq_true rfl), (Nat.le_of_ble_eq_true rfl)⟩ rfl hl.1 rfl (Nat.le_of_ble_eq_true rfl) ⟨(Nat.le_of_ble_eq_true rfl), (Nat.le_of_ble_eq_true rfl)⟩ dX10_laid_158) (fun r158 M158 H locs hR hI => ?_)
      obtain ⟨rfl, rfl⟩ := hR
      refine lv_if_le (tgt := 201) hx hb dX10_laid_161 (by decide) (fun hc => absurd hc (fun q => hb_sf_ht hz (by omega) (hb_ht_le0 q))) (fun _ => ?_)
      refine lv_aload_n hx hb dX10_laid_164 rfl (lv_at hl 0 rfl) ?_
      refine hw_get hx hb hts hown hk hI fd_X10_9 (hw_up ha4 g4_q0_ca_4) rfl dX10_laid_165 ?_
      refine lv_iconst (v := nI 0) hx hb dX10_laid_168 (by decide) ?_
      refine hw_lald hx hb hk hI (hw_us _ _ _) (j := 0) rfl (by omega) (by decide) dX10_laid_169 ?_
      refine lv_lconst (v := 0) hx hb dX10_laid_170 (by decide) ?_
      refine W.lcmp hx hb dX10_laid_171 ?_
      refine lv_if_ne (tgt := 201) hx hb dX10_laid_172 (by decide) (fun hc => absurd ((lg_cmp_eq _ _).mpr (hb_sf_z hz hi157)) hc) (fun _ => ?_)
      refine lv_aload_n hx hb dX10_laid_175 rfl (lv_at hl 0 rfl) ?_
      refine hw_get hx hb hts hown hk hI fd_X10_9 (hw_up ha4 g4_q0_ca_4) rfl dX10_laid_176 ?_
      refine lv_iconst (v := nI 1) hx hb dX10_laid_179 (by decide) ?_
      refine lv_aload_n hx hb dX10_laid_180 rfl (lv_at hl 0 rfl) ?_
      refine hw_get hx hb hts hown hk hI fd_X10_9 (hw_up ha4 g4_q0_ca_4) rfl dX10_laid_181 ?_
      refine lv_iconst (v := nI 0) hx hb dX10_laid_184 (by decide) ?_
      refine lv_bipush (v := nI 7) hx hb dX10_laid_185 (by decide) ?_
      refine hw_copyl hx hb (by rw [hml]; exact hl.1.symm) hts hown hk hI (hw_win (w := .methodLink RX10 41 arraycopyName) (by decide +kernel) (by decide +kernel)) (hw_win (w := .native arraycopyName) (by decide +kernel) (by decide +kernel)) (hw_win (w := .static arraycopyName) (by decide +kernel) (by decide +kernel)) (hw_win (w := .initialized "java/lang/System") (by decide +kernel) (by decide +kernel)) (hw_us _ _ _) (hw_us _ _ _) (sp' := 1) (dp' := 0) (n' := 7) rfl rfl rfl (by decide) (by decide) (by decide) (by decide) (by decide) (Nat.le_of_ble_eq_true rfl) (Nat.le_of_ble_eq_true rfl) dX10_laid_187 (fun H locs hI => ?_)
      refine lv_aload_n hx hb dX10_laid_190 rfl (lv_at hl 0 rfl) ?_
      refine hw_get hx hb hts hown hk hI fd_X10_9 (hw_up (hw_up ha4 g4_q0_ca_4) g4_q0_ca_4) rfl dX10_laid_191 ?_
      refine lv_bipush (v := nI 7) hx hb dX10_laid_194 (by decide) ?_
      refine lv_lconst (v := 0) hx hb dX10_laid_196 (by decide) ?_
      refine hw_last hx hb hk hI (hw_us _ _ _) (j := 7) rfl (by omega) (by decide) dX10_laid_197 (fun H locs hI => ?_)
      refine lv_goto (tgt := 157) hx hb dX10_laid_198 (by decide) ?_
      exact ih157 _ _ _ (hI.eq (by rw [bx_uu, bx_uu, hb_sf_s])) (lv_sub hl [0] rfl)
  · intro H locs ls hI hl
    refine lv_iload_n hx hb dX10_laid_10 rfl (lv_at hl 0 rfl) ?_
    refine lv_bipush (v := nI 8) hx hb dX10_laid_11 (by decide) ?_
    refine lv_icmp_ge (tgt := 157) hx hb dX10_laid_13 (by decide) (fun hc => absurd hc (nI_ge hi10 (by decide))) (fun _ => ?_)
    refine lv_iconst (v := nI 0) hx hb dX10_laid_16 (by decide) ?_
    refine lv_istore (lv' := [(4, .int (nI 0)), (3, .int (nI z)), (2, .ref q0), (0, .ref a), (1, .int (nI 1))]) hx hb dX10_laid_17 hl (by decide) rfl (fun ls hl => ?_)
    suffices LP19 : ∀ i, i ≤ 64 → ∀ (H : Heap) (locs : List Loc) (ls : Array Slot), hw_iv Z s (va_up M4 ca_4 (hw_al Z 8 (hb_lz (C z) 1 z i (hb_la C 1 z)))) H locs → lv_has ls 10 [(4, .int (nI i)), (3, .int (nI z)), (2, .ref q0), (0, .ref a), (1, .int (nI 1))] → W p l e ({ frames := 2, cells := 2, slots := 9, locals := 60 } : Room) s m ([.ref a, .int (nI 1)] : List Value).toArray below meth c H locs 2 9 Q (F0 m 19 ls []) from LP19 0 (by omega) _ _ _ hI (lv_sub hl [0, 1, 2, 3, 4] rfl)
    refine hw_loop ?_ (fun i hi19 ih19 => ?_)
    · intro H locs ls hI hl
      refine lv_iload hx hb dX10_laid_19 (lv_at hl 0 rfl) ?_
      refine lv_bipush (v := nI 64) hx hb dX10_laid_21 (by decide) ?_
      refine lv_icmp_ge (tgt := 151) hx hb dX10_laid_23 (by decide) (fun _ => ?_) (fun hc => absurd (Int32.le_refl _) hc)
      refine lv_iinc (v := nI (z + 1)) (lv' := [(3, .int (nI (z + 1))), (4, .int (nI 64)), (2, .ref q0), (0, .ref a), (1, .int (nI 1))]) hx hb dX10_laid_151 hl (k := 1) rfl (hw_inc _) (by decide) rfl (fun ls hl => ?_)
      refine lv_goto (tgt := 10) hx hb dX10_laid_154 (by decide) ?_
      exact ih10 _ _ _ hI (lv_sub hl [0, 2, 3, 4] rfl)
    · intro H locs ls hI hl
      refine lv_iload hx hb dX10_laid_19 (lv_at hl 0 rfl) ?_
      refine lv_bipush (v := nI 64) hx hb dX10_laid_21 (by decide) ?_
      refine lv_icmp_ge (tgt := 151) hx hb dX10_laid_23 (by decide) (fun hc => absurd hc (nI_ge hi19 (by decide))) (fun _ => ?_)
      refine lv_aload_n hx hb dX10_laid_26 rfl (lv_at hl 3 rfl) ?_
      refine hw_get hx hb hts hown hk hI fd_X10_9 (hw_up f4_a g4_a_ca_4) rfl dX10_laid_27 ?_
      refine lv_iload_n hx hb dX10_laid_30 rfl (lv_at hl 1 rfl) ?_
      refine hw_lald hx hb hk hI (hw_up f4_ca g4_ca_ca_4) (j := z) rfl (by omega) (by decide) dX10_laid_31 ?_
      refine lv_iload hx hb dX10_laid_32 (lv_at hl 0 rfl) ?_
      refine hw_ci hI (hw_rSN hx hb hml hown hts hk hI (m_X11_has l Z (va_up M4 ca_4 (hw_al Z 8 (hb_lz (C z) 1 z i (hb_la C 1 z)))) (C z) i (by omega)) cn_X10_33 ⟨rfl, rfl⟩ ⟨(Nat.le_of_ble_eq_true rfl), (Nat.le_of_ble_eq_true rfl)⟩ rfl hl.1 rfl (Nat.le_of_ble_eq_true rfl) ⟨(Nat.le_of_ble_eq_true rfl), (Nat.le_of_ble_eq_true rfl)⟩ dX10_laid_34) (fun r34 M34 H locs hR hI => ?_)
      obtain ⟨rfl, rfl⟩ := hR
      refine lv_if_ne (tgt := 43) hx hb dX10_laid_37 (by decide) (fun c37 => ?_) (fun c37 => ?_)
      · refine lv_iload hx hb dX10_laid_43 (lv_at hl 0 rfl) ?_
        refine lv_bipush (v := nI 8) hx hb dX10_laid_45 (by decide) ?_
        refine lv_irem hx hb dX10_laid_47 (by decide) ?_
        refine hw_ti (pk_rem (by omega) (by decide) (by decide)) ?_
        refine lv_istore (lv' := [(5, .int (nI (i % 8))), (4, .int (nI i)), (3, .int (nI z)), (2, .ref q0), (0, .ref a), (1, .int (nI 1))]) hx hb dX10_laid_48 hl (by decide) rfl (fun ls hl => ?_)
        refine lv_iload hx hb dX10_laid_50 (lv_at hl 1 rfl) ?_
        refine lv_bipush (v := nI 8) hx hb dX10_laid_52 (by decide) ?_
        refine lv_idiv hx hb dX10_laid_54 (by decide) ?_
        refine hw_ti (pk_div (by omega) (by decide) (by decide)) ?_
        refine lv_istore (lv' := [(6, .int (nI (i / 8))), (5, .int (nI (i % 8))), (4, .int (nI i)), (3, .int (nI z)), (2, .ref q0), (0, .ref a), (1, .int (nI 1))]) hx hb dX10_laid_55 hl (by decide) rfl (fun ls hl => ?_)
        refine lv_iload_n hx hb dX10_laid_57 rfl (lv_at hl 6 rfl) ?_
        refine lv_iconst (v := nI 2) hx hb dX10_laid_58 (by decide) ?_
        refine lv_icmp_ge (tgt := 66) hx hb dX10_laid_59 (by decide) (fun hc => absurd hc (by decide)) (fun _ => ?_)
        refine lv_iload_n hx hb dX10_laid_62 rfl (lv_at hl 3 rfl) ?_
        refine lv_goto (tgt := 78) hx hb dX10_laid_63 (by decide) ?_
        refine lv_istore (lv' := [(7, .int (nI z)), (6, .int (nI (i / 8))), (5, .int (nI (i % 8))), (4, .int (nI i)), (3, .int (nI z)), (2, .ref q0), (0, .ref a), (1, .int (nI 1))]) hx hb dX10_laid_78 hl (by decide) rfl (fun ls hl => ?_)
        refine lv_iload_n hx hb dX10_laid_80 rfl (lv_at hl 7 rfl) ?_
        refine lv_iconst (v := nI 2) hx hb dX10_laid_81 (by decide) ?_
        refine lv_icmp_eq (tgt := 90) hx hb dX10_laid_82 (by decide) (fun hc => absurd hc (by decide)) (fun _ => ?_)
        refine lv_iload_n hx hb dX10_laid_85 rfl (lv_at hl 7 rfl) ?_
        refine lv_iconst (v := nI 3) hx hb dX10_laid_86 (by decide) ?_
        refine lv_icmp_ne (tgt := 94) hx hb dX10_laid_87 (by decide) (fun _ => ?_) (fun hc => absurd hc (by decide))
        refine lv_iload hx hb dX10_laid_94 (lv_at hl 2 rfl) ?_
        refine lv_istore (lv' := [(8, .int (nI (i % 8))), (7, .int (nI z)), (6, .int (nI (i / 8))), (5, .int (nI (i % 8))), (4, .int (nI i)), (3, .int (nI z)), (2, .ref q0), (0, .ref a), (1, .int (nI 1))]) hx hb dX10_laid_96 hl (by decide) rfl (fun ls hl => ?_)
        refine lv_iload_n hx hb dX10_laid_98 rfl (lv_at hl 8 rfl) ?_
        refine lv_iconst (v := nI 3) hx hb dX10_laid_99 (by decide) ?_
        refine lv_icmp_le (tgt := 107) hx hb dX10_laid_100 (by decide) (fun _ => ?_) (fun hc => absurd (by decide) hc)
        refine lv_iload hx hb dX10_laid_107 (lv_at hl 2 rfl) ?_
        refine lv_istore (lv' := [(9, .int (nI (i / 8))), (8, .int (nI (i % 8))), (7, .int (nI z)), (6, .int (nI (i / 8))), (5, .int (nI (i % 8))), (4, .int (nI i)), (3, .int (nI z)), (2, .ref q0), (0, .ref a), (1, .int (nI 1))]) hx hb dX10_laid_109 hl (by decide) rfl (fun ls hl => ?_)
        refine lv_aload_n hx hb dX10_laid_111 rfl (lv_at hl 7 rfl) ?_
        refine hw_get hx hb hts hown hk hI fd_X10_9 (hw_up ha4 g4_q0_ca_4) rfl dX10_laid_112 ?_
        refine lv_iload_n hx hb dX10_laid_115 rfl (lv_at hl 9 rfl) ?_
        refine lv_iconst (v := nI 2) hx hb dX10_laid_116 (by decide) ?_
        refine lv_irem hx hb dX10_laid_117 (by decide) ?_
        refine lv_if_ne (tgt := 126) hx hb dX10_laid_118 (by decide) (fun _ => ?_) (fun hc => absurd hc (by decide))
        refine lv_bipush (v := nI 7) hx hb dX10_laid_126 (by decide) ?_
        refine lv_iload hx hb dX10_laid_128 (lv_at hl 2 rfl) ?_
        refine lv_isub hx hb dX10_laid_130 ?_
        refine hw_ti (pk_sub (by omega)) ?_
        refine lv_dup2_11 hx hb dX10_laid_131 rfl rfl ?_
        refine hw_lald hx hb hk hI (hw_us _ _ _) (j := (7 - z)) rfl (by omega) (by decide) dX10_laid_132 ?_
        refine lv_lconst (v := 1) hx hb dX10_laid_133 (by decide) ?_
        refine lv_iload hx hb dX10_laid_134 (lv_at hl 1 rfl) ?_
        refine lv_bipush (v := nI 8) hx hb dX10_laid_136 (by decide) ?_
        refine lv_iload hx hb dX10_laid_138 (lv_at hl 0 rfl) ?_
        refine lv_imul hx hb dX10_laid_140 ?_
        refine hw_ti (pk_mul _ _) ?_
        refine lv_iadd hx hb dX10_laid_141 ?_
        refine hw_ti (nI_add _ _) ?_
        refine lv_lshl (v := hb_shl 1 (nI ((i % 8) + (8 * (i / 8))))) hx hb dX10_laid_142 rfl ?_
        refine lv_lor hx hb dX10_laid_143 ?_
        refine hw_last hx hb hk hI (hw_us _ _ _) (j := (7 - z)) rfl (by omega) (by decide) dX10_laid_144 (fun H locs hI => ?_)
        refine lv_iinc (v := nI (i + 1)) (lv' := [(4, .int (nI (i + 1))), (9, .int (nI (i / 8))), (8, .int (nI (i % 8))), (7, .int (nI z)), (6, .int (nI (i / 8))), (5, .int (nI (i % 8))), (3, .int (nI z)), (2, .ref q0), (0, .ref a), (1, .int (nI 1))]) hx hb dX10_laid_145 hl (k := 5) rfl (hw_inc _) (by decide) rfl (fun ls hl => ?_)
        refine lv_goto (tgt := 19) hx hb dX10_laid_148 (by decide) ?_
        exact ih19 _ _ _ (hI.eq (hw_uu1 (hw_alc (hb_lz_y (hq_bn (hq_bt c37)))))) (lv_sub hl [0, 6, 7, 8, 9] rfl)
      · refine lv_goto (tgt := 145) hx hb dX10_laid_40 (by decide) ?_
        refine lv_iinc (v := nI (i + 1)) (lv' := [(4, .int (nI (i + 1))), (3, .int (nI z)), (2, .ref q0), (0, .ref a), (1, .int (nI 1))]) hx hb dX10_laid_145 hl (k := 0) rfl (hw_inc _) (by decide) rfl (fun ls hl => ?_)
        refine lv_goto (tgt := 19) hx hb dX10_laid_148 (by decide) ?_
        exact ih19 _ _ _ (hI.eq (by rw [hb_lz_n (hq_bf c37)])) (lv_sub hl [0, 1, 2, 3, 4] rfl)

set_option maxHeartbeats 4000000 in
set_option maxRecDepth 100000 in
theorem m_X10_laid_2z (l : Launch) (Z : hw_Z) (M : hw_M) (a : Nat) (ca : Nat) (C : Nat → Int64) (h0 : M a = hw_ob 11 [.ref ca]) (h1 : M ca = hw_al Z 8 C) (hz : hb_ht (hb_la C 2 8) 8 = 0) : Met l yX10_laid (hw_m yX10_laid cX10_laid 10 (some (.object "MeltPoolModel$Solid"))) ({ frames := 2, cells := 2, slots := 9, locals := 60 } : Room) (va_Pc [.ref a, .int (nI 2)] (hw_P Z M)) (hw_Qr Z (fun r M' => ∃ sa : Nat, M r = none ∧ M sa = none ∧ r ≠ sa ∧ M' r = hw_ob 11 [.ref sa] ∧ M' sa = hw_al Z 8 (hb_laid C 2) ∧ ∀ x, M x ≠ none → M' x = M x)) 2 9 (hw_A Z) := by
  refine hw_ofr (by decide +kernel) rfl (Or.inl ⟨_, rfl⟩) (Nat.le_of_ble_eq_true rfl) ?_
  intro p e s m below meth c ls Q hx hb hml hown hts hk hnm hI hl hret
  refine hw_new hx hb hts hown hk hI fn_X10_10 (Nat.le_of_ble_eq_true rfl) (Nat.le_of_ble_eq_true rfl) dX10_laid_0 (fun q0 H hq0 hI => ?_)
  have b_q0 : M q0 = none := hw_alv.n (hw_alv_r M) hq0
  refine lv_dup hx hb dX10_laid_3 rfl ?_
  refine hw_cv hI (hw_rI hx hb hml hown hts hk hI (m_X10_init l Z (va_up M q0 (hw_ob 11 [.null])) q0 (hw_us _ _ _)) ci_X10_32 ⟨rfl, rfl⟩ ⟨(Nat.le_of_ble_eq_true rfl), (Nat.le_of_ble_eq_true rfl)⟩ rfl hl.1 rfl (Nat.le_of_ble_eq_true rfl) ⟨(Nat.le_of_ble_eq_true rfl), (Nat.le_of_ble_eq_true rfl)⟩ dX10_laid_4) (fun M4 H locs hR hI => ?_)
  obtain ⟨ca_4, hn_ca_4, hd4, he_ca_4, ha4, hF4⟩ := hR
  have f4_a := (hF4 _ (hw_sn (hw_up h0 (hw_nn h0 hq0))) (hw_nn h0 hq0)).trans (hw_up h0 (hw_nn h0 hq0))
  have g4_a_ca_4 : a ≠ ca_4 := hw_xn (hw_sn (hw_up h0 (hw_nn h0 hq0))) hn_ca_4
  have f4_ca := (hF4 _ (hw_sn (hw_up h1 (hw_nn h1 hq0))) (hw_nn h1 hq0)).trans (hw_up h1 (hw_nn h1 hq0))
  have g4_ca_ca_4 : ca ≠ ca_4 := hw_xn (hw_sn (hw_up h1 (hw_nn h1 hq0))) hn_ca_4
  have g4_q0_ca_4 : q0 ≠ ca_4 := hw_xn (hw_sn (hw_us _ _ _)) hn_ca_4
  have b_ca_4 : M ca_4 = none := hw_alv.n (hw_alv_u (hw_alv_r M)) hn_ca_4
  have al4 : hw_alv M M4 := hw_alv_F (hw_alv_u (hw_alv_r M)) hF4 ha4
  have fr4 : ∀ x, M x ≠ none → x ≠ a → M4 x = M x := fun x hx hxa => by rw [hF4 x ((hw_alv_u (hw_alv_r M)) x hx) (hw_xn hx b_q0), va_up_ne _ _ (hw_xn hx b_q0)]
  refine lv_astore_n (lv' := [(2, .ref q0), (0, .ref a), (1, .int (nI 2))]) hx hb dX10_laid_7 rfl hl (by decide) rfl (fun ls hl => ?_)
  have frq : ∀ x, M x ≠ none → x ≠ q0 → M4 x = M x := fun x hx hxq => (hF4 x (hw_alv_u (hw_alv_r M) x hx) hxq).trans (va_up_ne _ _ hxq)
  refine lv_iconst (v := nI 0) hx hb dX10_laid_8 (by decide) ?_
  refine lv_istore_n (lv' := [(3, .int (nI 0)), (2, .ref q0), (0, .ref a), (1, .int (nI 2))]) hx hb dX10_laid_9 rfl hl (by decide) rfl (fun ls hl => ?_)
  suffices LP10 : ∀ z, z ≤ 8 → ∀ (H : Heap) (locs : List Loc) (ls : Array Slot), hw_iv Z s (va_up M4 ca_4 (hw_al Z 8 (hb_la C 2 z))) H locs → lv_has ls 10 [(3, .int (nI z)), (2, .ref q0), (0, .ref a), (1, .int (nI 2))] → W p l e ({ frames := 2, cells := 2, slots := 9, locals := 60 } : Room) s m ([.ref a, .int (nI 2)] : List Value).toArray below meth c H locs 2 9 Q (F0 m 10 ls []) from LP10 0 (by omega) _ _ _ (hI.eq (hw_id he_ca_4 rfl)) (lv_sub hl [0, 1, 2, 3] rfl)
  refine hw_loop ?_ (fun z hi10 ih10 => ?_)
  · intro H locs ls hI hl
    refine lv_iload_n hx hb dX10_laid_10 rfl (lv_at hl 0 rfl) ?_
    refine lv_bipush (v := nI 8) hx hb dX10_laid_11 (by decide) ?_
    refine lv_icmp_ge (tgt := 157) hx hb dX10_laid_13 (by decide) (fun _ => ?_) (fun hc => absurd (Int32.le_refl _) hc)
    refine lv_aload_n hx hb dX10_laid_157 rfl (lv_at hl 1 rfl) ?_
    refine hw_ci hI (hw_rV hx hb hml hown hts hk hI (m_X10_height l Z (va_up M4 ca_4 (hw_al Z 8 (hb_la C 2 8))) q0 ca_4 (hb_la C 2 8) (hw_up ha4 g4_q0_ca_4) (hw_us _ _ _)) cv_X10_37 (hw_up ha4 g4_q0_ca_4) rfl rfl ⟨rfl, rfl⟩ ⟨(Nat.le_of_ble_eq_true rfl), (Nat.le_of_ble_eq_true rfl)⟩ rfl hl.1 rfl (Nat.le_of_ble_eq_true rfl) ⟨(Nat.le_of_ble_eq_true rfl), (Nat.le_of_ble_eq_true rfl)⟩ dX10_laid_158) (fun r158 M158 H locs hR hI => ?_)
    obtain ⟨rfl, rfl⟩ := hR
    refine lv_if_le (tgt := 201) hx hb dX10_laid_161 (by decide) (fun _ => ?_) (fun hc => absurd (by rw [hz]; decide) hc)
    have hfin : (fun r M' => ∃ sa : Nat, M r = none ∧ M sa = none ∧ r ≠ sa ∧ M' r = hw_ob 11 [.ref sa] ∧ M' sa = hw_al Z 8 (hb_laid C 2) ∧ ∀ x, M x ≠ none → M' x = M x) q0 (va_up M4 ca_4 (hw_al Z 8 (hb_la C 2 8))) := ⟨ca_4, b_q0, b_ca_4, g4_q0_ca_4, hw_up ha4 g4_q0_ca_4, (hw_us _ _ _).trans (hw_alc (hb_sf_low0 hz (hb_la_8 C (by decide) 8 (by decide)))), fun x hx => by rw [va_up_ne _ _ (hw_xn hx b_ca_4)]; exact frq x hx (hw_xn hx b_q0)⟩
    refine lv_aload_n hx hb dX10_laid_201 rfl (lv_at hl 1 rfl) ?_
    exact hret hI hfin (Nat.le_of_ble_eq_true rfl) (Nat.le_of_ble_eq_true rfl) dX10_laid_202
  · intro H locs ls hI hl
    refine lv_iload_n hx hb dX10_laid_10 rfl (lv_at hl 0 rfl) ?_
    refine lv_bipush (v := nI 8) hx hb dX10_laid_11 (by decide) ?_
    refine lv_icmp_ge (tgt := 157) hx hb dX10_laid_13 (by decide) (fun hc => absurd hc (nI_ge hi10 (by decide))) (fun _ => ?_)
    refine lv_iconst (v := nI 0) hx hb dX10_laid_16 (by decide) ?_
    refine lv_istore (lv' := [(4, .int (nI 0)), (3, .int (nI z)), (2, .ref q0), (0, .ref a), (1, .int (nI 2))]) hx hb dX10_laid_17 hl (by decide) rfl (fun ls hl => ?_)
    suffices LP19 : ∀ i, i ≤ 64 → ∀ (H : Heap) (locs : List Loc) (ls : Array Slot), hw_iv Z s (va_up M4 ca_4 (hw_al Z 8 (hb_lz (C z) 2 z i (hb_la C 2 z)))) H locs → lv_has ls 10 [(4, .int (nI i)), (3, .int (nI z)), (2, .ref q0), (0, .ref a), (1, .int (nI 2))] → W p l e ({ frames := 2, cells := 2, slots := 9, locals := 60 } : Room) s m ([.ref a, .int (nI 2)] : List Value).toArray below meth c H locs 2 9 Q (F0 m 19 ls []) from LP19 0 (by omega) _ _ _ hI (lv_sub hl [0, 1, 2, 3, 4] rfl)
    refine hw_loop ?_ (fun i hi19 ih19 => ?_)
    · intro H locs ls hI hl
      refine lv_iload hx hb dX10_laid_19 (lv_at hl 0 rfl) ?_
      refine lv_bipush (v := nI 64) hx hb dX10_laid_21 (by decide) ?_
      refine lv_icmp_ge (tgt := 151) hx hb dX10_laid_23 (by decide) (fun _ => ?_) (fun hc => absurd (Int32.le_refl _) hc)
      refine lv_iinc (v := nI (z + 1)) (lv' := [(3, .int (nI (z + 1))), (4, .int (nI 64)), (2, .ref q0), (0, .ref a), (1, .int (nI 2))]) hx hb dX10_laid_151 hl (k := 1) rfl (hw_inc _) (by decide) rfl (fun ls hl => ?_)
      refine lv_goto (tgt := 10) hx hb dX10_laid_154 (by decide) ?_
      exact ih10 _ _ _ hI (lv_sub hl [0, 2, 3, 4] rfl)
    · intro H locs ls hI hl
      refine lv_iload hx hb dX10_laid_19 (lv_at hl 0 rfl) ?_
      refine lv_bipush (v := nI 64) hx hb dX10_laid_21 (by decide) ?_
      refine lv_icmp_ge (tgt := 151) hx hb dX10_laid_23 (by decide) (fun hc => absurd hc (nI_ge hi19 (by decide))) (fun _ => ?_)
      refine lv_aload_n hx hb dX10_laid_26 rfl (lv_at hl 3 rfl) ?_
      refine hw_get hx hb hts hown hk hI fd_X10_9 (hw_up f4_a g4_a_ca_4) rfl dX10_laid_27 ?_
      refine lv_iload_n hx hb dX10_laid_30 rfl (lv_at hl 1 rfl) ?_
      refine hw_lald hx hb hk hI (hw_up f4_ca g4_ca_ca_4) (j := z) rfl (by omega) (by decide) dX10_laid_31 ?_
      refine lv_iload hx hb dX10_laid_32 (lv_at hl 0 rfl) ?_
      refine hw_ci hI (hw_rSN hx hb hml hown hts hk hI (m_X11_has l Z (va_up M4 ca_4 (hw_al Z 8 (hb_lz (C z) 2 z i (hb_la C 2 z)))) (C z) i (by omega)) cn_X10_33 ⟨rfl, rfl⟩ ⟨(Nat.le_of_ble_eq_true rfl), (Nat.le_of_ble_eq_true rfl)⟩ rfl hl.1 rfl (Nat.le_of_ble_eq_true rfl) ⟨(Nat.le_of_ble_eq_true rfl), (Nat.le_of_ble_eq_true rfl)⟩ dX10_laid_34) (fun r34 M34 H locs hR hI => ?_)
      obtain ⟨rfl, rfl⟩ := hR
      refine lv_if_ne (tgt := 43) hx hb dX10_laid_37 (by decide) (fun c37 => ?_) (fun c37 => ?_)
      · refine lv_iload hx hb dX10_laid_43 (lv_at hl 0 rfl) ?_
        refine lv_bipush (v := nI 8) hx hb dX10_laid_45 (by decide) ?_
        refine lv_irem hx hb dX10_laid_47 (by decide) ?_
        refine hw_ti (pk_rem (by omega) (by decide) (by decide)) ?_
        refine lv_istore (lv' := [(5, .int (nI (i % 8))), (4, .int (nI i)), (3, .int (nI z)), (2, .ref q0), (0, .ref a), (1, .int (nI 2))]) hx hb dX10_laid_48 hl (by decide) rfl (fun ls hl => ?_)
        refine lv_iload hx hb dX10_laid_50 (lv_at hl 1 rfl) ?_
        refine lv_bipush (v := nI 8) hx hb dX10_laid_52 (by decide) ?_
        refine lv_idiv hx hb dX10_laid_54 (by decide) ?_
        refine hw_ti (pk_div (by omega) (by decide) (by decide)) ?_
        refine lv_istore (lv' := [(6, .int (nI (i / 8))), (5, .int (nI (i % 8))), (4, .int (nI i)), (3, .int (nI z)), (2, .ref q0), (0, .ref a), (1, .int (nI 2))]) hx hb dX10_laid_55 hl (by decide) rfl (fun ls hl => ?_)
        refine lv_iload_n hx hb dX10_laid_57 rfl (lv_at hl 6 rfl) ?_
        refine lv_iconst (v := nI 2) hx hb dX10_laid_58 (by decide) ?_
        refine lv_icmp_ge (tgt := 66) hx hb dX10_laid_59 (by decide) (fun _ => ?_) (fun hc => absurd (by decide) hc)
        refine lv_iload_n hx hb dX10_laid_66 rfl (lv_at hl 6 rfl) ?_
        refine lv_iconst (v := nI 4) hx hb dX10_laid_67 (by decide) ?_
        refine lv_icmp_ge (tgt := 76) hx hb dX10_laid_68 (by decide) (fun hc => absurd hc (by decide)) (fun _ => ?_)
        refine lv_iload hx hb dX10_laid_71 (lv_at hl 1 rfl) ?_
        refine lv_goto (tgt := 78) hx hb dX10_laid_73 (by decide) ?_
        refine lv_istore (lv' := [(7, .int (nI (i % 8))), (6, .int (nI (i / 8))), (5, .int (nI (i % 8))), (4, .int (nI i)), (3, .int (nI z)), (2, .ref q0), (0, .ref a), (1, .int (nI 2))]) hx hb dX10_laid_78 hl (by decide) rfl (fun ls hl => ?_)
        refine lv_iload_n hx hb dX10_laid_80 rfl (lv_at hl 7 rfl) ?_
        refine lv_iconst (v := nI 2) hx hb dX10_laid_81 (by decide) ?_
        refine lv_icmp_eq (tgt := 90) hx hb dX10_laid_82 (by decide) (fun _ => ?_) (fun hc => absurd (by decide) hc)
        refine lv_iload_n hx hb dX10_laid_90 rfl (lv_at hl 4 rfl) ?_
        refine lv_goto (tgt := 96) hx hb dX10_laid_91 (by decide) ?_
        refine lv_istore (lv' := [(8, .int (nI z)), (7, .int (nI (i % 8))), (6, .int (nI (i / 8))), (5, .int (nI (i % 8))), (4, .int (nI i)), (3, .int (nI z)), (2, .ref q0), (0, .ref a), (1, .int (nI 2))]) hx hb dX10_laid_96 hl (by decide) rfl (fun ls hl => ?_)
        refine lv_iload_n hx hb dX10_laid_98 rfl (lv_at hl 8 rfl) ?_
        refine lv_iconst (v := nI 3) hx hb dX10_laid_99 (by decide) ?_
        refine lv_icmp_le (tgt := 107) hx hb dX10_laid_100 (by decide) (fun _ => ?_) (fun hc => absurd (by decide) hc)
        refine lv_iload hx hb dX10_laid_107 (lv_at hl 2 rfl) ?_
        refine lv_istore (lv' := [(9, .int (nI (i / 8))), (8, .int (nI z)), (7, .int (nI (i % 8))), (6, .int (nI (i / 8))), (5, .int (nI (i % 8))), (4, .int (nI i)), (3, .int (nI z)), (2, .ref q0), (0, .ref a), (1, .int (nI 2))]) hx hb dX10_laid_109 hl (by decide) rfl (fun ls hl => ?_)
        refine lv_aload_n hx hb dX10_laid_111 rfl (lv_at hl 7 rfl) ?_
        refine hw_get hx hb hts hown hk hI fd_X10_9 (hw_up ha4 g4_q0_ca_4) rfl dX10_laid_112 ?_
        refine lv_iload_n hx hb dX10_laid_115 rfl (lv_at hl 9 rfl) ?_
        refine lv_iconst (v := nI 2) hx hb dX10_laid_116 (by decide) ?_
        refine lv_irem hx hb dX10_laid_117 (by decide) ?_
        refine lv_if_ne (tgt := 126) hx hb dX10_laid_118 (by decide) (fun hc => absurd (by decide) hc) (fun _ => ?_)
        refine lv_iload hx hb dX10_laid_121 (lv_at hl 2 rfl) ?_
        refine lv_goto (tgt := 131) hx hb dX10_laid_123 (by decide) ?_
        refine lv_dup2_11 hx hb dX10_laid_131 rfl rfl ?_
        refine hw_lald hx hb hk hI (hw_us _ _ _) (j := (i % 8)) rfl (by omega) (by decide) dX10_laid_132 ?_
        refine lv_lconst (v := 1) hx hb dX10_laid_133 (by decide) ?_
        refine lv_iload hx hb dX10_laid_134 (lv_at hl 1 rfl) ?_
        refine lv_bipush (v := nI 8) hx hb dX10_laid_136 (by decide) ?_
        refine lv_iload hx hb dX10_laid_138 (lv_at hl 0 rfl) ?_
        refine lv_imul hx hb dX10_laid_140 ?_
        refine hw_ti (pk_mul _ _) ?_
        refine lv_iadd hx hb dX10_laid_141 ?_
        refine hw_ti (nI_add _ _) ?_
        refine lv_lshl (v := hb_shl 1 (nI (z + (8 * (i / 8))))) hx hb dX10_laid_142 rfl ?_
        refine lv_lor hx hb dX10_laid_143 ?_
        refine hw_last hx hb hk hI (hw_us _ _ _) (j := (i % 8)) rfl (by omega) (by decide) dX10_laid_144 (fun H locs hI => ?_)
        refine lv_iinc (v := nI (i + 1)) (lv' := [(4, .int (nI (i + 1))), (9, .int (nI (i / 8))), (8, .int (nI z)), (7, .int (nI (i % 8))), (6, .int (nI (i / 8))), (5, .int (nI (i % 8))), (3, .int (nI z)), (2, .ref q0), (0, .ref a), (1, .int (nI 2))]) hx hb dX10_laid_145 hl (k := 5) rfl (hw_inc _) (by decide) rfl (fun ls hl => ?_)
        refine lv_goto (tgt := 19) hx hb dX10_laid_148 (by decide) ?_
        exact ih19 _ _ _ (hI.eq (hw_uu1 (hw_alc (hb_lz_y (hq_bn (hq_bt c37)))))) (lv_sub hl [0, 6, 7, 8, 9] rfl)
      · refine lv_goto (tgt := 145) hx hb dX10_laid_40 (by decide) ?_
        refine lv_iinc (v := nI (i + 1)) (lv' := [(4, .int (nI (i + 1))), (3, .int (nI z)), (2, .ref q0), (0, .ref a), (1, .int (nI 2))]) hx hb dX10_laid_145 hl (k := 0) rfl (hw_inc _) (by decide) rfl (fun ls hl => ?_)
        refine lv_goto (tgt := 19) hx hb dX10_laid_148 (by decide) ?_
        exact ih19 _ _ _ (hI.eq (by rw [hb_lz_n (hq_bf c37)])) (lv_sub hl [0, 1, 2, 3, 4] rfl)

set_option maxHeartbeats 4000000 in
set_option maxRecDepth 100000 in
theorem m_X10_laid_2s (l : Launch) (Z : hw_Z) (M : hw_M) (a : Nat) (ca : Nat) (C : Nat → Int64) (h0 : M a = hw_ob 11 [.ref ca]) (h1 : M ca = hw_al Z 8 C) (hz : ¬ hb_ht (hb_la C 2 8) 8 = 0) : Met l yX10_laid (hw_m yX10_laid cX10_laid 10 (some (.object "MeltPoolModel$Solid"))) ({ frames := 2, cells := 2, slots := 9, locals := 60 } : Room) (va_Pc [.ref a, .int (nI 2)] (hw_P Z M)) (hw_Qr Z (fun r M' => ∃ sa : Nat, M r = none ∧ M sa = none ∧ r ≠ sa ∧ M' r = hw_ob 11 [.ref sa] ∧ M' sa = hw_al Z 8 (hb_laid C 2) ∧ ∀ x, M x ≠ none → M' x = M x)) 2 9 (hw_A Z) := by
  refine hw_ofr (by decide +kernel) rfl (Or.inl ⟨_, rfl⟩) (Nat.le_of_ble_eq_true rfl) ?_
  intro p e s m below meth c ls Q hx hb hml hown hts hk hnm hI hl hret
  refine hw_new hx hb hts hown hk hI fn_X10_10 (Nat.le_of_ble_eq_true rfl) (Nat.le_of_ble_eq_true rfl) dX10_laid_0 (fun q0 H hq0 hI => ?_)
  have b_q0 : M q0 = none := hw_alv.n (hw_alv_r M) hq0
  refine lv_dup hx hb dX10_laid_3 rfl ?_
  refine hw_cv hI (hw_rI hx hb hml hown hts hk hI (m_X10_init l Z (va_up M q0 (hw_ob 11 [.null])) q0 (hw_us _ _ _)) ci_X10_32 ⟨rfl, rfl⟩ ⟨(Nat.le_of_ble_eq_true rfl), (Nat.le_of_ble_eq_true rfl)⟩ rfl hl.1 rfl (Nat.le_of_ble_eq_true rfl) ⟨(Nat.le_of_ble_eq_true rfl), (Nat.le_of_ble_eq_true rfl)⟩ dX10_laid_4) (fun M4 H locs hR hI => ?_)
  obtain ⟨ca_4, hn_ca_4, hd4, he_ca_4, ha4, hF4⟩ := hR
  have f4_a := (hF4 _ (hw_sn (hw_up h0 (hw_nn h0 hq0))) (hw_nn h0 hq0)).trans (hw_up h0 (hw_nn h0 hq0))
  have g4_a_ca_4 : a ≠ ca_4 := hw_xn (hw_sn (hw_up h0 (hw_nn h0 hq0))) hn_ca_4
  have f4_ca := (hF4 _ (hw_sn (hw_up h1 (hw_nn h1 hq0))) (hw_nn h1 hq0)).trans (hw_up h1 (hw_nn h1 hq0))
  have g4_ca_ca_4 : ca ≠ ca_4 := hw_xn (hw_sn (hw_up h1 (hw_nn h1 hq0))) hn_ca_4
  have g4_q0_ca_4 : q0 ≠ ca_4 := hw_xn (hw_sn (hw_us _ _ _)) hn_ca_4
  have b_ca_4 : M ca_4 = none := hw_alv.n (hw_alv_u (hw_alv_r M)) hn_ca_4
  have al4 : hw_alv M M4 := hw_alv_F (hw_alv_u (hw_alv_r M)) hF4 ha4
  have fr4 : ∀ x, M x ≠ none → x ≠ a → M4 x = M x := fun x hx hxa => by rw [hF4 x ((hw_alv_u (hw_alv_r M)) x hx) (hw_xn hx b_q0), va_up_ne _ _ (hw_xn hx b_q0)]
  refine lv_astore_n (lv' := [(2, .ref q0), (0, .ref a), (1, .int (nI 2))]) hx hb dX10_laid_7 rfl hl (by decide) rfl (fun ls hl => ?_)
  have frq : ∀ x, M x ≠ none → x ≠ q0 → M4 x = M x := fun x hx hxq => (hF4 x (hw_alv_u (hw_alv_r M) x hx) hxq).trans (va_up_ne _ _ hxq)
  refine lv_iconst (v := nI 0) hx hb dX10_laid_8 (by decide) ?_
  refine lv_istore_n (lv' := [(3, .int (nI 0)), (2, .ref q0), (0, .ref a), (1, .int (nI 2))]) hx hb dX10_laid_9 rfl hl (by decide) rfl (fun ls hl => ?_)
  suffices LP10 : ∀ z, z ≤ 8 → ∀ (H : Heap) (locs : List Loc) (ls : Array Slot), hw_iv Z s (va_up M4 ca_4 (hw_al Z 8 (hb_la C 2 z))) H locs → lv_has ls 10 [(3, .int (nI z)), (2, .ref q0), (0, .ref a), (1, .int (nI 2))] → W p l e ({ frames := 2, cells := 2, slots := 9, locals := 60 } : Room) s m ([.ref a, .int (nI 2)] : List Value).toArray below meth c H locs 2 9 Q (F0 m 10 ls []) from LP10 0 (by omega) _ _ _ (hI.eq (hw_id he_ca_4 rfl)) (lv_sub hl [0, 1, 2, 3] rfl)
  refine hw_loop ?_ (fun z hi10 ih10 => ?_)
  · intro H locs ls hI hl
    refine lv_iload_n hx hb dX10_laid_10 rfl (lv_at hl 0 rfl) ?_
    refine lv_bipush (v := nI 8) hx hb dX10_laid_11 (by decide) ?_
    refine lv_icmp_ge (tgt := 157) hx hb dX10_laid_13 (by decide) (fun _ => ?_) (fun hc => absurd (Int32.le_refl _) hc)
    suffices LP157 : ∀ n, n ≤ (hb_em (hb_la C 2 8) 8 0) → ∀ (H : Heap) (locs : List Loc) (ls : Array Slot), hw_iv Z s (va_up M4 ca_4 (hw_al Z 8 (hb_sf (hb_la C 2 8) n))) H locs → lv_has ls 10 [(2, .ref q0)] → W p l e ({ frames := 2, cells := 2, slots := 9, locals := 60 } : Room) s m ([.ref a, .int (nI 2)] : List Value).toArray below meth c H locs 2 9 Q (F0 m 157 ls []) from LP157 0 (by omega) _ _ _ (hI.eq (by rw [hb_sf_0 (hb_la_8 C (by decide) 8 (by decide))])) (lv_sub hl [1] rfl)
    refine hw_loop ?_ (fun n hi157 ih157 => ?_)
    · intro H locs ls hI hl
      refine lv_aload_n hx hb dX10_laid_157 rfl (lv_at hl 0 rfl) ?_
      refine hw_ci hI (hw_rV hx hb hml hown hts hk hI (m_X10_height l Z (va_up M4 ca_4 (hw_al Z 8 (hb_sf (hb_la C 2 8) (hb_em (hb_la C 2 8) 8 0)))) q0 ca_4 (hb_sf (hb_la C 2 8) (hb_em (hb_la C 2 8) 8 0)) (hw_up ha4 g4_q0_ca_4) (hw_us _ _ _)) cv_X10_37 (hw_up ha4 g4_q0_ca_4) rfl rfl ⟨rfl, rfl⟩ ⟨(Nat.le_of_ble_eq_true rfl), (Nat.le_of_ble_eq_true rfl)⟩ rfl hl.1 rfl (Nat.le_of_ble_eq_true rfl) ⟨(Nat.le_of_ble_eq_true rfl), (Nat.le_of_ble_eq_true rfl)⟩ dX10_laid_158) (fun r158 M158 H locs hR hI => ?_)
      obtain ⟨rfl, rfl⟩ := hR
      refine lv_if_le (tgt := 201) hx hb dX10_laid_161 (by decide) (fun hc => absurd hc (fun q => hb_sf_ht hz (by omega) (hb_ht_le0 q))) (fun _ => ?_)
      refine lv_aload_n hx hb dX10_laid_164 rfl (lv_at hl 0 rfl) ?_
      refine hw_get hx hb hts hown hk hI fd_X10_9 (hw_up ha4 g4_q0_ca_4) rfl dX10_laid_165 ?_
      refine lv_iconst (v := nI 0) hx hb dX10_laid_168 (by decide) ?_
      refine hw_lald hx hb hk hI (hw_us _ _ _) (j := 0) rfl (by omega) (by decide) dX10_laid_169 ?_
      refine lv_lconst (v := 0) hx hb dX10_laid_170 (by decide) ?_
      refine W.lcmp hx hb dX10_laid_171 ?_
      refine lv_if_ne (tgt := 201) hx hb dX10_laid_172 (by decide) (fun _ => ?_) (fun hc => absurd hc (fun q => hb_sf_nz hz ((lg_cmp_eq _ _).mp q)))
      have hfin : (fun r M' => ∃ sa : Nat, M r = none ∧ M sa = none ∧ r ≠ sa ∧ M' r = hw_ob 11 [.ref sa] ∧ M' sa = hw_al Z 8 (hb_laid C 2) ∧ ∀ x, M x ≠ none → M' x = M x) q0 (va_up M4 ca_4 (hw_al Z 8 (hb_sf (hb_la C 2 8) (hb_em (hb_la C 2 8) 8 0)))) := ⟨ca_4, b_q0, b_ca_4, g4_q0_ca_4, hw_up ha4 g4_q0_ca_4, (hw_us _ _ _).trans (hw_alc ((congrArg (hb_sf (hb_la C 2 8)) (if_neg hz).symm).trans (hb_sf_low hz))), fun x hx => by rw [va_up_ne _ _ (hw_xn hx b_ca_4)]; exact frq x hx (hw_xn hx b_q0)⟩
      refine lv_aload_n hx hb dX10_laid_201 rfl (lv_at hl 0 rfl) ?_
      exact hret hI hfin (Nat.le_of_ble_eq_true rfl) (Nat.le_of_ble_eq_true rfl) dX10_laid_202
    · intro H locs ls hI hl
      refine lv_aload_n hx hb dX10_laid_157 rfl (lv_at hl 0 rfl) ?_
      refine hw_ci hI (hw_rV hx hb hml hown hts hk hI (m_X10_height l Z (va_up M4 ca_4 (hw_al Z 8 (hb_sf (hb_la C 2 8) n))) q0 ca_4 (hb_sf (hb_la C 2 8) n) (hw_up ha4 g4_q0_ca_4) (hw_us _ _ _)) cv_X10_37 (hw_up ha4 g4_q0_ca_4) rfl rfl ⟨rfl, rfl⟩ ⟨(Nat.le_of_ble_eq_true rfl), (Nat.le_of_ble_eq_true rfl)⟩ rfl hl.1 rfl (Nat.le_of_ble_eq_true rfl) ⟨(Nat.le_of_ble_eq_true rfl), (Nat.le_of_ble_eq_true rfl)⟩ dX10_laid_158) (fun r158 M158 H locs hR hI => ?_)
      obtain ⟨rfl, rfl⟩ := hR
      refine lv_if_le (tgt := 201) hx hb dX10_laid_161 (by decide) (fun hc => absurd hc (fun q => hb_sf_ht hz (by omega) (hb_ht_le0 q))) (fun _ => ?_)
      refine lv_aload_n hx hb dX10_laid_164 rfl (lv_at hl 0 rfl) ?_
      refine hw_get hx hb hts hown hk hI fd_X10_9 (hw_up ha4 g4_q0_ca_4) rfl dX10_laid_165 ?_
      refine lv_iconst (v := nI 0) hx hb dX10_laid_168 (by decide) ?_
      refine hw_lald hx hb hk hI (hw_us _ _ _) (j := 0) rfl (by omega) (by decide) dX10_laid_169 ?_
      refine lv_lconst (v := 0) hx hb dX10_laid_170 (by decide) ?_
      refine W.lcmp hx hb dX10_laid_171 ?_
      refine lv_if_ne (tgt := 201) hx hb dX10_laid_172 (by decide) (fun hc => absurd ((lg_cmp_eq _ _).mpr (hb_sf_z hz hi157)) hc) (fun _ => ?_)
      refine lv_aload_n hx hb dX10_laid_175 rfl (lv_at hl 0 rfl) ?_
      refine hw_get hx hb hts hown hk hI fd_X10_9 (hw_up ha4 g4_q0_ca_4) rfl dX10_laid_176 ?_
      refine lv_iconst (v := nI 1) hx hb dX10_laid_179 (by decide) ?_
      refine lv_aload_n hx hb dX10_laid_180 rfl (lv_at hl 0 rfl) ?_
      refine hw_get hx hb hts hown hk hI fd_X10_9 (hw_up ha4 g4_q0_ca_4) rfl dX10_laid_181 ?_
      refine lv_iconst (v := nI 0) hx hb dX10_laid_184 (by decide) ?_
      refine lv_bipush (v := nI 7) hx hb dX10_laid_185 (by decide) ?_
      refine hw_copyl hx hb (by rw [hml]; exact hl.1.symm) hts hown hk hI (hw_win (w := .methodLink RX10 41 arraycopyName) (by decide +kernel) (by decide +kernel)) (hw_win (w := .native arraycopyName) (by decide +kernel) (by decide +kernel)) (hw_win (w := .static arraycopyName) (by decide +kernel) (by decide +kernel)) (hw_win (w := .initialized "java/lang/System") (by decide +kernel) (by decide +kernel)) (hw_us _ _ _) (hw_us _ _ _) (sp' := 1) (dp' := 0) (n' := 7) rfl rfl rfl (by decide) (by decide) (by decide) (by decide) (by decide) (Nat.le_of_ble_eq_true rfl) (Nat.le_of_ble_eq_true rfl) dX10_laid_187 (fun H locs hI => ?_)
      refine lv_aload_n hx hb dX10_laid_190 rfl (lv_at hl 0 rfl) ?_
      refine hw_get hx hb hts hown hk hI fd_X10_9 (hw_up (hw_up ha4 g4_q0_ca_4) g4_q0_ca_4) rfl dX10_laid_191 ?_
      refine lv_bipush (v := nI 7) hx hb dX10_laid_194 (by decide) ?_
      refine lv_lconst (v := 0) hx hb dX10_laid_196 (by decide) ?_
      refine hw_last hx hb hk hI (hw_us _ _ _) (j := 7) rfl (by omega) (by decide) dX10_laid_197 (fun H locs hI => ?_)
      refine lv_goto (tgt := 157) hx hb dX10_laid_198 (by decide) ?_
      exact ih157 _ _ _ (hI.eq (by rw [bx_uu, bx_uu, hb_sf_s])) (lv_sub hl [0] rfl)
  · intro H locs ls hI hl
    refine lv_iload_n hx hb dX10_laid_10 rfl (lv_at hl 0 rfl) ?_
    refine lv_bipush (v := nI 8) hx hb dX10_laid_11 (by decide) ?_
    refine lv_icmp_ge (tgt := 157) hx hb dX10_laid_13 (by decide) (fun hc => absurd hc (nI_ge hi10 (by decide))) (fun _ => ?_)
    refine lv_iconst (v := nI 0) hx hb dX10_laid_16 (by decide) ?_
    refine lv_istore (lv' := [(4, .int (nI 0)), (3, .int (nI z)), (2, .ref q0), (0, .ref a), (1, .int (nI 2))]) hx hb dX10_laid_17 hl (by decide) rfl (fun ls hl => ?_)
    suffices LP19 : ∀ i, i ≤ 64 → ∀ (H : Heap) (locs : List Loc) (ls : Array Slot), hw_iv Z s (va_up M4 ca_4 (hw_al Z 8 (hb_lz (C z) 2 z i (hb_la C 2 z)))) H locs → lv_has ls 10 [(4, .int (nI i)), (3, .int (nI z)), (2, .ref q0), (0, .ref a), (1, .int (nI 2))] → W p l e ({ frames := 2, cells := 2, slots := 9, locals := 60 } : Room) s m ([.ref a, .int (nI 2)] : List Value).toArray below meth c H locs 2 9 Q (F0 m 19 ls []) from LP19 0 (by omega) _ _ _ hI (lv_sub hl [0, 1, 2, 3, 4] rfl)
    refine hw_loop ?_ (fun i hi19 ih19 => ?_)
    · intro H locs ls hI hl
      refine lv_iload hx hb dX10_laid_19 (lv_at hl 0 rfl) ?_
      refine lv_bipush (v := nI 64) hx hb dX10_laid_21 (by decide) ?_
      refine lv_icmp_ge (tgt := 151) hx hb dX10_laid_23 (by decide) (fun _ => ?_) (fun hc => absurd (Int32.le_refl _) hc)
      refine lv_iinc (v := nI (z + 1)) (lv' := [(3, .int (nI (z + 1))), (4, .int (nI 64)), (2, .ref q0), (0, .ref a), (1, .int (nI 2))]) hx hb dX10_laid_151 hl (k := 1) rfl (hw_inc _) (by decide) rfl (fun ls hl => ?_)
      refine lv_goto (tgt := 10) hx hb dX10_laid_154 (by decide) ?_
      exact ih10 _ _ _ hI (lv_sub hl [0, 2, 3, 4] rfl)
    · intro H locs ls hI hl
      refine lv_iload hx hb dX10_laid_19 (lv_at hl 0 rfl) ?_
      refine lv_bipush (v := nI 64) hx hb dX10_laid_21 (by decide) ?_
      refine lv_icmp_ge (tgt := 151) hx hb dX10_laid_23 (by decide) (fun hc => absurd hc (nI_ge hi19 (by decide))) (fun _ => ?_)
      refine lv_aload_n hx hb dX10_laid_26 rfl (lv_at hl 3 rfl) ?_
      refine hw_get hx hb hts hown hk hI fd_X10_9 (hw_up f4_a g4_a_ca_4) rfl dX10_laid_27 ?_
      refine lv_iload_n hx hb dX10_laid_30 rfl (lv_at hl 1 rfl) ?_
      refine hw_lald hx hb hk hI (hw_up f4_ca g4_ca_ca_4) (j := z) rfl (by omega) (by decide) dX10_laid_31 ?_
      refine lv_iload hx hb dX10_laid_32 (lv_at hl 0 rfl) ?_
      refine hw_ci hI (hw_rSN hx hb hml hown hts hk hI (m_X11_has l Z (va_up M4 ca_4 (hw_al Z 8 (hb_lz (C z) 2 z i (hb_la C 2 z)))) (C z) i (by omega)) cn_X10_33 ⟨rfl, rfl⟩ ⟨(Nat.le_of_ble_eq_true rfl), (Nat.le_of_ble_eq_true rfl)⟩ rfl hl.1 rfl (Nat.le_of_ble_eq_true rfl) ⟨(Nat.le_of_ble_eq_true rfl), (Nat.le_of_ble_eq_true rfl)⟩ dX10_laid_34) (fun r34 M34 H locs hR hI => ?_)
      obtain ⟨rfl, rfl⟩ := hR
      refine lv_if_ne (tgt := 43) hx hb dX10_laid_37 (by decide) (fun c37 => ?_) (fun c37 => ?_)
      · refine lv_iload hx hb dX10_laid_43 (lv_at hl 0 rfl) ?_
        refine lv_bipush (v := nI 8) hx hb dX10_laid_45 (by decide) ?_
        refine lv_irem hx hb dX10_laid_47 (by decide) ?_
        refine hw_ti (pk_rem (by omega) (by decide) (by decide)) ?_
        refine lv_istore (lv' := [(5, .int (nI (i % 8))), (4, .int (nI i)), (3, .int (nI z)), (2, .ref q0), (0, .ref a), (1, .int (nI 2))]) hx hb dX10_laid_48 hl (by decide) rfl (fun ls hl => ?_)
        refine lv_iload hx hb dX10_laid_50 (lv_at hl 1 rfl) ?_
        refine lv_bipush (v := nI 8) hx hb dX10_laid_52 (by decide) ?_
        refine lv_idiv hx hb dX10_laid_54 (by decide) ?_
        refine hw_ti (pk_div (by omega) (by decide) (by decide)) ?_
        refine lv_istore (lv' := [(6, .int (nI (i / 8))), (5, .int (nI (i % 8))), (4, .int (nI i)), (3, .int (nI z)), (2, .ref q0), (0, .ref a), (1, .int (nI 2))]) hx hb dX10_laid_55 hl (by decide) rfl (fun ls hl => ?_)
        refine lv_iload_n hx hb dX10_laid_57 rfl (lv_at hl 6 rfl) ?_
        refine lv_iconst (v := nI 2) hx hb dX10_laid_58 (by decide) ?_
        refine lv_icmp_ge (tgt := 66) hx hb dX10_laid_59 (by decide) (fun _ => ?_) (fun hc => absurd (by decide) hc)
        refine lv_iload_n hx hb dX10_laid_66 rfl (lv_at hl 6 rfl) ?_
        refine lv_iconst (v := nI 4) hx hb dX10_laid_67 (by decide) ?_
        refine lv_icmp_ge (tgt := 76) hx hb dX10_laid_68 (by decide) (fun hc => absurd hc (by decide)) (fun _ => ?_)
        refine lv_iload hx hb dX10_laid_71 (lv_at hl 1 rfl) ?_
        refine lv_goto (tgt := 78) hx hb dX10_laid_73 (by decide) ?_
        refine lv_istore (lv' := [(7, .int (nI (i % 8))), (6, .int (nI (i / 8))), (5, .int (nI (i % 8))), (4, .int (nI i)), (3, .int (nI z)), (2, .ref q0), (0, .ref a), (1, .int (nI 2))]) hx hb dX10_laid_78 hl (by decide) rfl (fun ls hl => ?_)
        refine lv_iload_n hx hb dX10_laid_80 rfl (lv_at hl 7 rfl) ?_
        refine lv_iconst (v := nI 2) hx hb dX10_laid_81 (by decide) ?_
        refine lv_icmp_eq (tgt := 90) hx hb dX10_laid_82 (by decide) (fun _ => ?_) (fun hc => absurd (by decide) hc)
        refine lv_iload_n hx hb dX10_laid_90 rfl (lv_at hl 4 rfl) ?_
        refine lv_goto (tgt := 96) hx hb dX10_laid_91 (by decide) ?_
        refine lv_istore (lv' := [(8, .int (nI z)), (7, .int (nI (i % 8))), (6, .int (nI (i / 8))), (5, .int (nI (i % 8))), (4, .int (nI i)), (3, .int (nI z)), (2, .ref q0), (0, .ref a), (1, .int (nI 2))]) hx hb dX10_laid_96 hl (by decide) rfl (fun ls hl => ?_)
        refine lv_iload_n hx hb dX10_laid_98 rfl (lv_at hl 8 rfl) ?_
        refine lv_iconst (v := nI 3) hx hb dX10_laid_99 (by decide) ?_
        refine lv_icmp_le (tgt := 107) hx hb dX10_laid_100 (by decide) (fun _ => ?_) (fun hc => absurd (by decide) hc)
        refine lv_iload hx hb dX10_laid_107 (lv_at hl 2 rfl) ?_
        refine lv_istore (lv' := [(9, .int (nI (i / 8))), (8, .int (nI z)), (7, .int (nI (i % 8))), (6, .int (nI (i / 8))), (5, .int (nI (i % 8))), (4, .int (nI i)), (3, .int (nI z)), (2, .ref q0), (0, .ref a), (1, .int (nI 2))]) hx hb dX10_laid_109 hl (by decide) rfl (fun ls hl => ?_)
        refine lv_aload_n hx hb dX10_laid_111 rfl (lv_at hl 7 rfl) ?_
        refine hw_get hx hb hts hown hk hI fd_X10_9 (hw_up ha4 g4_q0_ca_4) rfl dX10_laid_112 ?_
        refine lv_iload_n hx hb dX10_laid_115 rfl (lv_at hl 9 rfl) ?_
        refine lv_iconst (v := nI 2) hx hb dX10_laid_116 (by decide) ?_
        refine lv_irem hx hb dX10_laid_117 (by decide) ?_
        refine lv_if_ne (tgt := 126) hx hb dX10_laid_118 (by decide) (fun hc => absurd (by decide) hc) (fun _ => ?_)
        refine lv_iload hx hb dX10_laid_121 (lv_at hl 2 rfl) ?_
        refine lv_goto (tgt := 131) hx hb dX10_laid_123 (by decide) ?_
        refine lv_dup2_11 hx hb dX10_laid_131 rfl rfl ?_
        refine hw_lald hx hb hk hI (hw_us _ _ _) (j := (i % 8)) rfl (by omega) (by decide) dX10_laid_132 ?_
        refine lv_lconst (v := 1) hx hb dX10_laid_133 (by decide) ?_
        refine lv_iload hx hb dX10_laid_134 (lv_at hl 1 rfl) ?_
        refine lv_bipush (v := nI 8) hx hb dX10_laid_136 (by decide) ?_
        refine lv_iload hx hb dX10_laid_138 (lv_at hl 0 rfl) ?_
        refine lv_imul hx hb dX10_laid_140 ?_
        refine hw_ti (pk_mul _ _) ?_
        refine lv_iadd hx hb dX10_laid_141 ?_
        refine hw_ti (nI_add _ _) ?_
        refine lv_lshl (v := hb_shl 1 (nI (z + (8 * (i / 8))))) hx hb dX10_laid_142 rfl ?_
        refine lv_lor hx hb dX10_laid_143 ?_
        refine hw_last hx hb hk hI (hw_us _ _ _) (j := (i % 8)) rfl (by omega) (by decide) dX10_laid_144 (fun H locs hI => ?_)
        refine lv_iinc (v := nI (i + 1)) (lv' := [(4, .int (nI (i + 1))), (9, .int (nI (i / 8))), (8, .int (nI z)), (7, .int (nI (i % 8))), (6, .int (nI (i / 8))), (5, .int (nI (i % 8))), (3, .int (nI z)), (2, .ref q0), (0, .ref a), (1, .int (nI 2))]) hx hb dX10_laid_145 hl (k := 5) rfl (hw_inc _) (by decide) rfl (fun ls hl => ?_)
        refine lv_goto (tgt := 19) hx hb dX10_laid_148 (by decide) ?_
        exact ih19 _ _ _ (hI.eq (hw_uu1 (hw_alc (hb_lz_y (hq_bn (hq_bt c37)))))) (lv_sub hl [0, 6, 7, 8, 9] rfl)
      · refine lv_goto (tgt := 145) hx hb dX10_laid_40 (by decide) ?_
        refine lv_iinc (v := nI (i + 1)) (lv' := [(4, .int (nI (i + 1))), (3, .int (nI z)), (2, .ref q0), (0, .ref a), (1, .int (nI 2))]) hx hb dX10_laid_145 hl (k := 0) rfl (hw_inc _) (by decide) rfl (fun ls hl => ?_)
        refine lv_goto (tgt := 19) hx hb dX10_laid_148 (by decide) ?_
        exact ih19 _ _ _ (hI.eq (by rw [hb_lz_n (hq_bf c37)])) (lv_sub hl [0, 1, 2, 3, 4] rfl)

set_option maxHeartbeats 4000000 in
set_option maxRecDepth 100000 in
theorem m_X10_laid_3z (l : Launch) (Z : hw_Z) (M : hw_M) (a : Nat) (ca : Nat) (C : Nat → Int64) (h0 : M a = hw_ob 11 [.ref ca]) (h1 : M ca = hw_al Z 8 C) (hz : hb_ht (hb_la C 3 8) 8 = 0) : Met l yX10_laid (hw_m yX10_laid cX10_laid 10 (some (.object "MeltPoolModel$Solid"))) ({ frames := 2, cells := 2, slots := 9, locals := 60 } : Room) (va_Pc [.ref a, .int (nI 3)] (hw_P Z M)) (hw_Qr Z (fun r M' => ∃ sa : Nat, M r = none ∧ M sa = none ∧ r ≠ sa ∧ M' r = hw_ob 11 [.ref sa] ∧ M' sa = hw_al Z 8 (hb_laid C 3) ∧ ∀ x, M x ≠ none → M' x = M x)) 2 9 (hw_A Z) := by
  refine hw_ofr (by decide +kernel) rfl (Or.inl ⟨_, rfl⟩) (Nat.le_of_ble_eq_true rfl) ?_
  intro p e s m below meth c ls Q hx hb hml hown hts hk hnm hI hl hret
  refine hw_new hx hb hts hown hk hI fn_X10_10 (Nat.le_of_ble_eq_true rfl) (Nat.le_of_ble_eq_true rfl) dX10_laid_0 (fun q0 H hq0 hI => ?_)
  have b_q0 : M q0 = none := hw_alv.n (hw_alv_r M) hq0
  refine lv_dup hx hb dX10_laid_3 rfl ?_
  refine hw_cv hI (hw_rI hx hb hml hown hts hk hI (m_X10_init l Z (va_up M q0 (hw_ob 11 [.null])) q0 (hw_us _ _ _)) ci_X10_32 ⟨rfl, rfl⟩ ⟨(Nat.le_of_ble_eq_true rfl), (Nat.le_of_ble_eq_true rfl)⟩ rfl hl.1 rfl (Nat.le_of_ble_eq_true rfl) ⟨(Nat.le_of_ble_eq_true rfl), (Nat.le_of_ble_eq_true rfl)⟩ dX10_laid_4) (fun M4 H locs hR hI => ?_)
  obtain ⟨ca_4, hn_ca_4, hd4, he_ca_4, ha4, hF4⟩ := hR
  have f4_a := (hF4 _ (hw_sn (hw_up h0 (hw_nn h0 hq0))) (hw_nn h0 hq0)).trans (hw_up h0 (hw_nn h0 hq0))
  have g4_a_ca_4 : a ≠ ca_4 := hw_xn (hw_sn (hw_up h0 (hw_nn h0 hq0))) hn_ca_4
  have f4_ca := (hF4 _ (hw_sn (hw_up h1 (hw_nn h1 hq0))) (hw_nn h1 hq0)).trans (hw_up h1 (hw_nn h1 hq0))
  have g4_ca_ca_4 : ca ≠ ca_4 := hw_xn (hw_sn (hw_up h1 (hw_nn h1 hq0))) hn_ca_4
  have g4_q0_ca_4 : q0 ≠ ca_4 := hw_xn (hw_sn (hw_us _ _ _)) hn_ca_4
  have b_ca_4 : M ca_4 = none := hw_alv.n (hw_alv_u (hw_alv_r M)) hn_ca_4
  have al4 : hw_alv M M4 := hw_alv_F (hw_alv_u (hw_alv_r M)) hF4 ha4
  have fr4 : ∀ x, M x ≠ none → x ≠ a → M4 x = M x := fun x hx hxa => by rw [hF4 x ((hw_alv_u (hw_alv_r M)) x hx) (hw_xn hx b_q0), va_up_ne _ _ (hw_xn hx b_q0)]
  refine lv_astore_n (lv' := [(2, .ref q0), (0, .ref a), (1, .int (nI 3))]) hx hb dX10_laid_7 rfl hl (by decide) rfl (fun ls hl => ?_)
  have frq : ∀ x, M x ≠ none → x ≠ q0 → M4 x = M x := fun x hx hxq => (hF4 x (hw_alv_u (hw_alv_r M) x hx) hxq).trans (va_up_ne _ _ hxq)
  refine lv_iconst (v := nI 0) hx hb dX10_laid_8 (by decide) ?_
  refine lv_istore_n (lv' := [(3, .int (nI 0)), (2, .ref q0), (0, .ref a), (1, .int (nI 3))]) hx hb dX10_laid_9 rfl hl (by decide) rfl (fun ls hl => ?_)
  suffices LP10 : ∀ z, z ≤ 8 → ∀ (H : Heap) (locs : List Loc) (ls : Array Slot), hw_iv Z s (va_up M4 ca_4 (hw_al Z 8 (hb_la C 3 z))) H locs → lv_has ls 10 [(3, .int (nI z)), (2, .ref q0), (0, .ref a), (1, .int (nI 3))] → W p l e ({ frames := 2, cells := 2, slots := 9, locals := 60 } : Room) s m ([.ref a, .int (nI 3)] : List Value).toArray below meth c H locs 2 9 Q (F0 m 10 ls []) from LP10 0 (by omega) _ _ _ (hI.eq (hw_id he_ca_4 rfl)) (lv_sub hl [0, 1, 2, 3] rfl)
  refine hw_loop ?_ (fun z hi10 ih10 => ?_)
  · intro H locs ls hI hl
    refine lv_iload_n hx hb dX10_laid_10 rfl (lv_at hl 0 rfl) ?_
    refine lv_bipush (v := nI 8) hx hb dX10_laid_11 (by decide) ?_
    refine lv_icmp_ge (tgt := 157) hx hb dX10_laid_13 (by decide) (fun _ => ?_) (fun hc => absurd (Int32.le_refl _) hc)
    refine lv_aload_n hx hb dX10_laid_157 rfl (lv_at hl 1 rfl) ?_
    refine hw_ci hI (hw_rV hx hb hml hown hts hk hI (m_X10_height l Z (va_up M4 ca_4 (hw_al Z 8 (hb_la C 3 8))) q0 ca_4 (hb_la C 3 8) (hw_up ha4 g4_q0_ca_4) (hw_us _ _ _)) cv_X10_37 (hw_up ha4 g4_q0_ca_4) rfl rfl ⟨rfl, rfl⟩ ⟨(Nat.le_of_ble_eq_true rfl), (Nat.le_of_ble_eq_true rfl)⟩ rfl hl.1 rfl (Nat.le_of_ble_eq_true rfl) ⟨(Nat.le_of_ble_eq_true rfl), (Nat.le_of_ble_eq_true rfl)⟩ dX10_laid_158) (fun r158 M158 H locs hR hI => ?_)
    obtain ⟨rfl, rfl⟩ := hR
    refine lv_if_le (tgt := 201) hx hb dX10_laid_161 (by decide) (fun _ => ?_) (fun hc => absurd (by rw [hz]; decide) hc)
    have hfin : (fun r M' => ∃ sa : Nat, M r = none ∧ M sa = none ∧ r ≠ sa ∧ M' r = hw_ob 11 [.ref sa] ∧ M' sa = hw_al Z 8 (hb_laid C 3) ∧ ∀ x, M x ≠ none → M' x = M x) q0 (va_up M4 ca_4 (hw_al Z 8 (hb_la C 3 8))) := ⟨ca_4, b_q0, b_ca_4, g4_q0_ca_4, hw_up ha4 g4_q0_ca_4, (hw_us _ _ _).trans (hw_alc (hb_sf_low0 hz (hb_la_8 C (by decide) 8 (by decide)))), fun x hx => by rw [va_up_ne _ _ (hw_xn hx b_ca_4)]; exact frq x hx (hw_xn hx b_q0)⟩
    refine lv_aload_n hx hb dX10_laid_201 rfl (lv_at hl 1 rfl) ?_
    exact hret hI hfin (Nat.le_of_ble_eq_true rfl) (Nat.le_of_ble_eq_true rfl) dX10_laid_202
  · intro H locs ls hI hl
    refine lv_iload_n hx hb dX10_laid_10 rfl (lv_at hl 0 rfl) ?_
    refine lv_bipush (v := nI 8) hx hb dX10_laid_11 (by decide) ?_
    refine lv_icmp_ge (tgt := 157) hx hb dX10_laid_13 (by decide) (fun hc => absurd hc (nI_ge hi10 (by decide))) (fun _ => ?_)
    refine lv_iconst (v := nI 0) hx hb dX10_laid_16 (by decide) ?_
    refine lv_istore (lv' := [(4, .int (nI 0)), (3, .int (nI z)), (2, .ref q0), (0, .ref a), (1, .int (nI 3))]) hx hb dX10_laid_17 hl (by decide) rfl (fun ls hl => ?_)
    suffices LP19 : ∀ i, i ≤ 64 → ∀ (H : Heap) (locs : List Loc) (ls : Array Slot), hw_iv Z s (va_up M4 ca_4 (hw_al Z 8 (hb_lz (C z) 3 z i (hb_la C 3 z)))) H locs → lv_has ls 10 [(4, .int (nI i)), (3, .int (nI z)), (2, .ref q0), (0, .ref a), (1, .int (nI 3))] → W p l e ({ frames := 2, cells := 2, slots := 9, locals := 60 } : Room) s m ([.ref a, .int (nI 3)] : List Value).toArray below meth c H locs 2 9 Q (F0 m 19 ls []) from LP19 0 (by omega) _ _ _ hI (lv_sub hl [0, 1, 2, 3, 4] rfl)
    refine hw_loop ?_ (fun i hi19 ih19 => ?_)
    · intro H locs ls hI hl
      refine lv_iload hx hb dX10_laid_19 (lv_at hl 0 rfl) ?_
      refine lv_bipush (v := nI 64) hx hb dX10_laid_21 (by decide) ?_
      refine lv_icmp_ge (tgt := 151) hx hb dX10_laid_23 (by decide) (fun _ => ?_) (fun hc => absurd (Int32.le_refl _) hc)
      refine lv_iinc (v := nI (z + 1)) (lv' := [(3, .int (nI (z + 1))), (4, .int (nI 64)), (2, .ref q0), (0, .ref a), (1, .int (nI 3))]) hx hb dX10_laid_151 hl (k := 1) rfl (hw_inc _) (by decide) rfl (fun ls hl => ?_)
      refine lv_goto (tgt := 10) hx hb dX10_laid_154 (by decide) ?_
      exact ih10 _ _ _ hI (lv_sub hl [0, 2, 3, 4] rfl)
    · intro H locs ls hI hl
      refine lv_iload hx hb dX10_laid_19 (lv_at hl 0 rfl) ?_
      refine lv_bipush (v := nI 64) hx hb dX10_laid_21 (by decide) ?_
      refine lv_icmp_ge (tgt := 151) hx hb dX10_laid_23 (by decide) (fun hc => absurd hc (nI_ge hi19 (by decide))) (fun _ => ?_)
      refine lv_aload_n hx hb dX10_laid_26 rfl (lv_at hl 3 rfl) ?_
      refine hw_get hx hb hts hown hk hI fd_X10_9 (hw_up f4_a g4_a_ca_4) rfl dX10_laid_27 ?_
      refine lv_iload_n hx hb dX10_laid_30 rfl (lv_at hl 1 rfl) ?_
      refine hw_lald hx hb hk hI (hw_up f4_ca g4_ca_ca_4) (j := z) rfl (by omega) (by decide) dX10_laid_31 ?_
      refine lv_iload hx hb dX10_laid_32 (lv_at hl 0 rfl) ?_
      refine hw_ci hI (hw_rSN hx hb hml hown hts hk hI (m_X11_has l Z (va_up M4 ca_4 (hw_al Z 8 (hb_lz (C z) 3 z i (hb_la C 3 z)))) (C z) i (by omega)) cn_X10_33 ⟨rfl, rfl⟩ ⟨(Nat.le_of_ble_eq_true rfl), (Nat.le_of_ble_eq_true rfl)⟩ rfl hl.1 rfl (Nat.le_of_ble_eq_true rfl) ⟨(Nat.le_of_ble_eq_true rfl), (Nat.le_of_ble_eq_true rfl)⟩ dX10_laid_34) (fun r34 M34 H locs hR hI => ?_)
      obtain ⟨rfl, rfl⟩ := hR
      refine lv_if_ne (tgt := 43) hx hb dX10_laid_37 (by decide) (fun c37 => ?_) (fun c37 => ?_)
      · refine lv_iload hx hb dX10_laid_43 (lv_at hl 0 rfl) ?_
        refine lv_bipush (v := nI 8) hx hb dX10_laid_45 (by decide) ?_
        refine lv_irem hx hb dX10_laid_47 (by decide) ?_
        refine hw_ti (pk_rem (by omega) (by decide) (by decide)) ?_
        refine lv_istore (lv' := [(5, .int (nI (i % 8))), (4, .int (nI i)), (3, .int (nI z)), (2, .ref q0), (0, .ref a), (1, .int (nI 3))]) hx hb dX10_laid_48 hl (by decide) rfl (fun ls hl => ?_)
        refine lv_iload hx hb dX10_laid_50 (lv_at hl 1 rfl) ?_
        refine lv_bipush (v := nI 8) hx hb dX10_laid_52 (by decide) ?_
        refine lv_idiv hx hb dX10_laid_54 (by decide) ?_
        refine hw_ti (pk_div (by omega) (by decide) (by decide)) ?_
        refine lv_istore (lv' := [(6, .int (nI (i / 8))), (5, .int (nI (i % 8))), (4, .int (nI i)), (3, .int (nI z)), (2, .ref q0), (0, .ref a), (1, .int (nI 3))]) hx hb dX10_laid_55 hl (by decide) rfl (fun ls hl => ?_)
        refine lv_iload_n hx hb dX10_laid_57 rfl (lv_at hl 6 rfl) ?_
        refine lv_iconst (v := nI 2) hx hb dX10_laid_58 (by decide) ?_
        refine lv_icmp_ge (tgt := 66) hx hb dX10_laid_59 (by decide) (fun _ => ?_) (fun hc => absurd (by decide) hc)
        refine lv_iload_n hx hb dX10_laid_66 rfl (lv_at hl 6 rfl) ?_
        refine lv_iconst (v := nI 4) hx hb dX10_laid_67 (by decide) ?_
        refine lv_icmp_ge (tgt := 76) hx hb dX10_laid_68 (by decide) (fun hc => absurd hc (by decide)) (fun _ => ?_)
        refine lv_iload hx hb dX10_laid_71 (lv_at hl 1 rfl) ?_
        refine lv_goto (tgt := 78) hx hb dX10_laid_73 (by decide) ?_
        refine lv_istore (lv' := [(7, .int (nI (i % 8))), (6, .int (nI (i / 8))), (5, .int (nI (i % 8))), (4, .int (nI i)), (3, .int (nI z)), (2, .ref q0), (0, .ref a), (1, .int (nI 3))]) hx hb dX10_laid_78 hl (by decide) rfl (fun ls hl => ?_)
        refine lv_iload_n hx hb dX10_laid_80 rfl (lv_at hl 7 rfl) ?_
        refine lv_iconst (v := nI 2) hx hb dX10_laid_81 (by decide) ?_
        refine lv_icmp_eq (tgt := 90) hx hb dX10_laid_82 (by decide) (fun hc => absurd hc (by decide)) (fun _ => ?_)
        refine lv_iload_n hx hb dX10_laid_85 rfl (lv_at hl 7 rfl) ?_
        refine lv_iconst (v := nI 3) hx hb dX10_laid_86 (by decide) ?_
        refine lv_icmp_ne (tgt := 94) hx hb dX10_laid_87 (by decide) (fun hc => absurd (by decide) hc) (fun _ => ?_)
        refine lv_iload_n hx hb dX10_laid_90 rfl (lv_at hl 4 rfl) ?_
        refine lv_goto (tgt := 96) hx hb dX10_laid_91 (by decide) ?_
        refine lv_istore (lv' := [(8, .int (nI z)), (7, .int (nI (i % 8))), (6, .int (nI (i / 8))), (5, .int (nI (i % 8))), (4, .int (nI i)), (3, .int (nI z)), (2, .ref q0), (0, .ref a), (1, .int (nI 3))]) hx hb dX10_laid_96 hl (by decide) rfl (fun ls hl => ?_)
        refine lv_iload_n hx hb dX10_laid_98 rfl (lv_at hl 8 rfl) ?_
        refine lv_iconst (v := nI 3) hx hb dX10_laid_99 (by decide) ?_
        refine lv_icmp_le (tgt := 107) hx hb dX10_laid_100 (by decide) (fun _ => ?_) (fun hc => absurd (by decide) hc)
        refine lv_iload hx hb dX10_laid_107 (lv_at hl 2 rfl) ?_
        refine lv_istore (lv' := [(9, .int (nI (i / 8))), (8, .int (nI z)), (7, .int (nI (i % 8))), (6, .int (nI (i / 8))), (5, .int (nI (i % 8))), (4, .int (nI i)), (3, .int (nI z)), (2, .ref q0), (0, .ref a), (1, .int (nI 3))]) hx hb dX10_laid_109 hl (by decide) rfl (fun ls hl => ?_)
        refine lv_aload_n hx hb dX10_laid_111 rfl (lv_at hl 7 rfl) ?_
        refine hw_get hx hb hts hown hk hI fd_X10_9 (hw_up ha4 g4_q0_ca_4) rfl dX10_laid_112 ?_
        refine lv_iload_n hx hb dX10_laid_115 rfl (lv_at hl 9 rfl) ?_
        refine lv_iconst (v := nI 2) hx hb dX10_laid_116 (by decide) ?_
        refine lv_irem hx hb dX10_laid_117 (by decide) ?_
        refine lv_if_ne (tgt := 126) hx hb dX10_laid_118 (by decide) (fun _ => ?_) (fun hc => absurd hc (by decide))
        refine lv_bipush (v := nI 7) hx hb dX10_laid_126 (by decide) ?_
        refine lv_iload hx hb dX10_laid_128 (lv_at hl 2 rfl) ?_
        refine lv_isub hx hb dX10_laid_130 ?_
        refine hw_ti (pk_sub (by omega)) ?_
        refine lv_dup2_11 hx hb dX10_laid_131 rfl rfl ?_
        refine hw_lald hx hb hk hI (hw_us _ _ _) (j := (7 - i % 8)) rfl (by omega) (by decide) dX10_laid_132 ?_
        refine lv_lconst (v := 1) hx hb dX10_laid_133 (by decide) ?_
        refine lv_iload hx hb dX10_laid_134 (lv_at hl 1 rfl) ?_
        refine lv_bipush (v := nI 8) hx hb dX10_laid_136 (by decide) ?_
        refine lv_iload hx hb dX10_laid_138 (lv_at hl 0 rfl) ?_
        refine lv_imul hx hb dX10_laid_140 ?_
        refine hw_ti (pk_mul _ _) ?_
        refine lv_iadd hx hb dX10_laid_141 ?_
        refine hw_ti (nI_add _ _) ?_
        refine lv_lshl (v := hb_shl 1 (nI (z + (8 * (i / 8))))) hx hb dX10_laid_142 rfl ?_
        refine lv_lor hx hb dX10_laid_143 ?_
        refine hw_last hx hb hk hI (hw_us _ _ _) (j := (7 - i % 8)) rfl (by omega) (by decide) dX10_laid_144 (fun H locs hI => ?_)
        refine lv_iinc (v := nI (i + 1)) (lv' := [(4, .int (nI (i + 1))), (9, .int (nI (i / 8))), (8, .int (nI z)), (7, .int (nI (i % 8))), (6, .int (nI (i / 8))), (5, .int (nI (i % 8))), (3, .int (nI z)), (2, .ref q0), (0, .ref a), (1, .int (nI 3))]) hx hb dX10_laid_145 hl (k := 5) rfl (hw_inc _) (by decide) rfl (fun ls hl => ?_)
        refine lv_goto (tgt := 19) hx hb dX10_laid_148 (by decide) ?_
        exact ih19 _ _ _ (hI.eq (hw_uu1 (hw_alc (hb_lz_y (hq_bn (hq_bt c37)))))) (lv_sub hl [0, 6, 7, 8, 9] rfl)
      · refine lv_goto (tgt := 145) hx hb dX10_laid_40 (by decide) ?_
        refine lv_iinc (v := nI (i + 1)) (lv' := [(4, .int (nI (i + 1))), (3, .int (nI z)), (2, .ref q0), (0, .ref a), (1, .int (nI 3))]) hx hb dX10_laid_145 hl (k := 0) rfl (hw_inc _) (by decide) rfl (fun ls hl => ?_)
        refine lv_goto (tgt := 19) hx hb dX10_laid_148 (by decide) ?_
        exact ih19 _ _ _ (hI.eq (by rw [hb_lz_n (hq_bf c37)])) (lv_sub hl [0, 1, 2, 3, 4] rfl)

set_option maxHeartbeats 4000000 in
set_option maxRecDepth 100000 in
theorem m_X10_laid_3s (l : Launch) (Z : hw_Z) (M : hw_M) (a : Nat) (ca : Nat) (C : Nat → Int64) (h0 : M a = hw_ob 11 [.ref ca]) (h1 : M ca = hw_al Z 8 C) (hz : ¬ hb_ht (hb_la C 3 8) 8 = 0) : Met l yX10_laid (hw_m yX10_laid cX10_laid 10 (some (.object "MeltPoolModel$Solid"))) ({ frames := 2, cells := 2, slots := 9, locals := 60 } : Room) (va_Pc [.ref a, .int (nI 3)] (hw_P Z M)) (hw_Qr Z (fun r M' => ∃ sa : Nat, M r = none ∧ M sa = none ∧ r ≠ sa ∧ M' r = hw_ob 11 [.ref sa] ∧ M' sa = hw_al Z 8 (hb_laid C 3) ∧ ∀ x, M x ≠ none → M' x = M x)) 2 9 (hw_A Z) := by
  refine hw_ofr (by decide +kernel) rfl (Or.inl ⟨_, rfl⟩) (Nat.le_of_ble_eq_true rfl) ?_
  intro p e s m below meth c ls Q hx hb hml hown hts hk hnm hI hl hret
  refine hw_new hx hb hts hown hk hI fn_X10_10 (Nat.le_of_ble_eq_true rfl) (Nat.le_of_ble_eq_true rfl) dX10_laid_0 (fun q0 H hq0 hI => ?_)
  have b_q0 : M q0 = none := hw_alv.n (hw_alv_r M) hq0
  refine lv_dup hx hb dX10_laid_3 rfl ?_
  refine hw_cv hI (hw_rI hx hb hml hown hts hk hI (m_X10_init l Z (va_up M q0 (hw_ob 11 [.null])) q0 (hw_us _ _ _)) ci_X10_32 ⟨rfl, rfl⟩ ⟨(Nat.le_of_ble_eq_true rfl), (Nat.le_of_ble_eq_true rfl)⟩ rfl hl.1 rfl (Nat.le_of_ble_eq_true rfl) ⟨(Nat.le_of_ble_eq_true rfl), (Nat.le_of_ble_eq_true rfl)⟩ dX10_laid_4) (fun M4 H locs hR hI => ?_)
  obtain ⟨ca_4, hn_ca_4, hd4, he_ca_4, ha4, hF4⟩ := hR
  have f4_a := (hF4 _ (hw_sn (hw_up h0 (hw_nn h0 hq0))) (hw_nn h0 hq0)).trans (hw_up h0 (hw_nn h0 hq0))
  have g4_a_ca_4 : a ≠ ca_4 := hw_xn (hw_sn (hw_up h0 (hw_nn h0 hq0))) hn_ca_4
  have f4_ca := (hF4 _ (hw_sn (hw_up h1 (hw_nn h1 hq0))) (hw_nn h1 hq0)).trans (hw_up h1 (hw_nn h1 hq0))
  have g4_ca_ca_4 : ca ≠ ca_4 := hw_xn (hw_sn (hw_up h1 (hw_nn h1 hq0))) hn_ca_4
  have g4_q0_ca_4 : q0 ≠ ca_4 := hw_xn (hw_sn (hw_us _ _ _)) hn_ca_4
  have b_ca_4 : M ca_4 = none := hw_alv.n (hw_alv_u (hw_alv_r M)) hn_ca_4
  have al4 : hw_alv M M4 := hw_alv_F (hw_alv_u (hw_alv_r M)) hF4 ha4
  have fr4 : ∀ x, M x ≠ none → x ≠ a → M4 x = M x := fun x hx hxa => by rw [hF4 x ((hw_alv_u (hw_alv_r M)) x hx) (hw_xn hx b_q0), va_up_ne _ _ (hw_xn hx b_q0)]
  refine lv_astore_n (lv' := [(2, .ref q0), (0, .ref a), (1, .int (nI 3))]) hx hb dX10_laid_7 rfl hl (by decide) rfl (fun ls hl => ?_)
  have frq : ∀ x, M x ≠ none → x ≠ q0 → M4 x = M x := fun x hx hxq => (hF4 x (hw_alv_u (hw_alv_r M) x hx) hxq).trans (va_up_ne _ _ hxq)
  refine lv_iconst (v := nI 0) hx hb dX10_laid_8 (by decide) ?_
  refine lv_istore_n (lv' := [(3, .int (nI 0)), (2, .ref q0), (0, .ref a), (1, .int (nI 3))]) hx hb dX10_laid_9 rfl hl (by decide) rfl (fun ls hl => ?_)
  suffices LP10 : ∀ z, z ≤ 8 → ∀ (H : Heap) (locs : List Loc) (ls : Array Slot), hw_iv Z s (va_up M4 ca_4 (hw_al Z 8 (hb_la C 3 z))) H locs → lv_has ls 10 [(3, .int (nI z)), (2, .ref q0), (0, .ref a), (1, .int (nI 3))] → W p l e ({ frames := 2, cells := 2, slots := 9, locals := 60 } : Room) s m ([.ref a, .int (nI 3)] : List Value).toArray below meth c H locs 2 9 Q (F0 m 10 ls []) from LP10 0 (by omega) _ _ _ (hI.eq (hw_id he_ca_4 rfl)) (lv_sub hl [0, 1, 2, 3] rfl)
  refine hw_loop ?_ (fun z hi10 ih10 => ?_)
  · intro H locs ls hI hl
    refine lv_iload_n hx hb dX10_laid_10 rfl (lv_at hl 0 rfl) ?_
    refine lv_bipush (v := nI 8) hx hb dX10_laid_11 (by decide) ?_
    refine lv_icmp_ge (tgt := 157) hx hb dX10_laid_13 (by decide) (fun _ => ?_) (fun hc => absurd (Int32.le_refl _) hc)
    suffices LP157 : ∀ n, n ≤ (hb_em (hb_la C 3 8) 8 0) → ∀ (H : Heap) (locs : List Loc) (ls : Array Slot), hw_iv Z s (va_up M4 ca_4 (hw_al Z 8 (hb_sf (hb_la C 3 8) n))) H locs → lv_has ls 10 [(2, .ref q0)] → W p l e ({ frames := 2, cells := 2, slots := 9, locals := 60 } : Room) s m ([.ref a, .int (nI 3)] : List Value).toArray below meth c H locs 2 9 Q (F0 m 157 ls []) from LP157 0 (by omega) _ _ _ (hI.eq (by rw [hb_sf_0 (hb_la_8 C (by decide) 8 (by decide))])) (lv_sub hl [1] rfl)
    refine hw_loop ?_ (fun n hi157 ih157 => ?_)
    · intro H locs ls hI hl
      refine lv_aload_n hx hb dX10_laid_157 rfl (lv_at hl 0 rfl) ?_
      refine hw_ci hI (hw_rV hx hb hml hown hts hk hI (m_X10_height l Z (va_up M4 ca_4 (hw_al Z 8 (hb_sf (hb_la C 3 8) (hb_em (hb_la C 3 8) 8 0)))) q0 ca_4 (hb_sf (hb_la C 3 8) (hb_em (hb_la C 3 8) 8 0)) (hw_up ha4 g4_q0_ca_4) (hw_us _ _ _)) cv_X10_37 (hw_up ha4 g4_q0_ca_4) rfl rfl ⟨rfl, rfl⟩ ⟨(Nat.le_of_ble_eq_true rfl), (Nat.le_of_ble_eq_true rfl)⟩ rfl hl.1 rfl (Nat.le_of_ble_eq_true rfl) ⟨(Nat.le_of_ble_eq_true rfl), (Nat.le_of_ble_eq_true rfl)⟩ dX10_laid_158) (fun r158 M158 H locs hR hI => ?_)
      obtain ⟨rfl, rfl⟩ := hR
      refine lv_if_le (tgt := 201) hx hb dX10_laid_161 (by decide) (fun hc => absurd hc (fun q => hb_sf_ht hz (by omega) (hb_ht_le0 q))) (fun _ => ?_)
      refine lv_aload_n hx hb dX10_laid_164 rfl (lv_at hl 0 rfl) ?_
      refine hw_get hx hb hts hown hk hI fd_X10_9 (hw_up ha4 g4_q0_ca_4) rfl dX10_laid_165 ?_
      refine lv_iconst (v := nI 0) hx hb dX10_laid_168 (by decide) ?_
      refine hw_lald hx hb hk hI (hw_us _ _ _) (j := 0) rfl (by omega) (by decide) dX10_laid_169 ?_
      refine lv_lconst (v := 0) hx hb dX10_laid_170 (by decide) ?_
      refine W.lcmp hx hb dX10_laid_171 ?_
      refine lv_if_ne (tgt := 201) hx hb dX10_laid_172 (by decide) (fun _ => ?_) (fun hc => absurd hc (fun q => hb_sf_nz hz ((lg_cmp_eq _ _).mp q)))
      have hfin : (fun r M' => ∃ sa : Nat, M r = none ∧ M sa = none ∧ r ≠ sa ∧ M' r = hw_ob 11 [.ref sa] ∧ M' sa = hw_al Z 8 (hb_laid C 3) ∧ ∀ x, M x ≠ none → M' x = M x) q0 (va_up M4 ca_4 (hw_al Z 8 (hb_sf (hb_la C 3 8) (hb_em (hb_la C 3 8) 8 0)))) := ⟨ca_4, b_q0, b_ca_4, g4_q0_ca_4, hw_up ha4 g4_q0_ca_4, (hw_us _ _ _).trans (hw_alc ((congrArg (hb_sf (hb_la C 3 8)) (if_neg hz).symm).trans (hb_sf_low hz))), fun x hx => by rw [va_up_ne _ _ (hw_xn hx b_ca_4)]; exact frq x hx (hw_xn hx b_q0)⟩
      refine lv_aload_n hx hb dX10_laid_201 rfl (lv_at hl 0 rfl) ?_
      exact hret hI hfin (Nat.le_of_ble_eq_true rfl) (Nat.le_of_ble_eq_true rfl) dX10_laid_202
    · intro H locs ls hI hl
      refine lv_aload_n hx hb dX10_laid_157 rfl (lv_at hl 0 rfl) ?_
      refine hw_ci hI (hw_rV hx hb hml hown hts hk hI (m_X10_height l Z (va_up M4 ca_4 (hw_al Z 8 (hb_sf (hb_la C 3 8) n))) q0 ca_4 (hb_sf (hb_la C 3 8) n) (hw_up ha4 g4_q0_ca_4) (hw_us _ _ _)) cv_X10_37 (hw_up ha4 g4_q0_ca_4) rfl rfl ⟨rfl, rfl⟩ ⟨(Nat.le_of_ble_eq_true rfl), (Nat.le_of_ble_eq_true rfl)⟩ rfl hl.1 rfl (Nat.le_of_ble_eq_true rfl) ⟨(Nat.le_of_ble_eq_true rfl), (Nat.le_of_ble_eq_true rfl)⟩ dX10_laid_158) (fun r158 M158 H locs hR hI => ?_)
      obtain ⟨rfl, rfl⟩ := hR
      refine lv_if_le (tgt := 201) hx hb dX10_laid_161 (by decide) (fun hc => absurd hc (fun q => hb_sf_ht hz (by omega) (hb_ht_le0 q))) (fun _ => ?_)
      refine lv_aload_n hx hb dX10_laid_164 rfl (lv_at hl 0 rfl) ?_
      refine hw_get hx hb hts hown hk hI fd_X10_9 (hw_up ha4 g4_q0_ca_4) rfl dX10_laid_165 ?_
      refine lv_iconst (v := nI 0) hx hb dX10_laid_168 (by decide) ?_
      refine hw_lald hx hb hk hI (hw_us _ _ _) (j := 0) rfl (by omega) (by decide) dX10_laid_169 ?_
      refine lv_lconst (v := 0) hx hb dX10_laid_170 (by decide) ?_
      refine W.lcmp hx hb dX10_laid_171 ?_
      refine lv_if_ne (tgt := 201) hx hb dX10_laid_172 (by decide) (fun hc => absurd ((lg_cmp_eq _ _).mpr (hb_sf_z hz hi157)) hc) (fun _ => ?_)
      refine lv_aload_n hx hb dX10_laid_175 rfl (lv_at hl 0 rfl) ?_
      refine hw_get hx hb hts hown hk hI fd_X10_9 (hw_up ha4 g4_q0_ca_4) rfl dX10_laid_176 ?_
      refine lv_iconst (v := nI 1) hx hb dX10_laid_179 (by decide) ?_
      refine lv_aload_n hx hb dX10_laid_180 rfl (lv_at hl 0 rfl) ?_
      refine hw_get hx hb hts hown hk hI fd_X10_9 (hw_up ha4 g4_q0_ca_4) rfl dX10_laid_181 ?_
      refine lv_iconst (v := nI 0) hx hb dX10_laid_184 (by decide) ?_
      refine lv_bipush (v := nI 7) hx hb dX10_laid_185 (by decide) ?_
      refine hw_copyl hx hb (by rw [hml]; exact hl.1.symm) hts hown hk hI (hw_win (w := .methodLink RX10 41 arraycopyName) (by decide +kernel) (by decide +kernel)) (hw_win (w := .native arraycopyName) (by decide +kernel) (by decide +kernel)) (hw_win (w := .static arraycopyName) (by decide +kernel) (by decide +kernel)) (hw_win (w := .initialized "java/lang/System") (by decide +kernel) (by decide +kernel)) (hw_us _ _ _) (hw_us _ _ _) (sp' := 1) (dp' := 0) (n' := 7) rfl rfl rfl (by decide) (by decide) (by decide) (by decide) (by decide) (Nat.le_of_ble_eq_true rfl) (Nat.le_of_ble_eq_true rfl) dX10_laid_187 (fun H locs hI => ?_)
      refine lv_aload_n hx hb dX10_laid_190 rfl (lv_at hl 0 rfl) ?_
      refine hw_get hx hb hts hown hk hI fd_X10_9 (hw_up (hw_up ha4 g4_q0_ca_4) g4_q0_ca_4) rfl dX10_laid_191 ?_
      refine lv_bipush (v := nI 7) hx hb dX10_laid_194 (by decide) ?_
      refine lv_lconst (v := 0) hx hb dX10_laid_196 (by decide) ?_
      refine hw_last hx hb hk hI (hw_us _ _ _) (j := 7) rfl (by omega) (by decide) dX10_laid_197 (fun H locs hI => ?_)
      refine lv_goto (tgt := 157) hx hb dX10_laid_198 (by decide) ?_
      exact ih157 _ _ _ (hI.eq (by rw [bx_uu, bx_uu, hb_sf_s])) (lv_sub hl [0] rfl)
  · intro H locs ls hI hl
    refine lv_iload_n hx hb dX10_laid_10 rfl (lv_at hl 0 rfl) ?_
    refine lv_bipush (v := nI 8) hx hb dX10_laid_11 (by decide) ?_
    refine lv_icmp_ge (tgt := 157) hx hb dX10_laid_13 (by decide) (fun hc => absurd hc (nI_ge hi10 (by decide))) (fun _ => ?_)
    refine lv_iconst (v := nI 0) hx hb dX10_laid_16 (by decide) ?_
    refine lv_istore (lv' := [(4, .int (nI 0)), (3, .int (nI z)), (2, .ref q0), (0, .ref a), (1, .int (nI 3))]) hx hb dX10_laid_17 hl (by decide) rfl (fun ls hl => ?_)
    suffices LP19 : ∀ i, i ≤ 64 → ∀ (H : Heap) (locs : List Loc) (ls : Array Slot), hw_iv Z s (va_up M4 ca_4 (hw_al Z 8 (hb_lz (C z) 3 z i (hb_la C 3 z)))) H locs → lv_has ls 10 [(4, .int (nI i)), (3, .int (nI z)), (2, .ref q0), (0, .ref a), (1, .int (nI 3))] → W p l e ({ frames := 2, cells := 2, slots := 9, locals := 60 } : Room) s m ([.ref a, .int (nI 3)] : List Value).toArray below meth c H locs 2 9 Q (F0 m 19 ls []) from LP19 0 (by omega) _ _ _ hI (lv_sub hl [0, 1, 2, 3, 4] rfl)
    refine hw_loop ?_ (fun i hi19 ih19 => ?_)
    · intro H locs ls hI hl
      refine lv_iload hx hb dX10_laid_19 (lv_at hl 0 rfl) ?_
      refine lv_bipush (v := nI 64) hx hb dX10_laid_21 (by decide) ?_
      refine lv_icmp_ge (tgt := 151) hx hb dX10_laid_23 (by decide) (fun _ => ?_) (fun hc => absurd (Int32.le_refl _) hc)
      refine lv_iinc (v := nI (z + 1)) (lv' := [(3, .int (nI (z + 1))), (4, .int (nI 64)), (2, .ref q0), (0, .ref a), (1, .int (nI 3))]) hx hb dX10_laid_151 hl (k := 1) rfl (hw_inc _) (by decide) rfl (fun ls hl => ?_)
      refine lv_goto (tgt := 10) hx hb dX10_laid_154 (by decide) ?_
      exact ih10 _ _ _ hI (lv_sub hl [0, 2, 3, 4] rfl)
    · intro H locs ls hI hl
      refine lv_iload hx hb dX10_laid_19 (lv_at hl 0 rfl) ?_
      refine lv_bipush (v := nI 64) hx hb dX10_laid_21 (by decide) ?_
      refine lv_icmp_ge (tgt := 151) hx hb dX10_laid_23 (by decide) (fun hc => absurd hc (nI_ge hi19 (by decide))) (fun _ => ?_)
      refine lv_aload_n hx hb dX10_laid_26 rfl (lv_at hl 3 rfl) ?_
      refine hw_get hx hb hts hown hk hI fd_X10_9 (hw_up f4_a g4_a_ca_4) rfl dX10_laid_27 ?_
      refine lv_iload_n hx hb dX10_laid_30 rfl (lv_at hl 1 rfl) ?_
      refine hw_lald hx hb hk hI (hw_up f4_ca g4_ca_ca_4) (j := z) rfl (by omega) (by decide) dX10_laid_31 ?_
      refine lv_iload hx hb dX10_laid_32 (lv_at hl 0 rfl) ?_
      refine hw_ci hI (hw_rSN hx hb hml hown hts hk hI (m_X11_has l Z (va_up M4 ca_4 (hw_al Z 8 (hb_lz (C z) 3 z i (hb_la C 3 z)))) (C z) i (by omega)) cn_X10_33 ⟨rfl, rfl⟩ ⟨(Nat.le_of_ble_eq_true rfl), (Nat.le_of_ble_eq_true rfl)⟩ rfl hl.1 rfl (Nat.le_of_ble_eq_true rfl) ⟨(Nat.le_of_ble_eq_true rfl), (Nat.le_of_ble_eq_true rfl)⟩ dX10_laid_34) (fun r34 M34 H locs hR hI => ?_)
      obtain ⟨rfl, rfl⟩ := hR
      refine lv_if_ne (tgt := 43) hx hb dX10_laid_37 (by decide) (fun c37 => ?_) (fun c37 => ?_)
      · refine lv_iload hx hb dX10_laid_43 (lv_at hl 0 rfl) ?_
        refine lv_bipush (v := nI 8) hx hb dX10_laid_45 (by decide) ?_
        refine lv_irem hx hb dX10_laid_47 (by decide) ?_
        refine hw_ti (pk_rem (by omega) (by decide) (by decide)) ?_
        refine lv_istore (lv' := [(5, .int (nI (i % 8))), (4, .int (nI i)), (3, .int (nI z)), (2, .ref q0), (0, .ref a), (1, .int (nI 3))]) hx hb dX10_laid_48 hl (by decide) rfl (fun ls hl => ?_)
        refine lv_iload hx hb dX10_laid_50 (lv_at hl 1 rfl) ?_
        refine lv_bipush (v := nI 8) hx hb dX10_laid_52 (by decide) ?_
        refine lv_idiv hx hb dX10_laid_54 (by decide) ?_
        refine hw_ti (pk_div (by omega) (by decide) (by decide)) ?_
        refine lv_istore (lv' := [(6, .int (nI (i / 8))), (5, .int (nI (i % 8))), (4, .int (nI i)), (3, .int (nI z)), (2, .ref q0), (0, .ref a), (1, .int (nI 3))]) hx hb dX10_laid_55 hl (by decide) rfl (fun ls hl => ?_)
        refine lv_iload_n hx hb dX10_laid_57 rfl (lv_at hl 6 rfl) ?_
        refine lv_iconst (v := nI 2) hx hb dX10_laid_58 (by decide) ?_
        refine lv_icmp_ge (tgt := 66) hx hb dX10_laid_59 (by decide) (fun _ => ?_) (fun hc => absurd (by decide) hc)
        refine lv_iload_n hx hb dX10_laid_66 rfl (lv_at hl 6 rfl) ?_
        refine lv_iconst (v := nI 4) hx hb dX10_laid_67 (by decide) ?_
        refine lv_icmp_ge (tgt := 76) hx hb dX10_laid_68 (by decide) (fun hc => absurd hc (by decide)) (fun _ => ?_)
        refine lv_iload hx hb dX10_laid_71 (lv_at hl 1 rfl) ?_
        refine lv_goto (tgt := 78) hx hb dX10_laid_73 (by decide) ?_
        refine lv_istore (lv' := [(7, .int (nI (i % 8))), (6, .int (nI (i / 8))), (5, .int (nI (i % 8))), (4, .int (nI i)), (3, .int (nI z)), (2, .ref q0), (0, .ref a), (1, .int (nI 3))]) hx hb dX10_laid_78 hl (by decide) rfl (fun ls hl => ?_)
        refine lv_iload_n hx hb dX10_laid_80 rfl (lv_at hl 7 rfl) ?_
        refine lv_iconst (v := nI 2) hx hb dX10_laid_81 (by decide) ?_
        refine lv_icmp_eq (tgt := 90) hx hb dX10_laid_82 (by decide) (fun hc => absurd hc (by decide)) (fun _ => ?_)
        refine lv_iload_n hx hb dX10_laid_85 rfl (lv_at hl 7 rfl) ?_
        refine lv_iconst (v := nI 3) hx hb dX10_laid_86 (by decide) ?_
        refine lv_icmp_ne (tgt := 94) hx hb dX10_laid_87 (by decide) (fun hc => absurd (by decide) hc) (fun _ => ?_)
        refine lv_iload_n hx hb dX10_laid_90 rfl (lv_at hl 4 rfl) ?_
        refine lv_goto (tgt := 96) hx hb dX10_laid_91 (by decide) ?_
        refine lv_istore (lv' := [(8, .int (nI z)), (7, .int (nI (i % 8))), (6, .int (nI (i / 8))), (5, .int (nI (i % 8))), (4, .int (nI i)), (3, .int (nI z)), (2, .ref q0), (0, .ref a), (1, .int (nI 3))]) hx hb dX10_laid_96 hl (by decide) rfl (fun ls hl => ?_)
        refine lv_iload_n hx hb dX10_laid_98 rfl (lv_at hl 8 rfl) ?_
        refine lv_iconst (v := nI 3) hx hb dX10_laid_99 (by decide) ?_
        refine lv_icmp_le (tgt := 107) hx hb dX10_laid_100 (by decide) (fun _ => ?_) (fun hc => absurd (by decide) hc)
        refine lv_iload hx hb dX10_laid_107 (lv_at hl 2 rfl) ?_
        refine lv_istore (lv' := [(9, .int (nI (i / 8))), (8, .int (nI z)), (7, .int (nI (i % 8))), (6, .int (nI (i / 8))), (5, .int (nI (i % 8))), (4, .int (nI i)), (3, .int (nI z)), (2, .ref q0), (0, .ref a), (1, .int (nI 3))]) hx hb dX10_laid_109 hl (by decide) rfl (fun ls hl => ?_)
        refine lv_aload_n hx hb dX10_laid_111 rfl (lv_at hl 7 rfl) ?_
        refine hw_get hx hb hts hown hk hI fd_X10_9 (hw_up ha4 g4_q0_ca_4) rfl dX10_laid_112 ?_
        refine lv_iload_n hx hb dX10_laid_115 rfl (lv_at hl 9 rfl) ?_
        refine lv_iconst (v := nI 2) hx hb dX10_laid_116 (by decide) ?_
        refine lv_irem hx hb dX10_laid_117 (by decide) ?_
        refine lv_if_ne (tgt := 126) hx hb dX10_laid_118 (by decide) (fun _ => ?_) (fun hc => absurd hc (by decide))
        refine lv_bipush (v := nI 7) hx hb dX10_laid_126 (by decide) ?_
        refine lv_iload hx hb dX10_laid_128 (lv_at hl 2 rfl) ?_
        refine lv_isub hx hb dX10_laid_130 ?_
        refine hw_ti (pk_sub (by omega)) ?_
        refine lv_dup2_11 hx hb dX10_laid_131 rfl rfl ?_
        refine hw_lald hx hb hk hI (hw_us _ _ _) (j := (7 - i % 8)) rfl (by omega) (by decide) dX10_laid_132 ?_
        refine lv_lconst (v := 1) hx hb dX10_laid_133 (by decide) ?_
        refine lv_iload hx hb dX10_laid_134 (lv_at hl 1 rfl) ?_
        refine lv_bipush (v := nI 8) hx hb dX10_laid_136 (by decide) ?_
        refine lv_iload hx hb dX10_laid_138 (lv_at hl 0 rfl) ?_
        refine lv_imul hx hb dX10_laid_140 ?_
        refine hw_ti (pk_mul _ _) ?_
        refine lv_iadd hx hb dX10_laid_141 ?_
        refine hw_ti (nI_add _ _) ?_
        refine lv_lshl (v := hb_shl 1 (nI (z + (8 * (i / 8))))) hx hb dX10_laid_142 rfl ?_
        refine lv_lor hx hb dX10_laid_143 ?_
        refine hw_last hx hb hk hI (hw_us _ _ _) (j := (7 - i % 8)) rfl (by omega) (by decide) dX10_laid_144 (fun H locs hI => ?_)
        refine lv_iinc (v := nI (i + 1)) (lv' := [(4, .int (nI (i + 1))), (9, .int (nI (i / 8))), (8, .int (nI z)), (7, .int (nI (i % 8))), (6, .int (nI (i / 8))), (5, .int (nI (i % 8))), (3, .int (nI z)), (2, .ref q0), (0, .ref a), (1, .int (nI 3))]) hx hb dX10_laid_145 hl (k := 5) rfl (hw_inc _) (by decide) rfl (fun ls hl => ?_)
        refine lv_goto (tgt := 19) hx hb dX10_laid_148 (by decide) ?_
        exact ih19 _ _ _ (hI.eq (hw_uu1 (hw_alc (hb_lz_y (hq_bn (hq_bt c37)))))) (lv_sub hl [0, 6, 7, 8, 9] rfl)
      · refine lv_goto (tgt := 145) hx hb dX10_laid_40 (by decide) ?_
        refine lv_iinc (v := nI (i + 1)) (lv' := [(4, .int (nI (i + 1))), (3, .int (nI z)), (2, .ref q0), (0, .ref a), (1, .int (nI 3))]) hx hb dX10_laid_145 hl (k := 0) rfl (hw_inc _) (by decide) rfl (fun ls hl => ?_)
        refine lv_goto (tgt := 19) hx hb dX10_laid_148 (by decide) ?_
        exact ih19 _ _ _ (hI.eq (by rw [hb_lz_n (hq_bf c37)])) (lv_sub hl [0, 1, 2, 3, 4] rfl)

set_option maxHeartbeats 4000000 in
set_option maxRecDepth 100000 in
theorem m_X10_laid_4z (l : Launch) (Z : hw_Z) (M : hw_M) (a : Nat) (ca : Nat) (C : Nat → Int64) (h0 : M a = hw_ob 11 [.ref ca]) (h1 : M ca = hw_al Z 8 C) (hz : hb_ht (hb_la C 4 8) 8 = 0) : Met l yX10_laid (hw_m yX10_laid cX10_laid 10 (some (.object "MeltPoolModel$Solid"))) ({ frames := 2, cells := 2, slots := 9, locals := 60 } : Room) (va_Pc [.ref a, .int (nI 4)] (hw_P Z M)) (hw_Qr Z (fun r M' => ∃ sa : Nat, M r = none ∧ M sa = none ∧ r ≠ sa ∧ M' r = hw_ob 11 [.ref sa] ∧ M' sa = hw_al Z 8 (hb_laid C 4) ∧ ∀ x, M x ≠ none → M' x = M x)) 2 9 (hw_A Z) := by
  refine hw_ofr (by decide +kernel) rfl (Or.inl ⟨_, rfl⟩) (Nat.le_of_ble_eq_true rfl) ?_
  intro p e s m below meth c ls Q hx hb hml hown hts hk hnm hI hl hret
  refine hw_new hx hb hts hown hk hI fn_X10_10 (Nat.le_of_ble_eq_true rfl) (Nat.le_of_ble_eq_true rfl) dX10_laid_0 (fun q0 H hq0 hI => ?_)
  have b_q0 : M q0 = none := hw_alv.n (hw_alv_r M) hq0
  refine lv_dup hx hb dX10_laid_3 rfl ?_
  refine hw_cv hI (hw_rI hx hb hml hown hts hk hI (m_X10_init l Z (va_up M q0 (hw_ob 11 [.null])) q0 (hw_us _ _ _)) ci_X10_32 ⟨rfl, rfl⟩ ⟨(Nat.le_of_ble_eq_true rfl), (Nat.le_of_ble_eq_true rfl)⟩ rfl hl.1 rfl (Nat.le_of_ble_eq_true rfl) ⟨(Nat.le_of_ble_eq_true rfl), (Nat.le_of_ble_eq_true rfl)⟩ dX10_laid_4) (fun M4 H locs hR hI => ?_)
  obtain ⟨ca_4, hn_ca_4, hd4, he_ca_4, ha4, hF4⟩ := hR
  have f4_a := (hF4 _ (hw_sn (hw_up h0 (hw_nn h0 hq0))) (hw_nn h0 hq0)).trans (hw_up h0 (hw_nn h0 hq0))
  have g4_a_ca_4 : a ≠ ca_4 := hw_xn (hw_sn (hw_up h0 (hw_nn h0 hq0))) hn_ca_4
  have f4_ca := (hF4 _ (hw_sn (hw_up h1 (hw_nn h1 hq0))) (hw_nn h1 hq0)).trans (hw_up h1 (hw_nn h1 hq0))
  have g4_ca_ca_4 : ca ≠ ca_4 := hw_xn (hw_sn (hw_up h1 (hw_nn h1 hq0))) hn_ca_4
  have g4_q0_ca_4 : q0 ≠ ca_4 := hw_xn (hw_sn (hw_us _ _ _)) hn_ca_4
  have b_ca_4 : M ca_4 = none := hw_alv.n (hw_alv_u (hw_alv_r M)) hn_ca_4
  have al4 : hw_alv M M4 := hw_alv_F (hw_alv_u (hw_alv_r M)) hF4 ha4
  have fr4 : ∀ x, M x ≠ none → x ≠ a → M4 x = M x := fun x hx hxa => by rw [hF4 x ((hw_alv_u (hw_alv_r M)) x hx) (hw_xn hx b_q0), va_up_ne _ _ (hw_xn hx b_q0)]
  refine lv_astore_n (lv' := [(2, .ref q0), (0, .ref a), (1, .int (nI 4))]) hx hb dX10_laid_7 rfl hl (by decide) rfl (fun ls hl => ?_)
  have frq : ∀ x, M x ≠ none → x ≠ q0 → M4 x = M x := fun x hx hxq => (hF4 x (hw_alv_u (hw_alv_r M) x hx) hxq).trans (va_up_ne _ _ hxq)
  refine lv_iconst (v := nI 0) hx hb dX10_laid_8 (by decide) ?_
  refine lv_istore_n (lv' := [(3, .int (nI 0)), (2, .ref q0), (0, .ref a), (1, .int (nI 4))]) hx hb dX10_laid_9 rfl hl (by decide) rfl (fun ls hl => ?_)
  suffices LP10 : ∀ z, z ≤ 8 → ∀ (H : Heap) (locs : List Loc) (ls : Array Slot), hw_iv Z s (va_up M4 ca_4 (hw_al Z 8 (hb_la C 4 z))) H locs → lv_has ls 10 [(3, .int (nI z)), (2, .ref q0), (0, .ref a), (1, .int (nI 4))] → W p l e ({ frames := 2, cells := 2, slots := 9, locals := 60 } : Room) s m ([.ref a, .int (nI 4)] : List Value).toArray below meth c H locs 2 9 Q (F0 m 10 ls []) from LP10 0 (by omega) _ _ _ (hI.eq (hw_id he_ca_4 rfl)) (lv_sub hl [0, 1, 2, 3] rfl)
  refine hw_loop ?_ (fun z hi10 ih10 => ?_)
  · intro H locs ls hI hl
    refine lv_iload_n hx hb dX10_laid_10 rfl (lv_at hl 0 rfl) ?_
    refine lv_bipush (v := nI 8) hx hb dX10_laid_11 (by decide) ?_
    refine lv_icmp_ge (tgt := 157) hx hb dX10_laid_13 (by decide) (fun _ => ?_) (fun hc => absurd (Int32.le_refl _) hc)
    refine lv_aload_n hx hb dX10_laid_157 rfl (lv_at hl 1 rfl) ?_
    refine hw_ci hI (hw_rV hx hb hml hown hts hk hI (m_X10_height l Z (va_up M4 ca_4 (hw_al Z 8 (hb_la C 4 8))) q0 ca_4 (hb_la C 4 8) (hw_up ha4 g4_q0_ca_4) (hw_us _ _ _)) cv_X10_37 (hw_up ha4 g4_q0_ca_4) rfl rfl ⟨rfl, rfl⟩ ⟨(Nat.le_of_ble_eq_true rfl), (Nat.le_of_ble_eq_true rfl)⟩ rfl hl.1 rfl (Nat.le_of_ble_eq_true rfl) ⟨(Nat.le_of_ble_eq_true rfl), (Nat.le_of_ble_eq_true rfl)⟩ dX10_laid_158) (fun r158 M158 H locs hR hI => ?_)
    obtain ⟨rfl, rfl⟩ := hR
    refine lv_if_le (tgt := 201) hx hb dX10_laid_161 (by decide) (fun _ => ?_) (fun hc => absurd (by rw [hz]; decide) hc)
    have hfin : (fun r M' => ∃ sa : Nat, M r = none ∧ M sa = none ∧ r ≠ sa ∧ M' r = hw_ob 11 [.ref sa] ∧ M' sa = hw_al Z 8 (hb_laid C 4) ∧ ∀ x, M x ≠ none → M' x = M x) q0 (va_up M4 ca_4 (hw_al Z 8 (hb_la C 4 8))) := ⟨ca_4, b_q0, b_ca_4, g4_q0_ca_4, hw_up ha4 g4_q0_ca_4, (hw_us _ _ _).trans (hw_alc (hb_sf_low0 hz (hb_la_8 C (by decide) 8 (by decide)))), fun x hx => by rw [va_up_ne _ _ (hw_xn hx b_ca_4)]; exact frq x hx (hw_xn hx b_q0)⟩
    refine lv_aload_n hx hb dX10_laid_201 rfl (lv_at hl 1 rfl) ?_
    exact hret hI hfin (Nat.le_of_ble_eq_true rfl) (Nat.le_of_ble_eq_true rfl) dX10_laid_202
  · intro H locs ls hI hl
    refine lv_iload_n hx hb dX10_laid_10 rfl (lv_at hl 0 rfl) ?_
    refine lv_bipush (v := nI 8) hx hb dX10_laid_11 (by decide) ?_
    refine lv_icmp_ge (tgt := 157) hx hb dX10_laid_13 (by decide) (fun hc => absurd hc (nI_ge hi10 (by decide))) (fun _ => ?_)
    refine lv_iconst (v := nI 0) hx hb dX10_laid_16 (by decide) ?_
    refine lv_istore (lv' := [(4, .int (nI 0)), (3, .int (nI z)), (2, .ref q0), (0, .ref a), (1, .int (nI 4))]) hx hb dX10_laid_17 hl (by decide) rfl (fun ls hl => ?_)
    suffices LP19 : ∀ i, i ≤ 64 → ∀ (H : Heap) (locs : List Loc) (ls : Array Slot), hw_iv Z s (va_up M4 ca_4 (hw_al Z 8 (hb_lz (C z) 4 z i (hb_la C 4 z)))) H locs → lv_has ls 10 [(4, .int (nI i)), (3, .int (nI z)), (2, .ref q0), (0, .ref a), (1, .int (nI 4))] → W p l e ({ frames := 2, cells := 2, slots := 9, locals := 60 } : Room) s m ([.ref a, .int (nI 4)] : List Value).toArray below meth c H locs 2 9 Q (F0 m 19 ls []) from LP19 0 (by omega) _ _ _ hI (lv_sub hl [0, 1, 2, 3, 4] rfl)
    refine hw_loop ?_ (fun i hi19 ih19 => ?_)
    · intro H locs ls hI hl
      refine lv_iload hx hb dX10_laid_19 (lv_at hl 0 rfl) ?_
      refine lv_bipush (v := nI 64) hx hb dX10_laid_21 (by decide) ?_
      refine lv_icmp_ge (tgt := 151) hx hb dX10_laid_23 (by decide) (fun _ => ?_) (fun hc => absurd (Int32.le_refl _) hc)
      refine lv_iinc (v := nI (z + 1)) (lv' := [(3, .int (nI (z + 1))), (4, .int (nI 64)), (2, .ref q0), (0, .ref a), (1, .int (nI 4))]) hx hb dX10_laid_151 hl (k := 1) rfl (hw_inc _) (by decide) rfl (fun ls hl => ?_)
      refine lv_goto (tgt := 10) hx hb dX10_laid_154 (by decide) ?_
      exact ih10 _ _ _ hI (lv_sub hl [0, 2, 3, 4] rfl)
    · intro H locs ls hI hl
      refine lv_iload hx hb dX10_laid_19 (lv_at hl 0 rfl) ?_
      refine lv_bipush (v := nI 64) hx hb dX10_laid_21 (by decide) ?_
      refine lv_icmp_ge (tgt := 151) hx hb dX10_laid_23 (by decide) (fun hc => absurd hc (nI_ge hi19 (by decide))) (fun _ => ?_)
      refine lv_aload_n hx hb dX10_laid_26 rfl (lv_at hl 3 rfl) ?_
      refine hw_get hx hb hts hown hk hI fd_X10_9 (hw_up f4_a g4_a_ca_4) rfl dX10_laid_27 ?_
      refine lv_iload_n hx hb dX10_laid_30 rfl (lv_at hl 1 rfl) ?_
      refine hw_lald hx hb hk hI (hw_up f4_ca g4_ca_ca_4) (j := z) rfl (by omega) (by decide) dX10_laid_31 ?_
      refine lv_iload hx hb dX10_laid_32 (lv_at hl 0 rfl) ?_
      refine hw_ci hI (hw_rSN hx hb hml hown hts hk hI (m_X11_has l Z (va_up M4 ca_4 (hw_al Z 8 (hb_lz (C z) 4 z i (hb_la C 4 z)))) (C z) i (by omega)) cn_X10_33 ⟨rfl, rfl⟩ ⟨(Nat.le_of_ble_eq_true rfl), (Nat.le_of_ble_eq_true rfl)⟩ rfl hl.1 rfl (Nat.le_of_ble_eq_true rfl) ⟨(Nat.le_of_ble_eq_true rfl), (Nat.le_of_ble_eq_true rfl)⟩ dX10_laid_34) (fun r34 M34 H locs hR hI => ?_)
      obtain ⟨rfl, rfl⟩ := hR
      refine lv_if_ne (tgt := 43) hx hb dX10_laid_37 (by decide) (fun c37 => ?_) (fun c37 => ?_)
      · refine lv_iload hx hb dX10_laid_43 (lv_at hl 0 rfl) ?_
        refine lv_bipush (v := nI 8) hx hb dX10_laid_45 (by decide) ?_
        refine lv_irem hx hb dX10_laid_47 (by decide) ?_
        refine hw_ti (pk_rem (by omega) (by decide) (by decide)) ?_
        refine lv_istore (lv' := [(5, .int (nI (i % 8))), (4, .int (nI i)), (3, .int (nI z)), (2, .ref q0), (0, .ref a), (1, .int (nI 4))]) hx hb dX10_laid_48 hl (by decide) rfl (fun ls hl => ?_)
        refine lv_iload hx hb dX10_laid_50 (lv_at hl 1 rfl) ?_
        refine lv_bipush (v := nI 8) hx hb dX10_laid_52 (by decide) ?_
        refine lv_idiv hx hb dX10_laid_54 (by decide) ?_
        refine hw_ti (pk_div (by omega) (by decide) (by decide)) ?_
        refine lv_istore (lv' := [(6, .int (nI (i / 8))), (5, .int (nI (i % 8))), (4, .int (nI i)), (3, .int (nI z)), (2, .ref q0), (0, .ref a), (1, .int (nI 4))]) hx hb dX10_laid_55 hl (by decide) rfl (fun ls hl => ?_)
        refine lv_iload_n hx hb dX10_laid_57 rfl (lv_at hl 6 rfl) ?_
        refine lv_iconst (v := nI 2) hx hb dX10_laid_58 (by decide) ?_
        refine lv_icmp_ge (tgt := 66) hx hb dX10_laid_59 (by decide) (fun _ => ?_) (fun hc => absurd (by decide) hc)
        refine lv_iload_n hx hb dX10_laid_66 rfl (lv_at hl 6 rfl) ?_
        refine lv_iconst (v := nI 4) hx hb dX10_laid_67 (by decide) ?_
        refine lv_icmp_ge (tgt := 76) hx hb dX10_laid_68 (by decide) (fun _ => ?_) (fun hc => absurd (by decide) hc)
        refine lv_iload hx hb dX10_laid_76 (lv_at hl 0 rfl) ?_
        refine lv_istore (lv' := [(7, .int (nI (i / 8))), (6, .int (nI (i / 8))), (5, .int (nI (i % 8))), (4, .int (nI i)), (3, .int (nI z)), (2, .ref q0), (0, .ref a), (1, .int (nI 4))]) hx hb dX10_laid_78 hl (by decide) rfl (fun ls hl => ?_)
        refine lv_iload_n hx hb dX10_laid_80 rfl (lv_at hl 7 rfl) ?_
        refine lv_iconst (v := nI 2) hx hb dX10_laid_81 (by decide) ?_
        refine lv_icmp_eq (tgt := 90) hx hb dX10_laid_82 (by decide) (fun hc => absurd hc (by decide)) (fun _ => ?_)
        refine lv_iload_n hx hb dX10_laid_85 rfl (lv_at hl 7 rfl) ?_
        refine lv_iconst (v := nI 3) hx hb dX10_laid_86 (by decide) ?_
        refine lv_icmp_ne (tgt := 94) hx hb dX10_laid_87 (by decide) (fun _ => ?_) (fun hc => absurd hc (by decide))
        refine lv_iload hx hb dX10_laid_94 (lv_at hl 2 rfl) ?_
        refine lv_istore (lv' := [(8, .int (nI (i % 8))), (7, .int (nI (i / 8))), (6, .int (nI (i / 8))), (5, .int (nI (i % 8))), (4, .int (nI i)), (3, .int (nI z)), (2, .ref q0), (0, .ref a), (1, .int (nI 4))]) hx hb dX10_laid_96 hl (by decide) rfl (fun ls hl => ?_)
        refine lv_iload_n hx hb dX10_laid_98 rfl (lv_at hl 8 rfl) ?_
        refine lv_iconst (v := nI 3) hx hb dX10_laid_99 (by decide) ?_
        refine lv_icmp_le (tgt := 107) hx hb dX10_laid_100 (by decide) (fun hc => absurd hc (by decide)) (fun _ => ?_)
        refine lv_iload_n hx hb dX10_laid_103 rfl (lv_at hl 5 rfl) ?_
        refine lv_goto (tgt := 109) hx hb dX10_laid_104 (by decide) ?_
        refine lv_istore (lv' := [(9, .int (nI z)), (8, .int (nI (i % 8))), (7, .int (nI (i / 8))), (6, .int (nI (i / 8))), (5, .int (nI (i % 8))), (4, .int (nI i)), (3, .int (nI z)), (2, .ref q0), (0, .ref a), (1, .int (nI 4))]) hx hb dX10_laid_109 hl (by decide) rfl (fun ls hl => ?_)
        refine lv_aload_n hx hb dX10_laid_111 rfl (lv_at hl 7 rfl) ?_
        refine hw_get hx hb hts hown hk hI fd_X10_9 (hw_up ha4 g4_q0_ca_4) rfl dX10_laid_112 ?_
        refine lv_iload_n hx hb dX10_laid_115 rfl (lv_at hl 9 rfl) ?_
        refine lv_iconst (v := nI 2) hx hb dX10_laid_116 (by decide) ?_
        refine lv_irem hx hb dX10_laid_117 (by decide) ?_
        refine lv_if_ne (tgt := 126) hx hb dX10_laid_118 (by decide) (fun hc => absurd (by decide) hc) (fun _ => ?_)
        refine lv_iload hx hb dX10_laid_121 (lv_at hl 2 rfl) ?_
        refine lv_goto (tgt := 131) hx hb dX10_laid_123 (by decide) ?_
        refine lv_dup2_11 hx hb dX10_laid_131 rfl rfl ?_
        refine hw_lald hx hb hk hI (hw_us _ _ _) (j := (i / 8)) rfl (by omega) (by decide) dX10_laid_132 ?_
        refine lv_lconst (v := 1) hx hb dX10_laid_133 (by decide) ?_
        refine lv_iload hx hb dX10_laid_134 (lv_at hl 1 rfl) ?_
        refine lv_bipush (v := nI 8) hx hb dX10_laid_136 (by decide) ?_
        refine lv_iload hx hb dX10_laid_138 (lv_at hl 0 rfl) ?_
        refine lv_imul hx hb dX10_laid_140 ?_
        refine hw_ti (pk_mul _ _) ?_
        refine lv_iadd hx hb dX10_laid_141 ?_
        refine hw_ti (nI_add _ _) ?_
        refine lv_lshl (v := hb_shl 1 (nI ((i % 8) + (8 * z)))) hx hb dX10_laid_142 rfl ?_
        refine lv_lor hx hb dX10_laid_143 ?_
        refine hw_last hx hb hk hI (hw_us _ _ _) (j := (i / 8)) rfl (by omega) (by decide) dX10_laid_144 (fun H locs hI => ?_)
        refine lv_iinc (v := nI (i + 1)) (lv' := [(4, .int (nI (i + 1))), (9, .int (nI z)), (8, .int (nI (i % 8))), (7, .int (nI (i / 8))), (6, .int (nI (i / 8))), (5, .int (nI (i % 8))), (3, .int (nI z)), (2, .ref q0), (0, .ref a), (1, .int (nI 4))]) hx hb dX10_laid_145 hl (k := 5) rfl (hw_inc _) (by decide) rfl (fun ls hl => ?_)
        refine lv_goto (tgt := 19) hx hb dX10_laid_148 (by decide) ?_
        exact ih19 _ _ _ (hI.eq (hw_uu1 (hw_alc (hb_lz_y (hq_bn (hq_bt c37)))))) (lv_sub hl [0, 6, 7, 8, 9] rfl)
      · refine lv_goto (tgt := 145) hx hb dX10_laid_40 (by decide) ?_
        refine lv_iinc (v := nI (i + 1)) (lv' := [(4, .int (nI (i + 1))), (3, .int (nI z)), (2, .ref q0), (0, .ref a), (1, .int (nI 4))]) hx hb dX10_laid_145 hl (k := 0) rfl (hw_inc _) (by decide) rfl (fun ls hl => ?_)
        refine lv_goto (tgt := 19) hx hb dX10_laid_148 (by decide) ?_
        exact ih19 _ _ _ (hI.eq (by rw [hb_lz_n (hq_bf c37)])) (lv_sub hl [0, 1, 2, 3, 4] rfl)

set_option maxHeartbeats 4000000 in
set_option maxRecDepth 100000 in
theorem m_X10_laid_4s (l : Launch) (Z : hw_Z) (M : hw_M) (a : Nat) (ca : Nat) (C : Nat → Int64) (h0 : M a = hw_ob 11 [.ref ca]) (h1 : M ca = hw_al Z 8 C) (hz : ¬ hb_ht (hb_la C 4 8) 8 = 0) : Met l yX10_laid (hw_m yX10_laid cX10_laid 10 (some (.object "MeltPoolModel$Solid"))) ({ frames := 2, cells := 2, slots := 9, locals := 60 } : Room) (va_Pc [.ref a, .int (nI 4)] (hw_P Z M)) (hw_Qr Z (fun r M' => ∃ sa : Nat, M r = none ∧ M sa = none ∧ r ≠ sa ∧ M' r = hw_ob 11 [.ref sa] ∧ M' sa = hw_al Z 8 (hb_laid C 4) ∧ ∀ x, M x ≠ none → M' x = M x)) 2 9 (hw_A Z) := by
  refine hw_ofr (by decide +kernel) rfl (Or.inl ⟨_, rfl⟩) (Nat.le_of_ble_eq_true rfl) ?_
  intro p e s m below meth c ls Q hx hb hml hown hts hk hnm hI hl hret
  refine hw_new hx hb hts hown hk hI fn_X10_10 (Nat.le_of_ble_eq_true rfl) (Nat.le_of_ble_eq_true rfl) dX10_laid_0 (fun q0 H hq0 hI => ?_)
  have b_q0 : M q0 = none := hw_alv.n (hw_alv_r M) hq0
  refine lv_dup hx hb dX10_laid_3 rfl ?_
  refine hw_cv hI (hw_rI hx hb hml hown hts hk hI (m_X10_init l Z (va_up M q0 (hw_ob 11 [.null])) q0 (hw_us _ _ _)) ci_X10_32 ⟨rfl, rfl⟩ ⟨(Nat.le_of_ble_eq_true rfl), (Nat.le_of_ble_eq_true rfl)⟩ rfl hl.1 rfl (Nat.le_of_ble_eq_true rfl) ⟨(Nat.le_of_ble_eq_true rfl), (Nat.le_of_ble_eq_true rfl)⟩ dX10_laid_4) (fun M4 H locs hR hI => ?_)
  obtain ⟨ca_4, hn_ca_4, hd4, he_ca_4, ha4, hF4⟩ := hR
  have f4_a := (hF4 _ (hw_sn (hw_up h0 (hw_nn h0 hq0))) (hw_nn h0 hq0)).trans (hw_up h0 (hw_nn h0 hq0))
  have g4_a_ca_4 : a ≠ ca_4 := hw_xn (hw_sn (hw_up h0 (hw_nn h0 hq0))) hn_ca_4
  have f4_ca := (hF4 _ (hw_sn (hw_up h1 (hw_nn h1 hq0))) (hw_nn h1 hq0)).trans (hw_up h1 (hw_nn h1 hq0))
  have g4_ca_ca_4 : ca ≠ ca_4 := hw_xn (hw_sn (hw_up h1 (hw_nn h1 hq0))) hn_ca_4
  have g4_q0_ca_4 : q0 ≠ ca_4 := hw_xn (hw_sn (hw_us _ _ _)) hn_ca_4
  have b_ca_4 : M ca_4 = none := hw_alv.n (hw_alv_u (hw_alv_r M)) hn_ca_4
  have al4 : hw_alv M M4 := hw_alv_F (hw_alv_u (hw_alv_r M)) hF4 ha4
  have fr4 : ∀ x, M x ≠ none → x ≠ a → M4 x = M x := fun x hx hxa => by rw [hF4 x ((hw_alv_u (hw_alv_r M)) x hx) (hw_xn hx b_q0), va_up_ne _ _ (hw_xn hx b_q0)]
  refine lv_astore_n (lv' := [(2, .ref q0), (0, .ref a), (1, .int (nI 4))]) hx hb dX10_laid_7 rfl hl (by decide) rfl (fun ls hl => ?_)
  have frq : ∀ x, M x ≠ none → x ≠ q0 → M4 x = M x := fun x hx hxq => (hF4 x (hw_alv_u (hw_alv_r M) x hx) hxq).trans (va_up_ne _ _ hxq)
  refine lv_iconst (v := nI 0) hx hb dX10_laid_8 (by decide) ?_
  refine lv_istore_n (lv' := [(3, .int (nI 0)), (2, .ref q0), (0, .ref a), (1, .int (nI 4))]) hx hb dX10_laid_9 rfl hl (by decide) rfl (fun ls hl => ?_)
  suffices LP10 : ∀ z, z ≤ 8 → ∀ (H : Heap) (locs : List Loc) (ls : Array Slot), hw_iv Z s (va_up M4 ca_4 (hw_al Z 8 (hb_la C 4 z))) H locs → lv_has ls 10 [(3, .int (nI z)), (2, .ref q0), (0, .ref a), (1, .int (nI 4))] → W p l e ({ frames := 2, cells := 2, slots := 9, locals := 60 } : Room) s m ([.ref a, .int (nI 4)] : List Value).toArray below meth c H locs 2 9 Q (F0 m 10 ls []) from LP10 0 (by omega) _ _ _ (hI.eq (hw_id he_ca_4 rfl)) (lv_sub hl [0, 1, 2, 3] rfl)
  refine hw_loop ?_ (fun z hi10 ih10 => ?_)
  · intro H locs ls hI hl
    refine lv_iload_n hx hb dX10_laid_10 rfl (lv_at hl 0 rfl) ?_
    refine lv_bipush (v := nI 8) hx hb dX10_laid_11 (by decide) ?_
    refine lv_icmp_ge (tgt := 157) hx hb dX10_laid_13 (by decide) (fun _ => ?_) (fun hc => absurd (Int32.le_refl _) hc)
    suffices LP157 : ∀ n, n ≤ (hb_em (hb_la C 4 8) 8 0) → ∀ (H : Heap) (locs : List Loc) (ls : Array Slot), hw_iv Z s (va_up M4 ca_4 (hw_al Z 8 (hb_sf (hb_la C 4 8) n))) H locs → lv_has ls 10 [(2, .ref q0)] → W p l e ({ frames := 2, cells := 2, slots := 9, locals := 60 } : Room) s m ([.ref a, .int (nI 4)] : List Value).toArray below meth c H locs 2 9 Q (F0 m 157 ls []) from LP157 0 (by omega) _ _ _ (hI.eq (by rw [hb_sf_0 (hb_la_8 C (by decide) 8 (by decide))])) (lv_sub hl [1] rfl)
    refine hw_loop ?_ (fun n hi157 ih157 => ?_)
    · intro H locs ls hI hl
      refine lv_aload_n hx hb dX10_laid_157 rfl (lv_at hl 0 rfl) ?_
      refine hw_ci hI (hw_rV hx hb hml hown hts hk hI (m_X10_height l Z (va_up M4 ca_4 (hw_al Z 8 (hb_sf (hb_la C 4 8) (hb_em (hb_la C 4 8) 8 0)))) q0 ca_4 (hb_sf (hb_la C 4 8) (hb_em (hb_la C 4 8) 8 0)) (hw_up ha4 g4_q0_ca_4) (hw_us _ _ _)) cv_X10_37 (hw_up ha4 g4_q0_ca_4) rfl rfl ⟨rfl, rfl⟩ ⟨(Nat.le_of_ble_eq_true rfl), (Nat.le_of_ble_eq_true rfl)⟩ rfl hl.1 rfl (Nat.le_of_ble_eq_true rfl) ⟨(Nat.le_of_ble_eq_true rfl), (Nat.le_of_ble_eq_true rfl)⟩ dX10_laid_158) (fun r158 M158 H locs hR hI => ?_)
      obtain ⟨rfl, rfl⟩ := hR
      refine lv_if_le (tgt := 201) hx hb dX10_laid_161 (by decide) (fun hc => absurd hc (fun q => hb_sf_ht hz (by omega) (hb_ht_le0 q))) (fun _ => ?_)
      refine lv_aload_n hx hb dX10_laid_164 rfl (lv_at hl 0 rfl) ?_
      refine hw_get hx hb hts hown hk hI fd_X10_9 (hw_up ha4 g4_q0_ca_4) rfl dX10_laid_165 ?_
      refine lv_iconst (v := nI 0) hx hb dX10_laid_168 (by decide) ?_
      refine hw_lald hx hb hk hI (hw_us _ _ _) (j := 0) rfl (by omega) (by decide) dX10_laid_169 ?_
      refine lv_lconst (v := 0) hx hb dX10_laid_170 (by decide) ?_
      refine W.lcmp hx hb dX10_laid_171 ?_
      refine lv_if_ne (tgt := 201) hx hb dX10_laid_172 (by decide) (fun _ => ?_) (fun hc => absurd hc (fun q => hb_sf_nz hz ((lg_cmp_eq _ _).mp q)))
      have hfin : (fun r M' => ∃ sa : Nat, M r = none ∧ M sa = none ∧ r ≠ sa ∧ M' r = hw_ob 11 [.ref sa] ∧ M' sa = hw_al Z 8 (hb_laid C 4) ∧ ∀ x, M x ≠ none → M' x = M x) q0 (va_up M4 ca_4 (hw_al Z 8 (hb_sf (hb_la C 4 8) (hb_em (hb_la C 4 8) 8 0)))) := ⟨ca_4, b_q0, b_ca_4, g4_q0_ca_4, hw_up ha4 g4_q0_ca_4, (hw_us _ _ _).trans (hw_alc ((congrArg (hb_sf (hb_la C 4 8)) (if_neg hz).symm).trans (hb_sf_low hz))), fun x hx => by rw [va_up_ne _ _ (hw_xn hx b_ca_4)]; exact frq x hx (hw_xn hx b_q0)⟩
      refine lv_aload_n hx hb dX10_laid_201 rfl (lv_at hl 0 rfl) ?_
      exact hret hI hfin (Nat.le_of_ble_eq_true rfl) (Nat.le_of_ble_eq_true rfl) dX10_laid_202
    · intro H locs ls hI hl
      refine lv_aload_n hx hb dX10_laid_157 rfl (lv_at hl 0 rfl) ?_
      refine hw_ci hI (hw_rV hx hb hml hown hts hk hI (m_X10_height l Z (va_up M4 ca_4 (hw_al Z 8 (hb_sf (hb_la C 4 8) n))) q0 ca_4 (hb_sf (hb_la C 4 8) n) (hw_up ha4 g4_q0_ca_4) (hw_us _ _ _)) cv_X10_37 (hw_up ha4 g4_q0_ca_4) rfl rfl ⟨rfl, rfl⟩ ⟨(Nat.le_of_ble_eq_true rfl), (Nat.le_of_ble_eq_true rfl)⟩ rfl hl.1 rfl (Nat.le_of_ble_eq_true rfl) ⟨(Nat.le_of_ble_eq_true rfl), (Nat.le_of_ble_eq_true rfl)⟩ dX10_laid_158) (fun r158 M158 H locs hR hI => ?_)
      obtain ⟨rfl, rfl⟩ := hR
      refine lv_if_le (tgt := 201) hx hb dX10_laid_161 (by decide) (fun hc => absurd hc (fun q => hb_sf_ht hz (by omega) (hb_ht_le0 q))) (fun _ => ?_)
      refine lv_aload_n hx hb dX10_laid_164 rfl (lv_at hl 0 rfl) ?_
      refine hw_get hx hb hts hown hk hI fd_X10_9 (hw_up ha4 g4_q0_ca_4) rfl dX10_laid_165 ?_
      refine lv_iconst (v := nI 0) hx hb dX10_laid_168 (by decide) ?_
      refine hw_lald hx hb hk hI (hw_us _ _ _) (j := 0) rfl (by omega) (by decide) dX10_laid_169 ?_
      refine lv_lconst (v := 0) hx hb dX10_laid_170 (by decide) ?_
      refine W.lcmp hx hb dX10_laid_171 ?_
      refine lv_if_ne (tgt := 201) hx hb dX10_laid_172 (by decide) (fun hc => absurd ((lg_cmp_eq _ _).mpr (hb_sf_z hz hi157)) hc) (fun _ => ?_)
      refine lv_aload_n hx hb dX10_laid_175 rfl (lv_at hl 0 rfl) ?_
      refine hw_get hx hb hts hown hk hI fd_X10_9 (hw_up ha4 g4_q0_ca_4) rfl dX10_laid_176 ?_
      refine lv_iconst (v := nI 1) hx hb dX10_laid_179 (by decide) ?_
      refine lv_aload_n hx hb dX10_laid_180 rfl (lv_at hl 0 rfl) ?_
      refine hw_get hx hb hts hown hk hI fd_X10_9 (hw_up ha4 g4_q0_ca_4) rfl dX10_laid_181 ?_
      refine lv_iconst (v := nI 0) hx hb dX10_laid_184 (by decide) ?_
      refine lv_bipush (v := nI 7) hx hb dX10_laid_185 (by decide) ?_
      refine hw_copyl hx hb (by rw [hml]; exact hl.1.symm) hts hown hk hI (hw_win (w := .methodLink RX10 41 arraycopyName) (by decide +kernel) (by decide +kernel)) (hw_win (w := .native arraycopyName) (by decide +kernel) (by decide +kernel)) (hw_win (w := .static arraycopyName) (by decide +kernel) (by decide +kernel)) (hw_win (w := .initialized "java/lang/System") (by decide +kernel) (by decide +kernel)) (hw_us _ _ _) (hw_us _ _ _) (sp' := 1) (dp' := 0) (n' := 7) rfl rfl rfl (by decide) (by decide) (by decide) (by decide) (by decide) (Nat.le_of_ble_eq_true rfl) (Nat.le_of_ble_eq_true rfl) dX10_laid_187 (fun H locs hI => ?_)
      refine lv_aload_n hx hb dX10_laid_190 rfl (lv_at hl 0 rfl) ?_
      refine hw_get hx hb hts hown hk hI fd_X10_9 (hw_up (hw_up ha4 g4_q0_ca_4) g4_q0_ca_4) rfl dX10_laid_191 ?_
      refine lv_bipush (v := nI 7) hx hb dX10_laid_194 (by decide) ?_
      refine lv_lconst (v := 0) hx hb dX10_laid_196 (by decide) ?_
      refine hw_last hx hb hk hI (hw_us _ _ _) (j := 7) rfl (by omega) (by decide) dX10_laid_197 (fun H locs hI => ?_)
      refine lv_goto (tgt := 157) hx hb dX10_laid_198 (by decide) ?_
      exact ih157 _ _ _ (hI.eq (by rw [bx_uu, bx_uu, hb_sf_s])) (lv_sub hl [0] rfl)
  · intro H locs ls hI hl
    refine lv_iload_n hx hb dX10_laid_10 rfl (lv_at hl 0 rfl) ?_
    refine lv_bipush (v := nI 8) hx hb dX10_laid_11 (by decide) ?_
    refine lv_icmp_ge (tgt := 157) hx hb dX10_laid_13 (by decide) (fun hc => absurd hc (nI_ge hi10 (by decide))) (fun _ => ?_)
    refine lv_iconst (v := nI 0) hx hb dX10_laid_16 (by decide) ?_
    refine lv_istore (lv' := [(4, .int (nI 0)), (3, .int (nI z)), (2, .ref q0), (0, .ref a), (1, .int (nI 4))]) hx hb dX10_laid_17 hl (by decide) rfl (fun ls hl => ?_)
    suffices LP19 : ∀ i, i ≤ 64 → ∀ (H : Heap) (locs : List Loc) (ls : Array Slot), hw_iv Z s (va_up M4 ca_4 (hw_al Z 8 (hb_lz (C z) 4 z i (hb_la C 4 z)))) H locs → lv_has ls 10 [(4, .int (nI i)), (3, .int (nI z)), (2, .ref q0), (0, .ref a), (1, .int (nI 4))] → W p l e ({ frames := 2, cells := 2, slots := 9, locals := 60 } : Room) s m ([.ref a, .int (nI 4)] : List Value).toArray below meth c H locs 2 9 Q (F0 m 19 ls []) from LP19 0 (by omega) _ _ _ hI (lv_sub hl [0, 1, 2, 3, 4] rfl)
    refine hw_loop ?_ (fun i hi19 ih19 => ?_)
    · intro H locs ls hI hl
      refine lv_iload hx hb dX10_laid_19 (lv_at hl 0 rfl) ?_
      refine lv_bipush (v := nI 64) hx hb dX10_laid_21 (by decide) ?_
      refine lv_icmp_ge (tgt := 151) hx hb dX10_laid_23 (by decide) (fun _ => ?_) (fun hc => absurd (Int32.le_refl _) hc)
      refine lv_iinc (v := nI (z + 1)) (lv' := [(3, .int (nI (z + 1))), (4, .int (nI 64)), (2, .ref q0), (0, .ref a), (1, .int (nI 4))]) hx hb dX10_laid_151 hl (k := 1) rfl (hw_inc _) (by decide) rfl (fun ls hl => ?_)
      refine lv_goto (tgt := 10) hx hb dX10_laid_154 (by decide) ?_
      exact ih10 _ _ _ hI (lv_sub hl [0, 2, 3, 4] rfl)
    · intro H locs ls hI hl
      refine lv_iload hx hb dX10_laid_19 (lv_at hl 0 rfl) ?_
      refine lv_bipush (v := nI 64) hx hb dX10_laid_21 (by decide) ?_
      refine lv_icmp_ge (tgt := 151) hx hb dX10_laid_23 (by decide) (fun hc => absurd hc (nI_ge hi19 (by decide))) (fun _ => ?_)
      refine lv_aload_n hx hb dX10_laid_26 rfl (lv_at hl 3 rfl) ?_
      refine hw_get hx hb hts hown hk hI fd_X10_9 (hw_up f4_a g4_a_ca_4) rfl dX10_laid_27 ?_
      refine lv_iload_n hx hb dX10_laid_30 rfl (lv_at hl 1 rfl) ?_
      refine hw_lald hx hb hk hI (hw_up f4_ca g4_ca_ca_4) (j := z) rfl (by omega) (by decide) dX10_laid_31 ?_
      refine lv_iload hx hb dX10_laid_32 (lv_at hl 0 rfl) ?_
      refine hw_ci hI (hw_rSN hx hb hml hown hts hk hI (m_X11_has l Z (va_up M4 ca_4 (hw_al Z 8 (hb_lz (C z) 4 z i (hb_la C 4 z)))) (C z) i (by omega)) cn_X10_33 ⟨rfl, rfl⟩ ⟨(Nat.le_of_ble_eq_true rfl), (Nat.le_of_ble_eq_true rfl)⟩ rfl hl.1 rfl (Nat.le_of_ble_eq_true rfl) ⟨(Nat.le_of_ble_eq_true rfl), (Nat.le_of_ble_eq_true rfl)⟩ dX10_laid_34) (fun r34 M34 H locs hR hI => ?_)
      obtain ⟨rfl, rfl⟩ := hR
      refine lv_if_ne (tgt := 43) hx hb dX10_laid_37 (by decide) (fun c37 => ?_) (fun c37 => ?_)
      · refine lv_iload hx hb dX10_laid_43 (lv_at hl 0 rfl) ?_
        refine lv_bipush (v := nI 8) hx hb dX10_laid_45 (by decide) ?_
        refine lv_irem hx hb dX10_laid_47 (by decide) ?_
        refine hw_ti (pk_rem (by omega) (by decide) (by decide)) ?_
        refine lv_istore (lv' := [(5, .int (nI (i % 8))), (4, .int (nI i)), (3, .int (nI z)), (2, .ref q0), (0, .ref a), (1, .int (nI 4))]) hx hb dX10_laid_48 hl (by decide) rfl (fun ls hl => ?_)
        refine lv_iload hx hb dX10_laid_50 (lv_at hl 1 rfl) ?_
        refine lv_bipush (v := nI 8) hx hb dX10_laid_52 (by decide) ?_
        refine lv_idiv hx hb dX10_laid_54 (by decide) ?_
        refine hw_ti (pk_div (by omega) (by decide) (by decide)) ?_
        refine lv_istore (lv' := [(6, .int (nI (i / 8))), (5, .int (nI (i % 8))), (4, .int (nI i)), (3, .int (nI z)), (2, .ref q0), (0, .ref a), (1, .int (nI 4))]) hx hb dX10_laid_55 hl (by decide) rfl (fun ls hl => ?_)
        refine lv_iload_n hx hb dX10_laid_57 rfl (lv_at hl 6 rfl) ?_
        refine lv_iconst (v := nI 2) hx hb dX10_laid_58 (by decide) ?_
        refine lv_icmp_ge (tgt := 66) hx hb dX10_laid_59 (by decide) (fun _ => ?_) (fun hc => absurd (by decide) hc)
        refine lv_iload_n hx hb dX10_laid_66 rfl (lv_at hl 6 rfl) ?_
        refine lv_iconst (v := nI 4) hx hb dX10_laid_67 (by decide) ?_
        refine lv_icmp_ge (tgt := 76) hx hb dX10_laid_68 (by decide) (fun _ => ?_) (fun hc => absurd (by decide) hc)
        refine lv_iload hx hb dX10_laid_76 (lv_at hl 0 rfl) ?_
        refine lv_istore (lv' := [(7, .int (nI (i / 8))), (6, .int (nI (i / 8))), (5, .int (nI (i % 8))), (4, .int (nI i)), (3, .int (nI z)), (2, .ref q0), (0, .ref a), (1, .int (nI 4))]) hx hb dX10_laid_78 hl (by decide) rfl (fun ls hl => ?_)
        refine lv_iload_n hx hb dX10_laid_80 rfl (lv_at hl 7 rfl) ?_
        refine lv_iconst (v := nI 2) hx hb dX10_laid_81 (by decide) ?_
        refine lv_icmp_eq (tgt := 90) hx hb dX10_laid_82 (by decide) (fun hc => absurd hc (by decide)) (fun _ => ?_)
        refine lv_iload_n hx hb dX10_laid_85 rfl (lv_at hl 7 rfl) ?_
        refine lv_iconst (v := nI 3) hx hb dX10_laid_86 (by decide) ?_
        refine lv_icmp_ne (tgt := 94) hx hb dX10_laid_87 (by decide) (fun _ => ?_) (fun hc => absurd hc (by decide))
        refine lv_iload hx hb dX10_laid_94 (lv_at hl 2 rfl) ?_
        refine lv_istore (lv' := [(8, .int (nI (i % 8))), (7, .int (nI (i / 8))), (6, .int (nI (i / 8))), (5, .int (nI (i % 8))), (4, .int (nI i)), (3, .int (nI z)), (2, .ref q0), (0, .ref a), (1, .int (nI 4))]) hx hb dX10_laid_96 hl (by decide) rfl (fun ls hl => ?_)
        refine lv_iload_n hx hb dX10_laid_98 rfl (lv_at hl 8 rfl) ?_
        refine lv_iconst (v := nI 3) hx hb dX10_laid_99 (by decide) ?_
        refine lv_icmp_le (tgt := 107) hx hb dX10_laid_100 (by decide) (fun hc => absurd hc (by decide)) (fun _ => ?_)
        refine lv_iload_n hx hb dX10_laid_103 rfl (lv_at hl 5 rfl) ?_
        refine lv_goto (tgt := 109) hx hb dX10_laid_104 (by decide) ?_
        refine lv_istore (lv' := [(9, .int (nI z)), (8, .int (nI (i % 8))), (7, .int (nI (i / 8))), (6, .int (nI (i / 8))), (5, .int (nI (i % 8))), (4, .int (nI i)), (3, .int (nI z)), (2, .ref q0), (0, .ref a), (1, .int (nI 4))]) hx hb dX10_laid_109 hl (by decide) rfl (fun ls hl => ?_)
        refine lv_aload_n hx hb dX10_laid_111 rfl (lv_at hl 7 rfl) ?_
        refine hw_get hx hb hts hown hk hI fd_X10_9 (hw_up ha4 g4_q0_ca_4) rfl dX10_laid_112 ?_
        refine lv_iload_n hx hb dX10_laid_115 rfl (lv_at hl 9 rfl) ?_
        refine lv_iconst (v := nI 2) hx hb dX10_laid_116 (by decide) ?_
        refine lv_irem hx hb dX10_laid_117 (by decide) ?_
        refine lv_if_ne (tgt := 126) hx hb dX10_laid_118 (by decide) (fun hc => absurd (by decide) hc) (fun _ => ?_)
        refine lv_iload hx hb dX10_laid_121 (lv_at hl 2 rfl) ?_
        refine lv_goto (tgt := 131) hx hb dX10_laid_123 (by decide) ?_
        refine lv_dup2_11 hx hb dX10_laid_131 rfl rfl ?_
        refine hw_lald hx hb hk hI (hw_us _ _ _) (j := (i / 8)) rfl (by omega) (by decide) dX10_laid_132 ?_
        refine lv_lconst (v := 1) hx hb dX10_laid_133 (by decide) ?_
        refine lv_iload hx hb dX10_laid_134 (lv_at hl 1 rfl) ?_
        refine lv_bipush (v := nI 8) hx hb dX10_laid_136 (by decide) ?_
        refine lv_iload hx hb dX10_laid_138 (lv_at hl 0 rfl) ?_
        refine lv_imul hx hb dX10_laid_140 ?_
        refine hw_ti (pk_mul _ _) ?_
        refine lv_iadd hx hb dX10_laid_141 ?_
        refine hw_ti (nI_add _ _) ?_
        refine lv_lshl (v := hb_shl 1 (nI ((i % 8) + (8 * z)))) hx hb dX10_laid_142 rfl ?_
        refine lv_lor hx hb dX10_laid_143 ?_
        refine hw_last hx hb hk hI (hw_us _ _ _) (j := (i / 8)) rfl (by omega) (by decide) dX10_laid_144 (fun H locs hI => ?_)
        refine lv_iinc (v := nI (i + 1)) (lv' := [(4, .int (nI (i + 1))), (9, .int (nI z)), (8, .int (nI (i % 8))), (7, .int (nI (i / 8))), (6, .int (nI (i / 8))), (5, .int (nI (i % 8))), (3, .int (nI z)), (2, .ref q0), (0, .ref a), (1, .int (nI 4))]) hx hb dX10_laid_145 hl (k := 5) rfl (hw_inc _) (by decide) rfl (fun ls hl => ?_)
        refine lv_goto (tgt := 19) hx hb dX10_laid_148 (by decide) ?_
        exact ih19 _ _ _ (hI.eq (hw_uu1 (hw_alc (hb_lz_y (hq_bn (hq_bt c37)))))) (lv_sub hl [0, 6, 7, 8, 9] rfl)
      · refine lv_goto (tgt := 145) hx hb dX10_laid_40 (by decide) ?_
        refine lv_iinc (v := nI (i + 1)) (lv' := [(4, .int (nI (i + 1))), (3, .int (nI z)), (2, .ref q0), (0, .ref a), (1, .int (nI 4))]) hx hb dX10_laid_145 hl (k := 0) rfl (hw_inc _) (by decide) rfl (fun ls hl => ?_)
        refine lv_goto (tgt := 19) hx hb dX10_laid_148 (by decide) ?_
        exact ih19 _ _ _ (hI.eq (by rw [hb_lz_n (hq_bf c37)])) (lv_sub hl [0, 1, 2, 3, 4] rfl)

set_option maxHeartbeats 4000000 in
set_option maxRecDepth 100000 in
theorem m_X10_laid_5z (l : Launch) (Z : hw_Z) (M : hw_M) (a : Nat) (ca : Nat) (C : Nat → Int64) (h0 : M a = hw_ob 11 [.ref ca]) (h1 : M ca = hw_al Z 8 C) (hz : hb_ht (hb_la C 5 8) 8 = 0) : Met l yX10_laid (hw_m yX10_laid cX10_laid 10 (some (.object "MeltPoolModel$Solid"))) ({ frames := 2, cells := 2, slots := 9, locals := 60 } : Room) (va_Pc [.ref a, .int (nI 5)] (hw_P Z M)) (hw_Qr Z (fun r M' => ∃ sa : Nat, M r = none ∧ M sa = none ∧ r ≠ sa ∧ M' r = hw_ob 11 [.ref sa] ∧ M' sa = hw_al Z 8 (hb_laid C 5) ∧ ∀ x, M x ≠ none → M' x = M x)) 2 9 (hw_A Z) := by
  refine hw_ofr (by decide +kernel) rfl (Or.inl ⟨_, rfl⟩) (Nat.le_of_ble_eq_true rfl) ?_
  intro p e s m below meth c ls Q hx hb hml hown hts hk hnm hI hl hret
  refine hw_new hx hb hts hown hk hI fn_X10_10 (Nat.le_of_ble_eq_true rfl) (Nat.le_of_ble_eq_true rfl) dX10_laid_0 (fun q0 H hq0 hI => ?_)
  have b_q0 : M q0 = none := hw_alv.n (hw_alv_r M) hq0
  refine lv_dup hx hb dX10_laid_3 rfl ?_
  refine hw_cv hI (hw_rI hx hb hml hown hts hk hI (m_X10_init l Z (va_up M q0 (hw_ob 11 [.null])) q0 (hw_us _ _ _)) ci_X10_32 ⟨rfl, rfl⟩ ⟨(Nat.le_of_ble_eq_true rfl), (Nat.le_of_ble_eq_true rfl)⟩ rfl hl.1 rfl (Nat.le_of_ble_eq_true rfl) ⟨(Nat.le_of_ble_eq_true rfl), (Nat.le_of_ble_eq_true rfl)⟩ dX10_laid_4) (fun M4 H locs hR hI => ?_)
  obtain ⟨ca_4, hn_ca_4, hd4, he_ca_4, ha4, hF4⟩ := hR
  have f4_a := (hF4 _ (hw_sn (hw_up h0 (hw_nn h0 hq0))) (hw_nn h0 hq0)).trans (hw_up h0 (hw_nn h0 hq0))
  have g4_a_ca_4 : a ≠ ca_4 := hw_xn (hw_sn (hw_up h0 (hw_nn h0 hq0))) hn_ca_4
  have f4_ca := (hF4 _ (hw_sn (hw_up h1 (hw_nn h1 hq0))) (hw_nn h1 hq0)).trans (hw_up h1 (hw_nn h1 hq0))
  have g4_ca_ca_4 : ca ≠ ca_4 := hw_xn (hw_sn (hw_up h1 (hw_nn h1 hq0))) hn_ca_4
  have g4_q0_ca_4 : q0 ≠ ca_4 := hw_xn (hw_sn (hw_us _ _ _)) hn_ca_4
  have b_ca_4 : M ca_4 = none := hw_alv.n (hw_alv_u (hw_alv_r M)) hn_ca_4
  have al4 : hw_alv M M4 := hw_alv_F (hw_alv_u (hw_alv_r M)) hF4 ha4
  have fr4 : ∀ x, M x ≠ none → x ≠ a → M4 x = M x := fun x hx hxa => by rw [hF4 x ((hw_alv_u (hw_alv_r M)) x hx) (hw_xn hx b_q0), va_up_ne _ _ (hw_xn hx b_q0)]
  refine lv_astore_n (lv' := [(2, .ref q0), (0, .ref a), (1, .int (nI 5))]) hx hb dX10_laid_7 rfl hl (by decide) rfl (fun ls hl => ?_)
  have frq : ∀ x, M x ≠ none → x ≠ q0 → M4 x = M x := fun x hx hxq => (hF4 x (hw_alv_u (hw_alv_r M) x hx) hxq).trans (va_up_ne _ _ hxq)
  refine lv_iconst (v := nI 0) hx hb dX10_laid_8 (by decide) ?_
  refine lv_istore_n (lv' := [(3, .int (nI 0)), (2, .ref q0), (0, .ref a), (1, .int (nI 5))]) hx hb dX10_laid_9 rfl hl (by decide) rfl (fun ls hl => ?_)
  suffices LP10 : ∀ z, z ≤ 8 → ∀ (H : Heap) (locs : List Loc) (ls : Array Slot), hw_iv Z s (va_up M4 ca_4 (hw_al Z 8 (hb_la C 5 z))) H locs → lv_has ls 10 [(3, .int (nI z)), (2, .ref q0), (0, .ref a), (1, .int (nI 5))] → W p l e ({ frames := 2, cells := 2, slots := 9, locals := 60 } : Room) s m ([.ref a, .int (nI 5)] : List Value).toArray below meth c H locs 2 9 Q (F0 m 10 ls []) from LP10 0 (by omega) _ _ _ (hI.eq (hw_id he_ca_4 rfl)) (lv_sub hl [0, 1, 2, 3] rfl)
  refine hw_loop ?_ (fun z hi10 ih10 => ?_)
  · intro H locs ls hI hl
    refine lv_iload_n hx hb dX10_laid_10 rfl (lv_at hl 0 rfl) ?_
    refine lv_bipush (v := nI 8) hx hb dX10_laid_11 (by decide) ?_
    refine lv_icmp_ge (tgt := 157) hx hb dX10_laid_13 (by decide) (fun _ => ?_) (fun hc => absurd (Int32.le_refl _) hc)
    refine lv_aload_n hx hb dX10_laid_157 rfl (lv_at hl 1 rfl) ?_
    refine hw_ci hI (hw_rV hx hb hml hown hts hk hI (m_X10_height l Z (va_up M4 ca_4 (hw_al Z 8 (hb_la C 5 8))) q0 ca_4 (hb_la C 5 8) (hw_up ha4 g4_q0_ca_4) (hw_us _ _ _)) cv_X10_37 (hw_up ha4 g4_q0_ca_4) rfl rfl ⟨rfl, rfl⟩ ⟨(Nat.le_of_ble_eq_true rfl), (Nat.le_of_ble_eq_true rfl)⟩ rfl hl.1 rfl (Nat.le_of_ble_eq_true rfl) ⟨(Nat.le_of_ble_eq_true rfl), (Nat.le_of_ble_eq_true rfl)⟩ dX10_laid_158) (fun r158 M158 H locs hR hI => ?_)
    obtain ⟨rfl, rfl⟩ := hR
    refine lv_if_le (tgt := 201) hx hb dX10_laid_161 (by decide) (fun _ => ?_) (fun hc => absurd (by rw [hz]; decide) hc)
    have hfin : (fun r M' => ∃ sa : Nat, M r = none ∧ M sa = none ∧ r ≠ sa ∧ M' r = hw_ob 11 [.ref sa] ∧ M' sa = hw_al Z 8 (hb_laid C 5) ∧ ∀ x, M x ≠ none → M' x = M x) q0 (va_up M4 ca_4 (hw_al Z 8 (hb_la C 5 8))) := ⟨ca_4, b_q0, b_ca_4, g4_q0_ca_4, hw_up ha4 g4_q0_ca_4, (hw_us _ _ _).trans (hw_alc (hb_sf_low0 hz (hb_la_8 C (by decide) 8 (by decide)))), fun x hx => by rw [va_up_ne _ _ (hw_xn hx b_ca_4)]; exact frq x hx (hw_xn hx b_q0)⟩
    refine lv_aload_n hx hb dX10_laid_201 rfl (lv_at hl 1 rfl) ?_
    exact hret hI hfin (Nat.le_of_ble_eq_true rfl) (Nat.le_of_ble_eq_true rfl) dX10_laid_202
  · intro H locs ls hI hl
    refine lv_iload_n hx hb dX10_laid_10 rfl (lv_at hl 0 rfl) ?_
    refine lv_bipush (v := nI 8) hx hb dX10_laid_11 (by decide) ?_
    refine lv_icmp_ge (tgt := 157) hx hb dX10_laid_13 (by decide) (fun hc => absurd hc (nI_ge hi10 (by decide))) (fun _ => ?_)
    refine lv_iconst (v := nI 0) hx hb dX10_laid_16 (by decide) ?_
    refine lv_istore (lv' := [(4, .int (nI 0)), (3, .int (nI z)), (2, .ref q0), (0, .ref a), (1, .int (nI 5))]) hx hb dX10_laid_17 hl (by decide) rfl (fun ls hl => ?_)
    suffices LP19 : ∀ i, i ≤ 64 → ∀ (H : Heap) (locs : List Loc) (ls : Array Slot), hw_iv Z s (va_up M4 ca_4 (hw_al Z 8 (hb_lz (C z) 5 z i (hb_la C 5 z)))) H locs → lv_has ls 10 [(4, .int (nI i)), (3, .int (nI z)), (2, .ref q0), (0, .ref a), (1, .int (nI 5))] → W p l e ({ frames := 2, cells := 2, slots := 9, locals := 60 } : Room) s m ([.ref a, .int (nI 5)] : List Value).toArray below meth c H locs 2 9 Q (F0 m 19 ls []) from LP19 0 (by omega) _ _ _ hI (lv_sub hl [0, 1, 2, 3, 4] rfl)
    refine hw_loop ?_ (fun i hi19 ih19 => ?_)
    · intro H locs ls hI hl
      refine lv_iload hx hb dX10_laid_19 (lv_at hl 0 rfl) ?_
      refine lv_bipush (v := nI 64) hx hb dX10_laid_21 (by decide) ?_
      refine lv_icmp_ge (tgt := 151) hx hb dX10_laid_23 (by decide) (fun _ => ?_) (fun hc => absurd (Int32.le_refl _) hc)
      refine lv_iinc (v := nI (z + 1)) (lv' := [(3, .int (nI (z + 1))), (4, .int (nI 64)), (2, .ref q0), (0, .ref a), (1, .int (nI 5))]) hx hb dX10_laid_151 hl (k := 1) rfl (hw_inc _) (by decide) rfl (fun ls hl => ?_)
      refine lv_goto (tgt := 10) hx hb dX10_laid_154 (by decide) ?_
      exact ih10 _ _ _ hI (lv_sub hl [0, 2, 3, 4] rfl)
    · intro H locs ls hI hl
      refine lv_iload hx hb dX10_laid_19 (lv_at hl 0 rfl) ?_
      refine lv_bipush (v := nI 64) hx hb dX10_laid_21 (by decide) ?_
      refine lv_icmp_ge (tgt := 151) hx hb dX10_laid_23 (by decide) (fun hc => absurd hc (nI_ge hi19 (by decide))) (fun _ => ?_)
      refine lv_aload_n hx hb dX10_laid_26 rfl (lv_at hl 3 rfl) ?_
      refine hw_get hx hb hts hown hk hI fd_X10_9 (hw_up f4_a g4_a_ca_4) rfl dX10_laid_27 ?_
      refine lv_iload_n hx hb dX10_laid_30 rfl (lv_at hl 1 rfl) ?_
      refine hw_lald hx hb hk hI (hw_up f4_ca g4_ca_ca_4) (j := z) rfl (by omega) (by decide) dX10_laid_31 ?_
      refine lv_iload hx hb dX10_laid_32 (lv_at hl 0 rfl) ?_
      refine hw_ci hI (hw_rSN hx hb hml hown hts hk hI (m_X11_has l Z (va_up M4 ca_4 (hw_al Z 8 (hb_lz (C z) 5 z i (hb_la C 5 z)))) (C z) i (by omega)) cn_X10_33 ⟨rfl, rfl⟩ ⟨(Nat.le_of_ble_eq_true rfl), (Nat.le_of_ble_eq_true rfl)⟩ rfl hl.1 rfl (Nat.le_of_ble_eq_true rfl) ⟨(Nat.le_of_ble_eq_true rfl), (Nat.le_of_ble_eq_true rfl)⟩ dX10_laid_34) (fun r34 M34 H locs hR hI => ?_)
      obtain ⟨rfl, rfl⟩ := hR
      refine lv_if_ne (tgt := 43) hx hb dX10_laid_37 (by decide) (fun c37 => ?_) (fun c37 => ?_)
      · refine lv_iload hx hb dX10_laid_43 (lv_at hl 0 rfl) ?_
        refine lv_bipush (v := nI 8) hx hb dX10_laid_45 (by decide) ?_
        refine lv_irem hx hb dX10_laid_47 (by decide) ?_
        refine hw_ti (pk_rem (by omega) (by decide) (by decide)) ?_
        refine lv_istore (lv' := [(5, .int (nI (i % 8))), (4, .int (nI i)), (3, .int (nI z)), (2, .ref q0), (0, .ref a), (1, .int (nI 5))]) hx hb dX10_laid_48 hl (by decide) rfl (fun ls hl => ?_)
        refine lv_iload hx hb dX10_laid_50 (lv_at hl 1 rfl) ?_
        refine lv_bipush (v := nI 8) hx hb dX10_laid_52 (by decide) ?_
        refine lv_idiv hx hb dX10_laid_54 (by decide) ?_
        refine hw_ti (pk_div (by omega) (by decide) (by decide)) ?_
        refine lv_istore (lv' := [(6, .int (nI (i / 8))), (5, .int (nI (i % 8))), (4, .int (nI i)), (3, .int (nI z)), (2, .ref q0), (0, .ref a), (1, .int (nI 5))]) hx hb dX10_laid_55 hl (by decide) rfl (fun ls hl => ?_)
        refine lv_iload_n hx hb dX10_laid_57 rfl (lv_at hl 6 rfl) ?_
        refine lv_iconst (v := nI 2) hx hb dX10_laid_58 (by decide) ?_
        refine lv_icmp_ge (tgt := 66) hx hb dX10_laid_59 (by decide) (fun _ => ?_) (fun hc => absurd (by decide) hc)
        refine lv_iload_n hx hb dX10_laid_66 rfl (lv_at hl 6 rfl) ?_
        refine lv_iconst (v := nI 4) hx hb dX10_laid_67 (by decide) ?_
        refine lv_icmp_ge (tgt := 76) hx hb dX10_laid_68 (by decide) (fun _ => ?_) (fun hc => absurd (by decide) hc)
        refine lv_iload hx hb dX10_laid_76 (lv_at hl 0 rfl) ?_
        refine lv_istore (lv' := [(7, .int (nI (i / 8))), (6, .int (nI (i / 8))), (5, .int (nI (i % 8))), (4, .int (nI i)), (3, .int (nI z)), (2, .ref q0), (0, .ref a), (1, .int (nI 5))]) hx hb dX10_laid_78 hl (by decide) rfl (fun ls hl => ?_)
        refine lv_iload_n hx hb dX10_laid_80 rfl (lv_at hl 7 rfl) ?_
        refine lv_iconst (v := nI 2) hx hb dX10_laid_81 (by decide) ?_
        refine lv_icmp_eq (tgt := 90) hx hb dX10_laid_82 (by decide) (fun hc => absurd hc (by decide)) (fun _ => ?_)
        refine lv_iload_n hx hb dX10_laid_85 rfl (lv_at hl 7 rfl) ?_
        refine lv_iconst (v := nI 3) hx hb dX10_laid_86 (by decide) ?_
        refine lv_icmp_ne (tgt := 94) hx hb dX10_laid_87 (by decide) (fun _ => ?_) (fun hc => absurd hc (by decide))
        refine lv_iload hx hb dX10_laid_94 (lv_at hl 2 rfl) ?_
        refine lv_istore (lv' := [(8, .int (nI (i % 8))), (7, .int (nI (i / 8))), (6, .int (nI (i / 8))), (5, .int (nI (i % 8))), (4, .int (nI i)), (3, .int (nI z)), (2, .ref q0), (0, .ref a), (1, .int (nI 5))]) hx hb dX10_laid_96 hl (by decide) rfl (fun ls hl => ?_)
        refine lv_iload_n hx hb dX10_laid_98 rfl (lv_at hl 8 rfl) ?_
        refine lv_iconst (v := nI 3) hx hb dX10_laid_99 (by decide) ?_
        refine lv_icmp_le (tgt := 107) hx hb dX10_laid_100 (by decide) (fun hc => absurd hc (by decide)) (fun _ => ?_)
        refine lv_iload_n hx hb dX10_laid_103 rfl (lv_at hl 5 rfl) ?_
        refine lv_goto (tgt := 109) hx hb dX10_laid_104 (by decide) ?_
        refine lv_istore (lv' := [(9, .int (nI z)), (8, .int (nI (i % 8))), (7, .int (nI (i / 8))), (6, .int (nI (i / 8))), (5, .int (nI (i % 8))), (4, .int (nI i)), (3, .int (nI z)), (2, .ref q0), (0, .ref a), (1, .int (nI 5))]) hx hb dX10_laid_109 hl (by decide) rfl (fun ls hl => ?_)
        refine lv_aload_n hx hb dX10_laid_111 rfl (lv_at hl 7 rfl) ?_
        refine hw_get hx hb hts hown hk hI fd_X10_9 (hw_up ha4 g4_q0_ca_4) rfl dX10_laid_112 ?_
        refine lv_iload_n hx hb dX10_laid_115 rfl (lv_at hl 9 rfl) ?_
        refine lv_iconst (v := nI 2) hx hb dX10_laid_116 (by decide) ?_
        refine lv_irem hx hb dX10_laid_117 (by decide) ?_
        refine lv_if_ne (tgt := 126) hx hb dX10_laid_118 (by decide) (fun _ => ?_) (fun hc => absurd hc (by decide))
        refine lv_bipush (v := nI 7) hx hb dX10_laid_126 (by decide) ?_
        refine lv_iload hx hb dX10_laid_128 (lv_at hl 2 rfl) ?_
        refine lv_isub hx hb dX10_laid_130 ?_
        refine hw_ti (pk_sub (by omega)) ?_
        refine lv_dup2_11 hx hb dX10_laid_131 rfl rfl ?_
        refine hw_lald hx hb hk hI (hw_us _ _ _) (j := (7 - i / 8)) rfl (by omega) (by decide) dX10_laid_132 ?_
        refine lv_lconst (v := 1) hx hb dX10_laid_133 (by decide) ?_
        refine lv_iload hx hb dX10_laid_134 (lv_at hl 1 rfl) ?_
        refine lv_bipush (v := nI 8) hx hb dX10_laid_136 (by decide) ?_
        refine lv_iload hx hb dX10_laid_138 (lv_at hl 0 rfl) ?_
        refine lv_imul hx hb dX10_laid_140 ?_
        refine hw_ti (pk_mul _ _) ?_
        refine lv_iadd hx hb dX10_laid_141 ?_
        refine hw_ti (nI_add _ _) ?_
        refine lv_lshl (v := hb_shl 1 (nI ((i % 8) + (8 * z)))) hx hb dX10_laid_142 rfl ?_
        refine lv_lor hx hb dX10_laid_143 ?_
        refine hw_last hx hb hk hI (hw_us _ _ _) (j := (7 - i / 8)) rfl (by omega) (by decide) dX10_laid_144 (fun H locs hI => ?_)
        refine lv_iinc (v := nI (i + 1)) (lv' := [(4, .int (nI (i + 1))), (9, .int (nI z)), (8, .int (nI (i % 8))), (7, .int (nI (i / 8))), (6, .int (nI (i / 8))), (5, .int (nI (i % 8))), (3, .int (nI z)), (2, .ref q0), (0, .ref a), (1, .int (nI 5))]) hx hb dX10_laid_145 hl (k := 5) rfl (hw_inc _) (by decide) rfl (fun ls hl => ?_)
        refine lv_goto (tgt := 19) hx hb dX10_laid_148 (by decide) ?_
        exact ih19 _ _ _ (hI.eq (hw_uu1 (hw_alc (hb_lz_y (hq_bn (hq_bt c37)))))) (lv_sub hl [0, 6, 7, 8, 9] rfl)
      · refine lv_goto (tgt := 145) hx hb dX10_laid_40 (by decide) ?_
        refine lv_iinc (v := nI (i + 1)) (lv' := [(4, .int (nI (i + 1))), (3, .int (nI z)), (2, .ref q0), (0, .ref a), (1, .int (nI 5))]) hx hb dX10_laid_145 hl (k := 0) rfl (hw_inc _) (by decide) rfl (fun ls hl => ?_)
        refine lv_goto (tgt := 19) hx hb dX10_laid_148 (by decide) ?_
        exact ih19 _ _ _ (hI.eq (by rw [hb_lz_n (hq_bf c37)])) (lv_sub hl [0, 1, 2, 3, 4] rfl)

set_option maxHeartbeats 4000000 in
set_option maxRecDepth 100000 in
theorem m_X10_laid_5s (l : Launch) (Z : hw_Z) (M : hw_M) (a : Nat) (ca : Nat) (C : Nat → Int64) (h0 : M a = hw_ob 11 [.ref ca]) (h1 : M ca = hw_al Z 8 C) (hz : ¬ hb_ht (hb_la C 5 8) 8 = 0) : Met l yX10_laid (hw_m yX10_laid cX10_laid 10 (some (.object "MeltPoolModel$Solid"))) ({ frames := 2, cells := 2, slots := 9, locals := 60 } : Room) (va_Pc [.ref a, .int (nI 5)] (hw_P Z M)) (hw_Qr Z (fun r M' => ∃ sa : Nat, M r = none ∧ M sa = none ∧ r ≠ sa ∧ M' r = hw_ob 11 [.ref sa] ∧ M' sa = hw_al Z 8 (hb_laid C 5) ∧ ∀ x, M x ≠ none → M' x = M x)) 2 9 (hw_A Z) := by
  refine hw_ofr (by decide +kernel) rfl (Or.inl ⟨_, rfl⟩) (Nat.le_of_ble_eq_true rfl) ?_
  intro p e s m below meth c ls Q hx hb hml hown hts hk hnm hI hl hret
  refine hw_new hx hb hts hown hk hI fn_X10_10 (Nat.le_of_ble_eq_true rfl) (Nat.le_of_ble_eq_true rfl) dX10_laid_0 (fun q0 H hq0 hI => ?_)
  have b_q0 : M q0 = none := hw_alv.n (hw_alv_r M) hq0
  refine lv_dup hx hb dX10_laid_3 rfl ?_
  refine hw_cv hI (hw_rI hx hb hml hown hts hk hI (m_X10_init l Z (va_up M q0 (hw_ob 11 [.null])) q0 (hw_us _ _ _)) ci_X10_32 ⟨rfl, rfl⟩ ⟨(Nat.le_of_ble_eq_true rfl), (Nat.le_of_ble_eq_true rfl)⟩ rfl hl.1 rfl (Nat.le_of_ble_eq_true rfl) ⟨(Nat.le_of_ble_eq_true rfl), (Nat.le_of_ble_eq_true rfl)⟩ dX10_laid_4) (fun M4 H locs hR hI => ?_)
  obtain ⟨ca_4, hn_ca_4, hd4, he_ca_4, ha4, hF4⟩ := hR
  have f4_a := (hF4 _ (hw_sn (hw_up h0 (hw_nn h0 hq0))) (hw_nn h0 hq0)).trans (hw_up h0 (hw_nn h0 hq0))
  have g4_a_ca_4 : a ≠ ca_4 := hw_xn (hw_sn (hw_up h0 (hw_nn h0 hq0))) hn_ca_4
  have f4_ca := (hF4 _ (hw_sn (hw_up h1 (hw_nn h1 hq0))) (hw_nn h1 hq0)).trans (hw_up h1 (hw_nn h1 hq0))
  have g4_ca_ca_4 : ca ≠ ca_4 := hw_xn (hw_sn (hw_up h1 (hw_nn h1 hq0))) hn_ca_4
  have g4_q0_ca_4 : q0 ≠ ca_4 := hw_xn (hw_sn (hw_us _ _ _)) hn_ca_4
  have b_ca_4 : M ca_4 = none := hw_alv.n (hw_alv_u (hw_alv_r M)) hn_ca_4
  have al4 : hw_alv M M4 := hw_alv_F (hw_alv_u (hw_alv_r M)) hF4 ha4
  have fr4 : ∀ x, M x ≠ none → x ≠ a → M4 x = M x := fun x hx hxa => by rw [hF4 x ((hw_alv_u (hw_alv_r M)) x hx) (hw_xn hx b_q0), va_up_ne _ _ (hw_xn hx b_q0)]
  refine lv_astore_n (lv' := [(2, .ref q0), (0, .ref a), (1, .int (nI 5))]) hx hb dX10_laid_7 rfl hl (by decide) rfl (fun ls hl => ?_)
  have frq : ∀ x, M x ≠ none → x ≠ q0 → M4 x = M x := fun x hx hxq => (hF4 x (hw_alv_u (hw_alv_r M) x hx) hxq).trans (va_up_ne _ _ hxq)
  refine lv_iconst (v := nI 0) hx hb dX10_laid_8 (by decide) ?_
  refine lv_istore_n (lv' := [(3, .int (nI 0)), (2, .ref q0), (0, .ref a), (1, .int (nI 5))]) hx hb dX10_laid_9 rfl hl (by decide) rfl (fun ls hl => ?_)
  suffices LP10 : ∀ z, z ≤ 8 → ∀ (H : Heap) (locs : List Loc) (ls : Array Slot), hw_iv Z s (va_up M4 ca_4 (hw_al Z 8 (hb_la C 5 z))) H locs → lv_has ls 10 [(3, .int (nI z)), (2, .ref q0), (0, .ref a), (1, .int (nI 5))] → W p l e ({ frames := 2, cells := 2, slots := 9, locals := 60 } : Room) s m ([.ref a, .int (nI 5)] : List Value).toArray below meth c H locs 2 9 Q (F0 m 10 ls []) from LP10 0 (by omega) _ _ _ (hI.eq (hw_id he_ca_4 rfl)) (lv_sub hl [0, 1, 2, 3] rfl)
  refine hw_loop ?_ (fun z hi10 ih10 => ?_)
  · intro H locs ls hI hl
    refine lv_iload_n hx hb dX10_laid_10 rfl (lv_at hl 0 rfl) ?_
    refine lv_bipush (v := nI 8) hx hb dX10_laid_11 (by decide) ?_
    refine lv_icmp_ge (tgt := 157) hx hb dX10_laid_13 (by decide) (fun _ => ?_) (fun hc => absurd (Int32.le_refl _) hc)
    suffices LP157 : ∀ n, n ≤ (hb_em (hb_la C 5 8) 8 0) → ∀ (H : Heap) (locs : List Loc) (ls : Array Slot), hw_iv Z s (va_up M4 ca_4 (hw_al Z 8 (hb_sf (hb_la C 5 8) n))) H locs → lv_has ls 10 [(2, .ref q0)] → W p l e ({ frames := 2, cells := 2, slots := 9, locals := 60 } : Room) s m ([.ref a, .int (nI 5)] : List Value).toArray below meth c H locs 2 9 Q (F0 m 157 ls []) from LP157 0 (by omega) _ _ _ (hI.eq (by rw [hb_sf_0 (hb_la_8 C (by decide) 8 (by decide))])) (lv_sub hl [1] rfl)
    refine hw_loop ?_ (fun n hi157 ih157 => ?_)
    · intro H locs ls hI hl
      refine lv_aload_n hx hb dX10_laid_157 rfl (lv_at hl 0 rfl) ?_
      refine hw_ci hI (hw_rV hx hb hml hown hts hk hI (m_X10_height l Z (va_up M4 ca_4 (hw_al Z 8 (hb_sf (hb_la C 5 8) (hb_em (hb_la C 5 8) 8 0)))) q0 ca_4 (hb_sf (hb_la C 5 8) (hb_em (hb_la C 5 8) 8 0)) (hw_up ha4 g4_q0_ca_4) (hw_us _ _ _)) cv_X10_37 (hw_up ha4 g4_q0_ca_4) rfl rfl ⟨rfl, rfl⟩ ⟨(Nat.le_of_ble_eq_true rfl), (Nat.le_of_ble_eq_true rfl)⟩ rfl hl.1 rfl (Nat.le_of_ble_eq_true rfl) ⟨(Nat.le_of_ble_eq_true rfl), (Nat.le_of_ble_eq_true rfl)⟩ dX10_laid_158) (fun r158 M158 H locs hR hI => ?_)
      obtain ⟨rfl, rfl⟩ := hR
      refine lv_if_le (tgt := 201) hx hb dX10_laid_161 (by decide) (fun hc => absurd hc (fun q => hb_sf_ht hz (by omega) (hb_ht_le0 q))) (fun _ => ?_)
      refine lv_aload_n hx hb dX10_laid_164 rfl (lv_at hl 0 rfl) ?_
      refine hw_get hx hb hts hown hk hI fd_X10_9 (hw_up ha4 g4_q0_ca_4) rfl dX10_laid_165 ?_
      refine lv_iconst (v := nI 0) hx hb dX10_laid_168 (by decide) ?_
      refine hw_lald hx hb hk hI (hw_us _ _ _) (j := 0) rfl (by omega) (by decide) dX10_laid_169 ?_
      refine lv_lconst (v := 0) hx hb dX10_laid_170 (by decide) ?_
      refine W.lcmp hx hb dX10_laid_171 ?_
      refine lv_if_ne (tgt := 201) hx hb dX10_laid_172 (by decide) (fun _ => ?_) (fun hc => absurd hc (fun q => hb_sf_nz hz ((lg_cmp_eq _ _).mp q)))
      have hfin : (fun r M' => ∃ sa : Nat, M r = none ∧ M sa = none ∧ r ≠ sa ∧ M' r = hw_ob 11 [.ref sa] ∧ M' sa = hw_al Z 8 (hb_laid C 5) ∧ ∀ x, M x ≠ none → M' x = M x) q0 (va_up M4 ca_4 (hw_al Z 8 (hb_sf (hb_la C 5 8) (hb_em (hb_la C 5 8) 8 0)))) := ⟨ca_4, b_q0, b_ca_4, g4_q0_ca_4, hw_up ha4 g4_q0_ca_4, (hw_us _ _ _).trans (hw_alc ((congrArg (hb_sf (hb_la C 5 8)) (if_neg hz).symm).trans (hb_sf_low hz))), fun x hx => by rw [va_up_ne _ _ (hw_xn hx b_ca_4)]; exact frq x hx (hw_xn hx b_q0)⟩
      refine lv_aload_n hx hb dX10_laid_201 rfl (lv_at hl 0 rfl) ?_
      exact hret hI hfin (Nat.le_of_ble_eq_true rfl) (Nat.le_of_ble_eq_true rfl) dX10_laid_202
    · intro H locs ls hI hl
      refine lv_aload_n hx hb dX10_laid_157 rfl (lv_at hl 0 rfl) ?_
      refine hw_ci hI (hw_rV hx hb hml hown hts hk hI (m_X10_height l Z (va_up M4 ca_4 (hw_al Z 8 (hb_sf (hb_la C 5 8) n))) q0 ca_4 (hb_sf (hb_la C 5 8) n) (hw_up ha4 g4_q0_ca_4) (hw_us _ _ _)) cv_X10_37 (hw_up ha4 g4_q0_ca_4) rfl rfl ⟨rfl, rfl⟩ ⟨(Nat.le_of_ble_eq_true rfl), (Nat.le_of_ble_eq_true rfl)⟩ rfl hl.1 rfl (Nat.le_of_ble_eq_true rfl) ⟨(Nat.le_of_ble_eq_true rfl), (Nat.le_of_ble_eq_true rfl)⟩ dX10_laid_158) (fun r158 M158 H locs hR hI => ?_)
      obtain ⟨rfl, rfl⟩ := hR
      refine lv_if_le (tgt := 201) hx hb dX10_laid_161 (by decide) (fun hc => absurd hc (fun q => hb_sf_ht hz (by omega) (hb_ht_le0 q))) (fun _ => ?_)
      refine lv_aload_n hx hb dX10_laid_164 rfl (lv_at hl 0 rfl) ?_
      refine hw_get hx hb hts hown hk hI fd_X10_9 (hw_up ha4 g4_q0_ca_4) rfl dX10_laid_165 ?_
      refine lv_iconst (v := nI 0) hx hb dX10_laid_168 (by decide) ?_
      refine hw_lald hx hb hk hI (hw_us _ _ _) (j := 0) rfl (by omega) (by decide) dX10_laid_169 ?_
      refine lv_lconst (v := 0) hx hb dX10_laid_170 (by decide) ?_
      refine W.lcmp hx hb dX10_laid_171 ?_
      refine lv_if_ne (tgt := 201) hx hb dX10_laid_172 (by decide) (fun hc => absurd ((lg_cmp_eq _ _).mpr (hb_sf_z hz hi157)) hc) (fun _ => ?_)
      refine lv_aload_n hx hb dX10_laid_175 rfl (lv_at hl 0 rfl) ?_
      refine hw_get hx hb hts hown hk hI fd_X10_9 (hw_up ha4 g4_q0_ca_4) rfl dX10_laid_176 ?_
      refine lv_iconst (v := nI 1) hx hb dX10_laid_179 (by decide) ?_
      refine lv_aload_n hx hb dX10_laid_180 rfl (lv_at hl 0 rfl) ?_
      refine hw_get hx hb hts hown hk hI fd_X10_9 (hw_up ha4 g4_q0_ca_4) rfl dX10_laid_181 ?_
      refine lv_iconst (v := nI 0) hx hb dX10_laid_184 (by decide) ?_
      refine lv_bipush (v := nI 7) hx hb dX10_laid_185 (by decide) ?_
      refine hw_copyl hx hb (by rw [hml]; exact hl.1.symm) hts hown hk hI (hw_win (w := .methodLink RX10 41 arraycopyName) (by decide +kernel) (by decide +kernel)) (hw_win (w := .native arraycopyName) (by decide +kernel) (by decide +kernel)) (hw_win (w := .static arraycopyName) (by decide +kernel) (by decide +kernel)) (hw_win (w := .initialized "java/lang/System") (by decide +kernel) (by decide +kernel)) (hw_us _ _ _) (hw_us _ _ _) (sp' := 1) (dp' := 0) (n' := 7) rfl rfl rfl (by decide) (by decide) (by decide) (by decide) (by decide) (Nat.le_of_ble_eq_true rfl) (Nat.le_of_ble_eq_true rfl) dX10_laid_187 (fun H locs hI => ?_)
      refine lv_aload_n hx hb dX10_laid_190 rfl (lv_at hl 0 rfl) ?_
      refine hw_get hx hb hts hown hk hI fd_X10_9 (hw_up (hw_up ha4 g4_q0_ca_4) g4_q0_ca_4) rfl dX10_laid_191 ?_
      refine lv_bipush (v := nI 7) hx hb dX10_laid_194 (by decide) ?_
      refine lv_lconst (v := 0) hx hb dX10_laid_196 (by decide) ?_
      refine hw_last hx hb hk hI (hw_us _ _ _) (j := 7) rfl (by omega) (by decide) dX10_laid_197 (fun H locs hI => ?_)
      refine lv_goto (tgt := 157) hx hb dX10_laid_198 (by decide) ?_
      exact ih157 _ _ _ (hI.eq (by rw [bx_uu, bx_uu, hb_sf_s])) (lv_sub hl [0] rfl)
  · intro H locs ls hI hl
    refine lv_iload_n hx hb dX10_laid_10 rfl (lv_at hl 0 rfl) ?_
    refine lv_bipush (v := nI 8) hx hb dX10_laid_11 (by decide) ?_
    refine lv_icmp_ge (tgt := 157) hx hb dX10_laid_13 (by decide) (fun hc => absurd hc (nI_ge hi10 (by decide))) (fun _ => ?_)
    refine lv_iconst (v := nI 0) hx hb dX10_laid_16 (by decide) ?_
    refine lv_istore (lv' := [(4, .int (nI 0)), (3, .int (nI z)), (2, .ref q0), (0, .ref a), (1, .int (nI 5))]) hx hb dX10_laid_17 hl (by decide) rfl (fun ls hl => ?_)
    suffices LP19 : ∀ i, i ≤ 64 → ∀ (H : Heap) (locs : List Loc) (ls : Array Slot), hw_iv Z s (va_up M4 ca_4 (hw_al Z 8 (hb_lz (C z) 5 z i (hb_la C 5 z)))) H locs → lv_has ls 10 [(4, .int (nI i)), (3, .int (nI z)), (2, .ref q0), (0, .ref a), (1, .int (nI 5))] → W p l e ({ frames := 2, cells := 2, slots := 9, locals := 60 } : Room) s m ([.ref a, .int (nI 5)] : List Value).toArray below meth c H locs 2 9 Q (F0 m 19 ls []) from LP19 0 (by omega) _ _ _ hI (lv_sub hl [0, 1, 2, 3, 4] rfl)
    refine hw_loop ?_ (fun i hi19 ih19 => ?_)
    · intro H locs ls hI hl
      refine lv_iload hx hb dX10_laid_19 (lv_at hl 0 rfl) ?_
      refine lv_bipush (v := nI 64) hx hb dX10_laid_21 (by decide) ?_
      refine lv_icmp_ge (tgt := 151) hx hb dX10_laid_23 (by decide) (fun _ => ?_) (fun hc => absurd (Int32.le_refl _) hc)
      refine lv_iinc (v := nI (z + 1)) (lv' := [(3, .int (nI (z + 1))), (4, .int (nI 64)), (2, .ref q0), (0, .ref a), (1, .int (nI 5))]) hx hb dX10_laid_151 hl (k := 1) rfl (hw_inc _) (by decide) rfl (fun ls hl => ?_)
      refine lv_goto (tgt := 10) hx hb dX10_laid_154 (by decide) ?_
      exact ih10 _ _ _ hI (lv_sub hl [0, 2, 3, 4] rfl)
    · intro H locs ls hI hl
      refine lv_iload hx hb dX10_laid_19 (lv_at hl 0 rfl) ?_
      refine lv_bipush (v := nI 64) hx hb dX10_laid_21 (by decide) ?_
      refine lv_icmp_ge (tgt := 151) hx hb dX10_laid_23 (by decide) (fun hc => absurd hc (nI_ge hi19 (by decide))) (fun _ => ?_)
      refine lv_aload_n hx hb dX10_laid_26 rfl (lv_at hl 3 rfl) ?_
      refine hw_get hx hb hts hown hk hI fd_X10_9 (hw_up f4_a g4_a_ca_4) rfl dX10_laid_27 ?_
      refine lv_iload_n hx hb dX10_laid_30 rfl (lv_at hl 1 rfl) ?_
      refine hw_lald hx hb hk hI (hw_up f4_ca g4_ca_ca_4) (j := z) rfl (by omega) (by decide) dX10_laid_31 ?_
      refine lv_iload hx hb dX10_laid_32 (lv_at hl 0 rfl) ?_
      refine hw_ci hI (hw_rSN hx hb hml hown hts hk hI (m_X11_has l Z (va_up M4 ca_4 (hw_al Z 8 (hb_lz (C z) 5 z i (hb_la C 5 z)))) (C z) i (by omega)) cn_X10_33 ⟨rfl, rfl⟩ ⟨(Nat.le_of_ble_eq_true rfl), (Nat.le_of_ble_eq_true rfl)⟩ rfl hl.1 rfl (Nat.le_of_ble_eq_true rfl) ⟨(Nat.le_of_ble_eq_true rfl), (Nat.le_of_ble_eq_true rfl)⟩ dX10_laid_34) (fun r34 M34 H locs hR hI => ?_)
      obtain ⟨rfl, rfl⟩ := hR
      refine lv_if_ne (tgt := 43) hx hb dX10_laid_37 (by decide) (fun c37 => ?_) (fun c37 => ?_)
      · refine lv_iload hx hb dX10_laid_43 (lv_at hl 0 rfl) ?_
        refine lv_bipush (v := nI 8) hx hb dX10_laid_45 (by decide) ?_
        refine lv_irem hx hb dX10_laid_47 (by decide) ?_
        refine hw_ti (pk_rem (by omega) (by decide) (by decide)) ?_
        refine lv_istore (lv' := [(5, .int (nI (i % 8))), (4, .int (nI i)), (3, .int (nI z)), (2, .ref q0), (0, .ref a), (1, .int (nI 5))]) hx hb dX10_laid_48 hl (by decide) rfl (fun ls hl => ?_)
        refine lv_iload hx hb dX10_laid_50 (lv_at hl 1 rfl) ?_
        refine lv_bipush (v := nI 8) hx hb dX10_laid_52 (by decide) ?_
        refine lv_idiv hx hb dX10_laid_54 (by decide) ?_
        refine hw_ti (pk_div (by omega) (by decide) (by decide)) ?_
        refine lv_istore (lv' := [(6, .int (nI (i / 8))), (5, .int (nI (i % 8))), (4, .int (nI i)), (3, .int (nI z)), (2, .ref q0), (0, .ref a), (1, .int (nI 5))]) hx hb dX10_laid_55 hl (by decide) rfl (fun ls hl => ?_)
        refine lv_iload_n hx hb dX10_laid_57 rfl (lv_at hl 6 rfl) ?_
        refine lv_iconst (v := nI 2) hx hb dX10_laid_58 (by decide) ?_
        refine lv_icmp_ge (tgt := 66) hx hb dX10_laid_59 (by decide) (fun _ => ?_) (fun hc => absurd (by decide) hc)
        refine lv_iload_n hx hb dX10_laid_66 rfl (lv_at hl 6 rfl) ?_
        refine lv_iconst (v := nI 4) hx hb dX10_laid_67 (by decide) ?_
        refine lv_icmp_ge (tgt := 76) hx hb dX10_laid_68 (by decide) (fun _ => ?_) (fun hc => absurd (by decide) hc)
        refine lv_iload hx hb dX10_laid_76 (lv_at hl 0 rfl) ?_
        refine lv_istore (lv' := [(7, .int (nI (i / 8))), (6, .int (nI (i / 8))), (5, .int (nI (i % 8))), (4, .int (nI i)), (3, .int (nI z)), (2, .ref q0), (0, .ref a), (1, .int (nI 5))]) hx hb dX10_laid_78 hl (by decide) rfl (fun ls hl => ?_)
        refine lv_iload_n hx hb dX10_laid_80 rfl (lv_at hl 7 rfl) ?_
        refine lv_iconst (v := nI 2) hx hb dX10_laid_81 (by decide) ?_
        refine lv_icmp_eq (tgt := 90) hx hb dX10_laid_82 (by decide) (fun hc => absurd hc (by decide)) (fun _ => ?_)
        refine lv_iload_n hx hb dX10_laid_85 rfl (lv_at hl 7 rfl) ?_
        refine lv_iconst (v := nI 3) hx hb dX10_laid_86 (by decide) ?_
        refine lv_icmp_ne (tgt := 94) hx hb dX10_laid_87 (by decide) (fun _ => ?_) (fun hc => absurd hc (by decide))
        refine lv_iload hx hb dX10_laid_94 (lv_at hl 2 rfl) ?_
        refine lv_istore (lv' := [(8, .int (nI (i % 8))), (7, .int (nI (i / 8))), (6, .int (nI (i / 8))), (5, .int (nI (i % 8))), (4, .int (nI i)), (3, .int (nI z)), (2, .ref q0), (0, .ref a), (1, .int (nI 5))]) hx hb dX10_laid_96 hl (by decide) rfl (fun ls hl => ?_)
        refine lv_iload_n hx hb dX10_laid_98 rfl (lv_at hl 8 rfl) ?_
        refine lv_iconst (v := nI 3) hx hb dX10_laid_99 (by decide) ?_
        refine lv_icmp_le (tgt := 107) hx hb dX10_laid_100 (by decide) (fun hc => absurd hc (by decide)) (fun _ => ?_)
        refine lv_iload_n hx hb dX10_laid_103 rfl (lv_at hl 5 rfl) ?_
        refine lv_goto (tgt := 109) hx hb dX10_laid_104 (by decide) ?_
        refine lv_istore (lv' := [(9, .int (nI z)), (8, .int (nI (i % 8))), (7, .int (nI (i / 8))), (6, .int (nI (i / 8))), (5, .int (nI (i % 8))), (4, .int (nI i)), (3, .int (nI z)), (2, .ref q0), (0, .ref a), (1, .int (nI 5))]) hx hb dX10_laid_109 hl (by decide) rfl (fun ls hl => ?_)
        refine lv_aload_n hx hb dX10_laid_111 rfl (lv_at hl 7 rfl) ?_
        refine hw_get hx hb hts hown hk hI fd_X10_9 (hw_up ha4 g4_q0_ca_4) rfl dX10_laid_112 ?_
        refine lv_iload_n hx hb dX10_laid_115 rfl (lv_at hl 9 rfl) ?_
        refine lv_iconst (v := nI 2) hx hb dX10_laid_116 (by decide) ?_
        refine lv_irem hx hb dX10_laid_117 (by decide) ?_
        refine lv_if_ne (tgt := 126) hx hb dX10_laid_118 (by decide) (fun _ => ?_) (fun hc => absurd hc (by decide))
        refine lv_bipush (v := nI 7) hx hb dX10_laid_126 (by decide) ?_
        refine lv_iload hx hb dX10_laid_128 (lv_at hl 2 rfl) ?_
        refine lv_isub hx hb dX10_laid_130 ?_
        refine hw_ti (pk_sub (by omega)) ?_
        refine lv_dup2_11 hx hb dX10_laid_131 rfl rfl ?_
        refine hw_lald hx hb hk hI (hw_us _ _ _) (j := (7 - i / 8)) rfl (by omega) (by decide) dX10_laid_132 ?_
        refine lv_lconst (v := 1) hx hb dX10_laid_133 (by decide) ?_
        refine lv_iload hx hb dX10_laid_134 (lv_at hl 1 rfl) ?_
        refine lv_bipush (v := nI 8) hx hb dX10_laid_136 (by decide) ?_
        refine lv_iload hx hb dX10_laid_138 (lv_at hl 0 rfl) ?_
        refine lv_imul hx hb dX10_laid_140 ?_
        refine hw_ti (pk_mul _ _) ?_
        refine lv_iadd hx hb dX10_laid_141 ?_
        refine hw_ti (nI_add _ _) ?_
        refine lv_lshl (v := hb_shl 1 (nI ((i % 8) + (8 * z)))) hx hb dX10_laid_142 rfl ?_
        refine lv_lor hx hb dX10_laid_143 ?_
        refine hw_last hx hb hk hI (hw_us _ _ _) (j := (7 - i / 8)) rfl (by omega) (by decide) dX10_laid_144 (fun H locs hI => ?_)
        refine lv_iinc (v := nI (i + 1)) (lv' := [(4, .int (nI (i + 1))), (9, .int (nI z)), (8, .int (nI (i % 8))), (7, .int (nI (i / 8))), (6, .int (nI (i / 8))), (5, .int (nI (i % 8))), (3, .int (nI z)), (2, .ref q0), (0, .ref a), (1, .int (nI 5))]) hx hb dX10_laid_145 hl (k := 5) rfl (hw_inc _) (by decide) rfl (fun ls hl => ?_)
        refine lv_goto (tgt := 19) hx hb dX10_laid_148 (by decide) ?_
        exact ih19 _ _ _ (hI.eq (hw_uu1 (hw_alc (hb_lz_y (hq_bn (hq_bt c37)))))) (lv_sub hl [0, 6, 7, 8, 9] rfl)
      · refine lv_goto (tgt := 145) hx hb dX10_laid_40 (by decide) ?_
        refine lv_iinc (v := nI (i + 1)) (lv' := [(4, .int (nI (i + 1))), (3, .int (nI z)), (2, .ref q0), (0, .ref a), (1, .int (nI 5))]) hx hb dX10_laid_145 hl (k := 0) rfl (hw_inc _) (by decide) rfl (fun ls hl => ?_)
        refine lv_goto (tgt := 19) hx hb dX10_laid_148 (by decide) ?_
        exact ih19 _ _ _ (hI.eq (by rw [hb_lz_n (hq_bf c37)])) (lv_sub hl [0, 1, 2, 3, 4] rfl)

theorem m_X10_laid (l : Launch) (Z : hw_Z) (M : hw_M) (a : Nat) (ca : Nat) (C : Nat → Int64) (way : Nat) (h0 : M a = hw_ob 11 [.ref ca]) (h1 : M ca = hw_al Z 8 C) (hw6 : way < 6) : Met l yX10_laid (hw_m yX10_laid cX10_laid 10 (some (.object "MeltPoolModel$Solid"))) ({ frames := 2, cells := 2, slots := 9, locals := 60 } : Room) (va_Pc [.ref a, .int (nI way)] (hw_P Z M)) (hw_Qr Z (fun r M' => ∃ sa : Nat, M r = none ∧ M sa = none ∧ r ≠ sa ∧ M' r = hw_ob 11 [.ref sa] ∧ M' sa = hw_al Z 8 (hb_laid C way) ∧ ∀ x, M x ≠ none → M' x = M x)) 2 9 (hw_A Z) := by
  rcases (show way = 0 ∨ way = 1 ∨ way = 2 ∨ way = 3 ∨ way = 4 ∨ way = 5 by omega) with rfl | rfl | rfl | rfl | rfl | rfl
  · by_cases hz : hb_ht (hb_la C 0 8) 8 = 0
    · exact m_X10_laid_0z l Z M a ca C h0 h1 hz
    · exact m_X10_laid_0s l Z M a ca C h0 h1 hz
  · by_cases hz : hb_ht (hb_la C 1 8) 8 = 0
    · exact m_X10_laid_1z l Z M a ca C h0 h1 hz
    · exact m_X10_laid_1s l Z M a ca C h0 h1 hz
  · by_cases hz : hb_ht (hb_la C 2 8) 8 = 0
    · exact m_X10_laid_2z l Z M a ca C h0 h1 hz
    · exact m_X10_laid_2s l Z M a ca C h0 h1 hz
  · by_cases hz : hb_ht (hb_la C 3 8) 8 = 0
    · exact m_X10_laid_3z l Z M a ca C h0 h1 hz
    · exact m_X10_laid_3s l Z M a ca C h0 h1 hz
  · by_cases hz : hb_ht (hb_la C 4 8) 8 = 0
    · exact m_X10_laid_4z l Z M a ca C h0 h1 hz
    · exact m_X10_laid_4s l Z M a ca C h0 h1 hz
  · by_cases hz : hb_ht (hb_la C 5 8) 8 = 0
    · exact m_X10_laid_5z l Z M a ca C h0 h1 hz
    · exact m_X10_laid_5s l Z M a ca C h0 h1 hz
