theorem cv_L_52 : hw_CV RL 52 yX5_ofLayer cX5_ofLayer 5 (some .long) 3 := ⟨cb_X5_ofLayer _ _, (hw_win (w := .methodLink RL 52 yX5_ofLayer) (by decide +kernel) (by decide +kernel)), (hw_win (w := .instanceMethod yX5_ofLayer) (by decide +kernel) (by decide +kernel)), (hw_win (w := .selects yX5_ofLayer.cls yX5_ofLayer yX5_ofLayer) (by decide +kernel) (by decide +kernel))⟩
set_option maxHeartbeats 4000000 in
set_option maxRecDepth 100000 in
theorem m_L_sum (l : Launch) (Z : hw_Z) (M : hw_M) (ad : hp_ad) (S : hs_S) (T : hp_T) (b1 : Nat → Prop) (i : Nat) (n : Nat) (hP : hp_ok Z b1 M ad S T) (hB : hs_b S) (hi : i < hs_np S) (hn8 : n ≤ 8) : Met l yL_sum (hw_m yL_sum cL_sum 6 (some .int)) ({ frames := 10, cells := 0, slots := 0, locals := 220 } : Room) (va_Pc [.ref (ad 0 0), .int (nI i), .int (nI n)] (hw_P Z M)) (hw_Qi Z (fun r M' => nI (hb_sm (fun k => hb_pc (hs_C S i k)) n) = r ∧ M = M')) 0 0 (hw_A Z) := by
  refine hw_ofi (by decide +kernel) rfl (Nat.le_of_ble_eq_true rfl) ?_
  intro p e s m below meth c ls Q hx hb hml hown hts hk hnm hI hl hret
  have hnp := hB.np
  have hnw := hB.nw
  have e0_0hP : M (ad 0 0) = hw_ob 6 [.ref (ad 0 1), .ref (ad 0 2), .ref (ad 0 3), .int (nI (hs_np S)), .int (nI (hs_nw S)), .int (hs_G S 0), .int (hs_G S 1), .ref (ad 0 4), .ref (ad 0 8)] := hP.m 0 0 (by decide)
  refine lv_iconst (v := nI 0) hx hb dL_sum_0 (by decide) ?_
  refine lv_istore_n (lv' := [(3, .int (nI 0)), (0, .ref (ad 0 0)), (1, .int (nI i)), (2, .int (nI n))]) hx hb dL_sum_1 rfl hl (by decide) rfl (fun ls hl => ?_)
  refine lv_iconst (v := nI 0) hx hb dL_sum_2 (by decide) ?_
  refine lv_istore (lv' := [(4, .int (nI 0)), (3, .int (nI 0)), (0, .ref (ad 0 0)), (1, .int (nI i)), (2, .int (nI n))]) hx hb dL_sum_3 hl (by decide) rfl (fun ls hl => ?_)
  suffices LP5 : ∀ z, z ≤ n → ∀ (H : Heap) (locs : List Loc) (ls : Array Slot), hw_iv Z s (M) H locs → lv_has ls 6 [(3, .int (nI (hb_sm (fun k => hb_pc (hs_C S i k)) z))), (4, .int (nI z)), (0, .ref (ad 0 0)), (1, .int (nI i)), (2, .int (nI n))] → W p l e ({ frames := 10, cells := 0, slots := 0, locals := 220 } : Room) s m ([.ref (ad 0 0), .int (nI i), .int (nI n)] : List Value).toArray below meth c H locs 0 0 Q (F0 m 5 ls []) from LP5 0 (by omega) _ _ _ hI (lv_sub hl [1, 0, 2, 3, 4] rfl)
  refine hw_loop ?_ (fun z hi5 ih5 => ?_)
  · intro H locs ls hI hl
    refine lv_iload hx hb dL_sum_5 (lv_at hl 1 rfl) ?_
    refine lv_iload_n hx hb dL_sum_7 rfl (lv_at hl 4 rfl) ?_
    refine lv_icmp_ge (tgt := 59) hx hb dL_sum_8 (by decide) (fun _ => ?_) (fun hc => absurd (Int32.le_refl _) hc)
    refine lv_iload_n hx hb dL_sum_59 rfl (lv_at hl 0 rfl) ?_
    exact hret hI (⟨rfl, rfl⟩) (Nat.le_of_ble_eq_true rfl) (Nat.le_of_ble_eq_true rfl) dL_sum_60
  · intro H locs ls hI hl
    refine lv_iload hx hb dL_sum_5 (lv_at hl 1 rfl) ?_
    refine lv_iload_n hx hb dL_sum_7 rfl (lv_at hl 4 rfl) ?_
    refine lv_icmp_ge (tgt := 59) hx hb dL_sum_8 (by decide) (fun hc => absurd hc (nI_ge hi5 (by omega))) (fun _ => ?_)
    refine lv_iconst (v := nI 0) hx hb dL_sum_11 (by decide) ?_
    refine lv_istore (lv' := [(5, .int (nI 0)), (3, .int (nI (hb_sm (fun k => hb_pc (hs_C S i k)) z))), (4, .int (nI z)), (0, .ref (ad 0 0)), (1, .int (nI i)), (2, .int (nI n))]) hx hb dL_sum_12 hl (by decide) rfl (fun ls hl => ?_)
    suffices LP14 : ∀ v, v ≤ 64 → ∀ (H : Heap) (locs : List Loc) (ls : Array Slot), hw_iv Z s (M) H locs → lv_has ls 6 [(3, .int (nI (hb_sm (fun k => hb_pc (hs_C S i k)) z + hb_ct (hb_bit (hs_C S i z)) v))), (5, .int (nI v)), (4, .int (nI z)), (0, .ref (ad 0 0)), (1, .int (nI i)), (2, .int (nI n))] → W p l e ({ frames := 10, cells := 0, slots := 0, locals := 220 } : Room) s m ([.ref (ad 0 0), .int (nI i), .int (nI n)] : List Value).toArray below meth c H locs 0 0 Q (F0 m 14 ls []) from LP14 0 (by omega) _ _ _ hI (lv_sub hl [1, 0, 2, 3, 4, 5] rfl)
    refine hw_loop ?_ (fun v hi14 ih14 => ?_)
    · intro H locs ls hI hl
      refine lv_iload hx hb dL_sum_14 (lv_at hl 1 rfl) ?_
      refine lv_bipush (v := nI 64) hx hb dL_sum_16 (by decide) ?_
      refine lv_icmp_ge (tgt := 53) hx hb dL_sum_18 (by decide) (fun _ => ?_) (fun hc => absurd (Int32.le_refl _) hc)
      refine lv_iinc (v := nI (z + 1)) (lv' := [(4, .int (nI (z + 1))), (3, .int (nI (hb_sm (fun k => hb_pc (hs_C S i k)) z + hb_ct (hb_bit (hs_C S i z)) 64))), (5, .int (nI 64)), (0, .ref (ad 0 0)), (1, .int (nI i)), (2, .int (nI n))]) hx hb dL_sum_53 hl (k := 2) rfl (hw_inc _) (by decide) rfl (fun ls hl => ?_)
      refine lv_goto (tgt := 5) hx hb dL_sum_56 (by decide) ?_
      exact ih5 _ _ _ hI (lv_sub hl [1, 0, 3, 4, 5] rfl)
    · intro H locs ls hI hl
      refine lv_iload hx hb dL_sum_14 (lv_at hl 1 rfl) ?_
      refine lv_bipush (v := nI 64) hx hb dL_sum_16 (by decide) ?_
      refine lv_icmp_ge (tgt := 53) hx hb dL_sum_18 (by decide) (fun hc => absurd hc (nI_ge hi14 (by decide))) (fun _ => ?_)
      refine lv_iload_n hx hb dL_sum_21 rfl (lv_at hl 0 rfl) ?_
      refine lv_aload_n hx hb dL_sum_22 rfl (lv_at hl 3 rfl) ?_
      refine lv_iload_n hx hb dL_sum_23 rfl (lv_at hl 4 rfl) ?_
      refine lv_iload hx hb dL_sum_24 (lv_at hl 2 rfl) ?_
      refine lv_iconst (v := nI 0) hx hb dL_sum_26 (by decide) ?_
      refine hw_cl' hI (hw_rV hx hb hml hown hts hk hI (m_X5_ofLayer_k l Z M ad S T b1 i z 0 hP hB hi (by omega) (by decide)) cv_L_52 e0_0hP rfl rfl ⟨rfl, rfl⟩ ⟨(Nat.le_of_ble_eq_true rfl), (Nat.le_of_ble_eq_true rfl)⟩ rfl hl.1 rfl (Nat.le_of_ble_eq_true rfl) ⟨(Nat.le_of_ble_eq_true rfl), (Nat.le_of_ble_eq_true rfl)⟩ dL_sum_27) (fun r27 M27 H locs hR hI => ?_)
      obtain ⟨rfl, rfl⟩ := hR
      refine lv_iload hx hb dL_sum_30 (lv_at hl 1 rfl) ?_
      refine lv_lushr (v := hb_ushr (hs_ol S i z 0) (nI v)) hx hb dL_sum_32 rfl ?_
      refine lv_lconst (v := 1) hx hb dL_sum_33 (by decide) ?_
      refine lv_land hx hb dL_sum_34 ?_
      refine lv_lconst (v := 1) hx hb dL_sum_35 (by decide) ?_
      refine W.lcmp hx hb dL_sum_36 ?_
      refine lv_if_ne (tgt := 44) hx hb dL_sum_37 (by decide) (fun c37 => ?_) (fun c37 => ?_)
      · refine lv_iconst (v := nI 0) hx hb dL_sum_44 (by decide) ?_
        refine lv_iadd hx hb dL_sum_45 ?_
        refine hw_ti (nI_add _ _) ?_
        refine lv_istore_n (lv' := [(3, .int (nI ((hb_sm (fun k => hb_pc (hs_C S i k)) z + hb_ct (hb_bit (hs_C S i z)) v) + 0))), (5, .int (nI v)), (4, .int (nI z)), (0, .ref (ad 0 0)), (1, .int (nI i)), (2, .int (nI n))]) hx hb dL_sum_46 rfl hl (by decide) rfl (fun ls hl => ?_)
        refine lv_iinc (v := nI (v + 1)) (lv' := [(5, .int (nI (v + 1))), (3, .int (nI ((hb_sm (fun k => hb_pc (hs_C S i k)) z + hb_ct (hb_bit (hs_C S i z)) v) + 0))), (4, .int (nI z)), (0, .ref (ad 0 0)), (1, .int (nI i)), (2, .int (nI n))]) hx hb dL_sum_47 hl (k := 1) rfl (hw_inc _) (by decide) rfl (fun ls hl => ?_)
        refine lv_goto (tgt := 14) hx hb dL_sum_50 (by decide) ?_
        exact ih14 _ _ _ hI (lv_sub hl [1, 0, 2, 3, 4, 5] (by rw [show hb_ct (hb_bit (hs_C S i z)) (v + 1) = _ from lq_f (by omega) c37]; rfl))
      · refine lv_iconst (v := nI 1) hx hb dL_sum_40 (by decide) ?_
        refine lv_goto (tgt := 45) hx hb dL_sum_41 (by decide) ?_
        refine lv_iadd hx hb dL_sum_45 ?_
        refine hw_ti (nI_add _ _) ?_
        refine lv_istore_n (lv' := [(3, .int (nI ((hb_sm (fun k => hb_pc (hs_C S i k)) z + hb_ct (hb_bit (hs_C S i z)) v) + 1))), (5, .int (nI v)), (4, .int (nI z)), (0, .ref (ad 0 0)), (1, .int (nI i)), (2, .int (nI n))]) hx hb dL_sum_46 rfl hl (by decide) rfl (fun ls hl => ?_)
        refine lv_iinc (v := nI (v + 1)) (lv' := [(5, .int (nI (v + 1))), (3, .int (nI ((hb_sm (fun k => hb_pc (hs_C S i k)) z + hb_ct (hb_bit (hs_C S i z)) v) + 1))), (4, .int (nI z)), (0, .ref (ad 0 0)), (1, .int (nI i)), (2, .int (nI n))]) hx hb dL_sum_47 hl (k := 1) rfl (hw_inc _) (by decide) rfl (fun ls hl => ?_)
        refine lv_goto (tgt := 14) hx hb dL_sum_50 (by decide) ?_
        exact ih14 _ _ _ hI (lv_sub hl [1, 0, 2, 3, 4, 5] (by rw [show hb_ct (hb_bit (hs_C S i z)) (v + 1) = _ from lq_t (by omega) c37]; rfl))
