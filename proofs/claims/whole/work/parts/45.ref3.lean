theorem hr_fs (f : Nat → Nat) (v q : Nat) : va_up (hc_f f v) v (some q) = hc_f (va_up f v q) (v + 1) := by
  funext j
  unfold hc_f
  by_cases h : j = v
  · subst h
    rw [va_up_self, if_pos (Nat.lt_succ_self _), va_up_self]
  · rw [va_up_ne _ _ h]
    by_cases h2 : j < v
    · rw [if_pos h2, if_pos (by omega), va_up_ne _ _ h]
    · rw [if_neg h2, if_neg (by omega)]
theorem hr_f1 (f : Nat → Nat) (q : Nat) : va_up (fun _ => none) 0 (some q) = hc_f (va_up f 0 q) (0 + 1) := by
  rw [← hr_fs, ← hc_f0]
theorem hr_ds {n z a : Nat} : hr_d (n + 1) z a = a := if_neg (by omega)
theorem hr_Fn {M M' : hw_M} {q : Nat} (h : hr_F M M') (hq : M' q = none) : M q = none := by
  cases hm : M q with
  | none => rfl
  | some e => exact absurd ((h q (hw_sn hm)).symm.trans hq) (by rw [hm]; intro z; cases z)
theorem fn_X11_48 : hw_FN RX11 48 9 9 [.null, .int 0, .null, .int 0, .int 0, .int 0, .int 0, .int 0, .int 0] := ⟨RX8, TX8, tyX8, rfl, iw_X8, tyX8_ok, (hw_win (w := .classLink RX11 48 RX8) (by decide +kernel) (by decide +kernel)), (hw_win (w := .instantiable RX8 9) (by decide +kernel) (by decide +kernel)), (hw_win (w := .initialized RX8) (by decide +kernel) (by decide +kernel)), fun j hj => by rcases (show j = 0 ∨ j = 1 ∨ j = 2 ∨ j = 3 ∨ j = 4 ∨ j = 5 ∨ j = 6 ∨ j = 7 ∨ j = 8 by omega) with rfl | rfl | rfl | rfl | rfl | rfl | rfl | rfl | rfl <;> rfl⟩
theorem cb_X8_init (own : String) (index : Nat) : hw_CB own index yX8_init cX8_init 1 none 0 := ⟨⟨by decide +kernel, by decide +kernel, by decide +kernel⟩, (hw_win (w := .code yX8_init cX8_init 1 none) (by decide +kernel) (by decide +kernel)), (hw_win (w := .initialized yX8_init.cls) (by decide +kernel) (by decide +kernel))⟩
theorem cn_X11_50 : hw_CIN RX11 50 yX8_init "MeltPoolModel" cX8_init 1 0 := ⟨cb_X8_init _ _, by decide +kernel, (hw_win (w := .instanceMethod yX8_init) (by decide +kernel) (by decide +kernel)), rfl⟩
theorem cb_Jx4a65c_add_9ea2d (own : String) (index : Nat) : hw_CB own index yJx4a65c_add_9ea2d cJx4a65c_add_9ea2d 2 (some .boolean) 1 := ⟨⟨by decide +kernel, by decide +kernel, by decide +kernel⟩, (hw_win (w := .code yJx4a65c_add_9ea2d cJx4a65c_add_9ea2d 2 (some .boolean)) (by decide +kernel) (by decide +kernel)), (hw_win (w := .initialized yJx4a65c_add_9ea2d.cls) (by decide +kernel) (by decide +kernel))⟩
theorem cf_X11_51 : hw_CF RX11 51 "java/util/ArrayList" ⟨"java/util/List", "add", "(Ljava/lang/Object;)Z"⟩ yJx4a65c_add_9ea2d cJx4a65c_add_9ea2d 2 (some .boolean) 1 := ⟨⟨by decide +kernel, by decide +kernel, by decide +kernel⟩, (hw_win (w := .code yJx4a65c_add_9ea2d cJx4a65c_add_9ea2d 2 (some .boolean)) (by decide +kernel) (by decide +kernel)), (hw_win (w := .initialized yJx4a65c_add_9ea2d.cls) (by decide +kernel) (by decide +kernel)), (hw_win (w := .methodLink RX11 51 ⟨"java/util/List", "add", "(Ljava/lang/Object;)Z"⟩) (by decide +kernel) (by decide +kernel)), (hw_win (w := .selects "java/util/ArrayList" ⟨"java/util/List", "add", "(Ljava/lang/Object;)Z"⟩ yJx4a65c_add_9ea2d) (by decide +kernel) (by decide +kernel)), (hw_win (w := .instanceMethod yJx4a65c_add_9ea2d) (by decide +kernel) (by decide +kernel)), by decide +kernel⟩
set_option maxHeartbeats 4000000 in
set_option maxRecDepth 100000 in
theorem m_X11_piece_z (l : Launch) (Z : hw_Z) (M : hw_M) (ad : hp_ad) (S : hs_S) (X : hr_X) (b1 : Nat → Prop) (hP : hr_ok Z b1 M ad S X) (hV : hv_ok S) (hA : ∀ a, b1 a → M a ≠ none) (hz : hs_np S = 0) : Met l yX11_piece (hw_m yX11_piece cX11_piece 1 (some .int)) ({ frames := 8, cells := 6, slots := 110, locals := 250 } : Room) (va_Pc [.ref (ad 0 0)] (hw_P Z M)) (hw_Qi Z (hr_R Z b1 M ad (st_piece S))) 6 110 (hw_A Z) := by
  refine hw_ofi (by decide +kernel) rfl (Nat.le_of_ble_eq_true rfl) ?_
  intro p e s m below meth c ls Q hx hb hml hown hts hk hnm hI hl hret
  have hB := hV.b
  have hnp := hB.np
  have hnw := hB.nw
  have e0_0hP : M (ad 0 0) = hw_ob 12 [.int (hr_th X), .int (hs_G S 0), .int (hs_G S 1), .ref (ad 0 2), .ref (ad 0 3), .ref (ad 0 1)] := hP.m 0 0 (show 0 < 4 by decide)
  refine lv_aload_n hx hb dX11_piece_0 rfl (lv_at hl 0 rfl) ?_
  refine lv_iconst (v := nI 0) hx hb dX11_piece_1 (by decide) ?_
  refine hw_put (fs' := [.int (nI 0), .int (hs_G S 0), .int (hs_G S 1), .ref (ad 0 2), .ref (ad 0 3), .ref (ad 0 1)]) hx hb hts hown hk hI fp_X11_26 e0_0hP (Nat.le_of_ble_eq_true rfl) rfl rfl rfl dX11_piece_2 (fun H locs hI => ?_)
  obtain ⟨M1, hM1⟩ : ∃ Y : hw_M, Y = va_up M (ad 0 0) (hw_ob 12 [.int (nI 0), .int (hs_G S 0), .int (hs_G S 1), .ref (ad 0 2), .ref (ad 0 3), .ref (ad 0 1)]) := ⟨_, rfl⟩
  replace hI := hI.eq hM1.symm
  obtain ⟨X1, hX1⟩ : ∃ Y : hr_X, Y = (nI 0, X.2) := ⟨_, rfl⟩
  have hP1 : hr_ok Z b1 M1 ad S X1 := by rw [hM1, hX1]; exact hP.th (nI 0)
  have ht1 : hr_th X1 = nI 0 := by rw [hX1]; rfl
  have hgr1 : hr_gr X1 = hr_gr X := by rw [hX1]; rfl
  have hqq1 : hr_qq X1 = hr_qq X := by rw [hX1]; rfl
  have fr1 : ∀ a, b1 a → M1 a = M a := fun a ha => by rw [hM1]; exact va_up_ne _ _ (hP.f (k := 0) (i := 0) (show 0 < 4 by decide) ha)
  have hA1 : ∀ a, b1 a → M1 a ≠ none := fun a ha => by rw [fr1 a ha]; exact hA a ha
  clear hP hX1
  have e0_0hP1 : M1 (ad 0 0) = hw_ob 12 [.int (hr_th X1), .int (hs_G S 0), .int (hs_G S 1), .ref (ad 0 2), .ref (ad 0 3), .ref (ad 0 1)] := hP1.m 0 0 (show 0 < 4 by decide)
  have e0_2hP1 : M1 (ad 0 2) = hw_ob 0 [.int (hr_mc X1 0), .ref Z.2.2.2, .int (nI 0)] := by
    have q := hP1.m 0 2 (show 2 < 4 by decide)
    rw [show hr_e Z ad S X1 0 2 = hw_ob 0 [.int (hr_mc X1 0), .ref (hr_d (hs_np S) Z.2.2.2 (ad 11 0)), .int (nI (hs_np S))] from rfl, hr_dz hz, hz] at q
    exact q
  refine lv_aload_n hx hb dX11_piece_5 rfl (lv_at hl 0 rfl) ?_
  refine hw_get hx hb hts hown hk hI fd_X11_10 e0_0hP1 rfl dX11_piece_6 ?_
  refine hw_cFi hI (hw_rF hx hb hml hown hts hk hI (m_Jx4a65c_size_8abf5 l Z M1 (ad 0 2) 0 (hr_mc X1 0) (.ref Z.2.2.2) e0_2hP1) cf_X11_34 e0_2hP1 rfl rfl ⟨rfl, rfl⟩ ⟨(Nat.le_of_ble_eq_true rfl), (Nat.le_of_ble_eq_true rfl)⟩ rfl hl.1 rfl (Nat.le_of_ble_eq_true rfl) ⟨(Nat.le_of_ble_eq_true rfl), (Nat.le_of_ble_eq_true rfl)⟩ dX11_piece_9) (fun r9 M9 H locs hR hI => ?_)
  obtain ⟨rfl, rfl⟩ := hR
  refine lv_iconst (v := nI 4) hx hb dX11_piece_14 (by decide) ?_
  refine lv_icmp_ne (tgt := 24) hx hb dX11_piece_15 (by decide) (fun _ => ?_) (fun hc => absurd hc (by decide))
  refine lv_aload_n hx hb dX11_piece_24 rfl (lv_at hl 0 rfl) ?_
  refine hw_get hx hb hts hown hk hI fd_X11_10 e0_0hP1 rfl dX11_piece_25 ?_
  refine hw_new hx hb hts hown hk hI fn_X11_48 (Nat.le_of_ble_eq_true rfl) (Nat.le_of_ble_eq_true rfl) dX11_piece_28 (fun q28 H hq28 hI => ?_)
  refine lv_dup hx hb dX11_piece_31 rfl ?_
  refine hw_cv hI (hw_rIN hx hb hml hown hts hk hI (m_X8_init l Z (va_up M1 q28 (hw_ob 9 [.null, .int 0, .null, .int 0, .int 0, .int 0, .int 0, .int 0, .int 0])) q28 (hw_us _ _ _)) cn_X11_50 ⟨rfl, rfl⟩ ⟨(Nat.le_of_ble_eq_true rfl), (Nat.le_of_ble_eq_true rfl)⟩ rfl hl.1 rfl (Nat.le_of_ble_eq_true rfl) ⟨(Nat.le_of_ble_eq_true rfl), (Nat.le_of_ble_eq_true rfl)⟩ dX11_piece_32) (fun M32 H locs hR hI => ?_)
  obtain ⟨so32, ca32, gr32, wa32, ⟨n_so32, n_ca32, n_gr32, n_wa32⟩, ⟨d1, d2, d3, d4, d5, d6⟩, ⟨e_so32, e_ca32, e_gr32, e_wa32⟩, e_q28, hF32⟩ := hR
  have x28 : ∀ x, M1 x ≠ none → M32 x = M1 x := fun x hx => (hF32 x (by rw [va_up_ne _ _ (hw_xn hx hq28)]; exact hx) (hw_xn hx hq28)).trans (va_up_ne _ _ (hw_xn hx hq28))
  have hF_M32 : hr_F M1 M32 := x28
  have hP_M32 : hr_ok Z b1 M32 ad S X1 := hP1.F hF_M32
  have fr_M32 : ∀ a, b1 a → M32 a = M a := fun a ha => (hF_M32 a (hA1 a ha)).trans (fr1 a ha)
  have hA_M32 : ∀ a, b1 a → M32 a ≠ none := fun a ha => by rw [fr_M32 a ha]; exact hA a ha
  have e0_0hP_M32 : M32 (ad 0 0) = hw_ob 12 [.int (hr_th X1), .int (hs_G S 0), .int (hs_G S 1), .ref (ad 0 2), .ref (ad 0 3), .ref (ad 0 1)] := hP_M32.m 0 0 (show 0 < 4 by decide)
  have e0_2hP_M32 : M32 (ad 0 2) = hw_ob 0 [.int (hr_mc X1 0), .ref Z.2.2.2, .int (nI 0)] := by
    have q := hP_M32.m 0 2 (show 2 < 4 by decide)
    rw [show hr_e Z ad S X1 0 2 = hw_ob 0 [.int (hr_mc X1 0), .ref (hr_d (hs_np S) Z.2.2.2 (ad 11 0)), .int (nI (hs_np S))] from rfl, hr_dz hz, hz] at q
    exact q
  have f_so32 := hw_fr n_so32
  have f_ca32 := hw_fr n_ca32
  have f_gr32 := hw_fr n_gr32
  have f_wa32 := hw_fr n_wa32
  refine hw_cFi hI (hw_rF hx hb hml hown hts hk hI (m_add_P0 l Z M32 (ad 0 2) q28 (hr_mc X1 0) ([.ref so32, .int (nI 0), .ref gr32, .int 0, .int (-1), .int (-1), .int (-1), .int (-1), .int (-1)]) e0_2hP_M32 e_q28) cf_X11_51 e0_2hP_M32 rfl rfl ⟨rfl, rfl⟩ ⟨(Nat.le_of_ble_eq_true rfl), (Nat.le_of_ble_eq_true rfl)⟩ rfl hl.1 rfl (Nat.le_of_ble_eq_true rfl) ⟨(Nat.le_of_ble_eq_true rfl), (Nat.le_of_ble_eq_true rfl)⟩ dX11_piece_35) (fun r35 M35 H locs hR hI => ?_)
  obtain ⟨d35, hn35, hr35, rfl⟩ := hR
  refine lv_pop hx hb dX11_piece_40 rfl ?_
  refine lv_aload_n hx hb dX11_piece_41 rfl (lv_at hl 0 rfl) ?_
  refine hw_get hx hb hts hown hk hI fd_X11_10 (hw_up (hw_up e0_0hP_M32 (hw_nn e0_0hP_M32 hn35)) (hP_M32.n (k := 0) (i := 0) (k' := 0) (i' := 2) (show 0 < 4 by decide) (show 2 < 4 by decide) (fun q => absurd q.2 (by decide)))) rfl dX11_piece_42 ?_
  refine hw_cFi hI (hw_rF hx hb hml hown hts hk hI (m_Jx4a65c_size_8abf5 l Z (va_up (va_up M32 d35 (hw_ar Z 7 10 (va_up (fun _ => none) 0 (some q28)))) (ad 0 2) (hw_ob 0 [.int ((hr_mc X1 0) + nI 1), .ref d35, .int (nI 1)])) (ad 0 2) 1 ((hr_mc X1 0) + nI 1) (.ref d35) (hw_us _ _ _)) cf_X11_34 (hw_us _ _ _) rfl rfl ⟨rfl, rfl⟩ ⟨(Nat.le_of_ble_eq_true rfl), (Nat.le_of_ble_eq_true rfl)⟩ rfl hl.1 rfl (Nat.le_of_ble_eq_true rfl) ⟨(Nat.le_of_ble_eq_true rfl), (Nat.le_of_ble_eq_true rfl)⟩ dX11_piece_45) (fun r45 M45 H locs hR hI => ?_)
  obtain ⟨rfl, rfl⟩ := hR
  refine lv_iconst (v := nI 1) hx hb dX11_piece_50 (by decide) ?_
  refine lv_isub hx hb dX11_piece_51 ?_
  refine hw_ti (show nI 1 - nI 1 = nI (hs_np S) by rw [hz]; decide) ?_
  have hn4 : hs_np S < 4 := by have h : ¬ hs_np S = 4 := fun q => (by omega); omega
  obtain ⟨z0, z3, zC⟩ := hV.new (Nat.le_refl _) hn4
  obtain ⟨r1, r2, r4, r5, r6, r7, r8, r9, rD, rU, rW⟩ := hV.raw hn4 z0
  rw [hz] at z0 z3 zC r1 r2 r4 r5 r6 r7 r8 r9 rD rU rW
  have hok : hr_ok Z b1 (va_up (va_up M32 d35 (hw_ar Z 7 10 (va_up (fun _ => none) 0 (some q28)))) (ad 0 2) (hw_ob 0 [.int ((hr_mc X1 0) + nI 1), .ref d35, .int (nI 1)])) (hr_ua (hr_ua (hr_ua (hr_ua (hr_ua (hr_ua ad 1 (va_up (ad 1) (hs_np S) q28)) 2 (va_up (ad 2) (hs_np S) so32)) 3 (va_up (ad 3) (hs_np S) ca32)) 4 (va_up (ad 4) (hs_np S) gr32)) 5 (va_up (ad 5) (hs_np S) wa32)) 11 (va_up (ad 11) 0 d35)) (hs_sp S (hs_np S + 1)) (hr_smc X1 0 (hr_mc X1 0 + nI 1)) := by
    refine hr_new (nn := fun k i => (k = 1 ∧ i = (hs_np S)) ∨ (k = 2 ∧ i = (hs_np S)) ∨ (k = 3 ∧ i = (hs_np S)) ∨ (k = 4 ∧ i = (hs_np S)) ∨ (k = 5 ∧ i = (hs_np S)) ∨ (k = 11 ∧ i = 0)) hP1 hA1 (fun k i hi => ?_) (fun k i k' i' h h' he => ?_) ?_ hP_M32.q hP_M32.g
    · rcases k with _ | _ | _ | _ | _ | _ | _ | _ | _ | _ | _ | _ | _ | k
      · exact Or.inl ⟨hi, rfl⟩
      · by_cases q0 : i = (hs_np S)
        · subst q0
          exact Or.inr ⟨Or.inl ⟨rfl, rfl⟩, (congrArg M1 (va_up_self _ _ _)).trans hq28⟩
        · exact Or.inl ⟨(show i < hs_np S by have h9 : i < hs_np S + 1 := hi; omega), va_up_ne _ _ q0⟩
      · by_cases q0 : i = (hs_np S)
        · subst q0
          exact Or.inr ⟨Or.inr (Or.inl ⟨rfl, rfl⟩), (congrArg M1 (va_up_self _ _ _)).trans f_so32.1⟩
        · exact Or.inl ⟨(show i < hs_np S by have h9 : i < hs_np S + 1 := hi; omega), va_up_ne _ _ q0⟩
      · by_cases q0 : i = (hs_np S)
        · subst q0
          exact Or.inr ⟨Or.inr (Or.inr (Or.inl ⟨rfl, rfl⟩)), (congrArg M1 (va_up_self _ _ _)).trans f_ca32.1⟩
        · exact Or.inl ⟨(show i < hs_np S by have h9 : i < hs_np S + 1 := hi; omega), va_up_ne _ _ q0⟩
      · by_cases q0 : i = (hs_np S)
        · subst q0
          exact Or.inr ⟨Or.inr (Or.inr (Or.inr (Or.inl ⟨rfl, rfl⟩))), (congrArg M1 (va_up_self _ _ _)).trans f_gr32.1⟩
        · exact Or.inl ⟨(show i < hs_np S by have h9 : i < hs_np S + 1 := hi; omega), va_up_ne _ _ q0⟩
      · by_cases q0 : i = (hs_np S)
        · subst q0
          exact Or.inr ⟨Or.inr (Or.inr (Or.inr (Or.inr (Or.inl ⟨rfl, rfl⟩)))), (congrArg M1 (va_up_self _ _ _)).trans f_wa32.1⟩
        · exact Or.inl ⟨(show i < hs_np S by have h9 : i < hs_np S + 1 := hi; omega), va_up_ne _ _ q0⟩
      · exact Or.inl ⟨hi, rfl⟩
      · exact Or.inl ⟨hi, rfl⟩
      · exact Or.inl ⟨hi, rfl⟩
      · exact Or.inl ⟨hi, rfl⟩
      · exact Or.inl ⟨hi, rfl⟩
      · by_cases q0 : i = 0
        · subst q0
          exact Or.inr ⟨Or.inr (Or.inr (Or.inr (Or.inr (Or.inr (⟨rfl, rfl⟩))))), (hr_Fn hF_M32 hn35)⟩
        · exact Or.inl ⟨(absurd hi.1 q0), va_up_ne _ _ q0⟩
      · exact Or.inl ⟨hi, rfl⟩
      · exact hi.elim
    · rcases h with ⟨rfl, rfl⟩ | ⟨rfl, rfl⟩ | ⟨rfl, rfl⟩ | ⟨rfl, rfl⟩ | ⟨rfl, rfl⟩ | ⟨rfl, rfl⟩ <;> rcases h' with ⟨rfl, rfl⟩ | ⟨rfl, rfl⟩ | ⟨rfl, rfl⟩ | ⟨rfl, rfl⟩ | ⟨rfl, rfl⟩ | ⟨rfl, rfl⟩
      · exact ⟨rfl, rfl⟩
      · exact absurd (((va_up_self _ _ _ : (va_up (ad 1) (hs_np S) q28) (hs_np S) = q28).symm.trans he).trans (va_up_self _ _ _ : (va_up (ad 2) (hs_np S) so32) (hs_np S) = so32)) (Ne.symm f_so32.2)
      · exact absurd (((va_up_self _ _ _ : (va_up (ad 1) (hs_np S) q28) (hs_np S) = q28).symm.trans he).trans (va_up_self _ _ _ : (va_up (ad 3) (hs_np S) ca32) (hs_np S) = ca32)) (Ne.symm f_ca32.2)
      · exact absurd (((va_up_self _ _ _ : (va_up (ad 1) (hs_np S) q28) (hs_np S) = q28).symm.trans he).trans (va_up_self _ _ _ : (va_up (ad 4) (hs_np S) gr32) (hs_np S) = gr32)) (Ne.symm f_gr32.2)
      · exact absurd (((va_up_self _ _ _ : (va_up (ad 1) (hs_np S) q28) (hs_np S) = q28).symm.trans he).trans (va_up_self _ _ _ : (va_up (ad 5) (hs_np S) wa32) (hs_np S) = wa32)) (Ne.symm f_wa32.2)
      · exact absurd (((va_up_self _ _ _ : (va_up (ad 1) (hs_np S) q28) (hs_np S) = q28).symm.trans he).trans (va_up_self _ _ _ : (va_up (ad 11) 0 d35) 0 = d35)) (hw_nn e_q28 hn35)
      · exact absurd (((va_up_self _ _ _ : (va_up (ad 2) (hs_np S) so32) (hs_np S) = so32).symm.trans he).trans (va_up_self _ _ _ : (va_up (ad 1) (hs_np S) q28) (hs_np S) = q28)) f_so32.2
      · exact ⟨rfl, rfl⟩
      · exact absurd (((va_up_self _ _ _ : (va_up (ad 2) (hs_np S) so32) (hs_np S) = so32).symm.trans he).trans (va_up_self _ _ _ : (va_up (ad 3) (hs_np S) ca32) (hs_np S) = ca32)) d1
      · exact absurd (((va_up_self _ _ _ : (va_up (ad 2) (hs_np S) so32) (hs_np S) = so32).symm.trans he).trans (va_up_self _ _ _ : (va_up (ad 4) (hs_np S) gr32) (hs_np S) = gr32)) d2
      · exact absurd (((va_up_self _ _ _ : (va_up (ad 2) (hs_np S) so32) (hs_np S) = so32).symm.trans he).trans (va_up_self _ _ _ : (va_up (ad 5) (hs_np S) wa32) (hs_np S) = wa32)) d3
      · exact absurd (((va_up_self _ _ _ : (va_up (ad 2) (hs_np S) so32) (hs_np S) = so32).symm.trans he).trans (va_up_self _ _ _ : (va_up (ad 11) 0 d35) 0 = d35)) (hw_nn e_so32 hn35)
      · exact absurd (((va_up_self _ _ _ : (va_up (ad 3) (hs_np S) ca32) (hs_np S) = ca32).symm.trans he).trans (va_up_self _ _ _ : (va_up (ad 1) (hs_np S) q28) (hs_np S) = q28)) f_ca32.2
      · exact absurd (((va_up_self _ _ _ : (va_up (ad 3) (hs_np S) ca32) (hs_np S) = ca32).symm.trans he).trans (va_up_self _ _ _ : (va_up (ad 2) (hs_np S) so32) (hs_np S) = so32)) (Ne.symm d1)
      · exact ⟨rfl, rfl⟩
      · exact absurd (((va_up_self _ _ _ : (va_up (ad 3) (hs_np S) ca32) (hs_np S) = ca32).symm.trans he).trans (va_up_self _ _ _ : (va_up (ad 4) (hs_np S) gr32) (hs_np S) = gr32)) d4
      · exact absurd (((va_up_self _ _ _ : (va_up (ad 3) (hs_np S) ca32) (hs_np S) = ca32).symm.trans he).trans (va_up_self _ _ _ : (va_up (ad 5) (hs_np S) wa32) (hs_np S) = wa32)) d5
      · exact absurd (((va_up_self _ _ _ : (va_up (ad 3) (hs_np S) ca32) (hs_np S) = ca32).symm.trans he).trans (va_up_self _ _ _ : (va_up (ad 11) 0 d35) 0 = d35)) (hw_nn e_ca32 hn35)
      · exact absurd (((va_up_self _ _ _ : (va_up (ad 4) (hs_np S) gr32) (hs_np S) = gr32).symm.trans he).trans (va_up_self _ _ _ : (va_up (ad 1) (hs_np S) q28) (hs_np S) = q28)) f_gr32.2
      · exact absurd (((va_up_self _ _ _ : (va_up (ad 4) (hs_np S) gr32) (hs_np S) = gr32).symm.trans he).trans (va_up_self _ _ _ : (va_up (ad 2) (hs_np S) so32) (hs_np S) = so32)) (Ne.symm d2)
      · exact absurd (((va_up_self _ _ _ : (va_up (ad 4) (hs_np S) gr32) (hs_np S) = gr32).symm.trans he).trans (va_up_self _ _ _ : (va_up (ad 3) (hs_np S) ca32) (hs_np S) = ca32)) (Ne.symm d4)
      · exact ⟨rfl, rfl⟩
      · exact absurd (((va_up_self _ _ _ : (va_up (ad 4) (hs_np S) gr32) (hs_np S) = gr32).symm.trans he).trans (va_up_self _ _ _ : (va_up (ad 5) (hs_np S) wa32) (hs_np S) = wa32)) d6
      · exact absurd (((va_up_self _ _ _ : (va_up (ad 4) (hs_np S) gr32) (hs_np S) = gr32).symm.trans he).trans (va_up_self _ _ _ : (va_up (ad 11) 0 d35) 0 = d35)) (hw_nn e_gr32 hn35)
      · exact absurd (((va_up_self _ _ _ : (va_up (ad 5) (hs_np S) wa32) (hs_np S) = wa32).symm.trans he).trans (va_up_self _ _ _ : (va_up (ad 1) (hs_np S) q28) (hs_np S) = q28)) f_wa32.2
      · exact absurd (((va_up_self _ _ _ : (va_up (ad 5) (hs_np S) wa32) (hs_np S) = wa32).symm.trans he).trans (va_up_self _ _ _ : (va_up (ad 2) (hs_np S) so32) (hs_np S) = so32)) (Ne.symm d3)
      · exact absurd (((va_up_self _ _ _ : (va_up (ad 5) (hs_np S) wa32) (hs_np S) = wa32).symm.trans he).trans (va_up_self _ _ _ : (va_up (ad 3) (hs_np S) ca32) (hs_np S) = ca32)) (Ne.symm d5)
      · exact absurd (((va_up_self _ _ _ : (va_up (ad 5) (hs_np S) wa32) (hs_np S) = wa32).symm.trans he).trans (va_up_self _ _ _ : (va_up (ad 4) (hs_np S) gr32) (hs_np S) = gr32)) (Ne.symm d6)
      · exact ⟨rfl, rfl⟩
      · exact absurd (((va_up_self _ _ _ : (va_up (ad 5) (hs_np S) wa32) (hs_np S) = wa32).symm.trans he).trans (va_up_self _ _ _ : (va_up (ad 11) 0 d35) 0 = d35)) (hw_nn e_wa32 hn35)
      · exact absurd (((va_up_self _ _ _ : (va_up (ad 11) 0 d35) 0 = d35).symm.trans he).trans (va_up_self _ _ _ : (va_up (ad 1) (hs_np S) q28) (hs_np S) = q28)) (Ne.symm (hw_nn e_q28 hn35))
      · exact absurd (((va_up_self _ _ _ : (va_up (ad 11) 0 d35) 0 = d35).symm.trans he).trans (va_up_self _ _ _ : (va_up (ad 2) (hs_np S) so32) (hs_np S) = so32)) (Ne.symm (hw_nn e_so32 hn35))
      · exact absurd (((va_up_self _ _ _ : (va_up (ad 11) 0 d35) 0 = d35).symm.trans he).trans (va_up_self _ _ _ : (va_up (ad 3) (hs_np S) ca32) (hs_np S) = ca32)) (Ne.symm (hw_nn e_ca32 hn35))
      · exact absurd (((va_up_self _ _ _ : (va_up (ad 11) 0 d35) 0 = d35).symm.trans he).trans (va_up_self _ _ _ : (va_up (ad 4) (hs_np S) gr32) (hs_np S) = gr32)) (Ne.symm (hw_nn e_gr32 hn35))
      · exact absurd (((va_up_self _ _ _ : (va_up (ad 11) 0 d35) 0 = d35).symm.trans he).trans (va_up_self _ _ _ : (va_up (ad 5) (hs_np S) wa32) (hs_np S) = wa32)) (Ne.symm (hw_nn e_wa32 hn35))
      · exact ⟨rfl, rfl⟩
    · intro k i hi
      rcases k with _ | _ | _ | _ | _ | _ | _ | _ | _ | _ | _ | _ | _ | k
      · rcases (show i = 0 ∨ i = 1 ∨ i = 2 ∨ i = 3 by have h4 : i < 4 := hi; omega) with rfl | rfl | rfl | rfl
        · show (va_up (va_up M32 d35 (hw_ar Z 7 10 (va_up (fun _ => none) 0 (some q28)))) (ad 0 2) (hw_ob 0 [.int ((hr_mc X1 0) + nI 1), .ref d35, .int (nI 1)])) (ad 0 0) = hw_ob 12 [.int (hr_th X1), .int (hs_G S 0), .int (hs_G S 1), .ref (ad 0 2), .ref (ad 0 3), .ref (ad 0 1)]
          rw [va_up_ne _ _ (hP_M32.n (k := 0) (i := 0) (k' := 0) (i' := 2) (show 0 < 4 by decide) (show 2 < 4 by decide) (fun q => absurd q.2 (by decide))), va_up_ne _ _ (hw_xn (hP1.a 0 0 (show 0 < 4 by decide)) (hr_Fn hF_M32 hn35))]
          refine (hP_M32.m 0 0 (show 0 < 4 by decide)).trans ?_
          first | rfl | (simp only [va_up_self, va_up_ne _ _ (show 1 ≠ 0 by omega)]; done) | (simp only [va_up_self, va_up_ne _ _ (show 1 ≠ 0 by omega)]; rfl) | (simp only [va_up_self, va_up_ne _ _ (show 1 ≠ 0 by omega), z0, z3, zC, r1, r2, r4, r5, r6, r7, r8, rD, rU, rW, hr_en_raw r4, hr_fs, hr_ds, hz, hr_f1 (ad 1)]; done)
        · show (va_up (va_up M32 d35 (hw_ar Z 7 10 (va_up (fun _ => none) 0 (some q28)))) (ad 0 2) (hw_ob 0 [.int ((hr_mc X1 0) + nI 1), .ref d35, .int (nI 1)])) (ad 0 1) = hw_ar Z 6 2 (fun j => some (ad 7 j))
          rw [va_up_ne _ _ (hP_M32.n (k := 0) (i := 1) (k' := 0) (i' := 2) (show 1 < 4 by decide) (show 2 < 4 by decide) (fun q => absurd q.2 (by decide))), va_up_ne _ _ (hw_xn (hP1.a 0 1 (show 1 < 4 by decide)) (hr_Fn hF_M32 hn35))]
          refine (hP_M32.m 0 1 (show 1 < 4 by decide)).trans ?_
          first | rfl | (simp only [va_up_self, va_up_ne _ _ (show 1 ≠ 0 by omega)]; done) | (simp only [va_up_self, va_up_ne _ _ (show 1 ≠ 0 by omega)]; rfl) | (simp only [va_up_self, va_up_ne _ _ (show 1 ≠ 0 by omega), z0, z3, zC, r1, r2, r4, r5, r6, r7, r8, rD, rU, rW, hr_en_raw r4, hr_fs, hr_ds, hz, hr_f1 (ad 1)]; done)
        · show (va_up (va_up M32 d35 (hw_ar Z 7 10 (va_up (fun _ => none) 0 (some q28)))) (ad 0 2) (hw_ob 0 [.int ((hr_mc X1 0) + nI 1), .ref d35, .int (nI 1)])) (ad 0 2) = hw_ob 0 [.int ((va_up (hr_mc X1) 0 (hr_mc X1 0 + nI 1)) 0), .ref (hr_d (hs_np S + 1) Z.2.2.2 ((va_up (ad 11) 0 d35) 0)), .int (nI (hs_np S + 1))]
          refine (hw_us _ _ _).trans ?_
          first | rfl | (simp only [va_up_self, va_up_ne _ _ (show 1 ≠ 0 by omega)]; done) | (simp only [va_up_self, va_up_ne _ _ (show 1 ≠ 0 by omega)]; rfl) | (simp only [va_up_self, va_up_ne _ _ (show 1 ≠ 0 by omega), z0, z3, zC, r1, r2, r4, r5, r6, r7, r8, rD, rU, rW, hr_en_raw r4, hr_fs, hr_ds, hz, hr_f1 (ad 1)]; done) | (simp only [va_up_self, va_up_ne _ _ (show 1 ≠ 0 by omega), z0, z3, zC, r1, r2, r4, r5, r6, r7, r8, rD, rU, rW, hr_en_raw r4, hr_fs, hr_ds, hz, hr_f1 (ad 1)]; rfl)
        · show (va_up (va_up M32 d35 (hw_ar Z 7 10 (va_up (fun _ => none) 0 (some q28)))) (ad 0 2) (hw_ob 0 [.int ((hr_mc X1 0) + nI 1), .ref d35, .int (nI 1)])) (ad 0 3) = hw_ob 0 [.int ((va_up (hr_mc X1) 0 (hr_mc X1 0 + nI 1)) 1), .ref (hr_d (hs_nw S) Z.2.2.2 (ad 12 0)), .int (nI (hs_nw S))]
          rw [va_up_ne _ _ (hP_M32.n (k := 0) (i := 3) (k' := 0) (i' := 2) (show 3 < 4 by decide) (show 2 < 4 by decide) (fun q => absurd q.2 (by decide))), va_up_ne _ _ (hw_xn (hP1.a 0 3 (show 3 < 4 by decide)) (hr_Fn hF_M32 hn35))]
          refine (hP_M32.m 0 3 (show 3 < 4 by decide)).trans ?_
          first | rfl | (simp only [va_up_self, va_up_ne _ _ (show 1 ≠ 0 by omega)]; done) | (simp only [va_up_self, va_up_ne _ _ (show 1 ≠ 0 by omega)]; rfl) | (simp only [va_up_self, va_up_ne _ _ (show 1 ≠ 0 by omega), z0, z3, zC, r1, r2, r4, r5, r6, r7, r8, rD, rU, rW, hr_en_raw r4, hr_fs, hr_ds, hz, hr_f1 (ad 1)]; done)
      · by_cases q0 : i = (hs_np S)
        · subst q0
          show (va_up (va_up M32 d35 (hw_ar Z 7 10 (va_up (fun _ => none) 0 (some q28)))) (ad 0 2) (hw_ob 0 [.int ((hr_mc X1 0) + nI 1), .ref d35, .int (nI 1)])) ((va_up (ad 1) (hs_np S) q28) (hs_np S)) = hw_ob 9 [.ref ((va_up (ad 2) (hs_np S) so32) (hs_np S)), .int (hs_P S (hs_np S) 0), .ref ((va_up (ad 4) (hs_np S) gr32) (hs_np S)), .int (hs_P S (hs_np S) 3), .int (hs_P S (hs_np S) 4), .int (hs_P S (hs_np S) 5), .int (hs_P S (hs_np S) 6), .int (hs_P S (hs_np S) 7), .int (hs_P S (hs_np S) 8)]
          rw [show (va_up (ad 1) (hs_np S) q28) (hs_np S) = q28 from va_up_self _ _ _]
          refine (hw_up (hw_up e_q28 (hw_nn e_q28 hn35)) (hw_noo e_q28 e0_2hP_M32 (by decide))).trans ?_
          first | rfl | (simp only [va_up_self, va_up_ne _ _ (show 1 ≠ 0 by omega)]; done) | (simp only [va_up_self, va_up_ne _ _ (show 1 ≠ 0 by omega)]; rfl) | (simp only [va_up_self, va_up_ne _ _ (show 1 ≠ 0 by omega), z0, z3, zC, r1, r2, r4, r5, r6, r7, r8, rD, rU, rW, hr_en_raw r4, hr_fs, hr_ds, hz, hr_f1 (ad 1)]; done) | (simp only [va_up_self, va_up_ne _ _ (show 1 ≠ 0 by omega), z0, z3, zC, r1, r2, r4, r5, r6, r7, r8, rD, rU, rW, hr_en_raw r4, hr_fs, hr_ds, hz, hr_f1 (ad 1)]; rfl)
        have hi0 := hi
        replace hi0 : hr_p S X1 1 i := (show i < hs_np S by have h9 : i < hs_np S + 1 := hi; omega)
        show (va_up (va_up M32 d35 (hw_ar Z 7 10 (va_up (fun _ => none) 0 (some q28)))) (ad 0 2) (hw_ob 0 [.int ((hr_mc X1 0) + nI 1), .ref d35, .int (nI 1)])) ((va_up (ad 1) (hs_np S) q28) i) = hw_ob 9 [.ref ((va_up (ad 2) (hs_np S) so32) i), .int (hs_P S i 0), .ref ((va_up (ad 4) (hs_np S) gr32) i), .int (hs_P S i 3), .int (hs_P S i 4), .int (hs_P S i 5), .int (hs_P S i 6), .int (hs_P S i 7), .int (hs_P S i 8)]
        rw [va_up_ne _ _ q0]
        rw [va_up_ne _ _ (hP_M32.n (k := 1) (i := i) (k' := 0) (i' := 2) hi0 (show 2 < 4 by decide) (fun q => absurd q.1 (by decide))), va_up_ne _ _ (hw_xn (hP1.a 1 i hi0) (hr_Fn hF_M32 hn35))]
        refine (hP_M32.m 1 i hi0).trans ?_
        first | rfl | (simp only [va_up_ne _ _ q0]; done) | (simp only [va_up_ne _ _ q0]; rfl)
      · by_cases q0 : i = (hs_np S)
        · subst q0
          show (va_up (va_up M32 d35 (hw_ar Z 7 10 (va_up (fun _ => none) 0 (some q28)))) (ad 0 2) (hw_ob 0 [.int ((hr_mc X1 0) + nI 1), .ref d35, .int (nI 1)])) ((va_up (ad 2) (hs_np S) so32) (hs_np S)) = hw_ob 11 [.ref ((va_up (ad 3) (hs_np S) ca32) (hs_np S))]
          rw [show (va_up (ad 2) (hs_np S) so32) (hs_np S) = so32 from va_up_self _ _ _]
          refine (hw_up (hw_up e_so32 (hw_nn e_so32 hn35)) (hw_noo e_so32 e0_2hP_M32 (by decide))).trans ?_
          first | rfl | (simp only [va_up_self, va_up_ne _ _ (show 1 ≠ 0 by omega)]; done) | (simp only [va_up_self, va_up_ne _ _ (show 1 ≠ 0 by omega)]; rfl) | (simp only [va_up_self, va_up_ne _ _ (show 1 ≠ 0 by omega), z0, z3, zC, r1, r2, r4, r5, r6, r7, r8, rD, rU, rW, hr_en_raw r4, hr_fs, hr_ds, hz, hr_f1 (ad 1)]; done) | (simp only [va_up_self, va_up_ne _ _ (show 1 ≠ 0 by omega), z0, z3, zC, r1, r2, r4, r5, r6, r7, r8, rD, rU, rW, hr_en_raw r4, hr_fs, hr_ds, hz, hr_f1 (ad 1)]; rfl)
        have hi0 := hi
        replace hi0 : hr_p S X1 2 i := (show i < hs_np S by have h9 : i < hs_np S + 1 := hi; omega)
        show (va_up (va_up M32 d35 (hw_ar Z 7 10 (va_up (fun _ => none) 0 (some q28)))) (ad 0 2) (hw_ob 0 [.int ((hr_mc X1 0) + nI 1), .ref d35, .int (nI 1)])) ((va_up (ad 2) (hs_np S) so32) i) = hw_ob 11 [.ref ((va_up (ad 3) (hs_np S) ca32) i)]
        rw [va_up_ne _ _ q0]
        rw [va_up_ne _ _ (hP_M32.n (k := 2) (i := i) (k' := 0) (i' := 2) hi0 (show 2 < 4 by decide) (fun q => absurd q.1 (by decide))), va_up_ne _ _ (hw_xn (hP1.a 2 i hi0) (hr_Fn hF_M32 hn35))]
        refine (hP_M32.m 2 i hi0).trans ?_
        first | rfl | (simp only [va_up_ne _ _ q0]; done) | (simp only [va_up_ne _ _ q0]; rfl)
      · by_cases q0 : i = (hs_np S)
        · subst q0
          show (va_up (va_up M32 d35 (hw_ar Z 7 10 (va_up (fun _ => none) 0 (some q28)))) (ad 0 2) (hw_ob 0 [.int ((hr_mc X1 0) + nI 1), .ref d35, .int (nI 1)])) ((va_up (ad 3) (hs_np S) ca32) (hs_np S)) = hw_al Z 8 (hs_C S (hs_np S))
          rw [show (va_up (ad 3) (hs_np S) ca32) (hs_np S) = ca32 from va_up_self _ _ _]
          refine (hw_up (hw_up e_ca32 (hw_nn e_ca32 hn35)) (Ne.symm (hw_noa e0_2hP_M32 e_ca32))).trans ?_
          first | rfl | (simp only [va_up_self, va_up_ne _ _ (show 1 ≠ 0 by omega)]; done) | (simp only [va_up_self, va_up_ne _ _ (show 1 ≠ 0 by omega)]; rfl) | (simp only [va_up_self, va_up_ne _ _ (show 1 ≠ 0 by omega), z0, z3, zC, r1, r2, r4, r5, r6, r7, r8, rD, rU, rW, hr_en_raw r4, hr_fs, hr_ds, hz, hr_f1 (ad 1)]; done) | (simp only [va_up_self, va_up_ne _ _ (show 1 ≠ 0 by omega), z0, z3, zC, r1, r2, r4, r5, r6, r7, r8, rD, rU, rW, hr_en_raw r4, hr_fs, hr_ds, hz, hr_f1 (ad 1)]; rfl)
        have hi0 := hi
        replace hi0 : hr_p S X1 3 i := (show i < hs_np S by have h9 : i < hs_np S + 1 := hi; omega)
        show (va_up (va_up M32 d35 (hw_ar Z 7 10 (va_up (fun _ => none) 0 (some q28)))) (ad 0 2) (hw_ob 0 [.int ((hr_mc X1 0) + nI 1), .ref d35, .int (nI 1)])) ((va_up (ad 3) (hs_np S) ca32) i) = hw_al Z 8 (hs_C S i)
        rw [va_up_ne _ _ q0]
        rw [va_up_ne _ _ (hP_M32.n (k := 3) (i := i) (k' := 0) (i' := 2) hi0 (show 2 < 4 by decide) (fun q => absurd q.1 (by decide))), va_up_ne _ _ (hw_xn (hP1.a 3 i hi0) (hr_Fn hF_M32 hn35))]
        refine (hP_M32.m 3 i hi0).trans ?_
        first | rfl | (simp only [va_up_ne _ _ q0]; done) | (simp only [va_up_ne _ _ q0]; rfl)
      · by_cases q0 : i = (hs_np S)
        · subst q0
          show (va_up (va_up M32 d35 (hw_ar Z 7 10 (va_up (fun _ => none) 0 (some q28)))) (ad 0 2) (hw_ob 0 [.int ((hr_mc X1 0) + nI 1), .ref d35, .int (nI 1)])) ((va_up (ad 4) (hs_np S) gr32) (hs_np S)) = hw_ob 7 [.double (hr_en (hs_P S (hs_np S))), .ref ((va_up (ad 5) (hs_np S) wa32) (hs_np S)), .double (hs_U S (hs_np S)), .int (hs_P S (hs_np S) 1), .int (hs_P S (hs_np S) 2), .int (nI (hs_D S (hs_np S)))]
          rw [show (va_up (ad 4) (hs_np S) gr32) (hs_np S) = gr32 from va_up_self _ _ _]
          refine (hw_up (hw_up e_gr32 (hw_nn e_gr32 hn35)) (hw_noo e_gr32 e0_2hP_M32 (by decide))).trans ?_
          first | rfl | (simp only [va_up_self, va_up_ne _ _ (show 1 ≠ 0 by omega)]; done) | (simp only [va_up_self, va_up_ne _ _ (show 1 ≠ 0 by omega)]; rfl) | (simp only [va_up_self, va_up_ne _ _ (show 1 ≠ 0 by omega), z0, z3, zC, r1, r2, r4, r5, r6, r7, r8, rD, rU, rW, hr_en_raw r4, hr_fs, hr_ds, hz, hr_f1 (ad 1)]; done) | (simp only [va_up_self, va_up_ne _ _ (show 1 ≠ 0 by omega), z0, z3, zC, r1, r2, r4, r5, r6, r7, r8, rD, rU, rW, hr_en_raw r4, hr_fs, hr_ds, hz, hr_f1 (ad 1)]; rfl)
        have hi0 := hi
        replace hi0 : hr_p S X1 4 i := (show i < hs_np S by have h9 : i < hs_np S + 1 := hi; omega)
        show (va_up (va_up M32 d35 (hw_ar Z 7 10 (va_up (fun _ => none) 0 (some q28)))) (ad 0 2) (hw_ob 0 [.int ((hr_mc X1 0) + nI 1), .ref d35, .int (nI 1)])) ((va_up (ad 4) (hs_np S) gr32) i) = hw_ob 7 [.double (hr_en (hs_P S i)), .ref ((va_up (ad 5) (hs_np S) wa32) i), .double (hs_U S i), .int (hs_P S i 1), .int (hs_P S i 2), .int (nI (hs_D S i))]
        rw [va_up_ne _ _ q0]
        rw [va_up_ne _ _ (hP_M32.n (k := 4) (i := i) (k' := 0) (i' := 2) hi0 (show 2 < 4 by decide) (fun q => absurd q.1 (by decide))), va_up_ne _ _ (hw_xn (hP1.a 4 i hi0) (hr_Fn hF_M32 hn35))]
        refine (hP_M32.m 4 i hi0).trans ?_
        first | rfl | (simp only [va_up_ne _ _ q0]; done) | (simp only [va_up_ne _ _ q0]; rfl)
      · by_cases q0 : i = (hs_np S)
        · subst q0
          show (va_up (va_up M32 d35 (hw_ar Z 7 10 (va_up (fun _ => none) 0 (some q28)))) (ad 0 2) (hw_ob 0 [.int ((hr_mc X1 0) + nI 1), .ref d35, .int (nI 1)])) ((va_up (ad 5) (hs_np S) wa32) (hs_np S)) = hw_ad Z 64 (hs_W S (hs_np S))
          rw [show (va_up (ad 5) (hs_np S) wa32) (hs_np S) = wa32 from va_up_self _ _ _]
          refine (hw_up (hw_up e_wa32 (hw_nn e_wa32 hn35)) (Ne.symm (hw_noa e0_2hP_M32 e_wa32))).trans ?_
          first | rfl | (simp only [va_up_self, va_up_ne _ _ (show 1 ≠ 0 by omega)]; done) | (simp only [va_up_self, va_up_ne _ _ (show 1 ≠ 0 by omega)]; rfl) | (simp only [va_up_self, va_up_ne _ _ (show 1 ≠ 0 by omega), z0, z3, zC, r1, r2, r4, r5, r6, r7, r8, rD, rU, rW, hr_en_raw r4, hr_fs, hr_ds, hz, hr_f1 (ad 1)]; done) | (simp only [va_up_self, va_up_ne _ _ (show 1 ≠ 0 by omega), z0, z3, zC, r1, r2, r4, r5, r6, r7, r8, rD, rU, rW, hr_en_raw r4, hr_fs, hr_ds, hz, hr_f1 (ad 1)]; rfl)
        have hi0 := hi
        replace hi0 : hr_p S X1 5 i := (show i < hs_np S by have h9 : i < hs_np S + 1 := hi; omega)
        show (va_up (va_up M32 d35 (hw_ar Z 7 10 (va_up (fun _ => none) 0 (some q28)))) (ad 0 2) (hw_ob 0 [.int ((hr_mc X1 0) + nI 1), .ref d35, .int (nI 1)])) ((va_up (ad 5) (hs_np S) wa32) i) = hw_ad Z 64 (hs_W S i)
        rw [va_up_ne _ _ q0]
        rw [va_up_ne _ _ (hP_M32.n (k := 5) (i := i) (k' := 0) (i' := 2) hi0 (show 2 < 4 by decide) (fun q => absurd q.1 (by decide))), va_up_ne _ _ (hw_xn (hP1.a 5 i hi0) (hr_Fn hF_M32 hn35))]
        refine (hP_M32.m 5 i hi0).trans ?_
        first | rfl | (simp only [va_up_ne _ _ q0]; done) | (simp only [va_up_ne _ _ q0]; rfl)
      · show (va_up (va_up M32 d35 (hw_ar Z 7 10 (va_up (fun _ => none) 0 (some q28)))) (ad 0 2) (hw_ob 0 [.int ((hr_mc X1 0) + nI 1), .ref d35, .int (nI 1)])) (ad 6 i) = hw_ob 10 [.int (hs_V S i 0), .int (hs_V S i 1), .int (hs_V S i 2), .int (hs_V S i 3), .int (hs_V S i 4)]
        rw [va_up_ne _ _ (hP_M32.n (k := 6) (i := i) (k' := 0) (i' := 2) hi (show 2 < 4 by decide) (fun q => absurd q.1 (by decide))), va_up_ne _ _ (hw_xn (hP1.a 6 i hi) (hr_Fn hF_M32 hn35))]
        refine (hP_M32.m 6 i hi).trans ?_
        first | rfl
      · show (va_up (va_up M32 d35 (hw_ar Z 7 10 (va_up (fun _ => none) 0 (some q28)))) (ad 0 2) (hw_ob 0 [.int ((hr_mc X1 0) + nI 1), .ref d35, .int (nI 1)])) (ad 7 i) = hw_ob 8 [.int (hs_M S i 0), .int (hs_M S i 1), .int (hs_M S i 2), .int (hs_M S i 3), .ref (ad 8 i)]
        rw [va_up_ne _ _ (hP_M32.n (k := 7) (i := i) (k' := 0) (i' := 2) hi (show 2 < 4 by decide) (fun q => absurd q.1 (by decide))), va_up_ne _ _ (hw_xn (hP1.a 7 i hi) (hr_Fn hF_M32 hn35))]
        refine (hP_M32.m 7 i hi).trans ?_
        first | rfl
      · show (va_up (va_up M32 d35 (hw_ar Z 7 10 (va_up (fun _ => none) 0 (some q28)))) (ad 0 2) (hw_ob 0 [.int ((hr_mc X1 0) + nI 1), .ref d35, .int (nI 1)])) (ad 8 i) = hw_ob 0 [.int ((va_up (hr_mc X1) 0 (hr_mc X1 0 + nI 1)) (2 + i)), .ref (if hr_gr X1 i then ad 9 i else Z.2.2.2), .int (nI (hs_N S i))]
        rw [va_up_ne _ _ (hP_M32.n (k := 8) (i := i) (k' := 0) (i' := 2) hi (show 2 < 4 by decide) (fun q => absurd q.1 (by decide))), va_up_ne _ _ (hw_xn (hP1.a 8 i hi) (hr_Fn hF_M32 hn35))]
        refine (hP_M32.m 8 i hi).trans ?_
        first | rfl | (simp only [va_up_ne _ _ (show 2 + i ≠ 0 by omega)]; done) | (simp only [va_up_ne _ _ (show 2 + i ≠ 0 by omega)]; rfl)
      · show (va_up (va_up M32 d35 (hw_ar Z 7 10 (va_up (fun _ => none) 0 (some q28)))) (ad 0 2) (hw_ob 0 [.int ((hr_mc X1 0) + nI 1), .ref d35, .int (nI 1)])) (ad 9 i) = hw_ar Z 7 10 (hc_f (fun j => ad 10 (i + 2 * j)) (hs_N S i))
        rw [va_up_ne _ _ (hP_M32.n (k := 9) (i := i) (k' := 0) (i' := 2) hi (show 2 < 4 by decide) (fun q => absurd q.1 (by decide))), va_up_ne _ _ (hw_xn (hP1.a 9 i hi) (hr_Fn hF_M32 hn35))]
        refine (hP_M32.m 9 i hi).trans ?_
        first | rfl
      · show (va_up (va_up M32 d35 (hw_ar Z 7 10 (va_up (fun _ => none) 0 (some q28)))) (ad 0 2) (hw_ob 0 [.int ((hr_mc X1 0) + nI 1), .ref d35, .int (nI 1)])) (ad 10 i) = hw_ai Z 3 (hr_qq X1 (i % 2) (i / 2))
        rw [va_up_ne _ _ (hP_M32.n (k := 10) (i := i) (k' := 0) (i' := 2) hi (show 2 < 4 by decide) (fun q => absurd q.1 (by decide))), va_up_ne _ _ (hw_xn (hP1.a 10 i hi) (hr_Fn hF_M32 hn35))]
        refine (hP_M32.m 10 i hi).trans ?_
        first | rfl
      · by_cases q0 : i = 0
        · subst q0
          show (va_up (va_up M32 d35 (hw_ar Z 7 10 (va_up (fun _ => none) 0 (some q28)))) (ad 0 2) (hw_ob 0 [.int ((hr_mc X1 0) + nI 1), .ref d35, .int (nI 1)])) ((va_up (ad 11) 0 d35) 0) = hw_ar Z 7 10 (hc_f ((va_up (ad 1) (hs_np S) q28)) (hs_np S + 1))
          rw [show (va_up (ad 11) 0 d35) 0 = d35 from va_up_self _ _ _]
          refine (hw_up (hw_us _ _ _) (Ne.symm (hw_nn e0_2hP_M32 hn35))).trans ?_
          first | rfl | (simp only [va_up_self, va_up_ne _ _ (show 1 ≠ 0 by omega)]; done) | (simp only [va_up_self, va_up_ne _ _ (show 1 ≠ 0 by omega)]; rfl) | (simp only [va_up_self, va_up_ne _ _ (show 1 ≠ 0 by omega), z0, z3, zC, r1, r2, r4, r5, r6, r7, r8, rD, rU, rW, hr_en_raw r4, hr_fs, hr_ds, hz, hr_f1 (ad 1)]; done) | (simp only [va_up_self, va_up_ne _ _ (show 1 ≠ 0 by omega), z0, z3, zC, r1, r2, r4, r5, r6, r7, r8, rD, rU, rW, hr_en_raw r4, hr_fs, hr_ds, hz, hr_f1 (ad 1)]; rfl)
        exact (absurd hi.1 q0)
      · show (va_up (va_up M32 d35 (hw_ar Z 7 10 (va_up (fun _ => none) 0 (some q28)))) (ad 0 2) (hw_ob 0 [.int ((hr_mc X1 0) + nI 1), .ref d35, .int (nI 1)])) (ad 12 i) = hw_ar Z 7 10 (hc_f (ad 6) (hs_nw S))
        rw [va_up_ne _ _ (hP_M32.n (k := 12) (i := i) (k' := 0) (i' := 2) hi (show 2 < 4 by decide) (fun q => absurd q.1 (by decide))), va_up_ne _ _ (hw_xn (hP1.a 12 i hi) (hr_Fn hF_M32 hn35))]
        refine (hP_M32.m 12 i hi).trans ?_
        first | rfl
      · exact hi.elim
  have fr_hok : ∀ a, b1 a → (va_up (va_up M32 d35 (hw_ar Z 7 10 (va_up (fun _ => none) 0 (some q28)))) (ad 0 2) (hw_ob 0 [.int ((hr_mc X1 0) + nI 1), .ref d35, .int (nI 1)])) a = M a := fun a ha => by rw [va_up_ne _ _ (hP_M32.f (k := 0) (i := 2) (show 2 < 4 by decide) ha), va_up_ne _ _ (hw_xn (hA1 a ha) (hr_Fn hF_M32 hn35))]; exact fr_M32 a ha
  have hfin : hr_R Z b1 M ad (st_piece S) (nI (hs_np S)) (va_up (va_up M32 d35 (hw_ar Z 7 10 (va_up (fun _ => none) 0 (some q28)))) (ad 0 2) (hw_ob 0 [.int ((hr_mc X1 0) + nI 1), .ref d35, .int (nI 1)])) := hr_r (S' := hs_sp S (hs_np S + 1)) (X' := hr_smc X1 0 (hr_mc X1 0 + nI 1)) (ad' := hr_ua (hr_ua (hr_ua (hr_ua (hr_ua (hr_ua ad 1 (va_up (ad 1) (hs_np S) q28)) 2 (va_up (ad 2) (hs_np S) so32)) 3 (va_up (ad 3) (hs_np S) ca32)) 4 (va_up (ad 4) (hs_np S) gr32)) 5 (va_up (ad 5) (hs_np S) wa32)) 11 (va_up (ad 11) 0 d35)) (by unfold st_piece; exact ((if_neg (fun q => by omega)).trans rfl)) rfl hok ht1 fr_hok
  exact hret hI hfin (Nat.le_of_ble_eq_true rfl) (Nat.le_of_ble_eq_true rfl) dX11_piece_52

set_option maxHeartbeats 4000000 in
set_option maxRecDepth 100000 in
theorem m_X11_piece_s (l : Launch) (Z : hw_Z) (M : hw_M) (ad : hp_ad) (S : hs_S) (X : hr_X) (b1 : Nat → Prop) (hP : hr_ok Z b1 M ad S X) (hV : hv_ok S) (hA : ∀ a, b1 a → M a ≠ none) (hz : 0 < hs_np S) : Met l yX11_piece (hw_m yX11_piece cX11_piece 1 (some .int)) ({ frames := 8, cells := 6, slots := 110, locals := 250 } : Room) (va_Pc [.ref (ad 0 0)] (hw_P Z M)) (hw_Qi Z (hr_R Z b1 M ad (st_piece S))) 6 110 (hw_A Z) := by
  refine hw_ofi (by decide +kernel) rfl (Nat.le_of_ble_eq_true rfl) ?_
  intro p e s m below meth c ls Q hx hb hml hown hts hk hnm hI hl hret
  have hB := hV.b
  have hnp := hB.np
  have hnw := hB.nw
  have e0_0hP : M (ad 0 0) = hw_ob 12 [.int (hr_th X), .int (hs_G S 0), .int (hs_G S 1), .ref (ad 0 2), .ref (ad 0 3), .ref (ad 0 1)] := hP.m 0 0 (show 0 < 4 by decide)
  refine lv_aload_n hx hb dX11_piece_0 rfl (lv_at hl 0 rfl) ?_
  refine lv_iconst (v := nI 0) hx hb dX11_piece_1 (by decide) ?_
  refine hw_put (fs' := [.int (nI 0), .int (hs_G S 0), .int (hs_G S 1), .ref (ad 0 2), .ref (ad 0 3), .ref (ad 0 1)]) hx hb hts hown hk hI fp_X11_26 e0_0hP (Nat.le_of_ble_eq_true rfl) rfl rfl rfl dX11_piece_2 (fun H locs hI => ?_)
  have h11 : 0 = 0 ∧ 0 < hs_np S := ⟨rfl, hz⟩
  obtain ⟨M1, hM1⟩ : ∃ Y : hw_M, Y = va_up M (ad 0 0) (hw_ob 12 [.int (nI 0), .int (hs_G S 0), .int (hs_G S 1), .ref (ad 0 2), .ref (ad 0 3), .ref (ad 0 1)]) := ⟨_, rfl⟩
  replace hI := hI.eq hM1.symm
  obtain ⟨X1, hX1⟩ : ∃ Y : hr_X, Y = (nI 0, X.2) := ⟨_, rfl⟩
  have hP1 : hr_ok Z b1 M1 ad S X1 := by rw [hM1, hX1]; exact hP.th (nI 0)
  have ht1 : hr_th X1 = nI 0 := by rw [hX1]; rfl
  have hgr1 : hr_gr X1 = hr_gr X := by rw [hX1]; rfl
  have hqq1 : hr_qq X1 = hr_qq X := by rw [hX1]; rfl
  have fr1 : ∀ a, b1 a → M1 a = M a := fun a ha => by rw [hM1]; exact va_up_ne _ _ (hP.f (k := 0) (i := 0) (show 0 < 4 by decide) ha)
  have hA1 : ∀ a, b1 a → M1 a ≠ none := fun a ha => by rw [fr1 a ha]; exact hA a ha
  clear hP hX1
  have e0_0hP1 : M1 (ad 0 0) = hw_ob 12 [.int (hr_th X1), .int (hs_G S 0), .int (hs_G S 1), .ref (ad 0 2), .ref (ad 0 3), .ref (ad 0 1)] := hP1.m 0 0 (show 0 < 4 by decide)
  have e0_2hP1 : M1 (ad 0 2) = hw_ob 0 [.int (hr_mc X1 0), .ref (ad 11 0), .int (nI (hs_np S))] := by
    have q := hP1.m 0 2 (show 2 < 4 by decide)
    rw [show hr_e Z ad S X1 0 2 = hw_ob 0 [.int (hr_mc X1 0), .ref (hr_d (hs_np S) Z.2.2.2 (ad 11 0)), .int (nI (hs_np S))] from rfl, hr_d0 h11.2] at q
    exact q
  have e11_0hP1 : M1 (ad 11 0) = hw_ar Z 7 10 (hc_f (ad 1) (hs_np S)) := hP1.m 11 0 h11
  refine lv_aload_n hx hb dX11_piece_5 rfl (lv_at hl 0 rfl) ?_
  refine hw_get hx hb hts hown hk hI fd_X11_10 e0_0hP1 rfl dX11_piece_6 ?_
  refine hw_cFi hI (hw_rF hx hb hml hown hts hk hI (m_Jx4a65c_size_8abf5 l Z M1 (ad 0 2) (hs_np S) (hr_mc X1 0) (.ref (ad 11 0)) e0_2hP1) cf_X11_34 e0_2hP1 rfl rfl ⟨rfl, rfl⟩ ⟨(Nat.le_of_ble_eq_true rfl), (Nat.le_of_ble_eq_true rfl)⟩ rfl hl.1 rfl (Nat.le_of_ble_eq_true rfl) ⟨(Nat.le_of_ble_eq_true rfl), (Nat.le_of_ble_eq_true rfl)⟩ dX11_piece_9) (fun r9 M9 H locs hR hI => ?_)
  obtain ⟨rfl, rfl⟩ := hR
  refine lv_iconst (v := nI 4) hx hb dX11_piece_14 (by decide) ?_
  refine lv_icmp_ne (tgt := 24) hx hb dX11_piece_15 (by decide) (fun c15 => ?_) (fun c15 => ?_)
  · refine lv_aload_n hx hb dX11_piece_24 rfl (lv_at hl 0 rfl) ?_
    refine hw_get hx hb hts hown hk hI fd_X11_10 e0_0hP1 rfl dX11_piece_25 ?_
    refine hw_new hx hb hts hown hk hI fn_X11_48 (Nat.le_of_ble_eq_true rfl) (Nat.le_of_ble_eq_true rfl) dX11_piece_28 (fun q28 H hq28 hI => ?_)
    refine lv_dup hx hb dX11_piece_31 rfl ?_
    refine hw_cv hI (hw_rIN hx hb hml hown hts hk hI (m_X8_init l Z (va_up M1 q28 (hw_ob 9 [.null, .int 0, .null, .int 0, .int 0, .int 0, .int 0, .int 0, .int 0])) q28 (hw_us _ _ _)) cn_X11_50 ⟨rfl, rfl⟩ ⟨(Nat.le_of_ble_eq_true rfl), (Nat.le_of_ble_eq_true rfl)⟩ rfl hl.1 rfl (Nat.le_of_ble_eq_true rfl) ⟨(Nat.le_of_ble_eq_true rfl), (Nat.le_of_ble_eq_true rfl)⟩ dX11_piece_32) (fun M32 H locs hR hI => ?_)
    obtain ⟨so32, ca32, gr32, wa32, ⟨n_so32, n_ca32, n_gr32, n_wa32⟩, ⟨d1, d2, d3, d4, d5, d6⟩, ⟨e_so32, e_ca32, e_gr32, e_wa32⟩, e_q28, hF32⟩ := hR
    have x28 : ∀ x, M1 x ≠ none → M32 x = M1 x := fun x hx => (hF32 x (by rw [va_up_ne _ _ (hw_xn hx hq28)]; exact hx) (hw_xn hx hq28)).trans (va_up_ne _ _ (hw_xn hx hq28))
    have hF_M32 : hr_F M1 M32 := x28
    have hP_M32 : hr_ok Z b1 M32 ad S X1 := hP1.F hF_M32
    have fr_M32 : ∀ a, b1 a → M32 a = M a := fun a ha => (hF_M32 a (hA1 a ha)).trans (fr1 a ha)
    have hA_M32 : ∀ a, b1 a → M32 a ≠ none := fun a ha => by rw [fr_M32 a ha]; exact hA a ha
    have e0_0hP_M32 : M32 (ad 0 0) = hw_ob 12 [.int (hr_th X1), .int (hs_G S 0), .int (hs_G S 1), .ref (ad 0 2), .ref (ad 0 3), .ref (ad 0 1)] := hP_M32.m 0 0 (show 0 < 4 by decide)
    have e0_2hP_M32 : M32 (ad 0 2) = hw_ob 0 [.int (hr_mc X1 0), .ref (ad 11 0), .int (nI (hs_np S))] := by
      have q := hP_M32.m 0 2 (show 2 < 4 by decide)
      rw [show hr_e Z ad S X1 0 2 = hw_ob 0 [.int (hr_mc X1 0), .ref (hr_d (hs_np S) Z.2.2.2 (ad 11 0)), .int (nI (hs_np S))] from rfl, hr_d0 h11.2] at q
      exact q
    have e11_0hP_M32 : M32 (ad 11 0) = hw_ar Z 7 10 (hc_f (ad 1) (hs_np S)) := hP_M32.m 11 0 h11
    have f_so32 := hw_fr n_so32
    have f_ca32 := hw_fr n_ca32
    have f_gr32 := hw_fr n_gr32
    have f_wa32 := hw_fr n_wa32
    refine hw_cFi hI (hw_rF hx hb hml hown hts hk hI (m_add_P l Z M32 (ad 0 2) (ad 11 0) q28 (hs_np S) (hr_mc X1 0) (hc_f (ad 1) (hs_np S)) ([.ref so32, .int (nI 0), .ref gr32, .int 0, .int (-1), .int (-1), .int (-1), .int (-1), .int (-1)]) e0_2hP_M32 e11_0hP_M32 e_q28 (by omega)) cf_X11_51 e0_2hP_M32 rfl rfl ⟨rfl, rfl⟩ ⟨(Nat.le_of_ble_eq_true rfl), (Nat.le_of_ble_eq_true rfl)⟩ rfl hl.1 rfl (Nat.le_of_ble_eq_true rfl) ⟨(Nat.le_of_ble_eq_true rfl), (Nat.le_of_ble_eq_true rfl)⟩ dX11_piece_35) (fun r35 M35 H locs hR hI => ?_)
    obtain ⟨rfl, rfl⟩ := hR
    refine lv_pop hx hb dX11_piece_40 rfl ?_
    refine lv_aload_n hx hb dX11_piece_41 rfl (lv_at hl 0 rfl) ?_
    refine hw_get hx hb hts hown hk hI fd_X11_10 (hw_up (hw_up e0_0hP_M32 (hP_M32.n (k := 0) (i := 0) (k' := 11) (i' := 0) (show 0 < 4 by decide) h11 (fun q => absurd q.1 (by decide)))) (hP_M32.n (k := 0) (i := 0) (k' := 0) (i' := 2) (show 0 < 4 by decide) (show 2 < 4 by decide) (fun q => absurd q.2 (by decide)))) rfl dX11_piece_42 ?_
    refine hw_cFi hI (hw_rF hx hb hml hown hts hk hI (m_Jx4a65c_size_8abf5 l Z (va_up (va_up M32 (ad 11 0) (hw_ar Z 7 10 (va_up (hc_f (ad 1) (hs_np S)) (hs_np S) (some q28)))) (ad 0 2) (hw_ob 0 [.int ((hr_mc X1 0) + nI 1), .ref (ad 11 0), .int (nI ((hs_np S) + 1))])) (ad 0 2) ((hs_np S) + 1) ((hr_mc X1 0) + nI 1) (.ref (ad 11 0)) (hw_us _ _ _)) cf_X11_34 (hw_us _ _ _) rfl rfl ⟨rfl, rfl⟩ ⟨(Nat.le_of_ble_eq_true rfl), (Nat.le_of_ble_eq_true rfl)⟩ rfl hl.1 rfl (Nat.le_of_ble_eq_true rfl) ⟨(Nat.le_of_ble_eq_true rfl), (Nat.le_of_ble_eq_true rfl)⟩ dX11_piece_45) (fun r45 M45 H locs hR hI => ?_)
    obtain ⟨rfl, rfl⟩ := hR
    refine lv_iconst (v := nI 1) hx hb dX11_piece_50 (by decide) ?_
    refine lv_isub hx hb dX11_piece_51 ?_
    refine hw_ti (pk_sub (by omega) : nI (hs_np S + 1) - nI 1 = nI (hs_np S)) ?_
    have hn4 : hs_np S < 4 := by have h : ¬ hs_np S = 4 := fun q => c15 (congrArg nI q); omega
    obtain ⟨z0, z3, zC⟩ := hV.new (Nat.le_refl _) hn4
    obtain ⟨r1, r2, r4, r5, r6, r7, r8, r9, rD, rU, rW⟩ := hV.raw hn4 z0
    have hok : hr_ok Z b1 (va_up (va_up M32 (ad 11 0) (hw_ar Z 7 10 (va_up (hc_f (ad 1) (hs_np S)) (hs_np S) (some q28)))) (ad 0 2) (hw_ob 0 [.int ((hr_mc X1 0) + nI 1), .ref (ad 11 0), .int (nI ((hs_np S) + 1))])) (hr_ua (hr_ua (hr_ua (hr_ua (hr_ua ad 1 (va_up (ad 1) (hs_np S) q28)) 2 (va_up (ad 2) (hs_np S) so32)) 3 (va_up (ad 3) (hs_np S) ca32)) 4 (va_up (ad 4) (hs_np S) gr32)) 5 (va_up (ad 5) (hs_np S) wa32)) (hs_sp S (hs_np S + 1)) (hr_smc X1 0 (hr_mc X1 0 + nI 1)) := by
      refine hr_new (nn := fun k i => (k = 1 ∧ i = (hs_np S)) ∨ (k = 2 ∧ i = (hs_np S)) ∨ (k = 3 ∧ i = (hs_np S)) ∨ (k = 4 ∧ i = (hs_np S)) ∨ (k = 5 ∧ i = (hs_np S))) hP1 hA1 (fun k i hi => ?_) (fun k i k' i' h h' he => ?_) ?_ hP_M32.q hP_M32.g
      · rcases k with _ | _ | _ | _ | _ | _ | _ | _ | _ | _ | _ | _ | _ | k
        · exact Or.inl ⟨hi, rfl⟩
        · by_cases q0 : i = (hs_np S)
          · subst q0
            exact Or.inr ⟨Or.inl ⟨rfl, rfl⟩, (congrArg M1 (va_up_self _ _ _)).trans hq28⟩
          · exact Or.inl ⟨(show i < hs_np S by have h9 : i < hs_np S + 1 := hi; omega), va_up_ne _ _ q0⟩
        · by_cases q0 : i = (hs_np S)
          · subst q0
            exact Or.inr ⟨Or.inr (Or.inl ⟨rfl, rfl⟩), (congrArg M1 (va_up_self _ _ _)).trans f_so32.1⟩
          · exact Or.inl ⟨(show i < hs_np S by have h9 : i < hs_np S + 1 := hi; omega), va_up_ne _ _ q0⟩
        · by_cases q0 : i = (hs_np S)
          · subst q0
            exact Or.inr ⟨Or.inr (Or.inr (Or.inl ⟨rfl, rfl⟩)), (congrArg M1 (va_up_self _ _ _)).trans f_ca32.1⟩
          · exact Or.inl ⟨(show i < hs_np S by have h9 : i < hs_np S + 1 := hi; omega), va_up_ne _ _ q0⟩
        · by_cases q0 : i = (hs_np S)
          · subst q0
            exact Or.inr ⟨Or.inr (Or.inr (Or.inr (Or.inl ⟨rfl, rfl⟩))), (congrArg M1 (va_up_self _ _ _)).trans f_gr32.1⟩
          · exact Or.inl ⟨(show i < hs_np S by have h9 : i < hs_np S + 1 := hi; omega), va_up_ne _ _ q0⟩
        · by_cases q0 : i = (hs_np S)
          · subst q0
            exact Or.inr ⟨Or.inr (Or.inr (Or.inr (Or.inr (⟨rfl, rfl⟩)))), (congrArg M1 (va_up_self _ _ _)).trans f_wa32.1⟩
          · exact Or.inl ⟨(show i < hs_np S by have h9 : i < hs_np S + 1 := hi; omega), va_up_ne _ _ q0⟩
        · exact Or.inl ⟨hi, rfl⟩
        · exact Or.inl ⟨hi, rfl⟩
        · exact Or.inl ⟨hi, rfl⟩
        · exact Or.inl ⟨hi, rfl⟩
        · exact Or.inl ⟨hi, rfl⟩
        · exact Or.inl ⟨⟨hi.1, hz⟩, rfl⟩
        · exact Or.inl ⟨hi, rfl⟩
        · exact hi.elim
      · rcases h with ⟨rfl, rfl⟩ | ⟨rfl, rfl⟩ | ⟨rfl, rfl⟩ | ⟨rfl, rfl⟩ | ⟨rfl, rfl⟩ <;> rcases h' with ⟨rfl, rfl⟩ | ⟨rfl, rfl⟩ | ⟨rfl, rfl⟩ | ⟨rfl, rfl⟩ | ⟨rfl, rfl⟩
        · exact ⟨rfl, rfl⟩
        · exact absurd (((va_up_self _ _ _ : (va_up (ad 1) (hs_np S) q28) (hs_np S) = q28).symm.trans he).trans (va_up_self _ _ _ : (va_up (ad 2) (hs_np S) so32) (hs_np S) = so32)) (Ne.symm f_so32.2)
        · exact absurd (((va_up_self _ _ _ : (va_up (ad 1) (hs_np S) q28) (hs_np S) = q28).symm.trans he).trans (va_up_self _ _ _ : (va_up (ad 3) (hs_np S) ca32) (hs_np S) = ca32)) (Ne.symm f_ca32.2)
        · exact absurd (((va_up_self _ _ _ : (va_up (ad 1) (hs_np S) q28) (hs_np S) = q28).symm.trans he).trans (va_up_self _ _ _ : (va_up (ad 4) (hs_np S) gr32) (hs_np S) = gr32)) (Ne.symm f_gr32.2)
        · exact absurd (((va_up_self _ _ _ : (va_up (ad 1) (hs_np S) q28) (hs_np S) = q28).symm.trans he).trans (va_up_self _ _ _ : (va_up (ad 5) (hs_np S) wa32) (hs_np S) = wa32)) (Ne.symm f_wa32.2)
        · exact absurd (((va_up_self _ _ _ : (va_up (ad 2) (hs_np S) so32) (hs_np S) = so32).symm.trans he).trans (va_up_self _ _ _ : (va_up (ad 1) (hs_np S) q28) (hs_np S) = q28)) f_so32.2
        · exact ⟨rfl, rfl⟩
        · exact absurd (((va_up_self _ _ _ : (va_up (ad 2) (hs_np S) so32) (hs_np S) = so32).symm.trans he).trans (va_up_self _ _ _ : (va_up (ad 3) (hs_np S) ca32) (hs_np S) = ca32)) d1
        · exact absurd (((va_up_self _ _ _ : (va_up (ad 2) (hs_np S) so32) (hs_np S) = so32).symm.trans he).trans (va_up_self _ _ _ : (va_up (ad 4) (hs_np S) gr32) (hs_np S) = gr32)) d2
        · exact absurd (((va_up_self _ _ _ : (va_up (ad 2) (hs_np S) so32) (hs_np S) = so32).symm.trans he).trans (va_up_self _ _ _ : (va_up (ad 5) (hs_np S) wa32) (hs_np S) = wa32)) d3
        · exact absurd (((va_up_self _ _ _ : (va_up (ad 3) (hs_np S) ca32) (hs_np S) = ca32).symm.trans he).trans (va_up_self _ _ _ : (va_up (ad 1) (hs_np S) q28) (hs_np S) = q28)) f_ca32.2
        · exact absurd (((va_up_self _ _ _ : (va_up (ad 3) (hs_np S) ca32) (hs_np S) = ca32).symm.trans he).trans (va_up_self _ _ _ : (va_up (ad 2) (hs_np S) so32) (hs_np S) = so32)) (Ne.symm d1)
        · exact ⟨rfl, rfl⟩
        · exact absurd (((va_up_self _ _ _ : (va_up (ad 3) (hs_np S) ca32) (hs_np S) = ca32).symm.trans he).trans (va_up_self _ _ _ : (va_up (ad 4) (hs_np S) gr32) (hs_np S) = gr32)) d4
        · exact absurd (((va_up_self _ _ _ : (va_up (ad 3) (hs_np S) ca32) (hs_np S) = ca32).symm.trans he).trans (va_up_self _ _ _ : (va_up (ad 5) (hs_np S) wa32) (hs_np S) = wa32)) d5
        · exact absurd (((va_up_self _ _ _ : (va_up (ad 4) (hs_np S) gr32) (hs_np S) = gr32).symm.trans he).trans (va_up_self _ _ _ : (va_up (ad 1) (hs_np S) q28) (hs_np S) = q28)) f_gr32.2
        · exact absurd (((va_up_self _ _ _ : (va_up (ad 4) (hs_np S) gr32) (hs_np S) = gr32).symm.trans he).trans (va_up_self _ _ _ : (va_up (ad 2) (hs_np S) so32) (hs_np S) = so32)) (Ne.symm d2)
        · exact absurd (((va_up_self _ _ _ : (va_up (ad 4) (hs_np S) gr32) (hs_np S) = gr32).symm.trans he).trans (va_up_self _ _ _ : (va_up (ad 3) (hs_np S) ca32) (hs_np S) = ca32)) (Ne.symm d4)
        · exact ⟨rfl, rfl⟩
        · exact absurd (((va_up_self _ _ _ : (va_up (ad 4) (hs_np S) gr32) (hs_np S) = gr32).symm.trans he).trans (va_up_self _ _ _ : (va_up (ad 5) (hs_np S) wa32) (hs_np S) = wa32)) d6
        · exact absurd (((va_up_self _ _ _ : (va_up (ad 5) (hs_np S) wa32) (hs_np S) = wa32).symm.trans he).trans (va_up_self _ _ _ : (va_up (ad 1) (hs_np S) q28) (hs_np S) = q28)) f_wa32.2
        · exact absurd (((va_up_self _ _ _ : (va_up (ad 5) (hs_np S) wa32) (hs_np S) = wa32).symm.trans he).trans (va_up_self _ _ _ : (va_up (ad 2) (hs_np S) so32) (hs_np S) = so32)) (Ne.symm d3)
        · exact absurd (((va_up_self _ _ _ : (va_up (ad 5) (hs_np S) wa32) (hs_np S) = wa32).symm.trans he).trans (va_up_self _ _ _ : (va_up (ad 3) (hs_np S) ca32) (hs_np S) = ca32)) (Ne.symm d5)
        · exact absurd (((va_up_self _ _ _ : (va_up (ad 5) (hs_np S) wa32) (hs_np S) = wa32).symm.trans he).trans (va_up_self _ _ _ : (va_up (ad 4) (hs_np S) gr32) (hs_np S) = gr32)) (Ne.symm d6)
        · exact ⟨rfl, rfl⟩
      · intro k i hi
        rcases k with _ | _ | _ | _ | _ | _ | _ | _ | _ | _ | _ | _ | _ | k
        · rcases (show i = 0 ∨ i = 1 ∨ i = 2 ∨ i = 3 by have h4 : i < 4 := hi; omega) with rfl | rfl | rfl | rfl
          · show (va_up (va_up M32 (ad 11 0) (hw_ar Z 7 10 (va_up (hc_f (ad 1) (hs_np S)) (hs_np S) (some q28)))) (ad 0 2) (hw_ob 0 [.int ((hr_mc X1 0) + nI 1), .ref (ad 11 0), .int (nI ((hs_np S) + 1))])) (ad 0 0) = hw_ob 12 [.int (hr_th X1), .int (hs_G S 0), .int (hs_G S 1), .ref (ad 0 2), .ref (ad 0 3), .ref (ad 0 1)]
            rw [va_up_ne _ _ (hP_M32.n (k := 0) (i := 0) (k' := 0) (i' := 2) (show 0 < 4 by decide) (show 2 < 4 by decide) (fun q => absurd q.2 (by decide))), va_up_ne _ _ (hP_M32.n (k := 0) (i := 0) (k' := 11) (i' := 0) (show 0 < 4 by decide) h11 (fun q => absurd q.1 (by decide)))]
            refine (hP_M32.m 0 0 (show 0 < 4 by decide)).trans ?_
            first | rfl | (simp only [va_up_self, va_up_ne _ _ (show 1 ≠ 0 by omega)]; done) | (simp only [va_up_self, va_up_ne _ _ (show 1 ≠ 0 by omega)]; rfl) | (simp only [va_up_self, va_up_ne _ _ (show 1 ≠ 0 by omega), z0, z3, zC, r1, r2, r4, r5, r6, r7, r8, rD, rU, rW, hr_en_raw r4, hr_fs, hr_ds]; done)
          · show (va_up (va_up M32 (ad 11 0) (hw_ar Z 7 10 (va_up (hc_f (ad 1) (hs_np S)) (hs_np S) (some q28)))) (ad 0 2) (hw_ob 0 [.int ((hr_mc X1 0) + nI 1), .ref (ad 11 0), .int (nI ((hs_np S) + 1))])) (ad 0 1) = hw_ar Z 6 2 (fun j => some (ad 7 j))
            rw [va_up_ne _ _ (hP_M32.n (k := 0) (i := 1) (k' := 0) (i' := 2) (show 1 < 4 by decide) (show 2 < 4 by decide) (fun q => absurd q.2 (by decide))), va_up_ne _ _ (hP_M32.n (k := 0) (i := 1) (k' := 11) (i' := 0) (show 1 < 4 by decide) h11 (fun q => absurd q.1 (by decide)))]
            refine (hP_M32.m 0 1 (show 1 < 4 by decide)).trans ?_
            first | rfl | (simp only [va_up_self, va_up_ne _ _ (show 1 ≠ 0 by omega)]; done) | (simp only [va_up_self, va_up_ne _ _ (show 1 ≠ 0 by omega)]; rfl) | (simp only [va_up_self, va_up_ne _ _ (show 1 ≠ 0 by omega), z0, z3, zC, r1, r2, r4, r5, r6, r7, r8, rD, rU, rW, hr_en_raw r4, hr_fs, hr_ds]; done)
          · show (va_up (va_up M32 (ad 11 0) (hw_ar Z 7 10 (va_up (hc_f (ad 1) (hs_np S)) (hs_np S) (some q28)))) (ad 0 2) (hw_ob 0 [.int ((hr_mc X1 0) + nI 1), .ref (ad 11 0), .int (nI ((hs_np S) + 1))])) (ad 0 2) = hw_ob 0 [.int ((va_up (hr_mc X1) 0 (hr_mc X1 0 + nI 1)) 0), .ref (hr_d (hs_np S + 1) Z.2.2.2 (ad 11 0)), .int (nI (hs_np S + 1))]
            refine (hw_us _ _ _).trans ?_
            first | rfl | (simp only [va_up_self, va_up_ne _ _ (show 1 ≠ 0 by omega)]; done) | (simp only [va_up_self, va_up_ne _ _ (show 1 ≠ 0 by omega)]; rfl) | (simp only [va_up_self, va_up_ne _ _ (show 1 ≠ 0 by omega), z0, z3, zC, r1, r2, r4, r5, r6, r7, r8, rD, rU, rW, hr_en_raw r4, hr_fs, hr_ds]; done) | (simp only [va_up_self, va_up_ne _ _ (show 1 ≠ 0 by omega), z0, z3, zC, r1, r2, r4, r5, r6, r7, r8, rD, rU, rW, hr_en_raw r4, hr_fs, hr_ds]; rfl)
          · show (va_up (va_up M32 (ad 11 0) (hw_ar Z 7 10 (va_up (hc_f (ad 1) (hs_np S)) (hs_np S) (some q28)))) (ad 0 2) (hw_ob 0 [.int ((hr_mc X1 0) + nI 1), .ref (ad 11 0), .int (nI ((hs_np S) + 1))])) (ad 0 3) = hw_ob 0 [.int ((va_up (hr_mc X1) 0 (hr_mc X1 0 + nI 1)) 1), .ref (hr_d (hs_nw S) Z.2.2.2 (ad 12 0)), .int (nI (hs_nw S))]
            rw [va_up_ne _ _ (hP_M32.n (k := 0) (i := 3) (k' := 0) (i' := 2) (show 3 < 4 by decide) (show 2 < 4 by decide) (fun q => absurd q.2 (by decide))), va_up_ne _ _ (hP_M32.n (k := 0) (i := 3) (k' := 11) (i' := 0) (show 3 < 4 by decide) h11 (fun q => absurd q.1 (by decide)))]
            refine (hP_M32.m 0 3 (show 3 < 4 by decide)).trans ?_
            first | rfl | (simp only [va_up_self, va_up_ne _ _ (show 1 ≠ 0 by omega)]; done) | (simp only [va_up_self, va_up_ne _ _ (show 1 ≠ 0 by omega)]; rfl) | (simp only [va_up_self, va_up_ne _ _ (show 1 ≠ 0 by omega), z0, z3, zC, r1, r2, r4, r5, r6, r7, r8, rD, rU, rW, hr_en_raw r4, hr_fs, hr_ds]; done)
        · by_cases q0 : i = (hs_np S)
          · subst q0
            show (va_up (va_up M32 (ad 11 0) (hw_ar Z 7 10 (va_up (hc_f (ad 1) (hs_np S)) (hs_np S) (some q28)))) (ad 0 2) (hw_ob 0 [.int ((hr_mc X1 0) + nI 1), .ref (ad 11 0), .int (nI ((hs_np S) + 1))])) ((va_up (ad 1) (hs_np S) q28) (hs_np S)) = hw_ob 9 [.ref ((va_up (ad 2) (hs_np S) so32) (hs_np S)), .int (hs_P S (hs_np S) 0), .ref ((va_up (ad 4) (hs_np S) gr32) (hs_np S)), .int (hs_P S (hs_np S) 3), .int (hs_P S (hs_np S) 4), .int (hs_P S (hs_np S) 5), .int (hs_P S (hs_np S) 6), .int (hs_P S (hs_np S) 7), .int (hs_P S (hs_np S) 8)]
            rw [show (va_up (ad 1) (hs_np S) q28) (hs_np S) = q28 from va_up_self _ _ _]
            refine (hw_up (hw_up e_q28 (hw_noa e_q28 e11_0hP_M32)) (hw_noo e_q28 e0_2hP_M32 (by decide))).trans ?_
            first | rfl | (simp only [va_up_self, va_up_ne _ _ (show 1 ≠ 0 by omega)]; done) | (simp only [va_up_self, va_up_ne _ _ (show 1 ≠ 0 by omega)]; rfl) | (simp only [va_up_self, va_up_ne _ _ (show 1 ≠ 0 by omega), z0, z3, zC, r1, r2, r4, r5, r6, r7, r8, rD, rU, rW, hr_en_raw r4, hr_fs, hr_ds]; done) | (simp only [va_up_self, va_up_ne _ _ (show 1 ≠ 0 by omega), z0, z3, zC, r1, r2, r4, r5, r6, r7, r8, rD, rU, rW, hr_en_raw r4, hr_fs, hr_ds]; rfl)
          have hi0 := hi
          replace hi0 : hr_p S X1 1 i := (show i < hs_np S by have h9 : i < hs_np S + 1 := hi; omega)
          show (va_up (va_up M32 (ad 11 0) (hw_ar Z 7 10 (va_up (hc_f (ad 1) (hs_np S)) (hs_np S) (some q28)))) (ad 0 2) (hw_ob 0 [.int ((hr_mc X1 0) + nI 1), .ref (ad 11 0), .int (nI ((hs_np S) + 1))])) ((va_up (ad 1) (hs_np S) q28) i) = hw_ob 9 [.ref ((va_up (ad 2) (hs_np S) so32) i), .int (hs_P S i 0), .ref ((va_up (ad 4) (hs_np S) gr32) i), .int (hs_P S i 3), .int (hs_P S i 4), .int (hs_P S i 5), .int (hs_P S i 6), .int (hs_P S i 7), .int (hs_P S i 8)]
          rw [va_up_ne _ _ q0]
          rw [va_up_ne _ _ (hP_M32.n (k := 1) (i := i) (k' := 0) (i' := 2) hi0 (show 2 < 4 by decide) (fun q => absurd q.1 (by decide))), va_up_ne _ _ (hP_M32.n (k := 1) (i := i) (k' := 11) (i' := 0) hi0 h11 (fun q => absurd q.1 (by decide)))]
          refine (hP_M32.m 1 i hi0).trans ?_
          first | rfl | (simp only [va_up_ne _ _ q0]; done) | (simp only [va_up_ne _ _ q0]; rfl)
        · by_cases q0 : i = (hs_np S)
          · subst q0
            show (va_up (va_up M32 (ad 11 0) (hw_ar Z 7 10 (va_up (hc_f (ad 1) (hs_np S)) (hs_np S) (some q28)))) (ad 0 2) (hw_ob 0 [.int ((hr_mc X1 0) + nI 1), .ref (ad 11 0), .int (nI ((hs_np S) + 1))])) ((va_up (ad 2) (hs_np S) so32) (hs_np S)) = hw_ob 11 [.ref ((va_up (ad 3) (hs_np S) ca32) (hs_np S))]
            rw [show (va_up (ad 2) (hs_np S) so32) (hs_np S) = so32 from va_up_self _ _ _]
            refine (hw_up (hw_up e_so32 (hw_noa e_so32 e11_0hP_M32)) (hw_noo e_so32 e0_2hP_M32 (by decide))).trans ?_
            first | rfl | (simp only [va_up_self, va_up_ne _ _ (show 1 ≠ 0 by omega)]; done) | (simp only [va_up_self, va_up_ne _ _ (show 1 ≠ 0 by omega)]; rfl) | (simp only [va_up_self, va_up_ne _ _ (show 1 ≠ 0 by omega), z0, z3, zC, r1, r2, r4, r5, r6, r7, r8, rD, rU, rW, hr_en_raw r4, hr_fs, hr_ds]; done) | (simp only [va_up_self, va_up_ne _ _ (show 1 ≠ 0 by omega), z0, z3, zC, r1, r2, r4, r5, r6, r7, r8, rD, rU, rW, hr_en_raw r4, hr_fs, hr_ds]; rfl)
          have hi0 := hi
          replace hi0 : hr_p S X1 2 i := (show i < hs_np S by have h9 : i < hs_np S + 1 := hi; omega)
          show (va_up (va_up M32 (ad 11 0) (hw_ar Z 7 10 (va_up (hc_f (ad 1) (hs_np S)) (hs_np S) (some q28)))) (ad 0 2) (hw_ob 0 [.int ((hr_mc X1 0) + nI 1), .ref (ad 11 0), .int (nI ((hs_np S) + 1))])) ((va_up (ad 2) (hs_np S) so32) i) = hw_ob 11 [.ref ((va_up (ad 3) (hs_np S) ca32) i)]
          rw [va_up_ne _ _ q0]
          rw [va_up_ne _ _ (hP_M32.n (k := 2) (i := i) (k' := 0) (i' := 2) hi0 (show 2 < 4 by decide) (fun q => absurd q.1 (by decide))), va_up_ne _ _ (hP_M32.n (k := 2) (i := i) (k' := 11) (i' := 0) hi0 h11 (fun q => absurd q.1 (by decide)))]
          refine (hP_M32.m 2 i hi0).trans ?_
          first | rfl | (simp only [va_up_ne _ _ q0]; done) | (simp only [va_up_ne _ _ q0]; rfl)
        · by_cases q0 : i = (hs_np S)
          · subst q0
            show (va_up (va_up M32 (ad 11 0) (hw_ar Z 7 10 (va_up (hc_f (ad 1) (hs_np S)) (hs_np S) (some q28)))) (ad 0 2) (hw_ob 0 [.int ((hr_mc X1 0) + nI 1), .ref (ad 11 0), .int (nI ((hs_np S) + 1))])) ((va_up (ad 3) (hs_np S) ca32) (hs_np S)) = hw_al Z 8 (hs_C S (hs_np S))
            rw [show (va_up (ad 3) (hs_np S) ca32) (hs_np S) = ca32 from va_up_self _ _ _]
            refine (hw_up (hw_up e_ca32 (hw_naa e_ca32 e11_0hP_M32 (by intro h; cases h))) (Ne.symm (hw_noa e0_2hP_M32 e_ca32))).trans ?_
            first | rfl | (simp only [va_up_self, va_up_ne _ _ (show 1 ≠ 0 by omega)]; done) | (simp only [va_up_self, va_up_ne _ _ (show 1 ≠ 0 by omega)]; rfl) | (simp only [va_up_self, va_up_ne _ _ (show 1 ≠ 0 by omega), z0, z3, zC, r1, r2, r4, r5, r6, r7, r8, rD, rU, rW, hr_en_raw r4, hr_fs, hr_ds]; done) | (simp only [va_up_self, va_up_ne _ _ (show 1 ≠ 0 by omega), z0, z3, zC, r1, r2, r4, r5, r6, r7, r8, rD, rU, rW, hr_en_raw r4, hr_fs, hr_ds]; rfl)
          have hi0 := hi
          replace hi0 : hr_p S X1 3 i := (show i < hs_np S by have h9 : i < hs_np S + 1 := hi; omega)
          show (va_up (va_up M32 (ad 11 0) (hw_ar Z 7 10 (va_up (hc_f (ad 1) (hs_np S)) (hs_np S) (some q28)))) (ad 0 2) (hw_ob 0 [.int ((hr_mc X1 0) + nI 1), .ref (ad 11 0), .int (nI ((hs_np S) + 1))])) ((va_up (ad 3) (hs_np S) ca32) i) = hw_al Z 8 (hs_C S i)
          rw [va_up_ne _ _ q0]
          rw [va_up_ne _ _ (hP_M32.n (k := 3) (i := i) (k' := 0) (i' := 2) hi0 (show 2 < 4 by decide) (fun q => absurd q.1 (by decide))), va_up_ne _ _ (hP_M32.n (k := 3) (i := i) (k' := 11) (i' := 0) hi0 h11 (fun q => absurd q.1 (by decide)))]
          refine (hP_M32.m 3 i hi0).trans ?_
          first | rfl | (simp only [va_up_ne _ _ q0]; done) | (simp only [va_up_ne _ _ q0]; rfl)
        · by_cases q0 : i = (hs_np S)
          · subst q0
            show (va_up (va_up M32 (ad 11 0) (hw_ar Z 7 10 (va_up (hc_f (ad 1) (hs_np S)) (hs_np S) (some q28)))) (ad 0 2) (hw_ob 0 [.int ((hr_mc X1 0) + nI 1), .ref (ad 11 0), .int (nI ((hs_np S) + 1))])) ((va_up (ad 4) (hs_np S) gr32) (hs_np S)) = hw_ob 7 [.double (hr_en (hs_P S (hs_np S))), .ref ((va_up (ad 5) (hs_np S) wa32) (hs_np S)), .double (hs_U S (hs_np S)), .int (hs_P S (hs_np S) 1), .int (hs_P S (hs_np S) 2), .int (nI (hs_D S (hs_np S)))]
            rw [show (va_up (ad 4) (hs_np S) gr32) (hs_np S) = gr32 from va_up_self _ _ _]
            refine (hw_up (hw_up e_gr32 (hw_noa e_gr32 e11_0hP_M32)) (hw_noo e_gr32 e0_2hP_M32 (by decide))).trans ?_
            first | rfl | (simp only [va_up_self, va_up_ne _ _ (show 1 ≠ 0 by omega)]; done) | (simp only [va_up_self, va_up_ne _ _ (show 1 ≠ 0 by omega)]; rfl) | (simp only [va_up_self, va_up_ne _ _ (show 1 ≠ 0 by omega), z0, z3, zC, r1, r2, r4, r5, r6, r7, r8, rD, rU, rW, hr_en_raw r4, hr_fs, hr_ds]; done) | (simp only [va_up_self, va_up_ne _ _ (show 1 ≠ 0 by omega), z0, z3, zC, r1, r2, r4, r5, r6, r7, r8, rD, rU, rW, hr_en_raw r4, hr_fs, hr_ds]; rfl)
          have hi0 := hi
          replace hi0 : hr_p S X1 4 i := (show i < hs_np S by have h9 : i < hs_np S + 1 := hi; omega)
          show (va_up (va_up M32 (ad 11 0) (hw_ar Z 7 10 (va_up (hc_f (ad 1) (hs_np S)) (hs_np S) (some q28)))) (ad 0 2) (hw_ob 0 [.int ((hr_mc X1 0) + nI 1), .ref (ad 11 0), .int (nI ((hs_np S) + 1))])) ((va_up (ad 4) (hs_np S) gr32) i) = hw_ob 7 [.double (hr_en (hs_P S i)), .ref ((va_up (ad 5) (hs_np S) wa32) i), .double (hs_U S i), .int (hs_P S i 1), .int (hs_P S i 2), .int (nI (hs_D S i))]
          rw [va_up_ne _ _ q0]
          rw [va_up_ne _ _ (hP_M32.n (k := 4) (i := i) (k' := 0) (i' := 2) hi0 (show 2 < 4 by decide) (fun q => absurd q.1 (by decide))), va_up_ne _ _ (hP_M32.n (k := 4) (i := i) (k' := 11) (i' := 0) hi0 h11 (fun q => absurd q.1 (by decide)))]
          refine (hP_M32.m 4 i hi0).trans ?_
          first | rfl | (simp only [va_up_ne _ _ q0]; done) | (simp only [va_up_ne _ _ q0]; rfl)
        · by_cases q0 : i = (hs_np S)
          · subst q0
            show (va_up (va_up M32 (ad 11 0) (hw_ar Z 7 10 (va_up (hc_f (ad 1) (hs_np S)) (hs_np S) (some q28)))) (ad 0 2) (hw_ob 0 [.int ((hr_mc X1 0) + nI 1), .ref (ad 11 0), .int (nI ((hs_np S) + 1))])) ((va_up (ad 5) (hs_np S) wa32) (hs_np S)) = hw_ad Z 64 (hs_W S (hs_np S))
            rw [show (va_up (ad 5) (hs_np S) wa32) (hs_np S) = wa32 from va_up_self _ _ _]
            refine (hw_up (hw_up e_wa32 (hw_naa e_wa32 e11_0hP_M32 (by intro h; cases h))) (Ne.symm (hw_noa e0_2hP_M32 e_wa32))).trans ?_
            first | rfl | (simp only [va_up_self, va_up_ne _ _ (show 1 ≠ 0 by omega)]; done) | (simp only [va_up_self, va_up_ne _ _ (show 1 ≠ 0 by omega)]; rfl) | (simp only [va_up_self, va_up_ne _ _ (show 1 ≠ 0 by omega), z0, z3, zC, r1, r2, r4, r5, r6, r7, r8, rD, rU, rW, hr_en_raw r4, hr_fs, hr_ds]; done) | (simp only [va_up_self, va_up_ne _ _ (show 1 ≠ 0 by omega), z0, z3, zC, r1, r2, r4, r5, r6, r7, r8, rD, rU, rW, hr_en_raw r4, hr_fs, hr_ds]; rfl)
          have hi0 := hi
          replace hi0 : hr_p S X1 5 i := (show i < hs_np S by have h9 : i < hs_np S + 1 := hi; omega)
          show (va_up (va_up M32 (ad 11 0) (hw_ar Z 7 10 (va_up (hc_f (ad 1) (hs_np S)) (hs_np S) (some q28)))) (ad 0 2) (hw_ob 0 [.int ((hr_mc X1 0) + nI 1), .ref (ad 11 0), .int (nI ((hs_np S) + 1))])) ((va_up (ad 5) (hs_np S) wa32) i) = hw_ad Z 64 (hs_W S i)
          rw [va_up_ne _ _ q0]
          rw [va_up_ne _ _ (hP_M32.n (k := 5) (i := i) (k' := 0) (i' := 2) hi0 (show 2 < 4 by decide) (fun q => absurd q.1 (by decide))), va_up_ne _ _ (hP_M32.n (k := 5) (i := i) (k' := 11) (i' := 0) hi0 h11 (fun q => absurd q.1 (by decide)))]
          refine (hP_M32.m 5 i hi0).trans ?_
          first | rfl | (simp only [va_up_ne _ _ q0]; done) | (simp only [va_up_ne _ _ q0]; rfl)
        · show (va_up (va_up M32 (ad 11 0) (hw_ar Z 7 10 (va_up (hc_f (ad 1) (hs_np S)) (hs_np S) (some q28)))) (ad 0 2) (hw_ob 0 [.int ((hr_mc X1 0) + nI 1), .ref (ad 11 0), .int (nI ((hs_np S) + 1))])) (ad 6 i) = hw_ob 10 [.int (hs_V S i 0), .int (hs_V S i 1), .int (hs_V S i 2), .int (hs_V S i 3), .int (hs_V S i 4)]
          rw [va_up_ne _ _ (hP_M32.n (k := 6) (i := i) (k' := 0) (i' := 2) hi (show 2 < 4 by decide) (fun q => absurd q.1 (by decide))), va_up_ne _ _ (hP_M32.n (k := 6) (i := i) (k' := 11) (i' := 0) hi h11 (fun q => absurd q.1 (by decide)))]
          refine (hP_M32.m 6 i hi).trans ?_
          first | rfl
        · show (va_up (va_up M32 (ad 11 0) (hw_ar Z 7 10 (va_up (hc_f (ad 1) (hs_np S)) (hs_np S) (some q28)))) (ad 0 2) (hw_ob 0 [.int ((hr_mc X1 0) + nI 1), .ref (ad 11 0), .int (nI ((hs_np S) + 1))])) (ad 7 i) = hw_ob 8 [.int (hs_M S i 0), .int (hs_M S i 1), .int (hs_M S i 2), .int (hs_M S i 3), .ref (ad 8 i)]
          rw [va_up_ne _ _ (hP_M32.n (k := 7) (i := i) (k' := 0) (i' := 2) hi (show 2 < 4 by decide) (fun q => absurd q.1 (by decide))), va_up_ne _ _ (hP_M32.n (k := 7) (i := i) (k' := 11) (i' := 0) hi h11 (fun q => absurd q.1 (by decide)))]
          refine (hP_M32.m 7 i hi).trans ?_
          first | rfl
        · show (va_up (va_up M32 (ad 11 0) (hw_ar Z 7 10 (va_up (hc_f (ad 1) (hs_np S)) (hs_np S) (some q28)))) (ad 0 2) (hw_ob 0 [.int ((hr_mc X1 0) + nI 1), .ref (ad 11 0), .int (nI ((hs_np S) + 1))])) (ad 8 i) = hw_ob 0 [.int ((va_up (hr_mc X1) 0 (hr_mc X1 0 + nI 1)) (2 + i)), .ref (if hr_gr X1 i then ad 9 i else Z.2.2.2), .int (nI (hs_N S i))]
          rw [va_up_ne _ _ (hP_M32.n (k := 8) (i := i) (k' := 0) (i' := 2) hi (show 2 < 4 by decide) (fun q => absurd q.1 (by decide))), va_up_ne _ _ (hP_M32.n (k := 8) (i := i) (k' := 11) (i' := 0) hi h11 (fun q => absurd q.1 (by decide)))]
          refine (hP_M32.m 8 i hi).trans ?_
          first | rfl | (simp only [va_up_ne _ _ (show 2 + i ≠ 0 by omega)]; done) | (simp only [va_up_ne _ _ (show 2 + i ≠ 0 by omega)]; rfl)
        · show (va_up (va_up M32 (ad 11 0) (hw_ar Z 7 10 (va_up (hc_f (ad 1) (hs_np S)) (hs_np S) (some q28)))) (ad 0 2) (hw_ob 0 [.int ((hr_mc X1 0) + nI 1), .ref (ad 11 0), .int (nI ((hs_np S) + 1))])) (ad 9 i) = hw_ar Z 7 10 (hc_f (fun j => ad 10 (i + 2 * j)) (hs_N S i))
          rw [va_up_ne _ _ (hP_M32.n (k := 9) (i := i) (k' := 0) (i' := 2) hi (show 2 < 4 by decide) (fun q => absurd q.1 (by decide))), va_up_ne _ _ (hP_M32.n (k := 9) (i := i) (k' := 11) (i' := 0) hi h11 (fun q => absurd q.1 (by decide)))]
          refine (hP_M32.m 9 i hi).trans ?_
          first | rfl
        · show (va_up (va_up M32 (ad 11 0) (hw_ar Z 7 10 (va_up (hc_f (ad 1) (hs_np S)) (hs_np S) (some q28)))) (ad 0 2) (hw_ob 0 [.int ((hr_mc X1 0) + nI 1), .ref (ad 11 0), .int (nI ((hs_np S) + 1))])) (ad 10 i) = hw_ai Z 3 (hr_qq X1 (i % 2) (i / 2))
          rw [va_up_ne _ _ (hP_M32.n (k := 10) (i := i) (k' := 0) (i' := 2) hi (show 2 < 4 by decide) (fun q => absurd q.1 (by decide))), va_up_ne _ _ (hP_M32.n (k := 10) (i := i) (k' := 11) (i' := 0) hi h11 (fun q => absurd q.1 (by decide)))]
          refine (hP_M32.m 10 i hi).trans ?_
          first | rfl
        · by_cases q0 : i = 0
          · subst q0
            show (va_up (va_up M32 (ad 11 0) (hw_ar Z 7 10 (va_up (hc_f (ad 1) (hs_np S)) (hs_np S) (some q28)))) (ad 0 2) (hw_ob 0 [.int ((hr_mc X1 0) + nI 1), .ref (ad 11 0), .int (nI ((hs_np S) + 1))])) (ad 11 0) = hw_ar Z 7 10 (hc_f ((va_up (ad 1) (hs_np S) q28)) (hs_np S + 1))
            refine (hw_up (hw_us _ _ _) (hP_M32.n (k := 11) (i := 0) (k' := 0) (i' := 2) h11 (show 2 < 4 by decide) (fun q => absurd q.1 (by decide)))).trans ?_
            first | rfl | (simp only [va_up_self, va_up_ne _ _ (show 1 ≠ 0 by omega)]; done) | (simp only [va_up_self, va_up_ne _ _ (show 1 ≠ 0 by omega)]; rfl) | (simp only [va_up_self, va_up_ne _ _ (show 1 ≠ 0 by omega), z0, z3, zC, r1, r2, r4, r5, r6, r7, r8, rD, rU, rW, hr_en_raw r4, hr_fs, hr_ds]; done) | (simp only [va_up_self, va_up_ne _ _ (show 1 ≠ 0 by omega), z0, z3, zC, r1, r2, r4, r5, r6, r7, r8, rD, rU, rW, hr_en_raw r4, hr_fs, hr_ds]; rfl)
          exact absurd hi.1 q0
        · show (va_up (va_up M32 (ad 11 0) (hw_ar Z 7 10 (va_up (hc_f (ad 1) (hs_np S)) (hs_np S) (some q28)))) (ad 0 2) (hw_ob 0 [.int ((hr_mc X1 0) + nI 1), .ref (ad 11 0), .int (nI ((hs_np S) + 1))])) (ad 12 i) = hw_ar Z 7 10 (hc_f (ad 6) (hs_nw S))
          rw [va_up_ne _ _ (hP_M32.n (k := 12) (i := i) (k' := 0) (i' := 2) hi (show 2 < 4 by decide) (fun q => absurd q.1 (by decide))), va_up_ne _ _ (hP_M32.n (k := 12) (i := i) (k' := 11) (i' := 0) hi h11 (fun q => absurd q.1 (by decide)))]
          refine (hP_M32.m 12 i hi).trans ?_
          first | rfl
        · exact hi.elim
    have fr_hok : ∀ a, b1 a → (va_up (va_up M32 (ad 11 0) (hw_ar Z 7 10 (va_up (hc_f (ad 1) (hs_np S)) (hs_np S) (some q28)))) (ad 0 2) (hw_ob 0 [.int ((hr_mc X1 0) + nI 1), .ref (ad 11 0), .int (nI ((hs_np S) + 1))])) a = M a := fun a ha => by rw [va_up_ne _ _ (hP_M32.f (k := 0) (i := 2) (show 2 < 4 by decide) ha), va_up_ne _ _ (hP_M32.f (k := 11) (i := 0) h11 ha)]; exact fr_M32 a ha
    have hfin : hr_R Z b1 M ad (st_piece S) (nI (hs_np S)) (va_up (va_up M32 (ad 11 0) (hw_ar Z 7 10 (va_up (hc_f (ad 1) (hs_np S)) (hs_np S) (some q28)))) (ad 0 2) (hw_ob 0 [.int ((hr_mc X1 0) + nI 1), .ref (ad 11 0), .int (nI ((hs_np S) + 1))])) := hr_r (S' := hs_sp S (hs_np S + 1)) (X' := hr_smc X1 0 (hr_mc X1 0 + nI 1)) (ad' := hr_ua (hr_ua (hr_ua (hr_ua (hr_ua ad 1 (va_up (ad 1) (hs_np S) q28)) 2 (va_up (ad 2) (hs_np S) so32)) 3 (va_up (ad 3) (hs_np S) ca32)) 4 (va_up (ad 4) (hs_np S) gr32)) 5 (va_up (ad 5) (hs_np S) wa32)) (by unfold st_piece; exact ((if_neg (fun q => by omega)).trans rfl)) rfl hok ht1 fr_hok
    exact hret hI hfin (Nat.le_of_ble_eq_true rfl) (Nat.le_of_ble_eq_true rfl) dX11_piece_52
  · refine lv_aload_n hx hb dX11_piece_18 rfl (lv_at hl 0 rfl) ?_
    refine lv_iconst (v := nI 1) hx hb dX11_piece_19 (by decide) ?_
    refine hw_ci hI (hw_rV hx hb hml hown hts hk hI (m_X11_no l Z M1 (ad 0 0) (ad 0 2) (ad 0 3) (ad 0 1) (hr_th X1) (hs_G S 0) (hs_G S 1) (nI 1) e0_0hP1) cv_X11_44 e0_0hP1 rfl rfl ⟨rfl, rfl⟩ ⟨(Nat.le_of_ble_eq_true rfl), (Nat.le_of_ble_eq_true rfl)⟩ rfl hl.1 rfl (Nat.le_of_ble_eq_true rfl) ⟨(Nat.le_of_ble_eq_true rfl), (Nat.le_of_ble_eq_true rfl)⟩ dX11_piece_20) (fun r20 M20 H locs hR hI => ?_)
    obtain ⟨rfl, rfl⟩ := hR
    exact hret hI (hr_x (n := 1) (by unfold st_piece; exact (hq_if (Nat.le_of_eq ((nI_eq (by decide) (by omega)).mp c15.symm)) ⟨rfl, rfl⟩)) (by decide) (hP1.th (nI 1)) rfl (fun a ha => (va_up_ne _ _ (hP1.f (k := 0) (i := 0) (show 0 < 4 by decide) ha)).trans (fr1 a ha))) (Nat.le_of_ble_eq_true rfl) (Nat.le_of_ble_eq_true rfl) dX11_piece_23

theorem m_X11_piece (l : Launch) (Z : hw_Z) (M : hw_M) (ad : hp_ad) (S : hs_S) (X : hr_X) (b1 : Nat → Prop) (hP : hr_ok Z b1 M ad S X) (hV : hv_ok S) (hA : ∀ a, b1 a → M a ≠ none) : Met l yX11_piece (hw_m yX11_piece cX11_piece 1 (some .int)) ({ frames := 8, cells := 6, slots := 110, locals := 250 } : Room) (va_Pc [.ref (ad 0 0)] (hw_P Z M)) (hw_Qi Z (hr_R Z b1 M ad (st_piece S))) 6 110 (hw_A Z) := by
  rcases Nat.eq_zero_or_pos (hs_np S) with h | h
  · exact m_X11_piece_z l Z M ad S X b1 hP hV hA h
  · exact m_X11_piece_s l Z M ad S X b1 hP hV hA h
