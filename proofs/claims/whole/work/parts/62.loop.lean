theorem cb_X5_digest (own : String) (index : Nat) : hw_CB own index yX5_digest cX5_digest 5 (some .long) 0 := ⟨⟨by decide +kernel, by decide +kernel, by decide +kernel⟩, (hw_win (w := .code yX5_digest cX5_digest 5 (some .long)) (by decide +kernel) (by decide +kernel)), (hw_win (w := .initialized yX5_digest.cls) (by decide +kernel) (by decide +kernel))⟩
theorem cv_L_205 : hw_CV RL 205 yX5_digest cX5_digest 5 (some .long) 0 := ⟨cb_X5_digest _ _, (hw_win (w := .methodLink RL 205 yX5_digest) (by decide +kernel) (by decide +kernel)), (hw_win (w := .instanceMethod yX5_digest) (by decide +kernel) (by decide +kernel)), (hw_win (w := .selects yX5_digest.cls yX5_digest yX5_digest) (by decide +kernel) (by decide +kernel))⟩
theorem cb_X11_digest (own : String) (index : Nat) : hw_CB own index yX11_digest cX11_digest 7 (some .long) 0 := ⟨⟨by decide +kernel, by decide +kernel, by decide +kernel⟩, (hw_win (w := .code yX11_digest cX11_digest 7 (some .long)) (by decide +kernel) (by decide +kernel)), (hw_win (w := .initialized yX11_digest.cls) (by decide +kernel) (by decide +kernel))⟩
theorem cv_L_209 : hw_CV RL 209 yX11_digest cX11_digest 7 (some .long) 0 := ⟨cb_X11_digest _ _, (hw_win (w := .methodLink RL 209 yX11_digest) (by decide +kernel) (by decide +kernel)), (hw_win (w := .instanceMethod yX11_digest) (by decide +kernel) (by decide +kernel)), (hw_win (w := .selects yX11_digest.cls yX11_digest yX11_digest) (by decide +kernel) (by decide +kernel))⟩
set_option maxHeartbeats 4000000 in
set_option maxRecDepth 100000 in
theorem lc_27 {p : Program} {l : Launch} {e : Env} {s : State} {m : MethodId} {below : List Frame} {meth : Method} {c : Code} {Q : State → Prop} {Z : hw_Z} {b L oa da : Nat} {xs : Nat → Int32} {ad : hp_ad} {H : Heap} {locs : List Loc} {cells slots : Nat} {ls : Array Slot} {M : hw_M} {i : Nat} {ae : hp_ad} {S : hs_S} (hst : l.stackTraces = false) (C : lw_cx p s m c Z b L xs) (hI : hw_iv Z s M H locs) (hO : lw_ok Z M oa da ad ae S) (hl : lv_has ls 9 [(0, .ref b), (1, .ref (ad 0 0)), (2, .ref (ae 0 0)), (3, .ref oa), (4, .ref da), (5, .int (nI i))]) (hi : i + 5 ≤ L) (hc9 : cells + 770 ≤ 396424) (hs9 : slots + 15400 ≤ 7906833)
    (K : ∀ (M1 : hw_M) (H1 : Heap) (locs1 : List Loc) (ae1 : hp_ad) (S1 : hs_S) (cells1 slots1 : Nat) (ls1 : Array Slot), hw_iv Z s M1 H1 locs1 → ae1 0 0 = ae 0 0 → lw_ok Z M1 oa da ad ae1 S1 → lv_has ls1 9 [(0, .ref b), (1, .ref (ad 0 0)), (2, .ref (ae 0 0)), (3, .ref oa), (4, .ref da), (5, .int (nI i))] → cells1 ≤ cells + 770 → slots1 ≤ slots + 15400 → W p l e room_1 s m #[Value.ref b] below meth c H1 locs1 cells1 slots1 Q (F0 m 2013 ls1 [])) :
    W p l e room_1 s m #[Value.ref b] below meth c H locs cells slots Q (F0 m 1999 ls []) := by
  obtain ⟨hx, hb, hml, hown, hts, hk, hX, hbl, hbA, hL⟩ := C
  obtain ⟨T, X, f, g, h, hV, ho, hd⟩ := hO
  refine lv_aload_n hx hb dL_law_1999 rfl (lv_at hl 1 rfl) ?_
  have he : M (ad 0 0) = hp_e0 Z ad S T 0 := h.1.m 0 0 (by decide)
  refine hw_cl' hI (hw_rV hx hb hml hown hts hk hI (m_X5_digest l Z M ad S T (lw_b oa da ae S X) h.1 hV.b) cv_L_205 he rfl rfl ⟨rfl, rfl⟩ ⟨(Nat.le_of_ble_eq_true rfl), (Nat.le_of_ble_eq_true rfl)⟩ rfl hl.1 rfl (Nat.le_of_ble_eq_true rfl) ⟨by show _ ≤ 396424; omega, by show _ ≤ 7906833; omega⟩ dL_law_2000) (fun r1 M1 H locs hR hI => ?_)
  obtain ⟨e1, ⟨T1, hp⟩, hf⟩ := hR
  have h := lw_1c h hp (fun a ha _ _ => hf a ha)
  have ho := (hf oa (Or.inl rfl)).trans ho
  have hd := (hf da (Or.inr (Or.inl rfl))).trans hd
  clear he
  refine lv_aload_n hx hb dL_law_2003 rfl (lv_at hl 2 rfl) ?_
  have he : M1 (ae 0 0) = hr_e0 Z ae S X 0 := h.2.m 0 0 (show 0 < 4 by decide)
  refine hw_cl' hI (hw_rV hx hb hml hown hts hk hI (m_X11_digest l Z M1 ae S X (lw_c oa da ad) h.2 hV (lw_A h (by rw [ho]; exact fun q => by cases q) (by rw [hd]; exact fun q => by cases q))) cv_L_209 he rfl rfl ⟨rfl, rfl⟩ ⟨(Nat.le_of_ble_eq_true rfl), (Nat.le_of_ble_eq_true rfl)⟩ rfl hl.1 rfl (Nat.le_of_ble_eq_true rfl) ⟨by show _ ≤ 396424; omega, by show _ ≤ 7906833; omega⟩ dL_law_2004) (fun r2 M2 H locs hR hI => ?_)
  clear he
  obtain ⟨ae1, X1, e0, h, ho, hd, ht, hq⟩ := lw_r h ho hd hR
  have hq0 : st_digest S = r2 := hq rfl
  refine W.lcmp hx hb dL_law_2007 ?_
  refine lv_if_eq (tgt := 2013) hx hb dL_law_2008 (by decide) (fun _ => ?_) (fun hc => absurd ((lg_cmp_eq _ _).mpr (e1.symm.trans hq0)) hc)
  exact K M2 H locs ae1 S _ _ ls hI e0 ⟨T1, X1, f, g, h, hV, ho, hd⟩ hl (by omega) (by omega)
theorem lw_tab {p : Program} {l : Launch} {e : Env} {s : State} {m : MethodId} {below : List Frame} {meth : Method} {c : Code} {Q : State → Prop} {Z : hw_Z} {b L oa da : Nat} {xs : Nat → Int32} {ad : hp_ad} {H : Heap} {locs : List Loc} {cells slots : Nat} {ls : Array Slot} {M : hw_M} {i : Nat} {ae : hp_ad} {S : hs_S} (hst : l.stackTraces = false) (C : lw_cx p s m c Z b L xs) (hI : hw_iv Z s M H locs) (hO : lw_ok Z M oa da ad ae S) (hl : lv_has ls 9 [(0, .ref b), (1, .ref (ad 0 0)), (2, .ref (ae 0 0)), (3, .ref oa), (4, .ref da), (5, .int (nI i))]) (hi : i + 5 ≤ L) (hc9 : cells + 770 ≤ 396424) (hs9 : slots + 15400 ≤ 7906833)
    (K : ∀ (M1 : hw_M) (H1 : Heap) (locs1 : List Loc) (ae1 : hp_ad) (S1 : hs_S) (cells1 slots1 : Nat) (ls1 : Array Slot), hw_iv Z s M1 H1 locs1 → ae1 0 0 = ae 0 0 → lw_ok Z M1 oa da ad ae1 S1 → lv_has ls1 9 [(0, .ref b), (1, .ref (ad 0 0)), (2, .ref (ae 0 0)), (3, .ref oa), (4, .ref da), (5, .int (nI i))] → cells1 ≤ cells + 770 → slots1 ≤ slots + 15400 → W p l e room_1 s m #[Value.ref b] below meth c H1 locs1 cells1 slots1 Q (F0 m 2013 ls1 [])) {j : Nat} (hj : j < 28) :
    W p l e room_1 s m #[Value.ref b] below meth c H locs cells slots Q (F0 m 44 ls [.int (nI j)]) := by
  have hx := C.1
  have hb := C.2.1
  rcases j with _ | _ | _ | _ | _ | _ | _ | _ | _ | _ | _ | _ | _ | _ | _ | _ | _ | _ | _ | _ | _ | _ | _ | _ | _ | _ | _ | _ | j
  · exact lv_tableIn (tgt := 172) hx hb dL_law_44 (by decide) (by decide) rfl (by decide) (lc_0 hst C hI hO hl hi hc9 hs9 K)
  · exact lv_tableIn (tgt := 216) hx hb dL_law_44 (by decide) (by decide) rfl (by decide) (lc_1 hst C hI hO hl hi hc9 hs9 K)
  · exact lv_tableIn (tgt := 328) hx hb dL_law_44 (by decide) (by decide) rfl (by decide) (lc_2 hst C hI hO hl hi hc9 hs9 K)
  · exact lv_tableIn (tgt := 396) hx hb dL_law_44 (by decide) (by decide) rfl (by decide) (lc_3 hst C hI hO hl hi hc9 hs9 K)
  · exact lv_tableIn (tgt := 464) hx hb dL_law_44 (by decide) (by decide) rfl (by decide) (lc_4 hst C hI hO hl hi hc9 hs9 K)
  · exact lv_tableIn (tgt := 532) hx hb dL_law_44 (by decide) (by decide) rfl (by decide) (lc_5 hst C hI hO hl hi hc9 hs9 K)
  · exact lv_tableIn (tgt := 600) hx hb dL_law_44 (by decide) (by decide) rfl (by decide) (lc_6 hst C hI hO hl hi hc9 hs9 K)
  · exact lv_tableIn (tgt := 656) hx hb dL_law_44 (by decide) (by decide) rfl (by decide) (lc_7 hst C hI hO hl hi hc9 hs9 K)
  · exact lv_tableIn (tgt := 712) hx hb dL_law_44 (by decide) (by decide) rfl (by decide) (lc_8 hst C hI hO hl hi hc9 hs9 K)
  · exact lv_tableIn (tgt := 804) hx hb dL_law_44 (by decide) (by decide) rfl (by decide) (lc_9 hst C hI hO hl hi hc9 hs9 K)
  · exact lv_tableIn (tgt := 872) hx hb dL_law_44 (by decide) (by decide) rfl (by decide) (lc_10 hst C hI hO hl hi hc9 hs9 K)
  · exact lv_tableIn (tgt := 928) hx hb dL_law_44 (by decide) (by decide) rfl (by decide) (lc_11 hst C hI hO hl hi hc9 hs9 K)
  · exact lv_tableIn (tgt := 984) hx hb dL_law_44 (by decide) (by decide) rfl (by decide) (lc_12 hst C hI hO hl hi hc9 hs9 K)
  · exact lv_tableIn (tgt := 1047) hx hb dL_law_44 (by decide) (by decide) rfl (by decide) (lc_13 hst C hI hO hl hi hc9 hs9 K)
  · exact lv_tableIn (tgt := 1103) hx hb dL_law_44 (by decide) (by decide) rfl (by decide) (lc_14 hst C hI hO hl hi hc9 hs9 K)
  · exact lv_tableIn (tgt := 1166) hx hb dL_law_44 (by decide) (by decide) rfl (by decide) (lc_15 hst C hI hO hl hi hc9 hs9 K)
  · exact lv_tableIn (tgt := 1222) hx hb dL_law_44 (by decide) (by decide) rfl (by decide) (lc_16 hst C hI hO hl hi hc9 hs9 K)
  · exact lv_tableIn (tgt := 1290) hx hb dL_law_44 (by decide) (by decide) rfl (by decide) (lc_17 hst C hI hO hl hi hc9 hs9 K)
  · exact lv_tableIn (tgt := 1369) hx hb dL_law_44 (by decide) (by decide) rfl (by decide) (lc_18 hst C hI hO hl hi hc9 hs9 K)
  · exact lv_tableIn (tgt := 1437) hx hb dL_law_44 (by decide) (by decide) rfl (by decide) (lc_19 hst C hI hO hl hi hc9 hs9 K)
  · exact lv_tableIn (tgt := 1505) hx hb dL_law_44 (by decide) (by decide) rfl (by decide) (lc_20 hst C hI hO hl hi hc9 hs9 K)
  · exact lv_tableIn (tgt := 1606) hx hb dL_law_44 (by decide) (by decide) rfl (by decide) (lc_21 hst C hI hO hl hi hc9 hs9 K)
  · exact lv_tableIn (tgt := 1695) hx hb dL_law_44 (by decide) (by decide) rfl (by decide) (lc_22 hst C hI hO hl hi hc9 hs9 K)
  · exact lv_tableIn (tgt := 1751) hx hb dL_law_44 (by decide) (by decide) rfl (by decide) (lc_23 hst C hI hO hl hi hc9 hs9 K)
  · exact lv_tableIn (tgt := 1807) hx hb dL_law_44 (by decide) (by decide) rfl (by decide) (lc_24 hst C hI hO hl hi hc9 hs9 K)
  · exact lv_tableIn (tgt := 1875) hx hb dL_law_44 (by decide) (by decide) rfl (by decide) (lc_25 hst C hI hO hl hi hc9 hs9 K)
  · exact lv_tableIn (tgt := 1931) hx hb dL_law_44 (by decide) (by decide) rfl (by decide) (lc_26 hst C hI hO hl hi hc9 hs9 K)
  · exact lv_tableIn (tgt := 1999) hx hb dL_law_44 (by decide) (by decide) rfl (by decide) (lc_27 hst C hI hO hl hi hc9 hs9 K)
  · omega
theorem lw_31 (x : Int32) : ∃ j, j < 32 ∧ x &&& nI 31 = nI j := by
  refine ⟨x.toBitVec.toNat % 32, Nat.mod_lt _ (by decide), Int32.toBitVec_inj.mp (BitVec.eq_of_toNat_eq ?_)⟩
  show (x.toBitVec &&& (nI 31).toBitVec).toNat = (BitVec.ofNat 32 (x.toBitVec.toNat % 32)).toNat
  rw [BitVec.toNat_and, show ((nI 31).toBitVec).toNat = 2 ^ 5 - 1 by decide, Nat.and_two_pow_sub_one_eq_mod, BitVec.toNat_ofNat]
  omega
theorem lw_cmp {i L : Nat} (hi : i < 2 ^ 20) (hL : L < 2 ^ 20) : (nI L - nI 5 < nI i) ↔ L < i + 5 := by
  rw [Int32.lt_iff_toInt_lt, Int32.toInt_sub, nI_toInt (by omega), nI_toInt (by omega), nI_toInt (by omega), Int.bmod_eq_of_le (by omega) (by omega)]
  omega
theorem lw_loop {p : Program} {l : Launch} {e : Env} {s : State} {m : MethodId} {below : List Frame} {meth : Method} {c : Code} {Q : State → Prop} {Z : hw_Z} {b L oa da : Nat} {xs : Nat → Int32} {ad : hp_ad} (hst : l.stackTraces = false) (C : lw_cx p s m c Z b L xs) {r2 : Nat}
    (KE : ∀ (M : hw_M) (H : Heap) (locs : List Loc) (cells slots : Nat) (ls : Array Slot), hw_iv Z s M H locs → cells ≤ 396424 → slots ≤ 7906833 → W p l e room_1 s m #[Value.ref b] below meth c H locs cells slots Q (F0 m 2019 ls [])) :
    ∀ (n : Nat) (i : Nat) (M : hw_M) (H : Heap) (locs : List Loc) (ae : hp_ad) (S : hs_S) (cells slots : Nat) (ls : Array Slot), L < i + 5 * n + 5 → i ≤ L + 5 → hw_iv Z s M H locs → ae 0 0 = r2 → lw_ok Z M oa da ad ae S → lv_has ls 9 [(0, .ref b), (1, .ref (ad 0 0)), (2, .ref r2), (3, .ref oa), (4, .ref da), (5, .int (nI i))] → cells + 770 * n ≤ 396424 → slots + 15400 * n ≤ 7906833 →
      W p l e room_1 s m #[Value.ref b] below meth c H locs cells slots Q (F0 m 28 ls []) := by
  have C' := C
  obtain ⟨hx, hb, hml, hown, hts, hk, hX, hbl, hbA, hL⟩ := C
  intro n
  induction n with
  | zero =>
    intro i M H locs ae S cells slots ls hn hin hI he hO hl hc9 hs9
    refine lv_iload hx hb dL_law_28 (lv_at hl 5 rfl) ?_
    refine lv_aload_n hx hb dL_law_30 rfl (lv_at hl 0 rfl) ?_
    refine va_slen hx hb hX hbl hbA hI.2.1 dL_law_31 ?_
    refine lv_iconst (v := nI 5) hx hb dL_law_32 (by decide) ?_
    refine lv_isub hx hb dL_law_33 ?_
    refine lv_icmp_gt (tgt := 2019) hx hb dL_law_34 (by decide) (fun _ => KE M H locs cells slots ls hI (by omega) (by omega)) (fun hc => absurd ((lw_cmp (by omega) (by omega)).mpr (by omega)) hc)
  | succ n ih =>
    intro i M H locs ae S cells slots ls hn hin hI he hO hl hc9 hs9
    refine lv_iload hx hb dL_law_28 (lv_at hl 5 rfl) ?_
    refine lv_aload_n hx hb dL_law_30 rfl (lv_at hl 0 rfl) ?_
    refine va_slen hx hb hX hbl hbA hI.2.1 dL_law_31 ?_
    refine lv_iconst (v := nI 5) hx hb dL_law_32 (by decide) ?_
    refine lv_isub hx hb dL_law_33 ?_
    refine lv_icmp_gt (tgt := 2019) hx hb dL_law_34 (by decide) (fun _ => KE M H locs cells slots ls hI (by omega) (by omega)) (fun hc => ?_)
    have hi : i + 5 ≤ L := Nat.le_of_not_lt (fun q => hc ((lw_cmp (by omega) (by omega)).mpr q))
    refine lv_aload_n hx hb dL_law_37 rfl (lv_at hl 0 rfl) ?_
    refine lv_iload hx hb dL_law_38 (lv_at hl 5 rfl) ?_
    refine lw_sld hx hb hX hbl hbA hL hI (j := i) rfl (by omega) dL_law_40 ?_
    refine lv_bipush (v := nI 31) hx hb dL_law_41 (by decide) ?_
    refine lv_iand hx hb dL_law_43 ?_
    obtain ⟨j, hj, ej⟩ := lw_31 (xs i)
    refine hw_ti ej ?_
    subst he
    have a1 : cells + 770 ≤ 396424 := Nat.le_trans (Nat.add_le_add_left (Nat.le_mul_of_pos_right 770 (Nat.succ_pos n)) cells) hc9
    have a2 : slots + 15400 ≤ 7906833 := Nat.le_trans (Nat.add_le_add_left (Nat.le_mul_of_pos_right 15400 (Nat.succ_pos n)) slots) hs9
    have K : ∀ (M1 : hw_M) (H1 : Heap) (locs1 : List Loc) (ae1 : hp_ad) (S1 : hs_S) (cells1 slots1 : Nat) (ls1 : Array Slot), hw_iv Z s M1 H1 locs1 → ae1 0 0 = ae 0 0 → lw_ok Z M1 oa da ad ae1 S1 → lv_has ls1 9 [(0, .ref b), (1, .ref (ad 0 0)), (2, .ref (ae 0 0)), (3, .ref oa), (4, .ref da), (5, .int (nI i))] → cells1 ≤ cells + 770 → slots1 ≤ slots + 15400 → W p l e room_1 s m #[Value.ref b] below meth c H1 locs1 cells1 slots1 Q (F0 m 2013 ls1 []) := by
      intro M1 H1 locs1 ae1 S1 cells1 slots1 ls1 hI1 he1 hO1 hl1 hc1 hs1
      refine lv_iinc (v := nI (i + 5)) (lv' := [(5, .int (nI (i + 5))), (0, .ref b), (1, .ref (ad 0 0)), (2, .ref (ae 0 0)), (3, .ref oa), (4, .ref da)]) hx hb dL_law_2013 hl1 (k := 5) rfl (by rw [show Int32.ofInt 5 = nI 5 by decide]; exact nI_add _ _) (by decide) rfl (fun ls hl => ?_)
      refine lv_goto (tgt := 28) hx hb dL_law_2016 (by decide) ?_
      exact ih (i + 5) M1 H1 locs1 ae1 S1 cells1 slots1 ls (by omega) (by omega) hI1 he1 hO1 (lv_sub hl [1, 2, 3, 4, 5, 0] rfl) (by omega) (by omega)
    by_cases hj2 : j < 28
    · exact lw_tab hst C' hI hO hl hi a1 a2 K hj2
    · refine lv_tableOut (tgt := 2013) hx hb dL_law_44 (Or.inr (by rw [nI_toInt (by omega)]; omega)) (by decide) ?_
      exact K M H locs ae S cells slots ls hI rfl hO hl (by omega) (by omega)
