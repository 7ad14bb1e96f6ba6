theorem iw_X7 : ∀ w ∈ u_ws RX7 TX7 5, w ∈ hw_ws := fun w h => hw_win ((by decide +kernel : ∀ w ∈ u_ws RX7 TX7 5, w ∈ lw_tbl) w h) ((by decide +kernel : ∀ w ∈ u_ws RX7 TX7 5, goodWord w = true) w h)
theorem fp_X7_9 : hw_FP RX7 9 8 0 (.int) false := ⟨RX7, TX7, 5, "MeltPoolModel$Machine", tyX7, rfl, by decide, iw_X7, (hw_win (w := .fieldLink RX7 9 "MeltPoolModel$Machine" (TX7 0).2.1 (TX7 0).2.2.1) (by decide +kernel) (by decide +kernel)), Or.inl rfl, tyX7_ok, nmX7, rfl, (fun h => by cases h), by decide +kernel⟩
theorem fp_X7_15 : hw_FP RX7 15 8 1 (.int) false := ⟨RX7, TX7, 5, "MeltPoolModel$Machine", tyX7, rfl, by decide, iw_X7, (hw_win (w := .fieldLink RX7 15 "MeltPoolModel$Machine" (TX7 1).2.1 (TX7 1).2.2.1) (by decide +kernel) (by decide +kernel)), Or.inl rfl, tyX7_ok, nmX7, rfl, (fun h => by cases h), by decide +kernel⟩
theorem fp_X7_18 : hw_FP RX7 18 8 3 (.int) false := ⟨RX7, TX7, 5, "MeltPoolModel$Machine", tyX7, rfl, by decide, iw_X7, (hw_win (w := .fieldLink RX7 18 "MeltPoolModel$Machine" (TX7 3).2.1 (TX7 3).2.2.1) (by decide +kernel) (by decide +kernel)), Or.inl rfl, tyX7_ok, nmX7, rfl, (fun h => by cases h), by decide +kernel⟩
theorem fn_X7_21 : hw_FN RX7 21 0 3 [.int 0, .null, .int 0] := ⟨RJx4a65c, TJx4a65c, tyJx4a65c, rfl, iw_Jx4a65c, tyJx4a65c_ok, (hw_win (w := .classLink RX7 21 RJx4a65c) (by decide +kernel) (by decide +kernel)), (hw_win (w := .instantiable RJx4a65c 3) (by decide +kernel) (by decide +kernel)), (hw_win (w := .initialized RJx4a65c) (by decide +kernel) (by decide +kernel)), fun j hj => by rcases (show j = 0 ∨ j = 1 ∨ j = 2 by omega) with rfl | rfl | rfl <;> rfl⟩
theorem cb_Jx4a65c_init_da8c8 (own : String) (index : Nat) : hw_CB own index yJx4a65c_init_da8c8 cJx4a65c_init_da8c8 1 none 0 := ⟨⟨by decide +kernel, by decide +kernel, by decide +kernel⟩, (hw_win (w := .code yJx4a65c_init_da8c8 cJx4a65c_init_da8c8 1 none) (by decide +kernel) (by decide +kernel)), (hw_win (w := .initialized yJx4a65c_init_da8c8.cls) (by decide +kernel) (by decide +kernel))⟩
theorem ci_X7_23 : hw_CI RX7 23 yJx4a65c_init_da8c8 cJx4a65c_init_da8c8 1 0 := ⟨cb_Jx4a65c_init_da8c8 _ _, (hw_win (w := .methodLink RX7 23 yJx4a65c_init_da8c8) (by decide +kernel) (by decide +kernel)), (hw_win (w := .instanceMethod yJx4a65c_init_da8c8) (by decide +kernel) (by decide +kernel)), rfl⟩
theorem fp_X7_24 : hw_FP RX7 24 8 4 (.object "java/util/List") true := ⟨RX7, TX7, 5, "MeltPoolModel$Machine", tyX7, rfl, by decide, iw_X7, (hw_win (w := .fieldLink RX7 24 "MeltPoolModel$Machine" (TX7 4).2.1 (TX7 4).2.2.1) (by decide +kernel) (by decide +kernel)), Or.inl rfl, tyX7_ok, nmX7, rfl, (fun _ => by decide +kernel), by decide +kernel⟩
theorem fd_X7_24 : hw_FD RX7 24 8 4 := ⟨RX7, TX7, 5, "MeltPoolModel$Machine", rfl, by decide, iw_X7, (hw_win (w := .fieldLink RX7 24 "MeltPoolModel$Machine" (TX7 4).2.1 (TX7 4).2.2.1) (by decide +kernel) (by decide +kernel)), Or.inl rfl⟩
theorem cb_Jx4a65c_size_8abf5 (own : String) (index : Nat) : hw_CB own index yJx4a65c_size_8abf5 cJx4a65c_size_8abf5 1 (some .int) 0 := ⟨⟨by decide +kernel, by decide +kernel, by decide +kernel⟩, (hw_win (w := .code yJx4a65c_size_8abf5 cJx4a65c_size_8abf5 1 (some .int)) (by decide +kernel) (by decide +kernel)), (hw_win (w := .initialized yJx4a65c_size_8abf5.cls) (by decide +kernel) (by decide +kernel))⟩
theorem cf_X7_28 : hw_CF RX7 28 "java/util/ArrayList" ⟨"java/util/List", "size", "()I"⟩ yJx4a65c_size_8abf5 cJx4a65c_size_8abf5 1 (some .int) 0 := ⟨⟨by decide +kernel, by decide +kernel, by decide +kernel⟩, (hw_win (w := .code yJx4a65c_size_8abf5 cJx4a65c_size_8abf5 1 (some .int)) (by decide +kernel) (by decide +kernel)), (hw_win (w := .initialized yJx4a65c_size_8abf5.cls) (by decide +kernel) (by decide +kernel)), (hw_win (w := .methodLink RX7 28 ⟨"java/util/List", "size", "()I"⟩) (by decide +kernel) (by decide +kernel)), (hw_win (w := .selects "java/util/ArrayList" ⟨"java/util/List", "size", "()I"⟩ yJx4a65c_size_8abf5) (by decide +kernel) (by decide +kernel)), (hw_win (w := .instanceMethod yJx4a65c_size_8abf5) (by decide +kernel) (by decide +kernel)), by decide +kernel⟩
theorem cb_Jx4a65c_get_915e3 (own : String) (index : Nat) : hw_CB own index yJx4a65c_get_915e3 cJx4a65c_get_915e3 2 (some (.object "java/lang/Object")) 1 := ⟨⟨by decide +kernel, by decide +kernel, by decide +kernel⟩, (hw_win (w := .code yJx4a65c_get_915e3 cJx4a65c_get_915e3 2 (some (.object "java/lang/Object"))) (by decide +kernel) (by decide +kernel)), (hw_win (w := .initialized yJx4a65c_get_915e3.cls) (by decide +kernel) (by decide +kernel))⟩
theorem cf_X7_34 : hw_CF RX7 34 "java/util/ArrayList" ⟨"java/util/List", "get", "(I)Ljava/lang/Object;"⟩ yJx4a65c_get_915e3 cJx4a65c_get_915e3 2 (some (.object "java/lang/Object")) 1 := ⟨⟨by decide +kernel, by decide +kernel, by decide +kernel⟩, (hw_win (w := .code yJx4a65c_get_915e3 cJx4a65c_get_915e3 2 (some (.object "java/lang/Object"))) (by decide +kernel) (by decide +kernel)), (hw_win (w := .initialized yJx4a65c_get_915e3.cls) (by decide +kernel) (by decide +kernel)), (hw_win (w := .methodLink RX7 34 ⟨"java/util/List", "get", "(I)Ljava/lang/Object;"⟩) (by decide +kernel) (by decide +kernel)), (hw_win (w := .selects "java/util/ArrayList" ⟨"java/util/List", "get", "(I)Ljava/lang/Object;"⟩ yJx4a65c_get_915e3) (by decide +kernel) (by decide +kernel)), (hw_win (w := .instanceMethod yJx4a65c_get_915e3) (by decide +kernel) (by decide +kernel)), by decide +kernel⟩
set_option maxHeartbeats 4000000 in
set_option maxRecDepth 100000 in
theorem m_X7_init (l : Launch) (Z : hw_Z) (M : hw_M) (a : Nat) (h0 : M a = hw_ob 8 [.int 0, .int 0, .int 0, .int 0, .null]) : Met l yX7_init (hw_m yX7_init cX7_init 1 none) ({ frames := 4, cells := 1, slots := 3, locals := 75 } : Room) (va_Pc [.ref a] (hw_P Z M)) (hw_Qv Z (fun M' => ∃ (pl : Nat), (M pl = none) ∧ (True) ∧ (M' pl = hw_ob 0 [.int (nI 0), .ref Z.2.2.2, .int 0]) ∧ M' a = hw_ob 8 [.int (-1), .int (-1), .int 0, .int (-1), .ref pl] ∧ ∀ x, M x ≠ none → x ≠ a → M' x = M x)) 1 3 (hw_A Z) := by
  refine hw_ofv (by decide +kernel) rfl (Nat.le_of_ble_eq_true rfl) ?_
  intro p e s m below meth c ls Q hx hb hml hown hts hk hnm hI hl hret
  refine lv_aload_n hx hb dX7_init_0 rfl (lv_at hl 0 rfl) ?_
  refine W.objInit hx hb hown (hts _ (hw_win (w := .methodLink RX7 3 objectInit) (by decide +kernel) (by decide +kernel))) (hts _ (hw_win (w := .instanceMethod objectInit) (by decide +kernel) (by decide +kernel))) (hts _ (hw_win (w := .code objectInit ⟨#[0xb1]⟩ 1 none) (by decide +kernel) (by decide +kernel))) rfl (by rw [hml]; exact hl.1) rfl dX7_init_1 (Nat.le_of_ble_eq_true rfl) (Nat.le_of_ble_eq_true rfl) ?_
  refine W.eq (g2 := F0 m 4 ls []) rfl ?_
  refine lv_aload_n hx hb dX7_init_4 rfl (lv_at hl 0 rfl) ?_
  refine lv_iconst (v := (-1)) hx hb dX7_init_5 (by decide) ?_
  refine hw_put (fs' := [.int (-1), .int 0, .int 0, .int 0, .null]) hx hb hts hown hk hI fp_X7_9 h0 (Nat.le_of_ble_eq_true rfl) rfl rfl rfl dX7_init_6 (fun H locs hI => ?_)
  refine lv_aload_n hx hb dX7_init_9 rfl (lv_at hl 0 rfl) ?_
  refine lv_iconst (v := (-1)) hx hb dX7_init_10 (by decide) ?_
  refine hw_put (fs' := [.int (-1), .int (-1), .int 0, .int 0, .null]) hx hb hts hown hk hI fp_X7_15 (hw_us _ _ _) (Nat.le_of_ble_eq_true rfl) rfl rfl rfl dX7_init_11 (fun H locs hI => ?_)
  refine lv_aload_n hx hb dX7_init_14 rfl (lv_at hl 0 rfl) ?_
  refine lv_iconst (v := (-1)) hx hb dX7_init_15 (by decide) ?_
  refine hw_put (fs' := [.int (-1), .int (-1), .int 0, .int (-1), .null]) hx hb hts hown hk hI fp_X7_18 (hw_us _ _ _) (Nat.le_of_ble_eq_true rfl) rfl rfl rfl dX7_init_16 (fun H locs hI => ?_)
  refine lv_aload_n hx hb dX7_init_19 rfl (lv_at hl 0 rfl) ?_
  refine hw_new hx hb hts hown hk hI fn_X7_21 (Nat.le_of_ble_eq_true rfl) (Nat.le_of_ble_eq_true rfl) dX7_init_20 (fun q20 H hq20 hI => ?_)
  have b_q20 : M q20 = none := hw_alv.n (hw_alv_u (hw_alv_u (hw_alv_u (hw_alv_r M)))) hq20
  refine lv_dup hx hb dX7_init_23 rfl ?_
  refine hw_cv hI (hw_rI hx hb hml hown hts hk hI (m_Jx4a65c_init_da8c8 l Z (va_up (va_up (va_up (va_up M a (hw_ob 8 [.int (-1), .int 0, .int 0, .int 0, .null])) a (hw_ob 8 [.int (-1), .int (-1), .int 0, .int 0, .null])) a (hw_ob 8 [.int (-1), .int (-1), .int 0, .int (-1), .null])) q20 (hw_ob 0 [.int 0, .null, .int 0])) q20 (hw_us _ _ _)) ci_X7_23 ⟨rfl, rfl⟩ ⟨(Nat.le_of_ble_eq_true rfl), (Nat.le_of_ble_eq_true rfl)⟩ rfl hl.1 rfl (Nat.le_of_ble_eq_true rfl) ⟨(Nat.le_of_ble_eq_true rfl), (Nat.le_of_ble_eq_true rfl)⟩ dX7_init_24) (fun M24 H locs hR hI => ?_)
  subst hR
  refine hw_putF (fs' := [.int (-1), .int (-1), .int 0, .int (-1), .ref q20]) hx hb hts hown hnm hk hI fp_X7_24 (hw_up (hw_up (hw_us _ _ _) (hw_nn (hw_us _ _ _) hq20)) (hw_nn (hw_us _ _ _) hq20)) (Nat.le_of_ble_eq_true rfl) rfl rfl rfl dX7_init_27 (fun H locs hI => ?_)
  have hfin : (fun M' => ∃ (pl : Nat), (M pl = none) ∧ (True) ∧ (M' pl = hw_ob 0 [.int (nI 0), .ref Z.2.2.2, .int 0]) ∧ M' a = hw_ob 8 [.int (-1), .int (-1), .int 0, .int (-1), .ref pl] ∧ ∀ x, M x ≠ none → x ≠ a → M' x = M x) (va_up (va_up (va_up (va_up (va_up (va_up M a (hw_ob 8 [.int (-1), .int 0, .int 0, .int 0, .null])) a (hw_ob 8 [.int (-1), .int (-1), .int 0, .int 0, .null])) a (hw_ob 8 [.int (-1), .int (-1), .int 0, .int (-1), .null])) q20 (hw_ob 0 [.int 0, .null, .int 0])) q20 (hw_ob 0 [.int (nI 0), .ref Z.2.2.2, .int 0])) a (hw_ob 8 [.int (-1), .int (-1), .int 0, .int (-1), .ref q20])) := ⟨q20, b_q20, trivial, hw_up (hw_us _ _ _) (Ne.symm (hw_nn (hw_us _ _ _) hq20)), hw_us _ _ _, fun x hx hxa => by rw [va_up_ne _ _ hxa, va_up_ne _ _ (hw_xn hx b_q20), va_up_ne _ _ (hw_xn hx b_q20), va_up_ne _ _ hxa, va_up_ne _ _ hxa, va_up_ne _ _ hxa]⟩
  exact hret hI hfin (Nat.le_of_ble_eq_true rfl) (Nat.le_of_ble_eq_true rfl) dX7_init_30

set_option maxHeartbeats 4000000 in
set_option maxRecDepth 100000 in
theorem m_X7_isProved (l : Launch) (Z : hw_Z) (M : hw_M) (a : Nat) (b : Nat) (d : Nat) (n : Nat) (mc : Int32) (x : Int32) (y : Int32) (z : Int32) (z1 : Int32) (z2 : Int32) (z3 : Int32) (z4 : Int32) (f : Nat → Option Nat) (pa : Nat → Nat) (qq : Nat → Nat → Int32) (h0 : M a = hw_ob 8 [.int z1, .int z2, .int z3, .int z4, .ref b]) (h1 : M b = hw_ob 0 [.int mc, .ref d, .int (nI n)]) (h2 : M d = hw_ar Z 7 10 f) (hn : n ≤ 10) (hf : ∀ i, i < n → f i = some (pa i)) (hq : ∀ i, i < n → M (pa i) = hw_ai Z 3 (qq i)) : Met l yX7_isProved (hw_m yX7_isProved cX7_isProved 5 (some .boolean)) ({ frames := 3, cells := 0, slots := 0, locals := 75 } : Room) (va_Pc [.ref a, .int x, .int y, .int z] (hw_P Z M)) (hw_Qi Z (fun r M' => nI (hb_tr qq x y z n).toNat = r ∧ M = M')) 0 0 (hw_A Z) := by
  refine hw_ofz (by decide +kernel) rfl (Nat.le_of_ble_eq_true rfl) ?_
  intro p e s m below meth c ls Q hx hb hml hown hts hk hnm hI hl hret
  refine lv_iconst (v := nI 0) hx hb dX7_isProved_0 (by decide) ?_
  refine lv_istore (lv' := [(4, .int (nI 0)), (0, .ref a), (1, .int x), (2, .int y), (3, .int z)]) hx hb dX7_isProved_1 hl (by decide) rfl (fun ls hl => ?_)
  suffices LP3 : ∀ i, i ≤ n → ∀ (H : Heap) (locs : List Loc) (ls : Array Slot), hw_iv Z s (M) H locs → lv_has ls 5 [(4, .int (nI i)), (0, .ref a), (1, .int x), (2, .int y), (3, .int z)] → hb_tr qq x y z i = false → W p l e ({ frames := 3, cells := 0, slots := 0, locals := 75 } : Room) s m ([.ref a, .int x, .int y, .int z] : List Value).toArray below meth c H locs 0 0 Q (F0 m 3 ls []) from LP3 0 (by omega) _ _ _ hI (lv_sub hl [0, 1, 2, 3, 4] rfl) rfl
  refine hw_loop ?_ (fun i hi3 ih3 => ?_)
  · intro H locs ls hI hl hJ
    refine lv_iload hx hb dX7_isProved_3 (lv_at hl 0 rfl) ?_
    refine lv_aload_n hx hb dX7_isProved_5 rfl (lv_at hl 1 rfl) ?_
    refine hw_get hx hb hts hown hk hI fd_X7_24 h0 rfl dX7_isProved_6 ?_
    refine hw_cFi hI (hw_rF hx hb hml hown hts hk hI (m_Jx4a65c_size_8abf5 l Z M b n mc (.ref d) h1) cf_X7_28 h1 rfl rfl ⟨rfl, rfl⟩ ⟨(Nat.le_of_ble_eq_true rfl), (Nat.le_of_ble_eq_true rfl)⟩ rfl hl.1 rfl (Nat.le_of_ble_eq_true rfl) ⟨(Nat.le_of_ble_eq_true rfl), (Nat.le_of_ble_eq_true rfl)⟩ dX7_isProved_9) (fun r9 M9 H locs hR hI => ?_)
    obtain ⟨rfl, rfl⟩ := hR
    refine lv_icmp_ge (tgt := 85) hx hb dX7_isProved_14 (by decide) (fun _ => ?_) (fun hc => absurd (Int32.le_refl _) hc)
    refine lv_iconst (v := nI 0) hx hb dX7_isProved_85 (by decide) ?_
    exact hret hI (Or.inl rfl) (⟨by rw [hJ]; rfl, rfl⟩) (Nat.le_of_ble_eq_true rfl) (Nat.le_of_ble_eq_true rfl) dX7_isProved_86
  · intro H locs ls hI hl hJ
    refine lv_iload hx hb dX7_isProved_3 (lv_at hl 0 rfl) ?_
    refine lv_aload_n hx hb dX7_isProved_5 rfl (lv_at hl 1 rfl) ?_
    refine hw_get hx hb hts hown hk hI fd_X7_24 h0 rfl dX7_isProved_6 ?_
    refine hw_cFi hI (hw_rF hx hb hml hown hts hk hI (m_Jx4a65c_size_8abf5 l Z M b n mc (.ref d) h1) cf_X7_28 h1 rfl rfl ⟨rfl, rfl⟩ ⟨(Nat.le_of_ble_eq_true rfl), (Nat.le_of_ble_eq_true rfl)⟩ rfl hl.1 rfl (Nat.le_of_ble_eq_true rfl) ⟨(Nat.le_of_ble_eq_true rfl), (Nat.le_of_ble_eq_true rfl)⟩ dX7_isProved_9) (fun r9 M9 H locs hR hI => ?_)
    obtain ⟨rfl, rfl⟩ := hR
    refine lv_icmp_ge (tgt := 85) hx hb dX7_isProved_14 (by decide) (fun hc => absurd hc (nI_ge hi3 (by omega))) (fun _ => ?_)
    refine lv_aload_n hx hb dX7_isProved_17 rfl (lv_at hl 1 rfl) ?_
    refine hw_get hx hb hts hown hk hI fd_X7_24 h0 rfl dX7_isProved_18 ?_
    refine lv_iload hx hb dX7_isProved_21 (lv_at hl 0 rfl) ?_
    refine hw_cFr hI (hw_rF hx hb hml hown hts hk hI (m_Jx4a65c_get_915e3 l Z M b d n i (pa i) mc f h1 h2 hi3 hn (hf i hi3)) cf_X7_34 h1 rfl rfl ⟨rfl, rfl⟩ ⟨(Nat.le_of_ble_eq_true rfl), (Nat.le_of_ble_eq_true rfl)⟩ rfl hl.1 rfl (Nat.le_of_ble_eq_true rfl) ⟨(Nat.le_of_ble_eq_true rfl), (Nat.le_of_ble_eq_true rfl)⟩ dX7_isProved_23) (fun r23 M23 H locs hR hI => ?_)
    obtain ⟨rfl, rfl⟩ := hR
    refine hw_castI hx hb hts hown hk hI (hq i hi3) (hw_win (w := .classLink RX7 38 "[I") (by decide +kernel) (by decide +kernel)) dX7_isProved_28 ?_
    refine lv_iconst (v := nI 0) hx hb dX7_isProved_31 (by decide) ?_
    refine hw_iald hx hb hk hI (hq i hi3) (j := 0) rfl (by omega) (by decide) dX7_isProved_32 ?_
    refine lv_iload_n hx hb dX7_isProved_33 rfl (lv_at hl 2 rfl) ?_
    refine lv_icmp_ne (tgt := 79) hx hb dX7_isProved_34 (by decide) (fun c34 => ?_) (fun c34 => ?_)
    · have hne : ¬ (qq i 0 = x ∧ qq i 1 = y ∧ qq i 2 = z) := fun q => c34 q.1
      refine lv_iinc (v := nI (i + 1)) (lv' := [(4, .int (nI (i + 1))), (0, .ref a), (1, .int x), (2, .int y), (3, .int z)]) hx hb dX7_isProved_79 hl (k := 0) rfl (hw_inc _) (by decide) rfl (fun ls hl => ?_)
      refine lv_goto (tgt := 3) hx hb dX7_isProved_82 (by decide) ?_
      exact ih3 _ _ _ hI (lv_sub hl [0, 1, 2, 3, 4] rfl) (by exact hb_tr_n hJ hne)
    · refine lv_aload_n hx hb dX7_isProved_37 rfl (lv_at hl 1 rfl) ?_
      refine hw_get hx hb hts hown hk hI fd_X7_24 h0 rfl dX7_isProved_38 ?_
      refine lv_iload hx hb dX7_isProved_41 (lv_at hl 0 rfl) ?_
      refine hw_cFr hI (hw_rF hx hb hml hown hts hk hI (m_Jx4a65c_get_915e3 l Z M b d n i (pa i) mc f h1 h2 hi3 hn (hf i hi3)) cf_X7_34 h1 rfl rfl ⟨rfl, rfl⟩ ⟨(Nat.le_of_ble_eq_true rfl), (Nat.le_of_ble_eq_true rfl)⟩ rfl hl.1 rfl (Nat.le_of_ble_eq_true rfl) ⟨(Nat.le_of_ble_eq_true rfl), (Nat.le_of_ble_eq_true rfl)⟩ dX7_isProved_43) (fun r43 M43 H locs hR hI => ?_)
      obtain ⟨rfl, rfl⟩ := hR
      refine hw_castI hx hb hts hown hk hI (hq i hi3) (hw_win (w := .classLink RX7 38 "[I") (by decide +kernel) (by decide +kernel)) dX7_isProved_48 ?_
      refine lv_iconst (v := nI 1) hx hb dX7_isProved_51 (by decide) ?_
      refine hw_iald hx hb hk hI (hq i hi3) (j := 1) rfl (by omega) (by decide) dX7_isProved_52 ?_
      refine lv_iload_n hx hb dX7_isProved_53 rfl (lv_at hl 3 rfl) ?_
      refine lv_icmp_ne (tgt := 79) hx hb dX7_isProved_54 (by decide) (fun c54 => ?_) (fun c54 => ?_)
      · have hne : ¬ (qq i 0 = x ∧ qq i 1 = y ∧ qq i 2 = z) := fun q => c54 q.2.1
        refine lv_iinc (v := nI (i + 1)) (lv' := [(4, .int (nI (i + 1))), (0, .ref a), (1, .int x), (2, .int y), (3, .int z)]) hx hb dX7_isProved_79 hl (k := 0) rfl (hw_inc _) (by decide) rfl (fun ls hl => ?_)
        refine lv_goto (tgt := 3) hx hb dX7_isProved_82 (by decide) ?_
        exact ih3 _ _ _ hI (lv_sub hl [0, 1, 2, 3, 4] rfl) (by exact hb_tr_n hJ hne)
      · refine lv_aload_n hx hb dX7_isProved_57 rfl (lv_at hl 1 rfl) ?_
        refine hw_get hx hb hts hown hk hI fd_X7_24 h0 rfl dX7_isProved_58 ?_
        refine lv_iload hx hb dX7_isProved_61 (lv_at hl 0 rfl) ?_
        refine hw_cFr hI (hw_rF hx hb hml hown hts hk hI (m_Jx4a65c_get_915e3 l Z M b d n i (pa i) mc f h1 h2 hi3 hn (hf i hi3)) cf_X7_34 h1 rfl rfl ⟨rfl, rfl⟩ ⟨(Nat.le_of_ble_eq_true rfl), (Nat.le_of_ble_eq_true rfl)⟩ rfl hl.1 rfl (Nat.le_of_ble_eq_true rfl) ⟨(Nat.le_of_ble_eq_true rfl), (Nat.le_of_ble_eq_true rfl)⟩ dX7_isProved_63) (fun r63 M63 H locs hR hI => ?_)
        obtain ⟨rfl, rfl⟩ := hR
        refine hw_castI hx hb hts hown hk hI (hq i hi3) (hw_win (w := .classLink RX7 38 "[I") (by decide +kernel) (by decide +kernel)) dX7_isProved_68 ?_
        refine lv_iconst (v := nI 2) hx hb dX7_isProved_71 (by decide) ?_
        refine hw_iald hx hb hk hI (hq i hi3) (j := 2) rfl (by omega) (by decide) dX7_isProved_72 ?_
        refine lv_iload_n hx hb dX7_isProved_73 rfl (lv_at hl 4 rfl) ?_
        refine lv_icmp_ne (tgt := 79) hx hb dX7_isProved_74 (by decide) (fun c74 => ?_) (fun c74 => ?_)
        · have hne : ¬ (qq i 0 = x ∧ qq i 1 = y ∧ qq i 2 = z) := fun q => c74 q.2.2
          refine lv_iinc (v := nI (i + 1)) (lv' := [(4, .int (nI (i + 1))), (0, .ref a), (1, .int x), (2, .int y), (3, .int z)]) hx hb dX7_isProved_79 hl (k := 0) rfl (hw_inc _) (by decide) rfl (fun ls hl => ?_)
          refine lv_goto (tgt := 3) hx hb dX7_isProved_82 (by decide) ?_
          exact ih3 _ _ _ hI (lv_sub hl [0, 1, 2, 3, 4] rfl) (by exact hb_tr_n hJ hne)
        · refine lv_iconst (v := nI 1) hx hb dX7_isProved_77 (by decide) ?_
          exact hret hI (Or.inr rfl) (⟨by rw [hb_tr_of ⟨c34, c54, c74⟩ hi3]; rfl, rfl⟩) (Nat.le_of_ble_eq_true rfl) (Nat.le_of_ble_eq_true rfl) dX7_isProved_78
