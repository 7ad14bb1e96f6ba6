theorem hb_or0 (x : Int32) : x ||| nI 0 = x := by rw [nI_0]; exact Int32.or_zero
theorem hb_m1 {m : Nat} (h : m < 64) : ¬ nI m = -1 := fun q => by
  have h2 := nI_pos (n := m) (by omega)
  rw [q] at h2
  exact h2 (by decide)
set_option maxRecDepth 100000 in
theorem hb_tc0 : ∀ m, m < 64 → ∀ k, k < 6 → ((nI m &&& (nI 1 <<< (nI k &&& 31)) = 0) ↔ m.testBit k = false) := by decide +kernel
theorem hv_re {S : hs_S} (h : hv_ok S) {i w : Nat} (hi : i < hs_np S) (hw : w < 6) : (¬ hs_P S i 8 = -1 ∧ (hs_P S i 8 >>> (nI w &&& 31) &&& nI 1) = nI 1) ↔ (¬ hs_P S i 4 = -1 ∧ ¬ (hs_P S i 8 &&& (nI 1 <<< (nI w &&& 31))) = 0) := by
  have hnp := h.b.np
  by_cases h0 : hs_P S i 0 = 0
  · obtain ⟨_, _, r4, _, _, _, r8, _⟩ := h.raw (i := i) (by omega) h0
    exact ⟨fun q => absurd r8 q.1, fun q => absurd r4 q.1⟩
  · obtain ⟨t4, _, _, al, _, _, m, t8, m0, m6, _⟩ := h.st hi h0
    rw [t8]
    constructor
    · intro q
      refine ⟨hb_okn t4, fun z => ?_⟩
      have := (hb_tb m6 hw).mp q.2
      rw [(hb_tc0 m m6 w hw).mp z] at this
      cases this
    · intro q
      refine ⟨hb_m1 m6, (hb_tb m6 hw).mpr ?_⟩
      cases hb : m.testBit w with
      | true => rfl
      | false => exact absurd ((hb_tc0 m m6 w hw).mpr hb) q.2
theorem hs_re_y {S : hs_S} {w i : Nat} (h : ¬ hs_P S i 4 = -1 ∧ ¬ (hs_P S i 8 &&& (nI 1 <<< (nI w &&& 31))) = 0) : hs_re S w i ||| (nI 1 <<< (nI i &&& 31)) = hs_re S w (i + 1) := (if_pos h).symm
theorem hs_re_n {S : hs_S} {w i : Nat} (h : ¬ (¬ hs_P S i 4 = -1 ∧ ¬ (hs_P S i 8 &&& (nI 1 <<< (nI w &&& 31))) = 0)) : hs_re S w i ||| nI 0 = hs_re S w (i + 1) := (hb_or0 _).trans (if_neg h).symm
theorem hs_ca_y {S : hs_S} {x : Int32} {i : Nat} (h : hs_P S i 0 = x) : hs_ca S x i + 1 = hs_ca S x (i + 1) := (if_pos h).symm
theorem hs_ca_n {S : hs_S} {x : Int32} {i : Nat} (h : ¬ hs_P S i 0 = x) : hs_ca S x i + 0 = hs_ca S x (i + 1) := (if_neg h).symm
theorem hr_F_u {M W : hw_M} {q : Nat} {e : Option va_E} (h : hr_F M W) (hq : M q = none) : hr_F M (va_up W q e) := fun x hx => (va_up_ne _ _ (hw_xn hx hq)).trans (h x hx)
theorem hs_gs_s (S : hs_S) (a b : Int32) (i : Nat) : a + b + hs_gs S i + hs_V S i 1 = a + b + hs_gs S (i + 1) := by
  rw [Int32.add_assoc]; rfl
theorem hs_gs_e (S : hs_S) (a b : Int32) (n : Nat) : a + b + hs_gs S n = hs_gs S n + a + b := by
  rw [Int32.add_comm (a + b), ← Int32.add_assoc]
def hs_7 (S : hs_S) (k : Nat) : Nat → Int32 := va_up (va_up (va_up (va_up (va_up (fun _ => 0) 0 (hs_V S k 0)) 1 (hs_V S k 1)) 2 (hs_V S k 2)) 3 (hs_V S k 3)) 4 (hs_V S k 4)
theorem hs_7e (S : hs_S) (k : Nat) {w : Nat} (hw : w < 5) : hs_7 S k w = hs_V S k w := by
  rcases (show w = 0 ∨ w = 1 ∨ w = 2 ∨ w = 3 ∨ w = 4 by omega) with rfl | rfl | rfl | rfl | rfl <;> rfl
def hs_8 (S : hs_S) (k : Nat) : Nat → Int32 := va_up (va_up (va_up (va_up (va_up (fun _ => 0) 0 (hs_M S k 0)) 1 (hs_M S k 1)) 2 (hs_M S k 2)) 3 (hs_M S k 3)) 4 (nI (hs_N S k))
theorem hs_8e (S : hs_S) (k : Nat) {w : Nat} (hw : w < 5) : hs_8 S k w = hs_om S k w := by
  rcases (show w = 0 ∨ w = 1 ∨ w = 2 ∨ w = 3 ∨ w = 4 by omega) with rfl | rfl | rfl | rfl | rfl <;> rfl
theorem cb_X10_hangs_ (own : String) (index : Nat) : hw_CB own index yX10_hangs_ cX10_hangs_ 3 (some .int) 0 := ⟨⟨by decide +kernel, by decide +kernel, by decide +kernel⟩, (hw_win (w := .code yX10_hangs_ cX10_hangs_ 3 (some .int)) (by decide +kernel) (by decide +kernel)), (hw_win (w := .initialized yX10_hangs_.cls) (by decide +kernel) (by decide +kernel))⟩
theorem cv_X11_205 : hw_CV RX11 205 yX10_hangs_ cX10_hangs_ 3 (some .int) 0 := ⟨cb_X10_hangs_ _ _, (hw_win (w := .methodLink RX11 205 yX10_hangs_) (by decide +kernel) (by decide +kernel)), (hw_win (w := .instanceMethod yX10_hangs_) (by decide +kernel) (by decide +kernel)), (hw_win (w := .selects yX10_hangs_.cls yX10_hangs_ yX10_hangs_) (by decide +kernel) (by decide +kernel))⟩
theorem cb_X10_islands (own : String) (index : Nat) : hw_CB own index yX10_islands cX10_islands 9 (some .int) 0 := ⟨⟨by decide +kernel, by decide +kernel, by decide +kernel⟩, (hw_win (w := .code yX10_islands cX10_islands 9 (some .int)) (by decide +kernel) (by decide +kernel)), (hw_win (w := .initialized yX10_islands.cls) (by decide +kernel) (by decide +kernel))⟩
theorem cv_X11_208 : hw_CV RX11 208 yX10_islands cX10_islands 9 (some .int) 0 := ⟨cb_X10_islands _ _, (hw_win (w := .methodLink RX11 208 yX10_islands) (by decide +kernel) (by decide +kernel)), (hw_win (w := .instanceMethod yX10_islands) (by decide +kernel) (by decide +kernel)), (hw_win (w := .selects yX10_islands.cls yX10_islands yX10_islands) (by decide +kernel) (by decide +kernel))⟩
theorem cb_X10_supports (own : String) (index : Nat) : hw_CB own index yX10_supports cX10_supports 3 (some .int) 0 := ⟨⟨by decide +kernel, by decide +kernel, by decide +kernel⟩, (hw_win (w := .code yX10_supports cX10_supports 3 (some .int)) (by decide +kernel) (by decide +kernel)), (hw_win (w := .initialized yX10_supports.cls) (by decide +kernel) (by decide +kernel))⟩
theorem cv_X11_211 : hw_CV RX11 211 yX10_supports cX10_supports 3 (some .int) 0 := ⟨cb_X10_supports _ _, (hw_win (w := .methodLink RX11 211 yX10_supports) (by decide +kernel) (by decide +kernel)), (hw_win (w := .instanceMethod yX10_supports) (by decide +kernel) (by decide +kernel)), (hw_win (w := .selects yX10_supports.cls yX10_supports yX10_supports) (by decide +kernel) (by decide +kernel))⟩
theorem fd_X11_161 : hw_FD RX11 161 7 5 := ⟨RX6, TX6, 6, "MeltPoolModel$Growth", rfl, by decide, iw_X6, (hw_win (w := .fieldLink RX11 161 "MeltPoolModel$Growth" (TX6 5).2.1 (TX6 5).2.2.1) (by decide +kernel) (by decide +kernel)), Or.inl rfl⟩
theorem fd_X11_214 : hw_FD RX11 214 7 4 := ⟨RX6, TX6, 6, "MeltPoolModel$Growth", rfl, by decide, iw_X6, (hw_win (w := .fieldLink RX11 214 "MeltPoolModel$Growth" (TX6 4).2.1 (TX6 4).2.2.1) (by decide +kernel) (by decide +kernel)), Or.inl rfl⟩
theorem fd_X11_159 : hw_FD RX11 159 9 7 := ⟨RX8, TX8, 9, "MeltPoolModel$Piece", rfl, by decide, iw_X8, (hw_win (w := .fieldLink RX11 159 "MeltPoolModel$Piece" (TX8 7).2.1 (TX8 7).2.2.1) (by decide +kernel) (by decide +kernel)), Or.inl rfl⟩
theorem cv_X11_221 : hw_CV RX11 221 yX10_hangs cX10_hangs 2 (some .long) 1 := ⟨cb_X10_hangs _ _, (hw_win (w := .methodLink RX11 221 yX10_hangs) (by decide +kernel) (by decide +kernel)), (hw_win (w := .instanceMethod yX10_hangs) (by decide +kernel) (by decide +kernel)), (hw_win (w := .selects yX10_hangs.cls yX10_hangs yX10_hangs) (by decide +kernel) (by decide +kernel))⟩
theorem cv_X11_164 : hw_CV RX11 164 yX10_support cX10_support 5 (some .long) 1 := ⟨cb_X10_support _ _, (hw_win (w := .methodLink RX11 164 yX10_support) (by decide +kernel) (by decide +kernel)), (hw_win (w := .instanceMethod yX10_support) (by decide +kernel) (by decide +kernel)), (hw_win (w := .selects yX10_support.cls yX10_support yX10_support) (by decide +kernel) (by decide +kernel))⟩
theorem cb_X11_pieceNow (own : String) (index : Nat) : hw_CB own index yX11_pieceNow cX11_pieceNow 4 (some .int) 2 := ⟨⟨by decide +kernel, by decide +kernel, by decide +kernel⟩, (hw_win (w := .code yX11_pieceNow cX11_pieceNow 4 (some .int)) (by decide +kernel) (by decide +kernel)), (hw_win (w := .initialized yX11_pieceNow.cls) (by decide +kernel) (by decide +kernel))⟩
theorem cs_X11_217 : hw_CS RX11 217 yX11_pieceNow cX11_pieceNow 4 (some .int) 2 := ⟨cb_X11_pieceNow _ _, (hw_win (w := .methodLink RX11 217 yX11_pieceNow) (by decide +kernel) (by decide +kernel)), (hw_win (w := .static yX11_pieceNow) (by decide +kernel) (by decide +kernel))⟩
theorem cb_X11_layerNow (own : String) (index : Nat) : hw_CB own index yX11_layerNow cX11_layerNow 3 (some .long) 3 := ⟨⟨by decide +kernel, by decide +kernel, by decide +kernel⟩, (hw_win (w := .code yX11_layerNow cX11_layerNow 3 (some .long)) (by decide +kernel) (by decide +kernel)), (hw_win (w := .initialized yX11_layerNow.cls) (by decide +kernel) (by decide +kernel))⟩
theorem cs_X11_223 : hw_CS RX11 223 yX11_layerNow cX11_layerNow 3 (some .long) 3 := ⟨cb_X11_layerNow _ _, (hw_win (w := .methodLink RX11 223 yX11_layerNow) (by decide +kernel) (by decide +kernel)), (hw_win (w := .static yX11_layerNow) (by decide +kernel) (by decide +kernel))⟩
theorem fd_X11_173 : hw_FD RX11 173 7 2 := ⟨RX6, TX6, 6, "MeltPoolModel$Growth", rfl, by decide, iw_X6, (hw_win (w := .fieldLink RX11 173 "MeltPoolModel$Growth" (TX6 2).2.1 (TX6 2).2.2.1) (by decide +kernel) (by decide +kernel)), Or.inl rfl⟩
set_option maxHeartbeats 4000000 in
set_option maxRecDepth 100000 in
theorem m_X11_pieceNow_0 (l : Launch) (Z : hw_Z) (M : hw_M) (ad : hp_ad) (S : hs_S) (X : hr_X) (b1 : Nat → Prop) (n : Nat) (hP : hr_ok Z b1 M ad S X) (hin : n < hs_np S) : Met l yX11_pieceNow (hw_m yX11_pieceNow cX11_pieceNow 4 (some .int)) ({ frames := 5, cells := 0, slots := 0, locals := 150 } : Room) (va_Pc [.ref (ad 1 n), .int (nI 0)] (hw_P Z M)) (hw_Qi Z (fun r M' => hs_op S n 0 = r ∧ M = M')) 0 0 (hw_A Z) := by
  refine hw_ofi (by decide +kernel) rfl (Nat.le_of_ble_eq_true rfl) ?_
  intro p e s m below meth c ls Q hx hb hml hown hts hk hnm hI hl hret
  have e1_nhP : M (ad 1 n) = hw_ob 9 [.ref (ad 2 n), .int (hs_P S n 0), .ref (ad 4 n), .int (hs_P S n 3), .int (hs_P S n 4), .int (hs_P S n 5), .int (hs_P S n 6), .int (hs_P S n 7), .int (hs_P S n 8)] := hP.m 1 n hin
  have e2_nhP : M (ad 2 n) = hw_ob 11 [.ref (ad 3 n)] := hP.m 2 n hin
  have e3_nhP : M (ad 3 n) = hw_al Z 8 (hs_C S n) := hP.m 3 n hin
  have e4_nhP : M (ad 4 n) = hw_ob 7 [.double (hr_en (hs_P S n)), .ref (ad 5 n), .double (hs_U S n), .int (hs_P S n 1), .int (hs_P S n 2), .int (nI (hs_D S n))] := hP.m 4 n hin
  refine lv_aload_n hx hb dX11_pieceNow_0 rfl (lv_at hl 0 rfl) ?_
  refine hw_get hx hb hts hown hk hI fd_X11_66 e1_nhP rfl dX11_pieceNow_1 ?_
  refine lv_astore_n (lv' := [(2, .ref (ad 2 n)), (0, .ref (ad 1 n)), (1, .int (nI 0))]) hx hb dX11_pieceNow_4 rfl hl (by decide) rfl (fun ls hl => ?_)
  refine lv_aload_n hx hb dX11_pieceNow_5 rfl (lv_at hl 1 rfl) ?_
  refine hw_get hx hb hts hown hk hI fd_X11_148 e1_nhP rfl dX11_pieceNow_6 ?_
  refine lv_astore_n (lv' := [(3, .ref (ad 4 n)), (2, .ref (ad 2 n)), (0, .ref (ad 1 n)), (1, .int (nI 0))]) hx hb dX11_pieceNow_9 rfl hl (by decide) rfl (fun ls hl => ?_)
  refine lv_iload_n hx hb dX11_pieceNow_10 rfl (lv_at hl 3 rfl) ?_
  refine lv_tableIn (tgt := 80) hx hb dX11_pieceNow_11 (by decide) (by decide) rfl (by decide) ?_
  refine lv_aload_n hx hb dX11_pieceNow_80 rfl (lv_at hl 2 rfl) ?_
  refine hw_get hx hb hts hown hk hI fd_X11_63 e1_nhP rfl dX11_pieceNow_81 ?_
  exact hret hI (⟨rfl, rfl⟩) (Nat.le_of_ble_eq_true rfl) (Nat.le_of_ble_eq_true rfl) dX11_pieceNow_84

set_option maxHeartbeats 4000000 in
set_option maxRecDepth 100000 in
theorem m_X11_pieceNow_1 (l : Launch) (Z : hw_Z) (M : hw_M) (ad : hp_ad) (S : hs_S) (X : hr_X) (b1 : Nat → Prop) (n : Nat) (hP : hr_ok Z b1 M ad S X) (hin : n < hs_np S) : Met l yX11_pieceNow (hw_m yX11_pieceNow cX11_pieceNow 4 (some .int)) ({ frames := 5, cells := 0, slots := 0, locals := 150 } : Room) (va_Pc [.ref (ad 1 n), .int (nI 1)] (hw_P Z M)) (hw_Qi Z (fun r M' => hs_op S n 1 = r ∧ M = M')) 0 0 (hw_A Z) := by
  refine hw_ofi (by decide +kernel) rfl (Nat.le_of_ble_eq_true rfl) ?_
  intro p e s m below meth c ls Q hx hb hml hown hts hk hnm hI hl hret
  have e1_nhP : M (ad 1 n) = hw_ob 9 [.ref (ad 2 n), .int (hs_P S n 0), .ref (ad 4 n), .int (hs_P S n 3), .int (hs_P S n 4), .int (hs_P S n 5), .int (hs_P S n 6), .int (hs_P S n 7), .int (hs_P S n 8)] := hP.m 1 n hin
  have e2_nhP : M (ad 2 n) = hw_ob 11 [.ref (ad 3 n)] := hP.m 2 n hin
  have e3_nhP : M (ad 3 n) = hw_al Z 8 (hs_C S n) := hP.m 3 n hin
  have e4_nhP : M (ad 4 n) = hw_ob 7 [.double (hr_en (hs_P S n)), .ref (ad 5 n), .double (hs_U S n), .int (hs_P S n 1), .int (hs_P S n 2), .int (nI (hs_D S n))] := hP.m 4 n hin
  refine lv_aload_n hx hb dX11_pieceNow_0 rfl (lv_at hl 0 rfl) ?_
  refine hw_get hx hb hts hown hk hI fd_X11_66 e1_nhP rfl dX11_pieceNow_1 ?_
  refine lv_astore_n (lv' := [(2, .ref (ad 2 n)), (0, .ref (ad 1 n)), (1, .int (nI 1))]) hx hb dX11_pieceNow_4 rfl hl (by decide) rfl (fun ls hl => ?_)
  refine lv_aload_n hx hb dX11_pieceNow_5 rfl (lv_at hl 1 rfl) ?_
  refine hw_get hx hb hts hown hk hI fd_X11_148 e1_nhP rfl dX11_pieceNow_6 ?_
  refine lv_astore_n (lv' := [(3, .ref (ad 4 n)), (2, .ref (ad 2 n)), (0, .ref (ad 1 n)), (1, .int (nI 1))]) hx hb dX11_pieceNow_9 rfl hl (by decide) rfl (fun ls hl => ?_)
  refine lv_iload_n hx hb dX11_pieceNow_10 rfl (lv_at hl 3 rfl) ?_
  refine lv_tableIn (tgt := 85) hx hb dX11_pieceNow_11 (by decide) (by decide) rfl (by decide) ?_
  refine lv_aload_n hx hb dX11_pieceNow_85 rfl (lv_at hl 1 rfl) ?_
  refine hw_ci hI (hw_rV hx hb hml hown hts hk hI (m_X10_height l Z M (ad 2 n) (ad 3 n) (hs_C S n) e2_nhP e3_nhP) cv_X11_83 e2_nhP rfl rfl ⟨rfl, rfl⟩ ⟨(Nat.le_of_ble_eq_true rfl), (Nat.le_of_ble_eq_true rfl)⟩ rfl hl.1 rfl (Nat.le_of_ble_eq_true rfl) ⟨(Nat.le_of_ble_eq_true rfl), (Nat.le_of_ble_eq_true rfl)⟩ dX11_pieceNow_86) (fun r86 M86 H locs hR hI => ?_)
  obtain ⟨rfl, rfl⟩ := hR
  exact hret hI (⟨rfl, rfl⟩) (Nat.le_of_ble_eq_true rfl) (Nat.le_of_ble_eq_true rfl) dX11_pieceNow_89

set_option maxHeartbeats 4000000 in
set_option maxRecDepth 100000 in
theorem m_X11_pieceNow_2 (l : Launch) (Z : hw_Z) (M : hw_M) (ad : hp_ad) (S : hs_S) (X : hr_X) (b1 : Nat → Prop) (n : Nat) (hP : hr_ok Z b1 M ad S X) (hin : n < hs_np S) : Met l yX11_pieceNow (hw_m yX11_pieceNow cX11_pieceNow 4 (some .int)) ({ frames := 5, cells := 0, slots := 0, locals := 150 } : Room) (va_Pc [.ref (ad 1 n), .int (nI 2)] (hw_P Z M)) (hw_Qi Z (fun r M' => hs_op S n 2 = r ∧ M = M')) 0 0 (hw_A Z) := by
  refine hw_ofi (by decide +kernel) rfl (Nat.le_of_ble_eq_true rfl) ?_
  intro p e s m below meth c ls Q hx hb hml hown hts hk hnm hI hl hret
  have e1_nhP : M (ad 1 n) = hw_ob 9 [.ref (ad 2 n), .int (hs_P S n 0), .ref (ad 4 n), .int (hs_P S n 3), .int (hs_P S n 4), .int (hs_P S n 5), .int (hs_P S n 6), .int (hs_P S n 7), .int (hs_P S n 8)] := hP.m 1 n hin
  have e2_nhP : M (ad 2 n) = hw_ob 11 [.ref (ad 3 n)] := hP.m 2 n hin
  have e3_nhP : M (ad 3 n) = hw_al Z 8 (hs_C S n) := hP.m 3 n hin
  have e4_nhP : M (ad 4 n) = hw_ob 7 [.double (hr_en (hs_P S n)), .ref (ad 5 n), .double (hs_U S n), .int (hs_P S n 1), .int (hs_P S n 2), .int (nI (hs_D S n))] := hP.m 4 n hin
  refine lv_aload_n hx hb dX11_pieceNow_0 rfl (lv_at hl 0 rfl) ?_
  refine hw_get hx hb hts hown hk hI fd_X11_66 e1_nhP rfl dX11_pieceNow_1 ?_
  refine lv_astore_n (lv' := [(2, .ref (ad 2 n)), (0, .ref (ad 1 n)), (1, .int (nI 2))]) hx hb dX11_pieceNow_4 rfl hl (by decide) rfl (fun ls hl => ?_)
  refine lv_aload_n hx hb dX11_pieceNow_5 rfl (lv_at hl 1 rfl) ?_
  refine hw_get hx hb hts hown hk hI fd_X11_148 e1_nhP rfl dX11_pieceNow_6 ?_
  refine lv_astore_n (lv' := [(3, .ref (ad 4 n)), (2, .ref (ad 2 n)), (0, .ref (ad 1 n)), (1, .int (nI 2))]) hx hb dX11_pieceNow_9 rfl hl (by decide) rfl (fun ls hl => ?_)
  refine lv_iload_n hx hb dX11_pieceNow_10 rfl (lv_at hl 3 rfl) ?_
  refine lv_tableIn (tgt := 90) hx hb dX11_pieceNow_11 (by decide) (by decide) rfl (by decide) ?_
  refine lv_aload_n hx hb dX11_pieceNow_90 rfl (lv_at hl 1 rfl) ?_
  refine hw_ci hI (hw_rV hx hb hml hown hts hk hI (m_X10_cells l Z M (ad 2 n) (ad 3 n) (hs_C S n) e2_nhP e3_nhP) cv_X11_140 e2_nhP rfl rfl ⟨rfl, rfl⟩ ⟨(Nat.le_of_ble_eq_true rfl), (Nat.le_of_ble_eq_true rfl)⟩ rfl hl.1 rfl (Nat.le_of_ble_eq_true rfl) ⟨(Nat.le_of_ble_eq_true rfl), (Nat.le_of_ble_eq_true rfl)⟩ dX11_pieceNow_91) (fun r91 M91 H locs hR hI => ?_)
  obtain ⟨rfl, rfl⟩ := hR
  exact hret hI (⟨rfl, rfl⟩) (Nat.le_of_ble_eq_true rfl) (Nat.le_of_ble_eq_true rfl) dX11_pieceNow_94

set_option maxHeartbeats 4000000 in
set_option maxRecDepth 100000 in
theorem m_X11_pieceNow_3 (l : Launch) (Z : hw_Z) (M : hw_M) (ad : hp_ad) (S : hs_S) (X : hr_X) (b1 : Nat → Prop) (n : Nat) (hP : hr_ok Z b1 M ad S X) (hin : n < hs_np S) : Met l yX11_pieceNow (hw_m yX11_pieceNow cX11_pieceNow 4 (some .int)) ({ frames := 5, cells := 0, slots := 0, locals := 150 } : Room) (va_Pc [.ref (ad 1 n), .int (nI 3)] (hw_P Z M)) (hw_Qi Z (fun r M' => hs_op S n 3 = r ∧ M = M')) 0 0 (hw_A Z) := by
  refine hw_ofi (by decide +kernel) rfl (Nat.le_of_ble_eq_true rfl) ?_
  intro p e s m below meth c ls Q hx hb hml hown hts hk hnm hI hl hret
  have e1_nhP : M (ad 1 n) = hw_ob 9 [.ref (ad 2 n), .int (hs_P S n 0), .ref (ad 4 n), .int (hs_P S n 3), .int (hs_P S n 4), .int (hs_P S n 5), .int (hs_P S n 6), .int (hs_P S n 7), .int (hs_P S n 8)] := hP.m 1 n hin
  have e2_nhP : M (ad 2 n) = hw_ob 11 [.ref (ad 3 n)] := hP.m 2 n hin
  have e3_nhP : M (ad 3 n) = hw_al Z 8 (hs_C S n) := hP.m 3 n hin
  have e4_nhP : M (ad 4 n) = hw_ob 7 [.double (hr_en (hs_P S n)), .ref (ad 5 n), .double (hs_U S n), .int (hs_P S n 1), .int (hs_P S n 2), .int (nI (hs_D S n))] := hP.m 4 n hin
  refine lv_aload_n hx hb dX11_pieceNow_0 rfl (lv_at hl 0 rfl) ?_
  refine hw_get hx hb hts hown hk hI fd_X11_66 e1_nhP rfl dX11_pieceNow_1 ?_
  refine lv_astore_n (lv' := [(2, .ref (ad 2 n)), (0, .ref (ad 1 n)), (1, .int (nI 3))]) hx hb dX11_pieceNow_4 rfl hl (by decide) rfl (fun ls hl => ?_)
  refine lv_aload_n hx hb dX11_pieceNow_5 rfl (lv_at hl 1 rfl) ?_
  refine hw_get hx hb hts hown hk hI fd_X11_148 e1_nhP rfl dX11_pieceNow_6 ?_
  refine lv_astore_n (lv' := [(3, .ref (ad 4 n)), (2, .ref (ad 2 n)), (0, .ref (ad 1 n)), (1, .int (nI 3))]) hx hb dX11_pieceNow_9 rfl hl (by decide) rfl (fun ls hl => ?_)
  refine lv_iload_n hx hb dX11_pieceNow_10 rfl (lv_at hl 3 rfl) ?_
  refine lv_tableIn (tgt := 95) hx hb dX11_pieceNow_11 (by decide) (by decide) rfl (by decide) ?_
  refine lv_aload_n hx hb dX11_pieceNow_95 rfl (lv_at hl 1 rfl) ?_
  refine hw_ci hI (hw_rV hx hb hml hown hts hk hI (m_X10_hangs_ l Z M (ad 2 n) (ad 3 n) (hs_C S n) e2_nhP e3_nhP) cv_X11_205 e2_nhP rfl rfl ⟨rfl, rfl⟩ ⟨(Nat.le_of_ble_eq_true rfl), (Nat.le_of_ble_eq_true rfl)⟩ rfl hl.1 rfl (Nat.le_of_ble_eq_true rfl) ⟨(Nat.le_of_ble_eq_true rfl), (Nat.le_of_ble_eq_true rfl)⟩ dX11_pieceNow_96) (fun r96 M96 H locs hR hI => ?_)
  obtain ⟨rfl, rfl⟩ := hR
  exact hret hI (⟨rfl, rfl⟩) (Nat.le_of_ble_eq_true rfl) (Nat.le_of_ble_eq_true rfl) dX11_pieceNow_99

set_option maxHeartbeats 4000000 in
set_option maxRecDepth 100000 in
theorem m_X11_pieceNow_4 (l : Launch) (Z : hw_Z) (M : hw_M) (ad : hp_ad) (S : hs_S) (X : hr_X) (b1 : Nat → Prop) (n : Nat) (hP : hr_ok Z b1 M ad S X) (hin : n < hs_np S) : Met l yX11_pieceNow (hw_m yX11_pieceNow cX11_pieceNow 4 (some .int)) ({ frames := 5, cells := 0, slots := 0, locals := 150 } : Room) (va_Pc [.ref (ad 1 n), .int (nI 4)] (hw_P Z M)) (hw_Qi Z (fun r M' => hs_op S n 4 = r ∧ M = M')) 0 0 (hw_A Z) := by
  refine hw_ofi (by decide +kernel) rfl (Nat.le_of_ble_eq_true rfl) ?_
  intro p e s m below meth c ls Q hx hb hml hown hts hk hnm hI hl hret
  have e1_nhP : M (ad 1 n) = hw_ob 9 [.ref (ad 2 n), .int (hs_P S n 0), .ref (ad 4 n), .int (hs_P S n 3), .int (hs_P S n 4), .int (hs_P S n 5), .int (hs_P S n 6), .int (hs_P S n 7), .int (hs_P S n 8)] := hP.m 1 n hin
  have e2_nhP : M (ad 2 n) = hw_ob 11 [.ref (ad 3 n)] := hP.m 2 n hin
  have e3_nhP : M (ad 3 n) = hw_al Z 8 (hs_C S n) := hP.m 3 n hin
  have e4_nhP : M (ad 4 n) = hw_ob 7 [.double (hr_en (hs_P S n)), .ref (ad 5 n), .double (hs_U S n), .int (hs_P S n 1), .int (hs_P S n 2), .int (nI (hs_D S n))] := hP.m 4 n hin
  refine lv_aload_n hx hb dX11_pieceNow_0 rfl (lv_at hl 0 rfl) ?_
  refine hw_get hx hb hts hown hk hI fd_X11_66 e1_nhP rfl dX11_pieceNow_1 ?_
  refine lv_astore_n (lv' := [(2, .ref (ad 2 n)), (0, .ref (ad 1 n)), (1, .int (nI 4))]) hx hb dX11_pieceNow_4 rfl hl (by decide) rfl (fun ls hl => ?_)
  refine lv_aload_n hx hb dX11_pieceNow_5 rfl (lv_at hl 1 rfl) ?_
  refine hw_get hx hb hts hown hk hI fd_X11_148 e1_nhP rfl dX11_pieceNow_6 ?_
  refine lv_astore_n (lv' := [(3, .ref (ad 4 n)), (2, .ref (ad 2 n)), (0, .ref (ad 1 n)), (1, .int (nI 4))]) hx hb dX11_pieceNow_9 rfl hl (by decide) rfl (fun ls hl => ?_)
  refine lv_iload_n hx hb dX11_pieceNow_10 rfl (lv_at hl 3 rfl) ?_
  refine lv_tableIn (tgt := 100) hx hb dX11_pieceNow_11 (by decide) (by decide) rfl (by decide) ?_
  refine lv_aload_n hx hb dX11_pieceNow_100 rfl (lv_at hl 1 rfl) ?_
  refine hw_ci hI (hw_rV hx hb hml hown hts hk hI (m_X10_islands l Z M (ad 2 n) (ad 3 n) (hs_C S n) e2_nhP e3_nhP) cv_X11_208 e2_nhP rfl rfl ⟨rfl, rfl⟩ ⟨(Nat.le_of_ble_eq_true rfl), (Nat.le_of_ble_eq_true rfl)⟩ rfl hl.1 rfl (Nat.le_of_ble_eq_true rfl) ⟨(Nat.le_of_ble_eq_true rfl), (Nat.le_of_ble_eq_true rfl)⟩ dX11_pieceNow_101) (fun r101 M101 H locs hR hI => ?_)
  obtain ⟨rfl, rfl⟩ := hR
  exact hret hI (⟨rfl, rfl⟩) (Nat.le_of_ble_eq_true rfl) (Nat.le_of_ble_eq_true rfl) dX11_pieceNow_104

set_option maxHeartbeats 4000000 in
set_option maxRecDepth 100000 in
theorem m_X11_pieceNow_5 (l : Launch) (Z : hw_Z) (M : hw_M) (ad : hp_ad) (S : hs_S) (X : hr_X) (b1 : Nat → Prop) (n : Nat) (hP : hr_ok Z b1 M ad S X) (hin : n < hs_np S) : Met l yX11_pieceNow (hw_m yX11_pieceNow cX11_pieceNow 4 (some .int)) ({ frames := 5, cells := 0, slots := 0, locals := 150 } : Room) (va_Pc [.ref (ad 1 n), .int (nI 5)] (hw_P Z M)) (hw_Qi Z (fun r M' => hs_op S n 5 = r ∧ M = M')) 0 0 (hw_A Z) := by
  refine hw_ofi (by decide +kernel) rfl (Nat.le_of_ble_eq_true rfl) ?_
  intro p e s m below meth c ls Q hx hb hml hown hts hk hnm hI hl hret
  have e1_nhP : M (ad 1 n) = hw_ob 9 [.ref (ad 2 n), .int (hs_P S n 0), .ref (ad 4 n), .int (hs_P S n 3), .int (hs_P S n 4), .int (hs_P S n 5), .int (hs_P S n 6), .int (hs_P S n 7), .int (hs_P S n 8)] := hP.m 1 n hin
  have e2_nhP : M (ad 2 n) = hw_ob 11 [.ref (ad 3 n)] := hP.m 2 n hin
  have e3_nhP : M (ad 3 n) = hw_al Z 8 (hs_C S n) := hP.m 3 n hin
  have e4_nhP : M (ad 4 n) = hw_ob 7 [.double (hr_en (hs_P S n)), .ref (ad 5 n), .double (hs_U S n), .int (hs_P S n 1), .int (hs_P S n 2), .int (nI (hs_D S n))] := hP.m 4 n hin
  refine lv_aload_n hx hb dX11_pieceNow_0 rfl (lv_at hl 0 rfl) ?_
  refine hw_get hx hb hts hown hk hI fd_X11_66 e1_nhP rfl dX11_pieceNow_1 ?_
  refine lv_astore_n (lv' := [(2, .ref (ad 2 n)), (0, .ref (ad 1 n)), (1, .int (nI 5))]) hx hb dX11_pieceNow_4 rfl hl (by decide) rfl (fun ls hl => ?_)
  refine lv_aload_n hx hb dX11_pieceNow_5 rfl (lv_at hl 1 rfl) ?_
  refine hw_get hx hb hts hown hk hI fd_X11_148 e1_nhP rfl dX11_pieceNow_6 ?_
  refine lv_astore_n (lv' := [(3, .ref (ad 4 n)), (2, .ref (ad 2 n)), (0, .ref (ad 1 n)), (1, .int (nI 5))]) hx hb dX11_pieceNow_9 rfl hl (by decide) rfl (fun ls hl => ?_)
  refine lv_iload_n hx hb dX11_pieceNow_10 rfl (lv_at hl 3 rfl) ?_
  refine lv_tableIn (tgt := 105) hx hb dX11_pieceNow_11 (by decide) (by decide) rfl (by decide) ?_
  refine lv_aload_n hx hb dX11_pieceNow_105 rfl (lv_at hl 1 rfl) ?_
  refine hw_ci hI (hw_rV hx hb hml hown hts hk hI (m_X10_supports l Z M (ad 2 n) (ad 3 n) (hs_C S n) e2_nhP e3_nhP) cv_X11_211 e2_nhP rfl rfl ⟨rfl, rfl⟩ ⟨(Nat.le_of_ble_eq_true rfl), (Nat.le_of_ble_eq_true rfl)⟩ rfl hl.1 rfl (Nat.le_of_ble_eq_true rfl) ⟨(Nat.le_of_ble_eq_true rfl), (Nat.le_of_ble_eq_true rfl)⟩ dX11_pieceNow_106) (fun r106 M106 H locs hR hI => ?_)
  obtain ⟨rfl, rfl⟩ := hR
  exact hret hI (⟨rfl, rfl⟩) (Nat.le_of_ble_eq_true rfl) (Nat.le_of_ble_eq_true rfl) dX11_pieceNow_109

set_option maxHeartbeats 4000000 in
set_option maxRecDepth 100000 in
theorem m_X11_pieceNow_6 (l : Launch) (Z : hw_Z) (M : hw_M) (ad : hp_ad) (S : hs_S) (X : hr_X) (b1 : Nat → Prop) (n : Nat) (hP : hr_ok Z b1 M ad S X) (hin : n < hs_np S) : Met l yX11_pieceNow (hw_m yX11_pieceNow cX11_pieceNow 4 (some .int)) ({ frames := 5, cells := 0, slots := 0, locals := 150 } : Room) (va_Pc [.ref (ad 1 n), .int (nI 6)] (hw_P Z M)) (hw_Qi Z (fun r M' => hs_op S n 6 = r ∧ M = M')) 0 0 (hw_A Z) := by
  refine hw_ofi (by decide +kernel) rfl (Nat.le_of_ble_eq_true rfl) ?_
  intro p e s m below meth c ls Q hx hb hml hown hts hk hnm hI hl hret
  have e1_nhP : M (ad 1 n) = hw_ob 9 [.ref (ad 2 n), .int (hs_P S n 0), .ref (ad 4 n), .int (hs_P S n 3), .int (hs_P S n 4), .int (hs_P S n 5), .int (hs_P S n 6), .int (hs_P S n 7), .int (hs_P S n 8)] := hP.m 1 n hin
  have e2_nhP : M (ad 2 n) = hw_ob 11 [.ref (ad 3 n)] := hP.m 2 n hin
  have e3_nhP : M (ad 3 n) = hw_al Z 8 (hs_C S n) := hP.m 3 n hin
  have e4_nhP : M (ad 4 n) = hw_ob 7 [.double (hr_en (hs_P S n)), .ref (ad 5 n), .double (hs_U S n), .int (hs_P S n 1), .int (hs_P S n 2), .int (nI (hs_D S n))] := hP.m 4 n hin
  refine lv_aload_n hx hb dX11_pieceNow_0 rfl (lv_at hl 0 rfl) ?_
  refine hw_get hx hb hts hown hk hI fd_X11_66 e1_nhP rfl dX11_pieceNow_1 ?_
  refine lv_astore_n (lv' := [(2, .ref (ad 2 n)), (0, .ref (ad 1 n)), (1, .int (nI 6))]) hx hb dX11_pieceNow_4 rfl hl (by decide) rfl (fun ls hl => ?_)
  refine lv_aload_n hx hb dX11_pieceNow_5 rfl (lv_at hl 1 rfl) ?_
  refine hw_get hx hb hts hown hk hI fd_X11_148 e1_nhP rfl dX11_pieceNow_6 ?_
  refine lv_astore_n (lv' := [(3, .ref (ad 4 n)), (2, .ref (ad 2 n)), (0, .ref (ad 1 n)), (1, .int (nI 6))]) hx hb dX11_pieceNow_9 rfl hl (by decide) rfl (fun ls hl => ?_)
  refine lv_iload_n hx hb dX11_pieceNow_10 rfl (lv_at hl 3 rfl) ?_
  refine lv_tableIn (tgt := 110) hx hb dX11_pieceNow_11 (by decide) (by decide) rfl (by decide) ?_
  refine lv_aload_n hx hb dX11_pieceNow_110 rfl (lv_at hl 0 rfl) ?_
  refine hw_get hx hb hts hown hk hI fd_X11_161 e4_nhP rfl dX11_pieceNow_111 ?_
  exact hret hI (⟨rfl, rfl⟩) (Nat.le_of_ble_eq_true rfl) (Nat.le_of_ble_eq_true rfl) dX11_pieceNow_114

set_option maxHeartbeats 4000000 in
set_option maxRecDepth 100000 in
theorem m_X11_pieceNow_7 (l : Launch) (Z : hw_Z) (M : hw_M) (ad : hp_ad) (S : hs_S) (X : hr_X) (b1 : Nat → Prop) (n : Nat) (hP : hr_ok Z b1 M ad S X) (hin : n < hs_np S) : Met l yX11_pieceNow (hw_m yX11_pieceNow cX11_pieceNow 4 (some .int)) ({ frames := 5, cells := 0, slots := 0, locals := 150 } : Room) (va_Pc [.ref (ad 1 n), .int (nI 7)] (hw_P Z M)) (hw_Qi Z (fun r M' => hs_op S n 7 = r ∧ M = M')) 0 0 (hw_A Z) := by
  refine hw_ofi (by decide +kernel) rfl (Nat.le_of_ble_eq_true rfl) ?_
  intro p e s m below meth c ls Q hx hb hml hown hts hk hnm hI hl hret
  have e1_nhP : M (ad 1 n) = hw_ob 9 [.ref (ad 2 n), .int (hs_P S n 0), .ref (ad 4 n), .int (hs_P S n 3), .int (hs_P S n 4), .int (hs_P S n 5), .int (hs_P S n 6), .int (hs_P S n 7), .int (hs_P S n 8)] := hP.m 1 n hin
  have e2_nhP : M (ad 2 n) = hw_ob 11 [.ref (ad 3 n)] := hP.m 2 n hin
  have e3_nhP : M (ad 3 n) = hw_al Z 8 (hs_C S n) := hP.m 3 n hin
  have e4_nhP : M (ad 4 n) = hw_ob 7 [.double (hr_en (hs_P S n)), .ref (ad 5 n), .double (hs_U S n), .int (hs_P S n 1), .int (hs_P S n 2), .int (nI (hs_D S n))] := hP.m 4 n hin
  refine lv_aload_n hx hb dX11_pieceNow_0 rfl (lv_at hl 0 rfl) ?_
  refine hw_get hx hb hts hown hk hI fd_X11_66 e1_nhP rfl dX11_pieceNow_1 ?_
  refine lv_astore_n (lv' := [(2, .ref (ad 2 n)), (0, .ref (ad 1 n)), (1, .int (nI 7))]) hx hb dX11_pieceNow_4 rfl hl (by decide) rfl (fun ls hl => ?_)
  refine lv_aload_n hx hb dX11_pieceNow_5 rfl (lv_at hl 1 rfl) ?_
  refine hw_get hx hb hts hown hk hI fd_X11_148 e1_nhP rfl dX11_pieceNow_6 ?_
  refine lv_astore_n (lv' := [(3, .ref (ad 4 n)), (2, .ref (ad 2 n)), (0, .ref (ad 1 n)), (1, .int (nI 7))]) hx hb dX11_pieceNow_9 rfl hl (by decide) rfl (fun ls hl => ?_)
  refine lv_iload_n hx hb dX11_pieceNow_10 rfl (lv_at hl 3 rfl) ?_
  refine lv_tableIn (tgt := 115) hx hb dX11_pieceNow_11 (by decide) (by decide) rfl (by decide) ?_
  refine lv_aload_n hx hb dX11_pieceNow_115 rfl (lv_at hl 0 rfl) ?_
  refine hw_get hx hb hts hown hk hI fd_X11_189 e4_nhP rfl dX11_pieceNow_116 ?_
  exact hret hI (⟨rfl, rfl⟩) (Nat.le_of_ble_eq_true rfl) (Nat.le_of_ble_eq_true rfl) dX11_pieceNow_119

set_option maxHeartbeats 4000000 in
set_option maxRecDepth 100000 in
theorem m_X11_pieceNow_8 (l : Launch) (Z : hw_Z) (M : hw_M) (ad : hp_ad) (S : hs_S) (X : hr_X) (b1 : Nat → Prop) (n : Nat) (hP : hr_ok Z b1 M ad S X) (hin : n < hs_np S) : Met l yX11_pieceNow (hw_m yX11_pieceNow cX11_pieceNow 4 (some .int)) ({ frames := 5, cells := 0, slots := 0, locals := 150 } : Room) (va_Pc [.ref (ad 1 n), .int (nI 8)] (hw_P Z M)) (hw_Qi Z (fun r M' => hs_op S n 8 = r ∧ M = M')) 0 0 (hw_A Z) := by
  refine hw_ofi (by decide +kernel) rfl (Nat.le_of_ble_eq_true rfl) ?_
  intro p e s m below meth c ls Q hx hb hml hown hts hk hnm hI hl hret
  have e1_nhP : M (ad 1 n) = hw_ob 9 [.ref (ad 2 n), .int (hs_P S n 0), .ref (ad 4 n), .int (hs_P S n 3), .int (hs_P S n 4), .int (hs_P S n 5), .int (hs_P S n 6), .int (hs_P S n 7), .int (hs_P S n 8)] := hP.m 1 n hin
  have e2_nhP : M (ad 2 n) = hw_ob 11 [.ref (ad 3 n)] := hP.m 2 n hin
  have e3_nhP : M (ad 3 n) = hw_al Z 8 (hs_C S n) := hP.m 3 n hin
  have e4_nhP : M (ad 4 n) = hw_ob 7 [.double (hr_en (hs_P S n)), .ref (ad 5 n), .double (hs_U S n), .int (hs_P S n 1), .int (hs_P S n 2), .int (nI (hs_D S n))] := hP.m 4 n hin
  refine lv_aload_n hx hb dX11_pieceNow_0 rfl (lv_at hl 0 rfl) ?_
  refine hw_get hx hb hts hown hk hI fd_X11_66 e1_nhP rfl dX11_pieceNow_1 ?_
  refine lv_astore_n (lv' := [(2, .ref (ad 2 n)), (0, .ref (ad 1 n)), (1, .int (nI 8))]) hx hb dX11_pieceNow_4 rfl hl (by decide) rfl (fun ls hl => ?_)
  refine lv_aload_n hx hb dX11_pieceNow_5 rfl (lv_at hl 1 rfl) ?_
  refine hw_get hx hb hts hown hk hI fd_X11_148 e1_nhP rfl dX11_pieceNow_6 ?_
  refine lv_astore_n (lv' := [(3, .ref (ad 4 n)), (2, .ref (ad 2 n)), (0, .ref (ad 1 n)), (1, .int (nI 8))]) hx hb dX11_pieceNow_9 rfl hl (by decide) rfl (fun ls hl => ?_)
  refine lv_iload_n hx hb dX11_pieceNow_10 rfl (lv_at hl 3 rfl) ?_
  refine lv_tableIn (tgt := 120) hx hb dX11_pieceNow_11 (by decide) (by decide) rfl (by decide) ?_
  refine lv_aload_n hx hb dX11_pieceNow_120 rfl (lv_at hl 0 rfl) ?_
  refine hw_get hx hb hts hown hk hI fd_X11_214 e4_nhP rfl dX11_pieceNow_121 ?_
  exact hret hI (⟨rfl, rfl⟩) (Nat.le_of_ble_eq_true rfl) (Nat.le_of_ble_eq_true rfl) dX11_pieceNow_124

set_option maxHeartbeats 4000000 in
set_option maxRecDepth 100000 in
theorem m_X11_pieceNow_9 (l : Launch) (Z : hw_Z) (M : hw_M) (ad : hp_ad) (S : hs_S) (X : hr_X) (b1 : Nat → Prop) (n : Nat) (hP : hr_ok Z b1 M ad S X) (hin : n < hs_np S) : Met l yX11_pieceNow (hw_m yX11_pieceNow cX11_pieceNow 4 (some .int)) ({ frames := 5, cells := 0, slots := 0, locals := 150 } : Room) (va_Pc [.ref (ad 1 n), .int (nI 9)] (hw_P Z M)) (hw_Qi Z (fun r M' => hs_op S n 9 = r ∧ M = M')) 0 0 (hw_A Z) := by
  refine hw_ofi (by decide +kernel) rfl (Nat.le_of_ble_eq_true rfl) ?_
  intro p e s m below meth c ls Q hx hb hml hown hts hk hnm hI hl hret
  have e1_nhP : M (ad 1 n) = hw_ob 9 [.ref (ad 2 n), .int (hs_P S n 0), .ref (ad 4 n), .int (hs_P S n 3), .int (hs_P S n 4), .int (hs_P S n 5), .int (hs_P S n 6), .int (hs_P S n 7), .int (hs_P S n 8)] := hP.m 1 n hin
  have e2_nhP : M (ad 2 n) = hw_ob 11 [.ref (ad 3 n)] := hP.m 2 n hin
  have e3_nhP : M (ad 3 n) = hw_al Z 8 (hs_C S n) := hP.m 3 n hin
  have e4_nhP : M (ad 4 n) = hw_ob 7 [.double (hr_en (hs_P S n)), .ref (ad 5 n), .double (hs_U S n), .int (hs_P S n 1), .int (hs_P S n 2), .int (nI (hs_D S n))] := hP.m 4 n hin
  refine lv_aload_n hx hb dX11_pieceNow_0 rfl (lv_at hl 0 rfl) ?_
  refine hw_get hx hb hts hown hk hI fd_X11_66 e1_nhP rfl dX11_pieceNow_1 ?_
  refine lv_astore_n (lv' := [(2, .ref (ad 2 n)), (0, .ref (ad 1 n)), (1, .int (nI 9))]) hx hb dX11_pieceNow_4 rfl hl (by decide) rfl (fun ls hl => ?_)
  refine lv_aload_n hx hb dX11_pieceNow_5 rfl (lv_at hl 1 rfl) ?_
  refine hw_get hx hb hts hown hk hI fd_X11_148 e1_nhP rfl dX11_pieceNow_6 ?_
  refine lv_astore_n (lv' := [(3, .ref (ad 4 n)), (2, .ref (ad 2 n)), (0, .ref (ad 1 n)), (1, .int (nI 9))]) hx hb dX11_pieceNow_9 rfl hl (by decide) rfl (fun ls hl => ?_)
  refine lv_iload_n hx hb dX11_pieceNow_10 rfl (lv_at hl 3 rfl) ?_
  refine lv_tableIn (tgt := 125) hx hb dX11_pieceNow_11 (by decide) (by decide) rfl (by decide) ?_
  refine lv_aload_n hx hb dX11_pieceNow_125 rfl (lv_at hl 2 rfl) ?_
  refine hw_get hx hb hts hown hk hI fd_X11_186 e1_nhP rfl dX11_pieceNow_126 ?_
  exact hret hI (⟨rfl, rfl⟩) (Nat.le_of_ble_eq_true rfl) (Nat.le_of_ble_eq_true rfl) dX11_pieceNow_129

set_option maxHeartbeats 4000000 in
set_option maxRecDepth 100000 in
theorem m_X11_pieceNow_10 (l : Launch) (Z : hw_Z) (M : hw_M) (ad : hp_ad) (S : hs_S) (X : hr_X) (b1 : Nat → Prop) (n : Nat) (hP : hr_ok Z b1 M ad S X) (hin : n < hs_np S) : Met l yX11_pieceNow (hw_m yX11_pieceNow cX11_pieceNow 4 (some .int)) ({ frames := 5, cells := 0, slots := 0, locals := 150 } : Room) (va_Pc [.ref (ad 1 n), .int (nI 10)] (hw_P Z M)) (hw_Qi Z (fun r M' => hs_op S n 10 = r ∧ M = M')) 0 0 (hw_A Z) := by
  refine hw_ofi (by decide +kernel) rfl (Nat.le_of_ble_eq_true rfl) ?_
  intro p e s m below meth c ls Q hx hb hml hown hts hk hnm hI hl hret
  have e1_nhP : M (ad 1 n) = hw_ob 9 [.ref (ad 2 n), .int (hs_P S n 0), .ref (ad 4 n), .int (hs_P S n 3), .int (hs_P S n 4), .int (hs_P S n 5), .int (hs_P S n 6), .int (hs_P S n 7), .int (hs_P S n 8)] := hP.m 1 n hin
  have e2_nhP : M (ad 2 n) = hw_ob 11 [.ref (ad 3 n)] := hP.m 2 n hin
  have e3_nhP : M (ad 3 n) = hw_al Z 8 (hs_C S n) := hP.m 3 n hin
  have e4_nhP : M (ad 4 n) = hw_ob 7 [.double (hr_en (hs_P S n)), .ref (ad 5 n), .double (hs_U S n), .int (hs_P S n 1), .int (hs_P S n 2), .int (nI (hs_D S n))] := hP.m 4 n hin
  refine lv_aload_n hx hb dX11_pieceNow_0 rfl (lv_at hl 0 rfl) ?_
  refine hw_get hx hb hts hown hk hI fd_X11_66 e1_nhP rfl dX11_pieceNow_1 ?_
  refine lv_astore_n (lv' := [(2, .ref (ad 2 n)), (0, .ref (ad 1 n)), (1, .int (nI 10))]) hx hb dX11_pieceNow_4 rfl hl (by decide) rfl (fun ls hl => ?_)
  refine lv_aload_n hx hb dX11_pieceNow_5 rfl (lv_at hl 1 rfl) ?_
  refine hw_get hx hb hts hown hk hI fd_X11_148 e1_nhP rfl dX11_pieceNow_6 ?_
  refine lv_astore_n (lv' := [(3, .ref (ad 4 n)), (2, .ref (ad 2 n)), (0, .ref (ad 1 n)), (1, .int (nI 10))]) hx hb dX11_pieceNow_9 rfl hl (by decide) rfl (fun ls hl => ?_)
  refine lv_iload_n hx hb dX11_pieceNow_10 rfl (lv_at hl 3 rfl) ?_
  refine lv_tableIn (tgt := 130) hx hb dX11_pieceNow_11 (by decide) (by decide) rfl (by decide) ?_
  refine lv_aload_n hx hb dX11_pieceNow_130 rfl (lv_at hl 2 rfl) ?_
  refine hw_get hx hb hts hown hk hI fd_X11_152 e1_nhP rfl dX11_pieceNow_131 ?_
  exact hret hI (⟨rfl, rfl⟩) (Nat.le_of_ble_eq_true rfl) (Nat.le_of_ble_eq_true rfl) dX11_pieceNow_134

set_option maxHeartbeats 4000000 in
set_option maxRecDepth 100000 in
theorem m_X11_pieceNow_11 (l : Launch) (Z : hw_Z) (M : hw_M) (ad : hp_ad) (S : hs_S) (X : hr_X) (b1 : Nat → Prop) (n : Nat) (hP : hr_ok Z b1 M ad S X) (hin : n < hs_np S) : Met l yX11_pieceNow (hw_m yX11_pieceNow cX11_pieceNow 4 (some .int)) ({ frames := 5, cells := 0, slots := 0, locals := 150 } : Room) (va_Pc [.ref (ad 1 n), .int (nI 11)] (hw_P Z M)) (hw_Qi Z (fun r M' => hs_op S n 11 = r ∧ M = M')) 0 0 (hw_A Z) := by
  refine hw_ofi (by decide +kernel) rfl (Nat.le_of_ble_eq_true rfl) ?_
  intro p e s m below meth c ls Q hx hb hml hown hts hk hnm hI hl hret
  have e1_nhP : M (ad 1 n) = hw_ob 9 [.ref (ad 2 n), .int (hs_P S n 0), .ref (ad 4 n), .int (hs_P S n 3), .int (hs_P S n 4), .int (hs_P S n 5), .int (hs_P S n 6), .int (hs_P S n 7), .int (hs_P S n 8)] := hP.m 1 n hin
  have e2_nhP : M (ad 2 n) = hw_ob 11 [.ref (ad 3 n)] := hP.m 2 n hin
  have e3_nhP : M (ad 3 n) = hw_al Z 8 (hs_C S n) := hP.m 3 n hin
  have e4_nhP : M (ad 4 n) = hw_ob 7 [.double (hr_en (hs_P S n)), .ref (ad 5 n), .double (hs_U S n), .int (hs_P S n 1), .int (hs_P S n 2), .int (nI (hs_D S n))] := hP.m 4 n hin
  refine lv_aload_n hx hb dX11_pieceNow_0 rfl (lv_at hl 0 rfl) ?_
  refine hw_get hx hb hts hown hk hI fd_X11_66 e1_nhP rfl dX11_pieceNow_1 ?_
  refine lv_astore_n (lv' := [(2, .ref (ad 2 n)), (0, .ref (ad 1 n)), (1, .int (nI 11))]) hx hb dX11_pieceNow_4 rfl hl (by decide) rfl (fun ls hl => ?_)
  refine lv_aload_n hx hb dX11_pieceNow_5 rfl (lv_at hl 1 rfl) ?_
  refine hw_get hx hb hts hown hk hI fd_X11_148 e1_nhP rfl dX11_pieceNow_6 ?_
  refine lv_astore_n (lv' := [(3, .ref (ad 4 n)), (2, .ref (ad 2 n)), (0, .ref (ad 1 n)), (1, .int (nI 11))]) hx hb dX11_pieceNow_9 rfl hl (by decide) rfl (fun ls hl => ?_)
  refine lv_iload_n hx hb dX11_pieceNow_10 rfl (lv_at hl 3 rfl) ?_
  refine lv_tableIn (tgt := 135) hx hb dX11_pieceNow_11 (by decide) (by decide) rfl (by decide) ?_
  refine lv_aload_n hx hb dX11_pieceNow_135 rfl (lv_at hl 2 rfl) ?_
  refine hw_get hx hb hts hown hk hI fd_X11_153 e1_nhP rfl dX11_pieceNow_136 ?_
  exact hret hI (⟨rfl, rfl⟩) (Nat.le_of_ble_eq_true rfl) (Nat.le_of_ble_eq_true rfl) dX11_pieceNow_139

set_option maxHeartbeats 4000000 in
set_option maxRecDepth 100000 in
theorem m_X11_pieceNow_12 (l : Launch) (Z : hw_Z) (M : hw_M) (ad : hp_ad) (S : hs_S) (X : hr_X) (b1 : Nat → Prop) (n : Nat) (hP : hr_ok Z b1 M ad S X) (hin : n < hs_np S) : Met l yX11_pieceNow (hw_m yX11_pieceNow cX11_pieceNow 4 (some .int)) ({ frames := 5, cells := 0, slots := 0, locals := 150 } : Room) (va_Pc [.ref (ad 1 n), .int (nI 12)] (hw_P Z M)) (hw_Qi Z (fun r M' => hs_op S n 12 = r ∧ M = M')) 0 0 (hw_A Z) := by
  refine hw_ofi (by decide +kernel) rfl (Nat.le_of_ble_eq_true rfl) ?_
  intro p e s m below meth c ls Q hx hb hml hown hts hk hnm hI hl hret
  have e1_nhP : M (ad 1 n) = hw_ob 9 [.ref (ad 2 n), .int (hs_P S n 0), .ref (ad 4 n), .int (hs_P S n 3), .int (hs_P S n 4), .int (hs_P S n 5), .int (hs_P S n 6), .int (hs_P S n 7), .int (hs_P S n 8)] := hP.m 1 n hin
  have e2_nhP : M (ad 2 n) = hw_ob 11 [.ref (ad 3 n)] := hP.m 2 n hin
  have e3_nhP : M (ad 3 n) = hw_al Z 8 (hs_C S n) := hP.m 3 n hin
  have e4_nhP : M (ad 4 n) = hw_ob 7 [.double (hr_en (hs_P S n)), .ref (ad 5 n), .double (hs_U S n), .int (hs_P S n 1), .int (hs_P S n 2), .int (nI (hs_D S n))] := hP.m 4 n hin
  refine lv_aload_n hx hb dX11_pieceNow_0 rfl (lv_at hl 0 rfl) ?_
  refine hw_get hx hb hts hown hk hI fd_X11_66 e1_nhP rfl dX11_pieceNow_1 ?_
  refine lv_astore_n (lv' := [(2, .ref (ad 2 n)), (0, .ref (ad 1 n)), (1, .int (nI 12))]) hx hb dX11_pieceNow_4 rfl hl (by decide) rfl (fun ls hl => ?_)
  refine lv_aload_n hx hb dX11_pieceNow_5 rfl (lv_at hl 1 rfl) ?_
  refine hw_get hx hb hts hown hk hI fd_X11_148 e1_nhP rfl dX11_pieceNow_6 ?_
  refine lv_astore_n (lv' := [(3, .ref (ad 4 n)), (2, .ref (ad 2 n)), (0, .ref (ad 1 n)), (1, .int (nI 12))]) hx hb dX11_pieceNow_9 rfl hl (by decide) rfl (fun ls hl => ?_)
  refine lv_iload_n hx hb dX11_pieceNow_10 rfl (lv_at hl 3 rfl) ?_
  refine lv_tableIn (tgt := 140) hx hb dX11_pieceNow_11 (by decide) (by decide) rfl (by decide) ?_
  refine lv_aload_n hx hb dX11_pieceNow_140 rfl (lv_at hl 2 rfl) ?_
  refine hw_get hx hb hts hown hk hI fd_X11_156 e1_nhP rfl dX11_pieceNow_141 ?_
  exact hret hI (⟨rfl, rfl⟩) (Nat.le_of_ble_eq_true rfl) (Nat.le_of_ble_eq_true rfl) dX11_pieceNow_144

set_option maxHeartbeats 4000000 in
set_option maxRecDepth 100000 in
theorem m_X11_pieceNow_13 (l : Launch) (Z : hw_Z) (M : hw_M) (ad : hp_ad) (S : hs_S) (X : hr_X) (b1 : Nat → Prop) (n : Nat) (hP : hr_ok Z b1 M ad S X) (hin : n < hs_np S) : Met l yX11_pieceNow (hw_m yX11_pieceNow cX11_pieceNow 4 (some .int)) ({ frames := 5, cells := 0, slots := 0, locals := 150 } : Room) (va_Pc [.ref (ad 1 n), .int (nI 13)] (hw_P Z M)) (hw_Qi Z (fun r M' => hs_op S n 13 = r ∧ M = M')) 0 0 (hw_A Z) := by
  refine hw_ofi (by decide +kernel) rfl (Nat.le_of_ble_eq_true rfl) ?_
  intro p e s m below meth c ls Q hx hb hml hown hts hk hnm hI hl hret
  have e1_nhP : M (ad 1 n) = hw_ob 9 [.ref (ad 2 n), .int (hs_P S n 0), .ref (ad 4 n), .int (hs_P S n 3), .int (hs_P S n 4), .int (hs_P S n 5), .int (hs_P S n 6), .int (hs_P S n 7), .int (hs_P S n 8)] := hP.m 1 n hin
  have e2_nhP : M (ad 2 n) = hw_ob 11 [.ref (ad 3 n)] := hP.m 2 n hin
  have e3_nhP : M (ad 3 n) = hw_al Z 8 (hs_C S n) := hP.m 3 n hin
  have e4_nhP : M (ad 4 n) = hw_ob 7 [.double (hr_en (hs_P S n)), .ref (ad 5 n), .double (hs_U S n), .int (hs_P S n 1), .int (hs_P S n 2), .int (nI (hs_D S n))] := hP.m 4 n hin
  refine lv_aload_n hx hb dX11_pieceNow_0 rfl (lv_at hl 0 rfl) ?_
  refine hw_get hx hb hts hown hk hI fd_X11_66 e1_nhP rfl dX11_pieceNow_1 ?_
  refine lv_astore_n (lv' := [(2, .ref (ad 2 n)), (0, .ref (ad 1 n)), (1, .int (nI 13))]) hx hb dX11_pieceNow_4 rfl hl (by decide) rfl (fun ls hl => ?_)
  refine lv_aload_n hx hb dX11_pieceNow_5 rfl (lv_at hl 1 rfl) ?_
  refine hw_get hx hb hts hown hk hI fd_X11_148 e1_nhP rfl dX11_pieceNow_6 ?_
  refine lv_astore_n (lv' := [(3, .ref (ad 4 n)), (2, .ref (ad 2 n)), (0, .ref (ad 1 n)), (1, .int (nI 13))]) hx hb dX11_pieceNow_9 rfl hl (by decide) rfl (fun ls hl => ?_)
  refine lv_iload_n hx hb dX11_pieceNow_10 rfl (lv_at hl 3 rfl) ?_
  refine lv_tableIn (tgt := 145) hx hb dX11_pieceNow_11 (by decide) (by decide) rfl (by decide) ?_
  refine lv_aload_n hx hb dX11_pieceNow_145 rfl (lv_at hl 2 rfl) ?_
  refine hw_get hx hb hts hown hk hI fd_X11_159 e1_nhP rfl dX11_pieceNow_146 ?_
  exact hret hI (⟨rfl, rfl⟩) (Nat.le_of_ble_eq_true rfl) (Nat.le_of_ble_eq_true rfl) dX11_pieceNow_149

set_option maxHeartbeats 4000000 in
set_option maxRecDepth 100000 in
theorem m_X11_pieceNow_14 (l : Launch) (Z : hw_Z) (M : hw_M) (ad : hp_ad) (S : hs_S) (X : hr_X) (b1 : Nat → Prop) (n : Nat) (hP : hr_ok Z b1 M ad S X) (hin : n < hs_np S) : Met l yX11_pieceNow (hw_m yX11_pieceNow cX11_pieceNow 4 (some .int)) ({ frames := 5, cells := 0, slots := 0, locals := 150 } : Room) (va_Pc [.ref (ad 1 n), .int (nI 14)] (hw_P Z M)) (hw_Qi Z (fun r M' => hs_op S n 14 = r ∧ M = M')) 0 0 (hw_A Z) := by
  refine hw_ofi (by decide +kernel) rfl (Nat.le_of_ble_eq_true rfl) ?_
  intro p e s m below meth c ls Q hx hb hml hown hts hk hnm hI hl hret
  have e1_nhP : M (ad 1 n) = hw_ob 9 [.ref (ad 2 n), .int (hs_P S n 0), .ref (ad 4 n), .int (hs_P S n 3), .int (hs_P S n 4), .int (hs_P S n 5), .int (hs_P S n 6), .int (hs_P S n 7), .int (hs_P S n 8)] := hP.m 1 n hin
  have e2_nhP : M (ad 2 n) = hw_ob 11 [.ref (ad 3 n)] := hP.m 2 n hin
  have e3_nhP : M (ad 3 n) = hw_al Z 8 (hs_C S n) := hP.m 3 n hin
  have e4_nhP : M (ad 4 n) = hw_ob 7 [.double (hr_en (hs_P S n)), .ref (ad 5 n), .double (hs_U S n), .int (hs_P S n 1), .int (hs_P S n 2), .int (nI (hs_D S n))] := hP.m 4 n hin
  refine lv_aload_n hx hb dX11_pieceNow_0 rfl (lv_at hl 0 rfl) ?_
  refine hw_get hx hb hts hown hk hI fd_X11_66 e1_nhP rfl dX11_pieceNow_1 ?_
  refine lv_astore_n (lv' := [(2, .ref (ad 2 n)), (0, .ref (ad 1 n)), (1, .int (nI 14))]) hx hb dX11_pieceNow_4 rfl hl (by decide) rfl (fun ls hl => ?_)
  refine lv_aload_n hx hb dX11_pieceNow_5 rfl (lv_at hl 1 rfl) ?_
  refine hw_get hx hb hts hown hk hI fd_X11_148 e1_nhP rfl dX11_pieceNow_6 ?_
  refine lv_astore_n (lv' := [(3, .ref (ad 4 n)), (2, .ref (ad 2 n)), (0, .ref (ad 1 n)), (1, .int (nI 14))]) hx hb dX11_pieceNow_9 rfl hl (by decide) rfl (fun ls hl => ?_)
  refine lv_iload_n hx hb dX11_pieceNow_10 rfl (lv_at hl 3 rfl) ?_
  refine lv_tableOut (tgt := 150) hx hb dX11_pieceNow_11 (by decide) (by decide) ?_
  refine lv_aload_n hx hb dX11_pieceNow_150 rfl (lv_at hl 2 rfl) ?_
  refine hw_get hx hb hts hown hk hI fd_X11_160 e1_nhP rfl dX11_pieceNow_151 ?_
  exact hret hI (⟨rfl, rfl⟩) (Nat.le_of_ble_eq_true rfl) (Nat.le_of_ble_eq_true rfl) dX11_pieceNow_154

theorem m_X11_pieceNow (l : Launch) (Z : hw_Z) (M : hw_M) (ad : hp_ad) (S : hs_S) (X : hr_X) (b1 : Nat → Prop) (n : Nat) (w : Nat) (hP : hr_ok Z b1 M ad S X) (hin : n < hs_np S) (hw : w < 15) : Met l yX11_pieceNow (hw_m yX11_pieceNow cX11_pieceNow 4 (some .int)) ({ frames := 5, cells := 0, slots := 0, locals := 150 } : Room) (va_Pc [.ref (ad 1 n), .int (nI w)] (hw_P Z M)) (hw_Qi Z (fun r M' => hs_op S n w = r ∧ M = M')) 0 0 (hw_A Z) := by
  rcases (show w = 0 ∨ w = 1 ∨ w = 2 ∨ w = 3 ∨ w = 4 ∨ w = 5 ∨ w = 6 ∨ w = 7 ∨ w = 8 ∨ w = 9 ∨ w = 10 ∨ w = 11 ∨ w = 12 ∨ w = 13 ∨ w = 14 by omega) with rfl | rfl | rfl | rfl | rfl | rfl | rfl | rfl | rfl | rfl | rfl | rfl | rfl | rfl | rfl
  · exact m_X11_pieceNow_0 l Z M ad S X b1 n hP hin
  · exact m_X11_pieceNow_1 l Z M ad S X b1 n hP hin
  · exact m_X11_pieceNow_2 l Z M ad S X b1 n hP hin
  · exact m_X11_pieceNow_3 l Z M ad S X b1 n hP hin
  · exact m_X11_pieceNow_4 l Z M ad S X b1 n hP hin
  · exact m_X11_pieceNow_5 l Z M ad S X b1 n hP hin
  · exact m_X11_pieceNow_6 l Z M ad S X b1 n hP hin
  · exact m_X11_pieceNow_7 l Z M ad S X b1 n hP hin
  · exact m_X11_pieceNow_8 l Z M ad S X b1 n hP hin
  · exact m_X11_pieceNow_9 l Z M ad S X b1 n hP hin
  · exact m_X11_pieceNow_10 l Z M ad S X b1 n hP hin
  · exact m_X11_pieceNow_11 l Z M ad S X b1 n hP hin
  · exact m_X11_pieceNow_12 l Z M ad S X b1 n hP hin
  · exact m_X11_pieceNow_13 l Z M ad S X b1 n hP hin
  · exact m_X11_pieceNow_14 l Z M ad S X b1 n hP hin

set_option maxHeartbeats 4000000 in
set_option maxRecDepth 100000 in
theorem m_X11_layerNow_0 (l : Launch) (Z : hw_Z) (M : hw_M) (ad : hp_ad) (S : hs_S) (X : hr_X) (b1 : Nat → Prop) (n : Nat) (j : Nat) (hP : hr_ok Z b1 M ad S X) (hin : n < hs_np S) (hj : j < 8) : Met l yX11_layerNow (hw_m yX11_layerNow cX11_layerNow 3 (some .long)) ({ frames := 4, cells := 0, slots := 0, locals := 120 } : Room) (va_Pc [.ref (ad 2 n), .int (nI j), .int (nI 0)] (hw_P Z M)) (hw_Ql Z (fun r M' => hs_ol S n j 0 = r ∧ M = M')) 0 0 (hw_A Z) := by
  refine hw_ofl (by decide +kernel) rfl (Nat.le_of_ble_eq_true rfl) ?_
  intro p e s m below meth c ls Q hx hb hml hown hts hk hnm hI hl hret
  have e2_nhP : M (ad 2 n) = hw_ob 11 [.ref (ad 3 n)] := hP.m 2 n hin
  have e3_nhP : M (ad 3 n) = hw_al Z 8 (hs_C S n) := hP.m 3 n hin
  refine lv_iload_n hx hb dX11_layerNow_0 rfl (lv_at hl 2 rfl) ?_
  refine lv_if_ne (tgt := 13) hx hb dX11_layerNow_1 (by decide) (fun hc => absurd rfl hc) (fun _ => ?_)
  refine lv_aload_n hx hb dX11_layerNow_4 rfl (lv_at hl 0 rfl) ?_
  refine hw_get hx hb hts hown hk hI fd_X11_70 e2_nhP rfl dX11_layerNow_5 ?_
  refine lv_iload_n hx hb dX11_layerNow_8 rfl (lv_at hl 1 rfl) ?_
  refine hw_lald hx hb hk hI e3_nhP (j := j) rfl (by omega) (by decide) dX11_layerNow_9 ?_
  refine lv_goto (tgt := 31) hx hb dX11_layerNow_10 (by decide) ?_
  exact hret hI (⟨rfl, rfl⟩) (Nat.le_of_ble_eq_true rfl) (Nat.le_of_ble_eq_true rfl) dX11_layerNow_31

set_option maxHeartbeats 4000000 in
set_option maxRecDepth 100000 in
theorem m_X11_layerNow_1 (l : Launch) (Z : hw_Z) (M : hw_M) (ad : hp_ad) (S : hs_S) (X : hr_X) (b1 : Nat → Prop) (n : Nat) (j : Nat) (hP : hr_ok Z b1 M ad S X) (hin : n < hs_np S) (hj : j < 8) : Met l yX11_layerNow (hw_m yX11_layerNow cX11_layerNow 3 (some .long)) ({ frames := 4, cells := 0, slots := 0, locals := 120 } : Room) (va_Pc [.ref (ad 2 n), .int (nI j), .int (nI 1)] (hw_P Z M)) (hw_Ql Z (fun r M' => hs_ol S n j 1 = r ∧ M = M')) 0 0 (hw_A Z) := by
  refine hw_ofl (by decide +kernel) rfl (Nat.le_of_ble_eq_true rfl) ?_
  intro p e s m below meth c ls Q hx hb hml hown hts hk hnm hI hl hret
  have e2_nhP : M (ad 2 n) = hw_ob 11 [.ref (ad 3 n)] := hP.m 2 n hin
  have e3_nhP : M (ad 3 n) = hw_al Z 8 (hs_C S n) := hP.m 3 n hin
  refine lv_iload_n hx hb dX11_layerNow_0 rfl (lv_at hl 2 rfl) ?_
  refine lv_if_ne (tgt := 13) hx hb dX11_layerNow_1 (by decide) (fun _ => ?_) (fun hc => absurd hc (by decide))
  refine lv_iload_n hx hb dX11_layerNow_13 rfl (lv_at hl 2 rfl) ?_
  refine lv_iconst (v := nI 1) hx hb dX11_layerNow_14 (by decide) ?_
  refine lv_icmp_ne (tgt := 26) hx hb dX11_layerNow_15 (by decide) (fun hc => absurd rfl hc) (fun _ => ?_)
  refine lv_aload_n hx hb dX11_layerNow_18 rfl (lv_at hl 0 rfl) ?_
  refine lv_iload_n hx hb dX11_layerNow_19 rfl (lv_at hl 1 rfl) ?_
  refine hw_cl' hI (hw_rV hx hb hml hown hts hk hI (m_X10_hangs l Z M (ad 2 n) (ad 3 n) (hs_C S n) j e2_nhP e3_nhP (by omega)) cv_X11_221 e2_nhP rfl rfl ⟨rfl, rfl⟩ ⟨(Nat.le_of_ble_eq_true rfl), (Nat.le_of_ble_eq_true rfl)⟩ rfl hl.1 rfl (Nat.le_of_ble_eq_true rfl) ⟨(Nat.le_of_ble_eq_true rfl), (Nat.le_of_ble_eq_true rfl)⟩ dX11_layerNow_20) (fun r20 M20 H locs hR hI => ?_)
  obtain ⟨rfl, rfl⟩ := hR
  refine lv_goto (tgt := 31) hx hb dX11_layerNow_23 (by decide) ?_
  exact hret hI (⟨rfl, rfl⟩) (Nat.le_of_ble_eq_true rfl) (Nat.le_of_ble_eq_true rfl) dX11_layerNow_31

set_option maxHeartbeats 4000000 in
set_option maxRecDepth 100000 in
theorem m_X11_layerNow_2 (l : Launch) (Z : hw_Z) (M : hw_M) (ad : hp_ad) (S : hs_S) (X : hr_X) (b1 : Nat → Prop) (n : Nat) (j : Nat) (hP : hr_ok Z b1 M ad S X) (hin : n < hs_np S) (hj : j < 8) : Met l yX11_layerNow (hw_m yX11_layerNow cX11_layerNow 3 (some .long)) ({ frames := 4, cells := 0, slots := 0, locals := 120 } : Room) (va_Pc [.ref (ad 2 n), .int (nI j), .int (nI 2)] (hw_P Z M)) (hw_Ql Z (fun r M' => hs_ol S n j 2 = r ∧ M = M')) 0 0 (hw_A Z) := by
  refine hw_ofl (by decide +kernel) rfl (Nat.le_of_ble_eq_true rfl) ?_
  intro p e s m below meth c ls Q hx hb hml hown hts hk hnm hI hl hret
  have e2_nhP : M (ad 2 n) = hw_ob 11 [.ref (ad 3 n)] := hP.m 2 n hin
  have e3_nhP : M (ad 3 n) = hw_al Z 8 (hs_C S n) := hP.m 3 n hin
  refine lv_iload_n hx hb dX11_layerNow_0 rfl (lv_at hl 2 rfl) ?_
  refine lv_if_ne (tgt := 13) hx hb dX11_layerNow_1 (by decide) (fun _ => ?_) (fun hc => absurd hc (by decide))
  refine lv_iload_n hx hb dX11_layerNow_13 rfl (lv_at hl 2 rfl) ?_
  refine lv_iconst (v := nI 1) hx hb dX11_layerNow_14 (by decide) ?_
  refine lv_icmp_ne (tgt := 26) hx hb dX11_layerNow_15 (by decide) (fun _ => ?_) (fun hc => absurd hc (by decide))
  refine lv_aload_n hx hb dX11_layerNow_26 rfl (lv_at hl 0 rfl) ?_
  refine lv_iload_n hx hb dX11_layerNow_27 rfl (lv_at hl 1 rfl) ?_
  refine hw_cl' hI (hw_rV hx hb hml hown hts hk hI (m_X10_support l Z M (ad 2 n) (ad 3 n) (hs_C S n) j e2_nhP e3_nhP (by omega)) cv_X11_164 e2_nhP rfl rfl ⟨rfl, rfl⟩ ⟨(Nat.le_of_ble_eq_true rfl), (Nat.le_of_ble_eq_true rfl)⟩ rfl hl.1 rfl (Nat.le_of_ble_eq_true rfl) ⟨(Nat.le_of_ble_eq_true rfl), (Nat.le_of_ble_eq_true rfl)⟩ dX11_layerNow_28) (fun r28 M28 H locs hR hI => ?_)
  obtain ⟨rfl, rfl⟩ := hR
  exact hret hI (⟨rfl, rfl⟩) (Nat.le_of_ble_eq_true rfl) (Nat.le_of_ble_eq_true rfl) dX11_layerNow_31

theorem m_X11_layerNow (l : Launch) (Z : hw_Z) (M : hw_M) (ad : hp_ad) (S : hs_S) (X : hr_X) (b1 : Nat → Prop) (n : Nat) (j : Nat) (w : Nat) (hP : hr_ok Z b1 M ad S X) (hin : n < hs_np S) (hj : j < 8) (hw : w < 3) : Met l yX11_layerNow (hw_m yX11_layerNow cX11_layerNow 3 (some .long)) ({ frames := 4, cells := 0, slots := 0, locals := 120 } : Room) (va_Pc [.ref (ad 2 n), .int (nI j), .int (nI w)] (hw_P Z M)) (hw_Ql Z (fun r M' => hs_ol S n j w = r ∧ M = M')) 0 0 (hw_A Z) := by
  rcases (show w = 0 ∨ w = 1 ∨ w = 2 by omega) with rfl | rfl | rfl
  · exact m_X11_layerNow_0 l Z M ad S X b1 n j hP hin hj
  · exact m_X11_layerNow_1 l Z M ad S X b1 n j hP hin hj
  · exact m_X11_layerNow_2 l Z M ad S X b1 n j hP hin hj

set_option maxHeartbeats 4000000 in
set_option maxRecDepth 100000 in
theorem m_X11_ofPiece (l : Launch) (Z : hw_Z) (M : hw_M) (ad : hp_ad) (S : hs_S) (X : hr_X) (b1 : Nat → Prop) (ka : Int32) (kw : Int32) (hP : hr_ok Z b1 M ad S X) (hV : hv_ok S) (hA : ∀ a, b1 a → M a ≠ none) : Met l yX11_ofPiece (hw_m yX11_ofPiece cX11_ofPiece 3 (some .int)) ({ frames := 8, cells := 2, slots := 90, locals := 250 } : Room) (va_Pc [.ref (ad 0 0), .int ka, .int kw] (hw_P Z M)) (hw_Qi Z (hr_R Z b1 M ad (st_ofPiece S ka kw))) 2 90 (hw_A Z) := by
  refine hw_ofi (by decide +kernel) rfl (Nat.le_of_ble_eq_true rfl) ?_
  intro p e s m below meth c ls Q hx hb hml hown hts hk hnm hI hl hret
  have hB := hV.b
  have hnp := hB.np
  have hnw := hB.nw
  have e0_0hP : M (ad 0 0) = hw_ob 12 [.int (hr_th X), .int (hs_G S 0), .int (hs_G S 1), .ref (ad 0 2), .ref (ad 0 3), .ref (ad 0 1)] := hP.m 0 0 (show 0 < 4 by decide)
  refine lv_aload_n hx hb dX11_ofPiece_0 rfl (lv_at hl 0 rfl) ?_
  refine lv_iconst (v := nI 0) hx hb dX11_ofPiece_1 (by decide) ?_
  refine hw_put (fs' := [.int (nI 0), .int (hs_G S 0), .int (hs_G S 1), .ref (ad 0 2), .ref (ad 0 3), .ref (ad 0 1)]) hx hb hts hown hk hI fp_X11_26 e0_0hP (Nat.le_of_ble_eq_true rfl) rfl rfl rfl dX11_ofPiece_2 (fun H locs hI => ?_)
  obtain ⟨M1, hM1⟩ : ∃ Y : hw_M, Y = va_up M (ad 0 0) (hw_ob 12 [.int (nI 0), .int (hs_G S 0), .int (hs_G S 1), .ref (ad 0 2), .ref (ad 0 3), .ref (ad 0 1)]) := ⟨_, rfl⟩
  replace hI := hI.eq hM1.symm
  obtain ⟨X1, hX1⟩ : ∃ Y : hr_X, Y = (nI 0, X.2) := ⟨_, rfl⟩
  have hP1 : hr_ok Z b1 M1 ad S X1 := by rw [hM1, hX1]; exact hP.th (nI 0)
  have ht1 : hr_th X1 = nI 0 := by rw [hX1]; rfl
  have hgr1 : hr_gr X1 = hr_gr X := by rw [hX1]; rfl
  have hqq1 : hr_qq X1 = hr_qq X := by rw [hX1]; rfl
  have fr1 : ∀ a, b1 a → M1 a = M a := fun a ha => by rw [hM1]; exact va_up_ne _ _ (hP.f (k := 0) (i := 0) (show 0 < 4 by decide) ha)
  have hA1 : ∀ a, b1 a → M1 a ≠ none := fun a ha => by rw [fr1 a ha]; exact hA a ha
  clear hP hX1
  have e0_0hP1 : M1 (ad 0 0) = hw_ob 12 [.int (hr_th X1), .int (hs_G S 0), .int (hs_G S 1), .ref (ad 0 2), .ref (ad 0 3), .ref (ad 0 1)] := hP1.m 0 0 (show 0 < 4 by decide)
  have e0_2hP1 : M1 (ad 0 2) = hw_ob 0 [.int (hr_mc X1 0), .ref (hr_d (hs_np S) Z.2.2.2 (ad 11 0)), .int (nI (hs_np S))] := hP1.m 0 2 (show 2 < 4 by decide)
  refine lv_aload_n hx hb dX11_ofPiece_5 rfl (lv_at hl 0 rfl) ?_
  refine lv_iload_n hx hb dX11_ofPiece_6 rfl (lv_at hl 1 rfl) ?_
  refine hw_ci hI (hw_rV hx hb hml hown hts hk hI (m_X11_isPiece l Z M1 (ad 0 0) (ad 0 2) (ad 0 3) (ad 0 1) (hr_th X1) (hs_G S 0) (hs_G S 1) ka (hr_mc X1 0) (hs_np S) (.ref (hr_d (hs_np S) Z.2.2.2 (ad 11 0))) e0_0hP1 e0_2hP1 (by omega)) cv_X11_55 e0_0hP1 rfl rfl ⟨rfl, rfl⟩ ⟨(Nat.le_of_ble_eq_true rfl), (Nat.le_of_ble_eq_true rfl)⟩ rfl hl.1 rfl (Nat.le_of_ble_eq_true rfl) ⟨(Nat.le_of_ble_eq_true rfl), (Nat.le_of_ble_eq_true rfl)⟩ dX11_ofPiece_7) (fun r7 M7 H locs hR hI => ?_)
  obtain ⟨rfl, rfl⟩ := hR
  refine lv_if_ne (tgt := 19) hx hb dX11_ofPiece_10 (by decide) (fun c10 => ?_) (fun c10 => ?_)
  · have gk := hq_dt c10
    refine lv_iload_n hx hb dX11_ofPiece_19 rfl (lv_at hl 2 rfl) ?_
    refine lv_iconst (v := nI 0) hx hb dX11_ofPiece_20 (by decide) ?_
    refine lv_bipush (v := nI 14) hx hb dX11_ofPiece_21 (by decide) ?_
    refine hw_ci hI (hw_rS hx hb hml hown hts hk hI (m_X11_in l Z M1 kw (nI 0) (nI 14)) cs_X11_40 ⟨rfl, rfl⟩ ⟨(Nat.le_of_ble_eq_true rfl), (Nat.le_of_ble_eq_true rfl)⟩ rfl hl.1 rfl (Nat.le_of_ble_eq_true rfl) ⟨(Nat.le_of_ble_eq_true rfl), (Nat.le_of_ble_eq_true rfl)⟩ dX11_ofPiece_23) (fun r23 M23 H locs hR hI => ?_)
    obtain ⟨rfl, rfl⟩ := hR
    refine hw_ti (congrArg (fun b => nI (Bool.toNat b)) (hb_in_okL (k := kw) (n := 14) (by decide))) ?_
    refine lv_if_ne (tgt := 35) hx hb dX11_ofPiece_26 (by decide) (fun c26 => ?_) (fun c26 => ?_)
    · have gk2 := hq_dt c26
      have hx_kw := hb_okx (by decide) gk2
      have hx_ka := hb_okx (by omega) gk
      have hi_ka : hb_ix ka < hs_np S := hx_ka.1
      have h4_ka : hb_ix ka < 4 := by omega
      have h11 : 0 = 0 ∧ 0 < hs_np S := ⟨rfl, by omega⟩
      have e0_2hP1 : M1 (ad 0 2) = hw_ob 0 [.int (hr_mc X1 0), .ref (ad 11 0), .int (nI (hs_np S))] := by
        have q := hP1.m 0 2 (show 2 < 4 by decide)
        rw [show hr_e Z ad S X1 0 2 = hw_ob 0 [.int (hr_mc X1 0), .ref (hr_d (hs_np S) Z.2.2.2 (ad 11 0)), .int (nI (hs_np S))] from rfl, hr_d0 h11.2] at q
        exact q
      have e11_0hP1 : M1 (ad 11 0) = hw_ar Z 7 10 (hc_f (ad 1) (hs_np S)) := hP1.m 11 0 h11
      have e1_hb_ix_kahP1 : M1 (ad 1 (hb_ix ka)) = hw_ob 9 [.ref (ad 2 (hb_ix ka)), .int (hs_P S (hb_ix ka) 0), .ref (ad 4 (hb_ix ka)), .int (hs_P S (hb_ix ka) 3), .int (hs_P S (hb_ix ka) 4), .int (hs_P S (hb_ix ka) 5), .int (hs_P S (hb_ix ka) 6), .int (hs_P S (hb_ix ka) 7), .int (hs_P S (hb_ix ka) 8)] := hP1.m 1 (hb_ix ka) hi_ka
      have e2_hb_ix_kahP1 : M1 (ad 2 (hb_ix ka)) = hw_ob 11 [.ref (ad 3 (hb_ix ka))] := hP1.m 2 (hb_ix ka) hi_ka
      have e3_hb_ix_kahP1 : M1 (ad 3 (hb_ix ka)) = hw_al Z 8 (hs_C S (hb_ix ka)) := hP1.m 3 (hb_ix ka) hi_ka
      have e4_hb_ix_kahP1 : M1 (ad 4 (hb_ix ka)) = hw_ob 7 [.double (hr_en (hs_P S (hb_ix ka))), .ref (ad 5 (hb_ix ka)), .double (hs_U S (hb_ix ka)), .int (hs_P S (hb_ix ka) 1), .int (hs_P S (hb_ix ka) 2), .int (nI (hs_D S (hb_ix ka)))] := hP1.m 4 (hb_ix ka) hi_ka
      refine lv_aload_n hx hb dX11_ofPiece_35 rfl (lv_at hl 0 rfl) ?_
      refine hw_get hx hb hts hown hk hI fd_X11_10 e0_0hP1 rfl dX11_ofPiece_36 ?_
      refine lv_iload_n hx hb dX11_ofPiece_39 rfl (lv_at hl 1 rfl) ?_
      refine hw_ti hx_ka.2 ?_
      refine hw_cFr hI (hw_rF hx hb hml hown hts hk hI (m_Jx4a65c_get_915e3 l Z M1 (ad 0 2) (ad 11 0) (hs_np S) (hb_ix ka) (ad 1 (hb_ix ka)) (hr_mc X1 0) (hc_f (ad 1) (hs_np S)) e0_2hP1 e11_0hP1 hi_ka (by omega) (if_pos hi_ka)) cf_X11_59 e0_2hP1 rfl rfl ⟨rfl, rfl⟩ ⟨(Nat.le_of_ble_eq_true rfl), (Nat.le_of_ble_eq_true rfl)⟩ rfl hl.1 rfl (Nat.le_of_ble_eq_true rfl) ⟨(Nat.le_of_ble_eq_true rfl), (Nat.le_of_ble_eq_true rfl)⟩ dX11_ofPiece_40) (fun r40 M40 H locs hR hI => ?_)
      obtain ⟨rfl, rfl⟩ := hR
      refine hw_cast hx hb hts hown hk hI e1_hb_ix_kahP1 rfl (hw_win (w := .classLink RX11 48 RX8) (by decide +kernel) (by decide +kernel)) dX11_ofPiece_45 ?_
      refine lv_iload_n hx hb dX11_ofPiece_48 rfl (lv_at hl 2 rfl) ?_
      refine hw_ti hx_kw.2 ?_
      refine hw_ci hI (hw_rS hx hb hml hown hts hk hI (m_X11_pieceNow l Z M1 ad S X1 b1 (hb_ix ka) (hb_ix kw) hP1 hi_ka hx_kw.1) cs_X11_217 ⟨rfl, rfl⟩ ⟨(Nat.le_of_ble_eq_true rfl), (Nat.le_of_ble_eq_true rfl)⟩ rfl hl.1 rfl (Nat.le_of_ble_eq_true rfl) ⟨(Nat.le_of_ble_eq_true rfl), (Nat.le_of_ble_eq_true rfl)⟩ dX11_ofPiece_49) (fun r49 M49 H locs hR hI => ?_)
      obtain ⟨rfl, rfl⟩ := hR
      have hok : hr_ok Z b1 (M1) ad (S) (X1) := by
        refine hr_old hP1 (fun _ _ hi => hi) ?_ hP1.q hP1.g
        intro k i hi
        rcases k with _ | _ | _ | _ | _ | _ | _ | _ | _ | _ | _ | _ | _ | k
        · rcases (show i = 0 ∨ i = 1 ∨ i = 2 ∨ i = 3 by have h4 : i < 4 := hi; omega) with rfl | rfl | rfl | rfl
          · show (M1) (ad 0 0) = hw_ob 12 [.int (hr_th X1), .int (hs_G S 0), .int (hs_G S 1), .ref (ad 0 2), .ref (ad 0 3), .ref (ad 0 1)]
            refine (hP1.m 0 0 (show 0 < 4 by decide)).trans ?_
            first | rfl | (simp only [va_up_self]; done) | (simp only [va_up_self]; rfl)
          · show (M1) (ad 0 1) = hw_ar Z 6 2 (fun j => some (ad 7 j))
            refine (hP1.m 0 1 (show 1 < 4 by decide)).trans ?_
            first | rfl | (simp only [va_up_self]; done) | (simp only [va_up_self]; rfl)
          · show (M1) (ad 0 2) = hw_ob 0 [.int (hr_mc X1 0), .ref (hr_d (hs_np S) Z.2.2.2 (ad 11 0)), .int (nI (hs_np S))]
            refine (hP1.m 0 2 (show 2 < 4 by decide)).trans ?_
            first | rfl | (simp only [va_up_self]; done) | (simp only [va_up_self]; rfl)
          · show (M1) (ad 0 3) = hw_ob 0 [.int (hr_mc X1 1), .ref (hr_d (hs_nw S) Z.2.2.2 (ad 12 0)), .int (nI (hs_nw S))]
            refine (hP1.m 0 3 (show 3 < 4 by decide)).trans ?_
            first | rfl | (simp only [va_up_self]; done) | (simp only [va_up_self]; rfl)
        · show (M1) (ad 1 i) = hw_ob 9 [.ref (ad 2 i), .int (hs_P S i 0), .ref (ad 4 i), .int (hs_P S i 3), .int (hs_P S i 4), .int (hs_P S i 5), .int (hs_P S i 6), .int (hs_P S i 7), .int (hs_P S i 8)]
          refine (hP1.m 1 i hi).trans ?_
          first | rfl
        · show (M1) (ad 2 i) = hw_ob 11 [.ref (ad 3 i)]
          refine (hP1.m 2 i hi).trans ?_
          first | rfl
        · show (M1) (ad 3 i) = hw_al Z 8 (hs_C S i)
          refine (hP1.m 3 i hi).trans ?_
          first | rfl
        · show (M1) (ad 4 i) = hw_ob 7 [.double (hr_en (hs_P S i)), .ref (ad 5 i), .double (hs_U S i), .int (hs_P S i 1), .int (hs_P S i 2), .int (nI (hs_D S i))]
          refine (hP1.m 4 i hi).trans ?_
          first | rfl
        · show (M1) (ad 5 i) = hw_ad Z 64 (hs_W S i)
          refine (hP1.m 5 i hi).trans ?_
          first | rfl
        · show (M1) (ad 6 i) = hw_ob 10 [.int (hs_V S i 0), .int (hs_V S i 1), .int (hs_V S i 2), .int (hs_V S i 3), .int (hs_V S i 4)]
          refine (hP1.m 6 i hi).trans ?_
          first | rfl
        · show (M1) (ad 7 i) = hw_ob 8 [.int (hs_M S i 0), .int (hs_M S i 1), .int (hs_M S i 2), .int (hs_M S i 3), .ref (ad 8 i)]
          refine (hP1.m 7 i hi).trans ?_
          first | rfl
        · show (M1) (ad 8 i) = hw_ob 0 [.int (hr_mc X1 (2 + i)), .ref (if hr_gr X1 i then ad 9 i else Z.2.2.2), .int (nI (hs_N S i))]
          refine (hP1.m 8 i hi).trans ?_
          first | rfl
        · show (M1) (ad 9 i) = hw_ar Z 7 10 (hc_f (fun j => ad 10 (i + 2 * j)) (hs_N S i))
          refine (hP1.m 9 i hi).trans ?_
          first | rfl
        · show (M1) (ad 10 i) = hw_ai Z 3 (hr_qq X1 (i % 2) (i / 2))
          refine (hP1.m 10 i hi).trans ?_
          first | rfl
        · show (M1) (ad 11 i) = hw_ar Z 7 10 (hc_f (ad 1) (hs_np S))
          refine (hP1.m 11 i hi).trans ?_
          first | rfl
        · show (M1) (ad 12 i) = hw_ar Z 7 10 (hc_f (ad 6) (hs_nw S))
          refine (hP1.m 12 i hi).trans ?_
          first | rfl
        · exact hi.elim
      have fr_hok : ∀ a, b1 a → (M1) a = M a := fun a ha => fr1 a ha
      have hfin : hr_R Z b1 M ad (st_ofPiece S ka kw) (hs_op S (hb_ix ka) (hb_ix kw)) (M1) := hr_r (S' := S) (X' := X1) (ad' := ad) (by unfold st_ofPiece; exact ((if_neg (fun q => q gk)).trans ((if_neg (fun q => q gk2)).trans rfl))) rfl hok ht1 fr_hok
      exact hret hI hfin (Nat.le_of_ble_eq_true rfl) (Nat.le_of_ble_eq_true rfl) dX11_ofPiece_52
    · refine lv_aload_n hx hb dX11_ofPiece_29 rfl (lv_at hl 0 rfl) ?_
      refine lv_iconst (v := nI 2) hx hb dX11_ofPiece_30 (by decide) ?_
      refine hw_ci hI (hw_rV hx hb hml hown hts hk hI (m_X11_no l Z M1 (ad 0 0) (ad 0 2) (ad 0 3) (ad 0 1) (hr_th X1) (hs_G S 0) (hs_G S 1) (nI 2) e0_0hP1) cv_X11_44 e0_0hP1 rfl rfl ⟨rfl, rfl⟩ ⟨(Nat.le_of_ble_eq_true rfl), (Nat.le_of_ble_eq_true rfl)⟩ rfl hl.1 rfl (Nat.le_of_ble_eq_true rfl) ⟨(Nat.le_of_ble_eq_true rfl), (Nat.le_of_ble_eq_true rfl)⟩ dX11_ofPiece_31) (fun r31 M31 H locs hR hI => ?_)
      obtain ⟨rfl, rfl⟩ := hR
      exact hret hI (hr_x (n := 2) (by unfold st_ofPiece; exact (hq_el (fun q => q gk) (hq_if (hq_df c26) ⟨rfl, rfl⟩))) (by decide) (hP1.th (nI 2)) rfl (fun a ha => (va_up_ne _ _ (hP1.f (k := 0) (i := 0) (show 0 < 4 by decide) ha)).trans (fr1 a ha))) (Nat.le_of_ble_eq_true rfl) (Nat.le_of_ble_eq_true rfl) dX11_ofPiece_34
  · refine lv_aload_n hx hb dX11_ofPiece_13 rfl (lv_at hl 0 rfl) ?_
    refine lv_iconst (v := nI 1) hx hb dX11_ofPiece_14 (by decide) ?_
    refine hw_ci hI (hw_rV hx hb hml hown hts hk hI (m_X11_no l Z M1 (ad 0 0) (ad 0 2) (ad 0 3) (ad 0 1) (hr_th X1) (hs_G S 0) (hs_G S 1) (nI 1) e0_0hP1) cv_X11_44 e0_0hP1 rfl rfl ⟨rfl, rfl⟩ ⟨(Nat.le_of_ble_eq_true rfl), (Nat.le_of_ble_eq_true rfl)⟩ rfl hl.1 rfl (Nat.le_of_ble_eq_true rfl) ⟨(Nat.le_of_ble_eq_true rfl), (Nat.le_of_ble_eq_true rfl)⟩ dX11_ofPiece_15) (fun r15 M15 H locs hR hI => ?_)
    obtain ⟨rfl, rfl⟩ := hR
    exact hret hI (hr_x (n := 1) (by unfold st_ofPiece; exact (hq_if (hq_df c10) ⟨rfl, rfl⟩)) (by decide) (hP1.th (nI 1)) rfl (fun a ha => (va_up_ne _ _ (hP1.f (k := 0) (i := 0) (show 0 < 4 by decide) ha)).trans (fr1 a ha))) (Nat.le_of_ble_eq_true rfl) (Nat.le_of_ble_eq_true rfl) dX11_ofPiece_18

set_option maxHeartbeats 4000000 in
set_option maxRecDepth 100000 in
theorem m_X11_ofLayer (l : Launch) (Z : hw_Z) (M : hw_M) (ad : hp_ad) (S : hs_S) (X : hr_X) (b1 : Nat → Prop) (ka : Int32) (kb : Int32) (kw : Int32) (hP : hr_ok Z b1 M ad S X) (hV : hv_ok S) (hA : ∀ a, b1 a → M a ≠ none) : Met l yX11_ofLayer (hw_m yX11_ofLayer cX11_ofLayer 4 (some .long)) ({ frames := 8, cells := 2, slots := 90, locals := 250 } : Room) (va_Pc [.ref (ad 0 0), .int ka, .int kb, .int kw] (hw_P Z M)) (hw_Ql Z (hr_R Z b1 M ad (st_ofLayer S ka kb kw))) 2 90 (hw_A Z) := by
  refine hw_ofl (by decide +kernel) rfl (Nat.le_of_ble_eq_true rfl) ?_
  intro p e s m below meth c ls Q hx hb hml hown hts hk hnm hI hl hret
  have hB := hV.b
  have hnp := hB.np
  have hnw := hB.nw
  have e0_0hP : M (ad 0 0) = hw_ob 12 [.int (hr_th X), .int (hs_G S 0), .int (hs_G S 1), .ref (ad 0 2), .ref (ad 0 3), .ref (ad 0 1)] := hP.m 0 0 (show 0 < 4 by decide)
  refine lv_aload_n hx hb dX11_ofLayer_0 rfl (lv_at hl 0 rfl) ?_
  refine lv_iconst (v := nI 0) hx hb dX11_ofLayer_1 (by decide) ?_
  refine hw_put (fs' := [.int (nI 0), .int (hs_G S 0), .int (hs_G S 1), .ref (ad 0 2), .ref (ad 0 3), .ref (ad 0 1)]) hx hb hts hown hk hI fp_X11_26 e0_0hP (Nat.le_of_ble_eq_true rfl) rfl rfl rfl dX11_ofLayer_2 (fun H locs hI => ?_)
  obtain ⟨M1, hM1⟩ : ∃ Y : hw_M, Y = va_up M (ad 0 0) (hw_ob 12 [.int (nI 0), .int (hs_G S 0), .int (hs_G S 1), .ref (ad 0 2), .ref (ad 0 3), .ref (ad 0 1)]) := ⟨_, rfl⟩
  replace hI := hI.eq hM1.symm
  obtain ⟨X1, hX1⟩ : ∃ Y : hr_X, Y = (nI 0, X.2) := ⟨_, rfl⟩
  have hP1 : hr_ok Z b1 M1 ad S X1 := by rw [hM1, hX1]; exact hP.th (nI 0)
  have ht1 : hr_th X1 = nI 0 := by rw [hX1]; rfl
  have hgr1 : hr_gr X1 = hr_gr X := by rw [hX1]; rfl
  have hqq1 : hr_qq X1 = hr_qq X := by rw [hX1]; rfl
  have fr1 : ∀ a, b1 a → M1 a = M a := fun a ha => by rw [hM1]; exact va_up_ne _ _ (hP.f (k := 0) (i := 0) (show 0 < 4 by decide) ha)
  have hA1 : ∀ a, b1 a → M1 a ≠ none := fun a ha => by rw [fr1 a ha]; exact hA a ha
  clear hP hX1
  have e0_0hP1 : M1 (ad 0 0) = hw_ob 12 [.int (hr_th X1), .int (hs_G S 0), .int (hs_G S 1), .ref (ad 0 2), .ref (ad 0 3), .ref (ad 0 1)] := hP1.m 0 0 (show 0 < 4 by decide)
  have e0_2hP1 : M1 (ad 0 2) = hw_ob 0 [.int (hr_mc X1 0), .ref (hr_d (hs_np S) Z.2.2.2 (ad 11 0)), .int (nI (hs_np S))] := hP1.m 0 2 (show 2 < 4 by decide)
  refine lv_aload_n hx hb dX11_ofLayer_5 rfl (lv_at hl 0 rfl) ?_
  refine lv_iload_n hx hb dX11_ofLayer_6 rfl (lv_at hl 1 rfl) ?_
  refine hw_ci hI (hw_rV hx hb hml hown hts hk hI (m_X11_isPiece l Z M1 (ad 0 0) (ad 0 2) (ad 0 3) (ad 0 1) (hr_th X1) (hs_G S 0) (hs_G S 1) ka (hr_mc X1 0) (hs_np S) (.ref (hr_d (hs_np S) Z.2.2.2 (ad 11 0))) e0_0hP1 e0_2hP1 (by omega)) cv_X11_55 e0_0hP1 rfl rfl ⟨rfl, rfl⟩ ⟨(Nat.le_of_ble_eq_true rfl), (Nat.le_of_ble_eq_true rfl)⟩ rfl hl.1 rfl (Nat.le_of_ble_eq_true rfl) ⟨(Nat.le_of_ble_eq_true rfl), (Nat.le_of_ble_eq_true rfl)⟩ dX11_ofLayer_7) (fun r7 M7 H locs hR hI => ?_)
  obtain ⟨rfl, rfl⟩ := hR
  refine lv_if_eq (tgt := 23) hx hb dX11_ofLayer_10 (by decide) (fun c10 => ?_) (fun c10 => ?_)
  · refine lv_aload_n hx hb dX11_ofLayer_23 rfl (lv_at hl 0 rfl) ?_
    refine lv_iconst (v := nI 1) hx hb dX11_ofLayer_24 (by decide) ?_
    refine hw_ci hI (hw_rV hx hb hml hown hts hk hI (m_X11_no l Z M1 (ad 0 0) (ad 0 2) (ad 0 3) (ad 0 1) (hr_th X1) (hs_G S 0) (hs_G S 1) (nI 1) e0_0hP1) cv_X11_44 e0_0hP1 rfl rfl ⟨rfl, rfl⟩ ⟨(Nat.le_of_ble_eq_true rfl), (Nat.le_of_ble_eq_true rfl)⟩ rfl hl.1 rfl (Nat.le_of_ble_eq_true rfl) ⟨(Nat.le_of_ble_eq_true rfl), (Nat.le_of_ble_eq_true rfl)⟩ dX11_ofLayer_25) (fun r25 M25 H locs hR hI => ?_)
    obtain ⟨rfl, rfl⟩ := hR
    refine lv_i2l (v := (nI 0).toInt64) hx hb dX11_ofLayer_28 rfl ?_
    exact hret hI (hr_x (n := 1) (by unfold st_ofLayer; exact (hq_if (fun q => hq_df c10 q.1) ⟨rfl, rfl⟩)) (by decide) (hP1.th (nI 1)) rfl (fun a ha => (va_up_ne _ _ (hP1.f (k := 0) (i := 0) (show 0 < 4 by decide) ha)).trans (fr1 a ha))) (Nat.le_of_ble_eq_true rfl) (Nat.le_of_ble_eq_true rfl) dX11_ofLayer_29
  · refine lv_iload_n hx hb dX11_ofLayer_13 rfl (lv_at hl 2 rfl) ?_
    refine lv_iconst (v := nI 0) hx hb dX11_ofLayer_14 (by decide) ?_
    refine lv_bipush (v := nI 7) hx hb dX11_ofLayer_15 (by decide) ?_
    refine hw_ci hI (hw_rS hx hb hml hown hts hk hI (m_X11_in l Z M1 kb (nI 0) (nI 7)) cs_X11_40 ⟨rfl, rfl⟩ ⟨(Nat.le_of_ble_eq_true rfl), (Nat.le_of_ble_eq_true rfl)⟩ rfl hl.1 rfl (Nat.le_of_ble_eq_true rfl) ⟨(Nat.le_of_ble_eq_true rfl), (Nat.le_of_ble_eq_true rfl)⟩ dX11_ofLayer_17) (fun r17 M17 H locs hR hI => ?_)
    obtain ⟨rfl, rfl⟩ := hR
    refine hw_ti (congrArg (fun b => nI (Bool.toNat b)) (hb_in_okL (k := kb) (n := 7) (by decide))) ?_
    refine lv_if_ne (tgt := 30) hx hb dX11_ofLayer_20 (by decide) (fun c20 => ?_) (fun c20 => ?_)
    · refine lv_iload_n hx hb dX11_ofLayer_30 rfl (lv_at hl 3 rfl) ?_
      refine lv_iconst (v := nI 0) hx hb dX11_ofLayer_31 (by decide) ?_
      refine lv_iconst (v := nI 2) hx hb dX11_ofLayer_32 (by decide) ?_
      refine hw_ci hI (hw_rS hx hb hml hown hts hk hI (m_X11_in l Z M1 kw (nI 0) (nI 2)) cs_X11_40 ⟨rfl, rfl⟩ ⟨(Nat.le_of_ble_eq_true rfl), (Nat.le_of_ble_eq_true rfl)⟩ rfl hl.1 rfl (Nat.le_of_ble_eq_true rfl) ⟨(Nat.le_of_ble_eq_true rfl), (Nat.le_of_ble_eq_true rfl)⟩ dX11_ofLayer_33) (fun r33 M33 H locs hR hI => ?_)
      obtain ⟨rfl, rfl⟩ := hR
      refine hw_ti (congrArg (fun b => nI (Bool.toNat b)) (hb_in_okL (k := kw) (n := 2) (by decide))) ?_
      refine lv_if_ne (tgt := 46) hx hb dX11_ofLayer_36 (by decide) (fun c36 => ?_) (fun c36 => ?_)
      · have gk := hq_dt c10
        have gk3 := hq_dt c20
        have gk2 := hq_dt c36
        have hx_kw := hb_okx (by decide) gk2
        have hx_kb := hb_okx (by decide) gk3
        have hx_ka := hb_okx (by omega) gk
        have hi_ka : hb_ix ka < hs_np S := hx_ka.1
        have h4_ka : hb_ix ka < 4 := by omega
        have h11 : 0 = 0 ∧ 0 < hs_np S := ⟨rfl, by omega⟩
        have e0_2hP1 : M1 (ad 0 2) = hw_ob 0 [.int (hr_mc X1 0), .ref (ad 11 0), .int (nI (hs_np S))] := by
          have q := hP1.m 0 2 (show 2 < 4 by decide)
          rw [show hr_e Z ad S X1 0 2 = hw_ob 0 [.int (hr_mc X1 0), .ref (hr_d (hs_np S) Z.2.2.2 (ad 11 0)), .int (nI (hs_np S))] from rfl, hr_d0 h11.2] at q
          exact q
        have e11_0hP1 : M1 (ad 11 0) = hw_ar Z 7 10 (hc_f (ad 1) (hs_np S)) := hP1.m 11 0 h11
        have e1_hb_ix_kahP1 : M1 (ad 1 (hb_ix ka)) = hw_ob 9 [.ref (ad 2 (hb_ix ka)), .int (hs_P S (hb_ix ka) 0), .ref (ad 4 (hb_ix ka)), .int (hs_P S (hb_ix ka) 3), .int (hs_P S (hb_ix ka) 4), .int (hs_P S (hb_ix ka) 5), .int (hs_P S (hb_ix ka) 6), .int (hs_P S (hb_ix ka) 7), .int (hs_P S (hb_ix ka) 8)] := hP1.m 1 (hb_ix ka) hi_ka
        have e2_hb_ix_kahP1 : M1 (ad 2 (hb_ix ka)) = hw_ob 11 [.ref (ad 3 (hb_ix ka))] := hP1.m 2 (hb_ix ka) hi_ka
        have e3_hb_ix_kahP1 : M1 (ad 3 (hb_ix ka)) = hw_al Z 8 (hs_C S (hb_ix ka)) := hP1.m 3 (hb_ix ka) hi_ka
        refine lv_aload_n hx hb dX11_ofLayer_46 rfl (lv_at hl 0 rfl) ?_
        refine hw_get hx hb hts hown hk hI fd_X11_10 e0_0hP1 rfl dX11_ofLayer_47 ?_
        refine lv_iload_n hx hb dX11_ofLayer_50 rfl (lv_at hl 1 rfl) ?_
        refine hw_ti hx_ka.2 ?_
        refine hw_cFr hI (hw_rF hx hb hml hown hts hk hI (m_Jx4a65c_get_915e3 l Z M1 (ad 0 2) (ad 11 0) (hs_np S) (hb_ix ka) (ad 1 (hb_ix ka)) (hr_mc X1 0) (hc_f (ad 1) (hs_np S)) e0_2hP1 e11_0hP1 hi_ka (by omega) (if_pos hi_ka)) cf_X11_59 e0_2hP1 rfl rfl ⟨rfl, rfl⟩ ⟨(Nat.le_of_ble_eq_true rfl), (Nat.le_of_ble_eq_true rfl)⟩ rfl hl.1 rfl (Nat.le_of_ble_eq_true rfl) ⟨(Nat.le_of_ble_eq_true rfl), (Nat.le_of_ble_eq_true rfl)⟩ dX11_ofLayer_51) (fun r51 M51 H locs hR hI => ?_)
        obtain ⟨rfl, rfl⟩ := hR
        refine hw_cast hx hb hts hown hk hI e1_hb_ix_kahP1 rfl (hw_win (w := .classLink RX11 48 RX8) (by decide +kernel) (by decide +kernel)) dX11_ofLayer_56 ?_
        refine hw_get hx hb hts hown hk hI fd_X11_66 e1_hb_ix_kahP1 rfl dX11_ofLayer_59 ?_
        refine lv_iload_n hx hb dX11_ofLayer_62 rfl (lv_at hl 2 rfl) ?_
        refine hw_ti hx_kb.2 ?_
        refine lv_iload_n hx hb dX11_ofLayer_63 rfl (lv_at hl 3 rfl) ?_
        refine hw_ti hx_kw.2 ?_
        refine hw_cl' hI (hw_rS hx hb hml hown hts hk hI (m_X11_layerNow l Z M1 ad S X1 b1 (hb_ix ka) (hb_ix kb) (hb_ix kw) hP1 hi_ka hx_kb.1 hx_kw.1) cs_X11_223 ⟨rfl, rfl⟩ ⟨(Nat.le_of_ble_eq_true rfl), (Nat.le_of_ble_eq_true rfl)⟩ rfl hl.1 rfl (Nat.le_of_ble_eq_true rfl) ⟨(Nat.le_of_ble_eq_true rfl), (Nat.le_of_ble_eq_true rfl)⟩ dX11_ofLayer_64) (fun r64 M64 H locs hR hI => ?_)
        obtain ⟨rfl, rfl⟩ := hR
        have hok : hr_ok Z b1 (M1) ad (S) (X1) := by
          refine hr_old hP1 (fun _ _ hi => hi) ?_ hP1.q hP1.g
          intro k i hi
          rcases k with _ | _ | _ | _ | _ | _ | _ | _ | _ | _ | _ | _ | _ | k
          · rcases (show i = 0 ∨ i = 1 ∨ i = 2 ∨ i = 3 by have h4 : i < 4 := hi; omega) with rfl | rfl | rfl | rfl
            · show (M1) (ad 0 0) = hw_ob 12 [.int (hr_th X1), .int (hs_G S 0), .int (hs_G S 1), .ref (ad 0 2), .ref (ad 0 3), .ref (ad 0 1)]
              refine (hP1.m 0 0 (show 0 < 4 by decide)).trans ?_
              first | rfl | (simp only [va_up_self]; done) | (simp only [va_up_self]; rfl)
            · show (M1) (ad 0 1) = hw_ar Z 6 2 (fun j => some (ad 7 j))
              refine (hP1.m 0 1 (show 1 < 4 by decide)).trans ?_
              first | rfl | (simp only [va_up_self]; done) | (simp only [va_up_self]; rfl)
            · show (M1) (ad 0 2) = hw_ob 0 [.int (hr_mc X1 0), .ref (hr_d (hs_np S) Z.2.2.2 (ad 11 0)), .int (nI (hs_np S))]
              refine (hP1.m 0 2 (show 2 < 4 by decide)).trans ?_
              first | rfl | (simp only [va_up_self]; done) | (simp only [va_up_self]; rfl)
            · show (M1) (ad 0 3) = hw_ob 0 [.int (hr_mc X1 1), .ref (hr_d (hs_nw S) Z.2.2.2 (ad 12 0)), .int (nI (hs_nw S))]
              refine (hP1.m 0 3 (show 3 < 4 by decide)).trans ?_
              first | rfl | (simp only [va_up_self]; done) | (simp only [va_up_self]; rfl)
          · show (M1) (ad 1 i) = hw_ob 9 [.ref (ad 2 i), .int (hs_P S i 0), .ref (ad 4 i), .int (hs_P S i 3), .int (hs_P S i 4), .int (hs_P S i 5), .int (hs_P S i 6), .int (hs_P S i 7), .int (hs_P S i 8)]
            refine (hP1.m 1 i hi).trans ?_
            first | rfl
          · show (M1) (ad 2 i) = hw_ob 11 [.ref (ad 3 i)]
            refine (hP1.m 2 i hi).trans ?_
            first | rfl
          · show (M1) (ad 3 i) = hw_al Z 8 (hs_C S i)
            refine (hP1.m 3 i hi).trans ?_
            first | rfl
          · show (M1) (ad 4 i) = hw_ob 7 [.double (hr_en (hs_P S i)), .ref (ad 5 i), .double (hs_U S i), .int (hs_P S i 1), .int (hs_P S i 2), .int (nI (hs_D S i))]
            refine (hP1.m 4 i hi).trans ?_
            first | rfl
          · show (M1) (ad 5 i) = hw_ad Z 64 (hs_W S i)
            refine (hP1.m 5 i hi).trans ?_
            first | rfl
          · show (M1) (ad 6 i) = hw_ob 10 [.int (hs_V S i 0), .int (hs_V S i 1), .int (hs_V S i 2), .int (hs_V S i 3), .int (hs_V S i 4)]
            refine (hP1.m 6 i hi).trans ?_
            first | rfl
          · show (M1) (ad 7 i) = hw_ob 8 [.int (hs_M S i 0), .int (hs_M S i 1), .int (hs_M S i 2), .int (hs_M S i 3), .ref (ad 8 i)]
            refine (hP1.m 7 i hi).trans ?_
            first | rfl
          · show (M1) (ad 8 i) = hw_ob 0 [.int (hr_mc X1 (2 + i)), .ref (if hr_gr X1 i then ad 9 i else Z.2.2.2), .int (nI (hs_N S i))]
            refine (hP1.m 8 i hi).trans ?_
            first | rfl
          · show (M1) (ad 9 i) = hw_ar Z 7 10 (hc_f (fun j => ad 10 (i + 2 * j)) (hs_N S i))
            refine (hP1.m 9 i hi).trans ?_
            first | rfl
          · show (M1) (ad 10 i) = hw_ai Z 3 (hr_qq X1 (i % 2) (i / 2))
            refine (hP1.m 10 i hi).trans ?_
            first | rfl
          · show (M1) (ad 11 i) = hw_ar Z 7 10 (hc_f (ad 1) (hs_np S))
            refine (hP1.m 11 i hi).trans ?_
            first | rfl
          · show (M1) (ad 12 i) = hw_ar Z 7 10 (hc_f (ad 6) (hs_nw S))
            refine (hP1.m 12 i hi).trans ?_
            first | rfl
          · exact hi.elim
        have fr_hok : ∀ a, b1 a → (M1) a = M a := fun a ha => fr1 a ha
        have hfin : hr_R Z b1 M ad (st_ofLayer S ka kb kw) (hs_ol S (hb_ix ka) (hb_ix kb) (hb_ix kw)) (M1) := hr_r (S' := S) (X' := X1) (ad' := ad) (by unfold st_ofLayer; exact ((if_neg (fun q => q ⟨gk, gk3⟩)).trans ((if_neg (fun q => q gk2)).trans rfl))) rfl hok ht1 fr_hok
        exact hret hI hfin (Nat.le_of_ble_eq_true rfl) (Nat.le_of_ble_eq_true rfl) dX11_ofLayer_67
      · refine lv_aload_n hx hb dX11_ofLayer_39 rfl (lv_at hl 0 rfl) ?_
        refine lv_iconst (v := nI 2) hx hb dX11_ofLayer_40 (by decide) ?_
        refine hw_ci hI (hw_rV hx hb hml hown hts hk hI (m_X11_no l Z M1 (ad 0 0) (ad 0 2) (ad 0 3) (ad 0 1) (hr_th X1) (hs_G S 0) (hs_G S 1) (nI 2) e0_0hP1) cv_X11_44 e0_0hP1 rfl rfl ⟨rfl, rfl⟩ ⟨(Nat.le_of_ble_eq_true rfl), (Nat.le_of_ble_eq_true rfl)⟩ rfl hl.1 rfl (Nat.le_of_ble_eq_true rfl) ⟨(Nat.le_of_ble_eq_true rfl), (Nat.le_of_ble_eq_true rfl)⟩ dX11_ofLayer_41) (fun r41 M41 H locs hR hI => ?_)
        obtain ⟨rfl, rfl⟩ := hR
        refine lv_i2l (v := (nI 0).toInt64) hx hb dX11_ofLayer_44 rfl ?_
        exact hret hI (hr_x (n := 2) (by unfold st_ofLayer; exact (hq_el (fun q => q ⟨hq_dt c10, hq_dt c20⟩) (hq_if (hq_df c36) ⟨rfl, rfl⟩))) (by decide) (hP1.th (nI 2)) rfl (fun a ha => (va_up_ne _ _ (hP1.f (k := 0) (i := 0) (show 0 < 4 by decide) ha)).trans (fr1 a ha))) (Nat.le_of_ble_eq_true rfl) (Nat.le_of_ble_eq_true rfl) dX11_ofLayer_45
    · refine lv_aload_n hx hb dX11_ofLayer_23 rfl (lv_at hl 0 rfl) ?_
      refine lv_iconst (v := nI 1) hx hb dX11_ofLayer_24 (by decide) ?_
      refine hw_ci hI (hw_rV hx hb hml hown hts hk hI (m_X11_no l Z M1 (ad 0 0) (ad 0 2) (ad 0 3) (ad 0 1) (hr_th X1) (hs_G S 0) (hs_G S 1) (nI 1) e0_0hP1) cv_X11_44 e0_0hP1 rfl rfl ⟨rfl, rfl⟩ ⟨(Nat.le_of_ble_eq_true rfl), (Nat.le_of_ble_eq_true rfl)⟩ rfl hl.1 rfl (Nat.le_of_ble_eq_true rfl) ⟨(Nat.le_of_ble_eq_true rfl), (Nat.le_of_ble_eq_true rfl)⟩ dX11_ofLayer_25) (fun r25 M25 H locs hR hI => ?_)
      obtain ⟨rfl, rfl⟩ := hR
      refine lv_i2l (v := (nI 0).toInt64) hx hb dX11_ofLayer_28 rfl ?_
      exact hret hI (hr_x (n := 1) (by unfold st_ofLayer; exact (hq_if (fun q => hq_df c20 q.2) ⟨rfl, rfl⟩)) (by decide) (hP1.th (nI 1)) rfl (fun a ha => (va_up_ne _ _ (hP1.f (k := 0) (i := 0) (show 0 < 4 by decide) ha)).trans (fr1 a ha))) (Nat.le_of_ble_eq_true rfl) (Nat.le_of_ble_eq_true rfl) dX11_ofLayer_29

set_option maxHeartbeats 4000000 in
set_option maxRecDepth 100000 in
theorem m_X11_measure (l : Launch) (Z : hw_Z) (M : hw_M) (ad : hp_ad) (S : hs_S) (X : hr_X) (b1 : Nat → Prop) (ka : Int32) (kw : Int32) (hP : hr_ok Z b1 M ad S X) (hV : hv_ok S) (hA : ∀ a, b1 a → M a ≠ none) : Met l yX11_measure (hw_m yX11_measure cX11_measure 3 (some .double)) ({ frames := 8, cells := 2, slots := 90, locals := 250 } : Room) (va_Pc [.ref (ad 0 0), .int ka, .int kw] (hw_P Z M)) (hw_Qd Z (hr_R Z b1 M ad (st_measure S ka kw))) 2 90 (hw_A Z) := by
  refine hw_ofd (by decide +kernel) rfl (Nat.le_of_ble_eq_true rfl) ?_
  intro p e s m below meth c ls Q hx hb hml hown hts hk hnm hI hl hret
  have hB := hV.b
  have hnp := hB.np
  have hnw := hB.nw
  have e0_0hP : M (ad 0 0) = hw_ob 12 [.int (hr_th X), .int (hs_G S 0), .int (hs_G S 1), .ref (ad 0 2), .ref (ad 0 3), .ref (ad 0 1)] := hP.m 0 0 (show 0 < 4 by decide)
  refine lv_aload_n hx hb dX11_measure_0 rfl (lv_at hl 0 rfl) ?_
  refine lv_iconst (v := nI 0) hx hb dX11_measure_1 (by decide) ?_
  refine hw_put (fs' := [.int (nI 0), .int (hs_G S 0), .int (hs_G S 1), .ref (ad 0 2), .ref (ad 0 3), .ref (ad 0 1)]) hx hb hts hown hk hI fp_X11_26 e0_0hP (Nat.le_of_ble_eq_true rfl) rfl rfl rfl dX11_measure_2 (fun H locs hI => ?_)
  obtain ⟨M1, hM1⟩ : ∃ Y : hw_M, Y = va_up M (ad 0 0) (hw_ob 12 [.int (nI 0), .int (hs_G S 0), .int (hs_G S 1), .ref (ad 0 2), .ref (ad 0 3), .ref (ad 0 1)]) := ⟨_, rfl⟩
  replace hI := hI.eq hM1.symm
  obtain ⟨X1, hX1⟩ : ∃ Y : hr_X, Y = (nI 0, X.2) := ⟨_, rfl⟩
  have hP1 : hr_ok Z b1 M1 ad S X1 := by rw [hM1, hX1]; exact hP.th (nI 0)
  have ht1 : hr_th X1 = nI 0 := by rw [hX1]; rfl
  have hgr1 : hr_gr X1 = hr_gr X := by rw [hX1]; rfl
  have hqq1 : hr_qq X1 = hr_qq X := by rw [hX1]; rfl
  have fr1 : ∀ a, b1 a → M1 a = M a := fun a ha => by rw [hM1]; exact va_up_ne _ _ (hP.f (k := 0) (i := 0) (show 0 < 4 by decide) ha)
  have hA1 : ∀ a, b1 a → M1 a ≠ none := fun a ha => by rw [fr1 a ha]; exact hA a ha
  clear hP hX1
  have e0_0hP1 : M1 (ad 0 0) = hw_ob 12 [.int (hr_th X1), .int (hs_G S 0), .int (hs_G S 1), .ref (ad 0 2), .ref (ad 0 3), .ref (ad 0 1)] := hP1.m 0 0 (show 0 < 4 by decide)
  have e0_2hP1 : M1 (ad 0 2) = hw_ob 0 [.int (hr_mc X1 0), .ref (hr_d (hs_np S) Z.2.2.2 (ad 11 0)), .int (nI (hs_np S))] := hP1.m 0 2 (show 2 < 4 by decide)
  refine lv_aload_n hx hb dX11_measure_5 rfl (lv_at hl 0 rfl) ?_
  refine lv_iload_n hx hb dX11_measure_6 rfl (lv_at hl 1 rfl) ?_
  refine hw_ci hI (hw_rV hx hb hml hown hts hk hI (m_X11_isPiece l Z M1 (ad 0 0) (ad 0 2) (ad 0 3) (ad 0 1) (hr_th X1) (hs_G S 0) (hs_G S 1) ka (hr_mc X1 0) (hs_np S) (.ref (hr_d (hs_np S) Z.2.2.2 (ad 11 0))) e0_0hP1 e0_2hP1 (by omega)) cv_X11_55 e0_0hP1 rfl rfl ⟨rfl, rfl⟩ ⟨(Nat.le_of_ble_eq_true rfl), (Nat.le_of_ble_eq_true rfl)⟩ rfl hl.1 rfl (Nat.le_of_ble_eq_true rfl) ⟨(Nat.le_of_ble_eq_true rfl), (Nat.le_of_ble_eq_true rfl)⟩ dX11_measure_7) (fun r7 M7 H locs hR hI => ?_)
  obtain ⟨rfl, rfl⟩ := hR
  refine lv_if_ne (tgt := 20) hx hb dX11_measure_10 (by decide) (fun c10 => ?_) (fun c10 => ?_)
  · have gk := hq_dt c10
    refine lv_iload_n hx hb dX11_measure_20 rfl (lv_at hl 2 rfl) ?_
    refine lv_iconst (v := nI 0) hx hb dX11_measure_21 (by decide) ?_
    refine lv_iconst (v := nI 1) hx hb dX11_measure_22 (by decide) ?_
    refine hw_ci hI (hw_rS hx hb hml hown hts hk hI (m_X11_in l Z M1 kw (nI 0) (nI 1)) cs_X11_40 ⟨rfl, rfl⟩ ⟨(Nat.le_of_ble_eq_true rfl), (Nat.le_of_ble_eq_true rfl)⟩ rfl hl.1 rfl (Nat.le_of_ble_eq_true rfl) ⟨(Nat.le_of_ble_eq_true rfl), (Nat.le_of_ble_eq_true rfl)⟩ dX11_measure_23) (fun r23 M23 H locs hR hI => ?_)
    obtain ⟨rfl, rfl⟩ := hR
    refine hw_ti (congrArg (fun b => nI (Bool.toNat b)) (hb_in_okL (k := kw) (n := 1) (by decide))) ?_
    refine lv_if_ne (tgt := 36) hx hb dX11_measure_26 (by decide) (fun c26 => ?_) (fun c26 => ?_)
    · have gk2 := hq_dt c26
      have hx_kw := hb_okx (by decide) gk2
      have hx_ka := hb_okx (by omega) gk
      have hi_ka : hb_ix ka < hs_np S := hx_ka.1
      have h4_ka : hb_ix ka < 4 := by omega
      have h11 : 0 = 0 ∧ 0 < hs_np S := ⟨rfl, by omega⟩
      have e0_2hP1 : M1 (ad 0 2) = hw_ob 0 [.int (hr_mc X1 0), .ref (ad 11 0), .int (nI (hs_np S))] := by
        have q := hP1.m 0 2 (show 2 < 4 by decide)
        rw [show hr_e Z ad S X1 0 2 = hw_ob 0 [.int (hr_mc X1 0), .ref (hr_d (hs_np S) Z.2.2.2 (ad 11 0)), .int (nI (hs_np S))] from rfl, hr_d0 h11.2] at q
        exact q
      have e11_0hP1 : M1 (ad 11 0) = hw_ar Z 7 10 (hc_f (ad 1) (hs_np S)) := hP1.m 11 0 h11
      have e1_hb_ix_kahP1 : M1 (ad 1 (hb_ix ka)) = hw_ob 9 [.ref (ad 2 (hb_ix ka)), .int (hs_P S (hb_ix ka) 0), .ref (ad 4 (hb_ix ka)), .int (hs_P S (hb_ix ka) 3), .int (hs_P S (hb_ix ka) 4), .int (hs_P S (hb_ix ka) 5), .int (hs_P S (hb_ix ka) 6), .int (hs_P S (hb_ix ka) 7), .int (hs_P S (hb_ix ka) 8)] := hP1.m 1 (hb_ix ka) hi_ka
      have e2_hb_ix_kahP1 : M1 (ad 2 (hb_ix ka)) = hw_ob 11 [.ref (ad 3 (hb_ix ka))] := hP1.m 2 (hb_ix ka) hi_ka
      have e3_hb_ix_kahP1 : M1 (ad 3 (hb_ix ka)) = hw_al Z 8 (hs_C S (hb_ix ka)) := hP1.m 3 (hb_ix ka) hi_ka
      have e4_hb_ix_kahP1 : M1 (ad 4 (hb_ix ka)) = hw_ob 7 [.double (hr_en (hs_P S (hb_ix ka))), .ref (ad 5 (hb_ix ka)), .double (hs_U S (hb_ix ka)), .int (hs_P S (hb_ix ka) 1), .int (hs_P S (hb_ix ka) 2), .int (nI (hs_D S (hb_ix ka)))] := hP1.m 4 (hb_ix ka) hi_ka
      refine lv_iload_n hx hb dX11_measure_36 rfl (lv_at hl 2 rfl) ?_
      refine lv_if_ne (tgt := 59) hx hb dX11_measure_37 (by decide) (fun c37 => ?_) (fun c37 => ?_)
      · refine lv_aload_n hx hb dX11_measure_59 rfl (lv_at hl 0 rfl) ?_
        refine hw_get hx hb hts hown hk hI fd_X11_10 e0_0hP1 rfl dX11_measure_60 ?_
        refine lv_iload_n hx hb dX11_measure_63 rfl (lv_at hl 1 rfl) ?_
        refine hw_ti hx_ka.2 ?_
        refine hw_cFr hI (hw_rF hx hb hml hown hts hk hI (m_Jx4a65c_get_915e3 l Z M1 (ad 0 2) (ad 11 0) (hs_np S) (hb_ix ka) (ad 1 (hb_ix ka)) (hr_mc X1 0) (hc_f (ad 1) (hs_np S)) e0_2hP1 e11_0hP1 hi_ka (by omega) (if_pos hi_ka)) cf_X11_59 e0_2hP1 rfl rfl ⟨rfl, rfl⟩ ⟨(Nat.le_of_ble_eq_true rfl), (Nat.le_of_ble_eq_true rfl)⟩ rfl hl.1 rfl (Nat.le_of_ble_eq_true rfl) ⟨(Nat.le_of_ble_eq_true rfl), (Nat.le_of_ble_eq_true rfl)⟩ dX11_measure_64) (fun r64 M64 H locs hR hI => ?_)
        obtain ⟨rfl, rfl⟩ := hR
        refine hw_cast hx hb hts hown hk hI e1_hb_ix_kahP1 rfl (hw_win (w := .classLink RX11 48 RX8) (by decide +kernel) (by decide +kernel)) dX11_measure_69 ?_
        refine hw_get hx hb hts hown hk hI fd_X11_148 e1_hb_ix_kahP1 rfl dX11_measure_72 ?_
        refine hw_get hx hb hts hown hk hI fd_X11_173 e4_hb_ix_kahP1 rfl dX11_measure_75 ?_
        have hw0 : hb_ix kw = 1 := by have h2 := hx_kw.1; have h3 : ¬ hb_ix kw = 0 := fun q => c37 (by rw [hx_kw.2, q]; rfl); omega
        have hok : hr_ok Z b1 (M1) ad (S) (X1) := by
          refine hr_old hP1 (fun _ _ hi => hi) ?_ hP1.q hP1.g
          intro k i hi
          rcases k with _ | _ | _ | _ | _ | _ | _ | _ | _ | _ | _ | _ | _ | k
          · rcases (show i = 0 ∨ i = 1 ∨ i = 2 ∨ i = 3 by have h4 : i < 4 := hi; omega) with rfl | rfl | rfl | rfl
            · show (M1) (ad 0 0) = hw_ob 12 [.int (hr_th X1), .int (hs_G S 0), .int (hs_G S 1), .ref (ad 0 2), .ref (ad 0 3), .ref (ad 0 1)]
              refine (hP1.m 0 0 (show 0 < 4 by decide)).trans ?_
              first | rfl | (simp only [va_up_self]; done) | (simp only [va_up_self]; rfl)
            · show (M1) (ad 0 1) = hw_ar Z 6 2 (fun j => some (ad 7 j))
              refine (hP1.m 0 1 (show 1 < 4 by decide)).trans ?_
              first | rfl | (simp only [va_up_self]; done) | (simp only [va_up_self]; rfl)
            · show (M1) (ad 0 2) = hw_ob 0 [.int (hr_mc X1 0), .ref (hr_d (hs_np S) Z.2.2.2 (ad 11 0)), .int (nI (hs_np S))]
              refine (hP1.m 0 2 (show 2 < 4 by decide)).trans ?_
              first | rfl | (simp only [va_up_self]; done) | (simp only [va_up_self]; rfl)
            · show (M1) (ad 0 3) = hw_ob 0 [.int (hr_mc X1 1), .ref (hr_d (hs_nw S) Z.2.2.2 (ad 12 0)), .int (nI (hs_nw S))]
              refine (hP1.m 0 3 (show 3 < 4 by decide)).trans ?_
              first | rfl | (simp only [va_up_self]; done) | (simp only [va_up_self]; rfl)
          · show (M1) (ad 1 i) = hw_ob 9 [.ref (ad 2 i), .int (hs_P S i 0), .ref (ad 4 i), .int (hs_P S i 3), .int (hs_P S i 4), .int (hs_P S i 5), .int (hs_P S i 6), .int (hs_P S i 7), .int (hs_P S i 8)]
            refine (hP1.m 1 i hi).trans ?_
            first | rfl
          · show (M1) (ad 2 i) = hw_ob 11 [.ref (ad 3 i)]
            refine (hP1.m 2 i hi).trans ?_
            first | rfl
          · show (M1) (ad 3 i) = hw_al Z 8 (hs_C S i)
            refine (hP1.m 3 i hi).trans ?_
            first | rfl
          · show (M1) (ad 4 i) = hw_ob 7 [.double (hr_en (hs_P S i)), .ref (ad 5 i), .double (hs_U S i), .int (hs_P S i 1), .int (hs_P S i 2), .int (nI (hs_D S i))]
            refine (hP1.m 4 i hi).trans ?_
            first | rfl
          · show (M1) (ad 5 i) = hw_ad Z 64 (hs_W S i)
            refine (hP1.m 5 i hi).trans ?_
            first | rfl
          · show (M1) (ad 6 i) = hw_ob 10 [.int (hs_V S i 0), .int (hs_V S i 1), .int (hs_V S i 2), .int (hs_V S i 3), .int (hs_V S i 4)]
            refine (hP1.m 6 i hi).trans ?_
            first | rfl
          · show (M1) (ad 7 i) = hw_ob 8 [.int (hs_M S i 0), .int (hs_M S i 1), .int (hs_M S i 2), .int (hs_M S i 3), .ref (ad 8 i)]
            refine (hP1.m 7 i hi).trans ?_
            first | rfl
          · show (M1) (ad 8 i) = hw_ob 0 [.int (hr_mc X1 (2 + i)), .ref (if hr_gr X1 i then ad 9 i else Z.2.2.2), .int (nI (hs_N S i))]
            refine (hP1.m 8 i hi).trans ?_
            first | rfl
          · show (M1) (ad 9 i) = hw_ar Z 7 10 (hc_f (fun j => ad 10 (i + 2 * j)) (hs_N S i))
            refine (hP1.m 9 i hi).trans ?_
            first | rfl
          · show (M1) (ad 10 i) = hw_ai Z 3 (hr_qq X1 (i % 2) (i / 2))
            refine (hP1.m 10 i hi).trans ?_
            first | rfl
          · show (M1) (ad 11 i) = hw_ar Z 7 10 (hc_f (ad 1) (hs_np S))
            refine (hP1.m 11 i hi).trans ?_
            first | rfl
          · show (M1) (ad 12 i) = hw_ar Z 7 10 (hc_f (ad 6) (hs_nw S))
            refine (hP1.m 12 i hi).trans ?_
            first | rfl
          · exact hi.elim
        have fr_hok : ∀ a, b1 a → (M1) a = M a := fun a ha => fr1 a ha
        have hfin : hr_R Z b1 M ad (st_measure S ka kw) (hs_U S (hb_ix ka)) (M1) := hr_r (S' := S) (X' := X1) (ad' := ad) (by unfold st_measure; rw [hw0]; exact (if_neg (fun q => q gk)).trans ((if_neg (fun q => q gk2)).trans rfl)) rfl hok ht1 fr_hok
        exact hret hI hfin (Nat.le_of_ble_eq_true rfl) (Nat.le_of_ble_eq_true rfl) dX11_measure_78
      · refine lv_aload_n hx hb dX11_measure_40 rfl (lv_at hl 0 rfl) ?_
        refine hw_get hx hb hts hown hk hI fd_X11_10 e0_0hP1 rfl dX11_measure_41 ?_
        refine lv_iload_n hx hb dX11_measure_44 rfl (lv_at hl 1 rfl) ?_
        refine hw_ti hx_ka.2 ?_
        refine hw_cFr hI (hw_rF hx hb hml hown hts hk hI (m_Jx4a65c_get_915e3 l Z M1 (ad 0 2) (ad 11 0) (hs_np S) (hb_ix ka) (ad 1 (hb_ix ka)) (hr_mc X1 0) (hc_f (ad 1) (hs_np S)) e0_2hP1 e11_0hP1 hi_ka (by omega) (if_pos hi_ka)) cf_X11_59 e0_2hP1 rfl rfl ⟨rfl, rfl⟩ ⟨(Nat.le_of_ble_eq_true rfl), (Nat.le_of_ble_eq_true rfl)⟩ rfl hl.1 rfl (Nat.le_of_ble_eq_true rfl) ⟨(Nat.le_of_ble_eq_true rfl), (Nat.le_of_ble_eq_true rfl)⟩ dX11_measure_45) (fun r45 M45 H locs hR hI => ?_)
        obtain ⟨rfl, rfl⟩ := hR
        refine hw_cast hx hb hts hown hk hI e1_hb_ix_kahP1 rfl (hw_win (w := .classLink RX11 48 RX8) (by decide +kernel) (by decide +kernel)) dX11_measure_50 ?_
        refine hw_cd hI (hw_rV hx hb hml hown hts hk hI (m_X8_density l Z M1 (ad 1 (hb_ix ka)) (ad 2 (hb_ix ka)) (ad 3 (hb_ix ka)) (ad 4 (hb_ix ka)) (ad 5 (hb_ix ka)) (hs_D S (hb_ix ka)) (hs_P S (hb_ix ka) 0) (hs_P S (hb_ix ka) 3) (hs_P S (hb_ix ka) 4) (hs_P S (hb_ix ka) 5) (hs_P S (hb_ix ka) 6) (hs_P S (hb_ix ka) 7) (hs_P S (hb_ix ka) 8) (hs_P S (hb_ix ka) 1) (hs_P S (hb_ix ka) 2) (hr_en (hs_P S (hb_ix ka))) (hs_U S (hb_ix ka)) (hs_C S (hb_ix ka)) e1_hb_ix_kahP1 e2_hb_ix_kahP1 e3_hb_ix_kahP1 e4_hb_ix_kahP1) cv_X11_192 e1_hb_ix_kahP1 rfl rfl ⟨rfl, rfl⟩ ⟨(Nat.le_of_ble_eq_true rfl), (Nat.le_of_ble_eq_true rfl)⟩ rfl hl.1 rfl (Nat.le_of_ble_eq_true rfl) ⟨(Nat.le_of_ble_eq_true rfl), (Nat.le_of_ble_eq_true rfl)⟩ dX11_measure_53) (fun r53 M53 H locs hR hI => ?_)
        obtain ⟨rfl, rfl⟩ := hR
        refine lv_goto (tgt := 78) hx hb dX11_measure_56 (by decide) ?_
        have hw0 : hb_ix kw = 0 := by rw [c37]; decide
        have hok : hr_ok Z b1 (M1) ad (S) (X1) := by
          refine hr_old hP1 (fun _ _ hi => hi) ?_ hP1.q hP1.g
          intro k i hi
          rcases k with _ | _ | _ | _ | _ | _ | _ | _ | _ | _ | _ | _ | _ | k
          · rcases (show i = 0 ∨ i = 1 ∨ i = 2 ∨ i = 3 by have h4 : i < 4 := hi; omega) with rfl | rfl | rfl | rfl
            · show (M1) (ad 0 0) = hw_ob 12 [.int (hr_th X1), .int (hs_G S 0), .int (hs_G S 1), .ref (ad 0 2), .ref (ad 0 3), .ref (ad 0 1)]
              refine (hP1.m 0 0 (show 0 < 4 by decide)).trans ?_
              first | rfl | (simp only [va_up_self]; done) | (simp only [va_up_self]; rfl)
            · show (M1) (ad 0 1) = hw_ar Z 6 2 (fun j => some (ad 7 j))
              refine (hP1.m 0 1 (show 1 < 4 by decide)).trans ?_
              first | rfl | (simp only [va_up_self]; done) | (simp only [va_up_self]; rfl)
            · show (M1) (ad 0 2) = hw_ob 0 [.int (hr_mc X1 0), .ref (hr_d (hs_np S) Z.2.2.2 (ad 11 0)), .int (nI (hs_np S))]
              refine (hP1.m 0 2 (show 2 < 4 by decide)).trans ?_
              first | rfl | (simp only [va_up_self]; done) | (simp only [va_up_self]; rfl)
            · show (M1) (ad 0 3) = hw_ob 0 [.int (hr_mc X1 1), .ref (hr_d (hs_nw S) Z.2.2.2 (ad 12 0)), .int (nI (hs_nw S))]
              refine (hP1.m 0 3 (show 3 < 4 by decide)).trans ?_
              first | rfl | (simp only [va_up_self]; done) | (simp only [va_up_self]; rfl)
          · show (M1) (ad 1 i) = hw_ob 9 [.ref (ad 2 i), .int (hs_P S i 0), .ref (ad 4 i), .int (hs_P S i 3), .int (hs_P S i 4), .int (hs_P S i 5), .int (hs_P S i 6), .int (hs_P S i 7), .int (hs_P S i 8)]
            refine (hP1.m 1 i hi).trans ?_
            first | rfl
          · show (M1) (ad 2 i) = hw_ob 11 [.ref (ad 3 i)]
            refine (hP1.m 2 i hi).trans ?_
            first | rfl
          · show (M1) (ad 3 i) = hw_al Z 8 (hs_C S i)
            refine (hP1.m 3 i hi).trans ?_
            first | rfl
          · show (M1) (ad 4 i) = hw_ob 7 [.double (hr_en (hs_P S i)), .ref (ad 5 i), .double (hs_U S i), .int (hs_P S i 1), .int (hs_P S i 2), .int (nI (hs_D S i))]
            refine (hP1.m 4 i hi).trans ?_
            first | rfl
          · show (M1) (ad 5 i) = hw_ad Z 64 (hs_W S i)
            refine (hP1.m 5 i hi).trans ?_
            first | rfl
          · show (M1) (ad 6 i) = hw_ob 10 [.int (hs_V S i 0), .int (hs_V S i 1), .int (hs_V S i 2), .int (hs_V S i 3), .int (hs_V S i 4)]
            refine (hP1.m 6 i hi).trans ?_
            first | rfl
          · show (M1) (ad 7 i) = hw_ob 8 [.int (hs_M S i 0), .int (hs_M S i 1), .int (hs_M S i 2), .int (hs_M S i 3), .ref (ad 8 i)]
            refine (hP1.m 7 i hi).trans ?_
            first | rfl
          · show (M1) (ad 8 i) = hw_ob 0 [.int (hr_mc X1 (2 + i)), .ref (if hr_gr X1 i then ad 9 i else Z.2.2.2), .int (nI (hs_N S i))]
            refine (hP1.m 8 i hi).trans ?_
            first | rfl
          · show (M1) (ad 9 i) = hw_ar Z 7 10 (hc_f (fun j => ad 10 (i + 2 * j)) (hs_N S i))
            refine (hP1.m 9 i hi).trans ?_
            first | rfl
          · show (M1) (ad 10 i) = hw_ai Z 3 (hr_qq X1 (i % 2) (i / 2))
            refine (hP1.m 10 i hi).trans ?_
            first | rfl
          · show (M1) (ad 11 i) = hw_ar Z 7 10 (hc_f (ad 1) (hs_np S))
            refine (hP1.m 11 i hi).trans ?_
            first | rfl
          · show (M1) (ad 12 i) = hw_ar Z 7 10 (hc_f (ad 6) (hs_nw S))
            refine (hP1.m 12 i hi).trans ?_
            first | rfl
          · exact hi.elim
        have fr_hok : ∀ a, b1 a → (M1) a = M a := fun a ha => fr1 a ha
        have hfin : hr_R Z b1 M ad (st_measure S ka kw) (hb_dens (hs_P S (hb_ix ka) 1) (hs_P S (hb_ix ka) 2) (nI (hb_sm (fun k => hb_pc ((hs_C S (hb_ix ka)) k)) 8))) (M1) := hr_r (S' := S) (X' := X1) (ad' := ad) (by unfold st_measure; rw [hw0]; exact (if_neg (fun q => q gk)).trans ((if_neg (fun q => q gk2)).trans rfl)) rfl hok ht1 fr_hok
        exact hret hI hfin (Nat.le_of_ble_eq_true rfl) (Nat.le_of_ble_eq_true rfl) dX11_measure_78
    · refine lv_aload_n hx hb dX11_measure_29 rfl (lv_at hl 0 rfl) ?_
      refine lv_iconst (v := nI 2) hx hb dX11_measure_30 (by decide) ?_
      refine hw_ci hI (hw_rV hx hb hml hown hts hk hI (m_X11_no l Z M1 (ad 0 0) (ad 0 2) (ad 0 3) (ad 0 1) (hr_th X1) (hs_G S 0) (hs_G S 1) (nI 2) e0_0hP1) cv_X11_44 e0_0hP1 rfl rfl ⟨rfl, rfl⟩ ⟨(Nat.le_of_ble_eq_true rfl), (Nat.le_of_ble_eq_true rfl)⟩ rfl hl.1 rfl (Nat.le_of_ble_eq_true rfl) ⟨(Nat.le_of_ble_eq_true rfl), (Nat.le_of_ble_eq_true rfl)⟩ dX11_measure_31) (fun r31 M31 H locs hR hI => ?_)
      obtain ⟨rfl, rfl⟩ := hR
      refine lv_i2d hx hb dX11_measure_34 ?_
      exact hret hI (hr_x (n := 2) (by unfold st_measure; exact (hq_el (fun q => q gk) (hq_if (hq_df c26) ⟨rfl, rfl⟩))) (by decide) (hP1.th (nI 2)) rfl (fun a ha => (va_up_ne _ _ (hP1.f (k := 0) (i := 0) (show 0 < 4 by decide) ha)).trans (fr1 a ha))) (Nat.le_of_ble_eq_true rfl) (Nat.le_of_ble_eq_true rfl) dX11_measure_35
  · refine lv_aload_n hx hb dX11_measure_13 rfl (lv_at hl 0 rfl) ?_
    refine lv_iconst (v := nI 1) hx hb dX11_measure_14 (by decide) ?_
    refine hw_ci hI (hw_rV hx hb hml hown hts hk hI (m_X11_no l Z M1 (ad 0 0) (ad 0 2) (ad 0 3) (ad 0 1) (hr_th X1) (hs_G S 0) (hs_G S 1) (nI 1) e0_0hP1) cv_X11_44 e0_0hP1 rfl rfl ⟨rfl, rfl⟩ ⟨(Nat.le_of_ble_eq_true rfl), (Nat.le_of_ble_eq_true rfl)⟩ rfl hl.1 rfl (Nat.le_of_ble_eq_true rfl) ⟨(Nat.le_of_ble_eq_true rfl), (Nat.le_of_ble_eq_true rfl)⟩ dX11_measure_15) (fun r15 M15 H locs hR hI => ?_)
    obtain ⟨rfl, rfl⟩ := hR
    refine lv_i2d hx hb dX11_measure_18 ?_
    exact hret hI (hr_x (n := 1) (by unfold st_measure; exact (hq_if (hq_df c10) ⟨rfl, rfl⟩)) (by decide) (hP1.th (nI 1)) rfl (fun a ha => (va_up_ne _ _ (hP1.f (k := 0) (i := 0) (show 0 < 4 by decide) ha)).trans (fr1 a ha))) (Nat.le_of_ble_eq_true rfl) (Nat.le_of_ble_eq_true rfl) dX11_measure_19

set_option maxHeartbeats 4000000 in
set_option maxRecDepth 100000 in
theorem m_X11_warm (l : Launch) (Z : hw_Z) (M : hw_M) (ad : hp_ad) (S : hs_S) (X : hr_X) (b1 : Nat → Prop) (ka : Int32) (kb : Int32) (kc : Int32) (hP : hr_ok Z b1 M ad S X) (hV : hv_ok S) (hA : ∀ a, b1 a → M a ≠ none) : Met l yX11_warm (hw_m yX11_warm cX11_warm 4 (some .double)) ({ frames := 8, cells := 2, slots := 90, locals := 250 } : Room) (va_Pc [.ref (ad 0 0), .int ka, .int kb, .int kc] (hw_P Z M)) (hw_Qd Z (hr_R Z b1 M ad (st_warm S ka kb kc))) 2 90 (hw_A Z) := by
  refine hw_ofd (by decide +kernel) rfl (Nat.le_of_ble_eq_true rfl) ?_
  intro p e s m below meth c ls Q hx hb hml hown hts hk hnm hI hl hret
  have hB := hV.b
  have hnp := hB.np
  have hnw := hB.nw
  have e0_0hP : M (ad 0 0) = hw_ob 12 [.int (hr_th X), .int (hs_G S 0), .int (hs_G S 1), .ref (ad 0 2), .ref (ad 0 3), .ref (ad 0 1)] := hP.m 0 0 (show 0 < 4 by decide)
  refine lv_aload_n hx hb dX11_warm_0 rfl (lv_at hl 0 rfl) ?_
  refine lv_iconst (v := nI 0) hx hb dX11_warm_1 (by decide) ?_
  refine hw_put (fs' := [.int (nI 0), .int (hs_G S 0), .int (hs_G S 1), .ref (ad 0 2), .ref (ad 0 3), .ref (ad 0 1)]) hx hb hts hown hk hI fp_X11_26 e0_0hP (Nat.le_of_ble_eq_true rfl) rfl rfl rfl dX11_warm_2 (fun H locs hI => ?_)
  obtain ⟨M1, hM1⟩ : ∃ Y : hw_M, Y = va_up M (ad 0 0) (hw_ob 12 [.int (nI 0), .int (hs_G S 0), .int (hs_G S 1), .ref (ad 0 2), .ref (ad 0 3), .ref (ad 0 1)]) := ⟨_, rfl⟩
  replace hI := hI.eq hM1.symm
  obtain ⟨X1, hX1⟩ : ∃ Y : hr_X, Y = (nI 0, X.2) := ⟨_, rfl⟩
  have hP1 : hr_ok Z b1 M1 ad S X1 := by rw [hM1, hX1]; exact hP.th (nI 0)
  have ht1 : hr_th X1 = nI 0 := by rw [hX1]; rfl
  have hgr1 : hr_gr X1 = hr_gr X := by rw [hX1]; rfl
  have hqq1 : hr_qq X1 = hr_qq X := by rw [hX1]; rfl
  have fr1 : ∀ a, b1 a → M1 a = M a := fun a ha => by rw [hM1]; exact va_up_ne _ _ (hP.f (k := 0) (i := 0) (show 0 < 4 by decide) ha)
  have hA1 : ∀ a, b1 a → M1 a ≠ none := fun a ha => by rw [fr1 a ha]; exact hA a ha
  clear hP hX1
  have e0_0hP1 : M1 (ad 0 0) = hw_ob 12 [.int (hr_th X1), .int (hs_G S 0), .int (hs_G S 1), .ref (ad 0 2), .ref (ad 0 3), .ref (ad 0 1)] := hP1.m 0 0 (show 0 < 4 by decide)
  refine lv_iload_n hx hb dX11_warm_5 rfl (lv_at hl 1 rfl) ?_
  refine hw_ci hI (hw_rS hx hb hml hown hts hk hI (m_X11_isMachine l Z M1 ka) cs_X11_115 ⟨rfl, rfl⟩ ⟨(Nat.le_of_ble_eq_true rfl), (Nat.le_of_ble_eq_true rfl)⟩ rfl hl.1 rfl (Nat.le_of_ble_eq_true rfl) ⟨(Nat.le_of_ble_eq_true rfl), (Nat.le_of_ble_eq_true rfl)⟩ dX11_warm_6) (fun r6 M6 H locs hR hI => ?_)
  obtain ⟨rfl, rfl⟩ := hR
  refine lv_if_eq (tgt := 32) hx hb dX11_warm_9 (by decide) (fun c9 => ?_) (fun c9 => ?_)
  · refine lv_aload_n hx hb dX11_warm_32 rfl (lv_at hl 0 rfl) ?_
    refine lv_iconst (v := nI 1) hx hb dX11_warm_33 (by decide) ?_
    refine hw_ci hI (hw_rV hx hb hml hown hts hk hI (m_X11_no l Z M1 (ad 0 0) (ad 0 2) (ad 0 3) (ad 0 1) (hr_th X1) (hs_G S 0) (hs_G S 1) (nI 1) e0_0hP1) cv_X11_44 e0_0hP1 rfl rfl ⟨rfl, rfl⟩ ⟨(Nat.le_of_ble_eq_true rfl), (Nat.le_of_ble_eq_true rfl)⟩ rfl hl.1 rfl (Nat.le_of_ble_eq_true rfl) ⟨(Nat.le_of_ble_eq_true rfl), (Nat.le_of_ble_eq_true rfl)⟩ dX11_warm_34) (fun r34 M34 H locs hR hI => ?_)
    obtain ⟨rfl, rfl⟩ := hR
    refine lv_i2d hx hb dX11_warm_37 ?_
    exact hret hI (hr_x (n := 1) (by unfold st_warm; exact (hq_if (fun q => hq_df c9 q.1) ⟨rfl, rfl⟩)) (by decide) (hP1.th (nI 1)) rfl (fun a ha => (va_up_ne _ _ (hP1.f (k := 0) (i := 0) (show 0 < 4 by decide) ha)).trans (fr1 a ha))) (Nat.le_of_ble_eq_true rfl) (Nat.le_of_ble_eq_true rfl) dX11_warm_38
  · refine lv_iload_n hx hb dX11_warm_12 rfl (lv_at hl 2 rfl) ?_
    refine lv_iconst (v := nI 0) hx hb dX11_warm_13 (by decide) ?_
    refine lv_bipush (v := nI 7) hx hb dX11_warm_14 (by decide) ?_
    refine hw_ci hI (hw_rS hx hb hml hown hts hk hI (m_X11_in l Z M1 kb (nI 0) (nI 7)) cs_X11_40 ⟨rfl, rfl⟩ ⟨(Nat.le_of_ble_eq_true rfl), (Nat.le_of_ble_eq_true rfl)⟩ rfl hl.1 rfl (Nat.le_of_ble_eq_true rfl) ⟨(Nat.le_of_ble_eq_true rfl), (Nat.le_of_ble_eq_true rfl)⟩ dX11_warm_16) (fun r16 M16 H locs hR hI => ?_)
    obtain ⟨rfl, rfl⟩ := hR
    refine hw_ti (congrArg (fun b => nI (Bool.toNat b)) (hb_in_okL (k := kb) (n := 7) (by decide))) ?_
    refine lv_if_eq (tgt := 32) hx hb dX11_warm_19 (by decide) (fun c19 => ?_) (fun c19 => ?_)
    · refine lv_aload_n hx hb dX11_warm_32 rfl (lv_at hl 0 rfl) ?_
      refine lv_iconst (v := nI 1) hx hb dX11_warm_33 (by decide) ?_
      refine hw_ci hI (hw_rV hx hb hml hown hts hk hI (m_X11_no l Z M1 (ad 0 0) (ad 0 2) (ad 0 3) (ad 0 1) (hr_th X1) (hs_G S 0) (hs_G S 1) (nI 1) e0_0hP1) cv_X11_44 e0_0hP1 rfl rfl ⟨rfl, rfl⟩ ⟨(Nat.le_of_ble_eq_true rfl), (Nat.le_of_ble_eq_true rfl)⟩ rfl hl.1 rfl (Nat.le_of_ble_eq_true rfl) ⟨(Nat.le_of_ble_eq_true rfl), (Nat.le_of_ble_eq_true rfl)⟩ dX11_warm_34) (fun r34 M34 H locs hR hI => ?_)
      obtain ⟨rfl, rfl⟩ := hR
      refine lv_i2d hx hb dX11_warm_37 ?_
      exact hret hI (hr_x (n := 1) (by unfold st_warm; exact (hq_if (fun q => hq_df c19 q.2.1) ⟨rfl, rfl⟩)) (by decide) (hP1.th (nI 1)) rfl (fun a ha => (va_up_ne _ _ (hP1.f (k := 0) (i := 0) (show 0 < 4 by decide) ha)).trans (fr1 a ha))) (Nat.le_of_ble_eq_true rfl) (Nat.le_of_ble_eq_true rfl) dX11_warm_38
    · refine lv_iload_n hx hb dX11_warm_22 rfl (lv_at hl 3 rfl) ?_
      refine lv_iconst (v := nI 0) hx hb dX11_warm_23 (by decide) ?_
      refine lv_bipush (v := nI 7) hx hb dX11_warm_24 (by decide) ?_
      refine hw_ci hI (hw_rS hx hb hml hown hts hk hI (m_X11_in l Z M1 kc (nI 0) (nI 7)) cs_X11_40 ⟨rfl, rfl⟩ ⟨(Nat.le_of_ble_eq_true rfl), (Nat.le_of_ble_eq_true rfl)⟩ rfl hl.1 rfl (Nat.le_of_ble_eq_true rfl) ⟨(Nat.le_of_ble_eq_true rfl), (Nat.le_of_ble_eq_true rfl)⟩ dX11_warm_26) (fun r26 M26 H locs hR hI => ?_)
      obtain ⟨rfl, rfl⟩ := hR
      refine hw_ti (congrArg (fun b => nI (Bool.toNat b)) (hb_in_okL (k := kc) (n := 7) (by decide))) ?_
      refine lv_if_ne (tgt := 39) hx hb dX11_warm_29 (by decide) (fun c29 => ?_) (fun c29 => ?_)
      · have gk := hq_dt c9
        have gk2 := hq_dt c19
        have gk3 := hq_dt c29
        have hx_kb := hb_okx (by decide) gk2
        have hx_kc := hb_okx (by decide) gk3
        have hx_ka := hb_okx (by decide) gk
        have hi_ka : hb_ix ka < 2 := hx_ka.1
        have e0_1hP1 : M1 (ad 0 1) = hw_ar Z 6 2 (fun j => some (ad 7 j)) := hP1.m 0 1 (show 1 < 4 by decide)
        have e7_hb_ix_kahP1 : M1 (ad 7 (hb_ix ka)) = hw_ob 8 [.int (hs_M S (hb_ix ka) 0), .int (hs_M S (hb_ix ka) 1), .int (hs_M S (hb_ix ka) 2), .int (hs_M S (hb_ix ka) 3), .ref (ad 8 (hb_ix ka))] := hP1.m 7 (hb_ix ka) hi_ka
        refine lv_aload_n hx hb dX11_warm_39 rfl (lv_at hl 0 rfl) ?_
        refine hw_get hx hb hts hown hk hI fd_X11_22 e0_0hP1 rfl dX11_warm_40 ?_
        refine lv_iload_n hx hb dX11_warm_43 rfl (lv_at hl 1 rfl) ?_
        refine hw_aald hx hb hk hI 6 (v := .ref (ad 7 (hb_ix ka))) e0_1hP1 rfl (j := hb_ix ka) hx_ka.2 hi_ka (by decide) rfl dX11_warm_44 ?_
        refine hw_get hx hb hts hown hk hI fd_X11_127 e7_hb_ix_kahP1 rfl dX11_warm_45 ?_
        refine lv_iconst (v := (-1)) hx hb dX11_warm_48 (by decide) ?_
        refine lv_icmp_ne (tgt := 56) hx hb dX11_warm_49 (by decide) (fun c49 => ?_) (fun c49 => ?_)
        · have gg := hV.mg hi_ka c49
          have hxg := hb_okx (by omega) gg.1
          have hig : hb_ix (hs_M S (hb_ix ka) 3) < hs_np S := hxg.1
          have hig4 : hb_ix (hs_M S (hb_ix ka) 3) < 4 := by omega
          have h11 : 0 = 0 ∧ 0 < hs_np S := ⟨rfl, by omega⟩
          have e0_2hP1 : M1 (ad 0 2) = hw_ob 0 [.int (hr_mc X1 0), .ref (ad 11 0), .int (nI (hs_np S))] := by
            have q := hP1.m 0 2 (show 2 < 4 by decide)
            rw [show hr_e Z ad S X1 0 2 = hw_ob 0 [.int (hr_mc X1 0), .ref (hr_d (hs_np S) Z.2.2.2 (ad 11 0)), .int (nI (hs_np S))] from rfl, hr_d0 h11.2] at q
            exact q
          have e11_0hP1 : M1 (ad 11 0) = hw_ar Z 7 10 (hc_f (ad 1) (hs_np S)) := hP1.m 11 0 h11
          have e1_hb_ix_hs_M_S_hb_ix_ka_3hP1 : M1 (ad 1 (hb_ix (hs_M S (hb_ix ka) 3))) = hw_ob 9 [.ref (ad 2 (hb_ix (hs_M S (hb_ix ka) 3))), .int (hs_P S (hb_ix (hs_M S (hb_ix ka) 3)) 0), .ref (ad 4 (hb_ix (hs_M S (hb_ix ka) 3))), .int (hs_P S (hb_ix (hs_M S (hb_ix ka) 3)) 3), .int (hs_P S (hb_ix (hs_M S (hb_ix ka) 3)) 4), .int (hs_P S (hb_ix (hs_M S (hb_ix ka) 3)) 5), .int (hs_P S (hb_ix (hs_M S (hb_ix ka) 3)) 6), .int (hs_P S (hb_ix (hs_M S (hb_ix ka) 3)) 7), .int (hs_P S (hb_ix (hs_M S (hb_ix ka) 3)) 8)] := hP1.m 1 (hb_ix (hs_M S (hb_ix ka) 3)) hig
          have e4_hb_ix_hs_M_S_hb_ix_ka_3hP1 : M1 (ad 4 (hb_ix (hs_M S (hb_ix ka) 3))) = hw_ob 7 [.double (hr_en (hs_P S (hb_ix (hs_M S (hb_ix ka) 3)))), .ref (ad 5 (hb_ix (hs_M S (hb_ix ka) 3))), .double (hs_U S (hb_ix (hs_M S (hb_ix ka) 3))), .int (hs_P S (hb_ix (hs_M S (hb_ix ka) 3)) 1), .int (hs_P S (hb_ix (hs_M S (hb_ix ka) 3)) 2), .int (nI (hs_D S (hb_ix (hs_M S (hb_ix ka) 3))))] := hP1.m 4 (hb_ix (hs_M S (hb_ix ka) 3)) hig
          have e5_hb_ix_hs_M_S_hb_ix_ka_3hP1 : M1 (ad 5 (hb_ix (hs_M S (hb_ix ka) 3))) = hw_ad Z 64 (hs_W S (hb_ix (hs_M S (hb_ix ka) 3))) := hP1.m 5 (hb_ix (hs_M S (hb_ix ka) 3)) hig
          refine lv_aload_n hx hb dX11_warm_56 rfl (lv_at hl 0 rfl) ?_
          refine hw_get hx hb hts hown hk hI fd_X11_10 e0_0hP1 rfl dX11_warm_57 ?_
          refine lv_aload_n hx hb dX11_warm_60 rfl (lv_at hl 0 rfl) ?_
          refine hw_get hx hb hts hown hk hI fd_X11_22 e0_0hP1 rfl dX11_warm_61 ?_
          refine lv_iload_n hx hb dX11_warm_64 rfl (lv_at hl 1 rfl) ?_
          refine hw_aald hx hb hk hI 6 (v := .ref (ad 7 (hb_ix ka))) e0_1hP1 rfl (j := hb_ix ka) hx_ka.2 hi_ka (by decide) rfl dX11_warm_65 ?_
          refine hw_get hx hb hts hown hk hI fd_X11_127 e7_hb_ix_kahP1 rfl dX11_warm_66 ?_
          refine hw_ti hxg.2 ?_
          refine hw_cFr hI (hw_rF hx hb hml hown hts hk hI (m_Jx4a65c_get_915e3 l Z M1 (ad 0 2) (ad 11 0) (hs_np S) (hb_ix (hs_M S (hb_ix ka) 3)) (ad 1 (hb_ix (hs_M S (hb_ix ka) 3))) (hr_mc X1 0) (hc_f (ad 1) (hs_np S)) e0_2hP1 e11_0hP1 hig (by omega) (if_pos hig)) cf_X11_59 e0_2hP1 rfl rfl ⟨rfl, rfl⟩ ⟨(Nat.le_of_ble_eq_true rfl), (Nat.le_of_ble_eq_true rfl)⟩ rfl hl.1 rfl (Nat.le_of_ble_eq_true rfl) ⟨(Nat.le_of_ble_eq_true rfl), (Nat.le_of_ble_eq_true rfl)⟩ dX11_warm_69) (fun r69 M69 H locs hR hI => ?_)
          obtain ⟨rfl, rfl⟩ := hR
          refine hw_cast hx hb hts hown hk hI e1_hb_ix_hs_M_S_hb_ix_ka_3hP1 rfl (hw_win (w := .classLink RX11 48 RX8) (by decide +kernel) (by decide +kernel)) dX11_warm_74 ?_
          refine hw_get hx hb hts hown hk hI fd_X11_148 e1_hb_ix_hs_M_S_hb_ix_ka_3hP1 rfl dX11_warm_77 ?_
          refine hw_get hx hb hts hown hk hI fd_X11_182 e4_hb_ix_hs_M_S_hb_ix_ka_3hP1 rfl dX11_warm_80 ?_
          refine lv_iload_n hx hb dX11_warm_83 rfl (lv_at hl 2 rfl) ?_
          refine hw_ti hx_kb.2 ?_
          refine lv_bipush (v := nI 8) hx hb dX11_warm_84 (by decide) ?_
          refine lv_iload_n hx hb dX11_warm_86 rfl (lv_at hl 3 rfl) ?_
          refine hw_ti hx_kc.2 ?_
          refine lv_imul hx hb dX11_warm_87 ?_
          refine hw_ti (pk_mul _ _) ?_
          refine lv_iadd hx hb dX11_warm_88 ?_
          refine hw_ti (nI_add _ _) ?_
          refine hw_dald hx hb hk hI e5_hb_ix_hs_M_S_hb_ix_ka_3hP1 (j := ((hb_ix kb) + (8 * (hb_ix kc)))) rfl (by omega) (by decide) dX11_warm_89 ?_
          have hok : hr_ok Z b1 (M1) ad (S) (X1) := by
            refine hr_old hP1 (fun _ _ hi => hi) ?_ hP1.q hP1.g
            intro k i hi
            rcases k with _ | _ | _ | _ | _ | _ | _ | _ | _ | _ | _ | _ | _ | k
            · rcases (show i = 0 ∨ i = 1 ∨ i = 2 ∨ i = 3 by have h4 : i < 4 := hi; omega) with rfl | rfl | rfl | rfl
              · show (M1) (ad 0 0) = hw_ob 12 [.int (hr_th X1), .int (hs_G S 0), .int (hs_G S 1), .ref (ad 0 2), .ref (ad 0 3), .ref (ad 0 1)]
                refine (hP1.m 0 0 (show 0 < 4 by decide)).trans ?_
                first | rfl | (simp only [va_up_self]; done) | (simp only [va_up_self]; rfl)
              · show (M1) (ad 0 1) = hw_ar Z 6 2 (fun j => some (ad 7 j))
                refine (hP1.m 0 1 (show 1 < 4 by decide)).trans ?_
                first | rfl | (simp only [va_up_self]; done) | (simp only [va_up_self]; rfl)
              · show (M1) (ad 0 2) = hw_ob 0 [.int (hr_mc X1 0), .ref (hr_d (hs_np S) Z.2.2.2 (ad 11 0)), .int (nI (hs_np S))]
                refine (hP1.m 0 2 (show 2 < 4 by decide)).trans ?_
                first | rfl | (simp only [va_up_self]; done) | (simp only [va_up_self]; rfl)
              · show (M1) (ad 0 3) = hw_ob 0 [.int (hr_mc X1 1), .ref (hr_d (hs_nw S) Z.2.2.2 (ad 12 0)), .int (nI (hs_nw S))]
                refine (hP1.m 0 3 (show 3 < 4 by decide)).trans ?_
                first | rfl | (simp only [va_up_self]; done) | (simp only [va_up_self]; rfl)
            · show (M1) (ad 1 i) = hw_ob 9 [.ref (ad 2 i), .int (hs_P S i 0), .ref (ad 4 i), .int (hs_P S i 3), .int (hs_P S i 4), .int (hs_P S i 5), .int (hs_P S i 6), .int (hs_P S i 7), .int (hs_P S i 8)]
              refine (hP1.m 1 i hi).trans ?_
              first | rfl
            · show (M1) (ad 2 i) = hw_ob 11 [.ref (ad 3 i)]
              refine (hP1.m 2 i hi).trans ?_
              first | rfl
            · show (M1) (ad 3 i) = hw_al Z 8 (hs_C S i)
              refine (hP1.m 3 i hi).trans ?_
              first | rfl
            · show (M1) (ad 4 i) = hw_ob 7 [.double (hr_en (hs_P S i)), .ref (ad 5 i), .double (hs_U S i), .int (hs_P S i 1), .int (hs_P S i 2), .int (nI (hs_D S i))]
              refine (hP1.m 4 i hi).trans ?_
              first | rfl
            · show (M1) (ad 5 i) = hw_ad Z 64 (hs_W S i)
              refine (hP1.m 5 i hi).trans ?_
              first | rfl
            · show (M1) (ad 6 i) = hw_ob 10 [.int (hs_V S i 0), .int (hs_V S i 1), .int (hs_V S i 2), .int (hs_V S i 3), .int (hs_V S i 4)]
              refine (hP1.m 6 i hi).trans ?_
              first | rfl
            · show (M1) (ad 7 i) = hw_ob 8 [.int (hs_M S i 0), .int (hs_M S i 1), .int (hs_M S i 2), .int (hs_M S i 3), .ref (ad 8 i)]
              refine (hP1.m 7 i hi).trans ?_
              first | rfl
            · show (M1) (ad 8 i) = hw_ob 0 [.int (hr_mc X1 (2 + i)), .ref (if hr_gr X1 i then ad 9 i else Z.2.2.2), .int (nI (hs_N S i))]
              refine (hP1.m 8 i hi).trans ?_
              first | rfl
            · show (M1) (ad 9 i) = hw_ar Z 7 10 (hc_f (fun j => ad 10 (i + 2 * j)) (hs_N S i))
              refine (hP1.m 9 i hi).trans ?_
              first | rfl
            · show (M1) (ad 10 i) = hw_ai Z 3 (hr_qq X1 (i % 2) (i / 2))
              refine (hP1.m 10 i hi).trans ?_
              first | rfl
            · show (M1) (ad 11 i) = hw_ar Z 7 10 (hc_f (ad 1) (hs_np S))
              refine (hP1.m 11 i hi).trans ?_
              first | rfl
            · show (M1) (ad 12 i) = hw_ar Z 7 10 (hc_f (ad 6) (hs_nw S))
              refine (hP1.m 12 i hi).trans ?_
              first | rfl
            · exact hi.elim
          have fr_hok : ∀ a, b1 a → (M1) a = M a := fun a ha => fr1 a ha
          have hfin : hr_R Z b1 M ad (st_warm S ka kb kc) ((hs_W S (hb_ix (hs_M S (hb_ix ka) 3))) ((hb_ix kb) + (8 * (hb_ix kc)))) (M1) := hr_r (S' := S) (X' := X1) (ad' := ad) (by unfold st_warm; rw [if_neg (fun q => q ⟨gk, gk2, gk3⟩), if_neg c49]) rfl hok ht1 fr_hok
          exact hret hI hfin (Nat.le_of_ble_eq_true rfl) (Nat.le_of_ble_eq_true rfl) dX11_warm_90
        · refine lv_dconst0 hx hb dX11_warm_52 ?_
          refine lv_goto (tgt := 90) hx hb dX11_warm_53 (by decide) ?_
          have hok : hr_ok Z b1 (M1) ad (S) (X1) := by
            refine hr_old hP1 (fun _ _ hi => hi) ?_ hP1.q hP1.g
            intro k i hi
            rcases k with _ | _ | _ | _ | _ | _ | _ | _ | _ | _ | _ | _ | _ | k
            · rcases (show i = 0 ∨ i = 1 ∨ i = 2 ∨ i = 3 by have h4 : i < 4 := hi; omega) with rfl | rfl | rfl | rfl
              · show (M1) (ad 0 0) = hw_ob 12 [.int (hr_th X1), .int (hs_G S 0), .int (hs_G S 1), .ref (ad 0 2), .ref (ad 0 3), .ref (ad 0 1)]
                refine (hP1.m 0 0 (show 0 < 4 by decide)).trans ?_
                first | rfl | (simp only [va_up_self]; done) | (simp only [va_up_self]; rfl)
              · show (M1) (ad 0 1) = hw_ar Z 6 2 (fun j => some (ad 7 j))
                refine (hP1.m 0 1 (show 1 < 4 by decide)).trans ?_
                first | rfl | (simp only [va_up_self]; done) | (simp only [va_up_self]; rfl)
              · show (M1) (ad 0 2) = hw_ob 0 [.int (hr_mc X1 0), .ref (hr_d (hs_np S) Z.2.2.2 (ad 11 0)), .int (nI (hs_np S))]
                refine (hP1.m 0 2 (show 2 < 4 by decide)).trans ?_
                first | rfl | (simp only [va_up_self]; done) | (simp only [va_up_self]; rfl)
              · show (M1) (ad 0 3) = hw_ob 0 [.int (hr_mc X1 1), .ref (hr_d (hs_nw S) Z.2.2.2 (ad 12 0)), .int (nI (hs_nw S))]
                refine (hP1.m 0 3 (show 3 < 4 by decide)).trans ?_
                first | rfl | (simp only [va_up_self]; done) | (simp only [va_up_self]; rfl)
            · show (M1) (ad 1 i) = hw_ob 9 [.ref (ad 2 i), .int (hs_P S i 0), .ref (ad 4 i), .int (hs_P S i 3), .int (hs_P S i 4), .int (hs_P S i 5), .int (hs_P S i 6), .int (hs_P S i 7), .int (hs_P S i 8)]
              refine (hP1.m 1 i hi).trans ?_
              first | rfl
            · show (M1) (ad 2 i) = hw_ob 11 [.ref (ad 3 i)]
              refine (hP1.m 2 i hi).trans ?_
              first | rfl
            · show (M1) (ad 3 i) = hw_al Z 8 (hs_C S i)
              refine (hP1.m 3 i hi).trans ?_
              first | rfl
            · show (M1) (ad 4 i) = hw_ob 7 [.double (hr_en (hs_P S i)), .ref (ad 5 i), .double (hs_U S i), .int (hs_P S i 1), .int (hs_P S i 2), .int (nI (hs_D S i))]
              refine (hP1.m 4 i hi).trans ?_
              first | rfl
            · show (M1) (ad 5 i) = hw_ad Z 64 (hs_W S i)
              refine (hP1.m 5 i hi).trans ?_
              first | rfl
            · show (M1) (ad 6 i) = hw_ob 10 [.int (hs_V S i 0), .int (hs_V S i 1), .int (hs_V S i 2), .int (hs_V S i 3), .int (hs_V S i 4)]
              refine (hP1.m 6 i hi).trans ?_
              first | rfl
            · show (M1) (ad 7 i) = hw_ob 8 [.int (hs_M S i 0), .int (hs_M S i 1), .int (hs_M S i 2), .int (hs_M S i 3), .ref (ad 8 i)]
              refine (hP1.m 7 i hi).trans ?_
              first | rfl
            · show (M1) (ad 8 i) = hw_ob 0 [.int (hr_mc X1 (2 + i)), .ref (if hr_gr X1 i then ad 9 i else Z.2.2.2), .int (nI (hs_N S i))]
              refine (hP1.m 8 i hi).trans ?_
              first | rfl
            · show (M1) (ad 9 i) = hw_ar Z 7 10 (hc_f (fun j => ad 10 (i + 2 * j)) (hs_N S i))
              refine (hP1.m 9 i hi).trans ?_
              first | rfl
            · show (M1) (ad 10 i) = hw_ai Z 3 (hr_qq X1 (i % 2) (i / 2))
              refine (hP1.m 10 i hi).trans ?_
              first | rfl
            · show (M1) (ad 11 i) = hw_ar Z 7 10 (hc_f (ad 1) (hs_np S))
              refine (hP1.m 11 i hi).trans ?_
              first | rfl
            · show (M1) (ad 12 i) = hw_ar Z 7 10 (hc_f (ad 6) (hs_nw S))
              refine (hP1.m 12 i hi).trans ?_
              first | rfl
            · exact hi.elim
          have fr_hok : ∀ a, b1 a → (M1) a = M a := fun a ha => fr1 a ha
          have hfin : hr_R Z b1 M ad (st_warm S ka kb kc) (FP.dconst0) (M1) := hr_r (S' := S) (X' := X1) (ad' := ad) (by unfold st_warm; rw [if_neg (fun q => q ⟨gk, gk2, gk3⟩), if_pos c49]) rfl hok ht1 fr_hok
          exact hret hI hfin (Nat.le_of_ble_eq_true rfl) (Nat.le_of_ble_eq_true rfl) dX11_warm_90
      · refine lv_aload_n hx hb dX11_warm_32 rfl (lv_at hl 0 rfl) ?_
        refine lv_iconst (v := nI 1) hx hb dX11_warm_33 (by decide) ?_
        refine hw_ci hI (hw_rV hx hb hml hown hts hk hI (m_X11_no l Z M1 (ad 0 0) (ad 0 2) (ad 0 3) (ad 0 1) (hr_th X1) (hs_G S 0) (hs_G S 1) (nI 1) e0_0hP1) cv_X11_44 e0_0hP1 rfl rfl ⟨rfl, rfl⟩ ⟨(Nat.le_of_ble_eq_true rfl), (Nat.le_of_ble_eq_true rfl)⟩ rfl hl.1 rfl (Nat.le_of_ble_eq_true rfl) ⟨(Nat.le_of_ble_eq_true rfl), (Nat.le_of_ble_eq_true rfl)⟩ dX11_warm_34) (fun r34 M34 H locs hR hI => ?_)
        obtain ⟨rfl, rfl⟩ := hR
        refine lv_i2d hx hb dX11_warm_37 ?_
        exact hret hI (hr_x (n := 1) (by unfold st_warm; exact (hq_if (fun q => hq_df c29 q.2.2) ⟨rfl, rfl⟩)) (by decide) (hP1.th (nI 1)) rfl (fun a ha => (va_up_ne _ _ (hP1.f (k := 0) (i := 0) (show 0 < 4 by decide) ha)).trans (fr1 a ha))) (Nat.le_of_ble_eq_true rfl) (Nat.le_of_ble_eq_true rfl) dX11_warm_38
