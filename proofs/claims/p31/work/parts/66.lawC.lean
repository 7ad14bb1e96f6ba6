theorem cv_L_49 : hw_CV RL 49 yX5_bestSpeed cX5_bestSpeed 8 (some .int) 2 := ⟨cb_X5_bestSpeed _ _, (hw_win (w := .methodLink RL 49 yX5_bestSpeed) (by decide +kernel) (by decide +kernel)), (hw_win (w := .instanceMethod yX5_bestSpeed) (by decide +kernel) (by decide +kernel)), (hw_win (w := .selects yX5_bestSpeed.cls yX5_bestSpeed yX5_bestSpeed) (by decide +kernel) (by decide +kernel))⟩
theorem cb_X5_powder (own : String) (index : Nat) : hw_CB own index yX5_powder cX5_powder 4 (some .int) 2 := ⟨⟨by decide +kernel, by decide +kernel, by decide +kernel⟩, (hw_win (w := .code yX5_powder cX5_powder 4 (some .int)) (by decide +kernel) (by decide +kernel)), (hw_win (w := .initialized yX5_powder.cls) (by decide +kernel) (by decide +kernel))⟩
theorem cv_L_61 : hw_CV RL 61 yX5_powder cX5_powder 4 (some .int) 2 := ⟨cb_X5_powder _ _, (hw_win (w := .methodLink RL 61 yX5_powder) (by decide +kernel) (by decide +kernel)), (hw_win (w := .instanceMethod yX5_powder) (by decide +kernel) (by decide +kernel)), (hw_win (w := .selects yX5_powder.cls yX5_powder yX5_powder) (by decide +kernel) (by decide +kernel))⟩
theorem cb_X5_blend (own : String) (index : Nat) : hw_CB own index yX5_blend cX5_blend 5 (some .int) 2 := ⟨⟨by decide +kernel, by decide +kernel, by decide +kernel⟩, (hw_win (w := .code yX5_blend cX5_blend 5 (some .int)) (by decide +kernel) (by decide +kernel)), (hw_win (w := .initialized yX5_blend.cls) (by decide +kernel) (by decide +kernel))⟩
theorem cv_L_64 : hw_CV RL 64 yX5_blend cX5_blend 5 (some .int) 2 := ⟨cb_X5_blend _ _, (hw_win (w := .methodLink RL 64 yX5_blend) (by decide +kernel) (by decide +kernel)), (hw_win (w := .instanceMethod yX5_blend) (by decide +kernel) (by decide +kernel)), (hw_win (w := .selects yX5_blend.cls yX5_blend yX5_blend) (by decide +kernel) (by decide +kernel))⟩
set_option maxHeartbeats 4000000 in
set_option maxRecDepth 100000 in
theorem sg_C {p : Program} {l : Launch} {e : Env} {s : State} {m : MethodId} {below : List Frame} {meth : Method} {c : Code} {H : Heap} {locs : List Loc} {cells slots : Nat} {Q : State → Prop} {ls : Array Slot} {Z : hw_Z} {M : hw_M} {i h9 : Nat} {ad : hp_ad} {t d : Nat} {C : Nat → Int64} {v3 v4 v5 v6 v7 v8 v9 v10 : Value} (hst : l.stackTraces = false) (CX : lw_cx p s m c Z) (hI : hw_iv Z s M H locs) (ht : M t = hw_ob 0 [.ref (ad 0 0), .ref Z.2.2.2, .int (nI d), v3, v4, v5, v6, v7, v8, v9, v10]) (hh : lh Z M ad (sA C)) (hd : d ≤ 200) (hl : lv_has ls 19 [(0, .ref Z.2.2.2), (1, .int (nI i)), (2, .ref t), (3, .ref (ad 0 0)), (9, .int (nI h9))]) (hc9 : cells + 3000 ≤ 600104) (hs9 : slots + 60000 ≤ 7301314)
    (K : ∀ (M1 : hw_M) (H1 : Heap) (locs1 : List Loc) (cells1 slots1 : Nat) (ls1 : Array Slot) (q12 q13 q14 w b r d1 : Nat) (f12 : Nat → Int64) (sp ff : Nat → Int32), hw_iv Z s M1 H1 locs1 → (hb_pw (nI w)) → (b = hb_bs C (nI w) 19) → (1 ≤ r ∧ r ≤ 20) → (M1 t = hw_ob 0 [.ref (ad 0 0), .ref Z.2.2.2, .int (nI d1), v3, v4, v5, v6, v7, v8, v9, v10]) → (M1 q12 = hw_al Z 8 f12) → (M1 q13 = hw_ai Z 3 sp) → (M1 q14 = hw_ai Z 3 ff) → (lh Z M1 ad (sB3 C)) → (hq_b ad q12) → (hq_b ad q13) → (hq_b ad q14) → (q13 ≠ q14) → (∀ z, z < 8 → f12 z = C z) → (sp 0 = nI b ∧ sp 1 = nI (min 20 (b + 1)) ∧ sp 2 = nI r) → (d1 ≤ d + 2) → lv_has ls1 19 [(0, .ref Z.2.2.2), (1, .int (nI i)), (2, .ref t), (3, .ref (ad 0 0)), (9, .int (nI h9)), (10, .int (nI w)), (11, .int (nI b)), (12, .ref q12), (13, .ref q13), (14, .ref q14), (15, .int (nI 1)), (16, .int (nI 0))] → cells1 ≤ cells + 3000 → slots1 ≤ slots + 60000 → W p l e room_1 s m #[Value.ref Z.2.2.2] below meth c H1 locs1 cells1 slots1 Q (F0 m 351 ls1 [])) :
    W p l e room_1 s m #[Value.ref Z.2.2.2] below meth c H locs cells slots Q (F0 m 214 ls []) := by
  obtain ⟨hx, hb, hml, hown, hts, hk⟩ := CX
  have hbt : hq_b ad t := lp_0 hh ht ⟨_, rfl⟩
  refine lv_bipush (v := nI 60) hx hb dL_law_214 (by decide) ?_
  refine lv_aload_n hx hb dL_law_216 rfl (lv_at hl 2 rfl) ?_
  refine lv_sipush (v := nI 240) hx hb dL_law_217 (by decide) ?_
  refine hw_ci hI (hw_rV hx hb hml hown hts hk hI (m_X6_draw l Z M t d (.ref (ad 0 0)) v3 v4 v5 v6 v7 v8 v9 v10 240 ht (by decide) (by decide) (by omega)) cv_L_22 ht rfl rfl ⟨rfl, rfl⟩ ⟨(by first | exact Nat.le_of_ble_eq_true rfl | (show _ ≤ 600104; omega) | (show _ ≤ 7301314; omega) | omega), (by first | exact Nat.le_of_ble_eq_true rfl | (show _ ≤ 600104; omega) | (show _ ≤ 7301314; omega) | omega)⟩ rfl hl.1 rfl (by first | exact Nat.le_of_ble_eq_true rfl | (show _ ≤ 600104; omega) | (show _ ≤ 7301314; omega) | omega) ⟨(by first | exact Nat.le_of_ble_eq_true rfl | (show _ ≤ 600104; omega) | (show _ ≤ 7301314; omega) | omega), (by first | exact Nat.le_of_ble_eq_true rfl | (show _ ≤ 600104; omega) | (show _ ≤ 7301314; omega) | omega)⟩ dL_law_220) (fun r220 M220 H locs hR hI => ?_)
  obtain ⟨j220, hj220, rfl, rfl⟩ := hR
  refine lv_iadd hx hb dL_law_223 ?_
  refine hw_ti (nI_add _ _) ?_
  have hpw : hb_pw (nI (60 + j220)) := ⟨nI_nlt (by omega) (by omega), nI_le (by omega) (by omega)⟩
  have hB20 := (lb_bs C (nI (60 + j220)) 19).1
  refine lv_istore (lv' := [(10, .int (nI (60 + j220))), (0, .ref Z.2.2.2), (1, .int (nI i)), (2, .ref t), (3, .ref (ad 0 0)), (9, .int (nI h9))]) hx hb dL_law_224 hl (by decide) rfl (fun ls hl => ?_)
  refine lv_aload_n hx hb dL_law_226 rfl (lv_at hl 4 rfl) ?_
  refine lv_iconst (v := nI 0) hx hb dL_law_227 (by decide) ?_
  refine lv_iload hx hb dL_law_228 (lv_at hl 0 rfl) ?_
  have lh230 : lh Z (va_up M t (hw_ob 0 [.ref (ad 0 0), .ref Z.2.2.2, .int (nI (d + 1)), v3, v4, v5, v6, v7, v8, v9, v10])) ad (sA C) := (lp_w hh hbt)
  obtain ⟨T230, hP230⟩ := lh230
  have e230 : (va_up M t (hw_ob 0 [.ref (ad 0 0), .ref Z.2.2.2, .int (nI (d + 1)), v3, v4, v5, v6, v7, v8, v9, v10])) (ad 0 0) = hp_e0 Z ad (sA C) T230 0 := hP230.m 0 0 (by decide)
  refine hw_ci hI (hw_rV hx hb hml hown hts hk hI (m_X5_bestSpeed_k l Z (va_up M t (hw_ob 0 [.ref (ad 0 0), .ref Z.2.2.2, .int (nI (d + 1)), v3, v4, v5, v6, v7, v8, v9, v10])) ad (sA C) T230 (hq_b ad) 0 (nI (60 + j220)) hP230 (sA_v _).b (show 0 < 1 by decide) hpw) cv_L_49 e230 rfl rfl ⟨rfl, rfl⟩ ⟨(by first | exact Nat.le_of_ble_eq_true rfl | (show _ ≤ 600104; omega) | (show _ ≤ 7301314; omega) | omega), (by first | exact Nat.le_of_ble_eq_true rfl | (show _ ≤ 600104; omega) | (show _ ≤ 7301314; omega) | omega)⟩ rfl hl.1 rfl (by first | exact Nat.le_of_ble_eq_true rfl | (show _ ≤ 600104; omega) | (show _ ≤ 7301314; omega) | omega) ⟨(by first | exact Nat.le_of_ble_eq_true rfl | (show _ ≤ 600104; omega) | (show _ ≤ 7301314; omega) | omega), (by first | exact Nat.le_of_ble_eq_true rfl | (show _ ≤ 600104; omega) | (show _ ≤ 7301314; omega) | omega)⟩ dL_law_230) (fun r230 M230 H locs hR hI => ?_)
  obtain ⟨rfl, hC230, hF230⟩ := lt hR
  have b230_t : hq_b ad t := hbt
  have f230_t : M230 t = hw_ob 0 [.ref (ad 0 0), .ref Z.2.2.2, .int (nI (d + 1)), v3, v4, v5, v6, v7, v8, v9, v10] := (hF230 _ b230_t).trans (hw_us _ _ _)
  refine hw_ti (by rw [sA_C]) ?_
  refine lv_istore (lv' := [(11, .int (nI (hb_bs C (nI (60 + j220)) 19))), (10, .int (nI (60 + j220))), (0, .ref Z.2.2.2), (1, .int (nI i)), (2, .ref t), (3, .ref (ad 0 0)), (9, .int (nI h9))]) hx hb dL_law_233 hl (by decide) rfl (fun ls hl => ?_)
  refine lv_bipush (v := nI 8) hx hb dL_law_235 (by decide) ?_
  refine hw_newa (a0 := (8, .inr (.inl (fun _ => 0)))) hx hb hts hk hI (atype := .long) (hw_win (w := .arrayClass .long) (by decide +kernel) (by decide +kernel)) rfl 1 rfl (fun _ h => by cases h) (fun _ => rfl) rfl (by decide) (by decide) (by first | exact Nat.le_of_ble_eq_true rfl | (show _ ≤ 600104; omega) | (show _ ≤ 7301314; omega) | omega) (by first | exact Nat.le_of_ble_eq_true rfl | (show _ ≤ 600104; omega) | (show _ ≤ 7301314; omega) | omega) dL_law_237 (fun q237 H hq237 hI => ?_)
  refine lv_astore (lv' := [(12, .ref q237), (11, .int (nI (hb_bs C (nI (60 + j220)) 19))), (10, .int (nI (60 + j220))), (0, .ref Z.2.2.2), (1, .int (nI i)), (2, .ref t), (3, .ref (ad 0 0)), (9, .int (nI h9))]) hx hb dL_law_239 hl (by decide) rfl (fun ls hl => ?_)
  refine lv_iconst (v := nI 0) hx hb dL_law_241 (by decide) ?_
  refine lv_istore (lv' := [(13, .int (nI 0)), (12, .ref q237), (11, .int (nI (hb_bs C (nI (60 + j220)) 19))), (10, .int (nI (60 + j220))), (0, .ref Z.2.2.2), (1, .int (nI i)), (2, .ref t), (3, .ref (ad 0 0)), (9, .int (nI h9))]) hx hb dL_law_242 hl (by decide) rfl (fun ls hl => ?_)
  refine hw_wr (cells1 := (cells + 0 * 0 + 1)) (slots1 := (slots + 0 * 0 + 8)) (by omega) (by omega) ?_
  suffices LP244 : ∀ v, v ≤ 8 → ∀ (f5 : Nat → Int64) (hf5 : ∀ q, q < v → f5 q = C q) (H : Heap) (locs : List Loc) (ls : Array Slot), hw_iv Z s (va_up M230 q237 (hw_al Z 8 f5)) H locs → lv_has ls 19 [(13, .int (nI v)), (0, .ref Z.2.2.2), (1, .int (nI i)), (2, .ref t), (3, .ref (ad 0 0)), (9, .int (nI h9)), (10, .int (nI (60 + j220))), (11, .int (nI (hb_bs C (nI (60 + j220)) 19))), (12, .ref q237)] → W p l e room_1 s m #[Value.ref Z.2.2.2] below meth c H locs (cells + 0 * v + 1) (slots + 0 * v + 8) Q (F0 m 244 ls []) from LP244 0 (by omega) (fun _ => 0) (fun _ h => absurd h (Nat.not_lt_zero _)) _ _ _ hI (lv_sub hl [0, 4, 5, 6, 7, 8, 3, 2, 1] rfl)
  refine hw_loop ?_ (fun v hi244 ih244 => ?_)
  · intro f5 hf5 H locs ls hI hl
    refine lv_iload hx hb dL_law_244 (lv_at hl 0 rfl) ?_
    refine lv_bipush (v := nI 8) hx hb dL_law_246 (by decide) ?_
    refine lv_icmp_ge (tgt := 270) hx hb dL_law_248 (by decide) (fun _ => ?_) (fun hc => absurd (Int32.le_refl _) hc)
    refine lv_iconst (v := nI 3) hx hb dL_law_270 (by decide) ?_
    refine hw_newa (a0 := (3, .inl (fun _ => 0))) hx hb hts hk hI (atype := .int) (hw_win (w := .arrayClass .int) (by decide +kernel) (by decide +kernel)) rfl 0 rfl (fun _ h => by cases h) (fun _ => rfl) rfl (by decide) (by decide) (by first | exact Nat.le_of_ble_eq_true rfl | (show _ ≤ 600104; omega) | (show _ ≤ 7301314; omega) | omega) (by first | exact Nat.le_of_ble_eq_true rfl | (show _ ≤ 600104; omega) | (show _ ≤ 7301314; omega) | omega) dL_law_271 (fun q271 H hq271 hI => ?_)
    refine lv_dup hx hb dL_law_273 rfl ?_
    refine lv_iconst (v := nI 0) hx hb dL_law_274 (by decide) ?_
    refine lv_iload hx hb dL_law_275 (lv_at hl 7 rfl) ?_
    refine hw_iast hx hb hk hI (hw_us _ _ _) (j := 0) rfl (by omega) (by decide) dL_law_277 (fun H locs hI => ?_)
    refine lv_dup hx hb dL_law_278 rfl ?_
    refine lv_iconst (v := nI 1) hx hb dL_law_279 (by decide) ?_
    refine lv_bipush (v := nI 20) hx hb dL_law_280 (by decide) ?_
    refine lv_iload hx hb dL_law_282 (lv_at hl 7 rfl) ?_
    refine lv_iconst (v := nI 1) hx hb dL_law_284 (by decide) ?_
    refine lv_iadd hx hb dL_law_285 ?_
    refine hw_ti (nI_add _ _) ?_
    refine va_mmin hx hb (by rw [hml]; exact hl.1.symm) hown (hts _ (hw_win (w := .methodLink RL 56 Lib.Math.min.name) (by decide +kernel) (by decide +kernel))) (hts _ (hw_win (w := .static Lib.Math.min.name) (by decide +kernel) (by decide +kernel))) (hts _ (hw_win (w := .initialized "java/lang/Math") (by decide +kernel) (by decide +kernel))) (hts _ (hw_win (w := .code Lib.Math.min.name Lib.Math.min.code 2 (some .int)) (by decide +kernel) (by decide +kernel))) (by first | exact Nat.le_of_ble_eq_true rfl | (show _ ≤ 600104; omega) | (show _ ≤ 7301314; omega) | omega) (by first | exact Nat.le_of_ble_eq_true rfl | (show _ ≤ 600104; omega) | (show _ ≤ 7301314; omega) | omega) (by first | exact Nat.le_of_ble_eq_true rfl | (show _ ≤ 600104; omega) | (show _ ≤ 7301314; omega) | omega) (by first | exact Nat.le_of_ble_eq_true rfl | (show _ ≤ 600104; omega) | (show _ ≤ 7301314; omega) | omega) dL_law_286 ?_
    refine hw_ti (y := hb_min (nI 20) (nI ((hb_bs C (nI (60 + j220)) 19) + 1))) rfl ?_
    refine hw_ti (hb_minN (by decide) (by omega)) ?_
    refine hw_iast hx hb hk hI (hw_us _ _ _) (j := 1) rfl (by omega) (by decide) dL_law_289 (fun H locs hI => ?_)
    refine lv_dup hx hb dL_law_290 rfl ?_
    refine lv_iconst (v := nI 2) hx hb dL_law_291 (by decide) ?_
    refine lv_iconst (v := nI 1) hx hb dL_law_292 (by decide) ?_
    refine lv_aload_n hx hb dL_law_293 rfl (lv_at hl 3 rfl) ?_
    refine lv_bipush (v := nI 20) hx hb dL_law_294 (by decide) ?_
    refine hw_ci hI (hw_rV hx hb hml hown hts hk hI (m_X6_draw l Z (va_up (va_up (va_up (va_up M230 q237 (hw_al Z 8 f5)) q271 (hw_ai Z 3 (fun _ => 0))) q271 (hw_ai Z 3 (va_up (fun _ => 0) 0 (nI (hb_bs C (nI (60 + j220)) 19))))) q271 (hw_ai Z 3 (va_up (va_up (fun _ => 0) 0 (nI (hb_bs C (nI (60 + j220)) 19))) 1 (nI (min 20 (hb_bs C (nI (60 + j220)) 19 + 1)))))) t (d + 1) (.ref (ad 0 0)) v3 v4 v5 v6 v7 v8 v9 v10 20 (hw_up (hw_up (hw_up (hw_up f230_t (hw_nn f230_t hq237)) (hw_nn (hw_up f230_t (hw_nn f230_t hq237)) hq271)) (hw_nn (hw_up f230_t (hw_nn f230_t hq237)) hq271)) (hw_nn (hw_up f230_t (hw_nn f230_t hq237)) hq271)) (by decide) (by decide) (by omega)) cv_L_22 (hw_up (hw_up (hw_up (hw_up f230_t (hw_nn f230_t hq237)) (hw_nn (hw_up f230_t (hw_nn f230_t hq237)) hq271)) (hw_nn (hw_up f230_t (hw_nn f230_t hq237)) hq271)) (hw_nn (hw_up f230_t (hw_nn f230_t hq237)) hq271)) rfl rfl ⟨rfl, rfl⟩ ⟨(by first | exact Nat.le_of_ble_eq_true rfl | (show _ ≤ 600104; omega) | (show _ ≤ 7301314; omega) | omega), (by first | exact Nat.le_of_ble_eq_true rfl | (show _ ≤ 600104; omega) | (show _ ≤ 7301314; omega) | omega)⟩ rfl hl.1 rfl (by first | exact Nat.le_of_ble_eq_true rfl | (show _ ≤ 600104; omega) | (show _ ≤ 7301314; omega) | omega) ⟨(by first | exact Nat.le_of_ble_eq_true rfl | (show _ ≤ 600104; omega) | (show _ ≤ 7301314; omega) | omega), (by first | exact Nat.le_of_ble_eq_true rfl | (show _ ≤ 600104; omega) | (show _ ≤ 7301314; omega) | omega)⟩ dL_law_296) (fun r296 M296 H locs hR hI => ?_)
    obtain ⟨j296, hj296, rfl, rfl⟩ := hR
    refine lv_iadd hx hb dL_law_299 ?_
    refine hw_ti (nI_add _ _) ?_
    refine hw_iast hx hb hk hI (hw_up (hw_us _ _ _) (Ne.symm (hw_nn (hw_up f230_t (hw_nn f230_t hq237)) hq271))) (j := 2) rfl (by omega) (by decide) dL_law_300 (fun H locs hI => ?_)
    refine lv_astore (lv' := [(13, .ref q271), (0, .ref Z.2.2.2), (1, .int (nI i)), (2, .ref t), (3, .ref (ad 0 0)), (9, .int (nI h9)), (10, .int (nI (60 + j220))), (11, .int (nI (hb_bs C (nI (60 + j220)) 19))), (12, .ref q237)]) hx hb dL_law_301 hl (by decide) rfl (fun ls hl => ?_)
    refine lv_iconst (v := nI 3) hx hb dL_law_303 (by decide) ?_
    refine hw_newa (a0 := (3, .inl (fun _ => 0))) hx hb hts hk hI (atype := .int) (hw_win (w := .arrayClass .int) (by decide +kernel) (by decide +kernel)) rfl 0 rfl (fun _ h => by cases h) (fun _ => rfl) rfl (by decide) (by decide) (by first | exact Nat.le_of_ble_eq_true rfl | (show _ ≤ 600104; omega) | (show _ ≤ 7301314; omega) | omega) (by first | exact Nat.le_of_ble_eq_true rfl | (show _ ≤ 600104; omega) | (show _ ≤ 7301314; omega) | omega) dL_law_304 (fun q304 H hq304 hI => ?_)
    refine lv_astore (lv' := [(14, .ref q304), (13, .ref q271), (0, .ref Z.2.2.2), (1, .int (nI i)), (2, .ref t), (3, .ref (ad 0 0)), (9, .int (nI h9)), (10, .int (nI (60 + j220))), (11, .int (nI (hb_bs C (nI (60 + j220)) 19))), (12, .ref q237)]) hx hb dL_law_306 hl (by decide) rfl (fun ls hl => ?_)
    refine lv_aload_n hx hb dL_law_308 rfl (lv_at hl 5 rfl) ?_
    refine lv_iconst (v := nI 1) hx hb dL_law_309 (by decide) ?_
    refine lv_sipush (v := nI 2000) hx hb dL_law_310 (by decide) ?_
    have lh313 : lh Z (va_up (va_up (va_up (va_up (va_up (va_up (va_up M230 q237 (hw_al Z 8 f5)) q271 (hw_ai Z 3 (fun _ => 0))) q271 (hw_ai Z 3 (va_up (fun _ => 0) 0 (nI (hb_bs C (nI (60 + j220)) 19))))) q271 (hw_ai Z 3 (va_up (va_up (fun _ => 0) 0 (nI (hb_bs C (nI (60 + j220)) 19))) 1 (nI (min 20 (hb_bs C (nI (60 + j220)) 19 + 1)))))) t (hw_ob 0 [.ref (ad 0 0), .ref Z.2.2.2, .int (nI ((d + 1) + 1)), v3, v4, v5, v6, v7, v8, v9, v10])) q271 (hw_ai Z 3 (va_up (va_up (va_up (fun _ => 0) 0 (nI (hb_bs C (nI (60 + j220)) 19))) 1 (nI (min 20 (hb_bs C (nI (60 + j220)) 19 + 1)))) 2 (nI (1 + j296))))) q304 (hw_ai Z 3 (fun _ => 0))) ad (sA C) := (lp_w (lp_w (lp_w (lp_w (lp_w (lp_w (lp_w hC230 (lp_b hC230 hq237)) (lp_b (lp_w hC230 (lp_b hC230 hq237)) hq271)) (lp_b (lp_w hC230 (lp_b hC230 hq237)) hq271)) (lp_b (lp_w hC230 (lp_b hC230 hq237)) hq271)) b230_t) (lp_b (lp_w hC230 (lp_b hC230 hq237)) hq271)) (lp_b (lp_w (lp_w (lp_w (lp_w (lp_w (lp_w hC230 (lp_b hC230 hq237)) (lp_b (lp_w hC230 (lp_b hC230 hq237)) hq271)) (lp_b (lp_w hC230 (lp_b hC230 hq237)) hq271)) (lp_b (lp_w hC230 (lp_b hC230 hq237)) hq271)) b230_t) (lp_b (lp_w hC230 (lp_b hC230 hq237)) hq271)) hq304))
    obtain ⟨T313, hP313⟩ := lh313
    have e313 : (va_up (va_up (va_up (va_up (va_up (va_up (va_up M230 q237 (hw_al Z 8 f5)) q271 (hw_ai Z 3 (fun _ => 0))) q271 (hw_ai Z 3 (va_up (fun _ => 0) 0 (nI (hb_bs C (nI (60 + j220)) 19))))) q271 (hw_ai Z 3 (va_up (va_up (fun _ => 0) 0 (nI (hb_bs C (nI (60 + j220)) 19))) 1 (nI (min 20 (hb_bs C (nI (60 + j220)) 19 + 1)))))) t (hw_ob 0 [.ref (ad 0 0), .ref Z.2.2.2, .int (nI ((d + 1) + 1)), v3, v4, v5, v6, v7, v8, v9, v10])) q271 (hw_ai Z 3 (va_up (va_up (va_up (fun _ => 0) 0 (nI (hb_bs C (nI (60 + j220)) 19))) 1 (nI (min 20 (hb_bs C (nI (60 + j220)) 19 + 1)))) 2 (nI (1 + j296))))) q304 (hw_ai Z 3 (fun _ => 0))) (ad 0 0) = hp_e0 Z ad (sA C) T313 0 := hP313.m 0 0 (by decide)
    refine hw_yi hI (hw_xV hx hb hml hown hts hk hI (m_X5_powder l hst Z (va_up (va_up (va_up (va_up (va_up (va_up (va_up M230 q237 (hw_al Z 8 f5)) q271 (hw_ai Z 3 (fun _ => 0))) q271 (hw_ai Z 3 (va_up (fun _ => 0) 0 (nI (hb_bs C (nI (60 + j220)) 19))))) q271 (hw_ai Z 3 (va_up (va_up (fun _ => 0) 0 (nI (hb_bs C (nI (60 + j220)) 19))) 1 (nI (min 20 (hb_bs C (nI (60 + j220)) 19 + 1)))))) t (hw_ob 0 [.ref (ad 0 0), .ref Z.2.2.2, .int (nI ((d + 1) + 1)), v3, v4, v5, v6, v7, v8, v9, v10])) q271 (hw_ai Z 3 (va_up (va_up (va_up (fun _ => 0) 0 (nI (hb_bs C (nI (60 + j220)) 19))) 1 (nI (min 20 (hb_bs C (nI (60 + j220)) 19 + 1)))) 2 (nI (1 + j296))))) q304 (hw_ai Z 3 (fun _ => 0))) ad (sA C) T313 (hq_b ad) (nI 1) (nI 2000) hP313 (sA_v _).b) cv_L_61 e313 rfl rfl ⟨rfl, rfl⟩ ⟨(by first | exact Nat.le_of_ble_eq_true rfl | (show _ ≤ 600104; omega) | (show _ ≤ 7301314; omega) | omega), (by first | exact Nat.le_of_ble_eq_true rfl | (show _ ≤ 600104; omega) | (show _ ≤ 7301314; omega) | omega)⟩ rfl hl.1 rfl (by first | exact Nat.le_of_ble_eq_true rfl | (show _ ≤ 600104; omega) | (show _ ≤ 7301314; omega) | omega) ⟨(by first | exact Nat.le_of_ble_eq_true rfl | (show _ ≤ 600104; omega) | (show _ ≤ 7301314; omega) | omega), (by first | exact Nat.le_of_ble_eq_true rfl | (show _ ≤ 600104; omega) | (show _ ≤ 7301314; omega) | omega)⟩ dL_law_313) (fun _ _ _ _ _ _ _ hX9 _ _ _ => lx (ls_p1 C) hX9) (fun r313 M313 H locs hR hI => ?_)
    obtain ⟨rfl, hC313, hF313⟩ := lr (ls_p1 C) hR
    have b313_t : hq_b ad t := b230_t
    have f313_t : M313 t = hw_ob 0 [.ref (ad 0 0), .ref Z.2.2.2, .int (nI ((d + 1) + 1)), v3, v4, v5, v6, v7, v8, v9, v10] := (hF313 _ b313_t).trans (hw_up (hw_up (hw_us _ _ _) (hw_nn (hw_up f230_t (hw_nn f230_t hq237)) hq271)) (hw_nn (hw_up (hw_us _ _ _) (hw_nn (hw_up f230_t (hw_nn f230_t hq237)) hq271)) hq304))
    have b313_q237 : hq_b ad q237 := (lp_b hC230 hq237)
    have f313_q237 : M313 q237 = hw_al Z 8 f5 := (hF313 _ b313_q237).trans (hw_up (hw_up (hw_up (hw_up (hw_up (hw_up (hw_us _ _ _) (hw_nn (hw_us _ _ _) hq271)) (hw_nn (hw_us _ _ _) hq271)) (hw_nn (hw_us _ _ _) hq271)) (Ne.symm (hw_nn f230_t hq237))) (hw_nn (hw_us _ _ _) hq271)) (hw_nn (hw_up (hw_up (hw_up (hw_up (hw_up (hw_us _ _ _) (hw_nn (hw_us _ _ _) hq271)) (hw_nn (hw_us _ _ _) hq271)) (hw_nn (hw_us _ _ _) hq271)) (Ne.symm (hw_nn f230_t hq237))) (hw_nn (hw_us _ _ _) hq271)) hq304))
    have b313_q271 : hq_b ad q271 := (lp_b (lp_w hC230 (lp_b hC230 hq237)) hq271)
    have f313_q271 : M313 q271 = hw_ai Z 3 (va_up (va_up (va_up (fun _ => 0) 0 (nI (hb_bs C (nI (60 + j220)) 19))) 1 (nI (min 20 (hb_bs C (nI (60 + j220)) 19 + 1)))) 2 (nI (1 + j296))) := (hF313 _ b313_q271).trans (hw_up (hw_us _ _ _) (hw_nn (hw_us _ _ _) hq304))
    have b313_q304 : hq_b ad q304 := (lp_b (lp_w (lp_w (lp_w (lp_w (lp_w (lp_w hC230 (lp_b hC230 hq237)) (lp_b (lp_w hC230 (lp_b hC230 hq237)) hq271)) (lp_b (lp_w hC230 (lp_b hC230 hq237)) hq271)) (lp_b (lp_w hC230 (lp_b hC230 hq237)) hq271)) b230_t) (lp_b (lp_w hC230 (lp_b hC230 hq237)) hq271)) hq304)
    have f313_q304 : M313 q304 = hw_ai Z 3 (fun _ => 0) := (hF313 _ b313_q304).trans (hw_us _ _ _)
    refine lv_if_ne (tgt := 343) hx hb dL_law_316 (by decide) (fun hc => absurd (by decide) hc) (fun _ => ?_)
    refine lv_aload_n hx hb dL_law_319 rfl (lv_at hl 5 rfl) ?_
    refine lv_iconst (v := nI 1) hx hb dL_law_320 (by decide) ?_
    refine lv_sipush (v := nI 2000) hx hb dL_law_321 (by decide) ?_
    have lh324 : lh Z (M313) ad (sB1 C) := hC313
    obtain ⟨T324, hP324⟩ := lh324
    have e324 : (M313) (ad 0 0) = hp_e0 Z ad (sB1 C) T324 0 := hP324.m 0 0 (by decide)
    refine hw_yi hI (hw_xV hx hb hml hown hts hk hI (m_X5_powder l hst Z M313 ad (sB1 C) T324 (hq_b ad) (nI 1) (nI 2000) hP324 (sB_v1 _).b) cv_L_61 e324 rfl rfl ⟨rfl, rfl⟩ ⟨(by first | exact Nat.le_of_ble_eq_true rfl | (show _ ≤ 600104; omega) | (show _ ≤ 7301314; omega) | omega), (by first | exact Nat.le_of_ble_eq_true rfl | (show _ ≤ 600104; omega) | (show _ ≤ 7301314; omega) | omega)⟩ rfl hl.1 rfl (by first | exact Nat.le_of_ble_eq_true rfl | (show _ ≤ 600104; omega) | (show _ ≤ 7301314; omega) | omega) ⟨(by first | exact Nat.le_of_ble_eq_true rfl | (show _ ≤ 600104; omega) | (show _ ≤ 7301314; omega) | omega), (by first | exact Nat.le_of_ble_eq_true rfl | (show _ ≤ 600104; omega) | (show _ ≤ 7301314; omega) | omega)⟩ dL_law_324) (fun _ _ _ _ _ _ _ hX9 _ _ _ => lx (ls_p2 C) hX9) (fun r324 M324 H locs hR hI => ?_)
    obtain ⟨rfl, hC324, hF324⟩ := lr (ls_p2 C) hR
    have b324_t : hq_b ad t := b313_t
    have f324_t : M324 t = hw_ob 0 [.ref (ad 0 0), .ref Z.2.2.2, .int (nI ((d + 1) + 1)), v3, v4, v5, v6, v7, v8, v9, v10] := (hF324 _ b324_t).trans f313_t
    have b324_q237 : hq_b ad q237 := b313_q237
    have f324_q237 : M324 q237 = hw_al Z 8 f5 := (hF324 _ b324_q237).trans f313_q237
    have b324_q271 : hq_b ad q271 := b313_q271
    have f324_q271 : M324 q271 = hw_ai Z 3 (va_up (va_up (va_up (fun _ => 0) 0 (nI (hb_bs C (nI (60 + j220)) 19))) 1 (nI (min 20 (hb_bs C (nI (60 + j220)) 19 + 1)))) 2 (nI (1 + j296))) := (hF324 _ b324_q271).trans f313_q271
    have b324_q304 : hq_b ad q304 := b313_q304
    have f324_q304 : M324 q304 = hw_ai Z 3 (fun _ => 0) := (hF324 _ b324_q304).trans f313_q304
    refine lv_iconst (v := nI 1) hx hb dL_law_327 (by decide) ?_
    refine lv_icmp_ne (tgt := 343) hx hb dL_law_328 (by decide) (fun hc => absurd rfl hc) (fun _ => ?_)
    refine lv_aload_n hx hb dL_law_331 rfl (lv_at hl 5 rfl) ?_
    refine lv_iconst (v := nI 0) hx hb dL_law_332 (by decide) ?_
    refine lv_iconst (v := nI 1) hx hb dL_law_333 (by decide) ?_
    have lh334 : lh Z (M324) ad (sB2 C) := hC324
    obtain ⟨T334, hP334⟩ := lh334
    have e334 : (M324) (ad 0 0) = hp_e0 Z ad (sB2 C) T334 0 := hP334.m 0 0 (by decide)
    refine hw_yi hI (hw_xV hx hb hml hown hts hk hI (m_X5_blend l hst Z M324 ad (sB2 C) T334 (hq_b ad) (nI 0) (nI 1) hP334 (sB_v2 _).b) cv_L_64 e334 rfl rfl ⟨rfl, rfl⟩ ⟨(by first | exact Nat.le_of_ble_eq_true rfl | (show _ ≤ 600104; omega) | (show _ ≤ 7301314; omega) | omega), (by first | exact Nat.le_of_ble_eq_true rfl | (show _ ≤ 600104; omega) | (show _ ≤ 7301314; omega) | omega)⟩ rfl hl.1 rfl (by first | exact Nat.le_of_ble_eq_true rfl | (show _ ≤ 600104; omega) | (show _ ≤ 7301314; omega) | omega) ⟨(by first | exact Nat.le_of_ble_eq_true rfl | (show _ ≤ 600104; omega) | (show _ ≤ 7301314; omega) | omega), (by first | exact Nat.le_of_ble_eq_true rfl | (show _ ≤ 600104; omega) | (show _ ≤ 7301314; omega) | omega)⟩ dL_law_334) (fun _ _ _ _ _ _ _ hX9 _ _ _ => lx (ls_p3 C) hX9) (fun r334 M334 H locs hR hI => ?_)
    obtain ⟨rfl, hC334, hF334⟩ := lr (ls_p3 C) hR
    have b334_t : hq_b ad t := b324_t
    have f334_t : M334 t = hw_ob 0 [.ref (ad 0 0), .ref Z.2.2.2, .int (nI ((d + 1) + 1)), v3, v4, v5, v6, v7, v8, v9, v10] := (hF334 _ b334_t).trans f324_t
    have b334_q237 : hq_b ad q237 := b324_q237
    have f334_q237 : M334 q237 = hw_al Z 8 f5 := (hF334 _ b334_q237).trans f324_q237
    have b334_q271 : hq_b ad q271 := b324_q271
    have f334_q271 : M334 q271 = hw_ai Z 3 (va_up (va_up (va_up (fun _ => 0) 0 (nI (hb_bs C (nI (60 + j220)) 19))) 1 (nI (min 20 (hb_bs C (nI (60 + j220)) 19 + 1)))) 2 (nI (1 + j296))) := (hF334 _ b334_q271).trans f324_q271
    have b334_q304 : hq_b ad q304 := b324_q304
    have f334_q304 : M334 q304 = hw_ai Z 3 (fun _ => 0) := (hF334 _ b334_q304).trans f324_q304
    refine lv_sipush (v := nI 4000) hx hb dL_law_337 (by decide) ?_
    refine lv_icmp_eq (tgt := 345) hx hb dL_law_340 (by decide) (fun _ => ?_) (fun hc => absurd rfl hc)
    refine lv_iconst (v := nI 1) hx hb dL_law_345 (by decide) ?_
    refine lv_istore (lv' := [(15, .int (nI 1)), (14, .ref q304), (13, .ref q271), (0, .ref Z.2.2.2), (1, .int (nI i)), (2, .ref t), (3, .ref (ad 0 0)), (9, .int (nI h9)), (10, .int (nI (60 + j220))), (11, .int (nI (hb_bs C (nI (60 + j220)) 19))), (12, .ref q237)]) hx hb dL_law_346 hl (by decide) rfl (fun ls hl => ?_)
    refine lv_iconst (v := nI 0) hx hb dL_law_348 (by decide) ?_
    refine lv_istore (lv' := [(16, .int (nI 0)), (15, .int (nI 1)), (14, .ref q304), (13, .ref q271), (0, .ref Z.2.2.2), (1, .int (nI i)), (2, .ref t), (3, .ref (ad 0 0)), (9, .int (nI h9)), (10, .int (nI (60 + j220))), (11, .int (nI (hb_bs C (nI (60 + j220)) 19))), (12, .ref q237)]) hx hb dL_law_349 hl (by decide) rfl (fun ls hl => ?_)
    exact K _ _ _ _ _ _ q237 q271 q304 (60 + j220) (hb_bs C (nI (60 + j220)) 19) (1 + j296) ((d + 1) + 1) f5 _ _ hI hpw rfl (by omega) f334_t f334_q237 f334_q271 f334_q304 hC334 b334_q237 b334_q271 b334_q304 (hw_nn (hw_us _ _ _) hq304) hf5 ⟨rfl, rfl, rfl⟩ (by omega) (lv_sub hl [4, 5, 6, 7, 8, 9, 10, 11, 3, 2, 1, 0] rfl) (by omega) (by omega)
  · intro f5 hf5 H locs ls hI hl
    refine lv_iload hx hb dL_law_244 (lv_at hl 0 rfl) ?_
    refine lv_bipush (v := nI 8) hx hb dL_law_246 (by decide) ?_
    refine lv_icmp_ge (tgt := 270) hx hb dL_law_248 (by decide) (fun hc => absurd hc (nI_ge hi244 (by decide))) (fun _ => ?_)
    refine lv_aload hx hb dL_law_251 (lv_at hl 8 rfl) ?_
    refine lv_iload hx hb dL_law_253 (lv_at hl 0 rfl) ?_
    refine lv_aload_n hx hb dL_law_255 rfl (lv_at hl 4 rfl) ?_
    refine lv_iconst (v := nI 0) hx hb dL_law_256 (by decide) ?_
    refine lv_iload hx hb dL_law_257 (lv_at hl 0 rfl) ?_
    refine lv_iconst (v := nI 0) hx hb dL_law_259 (by decide) ?_
    have lh260 : lh Z (va_up M230 q237 (hw_al Z 8 f5)) ad (sA C) := (lp_w hC230 (lp_b hC230 hq237))
    obtain ⟨T260, hP260⟩ := lh260
    have e260 : (va_up M230 q237 (hw_al Z 8 f5)) (ad 0 0) = hp_e0 Z ad (sA C) T260 0 := hP260.m 0 0 (by decide)
    refine hw_cl' hI (hw_rV hx hb hml hown hts hk hI (m_X5_ofLayer_k l Z (va_up M230 q237 (hw_al Z 8 f5)) ad (sA C) T260 (hq_b ad) 0 v 0 hP260 (sA_v _).b (show 0 < 1 by decide) hi244 (by decide)) cv_L_52 e260 rfl rfl ⟨rfl, rfl⟩ ⟨(by first | exact Nat.le_of_ble_eq_true rfl | (show _ ≤ 600104; omega) | (show _ ≤ 7301314; omega) | omega), (by first | exact Nat.le_of_ble_eq_true rfl | (show _ ≤ 600104; omega) | (show _ ≤ 7301314; omega) | omega)⟩ rfl hl.1 rfl (by first | exact Nat.le_of_ble_eq_true rfl | (show _ ≤ 600104; omega) | (show _ ≤ 7301314; omega) | omega) ⟨(by first | exact Nat.le_of_ble_eq_true rfl | (show _ ≤ 600104; omega) | (show _ ≤ 7301314; omega) | omega), (by first | exact Nat.le_of_ble_eq_true rfl | (show _ ≤ 600104; omega) | (show _ ≤ 7301314; omega) | omega)⟩ dL_law_260) (fun r260 M260 H locs hR hI => ?_)
    obtain ⟨rfl, rfl⟩ := hR
    refine hw_tl (sA_l C v) ?_
    refine hw_last hx hb hk hI (hw_us _ _ _) (j := v) rfl (by omega) (by decide) dL_law_263 (fun H locs hI => ?_)
    refine lv_iinc (v := nI (v + 1)) (lv' := [(13, .int (nI (v + 1))), (0, .ref Z.2.2.2), (1, .int (nI i)), (2, .ref t), (3, .ref (ad 0 0)), (9, .int (nI h9)), (10, .int (nI (60 + j220))), (11, .int (nI (hb_bs C (nI (60 + j220)) 19))), (12, .ref q237)]) hx hb dL_law_264 hl (k := 0) rfl (hw_inc _) (by decide) rfl (fun ls hl => ?_)
    refine lv_goto (tgt := 244) hx hb dL_law_267 (by decide) ?_
    refine W.widen (k := (cells + 0 * (v + 1) + 1)) (n := (slots + 0 * (v + 1) + 8)) (by omega) (by omega) ?_
    exact ih244 _ (fun q hq => by
      by_cases e9 : q = v
      · subst e9; exact va_up_self _ _ _
      · exact (va_up_ne _ _ e9).trans (hf5 q (by omega))) _ _ _ (hI.eq (bx_uu _ _ _ _)) (lv_sub hl [0, 1, 2, 3, 4, 5, 6, 7, 8] rfl)
