/-! The law's loops. -/
theorem lw_step {p : Program} {l : Launch} {e : Env} {s : State} {m : MethodId} {below : List Frame} {meth : Method} {c : Code} {H : Heap} {locs : List Loc} {cells slots : Nat} {Q : State → Prop} {ls : Array Slot} {Z : hw_Z} {M : hw_M} {i h9 w b al y t d q12 q13 q14 : Nat} {ad : hp_ad} {S : hs_S} {C f12 : Nat → Int64} {sp ff : Nat → Int32} {v3 v4 v5 v6 v7 v8 v9 v10 : Value} {v G : Nat} (hst : l.stackTraces = false) (CX : lw_cx p s m c Z) (hI : hw_iv Z s M H locs) (ht : M t = hw_ob 0 [.ref (ad 0 0), .ref Z.2.2.2, .int (nI d), v3, v4, v5, v6, v7, v8, v9, v10]) (e12 : M q12 = hw_al Z 8 f12) (e13 : M q13 = hw_ai Z 3 sp) (e14 : M q14 = hw_ai Z 3 ff) (hh : lh Z M ad S) (b12 : hq_b ad q12) (b13 : hq_b ad q13) (b14 : hq_b ad q14) (n34 : q13 ≠ q14) (hd9 : d < 300) (hy3 : y < 3) (hj : lj y (y + 1) y S) (hg : lj_g G S) (hG : 1024 ≤ G ∧ G ≤ 4000) (hf : ∀ z, z < 8 → f12 z = C z) (h8 : ∀ k, 8 ≤ k → C k = 0) (hpw : hb_pw (nI w)) (hv20 : 1 ≤ v ∧ v ≤ 20) (hsp : sp y = nI v) (h9e : h9 = hb_ht C 8) (h9n : ¬ hb_ht C 8 = 0) (hal : al < 2) (hl : lv_has ls 19 [(0, .ref Z.2.2.2), (1, .int (nI i)), (2, .ref t), (3, .ref (ad 0 0)), (9, .int (nI h9)), (10, .int (nI w)), (11, .int (nI b)), (12, .ref q12), (13, .ref q13), (14, .ref q14), (15, .int (nI al)), (16, .int (nI y))]) (hc9 : cells + 9000 ≤ 600104) (hs9 : slots + 180000 ≤ 7301314)
    (K : ∀ (M1 : hw_M) (H1 : Heap) (locs1 : List Loc) (cells1 slots1 : Nat) (ls1 : Array Slot) (S6 : hs_S) (al6 G6 : Nat) (ff6 : Nat → Int32), hw_iv Z s M1 H1 locs1 → lj (y + 1) (y + 1 + 1) (y + 1) S6 → (G ≤ G6 + 1024 ∧ G6 ≤ G) → lj_g G6 S6 → al6 < 2 → (al6 = 1 → al = 1 ∧ ff6 y = nI (hb_fw C (nI w) v)) → (∀ z, z ≠ y → ff6 z = ff z) → (M1 t = hw_ob 0 [.ref (ad 0 0), .ref Z.2.2.2, .int (nI (d + 1)), v3, v4, v5, v6, v7, v8, v9, v10]) → (M1 q12 = hw_al Z 8 f12) → (M1 q13 = hw_ai Z 3 sp) → (M1 q14 = hw_ai Z 3 ff6) → lh Z M1 ad S6 → lv_has ls1 19 [(0, .ref Z.2.2.2), (1, .int (nI i)), (2, .ref t), (3, .ref (ad 0 0)), (9, .int (nI h9)), (10, .int (nI w)), (11, .int (nI b)), (12, .ref q12), (13, .ref q13), (14, .ref q14), (15, .int (nI al6)), (16, .int (nI (y + 1)))] → cells1 ≤ cells + 9000 → slots1 ≤ slots + 180000 → W p l e room_1 s m #[Value.ref Z.2.2.2] below meth c H1 locs1 cells1 slots1 Q (F0 m 351 ls1 [])) :
    W p l e room_1 s m #[Value.ref Z.2.2.2] below meth c H locs cells slots Q (F0 m 351 ls []) := by
  have hn : y + 1 < 4 := by omega
  have hnw := lj_new hj hn
  refine sg_D1 hst CX hI ht e12 e13 e14 hh b12 b13 b14 n34 (Nat.le_of_lt hd9) hy3 hj hf h8 hl (by omega) (by omega) (fun M1 H1 L1 c1 s1 ls1 j g0 g1 g2 g3 g4 g5 g6 g7 g8 g9 => ?_)
  have hS : lj y (y + 1 + 1) y (hs_sC (hs_sp S (y + 1 + 1)) (y + 1) C) := lj_C (lj_piece hj hn) (by omega) hnw.1 C
  have hgS : lj_g G (hs_sC (hs_sp S (y + 1 + 1)) (y + 1) C) := hg
  have hC2 : hs_C (hs_sC (hs_sp S (y + 1 + 1)) (y + 1) C) (y + 1) = C := ls_Cat _ _ _
  have h02 : hs_P (hs_sC (hs_sp S (y + 1 + 1)) (y + 1) C) (y + 1) 0 = 0 := hnw.1
  generalize hs_sC (hs_sp S (y + 1 + 1)) (y + 1) C = S2 at g6 hS hgS hC2 h02
  have hd1 : d + 1 ≤ 300 := by omega
  have K2 : ∀ (M2 : hw_M) (H2 : Heap) (L2 : List Loc) (c2 s2 : Nat) (ls2 : Array Slot) (S4 : hs_S), hw_iv Z s M2 H2 L2 → lj y (y + 1 + 1) (y + 1) S4 → lj_m G j S4 → hs_C S4 (y + 1) = C → hs_P S4 (y + 1) 0 = 0 → (M2 t = hw_ob 0 [.ref (ad 0 0), .ref Z.2.2.2, .int (nI (d + 1)), v3, v4, v5, v6, v7, v8, v9, v10]) → (M2 q12 = hw_al Z 8 f12) → (M2 q13 = hw_ai Z 3 sp) → (M2 q14 = hw_ai Z 3 ff) → lh Z M2 ad S4 → lv_has ls2 19 [(0, .ref Z.2.2.2), (1, .int (nI i)), (2, .ref t), (3, .ref (ad 0 0)), (9, .int (nI h9)), (10, .int (nI w)), (11, .int (nI b)), (12, .ref q12), (13, .ref q13), (14, .ref q14), (15, .int (nI al)), (16, .int (nI y)), (17, .int (nI j)), (18, .int (nI (1 - j)))] → c2 ≤ c1 + 3000 → s2 ≤ s1 + 60000 → W p l e room_1 s m #[Value.ref Z.2.2.2] below meth c H2 L2 c2 s2 Q (F0 m 484 ls2 []) :=
    fun M2 H2 L2 c2 s2 ls2 S4 k0 k1 k2 k3 k4 k5 k6 k7 k8 k9 k10 k11 k12 =>
      sg_D3 hst CX k0 k5 k6 k7 k8 k9 b12 b13 b14 n34 hd1 g1 k1 k2 hG k3 k4 hy3 hpw hv20 hsp h9e h9n hal k10 (by omega) (by omega) (fun M3 H3 L3 c3 s3 ls3 S6 al6 G6 ff6 r0 r1 r2 r3 r4 r5 r6 r7 r8 r9 r10 r11 r12 r13 r14 =>
        K M3 H3 L3 c3 s3 ls3 S6 al6 G6 ff6 r0 r1 r2 r3 r4 r5 r6 r7 r8 r9 r10 r11 r12 (by omega) (by omega))
  rcases hgS with hf2 | ⟨m2, hm2, hmm⟩
  · exact sg_D2a hst CX g0 g2 g3 g4 g5 g6 b12 b13 b14 n34 hd1 g1 hS hG hC2 h02 hy3 hf2 g7 (by omega) (by omega) K2
  · by_cases q : m2 = j
    · subst q
      exact sg_D2b hst CX g0 g2 g3 g4 g5 g6 b12 b13 b14 n34 hd1 g1 hS hG hC2 h02 hy3 hmm g7 (by omega) (by omega) K2
    · have e9 : m2 = 1 - j := by omega
      subst e9
      exact sg_D2c hst CX g0 g2 g3 g4 g5 g6 b12 b13 b14 n34 hd1 g1 hS hG hC2 h02 hy3 hmm g7 (by omega) (by omega) K2
theorem lw_time {p : Program} {l : Launch} {e : Env} {s : State} {m : MethodId} {below : List Frame} {meth : Method} {c : Code} {H : Heap} {locs : List Loc} {cells slots : Nat} {Q : State → Prop} {ls : Array Slot} {Z : hw_Z} {M : hw_M} {i : Nat} (hi2 : i < 2) (hst : l.stackTraces = false) (CX : lw_cx p s m c Z) (hI : hw_iv Z s M H locs) (hl : lv_has ls 19 [(0, .ref Z.2.2.2), (1, .int (nI i))]) (hc9 : cells + 60000 ≤ 600104) (hs9 : slots + 1200000 ≤ 7301314)
    (K : ∀ (M1 : hw_M) (H1 : Heap) (locs1 : List Loc) (cells1 slots1 : Nat) (ls1 : Array Slot), hw_iv Z s M1 H1 locs1 → lv_has ls1 19 [(0, .ref Z.2.2.2), (1, .int (nI i))] → cells1 ≤ cells + 60000 → slots1 ≤ slots + 1200000 → W p l e room_1 s m #[Value.ref Z.2.2.2] below meth c H1 locs1 cells1 slots1 Q (F0 m 723 ls1 [])) :
    W p l e room_1 s m #[Value.ref Z.2.2.2] below meth c H locs cells slots Q (F0 m 7 ls []) := by
  refine sg_A hi2 hst CX hI hl (by omega) (by omega) (fun M1 H1 L1 c1 s1 ls1 ad t d C v3 v4 v5 v6 v7 v8 v9 v10 a0 a1 a2 a3 a4 a5 a6 a7 => ?_)
  refine sg_B1 hst CX a0 a1 a2 a3 (by omega) a5 (by omega) (by omega) (fun M2 H2 L2 c2 s2 ls2 q w d1 f b0 b1 b2 b3 b4 b5 b6 b7 b8 b9 b10 => ?_)
  refine sg_B2 hst CX b0 b1 b2 b3 b4 b5 a3 b6 b8 (by omega) (by omega) (fun M3 H3 L3 c3 s3 ls3 g0 g1 g2 g3 g4 g5 => ?_)
  have hD0 := lb_l0 b1 (show 0 < 8 by decide) a3
  have hD8 := lb_l8 C w
  generalize hb_laid C w = D at g2 g3 hD0 hD8
  have h9n := lb_ht hD0 7
  refine sg_C hst CX g0 g1 g2 (by omega) g3 (by omega) (by omega) (fun M4 H4 L4 c4 s4 ls4 q12 q13 q14 w b r d2 f12 sp ff k0 k1 k2 k3 k4 k5 k6 k7 k8 k9 k10 k11 k12 k13 k14 k15 k16 k17 k18 => ?_)
  obtain ⟨hB, hGB⟩ := sB_j D
  obtain ⟨⟨hb1, hb2⟩, -⟩ := lb_bs D (nI w) 19
  rw [← k2] at hb1 hb2
  refine lw_step (y := 0) (v := b) (G := 4000) hst CX k0 k4 k5 k6 k7 k8 k9 k10 k11 k12 (show d2 < 300 by omega) (by decide) hB hGB (by decide) k13 hD8 k1 (by omega) k14.1 rfl h9n (show 1 < 2 by decide) k16 (by omega) (by omega) (fun M5 H5 L5 c5 s5 ls5 S5 al5 G5 ff5 m0 m1 m2 m3 m4 m5 m6 m7 m8 m9 m10 m11 m12 m13 m14 => ?_)
  refine lw_step (y := 1) (v := min 20 (b + 1)) (G := G5) hst CX m0 m7 m8 m9 m10 m11 k9 k10 k11 k12 (show d2 + 1 < 300 by omega) (by decide) m1 m3 (by omega) k13 hD8 k1 (by omega) k14.2.1 rfl h9n m4 m12 (by omega) (by omega) (fun M6 H6 L6 c6 s6 ls6 S6 al6 G6 ff6 n0 n1 n2 n3 n4 n5 n6 n7 n8 n9 n10 n11 n12 n13 n14 => ?_)
  refine lw_step (y := 2) (v := r) (G := G6) hst CX n0 n7 n8 n9 n10 n11 k9 k10 k11 k12 (show d2 + 1 + 1 < 300 by omega) (by decide) n1 n3 (by omega) k13 hD8 k1 k3 k14.2.2 rfl h9n n4 n12 (by omega) (by omega) (fun M7 H7 L7 c7 s7 ls7 S7 al7 G7 ff7 o0 o1 o2 o3 o4 o5 o6 o7 o8 o9 o10 o11 o12 o13 o14 => ?_)
  refine sg_E (r := r) (S := S7) hst CX o0 o7 o8 o9 o10 o11 k9 k10 k11 k12 (show d2 + 1 + 1 + 1 ≤ 300 by omega) o1 o4 k2 k3 k14 (fun h7 => ?_) o12 (by omega) (by omega) (fun M8 H8 L8 c8 s8 ls8 p0 p1 p2 p3 => K M8 H8 L8 c8 s8 ls8 p0 p1 (by omega) (by omega))
  obtain ⟨h6, e2⟩ := o5 h7
  obtain ⟨h5, e1⟩ := n5 h6
  obtain ⟨-, e0⟩ := m5 h5
  exact ⟨by rw [o6 0 (by decide), n6 0 (by decide)]; exact e0, by rw [o6 1 (by decide)]; exact e1, e2⟩
theorem lw_law {p : Program} {l : Launch} {e : Env} {s : State} {m : MethodId} {below : List Frame} {meth : Method} {c : Code} {H : Heap} {locs : List Loc} {cells slots : Nat} {Q : State → Prop} {ls : Array Slot} {Z : hw_Z} {M : hw_M} (hst : l.stackTraces = false) (CX : lw_cx p s m c Z) (hI : hw_iv Z s M H locs) (hl : lv_has ls 19 [(0, .ref Z.2.2.2)]) (hc9 : cells + 150000 ≤ 600104) (hs9 : slots + 3000000 ≤ 7301314)
    (K : ∀ (M1 : hw_M) (H1 : Heap) (locs1 : List Loc) (cells1 slots1 : Nat) (ls1 : Array Slot), hw_iv Z s M1 H1 locs1 → lv_has ls1 19 [(0, .ref Z.2.2.2)] → cells1 ≤ cells + 150000 → slots1 ≤ slots + 3000000 → W p l e room_1 s m #[Value.ref Z.2.2.2] below meth c H1 locs1 cells1 slots1 Q (F0 m 729 ls1 [])) :
    W p l e room_1 s m #[Value.ref Z.2.2.2] below meth c H locs cells slots Q (F0 m 0 ls []) := by
  refine sg_0 hst CX hI hl (by omega) (by omega) (fun M1 H1 L1 c1 s1 ls1 a0 a1 a2 a3 => ?_)
  refine sg_2 (by decide) hst CX a0 a1 (by omega) (by omega) (fun M2 H2 L2 c2 s2 ls2 b0 b1 b2 b3 => ?_)
  refine lw_time (by decide) hst CX b0 b1 (by omega) (by omega) (fun M3 H3 L3 c3 s3 ls3 d0 d1 d2 d3 => ?_)
  refine sg_723 hst CX d0 d1 (by omega) (by omega) (fun M4 H4 L4 c4 s4 ls4 e0 e1 e2 e3 => ?_)
  refine sg_2 (by decide) hst CX e0 e1 (by omega) (by omega) (fun M5 H5 L5 c5 s5 ls5 f0 f1 f2 f3 => ?_)
  refine lw_time (by decide) hst CX f0 f1 (by omega) (by omega) (fun M6 H6 L6 c6 s6 ls6 g0 g1 g2 g3 => ?_)
  refine sg_723 hst CX g0 g1 (by omega) (by omega) (fun M7 H7 L7 c7 s7 ls7 h0 h1 h2 h3 => ?_)
  exact sg_2x hst CX h0 h1 (by omega) (by omega) (fun M8 H8 L8 c8 s8 ls8 k0 k1 k2 k3 => K M8 H8 L8 c8 s8 ls8 k0 k1 (by omega) (by omega))
