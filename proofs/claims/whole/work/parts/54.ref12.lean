/-- an upper end of bits that a product stays under -/
theorem hx_fitb {c : Nat} {q : Int} (hq : q ≤ -45) : FP.Core.encode FP.Core.b64 (FP.Core.settle FP.Core.b64 false c q) ≤ 1031 * 2 ^ 52 := by
  obtain ⟨h1, h2, h3, h4, h5⟩ := hx_b64
  unfold FP.Core.settle FP.Core.bound
  rw [h5, h4, h1]
  split
  · rw [if_pos (by omega), hx_enc]
    rw [show (false : Bool).toNat = 0 from rfl]
    split <;> omega
  · rw [if_pos (by omega), hx_enc, if_neg (by omega)]
    rw [show (false : Bool).toNat = 0 from rfl]
    omega
theorem hx_d2 {x : UInt64} (h : x.toNat ≤ 1031 * 2 ^ 52) : (FP.d2i x).toInt64 = FP.d2l x := by
  have hd : ∃ c q, FP.Core.decode FP.Core.b64 x.toNat = .fin false c q ∧ c < 2 ^ 53 ∧ q ≤ -44 := by
    rw [hx_dec]
    have hs : (x.toNat / 2 ^ 52 / 2048 % 2 == 1) = false := by
      have : x.toNat / 2 ^ 52 / 2048 % 2 = 0 := by omega
      rw [this]; rfl
    rw [hs, if_neg (by omega)]
    split
    · exact ⟨_, _, rfl, by omega, by omega⟩
    · exact ⟨_, _, rfl, by omega, by omega⟩
  obtain ⟨c, q, e, hc, hq⟩ := hd
  obtain ⟨t, e2, ht⟩ : ∃ t : Nat, FP.Core.truncate false c q = t ∧ t < 2 ^ 30 := by
    refine ⟨c * 2 ^ q.toNat / 2 ^ (-q).toNat, rfl, ?_⟩
    rw [show q.toNat = 0 by omega]
    refine Nat.div_lt_of_lt_mul ?_
    have : 2 ^ 44 ≤ 2 ^ (-q).toNat := Nat.pow_le_pow_right (by omega) (by omega)
    generalize 2 ^ (-q).toNat = m at this ⊢
    omega
  have e3 : FP.d2i x = Int32.ofInt t := by
    unfold FP.d2i FP.Core.d2i FP.Core.toI FP.Core.toInt
    rw [e]
    show Int32.ofInt (max (-2 ^ 31) (min (2 ^ 31 - 1) (FP.Core.truncate false c q))) = _
    rw [e2, show max (-2 ^ 31) (min (2 ^ 31 - 1) (t : Int)) = t by omega]
  have e4 : FP.d2l x = Int64.ofInt t := by
    unfold FP.d2l FP.Core.d2l FP.Core.toL FP.Core.toInt
    rw [e]
    show Int64.ofInt (max (-2 ^ 63) (min (2 ^ 63 - 1) (FP.Core.truncate false c q))) = _
    rw [e2, show max (-2 ^ 63) (min (2 ^ 63 - 1) (t : Int)) = t by omega]
  rw [e3, e4]
  refine Int64.toInt_inj.mp ?_
  rw [Int32.toInt_toInt64, Int32.toInt_ofInt_of_le (by omega) (by omega), Int64.toInt_ofInt_of_le (by omega) (by omega)]
theorem hf_d2 {u : UInt64} (h : hv_c u) (hz : hb_pz u) : (FP.d2i (FP.dmul u 4620693217682128896)).toInt64 = FP.d2l (FP.dmul u 4620693217682128896) := by
  have e8 : FP.Core.decode FP.Core.b64 (4620693217682128896 : UInt64).toNat = .fin false (2 ^ 52) (-49) := by decide +kernel
  have h : u.toNat ≤ 4625196817309499392 := UInt64.le_iff_toNat_le.mp (show u ≤ 4625196817309499392 from h)
  refine hx_d2 ?_
  have hm : FP.Core.encode FP.Core.b64 (FP.Core.round FP.Core.b64 (FP.Core.exactProduct (FP.Core.decode FP.Core.b64 u.toNat) (.fin false (2 ^ 52) (-49)))) ≤ 1031 * 2 ^ 52 := by
    have hd : ∃ c q, FP.Core.decode FP.Core.b64 u.toNat = .fin false c q ∧ c < 2 ^ 53 ∧ q ≤ -48 := by
      rw [hx_dec]
      have hs : (u.toNat / 2 ^ 52 / 2048 % 2 == 1) = false := by
        have : u.toNat / 2 ^ 52 / 2048 % 2 = 0 := by omega
        rw [this]; rfl
      rw [hs, if_neg (by omega)]
      split
      · exact ⟨_, _, rfl, by omega, by omega⟩
      · exact ⟨_, _, rfl, by omega, by omega⟩
    obtain ⟨c, q, e, hc, hq⟩ := hd
    rw [e]
    show FP.Core.encode FP.Core.b64 (FP.Core.roundRatio FP.Core.b64 (false != false) (c * 2 ^ 52) 1 (q + -49)) ≤ _
    unfold FP.Core.roundRatio
    split
    · rw [hx_enc, if_pos (by omega)]; simp
    · rename_i hz
      refine hx_fitb ?_
      unfold FP.Core.quantum
      obtain ⟨h1, h2, h3, h4, h5⟩ := hx_b64
      rw [hx_lead (by omega), h3, h5]
      have : (c * 2 ^ 52).log2 < 105 := (Nat.log2_lt hz).mpr (by omega)
      omega
  unfold FP.dmul FP.Core.dmul FP.Core.mul
  rw [e8, UInt64.toNat_ofNat_of_lt' (by have : UInt64.size = 2 ^ 64 := rfl; omega)]
  exact hm
def hr_X0 : hr_X := (nI 0, fun _ => nI 0, fun _ => false, fun _ _ _ => 0)
def hr_c0 (a q1 q2 q3 m0 m1 p0 p1 : Nat) : hp_ad := fun k i => if k = 0 then (if i = 0 then a else if i = 1 then q1 else if i = 2 then q2 else q3) else if k = 7 then (if i = 0 then m0 else m1) else (if i = 0 then p0 else p1)
theorem hr_make {Z : hw_Z} {M W : hw_M} {a q1 q2 q3 m0 m1 p0 p1 : Nat} (b1 : M q1 = none) (b2 : M q2 = none) (b3 : M q3 = none) (b4 : M m0 = none) (b5 : M m1 = none) (b6 : M p0 = none) (b7 : M p1 = none)
    (ha : [a, q1, q2, q3, m0, m1, p0, p1].Nodup) (e0 : W a = hw_ob 12 [.int (nI 0), .int 0, .int 0, .ref q2, .ref q3, .ref q1]) (e1 : W q1 = hw_ar Z 6 2 (fun j => some (if j = 0 then m0 else m1))) (e2 : W q2 = hw_ob 0 [.int (nI 0), .ref Z.2.2.2, .int 0]) (e3 : W q3 = hw_ob 0 [.int (nI 0), .ref Z.2.2.2, .int 0])
    (e4 : W m0 = hw_ob 8 [.int (-1), .int (-1), .int 0, .int (-1), .ref p0]) (e5 : W m1 = hw_ob 8 [.int (-1), .int (-1), .int 0, .int (-1), .ref p1]) (e6 : W p0 = hw_ob 0 [.int (nI 0), .ref Z.2.2.2, .int 0]) (e7 : W p1 = hw_ob 0 [.int (nI 0), .ref Z.2.2.2, .int 0]) :
    hr_ok Z (fun x => M x ≠ none ∧ x ≠ a) W (hr_c0 a q1 q2 q3 m0 m1 p0 p1) hs_0 hr_X0 := by
  have lab : ∀ k i, hr_p hs_0 hr_X0 k i → (k = 0 ∧ (i = 0 ∨ i = 1 ∨ i = 2 ∨ i = 3)) ∨ (k = 7 ∧ (i = 0 ∨ i = 1)) ∨ (k = 8 ∧ (i = 0 ∨ i = 1)) := by
    intro k i hi
    rcases k with _ | _ | _ | _ | _ | _ | _ | _ | _ | _ | _ | _ | _ | k
    · have h : i < 4 := hi; exact Or.inl ⟨rfl, by omega⟩
    · exact absurd hi (Nat.not_lt_zero _)
    · exact absurd hi (Nat.not_lt_zero _)
    · exact absurd hi (Nat.not_lt_zero _)
    · exact absurd hi (Nat.not_lt_zero _)
    · exact absurd hi (Nat.not_lt_zero _)
    · exact absurd hi (Nat.not_lt_zero _)
    · have h : i < 2 := hi; exact Or.inr (Or.inl ⟨rfl, by omega⟩)
    · have h : i < 2 := hi; exact Or.inr (Or.inr ⟨rfl, by omega⟩)
    · exact absurd (show false = true from hi.2) (by decide)
    · exact absurd hi (Nat.not_lt_zero _)
    · exact absurd hi.2 (Nat.not_lt_zero _)
    · exact absurd hi.2 (Nat.not_lt_zero _)
    · exact hi.elim
  simp only [List.nodup_cons, List.mem_cons, List.not_mem_nil, or_false, not_or, not_false_eq_true, List.nodup_nil, and_true] at ha
  obtain ⟨⟨n01, n02, n03, n04, n05, n06, n07⟩, ⟨n12, n13, n14, n15, n16, n17⟩, ⟨n23, n24, n25, n26, n27⟩, ⟨n34, n35, n36, n37⟩, ⟨n45, n46, n47⟩, ⟨n56, n57⟩, n67⟩ := ha
  refine ⟨?_, ?_, ?_, fun k m hk hm => absurd hm (Nat.not_lt_zero _), fun k hk hg => rfl⟩
  · intro k i hi
    rcases lab k i hi with ⟨rfl, rfl | rfl | rfl | rfl⟩ | ⟨rfl, rfl | rfl⟩ | ⟨rfl, rfl | rfl⟩
    · exact e0
    · exact e1
    · exact e2
    · exact e3
    · exact e4
    · exact e5
    · exact e6
    · exact e7
  · intro k i k' i' hi hi'
    rcases lab k i hi with ⟨rfl, rfl | rfl | rfl | rfl⟩ | ⟨rfl, rfl | rfl⟩ | ⟨rfl, rfl | rfl⟩ <;> rcases lab k' i' hi' with ⟨rfl, rfl | rfl | rfl | rfl⟩ | ⟨rfl, rfl | rfl⟩ | ⟨rfl, rfl | rfl⟩ <;> intro he
    all_goals first | exact ⟨rfl, rfl⟩ | exact absurd he n01 | exact absurd he n02 | exact absurd he n03 | exact absurd he n04 | exact absurd he n05 | exact absurd he n06 | exact absurd he n07 | exact absurd he n12 | exact absurd he n13 | exact absurd he n14 | exact absurd he n15 | exact absurd he n16 | exact absurd he n17 | exact absurd he n23 | exact absurd he n24 | exact absurd he n25 | exact absurd he n26 | exact absurd he n27 | exact absurd he n34 | exact absurd he n35 | exact absurd he n36 | exact absurd he n37 | exact absurd he n45 | exact absurd he n46 | exact absurd he n47 | exact absurd he n56 | exact absurd he n57 | exact absurd he n67 | exact absurd he.symm n01 | exact absurd he.symm n02 | exact absurd he.symm n03 | exact absurd he.symm n04 | exact absurd he.symm n05 | exact absurd he.symm n06 | exact absurd he.symm n07 | exact absurd he.symm n12 | exact absurd he.symm n13 | exact absurd he.symm n14 | exact absurd he.symm n15 | exact absurd he.symm n16 | exact absurd he.symm n17 | exact absurd he.symm n23 | exact absurd he.symm n24 | exact absurd he.symm n25 | exact absurd he.symm n26 | exact absurd he.symm n27 | exact absurd he.symm n34 | exact absurd he.symm n35 | exact absurd he.symm n36 | exact absurd he.symm n37 | exact absurd he.symm n45 | exact absurd he.symm n46 | exact absurd he.symm n47 | exact absurd he.symm n56 | exact absurd he.symm n57 | exact absurd he.symm n67
  · intro k i hi
    rcases lab k i hi with ⟨rfl, rfl | rfl | rfl | rfl⟩ | ⟨rfl, rfl | rfl⟩ | ⟨rfl, rfl | rfl⟩
    · exact fun q => q.2 rfl
    · exact fun q => q.1 b1
    · exact fun q => q.1 b2
    · exact fun q => q.1 b3
    · exact fun q => q.1 b4
    · exact fun q => q.1 b5
    · exact fun q => q.1 b6
    · exact fun q => q.1 b7
set_option maxHeartbeats 4000000 in
set_option maxRecDepth 100000 in
theorem m_X11_digest (l : Launch) (Z : hw_Z) (M : hw_M) (ad : hp_ad) (S : hs_S) (X : hr_X) (b1 : Nat → Prop) (hP : hr_ok Z b1 M ad S X) (hV : hv_ok S) (hA : ∀ a, b1 a → M a ≠ none) : Met l yX11_digest (hw_m yX11_digest cX11_digest 7 (some .long)) ({ frames := 8, cells := 256, slots := 6100, locals := 250 } : Room) (va_Pc [.ref (ad 0 0)] (hw_P Z M)) (hw_Ql Z (hr_R Z b1 M ad ((0 : Nat), st_digest S, S))) 256 6100 (hw_A Z) := by
  refine hw_ofl (by decide +kernel) rfl (Nat.le_of_ble_eq_true rfl) ?_
  intro p e s m below meth c ls Q hx hb hml hown hts hk hnm hI hl hret
  have hB := hV.b
  have hnp := hB.np
  have hnw := hB.nw
  have e0_0hP : M (ad 0 0) = hw_ob 12 [.int (hr_th X), .int (hs_G S 0), .int (hs_G S 1), .ref (ad 0 2), .ref (ad 0 3), .ref (ad 0 1)] := hP.m 0 0 (show 0 < 4 by decide)
  refine lv_aload_n hx hb dX11_digest_0 rfl (lv_at hl 0 rfl) ?_
  refine lv_iconst (v := nI 0) hx hb dX11_digest_1 (by decide) ?_
  refine hw_put (fs' := [.int (nI 0), .int (hs_G S 0), .int (hs_G S 1), .ref (ad 0 2), .ref (ad 0 3), .ref (ad 0 1)]) hx hb hts hown hk hI fp_X11_26 e0_0hP (Nat.le_of_ble_eq_true rfl) rfl rfl rfl dX11_digest_2 (fun H locs hI => ?_)
  obtain ⟨M1, hM1⟩ : ∃ Y : hw_M, Y = va_up M (ad 0 0) (hw_ob 12 [.int (nI 0), .int (hs_G S 0), .int (hs_G S 1), .ref (ad 0 2), .ref (ad 0 3), .ref (ad 0 1)]) := ⟨_, rfl⟩
  replace hI := hI.eq hM1.symm
  obtain ⟨X1, hX1⟩ : ∃ Y : hr_X, Y = (nI 0, X.2) := ⟨_, rfl⟩
  have hP1 : hr_ok Z b1 M1 ad S X1 := by rw [hM1, hX1]; exact hP.th (nI 0)
  have ht1 : hr_th X1 = nI 0 := by rw [hX1]; rfl
  have hgr1 : hr_gr X1 = hr_gr X := by rw [hX1]; rfl
  have hqq1 : hr_qq X1 = hr_qq X := by rw [hX1]; rfl
  have fr1 : ∀ a, b1 a → M1 a = M a := fun a ha => by rw [hM1]; exact va_up_ne _ _ (hP.f (k := 0) (i := 0) (show 0 < 4 by decide) ha)
  have hA1 : ∀ a, b1 a → M1 a ≠ none := fun a ha => by rw [fr1 a ha]; exact hA a ha
  clear hP hX1
  have e0_0hP1 : M1 (ad 0 0) = hw_ob 12 [.int (hr_th X1), .int (hs_G S 0), .int (hs_G S 1), .ref (ad 0 2), .ref (ad 0 3), .ref (ad 0 1)] := hP1.m 0 0 (show 0 < 4 by decide)
  have e0_1hP1 : M1 (ad 0 1) = hw_ar Z 6 2 (fun j => some (ad 7 j)) := hP1.m 0 1 (show 1 < 4 by decide)
  have e0_2hP1 : M1 (ad 0 2) = hw_ob 0 [.int (hr_mc X1 0), .ref (hr_d (hs_np S) Z.2.2.2 (ad 11 0)), .int (nI (hs_np S))] := hP1.m 0 2 (show 2 < 4 by decide)
  have e0_3hP1 : M1 (ad 0 3) = hw_ob 0 [.int (hr_mc X1 1), .ref (hr_d (hs_nw S) Z.2.2.2 (ad 12 0)), .int (nI (hs_nw S))] := hP1.m 0 3 (show 3 < 4 by decide)
  refine lv_ldc2 (v := 9608) hx hb hown (hts _ (hw_win (w := .constantLong RX11 250 (9608)) (by decide +kernel) (by decide +kernel))) dX11_digest_5 ?_
  refine lv_lstore_n (lv' := [(1, .long 9608), (0, .ref (ad 0 0))]) hx hb dX11_digest_8 rfl hl (by decide) rfl (fun ls hl => ?_)
  refine lv_iconst (v := nI 0) hx hb dX11_digest_9 (by decide) ?_
  refine lv_istore_n (lv' := [(3, .int (nI 0)), (1, .long 9608), (0, .ref (ad 0 0))]) hx hb dX11_digest_10 rfl hl (by decide) rfl (fun ls hl => ?_)
  refine hw_wr (cells1 := (1 * 0 + 0)) (slots1 := (8 * 0 + 0)) (by omega) (by omega) ?_
  suffices LP11 : ∀ v, v ≤ 8 → ∀ (M11i : hw_M) (hF11i : hr_F M1 M11i) (H : Heap) (locs : List Loc) (ls : Array Slot), hw_iv Z s (M11i) H locs → lv_has ls 7 [(1, .long (hd_f (fun w => (hs_many S w).toInt64) v 9608)), (3, .int (nI v)), (0, .ref (ad 0 0))] → W p l e ({ frames := 8, cells := 256, slots := 6100, locals := 250 } : Room) s m ([.ref (ad 0 0)] : List Value).toArray below meth c H locs (1 * v + 0) (8 * v + 0) Q (F0 m 11 ls []) from LP11 0 (by omega) M1 (hr_F_r M1) _ _ _ hI (lv_sub hl [1, 0, 2] rfl)
  refine hw_loop ?_ (fun v hi11 ih11 => ?_)
  · intro M11i hF11i H locs ls hI hl
    have hF_M11i : hr_F M1 M11i := hF11i
    have hP_M11i : hr_ok Z b1 M11i ad S X1 := hP1.F hF_M11i
    have hA_M11i : ∀ a, b1 a → M11i a ≠ none := fun a ha => by rw [hF_M11i a (hA1 a ha)]; exact hA1 a ha
    have fr_M11i : ∀ a, b1 a → M11i a = M a := fun a ha => (hF_M11i a (hA1 a ha)).trans (fr1 a ha)
    have e0_0hP_M11i : M11i (ad 0 0) = hw_ob 12 [.int (hr_th X1), .int (hs_G S 0), .int (hs_G S 1), .ref (ad 0 2), .ref (ad 0 3), .ref (ad 0 1)] := hP_M11i.m 0 0 (show 0 < 4 by decide)
    have e0_1hP_M11i : M11i (ad 0 1) = hw_ar Z 6 2 (fun j => some (ad 7 j)) := hP_M11i.m 0 1 (show 1 < 4 by decide)
    have e0_2hP_M11i : M11i (ad 0 2) = hw_ob 0 [.int (hr_mc X1 0), .ref (hr_d (hs_np S) Z.2.2.2 (ad 11 0)), .int (nI (hs_np S))] := hP_M11i.m 0 2 (show 2 < 4 by decide)
    have e0_3hP_M11i : M11i (ad 0 3) = hw_ob 0 [.int (hr_mc X1 1), .ref (hr_d (hs_nw S) Z.2.2.2 (ad 12 0)), .int (nI (hs_nw S))] := hP_M11i.m 0 3 (show 3 < 4 by decide)
    refine lv_iload_n hx hb dX11_digest_11 rfl (lv_at hl 1 rfl) ?_
    refine lv_bipush (v := nI 7) hx hb dX11_digest_12 (by decide) ?_
    refine lv_icmp_gt (tgt := 36) hx hb dX11_digest_14 (by decide) (fun _ => ?_) (fun hc => absurd (show nI 7 < nI 8 by decide) hc)
    refine lv_iconst (v := nI 0) hx hb dX11_digest_36 (by decide) ?_
    refine lv_istore_n (lv' := [(3, .int (nI 0)), (1, .long (hd_f (fun w => (hs_many S w).toInt64) 8 9608)), (0, .ref (ad 0 0))]) hx hb dX11_digest_37 rfl hl (by decide) rfl (fun ls hl => ?_)
    refine hw_wr (cells1 := (52 * 0 + 8)) (slots1 := (1454 * 0 + 64)) (by omega) (by omega) ?_
    suffices LP38 : ∀ i, i ≤ (hs_np S) → ∀ (M38i : hw_M) (hF38i : hr_F M1 M38i) (H : Heap) (locs : List Loc) (ls : Array Slot), hw_iv Z s (M38i) H locs → lv_has ls 7 [(1, .long (hd_pieces S i (hd_f (fun w => (hs_many S w).toInt64) 8 9608))), (3, .int (nI i)), (0, .ref (ad 0 0))] → W p l e ({ frames := 8, cells := 256, slots := 6100, locals := 250 } : Room) s m ([.ref (ad 0 0)] : List Value).toArray below meth c H locs (52 * i + 8) (1454 * i + 64) Q (F0 m 38 ls []) from LP38 0 (by omega) M11i hF_M11i _ _ _ hI (lv_sub hl [1, 0, 2] rfl)
    refine hw_loop ?_ (fun i hi38 ih38 => ?_)
    · intro M38i hF38i H locs ls hI hl
      have hF_M38i : hr_F M1 M38i := hF38i
      have hP_M38i : hr_ok Z b1 M38i ad S X1 := hP1.F hF_M38i
      have hA_M38i : ∀ a, b1 a → M38i a ≠ none := fun a ha => by rw [hF_M38i a (hA1 a ha)]; exact hA1 a ha
      have fr_M38i : ∀ a, b1 a → M38i a = M a := fun a ha => (hF_M38i a (hA1 a ha)).trans (fr1 a ha)
      have e0_0hP_M38i : M38i (ad 0 0) = hw_ob 12 [.int (hr_th X1), .int (hs_G S 0), .int (hs_G S 1), .ref (ad 0 2), .ref (ad 0 3), .ref (ad 0 1)] := hP_M38i.m 0 0 (show 0 < 4 by decide)
      have e0_1hP_M38i : M38i (ad 0 1) = hw_ar Z 6 2 (fun j => some (ad 7 j)) := hP_M38i.m 0 1 (show 1 < 4 by decide)
      have e0_2hP_M38i : M38i (ad 0 2) = hw_ob 0 [.int (hr_mc X1 0), .ref (hr_d (hs_np S) Z.2.2.2 (ad 11 0)), .int (nI (hs_np S))] := hP_M38i.m 0 2 (show 2 < 4 by decide)
      have e0_3hP_M38i : M38i (ad 0 3) = hw_ob 0 [.int (hr_mc X1 1), .ref (hr_d (hs_nw S) Z.2.2.2 (ad 12 0)), .int (nI (hs_nw S))] := hP_M38i.m 0 3 (show 3 < 4 by decide)
      refine lv_iload_n hx hb dX11_digest_38 rfl (lv_at hl 1 rfl) ?_
      refine lv_aload_n hx hb dX11_digest_39 rfl (lv_at hl 2 rfl) ?_
      refine hw_get hx hb hts hown hk hI fd_X11_10 e0_0hP_M38i rfl dX11_digest_40 ?_
      refine hw_cFi hI (hw_rF hx hb hml hown hts hk hI (m_Jx4a65c_size_8abf5 l Z M38i (ad 0 2) (hs_np S) (hr_mc X1 0) (.ref (hr_d (hs_np S) Z.2.2.2 (ad 11 0))) e0_2hP_M38i) cf_X11_34 e0_2hP_M38i rfl rfl ⟨rfl, rfl⟩ ⟨(by first | exact Nat.le_of_ble_eq_true rfl | omega | (dsimp only; omega)), (by first | exact Nat.le_of_ble_eq_true rfl | omega | (dsimp only; omega))⟩ rfl hl.1 rfl (by first | exact Nat.le_of_ble_eq_true rfl | omega | (dsimp only; omega)) ⟨(by first | exact Nat.le_of_ble_eq_true rfl | omega | (dsimp only; omega)), (by first | exact Nat.le_of_ble_eq_true rfl | omega | (dsimp only; omega))⟩ dX11_digest_43) (fun r43 M43 H locs hR hI => ?_)
      obtain ⟨rfl, rfl⟩ := hR
      refine lv_icmp_ge (tgt := 211) hx hb dX11_digest_48 (by decide) (fun _ => ?_) (fun hc => absurd (Int32.le_refl _) hc)
      refine lv_iconst (v := nI 0) hx hb dX11_digest_211 (by decide) ?_
      refine lv_istore_n (lv' := [(3, .int (nI 0)), (1, .long (hd_pieces S (hs_np S) (hd_f (fun w => (hs_many S w).toInt64) 8 9608))), (0, .ref (ad 0 0))]) hx hb dX11_digest_212 rfl hl (by decide) rfl (fun ls hl => ?_)
      refine hw_wr (cells1 := (52 * (hs_np S) + 5 * 0 + 8)) (slots1 := (1454 * (hs_np S) + 25 * 0 + 64)) (by omega) (by omega) ?_
      suffices LP213 : ∀ j, j ≤ (hs_nw S) → ∀ (M213i : hw_M) (hF213i : hr_F M1 M213i) (H : Heap) (locs : List Loc) (ls : Array Slot), hw_iv Z s (M213i) H locs → lv_has ls 7 [(1, .long (hd_powders S j (hd_pieces S (hs_np S) (hd_f (fun w => (hs_many S w).toInt64) 8 9608)))), (3, .int (nI j)), (0, .ref (ad 0 0))] → W p l e ({ frames := 8, cells := 256, slots := 6100, locals := 250 } : Room) s m ([.ref (ad 0 0)] : List Value).toArray below meth c H locs (52 * (hs_np S) + 5 * j + 8) (1454 * (hs_np S) + 25 * j + 64) Q (F0 m 213 ls []) from LP213 0 (by omega) M38i hF_M38i _ _ _ hI (lv_sub hl [1, 0, 2] rfl)
      refine hw_loop ?_ (fun j hi213 ih213 => ?_)
      · intro M213i hF213i H locs ls hI hl
        have hF_M213i : hr_F M1 M213i := hF213i
        have hP_M213i : hr_ok Z b1 M213i ad S X1 := hP1.F hF_M213i
        have hA_M213i : ∀ a, b1 a → M213i a ≠ none := fun a ha => by rw [hF_M213i a (hA1 a ha)]; exact hA1 a ha
        have fr_M213i : ∀ a, b1 a → M213i a = M a := fun a ha => (hF_M213i a (hA1 a ha)).trans (fr1 a ha)
        have e0_0hP_M213i : M213i (ad 0 0) = hw_ob 12 [.int (hr_th X1), .int (hs_G S 0), .int (hs_G S 1), .ref (ad 0 2), .ref (ad 0 3), .ref (ad 0 1)] := hP_M213i.m 0 0 (show 0 < 4 by decide)
        have e0_1hP_M213i : M213i (ad 0 1) = hw_ar Z 6 2 (fun j => some (ad 7 j)) := hP_M213i.m 0 1 (show 1 < 4 by decide)
        have e0_2hP_M213i : M213i (ad 0 2) = hw_ob 0 [.int (hr_mc X1 0), .ref (hr_d (hs_np S) Z.2.2.2 (ad 11 0)), .int (nI (hs_np S))] := hP_M213i.m 0 2 (show 2 < 4 by decide)
        have e0_3hP_M213i : M213i (ad 0 3) = hw_ob 0 [.int (hr_mc X1 1), .ref (hr_d (hs_nw S) Z.2.2.2 (ad 12 0)), .int (nI (hs_nw S))] := hP_M213i.m 0 3 (show 3 < 4 by decide)
        refine lv_iload_n hx hb dX11_digest_213 rfl (lv_at hl 1 rfl) ?_
        refine lv_aload_n hx hb dX11_digest_214 rfl (lv_at hl 2 rfl) ?_
        refine hw_get hx hb hts hown hk hI fd_X11_16 e0_0hP_M213i rfl dX11_digest_215 ?_
        refine hw_cFi hI (hw_rF hx hb hml hown hts hk hI (m_Jx4a65c_size_8abf5 l Z M213i (ad 0 3) (hs_nw S) (hr_mc X1 1) (.ref (hr_d (hs_nw S) Z.2.2.2 (ad 12 0))) e0_3hP_M213i) cf_X11_34 e0_3hP_M213i rfl rfl ⟨rfl, rfl⟩ ⟨(by first | exact Nat.le_of_ble_eq_true rfl | omega | (dsimp only; omega)), (by first | exact Nat.le_of_ble_eq_true rfl | omega | (dsimp only; omega))⟩ rfl hl.1 rfl (by first | exact Nat.le_of_ble_eq_true rfl | omega | (dsimp only; omega)) ⟨(by first | exact Nat.le_of_ble_eq_true rfl | omega | (dsimp only; omega)), (by first | exact Nat.le_of_ble_eq_true rfl | omega | (dsimp only; omega))⟩ dX11_digest_218) (fun r218 M218 H locs hR hI => ?_)
        obtain ⟨rfl, rfl⟩ := hR
        refine lv_icmp_ge (tgt := 275) hx hb dX11_digest_223 (by decide) (fun _ => ?_) (fun hc => absurd (Int32.le_refl _) hc)
        refine lv_iconst (v := nI 0) hx hb dX11_digest_275 (by decide) ?_
        refine lv_istore_n (lv' := [(3, .int (nI 0)), (1, .long (hd_powders S (hs_nw S) (hd_pieces S (hs_np S) (hd_f (fun w => (hs_many S w).toInt64) 8 9608)))), (0, .ref (ad 0 0))]) hx hb dX11_digest_276 rfl hl (by decide) rfl (fun ls hl => ?_)
        refine hw_wr (cells1 := (52 * (hs_np S) + 5 * (hs_nw S) + 5 * 0 + 8)) (slots1 := (1454 * (hs_np S) + 25 * (hs_nw S) + 25 * 0 + 64)) (by omega) (by omega) ?_
        suffices LP277 : ∀ k, k ≤ 2 → ∀ (M277i : hw_M) (hF277i : hr_F M1 M277i) (H : Heap) (locs : List Loc) (ls : Array Slot), hw_iv Z s (M277i) H locs → lv_has ls 7 [(1, .long (hd_machines S k (hd_powders S (hs_nw S) (hd_pieces S (hs_np S) (hd_f (fun w => (hs_many S w).toInt64) 8 9608))))), (3, .int (nI k)), (0, .ref (ad 0 0))] → W p l e ({ frames := 8, cells := 256, slots := 6100, locals := 250 } : Room) s m ([.ref (ad 0 0)] : List Value).toArray below meth c H locs (52 * (hs_np S) + 5 * (hs_nw S) + 5 * k + 8) (1454 * (hs_np S) + 25 * (hs_nw S) + 25 * k + 64) Q (F0 m 277 ls []) from LP277 0 (by omega) M213i hF_M213i _ _ _ hI (lv_sub hl [1, 0, 2] rfl)
        refine hw_loop ?_ (fun k hi277 ih277 => ?_)
        · intro M277i hF277i H locs ls hI hl
          have hF_M277i : hr_F M1 M277i := hF277i
          have hP_M277i : hr_ok Z b1 M277i ad S X1 := hP1.F hF_M277i
          have hA_M277i : ∀ a, b1 a → M277i a ≠ none := fun a ha => by rw [hF_M277i a (hA1 a ha)]; exact hA1 a ha
          have fr_M277i : ∀ a, b1 a → M277i a = M a := fun a ha => (hF_M277i a (hA1 a ha)).trans (fr1 a ha)
          have e0_0hP_M277i : M277i (ad 0 0) = hw_ob 12 [.int (hr_th X1), .int (hs_G S 0), .int (hs_G S 1), .ref (ad 0 2), .ref (ad 0 3), .ref (ad 0 1)] := hP_M277i.m 0 0 (show 0 < 4 by decide)
          have e0_1hP_M277i : M277i (ad 0 1) = hw_ar Z 6 2 (fun j => some (ad 7 j)) := hP_M277i.m 0 1 (show 1 < 4 by decide)
          have e0_2hP_M277i : M277i (ad 0 2) = hw_ob 0 [.int (hr_mc X1 0), .ref (hr_d (hs_np S) Z.2.2.2 (ad 11 0)), .int (nI (hs_np S))] := hP_M277i.m 0 2 (show 2 < 4 by decide)
          have e0_3hP_M277i : M277i (ad 0 3) = hw_ob 0 [.int (hr_mc X1 1), .ref (hr_d (hs_nw S) Z.2.2.2 (ad 12 0)), .int (nI (hs_nw S))] := hP_M277i.m 0 3 (show 3 < 4 by decide)
          refine lv_iload_n hx hb dX11_digest_277 rfl (lv_at hl 1 rfl) ?_
          refine lv_iconst (v := nI 2) hx hb dX11_digest_278 (by decide) ?_
          refine lv_icmp_ge (tgt := 318) hx hb dX11_digest_279 (by decide) (fun _ => ?_) (fun hc => absurd (Int32.le_refl _) hc)
          refine lv_lload_n hx hb dX11_digest_318 rfl (lv_at hl 0 rfl) ?_
          have hok : hr_ok Z b1 (M277i) ad (S) (X1) := by
            refine hr_old hP_M277i (fun _ _ hi => hi) ?_ hP_M277i.q hP_M277i.g
            intro k i hi
            rcases k with _ | _ | _ | _ | _ | _ | _ | _ | _ | _ | _ | _ | _ | k
            · rcases (show i = 0 ∨ i = 1 ∨ i = 2 ∨ i = 3 by have h4 : i < 4 := hi; omega) with rfl | rfl | rfl | rfl
              · show (M277i) (ad 0 0) = hw_ob 12 [.int (hr_th X1), .int (hs_G S 0), .int (hs_G S 1), .ref (ad 0 2), .ref (ad 0 3), .ref (ad 0 1)]
                refine (hP_M277i.m 0 0 (show 0 < 4 by decide)).trans ?_
                first | rfl | (simp only [va_up_self]; done) | (simp only [va_up_self]; rfl)
              · show (M277i) (ad 0 1) = hw_ar Z 6 2 (fun j => some (ad 7 j))
                refine (hP_M277i.m 0 1 (show 1 < 4 by decide)).trans ?_
                first | rfl | (simp only [va_up_self]; done) | (simp only [va_up_self]; rfl)
              · show (M277i) (ad 0 2) = hw_ob 0 [.int (hr_mc X1 0), .ref (hr_d (hs_np S) Z.2.2.2 (ad 11 0)), .int (nI (hs_np S))]
                refine (hP_M277i.m 0 2 (show 2 < 4 by decide)).trans ?_
                first | rfl | (simp only [va_up_self]; done) | (simp only [va_up_self]; rfl)
              · show (M277i) (ad 0 3) = hw_ob 0 [.int (hr_mc X1 1), .ref (hr_d (hs_nw S) Z.2.2.2 (ad 12 0)), .int (nI (hs_nw S))]
                refine (hP_M277i.m 0 3 (show 3 < 4 by decide)).trans ?_
                first | rfl | (simp only [va_up_self]; done) | (simp only [va_up_self]; rfl)
            · show (M277i) (ad 1 i) = hw_ob 9 [.ref (ad 2 i), .int (hs_P S i 0), .ref (ad 4 i), .int (hs_P S i 3), .int (hs_P S i 4), .int (hs_P S i 5), .int (hs_P S i 6), .int (hs_P S i 7), .int (hs_P S i 8)]
              refine (hP_M277i.m 1 i hi).trans ?_
              first | rfl
            · show (M277i) (ad 2 i) = hw_ob 11 [.ref (ad 3 i)]
              refine (hP_M277i.m 2 i hi).trans ?_
              first | rfl
            · show (M277i) (ad 3 i) = hw_al Z 8 (hs_C S i)
              refine (hP_M277i.m 3 i hi).trans ?_
              first | rfl
            · show (M277i) (ad 4 i) = hw_ob 7 [.double (hr_en (hs_P S i)), .ref (ad 5 i), .double (hs_U S i), .int (hs_P S i 1), .int (hs_P S i 2), .int (nI (hs_D S i))]
              refine (hP_M277i.m 4 i hi).trans ?_
              first | rfl
            · show (M277i) (ad 5 i) = hw_ad Z 64 (hs_W S i)
              refine (hP_M277i.m 5 i hi).trans ?_
              first | rfl
            · show (M277i) (ad 6 i) = hw_ob 10 [.int (hs_V S i 0), .int (hs_V S i 1), .int (hs_V S i 2), .int (hs_V S i 3), .int (hs_V S i 4)]
              refine (hP_M277i.m 6 i hi).trans ?_
              first | rfl
            · show (M277i) (ad 7 i) = hw_ob 8 [.int (hs_M S i 0), .int (hs_M S i 1), .int (hs_M S i 2), .int (hs_M S i 3), .ref (ad 8 i)]
              refine (hP_M277i.m 7 i hi).trans ?_
              first | rfl
            · show (M277i) (ad 8 i) = hw_ob 0 [.int (hr_mc X1 (2 + i)), .ref (if hr_gr X1 i then ad 9 i else Z.2.2.2), .int (nI (hs_N S i))]
              refine (hP_M277i.m 8 i hi).trans ?_
              first | rfl
            · show (M277i) (ad 9 i) = hw_ar Z 7 10 (hc_f (fun j => ad 10 (i + 2 * j)) (hs_N S i))
              refine (hP_M277i.m 9 i hi).trans ?_
              first | rfl
            · show (M277i) (ad 10 i) = hw_ai Z 3 (hr_qq X1 (i % 2) (i / 2))
              refine (hP_M277i.m 10 i hi).trans ?_
              first | rfl
            · show (M277i) (ad 11 i) = hw_ar Z 7 10 (hc_f (ad 1) (hs_np S))
              refine (hP_M277i.m 11 i hi).trans ?_
              first | rfl
            · show (M277i) (ad 12 i) = hw_ar Z 7 10 (hc_f (ad 6) (hs_nw S))
              refine (hP_M277i.m 12 i hi).trans ?_
              first | rfl
            · exact hi.elim
          have fr_hok : ∀ a, b1 a → (M277i) a = M a := fun a ha => fr_M277i a ha
          have hfin : hr_R Z b1 M ad (((0 : Nat), st_digest S, S)) (hd_machines S 2 (hd_powders S (hs_nw S) (hd_pieces S (hs_np S) (hd_f (fun w => (hs_many S w).toInt64) 8 9608)))) (M277i) := hr_r (S' := S) (X' := X1) (ad' := ad) rfl rfl hok ht1 fr_hok
          exact hret hI hfin (by first | exact Nat.le_of_ble_eq_true rfl | omega | (dsimp only; omega)) (by first | exact Nat.le_of_ble_eq_true rfl | omega | (dsimp only; omega)) dX11_digest_319
        · intro M277i hF277i H locs ls hI hl
          have hF_M277i : hr_F M1 M277i := hF277i
          have hP_M277i : hr_ok Z b1 M277i ad S X1 := hP1.F hF_M277i
          have hA_M277i : ∀ a, b1 a → M277i a ≠ none := fun a ha => by rw [hF_M277i a (hA1 a ha)]; exact hA1 a ha
          have fr_M277i : ∀ a, b1 a → M277i a = M a := fun a ha => (hF_M277i a (hA1 a ha)).trans (fr1 a ha)
          have e0_0hP_M277i : M277i (ad 0 0) = hw_ob 12 [.int (hr_th X1), .int (hs_G S 0), .int (hs_G S 1), .ref (ad 0 2), .ref (ad 0 3), .ref (ad 0 1)] := hP_M277i.m 0 0 (show 0 < 4 by decide)
          have e0_1hP_M277i : M277i (ad 0 1) = hw_ar Z 6 2 (fun j => some (ad 7 j)) := hP_M277i.m 0 1 (show 1 < 4 by decide)
          have e0_2hP_M277i : M277i (ad 0 2) = hw_ob 0 [.int (hr_mc X1 0), .ref (hr_d (hs_np S) Z.2.2.2 (ad 11 0)), .int (nI (hs_np S))] := hP_M277i.m 0 2 (show 2 < 4 by decide)
          have e0_3hP_M277i : M277i (ad 0 3) = hw_ob 0 [.int (hr_mc X1 1), .ref (hr_d (hs_nw S) Z.2.2.2 (ad 12 0)), .int (nI (hs_nw S))] := hP_M277i.m 0 3 (show 3 < 4 by decide)
          refine lv_iload_n hx hb dX11_digest_277 rfl (lv_at hl 1 rfl) ?_
          refine lv_iconst (v := nI 2) hx hb dX11_digest_278 (by decide) ?_
          refine lv_icmp_ge (tgt := 318) hx hb dX11_digest_279 (by decide) (fun hc => absurd hc (nI_ge hi277 (by decide))) (fun _ => ?_)
          refine lv_iconst (v := nI 0) hx hb dX11_digest_282 (by decide) ?_
          refine lv_istore (lv' := [(4, .int (nI 0)), (1, .long (hd_machines S k (hd_powders S (hs_nw S) (hd_pieces S (hs_np S) (hd_f (fun w => (hs_many S w).toInt64) 8 9608))))), (3, .int (nI k)), (0, .ref (ad 0 0))]) hx hb dX11_digest_283 hl (by decide) rfl (fun ls hl => ?_)
          refine hw_wr (cells1 := (52 * (hs_np S) + 5 * (hs_nw S) + 5 * k + 1 * 0 + 8)) (slots1 := (1454 * (hs_np S) + 25 * (hs_nw S) + 25 * k + 5 * 0 + 64)) (by omega) (by omega) ?_
          suffices LP285 : ∀ w, w ≤ 5 → ∀ (M285i : hw_M) (hF285i : hr_F M1 M285i) (H : Heap) (locs : List Loc) (ls : Array Slot), hw_iv Z s (M285i) H locs → lv_has ls 7 [(1, .long (hd_f (fun w => (hs_om S k w).toInt64) w (hd_machines S k (hd_powders S (hs_nw S) (hd_pieces S (hs_np S) (hd_f (fun w => (hs_many S w).toInt64) 8 9608)))))), (4, .int (nI w)), (3, .int (nI k)), (0, .ref (ad 0 0))] → W p l e ({ frames := 8, cells := 256, slots := 6100, locals := 250 } : Room) s m ([.ref (ad 0 0)] : List Value).toArray below meth c H locs (52 * (hs_np S) + 5 * (hs_nw S) + 5 * k + 1 * w + 8) (1454 * (hs_np S) + 25 * (hs_nw S) + 25 * k + 5 * w + 64) Q (F0 m 285 ls []) from LP285 0 (by omega) M277i hF_M277i _ _ _ hI (lv_sub hl [1, 0, 2, 3] rfl)
          refine hw_loop ?_ (fun w hi285 ih285 => ?_)
          · intro M285i hF285i H locs ls hI hl
            have hF_M285i : hr_F M1 M285i := hF285i
            have hP_M285i : hr_ok Z b1 M285i ad S X1 := hP1.F hF_M285i
            have hA_M285i : ∀ a, b1 a → M285i a ≠ none := fun a ha => by rw [hF_M285i a (hA1 a ha)]; exact hA1 a ha
            have fr_M285i : ∀ a, b1 a → M285i a = M a := fun a ha => (hF_M285i a (hA1 a ha)).trans (fr1 a ha)
            have e0_0hP_M285i : M285i (ad 0 0) = hw_ob 12 [.int (hr_th X1), .int (hs_G S 0), .int (hs_G S 1), .ref (ad 0 2), .ref (ad 0 3), .ref (ad 0 1)] := hP_M285i.m 0 0 (show 0 < 4 by decide)
            have e0_1hP_M285i : M285i (ad 0 1) = hw_ar Z 6 2 (fun j => some (ad 7 j)) := hP_M285i.m 0 1 (show 1 < 4 by decide)
            have e0_2hP_M285i : M285i (ad 0 2) = hw_ob 0 [.int (hr_mc X1 0), .ref (hr_d (hs_np S) Z.2.2.2 (ad 11 0)), .int (nI (hs_np S))] := hP_M285i.m 0 2 (show 2 < 4 by decide)
            have e0_3hP_M285i : M285i (ad 0 3) = hw_ob 0 [.int (hr_mc X1 1), .ref (hr_d (hs_nw S) Z.2.2.2 (ad 12 0)), .int (nI (hs_nw S))] := hP_M285i.m 0 3 (show 3 < 4 by decide)
            refine lv_iload hx hb dX11_digest_285 (lv_at hl 1 rfl) ?_
            refine lv_iconst (v := nI 4) hx hb dX11_digest_287 (by decide) ?_
            refine lv_icmp_gt (tgt := 312) hx hb dX11_digest_288 (by decide) (fun _ => ?_) (fun hc => absurd (show nI 4 < nI 5 by decide) hc)
            refine lv_iinc (v := nI (k + 1)) (lv' := [(3, .int (nI (k + 1))), (1, .long (hd_f (fun w => (hs_om S k w).toInt64) 5 (hd_machines S k (hd_powders S (hs_nw S) (hd_pieces S (hs_np S) (hd_f (fun w => (hs_many S w).toInt64) 8 9608)))))), (4, .int (nI 5)), (0, .ref (ad 0 0))]) hx hb dX11_digest_312 hl (k := 2) rfl (hw_inc _) (by decide) rfl (fun ls hl => ?_)
            refine lv_goto (tgt := 277) hx hb dX11_digest_315 (by decide) ?_
            refine hw_wr (cells1 := (52 * (hs_np S) + 5 * (hs_nw S) + 5 * (k + 1) + 8)) (slots1 := (1454 * (hs_np S) + 25 * (hs_nw S) + 25 * (k + 1) + 64)) (by omega) (by omega) ?_
            exact ih277 _ hF_M285i _ _ _ hI (lv_sub hl [1, 0, 3] rfl)
          · intro M285i hF285i H locs ls hI hl
            have hF_M285i : hr_F M1 M285i := hF285i
            have hP_M285i : hr_ok Z b1 M285i ad S X1 := hP1.F hF_M285i
            have hA_M285i : ∀ a, b1 a → M285i a ≠ none := fun a ha => by rw [hF_M285i a (hA1 a ha)]; exact hA1 a ha
            have fr_M285i : ∀ a, b1 a → M285i a = M a := fun a ha => (hF_M285i a (hA1 a ha)).trans (fr1 a ha)
            have e0_0hP_M285i : M285i (ad 0 0) = hw_ob 12 [.int (hr_th X1), .int (hs_G S 0), .int (hs_G S 1), .ref (ad 0 2), .ref (ad 0 3), .ref (ad 0 1)] := hP_M285i.m 0 0 (show 0 < 4 by decide)
            have e0_1hP_M285i : M285i (ad 0 1) = hw_ar Z 6 2 (fun j => some (ad 7 j)) := hP_M285i.m 0 1 (show 1 < 4 by decide)
            have e0_2hP_M285i : M285i (ad 0 2) = hw_ob 0 [.int (hr_mc X1 0), .ref (hr_d (hs_np S) Z.2.2.2 (ad 11 0)), .int (nI (hs_np S))] := hP_M285i.m 0 2 (show 2 < 4 by decide)
            have e0_3hP_M285i : M285i (ad 0 3) = hw_ob 0 [.int (hr_mc X1 1), .ref (hr_d (hs_nw S) Z.2.2.2 (ad 12 0)), .int (nI (hs_nw S))] := hP_M285i.m 0 3 (show 3 < 4 by decide)
            refine lv_iload hx hb dX11_digest_285 (lv_at hl 1 rfl) ?_
            refine lv_iconst (v := nI 4) hx hb dX11_digest_287 (by decide) ?_
            refine lv_icmp_gt (tgt := 312) hx hb dX11_digest_288 (by decide) (fun hc => absurd hc (nI_nlt (by omega) (by omega))) (fun _ => ?_)
            refine lv_lload_n hx hb dX11_digest_291 rfl (lv_at hl 0 rfl) ?_
            refine lv_ldc2 (v := 31) hx hb hown (hts _ (hw_win (w := .constantLong RX11 252 (31)) (by decide +kernel) (by decide +kernel))) dX11_digest_292 ?_
            refine lv_lmul hx hb dX11_digest_295 ?_
            refine lv_aload_n hx hb dX11_digest_296 rfl (lv_at hl 3 rfl) ?_
            refine lv_iload_n hx hb dX11_digest_297 rfl (lv_at hl 2 rfl) ?_
            refine lv_iload hx hb dX11_digest_298 (lv_at hl 1 rfl) ?_
            refine hw_ci hI (hw_rV hx hb hml hown hts hk hI (m_X11_machineNow l Z M285i ad S X1 b1 k w hP_M285i hV hi277 hi285) cv_X11_230 e0_0hP_M285i rfl rfl ⟨rfl, rfl⟩ ⟨(by first | exact Nat.le_of_ble_eq_true rfl | omega | (dsimp only; omega)), (by first | exact Nat.le_of_ble_eq_true rfl | omega | (dsimp only; omega))⟩ rfl hl.1 rfl (by first | exact Nat.le_of_ble_eq_true rfl | omega | (dsimp only; omega)) ⟨(by first | exact Nat.le_of_ble_eq_true rfl | omega | (dsimp only; omega)), (by first | exact Nat.le_of_ble_eq_true rfl | omega | (dsimp only; omega))⟩ dX11_digest_300) (fun r300 M300 H locs hR hI => ?_)
            obtain ⟨rfl, hF300⟩ := hR
            have hF_M300 : hr_F M1 M300 := (hF_M285i).t hF300
            have hP_M300 : hr_ok Z b1 M300 ad S X1 := hP1.F hF_M300
            have hA_M300 : ∀ a, b1 a → M300 a ≠ none := fun a ha => by rw [hF_M300 a (hA1 a ha)]; exact hA1 a ha
            have fr_M300 : ∀ a, b1 a → M300 a = M a := fun a ha => (hF_M300 a (hA1 a ha)).trans (fr1 a ha)
            have e0_0hP_M300 : M300 (ad 0 0) = hw_ob 12 [.int (hr_th X1), .int (hs_G S 0), .int (hs_G S 1), .ref (ad 0 2), .ref (ad 0 3), .ref (ad 0 1)] := hP_M300.m 0 0 (show 0 < 4 by decide)
            have e0_1hP_M300 : M300 (ad 0 1) = hw_ar Z 6 2 (fun j => some (ad 7 j)) := hP_M300.m 0 1 (show 1 < 4 by decide)
            have e0_2hP_M300 : M300 (ad 0 2) = hw_ob 0 [.int (hr_mc X1 0), .ref (hr_d (hs_np S) Z.2.2.2 (ad 11 0)), .int (nI (hs_np S))] := hP_M300.m 0 2 (show 2 < 4 by decide)
            have e0_3hP_M300 : M300 (ad 0 3) = hw_ob 0 [.int (hr_mc X1 1), .ref (hr_d (hs_nw S) Z.2.2.2 (ad 12 0)), .int (nI (hs_nw S))] := hP_M300.m 0 3 (show 3 < 4 by decide)
            refine lv_i2l (v := (hs_om S k w).toInt64) hx hb dX11_digest_303 rfl ?_
            refine lv_ladd hx hb dX11_digest_304 ?_
            refine lv_lstore_n (lv' := [(1, .long (((hd_f (fun w => (hs_om S k w).toInt64) w (hd_machines S k (hd_powders S (hs_nw S) (hd_pieces S (hs_np S) (hd_f (fun w => (hs_many S w).toInt64) 8 9608))))) * 31) + ((hs_om S k w).toInt64))), (4, .int (nI w)), (3, .int (nI k)), (0, .ref (ad 0 0))]) hx hb dX11_digest_305 rfl hl (by decide) rfl (fun ls hl => ?_)
            refine lv_iinc (v := nI (w + 1)) (lv' := [(4, .int (nI (w + 1))), (1, .long (((hd_f (fun w => (hs_om S k w).toInt64) w (hd_machines S k (hd_powders S (hs_nw S) (hd_pieces S (hs_np S) (hd_f (fun w => (hs_many S w).toInt64) 8 9608))))) * 31) + ((hs_om S k w).toInt64))), (3, .int (nI k)), (0, .ref (ad 0 0))]) hx hb dX11_digest_306 hl (k := 1) rfl (hw_inc _) (by decide) rfl (fun ls hl => ?_)
            refine lv_goto (tgt := 285) hx hb dX11_digest_309 (by decide) ?_
            refine hw_wr (cells1 := (52 * (hs_np S) + 5 * (hs_nw S) + 5 * k + 1 * (w + 1) + 8)) (slots1 := (1454 * (hs_np S) + 25 * (hs_nw S) + 25 * k + 5 * (w + 1) + 64)) (by omega) (by omega) ?_
            exact ih285 _ hF_M300 _ _ _ hI (lv_sub hl [1, 0, 2, 3] rfl)
      · intro M213i hF213i H locs ls hI hl
        have hF_M213i : hr_F M1 M213i := hF213i
        have hP_M213i : hr_ok Z b1 M213i ad S X1 := hP1.F hF_M213i
        have hA_M213i : ∀ a, b1 a → M213i a ≠ none := fun a ha => by rw [hF_M213i a (hA1 a ha)]; exact hA1 a ha
        have fr_M213i : ∀ a, b1 a → M213i a = M a := fun a ha => (hF_M213i a (hA1 a ha)).trans (fr1 a ha)
        have e0_0hP_M213i : M213i (ad 0 0) = hw_ob 12 [.int (hr_th X1), .int (hs_G S 0), .int (hs_G S 1), .ref (ad 0 2), .ref (ad 0 3), .ref (ad 0 1)] := hP_M213i.m 0 0 (show 0 < 4 by decide)
        have e0_1hP_M213i : M213i (ad 0 1) = hw_ar Z 6 2 (fun j => some (ad 7 j)) := hP_M213i.m 0 1 (show 1 < 4 by decide)
        have e0_2hP_M213i : M213i (ad 0 2) = hw_ob 0 [.int (hr_mc X1 0), .ref (hr_d (hs_np S) Z.2.2.2 (ad 11 0)), .int (nI (hs_np S))] := hP_M213i.m 0 2 (show 2 < 4 by decide)
        have e0_3hP_M213i : M213i (ad 0 3) = hw_ob 0 [.int (hr_mc X1 1), .ref (hr_d (hs_nw S) Z.2.2.2 (ad 12 0)), .int (nI (hs_nw S))] := hP_M213i.m 0 3 (show 3 < 4 by decide)
        refine lv_iload_n hx hb dX11_digest_213 rfl (lv_at hl 1 rfl) ?_
        refine lv_aload_n hx hb dX11_digest_214 rfl (lv_at hl 2 rfl) ?_
        refine hw_get hx hb hts hown hk hI fd_X11_16 e0_0hP_M213i rfl dX11_digest_215 ?_
        refine hw_cFi hI (hw_rF hx hb hml hown hts hk hI (m_Jx4a65c_size_8abf5 l Z M213i (ad 0 3) (hs_nw S) (hr_mc X1 1) (.ref (hr_d (hs_nw S) Z.2.2.2 (ad 12 0))) e0_3hP_M213i) cf_X11_34 e0_3hP_M213i rfl rfl ⟨rfl, rfl⟩ ⟨(by first | exact Nat.le_of_ble_eq_true rfl | omega | (dsimp only; omega)), (by first | exact Nat.le_of_ble_eq_true rfl | omega | (dsimp only; omega))⟩ rfl hl.1 rfl (by first | exact Nat.le_of_ble_eq_true rfl | omega | (dsimp only; omega)) ⟨(by first | exact Nat.le_of_ble_eq_true rfl | omega | (dsimp only; omega)), (by first | exact Nat.le_of_ble_eq_true rfl | omega | (dsimp only; omega))⟩ dX11_digest_218) (fun r218 M218 H locs hR hI => ?_)
        obtain ⟨rfl, rfl⟩ := hR
        refine lv_icmp_ge (tgt := 275) hx hb dX11_digest_223 (by decide) (fun hc => absurd hc (nI_ge hi213 (by omega))) (fun _ => ?_)
        refine lv_iconst (v := nI 0) hx hb dX11_digest_226 (by decide) ?_
        refine lv_istore (lv' := [(4, .int (nI 0)), (1, .long (hd_powders S j (hd_pieces S (hs_np S) (hd_f (fun w => (hs_many S w).toInt64) 8 9608)))), (3, .int (nI j)), (0, .ref (ad 0 0))]) hx hb dX11_digest_227 hl (by decide) rfl (fun ls hl => ?_)
        refine hw_wr (cells1 := (52 * (hs_np S) + 5 * j + 1 * 0 + 8)) (slots1 := (1454 * (hs_np S) + 25 * j + 5 * 0 + 64)) (by omega) (by omega) ?_
        suffices LP229 : ∀ w, w ≤ 5 → ∀ (M229i : hw_M) (hF229i : hr_F M1 M229i) (H : Heap) (locs : List Loc) (ls : Array Slot), hw_iv Z s (M229i) H locs → lv_has ls 7 [(1, .long (hd_f (fun w => (hs_V S j w).toInt64) w (hd_powders S j (hd_pieces S (hs_np S) (hd_f (fun w => (hs_many S w).toInt64) 8 9608))))), (4, .int (nI w)), (3, .int (nI j)), (0, .ref (ad 0 0))] → W p l e ({ frames := 8, cells := 256, slots := 6100, locals := 250 } : Room) s m ([.ref (ad 0 0)] : List Value).toArray below meth c H locs (52 * (hs_np S) + 5 * j + 1 * w + 8) (1454 * (hs_np S) + 25 * j + 5 * w + 64) Q (F0 m 229 ls []) from LP229 0 (by omega) M213i hF_M213i _ _ _ hI (lv_sub hl [1, 0, 2, 3] rfl)
        refine hw_loop ?_ (fun w hi229 ih229 => ?_)
        · intro M229i hF229i H locs ls hI hl
          have hF_M229i : hr_F M1 M229i := hF229i
          have hP_M229i : hr_ok Z b1 M229i ad S X1 := hP1.F hF_M229i
          have hA_M229i : ∀ a, b1 a → M229i a ≠ none := fun a ha => by rw [hF_M229i a (hA1 a ha)]; exact hA1 a ha
          have fr_M229i : ∀ a, b1 a → M229i a = M a := fun a ha => (hF_M229i a (hA1 a ha)).trans (fr1 a ha)
          have e0_0hP_M229i : M229i (ad 0 0) = hw_ob 12 [.int (hr_th X1), .int (hs_G S 0), .int (hs_G S 1), .ref (ad 0 2), .ref (ad 0 3), .ref (ad 0 1)] := hP_M229i.m 0 0 (show 0 < 4 by decide)
          have e0_1hP_M229i : M229i (ad 0 1) = hw_ar Z 6 2 (fun j => some (ad 7 j)) := hP_M229i.m 0 1 (show 1 < 4 by decide)
          have e0_2hP_M229i : M229i (ad 0 2) = hw_ob 0 [.int (hr_mc X1 0), .ref (hr_d (hs_np S) Z.2.2.2 (ad 11 0)), .int (nI (hs_np S))] := hP_M229i.m 0 2 (show 2 < 4 by decide)
          have e0_3hP_M229i : M229i (ad 0 3) = hw_ob 0 [.int (hr_mc X1 1), .ref (hr_d (hs_nw S) Z.2.2.2 (ad 12 0)), .int (nI (hs_nw S))] := hP_M229i.m 0 3 (show 3 < 4 by decide)
          refine lv_iload hx hb dX11_digest_229 (lv_at hl 1 rfl) ?_
          refine lv_iconst (v := nI 4) hx hb dX11_digest_231 (by decide) ?_
          refine lv_icmp_gt (tgt := 256) hx hb dX11_digest_232 (by decide) (fun _ => ?_) (fun hc => absurd (show nI 4 < nI 5 by decide) hc)
          refine lv_lload_n hx hb dX11_digest_256 rfl (lv_at hl 0 rfl) ?_
          refine lv_ldc2 (v := 31) hx hb hown (hts _ (hw_win (w := .constantLong RX11 252 (31)) (by decide +kernel) (by decide +kernel))) dX11_digest_257 ?_
          refine lv_lmul hx hb dX11_digest_260 ?_
          refine lv_aload_n hx hb dX11_digest_261 rfl (lv_at hl 3 rfl) ?_
          refine lv_iload_n hx hb dX11_digest_262 rfl (lv_at hl 2 rfl) ?_
          refine hw_ci hI (hw_rV hx hb hml hown hts hk hI (m_X11_recallNow l Z M229i ad S X1 b1 j hP_M229i hV (by omega)) cv_X11_233 e0_0hP_M229i rfl rfl ⟨rfl, rfl⟩ ⟨(by first | exact Nat.le_of_ble_eq_true rfl | omega | (dsimp only; omega)), (by first | exact Nat.le_of_ble_eq_true rfl | omega | (dsimp only; omega))⟩ rfl hl.1 rfl (by first | exact Nat.le_of_ble_eq_true rfl | omega | (dsimp only; omega)) ⟨(by first | exact Nat.le_of_ble_eq_true rfl | omega | (dsimp only; omega)), (by first | exact Nat.le_of_ble_eq_true rfl | omega | (dsimp only; omega))⟩ dX11_digest_263) (fun r263 M263 H locs hR hI => ?_)
          obtain ⟨rfl, rfl⟩ := hR
          refine lv_i2l (v := (hs_re S j (hs_np S)).toInt64) hx hb dX11_digest_266 rfl ?_
          refine lv_ladd hx hb dX11_digest_267 ?_
          refine lv_lstore_n (lv' := [(1, .long (((hd_f (fun w => (hs_V S j w).toInt64) 5 (hd_powders S j (hd_pieces S (hs_np S) (hd_f (fun w => (hs_many S w).toInt64) 8 9608)))) * 31) + ((hs_re S j (hs_np S)).toInt64))), (4, .int (nI 5)), (3, .int (nI j)), (0, .ref (ad 0 0))]) hx hb dX11_digest_268 rfl hl (by decide) rfl (fun ls hl => ?_)
          refine lv_iinc (v := nI (j + 1)) (lv' := [(3, .int (nI (j + 1))), (1, .long (((hd_f (fun w => (hs_V S j w).toInt64) 5 (hd_powders S j (hd_pieces S (hs_np S) (hd_f (fun w => (hs_many S w).toInt64) 8 9608)))) * 31) + ((hs_re S j (hs_np S)).toInt64))), (4, .int (nI 5)), (0, .ref (ad 0 0))]) hx hb dX11_digest_269 hl (k := 2) rfl (hw_inc _) (by decide) rfl (fun ls hl => ?_)
          refine lv_goto (tgt := 213) hx hb dX11_digest_272 (by decide) ?_
          refine hw_wr (cells1 := (52 * (hs_np S) + 5 * (j + 1) + 8)) (slots1 := (1454 * (hs_np S) + 25 * (j + 1) + 64)) (by omega) (by omega) ?_
          exact ih213 _ hF_M229i _ _ _ hI (lv_sub hl [1, 0, 3] rfl)
        · intro M229i hF229i H locs ls hI hl
          have hF_M229i : hr_F M1 M229i := hF229i
          have hP_M229i : hr_ok Z b1 M229i ad S X1 := hP1.F hF_M229i
          have hA_M229i : ∀ a, b1 a → M229i a ≠ none := fun a ha => by rw [hF_M229i a (hA1 a ha)]; exact hA1 a ha
          have fr_M229i : ∀ a, b1 a → M229i a = M a := fun a ha => (hF_M229i a (hA1 a ha)).trans (fr1 a ha)
          have e0_0hP_M229i : M229i (ad 0 0) = hw_ob 12 [.int (hr_th X1), .int (hs_G S 0), .int (hs_G S 1), .ref (ad 0 2), .ref (ad 0 3), .ref (ad 0 1)] := hP_M229i.m 0 0 (show 0 < 4 by decide)
          have e0_1hP_M229i : M229i (ad 0 1) = hw_ar Z 6 2 (fun j => some (ad 7 j)) := hP_M229i.m 0 1 (show 1 < 4 by decide)
          have e0_2hP_M229i : M229i (ad 0 2) = hw_ob 0 [.int (hr_mc X1 0), .ref (hr_d (hs_np S) Z.2.2.2 (ad 11 0)), .int (nI (hs_np S))] := hP_M229i.m 0 2 (show 2 < 4 by decide)
          have e0_3hP_M229i : M229i (ad 0 3) = hw_ob 0 [.int (hr_mc X1 1), .ref (hr_d (hs_nw S) Z.2.2.2 (ad 12 0)), .int (nI (hs_nw S))] := hP_M229i.m 0 3 (show 3 < 4 by decide)
          refine lv_iload hx hb dX11_digest_229 (lv_at hl 1 rfl) ?_
          refine lv_iconst (v := nI 4) hx hb dX11_digest_231 (by decide) ?_
          refine lv_icmp_gt (tgt := 256) hx hb dX11_digest_232 (by decide) (fun hc => absurd hc (nI_nlt (by omega) (by omega))) (fun _ => ?_)
          refine lv_lload_n hx hb dX11_digest_235 rfl (lv_at hl 0 rfl) ?_
          refine lv_ldc2 (v := 31) hx hb hown (hts _ (hw_win (w := .constantLong RX11 252 (31)) (by decide +kernel) (by decide +kernel))) dX11_digest_236 ?_
          refine lv_lmul hx hb dX11_digest_239 ?_
          refine lv_aload_n hx hb dX11_digest_240 rfl (lv_at hl 3 rfl) ?_
          refine lv_iload_n hx hb dX11_digest_241 rfl (lv_at hl 2 rfl) ?_
          refine lv_iload hx hb dX11_digest_242 (lv_at hl 1 rfl) ?_
          refine hw_ci hI (hw_rV hx hb hml hown hts hk hI (m_X11_powderNow l Z M229i ad S X1 b1 j w hP_M229i hV hi213 hi229) cv_X11_227 e0_0hP_M229i rfl rfl ⟨rfl, rfl⟩ ⟨(by first | exact Nat.le_of_ble_eq_true rfl | omega | (dsimp only; omega)), (by first | exact Nat.le_of_ble_eq_true rfl | omega | (dsimp only; omega))⟩ rfl hl.1 rfl (by first | exact Nat.le_of_ble_eq_true rfl | omega | (dsimp only; omega)) ⟨(by first | exact Nat.le_of_ble_eq_true rfl | omega | (dsimp only; omega)), (by first | exact Nat.le_of_ble_eq_true rfl | omega | (dsimp only; omega))⟩ dX11_digest_244) (fun r244 M244 H locs hR hI => ?_)
          obtain ⟨rfl, hF244⟩ := hR
          have hF_M244 : hr_F M1 M244 := (hF_M229i).t hF244
          have hP_M244 : hr_ok Z b1 M244 ad S X1 := hP1.F hF_M244
          have hA_M244 : ∀ a, b1 a → M244 a ≠ none := fun a ha => by rw [hF_M244 a (hA1 a ha)]; exact hA1 a ha
          have fr_M244 : ∀ a, b1 a → M244 a = M a := fun a ha => (hF_M244 a (hA1 a ha)).trans (fr1 a ha)
          have e0_0hP_M244 : M244 (ad 0 0) = hw_ob 12 [.int (hr_th X1), .int (hs_G S 0), .int (hs_G S 1), .ref (ad 0 2), .ref (ad 0 3), .ref (ad 0 1)] := hP_M244.m 0 0 (show 0 < 4 by decide)
          have e0_1hP_M244 : M244 (ad 0 1) = hw_ar Z 6 2 (fun j => some (ad 7 j)) := hP_M244.m 0 1 (show 1 < 4 by decide)
          have e0_2hP_M244 : M244 (ad 0 2) = hw_ob 0 [.int (hr_mc X1 0), .ref (hr_d (hs_np S) Z.2.2.2 (ad 11 0)), .int (nI (hs_np S))] := hP_M244.m 0 2 (show 2 < 4 by decide)
          have e0_3hP_M244 : M244 (ad 0 3) = hw_ob 0 [.int (hr_mc X1 1), .ref (hr_d (hs_nw S) Z.2.2.2 (ad 12 0)), .int (nI (hs_nw S))] := hP_M244.m 0 3 (show 3 < 4 by decide)
          refine lv_i2l (v := (hs_V S j w).toInt64) hx hb dX11_digest_247 rfl ?_
          refine lv_ladd hx hb dX11_digest_248 ?_
          refine lv_lstore_n (lv' := [(1, .long (((hd_f (fun w => (hs_V S j w).toInt64) w (hd_powders S j (hd_pieces S (hs_np S) (hd_f (fun w => (hs_many S w).toInt64) 8 9608)))) * 31) + ((hs_V S j w).toInt64))), (4, .int (nI w)), (3, .int (nI j)), (0, .ref (ad 0 0))]) hx hb dX11_digest_249 rfl hl (by decide) rfl (fun ls hl => ?_)
          refine lv_iinc (v := nI (w + 1)) (lv' := [(4, .int (nI (w + 1))), (1, .long (((hd_f (fun w => (hs_V S j w).toInt64) w (hd_powders S j (hd_pieces S (hs_np S) (hd_f (fun w => (hs_many S w).toInt64) 8 9608)))) * 31) + ((hs_V S j w).toInt64))), (3, .int (nI j)), (0, .ref (ad 0 0))]) hx hb dX11_digest_250 hl (k := 1) rfl (hw_inc _) (by decide) rfl (fun ls hl => ?_)
          refine lv_goto (tgt := 229) hx hb dX11_digest_253 (by decide) ?_
          refine hw_wr (cells1 := (52 * (hs_np S) + 5 * j + 1 * (w + 1) + 8)) (slots1 := (1454 * (hs_np S) + 25 * j + 5 * (w + 1) + 64)) (by omega) (by omega) ?_
          exact ih229 _ hF_M244 _ _ _ hI (lv_sub hl [1, 0, 2, 3] rfl)
    · intro M38i hF38i H locs ls hI hl
      have h11 : 0 = 0 ∧ 0 < hs_np S := ⟨rfl, by omega⟩
      have hF_M38i : hr_F M1 M38i := hF38i
      have hP_M38i : hr_ok Z b1 M38i ad S X1 := hP1.F hF_M38i
      have hA_M38i : ∀ a, b1 a → M38i a ≠ none := fun a ha => by rw [hF_M38i a (hA1 a ha)]; exact hA1 a ha
      have fr_M38i : ∀ a, b1 a → M38i a = M a := fun a ha => (hF_M38i a (hA1 a ha)).trans (fr1 a ha)
      have e0_0hP_M38i : M38i (ad 0 0) = hw_ob 12 [.int (hr_th X1), .int (hs_G S 0), .int (hs_G S 1), .ref (ad 0 2), .ref (ad 0 3), .ref (ad 0 1)] := hP_M38i.m 0 0 (show 0 < 4 by decide)
      have e0_1hP_M38i : M38i (ad 0 1) = hw_ar Z 6 2 (fun j => some (ad 7 j)) := hP_M38i.m 0 1 (show 1 < 4 by decide)
      have e0_2hP_M38i : M38i (ad 0 2) = hw_ob 0 [.int (hr_mc X1 0), .ref (ad 11 0), .int (nI (hs_np S))] := by
        have q := hP_M38i.m 0 2 (show 2 < 4 by decide)
        rw [show hr_e Z ad S X1 0 2 = hw_ob 0 [.int (hr_mc X1 0), .ref (hr_d (hs_np S) Z.2.2.2 (ad 11 0)), .int (nI (hs_np S))] from rfl, hr_d0 h11.2] at q
        exact q
      have e0_3hP_M38i : M38i (ad 0 3) = hw_ob 0 [.int (hr_mc X1 1), .ref (hr_d (hs_nw S) Z.2.2.2 (ad 12 0)), .int (nI (hs_nw S))] := hP_M38i.m 0 3 (show 3 < 4 by decide)
      have e11_0hP_M38i : M38i (ad 11 0) = hw_ar Z 7 10 (hc_f (ad 1) (hs_np S)) := hP_M38i.m 11 0 h11
      have e1_ihP_M38i : M38i (ad 1 i) = hw_ob 9 [.ref (ad 2 i), .int (hs_P S i 0), .ref (ad 4 i), .int (hs_P S i 3), .int (hs_P S i 4), .int (hs_P S i 5), .int (hs_P S i 6), .int (hs_P S i 7), .int (hs_P S i 8)] := hP_M38i.m 1 i hi38
      have e2_ihP_M38i : M38i (ad 2 i) = hw_ob 11 [.ref (ad 3 i)] := hP_M38i.m 2 i hi38
      have e3_ihP_M38i : M38i (ad 3 i) = hw_al Z 8 (hs_C S i) := hP_M38i.m 3 i hi38
      have e4_ihP_M38i : M38i (ad 4 i) = hw_ob 7 [.double (hr_en (hs_P S i)), .ref (ad 5 i), .double (hs_U S i), .int (hs_P S i 1), .int (hs_P S i 2), .int (nI (hs_D S i))] := hP_M38i.m 4 i hi38
      have e5_ihP_M38i : M38i (ad 5 i) = hw_ad Z 64 (hs_W S i) := hP_M38i.m 5 i hi38
      refine lv_iload_n hx hb dX11_digest_38 rfl (lv_at hl 1 rfl) ?_
      refine lv_aload_n hx hb dX11_digest_39 rfl (lv_at hl 2 rfl) ?_
      refine hw_get hx hb hts hown hk hI fd_X11_10 e0_0hP_M38i rfl dX11_digest_40 ?_
      refine hw_cFi hI (hw_rF hx hb hml hown hts hk hI (m_Jx4a65c_size_8abf5 l Z M38i (ad 0 2) (hs_np S) (hr_mc X1 0) (.ref (ad 11 0)) e0_2hP_M38i) cf_X11_34 e0_2hP_M38i rfl rfl ⟨rfl, rfl⟩ ⟨(by first | exact Nat.le_of_ble_eq_true rfl | omega | (dsimp only; omega)), (by first | exact Nat.le_of_ble_eq_true rfl | omega | (dsimp only; omega))⟩ rfl hl.1 rfl (by first | exact Nat.le_of_ble_eq_true rfl | omega | (dsimp only; omega)) ⟨(by first | exact Nat.le_of_ble_eq_true rfl | omega | (dsimp only; omega)), (by first | exact Nat.le_of_ble_eq_true rfl | omega | (dsimp only; omega))⟩ dX11_digest_43) (fun r43 M43 H locs hR hI => ?_)
      obtain ⟨rfl, rfl⟩ := hR
      refine lv_icmp_ge (tgt := 211) hx hb dX11_digest_48 (by decide) (fun hc => absurd hc (nI_ge hi38 (by omega))) (fun _ => ?_)
      refine lv_aload_n hx hb dX11_digest_51 rfl (lv_at hl 2 rfl) ?_
      refine hw_get hx hb hts hown hk hI fd_X11_10 e0_0hP_M38i rfl dX11_digest_52 ?_
      refine lv_iload_n hx hb dX11_digest_55 rfl (lv_at hl 1 rfl) ?_
      refine hw_cFr hI (hw_rF hx hb hml hown hts hk hI (m_Jx4a65c_get_915e3 l Z M38i (ad 0 2) (ad 11 0) (hs_np S) i (ad 1 i) (hr_mc X1 0) (hc_f (ad 1) (hs_np S)) e0_2hP_M38i e11_0hP_M38i hi38 (by omega) (if_pos hi38)) cf_X11_59 e0_2hP_M38i rfl rfl ⟨rfl, rfl⟩ ⟨(by first | exact Nat.le_of_ble_eq_true rfl | omega | (dsimp only; omega)), (by first | exact Nat.le_of_ble_eq_true rfl | omega | (dsimp only; omega))⟩ rfl hl.1 rfl (by first | exact Nat.le_of_ble_eq_true rfl | omega | (dsimp only; omega)) ⟨(by first | exact Nat.le_of_ble_eq_true rfl | omega | (dsimp only; omega)), (by first | exact Nat.le_of_ble_eq_true rfl | omega | (dsimp only; omega))⟩ dX11_digest_56) (fun r56 M56 H locs hR hI => ?_)
      obtain ⟨rfl, rfl⟩ := hR
      refine hw_cast hx hb hts hown hk hI e1_ihP_M38i rfl (hw_win (w := .classLink RX11 48 RX8) (by decide +kernel) (by decide +kernel)) dX11_digest_61 ?_
      refine lv_astore (lv' := [(4, .ref (ad 1 i)), (1, .long (hd_pieces S i (hd_f (fun w => (hs_many S w).toInt64) 8 9608))), (3, .int (nI i)), (0, .ref (ad 0 0))]) hx hb dX11_digest_64 hl (by decide) rfl (fun ls hl => ?_)
      refine lv_iconst (v := nI 0) hx hb dX11_digest_66 (by decide) ?_
      refine lv_istore (lv' := [(5, .int (nI 0)), (4, .ref (ad 1 i)), (1, .long (hd_pieces S i (hd_f (fun w => (hs_many S w).toInt64) 8 9608))), (3, .int (nI i)), (0, .ref (ad 0 0))]) hx hb dX11_digest_67 hl (by decide) rfl (fun ls hl => ?_)
      suffices LP69 : ∀ w, w ≤ 15 → ∀ (H : Heap) (locs : List Loc) (ls : Array Slot), hw_iv Z s (M38i) H locs → lv_has ls 7 [(1, .long (hd_f (fun w => (hs_op S i w).toInt64) w (hd_pieces S i (hd_f (fun w => (hs_many S w).toInt64) 8 9608)))), (5, .int (nI w)), (4, .ref (ad 1 i)), (3, .int (nI i)), (0, .ref (ad 0 0))] → W p l e ({ frames := 8, cells := 256, slots := 6100, locals := 250 } : Room) s m ([.ref (ad 0 0)] : List Value).toArray below meth c H locs (52 * i + 8) (1454 * i + 64) Q (F0 m 69 ls []) from LP69 0 (by omega) _ _ _ hI (lv_sub hl [2, 0, 1, 3, 4] rfl)
      refine hw_loop ?_ (fun w hi69 ih69 => ?_)
      · intro H locs ls hI hl
        refine lv_iload hx hb dX11_digest_69 (lv_at hl 1 rfl) ?_
        refine lv_bipush (v := nI 14) hx hb dX11_digest_71 (by decide) ?_
        refine lv_icmp_gt (tgt := 97) hx hb dX11_digest_73 (by decide) (fun _ => ?_) (fun hc => absurd (show nI 14 < nI 15 by decide) hc)
        refine lv_lload_n hx hb dX11_digest_97 rfl (lv_at hl 0 rfl) ?_
        refine lv_ldc2 (v := 31) hx hb hown (hts _ (hw_win (w := .constantLong RX11 252 (31)) (by decide +kernel) (by decide +kernel))) dX11_digest_98 ?_
        refine lv_lmul hx hb dX11_digest_101 ?_
        refine lv_aload hx hb dX11_digest_102 (lv_at hl 2 rfl) ?_
        refine hw_get hx hb hts hown hk hI fd_X11_148 e1_ihP_M38i rfl dX11_digest_104 ?_
        refine hw_get hx hb hts hown hk hI fd_X11_173 e4_ihP_M38i rfl dX11_digest_107 ?_
        refine lv_ldc2d (v := 4620693217682128896) hx hb hown (hts _ (hw_win (w := .constantDouble RX11 254 4620693217682128896) (by decide +kernel) (by decide +kernel))) dX11_digest_110 ?_
        refine lv_dmul hx hb dX11_digest_113 (hf_n (hf_mul (hB.U (by omega)) hf_8)) ?_
        refine lv_d2i hx hb dX11_digest_114 ?_
        refine lv_i2l (v := (FP.d2i (FP.dmul (hs_U S i) 4620693217682128896)).toInt64) hx hb dX11_digest_115 rfl ?_
        refine hw_tl (hf_d2 (hV.C (by omega)).1 (hB.U (by omega))) ?_
        refine lv_ladd hx hb dX11_digest_116 ?_
        refine lv_lstore_n (lv' := [(1, .long (((hd_f (fun w => (hs_op S i w).toInt64) 15 (hd_pieces S i (hd_f (fun w => (hs_many S w).toInt64) 8 9608))) * 31) + (FP.d2l (FP.dmul (hs_U S i) 4620693217682128896)))), (5, .int (nI 15)), (4, .ref (ad 1 i)), (3, .int (nI i)), (0, .ref (ad 0 0))]) hx hb dX11_digest_117 rfl hl (by decide) rfl (fun ls hl => ?_)
        refine lv_lload_n hx hb dX11_digest_118 rfl (lv_at hl 0 rfl) ?_
        refine lv_ldc2 (v := 31) hx hb hown (hts _ (hw_win (w := .constantLong RX11 252 (31)) (by decide +kernel) (by decide +kernel))) dX11_digest_119 ?_
        refine lv_lmul hx hb dX11_digest_122 ?_
        refine lv_aload_n hx hb dX11_digest_123 rfl (lv_at hl 4 rfl) ?_
        refine lv_aload hx hb dX11_digest_124 (lv_at hl 2 rfl) ?_
        refine hw_get hx hb hts hown hk hI fd_X11_66 e1_ihP_M38i rfl dX11_digest_126 ?_
        refine hw_ci hI (hw_rV hx hb hml hown hts hk hI (m_X11_bestNow l Z M38i (ad 0 0) (ad 2 i) (ad 3 i) (hs_C S i) e2_ihP_M38i e3_ihP_M38i) cv_X11_242 e0_0hP_M38i rfl rfl ⟨rfl, rfl⟩ ⟨(by first | exact Nat.le_of_ble_eq_true rfl | omega | (dsimp only; omega)), (by first | exact Nat.le_of_ble_eq_true rfl | omega | (dsimp only; omega))⟩ rfl hl.1 rfl (by first | exact Nat.le_of_ble_eq_true rfl | omega | (dsimp only; omega)) ⟨(by first | exact Nat.le_of_ble_eq_true rfl | omega | (dsimp only; omega)), (by first | exact Nat.le_of_ble_eq_true rfl | omega | (dsimp only; omega))⟩ dX11_digest_129) (fun r129 M129 H locs hR hI => ?_)
        obtain ⟨rfl, hF129⟩ := hR
        have hF_M129 : hr_F M1 M129 := (hF_M38i).t hF129
        have hP_M129 : hr_ok Z b1 M129 ad S X1 := hP1.F hF_M129
        have hA_M129 : ∀ a, b1 a → M129 a ≠ none := fun a ha => by rw [hF_M129 a (hA1 a ha)]; exact hA1 a ha
        have fr_M129 : ∀ a, b1 a → M129 a = M a := fun a ha => (hF_M129 a (hA1 a ha)).trans (fr1 a ha)
        have e0_0hP_M129 : M129 (ad 0 0) = hw_ob 12 [.int (hr_th X1), .int (hs_G S 0), .int (hs_G S 1), .ref (ad 0 2), .ref (ad 0 3), .ref (ad 0 1)] := hP_M129.m 0 0 (show 0 < 4 by decide)
        have e0_1hP_M129 : M129 (ad 0 1) = hw_ar Z 6 2 (fun j => some (ad 7 j)) := hP_M129.m 0 1 (show 1 < 4 by decide)
        have e0_2hP_M129 : M129 (ad 0 2) = hw_ob 0 [.int (hr_mc X1 0), .ref (ad 11 0), .int (nI (hs_np S))] := by
          have q := hP_M129.m 0 2 (show 2 < 4 by decide)
          rw [show hr_e Z ad S X1 0 2 = hw_ob 0 [.int (hr_mc X1 0), .ref (hr_d (hs_np S) Z.2.2.2 (ad 11 0)), .int (nI (hs_np S))] from rfl, hr_d0 h11.2] at q
          exact q
        have e0_3hP_M129 : M129 (ad 0 3) = hw_ob 0 [.int (hr_mc X1 1), .ref (hr_d (hs_nw S) Z.2.2.2 (ad 12 0)), .int (nI (hs_nw S))] := hP_M129.m 0 3 (show 3 < 4 by decide)
        have e11_0hP_M129 : M129 (ad 11 0) = hw_ar Z 7 10 (hc_f (ad 1) (hs_np S)) := hP_M129.m 11 0 h11
        have e1_ihP_M129 : M129 (ad 1 i) = hw_ob 9 [.ref (ad 2 i), .int (hs_P S i 0), .ref (ad 4 i), .int (hs_P S i 3), .int (hs_P S i 4), .int (hs_P S i 5), .int (hs_P S i 6), .int (hs_P S i 7), .int (hs_P S i 8)] := hP_M129.m 1 i hi38
        have e2_ihP_M129 : M129 (ad 2 i) = hw_ob 11 [.ref (ad 3 i)] := hP_M129.m 2 i hi38
        have e3_ihP_M129 : M129 (ad 3 i) = hw_al Z 8 (hs_C S i) := hP_M129.m 3 i hi38
        have e4_ihP_M129 : M129 (ad 4 i) = hw_ob 7 [.double (hr_en (hs_P S i)), .ref (ad 5 i), .double (hs_U S i), .int (hs_P S i 1), .int (hs_P S i 2), .int (nI (hs_D S i))] := hP_M129.m 4 i hi38
        have e5_ihP_M129 : M129 (ad 5 i) = hw_ad Z 64 (hs_W S i) := hP_M129.m 5 i hi38
        refine lv_i2l (v := (nI (hb_bw (hs_C S i) 5)).toInt64) hx hb dX11_digest_132 rfl ?_
        refine lv_ladd hx hb dX11_digest_133 ?_
        refine lv_lstore_n (lv' := [(1, .long (((((hd_f (fun w => (hs_op S i w).toInt64) 15 (hd_pieces S i (hd_f (fun w => (hs_many S w).toInt64) 8 9608))) * 31) + (FP.d2l (FP.dmul (hs_U S i) 4620693217682128896))) * 31) + ((nI (hb_bw (hs_C S i) 5)).toInt64))), (5, .int (nI 15)), (4, .ref (ad 1 i)), (3, .int (nI i)), (0, .ref (ad 0 0))]) hx hb dX11_digest_134 rfl hl (by decide) rfl (fun ls hl => ?_)
        refine lv_lload_n hx hb dX11_digest_135 rfl (lv_at hl 0 rfl) ?_
        refine lv_ldc2 (v := 31) hx hb hown (hts _ (hw_win (w := .constantLong RX11 252 (31)) (by decide +kernel) (by decide +kernel))) dX11_digest_136 ?_
        refine lv_lmul hx hb dX11_digest_139 ?_
        refine lv_aload_n hx hb dX11_digest_140 rfl (lv_at hl 4 rfl) ?_
        refine lv_aload hx hb dX11_digest_141 (lv_at hl 2 rfl) ?_
        refine hw_get hx hb hts hown hk hI fd_X11_66 e1_ihP_M129 rfl dX11_digest_143 ?_
        refine lv_sipush (v := nI 200) hx hb dX11_digest_146 (by decide) ?_
        refine hw_ci hI (hw_rV hx hb hml hown hts hk hI (m_X11_speedNow l Z M129 (ad 0 0) (ad 2 i) (ad 3 i) (nI 200) (hs_C S i) e2_ihP_M129 e3_ihP_M129 (⟨by decide, by decide⟩)) cv_X11_246 e0_0hP_M129 rfl rfl ⟨rfl, rfl⟩ ⟨(by first | exact Nat.le_of_ble_eq_true rfl | omega | (dsimp only; omega)), (by first | exact Nat.le_of_ble_eq_true rfl | omega | (dsimp only; omega))⟩ rfl hl.1 rfl (by first | exact Nat.le_of_ble_eq_true rfl | omega | (dsimp only; omega)) ⟨(by first | exact Nat.le_of_ble_eq_true rfl | omega | (dsimp only; omega)), (by first | exact Nat.le_of_ble_eq_true rfl | omega | (dsimp only; omega))⟩ dX11_digest_149) (fun r149 M149 H locs hR hI => ?_)
        obtain ⟨rfl, hF149⟩ := hR
        have hF_M149 : hr_F M1 M149 := (hF_M129).t hF149
        have hP_M149 : hr_ok Z b1 M149 ad S X1 := hP1.F hF_M149
        have hA_M149 : ∀ a, b1 a → M149 a ≠ none := fun a ha => by rw [hF_M149 a (hA1 a ha)]; exact hA1 a ha
        have fr_M149 : ∀ a, b1 a → M149 a = M a := fun a ha => (hF_M149 a (hA1 a ha)).trans (fr1 a ha)
        have e0_0hP_M149 : M149 (ad 0 0) = hw_ob 12 [.int (hr_th X1), .int (hs_G S 0), .int (hs_G S 1), .ref (ad 0 2), .ref (ad 0 3), .ref (ad 0 1)] := hP_M149.m 0 0 (show 0 < 4 by decide)
        have e0_1hP_M149 : M149 (ad 0 1) = hw_ar Z 6 2 (fun j => some (ad 7 j)) := hP_M149.m 0 1 (show 1 < 4 by decide)
        have e0_2hP_M149 : M149 (ad 0 2) = hw_ob 0 [.int (hr_mc X1 0), .ref (ad 11 0), .int (nI (hs_np S))] := by
          have q := hP_M149.m 0 2 (show 2 < 4 by decide)
          rw [show hr_e Z ad S X1 0 2 = hw_ob 0 [.int (hr_mc X1 0), .ref (hr_d (hs_np S) Z.2.2.2 (ad 11 0)), .int (nI (hs_np S))] from rfl, hr_d0 h11.2] at q
          exact q
        have e0_3hP_M149 : M149 (ad 0 3) = hw_ob 0 [.int (hr_mc X1 1), .ref (hr_d (hs_nw S) Z.2.2.2 (ad 12 0)), .int (nI (hs_nw S))] := hP_M149.m 0 3 (show 3 < 4 by decide)
        have e11_0hP_M149 : M149 (ad 11 0) = hw_ar Z 7 10 (hc_f (ad 1) (hs_np S)) := hP_M149.m 11 0 h11
        have e1_ihP_M149 : M149 (ad 1 i) = hw_ob 9 [.ref (ad 2 i), .int (hs_P S i 0), .ref (ad 4 i), .int (hs_P S i 3), .int (hs_P S i 4), .int (hs_P S i 5), .int (hs_P S i 6), .int (hs_P S i 7), .int (hs_P S i 8)] := hP_M149.m 1 i hi38
        have e2_ihP_M149 : M149 (ad 2 i) = hw_ob 11 [.ref (ad 3 i)] := hP_M149.m 2 i hi38
        have e3_ihP_M149 : M149 (ad 3 i) = hw_al Z 8 (hs_C S i) := hP_M149.m 3 i hi38
        have e4_ihP_M149 : M149 (ad 4 i) = hw_ob 7 [.double (hr_en (hs_P S i)), .ref (ad 5 i), .double (hs_U S i), .int (hs_P S i 1), .int (hs_P S i 2), .int (nI (hs_D S i))] := hP_M149.m 4 i hi38
        have e5_ihP_M149 : M149 (ad 5 i) = hw_ad Z 64 (hs_W S i) := hP_M149.m 5 i hi38
        refine lv_i2l (v := (nI (hb_bs (hs_C S i) (nI 200) 19)).toInt64) hx hb dX11_digest_152 rfl ?_
        refine lv_ladd hx hb dX11_digest_153 ?_
        refine lv_lstore_n (lv' := [(1, .long (((((((hd_f (fun w => (hs_op S i w).toInt64) 15 (hd_pieces S i (hd_f (fun w => (hs_many S w).toInt64) 8 9608))) * 31) + (FP.d2l (FP.dmul (hs_U S i) 4620693217682128896))) * 31) + ((nI (hb_bw (hs_C S i) 5)).toInt64)) * 31) + ((nI (hb_bs (hs_C S i) (nI 200) 19)).toInt64))), (5, .int (nI 15)), (4, .ref (ad 1 i)), (3, .int (nI i)), (0, .ref (ad 0 0))]) hx hb dX11_digest_154 rfl hl (by decide) rfl (fun ls hl => ?_)
        refine lv_iconst (v := nI 0) hx hb dX11_digest_155 (by decide) ?_
        refine lv_istore (lv' := [(5, .int (nI 0)), (1, .long (((((((hd_f (fun w => (hs_op S i w).toInt64) 15 (hd_pieces S i (hd_f (fun w => (hs_many S w).toInt64) 8 9608))) * 31) + (FP.d2l (FP.dmul (hs_U S i) 4620693217682128896))) * 31) + ((nI (hb_bw (hs_C S i) 5)).toInt64)) * 31) + ((nI (hb_bs (hs_C S i) (nI 200) 19)).toInt64))), (4, .ref (ad 1 i)), (3, .int (nI i)), (0, .ref (ad 0 0))]) hx hb dX11_digest_156 hl (by decide) rfl (fun ls hl => ?_)
        suffices LP158 : ∀ k, k ≤ 8 → ∀ (H : Heap) (locs : List Loc) (ls : Array Slot), hw_iv Z s (M149) H locs → lv_has ls 7 [(1, .long (hd_layer S i k (((hd_f (fun w => (hs_op S i w).toInt64) 15 (hd_pieces S i (hd_f (fun w => (hs_many S w).toInt64) 8 9608)) * 31 + FP.d2l (FP.dmul (hs_U S i) 4620693217682128896)) * 31 + (nI (hb_bw (hs_C S i) 5)).toInt64) * 31 + (nI (hb_bs (hs_C S i) (nI 200) 19)).toInt64))), (5, .int (nI k)), (4, .ref (ad 1 i)), (3, .int (nI i)), (0, .ref (ad 0 0))] → W p l e ({ frames := 8, cells := 256, slots := 6100, locals := 250 } : Room) s m ([.ref (ad 0 0)] : List Value).toArray below meth c H locs (52 * i + 60) (1454 * i + 1518) Q (F0 m 158 ls []) from LP158 0 (by omega) _ _ _ hI (lv_sub hl [1, 0, 2, 3, 4] rfl)
        refine hw_loop ?_ (fun k hi158 ih158 => ?_)
        · intro H locs ls hI hl
          refine lv_iload hx hb dX11_digest_158 (lv_at hl 1 rfl) ?_
          refine lv_bipush (v := nI 8) hx hb dX11_digest_160 (by decide) ?_
          refine lv_icmp_ge (tgt := 205) hx hb dX11_digest_162 (by decide) (fun _ => ?_) (fun hc => absurd (Int32.le_refl _) hc)
          refine lv_iinc (v := nI (i + 1)) (lv' := [(3, .int (nI (i + 1))), (1, .long (hd_layer S i 8 (((hd_f (fun w => (hs_op S i w).toInt64) 15 (hd_pieces S i (hd_f (fun w => (hs_many S w).toInt64) 8 9608)) * 31 + FP.d2l (FP.dmul (hs_U S i) 4620693217682128896)) * 31 + (nI (hb_bw (hs_C S i) 5)).toInt64) * 31 + (nI (hb_bs (hs_C S i) (nI 200) 19)).toInt64))), (5, .int (nI 8)), (4, .ref (ad 1 i)), (0, .ref (ad 0 0))]) hx hb dX11_digest_205 hl (k := 3) rfl (hw_inc _) (by decide) rfl (fun ls hl => ?_)
          refine lv_goto (tgt := 38) hx hb dX11_digest_208 (by decide) ?_
          refine hw_wr (cells1 := (52 * (i + 1) + 8)) (slots1 := (1454 * (i + 1) + 64)) (by omega) (by omega) ?_
          exact ih38 _ hF_M149 _ _ _ hI (lv_sub hl [1, 0, 4] rfl)
        · intro H locs ls hI hl
          refine lv_iload hx hb dX11_digest_158 (lv_at hl 1 rfl) ?_
          refine lv_bipush (v := nI 8) hx hb dX11_digest_160 (by decide) ?_
          refine lv_icmp_ge (tgt := 205) hx hb dX11_digest_162 (by decide) (fun hc => absurd hc (nI_ge hi158 (by decide))) (fun _ => ?_)
          refine lv_iconst (v := nI 0) hx hb dX11_digest_165 (by decide) ?_
          refine lv_istore (lv' := [(6, .int (nI 0)), (1, .long (hd_layer S i k (((hd_f (fun w => (hs_op S i w).toInt64) 15 (hd_pieces S i (hd_f (fun w => (hs_many S w).toInt64) 8 9608)) * 31 + FP.d2l (FP.dmul (hs_U S i) 4620693217682128896)) * 31 + (nI (hb_bw (hs_C S i) 5)).toInt64) * 31 + (nI (hb_bs (hs_C S i) (nI 200) 19)).toInt64))), (5, .int (nI k)), (4, .ref (ad 1 i)), (3, .int (nI i)), (0, .ref (ad 0 0))]) hx hb dX11_digest_166 hl (by decide) rfl (fun ls hl => ?_)
          suffices LP168 : ∀ w, w ≤ 3 → ∀ (H : Heap) (locs : List Loc) (ls : Array Slot), hw_iv Z s (M149) H locs → lv_has ls 7 [(1, .long (hd_f (hs_ol S i k) w (hd_layer S i k (((hd_f (fun w => (hs_op S i w).toInt64) 15 (hd_pieces S i (hd_f (fun w => (hs_many S w).toInt64) 8 9608)) * 31 + FP.d2l (FP.dmul (hs_U S i) 4620693217682128896)) * 31 + (nI (hb_bw (hs_C S i) 5)).toInt64) * 31 + (nI (hb_bs (hs_C S i) (nI 200) 19)).toInt64)))), (6, .int (nI w)), (5, .int (nI k)), (4, .ref (ad 1 i)), (3, .int (nI i)), (0, .ref (ad 0 0))] → W p l e ({ frames := 8, cells := 256, slots := 6100, locals := 250 } : Room) s m ([.ref (ad 0 0)] : List Value).toArray below meth c H locs (52 * i + 60) (1454 * i + 1518) Q (F0 m 168 ls []) from LP168 0 (by omega) _ _ _ hI (lv_sub hl [1, 0, 2, 3, 4, 5] rfl)
          refine hw_loop ?_ (fun w hi168 ih168 => ?_)
          · intro H locs ls hI hl
            refine lv_iload hx hb dX11_digest_168 (lv_at hl 1 rfl) ?_
            refine lv_iconst (v := nI 2) hx hb dX11_digest_170 (by decide) ?_
            refine lv_icmp_gt (tgt := 199) hx hb dX11_digest_171 (by decide) (fun _ => ?_) (fun hc => absurd (show nI 2 < nI 3 by decide) hc)
            refine lv_iinc (v := nI (k + 1)) (lv' := [(5, .int (nI (k + 1))), (1, .long (hd_f (hs_ol S i k) 3 (hd_layer S i k (((hd_f (fun w => (hs_op S i w).toInt64) 15 (hd_pieces S i (hd_f (fun w => (hs_many S w).toInt64) 8 9608)) * 31 + FP.d2l (FP.dmul (hs_U S i) 4620693217682128896)) * 31 + (nI (hb_bw (hs_C S i) 5)).toInt64) * 31 + (nI (hb_bs (hs_C S i) (nI 200) 19)).toInt64)))), (6, .int (nI 3)), (4, .ref (ad 1 i)), (3, .int (nI i)), (0, .ref (ad 0 0))]) hx hb dX11_digest_199 hl (k := 2) rfl (hw_inc _) (by decide) rfl (fun ls hl => ?_)
            refine lv_goto (tgt := 158) hx hb dX11_digest_202 (by decide) ?_
            exact ih158 _ _ _ hI (lv_sub hl [1, 0, 3, 4, 5] rfl)
          · intro H locs ls hI hl
            refine lv_iload hx hb dX11_digest_168 (lv_at hl 1 rfl) ?_
            refine lv_iconst (v := nI 2) hx hb dX11_digest_170 (by decide) ?_
            refine lv_icmp_gt (tgt := 199) hx hb dX11_digest_171 (by decide) (fun hc => absurd hc (nI_nlt (by omega) (by omega))) (fun _ => ?_)
            refine lv_lload_n hx hb dX11_digest_174 rfl (lv_at hl 0 rfl) ?_
            refine lv_ldc2 (v := 31) hx hb hown (hts _ (hw_win (w := .constantLong RX11 252 (31)) (by decide +kernel) (by decide +kernel))) dX11_digest_175 ?_
            refine lv_lmul hx hb dX11_digest_178 ?_
            refine lv_aload hx hb dX11_digest_179 (lv_at hl 3 rfl) ?_
            refine hw_get hx hb hts hown hk hI fd_X11_66 e1_ihP_M149 rfl dX11_digest_181 ?_
            refine lv_iload hx hb dX11_digest_184 (lv_at hl 2 rfl) ?_
            refine lv_iload hx hb dX11_digest_186 (lv_at hl 1 rfl) ?_
            refine hw_cl' hI (hw_rS hx hb hml hown hts hk hI (m_X11_layerNow l Z M149 ad S X1 b1 i k w hP_M149 hi38 hi158 hi168) cs_X11_223 ⟨rfl, rfl⟩ ⟨(by first | exact Nat.le_of_ble_eq_true rfl | omega | (dsimp only; omega)), (by first | exact Nat.le_of_ble_eq_true rfl | omega | (dsimp only; omega))⟩ rfl hl.1 rfl (by first | exact Nat.le_of_ble_eq_true rfl | omega | (dsimp only; omega)) ⟨(by first | exact Nat.le_of_ble_eq_true rfl | omega | (dsimp only; omega)), (by first | exact Nat.le_of_ble_eq_true rfl | omega | (dsimp only; omega))⟩ dX11_digest_188) (fun r188 M188 H locs hR hI => ?_)
            obtain ⟨rfl, rfl⟩ := hR
            refine lv_ladd hx hb dX11_digest_191 ?_
            refine lv_lstore_n (lv' := [(1, .long (((hd_f (hs_ol S i k) w (hd_layer S i k (((hd_f (fun w => (hs_op S i w).toInt64) 15 (hd_pieces S i (hd_f (fun w => (hs_many S w).toInt64) 8 9608)) * 31 + FP.d2l (FP.dmul (hs_U S i) 4620693217682128896)) * 31 + (nI (hb_bw (hs_C S i) 5)).toInt64) * 31 + (nI (hb_bs (hs_C S i) (nI 200) 19)).toInt64))) * 31) + (hs_ol S i k w))), (6, .int (nI w)), (5, .int (nI k)), (4, .ref (ad 1 i)), (3, .int (nI i)), (0, .ref (ad 0 0))]) hx hb dX11_digest_192 rfl hl (by decide) rfl (fun ls hl => ?_)
            refine lv_iinc (v := nI (w + 1)) (lv' := [(6, .int (nI (w + 1))), (1, .long (((hd_f (hs_ol S i k) w (hd_layer S i k (((hd_f (fun w => (hs_op S i w).toInt64) 15 (hd_pieces S i (hd_f (fun w => (hs_many S w).toInt64) 8 9608)) * 31 + FP.d2l (FP.dmul (hs_U S i) 4620693217682128896)) * 31 + (nI (hb_bw (hs_C S i) 5)).toInt64) * 31 + (nI (hb_bs (hs_C S i) (nI 200) 19)).toInt64))) * 31) + (hs_ol S i k w))), (5, .int (nI k)), (4, .ref (ad 1 i)), (3, .int (nI i)), (0, .ref (ad 0 0))]) hx hb dX11_digest_193 hl (k := 1) rfl (hw_inc _) (by decide) rfl (fun ls hl => ?_)
            refine lv_goto (tgt := 168) hx hb dX11_digest_196 (by decide) ?_
            exact ih168 _ _ _ hI (lv_sub hl [1, 0, 2, 3, 4, 5] rfl)
      · intro H locs ls hI hl
        refine lv_iload hx hb dX11_digest_69 (lv_at hl 1 rfl) ?_
        refine lv_bipush (v := nI 14) hx hb dX11_digest_71 (by decide) ?_
        refine lv_icmp_gt (tgt := 97) hx hb dX11_digest_73 (by decide) (fun hc => absurd hc (nI_nlt (by omega) (by omega))) (fun _ => ?_)
        refine lv_lload_n hx hb dX11_digest_76 rfl (lv_at hl 0 rfl) ?_
        refine lv_ldc2 (v := 31) hx hb hown (hts _ (hw_win (w := .constantLong RX11 252 (31)) (by decide +kernel) (by decide +kernel))) dX11_digest_77 ?_
        refine lv_lmul hx hb dX11_digest_80 ?_
        refine lv_aload hx hb dX11_digest_81 (lv_at hl 2 rfl) ?_
        refine lv_iload hx hb dX11_digest_83 (lv_at hl 1 rfl) ?_
        refine hw_ci hI (hw_rS hx hb hml hown hts hk hI (m_X11_pieceNow l Z M38i ad S X1 b1 i w hP_M38i hi38 hi69) cs_X11_217 ⟨rfl, rfl⟩ ⟨(by first | exact Nat.le_of_ble_eq_true rfl | omega | (dsimp only; omega)), (by first | exact Nat.le_of_ble_eq_true rfl | omega | (dsimp only; omega))⟩ rfl hl.1 rfl (by first | exact Nat.le_of_ble_eq_true rfl | omega | (dsimp only; omega)) ⟨(by first | exact Nat.le_of_ble_eq_true rfl | omega | (dsimp only; omega)), (by first | exact Nat.le_of_ble_eq_true rfl | omega | (dsimp only; omega))⟩ dX11_digest_85) (fun r85 M85 H locs hR hI => ?_)
        obtain ⟨rfl, rfl⟩ := hR
        refine lv_i2l (v := (hs_op S i w).toInt64) hx hb dX11_digest_88 rfl ?_
        refine lv_ladd hx hb dX11_digest_89 ?_
        refine lv_lstore_n (lv' := [(1, .long (((hd_f (fun w => (hs_op S i w).toInt64) w (hd_pieces S i (hd_f (fun w => (hs_many S w).toInt64) 8 9608))) * 31) + ((hs_op S i w).toInt64))), (5, .int (nI w)), (4, .ref (ad 1 i)), (3, .int (nI i)), (0, .ref (ad 0 0))]) hx hb dX11_digest_90 rfl hl (by decide) rfl (fun ls hl => ?_)
        refine lv_iinc (v := nI (w + 1)) (lv' := [(5, .int (nI (w + 1))), (1, .long (((hd_f (fun w => (hs_op S i w).toInt64) w (hd_pieces S i (hd_f (fun w => (hs_many S w).toInt64) 8 9608))) * 31) + ((hs_op S i w).toInt64))), (4, .ref (ad 1 i)), (3, .int (nI i)), (0, .ref (ad 0 0))]) hx hb dX11_digest_91 hl (k := 1) rfl (hw_inc _) (by decide) rfl (fun ls hl => ?_)
        refine lv_goto (tgt := 69) hx hb dX11_digest_94 (by decide) ?_
        exact ih69 _ _ _ hI (lv_sub hl [1, 0, 2, 3, 4] rfl)
  · intro M11i hF11i H locs ls hI hl
    have hF_M11i : hr_F M1 M11i := hF11i
    have hP_M11i : hr_ok Z b1 M11i ad S X1 := hP1.F hF_M11i
    have hA_M11i : ∀ a, b1 a → M11i a ≠ none := fun a ha => by rw [hF_M11i a (hA1 a ha)]; exact hA1 a ha
    have fr_M11i : ∀ a, b1 a → M11i a = M a := fun a ha => (hF_M11i a (hA1 a ha)).trans (fr1 a ha)
    have e0_0hP_M11i : M11i (ad 0 0) = hw_ob 12 [.int (hr_th X1), .int (hs_G S 0), .int (hs_G S 1), .ref (ad 0 2), .ref (ad 0 3), .ref (ad 0 1)] := hP_M11i.m 0 0 (show 0 < 4 by decide)
    have e0_1hP_M11i : M11i (ad 0 1) = hw_ar Z 6 2 (fun j => some (ad 7 j)) := hP_M11i.m 0 1 (show 1 < 4 by decide)
    have e0_2hP_M11i : M11i (ad 0 2) = hw_ob 0 [.int (hr_mc X1 0), .ref (hr_d (hs_np S) Z.2.2.2 (ad 11 0)), .int (nI (hs_np S))] := hP_M11i.m 0 2 (show 2 < 4 by decide)
    have e0_3hP_M11i : M11i (ad 0 3) = hw_ob 0 [.int (hr_mc X1 1), .ref (hr_d (hs_nw S) Z.2.2.2 (ad 12 0)), .int (nI (hs_nw S))] := hP_M11i.m 0 3 (show 3 < 4 by decide)
    refine lv_iload_n hx hb dX11_digest_11 rfl (lv_at hl 1 rfl) ?_
    refine lv_bipush (v := nI 7) hx hb dX11_digest_12 (by decide) ?_
    refine lv_icmp_gt (tgt := 36) hx hb dX11_digest_14 (by decide) (fun hc => absurd hc (nI_nlt (by omega) (by omega))) (fun _ => ?_)
    refine lv_lload_n hx hb dX11_digest_17 rfl (lv_at hl 0 rfl) ?_
    refine lv_ldc2 (v := 31) hx hb hown (hts _ (hw_win (w := .constantLong RX11 252 (31)) (by decide +kernel) (by decide +kernel))) dX11_digest_18 ?_
    refine lv_lmul hx hb dX11_digest_21 ?_
    refine lv_aload_n hx hb dX11_digest_22 rfl (lv_at hl 2 rfl) ?_
    refine lv_iload_n hx hb dX11_digest_23 rfl (lv_at hl 1 rfl) ?_
    refine hw_ci hI (hw_rV hx hb hml hown hts hk hI (m_X11_manyNow l Z M11i ad S X1 b1 v hP_M11i hV hA_M11i hi11) cv_X11_239 e0_0hP_M11i rfl rfl ⟨rfl, rfl⟩ ⟨(by first | exact Nat.le_of_ble_eq_true rfl | omega | (dsimp only; omega)), (by first | exact Nat.le_of_ble_eq_true rfl | omega | (dsimp only; omega))⟩ rfl hl.1 rfl (by first | exact Nat.le_of_ble_eq_true rfl | omega | (dsimp only; omega)) ⟨(by first | exact Nat.le_of_ble_eq_true rfl | omega | (dsimp only; omega)), (by first | exact Nat.le_of_ble_eq_true rfl | omega | (dsimp only; omega))⟩ dX11_digest_24) (fun r24 M24 H locs hR hI => ?_)
    obtain ⟨rfl, hF24⟩ := hR
    have hF_M24 : hr_F M1 M24 := (hF_M11i).t hF24
    have hP_M24 : hr_ok Z b1 M24 ad S X1 := hP1.F hF_M24
    have hA_M24 : ∀ a, b1 a → M24 a ≠ none := fun a ha => by rw [hF_M24 a (hA1 a ha)]; exact hA1 a ha
    have fr_M24 : ∀ a, b1 a → M24 a = M a := fun a ha => (hF_M24 a (hA1 a ha)).trans (fr1 a ha)
    have e0_0hP_M24 : M24 (ad 0 0) = hw_ob 12 [.int (hr_th X1), .int (hs_G S 0), .int (hs_G S 1), .ref (ad 0 2), .ref (ad 0 3), .ref (ad 0 1)] := hP_M24.m 0 0 (show 0 < 4 by decide)
    have e0_1hP_M24 : M24 (ad 0 1) = hw_ar Z 6 2 (fun j => some (ad 7 j)) := hP_M24.m 0 1 (show 1 < 4 by decide)
    have e0_2hP_M24 : M24 (ad 0 2) = hw_ob 0 [.int (hr_mc X1 0), .ref (hr_d (hs_np S) Z.2.2.2 (ad 11 0)), .int (nI (hs_np S))] := hP_M24.m 0 2 (show 2 < 4 by decide)
    have e0_3hP_M24 : M24 (ad 0 3) = hw_ob 0 [.int (hr_mc X1 1), .ref (hr_d (hs_nw S) Z.2.2.2 (ad 12 0)), .int (nI (hs_nw S))] := hP_M24.m 0 3 (show 3 < 4 by decide)
    refine lv_i2l (v := (hs_many S v).toInt64) hx hb dX11_digest_27 rfl ?_
    refine lv_ladd hx hb dX11_digest_28 ?_
    refine lv_lstore_n (lv' := [(1, .long (((hd_f (fun w => (hs_many S w).toInt64) v 9608) * 31) + ((hs_many S v).toInt64))), (3, .int (nI v)), (0, .ref (ad 0 0))]) hx hb dX11_digest_29 rfl hl (by decide) rfl (fun ls hl => ?_)
    refine lv_iinc (v := nI (v + 1)) (lv' := [(3, .int (nI (v + 1))), (1, .long (((hd_f (fun w => (hs_many S w).toInt64) v 9608) * 31) + ((hs_many S v).toInt64))), (0, .ref (ad 0 0))]) hx hb dX11_digest_30 hl (k := 1) rfl (hw_inc _) (by decide) rfl (fun ls hl => ?_)
    refine lv_goto (tgt := 11) hx hb dX11_digest_33 (by decide) ?_
    refine hw_wr (cells1 := (1 * (v + 1) + 0)) (slots1 := (8 * (v + 1) + 0)) (by omega) (by omega) ?_
    exact ih11 _ hF_M24 _ _ _ hI (lv_sub hl [1, 0, 2] rfl)
