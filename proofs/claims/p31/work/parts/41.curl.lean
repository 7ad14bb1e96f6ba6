/-! What holds of a hall's state holds behind every call. -/
-- the curl stays below 16
theorem hx_two {q : Int} {c : Nat} {b : Nat} (hb : b ≤ 1024 * 2 ^ 52) (h : FP.Core.decode FP.Core.b64 b = .fin false c q) : (c < 2 ^ 53 ∧ q ≤ -52) ∨ (c = 2 ^ 52 ∧ q = -51) := by
  rw [hx_dec] at h
  rw [if_neg (by omega)] at h
  split at h
  · injection h with h1 h2 h3
    exact Or.inl ⟨by omega, by omega⟩
  · injection h with h1 h2 h3
    omega
theorem hx_eight {q : Int} {c : Nat} {b : Nat} (hb : b ≤ 1026 * 2 ^ 52) (h : FP.Core.decode FP.Core.b64 b = .fin false c q) : (c < 2 ^ 53 ∧ q ≤ -50) ∨ (c = 2 ^ 52 ∧ q = -49) := by
  rw [hx_dec] at h
  rw [if_neg (by omega)] at h
  split at h
  · injection h with h1 h2 h3
    exact Or.inl ⟨by omega, by omega⟩
  · injection h with h1 h2 h3
    omega
theorem hx_fin {b : Nat} (hb : b ≤ 1030 * 2 ^ 52) : ∃ c q, FP.Core.decode FP.Core.b64 b = .fin false c q ∧ -1074 ≤ q := by
  rw [hx_dec]
  have hs : (b / 2 ^ 52 / 2048 % 2 == 1) = false := by
    have : b / 2 ^ 52 / 2048 % 2 = 0 := by omega
    rw [this]; rfl
  rw [hs, if_neg (by omega)]
  split
  · exact ⟨_, _, rfl, by omega⟩
  · exact ⟨_, _, rfl, by omega⟩
/-- what settles with its last digit at q or below it -/
theorem hx_fitq {c : Nat} {q Q : Int} (hq : q ≤ Q) (h0 : -1074 ≤ q) (h1 : Q < 900) : FP.Core.encode FP.Core.b64 (FP.Core.settle FP.Core.b64 false c q) ≤ (Q + 1076).toNat * 2 ^ 52 := by
  obtain ⟨h1, h2, h3, h4, h5⟩ := hx_b64
  unfold FP.Core.settle FP.Core.bound
  rw [h5, h4, h1]
  split
  · rw [if_pos (by omega), hx_enc]
    rw [show (false : Bool).toNat = 0 from rfl]
    split <;> omega
  · rw [if_pos (by omega), hx_enc, if_neg (by omega)]
    rw [show (false : Bool).toNat = 0 from rfl]
    omega
theorem hx_34 {x : UInt64} (h : x.toNat ≤ 1024 * 2 ^ 52) : (FP.dmul x 4604930618986332160).toNat ≤ 1024 * 2 ^ 52 := by
  have e8 : FP.Core.decode FP.Core.b64 (4604930618986332160 : UInt64).toNat = .fin false (3 * 2 ^ 51) (-53) := by decide +kernel
  obtain ⟨c, q, e, hq0⟩ := hx_fin (b := x.toNat) (by omega)
  have hcq := hx_two h e
  have hm : FP.Core.encode FP.Core.b64 (FP.Core.round FP.Core.b64 (FP.Core.exactProduct (FP.Core.decode FP.Core.b64 x.toNat) (.fin false (3 * 2 ^ 51) (-53)))) ≤ 1024 * 2 ^ 52 := by
    rw [e]
    show FP.Core.encode FP.Core.b64 (FP.Core.roundRatio FP.Core.b64 (false != false) (c * (3 * 2 ^ 51)) 1 (q + -53)) ≤ _
    unfold FP.Core.roundRatio
    split
    · rw [hx_enc, if_pos (by omega)]; rw [show ∀ b : Bool, (b != b).toNat = 0 from by decide, Nat.zero_mul, Nat.add_zero]; exact Nat.zero_le _
    · rename_i hz
      have hq : FP.Core.quantum FP.Core.b64 (c * (3 * 2 ^ 51)) 1 (q + -53) ≤ -52 ∧ -1074 ≤ FP.Core.quantum FP.Core.b64 (c * (3 * 2 ^ 51)) 1 (q + -53) := by
        unfold FP.Core.quantum
        obtain ⟨h1, h2, h3, h4, h5⟩ := hx_b64
        rw [hx_lead (by omega), h3, h5]
        rcases hcq with ⟨g1, g2⟩ | ⟨g1, g2⟩
        · have : (c * (3 * 2 ^ 51)).log2 < 106 := (Nat.log2_lt hz).mpr (by omega)
          omega
        · have : (c * (3 * 2 ^ 51)).log2 < 105 := (Nat.log2_lt hz).mpr (by omega)
          omega
      refine Nat.le_trans (hx_fitq hq.1 hq.2 (by decide)) (Nat.mul_le_mul_right _ (by decide))
  unfold FP.dmul FP.Core.dmul FP.Core.mul
  rw [e8, UInt64.toNat_ofNat_of_lt' (by have : UInt64.size = 2 ^ 64 := rfl; omega)]
  exact hm
theorem hx_18 : ∀ n, n < 65 → (FP.dmul 4593671619917905920 (FP.i2d (nI n))).toNat ≤ 1026 * 2 ^ 52 := by decide +kernel
theorem hx_add16 {x y : UInt64} (h : x.toNat ≤ 1024 * 2 ^ 52) (hy : y.toNat ≤ 1026 * 2 ^ 52) : (FP.dadd x y).toNat ≤ 1027 * 2 ^ 52 := by
  obtain ⟨c, q, e, hq0⟩ := hx_fin (b := x.toNat) (by omega)
  obtain ⟨d, r, f, hr0⟩ := hx_fin (b := y.toNat) (by omega)
  have g1 := hx_two h e
  have g2 := hx_eight hy f
  have hm : FP.Core.encode FP.Core.b64 (FP.Core.round FP.Core.b64 (FP.Core.exactSum (FP.Core.decode FP.Core.b64 x.toNat) (FP.Core.decode FP.Core.b64 y.toNat))) ≤ 1027 * 2 ^ 52 := by
    rw [e, f]
    show FP.Core.encode FP.Core.b64 (FP.Core.roundRatio FP.Core.b64 (FP.Core.sumSign false false (FP.Core.sumUnits false c q false d r (min q r))) (FP.Core.sumUnits false c q false d r (min q r)).natAbs 1 (min q r)) ≤ _
    rw [hx_sum]
    obtain ⟨k, hk⟩ : ∃ k : Nat, min q r = -49 - k := ⟨(-49 - min q r).toNat, by omega⟩
    have a1 : c * 2 ^ (q - min q r).toNat ≤ 2 ^ (50 + k) := by
      rcases g1 with ⟨b1, b2⟩ | ⟨b1, b2⟩
      · have h1 : (q - min q r).toNat ≤ k := by omega
        by_cases hk3 : (q - min q r).toNat + 3 ≤ k
        · have h2 : c * 2 ^ (q - min q r).toNat ≤ 2 ^ 53 * 2 ^ (k - 3) := Nat.mul_le_mul (by omega) (Nat.pow_le_pow_right (by omega) (by omega))
          rw [← Nat.pow_add] at h2
          exact Nat.le_trans h2 (Nat.pow_le_pow_right (by omega) (by omega))
        · omega
      · have h2 : c * 2 ^ (q - min q r).toNat ≤ 2 ^ 52 * 2 ^ (k - 2) := Nat.mul_le_mul (by omega) (Nat.pow_le_pow_right (by omega) (by omega))
        rw [← Nat.pow_add] at h2
        exact Nat.le_trans h2 (Nat.pow_le_pow_right (by omega) (by omega))
    have a2 : d * 2 ^ (r - min q r).toNat ≤ 2 ^ (52 + k) := by
      rcases g2 with ⟨b1, b2⟩ | ⟨b1, b2⟩
      · have h2 : d * 2 ^ (r - min q r).toNat ≤ 2 ^ 53 * 2 ^ (k - 1) := Nat.mul_le_mul (by omega) (Nat.pow_le_pow_right (by omega) (by omega))
        rw [← Nat.pow_add] at h2
        exact Nat.le_trans h2 (Nat.pow_le_pow_right (by omega) (by omega))
      · have h2 : d * 2 ^ (r - min q r).toNat ≤ 2 ^ 52 * 2 ^ k := Nat.mul_le_mul (by omega) (Nat.pow_le_pow_right (by omega) (by omega))
        rw [← Nat.pow_add] at h2
        exact h2
    have e1 : (FP.Core.sumUnits false c q false d r (min q r)).natAbs = c * 2 ^ (q - min q r).toNat + d * 2 ^ (r - min q r).toNat := by
      show ((((c * 2 ^ (q - min q r).toNat : Nat) : Int) + ((d * 2 ^ (r - min q r).toNat : Nat) : Int)).natAbs) = _
      omega
    rw [e1]
    generalize c * 2 ^ (q - min q r).toNat = A at a1 ⊢
    generalize d * 2 ^ (r - min q r).toNat = B at a2 ⊢
    unfold FP.Core.roundRatio
    split
    · rw [hx_enc, if_pos (by omega), show (false : Bool).toNat = 0 from rfl, Nat.zero_mul, Nat.add_zero]; exact Nat.zero_le _
    · rename_i hz
      have hq : FP.Core.quantum FP.Core.b64 (A + B) 1 (min q r) ≤ -49 ∧ -1074 ≤ FP.Core.quantum FP.Core.b64 (A + B) 1 (min q r) := by
        unfold FP.Core.quantum
        obtain ⟨h1, h2, h3, h4, h5⟩ := hx_b64
        rw [hx_lead (by omega), h3, h5]
        have : (A + B).log2 < 53 + k := (Nat.log2_lt hz).mpr (by
          have p1 : 2 ^ (52 + k) = 4 * 2 ^ (50 + k) := by rw [show 52 + k = (50 + k) + 2 by omega, Nat.pow_add]; omega
          have p2 : 2 ^ (53 + k) = 8 * 2 ^ (50 + k) := by rw [show 53 + k = (50 + k) + 3 by omega, Nat.pow_add]; omega
          have := Nat.two_pow_pos (50 + k)
          omega)
        omega
      refine Nat.le_trans (hx_fitq hq.1 hq.2 (by decide)) (Nat.mul_le_mul_right _ (by decide))
  unfold FP.dadd FP.Core.dadd FP.Core.add
  rw [UInt64.toNat_ofNat_of_lt' (by have : UInt64.size = 2 ^ 64 := rfl; omega)]
  exact hm
/-- what isn't greater than 2.0 -/
theorem hx_le2 {x : UInt64} (hz : hb_pz x) (h : hb_struck x = false) : x.toNat ≤ 1024 * 2 ^ 52 := by
  have hz : x.toNat ≤ 2047 * 2 ^ 52 := UInt64.le_iff_toNat_le.mp hz
  have h : ¬ FP.dcmp x 4611686018427387904 = some .gt := of_decide_eq_false h
  refine Classical.byContradiction (fun g => h ?_)
  have e2 : FP.Core.decode FP.Core.b64 (4611686018427387904 : UInt64).toNat = .fin false (2 ^ 52) (-51) := by decide +kernel
  unfold FP.dcmp FP.Core.dcmp FP.Core.cmp
  rw [e2, hx_dec]
  have hs : (x.toNat / 2 ^ 52 / 2048 % 2 == 1) = false := by
    have : x.toNat / 2 ^ 52 / 2048 % 2 = 0 := by omega
    rw [this]; rfl
  rw [hs]
  split
  · rw [if_pos (by omega)]
    have e : compare (FP.Core.signed false 1) (0 : Int) = Ordering.gt := by rw [hx_cmp]; unfold FP.Core.signed; rw [if_neg (by decide)]; decide
    exact congrArg some e
  · rw [if_neg (by omega)]
    obtain ⟨k, hk⟩ : ∃ k : Nat, (-1074 + ((x.toNat / 2 ^ 52 % 2048 : Nat) - 1 : Int)) = -51 + k := ⟨x.toNat / 2 ^ 52 % 2048 - 1024, by omega⟩
    rw [hk]
    show some (compare (FP.Core.signed false (FP.Core.inUnits (2 ^ 52 + x.toNat % 2 ^ 52) (-51 + (k : Int)) (min (-51 + (k : Int)) (-51)))) (FP.Core.signed false (FP.Core.inUnits (2 ^ 52) (-51) (min (-51 + (k : Int)) (-51))))) = _
    rw [show min (-51 + (k : Int)) (-51) = -51 by omega]
    unfold FP.Core.inUnits FP.Core.signed
    rw [show (-51 + (k : Int) - -51).toNat = k by omega, show ((-51 : Int) - -51).toNat = 0 by omega]
    rw [if_neg (by decide), if_neg (by decide), Nat.pow_zero, Nat.mul_one]
    refine congrArg some ?_
    rw [hx_cmp]
    rcases Nat.eq_zero_or_pos k with q | q
    · subst q
      rw [Nat.pow_zero, Nat.mul_one]
      omega
    · have h1 : 2 ^ 1 ≤ 2 ^ k := Nat.pow_le_pow_right (by omega) q
      have h2 : 2 ^ 52 * 2 ^ 1 ≤ (2 ^ 52 + x.toNat % 2 ^ 52) * 2 ^ k := Nat.mul_le_mul (by omega) h1
      generalize (2 ^ 52 + x.toNat % 2 ^ 52) * 2 ^ k = m at h2 ⊢
      omega
theorem hv_cu {cu : UInt64} {n : Nat} (hz : hb_pz cu) (h : hb_struck cu = false) (hn : n ≤ 64) : hv_c (hb_cu cu n) := by
  unfold hv_c hb_cu
  rw [UInt64.le_iff_toNat_le]
  exact hx_add16 (hx_34 (hx_le2 hz h)) (hx_18 n (by omega))
