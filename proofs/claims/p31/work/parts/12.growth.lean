/-! Numbers of the growth: doubles that aren't NaN and not below 0, the light's work on a layer. -/
/-- a double that is no NaN and has no minus -/
def hb_pz (x : UInt64) : Prop := x ≤ 0x7ff0000000000000
/-- a number above 0, not infinite -/
def hb_pf (x : UInt64) : Prop := 0 < x ∧ x < 0x7ff0000000000000
/-! Doubles as data: what isn't a NaN, what isn't below 0. -/
def hx_in (q : Int) (c : Nat) : Prop := c < 2 ^ 53 ∧ -1074 ≤ q ∧ q ≤ 971
/-- no NaN -/
def hx_nn (d : FP.Core.Datum) : Prop := (∃ s, d = .inf s) ∨ ∃ s c q, d = .fin s c q
/-- no NaN, no minus -/
def hx_ps (d : FP.Core.Datum) : Prop := d = .inf false ∨ ∃ c q, d = .fin false c q
theorem hx_nn.inf (s : Bool) : hx_nn (.inf s) := Or.inl ⟨s, rfl⟩
theorem hx_nn.fin (s : Bool) (c : Nat) (q : Int) : hx_nn (.fin s c q) := Or.inr ⟨s, c, q, rfl⟩
theorem hx_ps.inf : hx_ps (.inf false) := Or.inl rfl
theorem hx_ps.fin (c : Nat) (q : Int) : hx_ps (.fin false c q) := Or.inr ⟨c, q, rfl⟩
theorem hx_b64 : FP.Core.b64.tails = 2 ^ 52 ∧ FP.Core.b64.exps = 2048 ∧ FP.Core.b64.qmin = -1074 ∧ FP.Core.b64.qmax = 971 ∧ FP.Core.b64.p = 53 := ⟨rfl, rfl, rfl, rfl, rfl⟩
theorem hx_dec (n : Nat) : FP.Core.decode FP.Core.b64 n = if n / 2 ^ 52 % 2048 = 2047 then (if n % 2 ^ 52 = 0 then .inf (n / 2 ^ 52 / 2048 % 2 == 1) else .nan) else if n / 2 ^ 52 % 2048 = 0 then .fin (n / 2 ^ 52 / 2048 % 2 == 1) (n % 2 ^ 52) (-1074) else .fin (n / 2 ^ 52 / 2048 % 2 == 1) (2 ^ 52 + n % 2 ^ 52) (-1074 + ((n / 2 ^ 52 % 2048 : Nat) - 1 : Int)) := by
  obtain ⟨h1, h2, h3, h4, h5⟩ := hx_b64
  unfold FP.Core.decode FP.Core.fieldE FP.Core.fieldT FP.Core.fieldS
  simp only [h1, h2, h3, show (2048 : Nat) - 1 = 2047 from rfl]
theorem hx_enc (s : Bool) (c : Nat) (q : Int) : FP.Core.encode FP.Core.b64 (.fin s c q) = if c < 2 ^ 52 then (s.toNat * 2048 + 0) * 2 ^ 52 + c else (s.toNat * 2048 + ((q + 1074).toNat + 1)) * 2 ^ 52 + (c - 2 ^ 52) := by
  obtain ⟨h1, h2, h3, h4, h5⟩ := hx_b64
  unfold FP.Core.encode FP.Core.assemble
  rw [h1, h2, h3]
  simp only [Int.sub_neg]
theorem hx_enci (s : Bool) : FP.Core.encode FP.Core.b64 (.inf s) = (s.toNat * 2048 + 2047) * 2 ^ 52 := by
  obtain ⟨h1, h2, h3, h4, h5⟩ := hx_b64
  show FP.Core.assemble FP.Core.b64 s (FP.Core.b64.exps - 1) 0 = _
  unfold FP.Core.assemble
  rw [h1, h2]
  omega
/-- what settles has its sign, and is no NaN -/
theorem hx_settle (s : Bool) (c : Nat) (q : Int) : ∃ b, FP.Core.encode FP.Core.b64 (FP.Core.settle FP.Core.b64 s c q) = s.toNat * 2 ^ 63 + b ∧ b ≤ 2047 * 2 ^ 52 := by
  obtain ⟨h1, h2, h3, h4, h5⟩ := hx_b64
  unfold FP.Core.settle FP.Core.bound
  rw [h5, h4, h1]
  split
  · split
    · rw [hx_enc]
      split
      · exact ⟨c, by omega, by omega⟩
      · exact ⟨((q + 1074).toNat + 1) * 2 ^ 52 + (c - 2 ^ 52), by omega, by omega⟩
    · exact ⟨2047 * 2 ^ 52, by rw [hx_enci]; omega, by omega⟩
  · split
    · rw [hx_enc, if_neg (by omega)]
      exact ⟨((q + 1 + 1074).toNat + 1) * 2 ^ 52 + (2 ^ 52 - 2 ^ 52), by omega, by omega⟩
    · exact ⟨2047 * 2 ^ 52, by rw [hx_enci]; omega, by omega⟩
theorem hx_ratio (s : Bool) (n d : Nat) (e : Int) : ∃ b, FP.Core.encode FP.Core.b64 (FP.Core.roundRatio FP.Core.b64 s n d e) = s.toNat * 2 ^ 63 + b ∧ b ≤ 2047 * 2 ^ 52 := by
  unfold FP.Core.roundRatio FP.Core.roundAt
  split
  · refine ⟨0, ?_, by omega⟩
    rw [hx_enc, if_pos (by omega)]; omega
  · exact hx_settle _ _ _
theorem hx_round {d : FP.Core.Datum} (h : hx_nn d) : ∃ (s : Bool) (b : Nat), FP.Core.encode FP.Core.b64 (FP.Core.round FP.Core.b64 d) = s.toNat * 2 ^ 63 + b ∧ b ≤ 2047 * 2 ^ 52 := by
  rcases h with ⟨s, rfl⟩ | ⟨s, c, q, rfl⟩
  · exact ⟨s, 2047 * 2 ^ 52, by show FP.Core.encode FP.Core.b64 (.inf s) = _; rw [hx_enci]; omega, by omega⟩
  · exact ⟨s, hx_ratio s c 1 q⟩
theorem hx_roundp {d : FP.Core.Datum} (h : hx_ps d) : FP.Core.encode FP.Core.b64 (FP.Core.round FP.Core.b64 d) ≤ 2047 * 2 ^ 52 := by
  rcases h with rfl | ⟨c, q, rfl⟩
  · show FP.Core.encode FP.Core.b64 (.inf false) ≤ _; rw [hx_enci]; simp
  ·
    obtain ⟨b, h1, h2⟩ := hx_ratio false c 1 q
    show FP.Core.encode FP.Core.b64 (FP.Core.roundRatio FP.Core.b64 false c 1 q) ≤ _
    rw [h1]; simpa using h2
theorem hx_pz {n : Nat} (h : n ≤ 2047 * 2 ^ 52) : hb_pz (UInt64.ofNat n) := by
  unfold hb_pz
  rw [UInt64.le_iff_toNat_le, UInt64.toNat_ofNat_of_lt' (by have : UInt64.size = 2 ^ 64 := rfl; omega)]
  exact h
theorem hx_n64 {n : Nat} {s : Bool} {b : Nat} (h : n = s.toNat * 2 ^ 63 + b) (hb : b ≤ 2047 * 2 ^ 52) : vf_n64 (UInt64.ofNat n) := by
  have hs : s.toNat ≤ 1 := Bool.toNat_le s
  unfold vf_n64
  rw [UInt64.le_iff_toNat_le, UInt64.toNat_and, UInt64.toNat_ofNat_of_lt' (by have : UInt64.size = 2 ^ 64 := rfl; omega)]
  show n &&& (2 ^ 63 - 1) ≤ 2047 * 2 ^ 52
  rw [Nat.and_two_pow_sub_one_eq_mod]; omega
theorem hx_dp {x : UInt64} (h : hb_pz x) : hx_ps (FP.Core.decode FP.Core.b64 x.toNat) := by
  have h : x.toNat ≤ 2047 * 2 ^ 52 := UInt64.le_iff_toNat_le.mp h
  rw [hx_dec]
  have hs : (x.toNat / 2 ^ 52 / 2048 % 2 == 1) = false := by
    have : x.toNat / 2 ^ 52 / 2048 % 2 = 0 := by omega
    rw [this]; rfl
  rw [hs]
  split
  · rw [if_pos (by omega)]; exact .inf
  · split <;> exact .fin _ _
theorem hx_dn {x : UInt64} (h : vf_n64 x) : hx_nn (FP.Core.decode FP.Core.b64 x.toNat) := by
  have h : (x &&& 0x7fffffffffffffff).toNat ≤ 2047 * 2 ^ 52 := UInt64.le_iff_toNat_le.mp h
  rw [UInt64.toNat_and] at h
  have h : x.toNat &&& (2 ^ 63 - 1) ≤ 2047 * 2 ^ 52 := h
  rw [Nat.and_two_pow_sub_one_eq_mod] at h
  rw [hx_dec]
  split
  · rw [if_pos (by omega)]; exact .inf _
  · split <;> exact .fin _ _ _
/-- above 0 and finite: a number with a positive significand -/
theorem hx_df {x : UInt64} (h : hb_pf x) : ∃ c q, FP.Core.decode FP.Core.b64 x.toNat = .fin false c q ∧ ¬ c = 0 := by
  have h0 : 0 < x.toNat := UInt64.lt_iff_toNat_lt.mp h.1
  have h : x.toNat < 2047 * 2 ^ 52 := UInt64.lt_iff_toNat_lt.mp h.2
  rw [hx_dec]
  have hs : (x.toNat / 2 ^ 52 / 2048 % 2 == 1) = false := by
    have : x.toNat / 2 ^ 52 / 2048 % 2 = 0 := by omega
    rw [this]; rfl
  rw [hs, if_neg (by omega)]
  split
  · exact ⟨_, _, rfl, by omega⟩
  · exact ⟨_, _, rfl, by omega⟩
theorem hf_n {x : UInt64} (h : hb_pz x) : vf_n64 x := by
  have h : x.toNat ≤ 2047 * 2 ^ 52 := UInt64.le_iff_toNat_le.mp h
  unfold vf_n64
  rw [UInt64.le_iff_toNat_le, UInt64.toNat_and]
  exact Nat.le_trans Nat.and_le_left h
theorem hf_mul {x y : UInt64} (h : hb_pz x) (hy : hb_pf y) : hb_pz (FP.dmul x y) := by
  obtain ⟨d, r, h2, h3⟩ := hx_df hy
  refine hx_pz (hx_roundp ?_)
  rw [h2]
  have g := hx_dp h
  generalize FP.Core.decode FP.Core.b64 x.toNat = dx at g ⊢
  rcases g with rfl | ⟨c, q, rfl⟩
  · show hx_ps (if d = 0 then _ else _); rw [if_neg h3]; exact .inf
  · exact .fin _ _
theorem hf_mulc {x y : UInt64} (hy : hb_pf y) (h : hb_pz x) : hb_pz (FP.dmul y x) := by
  obtain ⟨d, r, h2, h3⟩ := hx_df hy
  refine hx_pz (hx_roundp ?_)
  rw [h2]
  have g := hx_dp h
  generalize FP.Core.decode FP.Core.b64 x.toNat = dx at g ⊢
  rcases g with rfl | ⟨c, q, rfl⟩
  · show hx_ps (if d = 0 then _ else _); rw [if_neg h3]; exact .inf
  · exact .fin _ _
theorem hx_sum (c : Nat) (q : Int) (d : Nat) (r : Int) (e : Int) : FP.Core.sumSign false false (FP.Core.sumUnits false c q false d r e) = false := by
  unfold FP.Core.sumSign
  split
  · rfl
  · refine decide_eq_false (fun h => ?_)
    have : (0 : Int) ≤ FP.Core.sumUnits false c q false d r e := Int.add_nonneg (Int.natCast_nonneg _) (Int.natCast_nonneg _)
    omega
theorem hf_add {x y : UInt64} (h : hb_pz x) (hy : hb_pz y) : hb_pz (FP.dadd x y) := by
  refine hx_pz (hx_roundp ?_)
  have g2 := hx_dp hy
  generalize FP.Core.decode FP.Core.b64 y.toNat = dy at g2 ⊢
  have g := hx_dp h
  generalize FP.Core.decode FP.Core.b64 x.toNat = dx at g ⊢
  rcases g with rfl | ⟨c, q, rfl⟩
  · rcases g2 with rfl | ⟨c, q, rfl⟩
    · exact .inf
    · exact .inf
  · rcases g2 with rfl | ⟨d, r, rfl⟩
    · exact .inf
    · show hx_ps (.fin (FP.Core.sumSign false false (FP.Core.sumUnits false c q false d r (min q r))) _ _); rw [hx_sum]; exact .fin _ _
theorem hf_i2d {x : Int32} (h : 0 ≤ x) : hb_pz (FP.i2d x) := by
  refine hx_pz (hx_roundp ?_)
  unfold FP.Core.ofInt
  have h : 0 ≤ x.toInt := Int32.le_iff_toInt_le.mp h
  rw [decide_eq_false (by omega)]
  exact .fin _ _
theorem hx_log {n : Nat} (h : 0 < n) : 2 ^ n.log2 ≤ n ∧ n < 2 ^ (n.log2 + 1) := ⟨Nat.log2_self_le (by omega), Nat.lt_log2_self⟩
theorem hx_lead {n : Nat} (h : 0 < n) : FP.Core.leading n 1 = n.log2 := by
  unfold FP.Core.leading
  have h1 : (1 : Nat).log2 = 0 := by decide
  rw [h1]
  show (if 1 * 2 ^ ((n.log2 : Int) - ((0 : Nat) : Int)).toNat ≤ n * 2 ^ (-((n.log2 : Int) - ((0 : Nat) : Int))).toNat then _ else _) = _
  rw [show ((n.log2 : Int) - ((0 : Nat) : Int)).toNat = n.log2 by omega, show (-((n.log2 : Int) - ((0 : Nat) : Int))).toNat = 0 by omega]
  rw [if_pos (by have := (hx_log h).1; omega)]
  omega
/-- a whole number, not 0, below 2^32 by itself: its bits -/
theorem hx_whole (s : Bool) {n : Nat} (h : 0 < n) (hn : n < 2 ^ 32) : ∃ b, FP.Core.encode FP.Core.b64 (FP.Core.roundRatio FP.Core.b64 s n 1 0) = s.toNat * 2 ^ 63 + b ∧ 0 < b ∧ b < 2047 * 2 ^ 52 := by
  have hl : n.log2 < 32 := (Nat.log2_lt (by omega)).mpr hn
  obtain ⟨g1, g2⟩ := hx_log h
  have e0 : FP.Core.roundRatio FP.Core.b64 s n 1 0 = .fin s (n * 2 ^ (52 - n.log2)) ((n.log2 : Int) - 52) := by
    unfold FP.Core.roundRatio
    rw [if_neg (by omega)]
    have hq : FP.Core.quantum FP.Core.b64 n 1 0 = (n.log2 : Int) - 52 := by
      unfold FP.Core.quantum
      obtain ⟨h1, h2, h3, h4, h5⟩ := hx_b64
      rw [hx_lead h, h3, h5]; omega
    rw [hq]
    unfold FP.Core.roundAt FP.Core.unitsNum FP.Core.unitsDen FP.Core.nearest FP.Core.settle FP.Core.bound
    obtain ⟨h1, h2, h3, h4, h5⟩ := hx_b64
    rw [show (0 - ((n.log2 : Int) - 52)).toNat = 52 - n.log2 by omega, show ((n.log2 : Int) - 52 - 0).toNat = 0 by omega, h5, h4, show 1 * 2 ^ 0 = 1 from rfl, Nat.mod_one, show 2 * 0 = 0 from rfl, if_pos (Nat.one_pos), Nat.div_one]
    have : n * 2 ^ (52 - n.log2) < 2 ^ 53 := by
      have : n * 2 ^ (52 - n.log2) < 2 ^ (n.log2 + 1) * 2 ^ (52 - n.log2) := Nat.mul_lt_mul_of_pos_right g2 (Nat.two_pow_pos _)
      rwa [← Nat.pow_add, show n.log2 + 1 + (52 - n.log2) = 53 by omega] at this
    rw [if_pos this, if_pos (by omega)]
  have h52 : 2 ^ 52 ≤ n * 2 ^ (52 - n.log2) := by
    have : 2 ^ n.log2 * 2 ^ (52 - n.log2) ≤ n * 2 ^ (52 - n.log2) := Nat.mul_le_mul_right _ g1
    rwa [← Nat.pow_add, show n.log2 + (52 - n.log2) = 52 by omega] at this
  have h53 : n * 2 ^ (52 - n.log2) < 2 ^ 53 := by
    have : n * 2 ^ (52 - n.log2) < 2 ^ (n.log2 + 1) * 2 ^ (52 - n.log2) := Nat.mul_lt_mul_of_pos_right g2 (Nat.two_pow_pos _)
    rwa [← Nat.pow_add, show n.log2 + 1 + (52 - n.log2) = 53 by omega] at this
  generalize n * 2 ^ (52 - n.log2) = c at *
  rw [e0, hx_enc, if_neg (by omega)]
  exact ⟨(((n.log2 : Int) - 52 + 1074).toNat + 1) * 2 ^ 52 + (c - 2 ^ 52), by omega, by omega, by omega⟩
theorem hf_i2dp {x : Int32} (h : 0 < x) : hb_pf (FP.i2d x) := by
  have h : 0 < x.toInt := Int32.lt_iff_toInt_lt.mp h
  have h9 := x.toInt_lt
  obtain ⟨b, h1, h2, h3⟩ := hx_whole false (n := x.toInt.natAbs) (by omega) (by omega)
  have e : FP.i2d x = UInt64.ofNat b := by
    unfold FP.i2d FP.Core.i2d FP.Core.fromInt FP.Core.ofInt FP.Core.round
    rw [decide_eq_false (by omega)]
    show UInt64.ofNat (FP.Core.encode FP.Core.b64 (FP.Core.roundRatio FP.Core.b64 false x.toInt.natAbs 1 0)) = _
    rw [h1]; simp
  rw [e]
  unfold hb_pf
  rw [UInt64.lt_iff_toNat_lt, UInt64.lt_iff_toNat_lt, UInt64.toNat_ofNat_of_lt' (by have : UInt64.size = 2 ^ 64 := rfl; omega)]
  exact ⟨h2, h3⟩
theorem hf_div {x y : UInt64} (h : hb_pz x) (hy : hb_pf y) : hb_pz (FP.ddiv x y) := by
  obtain ⟨d, r, h2, h3⟩ := hx_df hy
  refine hx_pz ?_
  unfold FP.Core.div
  rw [h2]
  have g := hx_dp h
  generalize FP.Core.decode FP.Core.b64 x.toNat = dx at g ⊢
  rcases g with rfl | ⟨c, q, rfl⟩
  · show FP.Core.encode FP.Core.b64 (.inf false) ≤ _; rw [hx_enci]; simp
  ·
    show FP.Core.encode FP.Core.b64 (if d = 0 then _ else _) ≤ _
    rw [if_neg h3]
    obtain ⟨b, h1, h2⟩ := hx_ratio false c d (q - r)
    rw [show (false != false) = false from rfl, h1]; simpa using h2
/-- an int's double is no NaN -/
theorem hx_i2n (x : Int32) : hx_nn (FP.Core.decode FP.Core.b64 (FP.i2d x).toNat) := by
  obtain ⟨s, b, h1, h2⟩ := hx_round (d := FP.Core.ofInt x.toInt) (.fin _ _ _)
  exact hx_dn (hx_n64 h1 h2)
/-- nor 0, nor infinite, where the int isn't 0 -/
theorem hx_i2z {x : Int32} (h : ¬ x = 0) : ∃ s c q, FP.Core.decode FP.Core.b64 (FP.i2d x).toNat = .fin s c q ∧ ¬ c = 0 := by
  have h9 := x.toInt_lt
  have h8 := x.le_toInt
  have h0 : ¬ x.toInt = 0 := fun q => h (Int32.toInt_inj.mp q)
  obtain ⟨b, h1, h2, h3⟩ := hx_whole (decide (x.toInt < 0)) (n := x.toInt.natAbs) (by omega) (by omega)
  have hs : (decide (x.toInt < 0)).toNat ≤ 1 := Bool.toNat_le _
  have e : (FP.i2d x).toNat = (decide (x.toInt < 0)).toNat * 2 ^ 63 + b := by
    unfold FP.i2d FP.Core.i2d FP.Core.fromInt FP.Core.ofInt FP.Core.round
    show (UInt64.ofNat (FP.Core.encode FP.Core.b64 (FP.Core.roundRatio FP.Core.b64 (decide (x.toInt < 0)) x.toInt.natAbs 1 0))).toNat = _
    rw [UInt64.toNat_ofNat_of_lt' (by have : UInt64.size = 2 ^ 64 := rfl; omega), h1]
  generalize (FP.i2d x).toNat = n at *
  rw [hx_dec, if_neg (by omega)]
  split
  · exact ⟨_, _, _, rfl, by omega⟩
  · exact ⟨_, _, _, rfl, by omega⟩
theorem hf_quo (x : Int32) {y : Int32} (h : ¬ y = 0) : vf_n64 (FP.ddiv (FP.i2d x) (FP.i2d y)) := by
  obtain ⟨t, d, r, h2, h3⟩ := hx_i2z h
  unfold FP.ddiv FP.Core.ddiv FP.Core.div
  rw [h2]
  have g := hx_i2n x
  generalize FP.Core.decode FP.Core.b64 (FP.i2d x).toNat = dx at g ⊢
  rcases g with ⟨s, rfl⟩ | ⟨s, c, q, rfl⟩
  · exact hx_n64 (s := s != t) (b := 2047 * 2 ^ 52) (by show FP.Core.encode FP.Core.b64 (.inf (s != t)) = _; rw [hx_enci]; omega) (by omega)
  ·
    show vf_n64 (UInt64.ofNat (FP.Core.encode FP.Core.b64 (if d = 0 then _ else _)))
    rw [if_neg h3]
    obtain ⟨b, h1, h2⟩ := hx_ratio (s != t) c d (q - r)
    exact hx_n64 h1 h2
theorem hf_den (x : Int32) {y : Int32} (h : ¬ y = 0) : vf_n64 (FP.dsub FP.dconst1 (FP.ddiv (FP.i2d x) (FP.i2d y))) := by
  have hq := hx_dn (hf_quo x h)
  have e1 : FP.Core.decode FP.Core.b64 FP.dconst1.toNat = .fin false (2 ^ 52) (-52) := by decide +kernel
  unfold FP.dsub FP.Core.dsub FP.Core.sub
  rw [e1]
  have : hx_nn (FP.Core.exactSum (.fin false (2 ^ 52) (-52)) (FP.Core.negate (FP.Core.decode FP.Core.b64 (FP.ddiv (FP.i2d x) (FP.i2d y)).toNat))) := by
    generalize FP.Core.decode FP.Core.b64 (FP.ddiv (FP.i2d x) (FP.i2d y)).toNat = dx at hq ⊢
    rcases hq with ⟨s, rfl⟩ | ⟨s, c, q, rfl⟩
    · exact .inf _
    · exact .fin _ _ _
  obtain ⟨s, b, h1, h2⟩ := hx_round this
  exact hx_n64 h1 h2
theorem hf_zero : hb_pz FP.dconst0 := by unfold hb_pz; decide
theorem hf_half : hb_pf 4602678819172646912 := by unfold hb_pf; decide
theorem hf_quarter : hb_pf 4598175219545276416 := by unfold hb_pf; decide
theorem hf_onehalf : hb_pf 4609434218613702656 := by unfold hb_pf; decide
theorem hf_34 : hb_pf 4604930618986332160 := by unfold hb_pf; decide
theorem hf_18 : hb_pf 4593671619917905920 := by unfold hb_pf; decide
theorem hf_10 : hb_pf 4621819117588971520 := by unfold hb_pf; decide
theorem hf_8 : hb_pf 4620693217682128896 := by unfold hb_pf; decide
def hb_max (x y : Int32) : Int32 := if x < y then y else x
-- comparisons of doubles
theorem hc_lt {r : Option Ordering} : (0 ≤ Op.cmpValue r .g) ↔ ¬ r = some .lt := by
  rcases r with _ | o
  · decide
  · cases o <;> decide
theorem hc_gt {r : Option Ordering} : (Op.cmpValue r .l ≤ 0) ↔ ¬ r = some .gt := by
  rcases r with _ | o
  · decide
  · cases o <;> decide
theorem hc_ltl {r : Option Ordering} : (Op.cmpValue r .l < 0) ↔ (r = none ∨ r = some .lt) := by
  rcases r with _ | o
  · decide
  · cases o <;> decide
def hb_w1 (e : UInt64) (cell : Bool) (w : UInt64) : UInt64 := if cell then FP.dadd (FP.dmul w 4602678819172646912) (FP.dmul e 4598175219545276416) else FP.dmul w 4602678819172646912
def hb_dep (e : UInt64) (hang : Bool) (w : UInt64) : UInt64 := if hang then FP.dmul (FP.dadd e w) 4609434218613702656 else FP.dadd e w
def hb_lack (d : UInt64) : Bool := decide (FP.dcmp d 4611686018427387904 = some .lt)
def hb_hole (d : UInt64) : Bool := !hb_lack d && decide (FP.dcmp d 4618441417868443648 = some .gt)
/-- warmth behind a layer; where it is a lack, a hole -/
def hb_wf (C : Int64) (e : UInt64) (W : Nat → UInt64) (p : Nat) : UInt64 := hb_w1 e (hb_bit C p) (W p)
def hb_lp (C Hg : Int64) (e : UInt64) (W : Nat → UInt64) (p : Nat) : Bool := hb_bit C p && hb_lack (hb_dep e (hb_bit Hg p) (hb_wf C e W p))
def hb_hp (C Hg : Int64) (e : UInt64) (W : Nat → UInt64) (p : Nat) : Bool := hb_bit C p && hb_hole (hb_dep e (hb_bit Hg p) (hb_wf C e W p))
theorem hb_wf_pz {C : Int64} {e : UInt64} {W : Nat → UInt64} (he : hb_pz e) (hW : ∀ p, hb_pz (W p)) (p : Nat) : hb_pz (hb_wf C e W p) := by
  unfold hb_wf hb_w1
  split
  · exact hf_add (hf_mul (hW p) hf_half) (hf_mul he hf_quarter)
  · exact hf_mul (hW p) hf_half
theorem hb_bit_t {x : Int64} {i : Nat} (hi : i < 64) (h : ¬ lg_cmp (x &&& hb_shl 1 (nI i)) 0 = 0) : hb_bit x i = true := by
  cases hc : hb_bit x i with
  | true => rfl
  | false => exact absurd ((lg_cmp_eq _ _).mpr ((hb_bit_and x hi).mpr hc)) h
theorem hb_bit_f {x : Int64} {i : Nat} (hi : i < 64) (h : lg_cmp (x &&& hb_shl 1 (nI i)) 0 = 0) : hb_bit x i = false := (hb_bit_and x hi).mp ((lg_cmp_eq _ _).mp h)
theorem hb_ct_s (p : Nat → Bool) (n : Nat) : hb_ct p (n + 1) = hb_ct p n + (p n).toNat := rfl
theorem hb_add0 (x : Int32) : x + nI 0 = x := by rw [nI_0]; exact Int32.add_zero x
theorem hb_addA (x : Int32) (a b : Nat) : x + nI a + nI b = x + nI (a + b) := by rw [Int32.add_assoc, nI_add]
theorem hb_lk (x : Int32) (p : Nat → Bool) (i : Nat) (h : p i = true) : x + nI (hb_ct p i) + nI 1 = x + nI (hb_ct p (i + 1)) := by rw [hb_addA, hb_ct_s, h]; rfl
theorem hb_lk0 (x : Int32) (p : Nat → Bool) (i : Nat) (h : p i = false) : x + nI (hb_ct p i) = x + nI (hb_ct p (i + 1)) := by rw [hb_ct_s, h]; rfl
theorem hb_lkT (x : Int32) (p : Nat → Bool) (i : Nat) : x + nI (hb_ct p i) + nI (p i).toNat = x + nI (hb_ct p (i + 1)) := by rw [hb_addA, hb_ct_s]
theorem hb_up2 {M : hw_M} {a b : Nat} {x y z : Option va_E} : va_up (va_up (va_up M a x) b y) b z = va_up (va_up M a x) b z := bx_uu _ _ _ _
theorem hb_up3 {M : hw_M} {a b : Nat} {x y z w : Option va_E} (n : a ≠ b) : va_up (va_up (va_up (va_up M a x) b y) b z) a w = va_up (va_up M a w) b z := by
  funext k
  simp only [va_up]
  by_cases h1 : k = a
  · subst h1; simp [n]
  · by_cases h2 : k = b
    · subst h2; simp [h1]
    · simp [h1, h2]
/-- the energy of a power and a speed -/
def hb_en (p s : Int32) : UInt64 := FP.ddiv (FP.ddiv (FP.i2d p) (FP.i2d s)) 4621819117588971520
theorem hb_en_pz {p s : Int32} (hp : 0 ≤ p) (hs : 0 < s) : hb_pz (hb_en p s) := hf_div (hf_div (hf_i2d hp) (hf_i2dp hs)) hf_10
def hb_cu (cu : UInt64) (n : Nat) : UInt64 := FP.dadd (FP.dmul cu 4604930618986332160) (FP.dmul 4593671619917905920 (FP.i2d (nI n)))
theorem hb_cu_pz {cu : UInt64} {n : Nat} (h : hb_pz cu) (hn : n < 2 ^ 31) : hb_pz (hb_cu cu n) := hf_add (hf_mul h hf_34) (hf_mulc hf_18 (hf_i2d (nI_pos' hn)))
def hb_struck (cu : UInt64) : Bool := decide (FP.dcmp cu 4611686018427387904 = some .gt)
def hb_dens (lk ho : Int32) (n : Int32) : UInt64 := if n = 0 then FP.dconst0 else FP.dsub FP.dconst1 (FP.ddiv (FP.i2d (lk + ho)) (FP.i2d n))
def hb_isd (d : UInt64) : Bool := !decide (FP.dcmp d 4606732058837280358 = none ∨ FP.dcmp d 4606732058837280358 = some .lt)
theorem hw_iv.exd {Z : hw_Z} {s : State} {M : hw_M} {H : Heap} {locs : List Loc} {a n : Nat} {f : Nat → UInt64} (g : Nat → UInt64) (hI : hw_iv Z s M H locs) (he : M a = hw_ad Z n f) (h : ∀ j, j < n → f j = g j) : hw_iv Z s (va_up M a (hw_ad Z n g)) H locs :=
  ⟨hI.1.ext he (fun q => by
    have e : vp_cell (Z.2.1 2) (n, .inr (.inr (.inr (.inl f)))) = vp_cell (Z.2.1 2) (n, .inr (.inr (.inr (.inl g)))) := by
      rw [vp_cell_d, vp_cell_d]
      exact hw_arr (fun j hj => by rw [h j hj])
    show H[a]? = some (vp_cell (Z.2.1 2) (n, .inr (.inr (.inr (.inl g)))))
    rw [← e]; exact q), hI.2⟩
theorem hb_sh0 {Z : hw_Z} {M : hw_M} {a wa : Nat} {lk ho : Int32} {W G : Nat → UInt64} {p q : Nat → Bool} (h0 : M a = hw_ob 2 [.ref wa, .int lk, .int ho]) (h1 : M wa = hw_ad Z 64 W) : M = va_up (va_up M a (hw_ob 2 [.ref wa, .int (lk + nI (hb_ct p 0)), .int (ho + nI (hb_ct q 0))])) wa (hw_ad Z 64 (hb_mix G W 0)) := by
  rw [hb_mix_0, show hb_ct p 0 = 0 from rfl, show hb_ct q 0 = 0 from rfl, hb_add0, hb_add0, ← hw_id h0 rfl]
  exact hw_id h1 rfl
/-- several writes to two cells: the last ones count -/
theorem hb_two {M M' : hw_M} {a b : Nat} {x y : Option va_E} (n : a ≠ b) (ha : M' a = x) (hb : M' b = y) (ho : ∀ k, k ≠ a → k ≠ b → M' k = M k) : va_up (va_up M a x) b y = M' := by
  funext k
  by_cases h1 : k = b
  · subst h1; rw [va_up_self, hb]
  · rw [va_up_ne _ _ h1]
    by_cases h2 : k = a
    · subst h2; rw [va_up_self, ha]
    · rw [va_up_ne _ _ h2, ho k h2 h1]
