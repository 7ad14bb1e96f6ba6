/-! Small words that the walks use. -/
def hb_ushr (x : Int64) (y : Int32) : Int64 := (x.toUInt64 >>> (y.toInt64.toUInt64 &&& Int64.toUInt64 63)).toInt64
def hb_shl (x : Int64) (y : Int32) : Int64 := x <<< (y.toInt64 &&& 63)
theorem hw_noa {M : hw_M} {a b ci : Nat} {fs : List Value} {x : ClassId × vp_A} (h1 : M a = hw_ob ci fs) (h2 : M b = some (.inl x)) : a ≠ b := hw_ne h1 h2 (by intro h; cases h)
theorem hw_noo {M : hw_M} {a b ci cj : Nat} {fs gs : List Value} (h1 : M a = hw_ob ci fs) (h2 : M b = hw_ob cj gs) (h : ci ≠ cj) : a ≠ b := hw_ne h1 h2 (by intro q; exact h (congrArg Prod.fst (Sum.inr.inj (Option.some.inj q))))
theorem hw_naa {M : hw_M} {a b : Nat} {c1 c2 : ClassId} {n1 n2 : Nat} {x1 x2} (h1 : M a = some (.inl (c1, n1, x1))) (h2 : M b = some (.inl (c2, n2, x2))) (h : x1 ≠ x2) : a ≠ b := hw_ne h1 h2 (by intro q; exact h (congrArg (fun z => z.2.2) (Sum.inl.inj (Option.some.inj q))))
theorem hw_inc (i : Nat) : nI i + Int32.ofInt 1 = nI (i + 1) := by rw [show Int32.ofInt 1 = 1 by decide]; exact nI_1 i
/-- how many of the first n hold -/
def hb_ct (p : Nat → Bool) : Nat → Nat
  | 0 => 0
  | n + 1 => hb_ct p n + (p n).toNat
theorem hb_ct_le (p : Nat → Bool) : ∀ n, hb_ct p n ≤ n
  | 0 => Nat.le_refl _
  | n + 1 => by
    have h := hb_ct_le p n
    have h2 : (p n).toNat ≤ 1 := by cases p n <;> decide
    show hb_ct p n + (p n).toNat ≤ n + 1
    omega
def hb_bit (x : Int64) (i : Nat) : Bool := x.toBitVec.getLsbD i
def hb_pc (x : Int64) : Nat := hb_ct (hb_bit x) 64
theorem hb_pc_le (x : Int64) : hb_pc x ≤ 64 := hb_ct_le _ _
/-- the sum of a row's first n -/
def hb_sm (f : Nat → Nat) : Nat → Nat
  | 0 => 0
  | n + 1 => hb_sm f n + f n
theorem hw_cz {x y : Int64} : (lg_cmp x y = 0) ↔ x = y := lg_cmp_eq x y
theorem hw_cn {x y : Int64} (h : lg_cmp x y = 0) : x = y := (lg_cmp_eq x y).mp h
theorem hw_cm {x y : Int64} (h : ¬ lg_cmp x y = 0) : ¬ x = y := fun q => h ((lg_cmp_eq x y).mpr q)
/-- a long array's contents under another name -/
theorem hw_arr {cA : ClassId} {n : Nat} {f g : Nat → Value} (h : ∀ j, j < n → f j = g j) : arrV cA n f = arrV cA n g := by
  unfold arrV
  congr 1
  apply Array.ext
  · simp
  · intro i h1 h2
    simp only [Array.getElem_ofFn]
    exact h i (by simpa using h1)
theorem hw_iv.exl {Z : hw_Z} {s : State} {M : hw_M} {H : Heap} {locs : List Loc} {a n : Nat} {f : Nat → Int64} (g : Nat → Int64) (hI : hw_iv Z s M H locs) (he : M a = hw_al Z n f) (h : ∀ j, j < n → f j = g j) : hw_iv Z s (va_up M a (hw_al Z n g)) H locs :=
  ⟨hI.1.ext he (fun q => by
    have e : vp_cell (Z.2.1 1) (n, .inr (.inl f)) = vp_cell (Z.2.1 1) (n, .inr (.inl g)) := by
      rw [vp_cell_l, vp_cell_l]
      exact hw_arr (fun j hj => by rw [h j hj])
    show H[a]? = some (vp_cell (Z.2.1 1) (n, .inr (.inl g)))
    rw [← e]; exact q), hI.2⟩
/-! Words bit by bit. -/
theorem hx_ext {x y : Int64} (h : ∀ i, i < 64 → hb_bit x i = hb_bit y i) : x = y := Int64.toBitVec_inj.mp (BitVec.eq_of_getLsbD_eq h)
theorem hx_and (x y : Int64) (i : Nat) : hb_bit (x &&& y) i = (hb_bit x i && hb_bit y i) := by
  unfold hb_bit; rw [Int64.toBitVec_and, BitVec.getLsbD_and]
theorem hx_or (x y : Int64) (i : Nat) : hb_bit (x ||| y) i = (hb_bit x i || hb_bit y i) := by
  unfold hb_bit; rw [Int64.toBitVec_or, BitVec.getLsbD_or]
theorem hx_not (x : Int64) {i : Nat} (h : i < 64) : hb_bit (x ^^^ (-1)) i = !hb_bit x i := by
  unfold hb_bit
  rw [Int64.toBitVec_xor, BitVec.getLsbD_xor]
  have : ((-1 : Int64).toBitVec).getLsbD i = true := by
    have : (-1 : Int64).toBitVec = BitVec.allOnes 64 := by decide
    rw [this, BitVec.getLsbD_allOnes, decide_eq_true h]
  rw [this, Bool.xor_true]
theorem hx_ge (x : Int64) {i : Nat} (h : 64 ≤ i) : hb_bit x i = false := BitVec.getLsbD_of_ge _ _ h
theorem hx_0 (i : Nat) : hb_bit 0 i = false := BitVec.getLsbD_zero
theorem hx_sa : ∀ n, n < 64 → ((nI n).toInt64 &&& 63).toBitVec.smod 64 = BitVec.ofNat 64 n := by decide +kernel
theorem hx_sb : ∀ n, n < 64 → ((nI n).toInt64.toUInt64 &&& Int64.toUInt64 63).toBitVec % 64 = BitVec.ofNat 64 n := by decide +kernel
theorem hx_shl (x : Int64) {n : Nat} (hn : n < 64) (i : Nat) : hb_bit (hb_shl x (nI n)) i = (decide (i < 64) && decide (n ≤ i) && hb_bit x (i - n)) := by
  unfold hb_bit hb_shl
  rw [Int64.toBitVec_shiftLeft, hx_sa n hn, BitVec.shiftLeft_eq', BitVec.toNat_ofNat, Nat.mod_eq_of_lt (by omega), BitVec.getLsbD_shiftLeft]
  congr 2
  rw [← decide_not]; exact decide_eq_decide.mpr (by omega)
theorem hx_ushr (x : Int64) {n : Nat} (hn : n < 64) (i : Nat) : hb_bit (hb_ushr x (nI n)) i = hb_bit x (n + i) := by
  unfold hb_bit hb_ushr
  show ((x.toUInt64 >>> ((nI n).toInt64.toUInt64 &&& Int64.toUInt64 63)).toBitVec).getLsbD i = _
  rw [UInt64.toBitVec_shiftRight, hx_sb n hn, BitVec.ushiftRight_eq', BitVec.toNat_ofNat, Nat.mod_eq_of_lt (by omega), BitVec.getLsbD_ushiftRight]
  rfl
theorem hx_1 (i : Nat) : hb_bit 1 i = decide (i = 0) := by
  unfold hb_bit
  show (1#64).getLsbD i = _
  rw [BitVec.getLsbD_one]; simp
theorem hx_bitw {n : Nat} (hn : n < 64) (i : Nat) : hb_bit (hb_shl 1 (nI n)) i = decide (i = n) := by
  rw [hx_shl _ hn, hx_1]
  rcases Nat.lt_trichotomy i n with h | h | h
  · rw [decide_eq_false (show ¬ n ≤ i by omega), decide_eq_false (show ¬ i = n by omega)]; simp
  · subst h; simp [hn]
  · rw [decide_eq_false (show ¬ i - n = 0 by omega), decide_eq_false (show ¬ i = n by omega)]; simp
theorem hx_z {x : Int64} : x = 0 ↔ ∀ i, i < 64 → hb_bit x i = false := ⟨fun h i _ => by rw [h]; exact hx_0 i, fun h => hx_ext (fun i hi => (h i hi).trans (hx_0 i).symm)⟩
theorem hb_bit_and (x : Int64) {i : Nat} (hi : i < 64) : (x &&& hb_shl 1 (nI i)) = 0 ↔ hb_bit x i = false := by
  rw [hx_z]
  constructor
  · intro h
    have := h i hi
    rw [hx_and, hx_bitw hi, decide_eq_true rfl, Bool.and_true] at this
    exact this
  · intro h j hj
    rw [hx_and, hx_bitw hi]
    by_cases q : j = i
    · rw [q, h]; rfl
    · rw [decide_eq_false q, Bool.and_false]
theorem hx_and1 (x : Int64) : (x &&& 1 = 0 ↔ hb_bit x 0 = false) ∧ (x &&& 1 = 1 ↔ hb_bit x 0 = true) := by
  have key : ∀ j, hb_bit (x &&& 1) j = (hb_bit x j && decide (j = 0)) := fun j => by rw [hx_and, hx_1]
  constructor
  · rw [hx_z]
    constructor
    · intro h; have := h 0 (by omega); rw [key, decide_eq_true rfl, Bool.and_true] at this; exact this
    · intro h j _
      rw [key]
      by_cases q : j = 0
      · rw [q, h]; rfl
      · rw [decide_eq_false q, Bool.and_false]
  · constructor
    · intro h
      have := key 0
      rw [h, hx_1, decide_eq_true rfl, Bool.and_true] at this; exact this.symm
    · intro h
      refine hx_ext (fun j _ => ?_)
      rw [key, hx_1]
      by_cases q : j = 0
      · rw [q, h]; rfl
      · rw [decide_eq_false q, Bool.and_false]
theorem hb_has1 (x : Int64) {n : Nat} (h : n < 64) : (hb_ushr x (nI n) &&& 1 = 1) ↔ hb_bit x n = true := by
  rw [(hx_and1 _).2, hx_ushr x h, Nat.add_zero]
theorem hx_ct {p q : Nat → Bool} : ∀ n, (∀ i, i < n → p i = true → q i = true) → hb_ct p n ≤ hb_ct q n
  | 0, _ => Nat.le_refl _
  | n + 1, h => by
    have h1 := hx_ct n (fun i hi => h i (by omega))
    have h2 := h n (by omega)
    show hb_ct p n + (p n).toNat ≤ hb_ct q n + (q n).toNat
    cases hp : p n with
    | false => simp; omega
    | true => rw [h2 hp]; simpa using h1
theorem hx_ctl {p q : Nat → Bool} : ∀ n, (∀ i, i < n → p i = true → q i = true) → (∃ i, i < n ∧ p i = false ∧ q i = true) → hb_ct p n < hb_ct q n
  | 0, _, ⟨i, hi, _⟩ => by omega
  | n + 1, h, ⟨i, hi, h3, h4⟩ => by
    show hb_ct p n + (p n).toNat < hb_ct q n + (q n).toNat
    by_cases q1 : i = n
    · subst q1
      rw [h3, h4]
      have := hx_ct i (fun j hj => h j (by omega))
      simp; omega
    · have h1 := hx_ctl n (fun i hi => h i (by omega)) ⟨i, by omega, h3, h4⟩
      have h2 := h n (by omega)
      cases hp : p n with
      | false => simp; omega
      | true => rw [h2 hp]; simpa using h1
theorem hx_pcl {x y : Int64} (h : ∀ i, i < 64 → hb_bit x i = true → hb_bit y i = true) (hn : ¬ x = y) : hb_pc x < hb_pc y := by
  refine hx_ctl 64 h (Classical.byContradiction (fun q => hn (hx_ext (fun i hi => ?_))))
  cases h1 : hb_bit x i with
  | true => exact (h i hi h1).symm
  | false =>
    cases h2 : hb_bit y i with
    | false => rfl
    | true => exact absurd ⟨i, hi, h1, h2⟩ q
theorem hb_pc_z {x : Int64} : hb_pc x = 0 ↔ x = 0 := by
  constructor
  · intro h
    refine Classical.byContradiction (fun q => ?_)
    have := hx_pcl (x := 0) (y := x) (fun i _ h => by rw [hx_0] at h; cases h) (fun e => q e.symm)
    omega
  · intro h
    subst h
    have : hb_ct (hb_bit 0) 64 ≤ hb_ct (fun _ => false) 64 := hx_ct 64 (fun i _ h => by rw [hx_0] at h; cases h)
    have e : hb_ct (fun _ => false) 64 = 0 := by decide
    unfold hb_pc; omega
-- the JDK's way of counting bits: pairs of digits added
def hx_pr (w : Nat) : Nat → Nat → Nat
  | 0, _ => 0
  | k + 1, x => (x % 2 ^ w + x / 2 ^ w % 2 ^ w) + 2 ^ (2 * w) * hx_pr w k (x / 2 ^ (2 * w))
/-- the sum of k digits of w bits -/
def hx_ds (w : Nat) : Nat → Nat → Nat
  | 0, _ => 0
  | k + 1, x => x % 2 ^ w + hx_ds w k (x / 2 ^ w)
/-- a mask of every other digit -/
def hx_mk (w : Nat) : Nat → Nat
  | 0 => 0
  | k + 1 => (2 ^ w - 1) + 2 ^ (2 * w) * hx_mk w k
theorem hx_lo (w : Nat) (x m : Nat) : x &&& ((2 ^ w - 1) + 2 ^ (2 * w) * m) = x % 2 ^ w + 2 ^ (2 * w) * (x / 2 ^ (2 * w) &&& m) := by
  have hw : 2 ^ w ≤ 2 ^ (2 * w) := Nat.pow_le_pow_right (by omega) (by omega)
  have h0 := Nat.two_pow_pos w
  have e1 : (x &&& ((2 ^ w - 1) + 2 ^ (2 * w) * m)) / 2 ^ (2 * w) = x / 2 ^ (2 * w) &&& m := by
    rw [Nat.and_div_two_pow, Nat.add_mul_div_left _ _ (Nat.two_pow_pos _), Nat.div_eq_of_lt (show 2 ^ w - 1 < 2 ^ (2 * w) by omega), Nat.zero_add]
  have e2 : (x &&& ((2 ^ w - 1) + 2 ^ (2 * w) * m)) % 2 ^ (2 * w) = x % 2 ^ w := by
    rw [Nat.and_mod_two_pow, Nat.add_mul_mod_self_left, Nat.mod_eq_of_lt (show 2 ^ w - 1 < 2 ^ (2 * w) by omega), Nat.and_two_pow_sub_one_eq_mod, Nat.mod_mod_of_dvd _ (Nat.pow_dvd_pow 2 (by omega))]
  have := Nat.mod_add_div (x &&& ((2 ^ w - 1) + 2 ^ (2 * w) * m)) (2 ^ (2 * w))
  rw [e1, e2] at this
  exact this.symm
theorem hx_pr_mk (w : Nat) : ∀ k x, (x &&& hx_mk w k) + (x / 2 ^ w &&& hx_mk w k) = hx_pr w k x
  | 0, x => by show (x &&& 0) + (x / 2 ^ w &&& 0) = 0; simp
  | k + 1, x => by
    show (x &&& ((2 ^ w - 1) + 2 ^ (2 * w) * hx_mk w k)) + (x / 2 ^ w &&& ((2 ^ w - 1) + 2 ^ (2 * w) * hx_mk w k)) = (x % 2 ^ w + x / 2 ^ w % 2 ^ w) + 2 ^ (2 * w) * hx_pr w k (x / 2 ^ (2 * w))
    rw [hx_lo, hx_lo, ← hx_pr_mk w k (x / 2 ^ (2 * w)), Nat.div_div_eq_div_mul, Nat.div_div_eq_div_mul, Nat.mul_comm (2 ^ w) (2 ^ (2 * w)), Nat.mul_add]
    omega
theorem hx_pr_ds {w : Nat} (hw : 0 < w) : ∀ k x, hx_ds (2 * w) k (hx_pr w k x) = hx_ds w (2 * k) x
  | 0, _ => rfl
  | k + 1, x => by
    have h0 := Nat.two_pow_pos w
    have hb : x % 2 ^ w + x / 2 ^ w % 2 ^ w < 2 ^ (2 * w) := by
      have h1 := Nat.mod_lt x h0
      have h2 := Nat.mod_lt (x / 2 ^ w) h0
      have h3 : 2 ^ (w + 1) ≤ 2 ^ (2 * w) := Nat.pow_le_pow_right (by omega) (by omega)
      rw [Nat.pow_succ] at h3
      omega
    show ((x % 2 ^ w + x / 2 ^ w % 2 ^ w) + 2 ^ (2 * w) * hx_pr w k (x / 2 ^ (2 * w))) % 2 ^ (2 * w) + hx_ds (2 * w) k (((x % 2 ^ w + x / 2 ^ w % 2 ^ w) + 2 ^ (2 * w) * hx_pr w k (x / 2 ^ (2 * w))) / 2 ^ (2 * w)) = _
    rw [Nat.add_mul_mod_self_left, Nat.mod_eq_of_lt hb, Nat.add_mul_div_left _ _ (Nat.two_pow_pos _), Nat.div_eq_of_lt hb, Nat.zero_add, hx_pr_ds hw k, show 2 * (k + 1) = 2 * k + 1 + 1 by omega]
    show _ = x % 2 ^ w + (x / 2 ^ w % 2 ^ w + hx_ds w (2 * k) (x / 2 ^ w / 2 ^ w))
    rw [Nat.div_div_eq_div_mul, ← Nat.pow_add, show w + w = 2 * w by omega]
    omega
/-- a number less its upper halves of pairs -/
theorem hx_sub (w : Nat) (hw : w = 1) : ∀ k x, x < 2 ^ (2 * w * k) → x - (x / 2 ^ w &&& hx_mk w k) = hx_pr w k x ∧ (x / 2 ^ w &&& hx_mk w k) ≤ x
  | 0, x, h => by
    have : x = 0 := by simpa using h
    subst this; simp [hx_pr, hx_mk]
  | k + 1, x, h => by
    subst hw
    have ih := hx_sub 1 rfl k (x / 2 ^ (2 * 1)) (by
      refine Nat.div_lt_of_lt_mul ?_
      rw [← Nat.pow_add]; exact Nat.lt_of_lt_of_le h (Nat.pow_le_pow_right (by omega) (by omega)))
    show x - (x / 2 ^ 1 &&& ((2 ^ 1 - 1) + 2 ^ (2 * 1) * hx_mk 1 k)) = (x % 2 ^ 1 + x / 2 ^ 1 % 2 ^ 1) + 2 ^ (2 * 1) * hx_pr 1 k (x / 2 ^ (2 * 1)) ∧ (x / 2 ^ 1 &&& ((2 ^ 1 - 1) + 2 ^ (2 * 1) * hx_mk 1 k)) ≤ x
    rw [hx_lo]
    obtain ⟨h1, h2⟩ := ih
    rw [Nat.div_div_eq_div_mul, Nat.mul_comm (2 ^ 1) (2 ^ (2 * 1)), ← Nat.div_div_eq_div_mul, ← h1]
    generalize (x / 2 ^ (2 * 1) / 2 ^ 1 &&& hx_mk 1 k) = u at h2 ⊢
    omega
theorem hx_ds_ct (x : Int64) : ∀ k j, hx_ds 1 k (x.toBitVec.toNat / 2 ^ j) + hb_ct (hb_bit x) j = hb_ct (hb_bit x) (j + k)
  | 0, j => by show 0 + _ = _; rw [Nat.zero_add]; rfl
  | k + 1, j => by
    show x.toBitVec.toNat / 2 ^ j % 2 ^ 1 + hx_ds 1 k (x.toBitVec.toNat / 2 ^ j / 2 ^ 1) + _ = _
    have ih := hx_ds_ct x k (j + 1)
    rw [Nat.div_div_eq_div_mul, ← Nat.pow_add, show j + (k + 1) = j + 1 + k by omega, ← ih]
    show _ = _ + (hb_ct (hb_bit x) j + (hb_bit x j).toNat)
    have : (hb_bit x j).toNat = x.toBitVec.toNat / 2 ^ j % 2 ^ 1 := by
      unfold hb_bit
      rw [BitVec.getLsbD, Nat.testBit_eq_decide_div_mod_eq]
      have := Nat.mod_two_eq_zero_or_one (x.toBitVec.toNat / 2 ^ j)
      rw [Nat.pow_one]
      rcases this with h | h <;> rw [h] <;> rfl
    rw [this]; omega
theorem hx_ut (x : Int64) {n : Nat} (hn : n < 64) : (hb_ushr x (nI n)).toBitVec.toNat = x.toBitVec.toNat / 2 ^ n := by
  unfold hb_ushr
  show ((x.toUInt64 >>> ((nI n).toInt64.toUInt64 &&& Int64.toUInt64 63)).toBitVec).toNat = _
  rw [UInt64.toBitVec_shiftRight, hx_sb n hn, BitVec.ushiftRight_eq', BitVec.toNat_ofNat, Nat.mod_eq_of_lt (by omega), BitVec.toNat_ushiftRight, Nat.shiftRight_eq_div_pow]
  rfl
theorem hx_m1 : hx_mk 1 32 = 6148914691236517205 := by decide +kernel
theorem hx_m2 : hx_mk 2 16 = 3689348814741910323 := by decide +kernel
theorem hx_m4 : hx_mk 4 8 = 1085102592571150095 := by decide +kernel
theorem hx_pr_lt {w : Nat} (hw : 0 < w) : ∀ k x, hx_pr w k x < 2 ^ (2 * w * k)
  | 0, _ => by show 0 < 2 ^ _; exact Nat.two_pow_pos _
  | k + 1, x => by
    have h0 := Nat.two_pow_pos w
    have h1 := Nat.mod_lt x h0
    have h2 := Nat.mod_lt (x / 2 ^ w) h0
    have h3 : 2 ^ (w + 1) ≤ 2 ^ (2 * w) := Nat.pow_le_pow_right (by omega) (by omega)
    rw [Nat.pow_succ] at h3
    have ih := hx_pr_lt hw k (x / 2 ^ (2 * w))
    show (x % 2 ^ w + x / 2 ^ w % 2 ^ w) + 2 ^ (2 * w) * hx_pr w k (x / 2 ^ (2 * w)) < 2 ^ (2 * w * k + 2 * w)
    rw [Nat.pow_add, Nat.mul_comm (2 ^ (2 * w * k))]
    have : 2 ^ (2 * w) * (hx_pr w k (x / 2 ^ (2 * w)) + 1) ≤ 2 ^ (2 * w) * 2 ^ (2 * w * k) := Nat.mul_le_mul_left _ ih
    rw [Nat.mul_add] at this
    omega
/-- nibbles no greater than 4, added: bytes -/
theorem hx_p4 : ∀ k x, x < 2 ^ (8 * k) → (∀ j, x / 2 ^ (4 * j) % 16 ≤ 4) → (x + x / 16) &&& hx_mk 4 k = hx_pr 4 k x
  | 0, x, _, _ => by show _ &&& 0 = 0; simp
  | k + 1, x, h, hd => by
    show (x + x / 16) &&& ((2 ^ 4 - 1) + 2 ^ (2 * 4) * hx_mk 4 k) = (x % 2 ^ 4 + x / 2 ^ 4 % 2 ^ 4) + 2 ^ (2 * 4) * hx_pr 4 k (x / 2 ^ (2 * 4))
    have d0 : x % 16 ≤ 4 := by have := hd 0; simpa using this
    have d1 : x / 16 % 16 ≤ 4 := by have := hd 1; simpa using this
    have d2 : x / 256 % 16 ≤ 4 := by have := hd 2; simpa using this
    rw [hx_lo, ← hx_p4 k (x / 2 ^ (2 * 4)) (by refine Nat.div_lt_of_lt_mul ?_; rw [← Nat.pow_add]; exact Nat.lt_of_lt_of_le h (Nat.pow_le_pow_right (by omega) (by omega))) (fun j => by
      rw [Nat.div_div_eq_div_mul, ← Nat.pow_add, show 2 * 4 + 4 * j = 4 * (j + 2) by omega]; exact hd (j + 2))]
    have p1 : (2 : Nat) ^ 4 = 16 := rfl
    have p2 : (2 : Nat) ^ (2 * 4) = 256 := rfl
    rw [p1, p2]
    have q1 : (x + x / 16) % 16 = x % 16 + x / 16 % 16 := by omega
    have q2 : (x + x / 16) / 256 = x / 256 + x / 256 / 16 := by
      have g0 : x = x % 16 + 16 * (x / 16 % 16) + 256 * (x / 256) := by omega
      have g1 : x / 16 = x / 16 % 16 + 16 * (x / 256) := by omega
      have g2 : x / 256 = x / 256 % 16 + 16 * (x / 256 / 16) := by omega
      have g3 : x + x / 16 = (x % 16 + 17 * (x / 16 % 16) + 16 * (x / 256 % 16)) + 256 * (x / 256 + x / 256 / 16) := by omega
      rw [g3, Nat.add_mul_div_left _ _ (by omega), Nat.div_eq_of_lt (by omega), Nat.zero_add]
    rw [q1, q2]
theorem hx_nib2 (j : Nat) : ∀ k y, hx_pr 1 k y / 2 ^ (2 * j) % 4 ≤ 2 := by
  induction j with
  | zero =>
    intro k y
    cases k with
    | zero => show 0 / _ % 4 ≤ 2; simp
    | succ k => show ((y % 2 ^ 1 + y / 2 ^ 1 % 2 ^ 1) + 2 ^ (2 * 1) * _) / 2 ^ (2 * 0) % 4 ≤ 2; omega
  | succ j ih =>
    intro k y
    cases k with
    | zero => show 0 / _ % 4 ≤ 2; simp
    | succ k =>
      have := ih k (y / 2 ^ (2 * 1))
      rw [show 2 * (j + 1) = 2 + 2 * j by omega, Nat.pow_add, ← Nat.div_div_eq_div_mul]
      show ((y % 2 ^ 1 + y / 2 ^ 1 % 2 ^ 1) + 2 ^ (2 * 1) * hx_pr 1 k (y / 2 ^ (2 * 1))) / 2 ^ 2 / _ % 4 ≤ 2
      rw [show ((y % 2 ^ 1 + y / 2 ^ 1 % 2 ^ 1) + 2 ^ (2 * 1) * hx_pr 1 k (y / 2 ^ (2 * 1))) / 2 ^ 2 = hx_pr 1 k (y / 2 ^ (2 * 1)) by omega]
      exact this
theorem hx_nib4 (j : Nat) : ∀ k y, (∀ i, y / 2 ^ (2 * i) % 4 ≤ 2) → hx_pr 2 k y / 2 ^ (4 * j) % 16 ≤ 4 := by
  induction j with
  | zero =>
    intro k y h
    have h0 : y % 4 ≤ 2 := by simpa using h 0
    have h1 : y / 4 % 4 ≤ 2 := by simpa using h 1
    cases k with
    | zero => show 0 / _ % 16 ≤ 4; simp
    | succ k => show ((y % 4 + y / 4 % 4) + 16 * _) / 1 % 16 ≤ 4; omega
  | succ j ih =>
    intro k y h
    have h0 : y % 4 ≤ 2 := by simpa using h 0
    have h1 : y / 4 % 4 ≤ 2 := by simpa using h 1
    cases k with
    | zero => show 0 / _ % 16 ≤ 4; simp
    | succ k =>
      have := ih k (y / 2 ^ (2 * 2)) (fun i => by rw [Nat.div_div_eq_div_mul, ← Nat.pow_add, show 2 * 2 + 2 * i = 2 * (i + 2) by omega]; exact h (i + 2))
      rw [show 4 * (j + 1) = 4 + 4 * j by omega, Nat.pow_add, ← Nat.div_div_eq_div_mul]
      show ((y % 4 + y / 4 % 4) + 16 * hx_pr 2 k (y / 2 ^ (2 * 2))) / 16 / _ % 16 ≤ 4
      rw [show ((y % 4 + y / 4 % 4) + 16 * hx_pr 2 k (y / 2 ^ (2 * 2))) / 16 = hx_pr 2 k (y / 2 ^ (2 * 2)) by omega]
      exact this
theorem hx_nib8 (j : Nat) : ∀ k y, (∀ i, y / 2 ^ (4 * i) % 16 ≤ 4) → hx_pr 4 k y / 2 ^ (8 * j) % 256 ≤ 8 := by
  induction j with
  | zero =>
    intro k y h
    have h0 : y % 16 ≤ 4 := by simpa using h 0
    have h1 : y / 16 % 16 ≤ 4 := by simpa using h 1
    cases k with
    | zero => show 0 / _ % 256 ≤ 8; simp
    | succ k => show ((y % 16 + y / 16 % 16) + 256 * _) / 1 % 256 ≤ 8; omega
  | succ j ih =>
    intro k y h
    have h0 : y % 16 ≤ 4 := by simpa using h 0
    have h1 : y / 16 % 16 ≤ 4 := by simpa using h 1
    cases k with
    | zero => show 0 / _ % 256 ≤ 8; simp
    | succ k =>
      have := ih k (y / 2 ^ (2 * 4)) (fun i => by rw [Nat.div_div_eq_div_mul, ← Nat.pow_add, show 2 * 4 + 4 * i = 4 * (i + 2) by omega]; exact h (i + 2))
      rw [show 8 * (j + 1) = 8 + 8 * j by omega, Nat.pow_add, ← Nat.div_div_eq_div_mul]
      show ((y % 16 + y / 16 % 16) + 256 * hx_pr 4 k (y / 2 ^ (2 * 4))) / 256 / _ % 256 ≤ 8
      rw [show ((y % 16 + y / 16 % 16) + 256 * hx_pr 4 k (y / 2 ^ (2 * 4))) / 256 = hx_pr 4 k (y / 2 ^ (2 * 4)) by omega]
      exact this
theorem hx_sum8 {a b c d a0 a1 a2 a3 a4 a5 a6 a7 : Nat} (ea : a = a0 + 256 * a1 + 65536 * a2 + 16777216 * a3 + 4294967296 * a4 + 1099511627776 * a5 + 281474976710656 * a6 + 72057594037927936 * a7) (b0 : a0 ≤ 8) (b1 : a1 ≤ 8) (b2 : a2 ≤ 8) (b3 : a3 ≤ 8) (b4 : a4 ≤ 8) (b5 : a5 ≤ 8) (b6 : a6 ≤ 8) (b7 : a7 ≤ 8) (t4 : b = (a + a / 256) % 18446744073709551616) (t5 : c = (b + b / 65536) % 18446744073709551616) (t6 : d = (c + c / 4294967296) % 18446744073709551616) :
    d % 128 = a0 + (a1 + (a2 + (a3 + (a4 + (a5 + (a6 + a7)))))) := by
  have g4 : a / 256 = a1 + 256 * a2 + 65536 * a3 + 16777216 * a4 + 4294967296 * a5 + 1099511627776 * a6 + 281474976710656 * a7 := by
    rw [show a = a0 + 256 * (a1 + 256 * a2 + 65536 * a3 + 16777216 * a4 + 4294967296 * a5 + 1099511627776 * a6 + 281474976710656 * a7) by omega, Nat.add_mul_div_left _ _ (by omega), Nat.div_eq_of_lt (by omega), Nat.zero_add]
  have f4 : b = (a0 + a1) + 256 * (a1 + a2) + 65536 * (a2 + a3) + 16777216 * (a3 + a4) + 4294967296 * (a4 + a5) + 1099511627776 * (a5 + a6) + 281474976710656 * (a6 + a7) + 72057594037927936 * a7 := by
    rw [t4, g4, ea, Nat.mod_eq_of_lt (by omega)]; omega
  clear t4 g4 ea
  have g5 : b / 65536 = (a2 + a3) + 256 * (a3 + a4) + 65536 * (a4 + a5) + 16777216 * (a5 + a6) + 4294967296 * (a6 + a7) + 1099511627776 * a7 := by
    rw [show b = ((a0 + a1) + 256 * (a1 + a2)) + 65536 * ((a2 + a3) + 256 * (a3 + a4) + 65536 * (a4 + a5) + 16777216 * (a5 + a6) + 4294967296 * (a6 + a7) + 1099511627776 * a7) by omega, Nat.add_mul_div_left _ _ (by omega), Nat.div_eq_of_lt (by omega), Nat.zero_add]
  have f5 : c = (a0 + a1 + a2 + a3) + 256 * (a1 + a2 + a3 + a4) + 65536 * (a2 + a3 + a4 + a5) + 16777216 * (a3 + a4 + a5 + a6) + 4294967296 * (a4 + a5 + a6 + a7) + 1099511627776 * (a5 + a6 + a7) + 281474976710656 * (a6 + a7) + 72057594037927936 * a7 := by
    rw [t5, g5, f4, Nat.mod_eq_of_lt (by omega)]; omega
  clear t5 g5 f4
  have g6 : c / 4294967296 = (a4 + a5 + a6 + a7) + 256 * (a5 + a6 + a7) + 65536 * (a6 + a7) + 16777216 * a7 := by
    rw [show c = ((a0 + a1 + a2 + a3) + 256 * (a1 + a2 + a3 + a4) + 65536 * (a2 + a3 + a4 + a5) + 16777216 * (a3 + a4 + a5 + a6)) + 4294967296 * ((a4 + a5 + a6 + a7) + 256 * (a5 + a6 + a7) + 65536 * (a6 + a7) + 16777216 * a7) by omega, Nat.add_mul_div_left _ _ (by omega), Nat.div_eq_of_lt (by omega), Nat.zero_add]
  rw [t6, g6, f5]
  clear t6 g6 f5
  rw [Nat.mod_eq_of_lt (b := 18446744073709551616) (by omega)]
  rw [show (a0 + a1 + a2 + a3) + 256 * (a1 + a2 + a3 + a4) + 65536 * (a2 + a3 + a4 + a5) + 16777216 * (a3 + a4 + a5 + a6) + 4294967296 * (a4 + a5 + a6 + a7) + 1099511627776 * (a5 + a6 + a7) + 281474976710656 * (a6 + a7) + 72057594037927936 * a7 + ((a4 + a5 + a6 + a7) + 256 * (a5 + a6 + a7) + 65536 * (a6 + a7) + 16777216 * a7) = (a0 + (a1 + (a2 + (a3 + (a4 + (a5 + (a6 + a7))))))) + 128 * (2 * (a1 + a2 + a3 + a4) + 512 * (a2 + a3 + a4 + a5) + 131072 * (a3 + a4 + a5 + a6) + 33554432 * (a4 + a5 + a6 + a7) + 8589934592 * (a5 + a6 + a7) + 2199023255552 * (a6 + a7) + 562949953421312 * a7 + (2 * (a5 + a6 + a7) + 512 * (a6 + a7) + 131072 * a7)) by omega, Nat.add_mul_mod_self_left, Nat.mod_eq_of_lt (by omega)]
theorem hx_dig8 {a : Nat} (h : a < 18446744073709551616) : a = a % 256 + 256 * (a / 256 % 256) + 65536 * (a / 256 / 256 % 256) + 16777216 * (a / 256 / 256 / 256 % 256) + 4294967296 * (a / 256 / 256 / 256 / 256 % 256) + 1099511627776 * (a / 256 / 256 / 256 / 256 / 256 % 256) + 281474976710656 * (a / 256 / 256 / 256 / 256 / 256 / 256 % 256) + 72057594037927936 * (a / 256 / 256 / 256 / 256 / 256 / 256 / 256 % 256) := by omega
theorem hb_swar {x x1 x2 x3 x4 x5 x6 : Int64} (e1 : x1 = x - (hb_ushr x (nI 1) &&& 6148914691236517205)) (e2 : x2 = (x1 &&& 3689348814741910323) + (hb_ushr x1 (nI 2) &&& 3689348814741910323)) (e3 : x3 = (x2 + hb_ushr x2 (nI 4)) &&& 1085102592571150095) (e4 : x4 = x3 + hb_ushr x3 (nI 8)) (e5 : x5 = x4 + hb_ushr x4 (nI 16)) (e6 : x6 = x5 + hb_ushr x5 (nI 32)) : x6.toInt32 &&& nI 127 = nI (hb_pc x) := by
  have hn : ∀ y : Int64, y.toBitVec.toNat < 2 ^ 64 := fun y => y.toBitVec.isLt
  have k1 : (6148914691236517205 : Int64).toBitVec.toNat = hx_mk 1 32 := by decide +kernel
  have k2 : (3689348814741910323 : Int64).toBitVec.toNat = hx_mk 2 16 := by decide +kernel
  have k4 : (1085102592571150095 : Int64).toBitVec.toNat = hx_mk 4 8 := by decide +kernel
  have c0 : hx_ds 1 64 x.toBitVec.toNat = hb_pc x := by
    have := hx_ds_ct x 64 0
    rw [Nat.pow_zero, Nat.div_one, Nat.zero_add, show hb_ct (hb_bit x) 0 = 0 from rfl, Nat.add_zero] at this
    unfold hb_pc
    exact this
  generalize hpc : hb_pc x = n at c0 ⊢
  have hn64 : n ≤ 64 := by rw [← hpc]; exact hb_pc_le x
  have a1 : x1.toBitVec.toNat = hx_pr 1 32 x.toBitVec.toNat := by
    have h := hx_sub 1 rfl 32 x.toBitVec.toNat (hn x)
    rw [e1, Int64.toBitVec_sub, BitVec.toNat_sub_of_le (by rw [BitVec.le_def, Int64.toBitVec_and, BitVec.toNat_and, hx_ut x (by omega), k1]; exact h.2), Int64.toBitVec_and, BitVec.toNat_and, hx_ut x (by omega), k1]
    exact h.1
  have c1 : hx_ds 2 32 x1.toBitVec.toNat = n := by rw [a1, hx_pr_ds (w := 1) (by omega)]; exact c0
  have a2 : x2.toBitVec.toNat = hx_pr 2 16 x1.toBitVec.toNat := by
    have h := hx_pr_lt (w := 2) (by omega) 16 x1.toBitVec.toNat
    rw [← hx_pr_mk] at h ⊢
    rw [e2, Int64.toBitVec_add, BitVec.toNat_add, Int64.toBitVec_and, BitVec.toNat_and, Int64.toBitVec_and, BitVec.toNat_and, hx_ut x1 (by omega), k2]
    exact Nat.mod_eq_of_lt h
  have c2 : hx_ds 4 16 x2.toBitVec.toNat = n := by rw [a2, hx_pr_ds (w := 2) (by omega)]; exact c1
  have d2 : ∀ j, x2.toBitVec.toNat / 2 ^ (4 * j) % 16 ≤ 4 := by
    intro j
    rw [a2, a1]; exact hx_nib4 j 16 _ (fun i => hx_nib2 i 32 _)
  have a3 : x3.toBitVec.toNat = hx_pr 4 8 x2.toBitVec.toNat := by
    have h := hx_p4 8 x2.toBitVec.toNat (hn x2) d2
    have hl : x2.toBitVec.toNat + x2.toBitVec.toNat / 16 < 2 ^ 64 := by
      have h9 := d2 15
      have := hn x2
      have q : x2.toBitVec.toNat / 2 ^ (4 * 15) < 16 := by omega
      rw [Nat.mod_eq_of_lt q] at h9
      omega
    rw [e3, Int64.toBitVec_and, BitVec.toNat_and, Int64.toBitVec_add, BitVec.toNat_add, hx_ut x2 (by omega), k4, ← h]
    show (x2.toBitVec.toNat + x2.toBitVec.toNat / 16) % 2 ^ 64 &&& _ = _
    rw [Nat.mod_eq_of_lt hl]
  have c3 : hx_ds 8 8 x3.toBitVec.toNat = n := by rw [a3, hx_pr_ds (w := 4) (by omega)]; exact c2
  have d3 : ∀ j, x3.toBitVec.toNat / 2 ^ (8 * j) % 256 ≤ 8 := by
    intro j
    rw [a3]; exact hx_nib8 j 8 _ d2
  have b0 := d3 0; have b1 := d3 1; have b2 := d3 2; have b3 := d3 3; have b4 := d3 4; have b5 := d3 5; have b6 := d3 6; have b7 := d3 7
  have hx3 := hn x3
  have t4 : x4.toBitVec.toNat = (x3.toBitVec.toNat + x3.toBitVec.toNat / 2 ^ 8) % 2 ^ 64 := by rw [e4, Int64.toBitVec_add, BitVec.toNat_add, hx_ut x3 (by omega)]
  have t5 : x5.toBitVec.toNat = (x4.toBitVec.toNat + x4.toBitVec.toNat / 2 ^ 16) % 2 ^ 64 := by rw [e5, Int64.toBitVec_add, BitVec.toNat_add, hx_ut x4 (by omega)]
  have t6 : x6.toBitVec.toNat = (x5.toBitVec.toNat + x5.toBitVec.toNat / 2 ^ 32) % 2 ^ 64 := by rw [e6, Int64.toBitVec_add, BitVec.toNat_add, hx_ut x5 (by omega)]
  have key : x6.toBitVec.toNat % 128 = n := by
    rw [← c3]
    show _ = x3.toBitVec.toNat % 2 ^ 8 + (x3.toBitVec.toNat / 2 ^ 8 % 2 ^ 8 + (x3.toBitVec.toNat / 2 ^ 8 / 2 ^ 8 % 2 ^ 8 + (x3.toBitVec.toNat / 2 ^ 8 / 2 ^ 8 / 2 ^ 8 % 2 ^ 8 + (x3.toBitVec.toNat / 2 ^ 8 / 2 ^ 8 / 2 ^ 8 / 2 ^ 8 % 2 ^ 8 + (x3.toBitVec.toNat / 2 ^ 8 / 2 ^ 8 / 2 ^ 8 / 2 ^ 8 / 2 ^ 8 % 2 ^ 8 + (x3.toBitVec.toNat / 2 ^ 8 / 2 ^ 8 / 2 ^ 8 / 2 ^ 8 / 2 ^ 8 / 2 ^ 8 % 2 ^ 8 + (x3.toBitVec.toNat / 2 ^ 8 / 2 ^ 8 / 2 ^ 8 / 2 ^ 8 / 2 ^ 8 / 2 ^ 8 / 2 ^ 8 % 2 ^ 8 + 0)))))))
    have hdg := hx_dig8 hx3
    rw [show ∀ q : Nat, q / 2 ^ (8 * 0) = q from fun q => Nat.div_one q] at b0
    have dd : ∀ (q m : Nat), q / 256 / m = q / (256 * m) := fun q m => Nat.div_div_eq_div_mul q 256 m
    exact hx_sum8 hdg b0 b1 (by rw [dd]; exact b2) (by rw [dd, dd]; exact b3) (by rw [dd, dd, dd]; exact b4) (by rw [dd, dd, dd, dd]; exact b5) (by rw [dd, dd, dd, dd, dd]; exact b6) (by rw [dd, dd, dd, dd, dd, dd]; exact b7) t4 t5 t6
  refine Int32.toBitVec_inj.mp (BitVec.eq_of_toNat_eq ?_)
  show ((x6.toInt32).toBitVec &&& (nI 127).toBitVec).toNat = (BitVec.ofNat 32 n).toNat
  rw [BitVec.toNat_and, show ((nI 127).toBitVec).toNat = 2 ^ 7 - 1 by decide, Nat.and_two_pow_sub_one_eq_mod, BitVec.toNat_ofNat, Nat.mod_eq_of_lt (a := n) (by omega), ← key]
  show (x6.toInt32).toBitVec.toNat % 128 = _
  rw [Int64.toBitVec_toInt32, BitVec.signExtend_eq_setWidth_of_le _ (by omega), BitVec.toNat_setWidth]
  omega
-- solids: the height, the sets that follow from the cells
def hb_ht (C : Nat → Int64) : Nat → Nat
  | 0 => 0
  | n + 1 => if C n = 0 then hb_ht C n else n + 1
theorem hb_ht_le (C : Nat → Int64) : ∀ n, hb_ht C n ≤ n
  | 0 => Nat.le_refl _
  | n + 1 => by
    have := hb_ht_le C n
    show (if C n = 0 then hb_ht C n else n + 1) ≤ n + 1
    split <;> omega
def hb_nb (x : Int64) : Int64 := (((x ||| hb_shl (x &&& 9187201950435737471) (nI 1)) ||| hb_ushr (x &&& (-72340172838076674)) (nI 1)) ||| hb_shl x (nI 8)) ||| hb_ushr x (nI 8)
def hb_hang (C : Nat → Int64) (k : Nat) : Int64 := if 0 < k then C k &&& (hb_nb (C (k - 1)) ^^^ (-1)) else 0
/-- what has to be held up, j layers from the top on -/
def hb_hd (C : Nat → Int64) : Nat → Int64
  | 0 => 0
  | j + 1 => (hb_hd C j ||| hb_hang C (7 - j)) &&& (C (7 - j - 1) ^^^ (-1))
def hb_supp (C : Nat → Int64) (k : Nat) : Int64 := if k < 7 then hb_hd C (7 - k) else 0
-- parts that hang together
def hb_fl (S : Int64) : Nat → Int64 → Int64
  | 0, x => x
  | n + 1, x => hb_nb (hb_fl S n x) &&& S
theorem hb_fl_fix {S x : Int64} {i : Nat} (h : hb_nb (hb_fl S i x) &&& S = hb_fl S i x) : ∀ k, hb_fl S (i + k) x = hb_fl S i x
  | 0 => rfl
  | k + 1 => by
    show hb_nb (hb_fl S (i + k) x) &&& S = hb_fl S i x
    rw [hb_fl_fix h k]; exact h
theorem hb_fl_end {S x : Int64} {i : Nat} (hi : i ≤ 64) (h : hb_nb (hb_fl S i x) &&& S = hb_fl S i x) : hb_fl S 64 x = hb_fl S i x := by
  have := hb_fl_fix h (64 - i)
  rwa [show i + (64 - i) = 64 by omega] at this
def hb_part (S x : Int64) : Int64 := hb_fl S 64 x
/-- what is left behind i parts, and how many of them have nothing below -/
def hb_ir (S : Int64) : Nat → Int64
  | 0 => S
  | i + 1 => hb_ir S i &&& (hb_part S (hb_ir S i &&& -hb_ir S i) ^^^ (-1))
def hb_ic (S B : Int64) : Nat → Nat
  | 0 => 0
  | i + 1 => if hb_ir S i = 0 then hb_ic S B i else if hb_part S (hb_ir S i &&& -hb_ir S i) &&& B = 0 then hb_ic S B i + 1 else hb_ic S B i
theorem hb_ic_y {S B : Int64} {i : Nat} (h0 : ¬ hb_ir S i = 0) (h : hb_part S (hb_ir S i &&& -hb_ir S i) &&& B = 0) : hb_ic S B (i + 1) = hb_ic S B i + 1 := by
  show (if hb_ir S i = 0 then _ else if _ = (0 : Int64) then _ else _) = _
  rw [if_neg h0, if_pos h]
theorem hb_ic_n {S B : Int64} {i : Nat} (h0 : ¬ hb_ir S i = 0) (h : ¬ hb_part S (hb_ir S i &&& -hb_ir S i) &&& B = 0) : hb_ic S B (i + 1) = hb_ic S B i := by
  show (if hb_ir S i = 0 then _ else if _ = (0 : Int64) then _ else _) = _
  rw [if_neg h0, if_neg h]
theorem hb_ir_0 {S : Int64} {i : Nat} (h : hb_ir S i = 0) : ∀ k, hb_ir S (i + k) = 0
  | 0 => h
  | k + 1 => by
    show hb_ir S (i + k) &&& _ = 0
    rw [hb_ir_0 h k]; exact Int64.zero_and
theorem hb_ic_end {S B : Int64} {i : Nat} (h : hb_ir S i = 0) : ∀ k, hb_ic S B (i + k) = hb_ic S B i
  | 0 => rfl
  | k + 1 => by
    show (if hb_ir S (i + k) = 0 then hb_ic S B (i + k) else _) = _
    rw [if_pos (hb_ir_0 h k)]; exact hb_ic_end h k
theorem hb_ic_64 {S B : Int64} {i : Nat} (hi : i ≤ 64) (h : hb_ir S i = 0) : hb_ic S B 64 = hb_ic S B i := by
  have := hb_ic_end (B := B) h (64 - i)
  rwa [show i + (64 - i) = 64 by omega] at this
def hb_isl (C : Nat → Int64) : Nat → Nat
  | 0 => 0
  | k + 1 => hb_isl C k + hb_ic (C (k + 1)) (C k) 64
-- laying
def hb_put (L : Nat → Int64) (x y z : Nat) : Nat → Int64 := va_up L z (L z ||| hb_shl 1 (nI (x + 8 * y)))
def hb_tx (way x y z : Nat) : Nat := if way = 2 ∨ way = 3 then z else x
def hb_ty (way x y z : Nat) : Nat := if 4 ≤ way then z else y
def hb_tz (way x y z : Nat) : Nat := if way = 0 then z else if way = 1 then 7 - z else if way = 2 then x else if way = 3 then 7 - x else if way = 4 then y else 7 - y
def hb_lz (S : Int64) (way z : Nat) : Nat → (Nat → Int64) → (Nat → Int64)
  | 0, L => L
  | n + 1, L => if hb_bit S n then hb_put (hb_lz S way z n L) (hb_tx way (n % 8) (n / 8) z) (hb_ty way (n % 8) (n / 8) z) (hb_tz way (n % 8) (n / 8) z) else hb_lz S way z n L
def hb_la (C : Nat → Int64) (way : Nat) : Nat → (Nat → Int64)
  | 0 => fun _ => 0
  | z + 1 => hb_lz (C z) way z 64 (hb_la C way z)
def hb_shn (x : Int64) : Nat → Int64
  | 0 => x
  | n + 1 => hb_ushr (hb_shn x n) (nI 1)
def hb_em (L : Nat → Int64) : Nat → Nat → Nat
  | 0, i => i
  | f + 1, i => if L i = 0 then hb_em L f (i + 1) else i
def hb_low (L : Nat → Int64) (k : Nat) : Int64 := if k + hb_em L 8 0 < 8 then L (k + hb_em L 8 0) else 0
def hb_laid (C : Nat → Int64) (way : Nat) : Nat → Int64 := hb_low (hb_la C way 8)
theorem hx_shn (x : Int64) : ∀ n i, hb_bit (hb_shn x n) i = hb_bit x (n + i)
  | 0, i => by rw [Nat.zero_add]; rfl
  | n + 1, i => by
    show hb_bit (hb_ushr (hb_shn x n) (nI 1)) i = _
    rw [hx_ushr _ (by omega), hx_shn x n, Nat.add_assoc]
theorem hb_bit_shn (x : Int64) : ∀ n, n < 64 → ((hb_shn x n &&& 1) = 0 ↔ hb_bit x n = false) := by
  intro n _
  rw [(hx_and1 _).1, hx_shn, Nat.add_zero]
theorem hx_shn0 {S : Int64} {i : Nat} (h : hb_shn S i = 0) {j : Nat} (hj : i ≤ j) : hb_bit S j = false := by
  have := hx_shn S i (j - i)
  rw [h, hx_0, show i + (j - i) = j by omega] at this
  exact this.symm
theorem hx_lz {S : Int64} {way z i : Nat} {L : Nat → Int64} (h : hb_shn S i = 0) : ∀ k, hb_lz S way z (i + k) L = hb_lz S way z i L
  | 0 => rfl
  | k + 1 => by
    show (if hb_bit S (i + k) then _ else hb_lz S way z (i + k) L) = _
    rw [hx_shn0 h (by omega)]
    exact hx_lz h k
theorem hb_lz_end {S : Int64} {way z i : Nat} {L : Nat → Int64} (hi : i ≤ 64) (h : hb_shn S i = 0) : hb_lz S way z 64 L = hb_lz S way z i L := by
  have := hx_lz (way := way) (z := z) (L := L) h (64 - i)
  rwa [show i + (64 - i) = 64 by omega] at this
theorem hb_em_le (L : Nat → Int64) : ∀ f i, hb_em L f i ≤ i + f
  | 0, i => Nat.le_refl _
  | f + 1, i => by
    have := hb_em_le L f (i + 1)
    show (if L i = 0 then hb_em L f (i + 1) else i) ≤ i + (f + 1)
    split <;> omega
theorem hw_id {M : hw_M} {a : Nat} {e e1 : Option va_E} (h : M a = e) (he : e1 = e) : M = va_up M a e1 := by
  funext k
  by_cases hk : k = a
  · subst hk; rw [va_up_self, he, h]
  · rw [va_up_ne _ _ hk]
theorem hw_uu1 {M : hw_M} {a : Nat} {v w w' : Option va_E} (h : w = w') : va_up (va_up M a v) a w = va_up M a w' := by rw [h]; exact bx_uu _ _ _ _
theorem hw_alc {Z : hw_Z} {n : Nat} {f g : Nat → Int64} (h : f = g) : hw_al Z n f = hw_al Z n g := by rw [h]
theorem hw_adc {Z : hw_Z} {n : Nat} {f g : Nat → UInt64} (h : f = g) : hw_ad Z n f = hw_ad Z n g := by rw [h]
theorem hw_aic {Z : hw_Z} {n : Nat} {f g : Nat → Int32} (h : f = g) : hw_ai Z n f = hw_ai Z n g := by rw [h]
/-- the first i places after G, the others after f -/
def hb_mix {α : Type} (G f : Nat → α) (i : Nat) : Nat → α := fun k => if k < i then G k else f k
theorem hb_mix_0 {α : Type} (G f : Nat → α) : hb_mix G f 0 = f := by funext k; simp [hb_mix]
theorem hb_mix_s {α : Type} {G f : Nat → α} {i : Nat} {x : α} (h : x = G i) : va_up (hb_mix G f i) i x = hb_mix G f (i + 1) := by
  subst h
  funext k
  unfold hb_mix
  by_cases h : k = i
  · subst h; rw [va_up_self, if_pos (by omega)]
  · rw [va_up_ne _ _ h]
    by_cases h2 : k < i
    · rw [if_pos h2, if_pos (by omega)]
    · rw [if_neg h2, if_neg (by omega)]
theorem hb_mix_lt {α : Type} {G f : Nat → α} {i k : Nat} (h : k < i) : hb_mix G f i k = G k := if_pos h
theorem hb_mix_ge {α : Type} {G f : Nat → α} {i k : Nat} (h : i ≤ k) : hb_mix G f i k = f k := if_neg (by omega)
theorem hb_hg (C : Nat → Int64) {k : Nat} (h : 0 < k) : C k &&& (hb_nb (C (k - 1)) ^^^ (-1)) = hb_hang C k := (if_pos h).symm
theorem hb_hd_s (C : Nat → Int64) {i : Nat} (hi : i < 7) : hb_hd C (i + 1) = (hb_hd C i ||| hb_hang C (7 - i)) &&& (C (7 - i - 1) ^^^ (-1)) := rfl
def hb_rH (C H0 : Nat → Int64) (i : Nat) : Nat → Int64 := fun k => if 8 - i ≤ k ∧ k < 8 then hb_hang C k else H0 k
def hb_rS (C S0 : Nat → Int64) (i : Nat) : Nat → Int64 := fun k => if 8 - i ≤ k + 1 ∧ k < 7 then hb_supp C k else S0 k
theorem hb_rk0 {Z : hw_Z} {M : hw_M} {ha sa : Nat} {C H0 S0 : Nat → Int64} (h2 : M ha = hw_al Z 8 H0) (h3 : M sa = hw_al Z 8 S0) : M = va_up (va_up M ha (hw_al Z 8 (hb_rH C H0 0))) sa (hw_al Z 8 (hb_rS C S0 0)) := by
  have e1 : hb_rH C H0 0 = H0 := by funext k; exact if_neg (by omega)
  have e2 : hb_rS C S0 0 = S0 := by funext k; exact if_neg (by omega)
  rw [e1, e2, ← hw_id h2 rfl]
  exact hw_id h3 rfl
theorem hb_rk1 {Z : hw_Z} {M : hw_M} {ha sa : Nat} {C H0 S0 : Nat → Int64} {i : Nat} (n : ha ≠ sa) (hi : i < 7) : va_up (va_up (va_up (va_up M ha (hw_al Z 8 (hb_rH C H0 i))) sa (hw_al Z 8 (hb_rS C S0 i))) ha (hw_al Z 8 (va_up (hb_rH C H0 i) (7 - i) (C (7 - i) &&& (hb_nb (C (7 - i - 1)) ^^^ (-1)))))) sa (hw_al Z 8 (va_up (hb_rS C S0 i) (7 - i - 1) ((hb_hd C i ||| (C (7 - i) &&& (hb_nb (C (7 - i - 1)) ^^^ (-1)))) &&& (C (7 - i - 1) ^^^ (-1))))) = va_up (va_up M ha (hw_al Z 8 (hb_rH C H0 (i + 1)))) sa (hw_al Z 8 (hb_rS C S0 (i + 1))) := by
  have e1 : va_up (hb_rH C H0 i) (7 - i) (C (7 - i) &&& (hb_nb (C (7 - i - 1)) ^^^ (-1))) = hb_rH C H0 (i + 1) := by
    funext k
    unfold hb_rH
    by_cases h : k = 7 - i
    · subst h
      rw [va_up_self, if_pos (by omega)]
      exact (if_pos (by omega)).symm
    · rw [va_up_ne _ _ h]
      by_cases h2 : 8 - i ≤ k ∧ k < 8
      · rw [if_pos h2, if_pos (by omega)]
      · rw [if_neg h2, if_neg (by omega)]
  have e2 : va_up (hb_rS C S0 i) (7 - i - 1) ((hb_hd C i ||| (C (7 - i) &&& (hb_nb (C (7 - i - 1)) ^^^ (-1)))) &&& (C (7 - i - 1) ^^^ (-1))) = hb_rS C S0 (i + 1) := by
    have e3 : (C (7 - i) &&& (hb_nb (C (7 - i - 1)) ^^^ (-1))) = hb_hang C (7 - i) := (if_pos (by omega)).symm
    rw [e3, ← hb_hd_s C hi]
    funext k
    unfold hb_rS
    by_cases h : k = 7 - i - 1
    · subst h
      rw [va_up_self, if_pos (by omega)]
      unfold hb_supp
      rw [if_pos (by omega), show 7 - (7 - i - 1) = i + 1 by omega]
    · rw [va_up_ne _ _ h]
      by_cases h2 : 8 - i ≤ k + 1 ∧ k < 7
      · rw [if_pos h2, if_pos (by omega)]
      · rw [if_neg h2, if_neg (by omega)]
  rw [e1, e2]
  funext k
  simp only [va_up]
  by_cases h1 : k = sa
  · simp [h1]
  · by_cases h2 : k = ha <;> simp [h1, h2]
theorem hb_rk2 {M : hw_M} {ha sa : Nat} {x y z w : Option va_E} (n : ha ≠ sa) : va_up (va_up (va_up (va_up M ha x) sa y) ha z) sa w = va_up (va_up M ha z) sa w := by
  funext k
  simp only [va_up]
  by_cases h1 : k = sa
  · simp [h1]
  · by_cases h2 : k = ha <;> simp [h1, h2]
theorem hb_lz_y {S : Int64} {way z i : Nat} {L : Nat → Int64} (h : ¬ hb_bit S i = false) : hb_put (hb_lz S way z i L) (hb_tx way (i % 8) (i / 8) z) (hb_ty way (i % 8) (i / 8) z) (hb_tz way (i % 8) (i / 8) z) = hb_lz S way z (i + 1) L := (if_pos (by simpa using h)).symm
theorem hb_lz_n {S : Int64} {way z i : Nat} {L : Nat → Int64} (h : hb_bit S i = false) : hb_lz S way z (i + 1) L = hb_lz S way z i L := if_neg (by rw [h]; decide)
theorem hb_cpy8 {α : Type} {f g : Nat → α} {j : Nat} (h : j < 8) : va_cpy f g 0 0 8 j = f j := by
  show (if 0 ≤ j ∧ j < 0 + 8 then f (0 + (j - 0)) else g j) = f j
  rw [if_pos (by omega), show 0 + (j - 0) = j by omega]
