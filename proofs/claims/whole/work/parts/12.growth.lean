/-! Numbers of the growth: doubles that aren't NaN and not below 0, the light's work on a layer. -/
/-- a double that is no NaN and has no minus -/
def hb_pz (x : UInt64) : Prop := x ≤ 0x7ff0000000000000
/-- a number above 0, not infinite -/
def hb_pf (x : UInt64) : Prop := 0 < x ∧ x < 0x7ff0000000000000
theorem hf_n {x : UInt64} (h : hb_pz x) : vf_n64 x := by
  sorry
theorem hf_mul {x y : UInt64} (h : hb_pz x) (hy : hb_pf y) : hb_pz (FP.dmul x y) := by
  sorry
theorem hf_add {x y : UInt64} (h : hb_pz x) (hy : hb_pz y) : hb_pz (FP.dadd x y) := by
  sorry
theorem hf_zero : hb_pz FP.dconst0 := by unfold hb_pz; decide
theorem hf_half : hb_pf 4602678819172646912 := by unfold hb_pf; decide
theorem hf_quarter : hb_pf 4598175219545276416 := by unfold hb_pf; decide
theorem hf_onehalf : hb_pf 4609434218613702656 := by unfold hb_pf; decide
theorem hf_34 : hb_pf 4604930618986332160 := by unfold hb_pf; decide
theorem hf_18 : hb_pf 4593671619917905920 := by unfold hb_pf; decide
theorem hf_10 : hb_pf 4621819117588971520 := by unfold hb_pf; decide
theorem hf_8 : hb_pf 4620693217682128896 := by unfold hb_pf; decide
/-- a whole number that isn't below 0 -/
theorem hf_i2d {x : Int32} (h : 0 ≤ x) : hb_pz (FP.i2d x) := by
  sorry
theorem hf_i2dp {x : Int32} (h : 0 < x) : hb_pf (FP.i2d x) := by
  sorry
theorem hf_div {x y : UInt64} (h : hb_pz x) (hy : hb_pf y) : hb_pz (FP.ddiv x y) := by
  sorry
/-- 1.0 less a quotient of ints is no NaN -/
theorem hf_quo (x : Int32) {y : Int32} (h : ¬ y = 0) : vf_n64 (FP.ddiv (FP.i2d x) (FP.i2d y)) := by
  sorry
theorem hf_den (x : Int32) {y : Int32} (h : ¬ y = 0) : vf_n64 (FP.dsub FP.dconst1 (FP.ddiv (FP.i2d x) (FP.i2d y))) := by
  sorry
theorem hf_mulc {x y : UInt64} (hy : hb_pf y) (h : hb_pz x) : hb_pz (FP.dmul y x) := by
  sorry
def hb_max (x y : Int32) : Int32 := if x < y then y else x
-- comparisons of doubles
theorem hc_lt {r : Option Ordering} : (0 ≤ Op.cmpValue r .g) ↔ ¬ r = some .lt := by
  rcases r with _ | o
  · decide
  · cases o <;> decide
theorem hc_gt {r : Option Ordering} : (Op.cmpValue r .l ≤ 0) ↔ ¬ r = some .gt := by
  rcases r with _ | o
  · decide
  · cases o <;> decide
theorem hc_ltl {r : Option Ordering} : (Op.cmpValue r .l < 0) ↔ (r = none ∨ r = some .lt) := by
  rcases r with _ | o
  · decide
  · cases o <;> decide
def hb_w1 (e : UInt64) (cell : Bool) (w : UInt64) : UInt64 := if cell then FP.dadd (FP.dmul w 4602678819172646912) (FP.dmul e 4598175219545276416) else FP.dmul w 4602678819172646912
def hb_dep (e : UInt64) (hang : Bool) (w : UInt64) : UInt64 := if hang then FP.dmul (FP.dadd e w) 4609434218613702656 else FP.dadd e w
def hb_lack (d : UInt64) : Bool := decide (FP.dcmp d 4611686018427387904 = some .lt)
def hb_hole (d : UInt64) : Bool := !hb_lack d && decide (FP.dcmp d 4618441417868443648 = some .gt)
/-- warmth behind a layer; where it is a lack, a hole -/
def hb_wf (C : Int64) (e : UInt64) (W : Nat → UInt64) (p : Nat) : UInt64 := hb_w1 e (hb_bit C p) (W p)
def hb_lp (C Hg : Int64) (e : UInt64) (W : Nat → UInt64) (p : Nat) : Bool := hb_bit C p && hb_lack (hb_dep e (hb_bit Hg p) (hb_wf C e W p))
def hb_hp (C Hg : Int64) (e : UInt64) (W : Nat → UInt64) (p : Nat) : Bool := hb_bit C p && hb_hole (hb_dep e (hb_bit Hg p) (hb_wf C e W p))
theorem hb_wf_pz {C : Int64} {e : UInt64} {W : Nat → UInt64} (he : hb_pz e) (hW : ∀ p, hb_pz (W p)) (p : Nat) : hb_pz (hb_wf C e W p) := by
  unfold hb_wf hb_w1
  split
  · exact hf_add (hf_mul (hW p) hf_half) (hf_mul he hf_quarter)
  · exact hf_mul (hW p) hf_half
theorem hb_bit_and (x : Int64) {i : Nat} (hi : i < 64) : (x &&& hb_shl 1 (nI i)) = 0 ↔ hb_bit x i = false := by
  sorry
theorem hb_bit_t {x : Int64} {i : Nat} (hi : i < 64) (h : ¬ lg_cmp (x &&& hb_shl 1 (nI i)) 0 = 0) : hb_bit x i = true := by
  cases hc : hb_bit x i with
  | true => rfl
  | false => exact absurd ((lg_cmp_eq _ _).mpr ((hb_bit_and x hi).mpr hc)) h
theorem hb_bit_f {x : Int64} {i : Nat} (hi : i < 64) (h : lg_cmp (x &&& hb_shl 1 (nI i)) 0 = 0) : hb_bit x i = false := (hb_bit_and x hi).mp ((lg_cmp_eq _ _).mp h)
theorem hb_ct_s (p : Nat → Bool) (n : Nat) : hb_ct p (n + 1) = hb_ct p n + (p n).toNat := rfl
theorem hb_add0 (x : Int32) : x + nI 0 = x := by rw [nI_0]; exact Int32.add_zero x
theorem hb_addA (x : Int32) (a b : Nat) : x + nI a + nI b = x + nI (a + b) := by rw [Int32.add_assoc, nI_add]
theorem hb_lk (x : Int32) (p : Nat → Bool) (i : Nat) (h : p i = true) : x + nI (hb_ct p i) + nI 1 = x + nI (hb_ct p (i + 1)) := by rw [hb_addA, hb_ct_s, h]; rfl
theorem hb_lk0 (x : Int32) (p : Nat → Bool) (i : Nat) (h : p i = false) : x + nI (hb_ct p i) = x + nI (hb_ct p (i + 1)) := by rw [hb_ct_s, h]; rfl
theorem hb_lkT (x : Int32) (p : Nat → Bool) (i : Nat) : x + nI (hb_ct p i) + nI (p i).toNat = x + nI (hb_ct p (i + 1)) := by rw [hb_addA, hb_ct_s]
theorem hb_up2 {M : hw_M} {a b : Nat} {x y z : Option va_E} : va_up (va_up (va_up M a x) b y) b z = va_up (va_up M a x) b z := bx_uu _ _ _ _
theorem hb_up3 {M : hw_M} {a b : Nat} {x y z w : Option va_E} (n : a ≠ b) : va_up (va_up (va_up (va_up M a x) b y) b z) a w = va_up (va_up M a w) b z := by
  funext k
  simp only [va_up]
  by_cases h1 : k = a
  · subst h1; simp [n]
  · by_cases h2 : k = b
    · subst h2; simp [h1]
    · simp [h1, h2]
/-- the energy of a power and a speed -/
def hb_en (p s : Int32) : UInt64 := FP.ddiv (FP.ddiv (FP.i2d p) (FP.i2d s)) 4621819117588971520
theorem hb_en_pz {p s : Int32} (hp : 0 ≤ p) (hs : 0 < s) : hb_pz (hb_en p s) := hf_div (hf_div (hf_i2d hp) (hf_i2dp hs)) hf_10
def hb_cu (cu : UInt64) (n : Nat) : UInt64 := FP.dadd (FP.dmul cu 4604930618986332160) (FP.dmul 4593671619917905920 (FP.i2d (nI n)))
theorem hb_cu_pz {cu : UInt64} {n : Nat} (h : hb_pz cu) (hn : n < 2 ^ 31) : hb_pz (hb_cu cu n) := hf_add (hf_mul h hf_34) (hf_mulc hf_18 (hf_i2d (nI_pos' hn)))
def hb_struck (cu : UInt64) : Bool := decide (FP.dcmp cu 4611686018427387904 = some .gt)
def hb_dens (lk ho : Int32) (n : Int32) : UInt64 := if n = 0 then FP.dconst0 else FP.dsub FP.dconst1 (FP.ddiv (FP.i2d (lk + ho)) (FP.i2d n))
def hb_isd (d : UInt64) : Bool := !decide (FP.dcmp d 4606732058837280358 = none ∨ FP.dcmp d 4606732058837280358 = some .lt)
theorem hw_iv.exd {Z : hw_Z} {s : State} {M : hw_M} {H : Heap} {locs : List Loc} {a n : Nat} {f : Nat → UInt64} (g : Nat → UInt64) (hI : hw_iv Z s M H locs) (he : M a = hw_ad Z n f) (h : ∀ j, j < n → f j = g j) : hw_iv Z s (va_up M a (hw_ad Z n g)) H locs :=
  ⟨hI.1.ext he (fun q => by
    have e : vp_cell (Z.2.1 2) (n, .inr (.inr (.inr (.inl f)))) = vp_cell (Z.2.1 2) (n, .inr (.inr (.inr (.inl g)))) := by
      rw [vp_cell_d, vp_cell_d]
      exact hw_arr (fun j hj => by rw [h j hj])
    show H[a]? = some (vp_cell (Z.2.1 2) (n, .inr (.inr (.inr (.inl g)))))
    rw [← e]; exact q), hI.2⟩
theorem hb_sh0 {Z : hw_Z} {M : hw_M} {a wa : Nat} {lk ho : Int32} {W G : Nat → UInt64} {p q : Nat → Bool} (h0 : M a = hw_ob 2 [.ref wa, .int lk, .int ho]) (h1 : M wa = hw_ad Z 64 W) : M = va_up (va_up M a (hw_ob 2 [.ref wa, .int (lk + nI (hb_ct p 0)), .int (ho + nI (hb_ct q 0))])) wa (hw_ad Z 64 (hb_mix G W 0)) := by
  rw [hb_mix_0, show hb_ct p 0 = 0 from rfl, show hb_ct q 0 = 0 from rfl, hb_add0, hb_add0, ← hw_id h0 rfl]
  exact hw_id h1 rfl
/-- several writes to two cells: the last ones count -/
theorem hb_two {M M' : hw_M} {a b : Nat} {x y : Option va_E} (n : a ≠ b) (ha : M' a = x) (hb : M' b = y) (ho : ∀ k, k ≠ a → k ≠ b → M' k = M k) : va_up (va_up M a x) b y = M' := by
  funext k
  by_cases h1 : k = b
  · subst h1; rw [va_up_self, hb]
  · rw [va_up_ne _ _ h1]
    by_cases h2 : k = a
    · subst h2; rw [va_up_self, ha]
    · rw [va_up_ne _ _ h2, ho k h2 h1]
