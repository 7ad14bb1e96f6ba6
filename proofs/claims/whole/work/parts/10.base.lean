/-! Small words that the walks use. -/
def hb_ushr (x : Int64) (y : Int32) : Int64 := (x.toUInt64 >>> (y.toInt64.toUInt64 &&& Int64.toUInt64 63)).toInt64
def hb_shl (x : Int64) (y : Int32) : Int64 := x <<< (y.toInt64 &&& 63)
theorem hw_noa {M : hw_M} {a b ci : Nat} {fs : List Value} {x : ClassId × vp_A} (h1 : M a = hw_ob ci fs) (h2 : M b = some (.inl x)) : a ≠ b := hw_ne h1 h2 (by intro h; cases h)
theorem hw_noo {M : hw_M} {a b ci cj : Nat} {fs gs : List Value} (h1 : M a = hw_ob ci fs) (h2 : M b = hw_ob cj gs) (h : ci ≠ cj) : a ≠ b := hw_ne h1 h2 (by intro q; exact h (congrArg Prod.fst (Sum.inr.inj (Option.some.inj q))))
theorem hw_naa {M : hw_M} {a b : Nat} {c1 c2 : ClassId} {n1 n2 : Nat} {x1 x2} (h1 : M a = some (.inl (c1, n1, x1))) (h2 : M b = some (.inl (c2, n2, x2))) (h : x1 ≠ x2) : a ≠ b := hw_ne h1 h2 (by intro q; exact h (congrArg (fun z => z.2.2) (Sum.inl.inj (Option.some.inj q))))
theorem hw_inc (i : Nat) : nI i + Int32.ofInt 1 = nI (i + 1) := by rw [show Int32.ofInt 1 = 1 by decide]; exact nI_1 i
/-- how many of the first n hold -/
def hb_ct (p : Nat → Bool) : Nat → Nat
  | 0 => 0
  | n + 1 => hb_ct p n + (p n).toNat
theorem hb_ct_le (p : Nat → Bool) : ∀ n, hb_ct p n ≤ n
  | 0 => Nat.le_refl _
  | n + 1 => by
    have h := hb_ct_le p n
    have h2 : (p n).toNat ≤ 1 := by cases p n <;> decide
    show hb_ct p n + (p n).toNat ≤ n + 1
    omega
def hb_bit (x : Int64) (i : Nat) : Bool := x.toBitVec.getLsbD i
def hb_pc (x : Int64) : Nat := hb_ct (hb_bit x) 64
theorem hb_pc_le (x : Int64) : hb_pc x ≤ 64 := hb_ct_le _ _
/-- the sum of a row's first n -/
def hb_sm (f : Nat → Nat) : Nat → Nat
  | 0 => 0
  | n + 1 => hb_sm f n + f n
/-- the JDK's way of counting bits -/
theorem hb_swar {x x1 x2 x3 x4 x5 x6 : Int64} (e1 : x1 = x - (hb_ushr x (nI 1) &&& 6148914691236517205)) (e2 : x2 = (x1 &&& 3689348814741910323) + (hb_ushr x1 (nI 2) &&& 3689348814741910323)) (e3 : x3 = (x2 + hb_ushr x2 (nI 4)) &&& 1085102592571150095) (e4 : x4 = x3 + hb_ushr x3 (nI 8)) (e5 : x5 = x4 + hb_ushr x4 (nI 16)) (e6 : x6 = x5 + hb_ushr x5 (nI 32)) : x6.toInt32 &&& nI 127 = nI (hb_pc x) := by
  sorry
