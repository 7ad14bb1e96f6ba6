/-! Proofs of a machine, pieces, the checks. -/
def hb_has (f : Nat → Int32) (w : Int32) : Nat → Bool
  | 0 => false
  | n + 1 => hb_has f w n || decide (f n = w)
theorem hb_has_n {f : Nat → Int32} {w : Int32} {i : Nat} (h : hb_has f w i = false) (hi : ¬ f i = w) : hb_has f w (i + 1) = false := by
  show (hb_has f w i || decide (f i = w)) = false
  rw [h, decide_eq_false hi]; rfl
theorem hb_has_of {f : Nat → Int32} {w : Int32} {i : Nat} (hi : f i = w) : ∀ {n : Nat}, i < n → hb_has f w n = true
  | 0, h => absurd h (Nat.not_lt_zero _)
  | n + 1, h => by
    show (hb_has f w n || decide (f n = w)) = true
    rcases Nat.lt_or_ge i n with q | q
    · rw [hb_has_of hi q]; rfl
    · have : i = n := by omega
      subst this
      rw [decide_eq_true hi]; exact Bool.or_true _
def hb_apc (f : Nat → Int32) (n : Nat) (w : Int32) : Bool := decide (n < 4) && !hb_has f w n
def hb_apf (f : Nat → Int32) (n : Nat) (w : Int32) : Nat → Int32 := if hb_apc f n w then va_up f n w else f
def hb_apn (f : Nat → Int32) (n : Nat) (w : Int32) : Nat := if hb_apc f n w then n + 1 else n
/-- an index that is in range -/
abbrev hb_ok (k : Int32) (n : Nat) : Prop := 0 ≤ k ∧ k < nI n
theorem hb_okj {k : Int32} {n : Nat} (hn : n < 2 ^ 31) (h : hb_ok k n) : ∃ j : Nat, j < n ∧ k = nI j := by
  obtain ⟨j, hj, rfl⟩ := nI_of (x := k) (Int32.not_lt.mpr h.1)
  exact ⟨j, (nI_ltI hj hn).mp h.2, rfl⟩
theorem hb_okN {j n : Nat} (hj : j < n) (hn : n < 2 ^ 31) : hb_ok (nI j) n := ⟨nI_pos' (by omega), nI_lt hj hn⟩
theorem hb_nok1 {k : Int32} {n : Nat} (h : k < 0) : ¬ hb_ok k n := fun q => absurd h (Int32.not_lt.mpr q.1)
theorem hb_nok2 {k : Int32} {n : Nat} (h : ¬ k < nI n) : ¬ hb_ok k n := fun q => h q.2
theorem hb_oki {k : Int32} {n : Nat} (h : ¬ k < 0) (h2 : k < nI n) : hb_ok k n := ⟨Int32.not_lt.mp h, h2⟩
def hb_ix (k : Int32) : Nat := k.toNatClampNeg
theorem hb_ixN {j : Nat} (h : j < 2 ^ 31) : hb_ix (nI j) = j := nI_clamp h
theorem hb_okx {k : Int32} {n : Nat} (hn : n < 2 ^ 31) (h : hb_ok k n) : hb_ix k < n ∧ k = nI (hb_ix k) := by
  obtain ⟨j, hj, rfl⟩ := hb_okj hn h
  rw [hb_ixN (by omega)]; exact ⟨hj, rfl⟩
def hb_win (al p s : Int32) : Int32 := (al * nI 401 + p) * nI 21 + s
abbrev hb_pw (k : Int32) : Prop := ¬ k < nI 50 ∧ k ≤ nI 400
