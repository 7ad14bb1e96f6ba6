/-! What holds of a hall's state. -/
/-- a piece that was not started -/
def hv_raw (S : hs_S) (i : Nat) : Prop := hs_P S i 1 = 0 ∧ hs_P S i 2 = 0 ∧ hs_P S i 4 = -1 ∧ hs_P S i 5 = -1 ∧ hs_P S i 6 = -1 ∧ hs_P S i 7 = -1 ∧ hs_P S i 8 = -1 ∧ hs_P S i 9 = -1 ∧ hs_D S i = 0 ∧ hs_U S i = 0 ∧ hs_W S i = fun _ => 0
/-- a set of powders, all of one alloy -/
def hv_al (S : hs_S) (x al : Int32) : Prop := ∃ m : Nat, x = nI m ∧ 0 < m ∧ m < 64 ∧ ∀ k, m.testBit k = true → k < hs_nw S ∧ hs_V S k 0 = al
def hv_st (S : hs_S) (i : Nat) : Prop := hb_ok (hs_P S i 4) 2 ∧ hb_pw (hs_P S i 5) ∧ (¬ hs_P S i 6 < nI 1 ∧ hs_P S i 6 ≤ nI 20) ∧ ∃ al, hb_ok al 3 ∧ hs_P S i 9 = hb_win al (hs_P S i 5) (hs_P S i 6) ∧ hv_al S (hs_P S i 8) al
/-- a curl that isn't too large -/
def hv_c (u : UInt64) : Prop := u ≤ 4625196817309499392
def hv_ok (S : hs_S) : Prop :=
  hs_b S ∧ (∀ i, i < 4 → hs_P S i 0 = 0 → hv_raw S i) ∧ (∀ i, hs_np S ≤ i → i < 4 → hs_P S i 0 = 0 ∧ hs_P S i 3 = 0 ∧ hs_C S i = fun _ => 0) ∧ (∀ i, i < hs_np S → ¬ hs_P S i 0 = 0 → hv_st S i) ∧
  (∀ k, k < 2 → ¬ hs_M S k 3 = -1 → hb_ok (hs_M S k 3) (hs_np S) ∧ hs_P S (hb_ix (hs_M S k 3)) 0 = nI 1 ∧ hs_D S (hb_ix (hs_M S k 3)) < hb_ht (hs_C S (hb_ix (hs_M S k 3))) 8 ∧ hs_P S (hb_ix (hs_M S k 3)) 4 = nI k) ∧
  (∀ k, k < 2 → ¬ hs_M S k 1 = -1 → hb_ok (hs_M S k 1) (hs_nw S)) ∧
  (∀ j, hs_nw S ≤ j → j < 6 → hs_V S j 2 = 0 ∧ hs_V S j 3 = (nI 1 <<< (nI j &&& 31)) ∧ hs_V S j 4 = -1) ∧ (∀ j, j < hs_nw S → hb_ok (hs_V S j 0) 3 ∧ hv_al S (hs_V S j 3) (hs_V S j 0)) ∧
  (∀ k, k < 2 → (∀ m, m < hs_N S k → ∃ i, i < hs_np S ∧ ¬ hs_P S i 0 = 0 ∧ hs_P S i 4 = nI k ∧ hs_Q S k m = hs_P S i 9) ∧ ∀ m m', m < hs_N S k → m' < hs_N S k → hs_Q S k m = hs_Q S k m' → m = m') ∧
  (∀ i, i < 4 → hv_c (hs_U S i) ∧ (hs_P S i 0 = nI 1 → hb_struck (hs_U S i) = false))
theorem hv_ok.b {S} (h : hv_ok S) : hs_b S := h.1
theorem hv_ok.raw {S} (h : hv_ok S) {i : Nat} (hi : i < 4) (h0 : hs_P S i 0 = 0) : hv_raw S i := h.2.1 i hi h0
theorem hv_ok.new {S} (h : hv_ok S) {i : Nat} (h1 : hs_np S ≤ i) (h2 : i < 4) : hs_P S i 0 = 0 ∧ hs_P S i 3 = 0 ∧ hs_C S i = fun _ => 0 := h.2.2.1 i h1 h2
theorem hv_ok.st {S} (h : hv_ok S) {i : Nat} (hi : i < hs_np S) (h0 : ¬ hs_P S i 0 = 0) : hv_st S i := h.2.2.2.1 i hi h0
theorem hv_ok.mg {S} (h : hv_ok S) {k : Nat} (hk : k < 2) (hn : ¬ hs_M S k 3 = -1) : hb_ok (hs_M S k 3) (hs_np S) ∧ hs_P S (hb_ix (hs_M S k 3)) 0 = nI 1 ∧ hs_D S (hb_ix (hs_M S k 3)) < hb_ht (hs_C S (hb_ix (hs_M S k 3))) 8 ∧ hs_P S (hb_ix (hs_M S k 3)) 4 = nI k := h.2.2.2.2.1 k hk hn
theorem hv_ok.mp {S} (h : hv_ok S) {k : Nat} (hk : k < 2) (hn : ¬ hs_M S k 1 = -1) : hb_ok (hs_M S k 1) (hs_nw S) := h.2.2.2.2.2.1 k hk hn
theorem hv_ok.newV {S} (h : hv_ok S) {j : Nat} (h1 : hs_nw S ≤ j) (h2 : j < 6) : hs_V S j 2 = 0 ∧ hs_V S j 3 = (nI 1 <<< (nI j &&& 31)) ∧ hs_V S j 4 = -1 := h.2.2.2.2.2.2.1 j h1 h2
theorem hv_ok.V {S} (h : hv_ok S) {j : Nat} (hj : j < hs_nw S) : hb_ok (hs_V S j 0) 3 ∧ hv_al S (hs_V S j 3) (hs_V S j 0) := h.2.2.2.2.2.2.2.1 j hj
theorem hv_ok.Q {S} (h : hv_ok S) {k : Nat} (hk : k < 2) : (∀ m, m < hs_N S k → ∃ i, i < hs_np S ∧ ¬ hs_P S i 0 = 0 ∧ hs_P S i 4 = nI k ∧ hs_Q S k m = hs_P S i 9) ∧ ∀ m m', m < hs_N S k → m' < hs_N S k → hs_Q S k m = hs_Q S k m' → m = m' := h.2.2.2.2.2.2.2.2.1 k hk
theorem hv_ok.C {S} (h : hv_ok S) {i : Nat} (hi : i < 4) : hv_c (hs_U S i) ∧ (hs_P S i 0 = nI 1 → hb_struck (hs_U S i) = false) := h.2.2.2.2.2.2.2.2.2 i hi
theorem hx_cmp {a b : Int} : compare a b = .gt ↔ b < a := by
  rw [Int.compare_eq_gt]
theorem hb_sp0 {k : Int32} (h : ¬ k < nI 1) : 0 < k := by
  have h1 := Int32.not_lt.mp h
  have h2 := Int32.le_iff_toInt_le.mp h1
  rw [show (nI 1).toInt = 1 by decide] at h2
  exact Int32.lt_iff_toInt_lt.mpr (by rw [show (0 : Int32).toInt = 0 by decide]; omega)
