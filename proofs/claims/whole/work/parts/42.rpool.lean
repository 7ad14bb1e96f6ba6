/-! The reference's cells: kinds and numbers to addresses; what holds of a hall's state. -/
/-- beside the state: the code of the latest exception, the lists' counters, which proofs' lists have an array of their own, the proofs -/
abbrev hr_X : Type := Int32 × (Nat → Int32) × (Nat → Bool) × (Nat → Nat → Nat → Int32)
def hr_th (X : hr_X) : Int32 := X.1
def hr_mc (X : hr_X) : Nat → Int32 := X.2.1
def hr_gr (X : hr_X) : Nat → Bool := X.2.2.1
def hr_qq (X : hr_X) : Nat → Nat → Nat → Int32 := X.2.2.2
def hr_p (S : hs_S) (X : hr_X) : Nat → Nat → Prop
  | 0, i => i < 4
  | 1, i => i < hs_np S
  | 2, i => i < hs_np S
  | 3, i => i < hs_np S
  | 4, i => i < hs_np S
  | 5, i => i < hs_np S
  | 6, i => i < hs_nw S
  | 7, i => i < 2
  | 8, i => i < 2
  | 9, i => i < 2 ∧ hr_gr X i = true
  | 10, i => i / 2 < hs_N S (i % 2)
  | 11, i => i = 0 ∧ 0 < hs_np S
  | 12, i => i = 0 ∧ 0 < hs_nw S
  | _, _ => False
def hr_en (r : Nat → Int32) : UInt64 := if r 4 = -1 then hb_en (nI 1) (nI 1) else hb_en (r 5) (r 6)
def hr_d (n : Nat) (z a : Nat) : Nat := if n = 0 then z else a
def hr_e0 (Z : hw_Z) (ad : hp_ad) (S : hs_S) (X : hr_X) : Nat → Option va_E
  | 0 => hw_ob 12 [.int (hr_th X), .int (hs_G S 0), .int (hs_G S 1), .ref (ad 0 2), .ref (ad 0 3), .ref (ad 0 1)]
  | 1 => hw_ar Z 6 2 (fun j => some (ad 7 j))
  | 2 => hw_ob 0 [.int (hr_mc X 0), .ref (hr_d (hs_np S) Z.2.2.2 (ad 11 0)), .int (nI (hs_np S))]
  | _ => hw_ob 0 [.int (hr_mc X 1), .ref (hr_d (hs_nw S) Z.2.2.2 (ad 12 0)), .int (nI (hs_nw S))]
def hr_e (Z : hw_Z) (ad : hp_ad) (S : hs_S) (X : hr_X) : Nat → Nat → Option va_E
  | 0, i => hr_e0 Z ad S X i
  | 1, i => hw_ob 9 [.ref (ad 2 i), .int (hs_P S i 0), .ref (ad 4 i), .int (hs_P S i 3), .int (hs_P S i 4), .int (hs_P S i 5), .int (hs_P S i 6), .int (hs_P S i 7), .int (hs_P S i 8)]
  | 2, i => hw_ob 11 [.ref (ad 3 i)]
  | 3, i => hw_al Z 8 (hs_C S i)
  | 4, i => hw_ob 7 [.double (hr_en (hs_P S i)), .ref (ad 5 i), .double (hs_U S i), .int (hs_P S i 1), .int (hs_P S i 2), .int (nI (hs_D S i))]
  | 5, i => hw_ad Z 64 (hs_W S i)
  | 6, i => hw_ob 10 [.int (hs_V S i 0), .int (hs_V S i 1), .int (hs_V S i 2), .int (hs_V S i 3), .int (hs_V S i 4)]
  | 7, i => hw_ob 8 [.int (hs_M S i 0), .int (hs_M S i 1), .int (hs_M S i 2), .int (hs_M S i 3), .ref (ad 8 i)]
  | 8, i => hw_ob 0 [.int (hr_mc X (2 + i)), .ref (if hr_gr X i then ad 9 i else Z.2.2.2), .int (nI (hs_N S i))]
  | 9, i => hw_ar Z 7 10 (hc_f (fun j => ad 10 (i + 2 * j)) (hs_N S i))
  | 10, i => hw_ai Z 3 (hr_qq X (i % 2) (i / 2))
  | 11, _ => hw_ar Z 7 10 (hc_f (ad 1) (hs_np S))
  | _, _ => hw_ar Z 7 10 (hc_f (ad 6) (hs_nw S))
/-- the proofs' numbers against the windows that the class keeps -/
def hr_q (S : hs_S) (X : hr_X) : Prop := ∀ k m, k < 2 → m < hs_N S k → (hb_ok (hr_qq X k m 0) 3 ∧ hb_pw (hr_qq X k m 1) ∧ ¬ hr_qq X k m 2 < nI 1 ∧ hr_qq X k m 2 ≤ nI 20) ∧ hs_Q S k m = hb_win (hr_qq X k m 0) (hr_qq X k m 1) (hr_qq X k m 2)
/-- an empty proofs' list without an array holds nothing -/
def hr_g (S : hs_S) (X : hr_X) : Prop := ∀ k, k < 2 → hr_gr X k = false → hs_N S k = 0
def hr_ok (Z : hw_Z) (b1 : Nat → Prop) (M : hw_M) (ad : hp_ad) (S : hs_S) (X : hr_X) : Prop :=
  (∀ k i, hr_p S X k i → M (ad k i) = hr_e Z ad S X k i) ∧ (∀ k i k' i', hr_p S X k i → hr_p S X k' i' → ad k i = ad k' i' → k = k' ∧ i = i') ∧ (∀ k i, hr_p S X k i → ¬ b1 (ad k i)) ∧ hr_q S X ∧ hr_g S X
theorem hr_s (Z : hw_Z) (ad : hp_ad) (S : hs_S) (X : hr_X) (k i : Nat) : hr_e Z ad S X k i ≠ none := by
  rcases k with _ | _ | _ | _ | _ | _ | _ | _ | _ | _ | _ | _ | k
  · rcases i with _ | _ | _ | i <;> exact fun q => by cases q
  all_goals exact fun q => by cases q
theorem hr_ok.m {Z b1 M ad S X} (h : hr_ok Z b1 M ad S X) (k i : Nat) (hi : hr_p S X k i) : M (ad k i) = hr_e Z ad S X k i := h.1 k i hi
theorem hr_ok.a {Z b1 M ad S X} (h : hr_ok Z b1 M ad S X) (k i : Nat) (hi : hr_p S X k i) : M (ad k i) ≠ none := by rw [h.1 k i hi]; exact hr_s Z ad S X k i
theorem hr_ok.n {Z b1 M ad S X} (h : hr_ok Z b1 M ad S X) {k i k' i' : Nat} (hi : hr_p S X k i) (hi' : hr_p S X k' i') (hne : ¬ (k = k' ∧ i = i')) : ad k i ≠ ad k' i' := fun q => hne (h.2.1 k i k' i' hi hi' q)
theorem hr_ok.f {Z b1 M ad S X} (h : hr_ok Z b1 M ad S X) {k i a : Nat} (hi : hr_p S X k i) (ha : b1 a) : a ≠ ad k i := fun q => h.2.2.1 k i hi (q ▸ ha)
/-- what was there stands as it was -/
def hr_F (M M' : hw_M) : Prop := ∀ x, M x ≠ none → M' x = M x
theorem hr_F_r (M : hw_M) : hr_F M M := fun _ _ => rfl
theorem hr_F.t {M M1 M2 : hw_M} (h : hr_F M M1) (h2 : hr_F M1 M2) : hr_F M M2 := fun x hx => (h2 x (by rw [h x hx]; exact hx)).trans (h x hx)
theorem hr_F_n {M : hw_M} {q : Nat} {e : Option va_E} (h : M q = none) : hr_F M (va_up M q e) := fun _ hx => va_up_ne _ _ (hw_xn hx h)
theorem hr_ok.F {Z b1 M M' ad S X} (h : hr_ok Z b1 M ad S X) (hF : hr_F M M') : hr_ok Z b1 M' ad S X := ⟨fun k i hi => (hF _ (h.a k i hi)).trans (h.m k i hi), h.2⟩
theorem hr_ok.th {Z b1 M ad S X} (h : hr_ok Z b1 M ad S X) (t : Int32) : hr_ok Z b1 (va_up M (ad 0 0) (hw_ob 12 [.int t, .int (hs_G S 0), .int (hs_G S 1), .ref (ad 0 2), .ref (ad 0 3), .ref (ad 0 1)])) ad S (t, X.2) := by
  have h00 : hr_p S X 0 0 := by show 0 < 4; decide
  refine ⟨fun k i hi => ?_, h.2.1, h.2.2.1, h.2.2.2⟩
  have hi' : hr_p S X k i := hi
  by_cases q : k = 0 ∧ i = 0
  · obtain ⟨rfl, rfl⟩ := q
    rw [va_up_self]; rfl
  · rw [va_up_ne _ _ (h.n hi' h00 q), h.m k i hi']
    rcases k with _ | _ | _ | _ | _ | _ | _ | _ | _ | _ | _ | _ | k
    · rcases i with _ | _ | _ | i
      · exact absurd ⟨rfl, rfl⟩ q
      all_goals rfl
    all_goals rfl
/-- a call of the reference: its code, its answer, its state -/
def hr_R {α : Type} (Z : hw_Z) (b1 : Nat → Prop) (M : hw_M) (ad : hp_ad) (o : Nat × α × hs_S) (r : α) (M' : hw_M) : Prop := ∃ (ad' : hp_ad) (X' : hr_X), ad' 0 0 = ad 0 0 ∧ hr_ok Z b1 M' ad' o.2.2 X' ∧ hr_th X' = nI o.1 ∧ (o.1 = 0 → o.2.1 = r) ∧ ∀ a, b1 a → M' a = M a
theorem hr_r {α : Type} {Z : hw_Z} {b1 : Nat → Prop} {M M' : hw_M} {ad ad' : hp_ad} {o : Nat × α × hs_S} {r : α} {S' : hs_S} {X' : hr_X} (h : o = (0, r, S')) (ha : ad' 0 0 = ad 0 0) (hp : hr_ok Z b1 M' ad' S' X') (ht : hr_th X' = nI 0) (hf : ∀ a, b1 a → M' a = M a) : hr_R Z b1 M ad o r M' := by
  subst h; exact ⟨ad', X', ha, hp, ht, fun _ => rfl, hf⟩
theorem hr_x {α : Type} {Z : hw_Z} {b1 : Nat → Prop} {M M' : hw_M} {ad : hp_ad} {S : hs_S} {o : Nat × α × hs_S} {r : α} {X' : hr_X} {n : Nat} (h : o.1 = n ∧ o.2.2 = S) (hn : 0 < n) (hp : hr_ok Z b1 M' ad S X') (ht : hr_th X' = nI n) (hf : ∀ a, b1 a → M' a = M a) : hr_R Z b1 M ad o r M' := by
  obtain ⟨h1, h2⟩ := h
  refine ⟨ad, X', rfl, by rw [h2]; exact hp, by rw [h1]; exact ht, fun q => by omega, hf⟩
theorem hb_in_ok {k : Int32} {n : Nat} (hn : n < 2 ^ 30) : hb_in k (nI 0) (nI n - nI 1) = decide (hb_ok k n) := by
  unfold hb_in
  have e : (nI 0 ≤ k ∧ k ≤ nI n - nI 1) ↔ hb_ok k n := by
    have h1 : (nI n - nI 1).toInt = (n : Int) - 1 := pk_sub_toInt (a := n) (b := 1) hn (by decide)
    have h2 : (nI n).toInt = n := nI_toInt (by omega)
    unfold hb_ok
    rw [nI_0, Int32.le_iff_toInt_le (x := k), Int32.lt_iff_toInt_lt, h1, h2]
    constructor
    · exact fun q => ⟨q.1, by omega⟩
    · exact fun q => ⟨q.1, by omega⟩
  exact decide_eq_decide.mpr e
theorem hb_in_okL {k : Int32} {n : Nat} (hn : n < 2 ^ 30) : hb_in k (nI 0) (nI n) = decide (hb_ok k (n + 1)) := by
  have h := hb_in_ok (k := k) (n := n + 1) 
  rcases Nat.lt_or_ge (n + 1) (2 ^ 30) with q | q
  · have e : nI (n + 1) - nI 1 = nI n := pk_sub (by omega)
    rw [← e]; exact h q
  · have e2 : (nI 0 ≤ k ∧ k ≤ nI n) ↔ hb_ok k (n + 1) := by
      have h1 : (nI n).toInt = n := nI_toInt (by omega)
      have h2 : (nI (n + 1)).toInt = ((n + 1 : Nat) : Int) := nI_toInt (by omega)
      unfold hb_ok
      rw [nI_0, Int32.le_iff_toInt_le (x := k), Int32.lt_iff_toInt_lt, h1, h2]
      constructor
      · exact fun q => ⟨q.1, by omega⟩
      · exact fun q => ⟨q.1, by omega⟩
    exact decide_eq_decide.mpr e2
theorem hq_dt {p : Prop} [Decidable p] (h : ¬ nI (decide p).toNat = 0) : p := of_decide_eq_true (hq_bt h)
theorem hq_df {p : Prop} [Decidable p] (h : nI (decide p).toNat = 0) : ¬ p := of_decide_eq_false (hq_bf h)
theorem hr_d0 {n z a : Nat} (h : 0 < n) : hr_d n z a = a := if_neg (by omega)
theorem hr_dz {n z a : Nat} (h : n = 0) : hr_d n z a = z := if_pos h
-- what holds of a hall's state
/-- a piece that was not started -/
def hv_raw (S : hs_S) (i : Nat) : Prop := hs_P S i 1 = 0 ∧ hs_P S i 2 = 0 ∧ hs_P S i 4 = -1 ∧ hs_P S i 5 = -1 ∧ hs_P S i 6 = -1 ∧ hs_P S i 7 = -1 ∧ hs_P S i 8 = -1 ∧ hs_P S i 9 = -1 ∧ hs_D S i = 0 ∧ hs_U S i = 0 ∧ hs_W S i = fun _ => 0
/-- a set of powders, all of one alloy -/
def hv_al (S : hs_S) (x al : Int32) : Prop := ∃ m : Nat, x = nI m ∧ 0 < m ∧ m < 64 ∧ ∀ k, m.testBit k = true → k < hs_nw S ∧ hs_V S k 0 = al
def hv_st (S : hs_S) (i : Nat) : Prop := hb_ok (hs_P S i 4) 2 ∧ hb_pw (hs_P S i 5) ∧ (¬ hs_P S i 6 < nI 1 ∧ hs_P S i 6 ≤ nI 20) ∧ ∃ al, hb_ok al 3 ∧ hs_P S i 9 = hb_win al (hs_P S i 5) (hs_P S i 6) ∧ hv_al S (hs_P S i 8) al
/-- a curl that isn't too large -/
def hv_c (u : UInt64) : Prop := u ≤ 4625196817309499392
def hv_ok (S : hs_S) : Prop :=
  hs_b S ∧ (∀ i, i < 4 → hs_P S i 0 = 0 → hv_raw S i) ∧ (∀ i, hs_np S ≤ i → i < 4 → hs_P S i 0 = 0 ∧ hs_P S i 3 = 0 ∧ hs_C S i = fun _ => 0) ∧ (∀ i, i < hs_np S → ¬ hs_P S i 0 = 0 → hv_st S i) ∧
  (∀ k, k < 2 → ¬ hs_M S k 3 = -1 → hb_ok (hs_M S k 3) (hs_np S) ∧ hs_P S (hb_ix (hs_M S k 3)) 0 = nI 1 ∧ hs_D S (hb_ix (hs_M S k 3)) < hb_ht (hs_C S (hb_ix (hs_M S k 3))) 8 ∧ hs_P S (hb_ix (hs_M S k 3)) 4 = nI k) ∧
  (∀ k, k < 2 → ¬ hs_M S k 1 = -1 → hb_ok (hs_M S k 1) (hs_nw S)) ∧
  (∀ j, hs_nw S ≤ j → j < 6 → hs_V S j 2 = 0 ∧ hs_V S j 3 = (nI 1 <<< (nI j &&& 31)) ∧ hs_V S j 4 = -1) ∧ (∀ j, j < hs_nw S → hb_ok (hs_V S j 0) 3 ∧ hv_al S (hs_V S j 3) (hs_V S j 0)) ∧
  (∀ k, k < 2 → (∀ m, m < hs_N S k → ∃ i, i < hs_np S ∧ ¬ hs_P S i 0 = 0 ∧ hs_P S i 4 = nI k ∧ hs_Q S k m = hs_P S i 9) ∧ ∀ m m', m < hs_N S k → m' < hs_N S k → hs_Q S k m = hs_Q S k m' → m = m') ∧
  (∀ i, i < 4 → hv_c (hs_U S i) ∧ (hs_P S i 0 = nI 1 → hb_struck (hs_U S i) = false))
theorem hv_ok.b {S} (h : hv_ok S) : hs_b S := h.1
theorem hv_ok.raw {S} (h : hv_ok S) {i : Nat} (hi : i < 4) (h0 : hs_P S i 0 = 0) : hv_raw S i := h.2.1 i hi h0
theorem hv_ok.new {S} (h : hv_ok S) {i : Nat} (h1 : hs_np S ≤ i) (h2 : i < 4) : hs_P S i 0 = 0 ∧ hs_P S i 3 = 0 ∧ hs_C S i = fun _ => 0 := h.2.2.1 i h1 h2
theorem hv_ok.st {S} (h : hv_ok S) {i : Nat} (hi : i < hs_np S) (h0 : ¬ hs_P S i 0 = 0) : hv_st S i := h.2.2.2.1 i hi h0
theorem hv_ok.mg {S} (h : hv_ok S) {k : Nat} (hk : k < 2) (hn : ¬ hs_M S k 3 = -1) : hb_ok (hs_M S k 3) (hs_np S) ∧ hs_P S (hb_ix (hs_M S k 3)) 0 = nI 1 ∧ hs_D S (hb_ix (hs_M S k 3)) < hb_ht (hs_C S (hb_ix (hs_M S k 3))) 8 ∧ hs_P S (hb_ix (hs_M S k 3)) 4 = nI k := h.2.2.2.2.1 k hk hn
theorem hv_ok.mp {S} (h : hv_ok S) {k : Nat} (hk : k < 2) (hn : ¬ hs_M S k 1 = -1) : hb_ok (hs_M S k 1) (hs_nw S) := h.2.2.2.2.2.1 k hk hn
theorem hv_ok.newV {S} (h : hv_ok S) {j : Nat} (h1 : hs_nw S ≤ j) (h2 : j < 6) : hs_V S j 2 = 0 ∧ hs_V S j 3 = (nI 1 <<< (nI j &&& 31)) ∧ hs_V S j 4 = -1 := h.2.2.2.2.2.2.1 j h1 h2
theorem hv_ok.V {S} (h : hv_ok S) {j : Nat} (hj : j < hs_nw S) : hb_ok (hs_V S j 0) 3 ∧ hv_al S (hs_V S j 3) (hs_V S j 0) := h.2.2.2.2.2.2.2.1 j hj
theorem hv_ok.Q {S} (h : hv_ok S) {k : Nat} (hk : k < 2) : (∀ m, m < hs_N S k → ∃ i, i < hs_np S ∧ ¬ hs_P S i 0 = 0 ∧ hs_P S i 4 = nI k ∧ hs_Q S k m = hs_P S i 9) ∧ ∀ m m', m < hs_N S k → m' < hs_N S k → hs_Q S k m = hs_Q S k m' → m = m' := h.2.2.2.2.2.2.2.2.1 k hk
theorem hv_ok.C {S} (h : hv_ok S) {i : Nat} (hi : i < 4) : hv_c (hs_U S i) ∧ (hs_P S i 0 = nI 1 → hb_struck (hs_U S i) = false) := h.2.2.2.2.2.2.2.2.2 i hi
theorem hr_en_st {r : Nat → Int32} (h : ¬ r 4 = -1) : hr_en r = hb_en (r 5) (r 6) := if_neg h
theorem hr_en_raw {r : Nat → Int32} (h : r 4 = -1) : hr_en r = hb_en (nI 1) (nI 1) := if_pos h
theorem hb_in_ge {k lo hi : Int32} : hb_in k lo hi = decide (¬ k < lo ∧ k ≤ hi) := by
  unfold hb_in
  exact decide_eq_decide.mpr ⟨fun q => ⟨Int32.not_lt.mpr q.1, q.2⟩, fun q => ⟨Int32.not_lt.mp q.1, q.2⟩⟩
-- setters beside the state
def hr_smc (X : hr_X) (j : Nat) (v : Int32) : hr_X := (hr_th X, va_up (hr_mc X) j v, hr_gr X, hr_qq X)
def hr_sgr (X : hr_X) (j : Nat) : hr_X := (hr_th X, hr_mc X, va_up (hr_gr X) j true, hr_qq X)
def hr_sqq (X : hr_X) (j : Nat) (f : Nat → Nat → Int32) : hr_X := (hr_th X, hr_mc X, hr_gr X, va_up (hr_qq X) j f)
/-- one kind's addresses under another function -/
def hr_ua (ad : hp_ad) (k : Nat) (f : Nat → Nat) : hp_ad := fun k' => if k' = k then f else ad k'
/-- addresses, some of them new -/
theorem hr_new {Z : hw_Z} {b1 : Nat → Prop} {M W : hw_M} {ad ad' : hp_ad} {S S' : hs_S} {X X' : hr_X} {nn : Nat → Nat → Prop} (h : hr_ok Z b1 M ad S X) (hA : ∀ a, b1 a → M a ≠ none) (h1 : ∀ k i, hr_p S' X' k i → (hr_p S X k i ∧ ad' k i = ad k i) ∨ (nn k i ∧ M (ad' k i) = none))
    (h2 : ∀ k i k' i', nn k i → nn k' i' → ad' k i = ad' k' i' → k = k' ∧ i = i') (h3 : ∀ k i, hr_p S' X' k i → W (ad' k i) = hr_e Z ad' S' X' k i) (h4 : hr_q S' X') (h5 : hr_g S' X') : hr_ok Z b1 W ad' S' X' := by
  refine ⟨h3, ?_, ?_, h4, h5⟩
  · intro k i k' i' hi hi' he
    rcases h1 k i hi with ⟨p1, e1⟩ | ⟨p1, e1⟩ <;> rcases h1 k' i' hi' with ⟨p2, e2⟩ | ⟨p2, e2⟩
    · rw [e1, e2] at he; exact h.2.1 k i k' i' p1 p2 he
    · rw [e1] at he; exact absurd (by rw [he]; exact e2) (h.a k i p1)
    · rw [e2] at he; exact absurd (by rw [← he]; exact e1) (h.a k' i' p2)
    · exact h2 k i k' i' p1 p2 he
  · intro k i hi hb
    rcases h1 k i hi with ⟨p1, e1⟩ | ⟨p1, e1⟩
    · rw [e1] at hb; exact h.2.2.1 k i p1 hb
    · exact hA _ hb e1
/-- no address is new -/
theorem hr_old {Z : hw_Z} {b1 : Nat → Prop} {M W : hw_M} {ad : hp_ad} {S S' : hs_S} {X X' : hr_X} (h : hr_ok Z b1 M ad S X) (h1 : ∀ k i, hr_p S' X' k i → hr_p S X k i) (h3 : ∀ k i, hr_p S' X' k i → W (ad k i) = hr_e Z ad S' X' k i) (h4 : hr_q S' X') (h5 : hr_g S' X') : hr_ok Z b1 W ad S' X' :=
  ⟨h3, fun k i k' i' hi hi' he => h.2.1 k i k' i' (h1 k i hi) (h1 k' i' hi') he, fun k i hi => h.2.2.1 k i (h1 k i hi), h4, h5⟩
theorem hr_ok.q {Z b1 M ad S X} (h : hr_ok Z b1 M ad S X) : hr_q S X := h.2.2.2.1
theorem hr_ok.g {Z b1 M ad S X} (h : hr_ok Z b1 M ad S X) : hr_g S X := h.2.2.2.2
theorem hb_01 (b : Bool) : nI b.toNat = 0 ∨ nI b.toNat = 1 := by cases b with
  | false => exact Or.inl rfl
  | true => exact Or.inr rfl
