/-! The calls, over the pool. -/
/-- bounds that the walks of the calls need -/
def hs_b (S : hs_S) : Prop :=
  (hs_np S ≤ 4 ∧ hs_nw S ≤ 6 ∧ ∀ k, k < 2 → hs_N S k ≤ 4) ∧ (∀ k, k < 2 → (hs_M S k 1 = -1 ∨ hb_ok (hs_M S k 1) 6) ∧ (hs_M S k 3 = -1 ∨ hb_ok (hs_M S k 3) 4)) ∧ (∀ i, i < 4 → (hs_P S i 4 = -1 ∨ hb_ok (hs_P S i 4) 2) ∧ hs_D S i ≤ 8 ∧ (∀ p, hb_pz (hs_W S i p)) ∧ hb_pz (hs_U S i)) ∧ ∀ k, k < 2 → ¬ hs_M S k 3 = -1 → 0 ≤ hs_P S (hb_ix (hs_M S k 3)) 5 ∧ 0 < hs_P S (hb_ix (hs_M S k 3)) 6
theorem hs_b.np {S} (h : hs_b S) : hs_np S ≤ 4 := h.1.1
theorem hs_b.nw {S} (h : hs_b S) : hs_nw S ≤ 6 := h.1.2.1
theorem hs_b.N {S} (h : hs_b S) {k : Nat} (hk : k < 2) : hs_N S k ≤ 4 := h.1.2.2 k hk
theorem hs_b.mp {S} (h : hs_b S) {k : Nat} (hk : k < 2) (hn : ¬ hs_M S k 1 = -1) : hb_ix (hs_M S k 1) < 6 := by
  rcases (h.2.1 k hk).1 with q | q
  · exact absurd q hn
  · exact (hb_okx (by decide) q).1
theorem hs_b.mg {S} (h : hs_b S) {k : Nat} (hk : k < 2) (hn : ¬ hs_M S k 3 = -1) : hb_ix (hs_M S k 3) < 4 := by
  rcases (h.2.1 k hk).2 with q | q
  · exact absurd q hn
  · exact (hb_okx (by decide) q).1
theorem hs_b.pm {S} (h : hs_b S) {i : Nat} (hi : i < 4) (hn : ¬ hs_P S i 4 = -1) : hb_ix (hs_P S i 4) < 2 := by
  rcases (h.2.2.1 i hi).1 with q | q
  · exact absurd q hn
  · exact (hb_okx (by decide) q).1
theorem hs_b.D {S} (h : hs_b S) {i : Nat} (hi : i < 4) : hs_D S i ≤ 8 := (h.2.2.1 i hi).2.1
theorem hs_b.W {S} (h : hs_b S) {i : Nat} (hi : i < 4) (p : Nat) : hb_pz (hs_W S i p) := (h.2.2.1 i hi).2.2.1 p
theorem hs_b.U {S} (h : hs_b S) {i : Nat} (hi : i < 4) : hb_pz (hs_U S i) := (h.2.2.1 i hi).2.2.2
/-- an answer: the code, the value, the state behind it -/
def hq_R {α : Type} (Z : hw_Z) (b1 : Nat → Prop) (M : hw_M) (ad : hp_ad) (o : Nat × α × hs_S) (r : α) (M' : hw_M) : Prop := o.1 = 0 ∧ o.2.1 = r ∧ (∃ T', hp_ok Z b1 M' ad o.2.2 T') ∧ ∀ a, b1 a → M' a = M a
/-- an exception -/
def hq_X {α : Type} (L : List String) (M : hw_M) (S : hs_S) (o : Nat × α × hs_S) (E : String) (M' : hw_M) : Prop := hs_xn L o.1 E ∧ o.2.2 = S ∧ M = M'
theorem hq_r {α : Type} {Z : hw_Z} {b1 : Nat → Prop} {M : hw_M} {ad : hp_ad} {o : Nat × α × hs_S} {r : α} {M' : hw_M} {S' : hs_S} {T' : hp_T} (h : o = (0, r, S')) (hp : hp_ok Z b1 M' ad S' T') (hf : ∀ a, b1 a → M' a = M a) : hq_R Z b1 M ad o r M' := by subst h; exact ⟨rfl, rfl, ⟨T', hp⟩, hf⟩
theorem hq_x {α : Type} {L : List String} {M M' : hw_M} {S : hs_S} {o : Nat × α × hs_S} {E : String} {c : Nat} (h : o.1 = c ∧ o.2.2 = S) (hc : 0 < c ∧ L[c - 1]? = some E) (hM : M = M') : hq_X L M S o E M' := ⟨by unfold hs_xn; rw [h.1]; exact hc, h.2, hM⟩
theorem hq_xc {α : Type} {L : List String} {M : hw_M} {S : hs_S} {o : Nat × α × hs_S} {X : String} {q : Prop} {c : Nat} (f : q → o.1 = c ∧ o.2.2 = S) (hc : 0 < c ∧ L[c - 1]? = some X) : ∀ E M', (E = X ∧ q) ∧ M = M' → hq_X L M S o E M' := fun E M' h => hq_x (f h.1.2) (by rw [h.1.1]; exact hc) h.2
theorem hp_ok.f {Z b1 M ad S T} (h : hp_ok Z b1 M ad S T) {k i a : Nat} (hi : i < hp_n k) (ha : b1 a) : a ≠ ad k i := fun q => h.2.2.1 k i hi (q ▸ ha)
theorem hp_ok.h0 {Z b1 M ad S T} (h : hp_ok Z b1 M ad S T) : T.2.1 0 = 0 := h.2.2.2.1
theorem hp_ok.s7 {Z b1 M ad S T} (h : hp_ok Z b1 M ad S T) : T.2.2.1 7 = 0 := h.2.2.2.2
theorem hq_if {α : Type} {c : Prop} [Decidable c] {x y : Nat × α × hs_S} {n : Nat} {S : hs_S} (h : c) (hx : x.1 = n ∧ x.2.2 = S) : (if c then x else y).1 = n ∧ (if c then x else y).2.2 = S := by rw [if_pos h]; exact hx
theorem hq_el {α : Type} {c : Prop} [Decidable c] {x y : Nat × α × hs_S} {n : Nat} {S : hs_S} (h : ¬ c) (hy : y.1 = n ∧ y.2.2 = S) : (if c then x else y).1 = n ∧ (if c then x else y).2.2 = S := by rw [if_neg h]; exact hy
theorem hq_ge {a b : Nat} (ha : a < 2 ^ 31) (hb : b < 2 ^ 31) (h : ¬ nI a < nI b) : b ≤ a := Nat.le_of_not_lt (fun q => h (nI_lt q hb))
theorem hq_lt {a b : Nat} (ha : a < 2 ^ 31) (hb : b < 2 ^ 31) (h : nI a < nI b) : a < b := (nI_ltI ha hb).mp h
theorem sm_Ts {Z : hw_Z} {ad : hp_ad} {S : hs_S} {T : hp_T} {k i : Nat} {A B C : Nat → Int64} (h : ¬ (k = 0 ∧ 5 ≤ i ∧ i ≤ 7)) : hp_e Z ad S (A, B, C, T.2.2.2) k i = hp_e Z ad S T k i := by
  by_cases q : k = 0 ∧ 5 ≤ i
  · obtain ⟨rfl, hi⟩ := q
    obtain ⟨j, rfl⟩ : ∃ j, i = j + 8 := ⟨i - 8, by omega⟩
    rcases j with _ | j <;> rfl
  · exact sm_T q
theorem sm_Tm {Z : hw_Z} {ad : hp_ad} {S : hs_S} {T : hp_T} {k i : Nat} {W : Nat → UInt64} {x y : Int32} (h : ¬ (k = 0 ∧ 8 ≤ i)) : hp_e Z ad S (T.1, T.2.1, T.2.2.1, W, x, y) k i = hp_e Z ad S T k i := by
  by_cases q : k = 0 ∧ 5 ≤ i
  · obtain ⟨rfl, hi⟩ := q
    rcases (show i = 5 ∨ i = 6 ∨ i = 7 by omega) with rfl | rfl | rfl <;> rfl
  · exact sm_T q
theorem hw_ob7 {ci : Nat} {a1 a2 a3 a4 a5 a6 a7 b1 b2 b3 b4 b5 b6 b7 : Value} (h1 : a1 = b1) (h2 : a2 = b2) (h3 : a3 = b3) (h4 : a4 = b4) (h5 : a5 = b5) (h6 : a6 = b6) (h7 : a7 = b7) : hw_ob ci [a1, a2, a3, a4, a5, a6, a7] = hw_ob ci [b1, b2, b3, b4, b5, b6, b7] := by rw [h1, h2, h3, h4, h5, h6, h7]
theorem hw_ob13 {ci : Nat} {a1 a2 a3 a4 a5 a6 a7 a8 a9 a10 a11 a12 a13 b1 b2 b3 b4 b5 b6 b7 b8 b9 b10 b11 b12 b13 : Value} (h1 : a1 = b1) (h2 : a2 = b2) (h3 : a3 = b3) (h4 : a4 = b4) (h5 : a5 = b5) (h6 : a6 = b6) (h7 : a7 = b7) (h8 : a8 = b8) (h9 : a9 = b9) (h10 : a10 = b10) (h11 : a11 = b11) (h12 : a12 = b12) (h13 : a13 = b13) : hw_ob ci [a1, a2, a3, a4, a5, a6, a7, a8, a9, a10, a11, a12, a13] = hw_ob ci [b1, b2, b3, b4, b5, b6, b7, b8, b9, b10, b11, b12, b13] := by rw [h1, h2, h3, h4, h5, h6, h7, h8, h9, h10, h11, h12, h13]
theorem hp_rn {ad : Nat → Nat} {x : Int32} (h : x = -1) : hp_ref ad x = .null := if_pos h
theorem hp_rr {ad : Nat → Nat} {x y : Int32} (h : x = y) (hn : ¬ y = -1) : hp_ref ad x = .ref (ad (hb_ix y)) := by subst h; exact if_neg hn
theorem hb_okn {k : Int32} {n : Nat} (h : hb_ok k n) : ¬ k = -1 := fun q => absurd h.1 (by rw [q]; decide)
theorem hq_bt {b : Bool} (h : ¬ nI b.toNat = 0) : b = true := by
  cases b with
  | false => exact absurd (by decide) h
  | true => rfl
theorem hq_bf {b : Bool} (h : nI b.toNat = 0) : b = false := by
  cases b with
  | false => rfl
  | true => exact absurd h (by decide)
theorem hq_bn {b : Bool} (h : b = true) : ¬ b = false := by rw [h]; decide
theorem hs_c1_M3 (S : hs_S) (k : Nat) : hs_M (hs_c1 S k) k 3 = hs_M S k 3 := by
  unfold hs_c1 hs_gb
  split
  · rfl
  · simp only [ac_M_V, ac_M_M, va_up_self]; rfl
theorem hs_c1_P (S : hs_S) (k : Nat) : hs_P (hs_c1 S k) = hs_P S := by
  unfold hs_c1 hs_gb
  split <;> rfl
theorem hp_k {k i : Nat} (h : i < hp_n k) : k ≤ 10 := by
  rcases k with _ | _ | _ | _ | _ | _ | _ | _ | _ | _ | _ | k
  all_goals first | omega | exact absurd h (Nat.not_lt_zero _)
theorem hq_z {n : Nat} (h : ¬ nI n = 0) : ¬ n = 0 := fun q => h (by rw [q]; rfl)
theorem hq_ht {C : Nat → Int64} (h : nI (hb_ht C 8) = 0) : hb_ht C 8 = 0 := by
  have := hb_ht_le C 8
  exact (nI_eq (a := hb_ht C 8) (b := 0) (by omega) (by omega)).mp h
/-- an answer that changes nothing -/
def hq_N {α : Type} (M : hw_M) (S : hs_S) (o : Nat × α × hs_S) (r : α) (M' : hw_M) : Prop := o = (0, r, S) ∧ M = M'
theorem hq_N.R {α : Type} {Z : hw_Z} {b1 : Nat → Prop} {M : hw_M} {ad : hp_ad} {S : hs_S} {T : hp_T} {o : Nat × α × hs_S} {r : α} {M' : hw_M} (h : hq_N M S o r M') (hP : hp_ok Z b1 M ad S T) : hq_R Z b1 M ad o r M' := by
  obtain ⟨h1, rfl⟩ := h
  exact hq_r h1 hP (fun _ _ => rfl)
theorem hs_b.mpx {S} (h : hs_b S) {k : Nat} (hk : k < 2) (hn : ¬ hs_M S k 1 = -1) : nI (hb_ix (hs_M S k 1)) = hs_M S k 1 := by
  rcases (h.2.1 k hk).1 with q | q
  · exact absurd q hn
  · exact (hb_okx (by decide) q).2.symm
theorem hs_b.mgx {S} (h : hs_b S) {k : Nat} (hk : k < 2) (hn : ¬ hs_M S k 3 = -1) : nI (hb_ix (hs_M S k 3)) = hs_M S k 3 := by
  rcases (h.2.1 k hk).2 with q | q
  · exact absurd q hn
  · exact (hb_okx (by decide) q).2.symm
theorem hs_b.pmx {S} (h : hs_b S) {i : Nat} (hi : i < 4) (hn : ¬ hs_P S i 4 = -1) : nI (hb_ix (hs_P S i 4)) = hs_P S i 4 := by
  rcases (h.2.2.1 i hi).1 with q | q
  · exact absurd q hn
  · exact (hb_okx (by decide) q).2.symm
theorem hq_out {x : Int32} {n : Nat} (hn : n < 2 ^ 31) (h : ¬ hb_ok x n) : x.toInt < 0 ∨ (n : Int) ≤ x.toInt := by
  rcases Int.lt_or_le x.toInt 0 with q | q
  · exact Or.inl q
  · refine Or.inr (Int.not_lt.mp (fun q2 => h ⟨Int32.le_iff_toInt_le.mpr (by simpa using q), Int32.lt_iff_toInt_lt.mpr (by rw [nI_toInt hn]; exact q2)⟩))
theorem hq_eq {α : Type} {S : hs_S} {x y : α} (h : x = y) : ((0, x, S) : Nat × α × hs_S) = (0, y, S) := by rw [h]
theorem hp_k0 {k i : Nat} (h : i < hp_n k) : k ≠ 0 ∨ i < 10 := by
  rcases k with _ | k
  · exact Or.inr h
  · exact Or.inl (by omega)
theorem hq_bn' {b : Bool} (h : b = false) : ¬ b = true := by rw [h]; decide
