/-! Every call keeps what holds of a hall. -/
theorem hv_al_mono {S S' : hs_S} {x al : Int32} (h : hv_al S x al) (hw : hs_nw S ≤ hs_nw S') (hV : ∀ k, k < hs_nw S → hs_V S' k 0 = hs_V S k 0) : hv_al S' x al := by
  obtain ⟨m, h1, h2, h3, h4⟩ := h
  exact ⟨m, h1, h2, h3, fun k hk => ⟨Nat.lt_of_lt_of_le (h4 k hk).1 hw, (hV k (h4 k hk).1).trans (h4 k hk).2⟩⟩
theorem hv_st_mono {S S' : hs_S} {i : Nat} (h : hv_st S i) (hw : hs_nw S ≤ hs_nw S') (hV : ∀ k, k < hs_nw S → hs_V S' k 0 = hs_V S k 0) (hP : ∀ f, 4 ≤ f → f ≤ 9 → hs_P S' i f = hs_P S i f) : hv_st S' i := by
  obtain ⟨h1, h2, h3, al, h4, h5, h6⟩ := h
  unfold hv_st
  rw [hP 4 (by omega) (by omega), hP 5 (by omega) (by omega), hP 6 (by omega) (by omega), hP 8 (by omega) (by omega), hP 9 (by omega) (by omega)]
  exact ⟨h1, h2, h3, al, h4, h5, hv_al_mono h6 hw hV⟩
theorem hv_okG {S : hs_S} (h : hv_ok S) (r : Nat → Int32) : hv_ok (hs_sG S r) := h
theorem hb_okm {k : Int32} {n n' : Nat} (h : hb_ok k n) (hn : n ≤ n') (hn' : n' < 2 ^ 31) : hb_ok k n' := by
  obtain ⟨j, hj, rfl⟩ := hb_okj (by omega) h
  exact hb_okN (by omega) hn'
theorem hb_ok1 {n : Nat} (hn : n < 2 ^ 31) : ¬ hb_ok (-1) n := fun q => absurd q.1 (by decide)
/-- no machine grows what wasn't started, or is done -/
theorem hv_nm {S : hs_S} (h : hv_ok S) {g : Nat} (h1 : ¬ hs_P S g 0 = nI 1) {k : Nat} (hk : k < 2) (hn : ¬ hs_M S k 3 = -1) : ¬ hb_ix (hs_M S k 3) = g := fun e => h1 (by rw [← e]; exact (h.mg hk hn).2.1)
/-- a started piece changes -/
theorem hv_pc {S S' : hs_S} (h : hv_ok S) {g : Nat} (hg : g < hs_np S) (h0 : ¬ hs_P S g 0 = 0)
    (e1 : hs_np S' = hs_np S) (e2 : hs_nw S' = hs_nw S) (e3 : hs_V S' = hs_V S) (e4 : hs_M S' = hs_M S) (e5 : hs_N S' = hs_N S) (e6 : hs_Q S' = hs_Q S) (e7 : hs_C S' = hs_C S)
    (eo : ∀ i, i ≠ g → hs_P S' i = hs_P S i ∧ hs_D S' i = hs_D S i ∧ hs_U S' i = hs_U S i ∧ hs_W S' i = hs_W S i)
    (g0 : ¬ hs_P S' g 0 = 0) (g4 : ∀ f, 4 ≤ f → f ≤ 9 → hs_P S' g f = hs_P S g f)
    (gD : hs_D S' g ≤ 8) (gW : ∀ p, hb_pz (hs_W S' g p)) (gU : hb_pz (hs_U S' g)) (gC : hv_c (hs_U S' g) ∧ (hs_P S' g 0 = nI 1 → hb_struck (hs_U S' g) = false))
    (gm : ∀ k, k < 2 → ¬ hs_M S k 3 = -1 → hb_ix (hs_M S k 3) = g → hs_P S' g 0 = nI 1 ∧ hs_D S' g < hb_ht (hs_C S g) 8) : hv_ok S' := by
  have hnp := h.b.np
  have p4 : ∀ i f, 4 ≤ f → f ≤ 9 → hs_P S' i f = hs_P S i f := fun i f a b => by
    by_cases q : i = g
    · subst q; exact g4 f a b
    · rw [(eo i q).1]
  refine ⟨⟨⟨by rw [e1]; exact h.b.np, by rw [e2]; exact h.b.nw, fun k hk => by rw [e5]; exact h.b.N hk⟩, fun k hk => by rw [e4]; exact h.b.2.1 k hk, fun i hi => ?_, fun k hk hn => ?_⟩, fun i hi hr => ?_, fun i hi hi2 => ?_, fun i hi hs => ?_, fun k hk hn => ?_, fun k hk hn => ?_, ?_, ?_, fun k hk => ?_, fun i hi => ?_⟩
  · rw [p4 i 4 (by omega) (by omega)]
    refine ⟨(h.b.2.2.1 i hi).1, ?_⟩
    by_cases q : i = g
    · subst q; exact ⟨gD, gW, gU⟩
    · rw [(eo i q).2.1, (eo i q).2.2.1, (eo i q).2.2.2]; exact (h.b.2.2.1 i hi).2
  · rw [e4] at hn ⊢
    rw [p4 _ 5 (by omega) (by omega), p4 _ 6 (by omega) (by omega)]
    exact h.b.2.2.2 k hk hn
  · by_cases q : i = g
    · subst q; exact absurd hr g0
    · unfold hv_raw
      rw [(eo i q).1, (eo i q).2.1, (eo i q).2.2.1, (eo i q).2.2.2]
      exact h.raw hi (by rw [← (eo i q).1]; exact hr)
  · rw [e1] at hi
    rw [(eo i (by omega)).1, e7]; exact h.new hi hi2
  · rw [e1] at hi
    refine hv_st_mono (S := S) ?_ (by rw [e2]; exact Nat.le_refl _) (fun k _ => by rw [e3]) (fun f a b => p4 i f a b)
    by_cases q : i = g
    · subst q; exact h.st hi h0
    · exact h.st hi (by rw [← (eo i q).1]; exact hs)
  · rw [e4] at hn ⊢
    rw [e1, e7, p4 _ 4 (by omega) (by omega)]
    obtain ⟨a1, a2, a3, a4⟩ := h.mg hk hn
    by_cases q : hb_ix (hs_M S k 3) = g
    · have := gm k hk hn q
      rw [q] at a4 ⊢
      exact ⟨a1, this.1, this.2, a4⟩
    · rw [(eo _ q).1, (eo _ q).2.1]
      exact ⟨a1, a2, a3, a4⟩
  · rw [e4] at hn ⊢
    rw [e2]; exact h.mp hk hn
  · rw [e2, e3]; exact fun j a b => h.newV a b
  · intro j hj
    rw [e2] at hj
    rw [e3]
    exact ⟨(h.V hj).1, hv_al_mono (h.V hj).2 (by rw [e2]; exact Nat.le_refl _) (fun k _ => by rw [e3])⟩
  · rw [e5, e6]
    refine ⟨fun m hm => ?_, (h.Q hk).2⟩
    obtain ⟨i, a1, a2, a3, a4⟩ := (h.Q hk).1 m hm
    refine ⟨i, by rw [e1]; exact a1, ?_, (p4 i 4 (by omega) (by omega)).trans a3, a4.trans (p4 i 9 (by omega) (by omega)).symm⟩
    by_cases q : i = g
    · subst q; exact g0
    · rw [(eo i q).1]; exact a2
  · by_cases q : i = g
    · subst q; exact gC
    · rw [(eo i q).1, (eo i q).2.2.1]; exact h.C hi
/-- only the row of a started piece changes, and not whether it grows -/
theorem hv_sP {S : hs_S} (h : hv_ok S) {g : Nat} (hg : g < hs_np S) (h0 : ¬ hs_P S g 0 = 0) (r : Nat → Int32) (g0 : ¬ r 0 = 0) (g4 : ∀ f, 4 ≤ f → f ≤ 9 → r f = hs_P S g f)
    (g1 : r 0 = nI 1 → hs_P S g 0 = nI 1) (gm : ∀ k, k < 2 → ¬ hs_M S k 3 = -1 → hb_ix (hs_M S k 3) = g → r 0 = nI 1) : hv_ok (hs_sP S g r) := by
  have hnp := h.b.np
  have e : hs_P (hs_sP S g r) g = r := va_up_self _ _ _
  refine hv_pc (S' := hs_sP S g r) h hg h0 rfl rfl rfl rfl rfl rfl rfl (fun i hi => ⟨va_up_ne _ _ hi, rfl, rfl, rfl⟩) (by rw [e]; exact g0) (by rw [e]; exact g4) (h.b.D (by omega)) (h.b.W (by omega)) (h.b.U (by omega)) (by rw [e]; exact ⟨(h.C (by omega)).1, fun q => (h.C (by omega)).2 (g1 q)⟩) (fun k hk hn q => ?_)
  rw [e]
  refine ⟨gm k hk hn q, ?_⟩
  have := (h.mg hk hn).2.2.1
  rw [q] at this; exact this
/-- a machine's row changes: it may lose its powder, or its piece -/
theorem hv_sM {S : hs_S} (h : hv_ok S) {k : Nat} (r : Nat → Int32) (h1 : r 1 = -1 ∨ r 1 = hs_M S k 1 ∨ hb_ok (r 1) (hs_nw S)) (h3 : r 3 = -1 ∨ r 3 = hs_M S k 3) : hv_ok (hs_sM S k r) := by
  have hnw := h.b.nw
  have m3 : ∀ k', ¬ hs_M (hs_sM S k r) k' 3 = -1 → hs_M (hs_sM S k r) k' 3 = hs_M S k' 3 := fun k' hn => by
    by_cases q : k' = k
    · subst q
      have e : hs_M (hs_sM S k' r) k' = r := va_up_self _ _ _
      rw [e] at hn ⊢
      exact h3.resolve_left hn
    · show va_up (hs_M S) k r k' 3 = _
      rw [va_up_ne _ _ q]
  have m1 : ∀ k', k' < 2 → ¬ hs_M (hs_sM S k r) k' 1 = -1 → hb_ok (hs_M (hs_sM S k r) k' 1) (hs_nw S) := fun k' hk' hn => by
    by_cases q : k' = k
    · subst q
      have e : hs_M (hs_sM S k' r) k' = r := va_up_self _ _ _
      rw [e] at hn ⊢
      rcases h1 with a | a | a
      · exact absurd a hn
      · rw [a] at hn ⊢; exact h.mp hk' hn
      · exact a
    · have e : hs_M (hs_sM S k r) k' = hs_M S k' := va_up_ne _ _ q
      rw [e] at hn ⊢; exact h.mp hk' hn
  refine ⟨⟨h.b.1, fun k' hk' => ⟨?_, ?_⟩, h.b.2.2.1, fun k' hk' hn => ?_⟩, h.2.1, h.2.2.1, h.2.2.2.1, fun k' hk' hn => ?_, fun k' hk' hn => m1 k' hk' hn, h.2.2.2.2.2.2⟩
  · by_cases q : hs_M (hs_sM S k r) k' 1 = -1
    · exact Or.inl q
    · exact Or.inr (hb_okm (m1 k' hk' q) hnw (by decide))
  · by_cases q : hs_M (hs_sM S k r) k' 3 = -1
    · exact Or.inl q
    · rw [m3 k' q]; exact (h.b.2.1 k' hk').2
  · have e := m3 k' hn
    rw [e] at hn ⊢; exact h.b.2.2.2 k' hk' hn
  · have e := m3 k' hn
    rw [e] at hn ⊢; exact h.mg hk' hn
/-- the row of a powder changes, not its alloy -/
theorem hv_sV {S : hs_S} (h : hv_ok S) {j : Nat} (hj : j < hs_nw S) (r : Nat → Int32) (h0 : r 0 = hs_V S j 0) (h3 : hv_al S (r 3) (hs_V S j 0)) : hv_ok (hs_sV S j r) := by
  have v0 : ∀ j', hs_V (hs_sV S j r) j' 0 = hs_V S j' 0 := fun j' => by
    show va_up (hs_V S) j r j' 0 = _
    by_cases q : j' = j
    · subst q; rw [va_up_self]; exact h0
    · rw [va_up_ne _ _ q]
  refine ⟨h.b, h.2.1, h.2.2.1, fun i hi hs => hv_st_mono (h.st hi hs) (Nat.le_refl _) (fun k _ => v0 k) (fun _ _ _ => rfl), h.2.2.2.2.1, h.2.2.2.2.2.1, fun j' a b => ?_, fun j' hj' => ?_, h.2.2.2.2.2.2.2.2⟩
  · have e : hs_V (hs_sV S j r) j' = hs_V S j' := va_up_ne _ _ (by show j' ≠ j; have : hs_nw S ≤ j' := a; omega)
    rw [e]; exact h.newV a b
  · rw [v0]
    refine ⟨(h.V hj').1, hv_al_mono (S := S) ?_ (Nat.le_refl _) (fun k _ => v0 k)⟩
    show hv_al S (va_up (hs_V S) j r j' 3) _
    by_cases q : j' = j
    · subst q; rw [va_up_self]; exact h3
    · rw [va_up_ne _ _ q]; exact (h.V hj').2
/-- what is left of a call: the state behind it -/
theorem hk_if {p : Prop} [Decidable p] {α : Type} {x y : Nat × α × hs_S} (h1 : p → hv_ok x.2.2) (h2 : ¬ p → hv_ok y.2.2) : hv_ok (if p then x else y).2.2 := by
  split
  · exact h1 ‹_›
  · exact h2 ‹_›
theorem hk_piece {S : hs_S} (h : hv_ok S) : hv_ok (st_piece S).2.2 := by
  unfold st_piece
  refine hk_if (fun _ => h) (fun hn => ?_)
  show hv_ok (hs_sp S (hs_np S + 1))
  have raw : hs_P S (hs_np S) 0 = 0 := (h.new (Nat.le_refl _) (by omega)).1
  refine ⟨⟨⟨by show hs_np S + 1 ≤ 4; omega, h.b.1.2⟩, h.b.2⟩, h.2.1, fun i hi hi2 => h.new (by have : hs_np S + 1 ≤ i := hi; omega) hi2, fun i hi hs => ?_, fun k hk hn => ?_, h.2.2.2.2.2.1, h.2.2.2.2.2.2.1, h.2.2.2.2.2.2.2.1, fun k hk => ⟨fun m hm => ?_, (h.Q hk).2⟩, h.2.2.2.2.2.2.2.2.2⟩
  · have hi : i < hs_np S + 1 := hi
    rcases Nat.eq_or_lt_of_le (Nat.le_of_lt_succ hi) with q | q
    · subst q; exact absurd raw hs
    · exact h.st q hs
  · obtain ⟨a1, a2⟩ := h.mg hk hn
    exact ⟨hb_okm a1 (Nat.le_succ _) (by show hs_np S + 1 < 2 ^ 31; omega), a2⟩
  · obtain ⟨i, a1, a2⟩ := (h.Q hk).1 m hm
    exact ⟨i, Nat.lt_succ_of_lt a1, a2⟩
/-- the cells of a raw piece change -/
theorem hv_sC {S : hs_S} (h : hv_ok S) {g : Nat} (hg : g < hs_np S) (h0 : hs_P S g 0 = 0) (r : Nat → Int64) : hv_ok (hs_sC S g r) := by
  refine ⟨h.b, h.2.1, fun i hi hi2 => ?_, h.2.2.2.1, fun k hk hn => ?_, h.2.2.2.2.2⟩
  · have e : hs_C (hs_sC S g r) i = hs_C S i := va_up_ne _ _ (by have : hs_np S ≤ i := hi; omega)
    rw [e]; exact h.new hi hi2
  · have e : hs_C (hs_sC S g r) (hb_ix (hs_M S k 3)) = hs_C S (hb_ix (hs_M S k 3)) := va_up_ne _ _ (hv_nm h (by rw [h0]; decide) hk hn)
    show _ ∧ _ ∧ _ < hb_ht (hs_C (hs_sC S g r) (hb_ix (hs_M S k 3))) 8 ∧ _
    rw [e]; exact h.mg hk hn
theorem hk_layer {S : hs_S} (h : hv_ok S) (p k : Int32) (x : Int64) : hv_ok (st_layer S p k x).2.2 := by
  have hnp := h.b.np
  unfold st_layer
  refine hk_if (fun _ => h) (fun h1 => hk_if (fun _ => h) (fun h2 => ?_))
  exact hv_sC h (hb_okx (by omega) (Decidable.not_not.mp h1).1).1 (Decidable.not_not.mp h2) _
theorem hk_lay {S : hs_S} (h : hv_ok S) (p w : Int32) : hv_ok (st_lay S p w).2.2 := by
  have hnp := h.b.np
  unfold st_lay
  refine hk_if (fun _ => h) (fun h1 => hk_if (fun _ => h) (fun _ => hk_if (fun _ => h) (fun h2 => ?_)))
  exact hv_sC h (hb_okx (by omega) (Decidable.not_not.mp h1)).1 (Decidable.not_not.mp h2) _
theorem hv_bit : ∀ j, j < 6 → (nI 1 <<< (nI j &&& 31)) = nI (2 ^ j) := by decide +kernel
theorem hk_powder {S : hs_S} (h : hv_ok S) (a g : Int32) : hv_ok (st_powder S a g).2.2 := by
  have hnp := h.b.np
  have hnw := h.b.nw
  unfold st_powder
  refine hk_if (fun _ => h) (fun h1 => hk_if (fun _ => h) (fun h2 => ?_))
  have ha := (Decidable.not_not.mp h1).1
  have hj : hs_nw S < 6 := by omega
  obtain ⟨n2, n3, n4⟩ := h.newV (Nat.le_refl _) hj
  generalize hr : va_up (va_up (hs_V S (hs_nw S)) 0 a) 1 g = r
  have r0 : r 0 = a := by rw [← hr]; rfl
  have r3 : r 3 = hs_V S (hs_nw S) 3 := by rw [← hr]; rfl
  show hv_ok (hs_sw (hs_sV S (hs_nw S) r) (hs_nw S + 1))
  generalize hS' : hs_sw (hs_sV S (hs_nw S) r) (hs_nw S + 1) = S'
  have v0 : ∀ k, k < hs_nw S → hs_V S' k = hs_V S k := fun k hk => by rw [← hS']; exact va_up_ne _ _ (by omega)
  have vn : hs_V S' (hs_nw S) = r := by rw [← hS']; exact va_up_self _ _ _
  have vg : ∀ k, hs_nw S < k → hs_V S' k = hs_V S k := fun k hk => by rw [← hS']; exact va_up_ne _ _ (by omega)
  have ew : hs_nw S' = hs_nw S + 1 := by rw [← hS']; rfl
  have mono : ∀ {x al}, hv_al S x al → hv_al S' x al := fun q => hv_al_mono q (by omega) (fun k hk => by rw [v0 k hk])
  subst hS'
  refine ⟨⟨⟨h.b.np, by rw [ew]; omega, h.b.1.2.2⟩, h.b.2⟩, h.2.1, h.2.2.1, fun i hi hs => hv_st_mono (h.st hi hs) (by omega) (fun k hk => by rw [v0 k hk]) (fun _ _ _ => rfl), h.2.2.2.2.1, fun k hk hn => ?_, fun j hj1 hj2 => ?_, fun j hj1 => ?_, h.2.2.2.2.2.2.2.2⟩
  · rw [ew]; exact hb_okm (h.mp hk hn) (Nat.le_succ _) (by omega)
  · rw [ew] at hj1
    rw [vg j (by omega)]; exact h.newV (by omega) hj2
  · rw [ew] at hj1
    by_cases q : j = hs_nw S
    · subst q
      rw [vn, r0, r3, n3, hv_bit _ hj]
      refine ⟨ha, 2 ^ hs_nw S, rfl, Nat.two_pow_pos _, ?_, fun k hk => ?_⟩
      · have : 2 ^ hs_nw S ≤ 2 ^ 5 := Nat.pow_le_pow_right (by omega) (by omega)
        omega
      · rw [Nat.testBit_two_pow] at hk
        have hk : hs_nw S = k := of_decide_eq_true hk
        subst hk
        rw [ew, vn, r0]; exact ⟨Nat.lt_succ_self _, rfl⟩
    · rw [v0 j (by omega)]
      exact ⟨(h.V (by omega)).1, mono (h.V (by omega)).2⟩
theorem nI_or {a b : Nat} (ha : a < 64) (hb : b < 64) : nI a ||| nI b = nI (a ||| b) := by
  have key : ∀ a, a < 64 → ∀ b, b < 64 → nI a ||| nI b = nI (a ||| b) := by decide +kernel
  exact key a ha b hb
theorem hv_al_or {S : hs_S} {x y al : Int32} (h1 : hv_al S x al) (h2 : hv_al S y al) : hv_al S (x ||| y) al := by
  obtain ⟨m, rfl, a1, a2, a3⟩ := h1
  obtain ⟨n, rfl, b1, b2, b3⟩ := h2
  refine ⟨m ||| n, nI_or a2 b2, Nat.lt_of_lt_of_le a1 Nat.left_le_or, Nat.or_lt_two_pow (n := 6) a2 b2, fun k hk => ?_⟩
  rw [Nat.testBit_or, Bool.or_eq_true] at hk
  exact hk.elim (a3 k) (b3 k)
theorem hk_blend {S : hs_S} (h : hv_ok S) (f g : Int32) : hv_ok (st_blend S f g).2.2 := by
  have hnw := h.b.nw
  unfold st_blend
  refine hk_if (fun _ => h) (fun h1 => hk_if (fun _ => h) (fun h2 => hk_if (fun _ => h) (fun _ => ?_)))
  have h1 := Decidable.not_not.mp h1
  have hf := (hb_okx (by omega) h1.1).1
  have hg := (hb_okx (by omega) h1.2).1
  have he : hs_V S (hb_ix f) 0 = hs_V S (hb_ix g) 0 := Decidable.not_not.mp (fun q => h2 (Or.inr q))
  have h3 : hv_ok (hs_sV S (hb_ix f) (va_up (va_up (va_up (hs_V S (hb_ix f)) 1 (hs_V S (hb_ix f) 1 + hs_V S (hb_ix g) 1)) 2 (hb_max (hs_V S (hb_ix f) 2) (hs_V S (hb_ix g) 2))) 3 (hs_V S (hb_ix f) 3 ||| hs_V S (hb_ix g) 3))) :=
    hv_sV h hf _ rfl (hv_al_or (h.V hf).2 (by rw [he]; exact (h.V hg).2))
  have hne : hb_ix g ≠ hb_ix f := fun q => h2 (Or.inl (by rw [(hb_okx (by omega) h1.1).2, (hb_okx (by omega) h1.2).2, q]))
  generalize va_up (va_up (va_up (hs_V S (hb_ix f)) 1 (hs_V S (hb_ix f) 1 + hs_V S (hb_ix g) 1)) 2 (hb_max (hs_V S (hb_ix f) 2) (hs_V S (hb_ix g) 2))) 3 (hs_V S (hb_ix f) 3 ||| hs_V S (hb_ix g) 3) = r at h3 ⊢
  have e : hs_V (hs_sV S (hb_ix f) r) (hb_ix g) = hs_V S (hb_ix g) := va_up_ne _ _ hne
  have h4 := hv_sV h3 (j := hb_ix g) hg (va_up (hs_V S (hb_ix g)) 1 0) (by rw [e]; rfl) (by
    have := (h3.V (j := hb_ix g) hg).2
    rw [e] at this ⊢
    exact this)
  exact h4
theorem hk_load {S : hs_S} (h : hv_ok S) (m p : Int32) : hv_ok (st_load S m p).2.2 := by
  have hnw := h.b.nw
  unfold st_load
  refine hk_if (fun _ => h) (fun h1 => hk_if (fun _ => h) (fun h2 => hk_if (fun _ => h) (fun _ => hk_if (fun _ => h) (fun _ => ?_))))
  have h1 := Decidable.not_not.mp h1
  have hp := (hb_okx (by omega) h1.2).1
  have h3 : hv_ok (hs_sM S (hb_ix m) (va_up (va_up (va_up (hs_M S (hb_ix m)) 0 (hs_V S (hb_ix p) 0)) 1 p) 2 (hs_V S (hb_ix p) 1))) := hv_sM h _ (Or.inr (Or.inr h1.2)) (Or.inr rfl)
  exact hv_sV h3 hp _ rfl (h3.V hp).2
theorem hv_gb {S : hs_S} (h : hv_ok S) {k : Nat} (hk : k < 2) (hn : ¬ hs_M S k 1 = -1) (x : Int32) : hv_ok (hs_gb S k x) := by
  have hnw := h.b.nw
  have hp := (hb_okx (by omega) (h.mp hk hn)).1
  have h3 : hv_ok (hs_sM S k (va_up (va_up (hs_M S k) 1 (-1)) 2 0)) := hv_sM h _ (Or.inl rfl) (Or.inr rfl)
  exact hv_sV h3 hp _ rfl (h3.V hp).2
theorem hk_unload {S : hs_S} (h : hv_ok S) (m : Int32) : hv_ok (st_unload S m).2.2 := by
  unfold st_unload
  refine hk_if (fun _ => h) (fun h1 => hk_if (fun _ => h) (fun h2 => ?_))
  exact hv_gb h (hb_okx (by decide) (Decidable.not_not.mp h1)).1 (fun q => h2 (Or.inl q)) _
theorem hv_start {S : hs_S} (h : hv_ok S) {k g : Nat} {w d : Int32} (hk : k < 2) (hg : g < hs_np S) (h0 : hs_P S g 0 = 0) (hh : ¬ hb_ht (hs_C S g) 8 = 0) (hw : hb_pw w) (hd : ¬ d < nI 1 ∧ d ≤ nI 20) (hm : ¬ hs_M S k 1 = -1) (r : Nat → Int32)
    (r0 : r 0 = nI 1) (r4 : r 4 = nI k) (r5 : r 5 = w) (r6 : r 6 = d) (r8 : r 8 = hs_V S (hb_ix (hs_M S k 1)) 3) (r9 : r 9 = hb_win (hs_V S (hb_ix (hs_M S k 1)) 0) w d) (hM : hs_M S k 3 = -1) : hv_ok (hs_sM (hs_sP S g r) k (va_up (hs_M S k) 3 (nI g))) := by
  have hnp := h.b.np
  have hnw := h.b.nw
  have hpw := (hb_okx (by omega) (h.mp hk hm)).1
  have hraw := h.raw (i := g) (by omega) h0
  generalize hS' : hs_sM (hs_sP S g r) k (va_up (hs_M S k) 3 (nI g)) = S'
  have pg : hs_P S' g = r := by rw [← hS']; exact va_up_self _ _ _
  have po : ∀ i, i ≠ g → hs_P S' i = hs_P S i := fun i hi => by rw [← hS']; exact va_up_ne _ _ hi
  have mk3 : hs_M S' k 3 = nI g := by rw [← hS']; show va_up (hs_M S) k _ k 3 = _; rw [va_up_self]; rfl
  have mk1 : ∀ k', hs_M S' k' 1 = hs_M S k' 1 := fun k' => by
    rw [← hS']
    show va_up (hs_M S) k _ k' 1 = _
    by_cases q : k' = k
    · subst q; rw [va_up_self]; rfl
    · rw [va_up_ne _ _ q]
  have mo : ∀ k', k' ≠ k → hs_M S' k' = hs_M S k' := fun k' q => by rw [← hS']; exact va_up_ne _ _ q
  have stg : hv_st S' g := by
    refine ⟨?_, ?_, ?_, hs_V S (hb_ix (hs_M S k 1)) 0, (h.V hpw).1, ?_, ?_⟩
    · rw [pg, r4]; exact hb_okN hk (by decide)
    · rw [pg, r5]; exact hw
    · rw [pg, r6]; exact hd
    · rw [pg, r9, r5, r6]
    · rw [pg, r8]
      have := (h.V hpw).2
      rw [← hS']; exact this
  have ng : ∀ k', k' < 2 → ¬ hs_M S k' 3 = -1 → ¬ hb_ix (hs_M S k' 3) = g := fun k' hk' hn => hv_nm h (by rw [h0]; decide) hk' hn
  have ixg : hb_ix (nI g) = g := hb_ixN (by omega)
  have kne : ∀ k', ¬ hs_M S k' 3 = -1 → k' ≠ k := fun k' hn q => hn (by rw [q]; exact hM)
  have enp : hs_np S' = hs_np S := by rw [← hS']; rfl
  have enw : hs_nw S' = hs_nw S := by rw [← hS']; rfl
  have eC : hs_C S' = hs_C S := by rw [← hS']; rfl
  have eD : hs_D S' = hs_D S := by rw [← hS']; rfl
  have eU : hs_U S' = hs_U S := by rw [← hS']; rfl
  have eW : hs_W S' = hs_W S := by rw [← hS']; rfl
  have eV : hs_V S' = hs_V S := by rw [← hS']; rfl
  have eN : hs_N S' = hs_N S := by rw [← hS']; rfl
  have eQ : hs_Q S' = hs_Q S := by rw [← hS']; rfl
  clear hS'
  have m3 : ∀ k', k' < 2 → ¬ hs_M S' k' 3 = -1 → k' = k ∨ (k' ≠ k ∧ ¬ hs_M S k' 3 = -1 ∧ hs_M S' k' 3 = hs_M S k' 3) := fun k' _ hn => by
    by_cases q : k' = k
    · exact Or.inl q
    · rw [mo k' q] at hn ⊢; exact Or.inr ⟨q, hn, rfl⟩
  refine ⟨⟨⟨by rw [enp]; exact hnp, by rw [enw]; exact hnw, fun k' hk' => by rw [eN]; exact h.b.N hk'⟩, fun k' hk' => ⟨by rw [mk1]; exact (h.b.2.1 k' hk').1, ?_⟩, fun i hi => ⟨?_, by rw [eD]; exact h.b.D hi, by rw [eW]; exact h.b.W hi, by rw [eU]; exact h.b.U hi⟩, fun k' hk' hn => ?_⟩, fun i hi hr => ?_, fun i hi hi2 => ?_, fun i hi hs => ?_, fun k' hk' hn => ?_, fun k' hk' hn => ?_, ?_, ?_, fun k' hk' => ?_, fun i hi => ?_⟩
  · by_cases q : hs_M S' k' 3 = -1
    · exact Or.inl q
    · rcases m3 k' hk' q with e | ⟨_, e2, e3⟩
      · subst e; rw [mk3]; exact Or.inr (hb_okN (by omega) (by decide))
      · rw [e3]; exact (h.b.2.1 k' hk').2
  · by_cases q : i = g
    · subst q; rw [pg, r4]; exact Or.inr (hb_okN hk (by decide))
    · rw [po i q]; exact (h.b.2.2.1 i hi).1
  · rcases m3 k' hk' hn with e | ⟨_, e2, e3⟩
    · subst e; rw [mk3, ixg, pg, r5, r6]
      exact ⟨hb_pw0 hw, hb_sp0 hd.1⟩
    · rw [e3, po _ (ng k' hk' e2)]; exact h.b.2.2.2 k' hk' e2
  · by_cases q : i = g
    · subst q; rw [pg, r0] at hr; exact absurd hr (by decide)
    · unfold hv_raw
      rw [po i q, eD, eU, eW]; exact h.raw hi (by rw [← po i q]; exact hr)
  · rw [enp] at hi
    rw [po i (by omega), eC]; exact h.new hi hi2
  · rw [enp] at hi
    by_cases q : i = g
    · subst q; exact stg
    · rw [po i q] at hs
      exact hv_st_mono (h.st hi hs) (by rw [enw]; exact Nat.le_refl _) (fun k _ => by rw [eV]) (fun f _ _ => by rw [po i q])
  · rcases m3 k' hk' hn with e | ⟨_, e2, e3⟩
    · subst e; rw [mk3, ixg, enp, pg, eD, eC, r0, r4, hraw.2.2.2.2.2.2.2.2.1]
      exact ⟨hb_okN hg (by omega), rfl, by omega, rfl⟩
    · rw [e3, po _ (ng k' hk' e2), enp, eD, eC]; exact h.mg hk' e2
  · rw [mk1] at hn ⊢
    rw [enw]; exact h.mp hk' hn
  · rw [enw, eV]; exact fun j a b => h.newV a b
  · intro j hj
    rw [enw] at hj
    rw [eV]
    exact ⟨(h.V hj).1, hv_al_mono (h.V hj).2 (by rw [enw]; exact Nat.le_refl _) (fun k _ => by rw [eV])⟩
  · rw [eN, eQ]
    refine ⟨fun m hm => ?_, (h.Q hk').2⟩
    obtain ⟨i, a1, a2, a3, a4⟩ := (h.Q hk').1 m hm
    have q : i ≠ g := fun q => a2 (by rw [q]; exact h0)
    exact ⟨i, by rw [enp]; exact a1, by rw [po i q]; exact a2, by rw [po i q]; exact a3, by rw [po i q]; exact a4⟩
  · rw [eU]
    refine ⟨(h.C hi).1, fun q => ?_⟩
    by_cases qi : i = g
    · subst qi; rw [hraw.2.2.2.2.2.2.2.2.2.1]; decide +kernel
    · rw [po i qi] at q; exact (h.C hi).2 q
theorem hk_start {S : hs_S} (h : hv_ok S) (m p w d : Int32) : hv_ok (st_start S m p w d).2.2 := by
  have hnp := h.b.np
  unfold st_start
  refine hk_if (fun _ => h) (fun h1 => hk_if (fun _ => h) (fun h2 => hk_if (fun _ => h) (fun h3 => ?_)))
  have h1 := Decidable.not_not.mp h1
  have h2 := Decidable.not_not.mp h2
  obtain ⟨hk, em⟩ := hb_okx (by decide) h1.1
  obtain ⟨hg, ep⟩ := hb_okx (by omega) h1.2
  have hs := hv_start h hk hg (Decidable.not_not.mp (fun q => h3 (Or.inl q))) (fun q => h3 (Or.inr (Or.inl q))) h2.1 h2.2 (fun q => h3 (Or.inr (Or.inr (Or.inr q)))) rfl em rfl rfl rfl rfl (Decidable.not_not.mp (fun q => h3 (Or.inr (Or.inr (Or.inl q))))) (r := va_up (va_up (va_up (va_up (va_up (va_up (va_up (hs_P S (hb_ix p)) 0 (nI 1)) 4 m) 5 w) 6 d) 7 (hs_V S (hb_ix (hs_M S (hb_ix m) 1)) 2)) 8 (hs_V S (hb_ix (hs_M S (hb_ix m) 1)) 3)) 9 (hb_win (hs_V S (hb_ix (hs_M S (hb_ix m) 1)) 0) w d))
  rw [← ep] at hs
  exact hs
/-- the piece in a machine changes, and the machine's row -/
theorem hv_step {S S' : hs_S} (h : hv_ok S) {k g : Nat} (hk : k < 2) (hn : ¬ hs_M S k 3 = -1) (hgx : hb_ix (hs_M S k 3) = g)
    (e1 : hs_np S' = hs_np S) (e2 : hs_nw S' = hs_nw S) (e3 : hs_V S' = hs_V S) (e5 : hs_N S' = hs_N S) (e6 : hs_Q S' = hs_Q S) (e7 : hs_C S' = hs_C S)
    (eo : ∀ i, i ≠ g → hs_P S' i = hs_P S i ∧ hs_D S' i = hs_D S i ∧ hs_U S' i = hs_U S i ∧ hs_W S' i = hs_W S i)
    (mo : ∀ k', k' ≠ k → hs_M S' k' = hs_M S k') (m1 : hs_M S' k 1 = hs_M S k 1)
    (g0 : ¬ hs_P S' g 0 = 0) (g4 : ∀ f, 4 ≤ f → f ≤ 9 → hs_P S' g f = hs_P S g f)
    (gD : hs_D S' g ≤ 8) (gW : ∀ p, hb_pz (hs_W S' g p)) (gU : hb_pz (hs_U S' g)) (gC : hv_c (hs_U S' g))
    (hm : (hs_M S' k 3 = -1 ∧ ¬ hs_P S' g 0 = nI 1) ∨ (hs_M S' k 3 = hs_M S k 3 ∧ hs_D S' g < hb_ht (hs_C S g) 8 ∧ hs_P S' g 0 = nI 1 ∧ hb_struck (hs_U S' g) = false)) : hv_ok S' := by
  have hnp := h.b.np
  obtain ⟨a1, a2, a3, a4⟩ := h.mg hk hn
  have hg := (hb_okx (by omega) a1).1
  rw [hgx] at hg a2 a3 a4
  have other : ∀ k', k' < 2 → ¬ hs_M S k' 3 = -1 → hb_ix (hs_M S k' 3) = g → k' = k := fun k' hk' hn' q => by
    have b4 := (h.mg hk' hn').2.2.2
    rw [q, a4] at b4
    exact ((nI_eq (by omega) (by omega)).mp b4).symm
  have hs : hv_ok (hs_sM S k (hs_M S' k)) := hv_sM h _ (Or.inr (Or.inl m1)) (hm.elim (fun q => Or.inl q.1) (fun q => Or.inr q.1))
  have mk : hs_M (hs_sM S k (hs_M S' k)) k = hs_M S' k := va_up_self _ _ _
  have mk' : ∀ k', k' ≠ k → hs_M (hs_sM S k (hs_M S' k)) k' = hs_M S k' := fun k' q => va_up_ne _ _ q
  refine hv_pc hs (g := g) hg (by show ¬ hs_P S g 0 = 0; rw [a2]; decide) e1 e2 e3 ?_ e5 e6 e7 eo g0 g4 gD gW gU ⟨gC, fun q => ?_⟩ (fun k' hk' hn' q => ?_)
  · funext k'
    by_cases q : k' = k
    · subst q; exact mk.symm
    · rw [mk' k' q]; exact mo k' q
  · rcases hm with ⟨_, b⟩ | ⟨_, _, _, b⟩
    · exact absurd q b
    · exact b
  · by_cases qk : k' = k
    · subst qk
      rw [mk] at hn' q
      rcases hm with ⟨b, _⟩ | ⟨_, b2, b3, _⟩
      · exact absurd b hn'
      · exact ⟨b3, b2⟩
    · rw [mk' k' qk] at hn' q
      exact absurd (other k' hk' hn' q) qk
/-- what the light leaves behind: L behind S, in piece g and machine k -/
def hv_lf (S L : hs_S) (g k : Nat) : Prop :=
  (∀ i, i ≠ g → hs_P L i = hs_P S i ∧ hs_D L i = hs_D S i ∧ hs_U L i = hs_U S i ∧ hs_W L i = hs_W S i) ∧ (∀ f, f ≠ 1 → f ≠ 2 → hs_P L g f = hs_P S g f) ∧ hs_D L g = hs_D S g + 1 ∧ (hb_pz (hs_U L g) ∧ hv_c (hs_U L g)) ∧ (∀ p, hb_pz (hs_W L g p)) ∧
  (∀ k', k' ≠ k → hs_M L k' = hs_M S k') ∧ (hs_M L k 1 = hs_M S k 1 ∧ hs_M L k 3 = hs_M S k 3) ∧ hs_np L = hs_np S ∧ hs_nw L = hs_nw S ∧ hs_V L = hs_V S ∧ hs_N L = hs_N S ∧ hs_Q L = hs_Q S ∧ hs_C L = hs_C S
theorem hv_lf_G {S L : hs_S} {g k : Nat} (h : hv_lf S L g k) (G : Nat → Int32) : hv_lf S (hs_sG L G) g k := h
theorem hv_out {S L : hs_S} (h : hv_ok S) {k g : Nat} (hk : k < 2) (hn : ¬ hs_M S k 3 = -1) (hgx : hb_ix (hs_M S k 3) = g) (hD : hs_D S g < 8) (hl : hv_lf S L g k) (x : Int32) (x0 : ¬ x = 0) (x1 : ¬ x = nI 1) : hv_ok (hs_sM (hs_sP L g (va_up (hs_P L g) 0 x)) k (va_up (hs_M L k) 3 (-1))) := by
  obtain ⟨l1, l2, l3, l4, l5, l6, l7, k1, k2, k3, k5, k6, k7⟩ := hl
  have q1 : hs_P (hs_sM (hs_sP L g (va_up (hs_P L g) 0 x)) k (va_up (hs_M L k) 3 (-1))) g = va_up (hs_P L g) 0 x := va_up_self _ _ _
  have q2 : hs_M (hs_sM (hs_sP L g (va_up (hs_P L g) 0 x)) k (va_up (hs_M L k) 3 (-1))) k = va_up (hs_M L k) 3 (-1) := va_up_self _ _ _
  refine hv_step (S' := hs_sM (hs_sP L g (va_up (hs_P L g) 0 x)) k (va_up (hs_M L k) 3 (-1))) h hk hn hgx k1 k2 k3 k5 k6 k7 (fun i hi => ⟨(va_up_ne _ _ hi).trans (l1 i hi).1, (l1 i hi).2⟩) (fun k' q => (va_up_ne _ _ q).trans (l6 k' q)) ?_ ?_ (fun f f1 f2 => ?_) (by show hs_D L g ≤ 8; omega) l5 l4.1 l4.2 (Or.inl ⟨?_, ?_⟩)
  · rw [q2, va_up_ne _ _ (by decide)]; exact l7.1
  · rw [q1, va_up_self]; exact x0
  · rw [q1, va_up_ne _ _ (by omega)]; exact l2 f (by omega) (by omega)
  · rw [q2]; exact va_up_self _ _ _
  · rw [q1, va_up_self]; exact x1
theorem hv_outG {S L : hs_S} (h : hv_ok S) {k g : Nat} (hk : k < 2) (hn : ¬ hs_M S k 3 = -1) (hgx : hb_ix (hs_M S k 3) = g) (hD : hs_D S g < 8) (hl : hv_lf S L g k) (x : Int32) (x0 : ¬ x = 0) (x1 : ¬ x = nI 1) (G : Nat → Int32) : hv_ok (hs_sM (hs_sP (hs_sG L G) g (va_up (hs_P L g) 0 x)) k (va_up (hs_M L k) 3 (-1))) := by
  have := hv_out h hk hn hgx hD (hv_lf_G hl G) x x0 x1
  rw [show hs_P (hs_sG L G) = hs_P L from rfl, show hs_M (hs_sG L G) = hs_M L from rfl] at this
  exact this
theorem hv_inn {S L : hs_S} (h : hv_ok S) {k g : Nat} (hk : k < 2) (hn : ¬ hs_M S k 3 = -1) (hgx : hb_ix (hs_M S k 3) = g) (hP : hs_P S g 0 = nI 1) (hl : hv_lf S L g k) (hs : ¬ hb_struck (hs_U L g) = true) (hd : ¬ hb_ht (hs_C S g) 8 ≤ hs_D L g) : hv_ok L := by
  obtain ⟨l1, l2, l3, l4, l5, l6, l7, k1, k2, k3, k5, k6, k7⟩ := hl
  have hht := hb_ht_le (hs_C S g) 8
  exact hv_step h hk hn hgx k1 k2 k3 k5 k6 k7 l1 l6 l7.1 (by rw [l2 0 (by decide) (by decide), hP]; decide) (fun f f1 f2 => l2 f (by omega) (by omega)) (by omega) l5 l4.1 l4.2 (Or.inr ⟨l7.2, by omega, by rw [l2 0 (by decide) (by decide)]; exact hP, Bool.eq_false_iff.mpr hs⟩)
theorem hv_lit {S : hs_S} (h : hv_ok S) {k g : Nat} (hk : k < 2) (hn : ¬ hs_M S k 3 = -1) (hgx : hb_ix (hs_M S k 3) = g) (x : Int32) : hv_lf S (hs_lit (hs_sM S k (va_up (hs_M S k) 2 x)) g) g k := by
  have hnp := h.b.np
  obtain ⟨a1, a2, a3, a4⟩ := h.mg hk hn
  have hg := (hb_okx (by omega) a1).1
  have hen := hb_en_pz (h.b.2.2.2 k hk hn).1 (h.b.2.2.2 k hk hn).2
  rw [hgx] at hg a2 a3 a4 hen
  have hC := h.C (i := g) (by omega)
  have hpc : hb_pc (hb_hang (hs_C S g) (hs_D S g)) ≤ 64 := hb_pc_le _
  have hU := hv_cu (h.b.U (i := g) (by omega)) (hC.2 a2) hpc
  have hUz := hb_cu_pz (h.b.U (i := g) (by omega)) (n := hb_pc (hb_hang (hs_C S g) (hs_D S g))) (by omega)
  have W' : ∀ p, hb_pz (hb_wf (hs_C S g (hs_D S g)) (hb_en (hs_P S g 5) (hs_P S g 6)) (hs_W S g) p) := hb_wf_pz hen (h.b.W (by omega))
  generalize hmm : va_up (hs_M S k) 2 x = mm
  have mm1 : mm 1 = hs_M S k 1 := by rw [← hmm]; exact va_up_ne _ _ (by decide)
  have mm3 : mm 3 = hs_M S k 3 := by rw [← hmm]; exact va_up_ne _ _ (by decide)
  clear hmm
  have l7 : hs_M (hs_lit (hs_sM S k mm) g) k = mm := va_up_self _ _ _
  have l4 : hs_U (hs_lit (hs_sM S k mm) g) g = hb_cu (hs_U S g) (hb_pc (hb_hang (hs_C S g) (hs_D S g))) := va_up_self _ _ _
  have l5 : hs_W (hs_lit (hs_sM S k mm) g) g = hb_wf (hs_C S g (hs_D S g)) (hb_en (hs_P S g 5) (hs_P S g 6)) (hs_W S g) := va_up_self _ _ _
  refine ⟨fun i hi => ⟨va_up_ne _ _ hi, va_up_ne _ _ hi, va_up_ne _ _ hi, va_up_ne _ _ hi⟩, fun f f1 f2 => ?_, va_up_self _ _ _, by rw [l4]; exact ⟨hUz, hU⟩, by rw [l5]; exact W', fun k' q => va_up_ne _ _ q, by rw [l7]; exact ⟨mm1, mm3⟩, rfl, rfl, rfl, rfl, rfl, rfl⟩
  show va_up (hs_P S) g (va_up (va_up (hs_P S g) 1 _) 2 _) g f = _
  rw [va_up_self, va_up_ne _ _ f2, va_up_ne _ _ f1]
/-- a layer grown -/
theorem hv_g1 {S : hs_S} (h : hv_ok S) {k : Nat} (hk : k < 2) (hc : hs_can S k) : hv_ok (hs_g1 S k) := by
  obtain ⟨hn, hD, _⟩ := hc
  have a2 := (h.mg hk hn).2.1
  have hht := hb_ht_le (hs_C S (hb_ix (hs_M S k 3))) 8
  have hl := hv_lit h hk hn rfl (hs_M S k 2 - hs_need S (hb_ix (hs_M S k 3)))
  unfold hs_g1
  dsimp only
  generalize hgx : hb_ix (hs_M S k 3) = g at *
  generalize hs_lit (hs_sM S k (va_up (hs_M S k) 2 (hs_M S k 2 - hs_need S g))) g = L at *
  have hl := hv_lf_G hl (va_up (hs_G S) 1 (hs_G S 1 + nI 1))
  generalize hs_sG L (va_up (hs_G S) 1 (hs_G S 1 + nI 1)) = A at *
  split
  · exact hv_outG h hk hn hgx (by omega) hl (nI 6) (by decide) (by decide) _
  · rename_i hs
    split
    · exact hv_out h hk hn hgx (by omega) hl (nI 2) (by decide) (by decide)
    · rename_i hd
      exact hv_inn h hk hn hgx a2 hl hs hd
theorem hv_gr {k : Nat} (hk : k < 2) : ∀ (n : Nat) {S : hs_S}, hv_ok S → hv_ok (hs_gr k n S).2
  | 0, _, h => h
  | n + 1, S, h => by
    unfold hs_gr
    split
    · rename_i hc
      exact hv_gr hk n (hv_g1 h hk hc)
    · exact h
theorem hk_grow {S : hs_S} (h : hv_ok S) (m n : Int32) : hv_ok (st_grow S m n).2.2 := by
  unfold st_grow
  refine hk_if (fun _ => h) (fun h1 => hk_if (fun _ => h) (fun _ => hk_if (fun _ => h) (fun _ => ?_)))
  exact hv_gr (hb_okx (by decide) (Decidable.not_not.mp h1)).1 _ h
theorem hv_0 : hv_ok hs_0 := by
  refine ⟨⟨⟨by decide, by decide, fun k _ => by show 0 ≤ 4; decide⟩, fun k _ => ⟨Or.inl rfl, Or.inl rfl⟩, fun i _ => ⟨Or.inl rfl, by show 0 ≤ 8; decide, fun _ => hf_zero, hf_zero⟩, fun k _ hn => absurd rfl hn⟩, fun i _ _ => ⟨rfl, rfl, rfl, rfl, rfl, rfl, rfl, rfl, rfl, rfl, rfl⟩, fun i _ _ => ⟨rfl, rfl, rfl⟩, fun i hi => absurd hi (Nat.not_lt_zero _), fun k _ hn => absurd rfl hn, fun k _ hn => absurd rfl hn, fun j _ _ => ⟨rfl, rfl, rfl⟩, fun j hj => absurd hj (Nat.not_lt_zero _), fun k _ => ⟨fun m hm => absurd hm (Nat.not_lt_zero _), fun m m' hm => absurd hm (Nat.not_lt_zero _)⟩, fun i _ => ⟨?_, fun q => absurd q (by show ¬ (0 : Int32) = nI 1; decide)⟩⟩
  show (0 : UInt64) ≤ _
  decide
