/-! A piece's growth to its end, none being short. -/
theorem nI_m {n : Nat} (h : n < 2 ^ 31) : ¬ nI n = -1 := fun q => absurd (nI_pos' h) (by rw [q]; decide)
theorem nI_z : (0 : Int32) = nI 0 := by decide
/-- what growing piece g in machine k leaves as it was -/
def lg_s (S0 S : hs_S) (k g : Nat) : Prop :=
  (hs_np S = hs_np S0 ∧ hs_nw S = hs_nw S0 ∧ hs_V S = hs_V S0 ∧ hs_C S = hs_C S0) ∧ (∀ i, i ≠ g → hs_P S i = hs_P S0 i) ∧ (∀ i, i ≠ k → hs_M S i = hs_M S0 i) ∧ (hs_M S k 0 = hs_M S0 k 0 ∧ hs_M S k 1 = hs_M S0 k 1) ∧ ∀ f, 3 ≤ f → hs_P S g f = hs_P S0 g f
theorem lg_s.r (S : hs_S) (k g : Nat) : lg_s S S k g := ⟨⟨rfl, rfl, rfl, rfl⟩, fun _ _ => rfl, fun _ _ => rfl, ⟨rfl, rfl⟩, fun _ _ => rfl⟩
theorem lg_s.t {S0 S1 S2 : hs_S} {k g : Nat} (h : lg_s S0 S1 k g) (h' : lg_s S1 S2 k g) : lg_s S0 S2 k g := by
  obtain ⟨⟨a1, a2, a3, a4⟩, a5, a6, ⟨a7, a8⟩, a9⟩ := h
  obtain ⟨⟨b1, b2, b3, b4⟩, b5, b6, ⟨b7, b8⟩, b9⟩ := h'
  exact ⟨⟨b1.trans a1, b2.trans a2, b3.trans a3, b4.trans a4⟩, fun i hi => (b5 i hi).trans (a5 i hi), fun i hi => (b6 i hi).trans (a6 i hi), ⟨b7.trans a7, b8.trans a8⟩, fun f hf => (b9 f hf).trans (a9 f hf)⟩
/-- piece g grows in machine k by the energy e, j layers of it are done, L grams are left -/
def lg_d (S : hs_S) (k g : Nat) (C : Nat → Int64) (e : UInt64) (j L : Nat) : Prop :=
  hs_M S k 3 = nI g ∧ hs_D S g = j ∧ hs_P S g 1 = nI (hb_tl C e j) ∧ hs_P S g 2 = nI (hb_th C e j) ∧ hs_W S g = hb_tw C e j ∧ hs_M S k 2 = nI L ∧ hs_C S g = C ∧ hb_en (hs_P S g 5) (hs_P S g 6) = e
/-- it is done -/
def lg_f (S : hs_S) (k g : Nat) (C : Nat → Int64) (e : UInt64) : Prop :=
  hs_M S k 3 = -1 ∧ (hs_P S g 0 = nI 2 → hs_P S g 1 = nI (hb_tl C e (hb_ht C 8)) ∧ hs_P S g 2 = nI (hb_th C e (hb_ht C 8)))
theorem lg_stop {S : hs_S} {k : Nat} (h : hs_M S k 3 = -1) : ∀ n, (hs_gr k n S).2 = S
  | 0 => rfl
  | n + 1 => by
    show (if hs_can S k then _ else ((0, S) : Nat × hs_S)).2 = S
    rw [if_neg (fun q => q.1 h)]
def lg_A (S : hs_S) (k g : Nat) : hs_S := hs_sG (hs_lit (hs_sM S k (va_up (hs_M S k) 2 (hs_M S k 2 - hs_need S g))) g) (va_up (hs_G S) 1 (hs_G S 1 + nI 1))
theorem lg_g1 {S : hs_S} {k g : Nat} (eg : hb_ix (hs_M S k 3) = g) : hs_g1 S k =
    if hb_struck (hs_U (lg_A S k g) g) then hs_sM (hs_sP (hs_sG (lg_A S k g) (va_up (hs_G (lg_A S k g)) 0 (hs_G (lg_A S k g) 0 + nI 1))) g (va_up (hs_P (lg_A S k g) g) 0 (nI 6))) k (va_up (hs_M (lg_A S k g) k) 3 (-1))
    else if hb_ht (hs_C S g) 8 ≤ hs_D (lg_A S k g) g then hs_sM (hs_sP (lg_A S k g) g (va_up (hs_P (lg_A S k g) g) 0 (nI 2))) k (va_up (hs_M (lg_A S k g) k) 3 (-1))
    else lg_A S k g := by subst eg; rfl
theorem lg_AM (S : hs_S) (k g : Nat) : hs_M (lg_A S k g) = va_up (hs_M S) k (va_up (hs_M S k) 2 (hs_M S k 2 - hs_need S g)) := rfl
theorem lg_AD (S : hs_S) (k g : Nat) : hs_D (lg_A S k g) = va_up (hs_D S) g (hs_D S g + 1) := rfl
theorem lg_AW (S : hs_S) (k g : Nat) : hs_W (lg_A S k g) = va_up (hs_W S) g (hb_wf (hs_C S g (hs_D S g)) (hb_en (hs_P S g 5) (hs_P S g 6)) (hs_W S g)) := rfl
theorem lg_AP (S : hs_S) (k g : Nat) : hs_P (lg_A S k g) = va_up (hs_P S) g (va_up (va_up (hs_P S g) 1 (hs_P S g 1 + nI (hb_ct (hb_lp (hs_C S g (hs_D S g)) (hb_hang (hs_C S g) (hs_D S g)) (hb_en (hs_P S g 5) (hs_P S g 6)) (hs_W S g)) 64))) 2 (hs_P S g 2 + nI (hb_ct (hb_hp (hs_C S g (hs_D S g)) (hb_hang (hs_C S g) (hs_D S g)) (hb_en (hs_P S g 5) (hs_P S g 6)) (hs_W S g)) 64))) := rfl
theorem lg_As (S : hs_S) (k g : Nat) : lg_s S (lg_A S k g) k g := by
  refine ⟨⟨rfl, rfl, rfl, rfl⟩, fun i hi => ?_, fun i hi => ?_, ⟨?_, ?_⟩, fun f hf => ?_⟩
  · rw [lg_AP, va_up_ne _ _ hi]
  · rw [lg_AM, va_up_ne _ _ hi]
  · rw [lg_AM, va_up_self, va_up_ne _ _ (by decide)]
  · rw [lg_AM, va_up_self, va_up_ne _ _ (by decide)]
  · rw [lg_AP, va_up_self, va_up_ne _ _ (by omega), va_up_ne _ _ (by omega)]
/-- the end of a piece -/
theorem lg_e {S B : hs_S} {k g : Nat} (h : lg_s S B k g) (x : Int32) : lg_s S (hs_sM (hs_sP B g (va_up (hs_P B g) 0 x)) k (va_up (hs_M B k) 3 (-1))) k g := by
  refine h.t ⟨⟨rfl, rfl, rfl, rfl⟩, fun i hi => ?_, fun i hi => ?_, ⟨?_, ?_⟩, fun f hf => ?_⟩
  · show va_up (hs_P B) g _ i = _; rw [va_up_ne _ _ hi]
  · show va_up (hs_M B) k _ i = _; rw [va_up_ne _ _ hi]
  · show va_up (hs_M B) k _ k 0 = _; rw [va_up_self, va_up_ne _ _ (by decide)]
  · show va_up (hs_M B) k _ k 1 = _; rw [va_up_self, va_up_ne _ _ (by decide)]
  · show va_up (hs_P B) g _ g f = _; rw [va_up_self, va_up_ne _ _ (by omega)]
theorem lg_e3 (B : hs_S) (k g : Nat) (x : Int32) : hs_M (hs_sM (hs_sP B g (va_up (hs_P B g) 0 x)) k (va_up (hs_M B k) 3 (-1))) k 3 = -1 := by
  show va_up (hs_M B) k _ k 3 = _; rw [va_up_self, va_up_self]
theorem lg_e2 (B : hs_S) (k g : Nat) (x : Int32) : hs_M (hs_sM (hs_sP B g (va_up (hs_P B g) 0 x)) k (va_up (hs_M B k) 3 (-1))) k 2 = hs_M B k 2 := by
  show va_up (hs_M B) k _ k 2 = _; rw [va_up_self, va_up_ne _ _ (by decide)]
theorem lg_eP (B : hs_S) (k g f : Nat) (x : Int32) (hf : f ≠ 0) : hs_P (hs_sM (hs_sP B g (va_up (hs_P B g) 0 x)) k (va_up (hs_M B k) 3 (-1))) g f = hs_P B g f := by
  show va_up (hs_P B) g _ g f = _; rw [va_up_self, va_up_ne _ _ hf]
theorem lg_e0 (B : hs_S) (k g : Nat) (x : Int32) : hs_P (hs_sM (hs_sP B g (va_up (hs_P B g) 0 x)) k (va_up (hs_M B k) 3 (-1))) g 0 = x := by
  show va_up (hs_P B) g _ g 0 = _; rw [va_up_self, va_up_self]
theorem lg_sG {S B : hs_S} {k g : Nat} (h : lg_s S B k g) (r : Nat → Int32) : lg_s S (hs_sG B r) k g := by
  obtain ⟨⟨a1, a2, a3, a4⟩, a5, a6, ⟨a7, a8⟩, a9⟩ := h
  exact ⟨⟨a1, a2, a3, a4⟩, a5, a6, ⟨a7, a8⟩, a9⟩
/-- the end of a piece that is struck -/
theorem lg_6 {S B : hs_S} {k g : Nat} {C : Nat → Int64} {e : UInt64} {L1 : Nat} (h : lg_s S B k g) (h2 : hs_M B k 2 = nI L1) (r : Nat → Int32) : lg_s S (hs_sM (hs_sP (hs_sG B r) g (va_up (hs_P B g) 0 (nI 6))) k (va_up (hs_M B k) 3 (-1))) k g ∧ lg_f (hs_sM (hs_sP (hs_sG B r) g (va_up (hs_P B g) 0 (nI 6))) k (va_up (hs_M B k) 3 (-1))) k g C e ∧ hs_M (hs_sM (hs_sP (hs_sG B r) g (va_up (hs_P B g) 0 (nI 6))) k (va_up (hs_M B k) 3 (-1))) k 2 = nI L1 := by
  have h6 := lg_sG h r
  have e1 : hs_P (hs_sG B r) = hs_P B := rfl
  have e2 : hs_M (hs_sG B r) = hs_M B := rfl
  generalize hs_sG B r = D at h6 e1 e2 ⊢
  rw [← e1, ← e2]
  rw [← e2] at h2
  refine ⟨lg_e h6 (nI 6), ⟨lg_e3 D k g _, fun h0 => ?_⟩, (lg_e2 D k g _).trans h2⟩
  exact absurd ((lg_e0 D k g (nI 6)).symm.trans h0) (by decide)
theorem lg_step {S : hs_S} {k g : Nat} {C : Nat → Int64} {e : UInt64} {j L : Nat} (hg : g < 4) (h : lg_d S k g C e j L) (hj : j < hb_ht C 8) (hL : 128 ≤ L) (hL2 : L < 2 ^ 20) :
    hs_can S k ∧ ∃ L1, L ≤ L1 + 128 ∧ L1 ≤ L ∧ lg_s S (hs_g1 S k) k g ∧ ((lg_d (hs_g1 S k) k g C e (j + 1) L1 ∧ j + 1 < hb_ht C 8) ∨ (lg_f (hs_g1 S k) k g C e ∧ hs_M (hs_g1 S k) k 2 = nI L1)) := by
  obtain ⟨h3, rfl, hl, hh, hW, h2, rfl, rfl⟩ := h
  have eg : hb_ix (hs_M S k 3) = g := by rw [h3, hb_ixN (by omega)]
  have p1 := hb_pc_le (hs_C S g (hs_D S g))
  have p2 := hb_pc_le (hb_supp (hs_C S g) (hs_D S g))
  obtain ⟨a, ha⟩ : ∃ a, a = hb_pc (hs_C S g (hs_D S g)) + hb_pc (hb_supp (hs_C S g) (hs_D S g)) := ⟨_, rfl⟩
  have hn : hs_need S g = nI a := by rw [ha]; rfl
  have hsub : nI L - nI a = nI (L - a) := pk_sub (by omega)
  have hA2 : hs_M (lg_A S k g) k 2 = nI (L - a) := by rw [lg_AM, va_up_self, va_up_self, hn, h2, hsub]
  have hA3 : hs_M (lg_A S k g) k 3 = nI g := by rw [lg_AM, va_up_self, va_up_ne _ _ (by decide), h3]
  have hAD : hs_D (lg_A S k g) g = hs_D S g + 1 := by rw [lg_AD, va_up_self]
  have hA1 : hs_P (lg_A S k g) g 1 = nI (hb_tl (hs_C S g) (hb_en (hs_P S g 5) (hs_P S g 6)) (hs_D S g + 1)) := by
    rw [lg_AP, va_up_self, va_up_ne _ _ (by decide), va_up_self, hl, hW, nI_add]; rfl
  have hAh : hs_P (lg_A S k g) g 2 = nI (hb_th (hs_C S g) (hb_en (hs_P S g 5) (hs_P S g 6)) (hs_D S g + 1)) := by
    rw [lg_AP, va_up_self, va_up_self, hh, hW, nI_add]; rfl
  have hAW : hs_W (lg_A S k g) g = hb_tw (hs_C S g) (hb_en (hs_P S g 5) (hs_P S g 6)) (hs_D S g + 1) := by
    rw [lg_AW, va_up_self, hW]; rfl
  have hAe : hb_en (hs_P (lg_A S k g) g 5) (hs_P (lg_A S k g) g 6) = hb_en (hs_P S g 5) (hs_P S g 6) := by
    rw [(lg_As S k g).2.2.2.2 5 (by decide), (lg_As S k g).2.2.2.2 6 (by decide)]
  refine ⟨⟨by rw [h3]; exact nI_m (by omega), by rw [eg]; omega, by rw [eg, hn, h2]; exact nI_nlt (by omega) (by omega)⟩, L - a, by omega, by omega, ?_⟩
  rw [lg_g1 eg]
  by_cases q : hb_struck (hs_U (lg_A S k g) g) = true
  · rw [if_pos q]
    obtain ⟨g1, g2, g3⟩ := lg_6 (C := hs_C S g) (e := hb_en (hs_P S g 5) (hs_P S g 6)) (lg_As S k g) hA2 (va_up (hs_G (lg_A S k g)) 0 (hs_G (lg_A S k g) 0 + nI 1))
    exact ⟨g1, Or.inr ⟨g2, g3⟩⟩
  · rw [if_neg q]
    by_cases q2 : hb_ht (hs_C S g) 8 ≤ hs_D (lg_A S k g) g
    · rw [if_pos q2]
      have e9 : hb_ht (hs_C S g) 8 = hs_D S g + 1 := by rw [hAD] at q2; omega
      refine ⟨lg_e (lg_As S k g) (nI 2), Or.inr ⟨⟨lg_e3 _ k g _, fun _ => ⟨?_, ?_⟩⟩, (lg_e2 _ k g _).trans hA2⟩⟩
      · rw [lg_eP _ _ _ _ _ (by decide), hA1, e9]
      · rw [lg_eP _ _ _ _ _ (by decide), hAh, e9]
    · rw [if_neg q2]
      exact ⟨lg_As S k g, Or.inl ⟨⟨hA3, hAD, hA1, hAh, hAW, hA2, rfl, hAe⟩, by rw [hAD] at q2; omega⟩⟩
theorem lg_run {k g : Nat} {C : Nat → Int64} {e : UInt64} (hg : g < 4) : ∀ (n : Nat) (S : hs_S) (j L : Nat), lg_d S k g C e j L → j < hb_ht C 8 → hb_ht C 8 ≤ j + n → 128 * (hb_ht C 8 - j) ≤ L → L < 2 ^ 20 →
    lg_s S (hs_gr k n S).2 k g ∧ lg_f (hs_gr k n S).2 k g C e ∧ ∃ L', L ≤ L' + 128 * (hb_ht C 8 - j) ∧ L' ≤ L ∧ hs_M (hs_gr k n S).2 k 2 = nI L' := by
  intro n
  induction n with
  | zero => intro S j L _ h1 h2; omega
  | succ n ih =>
    intro S j L h h1 h2 h3 h4
    obtain ⟨hc, L1, g1, g2, g3, g4⟩ := lg_step hg h h1 (by omega) h4
    have e1 : (hs_gr k (n + 1) S).2 = (hs_gr k n (hs_g1 S k)).2 := by
      show (if hs_can S k then ((hs_gr k n (hs_g1 S k)).1 + 1, (hs_gr k n (hs_g1 S k)).2) else ((0, S) : Nat × hs_S)).2 = _
      rw [if_pos hc]
    rw [e1]
    rcases g4 with ⟨hd, hj⟩ | ⟨hf, hm⟩
    · obtain ⟨r1, r2, L', r3, r4, r5⟩ := ih (hs_g1 S k) (j + 1) L1 hd hj (by omega) (by omega) (by omega)
      exact ⟨g3.t r1, r2, L', by omega, by omega, r5⟩
    · rw [lg_stop hf.1 n]
      exact ⟨g3, hf, L1, by omega, g2, hm⟩
