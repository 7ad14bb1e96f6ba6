/-! The told hall: its object, its solid's places, beside a hall at S; a layer's places against a set. -/
def lt_o (Z : hw_Z) (M : hw_M) (ad : hp_ad) (S : hs_S) (t so bo d : Nat) (v4 v5 v6 v7 v8 v9 v10 : Value) (g : Nat → Int32) : Prop :=
  M t = hw_ob 0 [.ref (ad 0 0), .ref Z.2.2.2, .int (nI d), .ref so, v4, v5, v6, v7, v8, v9, v10] ∧ (∃ f : Nat → Option Nat, M so = hw_ar Z 7 1 f ∧ f 0 = some bo) ∧ M bo = hw_az Z 512 g ∧ lh Z M ad S ∧ hq_b ad t ∧ hq_b ad so ∧ hq_b ad bo
theorem lt_d {Z : hw_Z} {M : hw_M} {ad : hp_ad} {S : hs_S} {t so bo d d' : Nat} {v4 v5 v6 v7 v8 v9 v10 : Value} {g : Nat → Int32} (h : lt_o Z M ad S t so bo d v4 v5 v6 v7 v8 v9 v10 g) : lt_o Z (va_up M t (hw_ob 0 [.ref (ad 0 0), .ref Z.2.2.2, .int (nI d'), .ref so, v4, v5, v6, v7, v8, v9, v10])) ad S t so bo d' v4 v5 v6 v7 v8 v9 v10 g := by
  obtain ⟨h1, ⟨f, h2, h3⟩, h4, h5, h6, h7, h8⟩ := h
  exact ⟨va_up_self _ _ _, ⟨f, (va_up_ne _ _ (Ne.symm (hw_noa h1 h2))).trans h2, h3⟩, (va_up_ne _ _ (Ne.symm (hw_noa h1 h4))).trans h4, lp_w h5 h6, h6, h7, h8⟩
theorem lt_z {Z : hw_Z} {M : hw_M} {ad : hp_ad} {S : hs_S} {t so bo d : Nat} {v4 v5 v6 v7 v8 v9 v10 : Value} {g g' : Nat → Int32} (h : lt_o Z M ad S t so bo d v4 v5 v6 v7 v8 v9 v10 g) : lt_o Z (va_up M bo (hw_az Z 512 g')) ad S t so bo d v4 v5 v6 v7 v8 v9 v10 g' := by
  obtain ⟨h1, ⟨f, h2, h3⟩, h4, h5, h6, h7, h8⟩ := h
  have n2 : so ≠ bo := hw_naa h2 h4 (by intro q; cases q)
  exact ⟨(va_up_ne _ _ (hw_noa h1 h4)).trans h1, ⟨f, (va_up_ne _ _ n2).trans h2, h3⟩, va_up_self _ _ _, lp_w h5 h8, h6, h7, h8⟩
theorem lt_c {Z : hw_Z} {M M' : hw_M} {ad : hp_ad} {S S' : hs_S} {t so bo d : Nat} {v4 v5 v6 v7 v8 v9 v10 : Value} {g : Nat → Int32} (h : lt_o Z M ad S t so bo d v4 v5 v6 v7 v8 v9 v10 g) (hS : lh Z M' ad S') (hF : ∀ a, hq_b ad a → M' a = M a) : lt_o Z M' ad S' t so bo d v4 v5 v6 v7 v8 v9 v10 g := by
  obtain ⟨h1, ⟨f, h2, h3⟩, h4, h5, h6, h7, h8⟩ := h
  exact ⟨(hF t h6).trans h1, ⟨f, (hF so h7).trans h2, h3⟩, (hF bo h8).trans h4, hS, h6, h7, h8⟩
/-- a layer's places against a set -/
def lr_b (z : Nat) (x : Int64) (g : Nat → Int32) : Prop := ∀ c, c < 64 → g (64 * z + c) = nI (hb_bit x c).toNat
theorem lr_0 {z : Nat} {g : Nat → Int32} (h : ∀ c, c < 64 → g (64 * z + c) = nI 0) : lr_b z 0 g := fun c hc => by rw [h c hc, hx_0]; rfl
theorem lr_s {z i : Nat} {x : Int64} {g : Nat → Int32} (hi : i < 64) (h : lr_b z x g) : lr_b z (x ||| hb_shl 1 (nI i)) (va_up g (64 * z + i) (nI 1)) := fun c hc => by
  rw [hx_or, hx_bitw hi]
  by_cases q : c = i
  · subst q; rw [va_up_self, decide_eq_true rfl, Bool.or_true]; rfl
  · rw [va_up_ne _ _ (by omega), h c hc, decide_eq_false q, Bool.or_false]
theorem lr_n {i : Nat} {x : Int64} (hi : i < 64) : ¬ (x ||| hb_shl 1 (nI i)) = 0 := fun q => by
  have h := hx_z.mp q i hi
  rw [hx_or, hx_bitw hi, decide_eq_true rfl, Bool.or_true] at h
  cases h
theorem lr_t {z c : Nat} {x : Int64} {g : Nat → Int32} (h : lr_b z x g) (hc : c < 64) (hg : g (64 * z + c) = 0) : hb_ct (hb_bit x) (c + 1) = hb_ct (hb_bit x) c + 0 := by
  show hb_ct (hb_bit x) c + (hb_bit x c).toNat = _
  rw [h c hc] at hg
  cases hb : hb_bit x c with
  | false => rfl
  | true => rw [hb] at hg; exact absurd hg (by decide)
theorem lr_f {z c : Nat} {x : Int64} {g : Nat → Int32} (h : lr_b z x g) (hc : c < 64) (hg : ¬ g (64 * z + c) = 0) : hb_ct (hb_bit x) (c + 1) = hb_ct (hb_bit x) c + 1 := by
  show hb_ct (hb_bit x) c + (hb_bit x c).toNat = _
  rw [h c hc] at hg
  cases hb : hb_bit x c with
  | true => rfl
  | false => rw [hb] at hg; exact absurd (by decide) hg
theorem lq_t {x : Int64} {v : Nat} (hv : v < 64) (h : lg_cmp (hb_ushr x (nI v) &&& 1) 1 = 0) : hb_ct (hb_bit x) (v + 1) = hb_ct (hb_bit x) v + 1 := by
  show hb_ct (hb_bit x) v + (hb_bit x v).toNat = _
  rw [(hb_has1 x hv).mp (hw_cn h)]; rfl
theorem lq_f {x : Int64} {v : Nat} (hv : v < 64) (h : ¬ lg_cmp (hb_ushr x (nI v) &&& 1) 1 = 0) : hb_ct (hb_bit x) (v + 1) = hb_ct (hb_bit x) v + 0 := by
  show hb_ct (hb_bit x) v + (hb_bit x v).toNat = _
  cases hb : hb_bit x v with
  | false => rfl
  | true => exact absurd ((lg_cmp_eq _ _).mpr ((hb_has1 x hv).mpr hb)) h
theorem ls_layer {S : hs_S} {p z : Nat} {x : Int64} (hp : p < hs_np S) (h4 : hs_np S ≤ 4) (hz : z < 8) (h0 : hs_P S p 0 = 0) : st_layer S (nI p) (nI z) x = (0, nI (hb_pc x), hs_sC S p (va_up (hs_C S p) z x)) := by
  have e1 : hb_ix (nI p) = p := hb_ixN (by omega)
  have e2 : hb_ix (nI z) = z := hb_ixN (by omega)
  unfold st_layer
  rw [if_neg (fun q => q ⟨hb_okN hp (by omega), hb_okN hz (by decide)⟩), e1, e2, if_neg (fun q => q h0)]
