/-! The law's hall, call by call. -/
/-- behind k pieces: n pieces told, the powder used u times at most -/
def lj (k n u : Nat) (S : hs_S) : Prop :=
  hv_ok S ∧ (hs_np S = n ∧ hs_nw S = 2) ∧ hs_P S 0 4 = -1 ∧ (∀ i, 1 ≤ i → i ≤ k → ¬ hs_P S i 4 = -1 ∧ hs_P S i 8 = nI 3) ∧ (∀ m, m < 2 → hs_M S m 3 = -1 ∧ (hs_M S m 0 = -1 ∨ hs_M S m 0 = nI 1)) ∧ hs_V S 0 0 = nI 1 ∧ hs_V S 0 3 = nI 3 ∧ ∃ v, v ≤ u ∧ hs_V S 0 2 = nI v
/-- the powder lies free, G grams of it -/
def lj_f (G : Nat) (S : hs_S) : Prop := hs_V S 0 4 = -1 ∧ hs_V S 0 1 = nI G ∧ hs_M S 0 1 = -1 ∧ hs_M S 1 1 = -1
/-- it is in machine m -/
def lj_m (G m : Nat) (S : hs_S) : Prop := hs_V S 0 1 = nI 0 ∧ hs_M S m 1 = nI 0 ∧ hs_M S m 2 = nI G ∧ hs_M S (1 - m) 1 = -1
def lj_g (G : Nat) (S : hs_S) : Prop := lj_f G S ∨ ∃ m, m < 2 ∧ lj_m G m S
theorem lj.b {k n u : Nat} {S : hs_S} (h : lj k n u S) : hs_b S := h.1.b
-- a piece
theorem ls_piece {S : hs_S} {n : Nat} (hn : hs_np S = n) (h4 : n < 4) : st_piece S = (0, nI n, hs_sp S (n + 1)) := by
  subst hn
  unfold st_piece
  rw [if_neg (by omega)]
theorem lj_piece {k n u : Nat} {S : hs_S} (h : lj k n u S) (h4 : n < 4) : lj k (n + 1) u (hs_sp S (n + 1)) := by
  obtain ⟨h1, ⟨h2, h3⟩, h5⟩ := h
  have e := hk_piece h1
  rw [ls_piece h2 h4] at e
  exact ⟨e, ⟨rfl, h3⟩, h5⟩
theorem lj_gp {G n : Nat} {S : hs_S} (h : lj_g G S) : lj_g G (hs_sp S n) := h
-- its layers
theorem lj_C {k n u g : Nat} {S : hs_S} (h : lj k n u S) (hg : g < n) (h0 : hs_P S g 0 = 0) (r : Nat → Int64) : lj k n u (hs_sC S g r) := by
  obtain ⟨h1, ⟨h2, h3⟩, h5⟩ := h
  exact ⟨hv_sC h1 (by rw [h2]; exact hg) h0 r, ⟨h2, h3⟩, h5⟩
theorem lj_gC {G g : Nat} {S : hs_S} (h : lj_g G S) (r : Nat → Int64) : lj_g G (hs_sC S g r) := h
theorem lj_new {k n u : Nat} {S : hs_S} (h : lj k n u S) (h4 : n < 4) : hs_P S n 0 = 0 ∧ hs_C S n = fun _ => 0 := by
  have := h.1.new (by rw [h.2.1.1]; exact Nat.le_refl _) h4
  exact ⟨this.1, this.2.2⟩
theorem lj_id {α : Type} (f : Nat → α) (i : Nat) : va_up f i (f i) = f := by
  funext j
  by_cases q : j = i
  · subst q; rw [va_up_self]
  · rw [va_up_ne _ _ q]
theorem ls_Cid (S : hs_S) (g : Nat) : hs_sC S g (hs_C S g) = S := by
  show hs_mk _ _ _ _ _ _ (va_up (hs_C S) g (hs_C S g)) _ _ _ _ _ = S
  rw [lj_id]; rfl
theorem ls_CC (S : hs_S) (g : Nat) (r r' : Nat → Int64) : hs_sC (hs_sC S g r) g r' = hs_sC S g r' := by
  show hs_mk _ _ _ _ _ _ (va_up (va_up (hs_C S) g r) g r') _ _ _ _ _ = hs_mk _ _ _ _ _ _ (va_up (hs_C S) g r') _ _ _ _ _
  rw [bx_uu]; rfl
theorem ls_Cat (S : hs_S) (g : Nat) (r : Nat → Int64) : hs_C (hs_sC S g r) g = r := va_up_self _ _ _
/-- piece g's layers below z are told -/
def lz (S : hs_S) (g : Nat) (C : Nat → Int64) (z : Nat) : hs_S := hs_sC S g (hb_mix C (fun _ => 0) z)
theorem lz_0 {S : hs_S} {g : Nat} (C : Nat → Int64) (h : hs_C S g = fun _ => 0) : lz S g C 0 = S := by
  unfold lz
  rw [hb_mix_0, ← h, ls_Cid]
theorem lz_s {S : hs_S} {g z : Nat} {C : Nat → Int64} (hg : g < hs_np S) (h4 : hs_np S ≤ 4) (hz : z < 8) (h0 : hs_P S g 0 = 0) : st_layer (lz S g C z) (nI g) (nI z) (C z) = (0, nI (hb_pc (C z)), lz S g C (z + 1)) := by
  have e := ls_layer (S := lz S g C z) (p := g) (z := z) (x := C z) hg h4 hz h0
  rw [e]
  unfold lz
  rw [ls_CC, ls_Cat, hb_mix_s rfl]
theorem lz_8 {S : hs_S} {g : Nat} {C : Nat → Int64} (h8 : ∀ k, 8 ≤ k → C k = 0) : lz S g C 8 = hs_sC S g C := by
  unfold lz
  have e : hb_mix C (fun _ => 0) 8 = C := by
    funext k
    by_cases hk : k < 8
    · exact hb_mix_lt hk
    · rw [hb_mix_ge (by omega), h8 k (by omega)]
  rw [e]
/-- what is told of it: all its cells, those of a layer -/
theorem lz_o (S : hs_S) (g : Nat) (C : Nat → Int64) {z : Nat} (hz : z < 8) : hs_op (lz S g C (z + 1)) g 2 = nI (hb_sm (fun k => hb_pc (C k)) (z + 1)) := by
  show nI (hb_sm (fun k => hb_pc (hs_C (lz S g C (z + 1)) g k)) 8) = _
  unfold lz
  rw [ls_Cat, lb_mx C (by omega) 8, show min 8 (z + 1) = z + 1 by omega]
theorem lz_u (S : hs_S) (g : Nat) (C : Nat → Int64) {z : Nat} (hz : z < 8) : hb_sm (fun k => hb_pc (hs_C (lz S g C (z + 1)) g k)) z = hb_sm (fun k => hb_pc (C k)) z := by
  unfold lz
  rw [ls_Cat, lb_mx C (by omega) z, show min z (z + 1) = z by omega]
theorem lz_d (C : Nat → Int64) {z : Nat} (hz : z < 8) : nI (hb_sm (fun k => hb_pc (C k)) (z + 1)) - nI (hb_sm (fun k => hb_pc (C k)) z) = nI (hb_pc (C z)) := by
  show nI (hb_sm (fun k => hb_pc (C k)) z + hb_pc (C z)) - nI (hb_sm (fun k => hb_pc (C k)) z) = _
  rw [pk_sub (by omega), Nat.add_sub_cancel_left]
-- the powder goes back, and into a machine
theorem ls_unload {S : hs_S} {G m : Nat} (hm : m < 2) (h : lj_m G m S) (h3 : hs_M S m 3 = -1) : st_unload S (nI m) = (0, nI G, hs_gb S m (nI G)) := by
  obtain ⟨a1, a2, a3, a4⟩ := h
  have e1 : hb_ix (nI m) = m := hb_ixN (by omega)
  have e0 : hb_ix (nI 0) = 0 := hb_ixN (by decide)
  unfold st_unload
  rw [if_neg (fun q => q (hb_okN hm (by decide))), e1, if_neg (fun q => q.elim (fun q => nI_m (by decide) (a2.symm.trans q)) (fun q => q h3)), a2, e0, a1, a3, nI_add, Nat.zero_add]
theorem lj_unload {k n u G m : Nat} {S : hs_S} (hk : lj k n u S) (hm : m < 2) (h : lj_m G m S) : lj k n (u + 1) (hs_gb S m (nI G)) ∧ lj_f G (hs_gb S m (nI G)) := by
  obtain ⟨h1, ⟨h2, h3⟩, h4, h5, h6, h7, h8, v, h9, h10⟩ := hk
  obtain ⟨a1, a2, a3, a4⟩ := h
  have e0 : hb_ix (hs_M S m 1) = 0 := by rw [a2]; exact hb_ixN (by decide)
  have hn : ¬ hs_M S m 1 = -1 := by rw [a2]; exact nI_m (by decide)
  have eV : hs_V (hs_gb S m (nI G)) 0 = va_up (va_up (va_up (hs_V S 0) 1 (hs_V S 0 1 + nI G)) 2 (hs_V S 0 2 + nI 1)) 4 (-1) := by
    show va_up (hs_V S) (hb_ix (hs_M S m 1)) _ 0 = _
    rw [e0, va_up_self]
  have eM : hs_M (hs_gb S m (nI G)) = va_up (hs_M S) m (va_up (va_up (hs_M S m) 1 (-1)) 2 0) := rfl
  refine ⟨⟨hv_gb h1 hm hn (nI G), ⟨h2, h3⟩, h4, h5, fun m' hm' => ?_, ?_, ?_, v + 1, by omega, ?_⟩, ?_, ?_, ?_⟩
  · rw [eM]
    by_cases q : m' = m
    · subst q
      rw [va_up_self, va_up_ne _ _ (by decide), va_up_ne _ _ (by decide), va_up_ne _ _ (by decide), va_up_ne _ _ (by decide)]
      exact h6 m' hm'
    · rw [va_up_ne _ _ q]; exact h6 m' hm'
  · rw [eV, va_up_ne _ _ (by decide), va_up_ne _ _ (by decide), va_up_ne _ _ (by decide)]; exact h7
  · rw [eV, va_up_ne _ _ (by decide), va_up_ne _ _ (by decide), va_up_ne _ _ (by decide)]; exact h8
  · rw [eV, va_up_ne _ _ (by decide), va_up_self, h10, nI_add]
  · rw [eV, va_up_self]
  · rw [eV, va_up_ne _ _ (by decide), va_up_ne _ _ (by decide), va_up_self, a1, nI_add, Nat.zero_add]
  · have f1 : ∀ m', m' < 2 → hs_M (hs_gb S m (nI G)) m' 1 = -1 := fun m' hm' => by
      rw [eM]
      by_cases q : m' = m
      · subst q; rw [va_up_self, va_up_ne _ _ (by decide), va_up_self]
      · rw [va_up_ne _ _ q, show m' = 1 - m by omega]; exact a4
    exact ⟨f1 0 (by decide), f1 1 (by decide)⟩
/-- machine m behind a load -/
def ls_L (S : hs_S) (m : Nat) : hs_S := hs_sV (hs_sM S m (va_up (va_up (va_up (hs_M S m) 0 (hs_V S 0 0)) 1 (nI 0)) 2 (hs_V S 0 1))) 0 (va_up (va_up (hs_V S 0) 1 0) 4 (nI m))
theorem ls_load {k n u G m : Nat} {S : hs_S} (hk : lj k n u S) (hu : u ≤ 4) (hm : m < 2) (h : lj_f G S) (hG : 0 < G ∧ G ≤ 4000) : st_load S (nI m) (nI 0) = (0, nI G, ls_L S m) := by
  obtain ⟨h1, ⟨h2, h3⟩, h4, h5, h6, h7, h8, v, h9, h10⟩ := hk
  obtain ⟨a1, a2, a3, a4⟩ := h
  have e1 : hb_ix (nI m) = m := hb_ixN (by omega)
  have e0 : hb_ix (nI 0) = 0 := hb_ixN (by decide)
  have hM1 : hs_M S m 1 = -1 := by
    rcases (show m = 0 ∨ m = 1 by omega) with rfl | rfl
    · exact a3
    · exact a4
  have hd := (h6 m hm).2
  unfold st_load
  rw [if_neg (fun q => q ⟨hb_okN hm (by decide), by rw [h3]; exact hb_okN (by decide) (by decide)⟩), e1, e0,
    if_neg (fun q => q.elim (fun q => q hM1) (fun q => q.elim (fun q => q a1) (fun q => nI_ne0 hG.1 (by omega) (a2.symm.trans q)))),
    if_neg (fun q => hd.elim q.1 (fun z => q.2 (z.trans h7.symm))),
    if_neg (fun q => by rw [h10] at q; exact nI_nlt (by omega) (by decide) q)]
  show ((0, hs_V S 0 1, ls_L S m) : Nat × Int32 × hs_S) = _
  rw [a2]
theorem lj_load {k n u G m : Nat} {S : hs_S} (hk : lj k n u S) (hu : u ≤ 4) (hm : m < 2) (h : lj_f G S) (hG : 0 < G ∧ G ≤ 4000) : lj k n u (ls_L S m) ∧ lj_m G m (ls_L S m) := by
  have hs := ls_load hk hu hm h hG
  have hv := hk_load hk.1 (nI m) (nI 0)
  rw [hs] at hv
  obtain ⟨h1, ⟨h2, h3⟩, h4, h5, h6, h7, h8, v, h9, h10⟩ := hk
  obtain ⟨a1, a2, a3, a4⟩ := h
  have eV : hs_V (ls_L S m) 0 = va_up (va_up (hs_V S 0) 1 0) 4 (nI m) := va_up_self (hs_V S) 0 _
  have eM : hs_M (ls_L S m) = va_up (hs_M S) m (va_up (va_up (va_up (hs_M S m) 0 (hs_V S 0 0)) 1 (nI 0)) 2 (hs_V S 0 1)) := rfl
  refine ⟨⟨hv, ⟨h2, h3⟩, h4, h5, fun m' hm' => ?_, ?_, ?_, v, h9, ?_⟩, ?_, ?_, ?_, ?_⟩
  · rw [eM]
    by_cases q : m' = m
    · subst q
      rw [va_up_self, va_up_ne _ _ (by decide), va_up_ne _ _ (by decide), va_up_ne _ _ (by decide), va_up_ne _ _ (by decide), va_up_ne _ _ (by decide), va_up_self]
      exact ⟨(h6 m' hm').1, Or.inr h7⟩
    · rw [va_up_ne _ _ q]; exact h6 m' hm'
  · rw [eV, va_up_ne _ _ (by decide), va_up_ne _ _ (by decide)]; exact h7
  · rw [eV, va_up_ne _ _ (by decide), va_up_ne _ _ (by decide)]; exact h8
  · rw [eV, va_up_ne _ _ (by decide), va_up_ne _ _ (by decide)]; exact h10
  · rw [eV, va_up_ne _ _ (by decide), va_up_self]; exact nI_z
  · rw [eM, va_up_self, va_up_ne _ _ (by decide), va_up_self]
  · rw [eM, va_up_self, va_up_self]; exact a2
  · rw [eM, va_up_ne _ _ (by omega)]
    rcases (show m = 0 ∨ m = 1 by omega) with rfl | rfl
    · exact a4
    · exact a3
-- the start
def ls_S (S : hs_S) (m g : Nat) (w d : Int32) : hs_S := hs_sM (hs_sP S g (va_up (va_up (va_up (va_up (va_up (va_up (va_up (hs_P S g) 0 (nI 1)) 4 (nI m)) 5 w) 6 d) 7 (hs_V S 0 2)) 8 (hs_V S 0 3)) 9 (hb_win (hs_V S 0 0) w d))) m (va_up (hs_M S m) 3 (nI g))
theorem ls_start {k n u G m g : Nat} {S : hs_S} {w d : Int32} (hk : lj k n u S) (h4 : n ≤ 4) (hm : m < 2) (h : lj_m G m S) (hg : g < n) (h0 : hs_P S g 0 = 0) (hw : hb_pw w) (hd : ¬ d < nI 1 ∧ d ≤ nI 20) (hC : ¬ hb_ht (hs_C S g) 8 = 0) : st_start S (nI m) (nI g) w d = (0, nI (hb_ht (hs_C S g) 8), ls_S S m g w d) := by
  obtain ⟨h1, ⟨h2, h3⟩, h5, h6, h7, h8⟩ := hk
  obtain ⟨a1, a2, a3, a4⟩ := h
  have e1 : hb_ix (nI m) = m := hb_ixN (by omega)
  have e2 : hb_ix (nI g) = g := hb_ixN (by omega)
  have e0 : hb_ix (nI 0) = 0 := hb_ixN (by decide)
  unfold st_start
  rw [if_neg (fun q => q ⟨hb_okN hm (by decide), by rw [h2]; exact hb_okN hg (by omega)⟩), if_neg (fun q => q ⟨hw, hd⟩), e1, e2, a2, e0,
    if_neg (fun q => q.elim (fun q => q h0) (fun q => q.elim hC (fun q => q.elim (fun q => q (h7 m hm).1) (nI_m (by decide)))))]
  rfl
theorem ls_en (S : hs_S) (m g : Nat) (w d : Int32) : hs_P (ls_S S m g w d) g = va_up (va_up (va_up (va_up (va_up (va_up (va_up (hs_P S g) 0 (nI 1)) 4 (nI m)) 5 w) 6 d) 7 (hs_V S 0 2)) 8 (hs_V S 0 3)) 9 (hb_win (hs_V S 0 0) w d) := by
  show va_up (hs_P S) g _ g = _
  rw [va_up_self]
theorem ls_d {S : hs_S} {m g G : Nat} {w d : Int32} (h : lj_m G m S) (hr : hv_raw S g) : lg_d (ls_S S m g w d) m g (hs_C S g) (hb_en w d) 0 G := by
  obtain ⟨a1, a2, a3, a4⟩ := h
  obtain ⟨r1, r2, r3, r4, r5, r6, r7, r8, r9, r10, r11⟩ := hr
  refine ⟨?_, r9, ?_, ?_, r11, ?_, rfl, ?_⟩
  · show va_up (hs_M S) m _ m 3 = _; rw [va_up_self, va_up_self]
  · rw [ls_en, va_up_ne _ _ (by decide), va_up_ne _ _ (by decide), va_up_ne _ _ (by decide), va_up_ne _ _ (by decide), va_up_ne _ _ (by decide), va_up_ne _ _ (by decide), va_up_ne _ _ (by decide), r1]; exact nI_z
  · rw [ls_en, va_up_ne _ _ (by decide), va_up_ne _ _ (by decide), va_up_ne _ _ (by decide), va_up_ne _ _ (by decide), va_up_ne _ _ (by decide), va_up_ne _ _ (by decide), va_up_ne _ _ (by decide), r2]; exact nI_z
  · show va_up (hs_M S) m _ m 2 = _; rw [va_up_self, va_up_ne _ _ (by decide)]; exact a3
  · rw [ls_en, va_up_ne _ _ (by decide), va_up_ne _ _ (by decide), va_up_ne _ _ (by decide), va_up_ne _ _ (by decide), va_up_self, va_up_ne _ _ (by decide), va_up_ne _ _ (by decide), va_up_ne _ _ (by decide), va_up_self]
theorem ls_grow {S : hs_S} {m g : Nat} (hm : m < 2) (h3 : hs_M S m 3 = nI g) (hg : g < 4) : st_grow S (nI m) (nI 8) = (0, nI (hs_gr m 8 S).1, (hs_gr m 8 S).2) := by
  have e1 : hb_ix (nI m) = m := hb_ixN (by omega)
  have e8 : hb_ix (nI 8) = 8 := hb_ixN (by decide)
  unfold st_grow
  rw [if_neg (fun q => q (hb_okN hm (by decide))), if_neg (fun q => q ⟨by decide, by decide⟩), e1, e8, if_neg (by rw [h3]; exact nI_m (by omega))]
/-- behind the growing of piece g = k + 1 in machine m -/
theorem lj_grown {k n u G m : Nat} {S : hs_S} {w d : Int32} (hk : lj k n u S) (hn : n = k + 2) (h4 : n ≤ 4) (hm : m < 2) (h : lj_m G m S) (h0 : hs_P S (k + 1) 0 = 0) (hw : hb_pw w) (hd : ¬ d < nI 1 ∧ d ≤ nI 20) (hC : ¬ hb_ht (hs_C S (k + 1)) 8 = 0) (hG : 1024 ≤ G ∧ G ≤ 4000) :
    lj (k + 1) n u (hs_gr m 8 (ls_S S m (k + 1) w d)).2 ∧ (∃ G', G ≤ G' + 1024 ∧ G' ≤ G ∧ lj_g G' (hs_gr m 8 (ls_S S m (k + 1) w d)).2) ∧ hs_M (hs_gr m 8 (ls_S S m (k + 1) w d)).2 m 3 = -1 ∧
    (hs_P (hs_gr m 8 (ls_S S m (k + 1) w d)).2 (k + 1) 0 = nI 2 → hs_P (hs_gr m 8 (ls_S S m (k + 1) w d)).2 (k + 1) 1 + hs_P (hs_gr m 8 (ls_S S m (k + 1) w d)).2 (k + 1) 2 = nI (hb_tl (hs_C S (k + 1)) (hb_en w d) (hb_ht (hs_C S (k + 1)) 8) + hb_th (hs_C S (k + 1)) (hb_en w d) (hb_ht (hs_C S (k + 1)) 8))) ∧
    hs_P (hs_gr m 8 (ls_S S m (k + 1) w d)).2 (k + 1) 8 = nI 3 ∧ (∃ v, v ≤ u ∧ hs_P (hs_gr m 8 (ls_S S m (k + 1) w d)).2 (k + 1) 7 = nI v) ∧ hs_P (hs_gr m 8 (ls_S S m (k + 1) w d)).2 (k + 1) 6 = d := by
  have hst := ls_start hk h4 hm h (show k + 1 < n by omega) h0 hw hd hC
  have hv1 := hk_start hk.1 (nI m) (nI (k + 1)) w d
  rw [hst] at hv1
  have hv1 : hv_ok (ls_S S m (k + 1) w d) := hv1
  have hdd := ls_d (w := w) (d := d) h (hk.1.raw (show k + 1 < 4 by omega) h0)
  have hht := hb_ht_le (hs_C S (k + 1)) 8
  obtain ⟨r1, r2, L', r3, r4, r5⟩ := lg_run (show k + 1 < 4 by omega) 8 _ 0 G hdd (by omega) (by omega) (by omega) (by omega)
  have hv2 := hv_gr hm 8 hv1
  have e9 : hs_P (ls_S S m (k + 1) w d) (k + 1) = _ := ls_en S m (k + 1) w d
  generalize hE : (hs_gr m 8 (ls_S S m (k + 1) w d)).2 = E at r1 r2 r5 hv2 ⊢
  obtain ⟨h1, ⟨h2, h3⟩, h5, h6, h7, h8, h10, v, h11, h12⟩ := hk
  obtain ⟨a1, a2, a3, a4⟩ := h
  obtain ⟨⟨s1, s2, s3, s4⟩, s5, s6, ⟨s7, s8⟩, s9⟩ := r1
  have eV : hs_V E = hs_V S := s3
  have eM0 : ∀ m', m' ≠ m → hs_M E m' = hs_M S m' := fun m' q => by
    rw [s6 m' q]; show va_up (hs_M S) m _ m' = _; rw [va_up_ne _ _ q]
  have eMm : ∀ f, f < 2 → hs_M E m f = hs_M S m f := fun f hf => by
    have e : hs_M (ls_S S m (k + 1) w d) m f = hs_M S m f := by show va_up (hs_M S) m _ m f = _; rw [va_up_self, va_up_ne _ _ (by omega)]
    rcases (show f = 0 ∨ f = 1 by omega) with rfl | rfl
    · exact s7.trans e
    · exact s8.trans e
  have eP : ∀ i, i ≠ k + 1 → hs_P E i = hs_P S i := fun i q => by
    rw [s5 i q]; show va_up (hs_P S) (k + 1) _ i = _; rw [va_up_ne _ _ q]
  have e4 : hs_P E (k + 1) 4 = nI m := by
    rw [s9 4 (by decide), e9, va_up_ne _ _ (by decide), va_up_ne _ _ (by decide), va_up_ne _ _ (by decide), va_up_ne _ _ (by decide), va_up_ne _ _ (by decide), va_up_self]
  have e8 : hs_P E (k + 1) 8 = nI 3 := by
    rw [s9 8 (by decide), e9, va_up_ne _ _ (by decide), va_up_self]; exact h10
  have e7 : hs_P E (k + 1) 7 = nI v := by
    rw [s9 7 (by decide), e9, va_up_ne _ _ (by decide), va_up_ne _ _ (by decide), va_up_self]; exact h12
  have e6 : hs_P E (k + 1) 6 = d := by
    rw [s9 6 (by decide), e9, va_up_ne _ _ (by decide), va_up_ne _ _ (by decide), va_up_ne _ _ (by decide), va_up_self]
  refine ⟨⟨hv2, ⟨s1.trans h2, s2.trans h3⟩, ?_, fun i i1 i2 => ?_, fun m' hm' => ?_, ?_, ?_, v, h11, ?_⟩, ⟨L', by omega, r4, Or.inr ⟨m, hm, ?_, ?_, r5, ?_⟩⟩, r2.1, fun q => ?_, e8, ⟨v, h11, e7⟩, e6⟩
  · rw [eP 0 (by omega)]; exact h5
  · by_cases q : i = k + 1
    · subst q; exact ⟨by rw [e4]; exact nI_m (by omega), e8⟩
    · rw [eP i q]; exact h6 i i1 (by omega)
  · by_cases q : m' = m
    · subst q; rw [eMm 0 (by decide)]; exact ⟨r2.1, (h7 m' hm').2⟩
    · rw [eM0 m' q]; exact h7 m' hm'
  · rw [eV]; exact h8
  · rw [eV]; exact h10
  · rw [eV]; exact h12
  · rw [eV]; exact a1
  · rw [eMm 1 (by decide)]; exact a2
  · rw [eM0 _ (by omega)]; exact a4
  · rw [(r2.2 q).1, (r2.2 q).2, nI_add]
