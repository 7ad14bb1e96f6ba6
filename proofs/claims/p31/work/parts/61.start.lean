/-! The law's hall before its pieces are started. -/
def hb_min (x y : Int32) : Int32 := if y < x then y else x
theorem hb_minN {a b : Nat} (ha : a < 2 ^ 31) (hb : b < 2 ^ 31) : hb_min (nI a) (nI b) = nI (min a b) := by
  unfold hb_min
  by_cases h : b < a
  · rw [if_pos (nI_lt h ha), show min a b = b by omega]
  · rw [if_neg (nI_nlt (by omega) hb), show min a b = a by omega]
/-- a hall with one solid -/
def sA (C : Nat → Int64) : hs_S := hs_sC (hs_sp hs_0 1) 0 C
theorem sA_0 : sA (fun _ => 0) = hs_sp hs_0 1 := ls_Cid (hs_sp hs_0 1) 0
theorem sA_C (C : Nat → Int64) : hs_C (sA C) 0 = C := ls_Cat _ _ _
theorem sA_s (C D : Nat → Int64) : hs_sC (sA C) 0 D = sA D := ls_CC _ _ _ _
theorem sA_z (C : Nat → Int64) (z : Nat) (x : Int64) : hs_sC (sA C) 0 (va_up (hs_C (sA C) 0) z x) = sA (va_up C z x) := by rw [sA_C, sA_s]
theorem sA_v (C : Nat → Int64) : hv_ok (sA C) := hv_sC (hk_piece hv_0) (show 0 < 1 by decide) rfl C
theorem ls_lay (C : Nat → Int64) {w : Nat} (hw : w < 6) : st_lay (sA C) (nI 0) (nI w) = (0, nI (hb_ht (hb_laid C w) 8), sA (hb_laid C w)) := by
  have e1 : hb_ix (nI 0) = 0 := hb_ixN (by decide)
  have e2 : hb_ix (nI w) = w := hb_ixN (by omega)
  unfold st_lay
  rw [if_neg (fun q => q (show hb_ok (nI 0) 1 from hb_okN (by decide) (by decide))), if_neg (fun q => q (hb_okN hw (by decide))), e1, e2, if_neg (fun q => q rfl), sA_C, sA_s]
theorem ls_wh (C : Nat → Int64) {w : Nat} (hw : w < 6) : st_wouldHold (sA C) (nI 0) (nI w) = (0, nI (hb_ws C w), sA C) := by
  have e1 : hb_ix (nI 0) = 0 := hb_ixN (by decide)
  have e2 : hb_ix (nI w) = w := hb_ixN (by omega)
  unfold st_wouldHold
  rw [if_neg (fun q => q (show hb_ok (nI 0) 1 from hb_okN (by decide) (by decide))), if_neg (fun q => q (hb_okN hw (by decide))), e1, e2, sA_C]
theorem sA_5 (C : Nat → Int64) (w : Nat) : hs_op (sA (hb_laid C w)) 0 5 = nI (hb_ws C w) := by
  show nI (hb_sm (fun k => hb_pc (hb_supp (hs_C (sA (hb_laid C w)) 0) k)) 8) = _
  rw [sA_C]; rfl
theorem sA_1 (C : Nat → Int64) : hs_op (sA C) 0 1 = nI (hb_ht C 8) := by
  show nI (hb_ht (hs_C (sA C) 0) 8) = _
  rw [sA_C]
theorem sA_l (C : Nat → Int64) (z : Nat) : hs_ol (sA C) 0 z 0 = C z := by
  show hs_C (sA C) 0 z = _
  rw [sA_C]
/-- two powders of one alloy, the second one in the first one -/
def sB1 (C : Nat → Int64) : hs_S := hs_sw (hs_sV (sA C) 0 (va_up (va_up (hs_V (sA C) 0) 0 (nI 1)) 1 (nI 2000))) 1
def sB2 (C : Nat → Int64) : hs_S := hs_sw (hs_sV (sB1 C) 1 (va_up (va_up (hs_V (sB1 C) 1) 0 (nI 1)) 1 (nI 2000))) 2
def sB3 (C : Nat → Int64) : hs_S := hs_sV (hs_sV (sB2 C) 0 (va_up (va_up (va_up (hs_V (sB2 C) 0) 1 (nI 4000)) 2 (nI 0)) 3 (nI 3))) 1 (va_up (hs_V (sB2 C) 1) 1 0)
theorem ls_p1 (C : Nat → Int64) : st_powder (sA C) (nI 1) (nI 2000) = (0, nI 0, sB1 C) := by
  unfold st_powder
  rw [if_neg (fun q => q ⟨hb_okN (by decide) (by decide), by decide, by decide⟩), show hs_nw (sA C) = 0 from rfl, if_neg (by decide)]
  rfl
theorem ls_p2 (C : Nat → Int64) : st_powder (sB1 C) (nI 1) (nI 2000) = (0, nI 1, sB2 C) := by
  unfold st_powder
  rw [if_neg (fun q => q ⟨hb_okN (by decide) (by decide), by decide, by decide⟩), show hs_nw (sB1 C) = 1 from rfl, if_neg (by decide)]
  rfl
theorem sB_V0 (C : Nat → Int64) : hs_V (sB2 C) 0 = va_up (va_up (hs_V hs_0 0) 0 (nI 1)) 1 (nI 2000) := rfl
theorem sB_V1 (C : Nat → Int64) : hs_V (sB2 C) 1 = va_up (va_up (hs_V hs_0 1) 0 (nI 1)) 1 (nI 2000) := rfl
theorem ls_p3 (C : Nat → Int64) : st_blend (sB2 C) (nI 0) (nI 1) = (0, nI 4000, sB3 C) := by
  have e0 : hb_ix (nI 0) = 0 := hb_ixN (by decide)
  have e1 : hb_ix (nI 1) = 1 := hb_ixN (by decide)
  have a0 : hs_V (sB2 C) 0 0 = nI 1 := by rw [sB_V0]; rfl
  have a1 : hs_V (sB2 C) 0 1 = nI 2000 := by rw [sB_V0]; rfl
  have a2 : hs_V (sB2 C) 0 2 = 0 := by rw [sB_V0]; rfl
  have a3 : hs_V (sB2 C) 0 3 = nI 1 <<< (nI 0 &&& 31) := by rw [sB_V0]; rfl
  have a4 : hs_V (sB2 C) 0 4 = -1 := by rw [sB_V0]; rfl
  have b0 : hs_V (sB2 C) 1 0 = nI 1 := by rw [sB_V1]; rfl
  have b1 : hs_V (sB2 C) 1 1 = nI 2000 := by rw [sB_V1]; rfl
  have b2 : hs_V (sB2 C) 1 2 = 0 := by rw [sB_V1]; rfl
  have b3 : hs_V (sB2 C) 1 3 = nI 1 <<< (nI 1 &&& 31) := by rw [sB_V1]; rfl
  have b4 : hs_V (sB2 C) 1 4 = -1 := by rw [sB_V1]; rfl
  unfold st_blend
  rw [if_neg (fun q => q (show hb_ok (nI 0) 2 ∧ hb_ok (nI 1) 2 from ⟨hb_okN (by decide) (by decide), hb_okN (by decide) (by decide)⟩)), e0, e1,
    if_neg (fun q => q.elim (fun q => absurd q (by decide)) (fun q => q (a0.trans b0.symm))), if_neg (fun q => q.elim (fun q => q a4) (fun q => q b4)),
    a1, b1, a2, b2, a3, b3, show nI 2000 + nI 2000 = nI 4000 by decide, show hb_max 0 0 = nI 0 by decide, show (nI 1 <<< (nI 0 &&& 31)) ||| (nI 1 <<< (nI 1 &&& 31)) = nI 3 by decide]
  rfl
theorem sB_v1 (C : Nat → Int64) : hv_ok (sB1 C) := by
  have h := hk_powder (sA_v C) (nI 1) (nI 2000)
  rw [ls_p1] at h
  exact h
theorem sB_v2 (C : Nat → Int64) : hv_ok (sB2 C) := by
  have h := hk_powder (sB_v1 C) (nI 1) (nI 2000)
  rw [ls_p2] at h
  exact h
theorem sB_v3 (C : Nat → Int64) : hv_ok (sB3 C) := by
  have h := hk_blend (sB_v2 C) (nI 0) (nI 1)
  rw [ls_p3] at h
  exact h
theorem sB_V (C : Nat → Int64) : hs_V (sB3 C) 0 = va_up (va_up (va_up (hs_V (sB2 C) 0) 1 (nI 4000)) 2 (nI 0)) 3 (nI 3) := rfl
theorem sB_j (C : Nat → Int64) : lj 0 1 0 (sB3 C) ∧ lj_g 4000 (sB3 C) := by
  have hV := sB_V C
  refine ⟨⟨sB_v3 C, ⟨rfl, rfl⟩, rfl, fun i i1 i2 => by omega, fun m hm => ⟨rfl, Or.inl rfl⟩, ?_, ?_, 0, Nat.le_refl _, ?_⟩, Or.inl ⟨?_, ?_, rfl, rfl⟩⟩
  · rw [hV, sB_V0]; rfl
  · rw [hV, sB_V0]; rfl
  · rw [hV, sB_V0]; rfl
  · rw [hV, sB_V0]; rfl
  · rw [hV, sB_V0]; rfl
theorem lj_u {k n u u' : Nat} {S : hs_S} (h : lj k n u S) (hu : u ≤ u') : lj k n u' S := by
  obtain ⟨h1, h2, h3, h4, h5, h6, h7, v, h8, h9⟩ := h
  exact ⟨h1, h2, h3, h4, h5, h6, h7, v, by omega, h9⟩
/-- the three of them have it in their past -/
theorem ls_re {u j : Nat} {S : hs_S} (h : lj 3 4 u S) (hj : j < 2) : hs_re S j (hs_np S) = nI 14 := by
  obtain ⟨-, ⟨h2, -⟩, h3, h4, -⟩ := h
  rw [h2]
  have a : ∀ i, 1 ≤ i → i ≤ 3 → ¬ hs_P S i 4 = -1 ∧ ¬ (hs_P S i 8 &&& (nI 1 <<< (nI j &&& 31))) = 0 := fun i i1 i2 => by
    refine ⟨(h4 i i1 i2).1, ?_⟩
    rw [(h4 i i1 i2).2]
    rcases (show j = 0 ∨ j = 1 by omega) with rfl | rfl <;> decide
  have r0 : hs_re S j 1 = 0 := if_neg (fun q => q.1 h3)
  have r1 : hs_re S j 2 = hs_re S j 1 ||| (nI 1 <<< (nI 1 &&& 31)) := if_pos (a 1 (by decide) (by decide))
  have r2 : hs_re S j 3 = hs_re S j 2 ||| (nI 1 <<< (nI 2 &&& 31)) := if_pos (a 2 (by decide) (by decide))
  have r3 : hs_re S j 4 = hs_re S j 3 ||| (nI 1 <<< (nI 3 &&& 31)) := if_pos (a 3 (by decide) (by decide))
  rw [r3, r2, r1, r0]
  decide
theorem la_and {a : Nat} (h : a < 2) : nI a &&& nI 1 = nI a ∧ nI a &&& nI 0 = nI 0 := by
  rcases (show a = 0 ∨ a = 1 by omega) with rfl | rfl <;> decide
