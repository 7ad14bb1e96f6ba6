/-! The powder's way to machine j; a piece's start. -/
theorem lj_om {k n u m : Nat} {S : hs_S} (h : lj k n u S) (hm : m < 2) : hs_M S m 3 = -1 := (h.2.2.2.2.1 m hm).1
theorem lj_fm {G m : Nat} {S : hs_S} (h : lj_f G S) (hm : m < 2) : hs_om S m 1 = -1 := by
  show hs_M S m 1 = -1
  rcases (show m = 0 ∨ m = 1 by omega) with rfl | rfl
  · exact h.2.2.1
  · exact h.2.2.2
theorem lj_mo {G j : Nat} {S : hs_S} (hj : j < 2) (h : lj_m G (1 - j) S) : hs_om S j 1 = -1 := by
  have h4 := h.2.2.2
  rw [show 1 - (1 - j) = j by omega] at h4
  exact h4
theorem lj_started {k n u G m g : Nat} {S : hs_S} {w d : Int32} (hk : lj k n u S) (h4 : n ≤ 4) (hm : m < 2) (h : lj_m G m S) (hg : g < n) (h0 : hs_P S g 0 = 0) (hw : hb_pw w) (hd : ¬ d < nI 1 ∧ d ≤ nI 20) (hC : ¬ hb_ht (hs_C S g) 8 = 0) : hv_ok (ls_S S m g w d) ∧ hs_M (ls_S S m g w d) m 3 = nI g := by
  have e := hk_start hk.1 (nI m) (nI g) w d
  rw [ls_start hk h4 hm h hg h0 hw hd hC] at e
  exact ⟨e, (ls_d (w := w) (d := d) h (hk.1.raw (show g < 4 by omega) h0)).1⟩
