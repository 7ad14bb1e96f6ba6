/-! More of the reference's reckoning: laying, growing, lists. -/
theorem hb_ht_le0 {L : Nat → Int64} (h : nI (hb_ht L 8) ≤ 0) : hb_ht L 8 = 0 := by
  have h8 := hb_ht_le L 8
  rcases Nat.eq_zero_or_pos (hb_ht L 8) with q | q
  · exact q
  · exact absurd h (nI_nle q (by omega))
theorem hb_g6 {M : hw_M} {a b : Nat} {x y z w u v : Option va_E} (n : a ≠ b) : va_up (va_up (va_up (va_up (va_up (va_up M a x) b y) b z) b w) a u) a v = va_up (va_up M a v) b w := by
  funext k
  simp only [va_up]
  by_cases h1 : k = a
  · subst h1; simp [n]
  · by_cases h2 : k = b
    · subst h2; simp [h1]
    · simp [h1, h2]
theorem hb_g3 {M : hw_M} {a b : Nat} {x y z : Option va_E} (n : a ≠ b) : va_up (va_up (va_up M a x) b y) a z = va_up (va_up M b y) a z := by
  funext k
  simp only [va_up]
  by_cases h1 : k = a
  · simp [h1]
  · by_cases h2 : k = b
    · subst h2; simp [h1]
    · simp [h1, h2]
theorem hb_lkF (x : Int32) (p : Nat → Bool) (i : Nat) (h : p i = false) : x + nI (hb_ct p i) + nI 0 = x + nI (hb_ct p (i + 1)) := by rw [hb_add0]; exact hb_lk0 x p i h
theorem hb_lp_v {C Hg : Int64} {e : UInt64} {W : Nat → UInt64} {i : Nat} {b g : Bool} (hc : hb_bit C i = true) (hg : hb_bit Hg i = g) (hl : hb_lack (hb_dep e g (hb_wf C e W i)) = b) : hb_lp C Hg e W i = b := by
  unfold hb_lp
  rw [hc, hg, Bool.true_and]; exact hl
theorem hb_hp_v {C Hg : Int64} {e : UInt64} {W : Nat → UInt64} {i : Nat} {b g : Bool} (hc : hb_bit C i = true) (hg : hb_bit Hg i = g) (hl : decide (FP.dcmp (hb_dep e g (hb_wf C e W i)) 4618441417868443648 = some .gt) = b) : hb_hp C Hg e W i = b := by
  unfold hb_hp
  rw [hc, hg, Bool.true_and, hb_hole_iff]; exact hl
theorem hb_lp_f {C Hg : Int64} {e : UInt64} {W : Nat → UInt64} {i : Nat} (hc : hb_bit C i = false) : hb_lp C Hg e W i = false := by unfold hb_lp; rw [hc]; rfl
theorem hb_hp_f {C Hg : Int64} {e : UInt64} {W : Nat → UInt64} {i : Nat} (hc : hb_bit C i = false) : hb_hp C Hg e W i = false := by unfold hb_hp; rw [hc]; rfl
theorem hb_wf_t {C : Int64} {e : UInt64} {W : Nat → UInt64} {i : Nat} (hc : hb_bit C i = true) : FP.dadd (FP.dmul (W i) 4602678819172646912) (FP.dmul e 4598175219545276416) = hb_wf C e W i := by unfold hb_wf hb_w1; rw [hc]; rfl
theorem hb_wf_f {C : Int64} {e : UInt64} {W : Nat → UInt64} {i : Nat} (hc : hb_bit C i = false) : FP.dmul (W i) 4602678819172646912 = hb_wf C e W i := by unfold hb_wf hb_w1; rw [hc]; rfl
/-- which of the first n proofs is this one -/
def hb_tr (q : Nat → Nat → Int32) (x y z : Int32) : Nat → Bool
  | 0 => false
  | n + 1 => hb_tr q x y z n || (decide (q n 0 = x) && decide (q n 1 = y) && decide (q n 2 = z))
theorem hb_tr_n {q : Nat → Nat → Int32} {x y z : Int32} {i : Nat} (h : hb_tr q x y z i = false) (hi : ¬ (q i 0 = x ∧ q i 1 = y ∧ q i 2 = z)) : hb_tr q x y z (i + 1) = false := by
  show (hb_tr q x y z i || _) = false
  rw [h, Bool.false_or]
  by_cases h0 : q i 0 = x
  · by_cases h1 : q i 1 = y
    · have h2 : ¬ q i 2 = z := fun w => hi ⟨h0, h1, w⟩
      rw [decide_eq_false h2]; exact Bool.and_false _
    · rw [decide_eq_false h1, Bool.and_false]; rfl
  · rw [decide_eq_false h0]; rfl
theorem hb_tr_of {q : Nat → Nat → Int32} {x y z : Int32} {i : Nat} (h : q i 0 = x ∧ q i 1 = y ∧ q i 2 = z) : ∀ {n : Nat}, i < n → hb_tr q x y z n = true
  | 0, hn => absurd hn (Nat.not_lt_zero _)
  | n + 1, hn => by
    show (hb_tr q x y z n || _) = true
    rcases Nat.lt_or_ge i n with w | w
    · rw [hb_tr_of h w]; rfl
    · have e : i = n := by omega
      subst e
      rw [decide_eq_true h.1, decide_eq_true h.2.1, decide_eq_true h.2.2]; exact Bool.or_true _
theorem hb_gr0 {Z : hw_Z} {M : hw_M} {a wa : Nat} {en cu : UInt64} {lk ho dn : Int32} {W G : Nat → UInt64} {p q : Nat → Bool} (h0 : M a = hw_ob 7 [.double en, .ref wa, .double cu, .int lk, .int ho, .int dn]) (h1 : M wa = hw_ad Z 64 W) : M = va_up (va_up M a (hw_ob 7 [.double en, .ref wa, .double cu, .int (lk + nI (hb_ct p 0)), .int (ho + nI (hb_ct q 0)), .int dn])) wa (hw_ad Z 64 (hb_mix G W 0)) := by
  rw [hb_mix_0, show hb_ct p 0 = 0 from rfl, show hb_ct q 0 = 0 from rfl, hb_add0, hb_add0, ← hw_id h0 rfl]
  exact hw_id h1 rfl
theorem hb_sw3 {M : hw_M} {a b : Nat} {x y z : Option va_E} (n : a ≠ b) : va_up (va_up M b y) a z = va_up (va_up (va_up M a x) b y) a z := (hb_g3 n).symm
theorem hb_sw2 {M : hw_M} {a b : Nat} {x y z : Option va_E} (n : a ≠ b) : va_up (va_up M b z) a y = va_up (va_up (va_up M a x) a y) b z := by
  rw [bx_uu]
  funext k
  simp only [va_up]
  by_cases h1 : k = a
  · subst h1; simp [n]
  · simp [h1]
theorem hb_g4 {M : hw_M} {a r : Nat} {x y z w : Option va_E} (n : a ≠ r) : va_up (va_up M r y) a w = va_up (va_up (va_up (va_up M r x) a z) r y) a w := by
  funext k
  simp only [va_up]
  by_cases h1 : k = a
  · simp [h1]
  · by_cases h2 : k = r <;> simp [h1, h2]
theorem hb_no {M : hw_M} {a d : Nat} {e : va_E} (h : va_up M a (some e) d = none) : M d = none := (hw_fr h).1
