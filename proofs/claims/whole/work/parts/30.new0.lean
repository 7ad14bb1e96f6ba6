/-! New objects. -/
theorem hw_fr {M : hw_M} {b q : Nat} {e : va_E} (h : va_up M b (some e) q = none) : M q = none ∧ q ≠ b := by
  by_cases z : q = b
  · subst z; rw [va_up_self] at h; cases h
  · rw [va_up_ne _ _ z] at h; exact ⟨h, z⟩
theorem hw_xn {M : hw_M} {x q : Nat} (hx : M x ≠ none) (hq : M q = none) : x ≠ q := fun z => hx (by rw [z]; exact hq)
theorem hw_sn {M : hw_M} {x : Nat} {e : va_E} (h : M x = some e) : M x ≠ none := by rw [h]; intro q; cases q
