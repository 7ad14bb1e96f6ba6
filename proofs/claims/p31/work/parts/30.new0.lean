/-! New objects. -/
theorem hw_fr {M : hw_M} {b q : Nat} {e : va_E} (h : va_up M b (some e) q = none) : M q = none ∧ q ≠ b := by
  by_cases z : q = b
  · subst z; rw [va_up_self] at h; cases h
  · rw [va_up_ne _ _ z] at h; exact ⟨h, z⟩
theorem hw_xn {M : hw_M} {x q : Nat} (hx : M x ≠ none) (hq : M q = none) : x ≠ q := fun z => hx (by rw [z]; exact hq)
theorem hw_sn {M : hw_M} {x : Nat} {e : va_E} (h : M x = some e) : M x ≠ none := by rw [h]; intro q; cases q
/-- what was there is there still -/
def hw_alv (M W : hw_M) : Prop := ∀ x, M x ≠ none → W x ≠ none
theorem hw_alv_r (M : hw_M) : hw_alv M M := fun _ h => h
theorem hw_alv_u {M W : hw_M} {b : Nat} {e : va_E} (h : hw_alv M W) : hw_alv M (va_up W b (some e)) := fun x hx => by
  by_cases z : x = b
  · subst z; rw [va_up_self]; intro q; cases q
  · rw [va_up_ne _ _ z]; exact h x hx
theorem hw_alv.n {M W : hw_M} (h : hw_alv M W) {q : Nat} (hq : W q = none) : M q = none := by
  cases hm : M q with
  | none => rfl
  | some e => exact absurd hq (h q (hw_sn hm))
theorem hw_alv_F {M W W' : hw_M} {a : Nat} {e : va_E} (h : hw_alv M W) (hF : ∀ x, W x ≠ none → x ≠ a → W' x = W x) (ha : W' a = some e) : hw_alv M W' := fun x hx => by
  by_cases z : x = a
  · subst z; exact hw_sn ha
  · rw [hF x (h x hx) z]; exact h x hx
-- the empty hall
def hs_0 : hs_S := hs_mk (fun _ w => if w < 4 then 0 else -1) (fun _ => 0) (fun i w => if w = 3 then nI 1 <<< (nI i &&& 31) else if w = 4 then -1 else 0) (fun _ w => if w = 2 then 0 else -1) (fun _ => 0) (fun _ _ => 0) (fun _ _ => 0) (fun _ _ => 0) (fun _ => 0) (fun _ => 0) 0 0
def hp_T0 : hp_T := (fun _ => 0, fun _ => 0, fun _ => 0, fun _ => 0, 0, 0)
theorem hb_hang_0 : hb_hang (fun _ => 0) = fun _ => 0 := by
  funext k
  unfold hb_hang
  split
  · exact Int64.zero_and
  · rfl
theorem hb_hd_0 : ∀ j, hb_hd (fun _ => 0) j = 0
  | 0 => rfl
  | j + 1 => by
    show (hb_hd (fun _ => 0) j ||| hb_hang (fun _ => 0) (7 - j)) &&& _ = 0
    rw [hb_hd_0 j, hb_hang_0]
    show ((0 : Int64) ||| 0) &&& _ = 0
    rw [show ((0 : Int64) ||| 0) = 0 by decide]
    exact Int64.zero_and
theorem hb_supp_0 : hb_supp (fun _ => 0) = fun _ => 0 := by
  funext k
  unfold hb_supp
  split
  · exact hb_hd_0 _
  · rfl
