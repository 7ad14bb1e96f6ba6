/-! The hall's own constructor: columns of cells. -/
def hc_ok (k0 k1 : Nat) (Mb M : hw_M) (ad : hp_ad) (v : Nat) (E : hp_ad → Nat → Nat → Option va_E) : Prop :=
  (∀ k i, k0 ≤ k → k ≤ k1 → i < v → M (ad k i) = E ad k i ∧ Mb (ad k i) = none ∧ M (ad k i) ≠ none) ∧ ∀ k i k' i', k0 ≤ k → k ≤ k1 → i < v → k0 ≤ k' → k' ≤ k1 → i' < v → ad k i = ad k' i' → k = k' ∧ i = i'
def hc_ad (ad : hp_ad) (v : Nat) (cf : Nat → Nat) : hp_ad := fun k i => if i = v then cf k else ad k i
def hc_f (ad : Nat → Nat) (v : Nat) : Nat → Option Nat := fun j => if j < v then some (ad j) else none
def hc_loc (k0 k1 : Nat) (E : hp_ad → Nat → Nat → Option va_E) : Prop := ∀ (ad ad' : hp_ad) (k i : Nat), k0 ≤ k → k ≤ k1 → (∀ k', k0 ≤ k' → k' ≤ k1 → ad k' i = ad' k' i) → E ad k i = E ad' k i
theorem hc_ok0 (k0 k1 : Nat) (Mb M : hw_M) (ad : hp_ad) (E) : hc_ok k0 k1 Mb M ad 0 E := ⟨fun _ _ _ _ h => absurd h (Nat.not_lt_zero _), fun _ _ _ _ _ _ h => absurd h (Nat.not_lt_zero _)⟩
theorem hc_f0 (ad : Nat → Nat) : (fun _ => none) = hc_f ad 0 := by funext j; exact (if_neg (Nat.not_lt_zero _)).symm
theorem hc_fs (ad : hp_ad) (v : Nat) (cf : Nat → Nat) (k : Nat) : va_up (hc_f (ad k) v) v (some (cf k)) = hc_f (hc_ad ad v cf k) (v + 1) := by
  funext j
  by_cases h : j = v
  · subst h
    rw [va_up_self]
    exact ((if_pos (Nat.lt_succ_self _)).trans (congrArg some (if_pos rfl))).symm
  · rw [va_up_ne _ _ h]
    unfold hc_f hc_ad
    by_cases h2 : j < v
    · rw [if_pos h2, if_pos (by omega), if_neg h]
    · rw [if_neg h2, if_neg (by omega)]
theorem hc_add {k0 k1 : Nat} {Mb M1 M2 : hw_M} {qa q : Nat} {ad : hp_ad} {v : Nat} {E : hp_ad → Nat → Nat → Option va_E} {cf : Nat → Nat} {e e' : va_E} (hk : k0 ≤ k1) (hL : hc_loc k0 k1 E) (hs : ∀ ad k i, k0 ≤ k → k ≤ k1 → E ad k i ≠ none) (hC : hc_ok k0 k1 Mb M1 ad v E) (hal : hw_alv Mb M1) (hqa : Mb qa ≠ none) (hq : M1 q = none)
    (hcq : cf k0 = q) (hcn : ∀ k, k0 + 1 ≤ k → k ≤ k1 → va_up M1 q (some e) (cf k) = none) (hci : ∀ k j, k0 ≤ k → k ≤ k1 → k0 ≤ j → j ≤ k1 → cf k = cf j → k = j) (hce : ∀ k, k0 ≤ k → k ≤ k1 → M2 (cf k) = E (fun k _ => cf k) k v)
    (hF : ∀ x, va_up M1 q (some e) x ≠ none → x ≠ q → M2 x = va_up M1 q (some e) x) : hc_ok k0 k1 Mb (va_up M2 qa (some e')) (hc_ad ad v cf) (v + 1) E := by
  have hcn1 : ∀ k, k0 ≤ k → k ≤ k1 → M1 (cf k) = none := fun k h1 h2 => by
    rcases Nat.eq_or_lt_of_le h1 with z | z
    · rw [← z, hcq]; exact hq
    · exact (hw_fr (hcn k z h2)).1
  have hnew : ∀ k i, k0 ≤ k → k ≤ k1 → i < v + 1 → i ≠ v → i < v := fun _ _ _ _ h h2 => by omega
  constructor
  · intro k i h1 h2 h3
    by_cases hi : i = v
    · subst hi
      have e1 : hc_ad ad i cf k i = cf k := if_pos rfl
      have hb : Mb (cf k) = none := hal.n (hcn1 k h1 h2)
      have hv : va_up M2 qa (some e') (cf k) = E (hc_ad ad i cf) k i := by
        rw [va_up_ne _ _ (Ne.symm (hw_xn hqa hb)), hce k h1 h2]
        exact hL _ _ k i h1 h2 (fun k' _ _ => (if_pos rfl).symm)
      rw [e1]
      exact ⟨hv, hb, by rw [hv]; exact hs _ _ _ h1 h2⟩
    · have e1 : hc_ad ad v cf k i = ad k i := if_neg hi
      obtain ⟨g1, g2, g3⟩ := hC.1 k i h1 h2 (hnew k i h1 h2 h3 hi)
      have hxq : ad k i ≠ q := hw_xn g3 hq
      have hw : va_up M1 q (some e) (ad k i) = M1 (ad k i) := va_up_ne _ _ hxq
      have hv : va_up M2 qa (some e') (ad k i) = E (hc_ad ad v cf) k i := by
        rw [va_up_ne _ _ (Ne.symm (hw_xn hqa g2)), hF _ (by rw [hw]; exact g3) hxq, hw, g1]
        exact hL _ _ k i h1 h2 (fun k' _ _ => (if_neg hi).symm)
      rw [e1]
      exact ⟨hv, g2, by rw [hv]; exact hs _ _ _ h1 h2⟩
  · intro k i k' i' h1 h2 h3 h1' h2' h3' h
    by_cases hi : i = v
    · by_cases hi' : i' = v
      · rw [hi, hi'] at h
        rw [show hc_ad ad v cf k v = cf k from if_pos rfl, show hc_ad ad v cf k' v = cf k' from if_pos rfl] at h
        exact ⟨hci k k' h1 h2 h1' h2' h, by rw [hi, hi']⟩
      · rw [hi] at h
        rw [show hc_ad ad v cf k v = cf k from if_pos rfl, show hc_ad ad v cf k' i' = ad k' i' from if_neg hi'] at h
        exact absurd h.symm (hw_xn (hC.1 k' i' h1' h2' (hnew k' i' h1' h2' h3' hi')).2.2 (hcn1 k h1 h2))
    · by_cases hi' : i' = v
      · rw [hi'] at h
        rw [show hc_ad ad v cf k i = ad k i from if_neg hi, show hc_ad ad v cf k' v = cf k' from if_pos rfl] at h
        exact absurd h (hw_xn (hC.1 k i h1 h2 (hnew k i h1 h2 h3 hi)).2.2 (hcn1 k' h1' h2'))
      · rw [show hc_ad ad v cf k i = ad k i from if_neg hi, show hc_ad ad v cf k' i' = ad k' i' from if_neg hi'] at h
        exact hC.2 k i k' i' h1 h2 (hnew k i h1 h2 h3 hi) h1' h2' (hnew k' i' h1' h2' h3' hi') h
theorem hc_frame {Mb M1 M2 : hw_M} {qa q : Nat} {e e' : va_E} (hal : hw_alv Mb M1) (hq : M1 q = none) (hF1 : ∀ x, Mb x ≠ none → x ≠ qa → M1 x = Mb x) (hF : ∀ x, va_up M1 q (some e) x ≠ none → x ≠ q → M2 x = va_up M1 q (some e) x) : ∀ x, Mb x ≠ none → x ≠ qa → va_up M2 qa (some e') x = Mb x := fun x hx hxa => by
  have h1 := hal x hx
  have h2 := hw_xn h1 hq
  rw [va_up_ne _ _ hxa, hF x (by rw [va_up_ne _ _ h2]; exact h1) h2, va_up_ne _ _ h2, hF1 x hx hxa]
def hc_E (Z : hw_Z) : hp_ad → Nat → Nat → Option va_E := fun ad k i => hp_e Z ad hs_0 hp_T0 k i
theorem hc_s (Z : hw_Z) (ad : hp_ad) (k i : Nat) : hc_E Z ad k i ≠ none := by
  unfold hc_E
  rcases k with _ | _ | _ | _ | _ | _ | _ | _ | _ | _ | k
  · rcases i with _ | _ | _ | _ | _ | _ | _ | _ | _ | i <;> exact fun q => by cases q
  all_goals exact fun q => by cases q
theorem hc_l1 (Z : hw_Z) : hc_loc 1 7 (hc_E Z) := by
  intro ad ad' k i h1 h2 h
  have e2 := h 2 (by decide) (by decide); have e3 := h 3 (by decide) (by decide); have e4 := h 4 (by decide) (by decide); have e5 := h 5 (by decide) (by decide); have e6 := h 6 (by decide) (by decide); have e7 := h 7 (by decide) (by decide)
  rcases (show k = 1 ∨ k = 2 ∨ k = 3 ∨ k = 4 ∨ k = 5 ∨ k = 6 ∨ k = 7 by omega) with rfl | rfl | rfl | rfl | rfl | rfl | rfl
  · show hw_ob 3 [.int (nI i), .ref (ad 2 i), .ref (ad 6 i), _, _, _, _, .null, _, _, _, _, _] = hw_ob 3 [.int (nI i), .ref (ad' 2 i), .ref (ad' 6 i), _, _, _, _, .null, _, _, _, _, _]
    rw [e2, e6]
  · show hw_ob 5 [.ref (ad 3 i), .ref (ad 4 i), .ref (ad 5 i)] = hw_ob 5 [.ref (ad' 3 i), .ref (ad' 4 i), .ref (ad' 5 i)]
    rw [e3, e4, e5]
  · rfl
  · rfl
  · rfl
  · show hw_ob 2 [.ref (ad 7 i), _, _] = hw_ob 2 [.ref (ad' 7 i), _, _]
    rw [e7]
  · rfl
theorem hc_l8 (Z : hw_Z) : hc_loc 8 8 (hc_E Z) := by
  intro ad ad' k i h1 h2 h
  rcases (show k = 8 by omega) with rfl
  rfl
theorem hc_l9 (Z : hw_Z) : hc_loc 9 10 (hc_E Z) := by
  intro ad ad' k i h1 h2 h
  have e := h 10 (by decide) (by decide)
  rcases (show k = 9 ∨ k = 10 by omega) with rfl | rfl
  · show hw_ob 1 [_, _, .null, _, .null, .ref (ad 10 i), _] = hw_ob 1 [_, _, .null, _, .null, .ref (ad' 10 i), _]
    rw [e]
  · rfl
theorem hw_iv.exq {Z : hw_Z} {s : State} {M : hw_M} {H : Heap} {locs : List Loc} {a k n : Nat} {f : Nat → Option Nat} (g : Nat → Option Nat) (hI : hw_iv Z s M H locs) (he : M a = hw_ar Z k n f) (h : ∀ j, j < n → f j = g j) : hw_iv Z s (va_up M a (hw_ar Z k n g)) H locs :=
  ⟨hI.1.ext he (fun q => by
    have e : vp_cell (Z.2.1 k) (n, .inr (.inr (.inr (.inr f)))) = vp_cell (Z.2.1 k) (n, .inr (.inr (.inr (.inr g)))) := by
      rw [vp_cell_q, vp_cell_q]
      exact hw_arr (fun j hj => by rw [h j hj])
    show H[a]? = some (vp_cell (Z.2.1 k) (n, .inr (.inr (.inr (.inr g)))))
    rw [← e]; exact q), hI.2⟩
def hc_all (c0 : Nat → Nat) (adp adw adm : hp_ad) : hp_ad := fun k i => if k = 0 then c0 i else if k ≤ 7 then adp k i else if k = 8 then adw k i else adm k i
theorem hc_full {k0 k1 : Nat} {Mb M1 M2 : hw_M} {qa n : Nat} {ad : hp_ad} {E : hp_ad → Nat → Nat → Option va_E} {e : Option va_E} (_ : k0 ≤ k1) (hC : hc_ok k0 k1 Mb M1 ad n E) (hqa : Mb qa ≠ none) (h : M2 = va_up M1 qa e) : hc_ok k0 k1 Mb M2 ad n E :=
  ⟨fun k i h1 h2 h3 => by
    obtain ⟨g1, g2, g3⟩ := hC.1 k i h1 h2 h3
    have hx : ad k i ≠ qa := Ne.symm (hw_xn hqa g2)
    rw [h, va_up_ne _ _ hx]
    exact ⟨g1, g2, g3⟩, hC.2⟩
theorem hc_make {Z : hw_Z} {M Mb Mp Mw Mf : hw_M} {c0 : Nat → Nat} {adp adw adm : hp_ad} (hal : hw_alv M Mb) (h0n : ∀ i, 1 ≤ i → i < 10 → M (c0 i) = none) (h0i : ∀ i j, i < 10 → j < 10 → c0 i = c0 j → i = j) (h0b : ∀ i, i < 10 → Mb (c0 i) ≠ none)
    (g1 : hc_ok 1 7 Mb Mp adp 4 (hc_E Z)) (f1 : ∀ x, Mb x ≠ none → x ≠ c0 1 → Mp x = Mb x) (p1 : Mp (c0 1) ≠ none) (g2 : hc_ok 8 8 Mp Mw adw 6 (hc_E Z)) (f2 : ∀ x, Mp x ≠ none → x ≠ c0 2 → Mw x = Mp x) (p2 : Mw (c0 2) ≠ none) (g3 : hc_ok 9 10 Mw Mf adm 2 (hc_E Z)) (f3 : ∀ x, Mw x ≠ none → x ≠ c0 3 → Mf x = Mw x)
    (h00 : ∀ i, i < 10 → Mf (c0 i) = hp_e Z (hc_all c0 adp adw adm) hs_0 hp_T0 0 i) : hp_ok Z (fun x => M x ≠ none ∧ x ≠ c0 0) Mf (hc_all c0 adp adw adm) hs_0 hp_T0 := by
  have al1 : hw_alv Mb Mp := fun x hx => by
    by_cases z : x = c0 1
    · rw [z]; exact p1
    · rw [f1 x hx z]; exact hx
  have al2 : hw_alv Mp Mw := fun x hx => by
    by_cases z : x = c0 2
    · rw [z]; exact p2
    · rw [f2 x hx z]; exact hx
  have e0 : ∀ i, hc_all c0 adp adw adm 0 i = c0 i := fun i => if_pos rfl
  have e1 : ∀ k i, 1 ≤ k → k ≤ 7 → hc_all c0 adp adw adm k i = adp k i := fun k i h1 h2 => (if_neg (by omega)).trans (if_pos h2)
  have e2 : ∀ i, hc_all c0 adp adw adm 8 i = adw 8 i := fun i => (if_neg (by decide)).trans ((if_neg (by decide)).trans (if_pos rfl))
  have e3 : ∀ k i, 9 ≤ k → k ≤ 10 → hc_all c0 adp adw adm k i = adm k i := fun k i h1 h2 => (if_neg (by omega)).trans ((if_neg (by omega)).trans (if_neg (by omega)))
  have ni : ∀ k i, i < hp_n k → (k = 0 ∧ i < 10) ∨ (1 ≤ k ∧ k ≤ 7 ∧ i < 4) ∨ (k = 8 ∧ i < 6) ∨ (9 ≤ k ∧ k ≤ 10 ∧ i < 2) := by
    intro k i h
    have := hp_k h
    rcases (show k = 0 ∨ k = 1 ∨ k = 2 ∨ k = 3 ∨ k = 4 ∨ k = 5 ∨ k = 6 ∨ k = 7 ∨ k = 8 ∨ k = 9 ∨ k = 10 by omega) with rfl | rfl | rfl | rfl | rfl | rfl | rfl | rfl | rfl | rfl | rfl <;> simp only [hp_n] at h <;> omega
  -- what is new in a zone wasn't there before it
  have n1 : ∀ k i, 1 ≤ k → k ≤ 7 → i < 4 → Mb (adp k i) = none := fun k i h1 h2 h3 => (g1.1 k i h1 h2 h3).2.1
  have n2 : ∀ i, i < 6 → Mp (adw 8 i) = none := fun i h3 => (g2.1 8 i (by decide) (by decide) h3).2.1
  have n3 : ∀ k i, 9 ≤ k → k ≤ 10 → i < 2 → Mw (adm k i) = none := fun k i h1 h2 h3 => (g3.1 k i h1 h2 h3).2.1
  have a1 : ∀ k i, 1 ≤ k → k ≤ 7 → i < 4 → Mp (adp k i) ≠ none := fun k i h1 h2 h3 => (g1.1 k i h1 h2 h3).2.2
  have a2 : ∀ i, i < 6 → Mw (adw 8 i) ≠ none := fun i h3 => (g2.1 8 i (by decide) (by decide) h3).2.2
  refine ⟨?_, ?_, ?_, rfl, rfl⟩
  · intro k i h
    rcases ni k i h with ⟨rfl, h2⟩ | ⟨h1, h2, h3⟩ | ⟨rfl, h3⟩ | ⟨h1, h2, h3⟩
    · rw [e0]; exact h00 i h2
    · rw [e1 k i h1 h2, f3 _ (al2 _ (a1 k i h1 h2 h3)) (Ne.symm (hw_xn (h0b 3 (by decide)) (n1 k i h1 h2 h3))), f2 _ (a1 k i h1 h2 h3) (Ne.symm (hw_xn (h0b 2 (by decide)) (n1 k i h1 h2 h3))), (g1.1 k i h1 h2 h3).1]
      exact hc_l1 Z _ _ k i h1 h2 (fun k' q1 q2 => (e1 k' i q1 q2).symm)
    · rw [e2, f3 _ (a2 i h3) (Ne.symm (hw_xn (al1 _ (h0b 3 (by decide))) (n2 i h3))), (g2.1 8 i (by decide) (by decide) h3).1]
      refine hc_l8 Z _ _ 8 i (by decide) (by decide) (fun k' q1 q2 => ?_)
      have hk : k' = 8 := by omega
      subst hk
      exact (e2 i).symm
    · rw [e3 k i h1 h2, (g3.1 k i h1 h2 h3).1]
      exact hc_l9 Z _ _ k i h1 h2 (fun k' q1 q2 => (e3 k' i q1 q2).symm)
  · intro k i k' i' h h' he
    rcases ni k i h with ⟨rfl, h2⟩ | ⟨h1, h2, h3⟩ | ⟨rfl, h3⟩ | ⟨h1, h2, h3⟩ <;> rcases ni k' i' h' with ⟨rfl, j2⟩ | ⟨j1, j2, j3⟩ | ⟨rfl, j3⟩ | ⟨j1, j2, j3⟩
    · rw [e0, e0] at he; exact ⟨rfl, h0i i i' h2 j2 he⟩
    · rw [e0, e1 _ _ j1 j2] at he; exact absurd he (hw_xn (h0b i h2) (n1 _ _ j1 j2 j3))
    · rw [e0, e2] at he; exact absurd he (hw_xn (al1 _ (h0b i h2)) (n2 _ j3))
    · rw [e0, e3 _ _ j1 j2] at he; exact absurd he (hw_xn (al2 _ (al1 _ (h0b i h2))) (n3 _ _ j1 j2 j3))
    · rw [e0, e1 _ _ h1 h2] at he; exact absurd he.symm (hw_xn (h0b i' j2) (n1 _ _ h1 h2 h3))
    · rw [e1 _ _ h1 h2, e1 _ _ j1 j2] at he; exact g1.2 k i k' i' h1 h2 h3 j1 j2 j3 he
    · rw [e1 _ _ h1 h2, e2] at he; exact absurd he (hw_xn (a1 _ _ h1 h2 h3) (n2 _ j3))
    · rw [e1 _ _ h1 h2, e3 _ _ j1 j2] at he; exact absurd he (hw_xn (al2 _ (a1 _ _ h1 h2 h3)) (n3 _ _ j1 j2 j3))
    · rw [e0, e2] at he; exact absurd he.symm (hw_xn (al1 _ (h0b i' j2)) (n2 _ h3))
    · rw [e2, e1 _ _ j1 j2] at he; exact absurd he.symm (hw_xn (a1 _ _ j1 j2 j3) (n2 _ h3))
    · rw [e2, e2] at he; exact ⟨rfl, (g2.2 8 i 8 i' (by decide) (by decide) h3 (by decide) (by decide) j3 he).2⟩
    · rw [e2, e3 _ _ j1 j2] at he; exact absurd he (hw_xn (a2 _ h3) (n3 _ _ j1 j2 j3))
    · rw [e0, e3 _ _ h1 h2] at he; exact absurd he.symm (hw_xn (al2 _ (al1 _ (h0b i' j2))) (n3 _ _ h1 h2 h3))
    · rw [e3 _ _ h1 h2, e1 _ _ j1 j2] at he; exact absurd he.symm (hw_xn (al2 _ (a1 _ _ j1 j2 j3)) (n3 _ _ h1 h2 h3))
    · rw [e2, e3 _ _ h1 h2] at he; exact absurd he.symm (hw_xn (a2 _ j3) (n3 _ _ h1 h2 h3))
    · rw [e3 _ _ h1 h2, e3 _ _ j1 j2] at he; exact g3.2 k i k' i' h1 h2 h3 j1 j2 j3 he
  · intro k i h ⟨q1, q2⟩
    rcases ni k i h with ⟨rfl, h2⟩ | ⟨h1, h2, h3⟩ | ⟨rfl, h3⟩ | ⟨h1, h2, h3⟩
    · rw [e0] at q1 q2
      rcases Nat.eq_zero_or_pos i with z | z
      · exact q2 (by rw [z])
      · exact q1 (h0n i z h2)
    · rw [e1 _ _ h1 h2] at q1; exact hal _ q1 (n1 _ _ h1 h2 h3)
    · rw [e2] at q1; exact al1 _ (hal _ q1) (n2 _ h3)
    · rw [e3 _ _ h1 h2] at q1; exact al2 _ (al1 _ (hal _ q1)) (n3 _ _ h1 h2 h3)
theorem hw_wr {p : Program} {l : Launch} {e : Env} {R : Room} {s : State} {m : MethodId} {args : Array Value} {below : List Frame} {meth : Method} {c : Code} {H : Heap} {locs : List Loc} {cells slots cells1 slots1 : Nat} {Q : State → Prop} {g : JFrame} (h1 : cells = cells1) (h2 : slots = slots1) (k : W p l e R s m args below meth c H locs cells1 slots1 Q g) : W p l e R s m args below meth c H locs cells slots Q g := by
  subst h1
  subst h2
  exact k
