/-! The state of a hall, and the class's cells that hold it. -/
/-- pieces' ints, pieces' layers done, powders' ints, machines' ints, proofs' counts, proofs, cells, warmth, curl, numbers of the hall, how many pieces and powders -/
abbrev hs_S : Type := (Nat → Nat → Int32) × (Nat → Nat) × (Nat → Nat → Int32) × (Nat → Nat → Int32) × (Nat → Nat) × (Nat → Nat → Int32) × (Nat → Nat → Int64) × (Nat → Nat → UInt64) × (Nat → UInt64) × (Nat → Int32) × Nat × Nat
def hs_P (S : hs_S) : Nat → Nat → Int32 := S.1
def hs_D (S : hs_S) : Nat → Nat := S.2.1
def hs_V (S : hs_S) : Nat → Nat → Int32 := S.2.2.1
def hs_M (S : hs_S) : Nat → Nat → Int32 := S.2.2.2.1
def hs_N (S : hs_S) : Nat → Nat := S.2.2.2.2.1
def hs_Q (S : hs_S) : Nat → Nat → Int32 := S.2.2.2.2.2.1
def hs_C (S : hs_S) : Nat → Nat → Int64 := S.2.2.2.2.2.2.1
def hs_W (S : hs_S) : Nat → Nat → UInt64 := S.2.2.2.2.2.2.2.1
def hs_U (S : hs_S) : Nat → UInt64 := S.2.2.2.2.2.2.2.2.1
def hs_G (S : hs_S) : Nat → Int32 := S.2.2.2.2.2.2.2.2.2.1
def hs_np (S : hs_S) : Nat := S.2.2.2.2.2.2.2.2.2.2.1
def hs_nw (S : hs_S) : Nat := S.2.2.2.2.2.2.2.2.2.2.2
def hs_mk (P : Nat → Nat → Int32) (D : Nat → Nat) (V M : Nat → Nat → Int32) (N : Nat → Nat) (Q : Nat → Nat → Int32) (C : Nat → Nat → Int64) (Wm : Nat → Nat → UInt64) (U : Nat → UInt64) (G : Nat → Int32) (np nw : Nat) : hs_S := (P, D, V, M, N, Q, C, Wm, U, G, np, nw)
-- the setters
def hs_sP (S : hs_S) (i : Nat) (r : Nat → Int32) : hs_S := hs_mk (va_up (hs_P S) i r) (hs_D S) (hs_V S) (hs_M S) (hs_N S) (hs_Q S) (hs_C S) (hs_W S) (hs_U S) (hs_G S) (hs_np S) (hs_nw S)
def hs_sD (S : hs_S) (i n : Nat) : hs_S := hs_mk (hs_P S) (va_up (hs_D S) i n) (hs_V S) (hs_M S) (hs_N S) (hs_Q S) (hs_C S) (hs_W S) (hs_U S) (hs_G S) (hs_np S) (hs_nw S)
def hs_sV (S : hs_S) (i : Nat) (r : Nat → Int32) : hs_S := hs_mk (hs_P S) (hs_D S) (va_up (hs_V S) i r) (hs_M S) (hs_N S) (hs_Q S) (hs_C S) (hs_W S) (hs_U S) (hs_G S) (hs_np S) (hs_nw S)
def hs_sM (S : hs_S) (i : Nat) (r : Nat → Int32) : hs_S := hs_mk (hs_P S) (hs_D S) (hs_V S) (va_up (hs_M S) i r) (hs_N S) (hs_Q S) (hs_C S) (hs_W S) (hs_U S) (hs_G S) (hs_np S) (hs_nw S)
def hs_sN (S : hs_S) (i n : Nat) : hs_S := hs_mk (hs_P S) (hs_D S) (hs_V S) (hs_M S) (va_up (hs_N S) i n) (hs_Q S) (hs_C S) (hs_W S) (hs_U S) (hs_G S) (hs_np S) (hs_nw S)
def hs_sQ (S : hs_S) (i : Nat) (r : Nat → Int32) : hs_S := hs_mk (hs_P S) (hs_D S) (hs_V S) (hs_M S) (hs_N S) (va_up (hs_Q S) i r) (hs_C S) (hs_W S) (hs_U S) (hs_G S) (hs_np S) (hs_nw S)
def hs_sC (S : hs_S) (i : Nat) (r : Nat → Int64) : hs_S := hs_mk (hs_P S) (hs_D S) (hs_V S) (hs_M S) (hs_N S) (hs_Q S) (va_up (hs_C S) i r) (hs_W S) (hs_U S) (hs_G S) (hs_np S) (hs_nw S)
def hs_sW (S : hs_S) (i : Nat) (r : Nat → UInt64) : hs_S := hs_mk (hs_P S) (hs_D S) (hs_V S) (hs_M S) (hs_N S) (hs_Q S) (hs_C S) (va_up (hs_W S) i r) (hs_U S) (hs_G S) (hs_np S) (hs_nw S)
def hs_sU (S : hs_S) (i : Nat) (x : UInt64) : hs_S := hs_mk (hs_P S) (hs_D S) (hs_V S) (hs_M S) (hs_N S) (hs_Q S) (hs_C S) (hs_W S) (va_up (hs_U S) i x) (hs_G S) (hs_np S) (hs_nw S)
def hs_sG (S : hs_S) (r : Nat → Int32) : hs_S := hs_mk (hs_P S) (hs_D S) (hs_V S) (hs_M S) (hs_N S) (hs_Q S) (hs_C S) (hs_W S) (hs_U S) r (hs_np S) (hs_nw S)
def hs_sp (S : hs_S) (n : Nat) : hs_S := hs_mk (hs_P S) (hs_D S) (hs_V S) (hs_M S) (hs_N S) (hs_Q S) (hs_C S) (hs_W S) (hs_U S) (hs_G S) n (hs_nw S)
def hs_sw (S : hs_S) (n : Nat) : hs_S := hs_mk (hs_P S) (hs_D S) (hs_V S) (hs_M S) (hs_N S) (hs_Q S) (hs_C S) (hs_W S) (hs_U S) (hs_G S) (hs_np S) n
-- the class's cells: kind and number to address
abbrev hp_ad : Type := Nat → Nat → Nat
/-- the trial's contents: cells, hanging, support, warmth, lacks, holes -/
abbrev hp_T : Type := (Nat → Int64) × (Nat → Int64) × (Nat → Int64) × (Nat → UInt64) × Int32 × Int32
def hp_ref (ad : Nat → Nat) (x : Int32) : Value := if x = -1 then .null else .ref (ad (hb_ix x))
def hp_n : Nat → Nat
  | 0 => 10
  | 1 => 4
  | 2 => 4
  | 3 => 4
  | 4 => 4
  | 5 => 4
  | 6 => 4
  | 7 => 4
  | 8 => 6
  | 9 => 2
  | 10 => 2
  | _ => 0
def hp_e0 (Z : hw_Z) (ad : hp_ad) (S : hs_S) (T : hp_T) : Nat → Option va_E
  | 0 => hw_ob 6 [.ref (ad 0 1), .ref (ad 0 2), .ref (ad 0 3), .int (nI (hs_np S)), .int (nI (hs_nw S)), .int (hs_G S 0), .int (hs_G S 1), .ref (ad 0 4), .ref (ad 0 8)]
  | 1 => hw_ar Z 3 4 (fun j => some (ad 1 j))
  | 2 => hw_ar Z 4 6 (fun j => some (ad 8 j))
  | 3 => hw_ar Z 5 2 (fun j => some (ad 9 j))
  | 4 => hw_ob 5 [.ref (ad 0 5), .ref (ad 0 6), .ref (ad 0 7)]
  | 5 => hw_al Z 8 T.1
  | 6 => hw_al Z 8 T.2.1
  | 7 => hw_al Z 8 T.2.2.1
  | 8 => hw_ob 2 [.ref (ad 0 9), .int T.2.2.2.2.1, .int T.2.2.2.2.2]
  | _ => hw_ad Z 64 T.2.2.2.1
def hp_e (Z : hw_Z) (ad : hp_ad) (S : hs_S) (T : hp_T) : Nat → Nat → Option va_E
  | 0, i => hp_e0 Z ad S T i
  | 1, i => hw_ob 3 [.int (nI i), .ref (ad 2 i), .ref (ad 6 i), .int (hs_P S i 0), .int (nI (hs_D S i)), .double (hs_U S i), .int (hs_P S i 3), hp_ref (ad 9) (hs_P S i 4), .int (hs_P S i 5), .int (hs_P S i 6), .int (hs_P S i 7), .int (hs_P S i 8), .int (hs_P S i 9)]
  | 2, i => hw_ob 5 [.ref (ad 3 i), .ref (ad 4 i), .ref (ad 5 i)]
  | 3, i => hw_al Z 8 (hs_C S i)
  | 4, i => hw_al Z 8 (hb_hang (hs_C S i))
  | 5, i => hw_al Z 8 (hb_supp (hs_C S i))
  | 6, i => hw_ob 2 [.ref (ad 7 i), .int (hs_P S i 1), .int (hs_P S i 2)]
  | 7, i => hw_ad Z 64 (hs_W S i)
  | 8, i => hw_ob 4 [.int (nI i), .int (hs_V S i 0), .int (hs_V S i 1), .int (hs_V S i 2), .int (hs_V S i 3), .int (hs_V S i 4)]
  | 9, i => hw_ob 1 [.int (nI i), .int (hs_M S i 0), hp_ref (ad 8) (hs_M S i 1), .int (hs_M S i 2), hp_ref (ad 1) (hs_M S i 3), .ref (ad 10 i), .int (nI (hs_N S i))]
  | _, i => hw_ai Z 4 (hs_Q S i)
/-- the class's cells hold the state S; they lie below b1 -/
def hp_ok (Z : hw_Z) (b1 : Nat → Prop) (M : hw_M) (ad : hp_ad) (S : hs_S) (T : hp_T) : Prop :=
  (∀ k i, i < hp_n k → M (ad k i) = hp_e Z ad S T k i) ∧ (∀ k i k' i', i < hp_n k → i' < hp_n k' → ad k i = ad k' i' → k = k' ∧ i = i') ∧ (∀ k i, i < hp_n k → ¬ b1 (ad k i)) ∧ T.2.1 0 = 0 ∧ T.2.2.1 7 = 0
theorem hp_ok.m {Z b1 M ad S T} (h : hp_ok Z b1 M ad S T) (k i : Nat) (hi : i < hp_n k) : M (ad k i) = hp_e Z ad S T k i := h.1 k i hi
theorem hp_ok.n {Z b1 M ad S T} (h : hp_ok Z b1 M ad S T) {k i k' i' : Nat} (hi : i < hp_n k) (hi' : i' < hp_n k') (hne : ¬ (k = k' ∧ i = i')) : ad k i ≠ ad k' i' := fun q => hne (h.2.1 k i k' i' hi hi' q)
/-- behind the writes: what is asked of the new world, the trial and the rest -/
theorem hp_ok.fin {Z b1 M ad S T} (h : hp_ok Z b1 M ad S T) {M' : hw_M} {S' : hs_S} {T' : hp_T} (h1 : ∀ k i, i < hp_n k → M' (ad k i) = hp_e Z ad S' T' k i) (h2 : T'.2.1 0 = 0) (h3 : T'.2.2.1 7 = 0) : hp_ok Z b1 M' ad S' T' := ⟨h1, h.2.1, h.2.2.1, h2, h3⟩
theorem hp_hang0 (C : Nat → Int64) : hb_hang C 0 = 0 := rfl
theorem hp_supp7 (C : Nat → Int64) : hb_supp C 7 = 0 := rfl
theorem hp_refn {ad : Nat → Nat} {x : Int32} (h : x = -1) : hp_ref ad x = .null := if_pos h
theorem hp_refs {ad : Nat → Nat} {x : Int32} (h : ¬ x = -1) : hp_ref ad x = .ref (ad (hb_ix x)) := if_neg h
-- what an accessor says behind a setter
theorem ac_P_P (S : hs_S) (j : Nat) (r : Nat → Int32) : hs_P (hs_sP S j r) = va_up (hs_P S) j r := rfl
theorem ac_D_P (S : hs_S) (j : Nat) (r : Nat → Int32) : hs_D (hs_sP S j r) = hs_D S := rfl
theorem ac_V_P (S : hs_S) (j : Nat) (r : Nat → Int32) : hs_V (hs_sP S j r) = hs_V S := rfl
theorem ac_M_P (S : hs_S) (j : Nat) (r : Nat → Int32) : hs_M (hs_sP S j r) = hs_M S := rfl
theorem ac_N_P (S : hs_S) (j : Nat) (r : Nat → Int32) : hs_N (hs_sP S j r) = hs_N S := rfl
theorem ac_Q_P (S : hs_S) (j : Nat) (r : Nat → Int32) : hs_Q (hs_sP S j r) = hs_Q S := rfl
theorem ac_C_P (S : hs_S) (j : Nat) (r : Nat → Int32) : hs_C (hs_sP S j r) = hs_C S := rfl
theorem ac_W_P (S : hs_S) (j : Nat) (r : Nat → Int32) : hs_W (hs_sP S j r) = hs_W S := rfl
theorem ac_U_P (S : hs_S) (j : Nat) (r : Nat → Int32) : hs_U (hs_sP S j r) = hs_U S := rfl
theorem ac_G_P (S : hs_S) (j : Nat) (r : Nat → Int32) : hs_G (hs_sP S j r) = hs_G S := rfl
theorem ac_np_P (S : hs_S) (j : Nat) (r : Nat → Int32) : hs_np (hs_sP S j r) = hs_np S := rfl
theorem ac_nw_P (S : hs_S) (j : Nat) (r : Nat → Int32) : hs_nw (hs_sP S j r) = hs_nw S := rfl
theorem ac_P_D (S : hs_S) (j n : Nat) : hs_P (hs_sD S j n) = hs_P S := rfl
theorem ac_D_D (S : hs_S) (j n : Nat) : hs_D (hs_sD S j n) = va_up (hs_D S) j n := rfl
theorem ac_V_D (S : hs_S) (j n : Nat) : hs_V (hs_sD S j n) = hs_V S := rfl
theorem ac_M_D (S : hs_S) (j n : Nat) : hs_M (hs_sD S j n) = hs_M S := rfl
theorem ac_N_D (S : hs_S) (j n : Nat) : hs_N (hs_sD S j n) = hs_N S := rfl
theorem ac_Q_D (S : hs_S) (j n : Nat) : hs_Q (hs_sD S j n) = hs_Q S := rfl
theorem ac_C_D (S : hs_S) (j n : Nat) : hs_C (hs_sD S j n) = hs_C S := rfl
theorem ac_W_D (S : hs_S) (j n : Nat) : hs_W (hs_sD S j n) = hs_W S := rfl
theorem ac_U_D (S : hs_S) (j n : Nat) : hs_U (hs_sD S j n) = hs_U S := rfl
theorem ac_G_D (S : hs_S) (j n : Nat) : hs_G (hs_sD S j n) = hs_G S := rfl
theorem ac_np_D (S : hs_S) (j n : Nat) : hs_np (hs_sD S j n) = hs_np S := rfl
theorem ac_nw_D (S : hs_S) (j n : Nat) : hs_nw (hs_sD S j n) = hs_nw S := rfl
theorem ac_P_V (S : hs_S) (j : Nat) (r : Nat → Int32) : hs_P (hs_sV S j r) = hs_P S := rfl
theorem ac_D_V (S : hs_S) (j : Nat) (r : Nat → Int32) : hs_D (hs_sV S j r) = hs_D S := rfl
theorem ac_V_V (S : hs_S) (j : Nat) (r : Nat → Int32) : hs_V (hs_sV S j r) = va_up (hs_V S) j r := rfl
theorem ac_M_V (S : hs_S) (j : Nat) (r : Nat → Int32) : hs_M (hs_sV S j r) = hs_M S := rfl
theorem ac_N_V (S : hs_S) (j : Nat) (r : Nat → Int32) : hs_N (hs_sV S j r) = hs_N S := rfl
theorem ac_Q_V (S : hs_S) (j : Nat) (r : Nat → Int32) : hs_Q (hs_sV S j r) = hs_Q S := rfl
theorem ac_C_V (S : hs_S) (j : Nat) (r : Nat → Int32) : hs_C (hs_sV S j r) = hs_C S := rfl
theorem ac_W_V (S : hs_S) (j : Nat) (r : Nat → Int32) : hs_W (hs_sV S j r) = hs_W S := rfl
theorem ac_U_V (S : hs_S) (j : Nat) (r : Nat → Int32) : hs_U (hs_sV S j r) = hs_U S := rfl
theorem ac_G_V (S : hs_S) (j : Nat) (r : Nat → Int32) : hs_G (hs_sV S j r) = hs_G S := rfl
theorem ac_np_V (S : hs_S) (j : Nat) (r : Nat → Int32) : hs_np (hs_sV S j r) = hs_np S := rfl
theorem ac_nw_V (S : hs_S) (j : Nat) (r : Nat → Int32) : hs_nw (hs_sV S j r) = hs_nw S := rfl
theorem ac_P_M (S : hs_S) (j : Nat) (r : Nat → Int32) : hs_P (hs_sM S j r) = hs_P S := rfl
theorem ac_D_M (S : hs_S) (j : Nat) (r : Nat → Int32) : hs_D (hs_sM S j r) = hs_D S := rfl
theorem ac_V_M (S : hs_S) (j : Nat) (r : Nat → Int32) : hs_V (hs_sM S j r) = hs_V S := rfl
theorem ac_M_M (S : hs_S) (j : Nat) (r : Nat → Int32) : hs_M (hs_sM S j r) = va_up (hs_M S) j r := rfl
theorem ac_N_M (S : hs_S) (j : Nat) (r : Nat → Int32) : hs_N (hs_sM S j r) = hs_N S := rfl
theorem ac_Q_M (S : hs_S) (j : Nat) (r : Nat → Int32) : hs_Q (hs_sM S j r) = hs_Q S := rfl
theorem ac_C_M (S : hs_S) (j : Nat) (r : Nat → Int32) : hs_C (hs_sM S j r) = hs_C S := rfl
theorem ac_W_M (S : hs_S) (j : Nat) (r : Nat → Int32) : hs_W (hs_sM S j r) = hs_W S := rfl
theorem ac_U_M (S : hs_S) (j : Nat) (r : Nat → Int32) : hs_U (hs_sM S j r) = hs_U S := rfl
theorem ac_G_M (S : hs_S) (j : Nat) (r : Nat → Int32) : hs_G (hs_sM S j r) = hs_G S := rfl
theorem ac_np_M (S : hs_S) (j : Nat) (r : Nat → Int32) : hs_np (hs_sM S j r) = hs_np S := rfl
theorem ac_nw_M (S : hs_S) (j : Nat) (r : Nat → Int32) : hs_nw (hs_sM S j r) = hs_nw S := rfl
theorem ac_P_N (S : hs_S) (j n : Nat) : hs_P (hs_sN S j n) = hs_P S := rfl
theorem ac_D_N (S : hs_S) (j n : Nat) : hs_D (hs_sN S j n) = hs_D S := rfl
theorem ac_V_N (S : hs_S) (j n : Nat) : hs_V (hs_sN S j n) = hs_V S := rfl
theorem ac_M_N (S : hs_S) (j n : Nat) : hs_M (hs_sN S j n) = hs_M S := rfl
theorem ac_N_N (S : hs_S) (j n : Nat) : hs_N (hs_sN S j n) = va_up (hs_N S) j n := rfl
theorem ac_Q_N (S : hs_S) (j n : Nat) : hs_Q (hs_sN S j n) = hs_Q S := rfl
theorem ac_C_N (S : hs_S) (j n : Nat) : hs_C (hs_sN S j n) = hs_C S := rfl
theorem ac_W_N (S : hs_S) (j n : Nat) : hs_W (hs_sN S j n) = hs_W S := rfl
theorem ac_U_N (S : hs_S) (j n : Nat) : hs_U (hs_sN S j n) = hs_U S := rfl
theorem ac_G_N (S : hs_S) (j n : Nat) : hs_G (hs_sN S j n) = hs_G S := rfl
theorem ac_np_N (S : hs_S) (j n : Nat) : hs_np (hs_sN S j n) = hs_np S := rfl
theorem ac_nw_N (S : hs_S) (j n : Nat) : hs_nw (hs_sN S j n) = hs_nw S := rfl
theorem ac_P_Q (S : hs_S) (j : Nat) (r : Nat → Int32) : hs_P (hs_sQ S j r) = hs_P S := rfl
theorem ac_D_Q (S : hs_S) (j : Nat) (r : Nat → Int32) : hs_D (hs_sQ S j r) = hs_D S := rfl
theorem ac_V_Q (S : hs_S) (j : Nat) (r : Nat → Int32) : hs_V (hs_sQ S j r) = hs_V S := rfl
theorem ac_M_Q (S : hs_S) (j : Nat) (r : Nat → Int32) : hs_M (hs_sQ S j r) = hs_M S := rfl
theorem ac_N_Q (S : hs_S) (j : Nat) (r : Nat → Int32) : hs_N (hs_sQ S j r) = hs_N S := rfl
theorem ac_Q_Q (S : hs_S) (j : Nat) (r : Nat → Int32) : hs_Q (hs_sQ S j r) = va_up (hs_Q S) j r := rfl
theorem ac_C_Q (S : hs_S) (j : Nat) (r : Nat → Int32) : hs_C (hs_sQ S j r) = hs_C S := rfl
theorem ac_W_Q (S : hs_S) (j : Nat) (r : Nat → Int32) : hs_W (hs_sQ S j r) = hs_W S := rfl
theorem ac_U_Q (S : hs_S) (j : Nat) (r : Nat → Int32) : hs_U (hs_sQ S j r) = hs_U S := rfl
theorem ac_G_Q (S : hs_S) (j : Nat) (r : Nat → Int32) : hs_G (hs_sQ S j r) = hs_G S := rfl
theorem ac_np_Q (S : hs_S) (j : Nat) (r : Nat → Int32) : hs_np (hs_sQ S j r) = hs_np S := rfl
theorem ac_nw_Q (S : hs_S) (j : Nat) (r : Nat → Int32) : hs_nw (hs_sQ S j r) = hs_nw S := rfl
theorem ac_P_C (S : hs_S) (j : Nat) (r : Nat → Int64) : hs_P (hs_sC S j r) = hs_P S := rfl
theorem ac_D_C (S : hs_S) (j : Nat) (r : Nat → Int64) : hs_D (hs_sC S j r) = hs_D S := rfl
theorem ac_V_C (S : hs_S) (j : Nat) (r : Nat → Int64) : hs_V (hs_sC S j r) = hs_V S := rfl
theorem ac_M_C (S : hs_S) (j : Nat) (r : Nat → Int64) : hs_M (hs_sC S j r) = hs_M S := rfl
theorem ac_N_C (S : hs_S) (j : Nat) (r : Nat → Int64) : hs_N (hs_sC S j r) = hs_N S := rfl
theorem ac_Q_C (S : hs_S) (j : Nat) (r : Nat → Int64) : hs_Q (hs_sC S j r) = hs_Q S := rfl
theorem ac_C_C (S : hs_S) (j : Nat) (r : Nat → Int64) : hs_C (hs_sC S j r) = va_up (hs_C S) j r := rfl
theorem ac_W_C (S : hs_S) (j : Nat) (r : Nat → Int64) : hs_W (hs_sC S j r) = hs_W S := rfl
theorem ac_U_C (S : hs_S) (j : Nat) (r : Nat → Int64) : hs_U (hs_sC S j r) = hs_U S := rfl
theorem ac_G_C (S : hs_S) (j : Nat) (r : Nat → Int64) : hs_G (hs_sC S j r) = hs_G S := rfl
theorem ac_np_C (S : hs_S) (j : Nat) (r : Nat → Int64) : hs_np (hs_sC S j r) = hs_np S := rfl
theorem ac_nw_C (S : hs_S) (j : Nat) (r : Nat → Int64) : hs_nw (hs_sC S j r) = hs_nw S := rfl
theorem ac_P_W (S : hs_S) (j : Nat) (r : Nat → UInt64) : hs_P (hs_sW S j r) = hs_P S := rfl
theorem ac_D_W (S : hs_S) (j : Nat) (r : Nat → UInt64) : hs_D (hs_sW S j r) = hs_D S := rfl
theorem ac_V_W (S : hs_S) (j : Nat) (r : Nat → UInt64) : hs_V (hs_sW S j r) = hs_V S := rfl
theorem ac_M_W (S : hs_S) (j : Nat) (r : Nat → UInt64) : hs_M (hs_sW S j r) = hs_M S := rfl
theorem ac_N_W (S : hs_S) (j : Nat) (r : Nat → UInt64) : hs_N (hs_sW S j r) = hs_N S := rfl
theorem ac_Q_W (S : hs_S) (j : Nat) (r : Nat → UInt64) : hs_Q (hs_sW S j r) = hs_Q S := rfl
theorem ac_C_W (S : hs_S) (j : Nat) (r : Nat → UInt64) : hs_C (hs_sW S j r) = hs_C S := rfl
theorem ac_W_W (S : hs_S) (j : Nat) (r : Nat → UInt64) : hs_W (hs_sW S j r) = va_up (hs_W S) j r := rfl
theorem ac_U_W (S : hs_S) (j : Nat) (r : Nat → UInt64) : hs_U (hs_sW S j r) = hs_U S := rfl
theorem ac_G_W (S : hs_S) (j : Nat) (r : Nat → UInt64) : hs_G (hs_sW S j r) = hs_G S := rfl
theorem ac_np_W (S : hs_S) (j : Nat) (r : Nat → UInt64) : hs_np (hs_sW S j r) = hs_np S := rfl
theorem ac_nw_W (S : hs_S) (j : Nat) (r : Nat → UInt64) : hs_nw (hs_sW S j r) = hs_nw S := rfl
theorem ac_P_U (S : hs_S) (j : Nat) (r : UInt64) : hs_P (hs_sU S j r) = hs_P S := rfl
theorem ac_D_U (S : hs_S) (j : Nat) (r : UInt64) : hs_D (hs_sU S j r) = hs_D S := rfl
theorem ac_V_U (S : hs_S) (j : Nat) (r : UInt64) : hs_V (hs_sU S j r) = hs_V S := rfl
theorem ac_M_U (S : hs_S) (j : Nat) (r : UInt64) : hs_M (hs_sU S j r) = hs_M S := rfl
theorem ac_N_U (S : hs_S) (j : Nat) (r : UInt64) : hs_N (hs_sU S j r) = hs_N S := rfl
theorem ac_Q_U (S : hs_S) (j : Nat) (r : UInt64) : hs_Q (hs_sU S j r) = hs_Q S := rfl
theorem ac_C_U (S : hs_S) (j : Nat) (r : UInt64) : hs_C (hs_sU S j r) = hs_C S := rfl
theorem ac_W_U (S : hs_S) (j : Nat) (r : UInt64) : hs_W (hs_sU S j r) = hs_W S := rfl
theorem ac_U_U (S : hs_S) (j : Nat) (r : UInt64) : hs_U (hs_sU S j r) = va_up (hs_U S) j r := rfl
theorem ac_G_U (S : hs_S) (j : Nat) (r : UInt64) : hs_G (hs_sU S j r) = hs_G S := rfl
theorem ac_np_U (S : hs_S) (j : Nat) (r : UInt64) : hs_np (hs_sU S j r) = hs_np S := rfl
theorem ac_nw_U (S : hs_S) (j : Nat) (r : UInt64) : hs_nw (hs_sU S j r) = hs_nw S := rfl
theorem ac_P_G (S : hs_S) (r : Nat → Int32) : hs_P (hs_sG S r) = hs_P S := rfl
theorem ac_D_G (S : hs_S) (r : Nat → Int32) : hs_D (hs_sG S r) = hs_D S := rfl
theorem ac_V_G (S : hs_S) (r : Nat → Int32) : hs_V (hs_sG S r) = hs_V S := rfl
theorem ac_M_G (S : hs_S) (r : Nat → Int32) : hs_M (hs_sG S r) = hs_M S := rfl
theorem ac_N_G (S : hs_S) (r : Nat → Int32) : hs_N (hs_sG S r) = hs_N S := rfl
theorem ac_Q_G (S : hs_S) (r : Nat → Int32) : hs_Q (hs_sG S r) = hs_Q S := rfl
theorem ac_C_G (S : hs_S) (r : Nat → Int32) : hs_C (hs_sG S r) = hs_C S := rfl
theorem ac_W_G (S : hs_S) (r : Nat → Int32) : hs_W (hs_sG S r) = hs_W S := rfl
theorem ac_U_G (S : hs_S) (r : Nat → Int32) : hs_U (hs_sG S r) = hs_U S := rfl
theorem ac_G_G (S : hs_S) (r : Nat → Int32) : hs_G (hs_sG S r) = r := rfl
theorem ac_np_G (S : hs_S) (r : Nat → Int32) : hs_np (hs_sG S r) = hs_np S := rfl
theorem ac_nw_G (S : hs_S) (r : Nat → Int32) : hs_nw (hs_sG S r) = hs_nw S := rfl
theorem ac_P_p (S : hs_S) (n : Nat) : hs_P (hs_sp S n) = hs_P S := rfl
theorem ac_D_p (S : hs_S) (n : Nat) : hs_D (hs_sp S n) = hs_D S := rfl
theorem ac_V_p (S : hs_S) (n : Nat) : hs_V (hs_sp S n) = hs_V S := rfl
theorem ac_M_p (S : hs_S) (n : Nat) : hs_M (hs_sp S n) = hs_M S := rfl
theorem ac_N_p (S : hs_S) (n : Nat) : hs_N (hs_sp S n) = hs_N S := rfl
theorem ac_Q_p (S : hs_S) (n : Nat) : hs_Q (hs_sp S n) = hs_Q S := rfl
theorem ac_C_p (S : hs_S) (n : Nat) : hs_C (hs_sp S n) = hs_C S := rfl
theorem ac_W_p (S : hs_S) (n : Nat) : hs_W (hs_sp S n) = hs_W S := rfl
theorem ac_U_p (S : hs_S) (n : Nat) : hs_U (hs_sp S n) = hs_U S := rfl
theorem ac_G_p (S : hs_S) (n : Nat) : hs_G (hs_sp S n) = hs_G S := rfl
theorem ac_np_p (S : hs_S) (n : Nat) : hs_np (hs_sp S n) = n := rfl
theorem ac_nw_p (S : hs_S) (n : Nat) : hs_nw (hs_sp S n) = hs_nw S := rfl
theorem ac_P_w (S : hs_S) (n : Nat) : hs_P (hs_sw S n) = hs_P S := rfl
theorem ac_D_w (S : hs_S) (n : Nat) : hs_D (hs_sw S n) = hs_D S := rfl
theorem ac_V_w (S : hs_S) (n : Nat) : hs_V (hs_sw S n) = hs_V S := rfl
theorem ac_M_w (S : hs_S) (n : Nat) : hs_M (hs_sw S n) = hs_M S := rfl
theorem ac_N_w (S : hs_S) (n : Nat) : hs_N (hs_sw S n) = hs_N S := rfl
theorem ac_Q_w (S : hs_S) (n : Nat) : hs_Q (hs_sw S n) = hs_Q S := rfl
theorem ac_C_w (S : hs_S) (n : Nat) : hs_C (hs_sw S n) = hs_C S := rfl
theorem ac_W_w (S : hs_S) (n : Nat) : hs_W (hs_sw S n) = hs_W S := rfl
theorem ac_U_w (S : hs_S) (n : Nat) : hs_U (hs_sw S n) = hs_U S := rfl
theorem ac_G_w (S : hs_S) (n : Nat) : hs_G (hs_sw S n) = hs_G S := rfl
theorem ac_np_w (S : hs_S) (n : Nat) : hs_np (hs_sw S n) = hs_np S := rfl
theorem ac_nw_w (S : hs_S) (n : Nat) : hs_nw (hs_sw S n) = n := rfl
-- what is the same behind a setter
theorem sm_10 {Z : hw_Z} {ad : hp_ad} {S : hs_S} {T : hp_T} {k i : Nat} : hp_e Z ad S T (k + 10) i = hw_ai Z 4 (hs_Q S i) := rfl
theorem sm_P {Z : hw_Z} {ad : hp_ad} {S : hs_S} {T : hp_T} {k i : Nat} (j : Nat) (r : Nat → Int32) (h : ¬ ((k = 1 ∨ k = 6) ∧ i = j)) : hp_e Z ad (hs_sP S j r) T k i = hp_e Z ad S T k i := by
  rcases k with _ | _ | _ | _ | _ | _ | _ | _ | _ | _ | k
  · rcases i with _ | _ | _ | _ | _ | _ | _ | _ | _ | i <;> simp only [hp_e, hp_e0, ac_P_P, ac_D_P, ac_V_P, ac_M_P, ac_N_P, ac_Q_P, ac_C_P, ac_W_P, ac_U_P, ac_G_P, ac_np_P, ac_nw_P]
  · have hi : i ≠ j := fun q => h ⟨by omega, q⟩
    simp only [hp_e, ac_P_P, ac_D_P, ac_V_P, ac_M_P, ac_N_P, ac_Q_P, ac_C_P, ac_W_P, ac_U_P, ac_G_P, ac_np_P, ac_nw_P, va_up_ne _ _ hi]
  · simp only [hp_e, ac_P_P, ac_D_P, ac_V_P, ac_M_P, ac_N_P, ac_Q_P, ac_C_P, ac_W_P, ac_U_P, ac_G_P, ac_np_P, ac_nw_P]
  · simp only [hp_e, ac_P_P, ac_D_P, ac_V_P, ac_M_P, ac_N_P, ac_Q_P, ac_C_P, ac_W_P, ac_U_P, ac_G_P, ac_np_P, ac_nw_P]
  · simp only [hp_e, ac_P_P, ac_D_P, ac_V_P, ac_M_P, ac_N_P, ac_Q_P, ac_C_P, ac_W_P, ac_U_P, ac_G_P, ac_np_P, ac_nw_P]
  · simp only [hp_e, ac_P_P, ac_D_P, ac_V_P, ac_M_P, ac_N_P, ac_Q_P, ac_C_P, ac_W_P, ac_U_P, ac_G_P, ac_np_P, ac_nw_P]
  · have hi : i ≠ j := fun q => h ⟨by omega, q⟩
    simp only [hp_e, ac_P_P, ac_D_P, ac_V_P, ac_M_P, ac_N_P, ac_Q_P, ac_C_P, ac_W_P, ac_U_P, ac_G_P, ac_np_P, ac_nw_P, va_up_ne _ _ hi]
  · simp only [hp_e, ac_P_P, ac_D_P, ac_V_P, ac_M_P, ac_N_P, ac_Q_P, ac_C_P, ac_W_P, ac_U_P, ac_G_P, ac_np_P, ac_nw_P]
  · simp only [hp_e, ac_P_P, ac_D_P, ac_V_P, ac_M_P, ac_N_P, ac_Q_P, ac_C_P, ac_W_P, ac_U_P, ac_G_P, ac_np_P, ac_nw_P]
  · simp only [hp_e, ac_P_P, ac_D_P, ac_V_P, ac_M_P, ac_N_P, ac_Q_P, ac_C_P, ac_W_P, ac_U_P, ac_G_P, ac_np_P, ac_nw_P]
  · simp only [sm_10, ac_P_P, ac_D_P, ac_V_P, ac_M_P, ac_N_P, ac_Q_P, ac_C_P, ac_W_P, ac_U_P, ac_G_P, ac_np_P, ac_nw_P]
theorem sm_D {Z : hw_Z} {ad : hp_ad} {S : hs_S} {T : hp_T} {k i : Nat} (j n : Nat) (h : ¬ ((k = 1) ∧ i = j)) : hp_e Z ad (hs_sD S j n) T k i = hp_e Z ad S T k i := by
  rcases k with _ | _ | _ | _ | _ | _ | _ | _ | _ | _ | k
  · rcases i with _ | _ | _ | _ | _ | _ | _ | _ | _ | i <;> simp only [hp_e, hp_e0, ac_P_D, ac_D_D, ac_V_D, ac_M_D, ac_N_D, ac_Q_D, ac_C_D, ac_W_D, ac_U_D, ac_G_D, ac_np_D, ac_nw_D]
  · have hi : i ≠ j := fun q => h ⟨by omega, q⟩
    simp only [hp_e, ac_P_D, ac_D_D, ac_V_D, ac_M_D, ac_N_D, ac_Q_D, ac_C_D, ac_W_D, ac_U_D, ac_G_D, ac_np_D, ac_nw_D, va_up_ne _ _ hi]
  · simp only [hp_e, ac_P_D, ac_D_D, ac_V_D, ac_M_D, ac_N_D, ac_Q_D, ac_C_D, ac_W_D, ac_U_D, ac_G_D, ac_np_D, ac_nw_D]
  · simp only [hp_e, ac_P_D, ac_D_D, ac_V_D, ac_M_D, ac_N_D, ac_Q_D, ac_C_D, ac_W_D, ac_U_D, ac_G_D, ac_np_D, ac_nw_D]
  · simp only [hp_e, ac_P_D, ac_D_D, ac_V_D, ac_M_D, ac_N_D, ac_Q_D, ac_C_D, ac_W_D, ac_U_D, ac_G_D, ac_np_D, ac_nw_D]
  · simp only [hp_e, ac_P_D, ac_D_D, ac_V_D, ac_M_D, ac_N_D, ac_Q_D, ac_C_D, ac_W_D, ac_U_D, ac_G_D, ac_np_D, ac_nw_D]
  · simp only [hp_e, ac_P_D, ac_D_D, ac_V_D, ac_M_D, ac_N_D, ac_Q_D, ac_C_D, ac_W_D, ac_U_D, ac_G_D, ac_np_D, ac_nw_D]
  · simp only [hp_e, ac_P_D, ac_D_D, ac_V_D, ac_M_D, ac_N_D, ac_Q_D, ac_C_D, ac_W_D, ac_U_D, ac_G_D, ac_np_D, ac_nw_D]
  · simp only [hp_e, ac_P_D, ac_D_D, ac_V_D, ac_M_D, ac_N_D, ac_Q_D, ac_C_D, ac_W_D, ac_U_D, ac_G_D, ac_np_D, ac_nw_D]
  · simp only [hp_e, ac_P_D, ac_D_D, ac_V_D, ac_M_D, ac_N_D, ac_Q_D, ac_C_D, ac_W_D, ac_U_D, ac_G_D, ac_np_D, ac_nw_D]
  · simp only [sm_10, ac_P_D, ac_D_D, ac_V_D, ac_M_D, ac_N_D, ac_Q_D, ac_C_D, ac_W_D, ac_U_D, ac_G_D, ac_np_D, ac_nw_D]
theorem sm_V {Z : hw_Z} {ad : hp_ad} {S : hs_S} {T : hp_T} {k i : Nat} (j : Nat) (r : Nat → Int32) (h : ¬ ((k = 8) ∧ i = j)) : hp_e Z ad (hs_sV S j r) T k i = hp_e Z ad S T k i := by
  rcases k with _ | _ | _ | _ | _ | _ | _ | _ | _ | _ | k
  · rcases i with _ | _ | _ | _ | _ | _ | _ | _ | _ | i <;> simp only [hp_e, hp_e0, ac_P_V, ac_D_V, ac_V_V, ac_M_V, ac_N_V, ac_Q_V, ac_C_V, ac_W_V, ac_U_V, ac_G_V, ac_np_V, ac_nw_V]
  · simp only [hp_e, ac_P_V, ac_D_V, ac_V_V, ac_M_V, ac_N_V, ac_Q_V, ac_C_V, ac_W_V, ac_U_V, ac_G_V, ac_np_V, ac_nw_V]
  · simp only [hp_e, ac_P_V, ac_D_V, ac_V_V, ac_M_V, ac_N_V, ac_Q_V, ac_C_V, ac_W_V, ac_U_V, ac_G_V, ac_np_V, ac_nw_V]
  · simp only [hp_e, ac_P_V, ac_D_V, ac_V_V, ac_M_V, ac_N_V, ac_Q_V, ac_C_V, ac_W_V, ac_U_V, ac_G_V, ac_np_V, ac_nw_V]
  · simp only [hp_e, ac_P_V, ac_D_V, ac_V_V, ac_M_V, ac_N_V, ac_Q_V, ac_C_V, ac_W_V, ac_U_V, ac_G_V, ac_np_V, ac_nw_V]
  · simp only [hp_e, ac_P_V, ac_D_V, ac_V_V, ac_M_V, ac_N_V, ac_Q_V, ac_C_V, ac_W_V, ac_U_V, ac_G_V, ac_np_V, ac_nw_V]
  · simp only [hp_e, ac_P_V, ac_D_V, ac_V_V, ac_M_V, ac_N_V, ac_Q_V, ac_C_V, ac_W_V, ac_U_V, ac_G_V, ac_np_V, ac_nw_V]
  · simp only [hp_e, ac_P_V, ac_D_V, ac_V_V, ac_M_V, ac_N_V, ac_Q_V, ac_C_V, ac_W_V, ac_U_V, ac_G_V, ac_np_V, ac_nw_V]
  · have hi : i ≠ j := fun q => h ⟨by omega, q⟩
    simp only [hp_e, ac_P_V, ac_D_V, ac_V_V, ac_M_V, ac_N_V, ac_Q_V, ac_C_V, ac_W_V, ac_U_V, ac_G_V, ac_np_V, ac_nw_V, va_up_ne _ _ hi]
  · simp only [hp_e, ac_P_V, ac_D_V, ac_V_V, ac_M_V, ac_N_V, ac_Q_V, ac_C_V, ac_W_V, ac_U_V, ac_G_V, ac_np_V, ac_nw_V]
  · simp only [sm_10, ac_P_V, ac_D_V, ac_V_V, ac_M_V, ac_N_V, ac_Q_V, ac_C_V, ac_W_V, ac_U_V, ac_G_V, ac_np_V, ac_nw_V]
theorem sm_M {Z : hw_Z} {ad : hp_ad} {S : hs_S} {T : hp_T} {k i : Nat} (j : Nat) (r : Nat → Int32) (h : ¬ ((k = 9) ∧ i = j)) : hp_e Z ad (hs_sM S j r) T k i = hp_e Z ad S T k i := by
  rcases k with _ | _ | _ | _ | _ | _ | _ | _ | _ | _ | k
  · rcases i with _ | _ | _ | _ | _ | _ | _ | _ | _ | i <;> simp only [hp_e, hp_e0, ac_P_M, ac_D_M, ac_V_M, ac_M_M, ac_N_M, ac_Q_M, ac_C_M, ac_W_M, ac_U_M, ac_G_M, ac_np_M, ac_nw_M]
  · simp only [hp_e, ac_P_M, ac_D_M, ac_V_M, ac_M_M, ac_N_M, ac_Q_M, ac_C_M, ac_W_M, ac_U_M, ac_G_M, ac_np_M, ac_nw_M]
  · simp only [hp_e, ac_P_M, ac_D_M, ac_V_M, ac_M_M, ac_N_M, ac_Q_M, ac_C_M, ac_W_M, ac_U_M, ac_G_M, ac_np_M, ac_nw_M]
  · simp only [hp_e, ac_P_M, ac_D_M, ac_V_M, ac_M_M, ac_N_M, ac_Q_M, ac_C_M, ac_W_M, ac_U_M, ac_G_M, ac_np_M, ac_nw_M]
  · simp only [hp_e, ac_P_M, ac_D_M, ac_V_M, ac_M_M, ac_N_M, ac_Q_M, ac_C_M, ac_W_M, ac_U_M, ac_G_M, ac_np_M, ac_nw_M]
  · simp only [hp_e, ac_P_M, ac_D_M, ac_V_M, ac_M_M, ac_N_M, ac_Q_M, ac_C_M, ac_W_M, ac_U_M, ac_G_M, ac_np_M, ac_nw_M]
  · simp only [hp_e, ac_P_M, ac_D_M, ac_V_M, ac_M_M, ac_N_M, ac_Q_M, ac_C_M, ac_W_M, ac_U_M, ac_G_M, ac_np_M, ac_nw_M]
  · simp only [hp_e, ac_P_M, ac_D_M, ac_V_M, ac_M_M, ac_N_M, ac_Q_M, ac_C_M, ac_W_M, ac_U_M, ac_G_M, ac_np_M, ac_nw_M]
  · simp only [hp_e, ac_P_M, ac_D_M, ac_V_M, ac_M_M, ac_N_M, ac_Q_M, ac_C_M, ac_W_M, ac_U_M, ac_G_M, ac_np_M, ac_nw_M]
  · have hi : i ≠ j := fun q => h ⟨by omega, q⟩
    simp only [hp_e, ac_P_M, ac_D_M, ac_V_M, ac_M_M, ac_N_M, ac_Q_M, ac_C_M, ac_W_M, ac_U_M, ac_G_M, ac_np_M, ac_nw_M, va_up_ne _ _ hi]
  · simp only [sm_10, ac_P_M, ac_D_M, ac_V_M, ac_M_M, ac_N_M, ac_Q_M, ac_C_M, ac_W_M, ac_U_M, ac_G_M, ac_np_M, ac_nw_M]
theorem sm_N {Z : hw_Z} {ad : hp_ad} {S : hs_S} {T : hp_T} {k i : Nat} (j n : Nat) (h : ¬ ((k = 9) ∧ i = j)) : hp_e Z ad (hs_sN S j n) T k i = hp_e Z ad S T k i := by
  rcases k with _ | _ | _ | _ | _ | _ | _ | _ | _ | _ | k
  · rcases i with _ | _ | _ | _ | _ | _ | _ | _ | _ | i <;> simp only [hp_e, hp_e0, ac_P_N, ac_D_N, ac_V_N, ac_M_N, ac_N_N, ac_Q_N, ac_C_N, ac_W_N, ac_U_N, ac_G_N, ac_np_N, ac_nw_N]
  · simp only [hp_e, ac_P_N, ac_D_N, ac_V_N, ac_M_N, ac_N_N, ac_Q_N, ac_C_N, ac_W_N, ac_U_N, ac_G_N, ac_np_N, ac_nw_N]
  · simp only [hp_e, ac_P_N, ac_D_N, ac_V_N, ac_M_N, ac_N_N, ac_Q_N, ac_C_N, ac_W_N, ac_U_N, ac_G_N, ac_np_N, ac_nw_N]
  · simp only [hp_e, ac_P_N, ac_D_N, ac_V_N, ac_M_N, ac_N_N, ac_Q_N, ac_C_N, ac_W_N, ac_U_N, ac_G_N, ac_np_N, ac_nw_N]
  · simp only [hp_e, ac_P_N, ac_D_N, ac_V_N, ac_M_N, ac_N_N, ac_Q_N, ac_C_N, ac_W_N, ac_U_N, ac_G_N, ac_np_N, ac_nw_N]
  · simp only [hp_e, ac_P_N, ac_D_N, ac_V_N, ac_M_N, ac_N_N, ac_Q_N, ac_C_N, ac_W_N, ac_U_N, ac_G_N, ac_np_N, ac_nw_N]
  · simp only [hp_e, ac_P_N, ac_D_N, ac_V_N, ac_M_N, ac_N_N, ac_Q_N, ac_C_N, ac_W_N, ac_U_N, ac_G_N, ac_np_N, ac_nw_N]
  · simp only [hp_e, ac_P_N, ac_D_N, ac_V_N, ac_M_N, ac_N_N, ac_Q_N, ac_C_N, ac_W_N, ac_U_N, ac_G_N, ac_np_N, ac_nw_N]
  · simp only [hp_e, ac_P_N, ac_D_N, ac_V_N, ac_M_N, ac_N_N, ac_Q_N, ac_C_N, ac_W_N, ac_U_N, ac_G_N, ac_np_N, ac_nw_N]
  · have hi : i ≠ j := fun q => h ⟨by omega, q⟩
    simp only [hp_e, ac_P_N, ac_D_N, ac_V_N, ac_M_N, ac_N_N, ac_Q_N, ac_C_N, ac_W_N, ac_U_N, ac_G_N, ac_np_N, ac_nw_N, va_up_ne _ _ hi]
  · simp only [sm_10, ac_P_N, ac_D_N, ac_V_N, ac_M_N, ac_N_N, ac_Q_N, ac_C_N, ac_W_N, ac_U_N, ac_G_N, ac_np_N, ac_nw_N]
theorem sm_Q {Z : hw_Z} {ad : hp_ad} {S : hs_S} {T : hp_T} {k i : Nat} (j : Nat) (r : Nat → Int32) (h : ¬ ((10 ≤ k) ∧ i = j)) : hp_e Z ad (hs_sQ S j r) T k i = hp_e Z ad S T k i := by
  rcases k with _ | _ | _ | _ | _ | _ | _ | _ | _ | _ | k
  · rcases i with _ | _ | _ | _ | _ | _ | _ | _ | _ | i <;> simp only [hp_e, hp_e0, ac_P_Q, ac_D_Q, ac_V_Q, ac_M_Q, ac_N_Q, ac_Q_Q, ac_C_Q, ac_W_Q, ac_U_Q, ac_G_Q, ac_np_Q, ac_nw_Q]
  · simp only [hp_e, ac_P_Q, ac_D_Q, ac_V_Q, ac_M_Q, ac_N_Q, ac_Q_Q, ac_C_Q, ac_W_Q, ac_U_Q, ac_G_Q, ac_np_Q, ac_nw_Q]
  · simp only [hp_e, ac_P_Q, ac_D_Q, ac_V_Q, ac_M_Q, ac_N_Q, ac_Q_Q, ac_C_Q, ac_W_Q, ac_U_Q, ac_G_Q, ac_np_Q, ac_nw_Q]
  · simp only [hp_e, ac_P_Q, ac_D_Q, ac_V_Q, ac_M_Q, ac_N_Q, ac_Q_Q, ac_C_Q, ac_W_Q, ac_U_Q, ac_G_Q, ac_np_Q, ac_nw_Q]
  · simp only [hp_e, ac_P_Q, ac_D_Q, ac_V_Q, ac_M_Q, ac_N_Q, ac_Q_Q, ac_C_Q, ac_W_Q, ac_U_Q, ac_G_Q, ac_np_Q, ac_nw_Q]
  · simp only [hp_e, ac_P_Q, ac_D_Q, ac_V_Q, ac_M_Q, ac_N_Q, ac_Q_Q, ac_C_Q, ac_W_Q, ac_U_Q, ac_G_Q, ac_np_Q, ac_nw_Q]
  · simp only [hp_e, ac_P_Q, ac_D_Q, ac_V_Q, ac_M_Q, ac_N_Q, ac_Q_Q, ac_C_Q, ac_W_Q, ac_U_Q, ac_G_Q, ac_np_Q, ac_nw_Q]
  · simp only [hp_e, ac_P_Q, ac_D_Q, ac_V_Q, ac_M_Q, ac_N_Q, ac_Q_Q, ac_C_Q, ac_W_Q, ac_U_Q, ac_G_Q, ac_np_Q, ac_nw_Q]
  · simp only [hp_e, ac_P_Q, ac_D_Q, ac_V_Q, ac_M_Q, ac_N_Q, ac_Q_Q, ac_C_Q, ac_W_Q, ac_U_Q, ac_G_Q, ac_np_Q, ac_nw_Q]
  · simp only [hp_e, ac_P_Q, ac_D_Q, ac_V_Q, ac_M_Q, ac_N_Q, ac_Q_Q, ac_C_Q, ac_W_Q, ac_U_Q, ac_G_Q, ac_np_Q, ac_nw_Q]
  · have hi : i ≠ j := fun q => h ⟨by omega, q⟩
    simp only [sm_10, ac_P_Q, ac_D_Q, ac_V_Q, ac_M_Q, ac_N_Q, ac_Q_Q, ac_C_Q, ac_W_Q, ac_U_Q, ac_G_Q, ac_np_Q, ac_nw_Q, va_up_ne _ _ hi]
theorem sm_C {Z : hw_Z} {ad : hp_ad} {S : hs_S} {T : hp_T} {k i : Nat} (j : Nat) (r : Nat → Int64) (h : ¬ ((k = 3 ∨ k = 4 ∨ k = 5) ∧ i = j)) : hp_e Z ad (hs_sC S j r) T k i = hp_e Z ad S T k i := by
  rcases k with _ | _ | _ | _ | _ | _ | _ | _ | _ | _ | k
  · rcases i with _ | _ | _ | _ | _ | _ | _ | _ | _ | i <;> simp only [hp_e, hp_e0, ac_P_C, ac_D_C, ac_V_C, ac_M_C, ac_N_C, ac_Q_C, ac_C_C, ac_W_C, ac_U_C, ac_G_C, ac_np_C, ac_nw_C]
  · simp only [hp_e, ac_P_C, ac_D_C, ac_V_C, ac_M_C, ac_N_C, ac_Q_C, ac_C_C, ac_W_C, ac_U_C, ac_G_C, ac_np_C, ac_nw_C]
  · simp only [hp_e, ac_P_C, ac_D_C, ac_V_C, ac_M_C, ac_N_C, ac_Q_C, ac_C_C, ac_W_C, ac_U_C, ac_G_C, ac_np_C, ac_nw_C]
  · have hi : i ≠ j := fun q => h ⟨by omega, q⟩
    simp only [hp_e, ac_P_C, ac_D_C, ac_V_C, ac_M_C, ac_N_C, ac_Q_C, ac_C_C, ac_W_C, ac_U_C, ac_G_C, ac_np_C, ac_nw_C, va_up_ne _ _ hi]
  · have hi : i ≠ j := fun q => h ⟨by omega, q⟩
    simp only [hp_e, ac_P_C, ac_D_C, ac_V_C, ac_M_C, ac_N_C, ac_Q_C, ac_C_C, ac_W_C, ac_U_C, ac_G_C, ac_np_C, ac_nw_C, va_up_ne _ _ hi]
  · have hi : i ≠ j := fun q => h ⟨by omega, q⟩
    simp only [hp_e, ac_P_C, ac_D_C, ac_V_C, ac_M_C, ac_N_C, ac_Q_C, ac_C_C, ac_W_C, ac_U_C, ac_G_C, ac_np_C, ac_nw_C, va_up_ne _ _ hi]
  · simp only [hp_e, ac_P_C, ac_D_C, ac_V_C, ac_M_C, ac_N_C, ac_Q_C, ac_C_C, ac_W_C, ac_U_C, ac_G_C, ac_np_C, ac_nw_C]
  · simp only [hp_e, ac_P_C, ac_D_C, ac_V_C, ac_M_C, ac_N_C, ac_Q_C, ac_C_C, ac_W_C, ac_U_C, ac_G_C, ac_np_C, ac_nw_C]
  · simp only [hp_e, ac_P_C, ac_D_C, ac_V_C, ac_M_C, ac_N_C, ac_Q_C, ac_C_C, ac_W_C, ac_U_C, ac_G_C, ac_np_C, ac_nw_C]
  · simp only [hp_e, ac_P_C, ac_D_C, ac_V_C, ac_M_C, ac_N_C, ac_Q_C, ac_C_C, ac_W_C, ac_U_C, ac_G_C, ac_np_C, ac_nw_C]
  · simp only [sm_10, ac_P_C, ac_D_C, ac_V_C, ac_M_C, ac_N_C, ac_Q_C, ac_C_C, ac_W_C, ac_U_C, ac_G_C, ac_np_C, ac_nw_C]
theorem sm_W {Z : hw_Z} {ad : hp_ad} {S : hs_S} {T : hp_T} {k i : Nat} (j : Nat) (r : Nat → UInt64) (h : ¬ ((k = 7) ∧ i = j)) : hp_e Z ad (hs_sW S j r) T k i = hp_e Z ad S T k i := by
  rcases k with _ | _ | _ | _ | _ | _ | _ | _ | _ | _ | k
  · rcases i with _ | _ | _ | _ | _ | _ | _ | _ | _ | i <;> simp only [hp_e, hp_e0, ac_P_W, ac_D_W, ac_V_W, ac_M_W, ac_N_W, ac_Q_W, ac_C_W, ac_W_W, ac_U_W, ac_G_W, ac_np_W, ac_nw_W]
  · simp only [hp_e, ac_P_W, ac_D_W, ac_V_W, ac_M_W, ac_N_W, ac_Q_W, ac_C_W, ac_W_W, ac_U_W, ac_G_W, ac_np_W, ac_nw_W]
  · simp only [hp_e, ac_P_W, ac_D_W, ac_V_W, ac_M_W, ac_N_W, ac_Q_W, ac_C_W, ac_W_W, ac_U_W, ac_G_W, ac_np_W, ac_nw_W]
  · simp only [hp_e, ac_P_W, ac_D_W, ac_V_W, ac_M_W, ac_N_W, ac_Q_W, ac_C_W, ac_W_W, ac_U_W, ac_G_W, ac_np_W, ac_nw_W]
  · simp only [hp_e, ac_P_W, ac_D_W, ac_V_W, ac_M_W, ac_N_W, ac_Q_W, ac_C_W, ac_W_W, ac_U_W, ac_G_W, ac_np_W, ac_nw_W]
  · simp only [hp_e, ac_P_W, ac_D_W, ac_V_W, ac_M_W, ac_N_W, ac_Q_W, ac_C_W, ac_W_W, ac_U_W, ac_G_W, ac_np_W, ac_nw_W]
  · simp only [hp_e, ac_P_W, ac_D_W, ac_V_W, ac_M_W, ac_N_W, ac_Q_W, ac_C_W, ac_W_W, ac_U_W, ac_G_W, ac_np_W, ac_nw_W]
  · have hi : i ≠ j := fun q => h ⟨by omega, q⟩
    simp only [hp_e, ac_P_W, ac_D_W, ac_V_W, ac_M_W, ac_N_W, ac_Q_W, ac_C_W, ac_W_W, ac_U_W, ac_G_W, ac_np_W, ac_nw_W, va_up_ne _ _ hi]
  · simp only [hp_e, ac_P_W, ac_D_W, ac_V_W, ac_M_W, ac_N_W, ac_Q_W, ac_C_W, ac_W_W, ac_U_W, ac_G_W, ac_np_W, ac_nw_W]
  · simp only [hp_e, ac_P_W, ac_D_W, ac_V_W, ac_M_W, ac_N_W, ac_Q_W, ac_C_W, ac_W_W, ac_U_W, ac_G_W, ac_np_W, ac_nw_W]
  · simp only [sm_10, ac_P_W, ac_D_W, ac_V_W, ac_M_W, ac_N_W, ac_Q_W, ac_C_W, ac_W_W, ac_U_W, ac_G_W, ac_np_W, ac_nw_W]
theorem sm_U {Z : hw_Z} {ad : hp_ad} {S : hs_S} {T : hp_T} {k i : Nat} (j : Nat) (r : UInt64) (h : ¬ ((k = 1) ∧ i = j)) : hp_e Z ad (hs_sU S j r) T k i = hp_e Z ad S T k i := by
  rcases k with _ | _ | _ | _ | _ | _ | _ | _ | _ | _ | k
  · rcases i with _ | _ | _ | _ | _ | _ | _ | _ | _ | i <;> simp only [hp_e, hp_e0, ac_P_U, ac_D_U, ac_V_U, ac_M_U, ac_N_U, ac_Q_U, ac_C_U, ac_W_U, ac_U_U, ac_G_U, ac_np_U, ac_nw_U]
  · have hi : i ≠ j := fun q => h ⟨by omega, q⟩
    simp only [hp_e, ac_P_U, ac_D_U, ac_V_U, ac_M_U, ac_N_U, ac_Q_U, ac_C_U, ac_W_U, ac_U_U, ac_G_U, ac_np_U, ac_nw_U, va_up_ne _ _ hi]
  · simp only [hp_e, ac_P_U, ac_D_U, ac_V_U, ac_M_U, ac_N_U, ac_Q_U, ac_C_U, ac_W_U, ac_U_U, ac_G_U, ac_np_U, ac_nw_U]
  · simp only [hp_e, ac_P_U, ac_D_U, ac_V_U, ac_M_U, ac_N_U, ac_Q_U, ac_C_U, ac_W_U, ac_U_U, ac_G_U, ac_np_U, ac_nw_U]
  · simp only [hp_e, ac_P_U, ac_D_U, ac_V_U, ac_M_U, ac_N_U, ac_Q_U, ac_C_U, ac_W_U, ac_U_U, ac_G_U, ac_np_U, ac_nw_U]
  · simp only [hp_e, ac_P_U, ac_D_U, ac_V_U, ac_M_U, ac_N_U, ac_Q_U, ac_C_U, ac_W_U, ac_U_U, ac_G_U, ac_np_U, ac_nw_U]
  · simp only [hp_e, ac_P_U, ac_D_U, ac_V_U, ac_M_U, ac_N_U, ac_Q_U, ac_C_U, ac_W_U, ac_U_U, ac_G_U, ac_np_U, ac_nw_U]
  · simp only [hp_e, ac_P_U, ac_D_U, ac_V_U, ac_M_U, ac_N_U, ac_Q_U, ac_C_U, ac_W_U, ac_U_U, ac_G_U, ac_np_U, ac_nw_U]
  · simp only [hp_e, ac_P_U, ac_D_U, ac_V_U, ac_M_U, ac_N_U, ac_Q_U, ac_C_U, ac_W_U, ac_U_U, ac_G_U, ac_np_U, ac_nw_U]
  · simp only [hp_e, ac_P_U, ac_D_U, ac_V_U, ac_M_U, ac_N_U, ac_Q_U, ac_C_U, ac_W_U, ac_U_U, ac_G_U, ac_np_U, ac_nw_U]
  · simp only [sm_10, ac_P_U, ac_D_U, ac_V_U, ac_M_U, ac_N_U, ac_Q_U, ac_C_U, ac_W_U, ac_U_U, ac_G_U, ac_np_U, ac_nw_U]
theorem sm_G {Z : hw_Z} {ad : hp_ad} {S : hs_S} {T : hp_T} {k i : Nat} (r : Nat → Int32) (h : ¬ (k = 0 ∧ i = 0)) : hp_e Z ad (hs_sG S r) T k i = hp_e Z ad S T k i := by
  rcases k with _ | _ | _ | _ | _ | _ | _ | _ | _ | _ | k
  · rcases i with _ | _ | _ | _ | _ | _ | _ | _ | _ | i
    · exact absurd ⟨rfl, rfl⟩ h
    all_goals simp only [hp_e, hp_e0]
  · simp only [hp_e, ac_P_G, ac_D_G, ac_V_G, ac_M_G, ac_N_G, ac_Q_G, ac_C_G, ac_W_G, ac_U_G, ac_G_G, ac_np_G, ac_nw_G]
  · simp only [hp_e, ac_P_G, ac_D_G, ac_V_G, ac_M_G, ac_N_G, ac_Q_G, ac_C_G, ac_W_G, ac_U_G, ac_G_G, ac_np_G, ac_nw_G]
  · simp only [hp_e, ac_P_G, ac_D_G, ac_V_G, ac_M_G, ac_N_G, ac_Q_G, ac_C_G, ac_W_G, ac_U_G, ac_G_G, ac_np_G, ac_nw_G]
  · simp only [hp_e, ac_P_G, ac_D_G, ac_V_G, ac_M_G, ac_N_G, ac_Q_G, ac_C_G, ac_W_G, ac_U_G, ac_G_G, ac_np_G, ac_nw_G]
  · simp only [hp_e, ac_P_G, ac_D_G, ac_V_G, ac_M_G, ac_N_G, ac_Q_G, ac_C_G, ac_W_G, ac_U_G, ac_G_G, ac_np_G, ac_nw_G]
  · simp only [hp_e, ac_P_G, ac_D_G, ac_V_G, ac_M_G, ac_N_G, ac_Q_G, ac_C_G, ac_W_G, ac_U_G, ac_G_G, ac_np_G, ac_nw_G]
  · simp only [hp_e, ac_P_G, ac_D_G, ac_V_G, ac_M_G, ac_N_G, ac_Q_G, ac_C_G, ac_W_G, ac_U_G, ac_G_G, ac_np_G, ac_nw_G]
  · simp only [hp_e, ac_P_G, ac_D_G, ac_V_G, ac_M_G, ac_N_G, ac_Q_G, ac_C_G, ac_W_G, ac_U_G, ac_G_G, ac_np_G, ac_nw_G]
  · simp only [hp_e, ac_P_G, ac_D_G, ac_V_G, ac_M_G, ac_N_G, ac_Q_G, ac_C_G, ac_W_G, ac_U_G, ac_G_G, ac_np_G, ac_nw_G]
  · simp only [sm_10, ac_P_G, ac_D_G, ac_V_G, ac_M_G, ac_N_G, ac_Q_G, ac_C_G, ac_W_G, ac_U_G, ac_G_G, ac_np_G, ac_nw_G]
theorem sm_p {Z : hw_Z} {ad : hp_ad} {S : hs_S} {T : hp_T} {k i : Nat} (n : Nat) (h : ¬ (k = 0 ∧ i = 0)) : hp_e Z ad (hs_sp S n) T k i = hp_e Z ad S T k i := by
  rcases k with _ | _ | _ | _ | _ | _ | _ | _ | _ | _ | k
  · rcases i with _ | _ | _ | _ | _ | _ | _ | _ | _ | i
    · exact absurd ⟨rfl, rfl⟩ h
    all_goals simp only [hp_e, hp_e0]
  · simp only [hp_e, ac_P_p, ac_D_p, ac_V_p, ac_M_p, ac_N_p, ac_Q_p, ac_C_p, ac_W_p, ac_U_p, ac_G_p, ac_np_p, ac_nw_p]
  · simp only [hp_e, ac_P_p, ac_D_p, ac_V_p, ac_M_p, ac_N_p, ac_Q_p, ac_C_p, ac_W_p, ac_U_p, ac_G_p, ac_np_p, ac_nw_p]
  · simp only [hp_e, ac_P_p, ac_D_p, ac_V_p, ac_M_p, ac_N_p, ac_Q_p, ac_C_p, ac_W_p, ac_U_p, ac_G_p, ac_np_p, ac_nw_p]
  · simp only [hp_e, ac_P_p, ac_D_p, ac_V_p, ac_M_p, ac_N_p, ac_Q_p, ac_C_p, ac_W_p, ac_U_p, ac_G_p, ac_np_p, ac_nw_p]
  · simp only [hp_e, ac_P_p, ac_D_p, ac_V_p, ac_M_p, ac_N_p, ac_Q_p, ac_C_p, ac_W_p, ac_U_p, ac_G_p, ac_np_p, ac_nw_p]
  · simp only [hp_e, ac_P_p, ac_D_p, ac_V_p, ac_M_p, ac_N_p, ac_Q_p, ac_C_p, ac_W_p, ac_U_p, ac_G_p, ac_np_p, ac_nw_p]
  · simp only [hp_e, ac_P_p, ac_D_p, ac_V_p, ac_M_p, ac_N_p, ac_Q_p, ac_C_p, ac_W_p, ac_U_p, ac_G_p, ac_np_p, ac_nw_p]
  · simp only [hp_e, ac_P_p, ac_D_p, ac_V_p, ac_M_p, ac_N_p, ac_Q_p, ac_C_p, ac_W_p, ac_U_p, ac_G_p, ac_np_p, ac_nw_p]
  · simp only [hp_e, ac_P_p, ac_D_p, ac_V_p, ac_M_p, ac_N_p, ac_Q_p, ac_C_p, ac_W_p, ac_U_p, ac_G_p, ac_np_p, ac_nw_p]
  · simp only [sm_10, ac_P_p, ac_D_p, ac_V_p, ac_M_p, ac_N_p, ac_Q_p, ac_C_p, ac_W_p, ac_U_p, ac_G_p, ac_np_p, ac_nw_p]
theorem sm_w {Z : hw_Z} {ad : hp_ad} {S : hs_S} {T : hp_T} {k i : Nat} (n : Nat) (h : ¬ (k = 0 ∧ i = 0)) : hp_e Z ad (hs_sw S n) T k i = hp_e Z ad S T k i := by
  rcases k with _ | _ | _ | _ | _ | _ | _ | _ | _ | _ | k
  · rcases i with _ | _ | _ | _ | _ | _ | _ | _ | _ | i
    · exact absurd ⟨rfl, rfl⟩ h
    all_goals simp only [hp_e, hp_e0]
  · simp only [hp_e, ac_P_w, ac_D_w, ac_V_w, ac_M_w, ac_N_w, ac_Q_w, ac_C_w, ac_W_w, ac_U_w, ac_G_w, ac_np_w, ac_nw_w]
  · simp only [hp_e, ac_P_w, ac_D_w, ac_V_w, ac_M_w, ac_N_w, ac_Q_w, ac_C_w, ac_W_w, ac_U_w, ac_G_w, ac_np_w, ac_nw_w]
  · simp only [hp_e, ac_P_w, ac_D_w, ac_V_w, ac_M_w, ac_N_w, ac_Q_w, ac_C_w, ac_W_w, ac_U_w, ac_G_w, ac_np_w, ac_nw_w]
  · simp only [hp_e, ac_P_w, ac_D_w, ac_V_w, ac_M_w, ac_N_w, ac_Q_w, ac_C_w, ac_W_w, ac_U_w, ac_G_w, ac_np_w, ac_nw_w]
  · simp only [hp_e, ac_P_w, ac_D_w, ac_V_w, ac_M_w, ac_N_w, ac_Q_w, ac_C_w, ac_W_w, ac_U_w, ac_G_w, ac_np_w, ac_nw_w]
  · simp only [hp_e, ac_P_w, ac_D_w, ac_V_w, ac_M_w, ac_N_w, ac_Q_w, ac_C_w, ac_W_w, ac_U_w, ac_G_w, ac_np_w, ac_nw_w]
  · simp only [hp_e, ac_P_w, ac_D_w, ac_V_w, ac_M_w, ac_N_w, ac_Q_w, ac_C_w, ac_W_w, ac_U_w, ac_G_w, ac_np_w, ac_nw_w]
  · simp only [hp_e, ac_P_w, ac_D_w, ac_V_w, ac_M_w, ac_N_w, ac_Q_w, ac_C_w, ac_W_w, ac_U_w, ac_G_w, ac_np_w, ac_nw_w]
  · simp only [hp_e, ac_P_w, ac_D_w, ac_V_w, ac_M_w, ac_N_w, ac_Q_w, ac_C_w, ac_W_w, ac_U_w, ac_G_w, ac_np_w, ac_nw_w]
  · simp only [sm_10, ac_P_w, ac_D_w, ac_V_w, ac_M_w, ac_N_w, ac_Q_w, ac_C_w, ac_W_w, ac_U_w, ac_G_w, ac_np_w, ac_nw_w]
theorem sm_T {Z : hw_Z} {ad : hp_ad} {S : hs_S} {T T' : hp_T} {k i : Nat} (h : ¬ (k = 0 ∧ 5 ≤ i)) : hp_e Z ad S T' k i = hp_e Z ad S T k i := by
  rcases k with _ | _ | _ | _ | _ | _ | _ | _ | _ | _ | k
  · rcases i with _ | _ | _ | _ | _ | i
    · rfl
    · rfl
    · rfl
    · rfl
    · rfl
    · exact absurd ⟨rfl, by omega⟩ h
  · rfl
  · rfl
  · rfl
  · rfl
  · rfl
  · rfl
  · rfl
  · rfl
  · rfl
  · rfl
