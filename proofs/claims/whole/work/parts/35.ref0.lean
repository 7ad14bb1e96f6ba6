/-! The reference's own ways of reckoning; bridges to the class's. -/
def hb_in (k lo hi : Int32) : Bool := decide (lo ≤ k ∧ k ≤ hi)
theorem hb_in_f {k lo hi : Int32} (h : ¬ (lo ≤ k ∧ k ≤ hi)) : nI (hb_in k lo hi).toNat = nI 0 := by unfold hb_in; rw [decide_eq_false h]; rfl
theorem hb_in_t {k lo hi : Int32} (h : lo ≤ k ∧ k ≤ hi) : nI (hb_in k lo hi).toNat = nI 1 := by unfold hb_in; rw [decide_eq_true h]; rfl
theorem hb_has1 (x : Int64) {n : Nat} (h : n < 64) : (hb_ushr x (nI n) &&& 1 = 1) ↔ hb_bit x n = true := by
  sorry
theorem hb_ct_y {p : Nat → Bool} {i : Nat} (h : p i = true) : hb_ct p i + 1 = hb_ct p (i + 1) := by rw [hb_ct_s, h]; rfl
theorem hb_ct_n {p : Nat → Bool} {i : Nat} (h : p i = false) : hb_ct p i + 0 = hb_ct p (i + 1) := by rw [hb_ct_s, h]; rfl
/-- neighbours, cell by cell -/
def hb_gl (m : Int64) (c : Nat) : Int64 := if 0 < c % 8 then m ||| hb_shl 1 (nI (c - 1)) else m
def hb_gr (m : Int64) (c : Nat) : Int64 := if c % 8 < 7 then m ||| hb_shl 1 (nI (c + 1)) else m
def hb_gw (x : Int64) : Nat → Int64
  | 0 => (x ||| hb_shl x (nI 8)) ||| hb_ushr x (nI 8)
  | c + 1 => if hb_bit x c then hb_gr (hb_gl (hb_gw x c) c) c else hb_gw x c
theorem hb_gw_n {x : Int64} {c : Nat} (h : hb_bit x c = false) : hb_gw x c = hb_gw x (c + 1) := by
  show _ = (if hb_bit x c then _ else hb_gw x c)
  rw [h]; rfl
theorem hb_gw_y {x : Int64} {c : Nat} (h : hb_bit x c = true) : hb_gr (hb_gl (hb_gw x c) c) c = hb_gw x (c + 1) := by
  show _ = (if hb_bit x c then hb_gr (hb_gl (hb_gw x c) c) c else hb_gw x c)
  rw [h]; rfl
theorem hb_gw_end (x : Int64) : hb_gw x 64 = hb_nb x := by
  sorry
/-- held from above -/
def hb_hm (C : Nat → Int64) : Nat → Int64
  | 0 => 0
  | j + 1 => hb_hang C (7 - j) ||| (hb_hm C j &&& (C (7 - j) ^^^ (-1)))
theorem hb_hm_supp (C : Nat → Int64) {k : Nat} (h : k < 8) : hb_hm C (7 - k) &&& (C k ^^^ (-1)) = hb_supp C k := by
  have e0 : ∀ x : Int64, x &&& 0 = 0 := fun x => Int64.and_zero
  have key : ∀ j, j ≤ 7 → hb_hm C j &&& (C (7 - j) ^^^ (-1)) = hb_hd C j := by
    intro j
    induction j with
    | zero => intro _; show (0 : Int64) &&& _ = 0; exact Int64.zero_and
    | succ j ih =>
      intro hj
      show (hb_hang C (7 - j) ||| (hb_hm C j &&& (C (7 - j) ^^^ (-1)))) &&& (C (7 - (j + 1)) ^^^ (-1)) = (hb_hd C j ||| hb_hang C (7 - j)) &&& (C (7 - j - 1) ^^^ (-1))
      rw [ih (by omega), Int64.or_comm (hb_hang C (7 - j)), show 7 - (j + 1) = 7 - j - 1 by omega]
  unfold hb_supp
  by_cases h7 : k < 7
  · rw [if_pos h7, ← key (7 - k) (by omega), show 7 - (7 - k) = k by omega]
  · rw [if_neg h7, show 7 - k = 0 by omega]
    show (0 : Int64) &&& _ = 0
    exact Int64.zero_and
-- the first place where something holds, at most n
def hb_fi (p : Nat → Bool) : Nat → Nat → Nat
  | 0, i => i
  | n + 1, i => if p i then i else hb_fi p n (i + 1)
theorem hb_fi_le (p : Nat → Bool) : ∀ n i, hb_fi p n i ≤ i + n
  | 0, i => Nat.le_refl _
  | n + 1, i => by
    have := hb_fi_le p n (i + 1)
    show (if p i then i else hb_fi p n (i + 1)) ≤ i + (n + 1)
    split <;> omega
theorem hb_fi_ge (p : Nat → Bool) : ∀ n i, i ≤ hb_fi p n i
  | 0, i => Nat.le_refl _
  | n + 1, i => by
    have := hb_fi_ge p n (i + 1)
    show i ≤ (if p i then i else hb_fi p n (i + 1))
    split <;> omega
theorem hb_fi_lt (p : Nat → Bool) : ∀ n i j, i ≤ j → j < hb_fi p n i → p j = false
  | 0, i, j, h1, h2 => by
    have h3 : j < i := h2
    omega
  | n + 1, i, j, h1, h2 => by
    have h3 : j < (if p i then i else hb_fi p n (i + 1)) := h2
    cases hp : p i with
    | true => rw [hp] at h3; have h4 : j < i := h3; omega
    | false =>
      rw [hp] at h3
      rcases Nat.eq_or_lt_of_le h1 with q | q
      · rw [← q]; exact hp
      · exact hb_fi_lt p n (i + 1) j q h3
theorem hb_fi_at (p : Nat → Bool) : ∀ n i, (∃ j, i ≤ j ∧ j ≤ i + n ∧ p j = true) → p (hb_fi p n i) = true
  | 0, i, ⟨j, h1, h2, h3⟩ => by
    have : j = i := by omega
    rw [← this]; exact h3
  | n + 1, i, ⟨j, h1, h2, h3⟩ => by
    show p (if p i then i else hb_fi p n (i + 1)) = true
    cases hp : p i with
    | true => exact hp
    | false =>
      have hne : j ≠ i := fun q => by rw [q, hp] at h3; cases h3
      exact hb_fi_at p n (i + 1) ⟨j, by omega, by omega, h3⟩
/-- how many steps the part that hangs together with x wants -/
def hb_fn (S x : Int64) : Nat := hb_fi (fun n => decide (hb_fl S (n + 1) x = hb_fl S n x)) 64 0
theorem hb_fn_le (S x : Int64) : hb_fn S x ≤ 64 := by have := hb_fi_le (fun n => decide (hb_fl S (n + 1) x = hb_fl S n x)) 64 0; unfold hb_fn; omega
theorem hb_fn_lt {S x : Int64} {j : Nat} (h : j < hb_fn S x) : ¬ hb_fl S (j + 1) x = hb_fl S j x := of_decide_eq_false (hb_fi_lt (fun n => decide (hb_fl S (n + 1) x = hb_fl S n x)) 64 0 j (Nat.zero_le _) h)
/-- x is a part of S -/
def hb_sub (x S : Int64) : Prop := x &&& S = x
theorem hb_fl_fixes {S x : Int64} (h : hb_sub x S) : ∃ j, 0 ≤ j ∧ j ≤ 0 + 64 ∧ decide (hb_fl S (j + 1) x = hb_fl S j x) = true := by
  sorry
theorem hb_fn_at {S x : Int64} (h : hb_sub x S) : hb_fl S (hb_fn S x + 1) x = hb_fl S (hb_fn S x) x := of_decide_eq_true (hb_fi_at _ 64 0 (hb_fl_fixes h))
theorem hb_fn_part {S x : Int64} (h : hb_sub x S) : hb_fl S (hb_fn S x) x = hb_part S x := (hb_fl_end (hb_fn_le S x) (hb_fn_at h)).symm
theorem hb_low_sub (R : Int64) : hb_sub (R &&& -R) R := by
  unfold hb_sub
  rw [Int64.and_assoc, Int64.and_comm (-R) R, ← Int64.and_assoc, Int64.and_self]
/-- what is left behind i parts, when each is reckoned in what is left -/
def hb_jr (S : Int64) : Nat → Int64
  | 0 => S
  | i + 1 => hb_jr S i &&& (hb_part (hb_jr S i) (hb_jr S i &&& -hb_jr S i) ^^^ (-1))
def hb_jc (S B : Int64) : Nat → Nat
  | 0 => 0
  | i + 1 => hb_jc S B i + (if hb_part (hb_jr S i) (hb_jr S i &&& -hb_jr S i) &&& B = 0 then 1 else 0)
def hb_jn (S : Int64) : Nat := hb_fi (fun n => decide (hb_jr S n = 0)) 64 0
theorem hb_jn_le (S : Int64) : hb_jn S ≤ 64 := by have := hb_fi_le (fun n => decide (hb_jr S n = 0)) 64 0; unfold hb_jn; omega
theorem hb_jn_lt {S : Int64} {j : Nat} (h : j < hb_jn S) : ¬ hb_jr S j = 0 := of_decide_eq_false (hb_fi_lt (fun n => decide (hb_jr S n = 0)) 64 0 j (Nat.zero_le _) h)
theorem hb_jr_ends (S : Int64) : ∃ j, 0 ≤ j ∧ j ≤ 0 + 64 ∧ decide (hb_jr S j = 0) = true := by
  sorry
theorem hb_jn_at (S : Int64) : hb_jr S (hb_jn S) = 0 := of_decide_eq_true (hb_fi_at _ 64 0 (hb_jr_ends S))
theorem hb_jr_ir (S : Int64) (i : Nat) : hb_jr S i = hb_ir S i ∧ hb_part (hb_jr S i) (hb_jr S i &&& -hb_jr S i) = hb_part S (hb_ir S i &&& -hb_ir S i) := by
  sorry
theorem hb_jc_ic (S B : Int64) : hb_jc S B (hb_jn S) = hb_ic S B 64 := by
  have h0 : hb_ir S (hb_jn S) = 0 := by rw [← (hb_jr_ir S (hb_jn S)).1]; exact hb_jn_at S
  rw [hb_ic_64 (hb_jn_le S) h0]
  have key : ∀ i, i ≤ hb_jn S → hb_jc S B i = hb_ic S B i := by
    intro i
    induction i with
    | zero => intro _; rfl
    | succ i ih =>
      intro hi
      have hz : ¬ hb_ir S i = 0 := by rw [← (hb_jr_ir S i).1]; exact hb_jn_lt hi
      show hb_jc S B i + (if hb_part (hb_jr S i) (hb_jr S i &&& -hb_jr S i) &&& B = 0 then 1 else 0) = _
      rw [ih (by omega), (hb_jr_ir S i).2]
      by_cases hp : hb_part S (hb_ir S i &&& -hb_ir S i) &&& B = 0
      · rw [if_pos hp, hb_ic_y hz hp]
      · rw [if_neg hp, hb_ic_n hz hp, Nat.add_zero]
  exact key _ (Nat.le_refl _)
theorem hb_isl_s (C : Nat → Int64) {k : Nat} (hk : 0 < k) : hb_isl C (k - 1) + hb_jc (C k) (C (k - 1)) (hb_jn (C k)) = hb_isl C k := by
  obtain ⟨j, rfl⟩ : ∃ j, k = j + 1 := ⟨k - 1, by omega⟩
  rw [hb_jc_ic]; rfl
-- laying: the layers lowered one by one
def hb_sf (L : Nat → Int64) (i : Nat) : Nat → Int64 := fun k => if k + i < 8 then L (k + i) else 0
/-- how often the layers are lowered -/
def hb_lc (L : Nat → Int64) : Nat := if hb_ht L 8 = 0 then 0 else hb_em L 8 0
theorem hb_ht_z {L : Nat → Int64} : ∀ n, hb_ht L n = 0 → ∀ k, k < n → L k = 0
  | 0, _, k, hk => absurd hk (Nat.not_lt_zero _)
  | n + 1, h, k, hk => by
    have h2 : (if L n = 0 then hb_ht L n else n + 1) = 0 := h
    by_cases hz : L n = 0
    · rw [if_pos hz] at h2
      rcases Nat.lt_or_ge k n with q | q
      · exact hb_ht_z n h2 k q
      · rw [show k = n by omega]; exact hz
    · rw [if_neg hz] at h2; omega
theorem hb_ht_0 {L : Nat → Int64} : ∀ n, (∀ k, k < n → L k = 0) → hb_ht L n = 0
  | 0, _ => rfl
  | n + 1, h => by
    show (if L n = 0 then hb_ht L n else n + 1) = 0
    rw [if_pos (h n (Nat.lt_succ_self _))]
    exact hb_ht_0 n (fun k hk => h k (by omega))
theorem hb_em_z (L : Nat → Int64) : ∀ f i j, i ≤ j → j < hb_em L f i → L j = 0
  | 0, i, j, h1, h2 => by have h3 : j < i := h2; omega
  | f + 1, i, j, h1, h2 => by
    have h3 : j < (if L i = 0 then hb_em L f (i + 1) else i) := h2
    by_cases hz : L i = 0
    · rw [if_pos hz] at h3
      rcases Nat.eq_or_lt_of_le h1 with q | q
      · rw [← q]; exact hz
      · exact hb_em_z L f (i + 1) j q h3
    · rw [if_neg hz] at h3; omega
theorem hb_em_nz (L : Nat → Int64) : ∀ f i, hb_em L f i < i + f → ¬ L (hb_em L f i) = 0
  | 0, i, h => by have h3 : i < i + 0 := h; omega
  | f + 1, i, h => by
    have h3 : (if L i = 0 then hb_em L f (i + 1) else i) < i + (f + 1) := h
    show ¬ L (if L i = 0 then hb_em L f (i + 1) else i) = 0
    by_cases hz : L i = 0
    · rw [if_pos hz] at h3 ⊢
      exact hb_em_nz L f (i + 1) (by omega)
    · rw [if_neg hz]; exact hz
theorem hb_em_8 {L : Nat → Int64} (h : ¬ hb_ht L 8 = 0) : hb_em L 8 0 < 8 := by
  rcases Nat.lt_or_ge (hb_em L 8 0) 8 with q | q
  · exact q
  · exact absurd (hb_ht_0 8 (fun k hk => hb_em_z L 8 0 k (Nat.zero_le _) (by omega))) h
theorem hb_sf_0 {L : Nat → Int64} (h : ∀ k, 8 ≤ k → L k = 0) : hb_sf L 0 = L := by
  funext k
  show (if k + 0 < 8 then L (k + 0) else 0) = L k
  by_cases hk : k < 8
  · rw [if_pos (by omega), Nat.add_zero]
  · rw [if_neg (by omega), h k (by omega)]
theorem hb_sf_low {L : Nat → Int64} (h : ¬ hb_ht L 8 = 0) : hb_sf L (hb_lc L) = hb_low L := by
  unfold hb_lc
  rw [if_neg h]
  funext k
  show (if k + hb_em L 8 0 < 8 then _ else (0 : Int64)) = (if _ then _ else _)
  rfl
theorem hb_sf_low0 {L : Nat → Int64} (h : hb_ht L 8 = 0) (h8 : ∀ k, 8 ≤ k → L k = 0) : L = hb_low L := by
  have hz := hb_ht_z 8 h
  funext k
  show L k = (if k + hb_em L 8 0 < 8 then L (k + hb_em L 8 0) else 0)
  have e : L k = 0 := by
    rcases Nat.lt_or_ge k 8 with q | q
    · exact hz k q
    · exact h8 k q
  rw [e]
  split
  · rename_i q; exact (hz _ q).symm
  · rfl
theorem hb_sf_ht {L : Nat → Int64} {i : Nat} (h : ¬ hb_ht L 8 = 0) (hi : i ≤ hb_em L 8 0) : ¬ hb_ht (hb_sf L i) 8 = 0 := fun q => by
  have h8 := hb_em_8 h
  have hz := hb_ht_z 8 q (hb_em L 8 0 - i) (by omega)
  have e : hb_sf L i (hb_em L 8 0 - i) = L (hb_em L 8 0) := by
    show (if _ then _ else _) = _
    rw [if_pos (by omega), show hb_em L 8 0 - i + i = hb_em L 8 0 by omega]
  rw [e] at hz
  exact hb_em_nz L 8 0 (by omega) hz
theorem hb_sf_z {L : Nat → Int64} {i : Nat} (h : ¬ hb_ht L 8 = 0) (hi : i < hb_em L 8 0) : hb_sf L i 0 = 0 := by
  have h8 := hb_em_8 h
  show (if 0 + i < 8 then L (0 + i) else 0) = 0
  rw [if_pos (by omega), Nat.zero_add]
  exact hb_em_z L 8 0 i (Nat.zero_le _) hi
theorem hb_sf_nz {L : Nat → Int64} (h : ¬ hb_ht L 8 = 0) : ¬ hb_sf L (hb_em L 8 0) 0 = 0 := by
  have h8 := hb_em_8 h
  show ¬ (if 0 + hb_em L 8 0 < 8 then L (0 + hb_em L 8 0) else 0) = 0
  rw [if_pos (by omega), Nat.zero_add]
  exact hb_em_nz L 8 0 (by omega)
theorem hb_sf_s {L : Nat → Int64} {i : Nat} : va_up (va_cpy (hb_sf L i) (hb_sf L i) 1 0 7) 7 0 = hb_sf L (i + 1) := by
  funext k
  by_cases h : k = 7
  · subst h
    rw [va_up_self]
    show (0 : Int64) = (if 7 + (i + 1) < 8 then L (7 + (i + 1)) else 0)
    rw [if_neg (by omega)]
  · rw [va_up_ne _ _ h]
    show (if 0 ≤ k ∧ k < 0 + 7 then hb_sf L i (1 + (k - 0)) else hb_sf L i k) = (if k + (i + 1) < 8 then L (k + (i + 1)) else 0)
    by_cases h2 : k < 7
    · rw [if_pos (by omega)]
      show (if 1 + (k - 0) + i < 8 then L (1 + (k - 0) + i) else 0) = _
      rw [show 1 + (k - 0) + i = k + (i + 1) by omega]
    · rw [if_neg (by omega)]
      show (if k + i < 8 then _ else _) = _
      rw [if_neg (by omega), if_neg (by omega)]
theorem hb_lz_8 {S : Int64} {way z : Nat} (hw : way < 6) (hz : z < 8) {L : Nat → Int64} (h : ∀ k, 8 ≤ k → L k = 0) : ∀ n, n ≤ 64 → ∀ k, 8 ≤ k → hb_lz S way z n L k = 0
  | 0, _, k, hk => h k hk
  | n + 1, hn, k, hk => by
    have ih := hb_lz_8 (S := S) hw hz h n (by omega) k hk
    show (if hb_bit S n then hb_put (hb_lz S way z n L) (hb_tx way (n % 8) (n / 8) z) (hb_ty way (n % 8) (n / 8) z) (hb_tz way (n % 8) (n / 8) z) else hb_lz S way z n L) k = 0
    split
    · unfold hb_put
      have ht : hb_tz way (n % 8) (n / 8) z < 8 := by unfold hb_tz; split; · omega
                                                      split; · omega
                                                      split; · omega
                                                      split; · omega
                                                      split <;> omega
      rw [va_up_ne _ _ (by omega)]; exact ih
    · exact ih
theorem hb_la_8 (C : Nat → Int64) {way : Nat} (hw : way < 6) : ∀ z, z ≤ 8 → ∀ k, 8 ≤ k → hb_la C way z k = 0
  | 0, _, _, _ => rfl
  | z + 1, hz, k, hk => hb_lz_8 hw (by omega) (hb_la_8 C hw z (by omega)) 64 (Nat.le_refl _) k hk
-- lacks and holes
theorem hb_hole_gt (d : UInt64) (h : FP.dcmp d 4618441417868443648 = some .gt) : hb_lack d = false := by
  sorry
theorem hb_hole_iff (d : UInt64) : hb_hole d = decide (FP.dcmp d 4618441417868443648 = some .gt) := by
  unfold hb_hole
  by_cases h : FP.dcmp d 4618441417868443648 = some .gt
  · rw [hb_hole_gt d h, decide_eq_true h]; rfl
  · rw [decide_eq_false h]; exact Bool.and_false _
