/-! The reference's own ways of reckoning; bridges to the class's. -/
def hb_in (k lo hi : Int32) : Bool := decide (lo ≤ k ∧ k ≤ hi)
theorem hb_in_f {k lo hi : Int32} (h : ¬ (lo ≤ k ∧ k ≤ hi)) : nI (hb_in k lo hi).toNat = nI 0 := by unfold hb_in; rw [decide_eq_false h]; rfl
theorem hb_in_t {k lo hi : Int32} (h : lo ≤ k ∧ k ≤ hi) : nI (hb_in k lo hi).toNat = nI 1 := by unfold hb_in; rw [decide_eq_true h]; rfl
theorem hb_ct_y {p : Nat → Bool} {i : Nat} (h : p i = true) : hb_ct p i + 1 = hb_ct p (i + 1) := by rw [hb_ct_s, h]; rfl
theorem hb_ct_n {p : Nat → Bool} {i : Nat} (h : p i = false) : hb_ct p i + 0 = hb_ct p (i + 1) := by rw [hb_ct_s, h]; rfl
/-- neighbours, cell by cell -/
def hb_gl (m : Int64) (c : Nat) : Int64 := if 0 < c % 8 then m ||| hb_shl 1 (nI (c - 1)) else m
def hb_gr (m : Int64) (c : Nat) : Int64 := if c % 8 < 7 then m ||| hb_shl 1 (nI (c + 1)) else m
def hb_gw (x : Int64) : Nat → Int64
  | 0 => (x ||| hb_shl x (nI 8)) ||| hb_ushr x (nI 8)
  | c + 1 => if hb_bit x c then hb_gr (hb_gl (hb_gw x c) c) c else hb_gw x c
theorem hb_gw_n {x : Int64} {c : Nat} (h : hb_bit x c = false) : hb_gw x c = hb_gw x (c + 1) := by
  show _ = (if hb_bit x c then _ else hb_gw x c)
  rw [h]; rfl
theorem hb_gw_y {x : Int64} {c : Nat} (h : hb_bit x c = true) : hb_gr (hb_gl (hb_gw x c) c) c = hb_gw x (c + 1) := by
  show _ = (if hb_bit x c then hb_gr (hb_gl (hb_gw x c) c) c else hb_gw x c)
  rw [h]; rfl
theorem hx_7f : ∀ i, i < 64 → hb_bit 9187201950435737471 i = decide (i % 8 < 7) := by decide +kernel
theorem hx_fe : ∀ i, i < 64 → hb_bit (-72340172838076674) i = decide (0 < i % 8) := by decide +kernel
theorem hx_nb (x : Int64) {i : Nat} (hi : i < 64) : hb_bit (hb_nb x) i = (hb_bit x i || (decide (0 < i % 8) && hb_bit x (i - 1)) || (decide (i % 8 < 7) && hb_bit x (i + 1)) || (decide (8 ≤ i) && hb_bit x (i - 8)) || hb_bit x (i + 8)) := by
  unfold hb_nb
  rw [hx_or, hx_or, hx_or, hx_or, hx_shl _ (by omega), hx_ushr _ (by omega), hx_shl _ (by omega), hx_ushr _ (by omega), hx_and, hx_and, decide_eq_true hi, Bool.true_and, Bool.true_and, Nat.add_comm 1 i, Nat.add_comm 8 i]
  congr 1
  congr 1
  congr 1
  · congr 1
    by_cases h : 1 ≤ i
    · rw [hx_7f _ (by omega), decide_eq_true h, Bool.true_and, Bool.and_comm]
      congr 1
      exact decide_eq_decide.mpr (by omega)
    · have : i = 0 := by omega
      subst this; rfl
  · by_cases h : i + 1 < 64
    · rw [hx_fe _ h, Bool.and_comm]
      congr 1
      exact decide_eq_decide.mpr (by omega)
    · rw [hx_ge x (show 64 ≤ i + 1 by omega), Bool.and_false, Bool.false_and]
/-- next to each other, or the same -/
def hx_ad (i j : Nat) : Prop := i = j ∨ (0 < i % 8 ∧ j + 1 = i) ∨ (i % 8 < 7 ∧ j = i + 1) ∨ j + 8 = i ∨ j = i + 8
theorem hx_ad_s {i j : Nat} (h : hx_ad i j) : hx_ad j i := by unfold hx_ad at *; omega
theorem hx_nbi (x : Int64) {i : Nat} (hi : i < 64) : hb_bit (hb_nb x) i = true ↔ ∃ j, hx_ad i j ∧ hb_bit x j = true := by
  rw [hx_nb x hi]
  simp only [Bool.or_eq_true, Bool.and_eq_true, decide_eq_true_eq]
  unfold hx_ad
  constructor
  · rintro ((((h | ⟨h1, h⟩) | ⟨h1, h⟩) | ⟨h1, h⟩) | h)
    · exact ⟨i, Or.inl rfl, h⟩
    · exact ⟨i - 1, by omega, h⟩
    · exact ⟨i + 1, by omega, h⟩
    · exact ⟨i - 8, by omega, h⟩
    · exact ⟨i + 8, by omega, h⟩
  · rintro ⟨j, h, hj⟩
    rcases h with h | ⟨h1, h⟩ | ⟨h1, h⟩ | h | h
    · subst h; exact Or.inl (Or.inl (Or.inl (Or.inl hj)))
    · exact Or.inl (Or.inl (Or.inl (Or.inr ⟨h1, by rw [show i - 1 = j by omega]; exact hj⟩)))
    · exact Or.inl (Or.inl (Or.inr ⟨h1, by rw [← h]; exact hj⟩))
    · exact Or.inl (Or.inr ⟨by omega, by rw [show i - 8 = j by omega]; exact hj⟩)
    · exact Or.inr (by rw [← h]; exact hj)
theorem hx_gw (x : Int64) {i : Nat} (hi : i < 64) : ∀ c, c ≤ 64 → hb_bit (hb_gw x c) i = (hb_bit x i || (decide (0 < i % 8 ∧ i - 1 < c) && hb_bit x (i - 1)) || (decide (i % 8 < 7 ∧ i + 1 < c) && hb_bit x (i + 1)) || (decide (8 ≤ i) && hb_bit x (i - 8)) || hb_bit x (i + 8))
  | 0, _ => by
    show hb_bit ((x ||| hb_shl x (nI 8)) ||| hb_ushr x (nI 8)) i = _
    rw [hx_or, hx_or, hx_shl _ (by omega), hx_ushr _ (by omega), decide_eq_true hi, Bool.true_and, Nat.add_comm 8 i, decide_eq_false (show ¬ (0 < i % 8 ∧ i - 1 < 0) by omega), decide_eq_false (show ¬ (i % 8 < 7 ∧ i + 1 < 0) by omega)]
    simp
  | c + 1, hc => by
    have ih := hx_gw x hi c (by omega)
    show hb_bit (if hb_bit x c then hb_gr (hb_gl (hb_gw x c) c) c else hb_gw x c) i = _
    have gl : hb_bit (hb_gl (hb_gw x c) c) i = (hb_bit (hb_gw x c) i || decide (0 < c % 8 ∧ i + 1 = c)) := by
      unfold hb_gl
      split
      · rw [hx_or, hx_bitw (by omega)]
        congr 1; exact decide_eq_decide.mpr (by omega)
      · rw [decide_eq_false (by omega), Bool.or_false]
    have gr : hb_bit (hb_gr (hb_gl (hb_gw x c) c) c) i = (hb_bit (hb_gl (hb_gw x c) c) i || decide (c % 8 < 7 ∧ i = c + 1)) := by
      unfold hb_gr
      split
      · rename_i h7
        rw [hx_or, hx_bitw (by omega)]
        congr 1; exact decide_eq_decide.mpr (by omega)
      · rw [decide_eq_false (by omega), Bool.or_false]
    have e : hb_bit (if hb_bit x c then hb_gr (hb_gl (hb_gw x c) c) c else hb_gw x c) i = (hb_bit (hb_gw x c) i || (hb_bit x c && decide (0 < c % 8 ∧ i + 1 = c)) || (hb_bit x c && decide (c % 8 < 7 ∧ i = c + 1))) := by
      cases hb : hb_bit x c with
      | false => simp
      | true => rw [if_pos rfl, gr, gl]; simp
    rw [e, ih, Bool.eq_iff_iff]
    simp only [Bool.or_eq_true, Bool.and_eq_true, decide_eq_true_eq]
    constructor
    · rintro ((((((h | ⟨h1, h⟩) | ⟨h1, h⟩) | h) | h) | ⟨h, h1⟩) | ⟨h, h1⟩)
      · exact Or.inl (Or.inl (Or.inl (Or.inl h)))
      · exact Or.inl (Or.inl (Or.inl (Or.inr ⟨by omega, h⟩)))
      · exact Or.inl (Or.inl (Or.inr ⟨by omega, h⟩))
      · exact Or.inl (Or.inr h)
      · exact Or.inr h
      · exact Or.inl (Or.inl (Or.inr ⟨by omega, by rw [h1.2]; exact h⟩))
      · exact Or.inl (Or.inl (Or.inl (Or.inr ⟨by omega, by rw [show i - 1 = c by omega]; exact h⟩)))
    · rintro ((((h | ⟨h1, h⟩) | ⟨h1, h⟩) | h) | h)
      · exact Or.inl (Or.inl (Or.inl (Or.inl (Or.inl (Or.inl h)))))
      · by_cases q : i - 1 < c
        · exact Or.inl (Or.inl (Or.inl (Or.inl (Or.inl (Or.inr ⟨by omega, h⟩)))))
        · exact Or.inr ⟨by rw [show c = i - 1 by omega]; exact h, by omega⟩
      · by_cases q : i + 1 < c
        · exact Or.inl (Or.inl (Or.inl (Or.inl (Or.inr ⟨by omega, h⟩))))
        · exact Or.inl (Or.inr ⟨by rw [show c = i + 1 by omega]; exact h, by omega⟩)
      · exact Or.inl (Or.inl (Or.inl (Or.inr h)))
      · exact Or.inl (Or.inl (Or.inr h))
theorem hb_gw_end (x : Int64) : hb_gw x 64 = hb_nb x := by
  refine hx_ext (fun i hi => ?_)
  rw [hx_gw x hi 64 (Nat.le_refl _), hx_nb x hi, show decide (0 < i % 8 ∧ i - 1 < 64) = decide (0 < i % 8) from decide_eq_decide.mpr (by omega)]
  by_cases h : i + 1 < 64
  · rw [show decide (i % 8 < 7 ∧ i + 1 < 64) = decide (i % 8 < 7) from decide_eq_decide.mpr (by omega)]
  · rw [hx_ge x (show 64 ≤ i + 1 by omega), Bool.and_false, Bool.and_false]
/-- every bit of x is one of y -/
def hx_le (x y : Int64) : Prop := ∀ i, i < 64 → hb_bit x i = true → hb_bit y i = true
theorem hx_le_and {x y : Int64} : hx_le (x &&& y) y := fun i _ h => by rw [hx_and, Bool.and_eq_true] at h; exact h.2
theorem hx_le_l {x y : Int64} : hx_le (x &&& y) x := fun i _ h => by rw [hx_and, Bool.and_eq_true] at h; exact h.1
theorem hx_le_nb (x : Int64) : hx_le x (hb_nb x) := fun i hi h => (hx_nbi x hi).mpr ⟨i, Or.inl rfl, h⟩
theorem hx_nb_mono {x y : Int64} (h : hx_le x y) : hx_le (hb_nb x) (hb_nb y) := fun i hi q => by
  obtain ⟨j, h1, h2⟩ := (hx_nbi x hi).mp q
  refine (hx_nbi y hi).mpr ⟨j, h1, h j (Nat.lt_of_not_le (fun g => ?_)) h2⟩
  rw [hx_ge x g] at h2; cases h2
theorem hx_le_a {x y z : Int64} (h1 : hx_le x y) (h2 : hx_le x z) : hx_le x (y &&& z) := fun i hi q => by rw [hx_and, h1 i hi q, h2 i hi q]; rfl
theorem hx_le_eq {x y : Int64} (h1 : hx_le x y) (h2 : hx_le y x) : x = y := hx_ext (fun i hi => by
  cases e : hb_bit x i with
  | true => exact (h1 i hi e).symm
  | false =>
    cases f : hb_bit y i with
    | false => rfl
    | true => rw [h2 i hi f] at e; cases e)
theorem hx_le_t {x y z : Int64} (h1 : hx_le x y) (h2 : hx_le y z) : hx_le x z := fun i hi q => h2 i hi (h1 i hi q)
theorem hx_fl_le {S x : Int64} (h : hx_le x S) : ∀ n, hx_le (hb_fl S n x) S
  | 0 => h
  | n + 1 => hx_le_and
theorem hx_fl_up {S x : Int64} (h : hx_le x S) (n : Nat) : hx_le (hb_fl S n x) (hb_fl S (n + 1) x) := hx_le_a (hx_le_nb _) (hx_fl_le h n)
theorem hx_fl_x {S x : Int64} (h : hx_le x S) : ∀ n, hx_le x (hb_fl S n x)
  | 0 => fun _ _ q => q
  | n + 1 => hx_le_t (hx_fl_x h n) (hx_fl_up h n)
theorem hx_fix {S x : Int64} (h : hx_le x S) : ∃ j, j ≤ 64 ∧ hb_fl S (j + 1) x = hb_fl S j x := by
  refine Classical.byContradiction (fun q => ?_)
  have key : ∀ n, n ≤ 65 → n ≤ hb_pc (hb_fl S n x) := by
    intro n
    induction n with
    | zero => intro _; omega
    | succ n ih =>
      intro hn
      have h1 := ih (by omega)
      have h2 := hx_pcl (x := hb_fl S n x) (y := hb_fl S (n + 1) x) (fun i hi g => hx_fl_up h n i hi g) (fun e => q ⟨n, by omega, e.symm⟩)
      omega
  have h1 := key 65 (by omega)
  have h2 := hb_pc_le (hb_fl S 65 x)
  omega
/-- a part is closed under stepping in S -/
theorem hx_closed {S x : Int64} (h : hx_le x S) : hb_nb (hb_part S x) &&& S = hb_part S x := by
  obtain ⟨j, hj, e⟩ := hx_fix h
  have e : hb_nb (hb_fl S j x) &&& S = hb_fl S j x := e
  unfold hb_part
  rw [hb_fl_end hj e]; exact e
/-- held from above -/
def hb_hm (C : Nat → Int64) : Nat → Int64
  | 0 => 0
  | j + 1 => hb_hang C (7 - j) ||| (hb_hm C j &&& (C (7 - j) ^^^ (-1)))
theorem hb_hm_supp (C : Nat → Int64) {k : Nat} (h : k < 8) : hb_hm C (7 - k) &&& (C k ^^^ (-1)) = hb_supp C k := by
  have e0 : ∀ x : Int64, x &&& 0 = 0 := fun x => Int64.and_zero
  have key : ∀ j, j ≤ 7 → hb_hm C j &&& (C (7 - j) ^^^ (-1)) = hb_hd C j := by
    intro j
    induction j with
    | zero => intro _; show (0 : Int64) &&& _ = 0; exact Int64.zero_and
    | succ j ih =>
      intro hj
      show (hb_hang C (7 - j) ||| (hb_hm C j &&& (C (7 - j) ^^^ (-1)))) &&& (C (7 - (j + 1)) ^^^ (-1)) = (hb_hd C j ||| hb_hang C (7 - j)) &&& (C (7 - j - 1) ^^^ (-1))
      rw [ih (by omega), Int64.or_comm (hb_hang C (7 - j)), show 7 - (j + 1) = 7 - j - 1 by omega]
  unfold hb_supp
  by_cases h7 : k < 7
  · rw [if_pos h7, ← key (7 - k) (by omega), show 7 - (7 - k) = k by omega]
  · rw [if_neg h7, show 7 - k = 0 by omega]
    show (0 : Int64) &&& _ = 0
    exact Int64.zero_and
-- the first place where something holds, at most n
def hb_fi (p : Nat → Bool) : Nat → Nat → Nat
  | 0, i => i
  | n + 1, i => if p i then i else hb_fi p n (i + 1)
theorem hb_fi_le (p : Nat → Bool) : ∀ n i, hb_fi p n i ≤ i + n
  | 0, i => Nat.le_refl _
  | n + 1, i => by
    have := hb_fi_le p n (i + 1)
    show (if p i then i else hb_fi p n (i + 1)) ≤ i + (n + 1)
    split <;> omega
theorem hb_fi_ge (p : Nat → Bool) : ∀ n i, i ≤ hb_fi p n i
  | 0, i => Nat.le_refl _
  | n + 1, i => by
    have := hb_fi_ge p n (i + 1)
    show i ≤ (if p i then i else hb_fi p n (i + 1))
    split <;> omega
theorem hb_fi_lt (p : Nat → Bool) : ∀ n i j, i ≤ j → j < hb_fi p n i → p j = false
  | 0, i, j, h1, h2 => by
    have h3 : j < i := h2
    omega
  | n + 1, i, j, h1, h2 => by
    have h3 : j < (if p i then i else hb_fi p n (i + 1)) := h2
    cases hp : p i with
    | true => rw [hp] at h3; have h4 : j < i := h3; omega
    | false =>
      rw [hp] at h3
      rcases Nat.eq_or_lt_of_le h1 with q | q
      · rw [← q]; exact hp
      · exact hb_fi_lt p n (i + 1) j q h3
theorem hb_fi_at (p : Nat → Bool) : ∀ n i, (∃ j, i ≤ j ∧ j ≤ i + n ∧ p j = true) → p (hb_fi p n i) = true
  | 0, i, ⟨j, h1, h2, h3⟩ => by
    have : j = i := by omega
    rw [← this]; exact h3
  | n + 1, i, ⟨j, h1, h2, h3⟩ => by
    show p (if p i then i else hb_fi p n (i + 1)) = true
    cases hp : p i with
    | true => exact hp
    | false =>
      have hne : j ≠ i := fun q => by rw [q, hp] at h3; cases h3
      exact hb_fi_at p n (i + 1) ⟨j, by omega, by omega, h3⟩
/-- how many steps the part that hangs together with x wants -/
def hb_fn (S x : Int64) : Nat := hb_fi (fun n => decide (hb_fl S (n + 1) x = hb_fl S n x)) 64 0
theorem hb_fn_le (S x : Int64) : hb_fn S x ≤ 64 := by have := hb_fi_le (fun n => decide (hb_fl S (n + 1) x = hb_fl S n x)) 64 0; unfold hb_fn; omega
theorem hb_fn_lt {S x : Int64} {j : Nat} (h : j < hb_fn S x) : ¬ hb_fl S (j + 1) x = hb_fl S j x := of_decide_eq_false (hb_fi_lt (fun n => decide (hb_fl S (n + 1) x = hb_fl S n x)) 64 0 j (Nat.zero_le _) h)
/-- x is a part of S -/
def hb_sub (x S : Int64) : Prop := x &&& S = x
theorem hx_sub_le {x S : Int64} (h : hb_sub x S) : hx_le x S := fun i hi q => by
  have h : x &&& S = x := h
  rw [← h, hx_and, Bool.and_eq_true] at q; exact q.2
theorem hb_fl_fixes {S x : Int64} (h : hb_sub x S) : ∃ j, 0 ≤ j ∧ j ≤ 0 + 64 ∧ decide (hb_fl S (j + 1) x = hb_fl S j x) = true := by
  obtain ⟨j, h1, h2⟩ := hx_fix (hx_sub_le h)
  exact ⟨j, Nat.zero_le _, by omega, decide_eq_true h2⟩
theorem hb_fn_at {S x : Int64} (h : hb_sub x S) : hb_fl S (hb_fn S x + 1) x = hb_fl S (hb_fn S x) x := of_decide_eq_true (hb_fi_at _ 64 0 (hb_fl_fixes h))
theorem hb_fn_part {S x : Int64} (h : hb_sub x S) : hb_fl S (hb_fn S x) x = hb_part S x := (hb_fl_end (hb_fn_le S x) (hb_fn_at h)).symm
theorem hb_low_sub (R : Int64) : hb_sub (R &&& -R) R := by
  unfold hb_sub
  rw [Int64.and_assoc, Int64.and_comm (-R) R, ← Int64.and_assoc, Int64.and_self]
/-- what is left behind i parts, when each is reckoned in what is left -/
def hb_jr (S : Int64) : Nat → Int64
  | 0 => S
  | i + 1 => hb_jr S i &&& (hb_part (hb_jr S i) (hb_jr S i &&& -hb_jr S i) ^^^ (-1))
def hb_jc (S B : Int64) : Nat → Nat
  | 0 => 0
  | i + 1 => hb_jc S B i + (if hb_part (hb_jr S i) (hb_jr S i &&& -hb_jr S i) &&& B = 0 then 1 else 0)
def hb_jn (S : Int64) : Nat := hb_fi (fun n => decide (hb_jr S n = 0)) 64 0
theorem hb_jn_le (S : Int64) : hb_jn S ≤ 64 := by have := hb_fi_le (fun n => decide (hb_jr S n = 0)) 64 0; unfold hb_jn; omega
theorem hb_jn_lt {S : Int64} {j : Nat} (h : j < hb_jn S) : ¬ hb_jr S j = 0 := of_decide_eq_false (hb_fi_lt (fun n => decide (hb_jr S n = 0)) 64 0 j (Nat.zero_le _) h)
/-- the lowest bit -/
theorem hx_low (x : Int64) (h : ¬ x = 0) : ¬ (x &&& -x) = 0 := by
  intro q
  have hex : ∃ i, i < 64 ∧ hb_bit x i = true := Classical.byContradiction (fun g => h (hx_z.mpr (fun i hi => by
    cases e : hb_bit x i with
    | false => rfl
    | true => exact absurd ⟨i, hi, e⟩ g)))
  obtain ⟨n, hn, hb⟩ := hex
  have hmin : ∀ n, n < 64 → hb_bit x n = true → ∃ i, i < 64 ∧ hb_bit x i = true ∧ ∀ j, j < i → hb_bit x j = false := by
    intro n
    induction n using Nat.strongRecOn with
    | ind n ih =>
      intro hn hb
      by_cases g : ∃ j, j < n ∧ hb_bit x j = true
      · obtain ⟨j, h1, h2⟩ := g
        exact ih j h1 (by omega) h2
      · exact ⟨n, hn, hb, fun j hj => by
          cases e : hb_bit x j with
          | false => rfl
          | true => exact absurd ⟨j, hj, e⟩ g⟩
  obtain ⟨i, hi, hb, hl⟩ := hmin n hn hb
  have hmod : ∀ k, k ≤ i → x.toBitVec.toNat % 2 ^ k = 0 := by
    intro k
    induction k with
    | zero => intro _; rw [Nat.pow_zero, Nat.mod_one]
    | succ k ih =>
      intro hk
      have h1 := ih (by omega)
      have h2 : hb_bit x k = false := hl k (by omega)
      unfold hb_bit at h2
      rw [BitVec.getLsbD, Nat.testBit_eq_decide_div_mod_eq, decide_eq_false_iff_not] at h2
      rw [Nat.mod_pow_succ, h1, show x.toBitVec.toNat / 2 ^ k % 2 = 0 by omega]; omega
  have h1 := hmod i (Nat.le_refl _)
  have h2 : x.toBitVec.toNat / 2 ^ i % 2 = 1 := by
    unfold hb_bit at hb
    rw [BitVec.getLsbD, Nat.testBit_eq_decide_div_mod_eq, decide_eq_true_eq] at hb
    exact hb
  have h3 : hb_bit (-x) i = true := by
    unfold hb_bit
    rw [Int64.toBitVec_neg, BitVec.getLsbD, Nat.testBit_eq_decide_div_mod_eq, decide_eq_true_eq, BitVec.toNat_neg]
    have hx := x.toBitVec.isLt
    obtain ⟨m, hm⟩ : ∃ m, x.toBitVec.toNat = 2 ^ i * m := ⟨x.toBitVec.toNat / 2 ^ i, by have := Nat.mod_add_div x.toBitVec.toNat (2 ^ i); omega⟩
    rw [hm] at h2 hx ⊢
    rw [Nat.mul_div_cancel_left _ (Nat.two_pow_pos _)] at h2
    have e64 : 2 ^ 64 = 2 ^ i * 2 ^ (64 - i) := by rw [← Nat.pow_add, show i + (64 - i) = 64 by omega]
    have hm2 : m < 2 ^ (64 - i) := by rw [e64] at hx; exact Nat.lt_of_mul_lt_mul_left hx
    have hpos : 0 < 2 ^ i * m := Nat.mul_pos (Nat.two_pow_pos _) (by omega)
    rw [Nat.mod_eq_of_lt (a := 2 ^ 64 - 2 ^ i * m) (by omega), e64, ← Nat.mul_sub, Nat.mul_div_cancel_left _ (Nat.two_pow_pos _)]
    have ev : 2 ^ (64 - i) = 2 * 2 ^ (63 - i) := by rw [show 64 - i = (63 - i) + 1 by omega, Nat.pow_succ, Nat.mul_comm]
    omega
  have h4 : hb_bit (x &&& -x) i = true := by rw [hx_and, hb, h3]; rfl
  rw [q, hx_0] at h4; cases h4
theorem hx_jr_pc (S : Int64) : ∀ n, (∀ j, j < n → ¬ hb_jr S j = 0) → hb_pc (hb_jr S n) + n ≤ 64
  | 0, _ => by rw [Nat.add_zero]; exact hb_pc_le _
  | n + 1, h => by
    have ih := hx_jr_pc S n (fun j hj => h j (by omega))
    have h0 := h n (by omega)
    have hlow := hx_low _ h0
    have hlt : hb_pc (hb_jr S (n + 1)) < hb_pc (hb_jr S n) := by
      show hb_pc (hb_jr S n &&& (hb_part (hb_jr S n) (hb_jr S n &&& -hb_jr S n) ^^^ (-1))) < _
      refine hx_pcl (fun i hi g => hx_le_l i hi g) (fun e => hlow (hx_z.mpr (fun i hi => ?_)))
      cases g : hb_bit (hb_jr S n &&& -hb_jr S n) i with
      | false => rfl
      | true =>
        have g2 : hb_bit (hb_part (hb_jr S n) (hb_jr S n &&& -hb_jr S n)) i = true := hx_fl_x hx_le_l 64 i hi g
        have g3 : hb_bit (hb_jr S n) i = true := hx_le_l i hi g
        rw [← e, hx_and, hx_not _ hi, g2, Bool.and_eq_true] at g3
        exact absurd g3.2 (by decide)
    omega
theorem hb_jr_ends (S : Int64) : ∃ j, 0 ≤ j ∧ j ≤ 0 + 64 ∧ decide (hb_jr S j = 0) = true := by
  refine Classical.byContradiction (fun q => ?_)
  have h : ∀ j, j < 65 → ¬ hb_jr S j = 0 := fun j hj e => q ⟨j, Nat.zero_le _, by omega, decide_eq_true e⟩
  have := hx_jr_pc S 65 h
  omega
theorem hb_jn_at (S : Int64) : hb_jr S (hb_jn S) = 0 := of_decide_eq_true (hb_fi_at _ 64 0 (hb_jr_ends S))
/-- where what is left is closed in S, its parts are parts of S -/
theorem hx_fl_in {S R x : Int64} (h1 : hx_le R S) (h2 : hx_le (hb_nb R &&& S) R) (hx : hx_le x R) : ∀ n, hb_fl R n x = hb_fl S n x ∧ hx_le (hb_fl R n x) R
  | 0 => ⟨rfl, hx⟩
  | n + 1 => by
    obtain ⟨g1, g2⟩ := hx_fl_in h1 h2 hx n
    refine ⟨?_, hx_le_and⟩
    show hb_nb (hb_fl R n x) &&& R = hb_nb (hb_fl S n x) &&& S
    rw [← g1]
    refine hx_le_eq (hx_le_a hx_le_l (hx_le_t hx_le_and h1)) (hx_le_a hx_le_l (hx_le_t (hx_le_a ?_ hx_le_and) h2))
    exact hx_le_t hx_le_l (hx_nb_mono g2)
theorem hx_jr_in (S : Int64) : ∀ i, hx_le (hb_jr S i) S ∧ hx_le (hb_nb (hb_jr S i) &&& S) (hb_jr S i)
  | 0 => ⟨fun _ _ q => q, hx_le_and⟩
  | i + 1 => by
    obtain ⟨h1, h2⟩ := hx_jr_in S i
    refine ⟨hx_le_t hx_le_l h1, fun k hk g => ?_⟩
    have hlow : hx_le (hb_jr S i &&& -hb_jr S i) (hb_jr S i) := hx_le_l
    have hcl := hx_closed (S := hb_jr S i) hlow
    show hb_bit (hb_jr S i &&& (hb_part (hb_jr S i) (hb_jr S i &&& -hb_jr S i) ^^^ (-1))) k = true
    generalize hP : hb_part (hb_jr S i) (hb_jr S i &&& -hb_jr S i) = P at hcl ⊢
    have e : hb_jr S (i + 1) = hb_jr S i &&& (P ^^^ (-1)) := by rw [← hP]; rfl
    rw [e] at g
    rw [hx_and, Bool.and_eq_true] at g
    have gR : hb_bit (hb_jr S i) k = true := h2 k hk (by rw [hx_and, g.2, hx_nb_mono hx_le_l k hk g.1]; rfl)
    rw [hx_and, gR, hx_not _ hk, Bool.true_and]
    cases gP : hb_bit P k with
    | false => rfl
    | true =>
      obtain ⟨j, a1, a2⟩ := (hx_nbi _ hk).mp g.1
      have hj : j < 64 := Nat.lt_of_not_le (fun q => by rw [hx_ge _ q] at a2; cases a2)
      rw [hx_and, hx_not _ hj, Bool.and_eq_true] at a2
      have : hb_bit P j = true := by
        rw [← hcl, hx_and, (hx_nbi P hj).mpr ⟨k, hx_ad_s a1, gP⟩, a2.1]; rfl
      rw [this] at a2
      exact absurd a2.2 (by decide)
theorem hb_jr_ir (S : Int64) (i : Nat) : hb_jr S i = hb_ir S i ∧ hb_part (hb_jr S i) (hb_jr S i &&& -hb_jr S i) = hb_part S (hb_ir S i &&& -hb_ir S i) := by
  have key : ∀ i, hb_jr S i = hb_ir S i := by
    intro i
    induction i with
    | zero => rfl
    | succ i ih =>
      show hb_jr S i &&& (hb_part (hb_jr S i) (hb_jr S i &&& -hb_jr S i) ^^^ (-1)) = hb_ir S i &&& (hb_part S (hb_ir S i &&& -hb_ir S i) ^^^ (-1))
      have h := hx_jr_in S i
      unfold hb_part
      rw [(hx_fl_in h.1 h.2 hx_le_l 64).1, ih]
  refine ⟨key i, ?_⟩
  have h := hx_jr_in S i
  unfold hb_part
  rw [(hx_fl_in h.1 h.2 hx_le_l 64).1, key i]
theorem hb_jc_ic (S B : Int64) : hb_jc S B (hb_jn S) = hb_ic S B 64 := by
  have h0 : hb_ir S (hb_jn S) = 0 := by rw [← (hb_jr_ir S (hb_jn S)).1]; exact hb_jn_at S
  rw [hb_ic_64 (hb_jn_le S) h0]
  have key : ∀ i, i ≤ hb_jn S → hb_jc S B i = hb_ic S B i := by
    intro i
    induction i with
    | zero => intro _; rfl
    | succ i ih =>
      intro hi
      have hz : ¬ hb_ir S i = 0 := by rw [← (hb_jr_ir S i).1]; exact hb_jn_lt hi
      show hb_jc S B i + (if hb_part (hb_jr S i) (hb_jr S i &&& -hb_jr S i) &&& B = 0 then 1 else 0) = _
      rw [ih (by omega), (hb_jr_ir S i).2]
      by_cases hp : hb_part S (hb_ir S i &&& -hb_ir S i) &&& B = 0
      · rw [if_pos hp, hb_ic_y hz hp]
      · rw [if_neg hp, hb_ic_n hz hp, Nat.add_zero]
  exact key _ (Nat.le_refl _)
theorem hb_isl_s (C : Nat → Int64) {k : Nat} (hk : 0 < k) : hb_isl C (k - 1) + hb_jc (C k) (C (k - 1)) (hb_jn (C k)) = hb_isl C k := by
  obtain ⟨j, rfl⟩ : ∃ j, k = j + 1 := ⟨k - 1, by omega⟩
  rw [hb_jc_ic]; rfl
-- laying: the layers lowered one by one
def hb_sf (L : Nat → Int64) (i : Nat) : Nat → Int64 := fun k => if k + i < 8 then L (k + i) else 0
/-- how often the layers are lowered -/
def hb_lc (L : Nat → Int64) : Nat := if hb_ht L 8 = 0 then 0 else hb_em L 8 0
theorem hb_ht_z {L : Nat → Int64} : ∀ n, hb_ht L n = 0 → ∀ k, k < n → L k = 0
  | 0, _, k, hk => absurd hk (Nat.not_lt_zero _)
  | n + 1, h, k, hk => by
    have h2 : (if L n = 0 then hb_ht L n else n + 1) = 0 := h
    by_cases hz : L n = 0
    · rw [if_pos hz] at h2
      rcases Nat.lt_or_ge k n with q | q
      · exact hb_ht_z n h2 k q
      · rw [show k = n by omega]; exact hz
    · rw [if_neg hz] at h2; omega
theorem hb_ht_0 {L : Nat → Int64} : ∀ n, (∀ k, k < n → L k = 0) → hb_ht L n = 0
  | 0, _ => rfl
  | n + 1, h => by
    show (if L n = 0 then hb_ht L n else n + 1) = 0
    rw [if_pos (h n (Nat.lt_succ_self _))]
    exact hb_ht_0 n (fun k hk => h k (by omega))
theorem hb_em_z (L : Nat → Int64) : ∀ f i j, i ≤ j → j < hb_em L f i → L j = 0
  | 0, i, j, h1, h2 => by have h3 : j < i := h2; omega
  | f + 1, i, j, h1, h2 => by
    have h3 : j < (if L i = 0 then hb_em L f (i + 1) else i) := h2
    by_cases hz : L i = 0
    · rw [if_pos hz] at h3
      rcases Nat.eq_or_lt_of_le h1 with q | q
      · rw [← q]; exact hz
      · exact hb_em_z L f (i + 1) j q h3
    · rw [if_neg hz] at h3; omega
theorem hb_em_nz (L : Nat → Int64) : ∀ f i, hb_em L f i < i + f → ¬ L (hb_em L f i) = 0
  | 0, i, h => by have h3 : i < i + 0 := h; omega
  | f + 1, i, h => by
    have h3 : (if L i = 0 then hb_em L f (i + 1) else i) < i + (f + 1) := h
    show ¬ L (if L i = 0 then hb_em L f (i + 1) else i) = 0
    by_cases hz : L i = 0
    · rw [if_pos hz] at h3 ⊢
      exact hb_em_nz L f (i + 1) (by omega)
    · rw [if_neg hz]; exact hz
theorem hb_em_8 {L : Nat → Int64} (h : ¬ hb_ht L 8 = 0) : hb_em L 8 0 < 8 := by
  rcases Nat.lt_or_ge (hb_em L 8 0) 8 with q | q
  · exact q
  · exact absurd (hb_ht_0 8 (fun k hk => hb_em_z L 8 0 k (Nat.zero_le _) (by omega))) h
theorem hb_sf_0 {L : Nat → Int64} (h : ∀ k, 8 ≤ k → L k = 0) : hb_sf L 0 = L := by
  funext k
  show (if k + 0 < 8 then L (k + 0) else 0) = L k
  by_cases hk : k < 8
  · rw [if_pos (by omega), Nat.add_zero]
  · rw [if_neg (by omega), h k (by omega)]
theorem hb_sf_low {L : Nat → Int64} (h : ¬ hb_ht L 8 = 0) : hb_sf L (hb_lc L) = hb_low L := by
  unfold hb_lc
  rw [if_neg h]
  funext k
  show (if k + hb_em L 8 0 < 8 then _ else (0 : Int64)) = (if _ then _ else _)
  rfl
theorem hb_sf_low0 {L : Nat → Int64} (h : hb_ht L 8 = 0) (h8 : ∀ k, 8 ≤ k → L k = 0) : L = hb_low L := by
  have hz := hb_ht_z 8 h
  funext k
  show L k = (if k + hb_em L 8 0 < 8 then L (k + hb_em L 8 0) else 0)
  have e : L k = 0 := by
    rcases Nat.lt_or_ge k 8 with q | q
    · exact hz k q
    · exact h8 k q
  rw [e]
  split
  · rename_i q; exact (hz _ q).symm
  · rfl
theorem hb_sf_ht {L : Nat → Int64} {i : Nat} (h : ¬ hb_ht L 8 = 0) (hi : i ≤ hb_em L 8 0) : ¬ hb_ht (hb_sf L i) 8 = 0 := fun q => by
  have h8 := hb_em_8 h
  have hz := hb_ht_z 8 q (hb_em L 8 0 - i) (by omega)
  have e : hb_sf L i (hb_em L 8 0 - i) = L (hb_em L 8 0) := by
    show (if _ then _ else _) = _
    rw [if_pos (by omega), show hb_em L 8 0 - i + i = hb_em L 8 0 by omega]
  rw [e] at hz
  exact hb_em_nz L 8 0 (by omega) hz
theorem hb_sf_z {L : Nat → Int64} {i : Nat} (h : ¬ hb_ht L 8 = 0) (hi : i < hb_em L 8 0) : hb_sf L i 0 = 0 := by
  have h8 := hb_em_8 h
  show (if 0 + i < 8 then L (0 + i) else 0) = 0
  rw [if_pos (by omega), Nat.zero_add]
  exact hb_em_z L 8 0 i (Nat.zero_le _) hi
theorem hb_sf_nz {L : Nat → Int64} (h : ¬ hb_ht L 8 = 0) : ¬ hb_sf L (hb_em L 8 0) 0 = 0 := by
  have h8 := hb_em_8 h
  show ¬ (if 0 + hb_em L 8 0 < 8 then L (0 + hb_em L 8 0) else 0) = 0
  rw [if_pos (by omega), Nat.zero_add]
  exact hb_em_nz L 8 0 (by omega)
theorem hb_sf_s {L : Nat → Int64} {i : Nat} : va_up (va_cpy (hb_sf L i) (hb_sf L i) 1 0 7) 7 0 = hb_sf L (i + 1) := by
  funext k
  by_cases h : k = 7
  · subst h
    rw [va_up_self]
    show (0 : Int64) = (if 7 + (i + 1) < 8 then L (7 + (i + 1)) else 0)
    rw [if_neg (by omega)]
  · rw [va_up_ne _ _ h]
    show (if 0 ≤ k ∧ k < 0 + 7 then hb_sf L i (1 + (k - 0)) else hb_sf L i k) = (if k + (i + 1) < 8 then L (k + (i + 1)) else 0)
    by_cases h2 : k < 7
    · rw [if_pos (by omega)]
      show (if 1 + (k - 0) + i < 8 then L (1 + (k - 0) + i) else 0) = _
      rw [show 1 + (k - 0) + i = k + (i + 1) by omega]
    · rw [if_neg (by omega)]
      show (if k + i < 8 then _ else _) = _
      rw [if_neg (by omega), if_neg (by omega)]
theorem hb_lz_8 {S : Int64} {way z : Nat} (hw : way < 6) (hz : z < 8) {L : Nat → Int64} (h : ∀ k, 8 ≤ k → L k = 0) : ∀ n, n ≤ 64 → ∀ k, 8 ≤ k → hb_lz S way z n L k = 0
  | 0, _, k, hk => h k hk
  | n + 1, hn, k, hk => by
    have ih := hb_lz_8 (S := S) hw hz h n (by omega) k hk
    show (if hb_bit S n then hb_put (hb_lz S way z n L) (hb_tx way (n % 8) (n / 8) z) (hb_ty way (n % 8) (n / 8) z) (hb_tz way (n % 8) (n / 8) z) else hb_lz S way z n L) k = 0
    split
    · unfold hb_put
      have ht : hb_tz way (n % 8) (n / 8) z < 8 := by unfold hb_tz; split; · omega
                                                      split; · omega
                                                      split; · omega
                                                      split; · omega
                                                      split <;> omega
      rw [va_up_ne _ _ (by omega)]; exact ih
    · exact ih
theorem hb_la_8 (C : Nat → Int64) {way : Nat} (hw : way < 6) : ∀ z, z ≤ 8 → ∀ k, 8 ≤ k → hb_la C way z k = 0
  | 0, _, _, _ => rfl
  | z + 1, hz, k, hk => hb_lz_8 hw (by omega) (hb_la_8 C hw z (by omega)) 64 (Nat.le_refl _) k hk
-- lacks and holes
theorem hx_cmp {a b : Int} : compare a b = .gt ↔ b < a := by
  rw [Int.compare_eq_gt]
theorem hb_hole_gt (d : UInt64) (h : FP.dcmp d 4618441417868443648 = some .gt) : hb_lack d = false := by
  have e6 : FP.Core.decode FP.Core.b64 (4618441417868443648 : UInt64).toNat = .fin false (6 * 2 ^ 50) (-50) := by decide +kernel
  have e2 : FP.Core.decode FP.Core.b64 (4611686018427387904 : UInt64).toNat = .fin false (2 ^ 52) (-51) := by decide +kernel
  unfold hb_lack
  unfold FP.dcmp FP.Core.dcmp FP.Core.cmp at h ⊢
  rw [e6] at h
  rw [e2]
  refine decide_eq_false ?_
  cases hd : FP.Core.decode FP.Core.b64 d.toNat with
  | nan => intro h; cases h
  | inf s =>
    rw [hd] at h
    cases s with
    | false => exact fun q => by have := Option.some.inj q; revert this; decide
    | true => have := Option.some.inj h; revert this; decide
  | fin s c q =>
    rw [hd] at h
    have h := Option.some.inj h
    intro g
    have g := Option.some.inj g
    rw [hx_cmp] at h
    rw [Int.compare_eq_lt] at g
    unfold FP.Core.inUnits FP.Core.signed at h g
    cases s with
    | true => simp only [if_true, if_false, Bool.false_eq_true] at h; omega
    | false =>
      simp only [if_false, Bool.false_eq_true] at h g
      have h0 := h; have g0 := g; clear h g
      have h : 6 * 2 ^ 50 * 2 ^ (-50 - min q (-50)).toNat < c * 2 ^ (q - min q (-50)).toNat := by omega
      have g : c * 2 ^ (q - min q (-51)).toNat < 2 ^ 52 * 2 ^ (-51 - min q (-51)).toNat := by omega
      rcases Int.lt_or_le q (-50) with hq | hq
      · obtain ⟨k, rfl⟩ : ∃ k : Nat, q = -51 - k := ⟨(-51 - q).toNat, by omega⟩
        rw [show (-50 - min (-51 - (k : Int)) (-50)).toNat = k + 1 by omega, show (-51 - (k : Int) - min (-51 - (k : Int)) (-50)).toNat = 0 by omega] at h
        rw [show (-51 - min (-51 - (k : Int)) (-51)).toNat = k by omega, show (-51 - (k : Int) - min (-51 - (k : Int)) (-51)).toNat = 0 by omega] at g
        rw [show 2 ^ (k + 1) = 2 ^ k * 2 from rfl] at h
        clear h0 g0
        generalize 2 ^ k = m at h g
        omega
      · obtain ⟨k, rfl⟩ : ∃ k : Nat, q = -50 + k := ⟨(q + 50).toNat, by omega⟩
        rw [show (-50 - min (-50 + (k : Int)) (-50)).toNat = 0 by omega, show (-50 + (k : Int) - min (-50 + (k : Int)) (-50)).toNat = k by omega] at h
        rw [show (-51 - min (-50 + (k : Int)) (-51)).toNat = 0 by omega, show (-50 + (k : Int) - min (-50 + (k : Int)) (-51)).toNat = k + 1 by omega] at g
        rw [show 2 ^ (k + 1) = 2 ^ k * 2 from rfl, ← Nat.mul_assoc] at g
        clear h0 g0
        generalize c * 2 ^ k = m at h g
        omega
theorem hb_hole_iff (d : UInt64) : hb_hole d = decide (FP.dcmp d 4618441417868443648 = some .gt) := by
  unfold hb_hole
  by_cases h : FP.dcmp d 4618441417868443648 = some .gt
  · rw [hb_hole_gt d h, decide_eq_true h]; rfl
  · rw [decide_eq_false h]; exact Bool.and_false _
