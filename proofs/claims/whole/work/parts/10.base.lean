/-! Small words that the walks use. -/
def hb_ushr (x : Int64) (y : Int32) : Int64 := (x.toUInt64 >>> (y.toInt64.toUInt64 &&& Int64.toUInt64 63)).toInt64
def hb_shl (x : Int64) (y : Int32) : Int64 := x <<< (y.toInt64 &&& 63)
theorem hw_noa {M : hw_M} {a b ci : Nat} {fs : List Value} {x : ClassId × vp_A} (h1 : M a = hw_ob ci fs) (h2 : M b = some (.inl x)) : a ≠ b := hw_ne h1 h2 (by intro h; cases h)
theorem hw_noo {M : hw_M} {a b ci cj : Nat} {fs gs : List Value} (h1 : M a = hw_ob ci fs) (h2 : M b = hw_ob cj gs) (h : ci ≠ cj) : a ≠ b := hw_ne h1 h2 (by intro q; exact h (congrArg Prod.fst (Sum.inr.inj (Option.some.inj q))))
theorem hw_naa {M : hw_M} {a b : Nat} {c1 c2 : ClassId} {n1 n2 : Nat} {x1 x2} (h1 : M a = some (.inl (c1, n1, x1))) (h2 : M b = some (.inl (c2, n2, x2))) (h : x1 ≠ x2) : a ≠ b := hw_ne h1 h2 (by intro q; exact h (congrArg (fun z => z.2.2) (Sum.inl.inj (Option.some.inj q))))
theorem hw_inc (i : Nat) : nI i + Int32.ofInt 1 = nI (i + 1) := by rw [show Int32.ofInt 1 = 1 by decide]; exact nI_1 i
/-- how many of the first n hold -/
def hb_ct (p : Nat → Bool) : Nat → Nat
  | 0 => 0
  | n + 1 => hb_ct p n + (p n).toNat
theorem hb_ct_le (p : Nat → Bool) : ∀ n, hb_ct p n ≤ n
  | 0 => Nat.le_refl _
  | n + 1 => by
    have h := hb_ct_le p n
    have h2 : (p n).toNat ≤ 1 := by cases p n <;> decide
    show hb_ct p n + (p n).toNat ≤ n + 1
    omega
def hb_bit (x : Int64) (i : Nat) : Bool := x.toBitVec.getLsbD i
def hb_pc (x : Int64) : Nat := hb_ct (hb_bit x) 64
theorem hb_pc_le (x : Int64) : hb_pc x ≤ 64 := hb_ct_le _ _
/-- the sum of a row's first n -/
def hb_sm (f : Nat → Nat) : Nat → Nat
  | 0 => 0
  | n + 1 => hb_sm f n + f n
theorem hw_cz {x y : Int64} : (lg_cmp x y = 0) ↔ x = y := lg_cmp_eq x y
theorem hw_cn {x y : Int64} (h : lg_cmp x y = 0) : x = y := (lg_cmp_eq x y).mp h
theorem hw_cm {x y : Int64} (h : ¬ lg_cmp x y = 0) : ¬ x = y := fun q => h ((lg_cmp_eq x y).mpr q)
/-- a long array's contents under another name -/
theorem hw_arr {cA : ClassId} {n : Nat} {f g : Nat → Value} (h : ∀ j, j < n → f j = g j) : arrV cA n f = arrV cA n g := by
  unfold arrV
  congr 1
  apply Array.ext
  · simp
  · intro i h1 h2
    simp only [Array.getElem_ofFn]
    exact h i (by simpa using h1)
theorem hw_iv.exl {Z : hw_Z} {s : State} {M : hw_M} {H : Heap} {locs : List Loc} {a n : Nat} {f : Nat → Int64} (g : Nat → Int64) (hI : hw_iv Z s M H locs) (he : M a = hw_al Z n f) (h : ∀ j, j < n → f j = g j) : hw_iv Z s (va_up M a (hw_al Z n g)) H locs :=
  ⟨hI.1.ext he (fun q => by
    have e : vp_cell (Z.2.1 1) (n, .inr (.inl f)) = vp_cell (Z.2.1 1) (n, .inr (.inl g)) := by
      rw [vp_cell_l, vp_cell_l]
      exact hw_arr (fun j hj => by rw [h j hj])
    show H[a]? = some (vp_cell (Z.2.1 1) (n, .inr (.inl g)))
    rw [← e]; exact q), hI.2⟩
/-- the JDK's way of counting bits -/
theorem hb_swar {x x1 x2 x3 x4 x5 x6 : Int64} (e1 : x1 = x - (hb_ushr x (nI 1) &&& 6148914691236517205)) (e2 : x2 = (x1 &&& 3689348814741910323) + (hb_ushr x1 (nI 2) &&& 3689348814741910323)) (e3 : x3 = (x2 + hb_ushr x2 (nI 4)) &&& 1085102592571150095) (e4 : x4 = x3 + hb_ushr x3 (nI 8)) (e5 : x5 = x4 + hb_ushr x4 (nI 16)) (e6 : x6 = x5 + hb_ushr x5 (nI 32)) : x6.toInt32 &&& nI 127 = nI (hb_pc x) := by
  sorry
-- solids: the height, the sets that follow from the cells
def hb_ht (C : Nat → Int64) : Nat → Nat
  | 0 => 0
  | n + 1 => if C n = 0 then hb_ht C n else n + 1
theorem hb_ht_le (C : Nat → Int64) : ∀ n, hb_ht C n ≤ n
  | 0 => Nat.le_refl _
  | n + 1 => by
    have := hb_ht_le C n
    show (if C n = 0 then hb_ht C n else n + 1) ≤ n + 1
    split <;> omega
def hb_nb (x : Int64) : Int64 := (((x ||| hb_shl (x &&& 9187201950435737471) (nI 1)) ||| hb_ushr (x &&& (-72340172838076674)) (nI 1)) ||| hb_shl x (nI 8)) ||| hb_ushr x (nI 8)
def hb_hang (C : Nat → Int64) (k : Nat) : Int64 := if 0 < k then C k &&& (hb_nb (C (k - 1)) ^^^ (-1)) else 0
/-- what has to be held up, j layers from the top on -/
def hb_hd (C : Nat → Int64) : Nat → Int64
  | 0 => 0
  | j + 1 => (hb_hd C j ||| hb_hang C (7 - j)) &&& (C (7 - j - 1) ^^^ (-1))
def hb_supp (C : Nat → Int64) (k : Nat) : Int64 := if k < 7 then hb_hd C (7 - k) else 0
-- parts that hang together
def hb_fl (S : Int64) : Nat → Int64 → Int64
  | 0, x => x
  | n + 1, x => hb_nb (hb_fl S n x) &&& S
theorem hb_fl_fix {S x : Int64} {i : Nat} (h : hb_nb (hb_fl S i x) &&& S = hb_fl S i x) : ∀ k, hb_fl S (i + k) x = hb_fl S i x
  | 0 => rfl
  | k + 1 => by
    show hb_nb (hb_fl S (i + k) x) &&& S = hb_fl S i x
    rw [hb_fl_fix h k]; exact h
theorem hb_fl_end {S x : Int64} {i : Nat} (hi : i ≤ 64) (h : hb_nb (hb_fl S i x) &&& S = hb_fl S i x) : hb_fl S 64 x = hb_fl S i x := by
  have := hb_fl_fix h (64 - i)
  rwa [show i + (64 - i) = 64 by omega] at this
def hb_part (S x : Int64) : Int64 := hb_fl S 64 x
/-- what is left behind i parts, and how many of them have nothing below -/
def hb_ir (S : Int64) : Nat → Int64
  | 0 => S
  | i + 1 => hb_ir S i &&& (hb_part S (hb_ir S i &&& -hb_ir S i) ^^^ (-1))
def hb_ic (S B : Int64) : Nat → Nat
  | 0 => 0
  | i + 1 => if hb_ir S i = 0 then hb_ic S B i else if hb_part S (hb_ir S i &&& -hb_ir S i) &&& B = 0 then hb_ic S B i + 1 else hb_ic S B i
theorem hb_ic_y {S B : Int64} {i : Nat} (h0 : ¬ hb_ir S i = 0) (h : hb_part S (hb_ir S i &&& -hb_ir S i) &&& B = 0) : hb_ic S B (i + 1) = hb_ic S B i + 1 := by
  show (if hb_ir S i = 0 then _ else if _ = (0 : Int64) then _ else _) = _
  rw [if_neg h0, if_pos h]
theorem hb_ic_n {S B : Int64} {i : Nat} (h0 : ¬ hb_ir S i = 0) (h : ¬ hb_part S (hb_ir S i &&& -hb_ir S i) &&& B = 0) : hb_ic S B (i + 1) = hb_ic S B i := by
  show (if hb_ir S i = 0 then _ else if _ = (0 : Int64) then _ else _) = _
  rw [if_neg h0, if_neg h]
theorem hb_ir_0 {S : Int64} {i : Nat} (h : hb_ir S i = 0) : ∀ k, hb_ir S (i + k) = 0
  | 0 => h
  | k + 1 => by
    show hb_ir S (i + k) &&& _ = 0
    rw [hb_ir_0 h k]; exact Int64.zero_and
theorem hb_ic_end {S B : Int64} {i : Nat} (h : hb_ir S i = 0) : ∀ k, hb_ic S B (i + k) = hb_ic S B i
  | 0 => rfl
  | k + 1 => by
    show (if hb_ir S (i + k) = 0 then hb_ic S B (i + k) else _) = _
    rw [if_pos (hb_ir_0 h k)]; exact hb_ic_end h k
theorem hb_ic_64 {S B : Int64} {i : Nat} (hi : i ≤ 64) (h : hb_ir S i = 0) : hb_ic S B 64 = hb_ic S B i := by
  have := hb_ic_end (B := B) h (64 - i)
  rwa [show i + (64 - i) = 64 by omega] at this
def hb_isl (C : Nat → Int64) : Nat → Nat
  | 0 => 0
  | k + 1 => hb_isl C k + hb_ic (C (k + 1)) (C k) 64
-- laying
def hb_put (L : Nat → Int64) (x y z : Nat) : Nat → Int64 := va_up L z (L z ||| hb_shl 1 (nI (x + 8 * y)))
def hb_tx (way x y z : Nat) : Nat := if way = 2 ∨ way = 3 then z else x
def hb_ty (way x y z : Nat) : Nat := if 4 ≤ way then z else y
def hb_tz (way x y z : Nat) : Nat := if way = 0 then z else if way = 1 then 7 - z else if way = 2 then x else if way = 3 then 7 - x else if way = 4 then y else 7 - y
def hb_lz (S : Int64) (way z : Nat) : Nat → (Nat → Int64) → (Nat → Int64)
  | 0, L => L
  | n + 1, L => if hb_bit S n then hb_put (hb_lz S way z n L) (hb_tx way (n % 8) (n / 8) z) (hb_ty way (n % 8) (n / 8) z) (hb_tz way (n % 8) (n / 8) z) else hb_lz S way z n L
def hb_la (C : Nat → Int64) (way : Nat) : Nat → (Nat → Int64)
  | 0 => fun _ => 0
  | z + 1 => hb_lz (C z) way z 64 (hb_la C way z)
def hb_shn (x : Int64) : Nat → Int64
  | 0 => x
  | n + 1 => hb_ushr (hb_shn x n) (nI 1)
def hb_em (L : Nat → Int64) : Nat → Nat → Nat
  | 0, i => i
  | f + 1, i => if L i = 0 then hb_em L f (i + 1) else i
def hb_low (L : Nat → Int64) (k : Nat) : Int64 := if k + hb_em L 8 0 < 8 then L (k + hb_em L 8 0) else 0
def hb_laid (C : Nat → Int64) (way : Nat) : Nat → Int64 := hb_low (hb_la C way 8)
theorem hb_bit_shn (x : Int64) : ∀ n, n < 64 → ((hb_shn x n &&& 1) = 0 ↔ hb_bit x n = false) := by
  sorry
theorem hb_lz_end {S : Int64} {way z i : Nat} {L : Nat → Int64} (hi : i ≤ 64) (h : hb_shn S i = 0) : hb_lz S way z 64 L = hb_lz S way z i L := by
  sorry
theorem hb_em_le (L : Nat → Int64) : ∀ f i, hb_em L f i ≤ i + f
  | 0, i => Nat.le_refl _
  | f + 1, i => by
    have := hb_em_le L f (i + 1)
    show (if L i = 0 then hb_em L f (i + 1) else i) ≤ i + (f + 1)
    split <;> omega
theorem hw_id {M : hw_M} {a : Nat} {e e1 : Option va_E} (h : M a = e) (he : e1 = e) : M = va_up M a e1 := by
  funext k
  by_cases hk : k = a
  · subst hk; rw [va_up_self, he, h]
  · rw [va_up_ne _ _ hk]
theorem hw_uu1 {M : hw_M} {a : Nat} {v w w' : Option va_E} (h : w = w') : va_up (va_up M a v) a w = va_up M a w' := by rw [h]; exact bx_uu _ _ _ _
theorem hw_alc {Z : hw_Z} {n : Nat} {f g : Nat → Int64} (h : f = g) : hw_al Z n f = hw_al Z n g := by rw [h]
theorem hw_adc {Z : hw_Z} {n : Nat} {f g : Nat → UInt64} (h : f = g) : hw_ad Z n f = hw_ad Z n g := by rw [h]
theorem hw_aic {Z : hw_Z} {n : Nat} {f g : Nat → Int32} (h : f = g) : hw_ai Z n f = hw_ai Z n g := by rw [h]
/-- the first i places after G, the others after f -/
def hb_mix {α : Type} (G f : Nat → α) (i : Nat) : Nat → α := fun k => if k < i then G k else f k
theorem hb_mix_0 {α : Type} (G f : Nat → α) : hb_mix G f 0 = f := by funext k; simp [hb_mix]
theorem hb_mix_s {α : Type} {G f : Nat → α} {i : Nat} {x : α} (h : x = G i) : va_up (hb_mix G f i) i x = hb_mix G f (i + 1) := by
  subst h
  funext k
  unfold hb_mix
  by_cases h : k = i
  · subst h; rw [va_up_self, if_pos (by omega)]
  · rw [va_up_ne _ _ h]
    by_cases h2 : k < i
    · rw [if_pos h2, if_pos (by omega)]
    · rw [if_neg h2, if_neg (by omega)]
theorem hb_mix_lt {α : Type} {G f : Nat → α} {i k : Nat} (h : k < i) : hb_mix G f i k = G k := if_pos h
theorem hb_mix_ge {α : Type} {G f : Nat → α} {i k : Nat} (h : i ≤ k) : hb_mix G f i k = f k := if_neg (by omega)
theorem hb_hg (C : Nat → Int64) {k : Nat} (h : 0 < k) : C k &&& (hb_nb (C (k - 1)) ^^^ (-1)) = hb_hang C k := (if_pos h).symm
theorem hb_hd_s (C : Nat → Int64) {i : Nat} (hi : i < 7) : hb_hd C (i + 1) = (hb_hd C i ||| hb_hang C (7 - i)) &&& (C (7 - i - 1) ^^^ (-1)) := rfl
def hb_rH (C H0 : Nat → Int64) (i : Nat) : Nat → Int64 := fun k => if 8 - i ≤ k ∧ k < 8 then hb_hang C k else H0 k
def hb_rS (C S0 : Nat → Int64) (i : Nat) : Nat → Int64 := fun k => if 8 - i ≤ k + 1 ∧ k < 7 then hb_supp C k else S0 k
theorem hb_rk0 {Z : hw_Z} {M : hw_M} {ha sa : Nat} {C H0 S0 : Nat → Int64} (h2 : M ha = hw_al Z 8 H0) (h3 : M sa = hw_al Z 8 S0) : M = va_up (va_up M ha (hw_al Z 8 (hb_rH C H0 0))) sa (hw_al Z 8 (hb_rS C S0 0)) := by
  have e1 : hb_rH C H0 0 = H0 := by funext k; exact if_neg (by omega)
  have e2 : hb_rS C S0 0 = S0 := by funext k; exact if_neg (by omega)
  rw [e1, e2, ← hw_id h2 rfl]
  exact hw_id h3 rfl
theorem hb_rk1 {Z : hw_Z} {M : hw_M} {ha sa : Nat} {C H0 S0 : Nat → Int64} {i : Nat} (n : ha ≠ sa) (hi : i < 7) : va_up (va_up (va_up (va_up M ha (hw_al Z 8 (hb_rH C H0 i))) sa (hw_al Z 8 (hb_rS C S0 i))) ha (hw_al Z 8 (va_up (hb_rH C H0 i) (7 - i) (C (7 - i) &&& (hb_nb (C (7 - i - 1)) ^^^ (-1)))))) sa (hw_al Z 8 (va_up (hb_rS C S0 i) (7 - i - 1) ((hb_hd C i ||| (C (7 - i) &&& (hb_nb (C (7 - i - 1)) ^^^ (-1)))) &&& (C (7 - i - 1) ^^^ (-1))))) = va_up (va_up M ha (hw_al Z 8 (hb_rH C H0 (i + 1)))) sa (hw_al Z 8 (hb_rS C S0 (i + 1))) := by
  have e1 : va_up (hb_rH C H0 i) (7 - i) (C (7 - i) &&& (hb_nb (C (7 - i - 1)) ^^^ (-1))) = hb_rH C H0 (i + 1) := by
    funext k
    unfold hb_rH
    by_cases h : k = 7 - i
    · subst h
      rw [va_up_self, if_pos (by omega)]
      exact (if_pos (by omega)).symm
    · rw [va_up_ne _ _ h]
      by_cases h2 : 8 - i ≤ k ∧ k < 8
      · rw [if_pos h2, if_pos (by omega)]
      · rw [if_neg h2, if_neg (by omega)]
  have e2 : va_up (hb_rS C S0 i) (7 - i - 1) ((hb_hd C i ||| (C (7 - i) &&& (hb_nb (C (7 - i - 1)) ^^^ (-1)))) &&& (C (7 - i - 1) ^^^ (-1))) = hb_rS C S0 (i + 1) := by
    have e3 : (C (7 - i) &&& (hb_nb (C (7 - i - 1)) ^^^ (-1))) = hb_hang C (7 - i) := (if_pos (by omega)).symm
    rw [e3, ← hb_hd_s C hi]
    funext k
    unfold hb_rS
    by_cases h : k = 7 - i - 1
    · subst h
      rw [va_up_self, if_pos (by omega)]
      unfold hb_supp
      rw [if_pos (by omega), show 7 - (7 - i - 1) = i + 1 by omega]
    · rw [va_up_ne _ _ h]
      by_cases h2 : 8 - i ≤ k + 1 ∧ k < 7
      · rw [if_pos h2, if_pos (by omega)]
      · rw [if_neg h2, if_neg (by omega)]
  rw [e1, e2]
  funext k
  simp only [va_up]
  by_cases h1 : k = sa
  · simp [h1]
  · by_cases h2 : k = ha <;> simp [h1, h2]
theorem hb_rk2 {M : hw_M} {ha sa : Nat} {x y z w : Option va_E} (n : ha ≠ sa) : va_up (va_up (va_up (va_up M ha x) sa y) ha z) sa w = va_up (va_up M ha z) sa w := by
  funext k
  simp only [va_up]
  by_cases h1 : k = sa
  · simp [h1]
  · by_cases h2 : k = ha <;> simp [h1, h2]
theorem hb_lz_y {S : Int64} {way z i : Nat} {L : Nat → Int64} (h : ¬ hb_bit S i = false) : hb_put (hb_lz S way z i L) (hb_tx way (i % 8) (i / 8) z) (hb_ty way (i % 8) (i / 8) z) (hb_tz way (i % 8) (i / 8) z) = hb_lz S way z (i + 1) L := (if_pos (by simpa using h)).symm
theorem hb_lz_n {S : Int64} {way z i : Nat} {L : Nat → Int64} (h : hb_bit S i = false) : hb_lz S way z (i + 1) L = hb_lz S way z i L := if_neg (by rw [h]; decide)
theorem hb_cpy8 {α : Type} {f g : Nat → α} {j : Nat} (h : j < 8) : va_cpy f g 0 0 8 j = f j := by
  show (if 0 ≤ j ∧ j < 0 + 8 then f (0 + (j - 0)) else g j) = f j
  rw [if_pos (by omega), show 0 + (j - 0) = j by omega]
