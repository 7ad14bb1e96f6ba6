/-! Numbers: the best speed, the best way; what is laid twice; what is told layer by layer. -/
theorem lb_bs (C : Nat → Int64) (w : Int32) : ∀ n, (1 ≤ hb_bs C w n ∧ hb_bs C w n ≤ n + 1) ∧ ∀ d, 1 ≤ d → d ≤ n + 1 → hb_fw C w (hb_bs C w n) ≤ hb_fw C w d ∧ (hb_bs C w n < d → hb_fw C w (hb_bs C w n) < hb_fw C w d) := by
  intro n
  induction n with
  | zero =>
    refine ⟨⟨Nat.le_refl _, Nat.le_refl _⟩, fun d h1 h2 => ?_⟩
    have e : d = 1 := by omega
    subst e
    exact ⟨Nat.le_refl _, fun h => absurd h (Nat.lt_irrefl _)⟩
  | succ n ih =>
    obtain ⟨⟨a, b⟩, h⟩ := ih
    have e : hb_bs C w (n + 1) = if hb_fw C w (n + 2) ≤ hb_fw C w (hb_bs C w n) then n + 2 else hb_bs C w n := rfl
    by_cases q : hb_fw C w (n + 2) ≤ hb_fw C w (hb_bs C w n)
    · rw [if_pos q] at e
      rw [e]
      refine ⟨⟨by omega, by omega⟩, fun d h1 h2 => ?_⟩
      by_cases hd : d ≤ n + 1
      · exact ⟨Nat.le_trans q (h d h1 hd).1, fun h3 => by omega⟩
      · have e2 : d = n + 2 := by omega
        subst e2
        exact ⟨Nat.le_refl _, fun h => absurd h (Nat.lt_irrefl _)⟩
    · rw [if_neg q] at e
      rw [e]
      refine ⟨⟨a, by omega⟩, fun d h1 h2 => ?_⟩
      by_cases hd : d ≤ n + 1
      · exact h d h1 hd
      · have e2 : d = n + 2 := by omega
        subst e2
        exact ⟨by omega, fun _ => by omega⟩
theorem lb_bw (C : Nat → Int64) : ∀ n, hb_bw C n ≤ n := by
  intro n
  induction n with
  | zero => exact Nat.le_refl _
  | succ n ih =>
    show (if _ then n + 1 else hb_bw C n) ≤ n + 1
    split
    · exact Nat.le_refl _
    · omega
-- laying only adds
theorem lb_mo (S : Int64) (way z : Nat) (L : Nat → Int64) {k b : Nat} (h : hb_bit (L k) b = true) : ∀ n, hb_bit (hb_lz S way z n L k) b = true := by
  intro n
  induction n with
  | zero => exact h
  | succ n ih =>
    show hb_bit ((if hb_bit S n then _ else _ : Nat → Int64) k) b = true
    split
    · unfold hb_put
      by_cases q : k = hb_tz way (n % 8) (n / 8) z
      · subst q; rw [va_up_self, hx_or, ih]; rfl
      · rw [va_up_ne _ _ q]; exact ih
    · exact ih
theorem lb_t {way x y z : Nat} (hw : way < 6) (hx : x < 8) (hy : y < 8) (hz : z < 8) : hb_tx way x y z < 8 ∧ hb_ty way x y z < 8 ∧ hb_tz way x y z < 8 := by
  unfold hb_tx hb_ty hb_tz
  refine ⟨?_, ?_, ?_⟩
  · split <;> omega
  · split <;> omega
  · repeat' split
    all_goals omega
theorem lb_lz {S : Int64} {way z : Nat} (hw : way < 6) (hz : z < 8) (L : Nat → Int64) {b : Nat} (hb : hb_bit S b = true) : ∀ n, b < n → n ≤ 64 → ∃ t c, t < 8 ∧ hb_bit (hb_lz S way z n L t) c = true := by
  intro n
  induction n with
  | zero => intro h; exact absurd h (Nat.not_lt_zero _)
  | succ n ih =>
    intro h h64
    by_cases q : b = n
    · subst q
      have ht := lb_t (way := way) (x := b % 8) (y := b / 8) hw (by omega) (by omega) hz
      refine ⟨hb_tz way (b % 8) (b / 8) z, hb_tx way (b % 8) (b / 8) z + 8 * hb_ty way (b % 8) (b / 8) z, ht.2.2, ?_⟩
      show hb_bit ((if hb_bit S b then _ else _ : Nat → Int64) _) _ = true
      rw [if_pos hb]
      unfold hb_put
      rw [va_up_self, hx_or, hx_bitw (by omega), decide_eq_true rfl, Bool.or_true]
    · obtain ⟨t, c, h1, h2⟩ := ih (by omega) (by omega)
      refine ⟨t, c, h1, ?_⟩
      show hb_bit ((if hb_bit S n then _ else _ : Nat → Int64) t) c = true
      split
      · unfold hb_put
        by_cases q2 : t = hb_tz way (n % 8) (n / 8) z
        · subst q2; rw [va_up_self, hx_or, h2]; rfl
        · rw [va_up_ne _ _ q2]; exact h2
      · exact h2
theorem lb_la {C : Nat → Int64} {way : Nat} (hw : way < 6) {z b : Nat} (hb : hb_bit (C z) b = true) (hb64 : b < 64) : ∀ n, z < n → n ≤ 8 → ∃ t c, t < 8 ∧ hb_bit (hb_la C way n t) c = true := by
  intro n
  induction n with
  | zero => intro h; exact absurd h (Nat.not_lt_zero _)
  | succ n ih =>
    intro h h8
    by_cases q : z = n
    · subst q
      exact lb_lz hw (by omega) _ hb 64 hb64 (Nat.le_refl _)
    · obtain ⟨t, c, h1, h2⟩ := ih (by omega) (by omega)
      exact ⟨t, c, h1, lb_mo _ _ _ _ h2 64⟩
theorem lb_em {L : Nat → Int64} : ∀ f i j, i ≤ j → j < i + f → ¬ L j = 0 → hb_em L f i < i + f ∧ ¬ L (hb_em L f i) = 0 := by
  intro f
  induction f with
  | zero => intro i j h1 h2; omega
  | succ f ih =>
    intro i j h1 h2 h3
    show (if L i = 0 then hb_em L f (i + 1) else i) < _ ∧ ¬ L (if L i = 0 then hb_em L f (i + 1) else i) = 0
    by_cases q : L i = 0
    · rw [if_pos q]
      have hij : ¬ i = j := fun e => h3 (e ▸ q)
      have := ih (i + 1) j (by omega) (by omega) h3
      exact ⟨by omega, this.2⟩
    · rw [if_neg q]
      exact ⟨by omega, q⟩
theorem lb_bz {x : Int64} {c : Nat} (h : hb_bit x c = true) : ¬ x = 0 := fun q => by rw [q, hx_0] at h; cases h
/-- a solid with a cell has one in the lowest layer as it is laid -/
theorem lb_l0 {C : Nat → Int64} {way : Nat} (hw : way < 6) {z : Nat} (hz : z < 8) (h : ¬ C z = 0) : ¬ hb_laid C way 0 = 0 := by
  obtain ⟨b, hb64, hb⟩ : ∃ b, b < 64 ∧ hb_bit (C z) b = true := by
    refine Classical.byContradiction (fun q => h (hx_z.mpr (fun i hi => ?_)))
    cases hb : hb_bit (C z) i with
    | false => rfl
    | true => exact absurd ⟨i, hi, hb⟩ q
  obtain ⟨t, c, h1, h2⟩ := lb_la hw hb hb64 8 hz (Nat.le_refl _)
  obtain ⟨h3, h4⟩ := lb_em 8 0 t (Nat.zero_le _) (by omega) (lb_bz h2)
  show ¬ (if 0 + hb_em (hb_la C way 8) 8 0 < 8 then hb_la C way 8 (0 + hb_em (hb_la C way 8) 8 0) else 0) = 0
  rw [if_pos (by omega), Nat.zero_add]
  exact h4
theorem lb_ht {C : Nat → Int64} (h : ¬ C 0 = 0) : ∀ n, ¬ hb_ht C (n + 1) = 0 := by
  intro n
  induction n with
  | zero => show ¬ (if C 0 = 0 then hb_ht C 0 else 0 + 1) = 0; rw [if_neg h]; omega
  | succ n ih =>
    show ¬ (if C (n + 1) = 0 then hb_ht C (n + 1) else n + 1 + 1) = 0
    split
    · exact ih
    · omega
-- a solid laid as it lies
theorem lb_lz0 (S : Int64) (z : Nat) (L : Nat → Int64) : ∀ n, n ≤ 64 → ∀ k b, b < 64 → hb_bit (hb_lz S 0 z n L k) b = (hb_bit (L k) b || (decide (k = z) && decide (b < n) && hb_bit S b)) := by
  intro n
  induction n with
  | zero => intro _ k b _; show hb_bit (L k) b = _; simp
  | succ n ih =>
    intro h k b hb
    have e := ih (by omega) k b hb
    show hb_bit ((if hb_bit S n then hb_put (hb_lz S 0 z n L) (n % 8) (n / 8) z else hb_lz S 0 z n L : Nat → Int64) k) b = _
    by_cases q : hb_bit S n = true
    · rw [if_pos q]
      unfold hb_put
      by_cases hk : k = z
      · subst hk
        rw [va_up_self, hx_or, show n % 8 + 8 * (n / 8) = n by omega, hx_bitw (by omega), e]
        by_cases hbn : b = n
        · subst hbn; simp [q]
        · have h1 : (b < n + 1) ↔ b < n := by omega
          simp [hbn, h1]
      · rw [va_up_ne _ _ hk, e]
        simp [hk]
    · rw [if_neg q, e]
      by_cases hbn : b = n
      · subst hbn
        have q2 : hb_bit S b = false := by simpa using q
        simp [q2]
      · have h1 : (b < n + 1) ↔ b < n := by omega
        simp [h1]
theorem lb_la0 (D : Nat → Int64) : ∀ n, n ≤ 8 → ∀ k b, b < 64 → hb_bit (hb_la D 0 n k) b = (decide (k < n) && hb_bit (D k) b) := by
  intro n
  induction n with
  | zero => intro _ k b _; show hb_bit 0 b = _; rw [hx_0]; simp
  | succ n ih =>
    intro h k b hb
    show hb_bit (hb_lz (D n) 0 n 64 (hb_la D 0 n) k) b = _
    rw [lb_lz0 (D n) n (hb_la D 0 n) 64 (Nat.le_refl _) k b hb, ih (by omega) k b hb]
    by_cases hk : k = n
    · subst hk; simp [hb]
    · have h1 : (k < n + 1) ↔ k < n := by omega
      simp [hk, h1]
theorem lb_id {D : Nat → Int64} (h0 : ¬ D 0 = 0) (h8 : ∀ k, 8 ≤ k → D k = 0) : hb_laid D 0 = D := by
  have e : ∀ k, k < 8 → hb_la D 0 8 k = D k := fun k hk => hx_ext (fun b hb => by rw [lb_la0 D 8 (Nat.le_refl _) k b hb, decide_eq_true hk, Bool.true_and])
  have em : hb_em (hb_la D 0 8) 8 0 = 0 := by
    show (if hb_la D 0 8 0 = 0 then _ else 0) = 0
    rw [if_neg (by rw [e 0 (by decide)]; exact h0)]
  funext k
  show (if k + hb_em (hb_la D 0 8) 8 0 < 8 then hb_la D 0 8 (k + hb_em (hb_la D 0 8) 8 0) else 0) = D k
  rw [em]
  by_cases hk : k < 8
  · rw [if_pos (by omega)]; exact e k hk
  · rw [if_neg (by omega), h8 k (by omega)]
theorem lb_l8 (C : Nat → Int64) (way : Nat) : ∀ k, 8 ≤ k → hb_laid C way k = 0 := fun k hk => if_neg (by omega)
/-- laid as it lies, it needs what it needs -/
theorem lb_ws {C : Nat → Int64} {way : Nat} (hw : way < 6) {z : Nat} (hz : z < 8) (h : ¬ C z = 0) : hb_ws (hb_laid C way) 0 = hb_ws C way := by
  show hb_sm (fun k => hb_pc (hb_supp (hb_laid (hb_laid C way) 0) k)) 8 = hb_sm (fun k => hb_pc (hb_supp (hb_laid C way) k)) 8
  rw [lb_id (lb_l0 hw hz h) (lb_l8 C way)]
-- told layer by layer
theorem lb_mx (C : Nat → Int64) {z : Nat} (hz : z ≤ 8) : ∀ n, hb_sm (fun k => hb_pc (hb_mix C (fun _ => 0) z k)) n = hb_sm (fun k => hb_pc (C k)) (min n z) := by
  intro n
  induction n with
  | zero => simp; rfl
  | succ n ih =>
    show hb_sm (fun k => hb_pc (hb_mix C (fun _ => 0) z k)) n + hb_pc (hb_mix C (fun _ => 0) z n) = _
    rw [ih]
    by_cases h : n < z
    · rw [hb_mix_lt h, show min n z = n by omega, show min (n + 1) z = n + 1 by omega]; rfl
    · rw [hb_mix_ge (by omega), show min n z = z by omega, show min (n + 1) z = z by omega, hb_pc_z.mpr rfl]; rfl
