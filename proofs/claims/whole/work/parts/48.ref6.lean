theorem hb_win_inj {a p s b q t : Int32} (ha : hb_ok a 3) (hp : hb_pw p) (hs : ¬ s < nI 1 ∧ s ≤ nI 20) (hb : hb_ok b 3) (hq : hb_pw q) (ht : ¬ t < nI 1 ∧ t ≤ nI 20) (h : hb_win a p s = hb_win b q t) : a = b ∧ p = q ∧ s = t := by
  obtain ⟨a', ha', rfl⟩ := hb_okj (by decide) ha
  obtain ⟨b', hb', rfl⟩ := hb_okj (by decide) hb
  obtain ⟨p', hp', rfl⟩ := hb_okj (k := p) (n := 401) (by decide) ⟨hb_pw0 hp, by
    have := Int32.le_iff_toInt_le.mp hp.2
    rw [show (nI 400).toInt = 400 by decide] at this
    exact Int32.lt_iff_toInt_lt.mpr (by rw [show (nI 401).toInt = 401 by decide]; omega)⟩
  obtain ⟨q', hq', rfl⟩ := hb_okj (k := q) (n := 401) (by decide) ⟨hb_pw0 hq, by
    have := Int32.le_iff_toInt_le.mp hq.2
    rw [show (nI 400).toInt = 400 by decide] at this
    exact Int32.lt_iff_toInt_lt.mpr (by rw [show (nI 401).toInt = 401 by decide]; omega)⟩
  obtain ⟨s', hs', rfl⟩ := hb_okj (k := s) (n := 21) (by decide) ⟨Int32.le_of_lt (hb_sp0 hs.1), by
    have := Int32.le_iff_toInt_le.mp hs.2
    rw [show (nI 20).toInt = 20 by decide] at this
    exact Int32.lt_iff_toInt_lt.mpr (by rw [show (nI 21).toInt = 21 by decide]; omega)⟩
  obtain ⟨t', ht', rfl⟩ := hb_okj (k := t) (n := 21) (by decide) ⟨Int32.le_of_lt (hb_sp0 ht.1), by
    have := Int32.le_iff_toInt_le.mp ht.2
    rw [show (nI 20).toInt = 20 by decide] at this
    exact Int32.lt_iff_toInt_lt.mpr (by rw [show (nI 21).toInt = 21 by decide]; omega)⟩
  have e : ∀ x y z : Nat, hb_win (nI x) (nI y) (nI z) = nI ((x * 401 + y) * 21 + z) := fun x y z => by
    unfold hb_win
    rw [pk_mul, nI_add, pk_mul, nI_add]
  rw [e, e] at h
  have h2 := (nI_eq (by omega) (by omega)).mp h
  have h3 : a' = b' ∧ p' = q' ∧ s' = t' := by omega
  rw [h3.1, h3.2.1, h3.2.2]
  exact ⟨rfl, rfl, rfl⟩
theorem hb_tr_has {q : Nat → Nat → Int32} {Q : Nat → Int32} {a p s w : Int32} (ha : hb_ok a 3) (hp : hb_pw p) (hs : ¬ s < nI 1 ∧ s ≤ nI 20) (hw : w = hb_win a p s) : ∀ n, (∀ m, m < n → (hb_ok (q m 0) 3 ∧ hb_pw (q m 1) ∧ ¬ q m 2 < nI 1 ∧ q m 2 ≤ nI 20) ∧ Q m = hb_win (q m 0) (q m 1) (q m 2)) → hb_tr q a p s n = hb_has Q w n
  | 0, _ => rfl
  | n + 1, h => by
    show (hb_tr q a p s n || _) = (hb_has Q w n || decide (Q n = w))
    rw [hb_tr_has ha hp hs hw n (fun m hm => h m (by omega))]
    congr 1
    obtain ⟨⟨h1, h2, h3, h4⟩, h5⟩ := h n (Nat.lt_succ_self _)
    rw [← Bool.decide_and, ← Bool.decide_and]
    refine decide_eq_decide.mpr ⟨fun z => ?_, fun z => ?_⟩
    · rw [h5, hw, z.1.1, z.1.2, z.2]
    · have := hb_win_inj h1 h2 ⟨h3, h4⟩ ha hp hs (by rw [← h5, z, hw])
      exact ⟨⟨this.1, this.2.1⟩, this.2.2⟩
theorem hf_cmp {d : UInt64} (h : vf_n64 d) : ¬ FP.dcmp d 4606732058837280358 = none := by
  have e1 : ∃ c q, FP.Core.decode FP.Core.b64 (4606732058837280358 : UInt64).toNat = .fin false c q := ⟨2 ^ 52 + 4606732058837280358 % 2 ^ 52, -53, by decide +kernel⟩
  obtain ⟨c, q, e1⟩ := e1
  unfold FP.dcmp FP.Core.dcmp FP.Core.cmp
  rw [e1]
  have g := hx_dn h
  generalize FP.Core.decode FP.Core.b64 d.toNat = dx at g ⊢
  rcases g with ⟨s, rfl⟩ | ⟨s, c, q, rfl⟩ <;> (intro h; cases h)
theorem hf_dens (lk ho : Int32) (n : Int32) : vf_n64 (hb_dens lk ho n) := by
  unfold hb_dens
  split
  · exact hf_n hf_zero
  · rename_i h; exact hf_den _ h
theorem hb_isd_f {d : UInt64} (h : ¬ 0 ≤ Op.cmpValue (FP.dcmp d 4606732058837280358) .g) : hb_isd d = false := by
  have h2 : FP.dcmp d 4606732058837280358 = some .lt := Decidable.byContradiction (fun q => h (hc_lt.mpr q))
  unfold hb_isd
  rw [decide_eq_true (Or.inr h2)]; rfl
theorem hb_isd_t {d : UInt64} (hn : vf_n64 d) (h : 0 ≤ Op.cmpValue (FP.dcmp d 4606732058837280358) .g) : hb_isd d = true := by
  have h2 : ¬ FP.dcmp d 4606732058837280358 = some .lt := hc_lt.mp h
  unfold hb_isd
  rw [decide_eq_false (fun q => q.elim (hf_cmp hn) h2)]; rfl
/-- the pieces' windows are at most four: a window that isn't proved has room -/
theorem hb_has_t {f : Nat → Int32} {w : Int32} : ∀ {n : Nat}, hb_has f w n = false → ∀ m, m < n → ¬ f m = w
  | 0, _, m, hm => absurd hm (Nat.not_lt_zero _)
  | n + 1, h, m, hm => by
    have h2 : (hb_has f w n || decide (f n = w)) = false := h
    rw [Bool.or_eq_false_iff] at h2
    rcases Nat.eq_or_lt_of_le (Nat.le_of_lt_succ hm) with q | q
    · rw [q]; exact of_decide_eq_false h2.2
    · exact hb_has_t h2.1 m q
theorem hv_room {S : hs_S} (h : hv_ok S) {k i : Nat} (hk : k < 2) (hi : i < hs_np S) (hn : hb_has (hs_Q S k) (hs_P S i 9) (hs_N S k) = false) : hs_N S k < 4 := by
  have hnp := h.b.np
  have hN := h.b.N hk
  rcases Nat.lt_or_ge (hs_N S k) 4 with q | q
  · exact q
  · exfalso
    have hne := hb_has_t hn
    obtain ⟨hex, hin⟩ := h.Q hk
    obtain ⟨i0, a0, _, _, b0⟩ := hex 0 (by omega)
    obtain ⟨i1, a1, _, _, b1⟩ := hex 1 (by omega)
    obtain ⟨i2, a2, _, _, b2⟩ := hex 2 (by omega)
    obtain ⟨i3, a3, _, _, b3⟩ := hex 3 (by omega)
    have d : ∀ m m' x y : Nat, m < hs_N S k → m' < hs_N S k → m ≠ m' → hs_Q S k m = hs_P S x 9 → hs_Q S k m' = hs_P S y 9 → x ≠ y := fun m m' x y hm hm' hmm hx hy z => hmm (hin m m' hm hm' (by rw [hx, hy, z]))
    have g : ∀ m x : Nat, m < hs_N S k → hs_Q S k m = hs_P S x 9 → x ≠ i := fun m x hm hx z => hne m hm (by rw [hx, z])
    have := d 0 1 i0 i1 (by omega) (by omega) (by decide) b0 b1
    have := d 0 2 i0 i2 (by omega) (by omega) (by decide) b0 b2
    have := d 0 3 i0 i3 (by omega) (by omega) (by decide) b0 b3
    have := d 1 2 i1 i2 (by omega) (by omega) (by decide) b1 b2
    have := d 1 3 i1 i3 (by omega) (by omega) (by decide) b1 b3
    have := d 2 3 i2 i3 (by omega) (by omega) (by decide) b2 b3
    have := g 0 i0 (by omega) b0
    have := g 1 i1 (by omega) b1
    have := g 2 i2 (by omega) b2
    have := g 3 i3 (by omega) b3
    omega
theorem hr_fs10 (f : Nat → Nat) (g v q : Nat) : va_up (hc_f (fun j => f (g + 2 * j)) v) v (some q) = hc_f (fun j => va_up f (g + 2 * v) q (g + 2 * j)) (v + 1) := by
  rw [hr_fs]
  congr 1
  funext j
  by_cases h : j = v
  · subst h; rw [va_up_self, va_up_self]
  · rw [va_up_ne _ _ h, va_up_ne _ _ (by omega)]
theorem hr_f10 (f : Nat → Nat) (g q : Nat) : va_up (fun _ => none) 0 (some q) = hc_f (fun j => va_up f (g + 2 * 0) q (g + 2 * j)) (0 + 1) := by
  rw [← hr_fs10, ← hc_f0]
theorem hr_n10 {f : Nat → Nat} {g v q i : Nat} (hg : g < 2) (hi : i < 2) (h : ¬ i = g) : (fun j => va_up f (g + 2 * v) q (i + 2 * j)) = fun j => f (i + 2 * j) := by
  funext j
  exact va_up_ne _ _ (by omega)
theorem hr_q_add {S S' : hs_S} {X X' : hr_X} {g : Nat} {T : Nat → Int32} (h : hr_q S X) (hN : hs_N S' = va_up (hs_N S) g (hs_N S g + 1)) (hQ : hs_Q S' = va_up (hs_Q S) g (va_up (hs_Q S g) (hs_N S g) (hb_win (T 0) (T 1) (T 2)))) (hX : hr_qq X' = va_up (hr_qq X) g (va_up (hr_qq X g) (hs_N S g) T))
    (hT : hb_ok (T 0) 3 ∧ hb_pw (T 1) ∧ ¬ T 2 < nI 1 ∧ T 2 ≤ nI 20) : hr_q S' X' := fun k m hk hm => by
  rw [hN] at hm
  rw [hQ, hX]
  by_cases hkg : k = g
  · subst hkg
    rw [va_up_self] at hm
    rw [va_up_self, va_up_self]
    by_cases hmn : m = hs_N S k
    · rw [hmn, va_up_self, va_up_self]; exact ⟨hT, rfl⟩
    · rw [va_up_ne _ _ hmn, va_up_ne _ _ hmn]
      exact h k m hk (by omega)
  · rw [va_up_ne _ _ hkg] at hm
    rw [va_up_ne _ _ hkg, va_up_ne _ _ hkg]
    exact h k m hk hm
theorem hr_g_add {S S' : hs_S} {X X' : hr_X} {g : Nat} (h : hr_g S X) (hN : hs_N S' = va_up (hs_N S) g (hs_N S g + 1)) (hX : hr_gr X' g = true) (hY : ∀ k, k ≠ g → hr_gr X' k = hr_gr X k) : hr_g S' X' := fun k hk hg => by
  by_cases hkg : k = g
  · rw [hkg, hX] at hg; cases hg
  · rw [hN, va_up_ne _ _ hkg]
    exact h k hk (by rw [← hY k hkg]; exact hg)
theorem hb_apc_t {f : Nat → Int32} {n : Nat} {w : Int32} (hn : n < 4) (h : hb_has f w n = false) : hb_apf f n w = va_up f n w ∧ hb_apn f n w = n + 1 := by
  have e : hb_apc f n w = true := by unfold hb_apc; rw [decide_eq_true hn, h]; rfl
  unfold hb_apf hb_apn
  rw [e]; exact ⟨rfl, rfl⟩
theorem hb_apc_f {f : Nat → Int32} {n : Nat} {w : Int32} (h : hb_has f w n = true) : hb_apf f n w = f ∧ hb_apn f n w = n := by
  have e : hb_apc f n w = false := by unfold hb_apc; rw [h]; exact Bool.and_false _
  unfold hb_apf hb_apn
  rw [e]; exact ⟨rfl, rfl⟩
theorem fd_X11_160 : hw_FD RX11 160 9 8 := ⟨RX8, TX8, 9, "MeltPoolModel$Piece", rfl, by decide, iw_X8, (hw_win (w := .fieldLink RX11 160 "MeltPoolModel$Piece" (TX8 8).2.1 (TX8 8).2.2.1) (by decide +kernel) (by decide +kernel)), Or.inl rfl⟩
theorem fd_X11_152 : hw_FD RX11 152 9 4 := ⟨RX8, TX8, 9, "MeltPoolModel$Piece", rfl, by decide, iw_X8, (hw_win (w := .fieldLink RX11 152 "MeltPoolModel$Piece" (TX8 4).2.1 (TX8 4).2.2.1) (by decide +kernel) (by decide +kernel)), Or.inl rfl⟩
theorem cb_X11_alloyOf (own : String) (index : Nat) : hw_CB own index yX11_alloyOf cX11_alloyOf 4 (some .int) 1 := ⟨⟨by decide +kernel, by decide +kernel, by decide +kernel⟩, (hw_win (w := .code yX11_alloyOf cX11_alloyOf 4 (some .int)) (by decide +kernel) (by decide +kernel)), (hw_win (w := .initialized yX11_alloyOf.cls) (by decide +kernel) (by decide +kernel))⟩
theorem cv_X11_198 : hw_CV RX11 198 yX11_alloyOf cX11_alloyOf 4 (some .int) 1 := ⟨cb_X11_alloyOf _ _, (hw_win (w := .methodLink RX11 198 yX11_alloyOf) (by decide +kernel) (by decide +kernel)), (hw_win (w := .instanceMethod yX11_alloyOf) (by decide +kernel) (by decide +kernel)), (hw_win (w := .selects yX11_alloyOf.cls yX11_alloyOf yX11_alloyOf) (by decide +kernel) (by decide +kernel))⟩
theorem fd_X11_153 : hw_FD RX11 153 9 5 := ⟨RX8, TX8, 9, "MeltPoolModel$Piece", rfl, by decide, iw_X8, (hw_win (w := .fieldLink RX11 153 "MeltPoolModel$Piece" (TX8 5).2.1 (TX8 5).2.2.1) (by decide +kernel) (by decide +kernel)), Or.inl rfl⟩
theorem fd_X11_156 : hw_FD RX11 156 9 6 := ⟨RX8, TX8, 9, "MeltPoolModel$Piece", rfl, by decide, iw_X8, (hw_win (w := .fieldLink RX11 156 "MeltPoolModel$Piece" (TX8 6).2.1 (TX8 6).2.2.1) (by decide +kernel) (by decide +kernel)), Or.inl rfl⟩
theorem cb_X7_isProved (own : String) (index : Nat) : hw_CB own index yX7_isProved cX7_isProved 5 (some .boolean) 3 := ⟨⟨by decide +kernel, by decide +kernel, by decide +kernel⟩, (hw_win (w := .code yX7_isProved cX7_isProved 5 (some .boolean)) (by decide +kernel) (by decide +kernel)), (hw_win (w := .initialized yX7_isProved.cls) (by decide +kernel) (by decide +kernel))⟩
theorem cv_X11_202 : hw_CV RX11 202 yX7_isProved cX7_isProved 5 (some .boolean) 3 := ⟨cb_X7_isProved _ _, (hw_win (w := .methodLink RX11 202 yX7_isProved) (by decide +kernel) (by decide +kernel)), (hw_win (w := .instanceMethod yX7_isProved) (by decide +kernel) (by decide +kernel)), (hw_win (w := .selects yX7_isProved.cls yX7_isProved yX7_isProved) (by decide +kernel) (by decide +kernel))⟩
theorem cb_X8_density (own : String) (index : Nat) : hw_CB own index yX8_density cX8_density 2 (some .double) 0 := ⟨⟨by decide +kernel, by decide +kernel, by decide +kernel⟩, (hw_win (w := .code yX8_density cX8_density 2 (some .double)) (by decide +kernel) (by decide +kernel)), (hw_win (w := .initialized yX8_density.cls) (by decide +kernel) (by decide +kernel))⟩
theorem cv_X11_192 : hw_CV RX11 192 yX8_density cX8_density 2 (some .double) 0 := ⟨cb_X8_density _ _, (hw_win (w := .methodLink RX11 192 yX8_density) (by decide +kernel) (by decide +kernel)), (hw_win (w := .instanceMethod yX8_density) (by decide +kernel) (by decide +kernel)), (hw_win (w := .selects yX8_density.cls yX8_density yX8_density) (by decide +kernel) (by decide +kernel))⟩
set_option maxHeartbeats 4000000 in
set_option maxRecDepth 100000 in
theorem m_X11_alloyOf (l : Launch) (Z : hw_Z) (M : hw_M) (o : Nat) (lp : Nat) (lw : Nat) (lm : Nat) (t0 : Int32) (g0 : Int32) (g1 : Int32) (a : Nat) (so : Nat) (gr : Nat) (d : Nat) (n : Nat) (m9 : Nat) (mc : Int32) (v1 : Int32) (v3 : Int32) (v4 : Int32) (v5 : Int32) (v6 : Int32) (v7 : Int32) (x8 : Int32) (f : Nat → Option Nat) (pa : Nat → Nat) (vv : Nat → Nat → Int32) (h0 : M o = hw_ob 12 [.int t0, .int g0, .int g1, .ref lp, .ref lw, .ref lm]) (h1 : M a = hw_ob 9 [.ref so, .int v1, .ref gr, .int v3, .int v4, .int v5, .int v6, .int v7, .int x8]) (h2 : M lw = hw_ob 0 [.int mc, .ref d, .int (nI n)]) (h3 : M d = hw_ar Z 7 10 f) (hx8 : x8 = nI m9) (hm9 : m9 < 64) (hn : n ≤ 6) (hf : ∀ i, i < n → f i = some (pa i)) (hv : ∀ i, i < n → M (pa i) = hw_ob 10 [.int (vv i 0), .int (vv i 1), .int (vv i 2), .int (vv i 3), .int (vv i 4)]) : Met l yX11_alloyOf (hw_m yX11_alloyOf cX11_alloyOf 4 (some .int)) ({ frames := 3, cells := 0, slots := 0, locals := 70 } : Room) (va_Pc [.ref o, .ref a] (hw_P Z M)) (hw_Qi Z (fun r M' => hb_ao (fun i => vv i 0) m9 n = r ∧ M = M')) 0 0 (hw_A Z) := by
  refine hw_ofi (by decide +kernel) rfl (Nat.le_of_ble_eq_true rfl) ?_
  intro p e s m below meth c ls Q hx hb hml hown hts hk hnm hI hl hret
  refine lv_iconst (v := (-1)) hx hb dX11_alloyOf_0 (by decide) ?_
  refine lv_istore_n (lv' := [(2, .int (-1)), (0, .ref o), (1, .ref a)]) hx hb dX11_alloyOf_1 rfl hl (by decide) rfl (fun ls hl => ?_)
  refine lv_iconst (v := nI 0) hx hb dX11_alloyOf_2 (by decide) ?_
  refine lv_istore_n (lv' := [(3, .int (nI 0)), (2, .int (-1)), (0, .ref o), (1, .ref a)]) hx hb dX11_alloyOf_3 rfl hl (by decide) rfl (fun ls hl => ?_)
  suffices LP4 : ∀ i, i ≤ n → ∀ (H : Heap) (locs : List Loc) (ls : Array Slot), hw_iv Z s (M) H locs → lv_has ls 4 [(2, .int (hb_ao (fun i => vv i 0) m9 i)), (3, .int (nI i)), (0, .ref o), (1, .ref a)] → W p l e ({ frames := 3, cells := 0, slots := 0, locals := 70 } : Room) s m ([.ref o, .ref a] : List Value).toArray below meth c H locs 0 0 Q (F0 m 4 ls []) from LP4 0 (by omega) _ _ _ hI (lv_sub hl [1, 0, 2, 3] rfl)
  refine hw_loop ?_ (fun i hi4 ih4 => ?_)
  · intro H locs ls hI hl
    refine lv_iload_n hx hb dX11_alloyOf_4 rfl (lv_at hl 1 rfl) ?_
    refine lv_aload_n hx hb dX11_alloyOf_5 rfl (lv_at hl 2 rfl) ?_
    refine hw_get hx hb hts hown hk hI fd_X11_16 h0 rfl dX11_alloyOf_6 ?_
    refine hw_cFi hI (hw_rF hx hb hml hown hts hk hI (m_Jx4a65c_size_8abf5 l Z M lw n mc (.ref d) h2) cf_X11_34 h2 rfl rfl ⟨rfl, rfl⟩ ⟨(Nat.le_of_ble_eq_true rfl), (Nat.le_of_ble_eq_true rfl)⟩ rfl hl.1 rfl (Nat.le_of_ble_eq_true rfl) ⟨(Nat.le_of_ble_eq_true rfl), (Nat.le_of_ble_eq_true rfl)⟩ dX11_alloyOf_9) (fun r9 M9 H locs hR hI => ?_)
    obtain ⟨rfl, rfl⟩ := hR
    refine lv_icmp_ge (tgt := 56) hx hb dX11_alloyOf_14 (by decide) (fun _ => ?_) (fun hc => absurd (Int32.le_refl _) hc)
    refine lv_iload_n hx hb dX11_alloyOf_56 rfl (lv_at hl 0 rfl) ?_
    exact hret hI (⟨rfl, rfl⟩) (Nat.le_of_ble_eq_true rfl) (Nat.le_of_ble_eq_true rfl) dX11_alloyOf_57
  · intro H locs ls hI hl
    refine lv_iload_n hx hb dX11_alloyOf_4 rfl (lv_at hl 1 rfl) ?_
    refine lv_aload_n hx hb dX11_alloyOf_5 rfl (lv_at hl 2 rfl) ?_
    refine hw_get hx hb hts hown hk hI fd_X11_16 h0 rfl dX11_alloyOf_6 ?_
    refine hw_cFi hI (hw_rF hx hb hml hown hts hk hI (m_Jx4a65c_size_8abf5 l Z M lw n mc (.ref d) h2) cf_X11_34 h2 rfl rfl ⟨rfl, rfl⟩ ⟨(Nat.le_of_ble_eq_true rfl), (Nat.le_of_ble_eq_true rfl)⟩ rfl hl.1 rfl (Nat.le_of_ble_eq_true rfl) ⟨(Nat.le_of_ble_eq_true rfl), (Nat.le_of_ble_eq_true rfl)⟩ dX11_alloyOf_9) (fun r9 M9 H locs hR hI => ?_)
    obtain ⟨rfl, rfl⟩ := hR
    refine lv_icmp_ge (tgt := 56) hx hb dX11_alloyOf_14 (by decide) (fun hc => absurd hc (nI_ge hi4 (by omega))) (fun _ => ?_)
    refine lv_aload_n hx hb dX11_alloyOf_17 rfl (lv_at hl 3 rfl) ?_
    refine hw_get hx hb hts hown hk hI fd_X11_160 h1 rfl dX11_alloyOf_18 ?_
    refine hw_ti hx8 ?_
    refine lv_iload_n hx hb dX11_alloyOf_21 rfl (lv_at hl 1 rfl) ?_
    refine lv_ishr hx hb dX11_alloyOf_22 ?_
    refine lv_iconst (v := nI 1) hx hb dX11_alloyOf_23 (by decide) ?_
    refine lv_iand hx hb dX11_alloyOf_24 ?_
    refine lv_iconst (v := nI 1) hx hb dX11_alloyOf_25 (by decide) ?_
    refine lv_icmp_ne (tgt := 48) hx hb dX11_alloyOf_26 (by decide) (fun c26 => ?_) (fun c26 => ?_)
    · refine lv_iload_n hx hb dX11_alloyOf_48 rfl (lv_at hl 0 rfl) ?_
      refine lv_istore_n (lv' := [(2, .int (hb_ao (fun i => vv i 0) m9 i)), (3, .int (nI i)), (0, .ref o), (1, .ref a)]) hx hb dX11_alloyOf_49 rfl hl (by decide) rfl (fun ls hl => ?_)
      refine lv_iinc (v := nI (i + 1)) (lv' := [(3, .int (nI (i + 1))), (2, .int (hb_ao (fun i => vv i 0) m9 i)), (0, .ref o), (1, .ref a)]) hx hb dX11_alloyOf_50 hl (k := 1) rfl (hw_inc _) (by decide) rfl (fun ls hl => ?_)
      refine lv_goto (tgt := 4) hx hb dX11_alloyOf_53 (by decide) ?_
      exact ih4 _ _ _ hI (lv_sub hl [1, 0, 2, 3] (by rw [← hb_ao_n (Bool.eq_false_iff.mpr (fun q => c26 ((hb_tb hm9 (by omega)).mpr q)))]; rfl))
    · refine lv_aload_n hx hb dX11_alloyOf_29 rfl (lv_at hl 2 rfl) ?_
      refine hw_get hx hb hts hown hk hI fd_X11_16 h0 rfl dX11_alloyOf_30 ?_
      refine lv_iload_n hx hb dX11_alloyOf_33 rfl (lv_at hl 1 rfl) ?_
      refine hw_cFr hI (hw_rF hx hb hml hown hts hk hI (m_Jx4a65c_get_915e3 l Z M lw d n i (pa i) mc f h2 h3 hi4 (by omega) (hf i hi4)) cf_X11_59 h2 rfl rfl ⟨rfl, rfl⟩ ⟨(Nat.le_of_ble_eq_true rfl), (Nat.le_of_ble_eq_true rfl)⟩ rfl hl.1 rfl (Nat.le_of_ble_eq_true rfl) ⟨(Nat.le_of_ble_eq_true rfl), (Nat.le_of_ble_eq_true rfl)⟩ dX11_alloyOf_34) (fun r34 M34 H locs hR hI => ?_)
      obtain ⟨rfl, rfl⟩ := hR
      refine hw_cast hx hb hts hown hk hI (hv i hi4) rfl (hw_win (w := .classLink RX11 86 RX9) (by decide +kernel) (by decide +kernel)) dX11_alloyOf_39 ?_
      refine hw_get hx hb hts hown hk hI fd_X11_94 (hv i hi4) rfl dX11_alloyOf_42 ?_
      refine lv_goto (tgt := 49) hx hb dX11_alloyOf_45 (by decide) ?_
      refine lv_istore_n (lv' := [(2, .int (vv i 0)), (3, .int (nI i)), (0, .ref o), (1, .ref a)]) hx hb dX11_alloyOf_49 rfl hl (by decide) rfl (fun ls hl => ?_)
      refine lv_iinc (v := nI (i + 1)) (lv' := [(3, .int (nI (i + 1))), (2, .int (vv i 0)), (0, .ref o), (1, .ref a)]) hx hb dX11_alloyOf_50 hl (k := 1) rfl (hw_inc _) (by decide) rfl (fun ls hl => ?_)
      refine lv_goto (tgt := 4) hx hb dX11_alloyOf_53 (by decide) ?_
      exact ih4 _ _ _ hI (lv_sub hl [1, 0, 2, 3] (by rw [← hb_ao_y (f := fun i => vv i 0) ((hb_tb hm9 (by omega)).mp c26)]; rfl))

set_option maxHeartbeats 4000000 in
set_option maxRecDepth 100000 in
theorem m_X7_isProved_0 (l : Launch) (Z : hw_Z) (M : hw_M) (a : Nat) (b : Nat) (mc : Int32) (x : Int32) (y : Int32) (z : Int32) (z1 : Int32) (z2 : Int32) (z3 : Int32) (z4 : Int32) (dv : Value) (h0 : M a = hw_ob 8 [.int z1, .int z2, .int z3, .int z4, .ref b]) (h1 : M b = hw_ob 0 [.int mc, dv, .int (nI 0)]) : Met l yX7_isProved (hw_m yX7_isProved cX7_isProved 5 (some .boolean)) ({ frames := 3, cells := 0, slots := 0, locals := 75 } : Room) (va_Pc [.ref a, .int x, .int y, .int z] (hw_P Z M)) (hw_Qi Z (fun r M' => nI 0 = r ∧ M = M')) 0 0 (hw_A Z) := by
  refine hw_ofz (by decide +kernel) rfl (Nat.le_of_ble_eq_true rfl) ?_
  intro p e s m below meth c ls Q hx hb hml hown hts hk hnm hI hl hret
  refine lv_iconst (v := nI 0) hx hb dX7_isProved_0 (by decide) ?_
  refine lv_istore (lv' := [(4, .int (nI 0)), (0, .ref a), (1, .int x), (2, .int y), (3, .int z)]) hx hb dX7_isProved_1 hl (by decide) rfl (fun ls hl => ?_)
  refine lv_iload hx hb dX7_isProved_3 (lv_at hl 0 rfl) ?_
  refine lv_aload_n hx hb dX7_isProved_5 rfl (lv_at hl 1 rfl) ?_
  refine hw_get hx hb hts hown hk hI fd_X7_24 h0 rfl dX7_isProved_6 ?_
  refine hw_cFi hI (hw_rF hx hb hml hown hts hk hI (m_Jx4a65c_size_8abf5 l Z M b 0 mc dv h1) cf_X7_28 h1 rfl rfl ⟨rfl, rfl⟩ ⟨(Nat.le_of_ble_eq_true rfl), (Nat.le_of_ble_eq_true rfl)⟩ rfl hl.1 rfl (Nat.le_of_ble_eq_true rfl) ⟨(Nat.le_of_ble_eq_true rfl), (Nat.le_of_ble_eq_true rfl)⟩ dX7_isProved_9) (fun r9 M9 H locs hR hI => ?_)
  obtain ⟨rfl, rfl⟩ := hR
  refine lv_icmp_ge (tgt := 85) hx hb dX7_isProved_14 (by decide) (fun _ => ?_) (fun hc => absurd (Int32.le_refl _) hc)
  refine lv_iconst (v := nI 0) hx hb dX7_isProved_85 (by decide) ?_
  exact hret hI (Or.inl rfl) (⟨rfl, rfl⟩) (Nat.le_of_ble_eq_true rfl) (Nat.le_of_ble_eq_true rfl) dX7_isProved_86

set_option maxHeartbeats 4000000 in
set_option maxRecDepth 100000 in
theorem m_X11_accept_s (l : Launch) (Z : hw_Z) (M : hw_M) (ad : hp_ad) (S : hs_S) (X : hr_X) (b1 : Nat → Prop) (ka : Int32) (hP : hr_ok Z b1 M ad S X) (hV : hv_ok S) (hA : ∀ a, b1 a → M a ≠ none) (hg : hr_gr X (hb_ix (hs_P S (hb_ix ka) 4)) = true) : Met l yX11_accept (hw_m yX11_accept cX11_accept 3 (some .int)) ({ frames := 8, cells := 2, slots := 90, locals := 250 } : Room) (va_Pc [.ref (ad 0 0), .int ka] (hw_P Z M)) (hw_Qi Z (hr_R Z b1 M ad (st_accept S ka))) 2 90 (hw_A Z) := by
  refine hw_ofi (by decide +kernel) rfl (Nat.le_of_ble_eq_true rfl) ?_
  intro p e s m below meth c ls Q hx hb hml hown hts hk hnm hI hl hret
  have hB := hV.b
  have hnp := hB.np
  have hnw := hB.nw
  have e0_0hP : M (ad 0 0) = hw_ob 12 [.int (hr_th X), .int (hs_G S 0), .int (hs_G S 1), .ref (ad 0 2), .ref (ad 0 3), .ref (ad 0 1)] := hP.m 0 0 (show 0 < 4 by decide)
  refine lv_aload_n hx hb dX11_accept_0 rfl (lv_at hl 0 rfl) ?_
  refine lv_iconst (v := nI 0) hx hb dX11_accept_1 (by decide) ?_
  refine hw_put (fs' := [.int (nI 0), .int (hs_G S 0), .int (hs_G S 1), .ref (ad 0 2), .ref (ad 0 3), .ref (ad 0 1)]) hx hb hts hown hk hI fp_X11_26 e0_0hP (Nat.le_of_ble_eq_true rfl) rfl rfl rfl dX11_accept_2 (fun H locs hI => ?_)
  obtain ⟨M1, hM1⟩ : ∃ Y : hw_M, Y = va_up M (ad 0 0) (hw_ob 12 [.int (nI 0), .int (hs_G S 0), .int (hs_G S 1), .ref (ad 0 2), .ref (ad 0 3), .ref (ad 0 1)]) := ⟨_, rfl⟩
  replace hI := hI.eq hM1.symm
  obtain ⟨X1, hX1⟩ : ∃ Y : hr_X, Y = (nI 0, X.2) := ⟨_, rfl⟩
  have hP1 : hr_ok Z b1 M1 ad S X1 := by rw [hM1, hX1]; exact hP.th (nI 0)
  have ht1 : hr_th X1 = nI 0 := by rw [hX1]; rfl
  have hgr1 : hr_gr X1 = hr_gr X := by rw [hX1]; rfl
  have hqq1 : hr_qq X1 = hr_qq X := by rw [hX1]; rfl
  have fr1 : ∀ a, b1 a → M1 a = M a := fun a ha => by rw [hM1]; exact va_up_ne _ _ (hP.f (k := 0) (i := 0) (show 0 < 4 by decide) ha)
  have hA1 : ∀ a, b1 a → M1 a ≠ none := fun a ha => by rw [fr1 a ha]; exact hA a ha
  clear hP hX1
  have e0_0hP1 : M1 (ad 0 0) = hw_ob 12 [.int (hr_th X1), .int (hs_G S 0), .int (hs_G S 1), .ref (ad 0 2), .ref (ad 0 3), .ref (ad 0 1)] := hP1.m 0 0 (show 0 < 4 by decide)
  have e0_2hP1 : M1 (ad 0 2) = hw_ob 0 [.int (hr_mc X1 0), .ref (hr_d (hs_np S) Z.2.2.2 (ad 11 0)), .int (nI (hs_np S))] := hP1.m 0 2 (show 2 < 4 by decide)
  refine lv_aload_n hx hb dX11_accept_5 rfl (lv_at hl 0 rfl) ?_
  refine lv_iload_n hx hb dX11_accept_6 rfl (lv_at hl 1 rfl) ?_
  refine hw_ci hI (hw_rV hx hb hml hown hts hk hI (m_X11_isPiece l Z M1 (ad 0 0) (ad 0 2) (ad 0 3) (ad 0 1) (hr_th X1) (hs_G S 0) (hs_G S 1) ka (hr_mc X1 0) (hs_np S) (.ref (hr_d (hs_np S) Z.2.2.2 (ad 11 0))) e0_0hP1 e0_2hP1 (by omega)) cv_X11_55 e0_0hP1 rfl rfl ⟨rfl, rfl⟩ ⟨(Nat.le_of_ble_eq_true rfl), (Nat.le_of_ble_eq_true rfl)⟩ rfl hl.1 rfl (Nat.le_of_ble_eq_true rfl) ⟨(Nat.le_of_ble_eq_true rfl), (Nat.le_of_ble_eq_true rfl)⟩ dX11_accept_7) (fun r7 M7 H locs hR hI => ?_)
  obtain ⟨rfl, rfl⟩ := hR
  refine lv_if_ne (tgt := 19) hx hb dX11_accept_10 (by decide) (fun c10 => ?_) (fun c10 => ?_)
  · have gk := hq_dt c10
    have hx_ka := hb_okx (by omega) gk
    have hi_ka : hb_ix ka < hs_np S := hx_ka.1
    have h4_ka : hb_ix ka < 4 := by omega
    have h11 : 0 = 0 ∧ 0 < hs_np S := ⟨rfl, by omega⟩
    have e0_2hP1 : M1 (ad 0 2) = hw_ob 0 [.int (hr_mc X1 0), .ref (ad 11 0), .int (nI (hs_np S))] := by
      have q := hP1.m 0 2 (show 2 < 4 by decide)
      rw [show hr_e Z ad S X1 0 2 = hw_ob 0 [.int (hr_mc X1 0), .ref (hr_d (hs_np S) Z.2.2.2 (ad 11 0)), .int (nI (hs_np S))] from rfl, hr_d0 h11.2] at q
      exact q
    have e11_0hP1 : M1 (ad 11 0) = hw_ar Z 7 10 (hc_f (ad 1) (hs_np S)) := hP1.m 11 0 h11
    have e1_hb_ix_kahP1 : M1 (ad 1 (hb_ix ka)) = hw_ob 9 [.ref (ad 2 (hb_ix ka)), .int (hs_P S (hb_ix ka) 0), .ref (ad 4 (hb_ix ka)), .int (hs_P S (hb_ix ka) 3), .int (hs_P S (hb_ix ka) 4), .int (hs_P S (hb_ix ka) 5), .int (hs_P S (hb_ix ka) 6), .int (hs_P S (hb_ix ka) 7), .int (hs_P S (hb_ix ka) 8)] := hP1.m 1 (hb_ix ka) hi_ka
    have e2_hb_ix_kahP1 : M1 (ad 2 (hb_ix ka)) = hw_ob 11 [.ref (ad 3 (hb_ix ka))] := hP1.m 2 (hb_ix ka) hi_ka
    have e3_hb_ix_kahP1 : M1 (ad 3 (hb_ix ka)) = hw_al Z 8 (hs_C S (hb_ix ka)) := hP1.m 3 (hb_ix ka) hi_ka
    have e4_hb_ix_kahP1 : M1 (ad 4 (hb_ix ka)) = hw_ob 7 [.double (hr_en (hs_P S (hb_ix ka))), .ref (ad 5 (hb_ix ka)), .double (hs_U S (hb_ix ka)), .int (hs_P S (hb_ix ka) 1), .int (hs_P S (hb_ix ka) 2), .int (nI (hs_D S (hb_ix ka)))] := hP1.m 4 (hb_ix ka) hi_ka
    refine lv_aload_n hx hb dX11_accept_19 rfl (lv_at hl 0 rfl) ?_
    refine hw_get hx hb hts hown hk hI fd_X11_10 e0_0hP1 rfl dX11_accept_20 ?_
    refine lv_iload_n hx hb dX11_accept_23 rfl (lv_at hl 1 rfl) ?_
    refine hw_ti hx_ka.2 ?_
    refine hw_cFr hI (hw_rF hx hb hml hown hts hk hI (m_Jx4a65c_get_915e3 l Z M1 (ad 0 2) (ad 11 0) (hs_np S) (hb_ix ka) (ad 1 (hb_ix ka)) (hr_mc X1 0) (hc_f (ad 1) (hs_np S)) e0_2hP1 e11_0hP1 hi_ka (by omega) (if_pos hi_ka)) cf_X11_59 e0_2hP1 rfl rfl ⟨rfl, rfl⟩ ⟨(Nat.le_of_ble_eq_true rfl), (Nat.le_of_ble_eq_true rfl)⟩ rfl hl.1 rfl (Nat.le_of_ble_eq_true rfl) ⟨(Nat.le_of_ble_eq_true rfl), (Nat.le_of_ble_eq_true rfl)⟩ dX11_accept_24) (fun r24 M24 H locs hR hI => ?_)
    obtain ⟨rfl, rfl⟩ := hR
    refine hw_cast hx hb hts hown hk hI e1_hb_ix_kahP1 rfl (hw_win (w := .classLink RX11 48 RX8) (by decide +kernel) (by decide +kernel)) dX11_accept_29 ?_
    refine lv_astore_n (lv' := [(2, .ref (ad 1 (hb_ix ka))), (0, .ref (ad 0 0)), (1, .int ka)]) hx hb dX11_accept_32 rfl hl (by decide) rfl (fun ls hl => ?_)
    refine lv_aload_n hx hb dX11_accept_33 rfl (lv_at hl 0 rfl) ?_
    refine hw_get hx hb hts hown hk hI fd_X11_63 e1_hb_ix_kahP1 rfl dX11_accept_34 ?_
    refine lv_iconst (v := nI 4) hx hb dX11_accept_37 (by decide) ?_
    refine lv_icmp_eq (tgt := 47) hx hb dX11_accept_38 (by decide) (fun c38 => ?_) (fun c38 => ?_)
    · have hs0 : ¬ hs_P S (hb_ix ka) 0 = 0 := by rw [c38]; decide
      obtain ⟨t4, t5, t6, al, tal, t9, m9, t8, m90, m96, tm⟩ := hV.st hi_ka hs0
      have hx4 := hb_okx (by decide) t4
      have h4n := hb_okn t4
      have hao := hv_ao (S := S) t8 m90 m96 tm
      have hnw0 : 0 < hs_nw S := by obtain ⟨k9, _, hk9⟩ := hb_tbx m9 m90 m96; have := (tm k9 hk9).1; omega
      have h12 : 0 = 0 ∧ 0 < hs_nw S := ⟨rfl, hnw0⟩
      have hq9 : hb_tr (hr_qq X1 (hb_ix (hs_P S (hb_ix ka) 4))) al (hs_P S (hb_ix ka) 5) (hs_P S (hb_ix ka) 6) (hs_N S (hb_ix (hs_P S (hb_ix ka) 4))) = hb_has (hs_Q S (hb_ix (hs_P S (hb_ix ka) 4))) (hs_P S (hb_ix ka) 9) (hs_N S (hb_ix (hs_P S (hb_ix ka) 4))) := hb_tr_has tal t5 t6 t9 _ (fun m hm => hP1.q (hb_ix (hs_P S (hb_ix ka) 4)) m hx4.1 hm)
      have hg1 : hr_gr X1 (hb_ix (hs_P S (hb_ix ka) 4)) = true := by rw [hgr1]; exact hg
      have h9 : hb_ix (hs_P S (hb_ix ka) 4) < 2 ∧ hr_gr X1 (hb_ix (hs_P S (hb_ix ka) 4)) = true := ⟨hx4.1, hg1⟩
      have hif : (if hr_gr X1 (hb_ix (hs_P S (hb_ix ka) 4)) = true then ad 9 (hb_ix (hs_P S (hb_ix ka) 4)) else Z.2.2.2) = ad 9 (hb_ix (hs_P S (hb_ix ka) 4)) := if_pos hg1
      have e0_1hP1 : M1 (ad 0 1) = hw_ar Z 6 2 (fun j => some (ad 7 j)) := hP1.m 0 1 (show 1 < 4 by decide)
      have e0_3hP1 : M1 (ad 0 3) = hw_ob 0 [.int (hr_mc X1 1), .ref (ad 12 0), .int (nI (hs_nw S))] := by
        have q := hP1.m 0 3 (show 3 < 4 by decide)
        rw [show hr_e Z ad S X1 0 3 = hw_ob 0 [.int (hr_mc X1 1), .ref (hr_d (hs_nw S) Z.2.2.2 (ad 12 0)), .int (nI (hs_nw S))] from rfl, hr_d0 h12.2] at q
        exact q
      have e12_0hP1 : M1 (ad 12 0) = hw_ar Z 7 10 (hc_f (ad 6) (hs_nw S)) := hP1.m 12 0 h12
      have e7_hb_ix_hs_P_S_hb_ix_ka_4hP1 : M1 (ad 7 (hb_ix (hs_P S (hb_ix ka) 4))) = hw_ob 8 [.int (hs_M S (hb_ix (hs_P S (hb_ix ka) 4)) 0), .int (hs_M S (hb_ix (hs_P S (hb_ix ka) 4)) 1), .int (hs_M S (hb_ix (hs_P S (hb_ix ka) 4)) 2), .int (hs_M S (hb_ix (hs_P S (hb_ix ka) 4)) 3), .ref (ad 8 (hb_ix (hs_P S (hb_ix ka) 4)))] := hP1.m 7 (hb_ix (hs_P S (hb_ix ka) 4)) hx4.1
      have e8_hb_ix_hs_P_S_hb_ix_ka_4hP1 : M1 (ad 8 (hb_ix (hs_P S (hb_ix ka) 4))) = hw_ob 0 [.int (hr_mc X1 (2 + (hb_ix (hs_P S (hb_ix ka) 4)))), .ref (ad 9 (hb_ix (hs_P S (hb_ix ka) 4))), .int (nI (hs_N S (hb_ix (hs_P S (hb_ix ka) 4))))] := by
        have q := hP1.m 8 (hb_ix (hs_P S (hb_ix ka) 4)) hx4.1
        rw [show hr_e Z ad S X1 8 (hb_ix (hs_P S (hb_ix ka) 4)) = hw_ob 0 [.int (hr_mc X1 (2 + (hb_ix (hs_P S (hb_ix ka) 4)))), .ref (if hr_gr X1 (hb_ix (hs_P S (hb_ix ka) 4)) then ad 9 (hb_ix (hs_P S (hb_ix ka) 4)) else Z.2.2.2), .int (nI (hs_N S (hb_ix (hs_P S (hb_ix ka) 4))))] from rfl, hif] at q
        exact q
      have e9_hb_ix_hs_P_S_hb_ix_ka_4hP1 : M1 (ad 9 (hb_ix (hs_P S (hb_ix ka) 4))) = hw_ar Z 7 10 (hc_f (fun j => ad 10 ((hb_ix (hs_P S (hb_ix ka) 4)) + 2 * j)) (hs_N S (hb_ix (hs_P S (hb_ix ka) 4)))) := hP1.m 9 (hb_ix (hs_P S (hb_ix ka) 4)) h9
      have h10 : ∀ i, i < hs_N S (hb_ix (hs_P S (hb_ix ka) 4)) → hr_p S X1 10 (hb_ix (hs_P S (hb_ix ka) 4) + 2 * i) := fun i hi => by
        show (hb_ix (hs_P S (hb_ix ka) 4) + 2 * i) / 2 < hs_N S ((hb_ix (hs_P S (hb_ix ka) 4) + 2 * i) % 2)
        have h2 := hx4.1
        rw [show (hb_ix (hs_P S (hb_ix ka) 4) + 2 * i) / 2 = i by omega, show (hb_ix (hs_P S (hb_ix ka) 4) + 2 * i) % 2 = hb_ix (hs_P S (hb_ix ka) 4) by omega]; exact hi
      have h10e : ∀ i, hw_ai Z 3 (hr_qq X1 ((hb_ix (hs_P S (hb_ix ka) 4) + 2 * i) % 2) ((hb_ix (hs_P S (hb_ix ka) 4) + 2 * i) / 2)) = hw_ai Z 3 (hr_qq X1 (hb_ix (hs_P S (hb_ix ka) 4)) i) := fun i => by
        have h2 := hx4.1
        rw [show (hb_ix (hs_P S (hb_ix ka) 4) + 2 * i) / 2 = i by omega, show (hb_ix (hs_P S (hb_ix ka) 4) + 2 * i) % 2 = hb_ix (hs_P S (hb_ix ka) 4) by omega]
      refine lv_aload_n hx hb dX11_accept_47 rfl (lv_at hl 1 rfl) ?_
      refine hw_get hx hb hts hown hk hI fd_X11_22 e0_0hP1 rfl dX11_accept_48 ?_
      refine lv_aload_n hx hb dX11_accept_51 rfl (lv_at hl 0 rfl) ?_
      refine hw_get hx hb hts hown hk hI fd_X11_152 e1_hb_ix_kahP1 rfl dX11_accept_52 ?_
      refine hw_aald hx hb hk hI 6 (v := .ref (ad 7 (hb_ix (hs_P S (hb_ix ka) 4)))) e0_1hP1 rfl (j := hb_ix (hs_P S (hb_ix ka) 4)) hx4.2 hx4.1 (by decide) rfl dX11_accept_55 ?_
      refine lv_aload_n hx hb dX11_accept_56 rfl (lv_at hl 1 rfl) ?_
      refine lv_aload_n hx hb dX11_accept_57 rfl (lv_at hl 0 rfl) ?_
      refine hw_ci hI (hw_rV hx hb hml hown hts hk hI (m_X11_alloyOf l Z M1 (ad 0 0) (ad 0 2) (ad 0 3) (ad 0 1) (hr_th X1) (hs_G S 0) (hs_G S 1) (ad 1 (hb_ix ka)) (ad 2 (hb_ix ka)) (ad 4 (hb_ix ka)) (ad 12 0) (hs_nw S) m9 (hr_mc X1 1) (hs_P S (hb_ix ka) 0) (hs_P S (hb_ix ka) 3) (hs_P S (hb_ix ka) 4) (hs_P S (hb_ix ka) 5) (hs_P S (hb_ix ka) 6) (hs_P S (hb_ix ka) 7) (hs_P S (hb_ix ka) 8) (hc_f (ad 6) (hs_nw S)) (ad 6) (hs_V S) e0_0hP1 e1_hb_ix_kahP1 e0_3hP1 e12_0hP1 t8 m96 hnw (fun i hi => if_pos hi) (fun i hi => hP1.m 6 i hi)) cv_X11_198 e0_0hP1 rfl rfl ⟨rfl, rfl⟩ ⟨(Nat.le_of_ble_eq_true rfl), (Nat.le_of_ble_eq_true rfl)⟩ rfl hl.1 rfl (Nat.le_of_ble_eq_true rfl) ⟨(Nat.le_of_ble_eq_true rfl), (Nat.le_of_ble_eq_true rfl)⟩ dX11_accept_58) (fun r58 M58 H locs hR hI => ?_)
      obtain ⟨rfl, rfl⟩ := hR
      refine hw_ti hao ?_
      refine lv_aload_n hx hb dX11_accept_61 rfl (lv_at hl 0 rfl) ?_
      refine hw_get hx hb hts hown hk hI fd_X11_153 e1_hb_ix_kahP1 rfl dX11_accept_62 ?_
      refine lv_aload_n hx hb dX11_accept_65 rfl (lv_at hl 0 rfl) ?_
      refine hw_get hx hb hts hown hk hI fd_X11_156 e1_hb_ix_kahP1 rfl dX11_accept_66 ?_
      refine hw_ci hI (hw_rV hx hb hml hown hts hk hI (m_X7_isProved l Z M1 (ad 7 (hb_ix (hs_P S (hb_ix ka) 4))) (ad 8 (hb_ix (hs_P S (hb_ix ka) 4))) (ad 9 (hb_ix (hs_P S (hb_ix ka) 4))) (hs_N S (hb_ix (hs_P S (hb_ix ka) 4))) (hr_mc X1 (2 + (hb_ix (hs_P S (hb_ix ka) 4)))) al (hs_P S (hb_ix ka) 5) (hs_P S (hb_ix ka) 6) (hs_M S (hb_ix (hs_P S (hb_ix ka) 4)) 0) (hs_M S (hb_ix (hs_P S (hb_ix ka) 4)) 1) (hs_M S (hb_ix (hs_P S (hb_ix ka) 4)) 2) (hs_M S (hb_ix (hs_P S (hb_ix ka) 4)) 3) (hc_f (fun j => ad 10 ((hb_ix (hs_P S (hb_ix ka) 4)) + 2 * j)) (hs_N S (hb_ix (hs_P S (hb_ix ka) 4)))) (fun j => ad 10 (hb_ix (hs_P S (hb_ix ka) 4) + 2 * j)) (hr_qq X1 (hb_ix (hs_P S (hb_ix ka) 4))) e7_hb_ix_hs_P_S_hb_ix_ka_4hP1 e8_hb_ix_hs_P_S_hb_ix_ka_4hP1 e9_hb_ix_hs_P_S_hb_ix_ka_4hP1 (by have := hB.N hx4.1; omega) (fun i hi => if_pos hi) (fun i hi => ((hP1.m 10 (hb_ix (hs_P S (hb_ix ka) 4) + 2 * i) (h10 i hi)).trans (h10e i)))) cv_X11_202 e7_hb_ix_hs_P_S_hb_ix_ka_4hP1 rfl rfl ⟨rfl, rfl⟩ ⟨(Nat.le_of_ble_eq_true rfl), (Nat.le_of_ble_eq_true rfl)⟩ rfl hl.1 rfl (Nat.le_of_ble_eq_true rfl) ⟨(Nat.le_of_ble_eq_true rfl), (Nat.le_of_ble_eq_true rfl)⟩ dX11_accept_69) (fun r69 M69 H locs hR hI => ?_)
      obtain ⟨rfl, rfl⟩ := hR
      refine lv_if_ne (tgt := 77) hx hb dX11_accept_72 (by decide) (fun c72 => ?_) (fun c72 => ?_)
      · refine lv_aload_n hx hb dX11_accept_77 rfl (lv_at hl 0 rfl) ?_
        refine hw_cd hI (hw_rV hx hb hml hown hts hk hI (m_X8_density l Z M1 (ad 1 (hb_ix ka)) (ad 2 (hb_ix ka)) (ad 3 (hb_ix ka)) (ad 4 (hb_ix ka)) (ad 5 (hb_ix ka)) (hs_D S (hb_ix ka)) (hs_P S (hb_ix ka) 0) (hs_P S (hb_ix ka) 3) (hs_P S (hb_ix ka) 4) (hs_P S (hb_ix ka) 5) (hs_P S (hb_ix ka) 6) (hs_P S (hb_ix ka) 7) (hs_P S (hb_ix ka) 8) (hs_P S (hb_ix ka) 1) (hs_P S (hb_ix ka) 2) (hr_en (hs_P S (hb_ix ka))) (hs_U S (hb_ix ka)) (hs_C S (hb_ix ka)) e1_hb_ix_kahP1 e2_hb_ix_kahP1 e3_hb_ix_kahP1 e4_hb_ix_kahP1) cv_X11_192 e1_hb_ix_kahP1 rfl rfl ⟨rfl, rfl⟩ ⟨(Nat.le_of_ble_eq_true rfl), (Nat.le_of_ble_eq_true rfl)⟩ rfl hl.1 rfl (Nat.le_of_ble_eq_true rfl) ⟨(Nat.le_of_ble_eq_true rfl), (Nat.le_of_ble_eq_true rfl)⟩ dX11_accept_78) (fun r78 M78 H locs hR hI => ?_)
        obtain ⟨rfl, rfl⟩ := hR
        refine lv_ldc2d (v := 4606732058837280358) hx hb hown (hts _ (hw_win (w := .constantDouble RX11 196 4606732058837280358) (by decide +kernel) (by decide +kernel))) dX11_accept_81 ?_
        refine lv_dcmp hx hb dX11_accept_84 ?_
        refine lv_if_ge (tgt := 90) hx hb dX11_accept_85 (by decide) (fun c85 => ?_) (fun c85 => ?_)
        · refine lv_aload_n hx hb dX11_accept_90 rfl (lv_at hl 0 rfl) ?_
          refine hw_get hx hb hts hown hk hI fd_X11_186 e1_hb_ix_kahP1 rfl dX11_accept_91 ?_
          refine lv_iconst (v := nI 1) hx hb dX11_accept_94 (by decide) ?_
          refine lv_icmp_le (tgt := 100) hx hb dX11_accept_95 (by decide) (fun c95 => ?_) (fun c95 => ?_)
          · refine lv_aload_n hx hb dX11_accept_100 rfl (lv_at hl 0 rfl) ?_
            refine lv_iconst (v := nI 5) hx hb dX11_accept_101 (by decide) ?_
            refine hw_put (fs' := [.ref (ad 2 (hb_ix ka)), .int (nI 5), .ref (ad 4 (hb_ix ka)), .int (hs_P S (hb_ix ka) 3), .int (hs_P S (hb_ix ka) 4), .int (hs_P S (hb_ix ka) 5), .int (hs_P S (hb_ix ka) 6), .int (hs_P S (hb_ix ka) 7), .int (hs_P S (hb_ix ka) 8)]) hx hb hts hown hk hI fp_X11_63 e1_hb_ix_kahP1 (Nat.le_of_ble_eq_true rfl) rfl rfl rfl dX11_accept_102 (fun H locs hI => ?_)
            refine lv_iconst (v := nI 0) hx hb dX11_accept_105 (by decide) ?_
            have hok : hr_ok Z b1 (va_up M1 (ad 1 (hb_ix ka)) (hw_ob 9 [.ref (ad 2 (hb_ix ka)), .int (nI 5), .ref (ad 4 (hb_ix ka)), .int (hs_P S (hb_ix ka) 3), .int (hs_P S (hb_ix ka) 4), .int (hs_P S (hb_ix ka) 5), .int (hs_P S (hb_ix ka) 6), .int (hs_P S (hb_ix ka) 7), .int (hs_P S (hb_ix ka) 8)])) ad (hs_sP S (hb_ix ka) (va_up (hs_P S (hb_ix ka)) 0 (nI 5))) (X1) := by
              refine hr_old hP1 (fun _ _ hi => hi) ?_ hP1.q hP1.g
              intro k i hi
              rcases k with _ | _ | _ | _ | _ | _ | _ | _ | _ | _ | _ | _ | _ | k
              · rcases (show i = 0 ∨ i = 1 ∨ i = 2 ∨ i = 3 by have h4 : i < 4 := hi; omega) with rfl | rfl | rfl | rfl
                · show (va_up M1 (ad 1 (hb_ix ka)) (hw_ob 9 [.ref (ad 2 (hb_ix ka)), .int (nI 5), .ref (ad 4 (hb_ix ka)), .int (hs_P S (hb_ix ka) 3), .int (hs_P S (hb_ix ka) 4), .int (hs_P S (hb_ix ka) 5), .int (hs_P S (hb_ix ka) 6), .int (hs_P S (hb_ix ka) 7), .int (hs_P S (hb_ix ka) 8)])) (ad 0 0) = hw_ob 12 [.int (hr_th X1), .int (hs_G S 0), .int (hs_G S 1), .ref (ad 0 2), .ref (ad 0 3), .ref (ad 0 1)]
                  rw [va_up_ne _ _ (hP1.n (k := 0) (i := 0) (k' := 1) (i' := (hb_ix ka)) (show 0 < 4 by decide) hi_ka (fun q => absurd q.1 (by decide)))]
                  refine (hP1.m 0 0 (show 0 < 4 by decide)).trans ?_
                  first | rfl | (simp only [va_up_self]; done) | (simp only [va_up_self]; rfl)
                · show (va_up M1 (ad 1 (hb_ix ka)) (hw_ob 9 [.ref (ad 2 (hb_ix ka)), .int (nI 5), .ref (ad 4 (hb_ix ka)), .int (hs_P S (hb_ix ka) 3), .int (hs_P S (hb_ix ka) 4), .int (hs_P S (hb_ix ka) 5), .int (hs_P S (hb_ix ka) 6), .int (hs_P S (hb_ix ka) 7), .int (hs_P S (hb_ix ka) 8)])) (ad 0 1) = hw_ar Z 6 2 (fun j => some (ad 7 j))
                  rw [va_up_ne _ _ (hP1.n (k := 0) (i := 1) (k' := 1) (i' := (hb_ix ka)) (show 1 < 4 by decide) hi_ka (fun q => absurd q.1 (by decide)))]
                  refine (hP1.m 0 1 (show 1 < 4 by decide)).trans ?_
                  first | rfl | (simp only [va_up_self]; done) | (simp only [va_up_self]; rfl)
                · show (va_up M1 (ad 1 (hb_ix ka)) (hw_ob 9 [.ref (ad 2 (hb_ix ka)), .int (nI 5), .ref (ad 4 (hb_ix ka)), .int (hs_P S (hb_ix ka) 3), .int (hs_P S (hb_ix ka) 4), .int (hs_P S (hb_ix ka) 5), .int (hs_P S (hb_ix ka) 6), .int (hs_P S (hb_ix ka) 7), .int (hs_P S (hb_ix ka) 8)])) (ad 0 2) = hw_ob 0 [.int (hr_mc X1 0), .ref (hr_d (hs_np S) Z.2.2.2 (ad 11 0)), .int (nI (hs_np S))]
                  rw [va_up_ne _ _ (hP1.n (k := 0) (i := 2) (k' := 1) (i' := (hb_ix ka)) (show 2 < 4 by decide) hi_ka (fun q => absurd q.1 (by decide)))]
                  refine (hP1.m 0 2 (show 2 < 4 by decide)).trans ?_
                  first | rfl | (simp only [va_up_self]; done) | (simp only [va_up_self]; rfl)
                · show (va_up M1 (ad 1 (hb_ix ka)) (hw_ob 9 [.ref (ad 2 (hb_ix ka)), .int (nI 5), .ref (ad 4 (hb_ix ka)), .int (hs_P S (hb_ix ka) 3), .int (hs_P S (hb_ix ka) 4), .int (hs_P S (hb_ix ka) 5), .int (hs_P S (hb_ix ka) 6), .int (hs_P S (hb_ix ka) 7), .int (hs_P S (hb_ix ka) 8)])) (ad 0 3) = hw_ob 0 [.int (hr_mc X1 1), .ref (hr_d (hs_nw S) Z.2.2.2 (ad 12 0)), .int (nI (hs_nw S))]
                  rw [va_up_ne _ _ (hP1.n (k := 0) (i := 3) (k' := 1) (i' := (hb_ix ka)) (show 3 < 4 by decide) hi_ka (fun q => absurd q.1 (by decide)))]
                  refine (hP1.m 0 3 (show 3 < 4 by decide)).trans ?_
                  first | rfl | (simp only [va_up_self]; done) | (simp only [va_up_self]; rfl)
              · by_cases q0 : i = (hb_ix ka)
                · subst q0
                  show (va_up M1 (ad 1 (hb_ix ka)) (hw_ob 9 [.ref (ad 2 (hb_ix ka)), .int (nI 5), .ref (ad 4 (hb_ix ka)), .int (hs_P S (hb_ix ka) 3), .int (hs_P S (hb_ix ka) 4), .int (hs_P S (hb_ix ka) 5), .int (hs_P S (hb_ix ka) 6), .int (hs_P S (hb_ix ka) 7), .int (hs_P S (hb_ix ka) 8)])) (ad 1 (hb_ix ka)) = hw_ob 9 [.ref (ad 2 (hb_ix ka)), .int ((va_up (hs_P S) (hb_ix ka) (va_up (hs_P S (hb_ix ka)) 0 (nI 5))) (hb_ix ka) 0), .ref (ad 4 (hb_ix ka)), .int ((va_up (hs_P S) (hb_ix ka) (va_up (hs_P S (hb_ix ka)) 0 (nI 5))) (hb_ix ka) 3), .int ((va_up (hs_P S) (hb_ix ka) (va_up (hs_P S (hb_ix ka)) 0 (nI 5))) (hb_ix ka) 4), .int ((va_up (hs_P S) (hb_ix ka) (va_up (hs_P S (hb_ix ka)) 0 (nI 5))) (hb_ix ka) 5), .int ((va_up (hs_P S) (hb_ix ka) (va_up (hs_P S (hb_ix ka)) 0 (nI 5))) (hb_ix ka) 6), .int ((va_up (hs_P S) (hb_ix ka) (va_up (hs_P S (hb_ix ka)) 0 (nI 5))) (hb_ix ka) 7), .int ((va_up (hs_P S) (hb_ix ka) (va_up (hs_P S (hb_ix ka)) 0 (nI 5))) (hb_ix ka) 8)]
                  refine (hw_us _ _ _).trans ?_
                  first | rfl | (simp only [va_up_self]; done) | (simp only [va_up_self]; rfl)
                show (va_up M1 (ad 1 (hb_ix ka)) (hw_ob 9 [.ref (ad 2 (hb_ix ka)), .int (nI 5), .ref (ad 4 (hb_ix ka)), .int (hs_P S (hb_ix ka) 3), .int (hs_P S (hb_ix ka) 4), .int (hs_P S (hb_ix ka) 5), .int (hs_P S (hb_ix ka) 6), .int (hs_P S (hb_ix ka) 7), .int (hs_P S (hb_ix ka) 8)])) (ad 1 i) = hw_ob 9 [.ref (ad 2 i), .int ((va_up (hs_P S) (hb_ix ka) (va_up (hs_P S (hb_ix ka)) 0 (nI 5))) i 0), .ref (ad 4 i), .int ((va_up (hs_P S) (hb_ix ka) (va_up (hs_P S (hb_ix ka)) 0 (nI 5))) i 3), .int ((va_up (hs_P S) (hb_ix ka) (va_up (hs_P S (hb_ix ka)) 0 (nI 5))) i 4), .int ((va_up (hs_P S) (hb_ix ka) (va_up (hs_P S (hb_ix ka)) 0 (nI 5))) i 5), .int ((va_up (hs_P S) (hb_ix ka) (va_up (hs_P S (hb_ix ka)) 0 (nI 5))) i 6), .int ((va_up (hs_P S) (hb_ix ka) (va_up (hs_P S (hb_ix ka)) 0 (nI 5))) i 7), .int ((va_up (hs_P S) (hb_ix ka) (va_up (hs_P S (hb_ix ka)) 0 (nI 5))) i 8)]
                rw [va_up_ne _ _ (hP1.n (k := 1) (i := i) (k' := 1) (i' := (hb_ix ka)) hi hi_ka (fun q => q0 q.2))]
                refine (hP1.m 1 i hi).trans ?_
                first | rfl | (simp only [va_up_ne _ _ q0]; done) | (simp only [va_up_ne _ _ q0]; rfl)
              · show (va_up M1 (ad 1 (hb_ix ka)) (hw_ob 9 [.ref (ad 2 (hb_ix ka)), .int (nI 5), .ref (ad 4 (hb_ix ka)), .int (hs_P S (hb_ix ka) 3), .int (hs_P S (hb_ix ka) 4), .int (hs_P S (hb_ix ka) 5), .int (hs_P S (hb_ix ka) 6), .int (hs_P S (hb_ix ka) 7), .int (hs_P S (hb_ix ka) 8)])) (ad 2 i) = hw_ob 11 [.ref (ad 3 i)]
                rw [va_up_ne _ _ (hP1.n (k := 2) (i := i) (k' := 1) (i' := (hb_ix ka)) hi hi_ka (fun q => absurd q.1 (by decide)))]
                refine (hP1.m 2 i hi).trans ?_
                first | rfl
              · show (va_up M1 (ad 1 (hb_ix ka)) (hw_ob 9 [.ref (ad 2 (hb_ix ka)), .int (nI 5), .ref (ad 4 (hb_ix ka)), .int (hs_P S (hb_ix ka) 3), .int (hs_P S (hb_ix ka) 4), .int (hs_P S (hb_ix ka) 5), .int (hs_P S (hb_ix ka) 6), .int (hs_P S (hb_ix ka) 7), .int (hs_P S (hb_ix ka) 8)])) (ad 3 i) = hw_al Z 8 (hs_C S i)
                rw [va_up_ne _ _ (hP1.n (k := 3) (i := i) (k' := 1) (i' := (hb_ix ka)) hi hi_ka (fun q => absurd q.1 (by decide)))]
                refine (hP1.m 3 i hi).trans ?_
                first | rfl
              · by_cases q0 : i = (hb_ix ka)
                · subst q0
                  show (va_up M1 (ad 1 (hb_ix ka)) (hw_ob 9 [.ref (ad 2 (hb_ix ka)), .int (nI 5), .ref (ad 4 (hb_ix ka)), .int (hs_P S (hb_ix ka) 3), .int (hs_P S (hb_ix ka) 4), .int (hs_P S (hb_ix ka) 5), .int (hs_P S (hb_ix ka) 6), .int (hs_P S (hb_ix ka) 7), .int (hs_P S (hb_ix ka) 8)])) (ad 4 (hb_ix ka)) = hw_ob 7 [.double (hr_en ((va_up (hs_P S) (hb_ix ka) (va_up (hs_P S (hb_ix ka)) 0 (nI 5))) (hb_ix ka))), .ref (ad 5 (hb_ix ka)), .double (hs_U S (hb_ix ka)), .int ((va_up (hs_P S) (hb_ix ka) (va_up (hs_P S (hb_ix ka)) 0 (nI 5))) (hb_ix ka) 1), .int ((va_up (hs_P S) (hb_ix ka) (va_up (hs_P S (hb_ix ka)) 0 (nI 5))) (hb_ix ka) 2), .int (nI (hs_D S (hb_ix ka)))]
                  rw [va_up_ne _ _ (hP1.n (k := 4) (i := (hb_ix ka)) (k' := 1) (i' := (hb_ix ka)) hi_ka hi_ka (fun q => absurd q.1 (by decide)))]
                  refine (hP1.m 4 (hb_ix ka) hi_ka).trans ?_
                  show hw_ob 7 [.double (hr_en (hs_P S (hb_ix ka))), .ref (ad 5 (hb_ix ka)), .double (hs_U S (hb_ix ka)), .int (hs_P S (hb_ix ka) 1), .int (hs_P S (hb_ix ka) 2), .int (nI (hs_D S (hb_ix ka)))] = _
                  first | rfl | (simp only [va_up_self]; done) | (simp only [va_up_self]; rfl)
                show (va_up M1 (ad 1 (hb_ix ka)) (hw_ob 9 [.ref (ad 2 (hb_ix ka)), .int (nI 5), .ref (ad 4 (hb_ix ka)), .int (hs_P S (hb_ix ka) 3), .int (hs_P S (hb_ix ka) 4), .int (hs_P S (hb_ix ka) 5), .int (hs_P S (hb_ix ka) 6), .int (hs_P S (hb_ix ka) 7), .int (hs_P S (hb_ix ka) 8)])) (ad 4 i) = hw_ob 7 [.double (hr_en ((va_up (hs_P S) (hb_ix ka) (va_up (hs_P S (hb_ix ka)) 0 (nI 5))) i)), .ref (ad 5 i), .double (hs_U S i), .int ((va_up (hs_P S) (hb_ix ka) (va_up (hs_P S (hb_ix ka)) 0 (nI 5))) i 1), .int ((va_up (hs_P S) (hb_ix ka) (va_up (hs_P S (hb_ix ka)) 0 (nI 5))) i 2), .int (nI (hs_D S i))]
                rw [va_up_ne _ _ (hP1.n (k := 4) (i := i) (k' := 1) (i' := (hb_ix ka)) hi hi_ka (fun q => absurd q.1 (by decide)))]
                refine (hP1.m 4 i hi).trans ?_
                first | rfl | (simp only [va_up_ne _ _ q0]; done) | (simp only [va_up_ne _ _ q0]; rfl)
              · show (va_up M1 (ad 1 (hb_ix ka)) (hw_ob 9 [.ref (ad 2 (hb_ix ka)), .int (nI 5), .ref (ad 4 (hb_ix ka)), .int (hs_P S (hb_ix ka) 3), .int (hs_P S (hb_ix ka) 4), .int (hs_P S (hb_ix ka) 5), .int (hs_P S (hb_ix ka) 6), .int (hs_P S (hb_ix ka) 7), .int (hs_P S (hb_ix ka) 8)])) (ad 5 i) = hw_ad Z 64 (hs_W S i)
                rw [va_up_ne _ _ (hP1.n (k := 5) (i := i) (k' := 1) (i' := (hb_ix ka)) hi hi_ka (fun q => absurd q.1 (by decide)))]
                refine (hP1.m 5 i hi).trans ?_
                first | rfl
              · show (va_up M1 (ad 1 (hb_ix ka)) (hw_ob 9 [.ref (ad 2 (hb_ix ka)), .int (nI 5), .ref (ad 4 (hb_ix ka)), .int (hs_P S (hb_ix ka) 3), .int (hs_P S (hb_ix ka) 4), .int (hs_P S (hb_ix ka) 5), .int (hs_P S (hb_ix ka) 6), .int (hs_P S (hb_ix ka) 7), .int (hs_P S (hb_ix ka) 8)])) (ad 6 i) = hw_ob 10 [.int (hs_V S i 0), .int (hs_V S i 1), .int (hs_V S i 2), .int (hs_V S i 3), .int (hs_V S i 4)]
                rw [va_up_ne _ _ (hP1.n (k := 6) (i := i) (k' := 1) (i' := (hb_ix ka)) hi hi_ka (fun q => absurd q.1 (by decide)))]
                refine (hP1.m 6 i hi).trans ?_
                first | rfl
              · show (va_up M1 (ad 1 (hb_ix ka)) (hw_ob 9 [.ref (ad 2 (hb_ix ka)), .int (nI 5), .ref (ad 4 (hb_ix ka)), .int (hs_P S (hb_ix ka) 3), .int (hs_P S (hb_ix ka) 4), .int (hs_P S (hb_ix ka) 5), .int (hs_P S (hb_ix ka) 6), .int (hs_P S (hb_ix ka) 7), .int (hs_P S (hb_ix ka) 8)])) (ad 7 i) = hw_ob 8 [.int (hs_M S i 0), .int (hs_M S i 1), .int (hs_M S i 2), .int (hs_M S i 3), .ref (ad 8 i)]
                rw [va_up_ne _ _ (hP1.n (k := 7) (i := i) (k' := 1) (i' := (hb_ix ka)) hi hi_ka (fun q => absurd q.1 (by decide)))]
                refine (hP1.m 7 i hi).trans ?_
                first | rfl
              · show (va_up M1 (ad 1 (hb_ix ka)) (hw_ob 9 [.ref (ad 2 (hb_ix ka)), .int (nI 5), .ref (ad 4 (hb_ix ka)), .int (hs_P S (hb_ix ka) 3), .int (hs_P S (hb_ix ka) 4), .int (hs_P S (hb_ix ka) 5), .int (hs_P S (hb_ix ka) 6), .int (hs_P S (hb_ix ka) 7), .int (hs_P S (hb_ix ka) 8)])) (ad 8 i) = hw_ob 0 [.int (hr_mc X1 (2 + i)), .ref (if hr_gr X1 i then ad 9 i else Z.2.2.2), .int (nI (hs_N S i))]
                rw [va_up_ne _ _ (hP1.n (k := 8) (i := i) (k' := 1) (i' := (hb_ix ka)) hi hi_ka (fun q => absurd q.1 (by decide)))]
                refine (hP1.m 8 i hi).trans ?_
                first | rfl
              · show (va_up M1 (ad 1 (hb_ix ka)) (hw_ob 9 [.ref (ad 2 (hb_ix ka)), .int (nI 5), .ref (ad 4 (hb_ix ka)), .int (hs_P S (hb_ix ka) 3), .int (hs_P S (hb_ix ka) 4), .int (hs_P S (hb_ix ka) 5), .int (hs_P S (hb_ix ka) 6), .int (hs_P S (hb_ix ka) 7), .int (hs_P S (hb_ix ka) 8)])) (ad 9 i) = hw_ar Z 7 10 (hc_f (fun j => ad 10 (i + 2 * j)) (hs_N S i))
                rw [va_up_ne _ _ (hP1.n (k := 9) (i := i) (k' := 1) (i' := (hb_ix ka)) hi hi_ka (fun q => absurd q.1 (by decide)))]
                refine (hP1.m 9 i hi).trans ?_
                first | rfl
              · show (va_up M1 (ad 1 (hb_ix ka)) (hw_ob 9 [.ref (ad 2 (hb_ix ka)), .int (nI 5), .ref (ad 4 (hb_ix ka)), .int (hs_P S (hb_ix ka) 3), .int (hs_P S (hb_ix ka) 4), .int (hs_P S (hb_ix ka) 5), .int (hs_P S (hb_ix ka) 6), .int (hs_P S (hb_ix ka) 7), .int (hs_P S (hb_ix ka) 8)])) (ad 10 i) = hw_ai Z 3 (hr_qq X1 (i % 2) (i / 2))
                rw [va_up_ne _ _ (hP1.n (k := 10) (i := i) (k' := 1) (i' := (hb_ix ka)) hi hi_ka (fun q => absurd q.1 (by decide)))]
                refine (hP1.m 10 i hi).trans ?_
                first | rfl
              · show (va_up M1 (ad 1 (hb_ix ka)) (hw_ob 9 [.ref (ad 2 (hb_ix ka)), .int (nI 5), .ref (ad 4 (hb_ix ka)), .int (hs_P S (hb_ix ka) 3), .int (hs_P S (hb_ix ka) 4), .int (hs_P S (hb_ix ka) 5), .int (hs_P S (hb_ix ka) 6), .int (hs_P S (hb_ix ka) 7), .int (hs_P S (hb_ix ka) 8)])) (ad 11 i) = hw_ar Z 7 10 (hc_f (ad 1) (hs_np S))
                rw [va_up_ne _ _ (hP1.n (k := 11) (i := i) (k' := 1) (i' := (hb_ix ka)) hi hi_ka (fun q => absurd q.1 (by decide)))]
                refine (hP1.m 11 i hi).trans ?_
                first | rfl
              · show (va_up M1 (ad 1 (hb_ix ka)) (hw_ob 9 [.ref (ad 2 (hb_ix ka)), .int (nI 5), .ref (ad 4 (hb_ix ka)), .int (hs_P S (hb_ix ka) 3), .int (hs_P S (hb_ix ka) 4), .int (hs_P S (hb_ix ka) 5), .int (hs_P S (hb_ix ka) 6), .int (hs_P S (hb_ix ka) 7), .int (hs_P S (hb_ix ka) 8)])) (ad 12 i) = hw_ar Z 7 10 (hc_f (ad 6) (hs_nw S))
                rw [va_up_ne _ _ (hP1.n (k := 12) (i := i) (k' := 1) (i' := (hb_ix ka)) hi hi_ka (fun q => absurd q.1 (by decide)))]
                refine (hP1.m 12 i hi).trans ?_
                first | rfl
              · exact hi.elim
            have fr_hok : ∀ a, b1 a → (va_up M1 (ad 1 (hb_ix ka)) (hw_ob 9 [.ref (ad 2 (hb_ix ka)), .int (nI 5), .ref (ad 4 (hb_ix ka)), .int (hs_P S (hb_ix ka) 3), .int (hs_P S (hb_ix ka) 4), .int (hs_P S (hb_ix ka) 5), .int (hs_P S (hb_ix ka) 6), .int (hs_P S (hb_ix ka) 7), .int (hs_P S (hb_ix ka) 8)])) a = M a := fun a ha => by rw [va_up_ne _ _ (hP1.f (k := 1) (i := (hb_ix ka)) hi_ka ha)]; exact fr1 a ha
            have hfin : hr_R Z b1 M ad (st_accept S ka) (nI 0) (va_up M1 (ad 1 (hb_ix ka)) (hw_ob 9 [.ref (ad 2 (hb_ix ka)), .int (nI 5), .ref (ad 4 (hb_ix ka)), .int (hs_P S (hb_ix ka) 3), .int (hs_P S (hb_ix ka) 4), .int (hs_P S (hb_ix ka) 5), .int (hs_P S (hb_ix ka) 6), .int (hs_P S (hb_ix ka) 7), .int (hs_P S (hb_ix ka) 8)])) := hr_r (S' := hs_sP S (hb_ix ka) (va_up (hs_P S (hb_ix ka)) 0 (nI 5))) (X' := X1) (ad' := ad) (by unfold st_accept; exact ((if_neg (fun q => q gk)).trans ((if_neg (fun q => q c38)).trans ((if_neg (fun q => q.elim h4n (hq_bn (by rw [← hq9]; exact hq_bt c72)))).trans ((if_neg (hq_bn (hb_isd_t (hf_dens _ _ _) c85))).trans ((if_neg (Int32.not_lt.mpr c95)).trans rfl)))))) rfl hok ht1 fr_hok
            exact hret hI hfin (Nat.le_of_ble_eq_true rfl) (Nat.le_of_ble_eq_true rfl) dX11_accept_106
          · refine lv_iconst (v := nI 3) hx hb dX11_accept_98 (by decide) ?_
            have hok : hr_ok Z b1 (M1) ad (S) (X1) := by
              refine hr_old hP1 (fun _ _ hi => hi) ?_ hP1.q hP1.g
              intro k i hi
              rcases k with _ | _ | _ | _ | _ | _ | _ | _ | _ | _ | _ | _ | _ | k
              · rcases (show i = 0 ∨ i = 1 ∨ i = 2 ∨ i = 3 by have h4 : i < 4 := hi; omega) with rfl | rfl | rfl | rfl
                · show (M1) (ad 0 0) = hw_ob 12 [.int (hr_th X1), .int (hs_G S 0), .int (hs_G S 1), .ref (ad 0 2), .ref (ad 0 3), .ref (ad 0 1)]
                  refine (hP1.m 0 0 (show 0 < 4 by decide)).trans ?_
                  first | rfl | (simp only [va_up_self]; done) | (simp only [va_up_self]; rfl)
                · show (M1) (ad 0 1) = hw_ar Z 6 2 (fun j => some (ad 7 j))
                  refine (hP1.m 0 1 (show 1 < 4 by decide)).trans ?_
                  first | rfl | (simp only [va_up_self]; done) | (simp only [va_up_self]; rfl)
                · show (M1) (ad 0 2) = hw_ob 0 [.int (hr_mc X1 0), .ref (hr_d (hs_np S) Z.2.2.2 (ad 11 0)), .int (nI (hs_np S))]
                  refine (hP1.m 0 2 (show 2 < 4 by decide)).trans ?_
                  first | rfl | (simp only [va_up_self]; done) | (simp only [va_up_self]; rfl)
                · show (M1) (ad 0 3) = hw_ob 0 [.int (hr_mc X1 1), .ref (hr_d (hs_nw S) Z.2.2.2 (ad 12 0)), .int (nI (hs_nw S))]
                  refine (hP1.m 0 3 (show 3 < 4 by decide)).trans ?_
                  first | rfl | (simp only [va_up_self]; done) | (simp only [va_up_self]; rfl)
              · show (M1) (ad 1 i) = hw_ob 9 [.ref (ad 2 i), .int (hs_P S i 0), .ref (ad 4 i), .int (hs_P S i 3), .int (hs_P S i 4), .int (hs_P S i 5), .int (hs_P S i 6), .int (hs_P S i 7), .int (hs_P S i 8)]
                refine (hP1.m 1 i hi).trans ?_
                first | rfl
              · show (M1) (ad 2 i) = hw_ob 11 [.ref (ad 3 i)]
                refine (hP1.m 2 i hi).trans ?_
                first | rfl
              · show (M1) (ad 3 i) = hw_al Z 8 (hs_C S i)
                refine (hP1.m 3 i hi).trans ?_
                first | rfl
              · show (M1) (ad 4 i) = hw_ob 7 [.double (hr_en (hs_P S i)), .ref (ad 5 i), .double (hs_U S i), .int (hs_P S i 1), .int (hs_P S i 2), .int (nI (hs_D S i))]
                refine (hP1.m 4 i hi).trans ?_
                first | rfl
              · show (M1) (ad 5 i) = hw_ad Z 64 (hs_W S i)
                refine (hP1.m 5 i hi).trans ?_
                first | rfl
              · show (M1) (ad 6 i) = hw_ob 10 [.int (hs_V S i 0), .int (hs_V S i 1), .int (hs_V S i 2), .int (hs_V S i 3), .int (hs_V S i 4)]
                refine (hP1.m 6 i hi).trans ?_
                first | rfl
              · show (M1) (ad 7 i) = hw_ob 8 [.int (hs_M S i 0), .int (hs_M S i 1), .int (hs_M S i 2), .int (hs_M S i 3), .ref (ad 8 i)]
                refine (hP1.m 7 i hi).trans ?_
                first | rfl
              · show (M1) (ad 8 i) = hw_ob 0 [.int (hr_mc X1 (2 + i)), .ref (if hr_gr X1 i then ad 9 i else Z.2.2.2), .int (nI (hs_N S i))]
                refine (hP1.m 8 i hi).trans ?_
                first | rfl
              · show (M1) (ad 9 i) = hw_ar Z 7 10 (hc_f (fun j => ad 10 (i + 2 * j)) (hs_N S i))
                refine (hP1.m 9 i hi).trans ?_
                first | rfl
              · show (M1) (ad 10 i) = hw_ai Z 3 (hr_qq X1 (i % 2) (i / 2))
                refine (hP1.m 10 i hi).trans ?_
                first | rfl
              · show (M1) (ad 11 i) = hw_ar Z 7 10 (hc_f (ad 1) (hs_np S))
                refine (hP1.m 11 i hi).trans ?_
                first | rfl
              · show (M1) (ad 12 i) = hw_ar Z 7 10 (hc_f (ad 6) (hs_nw S))
                refine (hP1.m 12 i hi).trans ?_
                first | rfl
              · exact hi.elim
            have fr_hok : ∀ a, b1 a → (M1) a = M a := fun a ha => fr1 a ha
            have hfin : hr_R Z b1 M ad (st_accept S ka) (nI 3) (M1) := hr_r (S' := S) (X' := X1) (ad' := ad) (by unfold st_accept; exact ((if_neg (fun q => q gk)).trans ((if_neg (fun q => q c38)).trans ((if_neg (fun q => q.elim h4n (hq_bn (by rw [← hq9]; exact hq_bt c72)))).trans ((if_neg (hq_bn (hb_isd_t (hf_dens _ _ _) c85))).trans (if_pos (Int32.not_le.mp c95))))))) rfl hok ht1 fr_hok
            exact hret hI hfin (Nat.le_of_ble_eq_true rfl) (Nat.le_of_ble_eq_true rfl) dX11_accept_99
        · refine lv_iconst (v := nI 2) hx hb dX11_accept_88 (by decide) ?_
          have hok : hr_ok Z b1 (M1) ad (S) (X1) := by
            refine hr_old hP1 (fun _ _ hi => hi) ?_ hP1.q hP1.g
            intro k i hi
            rcases k with _ | _ | _ | _ | _ | _ | _ | _ | _ | _ | _ | _ | _ | k
            · rcases (show i = 0 ∨ i = 1 ∨ i = 2 ∨ i = 3 by have h4 : i < 4 := hi; omega) with rfl | rfl | rfl | rfl
              · show (M1) (ad 0 0) = hw_ob 12 [.int (hr_th X1), .int (hs_G S 0), .int (hs_G S 1), .ref (ad 0 2), .ref (ad 0 3), .ref (ad 0 1)]
                refine (hP1.m 0 0 (show 0 < 4 by decide)).trans ?_
                first | rfl | (simp only [va_up_self]; done) | (simp only [va_up_self]; rfl)
              · show (M1) (ad 0 1) = hw_ar Z 6 2 (fun j => some (ad 7 j))
                refine (hP1.m 0 1 (show 1 < 4 by decide)).trans ?_
                first | rfl | (simp only [va_up_self]; done) | (simp only [va_up_self]; rfl)
              · show (M1) (ad 0 2) = hw_ob 0 [.int (hr_mc X1 0), .ref (hr_d (hs_np S) Z.2.2.2 (ad 11 0)), .int (nI (hs_np S))]
                refine (hP1.m 0 2 (show 2 < 4 by decide)).trans ?_
                first | rfl | (simp only [va_up_self]; done) | (simp only [va_up_self]; rfl)
              · show (M1) (ad 0 3) = hw_ob 0 [.int (hr_mc X1 1), .ref (hr_d (hs_nw S) Z.2.2.2 (ad 12 0)), .int (nI (hs_nw S))]
                refine (hP1.m 0 3 (show 3 < 4 by decide)).trans ?_
                first | rfl | (simp only [va_up_self]; done) | (simp only [va_up_self]; rfl)
            · show (M1) (ad 1 i) = hw_ob 9 [.ref (ad 2 i), .int (hs_P S i 0), .ref (ad 4 i), .int (hs_P S i 3), .int (hs_P S i 4), .int (hs_P S i 5), .int (hs_P S i 6), .int (hs_P S i 7), .int (hs_P S i 8)]
              refine (hP1.m 1 i hi).trans ?_
              first | rfl
            · show (M1) (ad 2 i) = hw_ob 11 [.ref (ad 3 i)]
              refine (hP1.m 2 i hi).trans ?_
              first | rfl
            · show (M1) (ad 3 i) = hw_al Z 8 (hs_C S i)
              refine (hP1.m 3 i hi).trans ?_
              first | rfl
            · show (M1) (ad 4 i) = hw_ob 7 [.double (hr_en (hs_P S i)), .ref (ad 5 i), .double (hs_U S i), .int (hs_P S i 1), .int (hs_P S i 2), .int (nI (hs_D S i))]
              refine (hP1.m 4 i hi).trans ?_
              first | rfl
            · show (M1) (ad 5 i) = hw_ad Z 64 (hs_W S i)
              refine (hP1.m 5 i hi).trans ?_
              first | rfl
            · show (M1) (ad 6 i) = hw_ob 10 [.int (hs_V S i 0), .int (hs_V S i 1), .int (hs_V S i 2), .int (hs_V S i 3), .int (hs_V S i 4)]
              refine (hP1.m 6 i hi).trans ?_
              first | rfl
            · show (M1) (ad 7 i) = hw_ob 8 [.int (hs_M S i 0), .int (hs_M S i 1), .int (hs_M S i 2), .int (hs_M S i 3), .ref (ad 8 i)]
              refine (hP1.m 7 i hi).trans ?_
              first | rfl
            · show (M1) (ad 8 i) = hw_ob 0 [.int (hr_mc X1 (2 + i)), .ref (if hr_gr X1 i then ad 9 i else Z.2.2.2), .int (nI (hs_N S i))]
              refine (hP1.m 8 i hi).trans ?_
              first | rfl
            · show (M1) (ad 9 i) = hw_ar Z 7 10 (hc_f (fun j => ad 10 (i + 2 * j)) (hs_N S i))
              refine (hP1.m 9 i hi).trans ?_
              first | rfl
            · show (M1) (ad 10 i) = hw_ai Z 3 (hr_qq X1 (i % 2) (i / 2))
              refine (hP1.m 10 i hi).trans ?_
              first | rfl
            · show (M1) (ad 11 i) = hw_ar Z 7 10 (hc_f (ad 1) (hs_np S))
              refine (hP1.m 11 i hi).trans ?_
              first | rfl
            · show (M1) (ad 12 i) = hw_ar Z 7 10 (hc_f (ad 6) (hs_nw S))
              refine (hP1.m 12 i hi).trans ?_
              first | rfl
            · exact hi.elim
          have fr_hok : ∀ a, b1 a → (M1) a = M a := fun a ha => fr1 a ha
          have hfin : hr_R Z b1 M ad (st_accept S ka) (nI 2) (M1) := hr_r (S' := S) (X' := X1) (ad' := ad) (by unfold st_accept; exact ((if_neg (fun q => q gk)).trans ((if_neg (fun q => q c38)).trans ((if_neg (fun q => q.elim h4n (hq_bn (by rw [← hq9]; exact hq_bt c72)))).trans (if_pos (hb_isd_f c85)))))) rfl hok ht1 fr_hok
          exact hret hI hfin (Nat.le_of_ble_eq_true rfl) (Nat.le_of_ble_eq_true rfl) dX11_accept_89
      · refine lv_iconst (v := nI 1) hx hb dX11_accept_75 (by decide) ?_
        have hok : hr_ok Z b1 (M1) ad (S) (X1) := by
          refine hr_old hP1 (fun _ _ hi => hi) ?_ hP1.q hP1.g
          intro k i hi
          rcases k with _ | _ | _ | _ | _ | _ | _ | _ | _ | _ | _ | _ | _ | k
          · rcases (show i = 0 ∨ i = 1 ∨ i = 2 ∨ i = 3 by have h4 : i < 4 := hi; omega) with rfl | rfl | rfl | rfl
            · show (M1) (ad 0 0) = hw_ob 12 [.int (hr_th X1), .int (hs_G S 0), .int (hs_G S 1), .ref (ad 0 2), .ref (ad 0 3), .ref (ad 0 1)]
              refine (hP1.m 0 0 (show 0 < 4 by decide)).trans ?_
              first | rfl | (simp only [va_up_self]; done) | (simp only [va_up_self]; rfl)
            · show (M1) (ad 0 1) = hw_ar Z 6 2 (fun j => some (ad 7 j))
              refine (hP1.m 0 1 (show 1 < 4 by decide)).trans ?_
              first | rfl | (simp only [va_up_self]; done) | (simp only [va_up_self]; rfl)
            · show (M1) (ad 0 2) = hw_ob 0 [.int (hr_mc X1 0), .ref (hr_d (hs_np S) Z.2.2.2 (ad 11 0)), .int (nI (hs_np S))]
              refine (hP1.m 0 2 (show 2 < 4 by decide)).trans ?_
              first | rfl | (simp only [va_up_self]; done) | (simp only [va_up_self]; rfl)
            · show (M1) (ad 0 3) = hw_ob 0 [.int (hr_mc X1 1), .ref (hr_d (hs_nw S) Z.2.2.2 (ad 12 0)), .int (nI (hs_nw S))]
              refine (hP1.m 0 3 (show 3 < 4 by decide)).trans ?_
              first | rfl | (simp only [va_up_self]; done) | (simp only [va_up_self]; rfl)
          · show (M1) (ad 1 i) = hw_ob 9 [.ref (ad 2 i), .int (hs_P S i 0), .ref (ad 4 i), .int (hs_P S i 3), .int (hs_P S i 4), .int (hs_P S i 5), .int (hs_P S i 6), .int (hs_P S i 7), .int (hs_P S i 8)]
            refine (hP1.m 1 i hi).trans ?_
            first | rfl
          · show (M1) (ad 2 i) = hw_ob 11 [.ref (ad 3 i)]
            refine (hP1.m 2 i hi).trans ?_
            first | rfl
          · show (M1) (ad 3 i) = hw_al Z 8 (hs_C S i)
            refine (hP1.m 3 i hi).trans ?_
            first | rfl
          · show (M1) (ad 4 i) = hw_ob 7 [.double (hr_en (hs_P S i)), .ref (ad 5 i), .double (hs_U S i), .int (hs_P S i 1), .int (hs_P S i 2), .int (nI (hs_D S i))]
            refine (hP1.m 4 i hi).trans ?_
            first | rfl
          · show (M1) (ad 5 i) = hw_ad Z 64 (hs_W S i)
            refine (hP1.m 5 i hi).trans ?_
            first | rfl
          · show (M1) (ad 6 i) = hw_ob 10 [.int (hs_V S i 0), .int (hs_V S i 1), .int (hs_V S i 2), .int (hs_V S i 3), .int (hs_V S i 4)]
            refine (hP1.m 6 i hi).trans ?_
            first | rfl
          · show (M1) (ad 7 i) = hw_ob 8 [.int (hs_M S i 0), .int (hs_M S i 1), .int (hs_M S i 2), .int (hs_M S i 3), .ref (ad 8 i)]
            refine (hP1.m 7 i hi).trans ?_
            first | rfl
          · show (M1) (ad 8 i) = hw_ob 0 [.int (hr_mc X1 (2 + i)), .ref (if hr_gr X1 i then ad 9 i else Z.2.2.2), .int (nI (hs_N S i))]
            refine (hP1.m 8 i hi).trans ?_
            first | rfl
          · show (M1) (ad 9 i) = hw_ar Z 7 10 (hc_f (fun j => ad 10 (i + 2 * j)) (hs_N S i))
            refine (hP1.m 9 i hi).trans ?_
            first | rfl
          · show (M1) (ad 10 i) = hw_ai Z 3 (hr_qq X1 (i % 2) (i / 2))
            refine (hP1.m 10 i hi).trans ?_
            first | rfl
          · show (M1) (ad 11 i) = hw_ar Z 7 10 (hc_f (ad 1) (hs_np S))
            refine (hP1.m 11 i hi).trans ?_
            first | rfl
          · show (M1) (ad 12 i) = hw_ar Z 7 10 (hc_f (ad 6) (hs_nw S))
            refine (hP1.m 12 i hi).trans ?_
            first | rfl
          · exact hi.elim
        have fr_hok : ∀ a, b1 a → (M1) a = M a := fun a ha => fr1 a ha
        have hfin : hr_R Z b1 M ad (st_accept S ka) (nI 1) (M1) := hr_r (S' := S) (X' := X1) (ad' := ad) (by unfold st_accept; exact ((if_neg (fun q => q gk)).trans ((if_neg (fun q => q c38)).trans (if_pos (Or.inr (by rw [← hq9]; exact hq_bf c72)))))) rfl hok ht1 fr_hok
        exact hret hI hfin (Nat.le_of_ble_eq_true rfl) (Nat.le_of_ble_eq_true rfl) dX11_accept_76
    · refine lv_aload_n hx hb dX11_accept_41 rfl (lv_at hl 1 rfl) ?_
      refine lv_iconst (v := nI 2) hx hb dX11_accept_42 (by decide) ?_
      refine hw_ci hI (hw_rV hx hb hml hown hts hk hI (m_X11_no l Z M1 (ad 0 0) (ad 0 2) (ad 0 3) (ad 0 1) (hr_th X1) (hs_G S 0) (hs_G S 1) (nI 2) e0_0hP1) cv_X11_44 e0_0hP1 rfl rfl ⟨rfl, rfl⟩ ⟨(Nat.le_of_ble_eq_true rfl), (Nat.le_of_ble_eq_true rfl)⟩ rfl hl.1 rfl (Nat.le_of_ble_eq_true rfl) ⟨(Nat.le_of_ble_eq_true rfl), (Nat.le_of_ble_eq_true rfl)⟩ dX11_accept_43) (fun r43 M43 H locs hR hI => ?_)
      obtain ⟨rfl, rfl⟩ := hR
      exact hret hI (hr_x (n := 2) (by unfold st_accept; exact (hq_el (fun q => q gk) (hq_if c38 ⟨rfl, rfl⟩))) (by decide) (hP1.th (nI 2)) rfl (fun a ha => (va_up_ne _ _ (hP1.f (k := 0) (i := 0) (show 0 < 4 by decide) ha)).trans (fr1 a ha))) (Nat.le_of_ble_eq_true rfl) (Nat.le_of_ble_eq_true rfl) dX11_accept_46
  · refine lv_aload_n hx hb dX11_accept_13 rfl (lv_at hl 0 rfl) ?_
    refine lv_iconst (v := nI 1) hx hb dX11_accept_14 (by decide) ?_
    refine hw_ci hI (hw_rV hx hb hml hown hts hk hI (m_X11_no l Z M1 (ad 0 0) (ad 0 2) (ad 0 3) (ad 0 1) (hr_th X1) (hs_G S 0) (hs_G S 1) (nI 1) e0_0hP1) cv_X11_44 e0_0hP1 rfl rfl ⟨rfl, rfl⟩ ⟨(Nat.le_of_ble_eq_true rfl), (Nat.le_of_ble_eq_true rfl)⟩ rfl hl.1 rfl (Nat.le_of_ble_eq_true rfl) ⟨(Nat.le_of_ble_eq_true rfl), (Nat.le_of_ble_eq_true rfl)⟩ dX11_accept_15) (fun r15 M15 H locs hR hI => ?_)
    obtain ⟨rfl, rfl⟩ := hR
    exact hret hI (hr_x (n := 1) (by unfold st_accept; exact (hq_if (hq_df c10) ⟨rfl, rfl⟩)) (by decide) (hP1.th (nI 1)) rfl (fun a ha => (va_up_ne _ _ (hP1.f (k := 0) (i := 0) (show 0 < 4 by decide) ha)).trans (fr1 a ha))) (Nat.le_of_ble_eq_true rfl) (Nat.le_of_ble_eq_true rfl) dX11_accept_18

set_option maxHeartbeats 4000000 in
set_option maxRecDepth 100000 in
theorem m_X11_accept_n (l : Launch) (Z : hw_Z) (M : hw_M) (ad : hp_ad) (S : hs_S) (X : hr_X) (b1 : Nat → Prop) (ka : Int32) (hP : hr_ok Z b1 M ad S X) (hV : hv_ok S) (hA : ∀ a, b1 a → M a ≠ none) (hg : hr_gr X (hb_ix (hs_P S (hb_ix ka) 4)) = false) : Met l yX11_accept (hw_m yX11_accept cX11_accept 3 (some .int)) ({ frames := 8, cells := 2, slots := 90, locals := 250 } : Room) (va_Pc [.ref (ad 0 0), .int ka] (hw_P Z M)) (hw_Qi Z (hr_R Z b1 M ad (st_accept S ka))) 2 90 (hw_A Z) := by
  refine hw_ofi (by decide +kernel) rfl (Nat.le_of_ble_eq_true rfl) ?_
  intro p e s m below meth c ls Q hx hb hml hown hts hk hnm hI hl hret
  have hB := hV.b
  have hnp := hB.np
  have hnw := hB.nw
  have e0_0hP : M (ad 0 0) = hw_ob 12 [.int (hr_th X), .int (hs_G S 0), .int (hs_G S 1), .ref (ad 0 2), .ref (ad 0 3), .ref (ad 0 1)] := hP.m 0 0 (show 0 < 4 by decide)
  refine lv_aload_n hx hb dX11_accept_0 rfl (lv_at hl 0 rfl) ?_
  refine lv_iconst (v := nI 0) hx hb dX11_accept_1 (by decide) ?_
  refine hw_put (fs' := [.int (nI 0), .int (hs_G S 0), .int (hs_G S 1), .ref (ad 0 2), .ref (ad 0 3), .ref (ad 0 1)]) hx hb hts hown hk hI fp_X11_26 e0_0hP (Nat.le_of_ble_eq_true rfl) rfl rfl rfl dX11_accept_2 (fun H locs hI => ?_)
  obtain ⟨M1, hM1⟩ : ∃ Y : hw_M, Y = va_up M (ad 0 0) (hw_ob 12 [.int (nI 0), .int (hs_G S 0), .int (hs_G S 1), .ref (ad 0 2), .ref (ad 0 3), .ref (ad 0 1)]) := ⟨_, rfl⟩
  replace hI := hI.eq hM1.symm
  obtain ⟨X1, hX1⟩ : ∃ Y : hr_X, Y = (nI 0, X.2) := ⟨_, rfl⟩
  have hP1 : hr_ok Z b1 M1 ad S X1 := by rw [hM1, hX1]; exact hP.th (nI 0)
  have ht1 : hr_th X1 = nI 0 := by rw [hX1]; rfl
  have hgr1 : hr_gr X1 = hr_gr X := by rw [hX1]; rfl
  have hqq1 : hr_qq X1 = hr_qq X := by rw [hX1]; rfl
  have fr1 : ∀ a, b1 a → M1 a = M a := fun a ha => by rw [hM1]; exact va_up_ne _ _ (hP.f (k := 0) (i := 0) (show 0 < 4 by decide) ha)
  have hA1 : ∀ a, b1 a → M1 a ≠ none := fun a ha => by rw [fr1 a ha]; exact hA a ha
  clear hP hX1
  have e0_0hP1 : M1 (ad 0 0) = hw_ob 12 [.int (hr_th X1), .int (hs_G S 0), .int (hs_G S 1), .ref (ad 0 2), .ref (ad 0 3), .ref (ad 0 1)] := hP1.m 0 0 (show 0 < 4 by decide)
  have e0_2hP1 : M1 (ad 0 2) = hw_ob 0 [.int (hr_mc X1 0), .ref (hr_d (hs_np S) Z.2.2.2 (ad 11 0)), .int (nI (hs_np S))] := hP1.m 0 2 (show 2 < 4 by decide)
  refine lv_aload_n hx hb dX11_accept_5 rfl (lv_at hl 0 rfl) ?_
  refine lv_iload_n hx hb dX11_accept_6 rfl (lv_at hl 1 rfl) ?_
  refine hw_ci hI (hw_rV hx hb hml hown hts hk hI (m_X11_isPiece l Z M1 (ad 0 0) (ad 0 2) (ad 0 3) (ad 0 1) (hr_th X1) (hs_G S 0) (hs_G S 1) ka (hr_mc X1 0) (hs_np S) (.ref (hr_d (hs_np S) Z.2.2.2 (ad 11 0))) e0_0hP1 e0_2hP1 (by omega)) cv_X11_55 e0_0hP1 rfl rfl ⟨rfl, rfl⟩ ⟨(Nat.le_of_ble_eq_true rfl), (Nat.le_of_ble_eq_true rfl)⟩ rfl hl.1 rfl (Nat.le_of_ble_eq_true rfl) ⟨(Nat.le_of_ble_eq_true rfl), (Nat.le_of_ble_eq_true rfl)⟩ dX11_accept_7) (fun r7 M7 H locs hR hI => ?_)
  obtain ⟨rfl, rfl⟩ := hR
  refine lv_if_ne (tgt := 19) hx hb dX11_accept_10 (by decide) (fun c10 => ?_) (fun c10 => ?_)
  · have gk := hq_dt c10
    have hx_ka := hb_okx (by omega) gk
    have hi_ka : hb_ix ka < hs_np S := hx_ka.1
    have h4_ka : hb_ix ka < 4 := by omega
    have h11 : 0 = 0 ∧ 0 < hs_np S := ⟨rfl, by omega⟩
    have e0_2hP1 : M1 (ad 0 2) = hw_ob 0 [.int (hr_mc X1 0), .ref (ad 11 0), .int (nI (hs_np S))] := by
      have q := hP1.m 0 2 (show 2 < 4 by decide)
      rw [show hr_e Z ad S X1 0 2 = hw_ob 0 [.int (hr_mc X1 0), .ref (hr_d (hs_np S) Z.2.2.2 (ad 11 0)), .int (nI (hs_np S))] from rfl, hr_d0 h11.2] at q
      exact q
    have e11_0hP1 : M1 (ad 11 0) = hw_ar Z 7 10 (hc_f (ad 1) (hs_np S)) := hP1.m 11 0 h11
    have e1_hb_ix_kahP1 : M1 (ad 1 (hb_ix ka)) = hw_ob 9 [.ref (ad 2 (hb_ix ka)), .int (hs_P S (hb_ix ka) 0), .ref (ad 4 (hb_ix ka)), .int (hs_P S (hb_ix ka) 3), .int (hs_P S (hb_ix ka) 4), .int (hs_P S (hb_ix ka) 5), .int (hs_P S (hb_ix ka) 6), .int (hs_P S (hb_ix ka) 7), .int (hs_P S (hb_ix ka) 8)] := hP1.m 1 (hb_ix ka) hi_ka
    have e2_hb_ix_kahP1 : M1 (ad 2 (hb_ix ka)) = hw_ob 11 [.ref (ad 3 (hb_ix ka))] := hP1.m 2 (hb_ix ka) hi_ka
    have e3_hb_ix_kahP1 : M1 (ad 3 (hb_ix ka)) = hw_al Z 8 (hs_C S (hb_ix ka)) := hP1.m 3 (hb_ix ka) hi_ka
    have e4_hb_ix_kahP1 : M1 (ad 4 (hb_ix ka)) = hw_ob 7 [.double (hr_en (hs_P S (hb_ix ka))), .ref (ad 5 (hb_ix ka)), .double (hs_U S (hb_ix ka)), .int (hs_P S (hb_ix ka) 1), .int (hs_P S (hb_ix ka) 2), .int (nI (hs_D S (hb_ix ka)))] := hP1.m 4 (hb_ix ka) hi_ka
    refine lv_aload_n hx hb dX11_accept_19 rfl (lv_at hl 0 rfl) ?_
    refine hw_get hx hb hts hown hk hI fd_X11_10 e0_0hP1 rfl dX11_accept_20 ?_
    refine lv_iload_n hx hb dX11_accept_23 rfl (lv_at hl 1 rfl) ?_
    refine hw_ti hx_ka.2 ?_
    refine hw_cFr hI (hw_rF hx hb hml hown hts hk hI (m_Jx4a65c_get_915e3 l Z M1 (ad 0 2) (ad 11 0) (hs_np S) (hb_ix ka) (ad 1 (hb_ix ka)) (hr_mc X1 0) (hc_f (ad 1) (hs_np S)) e0_2hP1 e11_0hP1 hi_ka (by omega) (if_pos hi_ka)) cf_X11_59 e0_2hP1 rfl rfl ⟨rfl, rfl⟩ ⟨(Nat.le_of_ble_eq_true rfl), (Nat.le_of_ble_eq_true rfl)⟩ rfl hl.1 rfl (Nat.le_of_ble_eq_true rfl) ⟨(Nat.le_of_ble_eq_true rfl), (Nat.le_of_ble_eq_true rfl)⟩ dX11_accept_24) (fun r24 M24 H locs hR hI => ?_)
    obtain ⟨rfl, rfl⟩ := hR
    refine hw_cast hx hb hts hown hk hI e1_hb_ix_kahP1 rfl (hw_win (w := .classLink RX11 48 RX8) (by decide +kernel) (by decide +kernel)) dX11_accept_29 ?_
    refine lv_astore_n (lv' := [(2, .ref (ad 1 (hb_ix ka))), (0, .ref (ad 0 0)), (1, .int ka)]) hx hb dX11_accept_32 rfl hl (by decide) rfl (fun ls hl => ?_)
    refine lv_aload_n hx hb dX11_accept_33 rfl (lv_at hl 0 rfl) ?_
    refine hw_get hx hb hts hown hk hI fd_X11_63 e1_hb_ix_kahP1 rfl dX11_accept_34 ?_
    refine lv_iconst (v := nI 4) hx hb dX11_accept_37 (by decide) ?_
    refine lv_icmp_eq (tgt := 47) hx hb dX11_accept_38 (by decide) (fun c38 => ?_) (fun c38 => ?_)
    · have hs0 : ¬ hs_P S (hb_ix ka) 0 = 0 := by rw [c38]; decide
      obtain ⟨t4, t5, t6, al, tal, t9, m9, t8, m90, m96, tm⟩ := hV.st hi_ka hs0
      have hx4 := hb_okx (by decide) t4
      have h4n := hb_okn t4
      have hao := hv_ao (S := S) t8 m90 m96 tm
      have hnw0 : 0 < hs_nw S := by obtain ⟨k9, _, hk9⟩ := hb_tbx m9 m90 m96; have := (tm k9 hk9).1; omega
      have h12 : 0 = 0 ∧ 0 < hs_nw S := ⟨rfl, hnw0⟩
      have hq9 : hb_tr (hr_qq X1 (hb_ix (hs_P S (hb_ix ka) 4))) al (hs_P S (hb_ix ka) 5) (hs_P S (hb_ix ka) 6) (hs_N S (hb_ix (hs_P S (hb_ix ka) 4))) = hb_has (hs_Q S (hb_ix (hs_P S (hb_ix ka) 4))) (hs_P S (hb_ix ka) 9) (hs_N S (hb_ix (hs_P S (hb_ix ka) 4))) := hb_tr_has tal t5 t6 t9 _ (fun m hm => hP1.q (hb_ix (hs_P S (hb_ix ka) 4)) m hx4.1 hm)
      have hg1 : hr_gr X1 (hb_ix (hs_P S (hb_ix ka) 4)) = false := by rw [hgr1]; exact hg
      have hN0 := hP1.g (hb_ix (hs_P S (hb_ix ka) 4)) hx4.1 hg1
      have hif : (if hr_gr X1 (hb_ix (hs_P S (hb_ix ka) 4)) = true then ad 9 (hb_ix (hs_P S (hb_ix ka) 4)) else Z.2.2.2) = Z.2.2.2 := if_neg (by rw [hg1]; decide)
      have e0_1hP1 : M1 (ad 0 1) = hw_ar Z 6 2 (fun j => some (ad 7 j)) := hP1.m 0 1 (show 1 < 4 by decide)
      have e0_3hP1 : M1 (ad 0 3) = hw_ob 0 [.int (hr_mc X1 1), .ref (ad 12 0), .int (nI (hs_nw S))] := by
        have q := hP1.m 0 3 (show 3 < 4 by decide)
        rw [show hr_e Z ad S X1 0 3 = hw_ob 0 [.int (hr_mc X1 1), .ref (hr_d (hs_nw S) Z.2.2.2 (ad 12 0)), .int (nI (hs_nw S))] from rfl, hr_d0 h12.2] at q
        exact q
      have e12_0hP1 : M1 (ad 12 0) = hw_ar Z 7 10 (hc_f (ad 6) (hs_nw S)) := hP1.m 12 0 h12
      have e7_hb_ix_hs_P_S_hb_ix_ka_4hP1 : M1 (ad 7 (hb_ix (hs_P S (hb_ix ka) 4))) = hw_ob 8 [.int (hs_M S (hb_ix (hs_P S (hb_ix ka) 4)) 0), .int (hs_M S (hb_ix (hs_P S (hb_ix ka) 4)) 1), .int (hs_M S (hb_ix (hs_P S (hb_ix ka) 4)) 2), .int (hs_M S (hb_ix (hs_P S (hb_ix ka) 4)) 3), .ref (ad 8 (hb_ix (hs_P S (hb_ix ka) 4)))] := hP1.m 7 (hb_ix (hs_P S (hb_ix ka) 4)) hx4.1
      have e8_hb_ix_hs_P_S_hb_ix_ka_4hP1 : M1 (ad 8 (hb_ix (hs_P S (hb_ix ka) 4))) = hw_ob 0 [.int (hr_mc X1 (2 + hb_ix (hs_P S (hb_ix ka) 4))), .ref Z.2.2.2, .int (nI 0)] := by
        have q := hP1.m 8 (hb_ix (hs_P S (hb_ix ka) 4)) hx4.1
        rw [show hr_e Z ad S X1 8 (hb_ix (hs_P S (hb_ix ka) 4)) = hw_ob 0 [.int (hr_mc X1 (2 + (hb_ix (hs_P S (hb_ix ka) 4)))), .ref (if hr_gr X1 (hb_ix (hs_P S (hb_ix ka) 4)) then ad 9 (hb_ix (hs_P S (hb_ix ka) 4)) else Z.2.2.2), .int (nI (hs_N S (hb_ix (hs_P S (hb_ix ka) 4))))] from rfl, hif, hN0] at q
        exact q
      have h10 : ∀ i, i < hs_N S (hb_ix (hs_P S (hb_ix ka) 4)) → hr_p S X1 10 (hb_ix (hs_P S (hb_ix ka) 4) + 2 * i) := fun i hi => by
        show (hb_ix (hs_P S (hb_ix ka) 4) + 2 * i) / 2 < hs_N S ((hb_ix (hs_P S (hb_ix ka) 4) + 2 * i) % 2)
        have h2 := hx4.1
        rw [show (hb_ix (hs_P S (hb_ix ka) 4) + 2 * i) / 2 = i by omega, show (hb_ix (hs_P S (hb_ix ka) 4) + 2 * i) % 2 = hb_ix (hs_P S (hb_ix ka) 4) by omega]; exact hi
      have h10e : ∀ i, hw_ai Z 3 (hr_qq X1 ((hb_ix (hs_P S (hb_ix ka) 4) + 2 * i) % 2) ((hb_ix (hs_P S (hb_ix ka) 4) + 2 * i) / 2)) = hw_ai Z 3 (hr_qq X1 (hb_ix (hs_P S (hb_ix ka) 4)) i) := fun i => by
        have h2 := hx4.1
        rw [show (hb_ix (hs_P S (hb_ix ka) 4) + 2 * i) / 2 = i by omega, show (hb_ix (hs_P S (hb_ix ka) 4) + 2 * i) % 2 = hb_ix (hs_P S (hb_ix ka) 4) by omega]
      refine lv_aload_n hx hb dX11_accept_47 rfl (lv_at hl 1 rfl) ?_
      refine hw_get hx hb hts hown hk hI fd_X11_22 e0_0hP1 rfl dX11_accept_48 ?_
      refine lv_aload_n hx hb dX11_accept_51 rfl (lv_at hl 0 rfl) ?_
      refine hw_get hx hb hts hown hk hI fd_X11_152 e1_hb_ix_kahP1 rfl dX11_accept_52 ?_
      refine hw_aald hx hb hk hI 6 (v := .ref (ad 7 (hb_ix (hs_P S (hb_ix ka) 4)))) e0_1hP1 rfl (j := hb_ix (hs_P S (hb_ix ka) 4)) hx4.2 hx4.1 (by decide) rfl dX11_accept_55 ?_
      refine lv_aload_n hx hb dX11_accept_56 rfl (lv_at hl 1 rfl) ?_
      refine lv_aload_n hx hb dX11_accept_57 rfl (lv_at hl 0 rfl) ?_
      refine hw_ci hI (hw_rV hx hb hml hown hts hk hI (m_X11_alloyOf l Z M1 (ad 0 0) (ad 0 2) (ad 0 3) (ad 0 1) (hr_th X1) (hs_G S 0) (hs_G S 1) (ad 1 (hb_ix ka)) (ad 2 (hb_ix ka)) (ad 4 (hb_ix ka)) (ad 12 0) (hs_nw S) m9 (hr_mc X1 1) (hs_P S (hb_ix ka) 0) (hs_P S (hb_ix ka) 3) (hs_P S (hb_ix ka) 4) (hs_P S (hb_ix ka) 5) (hs_P S (hb_ix ka) 6) (hs_P S (hb_ix ka) 7) (hs_P S (hb_ix ka) 8) (hc_f (ad 6) (hs_nw S)) (ad 6) (hs_V S) e0_0hP1 e1_hb_ix_kahP1 e0_3hP1 e12_0hP1 t8 m96 hnw (fun i hi => if_pos hi) (fun i hi => hP1.m 6 i hi)) cv_X11_198 e0_0hP1 rfl rfl ⟨rfl, rfl⟩ ⟨(Nat.le_of_ble_eq_true rfl), (Nat.le_of_ble_eq_true rfl)⟩ rfl hl.1 rfl (Nat.le_of_ble_eq_true rfl) ⟨(Nat.le_of_ble_eq_true rfl), (Nat.le_of_ble_eq_true rfl)⟩ dX11_accept_58) (fun r58 M58 H locs hR hI => ?_)
      obtain ⟨rfl, rfl⟩ := hR
      refine hw_ti hao ?_
      refine lv_aload_n hx hb dX11_accept_61 rfl (lv_at hl 0 rfl) ?_
      refine hw_get hx hb hts hown hk hI fd_X11_153 e1_hb_ix_kahP1 rfl dX11_accept_62 ?_
      refine lv_aload_n hx hb dX11_accept_65 rfl (lv_at hl 0 rfl) ?_
      refine hw_get hx hb hts hown hk hI fd_X11_156 e1_hb_ix_kahP1 rfl dX11_accept_66 ?_
      refine hw_ci hI (hw_rV hx hb hml hown hts hk hI (m_X7_isProved_0 l Z M1 (ad 7 (hb_ix (hs_P S (hb_ix ka) 4))) (ad 8 (hb_ix (hs_P S (hb_ix ka) 4))) (hr_mc X1 (2 + hb_ix (hs_P S (hb_ix ka) 4))) al (hs_P S (hb_ix ka) 5) (hs_P S (hb_ix ka) 6) (hs_M S (hb_ix (hs_P S (hb_ix ka) 4)) 0) (hs_M S (hb_ix (hs_P S (hb_ix ka) 4)) 1) (hs_M S (hb_ix (hs_P S (hb_ix ka) 4)) 2) (hs_M S (hb_ix (hs_P S (hb_ix ka) 4)) 3) (.ref Z.2.2.2) e7_hb_ix_hs_P_S_hb_ix_ka_4hP1 e8_hb_ix_hs_P_S_hb_ix_ka_4hP1) cv_X11_202 e7_hb_ix_hs_P_S_hb_ix_ka_4hP1 rfl rfl ⟨rfl, rfl⟩ ⟨(Nat.le_of_ble_eq_true rfl), (Nat.le_of_ble_eq_true rfl)⟩ rfl hl.1 rfl (Nat.le_of_ble_eq_true rfl) ⟨(Nat.le_of_ble_eq_true rfl), (Nat.le_of_ble_eq_true rfl)⟩ dX11_accept_69) (fun r69 M69 H locs hR hI => ?_)
      obtain ⟨rfl, rfl⟩ := hR
      refine lv_if_ne (tgt := 77) hx hb dX11_accept_72 (by decide) (fun hc => absurd rfl hc) (fun _ => ?_)
      refine lv_iconst (v := nI 1) hx hb dX11_accept_75 (by decide) ?_
      have hok : hr_ok Z b1 (M1) ad (S) (X1) := by
        refine hr_old hP1 (fun _ _ hi => hi) ?_ hP1.q hP1.g
        intro k i hi
        rcases k with _ | _ | _ | _ | _ | _ | _ | _ | _ | _ | _ | _ | _ | k
        · rcases (show i = 0 ∨ i = 1 ∨ i = 2 ∨ i = 3 by have h4 : i < 4 := hi; omega) with rfl | rfl | rfl | rfl
          · show (M1) (ad 0 0) = hw_ob 12 [.int (hr_th X1), .int (hs_G S 0), .int (hs_G S 1), .ref (ad 0 2), .ref (ad 0 3), .ref (ad 0 1)]
            refine (hP1.m 0 0 (show 0 < 4 by decide)).trans ?_
            first | rfl | (simp only [va_up_self]; done) | (simp only [va_up_self]; rfl)
          · show (M1) (ad 0 1) = hw_ar Z 6 2 (fun j => some (ad 7 j))
            refine (hP1.m 0 1 (show 1 < 4 by decide)).trans ?_
            first | rfl | (simp only [va_up_self]; done) | (simp only [va_up_self]; rfl)
          · show (M1) (ad 0 2) = hw_ob 0 [.int (hr_mc X1 0), .ref (hr_d (hs_np S) Z.2.2.2 (ad 11 0)), .int (nI (hs_np S))]
            refine (hP1.m 0 2 (show 2 < 4 by decide)).trans ?_
            first | rfl | (simp only [va_up_self]; done) | (simp only [va_up_self]; rfl)
          · show (M1) (ad 0 3) = hw_ob 0 [.int (hr_mc X1 1), .ref (hr_d (hs_nw S) Z.2.2.2 (ad 12 0)), .int (nI (hs_nw S))]
            refine (hP1.m 0 3 (show 3 < 4 by decide)).trans ?_
            first | rfl | (simp only [va_up_self]; done) | (simp only [va_up_self]; rfl)
        · show (M1) (ad 1 i) = hw_ob 9 [.ref (ad 2 i), .int (hs_P S i 0), .ref (ad 4 i), .int (hs_P S i 3), .int (hs_P S i 4), .int (hs_P S i 5), .int (hs_P S i 6), .int (hs_P S i 7), .int (hs_P S i 8)]
          refine (hP1.m 1 i hi).trans ?_
          first | rfl
        · show (M1) (ad 2 i) = hw_ob 11 [.ref (ad 3 i)]
          refine (hP1.m 2 i hi).trans ?_
          first | rfl
        · show (M1) (ad 3 i) = hw_al Z 8 (hs_C S i)
          refine (hP1.m 3 i hi).trans ?_
          first | rfl
        · show (M1) (ad 4 i) = hw_ob 7 [.double (hr_en (hs_P S i)), .ref (ad 5 i), .double (hs_U S i), .int (hs_P S i 1), .int (hs_P S i 2), .int (nI (hs_D S i))]
          refine (hP1.m 4 i hi).trans ?_
          first | rfl
        · show (M1) (ad 5 i) = hw_ad Z 64 (hs_W S i)
          refine (hP1.m 5 i hi).trans ?_
          first | rfl
        · show (M1) (ad 6 i) = hw_ob 10 [.int (hs_V S i 0), .int (hs_V S i 1), .int (hs_V S i 2), .int (hs_V S i 3), .int (hs_V S i 4)]
          refine (hP1.m 6 i hi).trans ?_
          first | rfl
        · show (M1) (ad 7 i) = hw_ob 8 [.int (hs_M S i 0), .int (hs_M S i 1), .int (hs_M S i 2), .int (hs_M S i 3), .ref (ad 8 i)]
          refine (hP1.m 7 i hi).trans ?_
          first | rfl
        · show (M1) (ad 8 i) = hw_ob 0 [.int (hr_mc X1 (2 + i)), .ref (if hr_gr X1 i then ad 9 i else Z.2.2.2), .int (nI (hs_N S i))]
          refine (hP1.m 8 i hi).trans ?_
          first | rfl
        · show (M1) (ad 9 i) = hw_ar Z 7 10 (hc_f (fun j => ad 10 (i + 2 * j)) (hs_N S i))
          refine (hP1.m 9 i hi).trans ?_
          first | rfl
        · show (M1) (ad 10 i) = hw_ai Z 3 (hr_qq X1 (i % 2) (i / 2))
          refine (hP1.m 10 i hi).trans ?_
          first | rfl
        · show (M1) (ad 11 i) = hw_ar Z 7 10 (hc_f (ad 1) (hs_np S))
          refine (hP1.m 11 i hi).trans ?_
          first | rfl
        · show (M1) (ad 12 i) = hw_ar Z 7 10 (hc_f (ad 6) (hs_nw S))
          refine (hP1.m 12 i hi).trans ?_
          first | rfl
        · exact hi.elim
      have fr_hok : ∀ a, b1 a → (M1) a = M a := fun a ha => fr1 a ha
      have hfin : hr_R Z b1 M ad (st_accept S ka) (nI 1) (M1) := hr_r (S' := S) (X' := X1) (ad' := ad) (by unfold st_accept; exact ((if_neg (fun q => q gk)).trans ((if_neg (fun q => q c38)).trans (if_pos (Or.inr (by rw [hN0]; rfl)))))) rfl hok ht1 fr_hok
      exact hret hI hfin (Nat.le_of_ble_eq_true rfl) (Nat.le_of_ble_eq_true rfl) dX11_accept_76
    · refine lv_aload_n hx hb dX11_accept_41 rfl (lv_at hl 1 rfl) ?_
      refine lv_iconst (v := nI 2) hx hb dX11_accept_42 (by decide) ?_
      refine hw_ci hI (hw_rV hx hb hml hown hts hk hI (m_X11_no l Z M1 (ad 0 0) (ad 0 2) (ad 0 3) (ad 0 1) (hr_th X1) (hs_G S 0) (hs_G S 1) (nI 2) e0_0hP1) cv_X11_44 e0_0hP1 rfl rfl ⟨rfl, rfl⟩ ⟨(Nat.le_of_ble_eq_true rfl), (Nat.le_of_ble_eq_true rfl)⟩ rfl hl.1 rfl (Nat.le_of_ble_eq_true rfl) ⟨(Nat.le_of_ble_eq_true rfl), (Nat.le_of_ble_eq_true rfl)⟩ dX11_accept_43) (fun r43 M43 H locs hR hI => ?_)
      obtain ⟨rfl, rfl⟩ := hR
      exact hret hI (hr_x (n := 2) (by unfold st_accept; exact (hq_el (fun q => q gk) (hq_if c38 ⟨rfl, rfl⟩))) (by decide) (hP1.th (nI 2)) rfl (fun a ha => (va_up_ne _ _ (hP1.f (k := 0) (i := 0) (show 0 < 4 by decide) ha)).trans (fr1 a ha))) (Nat.le_of_ble_eq_true rfl) (Nat.le_of_ble_eq_true rfl) dX11_accept_46
  · refine lv_aload_n hx hb dX11_accept_13 rfl (lv_at hl 0 rfl) ?_
    refine lv_iconst (v := nI 1) hx hb dX11_accept_14 (by decide) ?_
    refine hw_ci hI (hw_rV hx hb hml hown hts hk hI (m_X11_no l Z M1 (ad 0 0) (ad 0 2) (ad 0 3) (ad 0 1) (hr_th X1) (hs_G S 0) (hs_G S 1) (nI 1) e0_0hP1) cv_X11_44 e0_0hP1 rfl rfl ⟨rfl, rfl⟩ ⟨(Nat.le_of_ble_eq_true rfl), (Nat.le_of_ble_eq_true rfl)⟩ rfl hl.1 rfl (Nat.le_of_ble_eq_true rfl) ⟨(Nat.le_of_ble_eq_true rfl), (Nat.le_of_ble_eq_true rfl)⟩ dX11_accept_15) (fun r15 M15 H locs hR hI => ?_)
    obtain ⟨rfl, rfl⟩ := hR
    exact hret hI (hr_x (n := 1) (by unfold st_accept; exact (hq_if (hq_df c10) ⟨rfl, rfl⟩)) (by decide) (hP1.th (nI 1)) rfl (fun a ha => (va_up_ne _ _ (hP1.f (k := 0) (i := 0) (show 0 < 4 by decide) ha)).trans (fr1 a ha))) (Nat.le_of_ble_eq_true rfl) (Nat.le_of_ble_eq_true rfl) dX11_accept_18

theorem m_X11_accept (l : Launch) (Z : hw_Z) (M : hw_M) (ad : hp_ad) (S : hs_S) (X : hr_X) (b1 : Nat → Prop) (ka : Int32) (hP : hr_ok Z b1 M ad S X) (hV : hv_ok S) (hA : ∀ a, b1 a → M a ≠ none) : Met l yX11_accept (hw_m yX11_accept cX11_accept 3 (some .int)) ({ frames := 8, cells := 2, slots := 90, locals := 250 } : Room) (va_Pc [.ref (ad 0 0), .int ka] (hw_P Z M)) (hw_Qi Z (hr_R Z b1 M ad (st_accept S ka))) 2 90 (hw_A Z) := by
  cases h : hr_gr X (hb_ix (hs_P S (hb_ix ka) 4)) with
  | true => exact m_X11_accept_s l Z M ad S X b1 ka hP hV hA h
  | false => exact m_X11_accept_n l Z M ad S X b1 ka hP hV hA h
