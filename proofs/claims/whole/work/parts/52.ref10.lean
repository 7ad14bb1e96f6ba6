-- the best way as the reference finds it
def hb_bnB (C : Nat → Int64) : Nat → Int32
  | 0 => -1
  | n + 1 => nI (hb_bw C n)
def hb_bnL (C : Nat → Int64) : Nat → Int32
  | 0 => 0
  | n + 1 => nI (100 * hb_ws C (hb_bw C n) + hb_wh C (hb_bw C n))
theorem hb_nm1 {n : Nat} (h : n < 2 ^ 31) : ¬ nI n = -1 := fun q => by
  have h2 := nI_pos (n := n) h
  rw [q] at h2
  exact h2 (by decide)
theorem hb_bw_le (C : Nat → Int64) : ∀ n, hb_bw C n ≤ n
  | 0 => Nat.le_refl _
  | n + 1 => by
    have := hb_bw_le C n
    have e : hb_bw C (n + 1) = n + 1 ∨ hb_bw C (n + 1) = hb_bw C n := by
      by_cases h : hb_ws C (n + 1) < hb_ws C (hb_bw C n) ∨ (hb_ws C (n + 1) = hb_ws C (hb_bw C n) ∧ hb_wh C (n + 1) < hb_wh C (hb_bw C n))
      · exact Or.inl (if_pos h)
      · exact Or.inr (if_neg h)
    rcases e with e | e <;> rw [e] <;> omega
theorem hb_bn_y0 {C : Nat → Int64} {v : Nat} (hv : v < 6) (h : hb_bnB C v = -1) : hb_bw C v = v := by
  cases v with
  | zero => rfl
  | succ n => exact absurd h (hb_nm1 (by have := hb_bw_le C n; omega))
theorem hb_bn_y {C : Nat → Int64} {v : Nat} (h0 : ¬ hb_bnB C v = -1) (h : nI (100 * hb_ws C v + hb_wh C v) < hb_bnL C v) : hb_bw C v = v := by
  cases v with
  | zero => rfl
  | succ n =>
    have a1 := hb_ws_le C (n + 1); have a2 := hb_wh_le C (n + 1); have a3 := hb_ws_le C (hb_bw C n); have a4 := hb_wh_le C (hb_bw C n)
    have h2 := (nI_ltI (by omega) (by omega)).mp h
    exact if_pos (by omega)
theorem hb_bn_n {C : Nat → Int64} {v : Nat} (h0 : ¬ hb_bnB C v = -1) (h : ¬ nI (100 * hb_ws C v + hb_wh C v) < hb_bnL C v) : hb_bnB C v = hb_bnB C (v + 1) ∧ hb_bnL C v = hb_bnL C (v + 1) := by
  cases v with
  | zero => exact absurd rfl h0
  | succ n =>
    have a1 := hb_ws_le C (n + 1); have a2 := hb_wh_le C (n + 1); have a3 := hb_ws_le C (hb_bw C n); have a4 := hb_wh_le C (hb_bw C n)
    have h2 : ¬ 100 * hb_ws C (n + 1) + hb_wh C (n + 1) < 100 * hb_ws C (hb_bw C n) + hb_wh C (hb_bw C n) := fun q => h ((nI_ltI (by omega) (by omega)).mpr q)
    have e : hb_bw C (n + 1) = hb_bw C n := if_neg (by omega)
    show nI (hb_bw C n) = nI (hb_bw C (n + 1)) ∧ nI _ = nI (100 * hb_ws C (hb_bw C (n + 1)) + hb_wh C (hb_bw C (n + 1)))
    rw [e]; exact ⟨rfl, rfl⟩
theorem hb_bn_yB {C : Nat → Int64} {v : Nat} (h : hb_bw C v = v) : hb_bnB C (v + 1) = nI v := by show nI (hb_bw C v) = _; rw [h]
theorem hb_bn_yL {C : Nat → Int64} {v : Nat} (h : hb_bw C v = v) : hb_bnL C (v + 1) = nI (100 * hb_ws C v + hb_wh C v) := by show nI _ = _; rw [h]
-- the best speed as the reference finds it
def hb_sn (C : Nat → Int64) (w : Int32) : Nat → Nat
  | 0 => 20
  | n + 1 => if hb_fw C w (20 - (n + 1)) < hb_fw C w (hb_sn C w n) then 20 - (n + 1) else hb_sn C w n
def hb_snB (C : Nat → Int64) (w : Int32) : Nat → Int32
  | 0 => -1
  | n + 1 => nI (hb_sn C w n)
def hb_snL (C : Nat → Int64) (w : Int32) : Nat → Int32
  | 0 => 0
  | n + 1 => nI (hb_fw C w (hb_sn C w n))
theorem hb_sn_le (C : Nat → Int64) (w : Int32) : ∀ n, hb_sn C w n ≤ 20
  | 0 => Nat.le_refl _
  | n + 1 => by
    have := hb_sn_le C w n
    have e : hb_sn C w (n + 1) = 20 - (n + 1) ∨ hb_sn C w (n + 1) = hb_sn C w n := by
      by_cases h : hb_fw C w (20 - (n + 1)) < hb_fw C w (hb_sn C w n)
      · exact Or.inl (if_pos h)
      · exact Or.inr (if_neg h)
    rcases e with e | e <;> rw [e] <;> omega
theorem hb_sn_y0 {C : Nat → Int64} {w : Int32} {v : Nat} (h : hb_snB C w v = -1) : hb_sn C w v = 20 - v := by
  cases v with
  | zero => rfl
  | succ n => exact absurd h (hb_nm1 (by have := hb_sn_le C w n; omega))
theorem hb_sn_y {C : Nat → Int64} {w : Int32} {v : Nat} (h0 : ¬ hb_snB C w v = -1) (h : nI (hb_fw C w (20 - v)) < hb_snL C w v) : hb_sn C w v = 20 - v := by
  cases v with
  | zero => rfl
  | succ n =>
    have a1 := hb_fw_le C w (20 - (n + 1)); have a2 := hb_fw_le C w (hb_sn C w n)
    exact if_pos ((nI_ltI (by omega) (by omega)).mp h)
theorem hb_sn_n {C : Nat → Int64} {w : Int32} {v : Nat} (h0 : ¬ hb_snB C w v = -1) (h : ¬ nI (hb_fw C w (20 - v)) < hb_snL C w v) : hb_snB C w v = hb_snB C w (v + 1) ∧ hb_snL C w v = hb_snL C w (v + 1) := by
  cases v with
  | zero => exact absurd rfl h0
  | succ n =>
    have a1 := hb_fw_le C w (20 - (n + 1)); have a2 := hb_fw_le C w (hb_sn C w n)
    have e : hb_sn C w (n + 1) = hb_sn C w n := if_neg (fun q => h ((nI_ltI (by omega) (by omega)).mpr q))
    show nI (hb_sn C w n) = nI (hb_sn C w (n + 1)) ∧ nI _ = nI (hb_fw C w (hb_sn C w (n + 1)))
    rw [e]; exact ⟨rfl, rfl⟩
theorem hb_sn_yB {C : Nat → Int64} {w : Int32} {v : Nat} (h : hb_sn C w v = 20 - v) : hb_snB C w (v + 1) = nI (20 - v) := by show nI (hb_sn C w v) = _; rw [h]
theorem hb_sn_yL {C : Nat → Int64} {w : Int32} {v : Nat} (h : hb_sn C w v = 20 - v) : hb_snL C w (v + 1) = nI (hb_fw C w (20 - v)) := by show nI _ = _; rw [h]
theorem hb_bs_is (C : Nat → Int64) (w : Int32) : ∀ n, (1 ≤ hb_bs C w n ∧ hb_bs C w n ≤ n + 1) ∧ ∀ d, 1 ≤ d → d ≤ n + 1 → hb_fw C w (hb_bs C w n) ≤ hb_fw C w d ∧ (hb_fw C w d = hb_fw C w (hb_bs C w n) → d ≤ hb_bs C w n)
  | 0 => ⟨⟨Nat.le_refl _, Nat.le_refl _⟩, fun d h1 h2 => by
    have : d = 1 := by omega
    subst this
    exact ⟨Nat.le_refl _, fun _ => Nat.le_refl _⟩⟩
  | n + 1 => by
    obtain ⟨⟨i1, i2⟩, i3⟩ := hb_bs_is C w n
    by_cases h : hb_fw C w (n + 2) ≤ hb_fw C w (hb_bs C w n)
    · have e : hb_bs C w (n + 1) = n + 2 := if_pos h
      rw [e]
      refine ⟨⟨by omega, by omega⟩, fun d h1 h2 => ?_⟩
      by_cases hd : d = n + 2
      · subst hd; exact ⟨Nat.le_refl _, fun _ => Nat.le_refl _⟩
      · exact ⟨Nat.le_trans h (i3 d h1 (by omega)).1, fun _ => by omega⟩
    · have e : hb_bs C w (n + 1) = hb_bs C w n := if_neg h
      rw [e]
      refine ⟨⟨i1, by omega⟩, fun d h1 h2 => ?_⟩
      by_cases hd : d = n + 2
      · subst hd; exact ⟨by omega, fun q => by omega⟩
      · exact i3 d h1 (by omega)
theorem hb_sn_is (C : Nat → Int64) (w : Int32) : ∀ n, n < 20 → (20 - n ≤ hb_sn C w n ∧ hb_sn C w n ≤ 20) ∧ ∀ d, 20 - n ≤ d → d ≤ 20 → hb_fw C w (hb_sn C w n) ≤ hb_fw C w d ∧ (hb_fw C w d = hb_fw C w (hb_sn C w n) → d ≤ hb_sn C w n)
  | 0, _ => ⟨⟨Nat.le_refl _, Nat.le_refl _⟩, fun d h1 h2 => by
    have : d = 20 := by omega
    subst this
    exact ⟨Nat.le_refl _, fun _ => Nat.le_refl _⟩⟩
  | n + 1, hn => by
    obtain ⟨⟨i1, i2⟩, i3⟩ := hb_sn_is C w n (by omega)
    by_cases h : hb_fw C w (20 - (n + 1)) < hb_fw C w (hb_sn C w n)
    · have e : hb_sn C w (n + 1) = 20 - (n + 1) := if_pos h
      rw [e]
      refine ⟨⟨by omega, by omega⟩, fun d h1 h2 => ?_⟩
      by_cases hd : d = 20 - (n + 1)
      · subst hd; exact ⟨Nat.le_refl _, fun _ => Nat.le_refl _⟩
      · have := (i3 d (by omega) h2).1
        exact ⟨by omega, fun q => by omega⟩
    · have e : hb_sn C w (n + 1) = hb_sn C w n := if_neg h
      rw [e]
      refine ⟨⟨by omega, by omega⟩, fun d h1 h2 => ?_⟩
      by_cases hd : d = 20 - (n + 1)
      · subst hd; exact ⟨by omega, fun q => by omega⟩
      · exact i3 d (by omega) h2
theorem hb_sn_bs (C : Nat → Int64) (w : Int32) : hb_sn C w 19 = hb_bs C w 19 := by
  obtain ⟨⟨a1, a2⟩, a3⟩ := hb_bs_is C w 19
  obtain ⟨⟨b1, b2⟩, b3⟩ := hb_sn_is C w 19 (by decide)
  have c1 := a3 (hb_sn C w 19) (by omega) (by omega)
  have c2 := b3 (hb_bs C w 19) (by omega) (by omega)
  have e : hb_fw C w (hb_sn C w 19) = hb_fw C w (hb_bs C w 19) := by omega
  have := c1.2 e
  have := c2.2 e.symm
  omega
/-- the curl of a growth that is tried -/
def hb_tc (C : Nat → Int64) : Nat → UInt64
  | 0 => 0
  | n + 1 => hb_cu (hb_tc C n) (hb_pc (hb_hang C n))
theorem hb_tc_pz (C : Nat → Int64) : ∀ n, hb_pz (hb_tc C n)
  | 0 => by show hb_pz 0; unfold hb_pz; decide
  | n + 1 => hb_cu_pz (hb_tc_pz C n) (by have := hb_pc_le (hb_hang C n); omega)
theorem hb_sp20 {v : Nat} (h : v < 20) : 0 < nI (20 - v) := by rw [← nI_0]; exact nI_lt (by omega) (by omega)
theorem cb_X6_grow (own : String) (index : Nat) : hw_CB own index yX6_grow cX6_grow 9 none 1 := ⟨⟨by decide +kernel, by decide +kernel, by decide +kernel⟩, (hw_win (w := .code yX6_grow cX6_grow 9 none) (by decide +kernel) (by decide +kernel)), (hw_win (w := .initialized yX6_grow.cls) (by decide +kernel) (by decide +kernel))⟩
theorem cv_X11_168 : hw_CV RX11 168 yX6_grow cX6_grow 9 none 1 := ⟨cb_X6_grow _ _, (hw_win (w := .methodLink RX11 168 yX6_grow) (by decide +kernel) (by decide +kernel)), (hw_win (w := .instanceMethod yX6_grow) (by decide +kernel) (by decide +kernel)), (hw_win (w := .selects yX6_grow.cls yX6_grow yX6_grow) (by decide +kernel) (by decide +kernel))⟩
theorem cb_X11_powderNow (own : String) (index : Nat) : hw_CB own index yX11_powderNow cX11_powderNow 5 (some .int) 2 := ⟨⟨by decide +kernel, by decide +kernel, by decide +kernel⟩, (hw_win (w := .code yX11_powderNow cX11_powderNow 5 (some .int)) (by decide +kernel) (by decide +kernel)), (hw_win (w := .initialized yX11_powderNow.cls) (by decide +kernel) (by decide +kernel))⟩
theorem cv_X11_227 : hw_CV RX11 227 yX11_powderNow cX11_powderNow 5 (some .int) 2 := ⟨cb_X11_powderNow _ _, (hw_win (w := .methodLink RX11 227 yX11_powderNow) (by decide +kernel) (by decide +kernel)), (hw_win (w := .instanceMethod yX11_powderNow) (by decide +kernel) (by decide +kernel)), (hw_win (w := .selects yX11_powderNow.cls yX11_powderNow yX11_powderNow) (by decide +kernel) (by decide +kernel))⟩
theorem cb_X11_machineNow (own : String) (index : Nat) : hw_CB own index yX11_machineNow cX11_machineNow 5 (some .int) 2 := ⟨⟨by decide +kernel, by decide +kernel, by decide +kernel⟩, (hw_win (w := .code yX11_machineNow cX11_machineNow 5 (some .int)) (by decide +kernel) (by decide +kernel)), (hw_win (w := .initialized yX11_machineNow.cls) (by decide +kernel) (by decide +kernel))⟩
theorem cv_X11_230 : hw_CV RX11 230 yX11_machineNow cX11_machineNow 5 (some .int) 2 := ⟨cb_X11_machineNow _ _, (hw_win (w := .methodLink RX11 230 yX11_machineNow) (by decide +kernel) (by decide +kernel)), (hw_win (w := .instanceMethod yX11_machineNow) (by decide +kernel) (by decide +kernel)), (hw_win (w := .selects yX11_machineNow.cls yX11_machineNow yX11_machineNow) (by decide +kernel) (by decide +kernel))⟩
theorem cb_X11_recallNow (own : String) (index : Nat) : hw_CB own index yX11_recallNow cX11_recallNow 4 (some .int) 1 := ⟨⟨by decide +kernel, by decide +kernel, by decide +kernel⟩, (hw_win (w := .code yX11_recallNow cX11_recallNow 4 (some .int)) (by decide +kernel) (by decide +kernel)), (hw_win (w := .initialized yX11_recallNow.cls) (by decide +kernel) (by decide +kernel))⟩
theorem cv_X11_233 : hw_CV RX11 233 yX11_recallNow cX11_recallNow 4 (some .int) 1 := ⟨cb_X11_recallNow _ _, (hw_win (w := .methodLink RX11 233 yX11_recallNow) (by decide +kernel) (by decide +kernel)), (hw_win (w := .instanceMethod yX11_recallNow) (by decide +kernel) (by decide +kernel)), (hw_win (w := .selects yX11_recallNow.cls yX11_recallNow yX11_recallNow) (by decide +kernel) (by decide +kernel))⟩
theorem cb_X11_manyNow (own : String) (index : Nat) : hw_CB own index yX11_manyNow cX11_manyNow 4 (some .int) 1 := ⟨⟨by decide +kernel, by decide +kernel, by decide +kernel⟩, (hw_win (w := .code yX11_manyNow cX11_manyNow 4 (some .int)) (by decide +kernel) (by decide +kernel)), (hw_win (w := .initialized yX11_manyNow.cls) (by decide +kernel) (by decide +kernel))⟩
theorem cv_X11_239 : hw_CV RX11 239 yX11_manyNow cX11_manyNow 4 (some .int) 1 := ⟨cb_X11_manyNow _ _, (hw_win (w := .methodLink RX11 239 yX11_manyNow) (by decide +kernel) (by decide +kernel)), (hw_win (w := .instanceMethod yX11_manyNow) (by decide +kernel) (by decide +kernel)), (hw_win (w := .selects yX11_manyNow.cls yX11_manyNow yX11_manyNow) (by decide +kernel) (by decide +kernel))⟩
theorem cb_X11_bestNow (own : String) (index : Nat) : hw_CB own index yX11_bestNow cX11_bestNow 7 (some .int) 1 := ⟨⟨by decide +kernel, by decide +kernel, by decide +kernel⟩, (hw_win (w := .code yX11_bestNow cX11_bestNow 7 (some .int)) (by decide +kernel) (by decide +kernel)), (hw_win (w := .initialized yX11_bestNow.cls) (by decide +kernel) (by decide +kernel))⟩
theorem cv_X11_242 : hw_CV RX11 242 yX11_bestNow cX11_bestNow 7 (some .int) 1 := ⟨cb_X11_bestNow _ _, (hw_win (w := .methodLink RX11 242 yX11_bestNow) (by decide +kernel) (by decide +kernel)), (hw_win (w := .instanceMethod yX11_bestNow) (by decide +kernel) (by decide +kernel)), (hw_win (w := .selects yX11_bestNow.cls yX11_bestNow yX11_bestNow) (by decide +kernel) (by decide +kernel))⟩
theorem cb_X11_speedNow (own : String) (index : Nat) : hw_CB own index yX11_speedNow cX11_speedNow 8 (some .int) 2 := ⟨⟨by decide +kernel, by decide +kernel, by decide +kernel⟩, (hw_win (w := .code yX11_speedNow cX11_speedNow 8 (some .int)) (by decide +kernel) (by decide +kernel)), (hw_win (w := .initialized yX11_speedNow.cls) (by decide +kernel) (by decide +kernel))⟩
theorem cv_X11_246 : hw_CV RX11 246 yX11_speedNow cX11_speedNow 8 (some .int) 2 := ⟨cb_X11_speedNow _ _, (hw_win (w := .methodLink RX11 246 yX11_speedNow) (by decide +kernel) (by decide +kernel)), (hw_win (w := .instanceMethod yX11_speedNow) (by decide +kernel) (by decide +kernel)), (hw_win (w := .selects yX11_speedNow.cls yX11_speedNow yX11_speedNow) (by decide +kernel) (by decide +kernel))⟩
set_option maxHeartbeats 4000000 in
set_option maxRecDepth 100000 in
theorem m_X11_bestNow (l : Launch) (Z : hw_Z) (M : hw_M) (o : Nat) (so : Nat) (ca : Nat) (C : Nat → Int64) (h0 : M so = hw_ob 11 [.ref ca]) (h1 : M ca = hw_al Z 8 C) : Met l yX11_bestNow (hw_m yX11_bestNow cX11_bestNow 7 (some .int)) ({ frames := 5, cells := 12, slots := 54, locals := 140 } : Room) (va_Pc [.ref o, .ref so] (hw_P Z M)) (hw_Qi Z (fun r M' => nI (hb_bw C 5) = r ∧ hr_F M M')) 12 54 (hw_A Z) := by
  refine hw_ofi (by decide +kernel) rfl (Nat.le_of_ble_eq_true rfl) ?_
  intro p e s m below meth c ls Q hx hb hml hown hts hk hnm hI hl hret
  refine lv_iconst (v := (-1)) hx hb dX11_bestNow_0 (by decide) ?_
  refine lv_istore_n (lv' := [(2, .int (-1)), (0, .ref o), (1, .ref so)]) hx hb dX11_bestNow_1 rfl hl (by decide) rfl (fun ls hl => ?_)
  refine lv_iconst (v := nI 0) hx hb dX11_bestNow_2 (by decide) ?_
  refine lv_istore_n (lv' := [(3, .int (nI 0)), (2, .int (-1)), (0, .ref o), (1, .ref so)]) hx hb dX11_bestNow_3 rfl hl (by decide) rfl (fun ls hl => ?_)
  refine lv_iconst (v := nI 0) hx hb dX11_bestNow_4 (by decide) ?_
  refine lv_istore (lv' := [(4, .int (nI 0)), (3, .int (nI 0)), (2, .int (-1)), (0, .ref o), (1, .ref so)]) hx hb dX11_bestNow_5 hl (by decide) rfl (fun ls hl => ?_)
  refine hw_wr (cells1 := (2 * 0 + 0)) (slots1 := (9 * 0 + 0)) (by omega) (by omega) ?_
  suffices LP7 : ∀ v, v ≤ 6 → ∀ (Mi : hw_M) (hFi : hr_F M Mi) (H : Heap) (locs : List Loc) (ls : Array Slot), hw_iv Z s (Mi) H locs → lv_has ls 7 [(2, .int (hb_bnB C v)), (3, .int (hb_bnL C v)), (4, .int (nI v)), (0, .ref o), (1, .ref so)] → W p l e ({ frames := 5, cells := 12, slots := 54, locals := 140 } : Room) s m ([.ref o, .ref so] : List Value).toArray below meth c H locs (2 * v + 0) (9 * v + 0) Q (F0 m 7 ls []) from LP7 0 (by omega) M (hr_F_r M) _ _ _ hI (lv_sub hl [2, 1, 0, 3, 4] rfl)
  refine hw_loop ?_ (fun v hi7 ih7 => ?_)
  · intro Mi hFi H locs ls hI hl
    have g_so := (hFi _ (hw_sn h0)).trans h0
    have g_ca := (hFi _ (hw_sn h1)).trans h1
    refine lv_iload hx hb dX11_bestNow_7 (lv_at hl 2 rfl) ?_
    refine lv_bipush (v := nI 6) hx hb dX11_bestNow_9 (by decide) ?_
    refine lv_icmp_ge (tgt := 64) hx hb dX11_bestNow_11 (by decide) (fun _ => ?_) (fun hc => absurd (Int32.le_refl _) hc)
    refine lv_iload_n hx hb dX11_bestNow_64 rfl (lv_at hl 0 rfl) ?_
    exact hret hI (⟨rfl, hFi⟩) (Nat.le_of_ble_eq_true rfl) (Nat.le_of_ble_eq_true rfl) dX11_bestNow_65
  · intro Mi hFi H locs ls hI hl
    have g_so := (hFi _ (hw_sn h0)).trans h0
    have g_ca := (hFi _ (hw_sn h1)).trans h1
    refine lv_iload hx hb dX11_bestNow_7 (lv_at hl 2 rfl) ?_
    refine lv_bipush (v := nI 6) hx hb dX11_bestNow_9 (by decide) ?_
    refine lv_icmp_ge (tgt := 64) hx hb dX11_bestNow_11 (by decide) (fun hc => absurd hc (nI_ge hi7 (by decide))) (fun _ => ?_)
    refine lv_aload_n hx hb dX11_bestNow_14 rfl (lv_at hl 4 rfl) ?_
    refine lv_iload hx hb dX11_bestNow_15 (lv_at hl 2 rfl) ?_
    refine hw_cr hI (hw_rV hx hb hml hown hts hk hI (m_X10_laid l Z Mi so ca C v g_so g_ca hi7) cv_X11_79 g_so rfl rfl ⟨rfl, rfl⟩ ⟨(by first | exact Nat.le_of_ble_eq_true rfl | omega | (dsimp only; omega)), (by first | exact Nat.le_of_ble_eq_true rfl | omega | (dsimp only; omega))⟩ rfl hl.1 rfl (by first | exact Nat.le_of_ble_eq_true rfl | omega | (dsimp only; omega)) ⟨(by first | exact Nat.le_of_ble_eq_true rfl | omega | (dsimp only; omega)), (by first | exact Nat.le_of_ble_eq_true rfl | omega | (dsimp only; omega))⟩ dX11_bestNow_17) (fun r17 M17 H locs hR hI => ?_)
    obtain ⟨sa17, n_r17, n_sa17, d17, e_r17, e_sa17, hF17⟩ := hR
    have k17_so := (hF17 _ (hw_sn g_so)).trans g_so
    have k17_ca := (hF17 _ (hw_sn g_ca)).trans g_ca
    refine lv_astore (lv' := [(5, .ref r17), (2, .int (hb_bnB C v)), (3, .int (hb_bnL C v)), (4, .int (nI v)), (0, .ref o), (1, .ref so)]) hx hb dX11_bestNow_20 hl (by decide) rfl (fun ls hl => ?_)
    refine lv_bipush (v := nI 100) hx hb dX11_bestNow_22 (by decide) ?_
    refine lv_aload hx hb dX11_bestNow_24 (lv_at hl 0 rfl) ?_
    refine hw_ci hI (hw_rV hx hb hml hown hts hk hI (m_X10_supports l Z M17 r17 sa17 (hb_laid C v) e_r17 e_sa17) cv_X11_211 e_r17 rfl rfl ⟨rfl, rfl⟩ ⟨(by first | exact Nat.le_of_ble_eq_true rfl | omega | (dsimp only; omega)), (by first | exact Nat.le_of_ble_eq_true rfl | omega | (dsimp only; omega))⟩ rfl hl.1 rfl (by first | exact Nat.le_of_ble_eq_true rfl | omega | (dsimp only; omega)) ⟨(by first | exact Nat.le_of_ble_eq_true rfl | omega | (dsimp only; omega)), (by first | exact Nat.le_of_ble_eq_true rfl | omega | (dsimp only; omega))⟩ dX11_bestNow_26) (fun r26 M26 H locs hR hI => ?_)
    obtain ⟨rfl, rfl⟩ := hR
    refine lv_imul hx hb dX11_bestNow_29 ?_
    refine hw_ti (pk_mul _ _) ?_
    refine lv_aload hx hb dX11_bestNow_30 (lv_at hl 0 rfl) ?_
    refine hw_ci hI (hw_rV hx hb hml hown hts hk hI (m_X10_height l Z M17 r17 sa17 (hb_laid C v) e_r17 e_sa17) cv_X11_83 e_r17 rfl rfl ⟨rfl, rfl⟩ ⟨(by first | exact Nat.le_of_ble_eq_true rfl | omega | (dsimp only; omega)), (by first | exact Nat.le_of_ble_eq_true rfl | omega | (dsimp only; omega))⟩ rfl hl.1 rfl (by first | exact Nat.le_of_ble_eq_true rfl | omega | (dsimp only; omega)) ⟨(by first | exact Nat.le_of_ble_eq_true rfl | omega | (dsimp only; omega)), (by first | exact Nat.le_of_ble_eq_true rfl | omega | (dsimp only; omega))⟩ dX11_bestNow_32) (fun r32 M32 H locs hR hI => ?_)
    obtain ⟨rfl, rfl⟩ := hR
    refine lv_iadd hx hb dX11_bestNow_35 ?_
    refine hw_ti (nI_add _ _) ?_
    refine lv_istore (lv' := [(6, .int (nI ((100 * (hb_sm (fun k => hb_pc (hb_supp (hb_laid C v) k)) 8)) + (hb_ht (hb_laid C v) 8)))), (5, .ref r17), (2, .int (hb_bnB C v)), (3, .int (hb_bnL C v)), (4, .int (nI v)), (0, .ref o), (1, .ref so)]) hx hb dX11_bestNow_36 hl (by decide) rfl (fun ls hl => ?_)
    refine lv_iload_n hx hb dX11_bestNow_38 rfl (lv_at hl 2 rfl) ?_
    refine lv_iconst (v := (-1)) hx hb dX11_bestNow_39 (by decide) ?_
    refine lv_icmp_eq (tgt := 52) hx hb dX11_bestNow_40 (by decide) (fun c40 => ?_) (fun c40 => ?_)
    · refine lv_iload hx hb dX11_bestNow_52 (lv_at hl 4 rfl) ?_
      refine lv_istore_n (lv' := [(2, .int (nI v)), (6, .int (nI ((100 * (hb_sm (fun k => hb_pc (hb_supp (hb_laid C v) k)) 8)) + (hb_ht (hb_laid C v) 8)))), (5, .ref r17), (3, .int (hb_bnL C v)), (4, .int (nI v)), (0, .ref o), (1, .ref so)]) hx hb dX11_bestNow_54 rfl hl (by decide) rfl (fun ls hl => ?_)
      refine lv_iload hx hb dX11_bestNow_55 (lv_at hl 1 rfl) ?_
      refine lv_istore_n (lv' := [(3, .int (nI ((100 * (hb_sm (fun k => hb_pc (hb_supp (hb_laid C v) k)) 8)) + (hb_ht (hb_laid C v) 8)))), (2, .int (nI v)), (6, .int (nI ((100 * (hb_sm (fun k => hb_pc (hb_supp (hb_laid C v) k)) 8)) + (hb_ht (hb_laid C v) 8)))), (5, .ref r17), (4, .int (nI v)), (0, .ref o), (1, .ref so)]) hx hb dX11_bestNow_57 rfl hl (by decide) rfl (fun ls hl => ?_)
      refine lv_iinc (v := nI (v + 1)) (lv' := [(4, .int (nI (v + 1))), (3, .int (nI ((100 * (hb_sm (fun k => hb_pc (hb_supp (hb_laid C v) k)) 8)) + (hb_ht (hb_laid C v) 8)))), (2, .int (nI v)), (6, .int (nI ((100 * (hb_sm (fun k => hb_pc (hb_supp (hb_laid C v) k)) 8)) + (hb_ht (hb_laid C v) 8)))), (5, .ref r17), (0, .ref o), (1, .ref so)]) hx hb dX11_bestNow_58 hl (k := 4) rfl (hw_inc _) (by decide) rfl (fun ls hl => ?_)
      refine lv_goto (tgt := 7) hx hb dX11_bestNow_61 (by decide) ?_
      refine hw_wr (cells1 := (2 * (v + 1) + 0)) (slots1 := (9 * (v + 1) + 0)) (by omega) (by omega) ?_
      exact ih7 _ (hFi.t hF17) _ _ _ hI (lv_sub hl [2, 1, 0, 5, 6] (by rw [hb_bn_yB (hb_bn_y0 hi7 c40), hb_bn_yL (hb_bn_y0 hi7 c40)]; rfl))
    · refine lv_iload hx hb dX11_bestNow_43 (lv_at hl 0 rfl) ?_
      refine lv_iload_n hx hb dX11_bestNow_45 rfl (lv_at hl 3 rfl) ?_
      refine lv_icmp_lt (tgt := 52) hx hb dX11_bestNow_46 (by decide) (fun c46 => ?_) (fun c46 => ?_)
      · refine lv_iload hx hb dX11_bestNow_52 (lv_at hl 4 rfl) ?_
        refine lv_istore_n (lv' := [(2, .int (nI v)), (6, .int (nI ((100 * (hb_sm (fun k => hb_pc (hb_supp (hb_laid C v) k)) 8)) + (hb_ht (hb_laid C v) 8)))), (5, .ref r17), (3, .int (hb_bnL C v)), (4, .int (nI v)), (0, .ref o), (1, .ref so)]) hx hb dX11_bestNow_54 rfl hl (by decide) rfl (fun ls hl => ?_)
        refine lv_iload hx hb dX11_bestNow_55 (lv_at hl 1 rfl) ?_
        refine lv_istore_n (lv' := [(3, .int (nI ((100 * (hb_sm (fun k => hb_pc (hb_supp (hb_laid C v) k)) 8)) + (hb_ht (hb_laid C v) 8)))), (2, .int (nI v)), (6, .int (nI ((100 * (hb_sm (fun k => hb_pc (hb_supp (hb_laid C v) k)) 8)) + (hb_ht (hb_laid C v) 8)))), (5, .ref r17), (4, .int (nI v)), (0, .ref o), (1, .ref so)]) hx hb dX11_bestNow_57 rfl hl (by decide) rfl (fun ls hl => ?_)
        refine lv_iinc (v := nI (v + 1)) (lv' := [(4, .int (nI (v + 1))), (3, .int (nI ((100 * (hb_sm (fun k => hb_pc (hb_supp (hb_laid C v) k)) 8)) + (hb_ht (hb_laid C v) 8)))), (2, .int (nI v)), (6, .int (nI ((100 * (hb_sm (fun k => hb_pc (hb_supp (hb_laid C v) k)) 8)) + (hb_ht (hb_laid C v) 8)))), (5, .ref r17), (0, .ref o), (1, .ref so)]) hx hb dX11_bestNow_58 hl (k := 4) rfl (hw_inc _) (by decide) rfl (fun ls hl => ?_)
        refine lv_goto (tgt := 7) hx hb dX11_bestNow_61 (by decide) ?_
        refine hw_wr (cells1 := (2 * (v + 1) + 0)) (slots1 := (9 * (v + 1) + 0)) (by omega) (by omega) ?_
        exact ih7 _ (hFi.t hF17) _ _ _ hI (lv_sub hl [2, 1, 0, 5, 6] (by rw [hb_bn_yB (hb_bn_y c40 c46), hb_bn_yL (hb_bn_y c40 c46)]; rfl))
      · refine lv_goto (tgt := 58) hx hb dX11_bestNow_49 (by decide) ?_
        refine lv_iinc (v := nI (v + 1)) (lv' := [(4, .int (nI (v + 1))), (6, .int (nI ((100 * (hb_sm (fun k => hb_pc (hb_supp (hb_laid C v) k)) 8)) + (hb_ht (hb_laid C v) 8)))), (5, .ref r17), (2, .int (hb_bnB C v)), (3, .int (hb_bnL C v)), (0, .ref o), (1, .ref so)]) hx hb dX11_bestNow_58 hl (k := 4) rfl (hw_inc _) (by decide) rfl (fun ls hl => ?_)
        refine lv_goto (tgt := 7) hx hb dX11_bestNow_61 (by decide) ?_
        refine hw_wr (cells1 := (2 * (v + 1) + 0)) (slots1 := (9 * (v + 1) + 0)) (by omega) (by omega) ?_
        exact ih7 _ (hFi.t hF17) _ _ _ hI (lv_sub hl [3, 4, 0, 5, 6] (by rw [(hb_bn_n c40 c46).1, (hb_bn_n c40 c46).2]; rfl))

set_option maxHeartbeats 4000000 in
set_option maxRecDepth 100000 in
theorem m_X11_speedNow (l : Launch) (Z : hw_Z) (M : hw_M) (o : Nat) (so : Nat) (ca : Nat) (wq : Int32) (C : Nat → Int64) (h0 : M so = hw_ob 11 [.ref ca]) (h1 : M ca = hw_al Z 8 C) (hpw : hb_pw wq) : Met l yX11_speedNow (hw_m yX11_speedNow cX11_speedNow 8 (some .int)) ({ frames := 5, cells := 40, slots := 1400, locals := 140 } : Room) (va_Pc [.ref o, .ref so, .int wq] (hw_P Z M)) (hw_Qi Z (fun r M' => nI (hb_bs C wq 19) = r ∧ hr_F M M')) 40 1400 (hw_A Z) := by
  refine hw_ofi (by decide +kernel) rfl (Nat.le_of_ble_eq_true rfl) ?_
  intro p e s m below meth c ls Q hx hb hml hown hts hk hnm hI hl hret
  refine lv_iconst (v := (-1)) hx hb dX11_speedNow_0 (by decide) ?_
  refine lv_istore_n (lv' := [(3, .int (-1)), (0, .ref o), (1, .ref so), (2, .int wq)]) hx hb dX11_speedNow_1 rfl hl (by decide) rfl (fun ls hl => ?_)
  refine lv_iconst (v := nI 0) hx hb dX11_speedNow_2 (by decide) ?_
  refine lv_istore (lv' := [(4, .int (nI 0)), (3, .int (-1)), (0, .ref o), (1, .ref so), (2, .int wq)]) hx hb dX11_speedNow_3 hl (by decide) rfl (fun ls hl => ?_)
  refine lv_bipush (v := nI 20) hx hb dX11_speedNow_5 (by decide) ?_
  refine lv_istore (lv' := [(5, .int (nI 20)), (4, .int (nI 0)), (3, .int (-1)), (0, .ref o), (1, .ref so), (2, .int wq)]) hx hb dX11_speedNow_7 hl (by decide) rfl (fun ls hl => ?_)
  refine hw_wr (cells1 := (2 * 0 + 0)) (slots1 := (70 * 0 + 0)) (by omega) (by omega) ?_
  suffices LP9 : ∀ v, v ≤ 20 → ∀ (Mi : hw_M) (hFi : hr_F M Mi) (H : Heap) (locs : List Loc) (ls : Array Slot), hw_iv Z s (Mi) H locs → lv_has ls 8 [(3, .int (hb_snB C wq v)), (4, .int (hb_snL C wq v)), (5, .int (nI (20 - v))), (0, .ref o), (1, .ref so), (2, .int wq)] → W p l e ({ frames := 5, cells := 40, slots := 1400, locals := 140 } : Room) s m ([.ref o, .ref so, .int wq] : List Value).toArray below meth c H locs (2 * v + 0) (70 * v + 0) Q (F0 m 9 ls []) from LP9 0 (by omega) M (hr_F_r M) _ _ _ hI (lv_sub hl [2, 1, 0, 3, 4, 5] rfl)
  refine hw_loop ?_ (fun v hi9 ih9 => ?_)
  · intro Mi hFi H locs ls hI hl
    have g_so := (hFi _ (hw_sn h0)).trans h0
    have g_ca := (hFi _ (hw_sn h1)).trans h1
    refine lv_iload hx hb dX11_speedNow_9 (lv_at hl 2 rfl) ?_
    refine lv_if_le (tgt := 88) hx hb dX11_speedNow_11 (by decide) (fun _ => ?_) (fun hc => absurd (show nI (20 - 20) ≤ 0 by decide) hc)
    refine lv_iload_n hx hb dX11_speedNow_88 rfl (lv_at hl 0 rfl) ?_
    exact hret hI (⟨by rw [← hb_sn_bs]; rfl, hFi⟩) (Nat.le_of_ble_eq_true rfl) (Nat.le_of_ble_eq_true rfl) dX11_speedNow_89
  · intro Mi hFi H locs ls hI hl
    have g_so := (hFi _ (hw_sn h0)).trans h0
    have g_ca := (hFi _ (hw_sn h1)).trans h1
    refine lv_iload hx hb dX11_speedNow_9 (lv_at hl 2 rfl) ?_
    refine lv_if_le (tgt := 88) hx hb dX11_speedNow_11 (by decide) (fun hc => absurd hc (nI_nle (by omega) (by omega))) (fun _ => ?_)
    refine hw_new hx hb hts hown hk hI fn_X11_143 (by first | exact Nat.le_of_ble_eq_true rfl | omega | (dsimp only; omega)) (by first | exact Nat.le_of_ble_eq_true rfl | omega | (dsimp only; omega)) dX11_speedNow_14 (fun q14 H hq14 hI => ?_)
    refine lv_dup hx hb dX11_speedNow_17 rfl ?_
    refine lv_iload_n hx hb dX11_speedNow_18 rfl (lv_at hl 5 rfl) ?_
    refine lv_iload hx hb dX11_speedNow_19 (lv_at hl 2 rfl) ?_
    refine hw_cv hI (hw_rI hx hb hml hown hts hk hI (m_X6_initE l Z (va_up Mi q14 (hw_ob 7 [.double 0, .null, .double 0, .int 0, .int 0, .int 0])) q14 wq (nI (20 - v)) (hw_us _ _ _) (hb_pw0 hpw) (hb_sp20 hi9)) ci_X11_145 ⟨rfl, rfl⟩ ⟨(by first | exact Nat.le_of_ble_eq_true rfl | omega | (dsimp only; omega)), (by first | exact Nat.le_of_ble_eq_true rfl | omega | (dsimp only; omega))⟩ rfl hl.1 rfl (by first | exact Nat.le_of_ble_eq_true rfl | omega | (dsimp only; omega)) ⟨(by first | exact Nat.le_of_ble_eq_true rfl | omega | (dsimp only; omega)), (by first | exact Nat.le_of_ble_eq_true rfl | omega | (dsimp only; omega))⟩ dX11_speedNow_21) (fun M21 H locs hR hI => ?_)
    obtain ⟨wa21, hn21, rfl⟩ := hR
    have nqw : q14 ≠ wa21 := (hw_nn (hw_us _ _ _) hn21)
    refine lv_astore (lv' := [(6, .ref q14), (3, .int (hb_snB C wq v)), (4, .int (hb_snL C wq v)), (5, .int (nI (20 - v))), (0, .ref o), (1, .ref so), (2, .int wq)]) hx hb dX11_speedNow_24 hl (by decide) rfl (fun ls hl => ?_)
    suffices LP26 : ∀ n, n ≤ (hb_ht C 8) → ∀ (H : Heap) (locs : List Loc) (ls : Array Slot), hw_iv Z s (va_up (va_up Mi wa21 (hw_ad Z 64 (hb_tw C (hb_en wq (nI (20 - v))) n))) q14 (hw_ob 7 [.double (hb_en wq (nI (20 - v))), .ref wa21, .double (hb_tc C n), .int (nI (hb_tl C (hb_en wq (nI (20 - v))) n)), .int (nI (hb_th C (hb_en wq (nI (20 - v))) n)), .int (nI n)])) H locs → lv_has ls 8 [(6, .ref q14), (3, .int (hb_snB C wq v)), (4, .int (hb_snL C wq v)), (5, .int (nI (20 - v))), (0, .ref o), (1, .ref so), (2, .int wq)] → W p l e ({ frames := 5, cells := 40, slots := 1400, locals := 140 } : Room) s m ([.ref o, .ref so, .int wq] : List Value).toArray below meth c H locs (2 * v + 2) (70 * v + 70) Q (F0 m 26 ls []) from LP26 0 (by omega) _ _ _ (hI.eq (hb_g3 nqw)) (lv_sub hl [0, 1, 2, 3, 4, 5, 6] rfl)
    refine hw_loop ?_ (fun n hi26 ih26 => ?_)
    · intro H locs ls hI hl
      refine lv_aload hx hb dX11_speedNow_26 (lv_at hl 0 rfl) ?_
      refine hw_get hx hb hts hown hk hI fd_X11_161 (hw_us _ _ _) rfl dX11_speedNow_28 ?_
      refine lv_aload_n hx hb dX11_speedNow_31 rfl (lv_at hl 5 rfl) ?_
      refine hw_ci hI (hw_rV hx hb hml hown hts hk hI (m_X10_height l Z (va_up (va_up Mi wa21 (hw_ad Z 64 (hb_tw C (hb_en wq (nI (20 - v))) (hb_ht C 8)))) q14 (hw_ob 7 [.double (hb_en wq (nI (20 - v))), .ref wa21, .double (hb_tc C (hb_ht C 8)), .int (nI (hb_tl C (hb_en wq (nI (20 - v))) (hb_ht C 8))), .int (nI (hb_th C (hb_en wq (nI (20 - v))) (hb_ht C 8))), .int (nI (hb_ht C 8))])) so ca C (hw_up (hw_up g_so (hw_nn (hw_up g_so (hw_nn g_so hq14)) hn21)) (hw_nn g_so hq14)) (hw_up (hw_up g_ca (hw_nn (hw_up g_ca (hw_nn g_ca hq14)) hn21)) (hw_nn g_ca hq14))) cv_X11_83 (hw_up (hw_up g_so (hw_nn (hw_up g_so (hw_nn g_so hq14)) hn21)) (hw_nn g_so hq14)) rfl rfl ⟨rfl, rfl⟩ ⟨(by first | exact Nat.le_of_ble_eq_true rfl | omega | (dsimp only; omega)), (by first | exact Nat.le_of_ble_eq_true rfl | omega | (dsimp only; omega))⟩ rfl hl.1 rfl (by first | exact Nat.le_of_ble_eq_true rfl | omega | (dsimp only; omega)) ⟨(by first | exact Nat.le_of_ble_eq_true rfl | omega | (dsimp only; omega)), (by first | exact Nat.le_of_ble_eq_true rfl | omega | (dsimp only; omega))⟩ dX11_speedNow_32) (fun r32 M32 H locs hR hI => ?_)
      obtain ⟨rfl, rfl⟩ := hR
      refine lv_icmp_ge (tgt := 47) hx hb dX11_speedNow_35 (by decide) (fun _ => ?_) (fun hc => absurd (Int32.le_refl _) hc)
      refine lv_aload hx hb dX11_speedNow_47 (lv_at hl 0 rfl) ?_
      refine hw_get hx hb hts hown hk hI fd_X11_189 (hw_us _ _ _) rfl dX11_speedNow_49 ?_
      refine lv_aload hx hb dX11_speedNow_52 (lv_at hl 0 rfl) ?_
      refine hw_get hx hb hts hown hk hI fd_X11_214 (hw_us _ _ _) rfl dX11_speedNow_54 ?_
      refine lv_iadd hx hb dX11_speedNow_57 ?_
      refine hw_ti (nI_add _ _) ?_
      refine lv_istore (lv' := [(7, .int (nI ((hb_tl C (hb_en wq (nI (20 - v))) (hb_ht C 8)) + (hb_th C (hb_en wq (nI (20 - v))) (hb_ht C 8))))), (6, .ref q14), (3, .int (hb_snB C wq v)), (4, .int (hb_snL C wq v)), (5, .int (nI (20 - v))), (0, .ref o), (1, .ref so), (2, .int wq)]) hx hb dX11_speedNow_58 hl (by decide) rfl (fun ls hl => ?_)
      refine lv_iload_n hx hb dX11_speedNow_60 rfl (lv_at hl 2 rfl) ?_
      refine lv_iconst (v := (-1)) hx hb dX11_speedNow_61 (by decide) ?_
      refine lv_icmp_eq (tgt := 75) hx hb dX11_speedNow_62 (by decide) (fun c62 => ?_) (fun c62 => ?_)
      · refine lv_iload hx hb dX11_speedNow_75 (lv_at hl 4 rfl) ?_
        refine lv_istore_n (lv' := [(3, .int (nI (20 - v))), (7, .int (nI ((hb_tl C (hb_en wq (nI (20 - v))) (hb_ht C 8)) + (hb_th C (hb_en wq (nI (20 - v))) (hb_ht C 8))))), (6, .ref q14), (4, .int (hb_snL C wq v)), (5, .int (nI (20 - v))), (0, .ref o), (1, .ref so), (2, .int wq)]) hx hb dX11_speedNow_77 rfl hl (by decide) rfl (fun ls hl => ?_)
        refine lv_iload hx hb dX11_speedNow_78 (lv_at hl 1 rfl) ?_
        refine lv_istore (lv' := [(4, .int (nI ((hb_tl C (hb_en wq (nI (20 - v))) (hb_ht C 8)) + (hb_th C (hb_en wq (nI (20 - v))) (hb_ht C 8))))), (3, .int (nI (20 - v))), (7, .int (nI ((hb_tl C (hb_en wq (nI (20 - v))) (hb_ht C 8)) + (hb_th C (hb_en wq (nI (20 - v))) (hb_ht C 8))))), (6, .ref q14), (5, .int (nI (20 - v))), (0, .ref o), (1, .ref so), (2, .int wq)]) hx hb dX11_speedNow_80 hl (by decide) rfl (fun ls hl => ?_)
        refine lv_iinc (v := nI (20 - (v + 1))) (lv' := [(5, .int (nI (20 - (v + 1)))), (4, .int (nI ((hb_tl C (hb_en wq (nI (20 - v))) (hb_ht C 8)) + (hb_th C (hb_en wq (nI (20 - v))) (hb_ht C 8))))), (3, .int (nI (20 - v))), (7, .int (nI ((hb_tl C (hb_en wq (nI (20 - v))) (hb_ht C 8)) + (hb_th C (hb_en wq (nI (20 - v))) (hb_ht C 8))))), (6, .ref q14), (0, .ref o), (1, .ref so), (2, .int wq)]) hx hb dX11_speedNow_82 hl (k := 4) rfl (by rw [show 20 - v = (20 - (v + 1)) + 1 by omega]; exact pk_m1 _) (by decide) rfl (fun ls hl => ?_)
        refine lv_goto (tgt := 9) hx hb dX11_speedNow_85 (by decide) ?_
        refine hw_wr (cells1 := (2 * (v + 1) + 0)) (slots1 := (70 * (v + 1) + 0)) (by omega) (by omega) ?_
        exact ih9 _ (hr_F_u (hr_F_u hFi (hr_Fn hFi (hb_no hn21))) (hr_Fn hFi hq14)) _ _ _ hI (lv_sub hl [2, 1, 0, 5, 6, 7] (by rw [hb_sn_yB (hb_sn_y0 c62), hb_sn_yL (hb_sn_y0 c62)]; rfl))
      · refine lv_iload hx hb dX11_speedNow_65 (lv_at hl 0 rfl) ?_
        refine lv_iload hx hb dX11_speedNow_67 (lv_at hl 3 rfl) ?_
        refine lv_icmp_lt (tgt := 75) hx hb dX11_speedNow_69 (by decide) (fun c69 => ?_) (fun c69 => ?_)
        · refine lv_iload hx hb dX11_speedNow_75 (lv_at hl 4 rfl) ?_
          refine lv_istore_n (lv' := [(3, .int (nI (20 - v))), (7, .int (nI ((hb_tl C (hb_en wq (nI (20 - v))) (hb_ht C 8)) + (hb_th C (hb_en wq (nI (20 - v))) (hb_ht C 8))))), (6, .ref q14), (4, .int (hb_snL C wq v)), (5, .int (nI (20 - v))), (0, .ref o), (1, .ref so), (2, .int wq)]) hx hb dX11_speedNow_77 rfl hl (by decide) rfl (fun ls hl => ?_)
          refine lv_iload hx hb dX11_speedNow_78 (lv_at hl 1 rfl) ?_
          refine lv_istore (lv' := [(4, .int (nI ((hb_tl C (hb_en wq (nI (20 - v))) (hb_ht C 8)) + (hb_th C (hb_en wq (nI (20 - v))) (hb_ht C 8))))), (3, .int (nI (20 - v))), (7, .int (nI ((hb_tl C (hb_en wq (nI (20 - v))) (hb_ht C 8)) + (hb_th C (hb_en wq (nI (20 - v))) (hb_ht C 8))))), (6, .ref q14), (5, .int (nI (20 - v))), (0, .ref o), (1, .ref so), (2, .int wq)]) hx hb dX11_speedNow_80 hl (by decide) rfl (fun ls hl => ?_)
          refine lv_iinc (v := nI (20 - (v + 1))) (lv' := [(5, .int (nI (20 - (v + 1)))), (4, .int (nI ((hb_tl C (hb_en wq (nI (20 - v))) (hb_ht C 8)) + (hb_th C (hb_en wq (nI (20 - v))) (hb_ht C 8))))), (3, .int (nI (20 - v))), (7, .int (nI ((hb_tl C (hb_en wq (nI (20 - v))) (hb_ht C 8)) + (hb_th C (hb_en wq (nI (20 - v))) (hb_ht C 8))))), (6, .ref q14), (0, .ref o), (1, .ref so), (2, .int wq)]) hx hb dX11_speedNow_82 hl (k := 4) rfl (by rw [show 20 - v = (20 - (v + 1)) + 1 by omega]; exact pk_m1 _) (by decide) rfl (fun ls hl => ?_)
          refine lv_goto (tgt := 9) hx hb dX11_speedNow_85 (by decide) ?_
          refine hw_wr (cells1 := (2 * (v + 1) + 0)) (slots1 := (70 * (v + 1) + 0)) (by omega) (by omega) ?_
          exact ih9 _ (hr_F_u (hr_F_u hFi (hr_Fn hFi (hb_no hn21))) (hr_Fn hFi hq14)) _ _ _ hI (lv_sub hl [2, 1, 0, 5, 6, 7] (by rw [hb_sn_yB (hb_sn_y c62 c69), hb_sn_yL (hb_sn_y c62 c69)]; rfl))
        · refine lv_goto (tgt := 82) hx hb dX11_speedNow_72 (by decide) ?_
          refine lv_iinc (v := nI (20 - (v + 1))) (lv' := [(5, .int (nI (20 - (v + 1)))), (7, .int (nI ((hb_tl C (hb_en wq (nI (20 - v))) (hb_ht C 8)) + (hb_th C (hb_en wq (nI (20 - v))) (hb_ht C 8))))), (6, .ref q14), (3, .int (hb_snB C wq v)), (4, .int (hb_snL C wq v)), (0, .ref o), (1, .ref so), (2, .int wq)]) hx hb dX11_speedNow_82 hl (k := 4) rfl (by rw [show 20 - v = (20 - (v + 1)) + 1 by omega]; exact pk_m1 _) (by decide) rfl (fun ls hl => ?_)
          refine lv_goto (tgt := 9) hx hb dX11_speedNow_85 (by decide) ?_
          refine hw_wr (cells1 := (2 * (v + 1) + 0)) (slots1 := (70 * (v + 1) + 0)) (by omega) (by omega) ?_
          exact ih9 _ (hr_F_u (hr_F_u hFi (hr_Fn hFi (hb_no hn21))) (hr_Fn hFi hq14)) _ _ _ hI (lv_sub hl [3, 4, 0, 5, 6, 7] (by rw [(hb_sn_n c62 c69).1, (hb_sn_n c62 c69).2]; rfl))
    · intro H locs ls hI hl
      refine lv_aload hx hb dX11_speedNow_26 (lv_at hl 0 rfl) ?_
      refine hw_get hx hb hts hown hk hI fd_X11_161 (hw_us _ _ _) rfl dX11_speedNow_28 ?_
      refine lv_aload_n hx hb dX11_speedNow_31 rfl (lv_at hl 5 rfl) ?_
      refine hw_ci hI (hw_rV hx hb hml hown hts hk hI (m_X10_height l Z (va_up (va_up Mi wa21 (hw_ad Z 64 (hb_tw C (hb_en wq (nI (20 - v))) n))) q14 (hw_ob 7 [.double (hb_en wq (nI (20 - v))), .ref wa21, .double (hb_tc C n), .int (nI (hb_tl C (hb_en wq (nI (20 - v))) n)), .int (nI (hb_th C (hb_en wq (nI (20 - v))) n)), .int (nI n)])) so ca C (hw_up (hw_up g_so (hw_nn (hw_up g_so (hw_nn g_so hq14)) hn21)) (hw_nn g_so hq14)) (hw_up (hw_up g_ca (hw_nn (hw_up g_ca (hw_nn g_ca hq14)) hn21)) (hw_nn g_ca hq14))) cv_X11_83 (hw_up (hw_up g_so (hw_nn (hw_up g_so (hw_nn g_so hq14)) hn21)) (hw_nn g_so hq14)) rfl rfl ⟨rfl, rfl⟩ ⟨(by first | exact Nat.le_of_ble_eq_true rfl | omega | (dsimp only; omega)), (by first | exact Nat.le_of_ble_eq_true rfl | omega | (dsimp only; omega))⟩ rfl hl.1 rfl (by first | exact Nat.le_of_ble_eq_true rfl | omega | (dsimp only; omega)) ⟨(by first | exact Nat.le_of_ble_eq_true rfl | omega | (dsimp only; omega)), (by first | exact Nat.le_of_ble_eq_true rfl | omega | (dsimp only; omega))⟩ dX11_speedNow_32) (fun r32 M32 H locs hR hI => ?_)
      obtain ⟨rfl, rfl⟩ := hR
      refine lv_icmp_ge (tgt := 47) hx hb dX11_speedNow_35 (by decide) (fun hc => absurd hc (nI_ge hi26 (by have := hb_ht_le C 8; omega))) (fun _ => ?_)
      refine lv_aload hx hb dX11_speedNow_38 (lv_at hl 0 rfl) ?_
      refine lv_aload_n hx hb dX11_speedNow_40 rfl (lv_at hl 5 rfl) ?_
      refine hw_cv hI (hw_rV hx hb hml hown hts hk hI (m_X6_grow l Z (va_up (va_up Mi wa21 (hw_ad Z 64 (hb_tw C (hb_en wq (nI (20 - v))) n))) q14 (hw_ob 7 [.double (hb_en wq (nI (20 - v))), .ref wa21, .double (hb_tc C n), .int (nI (hb_tl C (hb_en wq (nI (20 - v))) n)), .int (nI (hb_th C (hb_en wq (nI (20 - v))) n)), .int (nI n)])) q14 so ca wa21 n (hb_en wq (nI (20 - v))) (hb_tc C n) (nI (hb_tl C (hb_en wq (nI (20 - v))) n)) (nI (hb_th C (hb_en wq (nI (20 - v))) n)) C (hb_tw C (hb_en wq (nI (20 - v))) n) (hw_us _ _ _) (hw_up (hw_up g_so (hw_nn (hw_up g_so (hw_nn g_so hq14)) hn21)) (hw_nn g_so hq14)) (hw_up (hw_up g_ca (hw_nn (hw_up g_ca (hw_nn g_ca hq14)) hn21)) (hw_nn g_ca hq14)) (hw_up (hw_us _ _ _) (Ne.symm (hw_nn (hw_us _ _ _) hn21))) (hw_nn (hw_us _ _ _) hn21) (by have := hb_ht_le C 8; omega) (hb_tw_pz (hb_en_pz (hb_pw0 hpw) (Int32.le_of_lt (hb_sp20 hi9) |> fun _ => hb_sp20 hi9)) n) (hb_en_pz (hb_pw0 hpw) (hb_sp20 hi9)) (hb_tc_pz C n)) cv_X11_168 (hw_us _ _ _) rfl rfl ⟨rfl, rfl⟩ ⟨(by first | exact Nat.le_of_ble_eq_true rfl | omega | (dsimp only; omega)), (by first | exact Nat.le_of_ble_eq_true rfl | omega | (dsimp only; omega))⟩ rfl hl.1 rfl (by first | exact Nat.le_of_ble_eq_true rfl | omega | (dsimp only; omega)) ⟨(by first | exact Nat.le_of_ble_eq_true rfl | omega | (dsimp only; omega)), (by first | exact Nat.le_of_ble_eq_true rfl | omega | (dsimp only; omega))⟩ dX11_speedNow_41) (fun M41 H locs hR hI => ?_)
      subst hR
      refine lv_goto (tgt := 26) hx hb dX11_speedNow_44 (by decide) ?_
      exact ih26 _ _ _ (hI.eq (by rw [hb_up4 (Ne.symm nqw), nI_add, nI_add]; rfl)) (lv_sub hl [0, 1, 2, 3, 4, 5, 6] rfl)

set_option maxHeartbeats 4000000 in
set_option maxRecDepth 100000 in
theorem m_X11_ofPowder (l : Launch) (Z : hw_Z) (M : hw_M) (ad : hp_ad) (S : hs_S) (X : hr_X) (b1 : Nat → Prop) (ka : Int32) (kw : Int32) (hP : hr_ok Z b1 M ad S X) (hV : hv_ok S) (hA : ∀ a, b1 a → M a ≠ none) : Met l yX11_ofPowder (hw_m yX11_ofPowder cX11_ofPowder 3 (some .int)) ({ frames := 8, cells := 2, slots := 90, locals := 250 } : Room) (va_Pc [.ref (ad 0 0), .int ka, .int kw] (hw_P Z M)) (hw_Qi Z (hr_R Z b1 M ad (st_ofPowder S ka kw))) 2 90 (hw_A Z) := by
  refine hw_ofi (by decide +kernel) rfl (Nat.le_of_ble_eq_true rfl) ?_
  intro p e s m below meth c ls Q hx hb hml hown hts hk hnm hI hl hret
  have hB := hV.b
  have hnp := hB.np
  have hnw := hB.nw
  have e0_0hP : M (ad 0 0) = hw_ob 12 [.int (hr_th X), .int (hs_G S 0), .int (hs_G S 1), .ref (ad 0 2), .ref (ad 0 3), .ref (ad 0 1)] := hP.m 0 0 (show 0 < 4 by decide)
  refine lv_aload_n hx hb dX11_ofPowder_0 rfl (lv_at hl 0 rfl) ?_
  refine lv_iconst (v := nI 0) hx hb dX11_ofPowder_1 (by decide) ?_
  refine hw_put (fs' := [.int (nI 0), .int (hs_G S 0), .int (hs_G S 1), .ref (ad 0 2), .ref (ad 0 3), .ref (ad 0 1)]) hx hb hts hown hk hI fp_X11_26 e0_0hP (Nat.le_of_ble_eq_true rfl) rfl rfl rfl dX11_ofPowder_2 (fun H locs hI => ?_)
  obtain ⟨M1, hM1⟩ : ∃ Y : hw_M, Y = va_up M (ad 0 0) (hw_ob 12 [.int (nI 0), .int (hs_G S 0), .int (hs_G S 1), .ref (ad 0 2), .ref (ad 0 3), .ref (ad 0 1)]) := ⟨_, rfl⟩
  replace hI := hI.eq hM1.symm
  obtain ⟨X1, hX1⟩ : ∃ Y : hr_X, Y = (nI 0, X.2) := ⟨_, rfl⟩
  have hP1 : hr_ok Z b1 M1 ad S X1 := by rw [hM1, hX1]; exact hP.th (nI 0)
  have ht1 : hr_th X1 = nI 0 := by rw [hX1]; rfl
  have hgr1 : hr_gr X1 = hr_gr X := by rw [hX1]; rfl
  have hqq1 : hr_qq X1 = hr_qq X := by rw [hX1]; rfl
  have fr1 : ∀ a, b1 a → M1 a = M a := fun a ha => by rw [hM1]; exact va_up_ne _ _ (hP.f (k := 0) (i := 0) (show 0 < 4 by decide) ha)
  have hA1 : ∀ a, b1 a → M1 a ≠ none := fun a ha => by rw [fr1 a ha]; exact hA a ha
  clear hP hX1
  have e0_0hP1 : M1 (ad 0 0) = hw_ob 12 [.int (hr_th X1), .int (hs_G S 0), .int (hs_G S 1), .ref (ad 0 2), .ref (ad 0 3), .ref (ad 0 1)] := hP1.m 0 0 (show 0 < 4 by decide)
  have e0_3hP1 : M1 (ad 0 3) = hw_ob 0 [.int (hr_mc X1 1), .ref (hr_d (hs_nw S) Z.2.2.2 (ad 12 0)), .int (nI (hs_nw S))] := hP1.m 0 3 (show 3 < 4 by decide)
  refine lv_aload_n hx hb dX11_ofPowder_5 rfl (lv_at hl 0 rfl) ?_
  refine lv_iload_n hx hb dX11_ofPowder_6 rfl (lv_at hl 1 rfl) ?_
  refine hw_ci hI (hw_rV hx hb hml hown hts hk hI (m_X11_isPowder l Z M1 (ad 0 0) (ad 0 2) (ad 0 3) (ad 0 1) (hr_th X1) (hs_G S 0) (hs_G S 1) ka (hr_mc X1 1) (hs_nw S) (.ref (hr_d (hs_nw S) Z.2.2.2 (ad 12 0))) e0_0hP1 e0_3hP1 (by omega)) cv_X11_91 e0_0hP1 rfl rfl ⟨rfl, rfl⟩ ⟨(Nat.le_of_ble_eq_true rfl), (Nat.le_of_ble_eq_true rfl)⟩ rfl hl.1 rfl (Nat.le_of_ble_eq_true rfl) ⟨(Nat.le_of_ble_eq_true rfl), (Nat.le_of_ble_eq_true rfl)⟩ dX11_ofPowder_7) (fun r7 M7 H locs hR hI => ?_)
  obtain ⟨rfl, rfl⟩ := hR
  refine lv_if_ne (tgt := 19) hx hb dX11_ofPowder_10 (by decide) (fun c10 => ?_) (fun c10 => ?_)
  · have gk := hq_dt c10
    refine lv_iload_n hx hb dX11_ofPowder_19 rfl (lv_at hl 2 rfl) ?_
    refine lv_iconst (v := nI 0) hx hb dX11_ofPowder_20 (by decide) ?_
    refine lv_iconst (v := nI 4) hx hb dX11_ofPowder_21 (by decide) ?_
    refine hw_ci hI (hw_rS hx hb hml hown hts hk hI (m_X11_in l Z M1 kw (nI 0) (nI 4)) cs_X11_40 ⟨rfl, rfl⟩ ⟨(Nat.le_of_ble_eq_true rfl), (Nat.le_of_ble_eq_true rfl)⟩ rfl hl.1 rfl (Nat.le_of_ble_eq_true rfl) ⟨(Nat.le_of_ble_eq_true rfl), (Nat.le_of_ble_eq_true rfl)⟩ dX11_ofPowder_22) (fun r22 M22 H locs hR hI => ?_)
    obtain ⟨rfl, rfl⟩ := hR
    refine hw_ti (congrArg (fun b => nI (Bool.toNat b)) (hb_in_okL (k := kw) (n := 4) (by decide))) ?_
    refine lv_if_ne (tgt := 34) hx hb dX11_ofPowder_25 (by decide) (fun c25 => ?_) (fun c25 => ?_)
    · have gk2 := hq_dt c25
      have hx_kw := hb_okx (by decide) gk2
      have hx_ka := hb_okx (by omega) gk
      refine lv_aload_n hx hb dX11_ofPowder_34 rfl (lv_at hl 0 rfl) ?_
      refine lv_iload_n hx hb dX11_ofPowder_35 rfl (lv_at hl 1 rfl) ?_
      refine hw_ti hx_ka.2 ?_
      refine lv_iload_n hx hb dX11_ofPowder_36 rfl (lv_at hl 2 rfl) ?_
      refine hw_ti hx_kw.2 ?_
      refine hw_ci hI (hw_rV hx hb hml hown hts hk hI (m_X11_powderNow l Z M1 ad S X1 b1 (hb_ix ka) (hb_ix kw) hP1 hV hx_ka.1 hx_kw.1) cv_X11_227 e0_0hP1 rfl rfl ⟨rfl, rfl⟩ ⟨(Nat.le_of_ble_eq_true rfl), (Nat.le_of_ble_eq_true rfl)⟩ rfl hl.1 rfl (Nat.le_of_ble_eq_true rfl) ⟨(Nat.le_of_ble_eq_true rfl), (Nat.le_of_ble_eq_true rfl)⟩ dX11_ofPowder_37) (fun r37 M37 H locs hR hI => ?_)
      obtain ⟨rfl, hF37⟩ := hR
      have hF_M37 : hr_F M1 M37 := hF37
      have hP_M37 : hr_ok Z b1 M37 ad S X1 := hP1.F hF_M37
      have fr_M37 : ∀ a, b1 a → M37 a = M a := fun a ha => (hF_M37 a (hA1 a ha)).trans (fr1 a ha)
      have hA_M37 : ∀ a, b1 a → M37 a ≠ none := fun a ha => by rw [fr_M37 a ha]; exact hA a ha
      have e0_0hP_M37 : M37 (ad 0 0) = hw_ob 12 [.int (hr_th X1), .int (hs_G S 0), .int (hs_G S 1), .ref (ad 0 2), .ref (ad 0 3), .ref (ad 0 1)] := hP_M37.m 0 0 (show 0 < 4 by decide)
      have hok : hr_ok Z b1 (M37) ad (S) (X1) := by
        refine hr_old hP_M37 (fun _ _ hi => hi) ?_ hP_M37.q hP_M37.g
        intro k i hi
        rcases k with _ | _ | _ | _ | _ | _ | _ | _ | _ | _ | _ | _ | _ | k
        · rcases (show i = 0 ∨ i = 1 ∨ i = 2 ∨ i = 3 by have h4 : i < 4 := hi; omega) with rfl | rfl | rfl | rfl
          · show (M37) (ad 0 0) = hw_ob 12 [.int (hr_th X1), .int (hs_G S 0), .int (hs_G S 1), .ref (ad 0 2), .ref (ad 0 3), .ref (ad 0 1)]
            refine (hP_M37.m 0 0 (show 0 < 4 by decide)).trans ?_
            first | rfl | (simp only [va_up_self]; done) | (simp only [va_up_self]; rfl)
          · show (M37) (ad 0 1) = hw_ar Z 6 2 (fun j => some (ad 7 j))
            refine (hP_M37.m 0 1 (show 1 < 4 by decide)).trans ?_
            first | rfl | (simp only [va_up_self]; done) | (simp only [va_up_self]; rfl)
          · show (M37) (ad 0 2) = hw_ob 0 [.int (hr_mc X1 0), .ref (hr_d (hs_np S) Z.2.2.2 (ad 11 0)), .int (nI (hs_np S))]
            refine (hP_M37.m 0 2 (show 2 < 4 by decide)).trans ?_
            first | rfl | (simp only [va_up_self]; done) | (simp only [va_up_self]; rfl)
          · show (M37) (ad 0 3) = hw_ob 0 [.int (hr_mc X1 1), .ref (hr_d (hs_nw S) Z.2.2.2 (ad 12 0)), .int (nI (hs_nw S))]
            refine (hP_M37.m 0 3 (show 3 < 4 by decide)).trans ?_
            first | rfl | (simp only [va_up_self]; done) | (simp only [va_up_self]; rfl)
        · show (M37) (ad 1 i) = hw_ob 9 [.ref (ad 2 i), .int (hs_P S i 0), .ref (ad 4 i), .int (hs_P S i 3), .int (hs_P S i 4), .int (hs_P S i 5), .int (hs_P S i 6), .int (hs_P S i 7), .int (hs_P S i 8)]
          refine (hP_M37.m 1 i hi).trans ?_
          first | rfl
        · show (M37) (ad 2 i) = hw_ob 11 [.ref (ad 3 i)]
          refine (hP_M37.m 2 i hi).trans ?_
          first | rfl
        · show (M37) (ad 3 i) = hw_al Z 8 (hs_C S i)
          refine (hP_M37.m 3 i hi).trans ?_
          first | rfl
        · show (M37) (ad 4 i) = hw_ob 7 [.double (hr_en (hs_P S i)), .ref (ad 5 i), .double (hs_U S i), .int (hs_P S i 1), .int (hs_P S i 2), .int (nI (hs_D S i))]
          refine (hP_M37.m 4 i hi).trans ?_
          first | rfl
        · show (M37) (ad 5 i) = hw_ad Z 64 (hs_W S i)
          refine (hP_M37.m 5 i hi).trans ?_
          first | rfl
        · show (M37) (ad 6 i) = hw_ob 10 [.int (hs_V S i 0), .int (hs_V S i 1), .int (hs_V S i 2), .int (hs_V S i 3), .int (hs_V S i 4)]
          refine (hP_M37.m 6 i hi).trans ?_
          first | rfl
        · show (M37) (ad 7 i) = hw_ob 8 [.int (hs_M S i 0), .int (hs_M S i 1), .int (hs_M S i 2), .int (hs_M S i 3), .ref (ad 8 i)]
          refine (hP_M37.m 7 i hi).trans ?_
          first | rfl
        · show (M37) (ad 8 i) = hw_ob 0 [.int (hr_mc X1 (2 + i)), .ref (if hr_gr X1 i then ad 9 i else Z.2.2.2), .int (nI (hs_N S i))]
          refine (hP_M37.m 8 i hi).trans ?_
          first | rfl
        · show (M37) (ad 9 i) = hw_ar Z 7 10 (hc_f (fun j => ad 10 (i + 2 * j)) (hs_N S i))
          refine (hP_M37.m 9 i hi).trans ?_
          first | rfl
        · show (M37) (ad 10 i) = hw_ai Z 3 (hr_qq X1 (i % 2) (i / 2))
          refine (hP_M37.m 10 i hi).trans ?_
          first | rfl
        · show (M37) (ad 11 i) = hw_ar Z 7 10 (hc_f (ad 1) (hs_np S))
          refine (hP_M37.m 11 i hi).trans ?_
          first | rfl
        · show (M37) (ad 12 i) = hw_ar Z 7 10 (hc_f (ad 6) (hs_nw S))
          refine (hP_M37.m 12 i hi).trans ?_
          first | rfl
        · exact hi.elim
      have fr_hok : ∀ a, b1 a → (M37) a = M a := fun a ha => fr_M37 a ha
      have hfin : hr_R Z b1 M ad (st_ofPowder S ka kw) (hs_V S (hb_ix ka) (hb_ix kw)) (M37) := hr_r (S' := S) (X' := X1) (ad' := ad) (by unfold st_ofPowder; exact ((if_neg (fun q => q gk)).trans ((if_neg (fun q => q gk2)).trans rfl))) rfl hok ht1 fr_hok
      exact hret hI hfin (Nat.le_of_ble_eq_true rfl) (Nat.le_of_ble_eq_true rfl) dX11_ofPowder_40
    · refine lv_aload_n hx hb dX11_ofPowder_28 rfl (lv_at hl 0 rfl) ?_
      refine lv_iconst (v := nI 2) hx hb dX11_ofPowder_29 (by decide) ?_
      refine hw_ci hI (hw_rV hx hb hml hown hts hk hI (m_X11_no l Z M1 (ad 0 0) (ad 0 2) (ad 0 3) (ad 0 1) (hr_th X1) (hs_G S 0) (hs_G S 1) (nI 2) e0_0hP1) cv_X11_44 e0_0hP1 rfl rfl ⟨rfl, rfl⟩ ⟨(Nat.le_of_ble_eq_true rfl), (Nat.le_of_ble_eq_true rfl)⟩ rfl hl.1 rfl (Nat.le_of_ble_eq_true rfl) ⟨(Nat.le_of_ble_eq_true rfl), (Nat.le_of_ble_eq_true rfl)⟩ dX11_ofPowder_30) (fun r30 M30 H locs hR hI => ?_)
      obtain ⟨rfl, rfl⟩ := hR
      exact hret hI (hr_x (n := 2) (by unfold st_ofPowder; exact (hq_el (fun q => q gk) (hq_if (hq_df c25) ⟨rfl, rfl⟩))) (by decide) (hP1.th (nI 2)) rfl (fun a ha => (va_up_ne _ _ (hP1.f (k := 0) (i := 0) (show 0 < 4 by decide) ha)).trans (fr1 a ha))) (Nat.le_of_ble_eq_true rfl) (Nat.le_of_ble_eq_true rfl) dX11_ofPowder_33
  · refine lv_aload_n hx hb dX11_ofPowder_13 rfl (lv_at hl 0 rfl) ?_
    refine lv_iconst (v := nI 1) hx hb dX11_ofPowder_14 (by decide) ?_
    refine hw_ci hI (hw_rV hx hb hml hown hts hk hI (m_X11_no l Z M1 (ad 0 0) (ad 0 2) (ad 0 3) (ad 0 1) (hr_th X1) (hs_G S 0) (hs_G S 1) (nI 1) e0_0hP1) cv_X11_44 e0_0hP1 rfl rfl ⟨rfl, rfl⟩ ⟨(Nat.le_of_ble_eq_true rfl), (Nat.le_of_ble_eq_true rfl)⟩ rfl hl.1 rfl (Nat.le_of_ble_eq_true rfl) ⟨(Nat.le_of_ble_eq_true rfl), (Nat.le_of_ble_eq_true rfl)⟩ dX11_ofPowder_15) (fun r15 M15 H locs hR hI => ?_)
    obtain ⟨rfl, rfl⟩ := hR
    exact hret hI (hr_x (n := 1) (by unfold st_ofPowder; exact (hq_if (hq_df c10) ⟨rfl, rfl⟩)) (by decide) (hP1.th (nI 1)) rfl (fun a ha => (va_up_ne _ _ (hP1.f (k := 0) (i := 0) (show 0 < 4 by decide) ha)).trans (fr1 a ha))) (Nat.le_of_ble_eq_true rfl) (Nat.le_of_ble_eq_true rfl) dX11_ofPowder_18

set_option maxHeartbeats 4000000 in
set_option maxRecDepth 100000 in
theorem m_X11_ofMachine (l : Launch) (Z : hw_Z) (M : hw_M) (ad : hp_ad) (S : hs_S) (X : hr_X) (b1 : Nat → Prop) (ka : Int32) (kw : Int32) (hP : hr_ok Z b1 M ad S X) (hV : hv_ok S) (hA : ∀ a, b1 a → M a ≠ none) : Met l yX11_ofMachine (hw_m yX11_ofMachine cX11_ofMachine 3 (some .int)) ({ frames := 8, cells := 2, slots := 90, locals := 250 } : Room) (va_Pc [.ref (ad 0 0), .int ka, .int kw] (hw_P Z M)) (hw_Qi Z (hr_R Z b1 M ad (st_ofMachine S ka kw))) 2 90 (hw_A Z) := by
  refine hw_ofi (by decide +kernel) rfl (Nat.le_of_ble_eq_true rfl) ?_
  intro p e s m below meth c ls Q hx hb hml hown hts hk hnm hI hl hret
  have hB := hV.b
  have hnp := hB.np
  have hnw := hB.nw
  have e0_0hP : M (ad 0 0) = hw_ob 12 [.int (hr_th X), .int (hs_G S 0), .int (hs_G S 1), .ref (ad 0 2), .ref (ad 0 3), .ref (ad 0 1)] := hP.m 0 0 (show 0 < 4 by decide)
  refine lv_aload_n hx hb dX11_ofMachine_0 rfl (lv_at hl 0 rfl) ?_
  refine lv_iconst (v := nI 0) hx hb dX11_ofMachine_1 (by decide) ?_
  refine hw_put (fs' := [.int (nI 0), .int (hs_G S 0), .int (hs_G S 1), .ref (ad 0 2), .ref (ad 0 3), .ref (ad 0 1)]) hx hb hts hown hk hI fp_X11_26 e0_0hP (Nat.le_of_ble_eq_true rfl) rfl rfl rfl dX11_ofMachine_2 (fun H locs hI => ?_)
  obtain ⟨M1, hM1⟩ : ∃ Y : hw_M, Y = va_up M (ad 0 0) (hw_ob 12 [.int (nI 0), .int (hs_G S 0), .int (hs_G S 1), .ref (ad 0 2), .ref (ad 0 3), .ref (ad 0 1)]) := ⟨_, rfl⟩
  replace hI := hI.eq hM1.symm
  obtain ⟨X1, hX1⟩ : ∃ Y : hr_X, Y = (nI 0, X.2) := ⟨_, rfl⟩
  have hP1 : hr_ok Z b1 M1 ad S X1 := by rw [hM1, hX1]; exact hP.th (nI 0)
  have ht1 : hr_th X1 = nI 0 := by rw [hX1]; rfl
  have hgr1 : hr_gr X1 = hr_gr X := by rw [hX1]; rfl
  have hqq1 : hr_qq X1 = hr_qq X := by rw [hX1]; rfl
  have fr1 : ∀ a, b1 a → M1 a = M a := fun a ha => by rw [hM1]; exact va_up_ne _ _ (hP.f (k := 0) (i := 0) (show 0 < 4 by decide) ha)
  have hA1 : ∀ a, b1 a → M1 a ≠ none := fun a ha => by rw [fr1 a ha]; exact hA a ha
  clear hP hX1
  have e0_0hP1 : M1 (ad 0 0) = hw_ob 12 [.int (hr_th X1), .int (hs_G S 0), .int (hs_G S 1), .ref (ad 0 2), .ref (ad 0 3), .ref (ad 0 1)] := hP1.m 0 0 (show 0 < 4 by decide)
  refine lv_iload_n hx hb dX11_ofMachine_5 rfl (lv_at hl 1 rfl) ?_
  refine hw_ci hI (hw_rS hx hb hml hown hts hk hI (m_X11_isMachine l Z M1 ka) cs_X11_115 ⟨rfl, rfl⟩ ⟨(Nat.le_of_ble_eq_true rfl), (Nat.le_of_ble_eq_true rfl)⟩ rfl hl.1 rfl (Nat.le_of_ble_eq_true rfl) ⟨(Nat.le_of_ble_eq_true rfl), (Nat.le_of_ble_eq_true rfl)⟩ dX11_ofMachine_6) (fun r6 M6 H locs hR hI => ?_)
  obtain ⟨rfl, rfl⟩ := hR
  refine lv_if_ne (tgt := 18) hx hb dX11_ofMachine_9 (by decide) (fun c9 => ?_) (fun c9 => ?_)
  · have gk := hq_dt c9
    refine lv_iload_n hx hb dX11_ofMachine_18 rfl (lv_at hl 2 rfl) ?_
    refine lv_iconst (v := nI 0) hx hb dX11_ofMachine_19 (by decide) ?_
    refine lv_iconst (v := nI 4) hx hb dX11_ofMachine_20 (by decide) ?_
    refine hw_ci hI (hw_rS hx hb hml hown hts hk hI (m_X11_in l Z M1 kw (nI 0) (nI 4)) cs_X11_40 ⟨rfl, rfl⟩ ⟨(Nat.le_of_ble_eq_true rfl), (Nat.le_of_ble_eq_true rfl)⟩ rfl hl.1 rfl (Nat.le_of_ble_eq_true rfl) ⟨(Nat.le_of_ble_eq_true rfl), (Nat.le_of_ble_eq_true rfl)⟩ dX11_ofMachine_21) (fun r21 M21 H locs hR hI => ?_)
    obtain ⟨rfl, rfl⟩ := hR
    refine hw_ti (congrArg (fun b => nI (Bool.toNat b)) (hb_in_okL (k := kw) (n := 4) (by decide))) ?_
    refine lv_if_ne (tgt := 33) hx hb dX11_ofMachine_24 (by decide) (fun c24 => ?_) (fun c24 => ?_)
    · have gk2 := hq_dt c24
      have hx_kw := hb_okx (by decide) gk2
      have hx_ka := hb_okx (by decide) gk
      refine lv_aload_n hx hb dX11_ofMachine_33 rfl (lv_at hl 0 rfl) ?_
      refine lv_iload_n hx hb dX11_ofMachine_34 rfl (lv_at hl 1 rfl) ?_
      refine hw_ti hx_ka.2 ?_
      refine lv_iload_n hx hb dX11_ofMachine_35 rfl (lv_at hl 2 rfl) ?_
      refine hw_ti hx_kw.2 ?_
      refine hw_ci hI (hw_rV hx hb hml hown hts hk hI (m_X11_machineNow l Z M1 ad S X1 b1 (hb_ix ka) (hb_ix kw) hP1 hV hx_ka.1 hx_kw.1) cv_X11_230 e0_0hP1 rfl rfl ⟨rfl, rfl⟩ ⟨(Nat.le_of_ble_eq_true rfl), (Nat.le_of_ble_eq_true rfl)⟩ rfl hl.1 rfl (Nat.le_of_ble_eq_true rfl) ⟨(Nat.le_of_ble_eq_true rfl), (Nat.le_of_ble_eq_true rfl)⟩ dX11_ofMachine_36) (fun r36 M36 H locs hR hI => ?_)
      obtain ⟨rfl, hF36⟩ := hR
      have hF_M36 : hr_F M1 M36 := hF36
      have hP_M36 : hr_ok Z b1 M36 ad S X1 := hP1.F hF_M36
      have fr_M36 : ∀ a, b1 a → M36 a = M a := fun a ha => (hF_M36 a (hA1 a ha)).trans (fr1 a ha)
      have hA_M36 : ∀ a, b1 a → M36 a ≠ none := fun a ha => by rw [fr_M36 a ha]; exact hA a ha
      have e0_0hP_M36 : M36 (ad 0 0) = hw_ob 12 [.int (hr_th X1), .int (hs_G S 0), .int (hs_G S 1), .ref (ad 0 2), .ref (ad 0 3), .ref (ad 0 1)] := hP_M36.m 0 0 (show 0 < 4 by decide)
      have hok : hr_ok Z b1 (M36) ad (S) (X1) := by
        refine hr_old hP_M36 (fun _ _ hi => hi) ?_ hP_M36.q hP_M36.g
        intro k i hi
        rcases k with _ | _ | _ | _ | _ | _ | _ | _ | _ | _ | _ | _ | _ | k
        · rcases (show i = 0 ∨ i = 1 ∨ i = 2 ∨ i = 3 by have h4 : i < 4 := hi; omega) with rfl | rfl | rfl | rfl
          · show (M36) (ad 0 0) = hw_ob 12 [.int (hr_th X1), .int (hs_G S 0), .int (hs_G S 1), .ref (ad 0 2), .ref (ad 0 3), .ref (ad 0 1)]
            refine (hP_M36.m 0 0 (show 0 < 4 by decide)).trans ?_
            first | rfl | (simp only [va_up_self]; done) | (simp only [va_up_self]; rfl)
          · show (M36) (ad 0 1) = hw_ar Z 6 2 (fun j => some (ad 7 j))
            refine (hP_M36.m 0 1 (show 1 < 4 by decide)).trans ?_
            first | rfl | (simp only [va_up_self]; done) | (simp only [va_up_self]; rfl)
          · show (M36) (ad 0 2) = hw_ob 0 [.int (hr_mc X1 0), .ref (hr_d (hs_np S) Z.2.2.2 (ad 11 0)), .int (nI (hs_np S))]
            refine (hP_M36.m 0 2 (show 2 < 4 by decide)).trans ?_
            first | rfl | (simp only [va_up_self]; done) | (simp only [va_up_self]; rfl)
          · show (M36) (ad 0 3) = hw_ob 0 [.int (hr_mc X1 1), .ref (hr_d (hs_nw S) Z.2.2.2 (ad 12 0)), .int (nI (hs_nw S))]
            refine (hP_M36.m 0 3 (show 3 < 4 by decide)).trans ?_
            first | rfl | (simp only [va_up_self]; done) | (simp only [va_up_self]; rfl)
        · show (M36) (ad 1 i) = hw_ob 9 [.ref (ad 2 i), .int (hs_P S i 0), .ref (ad 4 i), .int (hs_P S i 3), .int (hs_P S i 4), .int (hs_P S i 5), .int (hs_P S i 6), .int (hs_P S i 7), .int (hs_P S i 8)]
          refine (hP_M36.m 1 i hi).trans ?_
          first | rfl
        · show (M36) (ad 2 i) = hw_ob 11 [.ref (ad 3 i)]
          refine (hP_M36.m 2 i hi).trans ?_
          first | rfl
        · show (M36) (ad 3 i) = hw_al Z 8 (hs_C S i)
          refine (hP_M36.m 3 i hi).trans ?_
          first | rfl
        · show (M36) (ad 4 i) = hw_ob 7 [.double (hr_en (hs_P S i)), .ref (ad 5 i), .double (hs_U S i), .int (hs_P S i 1), .int (hs_P S i 2), .int (nI (hs_D S i))]
          refine (hP_M36.m 4 i hi).trans ?_
          first | rfl
        · show (M36) (ad 5 i) = hw_ad Z 64 (hs_W S i)
          refine (hP_M36.m 5 i hi).trans ?_
          first | rfl
        · show (M36) (ad 6 i) = hw_ob 10 [.int (hs_V S i 0), .int (hs_V S i 1), .int (hs_V S i 2), .int (hs_V S i 3), .int (hs_V S i 4)]
          refine (hP_M36.m 6 i hi).trans ?_
          first | rfl
        · show (M36) (ad 7 i) = hw_ob 8 [.int (hs_M S i 0), .int (hs_M S i 1), .int (hs_M S i 2), .int (hs_M S i 3), .ref (ad 8 i)]
          refine (hP_M36.m 7 i hi).trans ?_
          first | rfl
        · show (M36) (ad 8 i) = hw_ob 0 [.int (hr_mc X1 (2 + i)), .ref (if hr_gr X1 i then ad 9 i else Z.2.2.2), .int (nI (hs_N S i))]
          refine (hP_M36.m 8 i hi).trans ?_
          first | rfl
        · show (M36) (ad 9 i) = hw_ar Z 7 10 (hc_f (fun j => ad 10 (i + 2 * j)) (hs_N S i))
          refine (hP_M36.m 9 i hi).trans ?_
          first | rfl
        · show (M36) (ad 10 i) = hw_ai Z 3 (hr_qq X1 (i % 2) (i / 2))
          refine (hP_M36.m 10 i hi).trans ?_
          first | rfl
        · show (M36) (ad 11 i) = hw_ar Z 7 10 (hc_f (ad 1) (hs_np S))
          refine (hP_M36.m 11 i hi).trans ?_
          first | rfl
        · show (M36) (ad 12 i) = hw_ar Z 7 10 (hc_f (ad 6) (hs_nw S))
          refine (hP_M36.m 12 i hi).trans ?_
          first | rfl
        · exact hi.elim
      have fr_hok : ∀ a, b1 a → (M36) a = M a := fun a ha => fr_M36 a ha
      have hfin : hr_R Z b1 M ad (st_ofMachine S ka kw) (hs_om S (hb_ix ka) (hb_ix kw)) (M36) := hr_r (S' := S) (X' := X1) (ad' := ad) (by unfold st_ofMachine; exact ((if_neg (fun q => q gk)).trans ((if_neg (fun q => q gk2)).trans rfl))) rfl hok ht1 fr_hok
      exact hret hI hfin (Nat.le_of_ble_eq_true rfl) (Nat.le_of_ble_eq_true rfl) dX11_ofMachine_39
    · refine lv_aload_n hx hb dX11_ofMachine_27 rfl (lv_at hl 0 rfl) ?_
      refine lv_iconst (v := nI 2) hx hb dX11_ofMachine_28 (by decide) ?_
      refine hw_ci hI (hw_rV hx hb hml hown hts hk hI (m_X11_no l Z M1 (ad 0 0) (ad 0 2) (ad 0 3) (ad 0 1) (hr_th X1) (hs_G S 0) (hs_G S 1) (nI 2) e0_0hP1) cv_X11_44 e0_0hP1 rfl rfl ⟨rfl, rfl⟩ ⟨(Nat.le_of_ble_eq_true rfl), (Nat.le_of_ble_eq_true rfl)⟩ rfl hl.1 rfl (Nat.le_of_ble_eq_true rfl) ⟨(Nat.le_of_ble_eq_true rfl), (Nat.le_of_ble_eq_true rfl)⟩ dX11_ofMachine_29) (fun r29 M29 H locs hR hI => ?_)
      obtain ⟨rfl, rfl⟩ := hR
      exact hret hI (hr_x (n := 2) (by unfold st_ofMachine; exact (hq_el (fun q => q gk) (hq_if (hq_df c24) ⟨rfl, rfl⟩))) (by decide) (hP1.th (nI 2)) rfl (fun a ha => (va_up_ne _ _ (hP1.f (k := 0) (i := 0) (show 0 < 4 by decide) ha)).trans (fr1 a ha))) (Nat.le_of_ble_eq_true rfl) (Nat.le_of_ble_eq_true rfl) dX11_ofMachine_32
  · refine lv_aload_n hx hb dX11_ofMachine_12 rfl (lv_at hl 0 rfl) ?_
    refine lv_iconst (v := nI 1) hx hb dX11_ofMachine_13 (by decide) ?_
    refine hw_ci hI (hw_rV hx hb hml hown hts hk hI (m_X11_no l Z M1 (ad 0 0) (ad 0 2) (ad 0 3) (ad 0 1) (hr_th X1) (hs_G S 0) (hs_G S 1) (nI 1) e0_0hP1) cv_X11_44 e0_0hP1 rfl rfl ⟨rfl, rfl⟩ ⟨(Nat.le_of_ble_eq_true rfl), (Nat.le_of_ble_eq_true rfl)⟩ rfl hl.1 rfl (Nat.le_of_ble_eq_true rfl) ⟨(Nat.le_of_ble_eq_true rfl), (Nat.le_of_ble_eq_true rfl)⟩ dX11_ofMachine_14) (fun r14 M14 H locs hR hI => ?_)
    obtain ⟨rfl, rfl⟩ := hR
    exact hret hI (hr_x (n := 1) (by unfold st_ofMachine; exact (hq_if (hq_df c9) ⟨rfl, rfl⟩)) (by decide) (hP1.th (nI 1)) rfl (fun a ha => (va_up_ne _ _ (hP1.f (k := 0) (i := 0) (show 0 < 4 by decide) ha)).trans (fr1 a ha))) (Nat.le_of_ble_eq_true rfl) (Nat.le_of_ble_eq_true rfl) dX11_ofMachine_17

set_option maxHeartbeats 4000000 in
set_option maxRecDepth 100000 in
theorem m_X11_recall (l : Launch) (Z : hw_Z) (M : hw_M) (ad : hp_ad) (S : hs_S) (X : hr_X) (b1 : Nat → Prop) (ka : Int32) (hP : hr_ok Z b1 M ad S X) (hV : hv_ok S) (hA : ∀ a, b1 a → M a ≠ none) : Met l yX11_recall (hw_m yX11_recall cX11_recall 2 (some .int)) ({ frames := 8, cells := 2, slots := 90, locals := 250 } : Room) (va_Pc [.ref (ad 0 0), .int ka] (hw_P Z M)) (hw_Qi Z (hr_R Z b1 M ad (st_recall S ka))) 2 90 (hw_A Z) := by
  refine hw_ofi (by decide +kernel) rfl (Nat.le_of_ble_eq_true rfl) ?_
  intro p e s m below meth c ls Q hx hb hml hown hts hk hnm hI hl hret
  have hB := hV.b
  have hnp := hB.np
  have hnw := hB.nw
  have e0_0hP : M (ad 0 0) = hw_ob 12 [.int (hr_th X), .int (hs_G S 0), .int (hs_G S 1), .ref (ad 0 2), .ref (ad 0 3), .ref (ad 0 1)] := hP.m 0 0 (show 0 < 4 by decide)
  refine lv_aload_n hx hb dX11_recall_0 rfl (lv_at hl 0 rfl) ?_
  refine lv_iconst (v := nI 0) hx hb dX11_recall_1 (by decide) ?_
  refine hw_put (fs' := [.int (nI 0), .int (hs_G S 0), .int (hs_G S 1), .ref (ad 0 2), .ref (ad 0 3), .ref (ad 0 1)]) hx hb hts hown hk hI fp_X11_26 e0_0hP (Nat.le_of_ble_eq_true rfl) rfl rfl rfl dX11_recall_2 (fun H locs hI => ?_)
  obtain ⟨M1, hM1⟩ : ∃ Y : hw_M, Y = va_up M (ad 0 0) (hw_ob 12 [.int (nI 0), .int (hs_G S 0), .int (hs_G S 1), .ref (ad 0 2), .ref (ad 0 3), .ref (ad 0 1)]) := ⟨_, rfl⟩
  replace hI := hI.eq hM1.symm
  obtain ⟨X1, hX1⟩ : ∃ Y : hr_X, Y = (nI 0, X.2) := ⟨_, rfl⟩
  have hP1 : hr_ok Z b1 M1 ad S X1 := by rw [hM1, hX1]; exact hP.th (nI 0)
  have ht1 : hr_th X1 = nI 0 := by rw [hX1]; rfl
  have hgr1 : hr_gr X1 = hr_gr X := by rw [hX1]; rfl
  have hqq1 : hr_qq X1 = hr_qq X := by rw [hX1]; rfl
  have fr1 : ∀ a, b1 a → M1 a = M a := fun a ha => by rw [hM1]; exact va_up_ne _ _ (hP.f (k := 0) (i := 0) (show 0 < 4 by decide) ha)
  have hA1 : ∀ a, b1 a → M1 a ≠ none := fun a ha => by rw [fr1 a ha]; exact hA a ha
  clear hP hX1
  have e0_0hP1 : M1 (ad 0 0) = hw_ob 12 [.int (hr_th X1), .int (hs_G S 0), .int (hs_G S 1), .ref (ad 0 2), .ref (ad 0 3), .ref (ad 0 1)] := hP1.m 0 0 (show 0 < 4 by decide)
  have e0_3hP1 : M1 (ad 0 3) = hw_ob 0 [.int (hr_mc X1 1), .ref (hr_d (hs_nw S) Z.2.2.2 (ad 12 0)), .int (nI (hs_nw S))] := hP1.m 0 3 (show 3 < 4 by decide)
  refine lv_aload_n hx hb dX11_recall_5 rfl (lv_at hl 0 rfl) ?_
  refine lv_iload_n hx hb dX11_recall_6 rfl (lv_at hl 1 rfl) ?_
  refine hw_ci hI (hw_rV hx hb hml hown hts hk hI (m_X11_isPowder l Z M1 (ad 0 0) (ad 0 2) (ad 0 3) (ad 0 1) (hr_th X1) (hs_G S 0) (hs_G S 1) ka (hr_mc X1 1) (hs_nw S) (.ref (hr_d (hs_nw S) Z.2.2.2 (ad 12 0))) e0_0hP1 e0_3hP1 (by omega)) cv_X11_91 e0_0hP1 rfl rfl ⟨rfl, rfl⟩ ⟨(Nat.le_of_ble_eq_true rfl), (Nat.le_of_ble_eq_true rfl)⟩ rfl hl.1 rfl (Nat.le_of_ble_eq_true rfl) ⟨(Nat.le_of_ble_eq_true rfl), (Nat.le_of_ble_eq_true rfl)⟩ dX11_recall_7) (fun r7 M7 H locs hR hI => ?_)
  obtain ⟨rfl, rfl⟩ := hR
  refine lv_if_ne (tgt := 19) hx hb dX11_recall_10 (by decide) (fun c10 => ?_) (fun c10 => ?_)
  · have gk := hq_dt c10
    have hx_ka := hb_okx (by omega) gk
    refine lv_aload_n hx hb dX11_recall_19 rfl (lv_at hl 0 rfl) ?_
    refine lv_iload_n hx hb dX11_recall_20 rfl (lv_at hl 1 rfl) ?_
    refine hw_ti hx_ka.2 ?_
    refine hw_ci hI (hw_rV hx hb hml hown hts hk hI (m_X11_recallNow l Z M1 ad S X1 b1 (hb_ix ka) hP1 hV (by have := hx_ka.1; omega)) cv_X11_233 e0_0hP1 rfl rfl ⟨rfl, rfl⟩ ⟨(Nat.le_of_ble_eq_true rfl), (Nat.le_of_ble_eq_true rfl)⟩ rfl hl.1 rfl (Nat.le_of_ble_eq_true rfl) ⟨(Nat.le_of_ble_eq_true rfl), (Nat.le_of_ble_eq_true rfl)⟩ dX11_recall_21) (fun r21 M21 H locs hR hI => ?_)
    obtain ⟨rfl, rfl⟩ := hR
    have hok : hr_ok Z b1 (M1) ad (S) (X1) := by
      refine hr_old hP1 (fun _ _ hi => hi) ?_ hP1.q hP1.g
      intro k i hi
      rcases k with _ | _ | _ | _ | _ | _ | _ | _ | _ | _ | _ | _ | _ | k
      · rcases (show i = 0 ∨ i = 1 ∨ i = 2 ∨ i = 3 by have h4 : i < 4 := hi; omega) with rfl | rfl | rfl | rfl
        · show (M1) (ad 0 0) = hw_ob 12 [.int (hr_th X1), .int (hs_G S 0), .int (hs_G S 1), .ref (ad 0 2), .ref (ad 0 3), .ref (ad 0 1)]
          refine (hP1.m 0 0 (show 0 < 4 by decide)).trans ?_
          first | rfl | (simp only [va_up_self]; done) | (simp only [va_up_self]; rfl)
        · show (M1) (ad 0 1) = hw_ar Z 6 2 (fun j => some (ad 7 j))
          refine (hP1.m 0 1 (show 1 < 4 by decide)).trans ?_
          first | rfl | (simp only [va_up_self]; done) | (simp only [va_up_self]; rfl)
        · show (M1) (ad 0 2) = hw_ob 0 [.int (hr_mc X1 0), .ref (hr_d (hs_np S) Z.2.2.2 (ad 11 0)), .int (nI (hs_np S))]
          refine (hP1.m 0 2 (show 2 < 4 by decide)).trans ?_
          first | rfl | (simp only [va_up_self]; done) | (simp only [va_up_self]; rfl)
        · show (M1) (ad 0 3) = hw_ob 0 [.int (hr_mc X1 1), .ref (hr_d (hs_nw S) Z.2.2.2 (ad 12 0)), .int (nI (hs_nw S))]
          refine (hP1.m 0 3 (show 3 < 4 by decide)).trans ?_
          first | rfl | (simp only [va_up_self]; done) | (simp only [va_up_self]; rfl)
      · show (M1) (ad 1 i) = hw_ob 9 [.ref (ad 2 i), .int (hs_P S i 0), .ref (ad 4 i), .int (hs_P S i 3), .int (hs_P S i 4), .int (hs_P S i 5), .int (hs_P S i 6), .int (hs_P S i 7), .int (hs_P S i 8)]
        refine (hP1.m 1 i hi).trans ?_
        first | rfl
      · show (M1) (ad 2 i) = hw_ob 11 [.ref (ad 3 i)]
        refine (hP1.m 2 i hi).trans ?_
        first | rfl
      · show (M1) (ad 3 i) = hw_al Z 8 (hs_C S i)
        refine (hP1.m 3 i hi).trans ?_
        first | rfl
      · show (M1) (ad 4 i) = hw_ob 7 [.double (hr_en (hs_P S i)), .ref (ad 5 i), .double (hs_U S i), .int (hs_P S i 1), .int (hs_P S i 2), .int (nI (hs_D S i))]
        refine (hP1.m 4 i hi).trans ?_
        first | rfl
      · show (M1) (ad 5 i) = hw_ad Z 64 (hs_W S i)
        refine (hP1.m 5 i hi).trans ?_
        first | rfl
      · show (M1) (ad 6 i) = hw_ob 10 [.int (hs_V S i 0), .int (hs_V S i 1), .int (hs_V S i 2), .int (hs_V S i 3), .int (hs_V S i 4)]
        refine (hP1.m 6 i hi).trans ?_
        first | rfl
      · show (M1) (ad 7 i) = hw_ob 8 [.int (hs_M S i 0), .int (hs_M S i 1), .int (hs_M S i 2), .int (hs_M S i 3), .ref (ad 8 i)]
        refine (hP1.m 7 i hi).trans ?_
        first | rfl
      · show (M1) (ad 8 i) = hw_ob 0 [.int (hr_mc X1 (2 + i)), .ref (if hr_gr X1 i then ad 9 i else Z.2.2.2), .int (nI (hs_N S i))]
        refine (hP1.m 8 i hi).trans ?_
        first | rfl
      · show (M1) (ad 9 i) = hw_ar Z 7 10 (hc_f (fun j => ad 10 (i + 2 * j)) (hs_N S i))
        refine (hP1.m 9 i hi).trans ?_
        first | rfl
      · show (M1) (ad 10 i) = hw_ai Z 3 (hr_qq X1 (i % 2) (i / 2))
        refine (hP1.m 10 i hi).trans ?_
        first | rfl
      · show (M1) (ad 11 i) = hw_ar Z 7 10 (hc_f (ad 1) (hs_np S))
        refine (hP1.m 11 i hi).trans ?_
        first | rfl
      · show (M1) (ad 12 i) = hw_ar Z 7 10 (hc_f (ad 6) (hs_nw S))
        refine (hP1.m 12 i hi).trans ?_
        first | rfl
      · exact hi.elim
    have fr_hok : ∀ a, b1 a → (M1) a = M a := fun a ha => fr1 a ha
    have hfin : hr_R Z b1 M ad (st_recall S ka) (hs_re S (hb_ix ka) (hs_np S)) (M1) := hr_r (S' := S) (X' := X1) (ad' := ad) (by unfold st_recall; exact ((if_neg (fun q => q gk)).trans rfl)) rfl hok ht1 fr_hok
    exact hret hI hfin (Nat.le_of_ble_eq_true rfl) (Nat.le_of_ble_eq_true rfl) dX11_recall_24
  · refine lv_aload_n hx hb dX11_recall_13 rfl (lv_at hl 0 rfl) ?_
    refine lv_iconst (v := nI 1) hx hb dX11_recall_14 (by decide) ?_
    refine hw_ci hI (hw_rV hx hb hml hown hts hk hI (m_X11_no l Z M1 (ad 0 0) (ad 0 2) (ad 0 3) (ad 0 1) (hr_th X1) (hs_G S 0) (hs_G S 1) (nI 1) e0_0hP1) cv_X11_44 e0_0hP1 rfl rfl ⟨rfl, rfl⟩ ⟨(Nat.le_of_ble_eq_true rfl), (Nat.le_of_ble_eq_true rfl)⟩ rfl hl.1 rfl (Nat.le_of_ble_eq_true rfl) ⟨(Nat.le_of_ble_eq_true rfl), (Nat.le_of_ble_eq_true rfl)⟩ dX11_recall_15) (fun r15 M15 H locs hR hI => ?_)
    obtain ⟨rfl, rfl⟩ := hR
    exact hret hI (hr_x (n := 1) (by unfold st_recall; exact (hq_if (hq_df c10) ⟨rfl, rfl⟩)) (by decide) (hP1.th (nI 1)) rfl (fun a ha => (va_up_ne _ _ (hP1.f (k := 0) (i := 0) (show 0 < 4 by decide) ha)).trans (fr1 a ha))) (Nat.le_of_ble_eq_true rfl) (Nat.le_of_ble_eq_true rfl) dX11_recall_18

set_option maxHeartbeats 4000000 in
set_option maxRecDepth 100000 in
theorem m_X11_many (l : Launch) (Z : hw_Z) (M : hw_M) (ad : hp_ad) (S : hs_S) (X : hr_X) (b1 : Nat → Prop) (kw : Int32) (hP : hr_ok Z b1 M ad S X) (hV : hv_ok S) (hA : ∀ a, b1 a → M a ≠ none) : Met l yX11_many (hw_m yX11_many cX11_many 2 (some .int)) ({ frames := 8, cells := 2, slots := 90, locals := 250 } : Room) (va_Pc [.ref (ad 0 0), .int kw] (hw_P Z M)) (hw_Qi Z (hr_R Z b1 M ad (st_many S kw))) 2 90 (hw_A Z) := by
  refine hw_ofi (by decide +kernel) rfl (Nat.le_of_ble_eq_true rfl) ?_
  intro p e s m below meth c ls Q hx hb hml hown hts hk hnm hI hl hret
  have hB := hV.b
  have hnp := hB.np
  have hnw := hB.nw
  have e0_0hP : M (ad 0 0) = hw_ob 12 [.int (hr_th X), .int (hs_G S 0), .int (hs_G S 1), .ref (ad 0 2), .ref (ad 0 3), .ref (ad 0 1)] := hP.m 0 0 (show 0 < 4 by decide)
  refine lv_aload_n hx hb dX11_many_0 rfl (lv_at hl 0 rfl) ?_
  refine lv_iconst (v := nI 0) hx hb dX11_many_1 (by decide) ?_
  refine hw_put (fs' := [.int (nI 0), .int (hs_G S 0), .int (hs_G S 1), .ref (ad 0 2), .ref (ad 0 3), .ref (ad 0 1)]) hx hb hts hown hk hI fp_X11_26 e0_0hP (Nat.le_of_ble_eq_true rfl) rfl rfl rfl dX11_many_2 (fun H locs hI => ?_)
  obtain ⟨M1, hM1⟩ : ∃ Y : hw_M, Y = va_up M (ad 0 0) (hw_ob 12 [.int (nI 0), .int (hs_G S 0), .int (hs_G S 1), .ref (ad 0 2), .ref (ad 0 3), .ref (ad 0 1)]) := ⟨_, rfl⟩
  replace hI := hI.eq hM1.symm
  obtain ⟨X1, hX1⟩ : ∃ Y : hr_X, Y = (nI 0, X.2) := ⟨_, rfl⟩
  have hP1 : hr_ok Z b1 M1 ad S X1 := by rw [hM1, hX1]; exact hP.th (nI 0)
  have ht1 : hr_th X1 = nI 0 := by rw [hX1]; rfl
  have hgr1 : hr_gr X1 = hr_gr X := by rw [hX1]; rfl
  have hqq1 : hr_qq X1 = hr_qq X := by rw [hX1]; rfl
  have fr1 : ∀ a, b1 a → M1 a = M a := fun a ha => by rw [hM1]; exact va_up_ne _ _ (hP.f (k := 0) (i := 0) (show 0 < 4 by decide) ha)
  have hA1 : ∀ a, b1 a → M1 a ≠ none := fun a ha => by rw [fr1 a ha]; exact hA a ha
  clear hP hX1
  have e0_0hP1 : M1 (ad 0 0) = hw_ob 12 [.int (hr_th X1), .int (hs_G S 0), .int (hs_G S 1), .ref (ad 0 2), .ref (ad 0 3), .ref (ad 0 1)] := hP1.m 0 0 (show 0 < 4 by decide)
  refine lv_iload_n hx hb dX11_many_5 rfl (lv_at hl 1 rfl) ?_
  refine lv_iconst (v := nI 0) hx hb dX11_many_6 (by decide) ?_
  refine lv_bipush (v := nI 7) hx hb dX11_many_7 (by decide) ?_
  refine hw_ci hI (hw_rS hx hb hml hown hts hk hI (m_X11_in l Z M1 kw (nI 0) (nI 7)) cs_X11_40 ⟨rfl, rfl⟩ ⟨(Nat.le_of_ble_eq_true rfl), (Nat.le_of_ble_eq_true rfl)⟩ rfl hl.1 rfl (Nat.le_of_ble_eq_true rfl) ⟨(Nat.le_of_ble_eq_true rfl), (Nat.le_of_ble_eq_true rfl)⟩ dX11_many_9) (fun r9 M9 H locs hR hI => ?_)
  obtain ⟨rfl, rfl⟩ := hR
  refine hw_ti (congrArg (fun b => nI (Bool.toNat b)) (hb_in_okL (k := kw) (n := 7) (by decide))) ?_
  refine lv_if_ne (tgt := 21) hx hb dX11_many_12 (by decide) (fun c12 => ?_) (fun c12 => ?_)
  · have gk := hq_dt c12
    have hx_kw := hb_okx (by decide) gk
    refine lv_aload_n hx hb dX11_many_21 rfl (lv_at hl 0 rfl) ?_
    refine lv_iload_n hx hb dX11_many_22 rfl (lv_at hl 1 rfl) ?_
    refine hw_ti hx_kw.2 ?_
    refine hw_ci hI (hw_rV hx hb hml hown hts hk hI (m_X11_manyNow l Z M1 ad S X1 b1 (hb_ix kw) hP1 hV hA1 hx_kw.1) cv_X11_239 e0_0hP1 rfl rfl ⟨rfl, rfl⟩ ⟨(Nat.le_of_ble_eq_true rfl), (Nat.le_of_ble_eq_true rfl)⟩ rfl hl.1 rfl (Nat.le_of_ble_eq_true rfl) ⟨(Nat.le_of_ble_eq_true rfl), (Nat.le_of_ble_eq_true rfl)⟩ dX11_many_23) (fun r23 M23 H locs hR hI => ?_)
    obtain ⟨rfl, hF23⟩ := hR
    have hF_M23 : hr_F M1 M23 := hF23
    have hP_M23 : hr_ok Z b1 M23 ad S X1 := hP1.F hF_M23
    have fr_M23 : ∀ a, b1 a → M23 a = M a := fun a ha => (hF_M23 a (hA1 a ha)).trans (fr1 a ha)
    have hA_M23 : ∀ a, b1 a → M23 a ≠ none := fun a ha => by rw [fr_M23 a ha]; exact hA a ha
    have e0_0hP_M23 : M23 (ad 0 0) = hw_ob 12 [.int (hr_th X1), .int (hs_G S 0), .int (hs_G S 1), .ref (ad 0 2), .ref (ad 0 3), .ref (ad 0 1)] := hP_M23.m 0 0 (show 0 < 4 by decide)
    have hok : hr_ok Z b1 (M23) ad (S) (X1) := by
      refine hr_old hP_M23 (fun _ _ hi => hi) ?_ hP_M23.q hP_M23.g
      intro k i hi
      rcases k with _ | _ | _ | _ | _ | _ | _ | _ | _ | _ | _ | _ | _ | k
      · rcases (show i = 0 ∨ i = 1 ∨ i = 2 ∨ i = 3 by have h4 : i < 4 := hi; omega) with rfl | rfl | rfl | rfl
        · show (M23) (ad 0 0) = hw_ob 12 [.int (hr_th X1), .int (hs_G S 0), .int (hs_G S 1), .ref (ad 0 2), .ref (ad 0 3), .ref (ad 0 1)]
          refine (hP_M23.m 0 0 (show 0 < 4 by decide)).trans ?_
          first | rfl | (simp only [va_up_self]; done) | (simp only [va_up_self]; rfl)
        · show (M23) (ad 0 1) = hw_ar Z 6 2 (fun j => some (ad 7 j))
          refine (hP_M23.m 0 1 (show 1 < 4 by decide)).trans ?_
          first | rfl | (simp only [va_up_self]; done) | (simp only [va_up_self]; rfl)
        · show (M23) (ad 0 2) = hw_ob 0 [.int (hr_mc X1 0), .ref (hr_d (hs_np S) Z.2.2.2 (ad 11 0)), .int (nI (hs_np S))]
          refine (hP_M23.m 0 2 (show 2 < 4 by decide)).trans ?_
          first | rfl | (simp only [va_up_self]; done) | (simp only [va_up_self]; rfl)
        · show (M23) (ad 0 3) = hw_ob 0 [.int (hr_mc X1 1), .ref (hr_d (hs_nw S) Z.2.2.2 (ad 12 0)), .int (nI (hs_nw S))]
          refine (hP_M23.m 0 3 (show 3 < 4 by decide)).trans ?_
          first | rfl | (simp only [va_up_self]; done) | (simp only [va_up_self]; rfl)
      · show (M23) (ad 1 i) = hw_ob 9 [.ref (ad 2 i), .int (hs_P S i 0), .ref (ad 4 i), .int (hs_P S i 3), .int (hs_P S i 4), .int (hs_P S i 5), .int (hs_P S i 6), .int (hs_P S i 7), .int (hs_P S i 8)]
        refine (hP_M23.m 1 i hi).trans ?_
        first | rfl
      · show (M23) (ad 2 i) = hw_ob 11 [.ref (ad 3 i)]
        refine (hP_M23.m 2 i hi).trans ?_
        first | rfl
      · show (M23) (ad 3 i) = hw_al Z 8 (hs_C S i)
        refine (hP_M23.m 3 i hi).trans ?_
        first | rfl
      · show (M23) (ad 4 i) = hw_ob 7 [.double (hr_en (hs_P S i)), .ref (ad 5 i), .double (hs_U S i), .int (hs_P S i 1), .int (hs_P S i 2), .int (nI (hs_D S i))]
        refine (hP_M23.m 4 i hi).trans ?_
        first | rfl
      · show (M23) (ad 5 i) = hw_ad Z 64 (hs_W S i)
        refine (hP_M23.m 5 i hi).trans ?_
        first | rfl
      · show (M23) (ad 6 i) = hw_ob 10 [.int (hs_V S i 0), .int (hs_V S i 1), .int (hs_V S i 2), .int (hs_V S i 3), .int (hs_V S i 4)]
        refine (hP_M23.m 6 i hi).trans ?_
        first | rfl
      · show (M23) (ad 7 i) = hw_ob 8 [.int (hs_M S i 0), .int (hs_M S i 1), .int (hs_M S i 2), .int (hs_M S i 3), .ref (ad 8 i)]
        refine (hP_M23.m 7 i hi).trans ?_
        first | rfl
      · show (M23) (ad 8 i) = hw_ob 0 [.int (hr_mc X1 (2 + i)), .ref (if hr_gr X1 i then ad 9 i else Z.2.2.2), .int (nI (hs_N S i))]
        refine (hP_M23.m 8 i hi).trans ?_
        first | rfl
      · show (M23) (ad 9 i) = hw_ar Z 7 10 (hc_f (fun j => ad 10 (i + 2 * j)) (hs_N S i))
        refine (hP_M23.m 9 i hi).trans ?_
        first | rfl
      · show (M23) (ad 10 i) = hw_ai Z 3 (hr_qq X1 (i % 2) (i / 2))
        refine (hP_M23.m 10 i hi).trans ?_
        first | rfl
      · show (M23) (ad 11 i) = hw_ar Z 7 10 (hc_f (ad 1) (hs_np S))
        refine (hP_M23.m 11 i hi).trans ?_
        first | rfl
      · show (M23) (ad 12 i) = hw_ar Z 7 10 (hc_f (ad 6) (hs_nw S))
        refine (hP_M23.m 12 i hi).trans ?_
        first | rfl
      · exact hi.elim
    have fr_hok : ∀ a, b1 a → (M23) a = M a := fun a ha => fr_M23 a ha
    have hfin : hr_R Z b1 M ad (st_many S kw) (hs_many S (hb_ix kw)) (M23) := hr_r (S' := S) (X' := X1) (ad' := ad) (by unfold st_many; exact ((if_neg (fun q => q gk)).trans rfl)) rfl hok ht1 fr_hok
    exact hret hI hfin (Nat.le_of_ble_eq_true rfl) (Nat.le_of_ble_eq_true rfl) dX11_many_26
  · refine lv_aload_n hx hb dX11_many_15 rfl (lv_at hl 0 rfl) ?_
    refine lv_iconst (v := nI 1) hx hb dX11_many_16 (by decide) ?_
    refine hw_ci hI (hw_rV hx hb hml hown hts hk hI (m_X11_no l Z M1 (ad 0 0) (ad 0 2) (ad 0 3) (ad 0 1) (hr_th X1) (hs_G S 0) (hs_G S 1) (nI 1) e0_0hP1) cv_X11_44 e0_0hP1 rfl rfl ⟨rfl, rfl⟩ ⟨(Nat.le_of_ble_eq_true rfl), (Nat.le_of_ble_eq_true rfl)⟩ rfl hl.1 rfl (Nat.le_of_ble_eq_true rfl) ⟨(Nat.le_of_ble_eq_true rfl), (Nat.le_of_ble_eq_true rfl)⟩ dX11_many_17) (fun r17 M17 H locs hR hI => ?_)
    obtain ⟨rfl, rfl⟩ := hR
    exact hret hI (hr_x (n := 1) (by unfold st_many; exact (hq_if (hq_df c12) ⟨rfl, rfl⟩)) (by decide) (hP1.th (nI 1)) rfl (fun a ha => (va_up_ne _ _ (hP1.f (k := 0) (i := 0) (show 0 < 4 by decide) ha)).trans (fr1 a ha))) (Nat.le_of_ble_eq_true rfl) (Nat.le_of_ble_eq_true rfl) dX11_many_20

set_option maxHeartbeats 4000000 in
set_option maxRecDepth 100000 in
theorem m_X11_wouldHold (l : Launch) (Z : hw_Z) (M : hw_M) (ad : hp_ad) (S : hs_S) (X : hr_X) (b1 : Nat → Prop) (ka : Int32) (kw : Int32) (hP : hr_ok Z b1 M ad S X) (hV : hv_ok S) (hA : ∀ a, b1 a → M a ≠ none) : Met l yX11_wouldHold (hw_m yX11_wouldHold cX11_wouldHold 3 (some .int)) ({ frames := 8, cells := 2, slots := 90, locals := 250 } : Room) (va_Pc [.ref (ad 0 0), .int ka, .int kw] (hw_P Z M)) (hw_Qi Z (hr_R Z b1 M ad (st_wouldHold S ka kw))) 2 90 (hw_A Z) := by
  refine hw_ofi (by decide +kernel) rfl (Nat.le_of_ble_eq_true rfl) ?_
  intro p e s m below meth c ls Q hx hb hml hown hts hk hnm hI hl hret
  have hB := hV.b
  have hnp := hB.np
  have hnw := hB.nw
  have e0_0hP : M (ad 0 0) = hw_ob 12 [.int (hr_th X), .int (hs_G S 0), .int (hs_G S 1), .ref (ad 0 2), .ref (ad 0 3), .ref (ad 0 1)] := hP.m 0 0 (show 0 < 4 by decide)
  refine lv_aload_n hx hb dX11_wouldHold_0 rfl (lv_at hl 0 rfl) ?_
  refine lv_iconst (v := nI 0) hx hb dX11_wouldHold_1 (by decide) ?_
  refine hw_put (fs' := [.int (nI 0), .int (hs_G S 0), .int (hs_G S 1), .ref (ad 0 2), .ref (ad 0 3), .ref (ad 0 1)]) hx hb hts hown hk hI fp_X11_26 e0_0hP (Nat.le_of_ble_eq_true rfl) rfl rfl rfl dX11_wouldHold_2 (fun H locs hI => ?_)
  obtain ⟨M1, hM1⟩ : ∃ Y : hw_M, Y = va_up M (ad 0 0) (hw_ob 12 [.int (nI 0), .int (hs_G S 0), .int (hs_G S 1), .ref (ad 0 2), .ref (ad 0 3), .ref (ad 0 1)]) := ⟨_, rfl⟩
  replace hI := hI.eq hM1.symm
  obtain ⟨X1, hX1⟩ : ∃ Y : hr_X, Y = (nI 0, X.2) := ⟨_, rfl⟩
  have hP1 : hr_ok Z b1 M1 ad S X1 := by rw [hM1, hX1]; exact hP.th (nI 0)
  have ht1 : hr_th X1 = nI 0 := by rw [hX1]; rfl
  have hgr1 : hr_gr X1 = hr_gr X := by rw [hX1]; rfl
  have hqq1 : hr_qq X1 = hr_qq X := by rw [hX1]; rfl
  have fr1 : ∀ a, b1 a → M1 a = M a := fun a ha => by rw [hM1]; exact va_up_ne _ _ (hP.f (k := 0) (i := 0) (show 0 < 4 by decide) ha)
  have hA1 : ∀ a, b1 a → M1 a ≠ none := fun a ha => by rw [fr1 a ha]; exact hA a ha
  clear hP hX1
  have e0_0hP1 : M1 (ad 0 0) = hw_ob 12 [.int (hr_th X1), .int (hs_G S 0), .int (hs_G S 1), .ref (ad 0 2), .ref (ad 0 3), .ref (ad 0 1)] := hP1.m 0 0 (show 0 < 4 by decide)
  have e0_2hP1 : M1 (ad 0 2) = hw_ob 0 [.int (hr_mc X1 0), .ref (hr_d (hs_np S) Z.2.2.2 (ad 11 0)), .int (nI (hs_np S))] := hP1.m 0 2 (show 2 < 4 by decide)
  refine lv_aload_n hx hb dX11_wouldHold_5 rfl (lv_at hl 0 rfl) ?_
  refine lv_iload_n hx hb dX11_wouldHold_6 rfl (lv_at hl 1 rfl) ?_
  refine hw_ci hI (hw_rV hx hb hml hown hts hk hI (m_X11_isPiece l Z M1 (ad 0 0) (ad 0 2) (ad 0 3) (ad 0 1) (hr_th X1) (hs_G S 0) (hs_G S 1) ka (hr_mc X1 0) (hs_np S) (.ref (hr_d (hs_np S) Z.2.2.2 (ad 11 0))) e0_0hP1 e0_2hP1 (by omega)) cv_X11_55 e0_0hP1 rfl rfl ⟨rfl, rfl⟩ ⟨(Nat.le_of_ble_eq_true rfl), (Nat.le_of_ble_eq_true rfl)⟩ rfl hl.1 rfl (Nat.le_of_ble_eq_true rfl) ⟨(Nat.le_of_ble_eq_true rfl), (Nat.le_of_ble_eq_true rfl)⟩ dX11_wouldHold_7) (fun r7 M7 H locs hR hI => ?_)
  obtain ⟨rfl, rfl⟩ := hR
  refine lv_if_ne (tgt := 19) hx hb dX11_wouldHold_10 (by decide) (fun c10 => ?_) (fun c10 => ?_)
  · have gk := hq_dt c10
    refine lv_iload_n hx hb dX11_wouldHold_19 rfl (lv_at hl 2 rfl) ?_
    refine lv_iconst (v := nI 0) hx hb dX11_wouldHold_20 (by decide) ?_
    refine lv_iconst (v := nI 5) hx hb dX11_wouldHold_21 (by decide) ?_
    refine hw_ci hI (hw_rS hx hb hml hown hts hk hI (m_X11_in l Z M1 kw (nI 0) (nI 5)) cs_X11_40 ⟨rfl, rfl⟩ ⟨(Nat.le_of_ble_eq_true rfl), (Nat.le_of_ble_eq_true rfl)⟩ rfl hl.1 rfl (Nat.le_of_ble_eq_true rfl) ⟨(Nat.le_of_ble_eq_true rfl), (Nat.le_of_ble_eq_true rfl)⟩ dX11_wouldHold_22) (fun r22 M22 H locs hR hI => ?_)
    obtain ⟨rfl, rfl⟩ := hR
    refine hw_ti (congrArg (fun b => nI (Bool.toNat b)) (hb_in_okL (k := kw) (n := 5) (by decide))) ?_
    refine lv_if_ne (tgt := 34) hx hb dX11_wouldHold_25 (by decide) (fun c25 => ?_) (fun c25 => ?_)
    · have gk2 := hq_dt c25
      have hx_kw := hb_okx (by decide) gk2
      have hx_ka := hb_okx (by omega) gk
      have hi_ka : hb_ix ka < hs_np S := hx_ka.1
      have h4_ka : hb_ix ka < 4 := by omega
      have h11 : 0 = 0 ∧ 0 < hs_np S := ⟨rfl, by omega⟩
      have e0_2hP1 : M1 (ad 0 2) = hw_ob 0 [.int (hr_mc X1 0), .ref (ad 11 0), .int (nI (hs_np S))] := by
        have q := hP1.m 0 2 (show 2 < 4 by decide)
        rw [show hr_e Z ad S X1 0 2 = hw_ob 0 [.int (hr_mc X1 0), .ref (hr_d (hs_np S) Z.2.2.2 (ad 11 0)), .int (nI (hs_np S))] from rfl, hr_d0 h11.2] at q
        exact q
      have e11_0hP1 : M1 (ad 11 0) = hw_ar Z 7 10 (hc_f (ad 1) (hs_np S)) := hP1.m 11 0 h11
      have e1_hb_ix_kahP1 : M1 (ad 1 (hb_ix ka)) = hw_ob 9 [.ref (ad 2 (hb_ix ka)), .int (hs_P S (hb_ix ka) 0), .ref (ad 4 (hb_ix ka)), .int (hs_P S (hb_ix ka) 3), .int (hs_P S (hb_ix ka) 4), .int (hs_P S (hb_ix ka) 5), .int (hs_P S (hb_ix ka) 6), .int (hs_P S (hb_ix ka) 7), .int (hs_P S (hb_ix ka) 8)] := hP1.m 1 (hb_ix ka) hi_ka
      have e2_hb_ix_kahP1 : M1 (ad 2 (hb_ix ka)) = hw_ob 11 [.ref (ad 3 (hb_ix ka))] := hP1.m 2 (hb_ix ka) hi_ka
      have e3_hb_ix_kahP1 : M1 (ad 3 (hb_ix ka)) = hw_al Z 8 (hs_C S (hb_ix ka)) := hP1.m 3 (hb_ix ka) hi_ka
      refine lv_aload_n hx hb dX11_wouldHold_34 rfl (lv_at hl 0 rfl) ?_
      refine hw_get hx hb hts hown hk hI fd_X11_10 e0_0hP1 rfl dX11_wouldHold_35 ?_
      refine lv_iload_n hx hb dX11_wouldHold_38 rfl (lv_at hl 1 rfl) ?_
      refine hw_ti hx_ka.2 ?_
      refine hw_cFr hI (hw_rF hx hb hml hown hts hk hI (m_Jx4a65c_get_915e3 l Z M1 (ad 0 2) (ad 11 0) (hs_np S) (hb_ix ka) (ad 1 (hb_ix ka)) (hr_mc X1 0) (hc_f (ad 1) (hs_np S)) e0_2hP1 e11_0hP1 hi_ka (by omega) (if_pos hi_ka)) cf_X11_59 e0_2hP1 rfl rfl ⟨rfl, rfl⟩ ⟨(Nat.le_of_ble_eq_true rfl), (Nat.le_of_ble_eq_true rfl)⟩ rfl hl.1 rfl (Nat.le_of_ble_eq_true rfl) ⟨(Nat.le_of_ble_eq_true rfl), (Nat.le_of_ble_eq_true rfl)⟩ dX11_wouldHold_39) (fun r39 M39 H locs hR hI => ?_)
      obtain ⟨rfl, rfl⟩ := hR
      refine hw_cast hx hb hts hown hk hI e1_hb_ix_kahP1 rfl (hw_win (w := .classLink RX11 48 RX8) (by decide +kernel) (by decide +kernel)) dX11_wouldHold_44 ?_
      refine hw_get hx hb hts hown hk hI fd_X11_66 e1_hb_ix_kahP1 rfl dX11_wouldHold_47 ?_
      refine lv_iload_n hx hb dX11_wouldHold_50 rfl (lv_at hl 2 rfl) ?_
      refine hw_ti hx_kw.2 ?_
      refine hw_cr hI (hw_rV hx hb hml hown hts hk hI (m_X10_laid l Z M1 (ad 2 (hb_ix ka)) (ad 3 (hb_ix ka)) (hs_C S (hb_ix ka)) (hb_ix kw) e2_hb_ix_kahP1 e3_hb_ix_kahP1 hx_kw.1) cv_X11_79 e2_hb_ix_kahP1 rfl rfl ⟨rfl, rfl⟩ ⟨(Nat.le_of_ble_eq_true rfl), (Nat.le_of_ble_eq_true rfl)⟩ rfl hl.1 rfl (Nat.le_of_ble_eq_true rfl) ⟨(Nat.le_of_ble_eq_true rfl), (Nat.le_of_ble_eq_true rfl)⟩ dX11_wouldHold_51) (fun r51 M51 H locs hR hI => ?_)
      obtain ⟨sa51, n_r51, n_sa51, d1, e_r51, e_sa51, hF51⟩ := hR
      have hF_M51 : hr_F M1 M51 := hF51
      have hP_M51 : hr_ok Z b1 M51 ad S X1 := hP1.F hF_M51
      have fr_M51 : ∀ a, b1 a → M51 a = M a := fun a ha => (hF_M51 a (hA1 a ha)).trans (fr1 a ha)
      have hA_M51 : ∀ a, b1 a → M51 a ≠ none := fun a ha => by rw [fr_M51 a ha]; exact hA a ha
      have e0_0hP_M51 : M51 (ad 0 0) = hw_ob 12 [.int (hr_th X1), .int (hs_G S 0), .int (hs_G S 1), .ref (ad 0 2), .ref (ad 0 3), .ref (ad 0 1)] := hP_M51.m 0 0 (show 0 < 4 by decide)
      refine hw_ci hI (hw_rV hx hb hml hown hts hk hI (m_X10_supports l Z M51 r51 sa51 (hb_laid (hs_C S (hb_ix ka)) (hb_ix kw)) e_r51 e_sa51) cv_X11_211 e_r51 rfl rfl ⟨rfl, rfl⟩ ⟨(Nat.le_of_ble_eq_true rfl), (Nat.le_of_ble_eq_true rfl)⟩ rfl hl.1 rfl (Nat.le_of_ble_eq_true rfl) ⟨(Nat.le_of_ble_eq_true rfl), (Nat.le_of_ble_eq_true rfl)⟩ dX11_wouldHold_54) (fun r54 M54 H locs hR hI => ?_)
      obtain ⟨rfl, rfl⟩ := hR
      have hok : hr_ok Z b1 (M51) ad (S) (X1) := by
        refine hr_old hP_M51 (fun _ _ hi => hi) ?_ hP_M51.q hP_M51.g
        intro k i hi
        rcases k with _ | _ | _ | _ | _ | _ | _ | _ | _ | _ | _ | _ | _ | k
        · rcases (show i = 0 ∨ i = 1 ∨ i = 2 ∨ i = 3 by have h4 : i < 4 := hi; omega) with rfl | rfl | rfl | rfl
          · show (M51) (ad 0 0) = hw_ob 12 [.int (hr_th X1), .int (hs_G S 0), .int (hs_G S 1), .ref (ad 0 2), .ref (ad 0 3), .ref (ad 0 1)]
            refine (hP_M51.m 0 0 (show 0 < 4 by decide)).trans ?_
            first | rfl | (simp only [va_up_self]; done) | (simp only [va_up_self]; rfl)
          · show (M51) (ad 0 1) = hw_ar Z 6 2 (fun j => some (ad 7 j))
            refine (hP_M51.m 0 1 (show 1 < 4 by decide)).trans ?_
            first | rfl | (simp only [va_up_self]; done) | (simp only [va_up_self]; rfl)
          · show (M51) (ad 0 2) = hw_ob 0 [.int (hr_mc X1 0), .ref (hr_d (hs_np S) Z.2.2.2 (ad 11 0)), .int (nI (hs_np S))]
            refine (hP_M51.m 0 2 (show 2 < 4 by decide)).trans ?_
            first | rfl | (simp only [va_up_self]; done) | (simp only [va_up_self]; rfl)
          · show (M51) (ad 0 3) = hw_ob 0 [.int (hr_mc X1 1), .ref (hr_d (hs_nw S) Z.2.2.2 (ad 12 0)), .int (nI (hs_nw S))]
            refine (hP_M51.m 0 3 (show 3 < 4 by decide)).trans ?_
            first | rfl | (simp only [va_up_self]; done) | (simp only [va_up_self]; rfl)
        · show (M51) (ad 1 i) = hw_ob 9 [.ref (ad 2 i), .int (hs_P S i 0), .ref (ad 4 i), .int (hs_P S i 3), .int (hs_P S i 4), .int (hs_P S i 5), .int (hs_P S i 6), .int (hs_P S i 7), .int (hs_P S i 8)]
          refine (hP_M51.m 1 i hi).trans ?_
          first | rfl
        · show (M51) (ad 2 i) = hw_ob 11 [.ref (ad 3 i)]
          refine (hP_M51.m 2 i hi).trans ?_
          first | rfl
        · show (M51) (ad 3 i) = hw_al Z 8 (hs_C S i)
          refine (hP_M51.m 3 i hi).trans ?_
          first | rfl
        · show (M51) (ad 4 i) = hw_ob 7 [.double (hr_en (hs_P S i)), .ref (ad 5 i), .double (hs_U S i), .int (hs_P S i 1), .int (hs_P S i 2), .int (nI (hs_D S i))]
          refine (hP_M51.m 4 i hi).trans ?_
          first | rfl
        · show (M51) (ad 5 i) = hw_ad Z 64 (hs_W S i)
          refine (hP_M51.m 5 i hi).trans ?_
          first | rfl
        · show (M51) (ad 6 i) = hw_ob 10 [.int (hs_V S i 0), .int (hs_V S i 1), .int (hs_V S i 2), .int (hs_V S i 3), .int (hs_V S i 4)]
          refine (hP_M51.m 6 i hi).trans ?_
          first | rfl
        · show (M51) (ad 7 i) = hw_ob 8 [.int (hs_M S i 0), .int (hs_M S i 1), .int (hs_M S i 2), .int (hs_M S i 3), .ref (ad 8 i)]
          refine (hP_M51.m 7 i hi).trans ?_
          first | rfl
        · show (M51) (ad 8 i) = hw_ob 0 [.int (hr_mc X1 (2 + i)), .ref (if hr_gr X1 i then ad 9 i else Z.2.2.2), .int (nI (hs_N S i))]
          refine (hP_M51.m 8 i hi).trans ?_
          first | rfl
        · show (M51) (ad 9 i) = hw_ar Z 7 10 (hc_f (fun j => ad 10 (i + 2 * j)) (hs_N S i))
          refine (hP_M51.m 9 i hi).trans ?_
          first | rfl
        · show (M51) (ad 10 i) = hw_ai Z 3 (hr_qq X1 (i % 2) (i / 2))
          refine (hP_M51.m 10 i hi).trans ?_
          first | rfl
        · show (M51) (ad 11 i) = hw_ar Z 7 10 (hc_f (ad 1) (hs_np S))
          refine (hP_M51.m 11 i hi).trans ?_
          first | rfl
        · show (M51) (ad 12 i) = hw_ar Z 7 10 (hc_f (ad 6) (hs_nw S))
          refine (hP_M51.m 12 i hi).trans ?_
          first | rfl
        · exact hi.elim
      have fr_hok : ∀ a, b1 a → (M51) a = M a := fun a ha => fr_M51 a ha
      have hfin : hr_R Z b1 M ad (st_wouldHold S ka kw) (nI (hb_sm (fun k => hb_pc (hb_supp (hb_laid (hs_C S (hb_ix ka)) (hb_ix kw)) k)) 8)) (M51) := hr_r (S' := S) (X' := X1) (ad' := ad) (by unfold st_wouldHold; exact ((if_neg (fun q => q gk)).trans ((if_neg (fun q => q gk2)).trans rfl))) rfl hok ht1 fr_hok
      exact hret hI hfin (Nat.le_of_ble_eq_true rfl) (Nat.le_of_ble_eq_true rfl) dX11_wouldHold_57
    · refine lv_aload_n hx hb dX11_wouldHold_28 rfl (lv_at hl 0 rfl) ?_
      refine lv_iconst (v := nI 2) hx hb dX11_wouldHold_29 (by decide) ?_
      refine hw_ci hI (hw_rV hx hb hml hown hts hk hI (m_X11_no l Z M1 (ad 0 0) (ad 0 2) (ad 0 3) (ad 0 1) (hr_th X1) (hs_G S 0) (hs_G S 1) (nI 2) e0_0hP1) cv_X11_44 e0_0hP1 rfl rfl ⟨rfl, rfl⟩ ⟨(Nat.le_of_ble_eq_true rfl), (Nat.le_of_ble_eq_true rfl)⟩ rfl hl.1 rfl (Nat.le_of_ble_eq_true rfl) ⟨(Nat.le_of_ble_eq_true rfl), (Nat.le_of_ble_eq_true rfl)⟩ dX11_wouldHold_30) (fun r30 M30 H locs hR hI => ?_)
      obtain ⟨rfl, rfl⟩ := hR
      exact hret hI (hr_x (n := 2) (by unfold st_wouldHold; exact (hq_el (fun q => q gk) (hq_if (hq_df c25) ⟨rfl, rfl⟩))) (by decide) (hP1.th (nI 2)) rfl (fun a ha => (va_up_ne _ _ (hP1.f (k := 0) (i := 0) (show 0 < 4 by decide) ha)).trans (fr1 a ha))) (Nat.le_of_ble_eq_true rfl) (Nat.le_of_ble_eq_true rfl) dX11_wouldHold_33
  · refine lv_aload_n hx hb dX11_wouldHold_13 rfl (lv_at hl 0 rfl) ?_
    refine lv_iconst (v := nI 1) hx hb dX11_wouldHold_14 (by decide) ?_
    refine hw_ci hI (hw_rV hx hb hml hown hts hk hI (m_X11_no l Z M1 (ad 0 0) (ad 0 2) (ad 0 3) (ad 0 1) (hr_th X1) (hs_G S 0) (hs_G S 1) (nI 1) e0_0hP1) cv_X11_44 e0_0hP1 rfl rfl ⟨rfl, rfl⟩ ⟨(Nat.le_of_ble_eq_true rfl), (Nat.le_of_ble_eq_true rfl)⟩ rfl hl.1 rfl (Nat.le_of_ble_eq_true rfl) ⟨(Nat.le_of_ble_eq_true rfl), (Nat.le_of_ble_eq_true rfl)⟩ dX11_wouldHold_15) (fun r15 M15 H locs hR hI => ?_)
    obtain ⟨rfl, rfl⟩ := hR
    exact hret hI (hr_x (n := 1) (by unfold st_wouldHold; exact (hq_if (hq_df c10) ⟨rfl, rfl⟩)) (by decide) (hP1.th (nI 1)) rfl (fun a ha => (va_up_ne _ _ (hP1.f (k := 0) (i := 0) (show 0 < 4 by decide) ha)).trans (fr1 a ha))) (Nat.le_of_ble_eq_true rfl) (Nat.le_of_ble_eq_true rfl) dX11_wouldHold_18

set_option maxHeartbeats 4000000 in
set_option maxRecDepth 100000 in
theorem m_X11_bestWay (l : Launch) (Z : hw_Z) (M : hw_M) (ad : hp_ad) (S : hs_S) (X : hr_X) (b1 : Nat → Prop) (ka : Int32) (hP : hr_ok Z b1 M ad S X) (hV : hv_ok S) (hA : ∀ a, b1 a → M a ≠ none) : Met l yX11_bestWay (hw_m yX11_bestWay cX11_bestWay 2 (some .int)) ({ frames := 8, cells := 12, slots := 90, locals := 250 } : Room) (va_Pc [.ref (ad 0 0), .int ka] (hw_P Z M)) (hw_Qi Z (hr_R Z b1 M ad (st_bestWay S ka))) 12 90 (hw_A Z) := by
  refine hw_ofi (by decide +kernel) rfl (Nat.le_of_ble_eq_true rfl) ?_
  intro p e s m below meth c ls Q hx hb hml hown hts hk hnm hI hl hret
  have hB := hV.b
  have hnp := hB.np
  have hnw := hB.nw
  have e0_0hP : M (ad 0 0) = hw_ob 12 [.int (hr_th X), .int (hs_G S 0), .int (hs_G S 1), .ref (ad 0 2), .ref (ad 0 3), .ref (ad 0 1)] := hP.m 0 0 (show 0 < 4 by decide)
  refine lv_aload_n hx hb dX11_bestWay_0 rfl (lv_at hl 0 rfl) ?_
  refine lv_iconst (v := nI 0) hx hb dX11_bestWay_1 (by decide) ?_
  refine hw_put (fs' := [.int (nI 0), .int (hs_G S 0), .int (hs_G S 1), .ref (ad 0 2), .ref (ad 0 3), .ref (ad 0 1)]) hx hb hts hown hk hI fp_X11_26 e0_0hP (Nat.le_of_ble_eq_true rfl) rfl rfl rfl dX11_bestWay_2 (fun H locs hI => ?_)
  obtain ⟨M1, hM1⟩ : ∃ Y : hw_M, Y = va_up M (ad 0 0) (hw_ob 12 [.int (nI 0), .int (hs_G S 0), .int (hs_G S 1), .ref (ad 0 2), .ref (ad 0 3), .ref (ad 0 1)]) := ⟨_, rfl⟩
  replace hI := hI.eq hM1.symm
  obtain ⟨X1, hX1⟩ : ∃ Y : hr_X, Y = (nI 0, X.2) := ⟨_, rfl⟩
  have hP1 : hr_ok Z b1 M1 ad S X1 := by rw [hM1, hX1]; exact hP.th (nI 0)
  have ht1 : hr_th X1 = nI 0 := by rw [hX1]; rfl
  have hgr1 : hr_gr X1 = hr_gr X := by rw [hX1]; rfl
  have hqq1 : hr_qq X1 = hr_qq X := by rw [hX1]; rfl
  have fr1 : ∀ a, b1 a → M1 a = M a := fun a ha => by rw [hM1]; exact va_up_ne _ _ (hP.f (k := 0) (i := 0) (show 0 < 4 by decide) ha)
  have hA1 : ∀ a, b1 a → M1 a ≠ none := fun a ha => by rw [fr1 a ha]; exact hA a ha
  clear hP hX1
  have e0_0hP1 : M1 (ad 0 0) = hw_ob 12 [.int (hr_th X1), .int (hs_G S 0), .int (hs_G S 1), .ref (ad 0 2), .ref (ad 0 3), .ref (ad 0 1)] := hP1.m 0 0 (show 0 < 4 by decide)
  have e0_2hP1 : M1 (ad 0 2) = hw_ob 0 [.int (hr_mc X1 0), .ref (hr_d (hs_np S) Z.2.2.2 (ad 11 0)), .int (nI (hs_np S))] := hP1.m 0 2 (show 2 < 4 by decide)
  refine lv_aload_n hx hb dX11_bestWay_5 rfl (lv_at hl 0 rfl) ?_
  refine lv_iload_n hx hb dX11_bestWay_6 rfl (lv_at hl 1 rfl) ?_
  refine hw_ci hI (hw_rV hx hb hml hown hts hk hI (m_X11_isPiece l Z M1 (ad 0 0) (ad 0 2) (ad 0 3) (ad 0 1) (hr_th X1) (hs_G S 0) (hs_G S 1) ka (hr_mc X1 0) (hs_np S) (.ref (hr_d (hs_np S) Z.2.2.2 (ad 11 0))) e0_0hP1 e0_2hP1 (by omega)) cv_X11_55 e0_0hP1 rfl rfl ⟨rfl, rfl⟩ ⟨(Nat.le_of_ble_eq_true rfl), (Nat.le_of_ble_eq_true rfl)⟩ rfl hl.1 rfl (Nat.le_of_ble_eq_true rfl) ⟨(Nat.le_of_ble_eq_true rfl), (Nat.le_of_ble_eq_true rfl)⟩ dX11_bestWay_7) (fun r7 M7 H locs hR hI => ?_)
  obtain ⟨rfl, rfl⟩ := hR
  refine lv_if_ne (tgt := 19) hx hb dX11_bestWay_10 (by decide) (fun c10 => ?_) (fun c10 => ?_)
  · have gk := hq_dt c10
    have hx_ka := hb_okx (by omega) gk
    have hi_ka : hb_ix ka < hs_np S := hx_ka.1
    have h4_ka : hb_ix ka < 4 := by omega
    have h11 : 0 = 0 ∧ 0 < hs_np S := ⟨rfl, by omega⟩
    have e0_2hP1 : M1 (ad 0 2) = hw_ob 0 [.int (hr_mc X1 0), .ref (ad 11 0), .int (nI (hs_np S))] := by
      have q := hP1.m 0 2 (show 2 < 4 by decide)
      rw [show hr_e Z ad S X1 0 2 = hw_ob 0 [.int (hr_mc X1 0), .ref (hr_d (hs_np S) Z.2.2.2 (ad 11 0)), .int (nI (hs_np S))] from rfl, hr_d0 h11.2] at q
      exact q
    have e11_0hP1 : M1 (ad 11 0) = hw_ar Z 7 10 (hc_f (ad 1) (hs_np S)) := hP1.m 11 0 h11
    have e1_hb_ix_kahP1 : M1 (ad 1 (hb_ix ka)) = hw_ob 9 [.ref (ad 2 (hb_ix ka)), .int (hs_P S (hb_ix ka) 0), .ref (ad 4 (hb_ix ka)), .int (hs_P S (hb_ix ka) 3), .int (hs_P S (hb_ix ka) 4), .int (hs_P S (hb_ix ka) 5), .int (hs_P S (hb_ix ka) 6), .int (hs_P S (hb_ix ka) 7), .int (hs_P S (hb_ix ka) 8)] := hP1.m 1 (hb_ix ka) hi_ka
    have e2_hb_ix_kahP1 : M1 (ad 2 (hb_ix ka)) = hw_ob 11 [.ref (ad 3 (hb_ix ka))] := hP1.m 2 (hb_ix ka) hi_ka
    have e3_hb_ix_kahP1 : M1 (ad 3 (hb_ix ka)) = hw_al Z 8 (hs_C S (hb_ix ka)) := hP1.m 3 (hb_ix ka) hi_ka
    refine lv_aload_n hx hb dX11_bestWay_19 rfl (lv_at hl 0 rfl) ?_
    refine lv_aload_n hx hb dX11_bestWay_20 rfl (lv_at hl 0 rfl) ?_
    refine hw_get hx hb hts hown hk hI fd_X11_10 e0_0hP1 rfl dX11_bestWay_21 ?_
    refine lv_iload_n hx hb dX11_bestWay_24 rfl (lv_at hl 1 rfl) ?_
    refine hw_ti hx_ka.2 ?_
    refine hw_cFr hI (hw_rF hx hb hml hown hts hk hI (m_Jx4a65c_get_915e3 l Z M1 (ad 0 2) (ad 11 0) (hs_np S) (hb_ix ka) (ad 1 (hb_ix ka)) (hr_mc X1 0) (hc_f (ad 1) (hs_np S)) e0_2hP1 e11_0hP1 hi_ka (by omega) (if_pos hi_ka)) cf_X11_59 e0_2hP1 rfl rfl ⟨rfl, rfl⟩ ⟨(Nat.le_of_ble_eq_true rfl), (Nat.le_of_ble_eq_true rfl)⟩ rfl hl.1 rfl (Nat.le_of_ble_eq_true rfl) ⟨(Nat.le_of_ble_eq_true rfl), (Nat.le_of_ble_eq_true rfl)⟩ dX11_bestWay_25) (fun r25 M25 H locs hR hI => ?_)
    obtain ⟨rfl, rfl⟩ := hR
    refine hw_cast hx hb hts hown hk hI e1_hb_ix_kahP1 rfl (hw_win (w := .classLink RX11 48 RX8) (by decide +kernel) (by decide +kernel)) dX11_bestWay_30 ?_
    refine hw_get hx hb hts hown hk hI fd_X11_66 e1_hb_ix_kahP1 rfl dX11_bestWay_33 ?_
    refine hw_ci hI (hw_rV hx hb hml hown hts hk hI (m_X11_bestNow l Z M1 (ad 0 0) (ad 2 (hb_ix ka)) (ad 3 (hb_ix ka)) (hs_C S (hb_ix ka)) e2_hb_ix_kahP1 e3_hb_ix_kahP1) cv_X11_242 e0_0hP1 rfl rfl ⟨rfl, rfl⟩ ⟨(Nat.le_of_ble_eq_true rfl), (Nat.le_of_ble_eq_true rfl)⟩ rfl hl.1 rfl (Nat.le_of_ble_eq_true rfl) ⟨(Nat.le_of_ble_eq_true rfl), (Nat.le_of_ble_eq_true rfl)⟩ dX11_bestWay_36) (fun r36 M36 H locs hR hI => ?_)
    obtain ⟨rfl, hF36⟩ := hR
    have hF_M36 : hr_F M1 M36 := hF36
    have hP_M36 : hr_ok Z b1 M36 ad S X1 := hP1.F hF_M36
    have fr_M36 : ∀ a, b1 a → M36 a = M a := fun a ha => (hF_M36 a (hA1 a ha)).trans (fr1 a ha)
    have hA_M36 : ∀ a, b1 a → M36 a ≠ none := fun a ha => by rw [fr_M36 a ha]; exact hA a ha
    have e0_0hP_M36 : M36 (ad 0 0) = hw_ob 12 [.int (hr_th X1), .int (hs_G S 0), .int (hs_G S 1), .ref (ad 0 2), .ref (ad 0 3), .ref (ad 0 1)] := hP_M36.m 0 0 (show 0 < 4 by decide)
    have hok : hr_ok Z b1 (M36) ad (S) (X1) := by
      refine hr_old hP_M36 (fun _ _ hi => hi) ?_ hP_M36.q hP_M36.g
      intro k i hi
      rcases k with _ | _ | _ | _ | _ | _ | _ | _ | _ | _ | _ | _ | _ | k
      · rcases (show i = 0 ∨ i = 1 ∨ i = 2 ∨ i = 3 by have h4 : i < 4 := hi; omega) with rfl | rfl | rfl | rfl
        · show (M36) (ad 0 0) = hw_ob 12 [.int (hr_th X1), .int (hs_G S 0), .int (hs_G S 1), .ref (ad 0 2), .ref (ad 0 3), .ref (ad 0 1)]
          refine (hP_M36.m 0 0 (show 0 < 4 by decide)).trans ?_
          first | rfl | (simp only [va_up_self]; done) | (simp only [va_up_self]; rfl)
        · show (M36) (ad 0 1) = hw_ar Z 6 2 (fun j => some (ad 7 j))
          refine (hP_M36.m 0 1 (show 1 < 4 by decide)).trans ?_
          first | rfl | (simp only [va_up_self]; done) | (simp only [va_up_self]; rfl)
        · show (M36) (ad 0 2) = hw_ob 0 [.int (hr_mc X1 0), .ref (hr_d (hs_np S) Z.2.2.2 (ad 11 0)), .int (nI (hs_np S))]
          refine (hP_M36.m 0 2 (show 2 < 4 by decide)).trans ?_
          first | rfl | (simp only [va_up_self]; done) | (simp only [va_up_self]; rfl)
        · show (M36) (ad 0 3) = hw_ob 0 [.int (hr_mc X1 1), .ref (hr_d (hs_nw S) Z.2.2.2 (ad 12 0)), .int (nI (hs_nw S))]
          refine (hP_M36.m 0 3 (show 3 < 4 by decide)).trans ?_
          first | rfl | (simp only [va_up_self]; done) | (simp only [va_up_self]; rfl)
      · show (M36) (ad 1 i) = hw_ob 9 [.ref (ad 2 i), .int (hs_P S i 0), .ref (ad 4 i), .int (hs_P S i 3), .int (hs_P S i 4), .int (hs_P S i 5), .int (hs_P S i 6), .int (hs_P S i 7), .int (hs_P S i 8)]
        refine (hP_M36.m 1 i hi).trans ?_
        first | rfl
      · show (M36) (ad 2 i) = hw_ob 11 [.ref (ad 3 i)]
        refine (hP_M36.m 2 i hi).trans ?_
        first | rfl
      · show (M36) (ad 3 i) = hw_al Z 8 (hs_C S i)
        refine (hP_M36.m 3 i hi).trans ?_
        first | rfl
      · show (M36) (ad 4 i) = hw_ob 7 [.double (hr_en (hs_P S i)), .ref (ad 5 i), .double (hs_U S i), .int (hs_P S i 1), .int (hs_P S i 2), .int (nI (hs_D S i))]
        refine (hP_M36.m 4 i hi).trans ?_
        first | rfl
      · show (M36) (ad 5 i) = hw_ad Z 64 (hs_W S i)
        refine (hP_M36.m 5 i hi).trans ?_
        first | rfl
      · show (M36) (ad 6 i) = hw_ob 10 [.int (hs_V S i 0), .int (hs_V S i 1), .int (hs_V S i 2), .int (hs_V S i 3), .int (hs_V S i 4)]
        refine (hP_M36.m 6 i hi).trans ?_
        first | rfl
      · show (M36) (ad 7 i) = hw_ob 8 [.int (hs_M S i 0), .int (hs_M S i 1), .int (hs_M S i 2), .int (hs_M S i 3), .ref (ad 8 i)]
        refine (hP_M36.m 7 i hi).trans ?_
        first | rfl
      · show (M36) (ad 8 i) = hw_ob 0 [.int (hr_mc X1 (2 + i)), .ref (if hr_gr X1 i then ad 9 i else Z.2.2.2), .int (nI (hs_N S i))]
        refine (hP_M36.m 8 i hi).trans ?_
        first | rfl
      · show (M36) (ad 9 i) = hw_ar Z 7 10 (hc_f (fun j => ad 10 (i + 2 * j)) (hs_N S i))
        refine (hP_M36.m 9 i hi).trans ?_
        first | rfl
      · show (M36) (ad 10 i) = hw_ai Z 3 (hr_qq X1 (i % 2) (i / 2))
        refine (hP_M36.m 10 i hi).trans ?_
        first | rfl
      · show (M36) (ad 11 i) = hw_ar Z 7 10 (hc_f (ad 1) (hs_np S))
        refine (hP_M36.m 11 i hi).trans ?_
        first | rfl
      · show (M36) (ad 12 i) = hw_ar Z 7 10 (hc_f (ad 6) (hs_nw S))
        refine (hP_M36.m 12 i hi).trans ?_
        first | rfl
      · exact hi.elim
    have fr_hok : ∀ a, b1 a → (M36) a = M a := fun a ha => fr_M36 a ha
    have hfin : hr_R Z b1 M ad (st_bestWay S ka) (nI (hb_bw (hs_C S (hb_ix ka)) 5)) (M36) := hr_r (S' := S) (X' := X1) (ad' := ad) (by unfold st_bestWay; exact ((if_neg (fun q => q gk)).trans rfl)) rfl hok ht1 fr_hok
    exact hret hI hfin (Nat.le_of_ble_eq_true rfl) (Nat.le_of_ble_eq_true rfl) dX11_bestWay_39
  · refine lv_aload_n hx hb dX11_bestWay_13 rfl (lv_at hl 0 rfl) ?_
    refine lv_iconst (v := nI 1) hx hb dX11_bestWay_14 (by decide) ?_
    refine hw_ci hI (hw_rV hx hb hml hown hts hk hI (m_X11_no l Z M1 (ad 0 0) (ad 0 2) (ad 0 3) (ad 0 1) (hr_th X1) (hs_G S 0) (hs_G S 1) (nI 1) e0_0hP1) cv_X11_44 e0_0hP1 rfl rfl ⟨rfl, rfl⟩ ⟨(Nat.le_of_ble_eq_true rfl), (Nat.le_of_ble_eq_true rfl)⟩ rfl hl.1 rfl (Nat.le_of_ble_eq_true rfl) ⟨(Nat.le_of_ble_eq_true rfl), (Nat.le_of_ble_eq_true rfl)⟩ dX11_bestWay_15) (fun r15 M15 H locs hR hI => ?_)
    obtain ⟨rfl, rfl⟩ := hR
    exact hret hI (hr_x (n := 1) (by unfold st_bestWay; exact (hq_if (hq_df c10) ⟨rfl, rfl⟩)) (by decide) (hP1.th (nI 1)) rfl (fun a ha => (va_up_ne _ _ (hP1.f (k := 0) (i := 0) (show 0 < 4 by decide) ha)).trans (fr1 a ha))) (Nat.le_of_ble_eq_true rfl) (Nat.le_of_ble_eq_true rfl) dX11_bestWay_18

set_option maxHeartbeats 4000000 in
set_option maxRecDepth 100000 in
theorem m_X11_bestSpeed (l : Launch) (Z : hw_Z) (M : hw_M) (ad : hp_ad) (S : hs_S) (X : hr_X) (b1 : Nat → Prop) (ka : Int32) (kw : Int32) (hP : hr_ok Z b1 M ad S X) (hV : hv_ok S) (hA : ∀ a, b1 a → M a ≠ none) : Met l yX11_bestSpeed (hw_m yX11_bestSpeed cX11_bestSpeed 3 (some .int)) ({ frames := 8, cells := 40, slots := 1400, locals := 250 } : Room) (va_Pc [.ref (ad 0 0), .int ka, .int kw] (hw_P Z M)) (hw_Qi Z (hr_R Z b1 M ad (st_bestSpeed S ka kw))) 40 1400 (hw_A Z) := by
  refine hw_ofi (by decide +kernel) rfl (Nat.le_of_ble_eq_true rfl) ?_
  intro p e s m below meth c ls Q hx hb hml hown hts hk hnm hI hl hret
  have hB := hV.b
  have hnp := hB.np
  have hnw := hB.nw
  have e0_0hP : M (ad 0 0) = hw_ob 12 [.int (hr_th X), .int (hs_G S 0), .int (hs_G S 1), .ref (ad 0 2), .ref (ad 0 3), .ref (ad 0 1)] := hP.m 0 0 (show 0 < 4 by decide)
  refine lv_aload_n hx hb dX11_bestSpeed_0 rfl (lv_at hl 0 rfl) ?_
  refine lv_iconst (v := nI 0) hx hb dX11_bestSpeed_1 (by decide) ?_
  refine hw_put (fs' := [.int (nI 0), .int (hs_G S 0), .int (hs_G S 1), .ref (ad 0 2), .ref (ad 0 3), .ref (ad 0 1)]) hx hb hts hown hk hI fp_X11_26 e0_0hP (Nat.le_of_ble_eq_true rfl) rfl rfl rfl dX11_bestSpeed_2 (fun H locs hI => ?_)
  obtain ⟨M1, hM1⟩ : ∃ Y : hw_M, Y = va_up M (ad 0 0) (hw_ob 12 [.int (nI 0), .int (hs_G S 0), .int (hs_G S 1), .ref (ad 0 2), .ref (ad 0 3), .ref (ad 0 1)]) := ⟨_, rfl⟩
  replace hI := hI.eq hM1.symm
  obtain ⟨X1, hX1⟩ : ∃ Y : hr_X, Y = (nI 0, X.2) := ⟨_, rfl⟩
  have hP1 : hr_ok Z b1 M1 ad S X1 := by rw [hM1, hX1]; exact hP.th (nI 0)
  have ht1 : hr_th X1 = nI 0 := by rw [hX1]; rfl
  have hgr1 : hr_gr X1 = hr_gr X := by rw [hX1]; rfl
  have hqq1 : hr_qq X1 = hr_qq X := by rw [hX1]; rfl
  have fr1 : ∀ a, b1 a → M1 a = M a := fun a ha => by rw [hM1]; exact va_up_ne _ _ (hP.f (k := 0) (i := 0) (show 0 < 4 by decide) ha)
  have hA1 : ∀ a, b1 a → M1 a ≠ none := fun a ha => by rw [fr1 a ha]; exact hA a ha
  clear hP hX1
  have e0_0hP1 : M1 (ad 0 0) = hw_ob 12 [.int (hr_th X1), .int (hs_G S 0), .int (hs_G S 1), .ref (ad 0 2), .ref (ad 0 3), .ref (ad 0 1)] := hP1.m 0 0 (show 0 < 4 by decide)
  have e0_2hP1 : M1 (ad 0 2) = hw_ob 0 [.int (hr_mc X1 0), .ref (hr_d (hs_np S) Z.2.2.2 (ad 11 0)), .int (nI (hs_np S))] := hP1.m 0 2 (show 2 < 4 by decide)
  refine lv_aload_n hx hb dX11_bestSpeed_5 rfl (lv_at hl 0 rfl) ?_
  refine lv_iload_n hx hb dX11_bestSpeed_6 rfl (lv_at hl 1 rfl) ?_
  refine hw_ci hI (hw_rV hx hb hml hown hts hk hI (m_X11_isPiece l Z M1 (ad 0 0) (ad 0 2) (ad 0 3) (ad 0 1) (hr_th X1) (hs_G S 0) (hs_G S 1) ka (hr_mc X1 0) (hs_np S) (.ref (hr_d (hs_np S) Z.2.2.2 (ad 11 0))) e0_0hP1 e0_2hP1 (by omega)) cv_X11_55 e0_0hP1 rfl rfl ⟨rfl, rfl⟩ ⟨(Nat.le_of_ble_eq_true rfl), (Nat.le_of_ble_eq_true rfl)⟩ rfl hl.1 rfl (Nat.le_of_ble_eq_true rfl) ⟨(Nat.le_of_ble_eq_true rfl), (Nat.le_of_ble_eq_true rfl)⟩ dX11_bestSpeed_7) (fun r7 M7 H locs hR hI => ?_)
  obtain ⟨rfl, rfl⟩ := hR
  refine lv_if_ne (tgt := 19) hx hb dX11_bestSpeed_10 (by decide) (fun c10 => ?_) (fun c10 => ?_)
  · have gk := hq_dt c10
    refine lv_iload_n hx hb dX11_bestSpeed_19 rfl (lv_at hl 2 rfl) ?_
    refine lv_bipush (v := nI 50) hx hb dX11_bestSpeed_20 (by decide) ?_
    refine lv_sipush (v := nI 400) hx hb dX11_bestSpeed_22 (by decide) ?_
    refine hw_ci hI (hw_rS hx hb hml hown hts hk hI (m_X11_in l Z M1 kw (nI 50) (nI 400)) cs_X11_40 ⟨rfl, rfl⟩ ⟨(Nat.le_of_ble_eq_true rfl), (Nat.le_of_ble_eq_true rfl)⟩ rfl hl.1 rfl (Nat.le_of_ble_eq_true rfl) ⟨(Nat.le_of_ble_eq_true rfl), (Nat.le_of_ble_eq_true rfl)⟩ dX11_bestSpeed_25) (fun r25 M25 H locs hR hI => ?_)
    obtain ⟨rfl, rfl⟩ := hR
    refine hw_ti (congrArg (fun b => nI (Bool.toNat b)) hb_in_ge) ?_
    refine lv_if_ne (tgt := 37) hx hb dX11_bestSpeed_28 (by decide) (fun c28 => ?_) (fun c28 => ?_)
    · have gk2 := hq_dt c28
      have hx_ka := hb_okx (by omega) gk
      have hi_ka : hb_ix ka < hs_np S := hx_ka.1
      have h4_ka : hb_ix ka < 4 := by omega
      have h11 : 0 = 0 ∧ 0 < hs_np S := ⟨rfl, by omega⟩
      have e0_2hP1 : M1 (ad 0 2) = hw_ob 0 [.int (hr_mc X1 0), .ref (ad 11 0), .int (nI (hs_np S))] := by
        have q := hP1.m 0 2 (show 2 < 4 by decide)
        rw [show hr_e Z ad S X1 0 2 = hw_ob 0 [.int (hr_mc X1 0), .ref (hr_d (hs_np S) Z.2.2.2 (ad 11 0)), .int (nI (hs_np S))] from rfl, hr_d0 h11.2] at q
        exact q
      have e11_0hP1 : M1 (ad 11 0) = hw_ar Z 7 10 (hc_f (ad 1) (hs_np S)) := hP1.m 11 0 h11
      have e1_hb_ix_kahP1 : M1 (ad 1 (hb_ix ka)) = hw_ob 9 [.ref (ad 2 (hb_ix ka)), .int (hs_P S (hb_ix ka) 0), .ref (ad 4 (hb_ix ka)), .int (hs_P S (hb_ix ka) 3), .int (hs_P S (hb_ix ka) 4), .int (hs_P S (hb_ix ka) 5), .int (hs_P S (hb_ix ka) 6), .int (hs_P S (hb_ix ka) 7), .int (hs_P S (hb_ix ka) 8)] := hP1.m 1 (hb_ix ka) hi_ka
      have e2_hb_ix_kahP1 : M1 (ad 2 (hb_ix ka)) = hw_ob 11 [.ref (ad 3 (hb_ix ka))] := hP1.m 2 (hb_ix ka) hi_ka
      have e3_hb_ix_kahP1 : M1 (ad 3 (hb_ix ka)) = hw_al Z 8 (hs_C S (hb_ix ka)) := hP1.m 3 (hb_ix ka) hi_ka
      refine lv_aload_n hx hb dX11_bestSpeed_37 rfl (lv_at hl 0 rfl) ?_
      refine lv_aload_n hx hb dX11_bestSpeed_38 rfl (lv_at hl 0 rfl) ?_
      refine hw_get hx hb hts hown hk hI fd_X11_10 e0_0hP1 rfl dX11_bestSpeed_39 ?_
      refine lv_iload_n hx hb dX11_bestSpeed_42 rfl (lv_at hl 1 rfl) ?_
      refine hw_ti hx_ka.2 ?_
      refine hw_cFr hI (hw_rF hx hb hml hown hts hk hI (m_Jx4a65c_get_915e3 l Z M1 (ad 0 2) (ad 11 0) (hs_np S) (hb_ix ka) (ad 1 (hb_ix ka)) (hr_mc X1 0) (hc_f (ad 1) (hs_np S)) e0_2hP1 e11_0hP1 hi_ka (by omega) (if_pos hi_ka)) cf_X11_59 e0_2hP1 rfl rfl ⟨rfl, rfl⟩ ⟨(Nat.le_of_ble_eq_true rfl), (Nat.le_of_ble_eq_true rfl)⟩ rfl hl.1 rfl (Nat.le_of_ble_eq_true rfl) ⟨(Nat.le_of_ble_eq_true rfl), (Nat.le_of_ble_eq_true rfl)⟩ dX11_bestSpeed_43) (fun r43 M43 H locs hR hI => ?_)
      obtain ⟨rfl, rfl⟩ := hR
      refine hw_cast hx hb hts hown hk hI e1_hb_ix_kahP1 rfl (hw_win (w := .classLink RX11 48 RX8) (by decide +kernel) (by decide +kernel)) dX11_bestSpeed_48 ?_
      refine hw_get hx hb hts hown hk hI fd_X11_66 e1_hb_ix_kahP1 rfl dX11_bestSpeed_51 ?_
      refine lv_iload_n hx hb dX11_bestSpeed_54 rfl (lv_at hl 2 rfl) ?_
      refine hw_ci hI (hw_rV hx hb hml hown hts hk hI (m_X11_speedNow l Z M1 (ad 0 0) (ad 2 (hb_ix ka)) (ad 3 (hb_ix ka)) kw (hs_C S (hb_ix ka)) e2_hb_ix_kahP1 e3_hb_ix_kahP1 gk2) cv_X11_246 e0_0hP1 rfl rfl ⟨rfl, rfl⟩ ⟨(Nat.le_of_ble_eq_true rfl), (Nat.le_of_ble_eq_true rfl)⟩ rfl hl.1 rfl (Nat.le_of_ble_eq_true rfl) ⟨(Nat.le_of_ble_eq_true rfl), (Nat.le_of_ble_eq_true rfl)⟩ dX11_bestSpeed_55) (fun r55 M55 H locs hR hI => ?_)
      obtain ⟨rfl, hF55⟩ := hR
      have hF_M55 : hr_F M1 M55 := hF55
      have hP_M55 : hr_ok Z b1 M55 ad S X1 := hP1.F hF_M55
      have fr_M55 : ∀ a, b1 a → M55 a = M a := fun a ha => (hF_M55 a (hA1 a ha)).trans (fr1 a ha)
      have hA_M55 : ∀ a, b1 a → M55 a ≠ none := fun a ha => by rw [fr_M55 a ha]; exact hA a ha
      have e0_0hP_M55 : M55 (ad 0 0) = hw_ob 12 [.int (hr_th X1), .int (hs_G S 0), .int (hs_G S 1), .ref (ad 0 2), .ref (ad 0 3), .ref (ad 0 1)] := hP_M55.m 0 0 (show 0 < 4 by decide)
      have hok : hr_ok Z b1 (M55) ad (S) (X1) := by
        refine hr_old hP_M55 (fun _ _ hi => hi) ?_ hP_M55.q hP_M55.g
        intro k i hi
        rcases k with _ | _ | _ | _ | _ | _ | _ | _ | _ | _ | _ | _ | _ | k
        · rcases (show i = 0 ∨ i = 1 ∨ i = 2 ∨ i = 3 by have h4 : i < 4 := hi; omega) with rfl | rfl | rfl | rfl
          · show (M55) (ad 0 0) = hw_ob 12 [.int (hr_th X1), .int (hs_G S 0), .int (hs_G S 1), .ref (ad 0 2), .ref (ad 0 3), .ref (ad 0 1)]
            refine (hP_M55.m 0 0 (show 0 < 4 by decide)).trans ?_
            first | rfl | (simp only [va_up_self]; done) | (simp only [va_up_self]; rfl)
          · show (M55) (ad 0 1) = hw_ar Z 6 2 (fun j => some (ad 7 j))
            refine (hP_M55.m 0 1 (show 1 < 4 by decide)).trans ?_
            first | rfl | (simp only [va_up_self]; done) | (simp only [va_up_self]; rfl)
          · show (M55) (ad 0 2) = hw_ob 0 [.int (hr_mc X1 0), .ref (hr_d (hs_np S) Z.2.2.2 (ad 11 0)), .int (nI (hs_np S))]
            refine (hP_M55.m 0 2 (show 2 < 4 by decide)).trans ?_
            first | rfl | (simp only [va_up_self]; done) | (simp only [va_up_self]; rfl)
          · show (M55) (ad 0 3) = hw_ob 0 [.int (hr_mc X1 1), .ref (hr_d (hs_nw S) Z.2.2.2 (ad 12 0)), .int (nI (hs_nw S))]
            refine (hP_M55.m 0 3 (show 3 < 4 by decide)).trans ?_
            first | rfl | (simp only [va_up_self]; done) | (simp only [va_up_self]; rfl)
        · show (M55) (ad 1 i) = hw_ob 9 [.ref (ad 2 i), .int (hs_P S i 0), .ref (ad 4 i), .int (hs_P S i 3), .int (hs_P S i 4), .int (hs_P S i 5), .int (hs_P S i 6), .int (hs_P S i 7), .int (hs_P S i 8)]
          refine (hP_M55.m 1 i hi).trans ?_
          first | rfl
        · show (M55) (ad 2 i) = hw_ob 11 [.ref (ad 3 i)]
          refine (hP_M55.m 2 i hi).trans ?_
          first | rfl
        · show (M55) (ad 3 i) = hw_al Z 8 (hs_C S i)
          refine (hP_M55.m 3 i hi).trans ?_
          first | rfl
        · show (M55) (ad 4 i) = hw_ob 7 [.double (hr_en (hs_P S i)), .ref (ad 5 i), .double (hs_U S i), .int (hs_P S i 1), .int (hs_P S i 2), .int (nI (hs_D S i))]
          refine (hP_M55.m 4 i hi).trans ?_
          first | rfl
        · show (M55) (ad 5 i) = hw_ad Z 64 (hs_W S i)
          refine (hP_M55.m 5 i hi).trans ?_
          first | rfl
        · show (M55) (ad 6 i) = hw_ob 10 [.int (hs_V S i 0), .int (hs_V S i 1), .int (hs_V S i 2), .int (hs_V S i 3), .int (hs_V S i 4)]
          refine (hP_M55.m 6 i hi).trans ?_
          first | rfl
        · show (M55) (ad 7 i) = hw_ob 8 [.int (hs_M S i 0), .int (hs_M S i 1), .int (hs_M S i 2), .int (hs_M S i 3), .ref (ad 8 i)]
          refine (hP_M55.m 7 i hi).trans ?_
          first | rfl
        · show (M55) (ad 8 i) = hw_ob 0 [.int (hr_mc X1 (2 + i)), .ref (if hr_gr X1 i then ad 9 i else Z.2.2.2), .int (nI (hs_N S i))]
          refine (hP_M55.m 8 i hi).trans ?_
          first | rfl
        · show (M55) (ad 9 i) = hw_ar Z 7 10 (hc_f (fun j => ad 10 (i + 2 * j)) (hs_N S i))
          refine (hP_M55.m 9 i hi).trans ?_
          first | rfl
        · show (M55) (ad 10 i) = hw_ai Z 3 (hr_qq X1 (i % 2) (i / 2))
          refine (hP_M55.m 10 i hi).trans ?_
          first | rfl
        · show (M55) (ad 11 i) = hw_ar Z 7 10 (hc_f (ad 1) (hs_np S))
          refine (hP_M55.m 11 i hi).trans ?_
          first | rfl
        · show (M55) (ad 12 i) = hw_ar Z 7 10 (hc_f (ad 6) (hs_nw S))
          refine (hP_M55.m 12 i hi).trans ?_
          first | rfl
        · exact hi.elim
      have fr_hok : ∀ a, b1 a → (M55) a = M a := fun a ha => fr_M55 a ha
      have hfin : hr_R Z b1 M ad (st_bestSpeed S ka kw) (nI (hb_bs (hs_C S (hb_ix ka)) kw 19)) (M55) := hr_r (S' := S) (X' := X1) (ad' := ad) (by unfold st_bestSpeed; exact ((if_neg (fun q => q gk)).trans ((if_neg (fun q => q gk2)).trans rfl))) rfl hok ht1 fr_hok
      exact hret hI hfin (Nat.le_of_ble_eq_true rfl) (Nat.le_of_ble_eq_true rfl) dX11_bestSpeed_58
    · refine lv_aload_n hx hb dX11_bestSpeed_31 rfl (lv_at hl 0 rfl) ?_
      refine lv_iconst (v := nI 2) hx hb dX11_bestSpeed_32 (by decide) ?_
      refine hw_ci hI (hw_rV hx hb hml hown hts hk hI (m_X11_no l Z M1 (ad 0 0) (ad 0 2) (ad 0 3) (ad 0 1) (hr_th X1) (hs_G S 0) (hs_G S 1) (nI 2) e0_0hP1) cv_X11_44 e0_0hP1 rfl rfl ⟨rfl, rfl⟩ ⟨(Nat.le_of_ble_eq_true rfl), (Nat.le_of_ble_eq_true rfl)⟩ rfl hl.1 rfl (Nat.le_of_ble_eq_true rfl) ⟨(Nat.le_of_ble_eq_true rfl), (Nat.le_of_ble_eq_true rfl)⟩ dX11_bestSpeed_33) (fun r33 M33 H locs hR hI => ?_)
      obtain ⟨rfl, rfl⟩ := hR
      exact hret hI (hr_x (n := 2) (by unfold st_bestSpeed; exact (hq_el (fun q => q gk) (hq_if (hq_df c28) ⟨rfl, rfl⟩))) (by decide) (hP1.th (nI 2)) rfl (fun a ha => (va_up_ne _ _ (hP1.f (k := 0) (i := 0) (show 0 < 4 by decide) ha)).trans (fr1 a ha))) (Nat.le_of_ble_eq_true rfl) (Nat.le_of_ble_eq_true rfl) dX11_bestSpeed_36
  · refine lv_aload_n hx hb dX11_bestSpeed_13 rfl (lv_at hl 0 rfl) ?_
    refine lv_iconst (v := nI 1) hx hb dX11_bestSpeed_14 (by decide) ?_
    refine hw_ci hI (hw_rV hx hb hml hown hts hk hI (m_X11_no l Z M1 (ad 0 0) (ad 0 2) (ad 0 3) (ad 0 1) (hr_th X1) (hs_G S 0) (hs_G S 1) (nI 1) e0_0hP1) cv_X11_44 e0_0hP1 rfl rfl ⟨rfl, rfl⟩ ⟨(Nat.le_of_ble_eq_true rfl), (Nat.le_of_ble_eq_true rfl)⟩ rfl hl.1 rfl (Nat.le_of_ble_eq_true rfl) ⟨(Nat.le_of_ble_eq_true rfl), (Nat.le_of_ble_eq_true rfl)⟩ dX11_bestSpeed_15) (fun r15 M15 H locs hR hI => ?_)
    obtain ⟨rfl, rfl⟩ := hR
    exact hret hI (hr_x (n := 1) (by unfold st_bestSpeed; exact (hq_if (hq_df c10) ⟨rfl, rfl⟩)) (by decide) (hP1.th (nI 1)) rfl (fun a ha => (va_up_ne _ _ (hP1.f (k := 0) (i := 0) (show 0 < 4 by decide) ha)).trans (fr1 a ha))) (Nat.le_of_ble_eq_true rfl) (Nat.le_of_ble_eq_true rfl) dX11_bestSpeed_18
