/-! What is tried: ways, speeds; the digest. -/
/-- an answer that changes the trial alone -/
def hq_T {α : Type} (Z : hw_Z) (b1 : Nat → Prop) (M : hw_M) (ad : hp_ad) (S : hs_S) (x r : α) (M' : hw_M) : Prop := x = r ∧ (∃ T', hp_ok Z b1 M' ad S T') ∧ ∀ a, b1 a → M' a = M a
theorem hq_t {α : Type} {Z : hw_Z} {b1 : Nat → Prop} {M : hw_M} {ad : hp_ad} {S : hs_S} {x r : α} {M' : hw_M} {T' : hp_T} (h : x = r) (hp : hp_ok Z b1 M' ad S T') (hf : ∀ a, b1 a → M' a = M a) : hq_T Z b1 M ad S x r M' := ⟨h, ⟨T', hp⟩, hf⟩
def hb_bwL (C : Nat → Int64) : Nat → Nat
  | 0 => 0
  | n + 1 => hb_bw C n
def hb_bwF (C : Nat → Int64) : Nat → Nat
  | 0 => 0
  | n + 1 => hb_ws C (hb_bw C n)
def hb_bwG (C : Nat → Int64) : Nat → Nat
  | 0 => 0
  | n + 1 => hb_wh C (hb_bw C n)
theorem hb_sm_le {f : Nat → Nat} {b : Nat} (h : ∀ k, f k ≤ b) : ∀ n, hb_sm f n ≤ n * b
  | 0 => Nat.zero_le _
  | n + 1 => by
    have h1 := hb_sm_le h n
    have h2 := h n
    show hb_sm f n + f n ≤ (n + 1) * b
    rw [Nat.succ_mul]; omega
theorem hb_ws_le (C : Nat → Int64) (w : Nat) : hb_ws C w ≤ 512 := hb_sm_le (b := 64) (fun k => hb_pc_le _) 8
theorem hb_wh_le (C : Nat → Int64) (w : Nat) : hb_wh C w ≤ 8 := hb_ht_le _ 8
theorem hb_bwF_le (C : Nat → Int64) (v : Nat) : hb_bwF C v ≤ 512 := by
  cases v with
  | zero => exact Nat.zero_le _
  | succ n => exact hb_ws_le _ _
theorem hb_bwG_le (C : Nat → Int64) (v : Nat) : hb_bwG C v ≤ 8 := by
  cases v with
  | zero => exact Nat.zero_le _
  | succ n => exact hb_wh_le _ _
theorem hb_bw_y0 {C : Nat → Int64} {v : Nat} (h : v = 0) : hb_bw C v = v := by subst h; rfl
theorem hb_bw_y {C : Nat → Int64} {v : Nat} (h0 : ¬ v = 0) (h : hb_ws C v < hb_bwF C v ∨ (hb_ws C v = hb_bwF C v ∧ hb_wh C v < hb_bwG C v)) : hb_bw C v = v := by
  obtain ⟨n, rfl⟩ : ∃ n, v = n + 1 := ⟨v - 1, by omega⟩
  exact if_pos h
theorem hb_bw_n {C : Nat → Int64} {v : Nat} (h0 : ¬ v = 0) (h : ¬ (hb_ws C v < hb_bwF C v ∨ (hb_ws C v = hb_bwF C v ∧ hb_wh C v < hb_bwG C v))) : hb_bw C v = hb_bwL C v ∧ hb_ws C (hb_bw C v) = hb_bwF C v ∧ hb_wh C (hb_bw C v) = hb_bwG C v := by
  obtain ⟨n, rfl⟩ : ∃ n, v = n + 1 := ⟨v - 1, by omega⟩
  have e : hb_bw C (n + 1) = hb_bw C n := if_neg h
  rw [e]; exact ⟨rfl, rfl, rfl⟩
def hb_bsL (C : Nat → Int64) (w : Int32) : Nat → Nat
  | 0 => 1
  | n + 1 => hb_bs C w n
def hb_bsF (C : Nat → Int64) (w : Int32) : Nat → Nat
  | 0 => 0
  | n + 1 => hb_fw C w (hb_bs C w n)
theorem hb_tl_le (C : Nat → Int64) (e : UInt64) : ∀ n, hb_tl C e n ≤ n * 64
  | 0 => Nat.zero_le _
  | n + 1 => by
    have h1 := hb_tl_le C e n
    have h2 := hb_ct_le (hb_lp (C n) (hb_hang C n) e (hb_tw C e n)) 64
    show hb_tl C e n + _ ≤ (n + 1) * 64
    omega
theorem hb_th_le (C : Nat → Int64) (e : UInt64) : ∀ n, hb_th C e n ≤ n * 64
  | 0 => Nat.zero_le _
  | n + 1 => by
    have h1 := hb_th_le C e n
    have h2 := hb_ct_le (hb_hp (C n) (hb_hang C n) e (hb_tw C e n)) 64
    show hb_th C e n + _ ≤ (n + 1) * 64
    omega
theorem hb_fw_le (C : Nat → Int64) (w : Int32) (d : Nat) : hb_fw C w d ≤ 1024 := by
  have h1 := hb_tl_le C (hb_en w (nI d)) (hb_ht C 8)
  have h2 := hb_th_le C (hb_en w (nI d)) (hb_ht C 8)
  have h3 := hb_ht_le C 8
  unfold hb_fw; omega
theorem hb_bsF_le (C : Nat → Int64) (w : Int32) (v : Nat) : hb_bsF C w v ≤ 1024 := by
  cases v with
  | zero => exact Nat.zero_le _
  | succ n => exact hb_fw_le _ _ _
theorem hb_bs_y0 {C : Nat → Int64} {w : Int32} {v : Nat} (h : v = 0) : hb_bs C w v = v + 1 := by subst h; rfl
theorem hb_bs_y {C : Nat → Int64} {w : Int32} {v : Nat} (h0 : ¬ v = 0) (h : hb_fw C w (v + 1) ≤ hb_bsF C w v) : hb_bs C w v = v + 1 := by
  obtain ⟨n, rfl⟩ : ∃ n, v = n + 1 := ⟨v - 1, by omega⟩
  exact if_pos h
theorem hb_bs_n {C : Nat → Int64} {w : Int32} {v : Nat} (h0 : ¬ v = 0) (h : ¬ hb_fw C w (v + 1) ≤ hb_bsF C w v) : hb_bs C w v = hb_bsL C w v ∧ hb_fw C w (hb_bs C w v) = hb_bsF C w v := by
  obtain ⟨n, rfl⟩ : ∃ n, v = n + 1 := ⟨v - 1, by omega⟩
  have e : hb_bs C w (n + 1) = hb_bs C w n := if_neg h
  rw [e]; exact ⟨rfl, rfl⟩
theorem hb_tw_pz {C : Nat → Int64} {e : UInt64} (he : hb_pz e) : ∀ n p, hb_pz (hb_tw C e n p)
  | 0, _ => hf_zero
  | n + 1, p => hb_wf_pz he (hb_tw_pz he n) p
theorem hw_ob3 {ci : Nat} {a1 a2 a3 b2 b3 : Value} (h2 : a2 = b2) (h3 : a3 = b3) : hw_ob ci [a1, a2, a3] = hw_ob ci [a1, b2, b3] := by rw [h2, h3]
theorem hb_pw0 {k : Int32} (h : hb_pw k) : 0 ≤ k := by
  have h1 := Int32.not_lt.mp h.1
  exact Int32.le_trans (by decide) h1
theorem hb_s1 {n : Nat} (h : n + 1 < 2 ^ 31) : 0 < nI (n + 1) := by rw [← nI_0]; exact nI_lt (by omega) h
