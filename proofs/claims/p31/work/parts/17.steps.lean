/-! What each call answers, and the state behind it: code of the exception (0 without one), answer, state. -/
def hs_vm (S : hs_S) (k f : Nat) : Int32 := hs_M S k f
def st_piece (S : hs_S) : Nat × Int32 × hs_S := if 4 ≤ hs_np S then (1, 0, S) else (0, nI (hs_np S), hs_sp S (hs_np S + 1))
def st_layer (S : hs_S) (p k : Int32) (x : Int64) : Nat × Int32 × hs_S :=
  if ¬ (hb_ok p (hs_np S) ∧ hb_ok k 8) then (1, 0, S)
  else if ¬ hs_P S (hb_ix p) 0 = 0 then (2, 0, S)
  else (0, nI (hb_pc x), hs_sC S (hb_ix p) (va_up (hs_C S (hb_ix p)) (hb_ix k) x))
def st_lay (S : hs_S) (p w : Int32) : Nat × Int32 × hs_S :=
  if ¬ hb_ok p (hs_np S) then (1, 0, S)
  else if ¬ hb_ok w 6 then (2, 0, S)
  else if ¬ hs_P S (hb_ix p) 0 = 0 then (3, 0, S)
  else (0, nI (hb_ht (hb_laid (hs_C S (hb_ix p)) (hb_ix w)) 8), hs_sC S (hb_ix p) (hb_laid (hs_C S (hb_ix p)) (hb_ix w)))
def st_powder (S : hs_S) (a g : Int32) : Nat × Int32 × hs_S :=
  if ¬ (hb_ok a 3 ∧ ¬ g < nI 1 ∧ g ≤ nI 2000) then (1, 0, S)
  else if 6 ≤ hs_nw S then (2, 0, S)
  else (0, nI (hs_nw S), hs_sw (hs_sV S (hs_nw S) (va_up (va_up (hs_V S (hs_nw S)) 0 a) 1 g)) (hs_nw S + 1))
def st_blend (S : hs_S) (f g : Int32) : Nat × Int32 × hs_S :=
  if ¬ (hb_ok f (hs_nw S) ∧ hb_ok g (hs_nw S)) then (1, 0, S)
  else if f = g ∨ ¬ hs_V S (hb_ix f) 0 = hs_V S (hb_ix g) 0 then (2, 0, S)
  else if ¬ hs_V S (hb_ix f) 4 = -1 ∨ ¬ hs_V S (hb_ix g) 4 = -1 then (3, 0, S)
  else (0, hs_V S (hb_ix f) 1 + hs_V S (hb_ix g) 1, hs_sV (hs_sV S (hb_ix f) (va_up (va_up (va_up (hs_V S (hb_ix f)) 1 (hs_V S (hb_ix f) 1 + hs_V S (hb_ix g) 1)) 2 (hb_max (hs_V S (hb_ix f) 2) (hs_V S (hb_ix g) 2))) 3 (hs_V S (hb_ix f) 3 ||| hs_V S (hb_ix g) 3))) (hb_ix g) (va_up (hs_V S (hb_ix g)) 1 0))
def st_load (S : hs_S) (m p : Int32) : Nat × Int32 × hs_S :=
  if ¬ (hb_ok m 2 ∧ hb_ok p (hs_nw S)) then (1, 0, S)
  else if ¬ hs_M S (hb_ix m) 1 = -1 ∨ ¬ hs_V S (hb_ix p) 4 = -1 ∨ hs_V S (hb_ix p) 1 = 0 then (2, 0, S)
  else if ¬ hs_M S (hb_ix m) 0 = -1 ∧ ¬ hs_M S (hb_ix m) 0 = hs_V S (hb_ix p) 0 then (0, -2, S)
  else if nI 4 < hs_V S (hb_ix p) 2 then (0, -3, S)
  else (0, hs_V S (hb_ix p) 1, hs_sV (hs_sM S (hb_ix m) (va_up (va_up (va_up (hs_M S (hb_ix m)) 0 (hs_V S (hb_ix p) 0)) 1 p) 2 (hs_V S (hb_ix p) 1))) (hb_ix p) (va_up (va_up (hs_V S (hb_ix p)) 1 0) 4 m))
/-- the powder of machine k gets so much back -/
def hs_gb (S : hs_S) (k : Nat) (x : Int32) : hs_S :=
  hs_sV (hs_sM S k (va_up (va_up (hs_M S k) 1 (-1)) 2 0)) (hb_ix (hs_M S k 1)) (va_up (va_up (va_up (hs_V S (hb_ix (hs_M S k 1))) 1 (hs_V S (hb_ix (hs_M S k 1)) 1 + x)) 2 (hs_V S (hb_ix (hs_M S k 1)) 2 + nI 1)) 4 (-1))
def st_unload (S : hs_S) (m : Int32) : Nat × Int32 × hs_S :=
  if ¬ hb_ok m 2 then (1, 0, S)
  else if hs_M S (hb_ix m) 1 = -1 ∨ ¬ hs_M S (hb_ix m) 3 = -1 then (2, 0, S)
  else (0, hs_V S (hb_ix (hs_M S (hb_ix m) 1)) 1 + hs_M S (hb_ix m) 2, hs_gb S (hb_ix m) (hs_M S (hb_ix m) 2))
def hs_c1 (S : hs_S) (k : Nat) : hs_S := if hs_M S k 1 = -1 then S else hs_gb S k (hs_M S k 2 * nI 9 / nI 10)
def hs_c2 (S : hs_S) (k : Nat) : hs_S := if hs_M S k 3 = -1 then S else hs_sP S (hb_ix (hs_M S k 3)) (va_up (hs_P S (hb_ix (hs_M S k 3))) 0 (nI 6))
def hs_cl (S : hs_S) (k : Nat) : hs_S := hs_sN (hs_sM (hs_c2 (hs_c1 S k) k) k (va_up (va_up (hs_M (hs_c1 S k) k) 0 (-1)) 3 (-1))) k 0
def st_clean (S : hs_S) (m : Int32) : Nat × Int32 × hs_S :=
  if ¬ hb_ok m 2 then (1, 0, S)
  else (0, nI (hs_N S (hb_ix m)), hs_cl S (hb_ix m))
def st_start (S : hs_S) (m p w d : Int32) : Nat × Int32 × hs_S :=
  if ¬ (hb_ok m 2 ∧ hb_ok p (hs_np S)) then (1, 0, S)
  else if ¬ (hb_pw w ∧ ¬ d < nI 1 ∧ d ≤ nI 20) then (2, 0, S)
  else if ¬ hs_P S (hb_ix p) 0 = 0 ∨ hb_ht (hs_C S (hb_ix p)) 8 = 0 ∨ ¬ hs_M S (hb_ix m) 3 = -1 ∨ hs_M S (hb_ix m) 1 = -1 then (3, 0, S)
  else (0, nI (hb_ht (hs_C S (hb_ix p)) 8), hs_sM (hs_sP S (hb_ix p) (va_up (va_up (va_up (va_up (va_up (va_up (va_up (hs_P S (hb_ix p)) 0 (nI 1)) 4 m) 5 w) 6 d) 7 (hs_V S (hb_ix (hs_M S (hb_ix m) 1)) 2)) 8 (hs_V S (hb_ix (hs_M S (hb_ix m) 1)) 3)) 9 (hb_win (hs_V S (hb_ix (hs_M S (hb_ix m) 1)) 0) w d))) (hb_ix m) (va_up (hs_M S (hb_ix m)) 3 p))
/-- the grams that piece g's next layer needs -/
def hs_need (S : hs_S) (g : Nat) : Int32 := nI (hb_pc (hs_C S g (hs_D S g)) + hb_pc (hb_supp (hs_C S g) (hs_D S g)))
/-- piece g's next layer: the light's work -/
def hs_lit (S : hs_S) (g : Nat) : hs_S :=
  hs_sD (hs_sU (hs_sW (hs_sP S g (va_up (va_up (hs_P S g) 1 (hs_P S g 1 + nI (hb_ct (hb_lp (hs_C S g (hs_D S g)) (hb_hang (hs_C S g) (hs_D S g)) (hb_en (hs_P S g 5) (hs_P S g 6)) (hs_W S g)) 64))) 2 (hs_P S g 2 + nI (hb_ct (hb_hp (hs_C S g (hs_D S g)) (hb_hang (hs_C S g) (hs_D S g)) (hb_en (hs_P S g 5) (hs_P S g 6)) (hs_W S g)) 64)))) g (hb_wf (hs_C S g (hs_D S g)) (hb_en (hs_P S g 5) (hs_P S g 6)) (hs_W S g))) g (hb_cu (hs_U S g) (hb_pc (hb_hang (hs_C S g) (hs_D S g))))) g (hs_D S g + 1)
/-- a layer grown in machine k: load, light, the piece's end -/
def hs_g1 (S : hs_S) (k : Nat) : hs_S :=
  let g := hb_ix (hs_M S k 3)
  let A := hs_sG (hs_lit (hs_sM S k (va_up (hs_M S k) 2 (hs_M S k 2 - hs_need S g))) g) (va_up (hs_G S) 1 (hs_G S 1 + nI 1))
  if hb_struck (hs_U A g) then hs_sM (hs_sP (hs_sG A (va_up (hs_G A) 0 (hs_G A 0 + nI 1))) g (va_up (hs_P A g) 0 (nI 6))) k (va_up (hs_M A k) 3 (-1))
  else if hb_ht (hs_C S g) 8 ≤ hs_D A g then hs_sM (hs_sP A g (va_up (hs_P A g) 0 (nI 2))) k (va_up (hs_M A k) 3 (-1))
  else A
/-- whether a layer can be grown in machine k -/
abbrev hs_can (S : hs_S) (k : Nat) : Prop := ¬ hs_M S k 3 = -1 ∧ ¬ hb_ht (hs_C S (hb_ix (hs_M S k 3))) 8 ≤ hs_D S (hb_ix (hs_M S k 3)) ∧ ¬ hs_M S k 2 < hs_need S (hb_ix (hs_M S k 3))
/-- at most n layers: how many were done, the state behind them -/
def hs_gr (k : Nat) : Nat → hs_S → Nat × hs_S
  | 0, S => (0, S)
  | n + 1, S => if hs_can S k then ((hs_gr k n (hs_g1 S k)).1 + 1, (hs_gr k n (hs_g1 S k)).2) else (0, S)
def st_grow (S : hs_S) (m n : Int32) : Nat × Int32 × hs_S :=
  if ¬ hb_ok m 2 then (1, 0, S)
  else if ¬ (¬ n < nI 1 ∧ n ≤ nI 8) then (2, 0, S)
  else if hs_M S (hb_ix m) 3 = -1 then (3, 0, S)
  else (0, nI (hs_gr (hb_ix m) (hb_ix n) S).1, (hs_gr (hb_ix m) (hb_ix n) S).2)
def st_stop (S : hs_S) (m : Int32) : Nat × Int32 × hs_S :=
  if ¬ hb_ok m 2 then (1, 0, S)
  else if hs_M S (hb_ix m) 3 = -1 then (2, 0, S)
  else (0, hs_P S (hb_ix (hs_M S (hb_ix m) 3)) 3 + nI 1, hs_sW (hs_sP S (hb_ix (hs_M S (hb_ix m) 3)) (va_up (hs_P S (hb_ix (hs_M S (hb_ix m) 3))) 3 (hs_P S (hb_ix (hs_M S (hb_ix m) 3)) 3 + nI 1))) (hb_ix (hs_M S (hb_ix m) 3)) (fun _ => FP.dconst0))
def st_relieve (S : hs_S) (p : Int32) : Nat × Int32 × hs_S :=
  if ¬ hb_ok p (hs_np S) then (1, 0, S)
  else if ¬ hs_P S (hb_ix p) 0 = nI 2 then (2, 0, S)
  else (0, hs_P S (hb_ix p) 1, hs_sP S (hb_ix p) (va_up (hs_P S (hb_ix p)) 0 (nI 3)))
def st_saw (S : hs_S) (p : Int32) : Nat × Int32 × hs_S :=
  if ¬ hb_ok p (hs_np S) then (1, 0, S)
  else if ¬ hs_P S (hb_ix p) 0 = nI 2 ∧ ¬ hs_P S (hb_ix p) 0 = nI 3 then (2, 0, S)
  else if hs_P S (hb_ix p) 0 = nI 3 then (0, nI 1, hs_sP S (hb_ix p) (va_up (hs_P S (hb_ix p)) 0 (nI 4)))
  else (0, nI 0, hs_sP S (hb_ix p) (va_up (hs_P S (hb_ix p)) 0 (nI 6)))
def st_press (S : hs_S) (p : Int32) : Nat × Int32 × hs_S :=
  if ¬ hb_ok p (hs_np S) then (1, 0, S)
  else if ¬ hs_P S (hb_ix p) 0 = nI 3 ∧ ¬ hs_P S (hb_ix p) 0 = nI 4 then (2, 0, S)
  else (0, hs_P S (hb_ix p) 1 / nI 4, hs_sP S (hb_ix p) (va_up (hs_P S (hb_ix p)) 1 (hs_P S (hb_ix p) 1 / nI 4)))
/-- the density of piece i -/
def hs_de (S : hs_S) (i : Nat) : UInt64 := hb_dens (hs_P S i 1) (hs_P S i 2) (nI (hb_sm (fun k => hb_pc (hs_C S i k)) 8))
def st_prove (S : hs_S) (p : Int32) : Nat × Int32 × hs_S :=
  if ¬ hb_ok p (hs_np S) then (1, 0, S)
  else if ¬ hs_P S (hb_ix p) 0 = nI 4 then (2, 0, S)
  else if hs_P S (hb_ix p) 4 = -1 ∨ hb_isd (hs_de S (hb_ix p)) = false then (0, nI 0, S)
  else (0, nI 1, hs_sN (hs_sQ S (hb_ix (hs_P S (hb_ix p) 4)) (hb_apf (hs_Q S (hb_ix (hs_P S (hb_ix p) 4))) (hs_N S (hb_ix (hs_P S (hb_ix p) 4))) (hs_P S (hb_ix p) 9))) (hb_ix (hs_P S (hb_ix p) 4)) (hb_apn (hs_Q S (hb_ix (hs_P S (hb_ix p) 4))) (hs_N S (hb_ix (hs_P S (hb_ix p) 4))) (hs_P S (hb_ix p) 9)))
def st_accept (S : hs_S) (p : Int32) : Nat × Int32 × hs_S :=
  if ¬ hb_ok p (hs_np S) then (1, 0, S)
  else if ¬ hs_P S (hb_ix p) 0 = nI 4 then (2, 0, S)
  else if hs_P S (hb_ix p) 4 = -1 ∨ hb_has (hs_Q S (hb_ix (hs_P S (hb_ix p) 4))) (hs_P S (hb_ix p) 9) (hs_N S (hb_ix (hs_P S (hb_ix p) 4))) = false then (0, nI 1, S)
  else if hb_isd (hs_de S (hb_ix p)) = false then (0, nI 2, S)
  else if nI 1 < hs_P S (hb_ix p) 3 then (0, nI 3, S)
  else (0, nI 0, hs_sP S (hb_ix p) (va_up (hs_P S (hb_ix p)) 0 (nI 5)))
/-- what is asked of piece i -/
def hs_op (S : hs_S) (i : Nat) : Nat → Int32
  | 0 => hs_P S i 0
  | 1 => nI (hb_ht (hs_C S i) 8)
  | 2 => nI (hb_sm (fun k => hb_pc (hs_C S i k)) 8)
  | 3 => nI (hb_sm (fun k => hb_pc (hb_hang (hs_C S i) k)) 8)
  | 4 => nI (hb_isl (hs_C S i) 7)
  | 5 => nI (hb_sm (fun k => hb_pc (hb_supp (hs_C S i) k)) 8)
  | 6 => nI (hs_D S i)
  | 7 => hs_P S i 1
  | 8 => hs_P S i 2
  | 9 => hs_P S i 3
  | 10 => hs_P S i 4
  | 11 => hs_P S i 5
  | 12 => hs_P S i 6
  | 13 => hs_P S i 7
  | _ => hs_P S i 8
def st_ofPiece (S : hs_S) (p w : Int32) : Nat × Int32 × hs_S :=
  if ¬ hb_ok p (hs_np S) then (1, 0, S) else if ¬ hb_ok w 15 then (2, 0, S) else (0, hs_op S (hb_ix p) (hb_ix w), S)
def hs_ol (S : hs_S) (i k : Nat) : Nat → Int64
  | 0 => hs_C S i k
  | 1 => hb_hang (hs_C S i) k
  | _ => hb_supp (hs_C S i) k
def st_ofLayer (S : hs_S) (p k w : Int32) : Nat × Int64 × hs_S :=
  if ¬ (hb_ok p (hs_np S) ∧ hb_ok k 8) then (1, 0, S) else if ¬ hb_ok w 3 then (2, 0, S) else (0, hs_ol S (hb_ix p) (hb_ix k) (hb_ix w), S)
def st_ofPowder (S : hs_S) (p w : Int32) : Nat × Int32 × hs_S :=
  if ¬ hb_ok p (hs_nw S) then (1, 0, S) else if ¬ hb_ok w 5 then (2, 0, S) else (0, hs_V S (hb_ix p) (hb_ix w), S)
def hs_om (S : hs_S) (k w : Nat) : Int32 := if w < 4 then hs_M S k w else nI (hs_N S k)
def st_ofMachine (S : hs_S) (m w : Int32) : Nat × Int32 × hs_S :=
  if ¬ hb_ok m 2 then (1, 0, S) else if ¬ hb_ok w 5 then (2, 0, S) else (0, hs_om S (hb_ix m) (hb_ix w), S)
def st_warm (S : hs_S) (m x y : Int32) : Nat × UInt64 × hs_S :=
  if ¬ (hb_ok m 2 ∧ hb_ok x 8 ∧ hb_ok y 8) then (1, 0, S) else (0, if hs_M S (hb_ix m) 3 = -1 then FP.dconst0 else hs_W S (hb_ix (hs_M S (hb_ix m) 3)) (hb_ix x + 8 * hb_ix y), S)
def hs_me (S : hs_S) (i : Nat) : Nat → UInt64
  | 0 => hs_de S i
  | _ => hs_U S i
def st_measure (S : hs_S) (p w : Int32) : Nat × UInt64 × hs_S :=
  if ¬ hb_ok p (hs_np S) then (1, 0, S) else if ¬ hb_ok w 2 then (2, 0, S) else (0, hs_me S (hb_ix p) (hb_ix w), S)
def hs_re (S : hs_S) (w : Nat) : Nat → Int32
  | 0 => 0
  | i + 1 => if ¬ hs_P S i 4 = -1 ∧ ¬ (hs_P S i 8 &&& (nI 1 <<< (nI w &&& 31))) = 0 then hs_re S w i ||| (nI 1 <<< (nI i &&& 31)) else hs_re S w i
def st_recall (S : hs_S) (p : Int32) : Nat × Int32 × hs_S :=
  if ¬ hb_ok p (hs_nw S) then (1, 0, S) else (0, hs_re S (hb_ix p) (hs_np S), S)
/-- how many of the first n pieces are x -/
def hs_ca (S : hs_S) (x : Int32) : Nat → Nat
  | 0 => 0
  | i + 1 => if hs_P S i 0 = x then hs_ca S x i + 1 else hs_ca S x i
def hs_gs (S : hs_S) : Nat → Int32
  | 0 => 0
  | j + 1 => hs_gs S j + hs_V S j 1
def hs_many (S : hs_S) : Nat → Int32
  | 0 => nI (hs_np S)
  | 1 => nI (hs_nw S)
  | 2 => nI (hs_N S 0 + hs_N S 1)
  | 3 => nI (hs_ca S (nI 5) (hs_np S))
  | 4 => nI (hs_ca S (nI 6) (hs_np S))
  | 5 => hs_gs S (hs_nw S) + hs_M S 0 2 + hs_M S 1 2
  | 6 => hs_G S 0
  | _ => hs_G S 1
def st_many (S : hs_S) (w : Int32) : Nat × Int32 × hs_S :=
  if ¬ hb_ok w 8 then (1, 0, S) else (0, hs_many S (hb_ix w), S)
/-- how much support the cells C want, laid so -/
def hb_ws (C : Nat → Int64) (way : Nat) : Nat := hb_sm (fun k => hb_pc (hb_supp (hb_laid C way) k)) 8
def hb_wh (C : Nat → Int64) (way : Nat) : Nat := hb_ht (hb_laid C way) 8
def st_wouldHold (S : hs_S) (p w : Int32) : Nat × Int32 × hs_S :=
  if ¬ hb_ok p (hs_np S) then (1, 0, S) else if ¬ hb_ok w 6 then (2, 0, S) else (0, nI (hb_ws (hs_C S (hb_ix p)) (hb_ix w)), S)
/-- the best of the first n + 1 ways -/
def hb_bw (C : Nat → Int64) : Nat → Nat
  | 0 => 0
  | n + 1 => if hb_ws C (n + 1) < hb_ws C (hb_bw C n) ∨ (hb_ws C (n + 1) = hb_ws C (hb_bw C n) ∧ hb_wh C (n + 1) < hb_wh C (hb_bw C n)) then n + 1 else hb_bw C n
def st_bestWay (S : hs_S) (p : Int32) : Nat × Int32 × hs_S :=
  if ¬ hb_ok p (hs_np S) then (1, 0, S) else (0, nI (hb_bw (hs_C S (hb_ix p)) 5), S)
/-- warmth, lacks and holes behind n layers of the cells C, by the energy e -/
def hb_tw (C : Nat → Int64) (e : UInt64) : Nat → Nat → UInt64
  | 0 => fun _ => FP.dconst0
  | n + 1 => hb_wf (C n) e (hb_tw C e n)
def hb_tl (C : Nat → Int64) (e : UInt64) : Nat → Nat
  | 0 => 0
  | n + 1 => hb_tl C e n + hb_ct (hb_lp (C n) (hb_hang C n) e (hb_tw C e n)) 64
def hb_th (C : Nat → Int64) (e : UInt64) : Nat → Nat
  | 0 => 0
  | n + 1 => hb_th C e n + hb_ct (hb_hp (C n) (hb_hang C n) e (hb_tw C e n)) 64
/-- the flaws of a speed -/
def hb_fw (C : Nat → Int64) (w : Int32) (d : Nat) : Nat := hb_tl C (hb_en w (nI d)) (hb_ht C 8) + hb_th C (hb_en w (nI d)) (hb_ht C 8)
/-- the best of the speeds 1 to n + 1 -/
def hb_bs (C : Nat → Int64) (w : Int32) : Nat → Nat
  | 0 => 1
  | n + 1 => if hb_fw C w (n + 2) ≤ hb_fw C w (hb_bs C w n) then n + 2 else hb_bs C w n
def st_bestSpeed (S : hs_S) (p w : Int32) : Nat × Int32 × hs_S :=
  if ¬ hb_ok p (hs_np S) then (1, 0, S) else if ¬ hb_pw w then (2, 0, S) else (0, nI (hb_bs (hs_C S (hb_ix p)) w 19), S)
-- the digest
def hd_f (f : Nat → Int64) : Nat → Int64 → Int64
  | 0, d => d
  | n + 1, d => hd_f f n d * 31 + f n
def hd_layer (S : hs_S) (i : Nat) : Nat → Int64 → Int64
  | 0, d => d
  | k + 1, d => hd_f (hs_ol S i k) 3 (hd_layer S i k d)
def hd_piece (S : hs_S) (i : Nat) (d : Int64) : Int64 :=
  hd_layer S i 8 (((hd_f (fun w => (hs_op S i w).toInt64) 15 d * 31 + FP.d2l (FP.dmul (hs_U S i) 4620693217682128896)) * 31 + (nI (hb_bw (hs_C S i) 5)).toInt64) * 31 + (nI (hb_bs (hs_C S i) (nI 200) 19)).toInt64)
def hd_pieces (S : hs_S) : Nat → Int64 → Int64
  | 0, d => d
  | i + 1, d => hd_piece S i (hd_pieces S i d)
def hd_powders (S : hs_S) : Nat → Int64 → Int64
  | 0, d => d
  | j + 1, d => hd_f (fun w => (hs_V S j w).toInt64) 5 (hd_powders S j d) * 31 + (hs_re S j (hs_np S)).toInt64
def hd_machines (S : hs_S) : Nat → Int64 → Int64
  | 0, d => d
  | k + 1, d => hd_f (fun w => (hs_om S k w).toInt64) 5 (hd_machines S k d)
def st_digest (S : hs_S) : Int64 := hd_machines S 2 (hd_powders S (hs_nw S) (hd_pieces S (hs_np S) (hd_f (fun w => (hs_many S w).toInt64) 8 9608)))
/-- which exception a code means -/
def hs_xn (L : List String) (c : Nat) (E : String) : Prop := 0 < c ∧ L[c - 1]? = some E
