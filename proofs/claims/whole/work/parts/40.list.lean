theorem cb_Jxa1e45_init_da8c8 (own : String) (index : Nat) : hw_CB own index yJxa1e45_init_da8c8 cJxa1e45_init_da8c8 1 none 0 := ⟨⟨by decide +kernel, by decide +kernel, by decide +kernel⟩, (hw_win (w := .code yJxa1e45_init_da8c8 cJxa1e45_init_da8c8 1 none) (by decide +kernel) (by decide +kernel)), (hw_win (w := .initialized yJxa1e45_init_da8c8.cls) (by decide +kernel) (by decide +kernel))⟩
theorem ci_Jxc12de_1 : hw_CI RJxc12de 1 yJxa1e45_init_da8c8 cJxa1e45_init_da8c8 1 0 := ⟨cb_Jxa1e45_init_da8c8 _ _, (hw_win (w := .methodLink RJxc12de 1 yJxa1e45_init_da8c8) (by decide +kernel) (by decide +kernel)), (hw_win (w := .instanceMethod yJxa1e45_init_da8c8) (by decide +kernel) (by decide +kernel)), rfl⟩
theorem iw_Jx4a65c : ∀ w ∈ u_ws RJx4a65c TJx4a65c 3, w ∈ hw_ws := fun w h => hw_win ((by decide +kernel : ∀ w ∈ u_ws RJx4a65c TJx4a65c 3, w ∈ lw_tbl) w h) ((by decide +kernel : ∀ w ∈ u_ws RJx4a65c TJx4a65c 3, goodWord w = true) w h)
theorem fp_Jxc12de_7 : hw_FP RJxc12de 7 0 0 (.int) false := ⟨RJx4a65c, TJx4a65c, 3, "java/util/AbstractList", tyJx4a65c, rfl, by decide, iw_Jx4a65c, (hw_win (w := .fieldLink RJxc12de 7 "java/util/AbstractList" (TJx4a65c 0).2.1 (TJx4a65c 0).2.2.1) (by decide +kernel) (by decide +kernel)), Or.inl rfl, tyJx4a65c_ok, nmJx4a65c, rfl, (fun h => by cases h), by decide +kernel⟩
theorem cb_Jxc12de_init_da8c8 (own : String) (index : Nat) : hw_CB own index yJxc12de_init_da8c8 cJxc12de_init_da8c8 1 none 0 := ⟨⟨by decide +kernel, by decide +kernel, by decide +kernel⟩, (hw_win (w := .code yJxc12de_init_da8c8 cJxc12de_init_da8c8 1 none) (by decide +kernel) (by decide +kernel)), (hw_win (w := .initialized yJxc12de_init_da8c8.cls) (by decide +kernel) (by decide +kernel))⟩
theorem ci_Jx4a65c_1 : hw_CI RJx4a65c 1 yJxc12de_init_da8c8 cJxc12de_init_da8c8 1 0 := ⟨cb_Jxc12de_init_da8c8 _ _, (hw_win (w := .methodLink RJx4a65c 1 yJxc12de_init_da8c8) (by decide +kernel) (by decide +kernel)), (hw_win (w := .instanceMethod yJxc12de_init_da8c8) (by decide +kernel) (by decide +kernel)), rfl⟩
theorem fp_Jx4a65c_9 : hw_FP RJx4a65c 9 0 1 (.array (.object "java/lang/Object")) false := ⟨RJx4a65c, TJx4a65c, 3, "java/util/ArrayList", tyJx4a65c, rfl, by decide, iw_Jx4a65c, (hw_win (w := .fieldLink RJx4a65c 9 "java/util/ArrayList" (TJx4a65c 1).2.1 (TJx4a65c 1).2.2.1) (by decide +kernel) (by decide +kernel)), Or.inl rfl, tyJx4a65c_ok, nmJx4a65c, rfl, (fun h => by cases h), by decide +kernel⟩
theorem fd_Jx4a65c_48 : hw_FD RJx4a65c 48 0 2 := ⟨RJx4a65c, TJx4a65c, 3, "java/util/ArrayList", rfl, by decide, iw_Jx4a65c, (hw_win (w := .fieldLink RJx4a65c 48 "java/util/ArrayList" (TJx4a65c 2).2.1 (TJx4a65c 2).2.2.1) (by decide +kernel) (by decide +kernel)), Or.inl rfl⟩
theorem cb_J3_checkIndex_8e157 (own : String) (index : Nat) : hw_CB own index yJ3_checkIndex_8e157 cJ3_checkIndex_8e157 3 (some .int) 3 := ⟨⟨by decide +kernel, by decide +kernel, by decide +kernel⟩, (hw_win (w := .code yJ3_checkIndex_8e157 cJ3_checkIndex_8e157 3 (some .int)) (by decide +kernel) (by decide +kernel)), (hw_win (w := .initialized yJ3_checkIndex_8e157.cls) (by decide +kernel) (by decide +kernel))⟩
theorem cs_J15_105 : hw_CS RJ15 105 yJ3_checkIndex_8e157 cJ3_checkIndex_8e157 3 (some .int) 3 := ⟨cb_J3_checkIndex_8e157 _ _, (hw_win (w := .methodLink RJ15 105 yJ3_checkIndex_8e157) (by decide +kernel) (by decide +kernel)), (hw_win (w := .static yJ3_checkIndex_8e157) (by decide +kernel) (by decide +kernel))⟩
theorem fd_Jx4a65c_9 : hw_FD RJx4a65c 9 0 1 := ⟨RJx4a65c, TJx4a65c, 3, "java/util/ArrayList", rfl, by decide, iw_Jx4a65c, (hw_win (w := .fieldLink RJx4a65c 9 "java/util/ArrayList" (TJx4a65c 1).2.1 (TJx4a65c 1).2.2.1) (by decide +kernel) (by decide +kernel)), Or.inl rfl⟩
theorem cb_J15_checkIndex_7cf53 (own : String) (index : Nat) : hw_CB own index yJ15_checkIndex_7cf53 cJ15_checkIndex_7cf53 2 (some .int) 2 := ⟨⟨by decide +kernel, by decide +kernel, by decide +kernel⟩, (hw_win (w := .code yJ15_checkIndex_7cf53 cJ15_checkIndex_7cf53 2 (some .int)) (by decide +kernel) (by decide +kernel)), (hw_win (w := .initialized yJ15_checkIndex_7cf53.cls) (by decide +kernel) (by decide +kernel))⟩
theorem cs_Jx4a65c_118 : hw_CS RJx4a65c 118 yJ15_checkIndex_7cf53 cJ15_checkIndex_7cf53 2 (some .int) 2 := ⟨cb_J15_checkIndex_7cf53 _ _, (hw_win (w := .methodLink RJx4a65c 118 yJ15_checkIndex_7cf53) (by decide +kernel) (by decide +kernel)), (hw_win (w := .static yJ15_checkIndex_7cf53) (by decide +kernel) (by decide +kernel))⟩
theorem cb_Jx4a65c_elementData_915e3 (own : String) (index : Nat) : hw_CB own index yJx4a65c_elementData_915e3 cJx4a65c_elementData_915e3 2 (some (.object "java/lang/Object")) 1 := ⟨⟨by decide +kernel, by decide +kernel, by decide +kernel⟩, (hw_win (w := .code yJx4a65c_elementData_915e3 cJx4a65c_elementData_915e3 2 (some (.object "java/lang/Object"))) (by decide +kernel) (by decide +kernel)), (hw_win (w := .initialized yJx4a65c_elementData_915e3.cls) (by decide +kernel) (by decide +kernel))⟩
theorem cv_Jx4a65c_123 : hw_CV RJx4a65c 123 yJx4a65c_elementData_915e3 cJx4a65c_elementData_915e3 2 (some (.object "java/lang/Object")) 1 := ⟨cb_Jx4a65c_elementData_915e3 _ _, (hw_win (w := .methodLink RJx4a65c 123 yJx4a65c_elementData_915e3) (by decide +kernel) (by decide +kernel)), (hw_win (w := .instanceMethod yJx4a65c_elementData_915e3) (by decide +kernel) (by decide +kernel)), (hw_win (w := .selects yJx4a65c_elementData_915e3.cls yJx4a65c_elementData_915e3 yJx4a65c_elementData_915e3) (by decide +kernel) (by decide +kernel))⟩
theorem cb_Jx4a65c_grow_92f84 (own : String) (index : Nat) : hw_CB own index yJx4a65c_grow_92f84 cJx4a65c_grow_92f84 4 (some (.array (.object "java/lang/Object"))) 1 := ⟨⟨by decide +kernel, by decide +kernel, by decide +kernel⟩, (hw_win (w := .code yJx4a65c_grow_92f84 cJx4a65c_grow_92f84 4 (some (.array (.object "java/lang/Object")))) (by decide +kernel) (by decide +kernel)), (hw_win (w := .initialized yJx4a65c_grow_92f84.cls) (by decide +kernel) (by decide +kernel))⟩
theorem cv_Jx4a65c_69 : hw_CV RJx4a65c 69 yJx4a65c_grow_92f84 cJx4a65c_grow_92f84 4 (some (.array (.object "java/lang/Object"))) 1 := ⟨cb_Jx4a65c_grow_92f84 _ _, (hw_win (w := .methodLink RJx4a65c 69 yJx4a65c_grow_92f84) (by decide +kernel) (by decide +kernel)), (hw_win (w := .instanceMethod yJx4a65c_grow_92f84) (by decide +kernel) (by decide +kernel)), (hw_win (w := .selects yJx4a65c_grow_92f84.cls yJx4a65c_grow_92f84 yJx4a65c_grow_92f84) (by decide +kernel) (by decide +kernel))⟩
theorem fp_Jx4a65c_48 : hw_FP RJx4a65c 48 0 2 (.int) false := ⟨RJx4a65c, TJx4a65c, 3, "java/util/ArrayList", tyJx4a65c, rfl, by decide, iw_Jx4a65c, (hw_win (w := .fieldLink RJx4a65c 48 "java/util/ArrayList" (TJx4a65c 2).2.1 (TJx4a65c 2).2.2.1) (by decide +kernel) (by decide +kernel)), Or.inl rfl, tyJx4a65c_ok, nmJx4a65c, rfl, (fun h => by cases h), by decide +kernel⟩
theorem fd_Jx4a65c_63 : hw_FD RJx4a65c 63 0 0 := ⟨RJx4a65c, TJx4a65c, 3, "java/util/ArrayList", rfl, by decide, iw_Jx4a65c, (hw_win (w := .fieldLink RJx4a65c 63 "java/util/ArrayList" (TJx4a65c 0).2.1 (TJx4a65c 0).2.2.1) (by decide +kernel) (by decide +kernel)), Or.inr (hw_win (w := .sameField "java/util/ArrayList" (TJx4a65c 0).1 (TJx4a65c 0).2.1 (TJx4a65c 0).2.2.1) (by decide +kernel) (by decide +kernel))⟩
theorem fp_Jx4a65c_63 : hw_FP RJx4a65c 63 0 0 (.int) false := ⟨RJx4a65c, TJx4a65c, 3, "java/util/ArrayList", tyJx4a65c, rfl, by decide, iw_Jx4a65c, (hw_win (w := .fieldLink RJx4a65c 63 "java/util/ArrayList" (TJx4a65c 0).2.1 (TJx4a65c 0).2.2.1) (by decide +kernel) (by decide +kernel)), Or.inr (hw_win (w := .sameField "java/util/ArrayList" (TJx4a65c 0).1 (TJx4a65c 0).2.1 (TJx4a65c 0).2.2.1) (by decide +kernel) (by decide +kernel)), tyJx4a65c_ok, nmJx4a65c, rfl, (fun h => by cases h), by decide +kernel⟩
theorem cb_Jx4a65c_add_72be8 (own : String) (index : Nat) : hw_CB own index yJx4a65c_add_72be8 cJx4a65c_add_72be8 4 none 3 := ⟨⟨by decide +kernel, by decide +kernel, by decide +kernel⟩, (hw_win (w := .code yJx4a65c_add_72be8 cJx4a65c_add_72be8 4 none) (by decide +kernel) (by decide +kernel)), (hw_win (w := .initialized yJx4a65c_add_72be8.cls) (by decide +kernel) (by decide +kernel))⟩
theorem cv_Jx4a65c_131 : hw_CV RJx4a65c 131 yJx4a65c_add_72be8 cJx4a65c_add_72be8 4 none 3 := ⟨cb_Jx4a65c_add_72be8 _ _, (hw_win (w := .methodLink RJx4a65c 131 yJx4a65c_add_72be8) (by decide +kernel) (by decide +kernel)), (hw_win (w := .instanceMethod yJx4a65c_add_72be8) (by decide +kernel) (by decide +kernel)), (hw_win (w := .selects yJx4a65c_add_72be8.cls yJx4a65c_add_72be8 yJx4a65c_add_72be8) (by decide +kernel) (by decide +kernel))⟩
theorem cb_Jx4a65c_grow_d5877 (own : String) (index : Nat) : hw_CB own index yJx4a65c_grow_d5877 cJx4a65c_grow_d5877 1 (some (.array (.object "java/lang/Object"))) 0 := ⟨⟨by decide +kernel, by decide +kernel, by decide +kernel⟩, (hw_win (w := .code yJx4a65c_grow_d5877 cJx4a65c_grow_d5877 1 (some (.array (.object "java/lang/Object")))) (by decide +kernel) (by decide +kernel)), (hw_win (w := .initialized yJx4a65c_grow_d5877.cls) (by decide +kernel) (by decide +kernel))⟩
theorem cv_Jx4a65c_129 : hw_CV RJx4a65c 129 yJx4a65c_grow_d5877 cJx4a65c_grow_d5877 1 (some (.array (.object "java/lang/Object"))) 0 := ⟨cb_Jx4a65c_grow_d5877 _ _, (hw_win (w := .methodLink RJx4a65c 129 yJx4a65c_grow_d5877) (by decide +kernel) (by decide +kernel)), (hw_win (w := .instanceMethod yJx4a65c_grow_d5877) (by decide +kernel) (by decide +kernel)), (hw_win (w := .selects yJx4a65c_grow_d5877.cls yJx4a65c_grow_d5877 yJx4a65c_grow_d5877) (by decide +kernel) (by decide +kernel))⟩
theorem cb_Jx4a65c_fastRemove_b59b0 (own : String) (index : Nat) : hw_CB own index yJx4a65c_fastRemove_b59b0 cJx4a65c_fastRemove_b59b0 4 none 2 := ⟨⟨by decide +kernel, by decide +kernel, by decide +kernel⟩, (hw_win (w := .code yJx4a65c_fastRemove_b59b0 cJx4a65c_fastRemove_b59b0 4 none) (by decide +kernel) (by decide +kernel)), (hw_win (w := .initialized yJx4a65c_fastRemove_b59b0.cls) (by decide +kernel) (by decide +kernel))⟩
theorem cv_Jx4a65c_144 : hw_CV RJx4a65c 144 yJx4a65c_fastRemove_b59b0 cJx4a65c_fastRemove_b59b0 4 none 2 := ⟨cb_Jx4a65c_fastRemove_b59b0 _ _, (hw_win (w := .methodLink RJx4a65c 144 yJx4a65c_fastRemove_b59b0) (by decide +kernel) (by decide +kernel)), (hw_win (w := .instanceMethod yJx4a65c_fastRemove_b59b0) (by decide +kernel) (by decide +kernel)), (hw_win (w := .selects yJx4a65c_fastRemove_b59b0.cls yJx4a65c_fastRemove_b59b0 yJx4a65c_fastRemove_b59b0) (by decide +kernel) (by decide +kernel))⟩
set_option maxHeartbeats 4000000 in
set_option maxRecDepth 100000 in
theorem m_Jxa1e45_init_da8c8 (l : Launch) (Z : hw_Z) (M : hw_M) (a : Nat) : Met l yJxa1e45_init_da8c8 (hw_m yJxa1e45_init_da8c8 cJxa1e45_init_da8c8 1 none) ({ frames := 1, cells := 0, slots := 0, locals := 12 } : Room) (va_Pc [.ref a] (hw_P Z M)) (hw_Qv Z (fun M' => M = M')) 0 0 (hw_A Z) := by
  refine hw_ofv (by decide +kernel) rfl (Nat.le_of_ble_eq_true rfl) ?_
  intro p e s m below meth c ls Q hx hb hml hown hts hk hnm hI hl hret
  refine lv_aload_n hx hb dJxa1e45_init_da8c8_0 rfl (lv_at hl 0 rfl) ?_
  refine W.objInit hx hb hown (hts _ (hw_win (w := .methodLink RJxa1e45 1 objectInit) (by decide +kernel) (by decide +kernel))) (hts _ (hw_win (w := .instanceMethod objectInit) (by decide +kernel) (by decide +kernel))) (hts _ (hw_win (w := .code objectInit ⟨#[0xb1]⟩ 1 none) (by decide +kernel) (by decide +kernel))) rfl (by rw [hml]; exact hl.1) rfl dJxa1e45_init_da8c8_1 (Nat.le_of_ble_eq_true rfl) (Nat.le_of_ble_eq_true rfl) ?_
  refine W.eq (g2 := F0 m 4 ls []) rfl ?_
  exact hret hI rfl (Nat.le_of_ble_eq_true rfl) (Nat.le_of_ble_eq_true rfl) dJxa1e45_init_da8c8_4

set_option maxHeartbeats 4000000 in
set_option maxRecDepth 100000 in
theorem m_Jxc12de_init_da8c8 (l : Launch) (Z : hw_Z) (M : hw_M) (a : Nat) (x1 : Int32) (x3 : Int32) (x2 : Value) (h0 : M a = hw_ob 0 [.int x1, x2, .int x3]) : Met l yJxc12de_init_da8c8 (hw_m yJxc12de_init_da8c8 cJxc12de_init_da8c8 1 none) ({ frames := 2, cells := 0, slots := 0, locals := 32 } : Room) (va_Pc [.ref a] (hw_P Z M)) (hw_Qv Z (fun M' => va_up M a (hw_ob 0 [.int (nI 0), x2, .int x3]) = M')) 0 0 (hw_A Z) := by
  refine hw_ofv (by decide +kernel) rfl (Nat.le_of_ble_eq_true rfl) ?_
  intro p e s m below meth c ls Q hx hb hml hown hts hk hnm hI hl hret
  refine lv_aload_n hx hb dJxc12de_init_da8c8_0 rfl (lv_at hl 0 rfl) ?_
  refine hw_cv hI (hw_rI hx hb hml hown hts hk hI (m_Jxa1e45_init_da8c8 l Z M a) ci_Jxc12de_1 ⟨rfl, rfl⟩ ⟨(Nat.le_of_ble_eq_true rfl), (Nat.le_of_ble_eq_true rfl)⟩ rfl hl.1 rfl (Nat.le_of_ble_eq_true rfl) ⟨(Nat.le_of_ble_eq_true rfl), (Nat.le_of_ble_eq_true rfl)⟩ dJxc12de_init_da8c8_1) (fun M1 H locs hR hI => ?_)
  subst hR
  refine lv_aload_n hx hb dJxc12de_init_da8c8_4 rfl (lv_at hl 0 rfl) ?_
  refine lv_iconst (v := nI 0) hx hb dJxc12de_init_da8c8_5 (by decide) ?_
  refine hw_put (fs' := [.int (nI 0), x2, .int x3]) hx hb hts hown hk hI fp_Jxc12de_7 h0 (Nat.le_of_ble_eq_true rfl) rfl rfl rfl dJxc12de_init_da8c8_6 (fun H locs hI => ?_)
  exact hret hI rfl (Nat.le_of_ble_eq_true rfl) (Nat.le_of_ble_eq_true rfl) dJxc12de_init_da8c8_9

set_option maxHeartbeats 4000000 in
set_option maxRecDepth 100000 in
theorem m_Jx4a65c_init_da8c8 (l : Launch) (Z : hw_Z) (M : hw_M) (a : Nat) (h0 : M a = hw_ob 0 [.int 0, .null, .int 0]) : Met l yJx4a65c_init_da8c8 (hw_m yJx4a65c_init_da8c8 cJx4a65c_init_da8c8 1 none) ({ frames := 3, cells := 0, slots := 0, locals := 52 } : Room) (va_Pc [.ref a] (hw_P Z M)) (hw_Qv Z (fun M' => va_up M a (hw_ob 0 [.int (nI 0), .ref Z.2.2.2, .int 0]) = M')) 0 0 (hw_A Z) := by
  refine hw_ofv (by decide +kernel) rfl (Nat.le_of_ble_eq_true rfl) ?_
  intro p e s m below meth c ls Q hx hb hml hown hts hk hnm hI hl hret
  refine lv_aload_n hx hb dJx4a65c_init_da8c8_0 rfl (lv_at hl 0 rfl) ?_
  refine hw_cv hI (hw_rI hx hb hml hown hts hk hI (m_Jxc12de_init_da8c8 l Z M a 0 0 .null h0) ci_Jx4a65c_1 ⟨rfl, rfl⟩ ⟨(Nat.le_of_ble_eq_true rfl), (Nat.le_of_ble_eq_true rfl)⟩ rfl hl.1 rfl (Nat.le_of_ble_eq_true rfl) ⟨(Nat.le_of_ble_eq_true rfl), (Nat.le_of_ble_eq_true rfl)⟩ dJx4a65c_init_da8c8_1) (fun M1 H locs hR hI => ?_)
  subst hR
  refine lv_aload_n hx hb dJx4a65c_init_da8c8_4 rfl (lv_at hl 0 rfl) ?_
  refine hw_gets0 hx hb hts hown hk hI (hw_win (w := .fieldLink RJx4a65c 39 "java/util/ArrayList" "DEFAULTCAPACITY_EMPTY_ELEMENTDATA" "[Ljava/lang/Object;") (by decide +kernel) (by decide +kernel)) dJx4a65c_init_da8c8_5 ?_
  refine hw_put (fs' := [.int (nI 0), .ref Z.2.2.2, .int 0]) hx hb hts hown hk hI fp_Jx4a65c_9 (hw_us _ _ _) (Nat.le_of_ble_eq_true rfl) rfl rfl rfl dJx4a65c_init_da8c8_8 (fun H locs hI => ?_)
  exact hret hI (by rw [bx_uu]) (Nat.le_of_ble_eq_true rfl) (Nat.le_of_ble_eq_true rfl) dJx4a65c_init_da8c8_11

set_option maxHeartbeats 4000000 in
set_option maxRecDepth 100000 in
theorem m_Jx4a65c_size_8abf5 (l : Launch) (Z : hw_Z) (M : hw_M) (a : Nat) (n : Nat) (mc : Int32) (dv : Value) (h0 : M a = hw_ob 0 [.int mc, dv, .int (nI n)]) : Met l yJx4a65c_size_8abf5 (hw_m yJx4a65c_size_8abf5 cJx4a65c_size_8abf5 1 (some .int)) ({ frames := 0, cells := 0, slots := 0, locals := 0 } : Room) (va_Pc [.ref a] (hw_P Z M)) (hw_Qi Z (fun r M' => nI n = r ∧ M = M')) 0 0 (hw_A Z) := by
  refine hw_ofi (by decide +kernel) rfl (Nat.le_of_ble_eq_true rfl) ?_
  intro p e s m below meth c ls Q hx hb hml hown hts hk hnm hI hl hret
  refine lv_aload_n hx hb dJx4a65c_size_8abf5_0 rfl (lv_at hl 0 rfl) ?_
  refine hw_get hx hb hts hown hk hI fd_Jx4a65c_48 h0 rfl dJx4a65c_size_8abf5_1 ?_
  exact hret hI (⟨rfl, rfl⟩) (Nat.le_of_ble_eq_true rfl) (Nat.le_of_ble_eq_true rfl) dJx4a65c_size_8abf5_4

set_option maxHeartbeats 4000000 in
set_option maxRecDepth 100000 in
theorem m_J3_checkIndex_8e157 (l : Launch) (Z : hw_Z) (M : hw_M) (i : Nat) (n : Nat) (hin : i < n) (hn : n ≤ 10) : Met l yJ3_checkIndex_8e157 (hw_m yJ3_checkIndex_8e157 cJ3_checkIndex_8e157 3 (some .int)) ({ frames := 0, cells := 0, slots := 0, locals := 0 } : Room) (va_Pc [.int (nI i), .int (nI n), .null] (hw_P Z M)) (hw_Qi Z (fun r M' => nI i = r ∧ M = M')) 0 0 (hw_A Z) := by
  refine hw_ofi (by decide +kernel) rfl (Nat.le_of_ble_eq_true rfl) ?_
  intro p e s m below meth c ls Q hx hb hml hown hts hk hnm hI hl hret
  refine lv_iload_n hx hb dJ3_checkIndex_8e157_0 rfl (lv_at hl 0 rfl) ?_
  refine lv_if_lt (tgt := 9) hx hb dJ3_checkIndex_8e157_1 (by decide) (fun hc => absurd hc (nI_pos (by omega))) (fun _ => ?_)
  refine lv_iload_n hx hb dJ3_checkIndex_8e157_4 rfl (lv_at hl 0 rfl) ?_
  refine lv_iload_n hx hb dJ3_checkIndex_8e157_5 rfl (lv_at hl 1 rfl) ?_
  refine lv_icmp_lt (tgt := 16) hx hb dJ3_checkIndex_8e157_6 (by decide) (fun _ => ?_) (fun hc => absurd (nI_lt (by omega) (by omega)) hc)
  refine lv_iload_n hx hb dJ3_checkIndex_8e157_16 rfl (lv_at hl 0 rfl) ?_
  exact hret hI (⟨rfl, rfl⟩) (Nat.le_of_ble_eq_true rfl) (Nat.le_of_ble_eq_true rfl) dJ3_checkIndex_8e157_17

set_option maxHeartbeats 4000000 in
set_option maxRecDepth 100000 in
theorem m_J15_checkIndex_7cf53 (l : Launch) (Z : hw_Z) (M : hw_M) (i : Nat) (n : Nat) (hin : i < n) (hn : n ≤ 10) : Met l yJ15_checkIndex_7cf53 (hw_m yJ15_checkIndex_7cf53 cJ15_checkIndex_7cf53 2 (some .int)) ({ frames := 1, cells := 0, slots := 0, locals := 22 } : Room) (va_Pc [.int (nI i), .int (nI n)] (hw_P Z M)) (hw_Qi Z (fun r M' => nI i = r ∧ M = M')) 0 0 (hw_A Z) := by
  refine hw_ofi (by decide +kernel) rfl (Nat.le_of_ble_eq_true rfl) ?_
  intro p e s m below meth c ls Q hx hb hml hown hts hk hnm hI hl hret
  refine lv_iload_n hx hb dJ15_checkIndex_7cf53_0 rfl (lv_at hl 0 rfl) ?_
  refine lv_iload_n hx hb dJ15_checkIndex_7cf53_1 rfl (lv_at hl 1 rfl) ?_
  refine lv_null hx hb dJ15_checkIndex_7cf53_2 ?_
  refine hw_ci hI (hw_rS hx hb hml hown hts hk hI (m_J3_checkIndex_8e157 l Z M i n (by omega) (by omega)) cs_J15_105 ⟨rfl, rfl⟩ ⟨(Nat.le_of_ble_eq_true rfl), (Nat.le_of_ble_eq_true rfl)⟩ rfl hl.1 rfl (Nat.le_of_ble_eq_true rfl) ⟨(Nat.le_of_ble_eq_true rfl), (Nat.le_of_ble_eq_true rfl)⟩ dJ15_checkIndex_7cf53_3) (fun r3 M3 H locs hR hI => ?_)
  obtain ⟨rfl, rfl⟩ := hR
  exact hret hI (⟨rfl, rfl⟩) (Nat.le_of_ble_eq_true rfl) (Nat.le_of_ble_eq_true rfl) dJ15_checkIndex_7cf53_6

set_option maxHeartbeats 4000000 in
set_option maxRecDepth 100000 in
theorem m_Jx4a65c_elementData_915e3 (l : Launch) (Z : hw_Z) (M : hw_M) (a : Nat) (d : Nat) (n : Nat) (i : Nat) (q : Nat) (mc : Int32) (f : Nat → Option Nat) (h0 : M a = hw_ob 0 [.int mc, .ref d, .int (nI n)]) (h1 : M d = hw_ar Z 7 10 f) (hi : i < 10) (hf : f i = some q) : Met l yJx4a65c_elementData_915e3 (hw_m yJx4a65c_elementData_915e3 cJx4a65c_elementData_915e3 2 (some (.object "java/lang/Object"))) ({ frames := 0, cells := 0, slots := 0, locals := 0 } : Room) (va_Pc [.ref a, .int (nI i)] (hw_P Z M)) (hw_Qr Z (fun r M' => q = r ∧ M = M')) 0 0 (hw_A Z) := by
  refine hw_ofr (by decide +kernel) rfl (Or.inl ⟨_, rfl⟩) (Nat.le_of_ble_eq_true rfl) ?_
  intro p e s m below meth c ls Q hx hb hml hown hts hk hnm hI hl hret
  refine lv_aload_n hx hb dJx4a65c_elementData_915e3_0 rfl (lv_at hl 0 rfl) ?_
  refine hw_get hx hb hts hown hk hI fd_Jx4a65c_9 h0 rfl dJx4a65c_elementData_915e3_1 ?_
  refine lv_iload_n hx hb dJx4a65c_elementData_915e3_4 rfl (lv_at hl 1 rfl) ?_
  refine hw_aald hx hb hk hI 7 (v := .ref q) h1 rfl (j := i) rfl (by omega) (by decide) (congrArg va_rf hf) dJx4a65c_elementData_915e3_5 ?_
  exact hret hI (⟨rfl, rfl⟩) (Nat.le_of_ble_eq_true rfl) (Nat.le_of_ble_eq_true rfl) dJx4a65c_elementData_915e3_6

set_option maxHeartbeats 4000000 in
set_option maxRecDepth 100000 in
theorem m_Jx4a65c_get_915e3 (l : Launch) (Z : hw_Z) (M : hw_M) (a : Nat) (d : Nat) (n : Nat) (i : Nat) (q : Nat) (mc : Int32) (f : Nat → Option Nat) (h0 : M a = hw_ob 0 [.int mc, .ref d, .int (nI n)]) (h1 : M d = hw_ar Z 7 10 f) (hin : i < n) (hn : n ≤ 10) (hf : f i = some q) : Met l yJx4a65c_get_915e3 (hw_m yJx4a65c_get_915e3 cJx4a65c_get_915e3 2 (some (.object "java/lang/Object"))) ({ frames := 2, cells := 0, slots := 0, locals := 43 } : Room) (va_Pc [.ref a, .int (nI i)] (hw_P Z M)) (hw_Qr Z (fun r M' => q = r ∧ M = M')) 0 0 (hw_A Z) := by
  refine hw_ofr (by decide +kernel) rfl (Or.inl ⟨_, rfl⟩) (Nat.le_of_ble_eq_true rfl) ?_
  intro p e s m below meth c ls Q hx hb hml hown hts hk hnm hI hl hret
  refine lv_iload_n hx hb dJx4a65c_get_915e3_0 rfl (lv_at hl 1 rfl) ?_
  refine lv_aload_n hx hb dJx4a65c_get_915e3_1 rfl (lv_at hl 0 rfl) ?_
  refine hw_get hx hb hts hown hk hI fd_Jx4a65c_48 h0 rfl dJx4a65c_get_915e3_2 ?_
  refine hw_ci hI (hw_rS hx hb hml hown hts hk hI (m_J15_checkIndex_7cf53 l Z M i n (by omega) (by omega)) cs_Jx4a65c_118 ⟨rfl, rfl⟩ ⟨(Nat.le_of_ble_eq_true rfl), (Nat.le_of_ble_eq_true rfl)⟩ rfl hl.1 rfl (Nat.le_of_ble_eq_true rfl) ⟨(Nat.le_of_ble_eq_true rfl), (Nat.le_of_ble_eq_true rfl)⟩ dJx4a65c_get_915e3_5) (fun r5 M5 H locs hR hI => ?_)
  obtain ⟨rfl, rfl⟩ := hR
  refine lv_pop hx hb dJx4a65c_get_915e3_8 rfl ?_
  refine lv_aload_n hx hb dJx4a65c_get_915e3_9 rfl (lv_at hl 0 rfl) ?_
  refine lv_iload_n hx hb dJx4a65c_get_915e3_10 rfl (lv_at hl 1 rfl) ?_
  refine hw_cr hI (hw_rV hx hb hml hown hts hk hI (m_Jx4a65c_elementData_915e3 l Z M a d n i q mc f h0 h1 (by omega) hf) cv_Jx4a65c_123 h0 rfl rfl ⟨rfl, rfl⟩ ⟨(Nat.le_of_ble_eq_true rfl), (Nat.le_of_ble_eq_true rfl)⟩ rfl hl.1 rfl (Nat.le_of_ble_eq_true rfl) ⟨(Nat.le_of_ble_eq_true rfl), (Nat.le_of_ble_eq_true rfl)⟩ dJx4a65c_get_915e3_11) (fun r11 M11 H locs hR hI => ?_)
  obtain ⟨rfl, rfl⟩ := hR
  exact hret hI (⟨rfl, rfl⟩) (Nat.le_of_ble_eq_true rfl) (Nat.le_of_ble_eq_true rfl) dJx4a65c_get_915e3_14

set_option maxHeartbeats 4000000 in
set_option maxRecDepth 100000 in
theorem m_Jx4a65c_grow_92f84 (l : Launch) (Z : hw_Z) (M : hw_M) (a : Nat) (mc : Int32) (h0 : M a = hw_ob 0 [.int mc, .ref Z.2.2.2, .int (nI 0)]) : Met l yJx4a65c_grow_92f84 (hw_m yJx4a65c_grow_92f84 cJx4a65c_grow_92f84 4 (some (.array (.object "java/lang/Object")))) ({ frames := 1, cells := 1, slots := 10, locals := 40 } : Room) (va_Pc [.ref a, .int (nI 1)] (hw_P Z M)) (hw_Qr Z (fun r M' => M r = none ∧ va_up (va_up M r (hw_ar Z 7 10 (fun _ => none))) a (hw_ob 0 [.int mc, .ref r, .int (nI 0)]) = M')) 1 10 (hw_A Z) := by
  refine hw_ofr (by decide +kernel) rfl (Or.inr ⟨_, rfl⟩) (Nat.le_of_ble_eq_true rfl) ?_
  intro p e s m below meth c ls Q hx hb hml hown hts hk hnm hI hl hret
  refine lv_aload_n hx hb dJx4a65c_grow_92f84_0 rfl (lv_at hl 0 rfl) ?_
  refine hw_get hx hb hts hown hk hI fd_Jx4a65c_9 h0 rfl dJx4a65c_grow_92f84_1 ?_
  refine hw_len0 hx hb hk hI dJx4a65c_grow_92f84_4 ?_
  refine lv_istore_n (lv' := [(2, .int (nI 0)), (0, .ref a), (1, .int (nI 1))]) hx hb dJx4a65c_grow_92f84_5 rfl hl (by decide) rfl (fun ls hl => ?_)
  refine lv_iload_n hx hb dJx4a65c_grow_92f84_6 rfl (lv_at hl 0 rfl) ?_
  refine lv_if_gt (tgt := 20) hx hb dJx4a65c_grow_92f84_7 (by decide) (fun hc => absurd hc (by decide)) (fun _ => ?_)
  refine lv_aload_n hx hb dJx4a65c_grow_92f84_10 rfl (lv_at hl 1 rfl) ?_
  refine hw_get hx hb hts hown hk hI fd_Jx4a65c_9 h0 rfl dJx4a65c_grow_92f84_11 ?_
  refine hw_gets0 hx hb hts hown hk hI (hw_win (w := .fieldLink RJx4a65c 39 "java/util/ArrayList" "DEFAULTCAPACITY_EMPTY_ELEMENTDATA" "[Ljava/lang/Object;") (by decide +kernel) (by decide +kernel)) dJx4a65c_grow_92f84_14 ?_
  refine hw_acmpT (tgt := 45) hx hb dJx4a65c_grow_92f84_17 (by decide) ?_
  refine lv_aload_n hx hb dJx4a65c_grow_92f84_45 rfl (lv_at hl 1 rfl) ?_
  refine lv_bipush (v := nI 10) hx hb dJx4a65c_grow_92f84_46 (by decide) ?_
  refine lv_iload_n hx hb dJx4a65c_grow_92f84_48 rfl (lv_at hl 2 rfl) ?_
  refine va_mmax hx hb (by rw [hml]; exact hl.1.symm) hown (hts _ (hw_win (w := .methodLink RJx4a65c 79 Lib.Math.max.name) (by decide +kernel) (by decide +kernel))) (hts _ (hw_win (w := .static Lib.Math.max.name) (by decide +kernel) (by decide +kernel))) (hts _ (hw_win (w := .initialized "java/lang/Math") (by decide +kernel) (by decide +kernel))) (hts _ (hw_win (w := .code Lib.Math.max.name Lib.Math.max.code 2 (some .int)) (by decide +kernel) (by decide +kernel))) (Nat.le_of_ble_eq_true rfl) (Nat.le_of_ble_eq_true rfl) (Nat.le_of_ble_eq_true rfl) (Nat.le_of_ble_eq_true rfl) dJx4a65c_grow_92f84_49 ?_
  refine hw_ti (y := hb_max (nI 10) (nI 1)) rfl ?_
  refine hw_ti (by decide : hb_max (nI 10) (nI 1) = nI 10) ?_
  refine hw_newq hx hb hts hown hk hI (hw_win (w := .classLink RJx4a65c 7 "java/lang/Object") (by decide +kernel) (by decide +kernel)) (by decide +kernel) 7 rfl rfl (by decide) (Nat.le_of_ble_eq_true rfl) (Nat.le_of_ble_eq_true rfl) dJx4a65c_grow_92f84_52 (fun q52 H hq52 hI => ?_)
  refine lv_dup_x1 hx hb dJx4a65c_grow_92f84_55 rfl rfl ?_
  refine hw_put (fs' := [.int mc, .ref q52, .int (nI 0)]) hx hb hts hown hk hI fp_Jx4a65c_9 (hw_up h0 (hw_nn h0 hq52)) (Nat.le_of_ble_eq_true rfl) rfl rfl rfl dJx4a65c_grow_92f84_56 (fun H locs hI => ?_)
  exact hret hI (⟨hq52, rfl⟩) (Nat.le_of_ble_eq_true rfl) (Nat.le_of_ble_eq_true rfl) dJx4a65c_grow_92f84_59

set_option maxHeartbeats 4000000 in
set_option maxRecDepth 100000 in
theorem m_Jx4a65c_grow_d5877 (l : Launch) (Z : hw_Z) (M : hw_M) (a : Nat) (mc : Int32) (h0 : M a = hw_ob 0 [.int mc, .ref Z.2.2.2, .int (nI 0)]) : Met l yJx4a65c_grow_d5877 (hw_m yJx4a65c_grow_d5877 cJx4a65c_grow_d5877 1 (some (.array (.object "java/lang/Object")))) ({ frames := 2, cells := 1, slots := 10, locals := 64 } : Room) (va_Pc [.ref a] (hw_P Z M)) (hw_Qr Z (fun r M' => M r = none ∧ va_up (va_up M r (hw_ar Z 7 10 (fun _ => none))) a (hw_ob 0 [.int mc, .ref r, .int (nI 0)]) = M')) 1 10 (hw_A Z) := by
  refine hw_ofr (by decide +kernel) rfl (Or.inr ⟨_, rfl⟩) (Nat.le_of_ble_eq_true rfl) ?_
  intro p e s m below meth c ls Q hx hb hml hown hts hk hnm hI hl hret
  refine lv_aload_n hx hb dJx4a65c_grow_d5877_0 rfl (lv_at hl 0 rfl) ?_
  refine lv_aload_n hx hb dJx4a65c_grow_d5877_1 rfl (lv_at hl 0 rfl) ?_
  refine hw_get hx hb hts hown hk hI fd_Jx4a65c_48 h0 rfl dJx4a65c_grow_d5877_2 ?_
  refine lv_iconst (v := nI 1) hx hb dJx4a65c_grow_d5877_5 (by decide) ?_
  refine lv_iadd hx hb dJx4a65c_grow_d5877_6 ?_
  refine hw_ti (nI_add _ _) ?_
  refine hw_ti (by decide : nI (0 + 1) = nI 1) ?_
  refine hw_cr hI (hw_rV hx hb hml hown hts hk hI (m_Jx4a65c_grow_92f84 l Z M a mc h0) cv_Jx4a65c_69 h0 rfl rfl ⟨rfl, rfl⟩ ⟨(Nat.le_of_ble_eq_true rfl), (Nat.le_of_ble_eq_true rfl)⟩ rfl hl.1 rfl (Nat.le_of_ble_eq_true rfl) ⟨(Nat.le_of_ble_eq_true rfl), (Nat.le_of_ble_eq_true rfl)⟩ dJx4a65c_grow_d5877_7) (fun r7 M7 H locs hR hI => ?_)
  obtain ⟨hn7, rfl⟩ := hR
  exact hret hI (⟨hn7, rfl⟩) (Nat.le_of_ble_eq_true rfl) (Nat.le_of_ble_eq_true rfl) dJx4a65c_grow_d5877_10

set_option maxHeartbeats 4000000 in
set_option maxRecDepth 100000 in
theorem m_add3_P (l : Launch) (Z : hw_Z) (M : hw_M) (a : Nat) (d : Nat) (el : Nat) (n : Nat) (mc : Int32) (f : Nat → Option Nat) (vs : List Value) (h0 : M a = hw_ob 0 [.int mc, .ref d, .int (nI n)]) (h1 : M d = hw_ar Z 7 10 f) (h2 : M el = hw_ob 9 vs) (hn : n < 10) : Met l yJx4a65c_add_72be8 (hw_m yJx4a65c_add_72be8 cJx4a65c_add_72be8 4 none) ({ frames := 0, cells := 0, slots := 0, locals := 0 } : Room) (va_Pc [.ref a, .ref el, .ref d, .int (nI n)] (hw_P Z M)) (hw_Qv Z (fun M' => va_up (va_up M d (hw_ar Z 7 10 (va_up f n (some el)))) a (hw_ob 0 [.int mc, .ref d, .int (nI (n + 1))]) = M')) 0 0 (hw_A Z) := by
  refine hw_ofv (by decide +kernel) rfl (Nat.le_of_ble_eq_true rfl) ?_
  intro p e s m below meth c ls Q hx hb hml hown hts hk hnm hI hl hret
  refine lv_iload_n hx hb dJx4a65c_add_72be8_0 rfl (lv_at hl 3 rfl) ?_
  refine lv_aload_n hx hb dJx4a65c_add_72be8_1 rfl (lv_at hl 2 rfl) ?_
  refine hw_alen (v := nI 10) hx hb hk hI 7 h1 rfl rfl dJx4a65c_add_72be8_2 ?_
  refine lv_icmp_ne (tgt := 11) hx hb dJx4a65c_add_72be8_3 (by decide) (fun _ => ?_) (fun hc => absurd hc (fun q => absurd ((nI_eq (by omega) (by decide)).mp q) (by omega)))
  refine lv_aload_n hx hb dJx4a65c_add_72be8_11 rfl (lv_at hl 2 rfl) ?_
  refine lv_iload_n hx hb dJx4a65c_add_72be8_12 rfl (lv_at hl 3 rfl) ?_
  refine lv_aload_n hx hb dJx4a65c_add_72be8_13 rfl (lv_at hl 1 rfl) ?_
  refine hw_aastO hx hb hk hI 7 h1 rfl (by decide +kernel) h2 rfl (j := n) rfl (by omega) (by decide) dJx4a65c_add_72be8_14 (fun H locs hI => ?_)
  refine lv_aload_n hx hb dJx4a65c_add_72be8_15 rfl (lv_at hl 0 rfl) ?_
  refine lv_iload_n hx hb dJx4a65c_add_72be8_16 rfl (lv_at hl 3 rfl) ?_
  refine lv_iconst (v := nI 1) hx hb dJx4a65c_add_72be8_17 (by decide) ?_
  refine lv_iadd hx hb dJx4a65c_add_72be8_18 ?_
  refine hw_ti (nI_add _ _) ?_
  refine hw_put (fs' := [.int mc, .ref d, .int (nI (n + 1))]) hx hb hts hown hk hI fp_Jx4a65c_48 (hw_up h0 (hw_noa h0 h1)) (Nat.le_of_ble_eq_true rfl) rfl rfl rfl dJx4a65c_add_72be8_19 (fun H locs hI => ?_)
  exact hret hI rfl (Nat.le_of_ble_eq_true rfl) (Nat.le_of_ble_eq_true rfl) dJx4a65c_add_72be8_22

set_option maxHeartbeats 4000000 in
set_option maxRecDepth 100000 in
theorem m_add_P (l : Launch) (Z : hw_Z) (M : hw_M) (a : Nat) (d : Nat) (el : Nat) (n : Nat) (mc : Int32) (f : Nat → Option Nat) (vs : List Value) (h0 : M a = hw_ob 0 [.int mc, .ref d, .int (nI n)]) (h1 : M d = hw_ar Z 7 10 f) (h2 : M el = hw_ob 9 vs) (hn : n < 10) : Met l yJx4a65c_add_9ea2d (hw_m yJx4a65c_add_9ea2d cJx4a65c_add_9ea2d 2 (some .boolean)) ({ frames := 1, cells := 0, slots := 0, locals := 33 } : Room) (va_Pc [.ref a, .ref el] (hw_P Z M)) (hw_Qi Z (fun r M' => nI 1 = r ∧ va_up (va_up M d (hw_ar Z 7 10 (va_up f n (some el)))) a (hw_ob 0 [.int (mc + nI 1), .ref d, .int (nI (n + 1))]) = M')) 0 0 (hw_A Z) := by
  refine hw_ofz (by decide +kernel) rfl (Nat.le_of_ble_eq_true rfl) ?_
  intro p e s m below meth c ls Q hx hb hml hown hts hk hnm hI hl hret
  refine lv_aload_n hx hb dJx4a65c_add_9ea2d_0 rfl (lv_at hl 0 rfl) ?_
  refine lv_dup hx hb dJx4a65c_add_9ea2d_1 rfl ?_
  refine hw_get hx hb hts hown hk hI fd_Jx4a65c_63 h0 rfl dJx4a65c_add_9ea2d_2 ?_
  refine lv_iconst (v := nI 1) hx hb dJx4a65c_add_9ea2d_5 (by decide) ?_
  refine lv_iadd hx hb dJx4a65c_add_9ea2d_6 ?_
  refine hw_put (fs' := [.int (mc + (nI 1)), .ref d, .int (nI n)]) hx hb hts hown hk hI fp_Jx4a65c_63 h0 (Nat.le_of_ble_eq_true rfl) rfl rfl rfl dJx4a65c_add_9ea2d_7 (fun H locs hI => ?_)
  refine lv_aload_n hx hb dJx4a65c_add_9ea2d_10 rfl (lv_at hl 0 rfl) ?_
  refine lv_aload_n hx hb dJx4a65c_add_9ea2d_11 rfl (lv_at hl 1 rfl) ?_
  refine lv_aload_n hx hb dJx4a65c_add_9ea2d_12 rfl (lv_at hl 0 rfl) ?_
  refine hw_get hx hb hts hown hk hI fd_Jx4a65c_9 (hw_us _ _ _) rfl dJx4a65c_add_9ea2d_13 ?_
  refine lv_aload_n hx hb dJx4a65c_add_9ea2d_16 rfl (lv_at hl 0 rfl) ?_
  refine hw_get hx hb hts hown hk hI fd_Jx4a65c_48 (hw_us _ _ _) rfl dJx4a65c_add_9ea2d_17 ?_
  refine hw_cv hI (hw_rV hx hb hml hown hts hk hI (m_add3_P l Z (va_up M a (hw_ob 0 [.int (mc + (nI 1)), .ref d, .int (nI n)])) a d el n (mc + (nI 1)) f vs (hw_us _ _ _) (hw_up h1 (Ne.symm (hw_noa h0 h1))) (hw_up h2 (hw_noo h2 h0 (by decide))) (by omega)) cv_Jx4a65c_131 (hw_us _ _ _) rfl rfl ⟨rfl, rfl⟩ ⟨(Nat.le_of_ble_eq_true rfl), (Nat.le_of_ble_eq_true rfl)⟩ rfl hl.1 rfl (Nat.le_of_ble_eq_true rfl) ⟨(Nat.le_of_ble_eq_true rfl), (Nat.le_of_ble_eq_true rfl)⟩ dJx4a65c_add_9ea2d_20) (fun M20 H locs hR hI => ?_)
  subst hR
  refine lv_iconst (v := nI 1) hx hb dJx4a65c_add_9ea2d_23 (by decide) ?_
  exact hret hI (Or.inr rfl) (⟨rfl, hb_sw3 (hw_noa h0 h1)⟩) (Nat.le_of_ble_eq_true rfl) (Nat.le_of_ble_eq_true rfl) dJx4a65c_add_9ea2d_24

set_option maxHeartbeats 4000000 in
set_option maxRecDepth 100000 in
theorem m_add3_P0 (l : Launch) (Z : hw_Z) (M : hw_M) (a : Nat) (el : Nat) (mc : Int32) (vs : List Value) (h0 : M a = hw_ob 0 [.int mc, .ref Z.2.2.2, .int (nI 0)]) (h1 : M el = hw_ob 9 vs) : Met l yJx4a65c_add_72be8 (hw_m yJx4a65c_add_72be8 cJx4a65c_add_72be8 4 none) ({ frames := 3, cells := 1, slots := 10, locals := 88 } : Room) (va_Pc [.ref a, .ref el, .ref Z.2.2.2, .int (nI 0)] (hw_P Z M)) (hw_Qv Z (fun M' => ∃ d : Nat, M d = none ∧ va_up (va_up M d (hw_ar Z 7 10 (va_up (fun _ => none) 0 (some el)))) a (hw_ob 0 [.int (mc), .ref d, .int (nI 1)]) = M')) 1 10 (hw_A Z) := by
  refine hw_ofv (by decide +kernel) rfl (Nat.le_of_ble_eq_true rfl) ?_
  intro p e s m below meth c ls Q hx hb hml hown hts hk hnm hI hl hret
  refine lv_iload_n hx hb dJx4a65c_add_72be8_0 rfl (lv_at hl 3 rfl) ?_
  refine lv_aload_n hx hb dJx4a65c_add_72be8_1 rfl (lv_at hl 2 rfl) ?_
  refine hw_len0 hx hb hk hI dJx4a65c_add_72be8_2 ?_
  refine lv_icmp_ne (tgt := 11) hx hb dJx4a65c_add_72be8_3 (by decide) (fun hc => absurd rfl hc) (fun _ => ?_)
  refine lv_aload_n hx hb dJx4a65c_add_72be8_6 rfl (lv_at hl 0 rfl) ?_
  refine hw_cr hI (hw_rV hx hb hml hown hts hk hI (m_Jx4a65c_grow_d5877 l Z M a mc h0) cv_Jx4a65c_129 h0 rfl rfl ⟨rfl, rfl⟩ ⟨(Nat.le_of_ble_eq_true rfl), (Nat.le_of_ble_eq_true rfl)⟩ rfl hl.1 rfl (Nat.le_of_ble_eq_true rfl) ⟨(Nat.le_of_ble_eq_true rfl), (Nat.le_of_ble_eq_true rfl)⟩ dJx4a65c_add_72be8_7) (fun r7 M7 H locs hR hI => ?_)
  obtain ⟨hn7, rfl⟩ := hR
  refine lv_astore_n (lv' := [(2, .ref r7), (0, .ref a), (1, .ref el), (3, .int (nI 0))]) hx hb dJx4a65c_add_72be8_10 rfl hl (by decide) rfl (fun ls hl => ?_)
  refine lv_aload_n hx hb dJx4a65c_add_72be8_11 rfl (lv_at hl 0 rfl) ?_
  refine lv_iload_n hx hb dJx4a65c_add_72be8_12 rfl (lv_at hl 3 rfl) ?_
  refine lv_aload_n hx hb dJx4a65c_add_72be8_13 rfl (lv_at hl 2 rfl) ?_
  refine hw_aastO hx hb hk hI 7 (hw_up (hw_us _ _ _) (Ne.symm (hw_nn h0 hn7))) rfl (by decide +kernel) (hw_up (hw_up h1 (hw_nn h1 hn7)) (hw_noo h1 h0 (by decide))) rfl (j := 0) rfl (by omega) (by decide) dJx4a65c_add_72be8_14 (fun H locs hI => ?_)
  refine lv_aload_n hx hb dJx4a65c_add_72be8_15 rfl (lv_at hl 1 rfl) ?_
  refine lv_iload_n hx hb dJx4a65c_add_72be8_16 rfl (lv_at hl 3 rfl) ?_
  refine lv_iconst (v := nI 1) hx hb dJx4a65c_add_72be8_17 (by decide) ?_
  refine lv_iadd hx hb dJx4a65c_add_72be8_18 ?_
  refine hw_ti (nI_add _ _) ?_
  refine hw_put (fs' := [.int mc, .ref r7, .int (nI (0 + 1))]) hx hb hts hown hk hI fp_Jx4a65c_48 (hw_up (hw_us _ _ _) (hw_nn h0 hn7)) (Nat.le_of_ble_eq_true rfl) rfl rfl rfl dJx4a65c_add_72be8_19 (fun H locs hI => ?_)
  exact hret hI (⟨r7, hn7, hb_g4 (hw_nn h0 hn7)⟩) (Nat.le_of_ble_eq_true rfl) (Nat.le_of_ble_eq_true rfl) dJx4a65c_add_72be8_22

set_option maxHeartbeats 4000000 in
set_option maxRecDepth 100000 in
theorem m_add_P0 (l : Launch) (Z : hw_Z) (M : hw_M) (a : Nat) (el : Nat) (mc : Int32) (vs : List Value) (h0 : M a = hw_ob 0 [.int mc, .ref Z.2.2.2, .int (nI 0)]) (h1 : M el = hw_ob 9 vs) : Met l yJx4a65c_add_9ea2d (hw_m yJx4a65c_add_9ea2d cJx4a65c_add_9ea2d 2 (some .boolean)) ({ frames := 4, cells := 1, slots := 10, locals := 112 } : Room) (va_Pc [.ref a, .ref el] (hw_P Z M)) (hw_Qi Z (fun r M' => ∃ d : Nat, M d = none ∧ 1 = r ∧ va_up (va_up M d (hw_ar Z 7 10 (va_up (fun _ => none) 0 (some el)))) a (hw_ob 0 [.int (mc + nI 1), .ref d, .int (nI 1)]) = M')) 1 10 (hw_A Z) := by
  refine hw_ofz (by decide +kernel) rfl (Nat.le_of_ble_eq_true rfl) ?_
  intro p e s m below meth c ls Q hx hb hml hown hts hk hnm hI hl hret
  refine lv_aload_n hx hb dJx4a65c_add_9ea2d_0 rfl (lv_at hl 0 rfl) ?_
  refine lv_dup hx hb dJx4a65c_add_9ea2d_1 rfl ?_
  refine hw_get hx hb hts hown hk hI fd_Jx4a65c_63 h0 rfl dJx4a65c_add_9ea2d_2 ?_
  refine lv_iconst (v := nI 1) hx hb dJx4a65c_add_9ea2d_5 (by decide) ?_
  refine lv_iadd hx hb dJx4a65c_add_9ea2d_6 ?_
  refine hw_put (fs' := [.int (mc + (nI 1)), .ref Z.2.2.2, .int (nI 0)]) hx hb hts hown hk hI fp_Jx4a65c_63 h0 (Nat.le_of_ble_eq_true rfl) rfl rfl rfl dJx4a65c_add_9ea2d_7 (fun H locs hI => ?_)
  refine lv_aload_n hx hb dJx4a65c_add_9ea2d_10 rfl (lv_at hl 0 rfl) ?_
  refine lv_aload_n hx hb dJx4a65c_add_9ea2d_11 rfl (lv_at hl 1 rfl) ?_
  refine lv_aload_n hx hb dJx4a65c_add_9ea2d_12 rfl (lv_at hl 0 rfl) ?_
  refine hw_get hx hb hts hown hk hI fd_Jx4a65c_9 (hw_us _ _ _) rfl dJx4a65c_add_9ea2d_13 ?_
  refine lv_aload_n hx hb dJx4a65c_add_9ea2d_16 rfl (lv_at hl 0 rfl) ?_
  refine hw_get hx hb hts hown hk hI fd_Jx4a65c_48 (hw_us _ _ _) rfl dJx4a65c_add_9ea2d_17 ?_
  refine hw_cv hI (hw_rV hx hb hml hown hts hk hI (m_add3_P0 l Z (va_up M a (hw_ob 0 [.int (mc + (nI 1)), .ref Z.2.2.2, .int (nI 0)])) a el (mc + (nI 1)) vs (hw_us _ _ _) (hw_up h1 (hw_noo h1 h0 (by decide)))) cv_Jx4a65c_131 (hw_us _ _ _) rfl rfl ⟨rfl, rfl⟩ ⟨(Nat.le_of_ble_eq_true rfl), (Nat.le_of_ble_eq_true rfl)⟩ rfl hl.1 rfl (Nat.le_of_ble_eq_true rfl) ⟨(Nat.le_of_ble_eq_true rfl), (Nat.le_of_ble_eq_true rfl)⟩ dJx4a65c_add_9ea2d_20) (fun M20 H locs hR hI => ?_)
  obtain ⟨d20, hn20, rfl⟩ := hR
  refine lv_iconst (v := nI 1) hx hb dJx4a65c_add_9ea2d_23 (by decide) ?_
  exact hret hI (Or.inr rfl) (⟨d20, hb_no hn20, rfl, hb_sw3 (hw_nn h0 (hb_no hn20))⟩) (Nat.le_of_ble_eq_true rfl) (Nat.le_of_ble_eq_true rfl) dJx4a65c_add_9ea2d_24

set_option maxHeartbeats 4000000 in
set_option maxRecDepth 100000 in
theorem m_add3_W (l : Launch) (Z : hw_Z) (M : hw_M) (a : Nat) (d : Nat) (el : Nat) (n : Nat) (mc : Int32) (f : Nat → Option Nat) (vs : List Value) (h0 : M a = hw_ob 0 [.int mc, .ref d, .int (nI n)]) (h1 : M d = hw_ar Z 7 10 f) (h2 : M el = hw_ob 10 vs) (hn : n < 10) : Met l yJx4a65c_add_72be8 (hw_m yJx4a65c_add_72be8 cJx4a65c_add_72be8 4 none) ({ frames := 0, cells := 0, slots := 0, locals := 0 } : Room) (va_Pc [.ref a, .ref el, .ref d, .int (nI n)] (hw_P Z M)) (hw_Qv Z (fun M' => va_up (va_up M d (hw_ar Z 7 10 (va_up f n (some el)))) a (hw_ob 0 [.int mc, .ref d, .int (nI (n + 1))]) = M')) 0 0 (hw_A Z) := by
  refine hw_ofv (by decide +kernel) rfl (Nat.le_of_ble_eq_true rfl) ?_
  intro p e s m below meth c ls Q hx hb hml hown hts hk hnm hI hl hret
  refine lv_iload_n hx hb dJx4a65c_add_72be8_0 rfl (lv_at hl 3 rfl) ?_
  refine lv_aload_n hx hb dJx4a65c_add_72be8_1 rfl (lv_at hl 2 rfl) ?_
  refine hw_alen (v := nI 10) hx hb hk hI 7 h1 rfl rfl dJx4a65c_add_72be8_2 ?_
  refine lv_icmp_ne (tgt := 11) hx hb dJx4a65c_add_72be8_3 (by decide) (fun _ => ?_) (fun hc => absurd hc (fun q => absurd ((nI_eq (by omega) (by decide)).mp q) (by omega)))
  refine lv_aload_n hx hb dJx4a65c_add_72be8_11 rfl (lv_at hl 2 rfl) ?_
  refine lv_iload_n hx hb dJx4a65c_add_72be8_12 rfl (lv_at hl 3 rfl) ?_
  refine lv_aload_n hx hb dJx4a65c_add_72be8_13 rfl (lv_at hl 1 rfl) ?_
  refine hw_aastO hx hb hk hI 7 h1 rfl (by decide +kernel) h2 rfl (j := n) rfl (by omega) (by decide) dJx4a65c_add_72be8_14 (fun H locs hI => ?_)
  refine lv_aload_n hx hb dJx4a65c_add_72be8_15 rfl (lv_at hl 0 rfl) ?_
  refine lv_iload_n hx hb dJx4a65c_add_72be8_16 rfl (lv_at hl 3 rfl) ?_
  refine lv_iconst (v := nI 1) hx hb dJx4a65c_add_72be8_17 (by decide) ?_
  refine lv_iadd hx hb dJx4a65c_add_72be8_18 ?_
  refine hw_ti (nI_add _ _) ?_
  refine hw_put (fs' := [.int mc, .ref d, .int (nI (n + 1))]) hx hb hts hown hk hI fp_Jx4a65c_48 (hw_up h0 (hw_noa h0 h1)) (Nat.le_of_ble_eq_true rfl) rfl rfl rfl dJx4a65c_add_72be8_19 (fun H locs hI => ?_)
  exact hret hI rfl (Nat.le_of_ble_eq_true rfl) (Nat.le_of_ble_eq_true rfl) dJx4a65c_add_72be8_22

set_option maxHeartbeats 4000000 in
set_option maxRecDepth 100000 in
theorem m_add_W (l : Launch) (Z : hw_Z) (M : hw_M) (a : Nat) (d : Nat) (el : Nat) (n : Nat) (mc : Int32) (f : Nat → Option Nat) (vs : List Value) (h0 : M a = hw_ob 0 [.int mc, .ref d, .int (nI n)]) (h1 : M d = hw_ar Z 7 10 f) (h2 : M el = hw_ob 10 vs) (hn : n < 10) : Met l yJx4a65c_add_9ea2d (hw_m yJx4a65c_add_9ea2d cJx4a65c_add_9ea2d 2 (some .boolean)) ({ frames := 1, cells := 0, slots := 0, locals := 33 } : Room) (va_Pc [.ref a, .ref el] (hw_P Z M)) (hw_Qi Z (fun r M' => nI 1 = r ∧ va_up (va_up M d (hw_ar Z 7 10 (va_up f n (some el)))) a (hw_ob 0 [.int (mc + nI 1), .ref d, .int (nI (n + 1))]) = M')) 0 0 (hw_A Z) := by
  refine hw_ofz (by decide +kernel) rfl (Nat.le_of_ble_eq_true rfl) ?_
  intro p e s m below meth c ls Q hx hb hml hown hts hk hnm hI hl hret
  refine lv_aload_n hx hb dJx4a65c_add_9ea2d_0 rfl (lv_at hl 0 rfl) ?_
  refine lv_dup hx hb dJx4a65c_add_9ea2d_1 rfl ?_
  refine hw_get hx hb hts hown hk hI fd_Jx4a65c_63 h0 rfl dJx4a65c_add_9ea2d_2 ?_
  refine lv_iconst (v := nI 1) hx hb dJx4a65c_add_9ea2d_5 (by decide) ?_
  refine lv_iadd hx hb dJx4a65c_add_9ea2d_6 ?_
  refine hw_put (fs' := [.int (mc + (nI 1)), .ref d, .int (nI n)]) hx hb hts hown hk hI fp_Jx4a65c_63 h0 (Nat.le_of_ble_eq_true rfl) rfl rfl rfl dJx4a65c_add_9ea2d_7 (fun H locs hI => ?_)
  refine lv_aload_n hx hb dJx4a65c_add_9ea2d_10 rfl (lv_at hl 0 rfl) ?_
  refine lv_aload_n hx hb dJx4a65c_add_9ea2d_11 rfl (lv_at hl 1 rfl) ?_
  refine lv_aload_n hx hb dJx4a65c_add_9ea2d_12 rfl (lv_at hl 0 rfl) ?_
  refine hw_get hx hb hts hown hk hI fd_Jx4a65c_9 (hw_us _ _ _) rfl dJx4a65c_add_9ea2d_13 ?_
  refine lv_aload_n hx hb dJx4a65c_add_9ea2d_16 rfl (lv_at hl 0 rfl) ?_
  refine hw_get hx hb hts hown hk hI fd_Jx4a65c_48 (hw_us _ _ _) rfl dJx4a65c_add_9ea2d_17 ?_
  refine hw_cv hI (hw_rV hx hb hml hown hts hk hI (m_add3_W l Z (va_up M a (hw_ob 0 [.int (mc + (nI 1)), .ref d, .int (nI n)])) a d el n (mc + (nI 1)) f vs (hw_us _ _ _) (hw_up h1 (Ne.symm (hw_noa h0 h1))) (hw_up h2 (hw_noo h2 h0 (by decide))) (by omega)) cv_Jx4a65c_131 (hw_us _ _ _) rfl rfl ⟨rfl, rfl⟩ ⟨(Nat.le_of_ble_eq_true rfl), (Nat.le_of_ble_eq_true rfl)⟩ rfl hl.1 rfl (Nat.le_of_ble_eq_true rfl) ⟨(Nat.le_of_ble_eq_true rfl), (Nat.le_of_ble_eq_true rfl)⟩ dJx4a65c_add_9ea2d_20) (fun M20 H locs hR hI => ?_)
  subst hR
  refine lv_iconst (v := nI 1) hx hb dJx4a65c_add_9ea2d_23 (by decide) ?_
  exact hret hI (Or.inr rfl) (⟨rfl, hb_sw3 (hw_noa h0 h1)⟩) (Nat.le_of_ble_eq_true rfl) (Nat.le_of_ble_eq_true rfl) dJx4a65c_add_9ea2d_24

set_option maxHeartbeats 4000000 in
set_option maxRecDepth 100000 in
theorem m_add3_W0 (l : Launch) (Z : hw_Z) (M : hw_M) (a : Nat) (el : Nat) (mc : Int32) (vs : List Value) (h0 : M a = hw_ob 0 [.int mc, .ref Z.2.2.2, .int (nI 0)]) (h1 : M el = hw_ob 10 vs) : Met l yJx4a65c_add_72be8 (hw_m yJx4a65c_add_72be8 cJx4a65c_add_72be8 4 none) ({ frames := 3, cells := 1, slots := 10, locals := 88 } : Room) (va_Pc [.ref a, .ref el, .ref Z.2.2.2, .int (nI 0)] (hw_P Z M)) (hw_Qv Z (fun M' => ∃ d : Nat, M d = none ∧ va_up (va_up M d (hw_ar Z 7 10 (va_up (fun _ => none) 0 (some el)))) a (hw_ob 0 [.int (mc), .ref d, .int (nI 1)]) = M')) 1 10 (hw_A Z) := by
  refine hw_ofv (by decide +kernel) rfl (Nat.le_of_ble_eq_true rfl) ?_
  intro p e s m below meth c ls Q hx hb hml hown hts hk hnm hI hl hret
  refine lv_iload_n hx hb dJx4a65c_add_72be8_0 rfl (lv_at hl 3 rfl) ?_
  refine lv_aload_n hx hb dJx4a65c_add_72be8_1 rfl (lv_at hl 2 rfl) ?_
  refine hw_len0 hx hb hk hI dJx4a65c_add_72be8_2 ?_
  refine lv_icmp_ne (tgt := 11) hx hb dJx4a65c_add_72be8_3 (by decide) (fun hc => absurd rfl hc) (fun _ => ?_)
  refine lv_aload_n hx hb dJx4a65c_add_72be8_6 rfl (lv_at hl 0 rfl) ?_
  refine hw_cr hI (hw_rV hx hb hml hown hts hk hI (m_Jx4a65c_grow_d5877 l Z M a mc h0) cv_Jx4a65c_129 h0 rfl rfl ⟨rfl, rfl⟩ ⟨(Nat.le_of_ble_eq_true rfl), (Nat.le_of_ble_eq_true rfl)⟩ rfl hl.1 rfl (Nat.le_of_ble_eq_true rfl) ⟨(Nat.le_of_ble_eq_true rfl), (Nat.le_of_ble_eq_true rfl)⟩ dJx4a65c_add_72be8_7) (fun r7 M7 H locs hR hI => ?_)
  obtain ⟨hn7, rfl⟩ := hR
  refine lv_astore_n (lv' := [(2, .ref r7), (0, .ref a), (1, .ref el), (3, .int (nI 0))]) hx hb dJx4a65c_add_72be8_10 rfl hl (by decide) rfl (fun ls hl => ?_)
  refine lv_aload_n hx hb dJx4a65c_add_72be8_11 rfl (lv_at hl 0 rfl) ?_
  refine lv_iload_n hx hb dJx4a65c_add_72be8_12 rfl (lv_at hl 3 rfl) ?_
  refine lv_aload_n hx hb dJx4a65c_add_72be8_13 rfl (lv_at hl 2 rfl) ?_
  refine hw_aastO hx hb hk hI 7 (hw_up (hw_us _ _ _) (Ne.symm (hw_nn h0 hn7))) rfl (by decide +kernel) (hw_up (hw_up h1 (hw_nn h1 hn7)) (hw_noo h1 h0 (by decide))) rfl (j := 0) rfl (by omega) (by decide) dJx4a65c_add_72be8_14 (fun H locs hI => ?_)
  refine lv_aload_n hx hb dJx4a65c_add_72be8_15 rfl (lv_at hl 1 rfl) ?_
  refine lv_iload_n hx hb dJx4a65c_add_72be8_16 rfl (lv_at hl 3 rfl) ?_
  refine lv_iconst (v := nI 1) hx hb dJx4a65c_add_72be8_17 (by decide) ?_
  refine lv_iadd hx hb dJx4a65c_add_72be8_18 ?_
  refine hw_ti (nI_add _ _) ?_
  refine hw_put (fs' := [.int mc, .ref r7, .int (nI (0 + 1))]) hx hb hts hown hk hI fp_Jx4a65c_48 (hw_up (hw_us _ _ _) (hw_nn h0 hn7)) (Nat.le_of_ble_eq_true rfl) rfl rfl rfl dJx4a65c_add_72be8_19 (fun H locs hI => ?_)
  exact hret hI (⟨r7, hn7, hb_g4 (hw_nn h0 hn7)⟩) (Nat.le_of_ble_eq_true rfl) (Nat.le_of_ble_eq_true rfl) dJx4a65c_add_72be8_22

set_option maxHeartbeats 4000000 in
set_option maxRecDepth 100000 in
theorem m_add_W0 (l : Launch) (Z : hw_Z) (M : hw_M) (a : Nat) (el : Nat) (mc : Int32) (vs : List Value) (h0 : M a = hw_ob 0 [.int mc, .ref Z.2.2.2, .int (nI 0)]) (h1 : M el = hw_ob 10 vs) : Met l yJx4a65c_add_9ea2d (hw_m yJx4a65c_add_9ea2d cJx4a65c_add_9ea2d 2 (some .boolean)) ({ frames := 4, cells := 1, slots := 10, locals := 112 } : Room) (va_Pc [.ref a, .ref el] (hw_P Z M)) (hw_Qi Z (fun r M' => ∃ d : Nat, M d = none ∧ 1 = r ∧ va_up (va_up M d (hw_ar Z 7 10 (va_up (fun _ => none) 0 (some el)))) a (hw_ob 0 [.int (mc + nI 1), .ref d, .int (nI 1)]) = M')) 1 10 (hw_A Z) := by
  refine hw_ofz (by decide +kernel) rfl (Nat.le_of_ble_eq_true rfl) ?_
  intro p e s m below meth c ls Q hx hb hml hown hts hk hnm hI hl hret
  refine lv_aload_n hx hb dJx4a65c_add_9ea2d_0 rfl (lv_at hl 0 rfl) ?_
  refine lv_dup hx hb dJx4a65c_add_9ea2d_1 rfl ?_
  refine hw_get hx hb hts hown hk hI fd_Jx4a65c_63 h0 rfl dJx4a65c_add_9ea2d_2 ?_
  refine lv_iconst (v := nI 1) hx hb dJx4a65c_add_9ea2d_5 (by decide) ?_
  refine lv_iadd hx hb dJx4a65c_add_9ea2d_6 ?_
  refine hw_put (fs' := [.int (mc + (nI 1)), .ref Z.2.2.2, .int (nI 0)]) hx hb hts hown hk hI fp_Jx4a65c_63 h0 (Nat.le_of_ble_eq_true rfl) rfl rfl rfl dJx4a65c_add_9ea2d_7 (fun H locs hI => ?_)
  refine lv_aload_n hx hb dJx4a65c_add_9ea2d_10 rfl (lv_at hl 0 rfl) ?_
  refine lv_aload_n hx hb dJx4a65c_add_9ea2d_11 rfl (lv_at hl 1 rfl) ?_
  refine lv_aload_n hx hb dJx4a65c_add_9ea2d_12 rfl (lv_at hl 0 rfl) ?_
  refine hw_get hx hb hts hown hk hI fd_Jx4a65c_9 (hw_us _ _ _) rfl dJx4a65c_add_9ea2d_13 ?_
  refine lv_aload_n hx hb dJx4a65c_add_9ea2d_16 rfl (lv_at hl 0 rfl) ?_
  refine hw_get hx hb hts hown hk hI fd_Jx4a65c_48 (hw_us _ _ _) rfl dJx4a65c_add_9ea2d_17 ?_
  refine hw_cv hI (hw_rV hx hb hml hown hts hk hI (m_add3_W0 l Z (va_up M a (hw_ob 0 [.int (mc + (nI 1)), .ref Z.2.2.2, .int (nI 0)])) a el (mc + (nI 1)) vs (hw_us _ _ _) (hw_up h1 (hw_noo h1 h0 (by decide)))) cv_Jx4a65c_131 (hw_us _ _ _) rfl rfl ⟨rfl, rfl⟩ ⟨(Nat.le_of_ble_eq_true rfl), (Nat.le_of_ble_eq_true rfl)⟩ rfl hl.1 rfl (Nat.le_of_ble_eq_true rfl) ⟨(Nat.le_of_ble_eq_true rfl), (Nat.le_of_ble_eq_true rfl)⟩ dJx4a65c_add_9ea2d_20) (fun M20 H locs hR hI => ?_)
  obtain ⟨d20, hn20, rfl⟩ := hR
  refine lv_iconst (v := nI 1) hx hb dJx4a65c_add_9ea2d_23 (by decide) ?_
  exact hret hI (Or.inr rfl) (⟨d20, hb_no hn20, rfl, hb_sw3 (hw_nn h0 (hb_no hn20))⟩) (Nat.le_of_ble_eq_true rfl) (Nat.le_of_ble_eq_true rfl) dJx4a65c_add_9ea2d_24

set_option maxHeartbeats 4000000 in
set_option maxRecDepth 100000 in
theorem m_add3_I (l : Launch) (Z : hw_Z) (M : hw_M) (a : Nat) (d : Nat) (el : Nat) (n : Nat) (mc : Int32) (f : Nat → Option Nat) (g : Nat → Int32) (h0 : M a = hw_ob 0 [.int mc, .ref d, .int (nI n)]) (h1 : M d = hw_ar Z 7 10 f) (h2 : M el = hw_ai Z 3 g) (hn : n < 10) : Met l yJx4a65c_add_72be8 (hw_m yJx4a65c_add_72be8 cJx4a65c_add_72be8 4 none) ({ frames := 0, cells := 0, slots := 0, locals := 0 } : Room) (va_Pc [.ref a, .ref el, .ref d, .int (nI n)] (hw_P Z M)) (hw_Qv Z (fun M' => va_up (va_up M d (hw_ar Z 7 10 (va_up f n (some el)))) a (hw_ob 0 [.int mc, .ref d, .int (nI (n + 1))]) = M')) 0 0 (hw_A Z) := by
  refine hw_ofv (by decide +kernel) rfl (Nat.le_of_ble_eq_true rfl) ?_
  intro p e s m below meth c ls Q hx hb hml hown hts hk hnm hI hl hret
  refine lv_iload_n hx hb dJx4a65c_add_72be8_0 rfl (lv_at hl 3 rfl) ?_
  refine lv_aload_n hx hb dJx4a65c_add_72be8_1 rfl (lv_at hl 2 rfl) ?_
  refine hw_alen (v := nI 10) hx hb hk hI 7 h1 rfl rfl dJx4a65c_add_72be8_2 ?_
  refine lv_icmp_ne (tgt := 11) hx hb dJx4a65c_add_72be8_3 (by decide) (fun _ => ?_) (fun hc => absurd hc (fun q => absurd ((nI_eq (by omega) (by decide)).mp q) (by omega)))
  refine lv_aload_n hx hb dJx4a65c_add_72be8_11 rfl (lv_at hl 2 rfl) ?_
  refine lv_iload_n hx hb dJx4a65c_add_72be8_12 rfl (lv_at hl 3 rfl) ?_
  refine lv_aload_n hx hb dJx4a65c_add_72be8_13 rfl (lv_at hl 1 rfl) ?_
  refine hw_aastI hx hb hk hI h1 h2 (j := n) rfl (by omega) (by decide) dJx4a65c_add_72be8_14 (fun H locs hI => ?_)
  refine lv_aload_n hx hb dJx4a65c_add_72be8_15 rfl (lv_at hl 0 rfl) ?_
  refine lv_iload_n hx hb dJx4a65c_add_72be8_16 rfl (lv_at hl 3 rfl) ?_
  refine lv_iconst (v := nI 1) hx hb dJx4a65c_add_72be8_17 (by decide) ?_
  refine lv_iadd hx hb dJx4a65c_add_72be8_18 ?_
  refine hw_ti (nI_add _ _) ?_
  refine hw_put (fs' := [.int mc, .ref d, .int (nI (n + 1))]) hx hb hts hown hk hI fp_Jx4a65c_48 (hw_up h0 (hw_noa h0 h1)) (Nat.le_of_ble_eq_true rfl) rfl rfl rfl dJx4a65c_add_72be8_19 (fun H locs hI => ?_)
  exact hret hI rfl (Nat.le_of_ble_eq_true rfl) (Nat.le_of_ble_eq_true rfl) dJx4a65c_add_72be8_22

set_option maxHeartbeats 4000000 in
set_option maxRecDepth 100000 in
theorem m_add_I (l : Launch) (Z : hw_Z) (M : hw_M) (a : Nat) (d : Nat) (el : Nat) (n : Nat) (mc : Int32) (f : Nat → Option Nat) (g : Nat → Int32) (h0 : M a = hw_ob 0 [.int mc, .ref d, .int (nI n)]) (h1 : M d = hw_ar Z 7 10 f) (h2 : M el = hw_ai Z 3 g) (hn : n < 10) : Met l yJx4a65c_add_9ea2d (hw_m yJx4a65c_add_9ea2d cJx4a65c_add_9ea2d 2 (some .boolean)) ({ frames := 1, cells := 0, slots := 0, locals := 33 } : Room) (va_Pc [.ref a, .ref el] (hw_P Z M)) (hw_Qi Z (fun r M' => nI 1 = r ∧ va_up (va_up M d (hw_ar Z 7 10 (va_up f n (some el)))) a (hw_ob 0 [.int (mc + nI 1), .ref d, .int (nI (n + 1))]) = M')) 0 0 (hw_A Z) := by
  refine hw_ofz (by decide +kernel) rfl (Nat.le_of_ble_eq_true rfl) ?_
  intro p e s m below meth c ls Q hx hb hml hown hts hk hnm hI hl hret
  refine lv_aload_n hx hb dJx4a65c_add_9ea2d_0 rfl (lv_at hl 0 rfl) ?_
  refine lv_dup hx hb dJx4a65c_add_9ea2d_1 rfl ?_
  refine hw_get hx hb hts hown hk hI fd_Jx4a65c_63 h0 rfl dJx4a65c_add_9ea2d_2 ?_
  refine lv_iconst (v := nI 1) hx hb dJx4a65c_add_9ea2d_5 (by decide) ?_
  refine lv_iadd hx hb dJx4a65c_add_9ea2d_6 ?_
  refine hw_put (fs' := [.int (mc + (nI 1)), .ref d, .int (nI n)]) hx hb hts hown hk hI fp_Jx4a65c_63 h0 (Nat.le_of_ble_eq_true rfl) rfl rfl rfl dJx4a65c_add_9ea2d_7 (fun H locs hI => ?_)
  refine lv_aload_n hx hb dJx4a65c_add_9ea2d_10 rfl (lv_at hl 0 rfl) ?_
  refine lv_aload_n hx hb dJx4a65c_add_9ea2d_11 rfl (lv_at hl 1 rfl) ?_
  refine lv_aload_n hx hb dJx4a65c_add_9ea2d_12 rfl (lv_at hl 0 rfl) ?_
  refine hw_get hx hb hts hown hk hI fd_Jx4a65c_9 (hw_us _ _ _) rfl dJx4a65c_add_9ea2d_13 ?_
  refine lv_aload_n hx hb dJx4a65c_add_9ea2d_16 rfl (lv_at hl 0 rfl) ?_
  refine hw_get hx hb hts hown hk hI fd_Jx4a65c_48 (hw_us _ _ _) rfl dJx4a65c_add_9ea2d_17 ?_
  refine hw_cv hI (hw_rV hx hb hml hown hts hk hI (m_add3_I l Z (va_up M a (hw_ob 0 [.int (mc + (nI 1)), .ref d, .int (nI n)])) a d el n (mc + (nI 1)) f g (hw_us _ _ _) (hw_up h1 (Ne.symm (hw_noa h0 h1))) (hw_up h2 (Ne.symm (hw_noa h0 h2))) (by omega)) cv_Jx4a65c_131 (hw_us _ _ _) rfl rfl ⟨rfl, rfl⟩ ⟨(Nat.le_of_ble_eq_true rfl), (Nat.le_of_ble_eq_true rfl)⟩ rfl hl.1 rfl (Nat.le_of_ble_eq_true rfl) ⟨(Nat.le_of_ble_eq_true rfl), (Nat.le_of_ble_eq_true rfl)⟩ dJx4a65c_add_9ea2d_20) (fun M20 H locs hR hI => ?_)
  subst hR
  refine lv_iconst (v := nI 1) hx hb dJx4a65c_add_9ea2d_23 (by decide) ?_
  exact hret hI (Or.inr rfl) (⟨rfl, hb_sw3 (hw_noa h0 h1)⟩) (Nat.le_of_ble_eq_true rfl) (Nat.le_of_ble_eq_true rfl) dJx4a65c_add_9ea2d_24

set_option maxHeartbeats 4000000 in
set_option maxRecDepth 100000 in
theorem m_add3_I0 (l : Launch) (Z : hw_Z) (M : hw_M) (a : Nat) (el : Nat) (mc : Int32) (g : Nat → Int32) (h0 : M a = hw_ob 0 [.int mc, .ref Z.2.2.2, .int (nI 0)]) (h1 : M el = hw_ai Z 3 g) : Met l yJx4a65c_add_72be8 (hw_m yJx4a65c_add_72be8 cJx4a65c_add_72be8 4 none) ({ frames := 3, cells := 1, slots := 10, locals := 88 } : Room) (va_Pc [.ref a, .ref el, .ref Z.2.2.2, .int (nI 0)] (hw_P Z M)) (hw_Qv Z (fun M' => ∃ d : Nat, M d = none ∧ va_up (va_up M d (hw_ar Z 7 10 (va_up (fun _ => none) 0 (some el)))) a (hw_ob 0 [.int (mc), .ref d, .int (nI 1)]) = M')) 1 10 (hw_A Z) := by
  refine hw_ofv (by decide +kernel) rfl (Nat.le_of_ble_eq_true rfl) ?_
  intro p e s m below meth c ls Q hx hb hml hown hts hk hnm hI hl hret
  refine lv_iload_n hx hb dJx4a65c_add_72be8_0 rfl (lv_at hl 3 rfl) ?_
  refine lv_aload_n hx hb dJx4a65c_add_72be8_1 rfl (lv_at hl 2 rfl) ?_
  refine hw_len0 hx hb hk hI dJx4a65c_add_72be8_2 ?_
  refine lv_icmp_ne (tgt := 11) hx hb dJx4a65c_add_72be8_3 (by decide) (fun hc => absurd rfl hc) (fun _ => ?_)
  refine lv_aload_n hx hb dJx4a65c_add_72be8_6 rfl (lv_at hl 0 rfl) ?_
  refine hw_cr hI (hw_rV hx hb hml hown hts hk hI (m_Jx4a65c_grow_d5877 l Z M a mc h0) cv_Jx4a65c_129 h0 rfl rfl ⟨rfl, rfl⟩ ⟨(Nat.le_of_ble_eq_true rfl), (Nat.le_of_ble_eq_true rfl)⟩ rfl hl.1 rfl (Nat.le_of_ble_eq_true rfl) ⟨(Nat.le_of_ble_eq_true rfl), (Nat.le_of_ble_eq_true rfl)⟩ dJx4a65c_add_72be8_7) (fun r7 M7 H locs hR hI => ?_)
  obtain ⟨hn7, rfl⟩ := hR
  refine lv_astore_n (lv' := [(2, .ref r7), (0, .ref a), (1, .ref el), (3, .int (nI 0))]) hx hb dJx4a65c_add_72be8_10 rfl hl (by decide) rfl (fun ls hl => ?_)
  refine lv_aload_n hx hb dJx4a65c_add_72be8_11 rfl (lv_at hl 0 rfl) ?_
  refine lv_iload_n hx hb dJx4a65c_add_72be8_12 rfl (lv_at hl 3 rfl) ?_
  refine lv_aload_n hx hb dJx4a65c_add_72be8_13 rfl (lv_at hl 2 rfl) ?_
  refine hw_aastI hx hb hk hI (hw_up (hw_us _ _ _) (Ne.symm (hw_nn h0 hn7))) (hw_up (hw_up h1 (hw_nn h1 hn7)) (Ne.symm (hw_noa h0 h1))) (j := 0) rfl (by omega) (by decide) dJx4a65c_add_72be8_14 (fun H locs hI => ?_)
  refine lv_aload_n hx hb dJx4a65c_add_72be8_15 rfl (lv_at hl 1 rfl) ?_
  refine lv_iload_n hx hb dJx4a65c_add_72be8_16 rfl (lv_at hl 3 rfl) ?_
  refine lv_iconst (v := nI 1) hx hb dJx4a65c_add_72be8_17 (by decide) ?_
  refine lv_iadd hx hb dJx4a65c_add_72be8_18 ?_
  refine hw_ti (nI_add _ _) ?_
  refine hw_put (fs' := [.int mc, .ref r7, .int (nI (0 + 1))]) hx hb hts hown hk hI fp_Jx4a65c_48 (hw_up (hw_us _ _ _) (hw_nn h0 hn7)) (Nat.le_of_ble_eq_true rfl) rfl rfl rfl dJx4a65c_add_72be8_19 (fun H locs hI => ?_)
  exact hret hI (⟨r7, hn7, hb_g4 (hw_nn h0 hn7)⟩) (Nat.le_of_ble_eq_true rfl) (Nat.le_of_ble_eq_true rfl) dJx4a65c_add_72be8_22

set_option maxHeartbeats 4000000 in
set_option maxRecDepth 100000 in
theorem m_add_I0 (l : Launch) (Z : hw_Z) (M : hw_M) (a : Nat) (el : Nat) (mc : Int32) (g : Nat → Int32) (h0 : M a = hw_ob 0 [.int mc, .ref Z.2.2.2, .int (nI 0)]) (h1 : M el = hw_ai Z 3 g) : Met l yJx4a65c_add_9ea2d (hw_m yJx4a65c_add_9ea2d cJx4a65c_add_9ea2d 2 (some .boolean)) ({ frames := 4, cells := 1, slots := 10, locals := 112 } : Room) (va_Pc [.ref a, .ref el] (hw_P Z M)) (hw_Qi Z (fun r M' => ∃ d : Nat, M d = none ∧ 1 = r ∧ va_up (va_up M d (hw_ar Z 7 10 (va_up (fun _ => none) 0 (some el)))) a (hw_ob 0 [.int (mc + nI 1), .ref d, .int (nI 1)]) = M')) 1 10 (hw_A Z) := by
  refine hw_ofz (by decide +kernel) rfl (Nat.le_of_ble_eq_true rfl) ?_
  intro p e s m below meth c ls Q hx hb hml hown hts hk hnm hI hl hret
  refine lv_aload_n hx hb dJx4a65c_add_9ea2d_0 rfl (lv_at hl 0 rfl) ?_
  refine lv_dup hx hb dJx4a65c_add_9ea2d_1 rfl ?_
  refine hw_get hx hb hts hown hk hI fd_Jx4a65c_63 h0 rfl dJx4a65c_add_9ea2d_2 ?_
  refine lv_iconst (v := nI 1) hx hb dJx4a65c_add_9ea2d_5 (by decide) ?_
  refine lv_iadd hx hb dJx4a65c_add_9ea2d_6 ?_
  refine hw_put (fs' := [.int (mc + (nI 1)), .ref Z.2.2.2, .int (nI 0)]) hx hb hts hown hk hI fp_Jx4a65c_63 h0 (Nat.le_of_ble_eq_true rfl) rfl rfl rfl dJx4a65c_add_9ea2d_7 (fun H locs hI => ?_)
  refine lv_aload_n hx hb dJx4a65c_add_9ea2d_10 rfl (lv_at hl 0 rfl) ?_
  refine lv_aload_n hx hb dJx4a65c_add_9ea2d_11 rfl (lv_at hl 1 rfl) ?_
  refine lv_aload_n hx hb dJx4a65c_add_9ea2d_12 rfl (lv_at hl 0 rfl) ?_
  refine hw_get hx hb hts hown hk hI fd_Jx4a65c_9 (hw_us _ _ _) rfl dJx4a65c_add_9ea2d_13 ?_
  refine lv_aload_n hx hb dJx4a65c_add_9ea2d_16 rfl (lv_at hl 0 rfl) ?_
  refine hw_get hx hb hts hown hk hI fd_Jx4a65c_48 (hw_us _ _ _) rfl dJx4a65c_add_9ea2d_17 ?_
  refine hw_cv hI (hw_rV hx hb hml hown hts hk hI (m_add3_I0 l Z (va_up M a (hw_ob 0 [.int (mc + (nI 1)), .ref Z.2.2.2, .int (nI 0)])) a el (mc + (nI 1)) g (hw_us _ _ _) (hw_up h1 (Ne.symm (hw_noa h0 h1)))) cv_Jx4a65c_131 (hw_us _ _ _) rfl rfl ⟨rfl, rfl⟩ ⟨(Nat.le_of_ble_eq_true rfl), (Nat.le_of_ble_eq_true rfl)⟩ rfl hl.1 rfl (Nat.le_of_ble_eq_true rfl) ⟨(Nat.le_of_ble_eq_true rfl), (Nat.le_of_ble_eq_true rfl)⟩ dJx4a65c_add_9ea2d_20) (fun M20 H locs hR hI => ?_)
  obtain ⟨d20, hn20, rfl⟩ := hR
  refine lv_iconst (v := nI 1) hx hb dJx4a65c_add_9ea2d_23 (by decide) ?_
  exact hret hI (Or.inr rfl) (⟨d20, hb_no hn20, rfl, hb_sw3 (hw_nn h0 (hb_no hn20))⟩) (Nat.le_of_ble_eq_true rfl) (Nat.le_of_ble_eq_true rfl) dJx4a65c_add_9ea2d_24

set_option maxHeartbeats 4000000 in
set_option maxRecDepth 100000 in
theorem m_Jx4a65c_fastRemove_b59b0 (l : Launch) (Z : hw_Z) (M : hw_M) (a : Nat) (d : Nat) (i : Nat) (mc : Int32) (f : Nat → Option Nat) (h0 : M a = hw_ob 0 [.int mc, .ref d, .int (nI (i + 1))]) (h1 : M d = hw_ar Z 7 10 f) (hi : i < 10) : Met l yJx4a65c_fastRemove_b59b0 (hw_m yJx4a65c_fastRemove_b59b0 cJx4a65c_fastRemove_b59b0 4 none) ({ frames := 0, cells := 0, slots := 0, locals := 0 } : Room) (va_Pc [.ref a, .ref d, .int (nI i)] (hw_P Z M)) (hw_Qv Z (fun M' => va_up (va_up M d (hw_ar Z 7 10 (va_up f i none))) a (hw_ob 0 [.int (mc + nI 1), .ref d, .int (nI i)]) = M')) 0 0 (hw_A Z) := by
  refine hw_ofv (by decide +kernel) rfl (Nat.le_of_ble_eq_true rfl) ?_
  intro p e s m below meth c ls Q hx hb hml hown hts hk hnm hI hl hret
  refine lv_aload_n hx hb dJx4a65c_fastRemove_b59b0_0 rfl (lv_at hl 0 rfl) ?_
  refine lv_dup hx hb dJx4a65c_fastRemove_b59b0_1 rfl ?_
  refine hw_get hx hb hts hown hk hI fd_Jx4a65c_63 h0 rfl dJx4a65c_fastRemove_b59b0_2 ?_
  refine lv_iconst (v := nI 1) hx hb dJx4a65c_fastRemove_b59b0_5 (by decide) ?_
  refine lv_iadd hx hb dJx4a65c_fastRemove_b59b0_6 ?_
  refine hw_put (fs' := [.int (mc + (nI 1)), .ref d, .int (nI (i + 1))]) hx hb hts hown hk hI fp_Jx4a65c_63 h0 (Nat.le_of_ble_eq_true rfl) rfl rfl rfl dJx4a65c_fastRemove_b59b0_7 (fun H locs hI => ?_)
  refine lv_aload_n hx hb dJx4a65c_fastRemove_b59b0_10 rfl (lv_at hl 0 rfl) ?_
  refine hw_get hx hb hts hown hk hI fd_Jx4a65c_48 (hw_us _ _ _) rfl dJx4a65c_fastRemove_b59b0_11 ?_
  refine lv_iconst (v := nI 1) hx hb dJx4a65c_fastRemove_b59b0_14 (by decide) ?_
  refine lv_isub hx hb dJx4a65c_fastRemove_b59b0_15 ?_
  refine hw_ti (pk_sub (by omega) : nI (i + 1) - nI 1 = nI i) ?_
  refine lv_dup hx hb dJx4a65c_fastRemove_b59b0_16 rfl ?_
  refine lv_istore_n (lv' := [(3, .int (nI i)), (0, .ref a), (1, .ref d), (2, .int (nI i))]) hx hb dJx4a65c_fastRemove_b59b0_17 rfl hl (by decide) rfl (fun ls hl => ?_)
  refine lv_iload_n hx hb dJx4a65c_fastRemove_b59b0_18 rfl (lv_at hl 3 rfl) ?_
  refine lv_icmp_le (tgt := 34) hx hb dJx4a65c_fastRemove_b59b0_19 (by decide) (fun _ => ?_) (fun hc => absurd (Int32.le_refl _) hc)
  refine lv_aload_n hx hb dJx4a65c_fastRemove_b59b0_34 rfl (lv_at hl 2 rfl) ?_
  refine lv_aload_n hx hb dJx4a65c_fastRemove_b59b0_35 rfl (lv_at hl 1 rfl) ?_
  refine lv_iload_n hx hb dJx4a65c_fastRemove_b59b0_36 rfl (lv_at hl 0 rfl) ?_
  refine lv_dup_x1 hx hb dJx4a65c_fastRemove_b59b0_37 rfl rfl ?_
  refine hw_put (fs' := [.int (mc + (nI 1)), .ref d, .int (nI i)]) hx hb hts hown hk hI fp_Jx4a65c_48 (hw_us _ _ _) (Nat.le_of_ble_eq_true rfl) rfl rfl rfl dJx4a65c_fastRemove_b59b0_38 (fun H locs hI => ?_)
  refine lv_null hx hb dJx4a65c_fastRemove_b59b0_41 ?_
  refine hw_aastN hx hb hk hI 7 (hw_up (hw_up h1 (Ne.symm (hw_noa h0 h1))) (Ne.symm (hw_noa h0 h1))) rfl (j := i) rfl (by omega) (by decide) dJx4a65c_fastRemove_b59b0_42 (fun H locs hI => ?_)
  exact hret hI (hb_sw2 (hw_noa h0 h1)) (Nat.le_of_ble_eq_true rfl) (Nat.le_of_ble_eq_true rfl) dJx4a65c_fastRemove_b59b0_43

set_option maxHeartbeats 4000000 in
set_option maxRecDepth 100000 in
theorem m_Jx4a65c_remove_915e3 (l : Launch) (Z : hw_Z) (M : hw_M) (a : Nat) (d : Nat) (i : Nat) (q : Nat) (mc : Int32) (f : Nat → Option Nat) (h0 : M a = hw_ob 0 [.int mc, .ref d, .int (nI (i + 1))]) (h1 : M d = hw_ar Z 7 10 f) (hi : i < 10) (hf : f i = some q) : Met l yJx4a65c_remove_915e3 (hw_m yJx4a65c_remove_915e3 cJx4a65c_remove_915e3 4 (some (.object "java/lang/Object"))) ({ frames := 2, cells := 0, slots := 0, locals := 43 } : Room) (va_Pc [.ref a, .int (nI i)] (hw_P Z M)) (hw_Qr Z (fun r M' => q = r ∧ va_up (va_up M d (hw_ar Z 7 10 (va_up f i none))) a (hw_ob 0 [.int (mc + nI 1), .ref d, .int (nI i)]) = M')) 0 0 (hw_A Z) := by
  refine hw_ofr (by decide +kernel) rfl (Or.inl ⟨_, rfl⟩) (Nat.le_of_ble_eq_true rfl) ?_
  intro p e s m below meth c ls Q hx hb hml hown hts hk hnm hI hl hret
  refine lv_iload_n hx hb dJx4a65c_remove_915e3_0 rfl (lv_at hl 1 rfl) ?_
  refine lv_aload_n hx hb dJx4a65c_remove_915e3_1 rfl (lv_at hl 0 rfl) ?_
  refine hw_get hx hb hts hown hk hI fd_Jx4a65c_48 h0 rfl dJx4a65c_remove_915e3_2 ?_
  refine hw_ci hI (hw_rS hx hb hml hown hts hk hI (m_J15_checkIndex_7cf53 l Z M i (i + 1) (by omega) (by omega)) cs_Jx4a65c_118 ⟨rfl, rfl⟩ ⟨(Nat.le_of_ble_eq_true rfl), (Nat.le_of_ble_eq_true rfl)⟩ rfl hl.1 rfl (Nat.le_of_ble_eq_true rfl) ⟨(Nat.le_of_ble_eq_true rfl), (Nat.le_of_ble_eq_true rfl)⟩ dJx4a65c_remove_915e3_5) (fun r5 M5 H locs hR hI => ?_)
  obtain ⟨rfl, rfl⟩ := hR
  refine lv_pop hx hb dJx4a65c_remove_915e3_8 rfl ?_
  refine lv_aload_n hx hb dJx4a65c_remove_915e3_9 rfl (lv_at hl 0 rfl) ?_
  refine hw_get hx hb hts hown hk hI fd_Jx4a65c_9 h0 rfl dJx4a65c_remove_915e3_10 ?_
  refine lv_astore_n (lv' := [(2, .ref d), (0, .ref a), (1, .int (nI i))]) hx hb dJx4a65c_remove_915e3_13 rfl hl (by decide) rfl (fun ls hl => ?_)
  refine lv_aload_n hx hb dJx4a65c_remove_915e3_14 rfl (lv_at hl 0 rfl) ?_
  refine lv_iload_n hx hb dJx4a65c_remove_915e3_15 rfl (lv_at hl 2 rfl) ?_
  refine hw_aald hx hb hk hI 7 (v := .ref q) h1 rfl (j := i) rfl (by omega) (by decide) (congrArg va_rf hf) dJx4a65c_remove_915e3_16 ?_
  refine lv_astore_n (lv' := [(3, .ref q), (2, .ref d), (0, .ref a), (1, .int (nI i))]) hx hb dJx4a65c_remove_915e3_17 rfl hl (by decide) rfl (fun ls hl => ?_)
  refine lv_aload_n hx hb dJx4a65c_remove_915e3_18 rfl (lv_at hl 2 rfl) ?_
  refine lv_aload_n hx hb dJx4a65c_remove_915e3_19 rfl (lv_at hl 1 rfl) ?_
  refine lv_iload_n hx hb dJx4a65c_remove_915e3_20 rfl (lv_at hl 3 rfl) ?_
  refine hw_cv hI (hw_rV hx hb hml hown hts hk hI (m_Jx4a65c_fastRemove_b59b0 l Z M a d i mc f h0 h1 (by omega)) cv_Jx4a65c_144 h0 rfl rfl ⟨rfl, rfl⟩ ⟨(Nat.le_of_ble_eq_true rfl), (Nat.le_of_ble_eq_true rfl)⟩ rfl hl.1 rfl (Nat.le_of_ble_eq_true rfl) ⟨(Nat.le_of_ble_eq_true rfl), (Nat.le_of_ble_eq_true rfl)⟩ dJx4a65c_remove_915e3_21) (fun M21 H locs hR hI => ?_)
  subst hR
  refine lv_aload_n hx hb dJx4a65c_remove_915e3_24 rfl (lv_at hl 0 rfl) ?_
  exact hret hI (⟨rfl, rfl⟩) (Nat.le_of_ble_eq_true rfl) (Nat.le_of_ble_eq_true rfl) dJx4a65c_remove_915e3_25
