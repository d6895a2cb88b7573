set_option maxHeartbeats 4000000 in
set_option maxRecDepth 100000 in
theorem k70_X10_numberOf (l : Launch) (hf : l.stackTraces = false) (G : vv_G) (q1 q2 q3 q4 q5 q6 q7 q8 q9 q10 q11 q12 q13 : Nat) : ∀ sz, Met l yX10_numberOf (Cond.code yX10_numberOf cX10_numberOf 4 (some .int) :: gT) ({ frames := 1, cells := 0, slots := 0, locals := 23 } : Room) (va_Pc [.ref q1, .long (2 : Int64)] (vv_I G [(q1, .inr (9, [.ref q2, .ref q3, .ref q4, .ref q5, .ref q6, .ref q7, .ref q8, .ref q9, .ref q10])), (q7, .inr (8, [.ref q11, .ref q12, .ref q13, .int (zI (0))])), (q11, .inl (G.2.1 1, 60, .inr (.inl (fun _ => 0))))] sz)) (vv_Q G (fun v (u : Unit) => v = some (.int (zI (0)))) (fun u => [(q1, .inr (9, [.ref q2, .ref q3, .ref q4, .ref q5, .ref q6, .ref q7, .ref q8, .ref q9, .ref q10])), (q7, .inr (8, [.ref q11, .ref q12, .ref q13, .int (zI (1))]))]) (va_A [(q1, .inr (9, [.ref q2, .ref q3, .ref q4, .ref q5, .ref q6, .ref q7, .ref q8, .ref q9, .ref q10])), (q7, .inr (8, [.ref q11, .ref q12, .ref q13, .int (zI (0))])), (q11, .inl (G.2.1 1, 60, .inr (.inl (fun _ => 0))))] sz)) 0 0 (va_A [(q1, .inr (9, [.ref q2, .ref q3, .ref q4, .ref q5, .ref q6, .ref q7, .ref q8, .ref q9, .ref q10])), (q7, .inr (8, [.ref q11, .ref q12, .ref q13, .int (zI (0))])), (q11, .inl (G.2.1 1, 60, .inr (.inl (fun _ => 0))))] sz) := by
  refine vv_start hf (by decide) (Nat.le_of_ble_eq_true rfl) ?_
  intro p e s m below meth c A C hnm
  refine vv_aload_n C 0 dX10_numberOf_0 rfl rfl ?_
  refine vv_get C 0 rfl rfl vi_X10 5 (by decide) wm329 rfl dX10_numberOf_1 ?_
  refine vv_lload_n C 1 dX10_numberOf_4 rfl rfl ?_
  refine vv_callV (As := [.long (2 : Int64)]) (rest := []) (wr := [(q1, .inr (9, [.ref q2, .ref q3, .ref q4, .ref q5, .ref q6, .ref q7, .ref q8, .ref q9, .ref q10]))]) (ws2 := fun u => [(q1, .inr (9, [.ref q2, .ref q3, .ref q4, .ref q5, .ref q6, .ref q7, .ref q8, .ref q9, .ref q10])), (q7, .inr (8, [.ref q11, .ref q12, .ref q13, .int (zI (1))]))]) (isC := [1, 2]) (isR := [0]) (isP := [0, 1]) C (vv_cutI rfl rfl rfl rfl (by decide) (fun _ => rfl) rfl) (k69_X9_findOrAdd l hf G q7 q11 q12 q13) yy_X9_findOrAdd (vv_rmI rfl rfl (Nat.le_of_ble_eq_true rfl) (Nat.le_of_ble_eq_true rfl) (Nat.le_of_ble_eq_true rfl) (Nat.le_of_ble_eq_true rfl)) wm622 wm623 wm624 0 rfl rfl rfl rfl (Nat.le_of_ble_eq_true rfl) dX10_numberOf_5 (fun v u hp => ?_)
  obtain rfl := hp
  refine vv_nrm (ws1 := [(q1, .inr (9, [.ref q2, .ref q3, .ref q4, .ref q5, .ref q6, .ref q7, .ref q8, .ref q9, .ref q10])), (q7, .inr (8, [.ref q11, .ref q12, .ref q13, .int (zI (1))]))]) (st1 := [.int (zI (0))]) rfl rfl ?_
  refine vv_istore_n (loc1 := [(3, .int (zI (0))), (0, .ref q1), (1, .long (2 : Int64))]) C dX10_numberOf_8 rfl (by decide) rfl ?_
  refine vv_iload_n C 0 dX10_numberOf_9 rfl rfl ?_
  refine vv_if_ge (tgt := 24) C dX10_numberOf_10 (by decide) (by omega) (fun h => ?_) (fun h => by exfalso; omega)
  refine vv_iload_n C 0 dX10_numberOf_24 rfl rfl ?_
  exact vv_iret C (()) rfl [0, 1] rfl rfl ⟨Nat.le_of_ble_eq_true rfl, Nat.le_of_ble_eq_true rfl⟩ dX10_numberOf_25
set_option maxHeartbeats 4000000 in
set_option maxRecDepth 100000 in
theorem k71_X10_term (l : Launch) (hf : l.stackTraces = false) (G : vv_G) (q1 q2 q3 q4 q5 q6 q7 q8 q9 q10 q11 q12 q13 : Nat) (v14 : Int) (rv2 : -2147483648 ≤ v14 ∧ v14 < 2147483648) (v15 : Int) (rv3 : -2147483648 ≤ v15 ∧ v15 < 2147483648) : ∀ sz, Met l yX10_term (Cond.code yX10_term cX10_term 10 (some .int) :: gT) ({ frames := 2, cells := 0, slots := 0, locals := 46 } : Room) (va_Pc [.ref q1, .int (zI (1)), .int (zI (v14)), .int (zI (v15))] (vv_I G [(q1, .inr (9, [.ref q2, .ref q3, .ref q4, .ref q5, .ref q6, .ref q7, .ref q8, .ref q9, .ref q10])), (q7, .inr (8, [.ref q11, .ref q12, .ref q13, .int (zI (0))])), (q11, .inl (G.2.1 1, 60, .inr (.inl (fun _ => 0))))] sz)) (vv_Q G (fun v (u : Unit) => v = some (.int (zI (0)))) (fun u => [(q1, .inr (9, [.ref q2, .ref q3, .ref q4, .ref q5, .ref q6, .ref q7, .ref q8, .ref q9, .ref q10])), (q7, .inr (8, [.ref q11, .ref q12, .ref q13, .int (zI (1))]))]) (va_A [(q1, .inr (9, [.ref q2, .ref q3, .ref q4, .ref q5, .ref q6, .ref q7, .ref q8, .ref q9, .ref q10])), (q7, .inr (8, [.ref q11, .ref q12, .ref q13, .int (zI (0))])), (q11, .inl (G.2.1 1, 60, .inr (.inl (fun _ => 0))))] sz)) 0 0 (va_A [(q1, .inr (9, [.ref q2, .ref q3, .ref q4, .ref q5, .ref q6, .ref q7, .ref q8, .ref q9, .ref q10])), (q7, .inr (8, [.ref q11, .ref q12, .ref q13, .int (zI (0))])), (q11, .inl (G.2.1 1, 60, .inr (.inl (fun _ => 0))))] sz) := by
  refine vv_start hf (by decide) (Nat.le_of_ble_eq_true rfl) ?_
  intro p e s m below meth c A C hnm
  refine vv_iload_n C 1 dX10_term_0 rfl rfl ?_
  refine vv_if_lt (tgt := 14) C dX10_term_1 (by decide) (by omega) (fun h => by exfalso; omega) (fun h => ?_)
  refine vv_iload_n C 1 dX10_term_4 rfl rfl ?_
  refine vv_bipush (v := zI (6)) C dX10_term_5 (by decide) ?_
  refine vv_icmp_ge (tgt := 14) C dX10_term_7 (by decide) (by omega) (by omega) (fun h => by exfalso; omega) (fun h => ?_)
  refine vv_iconst (v := zI (1)) C dX10_term_10 rfl ?_
  refine vv_goto C 15 dX10_term_11 (by decide) ?_
  refine vv_istore (loc1 := [(4, .int (zI (1))), (0, .ref q1), (1, .int (zI (1))), (2, .int (zI (v14))), (3, .int (zI (v15)))]) C dX10_term_15 (by decide) rfl ?_
  refine vv_iload C 0 dX10_term_17 rfl ?_
  refine vv_if_eq (tgt := 32) C dX10_term_19 (by decide) (by omega) (fun h => by exfalso; omega) (fun h => ?_)
  refine vv_iload_n C 2 dX10_term_22 rfl rfl ?_
  refine vv_callS (As := [.int (zI (1))]) (rest := []) (wr := [(q1, .inr (9, [.ref q2, .ref q3, .ref q4, .ref q5, .ref q6, .ref q7, .ref q8, .ref q9, .ref q10])), (q7, .inr (8, [.ref q11, .ref q12, .ref q13, .int (zI (0))])), (q11, .inl (G.2.1 1, 60, .inr (.inl (fun _ => 0))))]) (ws2 := fun u => [(q1, .inr (9, [.ref q2, .ref q3, .ref q4, .ref q5, .ref q6, .ref q7, .ref q8, .ref q9, .ref q10])), (q7, .inr (8, [.ref q11, .ref q12, .ref q13, .int (zI (0))])), (q11, .inl (G.2.1 1, 60, .inr (.inl (fun _ => 0))))]) (isC := []) (isR := [0, 1, 2]) (isP := [0, 1, 2]) C (vv_cutI rfl rfl rfl rfl (by decide) (fun _ => rfl) rfl) (k65_X3_codeOfSign l hf G ) yy_X3_codeOfSign (vv_rmI rfl rfl (Nat.le_of_ble_eq_true rfl) (Nat.le_of_ble_eq_true rfl) (Nat.le_of_ble_eq_true rfl) (Nat.le_of_ble_eq_true rfl)) wm650 wm651 rfl rfl (Nat.le_of_ble_eq_true rfl) dX10_term_23 (fun v u hp => ?_)
  obtain rfl := hp
  refine vv_nrm (ws1 := [(q1, .inr (9, [.ref q2, .ref q3, .ref q4, .ref q5, .ref q6, .ref q7, .ref q8, .ref q9, .ref q10])), (q7, .inr (8, [.ref q11, .ref q12, .ref q13, .int (zI (0))])), (q11, .inl (G.2.1 1, 60, .inr (.inl (fun _ => 0))))]) (st1 := [.int (zI (2))]) rfl rfl ?_
  refine vv_callS (As := [.int (zI (2))]) (rest := []) (wr := [(q1, .inr (9, [.ref q2, .ref q3, .ref q4, .ref q5, .ref q6, .ref q7, .ref q8, .ref q9, .ref q10])), (q7, .inr (8, [.ref q11, .ref q12, .ref q13, .int (zI (0))])), (q11, .inl (G.2.1 1, 60, .inr (.inl (fun _ => 0))))]) (ws2 := fun u => [(q1, .inr (9, [.ref q2, .ref q3, .ref q4, .ref q5, .ref q6, .ref q7, .ref q8, .ref q9, .ref q10])), (q7, .inr (8, [.ref q11, .ref q12, .ref q13, .int (zI (0))])), (q11, .inl (G.2.1 1, 60, .inr (.inl (fun _ => 0))))]) (isC := []) (isR := [0, 1, 2]) (isP := [0, 1, 2]) C (vv_cutI rfl rfl rfl rfl (by decide) (fun _ => rfl) rfl) (k66_X3_partsOf l hf G ) yy_X3_partsOf (vv_rmI rfl rfl (Nat.le_of_ble_eq_true rfl) (Nat.le_of_ble_eq_true rfl) (Nat.le_of_ble_eq_true rfl) (Nat.le_of_ble_eq_true rfl)) wm653 wm409 rfl rfl (Nat.le_of_ble_eq_true rfl) dX10_term_26 (fun v u hp => ?_)
  obtain rfl := hp
  refine vv_nrm (ws1 := [(q1, .inr (9, [.ref q2, .ref q3, .ref q4, .ref q5, .ref q6, .ref q7, .ref q8, .ref q9, .ref q10])), (q7, .inr (8, [.ref q11, .ref q12, .ref q13, .int (zI (0))])), (q11, .inl (G.2.1 1, 60, .inr (.inl (fun _ => 0))))]) (st1 := [.int (zI (0))]) rfl rfl ?_
  refine vv_goto C 33 dX10_term_29 (by decide) ?_
  refine vv_istore (loc1 := [(5, .int (zI (0))), (4, .int (zI (1))), (0, .ref q1), (1, .int (zI (1))), (2, .int (zI (v14))), (3, .int (zI (v15)))]) C dX10_term_33 (by decide) rfl ?_
  refine vv_iload C 0 dX10_term_35 rfl ?_
  refine vv_iconst (v := zI (1)) C dX10_term_37 rfl ?_
  refine vv_icmp_lt (tgt := 46) C dX10_term_38 (by decide) (by omega) (by omega) (fun h => ?_) (fun h => by exfalso; omega)
  refine vv_iload C 0 dX10_term_46 rfl ?_
  refine vv_iconst (v := zI (2)) C dX10_term_48 rfl ?_
  refine vv_icmp_ne (tgt := 57) C dX10_term_49 (by decide) (by omega) (by omega) (fun h => ?_) (fun h => by exfalso; omega)
  refine vv_iload C 1 dX10_term_57 rfl ?_
  refine vv_if_ne (tgt := 72) C dX10_term_59 (by decide) (by omega) (fun h => ?_) (fun h => by exfalso; omega)
  refine vv_iload C 0 dX10_term_72 rfl ?_
  refine vv_iconst (v := zI (1)) C dX10_term_74 rfl ?_
  refine vv_icmp_lt (tgt := 90) C dX10_term_75 (by decide) (by omega) (by omega) (fun h => ?_) (fun h => by exfalso; omega)
  refine vv_lconst (v := (0 : Int64)) C dX10_term_90 rfl ?_
  refine vv_lstore (loc1 := [(6, .long (0 : Int64)), (5, .int (zI (0))), (4, .int (zI (1))), (0, .ref q1), (1, .int (zI (1))), (2, .int (zI (v14))), (3, .int (zI (v15)))]) C dX10_term_91 (by decide) rfl ?_
  refine vv_iload C 1 dX10_term_93 rfl ?_
  refine vv_iconst (v := zI (2)) C dX10_term_95 rfl ?_
  refine vv_icmp_ne (tgt := 111) C dX10_term_96 (by decide) (by omega) (by omega) (fun h => ?_) (fun h => by exfalso; omega)
  refine vv_lconst (v := (0 : Int64)) C dX10_term_111 rfl ?_
  refine vv_lstore (loc1 := [(8, .long (0 : Int64)), (6, .long (0 : Int64)), (5, .int (zI (0))), (4, .int (zI (1))), (0, .ref q1), (1, .int (zI (1))), (2, .int (zI (v14))), (3, .int (zI (v15)))]) C dX10_term_112 (by decide) rfl ?_
  refine vv_iconst (v := zI (1)) C dX10_term_114 rfl ?_
  refine vv_lload C 1 dX10_term_115 rfl ?_
  refine vv_callS (As := [.long (0 : Int64)]) (rest := [.int (zI (1))]) (wr := [(q1, .inr (9, [.ref q2, .ref q3, .ref q4, .ref q5, .ref q6, .ref q7, .ref q8, .ref q9, .ref q10])), (q7, .inr (8, [.ref q11, .ref q12, .ref q13, .int (zI (0))])), (q11, .inl (G.2.1 1, 60, .inr (.inl (fun _ => 0))))]) (ws2 := fun u => [(q1, .inr (9, [.ref q2, .ref q3, .ref q4, .ref q5, .ref q6, .ref q7, .ref q8, .ref q9, .ref q10])), (q7, .inr (8, [.ref q11, .ref q12, .ref q13, .int (zI (0))])), (q11, .inl (G.2.1 1, 60, .inr (.inl (fun _ => 0))))]) (isC := []) (isR := [0, 1, 2]) (isP := [0, 1, 2]) C (vv_cutI rfl rfl rfl rfl (by decide) (fun _ => rfl) rfl) (k51_X3_sizeOf l hf G ) yy_X3_sizeOf (vv_rmI rfl rfl (Nat.le_of_ble_eq_true rfl) (Nat.le_of_ble_eq_true rfl) (Nat.le_of_ble_eq_true rfl) (Nat.le_of_ble_eq_true rfl)) wm360 wm361 rfl rfl (Nat.le_of_ble_eq_true rfl) dX10_term_117 (fun v u hp => ?_)
  obtain rfl := hp
  refine vv_nrm (ws1 := [(q1, .inr (9, [.ref q2, .ref q3, .ref q4, .ref q5, .ref q6, .ref q7, .ref q8, .ref q9, .ref q10])), (q7, .inr (8, [.ref q11, .ref q12, .ref q13, .int (zI (0))])), (q11, .inl (G.2.1 1, 60, .inr (.inl (fun _ => 0))))]) (st1 := [.int (zI (0)), .int (zI (1))]) rfl rfl ?_
  refine vv_iadd (z := zI (1)) C dX10_term_120 (by rw [zI_add]; exact zI_c (by omega)) ?_
  refine vv_lload C 0 dX10_term_121 rfl ?_
  refine vv_callS (As := [.long (0 : Int64)]) (rest := [.int (zI (1))]) (wr := [(q1, .inr (9, [.ref q2, .ref q3, .ref q4, .ref q5, .ref q6, .ref q7, .ref q8, .ref q9, .ref q10])), (q7, .inr (8, [.ref q11, .ref q12, .ref q13, .int (zI (0))])), (q11, .inl (G.2.1 1, 60, .inr (.inl (fun _ => 0))))]) (ws2 := fun u => [(q1, .inr (9, [.ref q2, .ref q3, .ref q4, .ref q5, .ref q6, .ref q7, .ref q8, .ref q9, .ref q10])), (q7, .inr (8, [.ref q11, .ref q12, .ref q13, .int (zI (0))])), (q11, .inl (G.2.1 1, 60, .inr (.inl (fun _ => 0))))]) (isC := []) (isR := [0, 1, 2]) (isP := [0, 1, 2]) C (vv_cutI rfl rfl rfl rfl (by decide) (fun _ => rfl) rfl) (k51_X3_sizeOf l hf G ) yy_X3_sizeOf (vv_rmI rfl rfl (Nat.le_of_ble_eq_true rfl) (Nat.le_of_ble_eq_true rfl) (Nat.le_of_ble_eq_true rfl) (Nat.le_of_ble_eq_true rfl)) wm360 wm361 rfl rfl (Nat.le_of_ble_eq_true rfl) dX10_term_123 (fun v u hp => ?_)
  obtain rfl := hp
  refine vv_nrm (ws1 := [(q1, .inr (9, [.ref q2, .ref q3, .ref q4, .ref q5, .ref q6, .ref q7, .ref q8, .ref q9, .ref q10])), (q7, .inr (8, [.ref q11, .ref q12, .ref q13, .int (zI (0))])), (q11, .inl (G.2.1 1, 60, .inr (.inl (fun _ => 0))))]) (st1 := [.int (zI (0)), .int (zI (1))]) rfl rfl ?_
  refine vv_iadd (z := zI (1)) C dX10_term_126 (by rw [zI_add]; exact zI_c (by omega)) ?_
  refine vv_bipush (v := zI (12)) C dX10_term_127 (by decide) ?_
  refine vv_icmp_le (tgt := 142) C dX10_term_129 (by decide) (by omega) (by omega) (fun h => ?_) (fun h => by exfalso; omega)
  refine vv_aload_n C 4 dX10_term_142 rfl rfl ?_
  refine vv_iload_n C 5 dX10_term_143 rfl rfl ?_
  refine vv_callS (As := [.int (zI (1))]) (rest := [.ref q1]) (wr := [(q1, .inr (9, [.ref q2, .ref q3, .ref q4, .ref q5, .ref q6, .ref q7, .ref q8, .ref q9, .ref q10])), (q7, .inr (8, [.ref q11, .ref q12, .ref q13, .int (zI (0))])), (q11, .inl (G.2.1 1, 60, .inr (.inl (fun _ => 0))))]) (ws2 := fun u => [(q1, .inr (9, [.ref q2, .ref q3, .ref q4, .ref q5, .ref q6, .ref q7, .ref q8, .ref q9, .ref q10])), (q7, .inr (8, [.ref q11, .ref q12, .ref q13, .int (zI (0))])), (q11, .inl (G.2.1 1, 60, .inr (.inl (fun _ => 0))))]) (isC := []) (isR := [0, 1, 2]) (isP := [0, 1, 2]) C (vv_cutI rfl rfl rfl rfl (by decide) (fun _ => rfl) rfl) (k65_X3_codeOfSign l hf G ) yy_X3_codeOfSign (vv_rmI rfl rfl (Nat.le_of_ble_eq_true rfl) (Nat.le_of_ble_eq_true rfl) (Nat.le_of_ble_eq_true rfl) (Nat.le_of_ble_eq_true rfl)) wm650 wm651 rfl rfl (Nat.le_of_ble_eq_true rfl) dX10_term_144 (fun v u hp => ?_)
  obtain rfl := hp
  refine vv_nrm (ws1 := [(q1, .inr (9, [.ref q2, .ref q3, .ref q4, .ref q5, .ref q6, .ref q7, .ref q8, .ref q9, .ref q10])), (q7, .inr (8, [.ref q11, .ref q12, .ref q13, .int (zI (0))])), (q11, .inl (G.2.1 1, 60, .inr (.inl (fun _ => 0))))]) (st1 := [.int (zI (2)), .ref q1]) rfl rfl ?_
  refine vv_i2l (z := (2 : Int64)) C dX10_term_147 (by decide +kernel) ?_
  refine vv_lload C 1 dX10_term_148 rfl ?_
  refine vv_callS (As := [.long (2 : Int64), .long (0 : Int64)]) (rest := [.ref q1]) (wr := [(q1, .inr (9, [.ref q2, .ref q3, .ref q4, .ref q5, .ref q6, .ref q7, .ref q8, .ref q9, .ref q10])), (q7, .inr (8, [.ref q11, .ref q12, .ref q13, .int (zI (0))])), (q11, .inl (G.2.1 1, 60, .inr (.inl (fun _ => 0))))]) (ws2 := fun u => [(q1, .inr (9, [.ref q2, .ref q3, .ref q4, .ref q5, .ref q6, .ref q7, .ref q8, .ref q9, .ref q10])), (q7, .inr (8, [.ref q11, .ref q12, .ref q13, .int (zI (0))])), (q11, .inl (G.2.1 1, 60, .inr (.inl (fun _ => 0))))]) (isC := []) (isR := [0, 1, 2]) (isP := [0, 1, 2]) C (vv_cutI rfl rfl rfl rfl (by decide) (fun _ => rfl) rfl) (k68_X3_joined l hf G ) yy_X3_joined (vv_rmI rfl rfl (Nat.le_of_ble_eq_true rfl) (Nat.le_of_ble_eq_true rfl) (Nat.le_of_ble_eq_true rfl) (Nat.le_of_ble_eq_true rfl)) wm676 wm419 rfl rfl (Nat.le_of_ble_eq_true rfl) dX10_term_150 (fun v u hp => ?_)
  obtain rfl := hp
  refine vv_nrm (ws1 := [(q1, .inr (9, [.ref q2, .ref q3, .ref q4, .ref q5, .ref q6, .ref q7, .ref q8, .ref q9, .ref q10])), (q7, .inr (8, [.ref q11, .ref q12, .ref q13, .int (zI (0))])), (q11, .inl (G.2.1 1, 60, .inr (.inl (fun _ => 0))))]) (st1 := [.long (2 : Int64), .ref q1]) rfl rfl ?_
  refine vv_lload C 0 dX10_term_153 rfl ?_
  refine vv_callS (As := [.long (2 : Int64), .long (0 : Int64)]) (rest := [.ref q1]) (wr := [(q1, .inr (9, [.ref q2, .ref q3, .ref q4, .ref q5, .ref q6, .ref q7, .ref q8, .ref q9, .ref q10])), (q7, .inr (8, [.ref q11, .ref q12, .ref q13, .int (zI (0))])), (q11, .inl (G.2.1 1, 60, .inr (.inl (fun _ => 0))))]) (ws2 := fun u => [(q1, .inr (9, [.ref q2, .ref q3, .ref q4, .ref q5, .ref q6, .ref q7, .ref q8, .ref q9, .ref q10])), (q7, .inr (8, [.ref q11, .ref q12, .ref q13, .int (zI (0))])), (q11, .inl (G.2.1 1, 60, .inr (.inl (fun _ => 0))))]) (isC := []) (isR := [0, 1, 2]) (isP := [0, 1, 2]) C (vv_cutI rfl rfl rfl rfl (by decide) (fun _ => rfl) rfl) (k68_X3_joined l hf G ) yy_X3_joined (vv_rmI rfl rfl (Nat.le_of_ble_eq_true rfl) (Nat.le_of_ble_eq_true rfl) (Nat.le_of_ble_eq_true rfl) (Nat.le_of_ble_eq_true rfl)) wm676 wm419 rfl rfl (Nat.le_of_ble_eq_true rfl) dX10_term_155 (fun v u hp => ?_)
  obtain rfl := hp
  refine vv_nrm (ws1 := [(q1, .inr (9, [.ref q2, .ref q3, .ref q4, .ref q5, .ref q6, .ref q7, .ref q8, .ref q9, .ref q10])), (q7, .inr (8, [.ref q11, .ref q12, .ref q13, .int (zI (0))])), (q11, .inl (G.2.1 1, 60, .inr (.inl (fun _ => 0))))]) (st1 := [.long (2 : Int64), .ref q1]) rfl rfl ?_
  refine vv_callV (As := [.long (2 : Int64)]) (rest := []) (wr := []) (ws2 := fun u => [(q1, .inr (9, [.ref q2, .ref q3, .ref q4, .ref q5, .ref q6, .ref q7, .ref q8, .ref q9, .ref q10])), (q7, .inr (8, [.ref q11, .ref q12, .ref q13, .int (zI (1))]))]) (isC := [0, 1, 2]) (isR := []) (isP := [0, 1]) C (vv_cutI rfl rfl rfl rfl (by decide) (fun _ => rfl) rfl) (k70_X10_numberOf l hf G q1 q2 q3 q4 q5 q6 q7 q8 q9 q10 q11 q12 q13) yy_X10_numberOf (vv_rmI rfl rfl (Nat.le_of_ble_eq_true rfl) (Nat.le_of_ble_eq_true rfl) (Nat.le_of_ble_eq_true rfl) (Nat.le_of_ble_eq_true rfl)) wm618 wm620 ws_selects_Latticework_Latticework_numberOf__J_I_Latticework_numberOf__J_I 0 rfl rfl rfl rfl (Nat.le_of_ble_eq_true rfl) dX10_term_158 (fun v u hp => ?_)
  obtain rfl := hp
  refine vv_nrm (ws1 := [(q1, .inr (9, [.ref q2, .ref q3, .ref q4, .ref q5, .ref q6, .ref q7, .ref q8, .ref q9, .ref q10])), (q7, .inr (8, [.ref q11, .ref q12, .ref q13, .int (zI (1))]))]) (st1 := [.int (zI (0))]) rfl rfl ?_
  exact vv_iret C (()) rfl [0, 1] rfl rfl ⟨Nat.le_of_ble_eq_true rfl, Nat.le_of_ble_eq_true rfl⟩ dX10_term_161
set_option maxHeartbeats 4000000 in
set_option maxRecDepth 100000 in
theorem k72_L_term (l : Launch) (hf : l.stackTraces = false) (G : vv_G) (q1 q2 q3 q4 q5 q6 q7 q8 q9 q10 q11 q12 q13 q14 : Nat) (v15 : Int) (rv2 : -2147483648 ≤ v15 ∧ v15 < 2147483648) (v16 : Int) (rv3 : -2147483648 ≤ v16 ∧ v16 < 2147483648) : ∀ sz, Met l yL_term (Cond.codeWith yL_term cL_term 6 (some .int) [(0, 12, 15, 21), (0, 12, 19, 13), (0, 12, 23, 15)] :: gT) ({ frames := 3, cells := 0, slots := 0, locals := 75 } : Room) (va_Pc [.ref q1, .int (zI (1)), .int (zI (v15)), .int (zI (v16)), .ref q14] (vv_I G [(q1, .inr (9, [.ref q2, .ref q3, .ref q4, .ref q5, .ref q6, .ref q7, .ref q8, .ref q9, .ref q10])), (q7, .inr (8, [.ref q11, .ref q12, .ref q13, .int (zI (0))])), (q11, .inl (G.2.1 1, 60, .inr (.inl (fun _ => 0)))), (q14, .inl (G.2.1 1, 1, .inr (.inl (fun _ => 0))))] sz)) (vv_Q G (fun v (u : Unit) => v = some (.int (zI (0)))) (fun u => [(q1, .inr (9, [.ref q2, .ref q3, .ref q4, .ref q5, .ref q6, .ref q7, .ref q8, .ref q9, .ref q10])), (q7, .inr (8, [.ref q11, .ref q12, .ref q13, .int (zI (1))])), (q14, .inl (G.2.1 1, 1, .inr (.inl (vp_updL (fun _ => 0) 0 (0 : Int64)))))]) (va_A [(q1, .inr (9, [.ref q2, .ref q3, .ref q4, .ref q5, .ref q6, .ref q7, .ref q8, .ref q9, .ref q10])), (q7, .inr (8, [.ref q11, .ref q12, .ref q13, .int (zI (0))])), (q11, .inl (G.2.1 1, 60, .inr (.inl (fun _ => 0)))), (q14, .inl (G.2.1 1, 1, .inr (.inl (fun _ => 0))))] sz)) 0 0 (va_A [(q1, .inr (9, [.ref q2, .ref q3, .ref q4, .ref q5, .ref q6, .ref q7, .ref q8, .ref q9, .ref q10])), (q7, .inr (8, [.ref q11, .ref q12, .ref q13, .int (zI (0))])), (q11, .inl (G.2.1 1, 60, .inr (.inl (fun _ => 0)))), (q14, .inl (G.2.1 1, 1, .inr (.inl (fun _ => 0))))] sz) := by
  refine vv_startW hf (by decide) (Nat.le_of_ble_eq_true rfl) ?_
  intro p e s m below meth c A C hnm htab
  refine vv_aload C 4 dL_term_0 rfl ?_
  refine vv_iconst (v := zI (0)) C dL_term_2 rfl ?_
  refine vv_aload_n C 0 dL_term_3 rfl rfl ?_
  refine vv_iload_n C 1 dL_term_4 rfl rfl ?_
  refine vv_iload_n C 2 dL_term_5 rfl rfl ?_
  refine vv_iload_n C 3 dL_term_6 rfl rfl ?_
  refine vv_callV (As := [.int (zI (1)), .int (zI (v15)), .int (zI (v16))]) (rest := [.int (zI (0)), .ref q14]) (wr := [(q14, .inl (G.2.1 1, 1, .inr (.inl (fun _ => 0))))]) (ws2 := fun u => [(q1, .inr (9, [.ref q2, .ref q3, .ref q4, .ref q5, .ref q6, .ref q7, .ref q8, .ref q9, .ref q10])), (q7, .inr (8, [.ref q11, .ref q12, .ref q13, .int (zI (1))])), (q14, .inl (G.2.1 1, 1, .inr (.inl (fun _ => 0))))]) (isC := [0, 1, 2]) (isR := [3]) (isP := [1, 2, 0]) C (vv_cutI rfl rfl rfl rfl (by decide) (fun _ => rfl) rfl) (k71_X10_term l hf G q1 q2 q3 q4 q5 q6 q7 q8 q9 q10 q11 q12 q13 (v15) rv2 (v16) rv3) yy_X10_term (vv_rmI rfl rfl (Nat.le_of_ble_eq_true rfl) (Nat.le_of_ble_eq_true rfl) (Nat.le_of_ble_eq_true rfl) (Nat.le_of_ble_eq_true rfl)) wm646 wm647 wm648 0 rfl rfl rfl rfl (Nat.le_of_ble_eq_true rfl) dL_term_7 (fun v u hp => ?_)
  obtain rfl := hp
  refine vv_nrm (ws1 := [(q1, .inr (9, [.ref q2, .ref q3, .ref q4, .ref q5, .ref q6, .ref q7, .ref q8, .ref q9, .ref q10])), (q7, .inr (8, [.ref q11, .ref q12, .ref q13, .int (zI (1))])), (q14, .inl (G.2.1 1, 1, .inr (.inl (fun _ => 0))))]) (st1 := [.int (zI (0)), .int (zI (0)), .ref q14]) rfl rfl ?_
  refine vv_i2l (z := (0 : Int64)) C dL_term_10 (by decide +kernel) ?_
  refine vv_last1 (ws1 := [(q1, .inr (9, [.ref q2, .ref q3, .ref q4, .ref q5, .ref q6, .ref q7, .ref q8, .ref q9, .ref q10])), (q7, .inr (8, [.ref q11, .ref q12, .ref q13, .int (zI (1))])), (q14, .inl (G.2.1 1, 1, .inr (.inl (vp_updL (fun _ => 0) 0 (0 : Int64)))))]) C 2 1 rfl rfl 0 rfl (by decide) (by decide) rfl dL_term_11 ?_
  refine vv_goto C 27 dL_term_12 (by decide) ?_
  refine vv_iconst (v := zI (0)) C dL_term_27 rfl ?_
  exact vv_iret C (()) rfl [0, 1, 2] rfl rfl ⟨Nat.le_of_ble_eq_true rfl, Nat.le_of_ble_eq_true rfl⟩ dL_term_28
set_option maxHeartbeats 4000000 in
set_option maxRecDepth 100000 in
theorem k73_X13_is (l : Launch) (hf : l.stackTraces = false) (G : vv_G)  : ∀ sz, Met l yX13_is (Cond.code yX13_is cX13_is 3 (some .boolean) :: gT) ({ frames := 0, cells := 0, slots := 0, locals := 0 } : Room) (va_Pc [.int (zI (1)), .int (zI (0)), .int (zI (5))] (vv_I G [] sz)) (vv_Q G (fun v (u : Unit) => v = some (.int (zI (1)))) (fun u => []) (va_A [] sz)) 0 0 (va_A [] sz) := by
  refine vv_start hf (by decide) (Nat.le_of_ble_eq_true rfl) ?_
  intro p e s m below meth c A C hnm
  refine vv_iload_n C 0 dX13_is_0 rfl rfl ?_
  refine vv_iload_n C 1 dX13_is_1 rfl rfl ?_
  refine vv_icmp_lt (tgt := 14) C dX13_is_2 (by decide) (by omega) (by omega) (fun h => by exfalso; omega) (fun h => ?_)
  refine vv_iload_n C 0 dX13_is_5 rfl rfl ?_
  refine vv_iload_n C 2 dX13_is_6 rfl rfl ?_
  refine vv_icmp_gt (tgt := 14) C dX13_is_7 (by decide) (by omega) (by omega) (fun h => by exfalso; omega) (fun h => ?_)
  refine vv_iconst (v := zI (1)) C dX13_is_10 rfl ?_
  refine vv_goto C 15 dX13_is_11 (by decide) ?_
  exact vv_zret C (by decide) (()) rfl [] rfl rfl ⟨Nat.le_of_ble_eq_true rfl, Nat.le_of_ble_eq_true rfl⟩ dX13_is_15
set_option maxHeartbeats 4000000 in
set_option maxRecDepth 100000 in
theorem k74_X13_parts (l : Launch) (hf : l.stackTraces = false) (G : vv_G)  : ∀ sz, Met l yX13_parts (Cond.code yX13_parts cX13_parts 1 (some .int) :: gT) ({ frames := 0, cells := 0, slots := 0, locals := 0 } : Room) (va_Pc [.int (zI (1))] (vv_I G [] sz)) (vv_Q G (fun v (u : Unit) => v = some (.int (zI (0)))) (fun u => []) (va_A [] sz)) 0 0 (va_A [] sz) := by
  refine vv_start hf (by decide) (Nat.le_of_ble_eq_true rfl) ?_
  intro p e s m below meth c A C hnm
  refine vv_iload_n C 0 dX13_parts_0 rfl rfl ?_
  refine vv_iconst (v := zI (2)) C dX13_parts_1 rfl ?_
  refine vv_icmp_lt (tgt := 10) C dX13_parts_2 (by decide) (by omega) (by omega) (fun h => ?_) (fun h => by exfalso; omega)
  refine vv_iconst (v := zI (0)) C dX13_parts_10 rfl ?_
  refine vv_goto C 24 dX13_parts_11 (by decide) ?_
  exact vv_iret C (()) rfl [] rfl rfl ⟨Nat.le_of_ble_eq_true rfl, Nat.le_of_ble_eq_true rfl⟩ dX13_parts_24
set_option maxHeartbeats 4000000 in
set_option maxRecDepth 100000 in
theorem k75_Jx4a65c_add_72be8 (l : Launch) (hf : l.stackTraces = false) (G : vv_G) (q1 q2 : Nat) : ∀ sz, Met l yJx4a65c_add_72be8 (Cond.code yJx4a65c_add_72be8 cJx4a65c_add_72be8 4 none :: gT) ({ frames := 3, cells := 1, slots := 10, locals := 73 } : Room) (va_Pc [.ref q1, .ref q2, .ref (G.2.2 0), .int (zI (0))] (vv_I G [(q1, .inr (13, [.int (zI (1)), .ref (G.2.2 0), .int (zI (0))])), (q2, .inl (G.2.1 0, 1, .inl (va_cpy (fun _ => 0) (va_cpy (fun _ => 0) (upd (fun _ => 0) 0 (zI (1))) 0 1 0) 0 1 0)))] sz)) (vv_Q G (fun v (u : Nat) => v = none) (fun u => [(q1, .inr (13, [.int (zI (1)), .ref u, .int (zI (1))]))]) (va_A [(q1, .inr (13, [.int (zI (1)), .ref (G.2.2 0), .int (zI (0))])), (q2, .inl (G.2.1 0, 1, .inl (va_cpy (fun _ => 0) (va_cpy (fun _ => 0) (upd (fun _ => 0) 0 (zI (1))) 0 1 0) 0 1 0)))] sz)) 1 10 (va_A [(q1, .inr (13, [.int (zI (1)), .ref (G.2.2 0), .int (zI (0))])), (q2, .inl (G.2.1 0, 1, .inl (va_cpy (fun _ => 0) (va_cpy (fun _ => 0) (upd (fun _ => 0) 0 (zI (1))) 0 1 0) 0 1 0)))] sz) := by
  refine vv_start hf (by decide) (Nat.le_of_ble_eq_true rfl) ?_
  intro p e s m below meth c A C hnm
  refine vv_iload_n C 3 dJx4a65c_add_72be8_0 rfl rfl ?_
  refine vv_aload_n C 2 dJx4a65c_add_72be8_1 rfl rfl ?_
  refine vv_tlen (v := zI (0)) C (C.xT) rfl dJx4a65c_add_72be8_2 ?_
  refine vv_icmp_ne (tgt := 11) C dJx4a65c_add_72be8_3 (by decide) (by omega) (by omega) (fun h => by exfalso; omega) (fun h => ?_)
  refine vv_aload_n C 0 dJx4a65c_add_72be8_6 rfl rfl ?_
  refine vv_callV (As := []) (rest := []) (wr := [(q2, .inl (G.2.1 0, 1, .inl (va_cpy (fun _ => 0) (va_cpy (fun _ => 0) (upd (fun _ => 0) 0 (zI (1))) 0 1 0) 0 1 0)))]) (ws2 := fun u => [(q1, .inr (13, [.int (zI (1)), .ref u, .int (zI (0))])), (q2, .inl (G.2.1 0, 1, .inl (va_cpy (fun _ => 0) (va_cpy (fun _ => 0) (upd (fun _ => 0) 0 (zI (1))) 0 1 0) 0 1 0))), (u, .inl (G.2.1 4, 10, .inr (.inr (.inr (.inr (fun _ => none))))))]) (isC := [0]) (isR := [1]) (isP := [1, 0, 2]) C (vv_cutI rfl rfl rfl rfl (by decide) (fun _ => rfl) rfl) (k31_Jx4a65c_grow_d5877 l hf G q1) yy_Jx4a65c_grow_d5877 (vv_rmI rfl rfl (Nat.le_of_ble_eq_true rfl) (Nat.le_of_ble_eq_true rfl) (Nat.le_of_ble_eq_true rfl) (Nat.le_of_ble_eq_true rfl)) wm1306 wm1308 ws_selects_java_util_ArrayList_java_util_ArrayList_grow__Ljava_lang_Object__java_util_ArrayList_grow__Ljava_lang_Object_ 0 rfl rfl rfl rfl (Nat.le_of_ble_eq_true rfl) dJx4a65c_add_72be8_7 (fun v u hp => ?_)
  obtain rfl := hp
  obtain ⟨q3, rfl⟩ : ∃ z, z = u := ⟨_, rfl⟩
  refine vv_nrm (ws1 := [(q1, .inr (13, [.int (zI (1)), .ref q3, .int (zI (0))])), (q2, .inl (G.2.1 0, 1, .inl (va_cpy (fun _ => 0) (va_cpy (fun _ => 0) (upd (fun _ => 0) 0 (zI (1))) 0 1 0) 0 1 0))), (q3, .inl (G.2.1 4, 10, .inr (.inr (.inr (.inr (fun _ => none))))))]) (st1 := [.ref q3]) rfl rfl ?_
  refine vv_astore_n (loc1 := [(2, .ref q3), (0, .ref q1), (1, .ref q2), (3, .int (zI (0)))]) C dJx4a65c_add_72be8_10 rfl (by decide) rfl ?_
  refine vv_aload_n C 0 dJx4a65c_add_72be8_11 rfl rfl ?_
  refine vv_iload_n C 3 dJx4a65c_add_72be8_12 rfl rfl ?_
  refine vv_aload_n C 2 dJx4a65c_add_72be8_13 rfl rfl ?_
  refine vv_aastA (ws1 := [(q1, .inr (13, [.int (zI (1)), .ref q3, .int (zI (0))])), (q2, .inl (G.2.1 0, 1, .inl (va_cpy (fun _ => 0) (va_cpy (fun _ => 0) (upd (fun _ => 0) 0 (zI (1))) 0 1 0) 0 1 0))), (q3, .inl (G.2.1 4, 10, .inr (.inr (.inr (.inr (va_up (fun _ => none) 0 (some q2)))))))]) C 2 4 1 0 rfl rfl rfl rfl (by decide +kernel) 0 rfl (by decide) (by decide) rfl dJx4a65c_add_72be8_14 ?_
  generalize (va_up (fun _ => none) 0 (some q2) : Nat → Option Nat) = f35r
  refine vv_aload_n C 1 dJx4a65c_add_72be8_15 rfl rfl ?_
  refine vv_iload_n C 3 dJx4a65c_add_72be8_16 rfl rfl ?_
  refine vv_iconst (v := zI (1)) C dJx4a65c_add_72be8_17 rfl ?_
  refine vv_iadd (z := zI (1)) C dJx4a65c_add_72be8_18 (by rw [zI_add]; exact zI_c (by omega)) ?_
  refine vv_put (ws1 := [(q1, .inr (13, [.int (zI (1)), .ref q3, .int (zI (1))])), (q2, .inl (G.2.1 0, 1, .inl (va_cpy (fun _ => 0) (va_cpy (fun _ => 0) (upd (fun _ => 0) 0 (zI (1))) 0 1 0) 0 1 0))), (q3, .inl (G.2.1 4, 10, .inr (.inr (.inr (.inr (f35r))))))]) C 0 rfl rfl vi_Jx4a65c tyJx4a65c_ok nmJx4a65c 2 (by decide) wm1084 rfl rfl rfl (Nat.le_of_ble_eq_true rfl) rfl dJx4a65c_add_72be8_19 ?_
  exact vv_vret C (q3) rfl [0] rfl rfl ⟨Nat.le_of_ble_eq_true rfl, Nat.le_of_ble_eq_true rfl⟩ dJx4a65c_add_72be8_22
set_option maxHeartbeats 4000000 in
set_option maxRecDepth 100000 in
theorem k76_Jx4a65c_add_9ea2d (l : Launch) (hf : l.stackTraces = false) (G : vv_G) (q1 q2 : Nat) : ∀ sz, Met l yJx4a65c_add_9ea2d (Cond.code yJx4a65c_add_9ea2d cJx4a65c_add_9ea2d 2 (some .boolean) :: gT) ({ frames := 4, cells := 1, slots := 10, locals := 96 } : Room) (va_Pc [.ref q1, .ref q2] (vv_I G [(q1, .inr (13, [.int (zI (0)), .ref (G.2.2 0), .int (zI (0))])), (q2, .inl (G.2.1 0, 1, .inl (va_cpy (fun _ => 0) (va_cpy (fun _ => 0) (upd (fun _ => 0) 0 (zI (1))) 0 1 0) 0 1 0)))] sz)) (vv_Q G (fun v (u : Nat) => v = some (.int (zI (1)))) (fun u => [(q1, .inr (13, [.int (zI (1)), .ref u, .int (zI (1))]))]) (va_A [(q1, .inr (13, [.int (zI (0)), .ref (G.2.2 0), .int (zI (0))])), (q2, .inl (G.2.1 0, 1, .inl (va_cpy (fun _ => 0) (va_cpy (fun _ => 0) (upd (fun _ => 0) 0 (zI (1))) 0 1 0) 0 1 0)))] sz)) 1 10 (va_A [(q1, .inr (13, [.int (zI (0)), .ref (G.2.2 0), .int (zI (0))])), (q2, .inl (G.2.1 0, 1, .inl (va_cpy (fun _ => 0) (va_cpy (fun _ => 0) (upd (fun _ => 0) 0 (zI (1))) 0 1 0) 0 1 0)))] sz) := by
  refine vv_start hf (by decide) (Nat.le_of_ble_eq_true rfl) ?_
  intro p e s m below meth c A C hnm
  refine vv_aload_n C 0 dJx4a65c_add_9ea2d_0 rfl rfl ?_
  refine vv_dup C dJx4a65c_add_9ea2d_1 rfl ?_
  refine vv_getS C 0 rfl rfl vi_Jx4a65c 0 (by decide) wm1088 wm1087 rfl dJx4a65c_add_9ea2d_2 ?_
  refine vv_iconst (v := zI (1)) C dJx4a65c_add_9ea2d_5 rfl ?_
  refine vv_iadd (z := zI (1)) C dJx4a65c_add_9ea2d_6 (by rw [zI_add]; exact zI_c (by omega)) ?_
  refine vv_putS (ws1 := [(q1, .inr (13, [.int (zI (1)), .ref (G.2.2 0), .int (zI (0))])), (q2, .inl (G.2.1 0, 1, .inl (va_cpy (fun _ => 0) (va_cpy (fun _ => 0) (upd (fun _ => 0) 0 (zI (1))) 0 1 0) 0 1 0)))]) C 0 rfl rfl vi_Jx4a65c tyJx4a65c_ok nmJx4a65c 0 (by decide) wm1088 wm1087 rfl rfl rfl (Nat.le_of_ble_eq_true rfl) rfl dJx4a65c_add_9ea2d_7 ?_
  refine vv_aload_n C 0 dJx4a65c_add_9ea2d_10 rfl rfl ?_
  refine vv_aload_n C 1 dJx4a65c_add_9ea2d_11 rfl rfl ?_
  refine vv_aload_n C 0 dJx4a65c_add_9ea2d_12 rfl rfl ?_
  refine vv_get C 0 rfl rfl vi_Jx4a65c 1 (by decide) wm1081 rfl dJx4a65c_add_9ea2d_13 ?_
  refine vv_aload_n C 0 dJx4a65c_add_9ea2d_16 rfl rfl ?_
  refine vv_get C 0 rfl rfl vi_Jx4a65c 2 (by decide) wm1084 rfl dJx4a65c_add_9ea2d_17 ?_
  refine vv_callV (As := [.ref q2, .ref (G.2.2 0), .int (zI (0))]) (rest := []) (wr := []) (ws2 := fun u => [(q1, .inr (13, [.int (zI (1)), .ref u, .int (zI (1))]))]) (isC := [0, 1]) (isR := []) (isP := [0]) C (vv_cutI rfl rfl rfl rfl (by decide) (fun _ => rfl) rfl) (k75_Jx4a65c_add_72be8 l hf G q1 q2) yy_Jx4a65c_add_72be8 (vv_rmI rfl rfl (Nat.le_of_ble_eq_true rfl) (Nat.le_of_ble_eq_true rfl) (Nat.le_of_ble_eq_true rfl) (Nat.le_of_ble_eq_true rfl)) wm1302 wm1304 ws_selects_java_util_ArrayList_java_util_ArrayList_add__Ljava_lang_Object_Ljava_lang_Object_I_V_java_util_ArrayList_add__Ljava_lang_Object_Ljava_lang_Object_I_V 0 rfl rfl rfl rfl (Nat.le_of_ble_eq_true rfl) dJx4a65c_add_9ea2d_20 (fun v u hp => ?_)
  obtain rfl := hp
  obtain ⟨q3, rfl⟩ : ∃ z, z = u := ⟨_, rfl⟩
  refine vv_nrm (ws1 := [(q1, .inr (13, [.int (zI (1)), .ref q3, .int (zI (1))]))]) (st1 := []) rfl rfl ?_
  refine vv_iconst (v := zI (1)) C dJx4a65c_add_9ea2d_23 rfl ?_
  exact vv_zret C (by decide) (q3) rfl [0] rfl rfl ⟨Nat.le_of_ble_eq_true rfl, Nat.le_of_ble_eq_true rfl⟩ dJx4a65c_add_9ea2d_24
set_option maxHeartbeats 4000000 in
set_option maxRecDepth 100000 in
theorem k77_X13_number (l : Launch) (hf : l.stackTraces = false) (G : vv_G) (q1 q2 q3 q4 q5 q6 q7 q8 : Nat) : ∀ sz, Met l yX13_number (Cond.code yX13_number cX13_number 3 (some .int) :: gT) ({ frames := 5, cells := 1, slots := 10, locals := 117 } : Room) (va_Pc [.ref q1, .ref q8] (vv_I G [(q1, .inr (12, [.int (zI (0)), .ref q2, .ref q3, .ref q4, .ref q5, .ref q6, .ref q7, .long (0 : Int64)])), (q2, .inr (13, [.int (zI (0)), .ref (G.2.2 0), .int (zI (0))])), (q8, .inl (G.2.1 0, 1, .inl (va_cpy (fun _ => 0) (va_cpy (fun _ => 0) (upd (fun _ => 0) 0 (zI (1))) 0 1 0) 0 1 0)))] sz)) (vv_Q G (fun v (u : Nat) => v = some (.int (zI (0)))) (fun u => [(q1, .inr (12, [.int (zI (0)), .ref q2, .ref q3, .ref q4, .ref q5, .ref q6, .ref q7, .long (0 : Int64)])), (q2, .inr (13, [.int (zI (1)), .ref u, .int (zI (1))]))]) (va_A [(q1, .inr (12, [.int (zI (0)), .ref q2, .ref q3, .ref q4, .ref q5, .ref q6, .ref q7, .long (0 : Int64)])), (q2, .inr (13, [.int (zI (0)), .ref (G.2.2 0), .int (zI (0))])), (q8, .inl (G.2.1 0, 1, .inl (va_cpy (fun _ => 0) (va_cpy (fun _ => 0) (upd (fun _ => 0) 0 (zI (1))) 0 1 0) 0 1 0)))] sz)) 1 10 (va_A [(q1, .inr (12, [.int (zI (0)), .ref q2, .ref q3, .ref q4, .ref q5, .ref q6, .ref q7, .long (0 : Int64)])), (q2, .inr (13, [.int (zI (0)), .ref (G.2.2 0), .int (zI (0))])), (q8, .inl (G.2.1 0, 1, .inl (va_cpy (fun _ => 0) (va_cpy (fun _ => 0) (upd (fun _ => 0) 0 (zI (1))) 0 1 0) 0 1 0)))] sz) := by
  refine vv_start hf (by decide) (Nat.le_of_ble_eq_true rfl) ?_
  intro p e s m below meth c A C hnm
  refine vv_iconst (v := zI (0)) C dX13_number_0 rfl ?_
  refine vv_istore_n (loc1 := [(2, .int (zI (0))), (0, .ref q1), (1, .ref q8)]) C dX13_number_1 rfl (by decide) rfl ?_
  refine vv_iload_n C 0 dX13_number_2 rfl rfl ?_
  refine vv_aload_n C 1 dX13_number_3 rfl rfl ?_
  refine vv_get C 0 rfl rfl vi_X13 1 (by decide) wm1128 rfl dX13_number_4 ?_
  refine vv_callV (As := []) (rest := [.int (zI (0))]) (wr := [(q1, .inr (12, [.int (zI (0)), .ref q2, .ref q3, .ref q4, .ref q5, .ref q6, .ref q7, .long (0 : Int64)])), (q8, .inl (G.2.1 0, 1, .inl (va_cpy (fun _ => 0) (va_cpy (fun _ => 0) (upd (fun _ => 0) 0 (zI (1))) 0 1 0) 0 1 0)))]) (ws2 := fun u => [(q1, .inr (12, [.int (zI (0)), .ref q2, .ref q3, .ref q4, .ref q5, .ref q6, .ref q7, .long (0 : Int64)])), (q2, .inr (13, [.int (zI (0)), .ref (G.2.2 0), .int (zI (0))])), (q8, .inl (G.2.1 0, 1, .inl (va_cpy (fun _ => 0) (va_cpy (fun _ => 0) (upd (fun _ => 0) 0 (zI (1))) 0 1 0) 0 1 0)))]) (isC := [1]) (isR := [0, 2]) (isP := [0, 2, 1]) C (vv_cutI rfl rfl rfl rfl (by decide) (fun _ => rfl) rfl) (k29_Jx4a65c_size_8abf5 l hf G q2) yy_Jx4a65c_size_8abf5 (vv_rmI rfl rfl (Nat.le_of_ble_eq_true rfl) (Nat.le_of_ble_eq_true rfl) (Nat.le_of_ble_eq_true rfl) (Nat.le_of_ble_eq_true rfl)) wm1175 wm1176 wm1177 0 rfl rfl rfl rfl (Nat.le_of_ble_eq_true rfl) dX13_number_7 (fun v u hp => ?_)
  obtain rfl := hp
  refine vv_nrm (ws1 := [(q1, .inr (12, [.int (zI (0)), .ref q2, .ref q3, .ref q4, .ref q5, .ref q6, .ref q7, .long (0 : Int64)])), (q2, .inr (13, [.int (zI (0)), .ref (G.2.2 0), .int (zI (0))])), (q8, .inl (G.2.1 0, 1, .inl (va_cpy (fun _ => 0) (va_cpy (fun _ => 0) (upd (fun _ => 0) 0 (zI (1))) 0 1 0) 0 1 0)))]) (st1 := [.int (zI (0)), .int (zI (0))]) rfl rfl ?_
  refine vv_icmp_ge (tgt := 39) C dX13_number_10 (by decide) (by omega) (by omega) (fun h => ?_) (fun h => by exfalso; omega)
  refine vv_aload_n C 1 dX13_number_39 rfl rfl ?_
  refine vv_get C 0 rfl rfl vi_X13 1 (by decide) wm1128 rfl dX13_number_40 ?_
  refine vv_callV (As := []) (rest := []) (wr := [(q1, .inr (12, [.int (zI (0)), .ref q2, .ref q3, .ref q4, .ref q5, .ref q6, .ref q7, .long (0 : Int64)])), (q8, .inl (G.2.1 0, 1, .inl (va_cpy (fun _ => 0) (va_cpy (fun _ => 0) (upd (fun _ => 0) 0 (zI (1))) 0 1 0) 0 1 0)))]) (ws2 := fun u => [(q1, .inr (12, [.int (zI (0)), .ref q2, .ref q3, .ref q4, .ref q5, .ref q6, .ref q7, .long (0 : Int64)])), (q2, .inr (13, [.int (zI (0)), .ref (G.2.2 0), .int (zI (0))])), (q8, .inl (G.2.1 0, 1, .inl (va_cpy (fun _ => 0) (va_cpy (fun _ => 0) (upd (fun _ => 0) 0 (zI (1))) 0 1 0) 0 1 0)))]) (isC := [1]) (isR := [0, 2]) (isP := [0, 2, 1]) C (vv_cutI rfl rfl rfl rfl (by decide) (fun _ => rfl) rfl) (k29_Jx4a65c_size_8abf5 l hf G q2) yy_Jx4a65c_size_8abf5 (vv_rmI rfl rfl (Nat.le_of_ble_eq_true rfl) (Nat.le_of_ble_eq_true rfl) (Nat.le_of_ble_eq_true rfl) (Nat.le_of_ble_eq_true rfl)) wm1175 wm1176 wm1177 0 rfl rfl rfl rfl (Nat.le_of_ble_eq_true rfl) dX13_number_43 (fun v u hp => ?_)
  obtain rfl := hp
  refine vv_nrm (ws1 := [(q1, .inr (12, [.int (zI (0)), .ref q2, .ref q3, .ref q4, .ref q5, .ref q6, .ref q7, .long (0 : Int64)])), (q2, .inr (13, [.int (zI (0)), .ref (G.2.2 0), .int (zI (0))])), (q8, .inl (G.2.1 0, 1, .inl (va_cpy (fun _ => 0) (va_cpy (fun _ => 0) (upd (fun _ => 0) 0 (zI (1))) 0 1 0) 0 1 0)))]) (st1 := [.int (zI (0))]) rfl rfl ?_
  refine vv_bipush (v := zI (60)) C dX13_number_46 (by decide) ?_
  refine vv_icmp_ne (tgt := 53) C dX13_number_48 (by decide) (by omega) (by omega) (fun h => ?_) (fun h => by exfalso; omega)
  refine vv_aload_n C 1 dX13_number_53 rfl rfl ?_
  refine vv_get C 0 rfl rfl vi_X13 1 (by decide) wm1128 rfl dX13_number_54 ?_
  refine vv_aload_n C 2 dX13_number_57 rfl rfl ?_
  refine vv_callV (As := [.ref q8]) (rest := []) (wr := [(q1, .inr (12, [.int (zI (0)), .ref q2, .ref q3, .ref q4, .ref q5, .ref q6, .ref q7, .long (0 : Int64)]))]) (ws2 := fun u => [(q1, .inr (12, [.int (zI (0)), .ref q2, .ref q3, .ref q4, .ref q5, .ref q6, .ref q7, .long (0 : Int64)])), (q2, .inr (13, [.int (zI (1)), .ref u, .int (zI (1))]))]) (isC := [1, 2]) (isR := [0]) (isP := [0, 1]) C (vv_cutI rfl rfl rfl rfl (by decide) (fun _ => rfl) rfl) (k76_Jx4a65c_add_9ea2d l hf G q2 q8) yy_Jx4a65c_add_9ea2d (vv_rmI rfl rfl (Nat.le_of_ble_eq_true rfl) (Nat.le_of_ble_eq_true rfl) (Nat.le_of_ble_eq_true rfl) (Nat.le_of_ble_eq_true rfl)) wm1298 wm1299 wm1300 0 rfl rfl rfl rfl (Nat.le_of_ble_eq_true rfl) dX13_number_58 (fun v u hp => ?_)
  obtain rfl := hp
  obtain ⟨q9, rfl⟩ : ∃ z, z = u := ⟨_, rfl⟩
  refine vv_nrm (ws1 := [(q1, .inr (12, [.int (zI (0)), .ref q2, .ref q3, .ref q4, .ref q5, .ref q6, .ref q7, .long (0 : Int64)])), (q2, .inr (13, [.int (zI (1)), .ref q9, .int (zI (1))]))]) (st1 := [.int (zI (1))]) rfl rfl ?_
  refine vv_pop C dX13_number_61 rfl ?_
  refine vv_aload_n C 1 dX13_number_62 rfl rfl ?_
  refine vv_get C 0 rfl rfl vi_X13 1 (by decide) wm1128 rfl dX13_number_63 ?_
  refine vv_callV (As := []) (rest := []) (wr := [(q1, .inr (12, [.int (zI (0)), .ref q2, .ref q3, .ref q4, .ref q5, .ref q6, .ref q7, .long (0 : Int64)]))]) (ws2 := fun u => [(q1, .inr (12, [.int (zI (0)), .ref q2, .ref q3, .ref q4, .ref q5, .ref q6, .ref q7, .long (0 : Int64)])), (q2, .inr (13, [.int (zI (1)), .ref q9, .int (zI (1))]))]) (isC := [1]) (isR := [0]) (isP := [0, 1]) C (vv_cutI rfl rfl rfl rfl (by decide) (fun _ => rfl) rfl) (k34_Jx4a65c_size_8abf5 l hf G q2 q9) yy_Jx4a65c_size_8abf5 (vv_rmI rfl rfl (Nat.le_of_ble_eq_true rfl) (Nat.le_of_ble_eq_true rfl) (Nat.le_of_ble_eq_true rfl) (Nat.le_of_ble_eq_true rfl)) wm1175 wm1176 wm1177 0 rfl rfl rfl rfl (Nat.le_of_ble_eq_true rfl) dX13_number_66 (fun v u hp => ?_)
  obtain rfl := hp
  refine vv_nrm (ws1 := [(q1, .inr (12, [.int (zI (0)), .ref q2, .ref q3, .ref q4, .ref q5, .ref q6, .ref q7, .long (0 : Int64)])), (q2, .inr (13, [.int (zI (1)), .ref q9, .int (zI (1))]))]) (st1 := [.int (zI (1))]) rfl rfl ?_
  refine vv_iconst (v := zI (1)) C dX13_number_69 rfl ?_
  refine vv_isub (z := zI (0)) C dX13_number_70 (by rw [zI_sub]; exact zI_c (by omega)) ?_
  exact vv_iret C (q9) rfl [0, 1] rfl rfl ⟨Nat.le_of_ble_eq_true rfl, Nat.le_of_ble_eq_true rfl⟩ dX13_number_71
set_option maxHeartbeats 4000000 in
set_option maxRecDepth 100000 in
theorem k78_X13_numberOr (l : Launch) (hf : l.stackTraces = false) (G : vv_G) (q1 q2 q3 q4 q5 q6 q7 q8 : Nat) : ∀ sz, Met l yX13_numberOr (Cond.code yX13_numberOr cX13_numberOr 4 (some .int) :: gT) ({ frames := 6, cells := 1, slots := 10, locals := 139 } : Room) (va_Pc [.ref q1, .ref q8, .int (zI (3))] (vv_I G [(q1, .inr (12, [.int (zI (0)), .ref q2, .ref q3, .ref q4, .ref q5, .ref q6, .ref q7, .long (0 : Int64)])), (q2, .inr (13, [.int (zI (0)), .ref (G.2.2 0), .int (zI (0))])), (q8, .inl (G.2.1 0, 1, .inl (va_cpy (fun _ => 0) (va_cpy (fun _ => 0) (upd (fun _ => 0) 0 (zI (1))) 0 1 0) 0 1 0)))] sz)) (vv_Q G (fun v (u : Nat) => v = some (.int (zI (0)))) (fun u => [(q1, .inr (12, [.int (zI (0)), .ref q2, .ref q3, .ref q4, .ref q5, .ref q6, .ref q7, .long (0 : Int64)])), (q2, .inr (13, [.int (zI (1)), .ref u, .int (zI (1))]))]) (va_A [(q1, .inr (12, [.int (zI (0)), .ref q2, .ref q3, .ref q4, .ref q5, .ref q6, .ref q7, .long (0 : Int64)])), (q2, .inr (13, [.int (zI (0)), .ref (G.2.2 0), .int (zI (0))])), (q8, .inl (G.2.1 0, 1, .inl (va_cpy (fun _ => 0) (va_cpy (fun _ => 0) (upd (fun _ => 0) 0 (zI (1))) 0 1 0) 0 1 0)))] sz)) 1 10 (va_A [(q1, .inr (12, [.int (zI (0)), .ref q2, .ref q3, .ref q4, .ref q5, .ref q6, .ref q7, .long (0 : Int64)])), (q2, .inr (13, [.int (zI (0)), .ref (G.2.2 0), .int (zI (0))])), (q8, .inl (G.2.1 0, 1, .inl (va_cpy (fun _ => 0) (va_cpy (fun _ => 0) (upd (fun _ => 0) 0 (zI (1))) 0 1 0) 0 1 0)))] sz) := by
  refine vv_start hf (by decide) (Nat.le_of_ble_eq_true rfl) ?_
  intro p e s m below meth c A C hnm
  refine vv_aload_n C 0 dX13_numberOr_0 rfl rfl ?_
  refine vv_aload_n C 1 dX13_numberOr_1 rfl rfl ?_
  refine vv_callV (As := [.ref q8]) (rest := []) (wr := []) (ws2 := fun u => [(q1, .inr (12, [.int (zI (0)), .ref q2, .ref q3, .ref q4, .ref q5, .ref q6, .ref q7, .long (0 : Int64)])), (q2, .inr (13, [.int (zI (1)), .ref u, .int (zI (1))]))]) (isC := [0, 1, 2]) (isR := []) (isP := [0, 1]) C (vv_cutI rfl rfl rfl rfl (by decide) (fun _ => rfl) rfl) (k77_X13_number l hf G q1 q2 q3 q4 q5 q6 q7 q8) yy_X13_number (vv_rmI rfl rfl (Nat.le_of_ble_eq_true rfl) (Nat.le_of_ble_eq_true rfl) (Nat.le_of_ble_eq_true rfl) (Nat.le_of_ble_eq_true rfl)) wm1171 wm1173 ws_selects_LatticeworkModel_LatticeworkModel_number__I_I_LatticeworkModel_number__I_I 0 rfl rfl rfl rfl (Nat.le_of_ble_eq_true rfl) dX13_numberOr_2 (fun v u hp => ?_)
  obtain rfl := hp
  obtain ⟨q9, rfl⟩ : ∃ z, z = u := ⟨_, rfl⟩
  refine vv_nrm (ws1 := [(q1, .inr (12, [.int (zI (0)), .ref q2, .ref q3, .ref q4, .ref q5, .ref q6, .ref q7, .long (0 : Int64)])), (q2, .inr (13, [.int (zI (1)), .ref q9, .int (zI (1))]))]) (st1 := [.int (zI (0))]) rfl rfl ?_
  refine vv_istore_n (loc1 := [(3, .int (zI (0))), (0, .ref q1), (1, .ref q8), (2, .int (zI (3)))]) C dX13_numberOr_5 rfl (by decide) rfl ?_
  refine vv_iload_n C 0 dX13_numberOr_6 rfl rfl ?_
  refine vv_iconst (v := zI (-1)) C dX13_numberOr_7 rfl ?_
  refine vv_icmp_ne (tgt := 19) C dX13_numberOr_8 (by decide) (by omega) (by omega) (fun h => ?_) (fun h => by exfalso; omega)
  refine vv_iload_n C 0 dX13_numberOr_19 rfl rfl ?_
  exact vv_iret C (q9) rfl [0, 1] rfl rfl ⟨Nat.le_of_ble_eq_true rfl, Nat.le_of_ble_eq_true rfl⟩ dX13_numberOr_20
set_option maxHeartbeats 4000000 in
set_option maxRecDepth 100000 in
theorem k79_X13_term (l : Launch) (hf : l.stackTraces = false) (G : vv_G) (q1 q2 q3 q4 q5 q6 q7 : Nat) (v8 : Int) (rv2 : -2147483648 ≤ v8 ∧ v8 < 2147483648) (v9 : Int) (rv3 : -2147483648 ≤ v9 ∧ v9 < 2147483648) : ∀ sz, Met l yX13_term (Cond.code yX13_term cX13_term 8 (some .int) :: gT) ({ frames := 7, cells := 4, slots := 11, locals := 162 } : Room) (va_Pc [.ref q1, .int (zI (1)), .int (zI (v8)), .int (zI (v9))] (vv_I G [(q1, .inr (12, [.int (zI (0)), .ref q2, .ref q3, .ref q4, .ref q5, .ref q6, .ref q7, .long (0 : Int64)])), (q2, .inr (13, [.int (zI (0)), .ref (G.2.2 0), .int (zI (0))]))] sz)) (vv_Q G (fun v (u : Nat) => v = some (.int (zI (0)))) (fun u => [(q1, .inr (12, [.int (zI (0)), .ref q2, .ref q3, .ref q4, .ref q5, .ref q6, .ref q7, .long (0 : Int64)])), (q2, .inr (13, [.int (zI (1)), .ref u, .int (zI (1))]))]) (va_A [(q1, .inr (12, [.int (zI (0)), .ref q2, .ref q3, .ref q4, .ref q5, .ref q6, .ref q7, .long (0 : Int64)])), (q2, .inr (13, [.int (zI (0)), .ref (G.2.2 0), .int (zI (0))]))] sz)) 4 11 (va_A [(q1, .inr (12, [.int (zI (0)), .ref q2, .ref q3, .ref q4, .ref q5, .ref q6, .ref q7, .long (0 : Int64)])), (q2, .inr (13, [.int (zI (0)), .ref (G.2.2 0), .int (zI (0))]))] sz) := by
  refine vv_start hf (by decide) (Nat.le_of_ble_eq_true rfl) ?_
  intro p e s m below meth c A C hnm
  refine vv_aload_n C 0 dX13_term_0 rfl rfl ?_
  refine vv_iconst (v := zI (0)) C dX13_term_1 rfl ?_
  refine vv_put (ws1 := [(q1, .inr (12, [.int (zI (0)), .ref q2, .ref q3, .ref q4, .ref q5, .ref q6, .ref q7, .long (0 : Int64)])), (q2, .inr (13, [.int (zI (0)), .ref (G.2.2 0), .int (zI (0))]))]) C 0 rfl rfl vi_X13 tyX13_ok nmX13 0 (by decide) wm1127 rfl rfl rfl (Nat.le_of_ble_eq_true rfl) rfl dX13_term_2 ?_
  refine vv_iload_n C 1 dX13_term_5 rfl rfl ?_
  refine vv_iconst (v := zI (0)) C dX13_term_6 rfl ?_
  refine vv_iconst (v := zI (5)) C dX13_term_7 rfl ?_
  refine vv_callS (As := [.int (zI (1)), .int (zI (0)), .int (zI (5))]) (rest := []) (wr := [(q1, .inr (12, [.int (zI (0)), .ref q2, .ref q3, .ref q4, .ref q5, .ref q6, .ref q7, .long (0 : Int64)])), (q2, .inr (13, [.int (zI (0)), .ref (G.2.2 0), .int (zI (0))]))]) (ws2 := fun u => [(q1, .inr (12, [.int (zI (0)), .ref q2, .ref q3, .ref q4, .ref q5, .ref q6, .ref q7, .long (0 : Int64)])), (q2, .inr (13, [.int (zI (0)), .ref (G.2.2 0), .int (zI (0))]))]) (isC := []) (isR := [0, 1]) (isP := [0, 1]) C (vv_cutI rfl rfl rfl rfl (by decide) (fun _ => rfl) rfl) (k73_X13_is l hf G ) yy_X13_is (vv_rmI rfl rfl (Nat.le_of_ble_eq_true rfl) (Nat.le_of_ble_eq_true rfl) (Nat.le_of_ble_eq_true rfl) (Nat.le_of_ble_eq_true rfl)) wm1160 wm1161 rfl rfl (Nat.le_of_ble_eq_true rfl) dX13_term_8 (fun v u hp => ?_)
  obtain rfl := hp
  refine vv_nrm (ws1 := [(q1, .inr (12, [.int (zI (0)), .ref q2, .ref q3, .ref q4, .ref q5, .ref q6, .ref q7, .long (0 : Int64)])), (q2, .inr (13, [.int (zI (0)), .ref (G.2.2 0), .int (zI (0))]))]) (st1 := [.int (zI (1))]) rfl rfl ?_
  refine vv_if_eq (tgt := 21) C dX13_term_11 (by decide) (by omega) (fun h => by exfalso; omega) (fun h => ?_)
  refine vv_iload_n C 1 dX13_term_14 rfl rfl ?_
  refine vv_callS (As := [.int (zI (1))]) (rest := []) (wr := [(q1, .inr (12, [.int (zI (0)), .ref q2, .ref q3, .ref q4, .ref q5, .ref q6, .ref q7, .long (0 : Int64)])), (q2, .inr (13, [.int (zI (0)), .ref (G.2.2 0), .int (zI (0))]))]) (ws2 := fun u => [(q1, .inr (12, [.int (zI (0)), .ref q2, .ref q3, .ref q4, .ref q5, .ref q6, .ref q7, .long (0 : Int64)])), (q2, .inr (13, [.int (zI (0)), .ref (G.2.2 0), .int (zI (0))]))]) (isC := []) (isR := [0, 1]) (isP := [0, 1]) C (vv_cutI rfl rfl rfl rfl (by decide) (fun _ => rfl) rfl) (k74_X13_parts l hf G ) yy_X13_parts (vv_rmI rfl rfl (Nat.le_of_ble_eq_true rfl) (Nat.le_of_ble_eq_true rfl) (Nat.le_of_ble_eq_true rfl) (Nat.le_of_ble_eq_true rfl)) wm1367 wm1368 rfl rfl (Nat.le_of_ble_eq_true rfl) dX13_term_15 (fun v u hp => ?_)
  obtain rfl := hp
  refine vv_nrm (ws1 := [(q1, .inr (12, [.int (zI (0)), .ref q2, .ref q3, .ref q4, .ref q5, .ref q6, .ref q7, .long (0 : Int64)])), (q2, .inr (13, [.int (zI (0)), .ref (G.2.2 0), .int (zI (0))]))]) (st1 := [.int (zI (0))]) rfl rfl ?_
  refine vv_goto C 22 dX13_term_18 (by decide) ?_
  refine vv_istore (loc1 := [(4, .int (zI (0))), (0, .ref q1), (1, .int (zI (1))), (2, .int (zI (v8))), (3, .int (zI (v9)))]) C dX13_term_22 (by decide) rfl ?_
  refine vv_iload C 0 dX13_term_24 rfl ?_
  refine vv_if_le (tgt := 37) C dX13_term_26 (by decide) (by omega) (fun h => ?_) (fun h => by exfalso; omega)
  refine vv_iload C 0 dX13_term_37 rfl ?_
  refine vv_iconst (v := zI (1)) C dX13_term_39 rfl ?_
  refine vv_icmp_le (tgt := 57) C dX13_term_40 (by decide) (by omega) (by omega) (fun h => ?_) (fun h => by exfalso; omega)
  refine vv_iload_n C 2 dX13_term_57 rfl rfl ?_
  refine vv_iconst (v := zI (0)) C dX13_term_58 rfl ?_
  refine vv_iconst (v := zI (5)) C dX13_term_59 rfl ?_
  refine vv_callS (As := [.int (zI (1)), .int (zI (0)), .int (zI (5))]) (rest := []) (wr := [(q1, .inr (12, [.int (zI (0)), .ref q2, .ref q3, .ref q4, .ref q5, .ref q6, .ref q7, .long (0 : Int64)])), (q2, .inr (13, [.int (zI (0)), .ref (G.2.2 0), .int (zI (0))]))]) (ws2 := fun u => [(q1, .inr (12, [.int (zI (0)), .ref q2, .ref q3, .ref q4, .ref q5, .ref q6, .ref q7, .long (0 : Int64)])), (q2, .inr (13, [.int (zI (0)), .ref (G.2.2 0), .int (zI (0))]))]) (isC := []) (isR := [0, 1]) (isP := [0, 1]) C (vv_cutI rfl rfl rfl rfl (by decide) (fun _ => rfl) rfl) (k73_X13_is l hf G ) yy_X13_is (vv_rmI rfl rfl (Nat.le_of_ble_eq_true rfl) (Nat.le_of_ble_eq_true rfl) (Nat.le_of_ble_eq_true rfl) (Nat.le_of_ble_eq_true rfl)) wm1160 wm1161 rfl rfl (Nat.le_of_ble_eq_true rfl) dX13_term_60 (fun v u hp => ?_)
  obtain rfl := hp
  refine vv_nrm (ws1 := [(q1, .inr (12, [.int (zI (0)), .ref q2, .ref q3, .ref q4, .ref q5, .ref q6, .ref q7, .long (0 : Int64)])), (q2, .inr (13, [.int (zI (0)), .ref (G.2.2 0), .int (zI (0))]))]) (st1 := [.int (zI (1))]) rfl rfl ?_
  refine vv_if_ne (tgt := 72) C dX13_term_63 (by decide) (by omega) (fun h => ?_) (fun h => by exfalso; omega)
  refine vv_iload C 0 dX13_term_72 rfl ?_
  refine vv_if_le (tgt := 91) C dX13_term_74 (by decide) (by omega) (fun h => ?_) (fun h => by exfalso; omega)
  refine vv_iconst (v := zI (0)) C dX13_term_91 rfl ?_
  refine vv_newa (atype := .int) (ty := .int) C 0 rfl rfl wm108 0 rfl (by decide) (0, .inl (fun _ => 0)) (fun _ => rfl) (by decide) ⟨Nat.le_of_ble_eq_true rfl, Nat.le_of_ble_eq_true rfl⟩ dX13_term_92 (fun q10 => [(q1, .inr (12, [.int (zI (0)), .ref q2, .ref q3, .ref q4, .ref q5, .ref q6, .ref q7, .long (0 : Int64)])), (q2, .inr (13, [.int (zI (0)), .ref (G.2.2 0), .int (zI (0))])), (q10, .inl (G.2.1 0, 0, .inl (fun _ => 0)))]) (fun _ => rfl) (fun q10 => ?_)
  refine vv_astore (loc1 := [(5, .ref q10), (4, .int (zI (0))), (0, .ref q1), (1, .int (zI (1))), (2, .int (zI (v8))), (3, .int (zI (v9)))]) C dX13_term_94 (by decide) rfl ?_
  refine vv_iload C 1 dX13_term_96 rfl ?_
  refine vv_iconst (v := zI (1)) C dX13_term_98 rfl ?_
  refine vv_icmp_le (tgt := 116) C dX13_term_99 (by decide) (by omega) (by omega) (fun h => ?_) (fun h => by exfalso; omega)
  refine vv_iconst (v := zI (0)) C dX13_term_116 rfl ?_
  refine vv_newa (atype := .int) (ty := .int) C 0 rfl rfl wm108 0 rfl (by decide) (0, .inl (fun _ => 0)) (fun _ => rfl) (by decide) ⟨Nat.le_of_ble_eq_true rfl, Nat.le_of_ble_eq_true rfl⟩ dX13_term_117 (fun q11 => [(q1, .inr (12, [.int (zI (0)), .ref q2, .ref q3, .ref q4, .ref q5, .ref q6, .ref q7, .long (0 : Int64)])), (q2, .inr (13, [.int (zI (0)), .ref (G.2.2 0), .int (zI (0))])), (q10, .inl (G.2.1 0, 0, .inl (fun _ => 0))), (q11, .inl (G.2.1 0, 0, .inl (fun _ => 0)))]) (fun _ => rfl) (fun q11 => ?_)
  refine vv_astore (loc1 := [(6, .ref q11), (5, .ref q10), (4, .int (zI (0))), (0, .ref q1), (1, .int (zI (1))), (2, .int (zI (v8))), (3, .int (zI (v9)))]) C dX13_term_119 (by decide) rfl ?_
  refine vv_iconst (v := zI (1)) C dX13_term_121 rfl ?_
  refine vv_aload C 1 dX13_term_122 rfl ?_
  refine vv_alen (v := zI (0)) C 2 0 rfl rfl rfl dX13_term_124 ?_
  refine vv_iadd (z := zI (1)) C dX13_term_125 (by rw [zI_add]; exact zI_c (by omega)) ?_
  refine vv_aload C 0 dX13_term_126 rfl ?_
  refine vv_alen (v := zI (0)) C 3 0 rfl rfl rfl dX13_term_128 ?_
  refine vv_iadd (z := zI (1)) C dX13_term_129 (by rw [zI_add]; exact zI_c (by omega)) ?_
  refine vv_bipush (v := zI (12)) C dX13_term_130 (by decide) ?_
  refine vv_icmp_le (tgt := 141) C dX13_term_132 (by decide) (by omega) (by omega) (fun h => ?_) (fun h => by exfalso; omega)
  refine vv_iconst (v := zI (1)) C dX13_term_141 rfl ?_
  refine vv_aload C 1 dX13_term_142 rfl ?_
  refine vv_alen (v := zI (0)) C 2 0 rfl rfl rfl dX13_term_144 ?_
  refine vv_iadd (z := zI (1)) C dX13_term_145 (by rw [zI_add]; exact zI_c (by omega)) ?_
  refine vv_aload C 0 dX13_term_146 rfl ?_
  refine vv_alen (v := zI (0)) C 3 0 rfl rfl rfl dX13_term_148 ?_
  refine vv_iadd (z := zI (1)) C dX13_term_149 (by rw [zI_add]; exact zI_c (by omega)) ?_
  refine vv_newa (atype := .int) (ty := .int) C 0 rfl rfl wm108 1 rfl (by decide) (1, .inl (fun _ => 0)) (fun _ => rfl) (by decide) ⟨Nat.le_of_ble_eq_true rfl, Nat.le_of_ble_eq_true rfl⟩ dX13_term_150 (fun q12 => [(q1, .inr (12, [.int (zI (0)), .ref q2, .ref q3, .ref q4, .ref q5, .ref q6, .ref q7, .long (0 : Int64)])), (q2, .inr (13, [.int (zI (0)), .ref (G.2.2 0), .int (zI (0))])), (q10, .inl (G.2.1 0, 0, .inl (fun _ => 0))), (q11, .inl (G.2.1 0, 0, .inl (fun _ => 0))), (q12, .inl (G.2.1 0, 1, .inl (fun _ => 0)))]) (fun _ => rfl) (fun q12 => ?_)
  refine vv_astore (loc1 := [(7, .ref q12), (6, .ref q11), (5, .ref q10), (4, .int (zI (0))), (0, .ref q1), (1, .int (zI (1))), (2, .int (zI (v8))), (3, .int (zI (v9)))]) C dX13_term_152 (by decide) rfl ?_
  refine vv_aload C 0 dX13_term_154 rfl ?_
  refine vv_iconst (v := zI (0)) C dX13_term_156 rfl ?_
  refine vv_iload_n C 5 dX13_term_157 rfl rfl ?_
  refine vv_iast (ws1 := [(q1, .inr (12, [.int (zI (0)), .ref q2, .ref q3, .ref q4, .ref q5, .ref q6, .ref q7, .long (0 : Int64)])), (q2, .inr (13, [.int (zI (0)), .ref (G.2.2 0), .int (zI (0))])), (q10, .inl (G.2.1 0, 0, .inl (fun _ => 0))), (q11, .inl (G.2.1 0, 0, .inl (fun _ => 0))), (q12, .inl (G.2.1 0, 1, .inl (upd (fun _ => 0) 0 (zI (1)))))]) C 4 0 rfl rfl 0 rfl (by decide) (by decide) rfl dX13_term_158 ?_
  refine vv_aload C 2 dX13_term_159 rfl ?_
  refine vv_iconst (v := zI (0)) C dX13_term_161 rfl ?_
  refine vv_aload C 0 dX13_term_162 rfl ?_
  refine vv_iconst (v := zI (1)) C dX13_term_164 rfl ?_
  refine vv_aload C 2 dX13_term_165 rfl ?_
  refine vv_alen (v := zI (0)) C 2 0 rfl rfl rfl dX13_term_167 ?_
  refine vv_copyi (ws1 := [(q1, .inr (12, [.int (zI (0)), .ref q2, .ref q3, .ref q4, .ref q5, .ref q6, .ref q7, .long (0 : Int64)])), (q2, .inr (13, [.int (zI (0)), .ref (G.2.2 0), .int (zI (0))])), (q10, .inl (G.2.1 0, 0, .inl (fun _ => 0))), (q11, .inl (G.2.1 0, 0, .inl (fun _ => 0))), (q12, .inl (G.2.1 0, 1, .inl (va_cpy (fun _ => 0) (upd (fun _ => 0) 0 (zI (1))) 0 1 0)))]) C wm1374 wm815 wm814 wm32 2 4 0 0 rfl rfl rfl rfl rfl 0 1 0 rfl rfl rfl (by decide) (by decide) (fun _ _ => rfl) ⟨Nat.le_of_ble_eq_true rfl, Nat.le_of_ble_eq_true rfl⟩ rfl dX13_term_168 ?_
  refine vv_aload C 1 dX13_term_171 rfl ?_
  refine vv_iconst (v := zI (0)) C dX13_term_173 rfl ?_
  refine vv_aload C 0 dX13_term_174 rfl ?_
  refine vv_iconst (v := zI (1)) C dX13_term_176 rfl ?_
  refine vv_aload C 2 dX13_term_177 rfl ?_
  refine vv_alen (v := zI (0)) C 2 0 rfl rfl rfl dX13_term_179 ?_
  refine vv_iadd (z := zI (1)) C dX13_term_180 (by rw [zI_add]; exact zI_c (by omega)) ?_
  refine vv_aload C 1 dX13_term_181 rfl ?_
  refine vv_alen (v := zI (0)) C 3 0 rfl rfl rfl dX13_term_183 ?_
  refine vv_copyi (ws1 := [(q1, .inr (12, [.int (zI (0)), .ref q2, .ref q3, .ref q4, .ref q5, .ref q6, .ref q7, .long (0 : Int64)])), (q2, .inr (13, [.int (zI (0)), .ref (G.2.2 0), .int (zI (0))])), (q10, .inl (G.2.1 0, 0, .inl (fun _ => 0))), (q11, .inl (G.2.1 0, 0, .inl (fun _ => 0))), (q12, .inl (G.2.1 0, 1, .inl (va_cpy (fun _ => 0) (va_cpy (fun _ => 0) (upd (fun _ => 0) 0 (zI (1))) 0 1 0) 0 1 0)))]) C wm1374 wm815 wm814 wm32 3 4 0 0 rfl rfl rfl rfl rfl 0 1 0 rfl rfl rfl (by decide) (by decide) (fun _ _ => rfl) ⟨Nat.le_of_ble_eq_true rfl, Nat.le_of_ble_eq_true rfl⟩ rfl dX13_term_184 ?_
  refine vv_aload_n C 4 dX13_term_187 rfl rfl ?_
  refine vv_aload C 0 dX13_term_188 rfl ?_
  refine vv_iconst (v := zI (3)) C dX13_term_190 rfl ?_
  refine vv_callV (As := [.ref q12, .int (zI (3))]) (rest := []) (wr := []) (ws2 := fun u => [(q1, .inr (12, [.int (zI (0)), .ref q2, .ref q3, .ref q4, .ref q5, .ref q6, .ref q7, .long (0 : Int64)])), (q2, .inr (13, [.int (zI (1)), .ref u, .int (zI (1))]))]) (isC := [0, 1, 4]) (isR := []) (isP := [0, 1]) C (vv_cutI rfl rfl rfl rfl (by decide) (fun _ => rfl) rfl) (k78_X13_numberOr l hf G q1 q2 q3 q4 q5 q6 q7 q12) yy_X13_numberOr (vv_rmI rfl rfl (Nat.le_of_ble_eq_true rfl) (Nat.le_of_ble_eq_true rfl) (Nat.le_of_ble_eq_true rfl) (Nat.le_of_ble_eq_true rfl)) wm1167 wm1169 ws_selects_LatticeworkModel_LatticeworkModel_numberOr__II_I_LatticeworkModel_numberOr__II_I 0 rfl rfl rfl rfl (Nat.le_of_ble_eq_true rfl) dX13_term_191 (fun v u hp => ?_)
  obtain rfl := hp
  obtain ⟨q13, rfl⟩ : ∃ z, z = u := ⟨_, rfl⟩
  refine vv_nrm (ws1 := [(q1, .inr (12, [.int (zI (0)), .ref q2, .ref q3, .ref q4, .ref q5, .ref q6, .ref q7, .long (0 : Int64)])), (q2, .inr (13, [.int (zI (1)), .ref q13, .int (zI (1))]))]) (st1 := [.int (zI (0))]) rfl rfl ?_
  exact vv_iret C (q13) rfl [0, 1] rfl rfl ⟨Nat.le_of_ble_eq_true rfl, Nat.le_of_ble_eq_true rfl⟩ dX13_term_194
set_option maxHeartbeats 4000000 in
set_option maxRecDepth 100000 in
theorem k80_X3_codeOfSign (l : Launch) (hf : l.stackTraces = false) (G : vv_G)  : ∀ sz, Met l yX3_codeOfSign (Cond.code yX3_codeOfSign cX3_codeOfSign 1 (some .int) :: gT) ({ frames := 0, cells := 0, slots := 0, locals := 0 } : Room) (va_Pc [.int (zI (2))] (vv_I G [] sz)) (vv_Q G (fun v (u : Unit) => v = some (.int (zI (3)))) (fun u => []) (va_A [] sz)) 0 0 (va_A [] sz) := by
  refine vv_start hf (by decide) (Nat.le_of_ble_eq_true rfl) ?_
  intro p e s m below meth c A C hnm
  refine vv_iload_n C 0 dX3_codeOfSign_0 rfl rfl ?_
  refine vv_iconst (v := zI (1)) C dX3_codeOfSign_1 rfl ?_
  refine vv_iadd (z := zI (3)) C dX3_codeOfSign_2 (by rw [zI_add]; exact zI_c (by omega)) ?_
  exact vv_iret C (()) rfl [] rfl rfl ⟨Nat.le_of_ble_eq_true rfl, Nat.le_of_ble_eq_true rfl⟩ dX3_codeOfSign_3
set_option maxHeartbeats 4000000 in
set_option maxRecDepth 100000 in
theorem k81_X3_partsOf (l : Launch) (hf : l.stackTraces = false) (G : vv_G)  : ∀ sz, Met l yX3_partsOf (Cond.code yX3_partsOf cX3_partsOf 1 (some .int) :: gT) ({ frames := 0, cells := 0, slots := 0, locals := 0 } : Room) (va_Pc [.int (zI (3))] (vv_I G [] sz)) (vv_Q G (fun v (u : Unit) => v = some (.int (zI (1)))) (fun u => []) (va_A [] sz)) 0 0 (va_A [] sz) := by
  refine vv_start hf (by decide) (Nat.le_of_ble_eq_true rfl) ?_
  intro p e s m below meth c A C hnm
  refine vv_iload_n C 0 dX3_partsOf_0 rfl rfl ?_
  refine vv_tabIn (off := 31) C 32 dX3_partsOf_1 (by omega) (by omega) (by omega) rfl (by decide) ?_
  refine vv_iconst (v := zI (1)) C dX3_partsOf_32 rfl ?_
  exact vv_iret C (()) rfl [] rfl rfl ⟨Nat.le_of_ble_eq_true rfl, Nat.le_of_ble_eq_true rfl⟩ dX3_partsOf_33
set_option maxHeartbeats 4000000 in
set_option maxRecDepth 100000 in
theorem k82_X10_needTerm (l : Launch) (hf : l.stackTraces = false) (G : vv_G) (q1 q2 q3 q4 q5 q6 q7 q8 q9 q10 q11 q12 q13 : Nat) (v14 : Int) (rv2 : -2147483648 ≤ v14 ∧ v14 < 2147483648) : ∀ sz, vx_Met l yX10_needTerm (Cond.code yX10_needTerm cX10_needTerm 2 none :: gT) ({ frames := 6, cells := 1, slots := 6, locals := 90 } : Room) (va_Pc [.ref q1, .int (zI (v14))] (vv_I G [(q1, .inr (9, [.ref q2, .ref q3, .ref q4, .ref q5, .ref q6, .ref q7, .ref q8, .ref q9, .ref q10])), (q7, .inr (8, [.ref q11, .ref q12, .ref q13, .int (zI (0))]))] sz)) (vv_Q G (fun v (u : Unit) => False) (fun u => []) (va_A [(q1, .inr (9, [.ref q2, .ref q3, .ref q4, .ref q5, .ref q6, .ref q7, .ref q8, .ref q9, .ref q10])), (q7, .inr (8, [.ref q11, .ref q12, .ref q13, .int (zI (0))]))] sz)) (vv_XC G (fun E (u : Unit) => E = "java/lang/IndexOutOfBoundsException") (fun u => [(q1, .inr (9, [.ref q2, .ref q3, .ref q4, .ref q5, .ref q6, .ref q7, .ref q8, .ref q9, .ref q10])), (q7, .inr (8, [.ref q11, .ref q12, .ref q13, .int (zI (0))]))]) (va_A [(q1, .inr (9, [.ref q2, .ref q3, .ref q4, .ref q5, .ref q6, .ref q7, .ref q8, .ref q9, .ref q10])), (q7, .inr (8, [.ref q11, .ref q12, .ref q13, .int (zI (0))]))] sz)) 1 6 (va_A [(q1, .inr (9, [.ref q2, .ref q3, .ref q4, .ref q5, .ref q6, .ref q7, .ref q8, .ref q9, .ref q10])), (q7, .inr (8, [.ref q11, .ref q12, .ref q13, .int (zI (0))]))] sz) := by
  refine vv_startX hf (by decide) (Nat.le_of_ble_eq_true rfl) ?_
  intro p e s m below meth c A C hnm htab
  refine vv_iload_n C 1 dX10_needTerm_0 rfl rfl ?_
  refine vv_if_lt (tgt := 15) C dX10_needTerm_1 (by decide) (by omega) (fun h36 => ?_) (fun h36 => ?_)
  · skip
    exact vv_throwW C tw_X10_125_288 htab dX10_needTerm_15 dX10_needTerm_18 dX10_needTerm_19 dX10_needTerm_22 dX10_needTerm_25 ⟨Nat.le_of_ble_eq_true rfl, Nat.le_of_ble_eq_true rfl, Nat.le_of_ble_eq_true rfl, Nat.le_of_ble_eq_true rfl, Nat.le_of_ble_eq_true rfl, Nat.le_of_ble_eq_true rfl⟩ () rfl [0, 1] rfl rfl
  · skip
    refine vv_iload_n C 1 dX10_needTerm_4 rfl rfl ?_
    refine vv_aload_n C 0 dX10_needTerm_5 rfl rfl ?_
    refine vv_get C 0 rfl rfl vi_X10 5 (by decide) wm329 rfl dX10_needTerm_6 ?_
    refine vv_get C 1 rfl rfl vi_X9 3 (by decide) wm198 rfl dX10_needTerm_9 ?_
    refine vv_icmp_lt (tgt := 26) C dX10_needTerm_12 (by decide) (by omega) (by omega) (fun h => by exfalso; omega) (fun h => ?_)
    exact vv_throwW C tw_X10_125_288 htab dX10_needTerm_15 dX10_needTerm_18 dX10_needTerm_19 dX10_needTerm_22 dX10_needTerm_25 ⟨Nat.le_of_ble_eq_true rfl, Nat.le_of_ble_eq_true rfl, Nat.le_of_ble_eq_true rfl, Nat.le_of_ble_eq_true rfl, Nat.le_of_ble_eq_true rfl, Nat.le_of_ble_eq_true rfl⟩ () rfl [0, 1] rfl rfl
set_option maxHeartbeats 4000000 in
set_option maxRecDepth 100000 in
theorem k83_X10_term (l : Launch) (hf : l.stackTraces = false) (G : vv_G) (q1 q2 q3 q4 q5 q6 q7 q8 q9 q10 q11 q12 q13 : Nat) (v14 : Int) (rv2 : -2147483648 ≤ v14 ∧ v14 < 2147483648) (v15 : Int) (rv3 : -2147483648 ≤ v15 ∧ v15 < 2147483648) : ∀ sz, vx_Met l yX10_term (Cond.code yX10_term cX10_term 10 (some .int) :: gT) ({ frames := 7, cells := 1, slots := 6, locals := 111 } : Room) (va_Pc [.ref q1, .int (zI (2)), .int (zI (v14)), .int (zI (v15))] (vv_I G [(q1, .inr (9, [.ref q2, .ref q3, .ref q4, .ref q5, .ref q6, .ref q7, .ref q8, .ref q9, .ref q10])), (q7, .inr (8, [.ref q11, .ref q12, .ref q13, .int (zI (0))]))] sz)) (vv_Q G (fun v (u : Unit) => False) (fun u => []) (va_A [(q1, .inr (9, [.ref q2, .ref q3, .ref q4, .ref q5, .ref q6, .ref q7, .ref q8, .ref q9, .ref q10])), (q7, .inr (8, [.ref q11, .ref q12, .ref q13, .int (zI (0))]))] sz)) (vv_XC G (fun E (u : Unit) => E = "java/lang/IndexOutOfBoundsException") (fun u => [(q1, .inr (9, [.ref q2, .ref q3, .ref q4, .ref q5, .ref q6, .ref q7, .ref q8, .ref q9, .ref q10])), (q7, .inr (8, [.ref q11, .ref q12, .ref q13, .int (zI (0))]))]) (va_A [(q1, .inr (9, [.ref q2, .ref q3, .ref q4, .ref q5, .ref q6, .ref q7, .ref q8, .ref q9, .ref q10])), (q7, .inr (8, [.ref q11, .ref q12, .ref q13, .int (zI (0))]))] sz)) 1 6 (va_A [(q1, .inr (9, [.ref q2, .ref q3, .ref q4, .ref q5, .ref q6, .ref q7, .ref q8, .ref q9, .ref q10])), (q7, .inr (8, [.ref q11, .ref q12, .ref q13, .int (zI (0))]))] sz) := by
  refine vv_startX hf (by decide) (Nat.le_of_ble_eq_true rfl) ?_
  intro p e s m below meth c A C hnm htab
  refine vv_iload_n C 1 dX10_term_0 rfl rfl ?_
  refine vv_if_lt (tgt := 14) C dX10_term_1 (by decide) (by omega) (fun h => by exfalso; omega) (fun h => ?_)
  refine vv_iload_n C 1 dX10_term_4 rfl rfl ?_
  refine vv_bipush (v := zI (6)) C dX10_term_5 (by decide) ?_
  refine vv_icmp_ge (tgt := 14) C dX10_term_7 (by decide) (by omega) (by omega) (fun h => by exfalso; omega) (fun h => ?_)
  refine vv_iconst (v := zI (1)) C dX10_term_10 rfl ?_
  refine vv_goto C 15 dX10_term_11 (by decide) ?_
  refine vv_istore (loc1 := [(4, .int (zI (1))), (0, .ref q1), (1, .int (zI (2))), (2, .int (zI (v14))), (3, .int (zI (v15)))]) C dX10_term_15 (by decide) rfl ?_
  refine vv_iload C 0 dX10_term_17 rfl ?_
  refine vv_if_eq (tgt := 32) C dX10_term_19 (by decide) (by omega) (fun h => by exfalso; omega) (fun h => ?_)
  refine vv_iload_n C 2 dX10_term_22 rfl rfl ?_
  refine vv_callS (As := [.int (zI (2))]) (rest := []) (wr := [(q1, .inr (9, [.ref q2, .ref q3, .ref q4, .ref q5, .ref q6, .ref q7, .ref q8, .ref q9, .ref q10])), (q7, .inr (8, [.ref q11, .ref q12, .ref q13, .int (zI (0))]))]) (ws2 := fun u => [(q1, .inr (9, [.ref q2, .ref q3, .ref q4, .ref q5, .ref q6, .ref q7, .ref q8, .ref q9, .ref q10])), (q7, .inr (8, [.ref q11, .ref q12, .ref q13, .int (zI (0))]))]) (isC := []) (isR := [0, 1]) (isP := [0, 1]) C (vv_cutI rfl rfl rfl rfl (by decide) (fun _ => rfl) rfl) (k80_X3_codeOfSign l hf G ) yy_X3_codeOfSign (vv_rmI rfl rfl (Nat.le_of_ble_eq_true rfl) (Nat.le_of_ble_eq_true rfl) (Nat.le_of_ble_eq_true rfl) (Nat.le_of_ble_eq_true rfl)) wm650 wm651 rfl rfl (Nat.le_of_ble_eq_true rfl) dX10_term_23 (fun v u hp => ?_)
  obtain rfl := hp
  refine vv_nrm (ws1 := [(q1, .inr (9, [.ref q2, .ref q3, .ref q4, .ref q5, .ref q6, .ref q7, .ref q8, .ref q9, .ref q10])), (q7, .inr (8, [.ref q11, .ref q12, .ref q13, .int (zI (0))]))]) (st1 := [.int (zI (3))]) rfl rfl ?_
  refine vv_callS (As := [.int (zI (3))]) (rest := []) (wr := [(q1, .inr (9, [.ref q2, .ref q3, .ref q4, .ref q5, .ref q6, .ref q7, .ref q8, .ref q9, .ref q10])), (q7, .inr (8, [.ref q11, .ref q12, .ref q13, .int (zI (0))]))]) (ws2 := fun u => [(q1, .inr (9, [.ref q2, .ref q3, .ref q4, .ref q5, .ref q6, .ref q7, .ref q8, .ref q9, .ref q10])), (q7, .inr (8, [.ref q11, .ref q12, .ref q13, .int (zI (0))]))]) (isC := []) (isR := [0, 1]) (isP := [0, 1]) C (vv_cutI rfl rfl rfl rfl (by decide) (fun _ => rfl) rfl) (k81_X3_partsOf l hf G ) yy_X3_partsOf (vv_rmI rfl rfl (Nat.le_of_ble_eq_true rfl) (Nat.le_of_ble_eq_true rfl) (Nat.le_of_ble_eq_true rfl) (Nat.le_of_ble_eq_true rfl)) wm653 wm409 rfl rfl (Nat.le_of_ble_eq_true rfl) dX10_term_26 (fun v u hp => ?_)
  obtain rfl := hp
  refine vv_nrm (ws1 := [(q1, .inr (9, [.ref q2, .ref q3, .ref q4, .ref q5, .ref q6, .ref q7, .ref q8, .ref q9, .ref q10])), (q7, .inr (8, [.ref q11, .ref q12, .ref q13, .int (zI (0))]))]) (st1 := [.int (zI (1))]) rfl rfl ?_
  refine vv_goto C 33 dX10_term_29 (by decide) ?_
  refine vv_istore (loc1 := [(5, .int (zI (1))), (4, .int (zI (1))), (0, .ref q1), (1, .int (zI (2))), (2, .int (zI (v14))), (3, .int (zI (v15)))]) C dX10_term_33 (by decide) rfl ?_
  refine vv_iload C 0 dX10_term_35 rfl ?_
  refine vv_iconst (v := zI (1)) C dX10_term_37 rfl ?_
  refine vv_icmp_lt (tgt := 46) C dX10_term_38 (by decide) (by omega) (by omega) (fun h => by exfalso; omega) (fun h => ?_)
  refine vv_aload_n C 2 dX10_term_41 rfl rfl ?_
  refine vv_iload_n C 4 dX10_term_42 rfl rfl ?_
  refine vv_callVx (As := [.int (zI (v14))]) (rest := []) (wr := []) (ws3 := fun u => [(q1, .inr (9, [.ref q2, .ref q3, .ref q4, .ref q5, .ref q6, .ref q7, .ref q8, .ref q9, .ref q10])), (q7, .inr (8, [.ref q11, .ref q12, .ref q13, .int (zI (0))]))]) (isC := [0, 1]) (isR := []) (isX := [0, 1]) (ws2 := fun _ => []) (isP := []) C (vv_cutI rfl rfl rfl rfl (by decide) (fun _ => rfl) rfl) (vv_cutI rfl rfl rfl rfl (by decide) (fun _ => rfl) rfl) (k82_X10_needTerm l hf G q1 q2 q3 q4 q5 q6 q7 q8 q9 q10 q11 q12 q13 (v14) rv2) yy_X10_needTerm (vv_rmI rfl rfl (Nat.le_of_ble_eq_true rfl) (Nat.le_of_ble_eq_true rfl) (Nat.le_of_ble_eq_true rfl) (Nat.le_of_ble_eq_true rfl)) wm654 wm656 ws_selects_Latticework_Latticework_needTerm__I_V_Latticework_needTerm__I_V 0 rfl rfl rfl rfl (Nat.le_of_ble_eq_true rfl) dX10_term_43 (fun E9 u hp => ?_) (fun v u hp => hp.elim)
  obtain rfl := hp
  exact vv_out C htab ⟨Nat.le_of_ble_eq_true rfl, Nat.le_of_ble_eq_true rfl⟩ () rfl [0, 1] rfl rfl
set_option maxHeartbeats 4000000 in
set_option maxRecDepth 100000 in
theorem k84_L_term (l : Launch) (hf : l.stackTraces = false) (G : vv_G) (q1 q2 q3 q4 q5 q6 q7 q8 q9 q10 q11 q12 q13 q14 : Nat) (v15 : Int) (rv2 : -2147483648 ≤ v15 ∧ v15 < 2147483648) (v16 : Int) (rv3 : -2147483648 ≤ v16 ∧ v16 < 2147483648) : ∀ sz, Met l yL_term (Cond.codeWith yL_term cL_term 6 (some .int) [(0, 12, 15, 21), (0, 12, 19, 13), (0, 12, 23, 15)] :: gT) ({ frames := 8, cells := 1, slots := 6, locals := 140 } : Room) (va_Pc [.ref q1, .int (zI (2)), .int (zI (v15)), .int (zI (v16)), .ref q14] (vv_I G [(q1, .inr (9, [.ref q2, .ref q3, .ref q4, .ref q5, .ref q6, .ref q7, .ref q8, .ref q9, .ref q10])), (q7, .inr (8, [.ref q11, .ref q12, .ref q13, .int (zI (0))]))] sz)) (vv_Q G (fun v (u : Unit) => v = some (.int (zI (1)))) (fun u => [(q1, .inr (9, [.ref q2, .ref q3, .ref q4, .ref q5, .ref q6, .ref q7, .ref q8, .ref q9, .ref q10])), (q7, .inr (8, [.ref q11, .ref q12, .ref q13, .int (zI (0))]))]) (va_A [(q1, .inr (9, [.ref q2, .ref q3, .ref q4, .ref q5, .ref q6, .ref q7, .ref q8, .ref q9, .ref q10])), (q7, .inr (8, [.ref q11, .ref q12, .ref q13, .int (zI (0))]))] sz)) 1 6 (va_A [(q1, .inr (9, [.ref q2, .ref q3, .ref q4, .ref q5, .ref q6, .ref q7, .ref q8, .ref q9, .ref q10])), (q7, .inr (8, [.ref q11, .ref q12, .ref q13, .int (zI (0))]))] sz) := by
  refine vv_startW hf (by decide) (Nat.le_of_ble_eq_true rfl) ?_
  intro p e s m below meth c A C hnm htab
  refine vv_aload C 4 dL_term_0 rfl ?_
  refine vv_iconst (v := zI (0)) C dL_term_2 rfl ?_
  refine vv_aload_n C 0 dL_term_3 rfl rfl ?_
  refine vv_iload_n C 1 dL_term_4 rfl rfl ?_
  refine vv_iload_n C 2 dL_term_5 rfl rfl ?_
  refine vv_iload_n C 3 dL_term_6 rfl rfl ?_
  refine vv_callVx (As := [.int (zI (2)), .int (zI (v15)), .int (zI (v16))]) (rest := [.int (zI (0)), .ref q14]) (wr := []) (ws3 := fun u => [(q1, .inr (9, [.ref q2, .ref q3, .ref q4, .ref q5, .ref q6, .ref q7, .ref q8, .ref q9, .ref q10])), (q7, .inr (8, [.ref q11, .ref q12, .ref q13, .int (zI (0))]))]) (isC := [0, 1]) (isR := []) (isX := [0, 1]) (ws2 := fun _ => []) (isP := []) C (vv_cutI rfl rfl rfl rfl (by decide) (fun _ => rfl) rfl) (vv_cutI rfl rfl rfl rfl (by decide) (fun _ => rfl) rfl) (k83_X10_term l hf G q1 q2 q3 q4 q5 q6 q7 q8 q9 q10 q11 q12 q13 (v15) rv2 (v16) rv3) yy_X10_term (vv_rmI rfl rfl (Nat.le_of_ble_eq_true rfl) (Nat.le_of_ble_eq_true rfl) (Nat.le_of_ble_eq_true rfl) (Nat.le_of_ble_eq_true rfl)) wm646 wm647 wm648 0 rfl rfl rfl rfl (Nat.le_of_ble_eq_true rfl) dL_term_7 (fun E9 u hp => ?_) (fun v u hp => hp.elim)
  obtain rfl := hp
  refine vv_catch C htab [] ⟨0, 12, 15, 21⟩ [⟨0, 12, 19, 13⟩, ⟨0, 12, 23, 15⟩] rfl (fun z hz => nomatch hz) rfl (by decide) wm645 (by decide +kernel) (fun qe37 => ?_)
  refine vv_astore (loc1 := [(5, .ref qe37), (0, .ref q1), (1, .int (zI (2))), (2, .int (zI (v15))), (3, .int (zI (v16))), (4, .ref q14)]) C dL_term_15 (by decide) rfl ?_
  refine vv_iconst (v := zI (1)) C dL_term_17 rfl ?_
  exact vv_iret C (()) rfl [0, 1] rfl rfl ⟨Nat.le_of_ble_eq_true rfl, Nat.le_of_ble_eq_true rfl⟩ dL_term_18
set_option maxHeartbeats 4000000 in
set_option maxRecDepth 100000 in
theorem k85_X13_is (l : Launch) (hf : l.stackTraces = false) (G : vv_G)  : ∀ sz, Met l yX13_is (Cond.code yX13_is cX13_is 3 (some .boolean) :: gT) ({ frames := 0, cells := 0, slots := 0, locals := 0 } : Room) (va_Pc [.int (zI (2)), .int (zI (0)), .int (zI (5))] (vv_I G [] sz)) (vv_Q G (fun v (u : Unit) => v = some (.int (zI (1)))) (fun u => []) (va_A [] sz)) 0 0 (va_A [] sz) := by
  refine vv_start hf (by decide) (Nat.le_of_ble_eq_true rfl) ?_
  intro p e s m below meth c A C hnm
  refine vv_iload_n C 0 dX13_is_0 rfl rfl ?_
  refine vv_iload_n C 1 dX13_is_1 rfl rfl ?_
  refine vv_icmp_lt (tgt := 14) C dX13_is_2 (by decide) (by omega) (by omega) (fun h => by exfalso; omega) (fun h => ?_)
  refine vv_iload_n C 0 dX13_is_5 rfl rfl ?_
  refine vv_iload_n C 2 dX13_is_6 rfl rfl ?_
  refine vv_icmp_gt (tgt := 14) C dX13_is_7 (by decide) (by omega) (by omega) (fun h => by exfalso; omega) (fun h => ?_)
  refine vv_iconst (v := zI (1)) C dX13_is_10 rfl ?_
  refine vv_goto C 15 dX13_is_11 (by decide) ?_
  exact vv_zret C (by decide) (()) rfl [] rfl rfl ⟨Nat.le_of_ble_eq_true rfl, Nat.le_of_ble_eq_true rfl⟩ dX13_is_15
set_option maxHeartbeats 4000000 in
set_option maxRecDepth 100000 in
theorem k86_X13_parts (l : Launch) (hf : l.stackTraces = false) (G : vv_G)  : ∀ sz, Met l yX13_parts (Cond.code yX13_parts cX13_parts 1 (some .int) :: gT) ({ frames := 0, cells := 0, slots := 0, locals := 0 } : Room) (va_Pc [.int (zI (2))] (vv_I G [] sz)) (vv_Q G (fun v (u : Unit) => v = some (.int (zI (1)))) (fun u => []) (va_A [] sz)) 0 0 (va_A [] sz) := by
  refine vv_start hf (by decide) (Nat.le_of_ble_eq_true rfl) ?_
  intro p e s m below meth c A C hnm
  refine vv_iload_n C 0 dX13_parts_0 rfl rfl ?_
  refine vv_iconst (v := zI (2)) C dX13_parts_1 rfl ?_
  refine vv_icmp_lt (tgt := 10) C dX13_parts_2 (by decide) (by omega) (by omega) (fun h => by exfalso; omega) (fun h => ?_)
  refine vv_iload_n C 0 dX13_parts_5 rfl rfl ?_
  refine vv_iconst (v := zI (5)) C dX13_parts_6 rfl ?_
  refine vv_icmp_le (tgt := 14) C dX13_parts_7 (by decide) (by omega) (by omega) (fun h => ?_) (fun h => by exfalso; omega)
  refine vv_iload_n C 0 dX13_parts_14 rfl rfl ?_
  refine vv_iconst (v := zI (4)) C dX13_parts_15 rfl ?_
  refine vv_icmp_ge (tgt := 23) C dX13_parts_16 (by decide) (by omega) (by omega) (fun h => by exfalso; omega) (fun h => ?_)
  refine vv_iconst (v := zI (1)) C dX13_parts_19 rfl ?_
  refine vv_goto C 24 dX13_parts_20 (by decide) ?_
  exact vv_iret C (()) rfl [] rfl rfl ⟨Nat.le_of_ble_eq_true rfl, Nat.le_of_ble_eq_true rfl⟩ dX13_parts_24
set_option maxHeartbeats 4000000 in
set_option maxRecDepth 100000 in
theorem k87_X13_is (l : Launch) (hf : l.stackTraces = false) (G : vv_G)  (v1 : Int) (rv2 : -2147483648 ≤ v1 ∧ v1 < 2147483648) : ∀ sz, Met l yX13_is (Cond.code yX13_is cX13_is 3 (some .boolean) :: gT) ({ frames := 0, cells := 0, slots := 0, locals := 0 } : Room) (va_Pc [.int (zI (v1)), .int (zI (0)), .int (zI (-1))] (vv_I G [] sz)) (vv_Q G (fun v (u : Unit) => v = some (.int (zI (0)))) (fun u => []) (va_A [] sz)) 0 0 (va_A [] sz) := by
  refine vv_start hf (by decide) (Nat.le_of_ble_eq_true rfl) ?_
  intro p e s m below meth c A C hnm
  refine vv_iload_n C 0 dX13_is_0 rfl rfl ?_
  refine vv_iload_n C 1 dX13_is_1 rfl rfl ?_
  refine vv_icmp_lt (tgt := 14) C dX13_is_2 (by decide) (by omega) (by omega) (fun h38 => ?_) (fun h38 => ?_)
  · skip
    refine vv_iconst (v := zI (0)) C dX13_is_14 rfl ?_
    exact vv_zret C (by decide) (()) rfl [] rfl rfl ⟨Nat.le_of_ble_eq_true rfl, Nat.le_of_ble_eq_true rfl⟩ dX13_is_15
  · skip
    refine vv_iload_n C 0 dX13_is_5 rfl rfl ?_
    refine vv_iload_n C 2 dX13_is_6 rfl rfl ?_
    refine vv_icmp_gt (tgt := 14) C dX13_is_7 (by decide) (by omega) (by omega) (fun h => ?_) (fun h => by exfalso; omega)
    refine vv_iconst (v := zI (0)) C dX13_is_14 rfl ?_
    exact vv_zret C (by decide) (()) rfl [] rfl rfl ⟨Nat.le_of_ble_eq_true rfl, Nat.le_of_ble_eq_true rfl⟩ dX13_is_15
set_option maxHeartbeats 4000000 in
set_option maxRecDepth 100000 in
theorem k88_X13_isTerm (l : Launch) (hf : l.stackTraces = false) (G : vv_G) (q1 q2 q3 q4 q5 q6 q7 : Nat) (v8 : Int) (rv2 : -2147483648 ≤ v8 ∧ v8 < 2147483648) : ∀ sz, Met l yX13_isTerm (Cond.code yX13_isTerm cX13_isTerm 2 (some .boolean) :: gT) ({ frames := 1, cells := 0, slots := 0, locals := 22 } : Room) (va_Pc [.ref q1, .int (zI (v8))] (vv_I G [(q1, .inr (12, [.int (zI (0)), .ref q2, .ref q3, .ref q4, .ref q5, .ref q6, .ref q7, .long (0 : Int64)])), (q2, .inr (13, [.int (zI (0)), .ref (G.2.2 0), .int (zI (0))]))] sz)) (vv_Q G (fun v (u : Unit) => v = some (.int (zI (0)))) (fun u => [(q1, .inr (12, [.int (zI (0)), .ref q2, .ref q3, .ref q4, .ref q5, .ref q6, .ref q7, .long (0 : Int64)])), (q2, .inr (13, [.int (zI (0)), .ref (G.2.2 0), .int (zI (0))]))]) (va_A [(q1, .inr (12, [.int (zI (0)), .ref q2, .ref q3, .ref q4, .ref q5, .ref q6, .ref q7, .long (0 : Int64)])), (q2, .inr (13, [.int (zI (0)), .ref (G.2.2 0), .int (zI (0))]))] sz)) 0 0 (va_A [(q1, .inr (12, [.int (zI (0)), .ref q2, .ref q3, .ref q4, .ref q5, .ref q6, .ref q7, .long (0 : Int64)])), (q2, .inr (13, [.int (zI (0)), .ref (G.2.2 0), .int (zI (0))]))] sz) := by
  refine vv_start hf (by decide) (Nat.le_of_ble_eq_true rfl) ?_
  intro p e s m below meth c A C hnm
  refine vv_iload_n C 1 dX13_isTerm_0 rfl rfl ?_
  refine vv_iconst (v := zI (0)) C dX13_isTerm_1 rfl ?_
  refine vv_aload_n C 0 dX13_isTerm_2 rfl rfl ?_
  refine vv_get C 0 rfl rfl vi_X13 1 (by decide) wm1128 rfl dX13_isTerm_3 ?_
  refine vv_callV (As := []) (rest := [.int (zI (0)), .int (zI (v8))]) (wr := [(q1, .inr (12, [.int (zI (0)), .ref q2, .ref q3, .ref q4, .ref q5, .ref q6, .ref q7, .long (0 : Int64)]))]) (ws2 := fun u => [(q1, .inr (12, [.int (zI (0)), .ref q2, .ref q3, .ref q4, .ref q5, .ref q6, .ref q7, .long (0 : Int64)])), (q2, .inr (13, [.int (zI (0)), .ref (G.2.2 0), .int (zI (0))]))]) (isC := [1]) (isR := [0]) (isP := [0, 1]) C (vv_cutI rfl rfl rfl rfl (by decide) (fun _ => rfl) rfl) (k29_Jx4a65c_size_8abf5 l hf G q2) yy_Jx4a65c_size_8abf5 (vv_rmI rfl rfl (Nat.le_of_ble_eq_true rfl) (Nat.le_of_ble_eq_true rfl) (Nat.le_of_ble_eq_true rfl) (Nat.le_of_ble_eq_true rfl)) wm1175 wm1176 wm1177 0 rfl rfl rfl rfl (Nat.le_of_ble_eq_true rfl) dX13_isTerm_6 (fun v u hp => ?_)
  obtain rfl := hp
  refine vv_nrm (ws1 := [(q1, .inr (12, [.int (zI (0)), .ref q2, .ref q3, .ref q4, .ref q5, .ref q6, .ref q7, .long (0 : Int64)])), (q2, .inr (13, [.int (zI (0)), .ref (G.2.2 0), .int (zI (0))]))]) (st1 := [.int (zI (0)), .int (zI (0)), .int (zI (v8))]) rfl rfl ?_
  refine vv_iconst (v := zI (1)) C dX13_isTerm_9 rfl ?_
  refine vv_isub (z := zI (-1)) C dX13_isTerm_10 (by rw [zI_sub]; exact zI_c (by omega)) ?_
  refine vv_callS (As := [.int (zI (v8)), .int (zI (0)), .int (zI (-1))]) (rest := []) (wr := [(q1, .inr (12, [.int (zI (0)), .ref q2, .ref q3, .ref q4, .ref q5, .ref q6, .ref q7, .long (0 : Int64)])), (q2, .inr (13, [.int (zI (0)), .ref (G.2.2 0), .int (zI (0))]))]) (ws2 := fun u => [(q1, .inr (12, [.int (zI (0)), .ref q2, .ref q3, .ref q4, .ref q5, .ref q6, .ref q7, .long (0 : Int64)])), (q2, .inr (13, [.int (zI (0)), .ref (G.2.2 0), .int (zI (0))]))]) (isC := []) (isR := [0, 1]) (isP := [0, 1]) C (vv_cutI rfl rfl rfl rfl (by decide) (fun _ => rfl) rfl) (k87_X13_is l hf G  (v8) rv2) yy_X13_is (vv_rmI rfl rfl (Nat.le_of_ble_eq_true rfl) (Nat.le_of_ble_eq_true rfl) (Nat.le_of_ble_eq_true rfl) (Nat.le_of_ble_eq_true rfl)) wm1160 wm1161 rfl rfl (Nat.le_of_ble_eq_true rfl) dX13_isTerm_11 (fun v u hp => ?_)
  obtain rfl := hp
  refine vv_nrm (ws1 := [(q1, .inr (12, [.int (zI (0)), .ref q2, .ref q3, .ref q4, .ref q5, .ref q6, .ref q7, .long (0 : Int64)])), (q2, .inr (13, [.int (zI (0)), .ref (G.2.2 0), .int (zI (0))]))]) (st1 := [.int (zI (0))]) rfl rfl ?_
  exact vv_zret C (by decide) (()) rfl [0, 1] rfl rfl ⟨Nat.le_of_ble_eq_true rfl, Nat.le_of_ble_eq_true rfl⟩ dX13_isTerm_14
set_option maxHeartbeats 4000000 in
set_option maxRecDepth 100000 in
theorem k89_X13_term (l : Launch) (hf : l.stackTraces = false) (G : vv_G) (q1 q2 q3 q4 q5 q6 q7 : Nat) (v8 : Int) (rv2 : -2147483648 ≤ v8 ∧ v8 < 2147483648) (v9 : Int) (rv3 : -2147483648 ≤ v9 ∧ v9 < 2147483648) : ∀ sz, Met l yX13_term (Cond.code yX13_term cX13_term 8 (some .int) :: gT) ({ frames := 2, cells := 0, slots := 0, locals := 43 } : Room) (va_Pc [.ref q1, .int (zI (2)), .int (zI (v8)), .int (zI (v9))] (vv_I G [(q1, .inr (12, [.int (zI (0)), .ref q2, .ref q3, .ref q4, .ref q5, .ref q6, .ref q7, .long (0 : Int64)])), (q2, .inr (13, [.int (zI (0)), .ref (G.2.2 0), .int (zI (0))]))] sz)) (vv_Q G (fun v (u : Unit) => v = some (.int (zI (0)))) (fun u => [(q1, .inr (12, [.int (zI (1)), .ref q2, .ref q3, .ref q4, .ref q5, .ref q6, .ref q7, .long (0 : Int64)])), (q2, .inr (13, [.int (zI (0)), .ref (G.2.2 0), .int (zI (0))]))]) (va_A [(q1, .inr (12, [.int (zI (0)), .ref q2, .ref q3, .ref q4, .ref q5, .ref q6, .ref q7, .long (0 : Int64)])), (q2, .inr (13, [.int (zI (0)), .ref (G.2.2 0), .int (zI (0))]))] sz)) 0 0 (va_A [(q1, .inr (12, [.int (zI (0)), .ref q2, .ref q3, .ref q4, .ref q5, .ref q6, .ref q7, .long (0 : Int64)])), (q2, .inr (13, [.int (zI (0)), .ref (G.2.2 0), .int (zI (0))]))] sz) := by
  refine vv_start hf (by decide) (Nat.le_of_ble_eq_true rfl) ?_
  intro p e s m below meth c A C hnm
  refine vv_aload_n C 0 dX13_term_0 rfl rfl ?_
  refine vv_iconst (v := zI (0)) C dX13_term_1 rfl ?_
  refine vv_put (ws1 := [(q1, .inr (12, [.int (zI (0)), .ref q2, .ref q3, .ref q4, .ref q5, .ref q6, .ref q7, .long (0 : Int64)])), (q2, .inr (13, [.int (zI (0)), .ref (G.2.2 0), .int (zI (0))]))]) C 0 rfl rfl vi_X13 tyX13_ok nmX13 0 (by decide) wm1127 rfl rfl rfl (Nat.le_of_ble_eq_true rfl) rfl dX13_term_2 ?_
  refine vv_iload_n C 1 dX13_term_5 rfl rfl ?_
  refine vv_iconst (v := zI (0)) C dX13_term_6 rfl ?_
  refine vv_iconst (v := zI (5)) C dX13_term_7 rfl ?_
  refine vv_callS (As := [.int (zI (2)), .int (zI (0)), .int (zI (5))]) (rest := []) (wr := [(q1, .inr (12, [.int (zI (0)), .ref q2, .ref q3, .ref q4, .ref q5, .ref q6, .ref q7, .long (0 : Int64)])), (q2, .inr (13, [.int (zI (0)), .ref (G.2.2 0), .int (zI (0))]))]) (ws2 := fun u => [(q1, .inr (12, [.int (zI (0)), .ref q2, .ref q3, .ref q4, .ref q5, .ref q6, .ref q7, .long (0 : Int64)])), (q2, .inr (13, [.int (zI (0)), .ref (G.2.2 0), .int (zI (0))]))]) (isC := []) (isR := [0, 1]) (isP := [0, 1]) C (vv_cutI rfl rfl rfl rfl (by decide) (fun _ => rfl) rfl) (k85_X13_is l hf G ) yy_X13_is (vv_rmI rfl rfl (Nat.le_of_ble_eq_true rfl) (Nat.le_of_ble_eq_true rfl) (Nat.le_of_ble_eq_true rfl) (Nat.le_of_ble_eq_true rfl)) wm1160 wm1161 rfl rfl (Nat.le_of_ble_eq_true rfl) dX13_term_8 (fun v u hp => ?_)
  obtain rfl := hp
  refine vv_nrm (ws1 := [(q1, .inr (12, [.int (zI (0)), .ref q2, .ref q3, .ref q4, .ref q5, .ref q6, .ref q7, .long (0 : Int64)])), (q2, .inr (13, [.int (zI (0)), .ref (G.2.2 0), .int (zI (0))]))]) (st1 := [.int (zI (1))]) rfl rfl ?_
  refine vv_if_eq (tgt := 21) C dX13_term_11 (by decide) (by omega) (fun h => by exfalso; omega) (fun h => ?_)
  refine vv_iload_n C 1 dX13_term_14 rfl rfl ?_
  refine vv_callS (As := [.int (zI (2))]) (rest := []) (wr := [(q1, .inr (12, [.int (zI (0)), .ref q2, .ref q3, .ref q4, .ref q5, .ref q6, .ref q7, .long (0 : Int64)])), (q2, .inr (13, [.int (zI (0)), .ref (G.2.2 0), .int (zI (0))]))]) (ws2 := fun u => [(q1, .inr (12, [.int (zI (0)), .ref q2, .ref q3, .ref q4, .ref q5, .ref q6, .ref q7, .long (0 : Int64)])), (q2, .inr (13, [.int (zI (0)), .ref (G.2.2 0), .int (zI (0))]))]) (isC := []) (isR := [0, 1]) (isP := [0, 1]) C (vv_cutI rfl rfl rfl rfl (by decide) (fun _ => rfl) rfl) (k86_X13_parts l hf G ) yy_X13_parts (vv_rmI rfl rfl (Nat.le_of_ble_eq_true rfl) (Nat.le_of_ble_eq_true rfl) (Nat.le_of_ble_eq_true rfl) (Nat.le_of_ble_eq_true rfl)) wm1367 wm1368 rfl rfl (Nat.le_of_ble_eq_true rfl) dX13_term_15 (fun v u hp => ?_)
  obtain rfl := hp
  refine vv_nrm (ws1 := [(q1, .inr (12, [.int (zI (0)), .ref q2, .ref q3, .ref q4, .ref q5, .ref q6, .ref q7, .long (0 : Int64)])), (q2, .inr (13, [.int (zI (0)), .ref (G.2.2 0), .int (zI (0))]))]) (st1 := [.int (zI (1))]) rfl rfl ?_
  refine vv_goto C 22 dX13_term_18 (by decide) ?_
  refine vv_istore (loc1 := [(4, .int (zI (1))), (0, .ref q1), (1, .int (zI (2))), (2, .int (zI (v8))), (3, .int (zI (v9)))]) C dX13_term_22 (by decide) rfl ?_
  refine vv_iload C 0 dX13_term_24 rfl ?_
  refine vv_if_le (tgt := 37) C dX13_term_26 (by decide) (by omega) (fun h => by exfalso; omega) (fun h => ?_)
  refine vv_aload_n C 1 dX13_term_29 rfl rfl ?_
  refine vv_iload_n C 3 dX13_term_30 rfl rfl ?_
  refine vv_callV (As := [.int (zI (v8))]) (rest := []) (wr := []) (ws2 := fun u => [(q1, .inr (12, [.int (zI (0)), .ref q2, .ref q3, .ref q4, .ref q5, .ref q6, .ref q7, .long (0 : Int64)])), (q2, .inr (13, [.int (zI (0)), .ref (G.2.2 0), .int (zI (0))]))]) (isC := [0, 1]) (isR := []) (isP := [0, 1]) C (vv_cutI rfl rfl rfl rfl (by decide) (fun _ => rfl) rfl) (k88_X13_isTerm l hf G q1 q2 q3 q4 q5 q6 q7 (v8) rv2) yy_X13_isTerm (vv_rmI rfl rfl (Nat.le_of_ble_eq_true rfl) (Nat.le_of_ble_eq_true rfl) (Nat.le_of_ble_eq_true rfl) (Nat.le_of_ble_eq_true rfl)) wm1370 wm1372 ws_selects_LatticeworkModel_LatticeworkModel_isTerm__I_Z_LatticeworkModel_isTerm__I_Z 0 rfl rfl rfl rfl (Nat.le_of_ble_eq_true rfl) dX13_term_31 (fun v u hp => ?_)
  obtain rfl := hp
  refine vv_nrm (ws1 := [(q1, .inr (12, [.int (zI (0)), .ref q2, .ref q3, .ref q4, .ref q5, .ref q6, .ref q7, .long (0 : Int64)])), (q2, .inr (13, [.int (zI (0)), .ref (G.2.2 0), .int (zI (0))]))]) (st1 := [.int (zI (0))]) rfl rfl ?_
  refine vv_if_eq (tgt := 51) C dX13_term_34 (by decide) (by omega) (fun h => ?_) (fun h => by exfalso; omega)
  refine vv_aload_n C 1 dX13_term_51 rfl rfl ?_
  refine vv_iconst (v := zI (1)) C dX13_term_52 rfl ?_
  refine vv_callV (As := [.int (zI (1))]) (rest := []) (wr := [(q2, .inr (13, [.int (zI (0)), .ref (G.2.2 0), .int (zI (0))]))]) (ws2 := fun u => [(q1, .inr (12, [.int (zI (1)), .ref q2, .ref q3, .ref q4, .ref q5, .ref q6, .ref q7, .long (0 : Int64)])), (q2, .inr (13, [.int (zI (0)), .ref (G.2.2 0), .int (zI (0))]))]) (isC := [0]) (isR := [1]) (isP := [1, 0]) C (vv_cutI rfl rfl rfl rfl (by decide) (fun _ => rfl) rfl) (k20_X13_refuse l hf G q1 q2 q3 q4 q5 q6 q7) yy_X13_refuse (vv_rmI rfl rfl (Nat.le_of_ble_eq_true rfl) (Nat.le_of_ble_eq_true rfl) (Nat.le_of_ble_eq_true rfl) (Nat.le_of_ble_eq_true rfl)) wm1163 wm1165 ws_selects_LatticeworkModel_LatticeworkModel_refuse__I_I_LatticeworkModel_refuse__I_I 0 rfl rfl rfl rfl (Nat.le_of_ble_eq_true rfl) dX13_term_53 (fun v u hp => ?_)
  obtain rfl := hp
  refine vv_nrm (ws1 := [(q1, .inr (12, [.int (zI (1)), .ref q2, .ref q3, .ref q4, .ref q5, .ref q6, .ref q7, .long (0 : Int64)])), (q2, .inr (13, [.int (zI (0)), .ref (G.2.2 0), .int (zI (0))]))]) (st1 := [.int (zI (0))]) rfl rfl ?_
  exact vv_iret C (()) rfl [0, 1] rfl rfl ⟨Nat.le_of_ble_eq_true rfl, Nat.le_of_ble_eq_true rfl⟩ dX13_term_56
set_option maxHeartbeats 4000000 in
set_option maxRecDepth 100000 in
theorem k90_X3_codeOfSign (l : Launch) (hf : l.stackTraces = false) (G : vv_G)  : ∀ sz, Met l yX3_codeOfSign (Cond.code yX3_codeOfSign cX3_codeOfSign 1 (some .int) :: gT) ({ frames := 0, cells := 0, slots := 0, locals := 0 } : Room) (va_Pc [.int (zI (3))] (vv_I G [] sz)) (vv_Q G (fun v (u : Unit) => v = some (.int (zI (4)))) (fun u => []) (va_A [] sz)) 0 0 (va_A [] sz) := by
  refine vv_start hf (by decide) (Nat.le_of_ble_eq_true rfl) ?_
  intro p e s m below meth c A C hnm
  refine vv_iload_n C 0 dX3_codeOfSign_0 rfl rfl ?_
  refine vv_iconst (v := zI (1)) C dX3_codeOfSign_1 rfl ?_
  refine vv_iadd (z := zI (4)) C dX3_codeOfSign_2 (by rw [zI_add]; exact zI_c (by omega)) ?_
  exact vv_iret C (()) rfl [] rfl rfl ⟨Nat.le_of_ble_eq_true rfl, Nat.le_of_ble_eq_true rfl⟩ dX3_codeOfSign_3
set_option maxHeartbeats 4000000 in
set_option maxRecDepth 100000 in
theorem k91_X3_partsOf (l : Launch) (hf : l.stackTraces = false) (G : vv_G)  : ∀ sz, Met l yX3_partsOf (Cond.code yX3_partsOf cX3_partsOf 1 (some .int) :: gT) ({ frames := 0, cells := 0, slots := 0, locals := 0 } : Room) (va_Pc [.int (zI (4))] (vv_I G [] sz)) (vv_Q G (fun v (u : Unit) => v = some (.int (zI (1)))) (fun u => []) (va_A [] sz)) 0 0 (va_A [] sz) := by
  refine vv_start hf (by decide) (Nat.le_of_ble_eq_true rfl) ?_
  intro p e s m below meth c A C hnm
  refine vv_iload_n C 0 dX3_partsOf_0 rfl rfl ?_
  refine vv_tabIn (off := 31) C 32 dX3_partsOf_1 (by omega) (by omega) (by omega) rfl (by decide) ?_
  refine vv_iconst (v := zI (1)) C dX3_partsOf_32 rfl ?_
  exact vv_iret C (()) rfl [] rfl rfl ⟨Nat.le_of_ble_eq_true rfl, Nat.le_of_ble_eq_true rfl⟩ dX3_partsOf_33
set_option maxHeartbeats 4000000 in
set_option maxRecDepth 100000 in
theorem k92_X10_needTerm (l : Launch) (hf : l.stackTraces = false) (G : vv_G) (q1 q2 q3 q4 q5 q6 q7 q8 q9 q10 q11 q12 q13 : Nat) (v14 : Int) (rv2 : -2147483648 ≤ v14 ∧ v14 < 2147483648) : ∀ sz, vx_Met l yX10_needTerm (Cond.code yX10_needTerm cX10_needTerm 2 none :: gT) ({ frames := 6, cells := 1, slots := 6, locals := 90 } : Room) (va_Pc [.ref q1, .int (zI (v14))] (vv_I G [(q1, .inr (9, [.ref q2, .ref q3, .ref q4, .ref q5, .ref q6, .ref q7, .ref q8, .ref q9, .ref q10])), (q7, .inr (8, [.ref q11, .ref q12, .ref q13, .int (zI (0))]))] sz)) (vv_Q G (fun v (u : Unit) => False) (fun u => []) (va_A [(q1, .inr (9, [.ref q2, .ref q3, .ref q4, .ref q5, .ref q6, .ref q7, .ref q8, .ref q9, .ref q10])), (q7, .inr (8, [.ref q11, .ref q12, .ref q13, .int (zI (0))]))] sz)) (vv_XC G (fun E (u : Unit) => E = "java/lang/IndexOutOfBoundsException") (fun u => [(q1, .inr (9, [.ref q2, .ref q3, .ref q4, .ref q5, .ref q6, .ref q7, .ref q8, .ref q9, .ref q10])), (q7, .inr (8, [.ref q11, .ref q12, .ref q13, .int (zI (0))]))]) (va_A [(q1, .inr (9, [.ref q2, .ref q3, .ref q4, .ref q5, .ref q6, .ref q7, .ref q8, .ref q9, .ref q10])), (q7, .inr (8, [.ref q11, .ref q12, .ref q13, .int (zI (0))]))] sz)) 1 6 (va_A [(q1, .inr (9, [.ref q2, .ref q3, .ref q4, .ref q5, .ref q6, .ref q7, .ref q8, .ref q9, .ref q10])), (q7, .inr (8, [.ref q11, .ref q12, .ref q13, .int (zI (0))]))] sz) := by
  refine vv_startX hf (by decide) (Nat.le_of_ble_eq_true rfl) ?_
  intro p e s m below meth c A C hnm htab
  refine vv_iload_n C 1 dX10_needTerm_0 rfl rfl ?_
  refine vv_if_lt (tgt := 15) C dX10_needTerm_1 (by decide) (by omega) (fun h39 => ?_) (fun h39 => ?_)
  · skip
    exact vv_throwW C tw_X10_125_288 htab dX10_needTerm_15 dX10_needTerm_18 dX10_needTerm_19 dX10_needTerm_22 dX10_needTerm_25 ⟨Nat.le_of_ble_eq_true rfl, Nat.le_of_ble_eq_true rfl, Nat.le_of_ble_eq_true rfl, Nat.le_of_ble_eq_true rfl, Nat.le_of_ble_eq_true rfl, Nat.le_of_ble_eq_true rfl⟩ () rfl [0, 1] rfl rfl
  · skip
    refine vv_iload_n C 1 dX10_needTerm_4 rfl rfl ?_
    refine vv_aload_n C 0 dX10_needTerm_5 rfl rfl ?_
    refine vv_get C 0 rfl rfl vi_X10 5 (by decide) wm329 rfl dX10_needTerm_6 ?_
    refine vv_get C 1 rfl rfl vi_X9 3 (by decide) wm198 rfl dX10_needTerm_9 ?_
    refine vv_icmp_lt (tgt := 26) C dX10_needTerm_12 (by decide) (by omega) (by omega) (fun h => by exfalso; omega) (fun h => ?_)
    exact vv_throwW C tw_X10_125_288 htab dX10_needTerm_15 dX10_needTerm_18 dX10_needTerm_19 dX10_needTerm_22 dX10_needTerm_25 ⟨Nat.le_of_ble_eq_true rfl, Nat.le_of_ble_eq_true rfl, Nat.le_of_ble_eq_true rfl, Nat.le_of_ble_eq_true rfl, Nat.le_of_ble_eq_true rfl, Nat.le_of_ble_eq_true rfl⟩ () rfl [0, 1] rfl rfl
set_option maxHeartbeats 4000000 in
set_option maxRecDepth 100000 in
theorem k93_X10_term (l : Launch) (hf : l.stackTraces = false) (G : vv_G) (q1 q2 q3 q4 q5 q6 q7 q8 q9 q10 q11 q12 q13 : Nat) (v14 : Int) (rv2 : -2147483648 ≤ v14 ∧ v14 < 2147483648) (v15 : Int) (rv3 : -2147483648 ≤ v15 ∧ v15 < 2147483648) : ∀ sz, vx_Met l yX10_term (Cond.code yX10_term cX10_term 10 (some .int) :: gT) ({ frames := 7, cells := 1, slots := 6, locals := 111 } : Room) (va_Pc [.ref q1, .int (zI (3)), .int (zI (v14)), .int (zI (v15))] (vv_I G [(q1, .inr (9, [.ref q2, .ref q3, .ref q4, .ref q5, .ref q6, .ref q7, .ref q8, .ref q9, .ref q10])), (q7, .inr (8, [.ref q11, .ref q12, .ref q13, .int (zI (0))]))] sz)) (vv_Q G (fun v (u : Unit) => False) (fun u => []) (va_A [(q1, .inr (9, [.ref q2, .ref q3, .ref q4, .ref q5, .ref q6, .ref q7, .ref q8, .ref q9, .ref q10])), (q7, .inr (8, [.ref q11, .ref q12, .ref q13, .int (zI (0))]))] sz)) (vv_XC G (fun E (u : Unit) => E = "java/lang/IndexOutOfBoundsException") (fun u => [(q1, .inr (9, [.ref q2, .ref q3, .ref q4, .ref q5, .ref q6, .ref q7, .ref q8, .ref q9, .ref q10])), (q7, .inr (8, [.ref q11, .ref q12, .ref q13, .int (zI (0))]))]) (va_A [(q1, .inr (9, [.ref q2, .ref q3, .ref q4, .ref q5, .ref q6, .ref q7, .ref q8, .ref q9, .ref q10])), (q7, .inr (8, [.ref q11, .ref q12, .ref q13, .int (zI (0))]))] sz)) 1 6 (va_A [(q1, .inr (9, [.ref q2, .ref q3, .ref q4, .ref q5, .ref q6, .ref q7, .ref q8, .ref q9, .ref q10])), (q7, .inr (8, [.ref q11, .ref q12, .ref q13, .int (zI (0))]))] sz) := by
  refine vv_startX hf (by decide) (Nat.le_of_ble_eq_true rfl) ?_
  intro p e s m below meth c A C hnm htab
  refine vv_iload_n C 1 dX10_term_0 rfl rfl ?_
  refine vv_if_lt (tgt := 14) C dX10_term_1 (by decide) (by omega) (fun h => by exfalso; omega) (fun h => ?_)
  refine vv_iload_n C 1 dX10_term_4 rfl rfl ?_
  refine vv_bipush (v := zI (6)) C dX10_term_5 (by decide) ?_
  refine vv_icmp_ge (tgt := 14) C dX10_term_7 (by decide) (by omega) (by omega) (fun h => by exfalso; omega) (fun h => ?_)
  refine vv_iconst (v := zI (1)) C dX10_term_10 rfl ?_
  refine vv_goto C 15 dX10_term_11 (by decide) ?_
  refine vv_istore (loc1 := [(4, .int (zI (1))), (0, .ref q1), (1, .int (zI (3))), (2, .int (zI (v14))), (3, .int (zI (v15)))]) C dX10_term_15 (by decide) rfl ?_
  refine vv_iload C 0 dX10_term_17 rfl ?_
  refine vv_if_eq (tgt := 32) C dX10_term_19 (by decide) (by omega) (fun h => by exfalso; omega) (fun h => ?_)
  refine vv_iload_n C 2 dX10_term_22 rfl rfl ?_
  refine vv_callS (As := [.int (zI (3))]) (rest := []) (wr := [(q1, .inr (9, [.ref q2, .ref q3, .ref q4, .ref q5, .ref q6, .ref q7, .ref q8, .ref q9, .ref q10])), (q7, .inr (8, [.ref q11, .ref q12, .ref q13, .int (zI (0))]))]) (ws2 := fun u => [(q1, .inr (9, [.ref q2, .ref q3, .ref q4, .ref q5, .ref q6, .ref q7, .ref q8, .ref q9, .ref q10])), (q7, .inr (8, [.ref q11, .ref q12, .ref q13, .int (zI (0))]))]) (isC := []) (isR := [0, 1]) (isP := [0, 1]) C (vv_cutI rfl rfl rfl rfl (by decide) (fun _ => rfl) rfl) (k90_X3_codeOfSign l hf G ) yy_X3_codeOfSign (vv_rmI rfl rfl (Nat.le_of_ble_eq_true rfl) (Nat.le_of_ble_eq_true rfl) (Nat.le_of_ble_eq_true rfl) (Nat.le_of_ble_eq_true rfl)) wm650 wm651 rfl rfl (Nat.le_of_ble_eq_true rfl) dX10_term_23 (fun v u hp => ?_)
  obtain rfl := hp
  refine vv_nrm (ws1 := [(q1, .inr (9, [.ref q2, .ref q3, .ref q4, .ref q5, .ref q6, .ref q7, .ref q8, .ref q9, .ref q10])), (q7, .inr (8, [.ref q11, .ref q12, .ref q13, .int (zI (0))]))]) (st1 := [.int (zI (4))]) rfl rfl ?_
  refine vv_callS (As := [.int (zI (4))]) (rest := []) (wr := [(q1, .inr (9, [.ref q2, .ref q3, .ref q4, .ref q5, .ref q6, .ref q7, .ref q8, .ref q9, .ref q10])), (q7, .inr (8, [.ref q11, .ref q12, .ref q13, .int (zI (0))]))]) (ws2 := fun u => [(q1, .inr (9, [.ref q2, .ref q3, .ref q4, .ref q5, .ref q6, .ref q7, .ref q8, .ref q9, .ref q10])), (q7, .inr (8, [.ref q11, .ref q12, .ref q13, .int (zI (0))]))]) (isC := []) (isR := [0, 1]) (isP := [0, 1]) C (vv_cutI rfl rfl rfl rfl (by decide) (fun _ => rfl) rfl) (k91_X3_partsOf l hf G ) yy_X3_partsOf (vv_rmI rfl rfl (Nat.le_of_ble_eq_true rfl) (Nat.le_of_ble_eq_true rfl) (Nat.le_of_ble_eq_true rfl) (Nat.le_of_ble_eq_true rfl)) wm653 wm409 rfl rfl (Nat.le_of_ble_eq_true rfl) dX10_term_26 (fun v u hp => ?_)
  obtain rfl := hp
  refine vv_nrm (ws1 := [(q1, .inr (9, [.ref q2, .ref q3, .ref q4, .ref q5, .ref q6, .ref q7, .ref q8, .ref q9, .ref q10])), (q7, .inr (8, [.ref q11, .ref q12, .ref q13, .int (zI (0))]))]) (st1 := [.int (zI (1))]) rfl rfl ?_
  refine vv_goto C 33 dX10_term_29 (by decide) ?_
  refine vv_istore (loc1 := [(5, .int (zI (1))), (4, .int (zI (1))), (0, .ref q1), (1, .int (zI (3))), (2, .int (zI (v14))), (3, .int (zI (v15)))]) C dX10_term_33 (by decide) rfl ?_
  refine vv_iload C 0 dX10_term_35 rfl ?_
  refine vv_iconst (v := zI (1)) C dX10_term_37 rfl ?_
  refine vv_icmp_lt (tgt := 46) C dX10_term_38 (by decide) (by omega) (by omega) (fun h => by exfalso; omega) (fun h => ?_)
  refine vv_aload_n C 2 dX10_term_41 rfl rfl ?_
  refine vv_iload_n C 4 dX10_term_42 rfl rfl ?_
  refine vv_callVx (As := [.int (zI (v14))]) (rest := []) (wr := []) (ws3 := fun u => [(q1, .inr (9, [.ref q2, .ref q3, .ref q4, .ref q5, .ref q6, .ref q7, .ref q8, .ref q9, .ref q10])), (q7, .inr (8, [.ref q11, .ref q12, .ref q13, .int (zI (0))]))]) (isC := [0, 1]) (isR := []) (isX := [0, 1]) (ws2 := fun _ => []) (isP := []) C (vv_cutI rfl rfl rfl rfl (by decide) (fun _ => rfl) rfl) (vv_cutI rfl rfl rfl rfl (by decide) (fun _ => rfl) rfl) (k92_X10_needTerm l hf G q1 q2 q3 q4 q5 q6 q7 q8 q9 q10 q11 q12 q13 (v14) rv2) yy_X10_needTerm (vv_rmI rfl rfl (Nat.le_of_ble_eq_true rfl) (Nat.le_of_ble_eq_true rfl) (Nat.le_of_ble_eq_true rfl) (Nat.le_of_ble_eq_true rfl)) wm654 wm656 ws_selects_Latticework_Latticework_needTerm__I_V_Latticework_needTerm__I_V 0 rfl rfl rfl rfl (Nat.le_of_ble_eq_true rfl) dX10_term_43 (fun E9 u hp => ?_) (fun v u hp => hp.elim)
  obtain rfl := hp
  exact vv_out C htab ⟨Nat.le_of_ble_eq_true rfl, Nat.le_of_ble_eq_true rfl⟩ () rfl [0, 1] rfl rfl
set_option maxHeartbeats 4000000 in
set_option maxRecDepth 100000 in
theorem k94_L_term (l : Launch) (hf : l.stackTraces = false) (G : vv_G) (q1 q2 q3 q4 q5 q6 q7 q8 q9 q10 q11 q12 q13 q14 : Nat) (v15 : Int) (rv2 : -2147483648 ≤ v15 ∧ v15 < 2147483648) (v16 : Int) (rv3 : -2147483648 ≤ v16 ∧ v16 < 2147483648) : ∀ sz, Met l yL_term (Cond.codeWith yL_term cL_term 6 (some .int) [(0, 12, 15, 21), (0, 12, 19, 13), (0, 12, 23, 15)] :: gT) ({ frames := 8, cells := 1, slots := 6, locals := 140 } : Room) (va_Pc [.ref q1, .int (zI (3)), .int (zI (v15)), .int (zI (v16)), .ref q14] (vv_I G [(q1, .inr (9, [.ref q2, .ref q3, .ref q4, .ref q5, .ref q6, .ref q7, .ref q8, .ref q9, .ref q10])), (q7, .inr (8, [.ref q11, .ref q12, .ref q13, .int (zI (0))]))] sz)) (vv_Q G (fun v (u : Unit) => v = some (.int (zI (1)))) (fun u => [(q1, .inr (9, [.ref q2, .ref q3, .ref q4, .ref q5, .ref q6, .ref q7, .ref q8, .ref q9, .ref q10])), (q7, .inr (8, [.ref q11, .ref q12, .ref q13, .int (zI (0))]))]) (va_A [(q1, .inr (9, [.ref q2, .ref q3, .ref q4, .ref q5, .ref q6, .ref q7, .ref q8, .ref q9, .ref q10])), (q7, .inr (8, [.ref q11, .ref q12, .ref q13, .int (zI (0))]))] sz)) 1 6 (va_A [(q1, .inr (9, [.ref q2, .ref q3, .ref q4, .ref q5, .ref q6, .ref q7, .ref q8, .ref q9, .ref q10])), (q7, .inr (8, [.ref q11, .ref q12, .ref q13, .int (zI (0))]))] sz) := by
  refine vv_startW hf (by decide) (Nat.le_of_ble_eq_true rfl) ?_
  intro p e s m below meth c A C hnm htab
  refine vv_aload C 4 dL_term_0 rfl ?_
  refine vv_iconst (v := zI (0)) C dL_term_2 rfl ?_
  refine vv_aload_n C 0 dL_term_3 rfl rfl ?_
  refine vv_iload_n C 1 dL_term_4 rfl rfl ?_
  refine vv_iload_n C 2 dL_term_5 rfl rfl ?_
  refine vv_iload_n C 3 dL_term_6 rfl rfl ?_
  refine vv_callVx (As := [.int (zI (3)), .int (zI (v15)), .int (zI (v16))]) (rest := [.int (zI (0)), .ref q14]) (wr := []) (ws3 := fun u => [(q1, .inr (9, [.ref q2, .ref q3, .ref q4, .ref q5, .ref q6, .ref q7, .ref q8, .ref q9, .ref q10])), (q7, .inr (8, [.ref q11, .ref q12, .ref q13, .int (zI (0))]))]) (isC := [0, 1]) (isR := []) (isX := [0, 1]) (ws2 := fun _ => []) (isP := []) C (vv_cutI rfl rfl rfl rfl (by decide) (fun _ => rfl) rfl) (vv_cutI rfl rfl rfl rfl (by decide) (fun _ => rfl) rfl) (k93_X10_term l hf G q1 q2 q3 q4 q5 q6 q7 q8 q9 q10 q11 q12 q13 (v15) rv2 (v16) rv3) yy_X10_term (vv_rmI rfl rfl (Nat.le_of_ble_eq_true rfl) (Nat.le_of_ble_eq_true rfl) (Nat.le_of_ble_eq_true rfl) (Nat.le_of_ble_eq_true rfl)) wm646 wm647 wm648 0 rfl rfl rfl rfl (Nat.le_of_ble_eq_true rfl) dL_term_7 (fun E9 u hp => ?_) (fun v u hp => hp.elim)
  obtain rfl := hp
  refine vv_catch C htab [] ⟨0, 12, 15, 21⟩ [⟨0, 12, 19, 13⟩, ⟨0, 12, 23, 15⟩] rfl (fun z hz => nomatch hz) rfl (by decide) wm645 (by decide +kernel) (fun qe40 => ?_)
  refine vv_astore (loc1 := [(5, .ref qe40), (0, .ref q1), (1, .int (zI (3))), (2, .int (zI (v15))), (3, .int (zI (v16))), (4, .ref q14)]) C dL_term_15 (by decide) rfl ?_
  refine vv_iconst (v := zI (1)) C dL_term_17 rfl ?_
  exact vv_iret C (()) rfl [0, 1] rfl rfl ⟨Nat.le_of_ble_eq_true rfl, Nat.le_of_ble_eq_true rfl⟩ dL_term_18
set_option maxHeartbeats 4000000 in
set_option maxRecDepth 100000 in
theorem k95_X13_is (l : Launch) (hf : l.stackTraces = false) (G : vv_G)  : ∀ sz, Met l yX13_is (Cond.code yX13_is cX13_is 3 (some .boolean) :: gT) ({ frames := 0, cells := 0, slots := 0, locals := 0 } : Room) (va_Pc [.int (zI (3)), .int (zI (0)), .int (zI (5))] (vv_I G [] sz)) (vv_Q G (fun v (u : Unit) => v = some (.int (zI (1)))) (fun u => []) (va_A [] sz)) 0 0 (va_A [] sz) := by
  refine vv_start hf (by decide) (Nat.le_of_ble_eq_true rfl) ?_
  intro p e s m below meth c A C hnm
  refine vv_iload_n C 0 dX13_is_0 rfl rfl ?_
  refine vv_iload_n C 1 dX13_is_1 rfl rfl ?_
  refine vv_icmp_lt (tgt := 14) C dX13_is_2 (by decide) (by omega) (by omega) (fun h => by exfalso; omega) (fun h => ?_)
  refine vv_iload_n C 0 dX13_is_5 rfl rfl ?_
  refine vv_iload_n C 2 dX13_is_6 rfl rfl ?_
  refine vv_icmp_gt (tgt := 14) C dX13_is_7 (by decide) (by omega) (by omega) (fun h => by exfalso; omega) (fun h => ?_)
  refine vv_iconst (v := zI (1)) C dX13_is_10 rfl ?_
  refine vv_goto C 15 dX13_is_11 (by decide) ?_
  exact vv_zret C (by decide) (()) rfl [] rfl rfl ⟨Nat.le_of_ble_eq_true rfl, Nat.le_of_ble_eq_true rfl⟩ dX13_is_15
set_option maxHeartbeats 4000000 in
set_option maxRecDepth 100000 in
theorem k96_X13_parts (l : Launch) (hf : l.stackTraces = false) (G : vv_G)  : ∀ sz, Met l yX13_parts (Cond.code yX13_parts cX13_parts 1 (some .int) :: gT) ({ frames := 0, cells := 0, slots := 0, locals := 0 } : Room) (va_Pc [.int (zI (3))] (vv_I G [] sz)) (vv_Q G (fun v (u : Unit) => v = some (.int (zI (1)))) (fun u => []) (va_A [] sz)) 0 0 (va_A [] sz) := by
  refine vv_start hf (by decide) (Nat.le_of_ble_eq_true rfl) ?_
  intro p e s m below meth c A C hnm
  refine vv_iload_n C 0 dX13_parts_0 rfl rfl ?_
  refine vv_iconst (v := zI (2)) C dX13_parts_1 rfl ?_
  refine vv_icmp_lt (tgt := 10) C dX13_parts_2 (by decide) (by omega) (by omega) (fun h => by exfalso; omega) (fun h => ?_)
  refine vv_iload_n C 0 dX13_parts_5 rfl rfl ?_
  refine vv_iconst (v := zI (5)) C dX13_parts_6 rfl ?_
  refine vv_icmp_le (tgt := 14) C dX13_parts_7 (by decide) (by omega) (by omega) (fun h => ?_) (fun h => by exfalso; omega)
  refine vv_iload_n C 0 dX13_parts_14 rfl rfl ?_
  refine vv_iconst (v := zI (4)) C dX13_parts_15 rfl ?_
  refine vv_icmp_ge (tgt := 23) C dX13_parts_16 (by decide) (by omega) (by omega) (fun h => by exfalso; omega) (fun h => ?_)
  refine vv_iconst (v := zI (1)) C dX13_parts_19 rfl ?_
  refine vv_goto C 24 dX13_parts_20 (by decide) ?_
  exact vv_iret C (()) rfl [] rfl rfl ⟨Nat.le_of_ble_eq_true rfl, Nat.le_of_ble_eq_true rfl⟩ dX13_parts_24
set_option maxHeartbeats 4000000 in
set_option maxRecDepth 100000 in
theorem k97_X13_is (l : Launch) (hf : l.stackTraces = false) (G : vv_G)  (v1 : Int) (rv2 : -2147483648 ≤ v1 ∧ v1 < 2147483648) : ∀ sz, Met l yX13_is (Cond.code yX13_is cX13_is 3 (some .boolean) :: gT) ({ frames := 0, cells := 0, slots := 0, locals := 0 } : Room) (va_Pc [.int (zI (v1)), .int (zI (0)), .int (zI (-1))] (vv_I G [] sz)) (vv_Q G (fun v (u : Unit) => v = some (.int (zI (0)))) (fun u => []) (va_A [] sz)) 0 0 (va_A [] sz) := by
  refine vv_start hf (by decide) (Nat.le_of_ble_eq_true rfl) ?_
  intro p e s m below meth c A C hnm
  refine vv_iload_n C 0 dX13_is_0 rfl rfl ?_
  refine vv_iload_n C 1 dX13_is_1 rfl rfl ?_
  refine vv_icmp_lt (tgt := 14) C dX13_is_2 (by decide) (by omega) (by omega) (fun h41 => ?_) (fun h41 => ?_)
  · skip
    refine vv_iconst (v := zI (0)) C dX13_is_14 rfl ?_
    exact vv_zret C (by decide) (()) rfl [] rfl rfl ⟨Nat.le_of_ble_eq_true rfl, Nat.le_of_ble_eq_true rfl⟩ dX13_is_15
  · skip
    refine vv_iload_n C 0 dX13_is_5 rfl rfl ?_
    refine vv_iload_n C 2 dX13_is_6 rfl rfl ?_
    refine vv_icmp_gt (tgt := 14) C dX13_is_7 (by decide) (by omega) (by omega) (fun h => ?_) (fun h => by exfalso; omega)
    refine vv_iconst (v := zI (0)) C dX13_is_14 rfl ?_
    exact vv_zret C (by decide) (()) rfl [] rfl rfl ⟨Nat.le_of_ble_eq_true rfl, Nat.le_of_ble_eq_true rfl⟩ dX13_is_15
set_option maxHeartbeats 4000000 in
set_option maxRecDepth 100000 in
theorem k98_X13_isTerm (l : Launch) (hf : l.stackTraces = false) (G : vv_G) (q1 q2 q3 q4 q5 q6 q7 : Nat) (v8 : Int) (rv2 : -2147483648 ≤ v8 ∧ v8 < 2147483648) : ∀ sz, Met l yX13_isTerm (Cond.code yX13_isTerm cX13_isTerm 2 (some .boolean) :: gT) ({ frames := 1, cells := 0, slots := 0, locals := 22 } : Room) (va_Pc [.ref q1, .int (zI (v8))] (vv_I G [(q1, .inr (12, [.int (zI (0)), .ref q2, .ref q3, .ref q4, .ref q5, .ref q6, .ref q7, .long (0 : Int64)])), (q2, .inr (13, [.int (zI (0)), .ref (G.2.2 0), .int (zI (0))]))] sz)) (vv_Q G (fun v (u : Unit) => v = some (.int (zI (0)))) (fun u => [(q1, .inr (12, [.int (zI (0)), .ref q2, .ref q3, .ref q4, .ref q5, .ref q6, .ref q7, .long (0 : Int64)])), (q2, .inr (13, [.int (zI (0)), .ref (G.2.2 0), .int (zI (0))]))]) (va_A [(q1, .inr (12, [.int (zI (0)), .ref q2, .ref q3, .ref q4, .ref q5, .ref q6, .ref q7, .long (0 : Int64)])), (q2, .inr (13, [.int (zI (0)), .ref (G.2.2 0), .int (zI (0))]))] sz)) 0 0 (va_A [(q1, .inr (12, [.int (zI (0)), .ref q2, .ref q3, .ref q4, .ref q5, .ref q6, .ref q7, .long (0 : Int64)])), (q2, .inr (13, [.int (zI (0)), .ref (G.2.2 0), .int (zI (0))]))] sz) := by
  refine vv_start hf (by decide) (Nat.le_of_ble_eq_true rfl) ?_
  intro p e s m below meth c A C hnm
  refine vv_iload_n C 1 dX13_isTerm_0 rfl rfl ?_
  refine vv_iconst (v := zI (0)) C dX13_isTerm_1 rfl ?_
  refine vv_aload_n C 0 dX13_isTerm_2 rfl rfl ?_
  refine vv_get C 0 rfl rfl vi_X13 1 (by decide) wm1128 rfl dX13_isTerm_3 ?_
  refine vv_callV (As := []) (rest := [.int (zI (0)), .int (zI (v8))]) (wr := [(q1, .inr (12, [.int (zI (0)), .ref q2, .ref q3, .ref q4, .ref q5, .ref q6, .ref q7, .long (0 : Int64)]))]) (ws2 := fun u => [(q1, .inr (12, [.int (zI (0)), .ref q2, .ref q3, .ref q4, .ref q5, .ref q6, .ref q7, .long (0 : Int64)])), (q2, .inr (13, [.int (zI (0)), .ref (G.2.2 0), .int (zI (0))]))]) (isC := [1]) (isR := [0]) (isP := [0, 1]) C (vv_cutI rfl rfl rfl rfl (by decide) (fun _ => rfl) rfl) (k29_Jx4a65c_size_8abf5 l hf G q2) yy_Jx4a65c_size_8abf5 (vv_rmI rfl rfl (Nat.le_of_ble_eq_true rfl) (Nat.le_of_ble_eq_true rfl) (Nat.le_of_ble_eq_true rfl) (Nat.le_of_ble_eq_true rfl)) wm1175 wm1176 wm1177 0 rfl rfl rfl rfl (Nat.le_of_ble_eq_true rfl) dX13_isTerm_6 (fun v u hp => ?_)
  obtain rfl := hp
  refine vv_nrm (ws1 := [(q1, .inr (12, [.int (zI (0)), .ref q2, .ref q3, .ref q4, .ref q5, .ref q6, .ref q7, .long (0 : Int64)])), (q2, .inr (13, [.int (zI (0)), .ref (G.2.2 0), .int (zI (0))]))]) (st1 := [.int (zI (0)), .int (zI (0)), .int (zI (v8))]) rfl rfl ?_
  refine vv_iconst (v := zI (1)) C dX13_isTerm_9 rfl ?_
  refine vv_isub (z := zI (-1)) C dX13_isTerm_10 (by rw [zI_sub]; exact zI_c (by omega)) ?_
  refine vv_callS (As := [.int (zI (v8)), .int (zI (0)), .int (zI (-1))]) (rest := []) (wr := [(q1, .inr (12, [.int (zI (0)), .ref q2, .ref q3, .ref q4, .ref q5, .ref q6, .ref q7, .long (0 : Int64)])), (q2, .inr (13, [.int (zI (0)), .ref (G.2.2 0), .int (zI (0))]))]) (ws2 := fun u => [(q1, .inr (12, [.int (zI (0)), .ref q2, .ref q3, .ref q4, .ref q5, .ref q6, .ref q7, .long (0 : Int64)])), (q2, .inr (13, [.int (zI (0)), .ref (G.2.2 0), .int (zI (0))]))]) (isC := []) (isR := [0, 1]) (isP := [0, 1]) C (vv_cutI rfl rfl rfl rfl (by decide) (fun _ => rfl) rfl) (k97_X13_is l hf G  (v8) rv2) yy_X13_is (vv_rmI rfl rfl (Nat.le_of_ble_eq_true rfl) (Nat.le_of_ble_eq_true rfl) (Nat.le_of_ble_eq_true rfl) (Nat.le_of_ble_eq_true rfl)) wm1160 wm1161 rfl rfl (Nat.le_of_ble_eq_true rfl) dX13_isTerm_11 (fun v u hp => ?_)
  obtain rfl := hp
  refine vv_nrm (ws1 := [(q1, .inr (12, [.int (zI (0)), .ref q2, .ref q3, .ref q4, .ref q5, .ref q6, .ref q7, .long (0 : Int64)])), (q2, .inr (13, [.int (zI (0)), .ref (G.2.2 0), .int (zI (0))]))]) (st1 := [.int (zI (0))]) rfl rfl ?_
  exact vv_zret C (by decide) (()) rfl [0, 1] rfl rfl ⟨Nat.le_of_ble_eq_true rfl, Nat.le_of_ble_eq_true rfl⟩ dX13_isTerm_14
set_option maxHeartbeats 4000000 in
set_option maxRecDepth 100000 in
theorem k99_X13_term (l : Launch) (hf : l.stackTraces = false) (G : vv_G) (q1 q2 q3 q4 q5 q6 q7 : Nat) (v8 : Int) (rv2 : -2147483648 ≤ v8 ∧ v8 < 2147483648) (v9 : Int) (rv3 : -2147483648 ≤ v9 ∧ v9 < 2147483648) : ∀ sz, Met l yX13_term (Cond.code yX13_term cX13_term 8 (some .int) :: gT) ({ frames := 2, cells := 0, slots := 0, locals := 43 } : Room) (va_Pc [.ref q1, .int (zI (3)), .int (zI (v8)), .int (zI (v9))] (vv_I G [(q1, .inr (12, [.int (zI (0)), .ref q2, .ref q3, .ref q4, .ref q5, .ref q6, .ref q7, .long (0 : Int64)])), (q2, .inr (13, [.int (zI (0)), .ref (G.2.2 0), .int (zI (0))]))] sz)) (vv_Q G (fun v (u : Unit) => v = some (.int (zI (0)))) (fun u => [(q1, .inr (12, [.int (zI (1)), .ref q2, .ref q3, .ref q4, .ref q5, .ref q6, .ref q7, .long (0 : Int64)])), (q2, .inr (13, [.int (zI (0)), .ref (G.2.2 0), .int (zI (0))]))]) (va_A [(q1, .inr (12, [.int (zI (0)), .ref q2, .ref q3, .ref q4, .ref q5, .ref q6, .ref q7, .long (0 : Int64)])), (q2, .inr (13, [.int (zI (0)), .ref (G.2.2 0), .int (zI (0))]))] sz)) 0 0 (va_A [(q1, .inr (12, [.int (zI (0)), .ref q2, .ref q3, .ref q4, .ref q5, .ref q6, .ref q7, .long (0 : Int64)])), (q2, .inr (13, [.int (zI (0)), .ref (G.2.2 0), .int (zI (0))]))] sz) := by
  refine vv_start hf (by decide) (Nat.le_of_ble_eq_true rfl) ?_
  intro p e s m below meth c A C hnm
  refine vv_aload_n C 0 dX13_term_0 rfl rfl ?_
  refine vv_iconst (v := zI (0)) C dX13_term_1 rfl ?_
  refine vv_put (ws1 := [(q1, .inr (12, [.int (zI (0)), .ref q2, .ref q3, .ref q4, .ref q5, .ref q6, .ref q7, .long (0 : Int64)])), (q2, .inr (13, [.int (zI (0)), .ref (G.2.2 0), .int (zI (0))]))]) C 0 rfl rfl vi_X13 tyX13_ok nmX13 0 (by decide) wm1127 rfl rfl rfl (Nat.le_of_ble_eq_true rfl) rfl dX13_term_2 ?_
  refine vv_iload_n C 1 dX13_term_5 rfl rfl ?_
  refine vv_iconst (v := zI (0)) C dX13_term_6 rfl ?_
  refine vv_iconst (v := zI (5)) C dX13_term_7 rfl ?_
  refine vv_callS (As := [.int (zI (3)), .int (zI (0)), .int (zI (5))]) (rest := []) (wr := [(q1, .inr (12, [.int (zI (0)), .ref q2, .ref q3, .ref q4, .ref q5, .ref q6, .ref q7, .long (0 : Int64)])), (q2, .inr (13, [.int (zI (0)), .ref (G.2.2 0), .int (zI (0))]))]) (ws2 := fun u => [(q1, .inr (12, [.int (zI (0)), .ref q2, .ref q3, .ref q4, .ref q5, .ref q6, .ref q7, .long (0 : Int64)])), (q2, .inr (13, [.int (zI (0)), .ref (G.2.2 0), .int (zI (0))]))]) (isC := []) (isR := [0, 1]) (isP := [0, 1]) C (vv_cutI rfl rfl rfl rfl (by decide) (fun _ => rfl) rfl) (k95_X13_is l hf G ) yy_X13_is (vv_rmI rfl rfl (Nat.le_of_ble_eq_true rfl) (Nat.le_of_ble_eq_true rfl) (Nat.le_of_ble_eq_true rfl) (Nat.le_of_ble_eq_true rfl)) wm1160 wm1161 rfl rfl (Nat.le_of_ble_eq_true rfl) dX13_term_8 (fun v u hp => ?_)
  obtain rfl := hp
  refine vv_nrm (ws1 := [(q1, .inr (12, [.int (zI (0)), .ref q2, .ref q3, .ref q4, .ref q5, .ref q6, .ref q7, .long (0 : Int64)])), (q2, .inr (13, [.int (zI (0)), .ref (G.2.2 0), .int (zI (0))]))]) (st1 := [.int (zI (1))]) rfl rfl ?_
  refine vv_if_eq (tgt := 21) C dX13_term_11 (by decide) (by omega) (fun h => by exfalso; omega) (fun h => ?_)
  refine vv_iload_n C 1 dX13_term_14 rfl rfl ?_
  refine vv_callS (As := [.int (zI (3))]) (rest := []) (wr := [(q1, .inr (12, [.int (zI (0)), .ref q2, .ref q3, .ref q4, .ref q5, .ref q6, .ref q7, .long (0 : Int64)])), (q2, .inr (13, [.int (zI (0)), .ref (G.2.2 0), .int (zI (0))]))]) (ws2 := fun u => [(q1, .inr (12, [.int (zI (0)), .ref q2, .ref q3, .ref q4, .ref q5, .ref q6, .ref q7, .long (0 : Int64)])), (q2, .inr (13, [.int (zI (0)), .ref (G.2.2 0), .int (zI (0))]))]) (isC := []) (isR := [0, 1]) (isP := [0, 1]) C (vv_cutI rfl rfl rfl rfl (by decide) (fun _ => rfl) rfl) (k96_X13_parts l hf G ) yy_X13_parts (vv_rmI rfl rfl (Nat.le_of_ble_eq_true rfl) (Nat.le_of_ble_eq_true rfl) (Nat.le_of_ble_eq_true rfl) (Nat.le_of_ble_eq_true rfl)) wm1367 wm1368 rfl rfl (Nat.le_of_ble_eq_true rfl) dX13_term_15 (fun v u hp => ?_)
  obtain rfl := hp
  refine vv_nrm (ws1 := [(q1, .inr (12, [.int (zI (0)), .ref q2, .ref q3, .ref q4, .ref q5, .ref q6, .ref q7, .long (0 : Int64)])), (q2, .inr (13, [.int (zI (0)), .ref (G.2.2 0), .int (zI (0))]))]) (st1 := [.int (zI (1))]) rfl rfl ?_
  refine vv_goto C 22 dX13_term_18 (by decide) ?_
  refine vv_istore (loc1 := [(4, .int (zI (1))), (0, .ref q1), (1, .int (zI (3))), (2, .int (zI (v8))), (3, .int (zI (v9)))]) C dX13_term_22 (by decide) rfl ?_
  refine vv_iload C 0 dX13_term_24 rfl ?_
  refine vv_if_le (tgt := 37) C dX13_term_26 (by decide) (by omega) (fun h => by exfalso; omega) (fun h => ?_)
  refine vv_aload_n C 1 dX13_term_29 rfl rfl ?_
  refine vv_iload_n C 3 dX13_term_30 rfl rfl ?_
  refine vv_callV (As := [.int (zI (v8))]) (rest := []) (wr := []) (ws2 := fun u => [(q1, .inr (12, [.int (zI (0)), .ref q2, .ref q3, .ref q4, .ref q5, .ref q6, .ref q7, .long (0 : Int64)])), (q2, .inr (13, [.int (zI (0)), .ref (G.2.2 0), .int (zI (0))]))]) (isC := [0, 1]) (isR := []) (isP := [0, 1]) C (vv_cutI rfl rfl rfl rfl (by decide) (fun _ => rfl) rfl) (k98_X13_isTerm l hf G q1 q2 q3 q4 q5 q6 q7 (v8) rv2) yy_X13_isTerm (vv_rmI rfl rfl (Nat.le_of_ble_eq_true rfl) (Nat.le_of_ble_eq_true rfl) (Nat.le_of_ble_eq_true rfl) (Nat.le_of_ble_eq_true rfl)) wm1370 wm1372 ws_selects_LatticeworkModel_LatticeworkModel_isTerm__I_Z_LatticeworkModel_isTerm__I_Z 0 rfl rfl rfl rfl (Nat.le_of_ble_eq_true rfl) dX13_term_31 (fun v u hp => ?_)
  obtain rfl := hp
  refine vv_nrm (ws1 := [(q1, .inr (12, [.int (zI (0)), .ref q2, .ref q3, .ref q4, .ref q5, .ref q6, .ref q7, .long (0 : Int64)])), (q2, .inr (13, [.int (zI (0)), .ref (G.2.2 0), .int (zI (0))]))]) (st1 := [.int (zI (0))]) rfl rfl ?_
  refine vv_if_eq (tgt := 51) C dX13_term_34 (by decide) (by omega) (fun h => ?_) (fun h => by exfalso; omega)
  refine vv_aload_n C 1 dX13_term_51 rfl rfl ?_
  refine vv_iconst (v := zI (1)) C dX13_term_52 rfl ?_
  refine vv_callV (As := [.int (zI (1))]) (rest := []) (wr := [(q2, .inr (13, [.int (zI (0)), .ref (G.2.2 0), .int (zI (0))]))]) (ws2 := fun u => [(q1, .inr (12, [.int (zI (1)), .ref q2, .ref q3, .ref q4, .ref q5, .ref q6, .ref q7, .long (0 : Int64)])), (q2, .inr (13, [.int (zI (0)), .ref (G.2.2 0), .int (zI (0))]))]) (isC := [0]) (isR := [1]) (isP := [1, 0]) C (vv_cutI rfl rfl rfl rfl (by decide) (fun _ => rfl) rfl) (k20_X13_refuse l hf G q1 q2 q3 q4 q5 q6 q7) yy_X13_refuse (vv_rmI rfl rfl (Nat.le_of_ble_eq_true rfl) (Nat.le_of_ble_eq_true rfl) (Nat.le_of_ble_eq_true rfl) (Nat.le_of_ble_eq_true rfl)) wm1163 wm1165 ws_selects_LatticeworkModel_LatticeworkModel_refuse__I_I_LatticeworkModel_refuse__I_I 0 rfl rfl rfl rfl (Nat.le_of_ble_eq_true rfl) dX13_term_53 (fun v u hp => ?_)
  obtain rfl := hp
  refine vv_nrm (ws1 := [(q1, .inr (12, [.int (zI (1)), .ref q2, .ref q3, .ref q4, .ref q5, .ref q6, .ref q7, .long (0 : Int64)])), (q2, .inr (13, [.int (zI (0)), .ref (G.2.2 0), .int (zI (0))]))]) (st1 := [.int (zI (0))]) rfl rfl ?_
  exact vv_iret C (()) rfl [0, 1] rfl rfl ⟨Nat.le_of_ble_eq_true rfl, Nat.le_of_ble_eq_true rfl⟩ dX13_term_56
set_option maxHeartbeats 4000000 in
set_option maxRecDepth 100000 in
theorem k100_X3_codeOfSign (l : Launch) (hf : l.stackTraces = false) (G : vv_G)  : ∀ sz, Met l yX3_codeOfSign (Cond.code yX3_codeOfSign cX3_codeOfSign 1 (some .int) :: gT) ({ frames := 0, cells := 0, slots := 0, locals := 0 } : Room) (va_Pc [.int (zI (4))] (vv_I G [] sz)) (vv_Q G (fun v (u : Unit) => v = some (.int (zI (5)))) (fun u => []) (va_A [] sz)) 0 0 (va_A [] sz) := by
  refine vv_start hf (by decide) (Nat.le_of_ble_eq_true rfl) ?_
  intro p e s m below meth c A C hnm
  refine vv_iload_n C 0 dX3_codeOfSign_0 rfl rfl ?_
  refine vv_iconst (v := zI (1)) C dX3_codeOfSign_1 rfl ?_
  refine vv_iadd (z := zI (5)) C dX3_codeOfSign_2 (by rw [zI_add]; exact zI_c (by omega)) ?_
  exact vv_iret C (()) rfl [] rfl rfl ⟨Nat.le_of_ble_eq_true rfl, Nat.le_of_ble_eq_true rfl⟩ dX3_codeOfSign_3
set_option maxHeartbeats 4000000 in
set_option maxRecDepth 100000 in
theorem k101_X3_partsOf (l : Launch) (hf : l.stackTraces = false) (G : vv_G)  : ∀ sz, Met l yX3_partsOf (Cond.code yX3_partsOf cX3_partsOf 1 (some .int) :: gT) ({ frames := 0, cells := 0, slots := 0, locals := 0 } : Room) (va_Pc [.int (zI (5))] (vv_I G [] sz)) (vv_Q G (fun v (u : Unit) => v = some (.int (zI (2)))) (fun u => []) (va_A [] sz)) 0 0 (va_A [] sz) := by
  refine vv_start hf (by decide) (Nat.le_of_ble_eq_true rfl) ?_
  intro p e s m below meth c A C hnm
  refine vv_iload_n C 0 dX3_partsOf_0 rfl rfl ?_
  refine vv_tabIn (off := 33) C 34 dX3_partsOf_1 (by omega) (by omega) (by omega) rfl (by decide) ?_
  refine vv_iconst (v := zI (2)) C dX3_partsOf_34 rfl ?_
  exact vv_iret C (()) rfl [] rfl rfl ⟨Nat.le_of_ble_eq_true rfl, Nat.le_of_ble_eq_true rfl⟩ dX3_partsOf_35
set_option maxHeartbeats 4000000 in
set_option maxRecDepth 100000 in
theorem k102_X10_needTerm (l : Launch) (hf : l.stackTraces = false) (G : vv_G) (q1 q2 q3 q4 q5 q6 q7 q8 q9 q10 q11 q12 q13 : Nat) (v14 : Int) (rv2 : -2147483648 ≤ v14 ∧ v14 < 2147483648) : ∀ sz, vx_Met l yX10_needTerm (Cond.code yX10_needTerm cX10_needTerm 2 none :: gT) ({ frames := 6, cells := 1, slots := 6, locals := 90 } : Room) (va_Pc [.ref q1, .int (zI (v14))] (vv_I G [(q1, .inr (9, [.ref q2, .ref q3, .ref q4, .ref q5, .ref q6, .ref q7, .ref q8, .ref q9, .ref q10])), (q7, .inr (8, [.ref q11, .ref q12, .ref q13, .int (zI (0))]))] sz)) (vv_Q G (fun v (u : Unit) => False) (fun u => []) (va_A [(q1, .inr (9, [.ref q2, .ref q3, .ref q4, .ref q5, .ref q6, .ref q7, .ref q8, .ref q9, .ref q10])), (q7, .inr (8, [.ref q11, .ref q12, .ref q13, .int (zI (0))]))] sz)) (vv_XC G (fun E (u : Unit) => E = "java/lang/IndexOutOfBoundsException") (fun u => [(q1, .inr (9, [.ref q2, .ref q3, .ref q4, .ref q5, .ref q6, .ref q7, .ref q8, .ref q9, .ref q10])), (q7, .inr (8, [.ref q11, .ref q12, .ref q13, .int (zI (0))]))]) (va_A [(q1, .inr (9, [.ref q2, .ref q3, .ref q4, .ref q5, .ref q6, .ref q7, .ref q8, .ref q9, .ref q10])), (q7, .inr (8, [.ref q11, .ref q12, .ref q13, .int (zI (0))]))] sz)) 1 6 (va_A [(q1, .inr (9, [.ref q2, .ref q3, .ref q4, .ref q5, .ref q6, .ref q7, .ref q8, .ref q9, .ref q10])), (q7, .inr (8, [.ref q11, .ref q12, .ref q13, .int (zI (0))]))] sz) := by
  refine vv_startX hf (by decide) (Nat.le_of_ble_eq_true rfl) ?_
  intro p e s m below meth c A C hnm htab
  refine vv_iload_n C 1 dX10_needTerm_0 rfl rfl ?_
  refine vv_if_lt (tgt := 15) C dX10_needTerm_1 (by decide) (by omega) (fun h42 => ?_) (fun h42 => ?_)
  · skip
    exact vv_throwW C tw_X10_125_288 htab dX10_needTerm_15 dX10_needTerm_18 dX10_needTerm_19 dX10_needTerm_22 dX10_needTerm_25 ⟨Nat.le_of_ble_eq_true rfl, Nat.le_of_ble_eq_true rfl, Nat.le_of_ble_eq_true rfl, Nat.le_of_ble_eq_true rfl, Nat.le_of_ble_eq_true rfl, Nat.le_of_ble_eq_true rfl⟩ () rfl [0, 1] rfl rfl
  · skip
    refine vv_iload_n C 1 dX10_needTerm_4 rfl rfl ?_
    refine vv_aload_n C 0 dX10_needTerm_5 rfl rfl ?_
    refine vv_get C 0 rfl rfl vi_X10 5 (by decide) wm329 rfl dX10_needTerm_6 ?_
    refine vv_get C 1 rfl rfl vi_X9 3 (by decide) wm198 rfl dX10_needTerm_9 ?_
    refine vv_icmp_lt (tgt := 26) C dX10_needTerm_12 (by decide) (by omega) (by omega) (fun h => by exfalso; omega) (fun h => ?_)
    exact vv_throwW C tw_X10_125_288 htab dX10_needTerm_15 dX10_needTerm_18 dX10_needTerm_19 dX10_needTerm_22 dX10_needTerm_25 ⟨Nat.le_of_ble_eq_true rfl, Nat.le_of_ble_eq_true rfl, Nat.le_of_ble_eq_true rfl, Nat.le_of_ble_eq_true rfl, Nat.le_of_ble_eq_true rfl, Nat.le_of_ble_eq_true rfl⟩ () rfl [0, 1] rfl rfl
