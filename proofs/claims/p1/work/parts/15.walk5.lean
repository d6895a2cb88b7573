set_option maxHeartbeats 4000000 in
set_option maxRecDepth 100000 in
theorem k103_X10_term (l : Launch) (hf : l.stackTraces = false) (G : vv_G) (q1 q2 q3 q4 q5 q6 q7 q8 q9 q10 q11 q12 q13 : Nat) (v14 : Int) (rv2 : -2147483648 ≤ v14 ∧ v14 < 2147483648) (v15 : Int) (rv3 : -2147483648 ≤ v15 ∧ v15 < 2147483648) : ∀ sz, vx_Met l yX10_term (Cond.code yX10_term cX10_term 10 (some .int) :: gT) ({ frames := 7, cells := 1, slots := 6, locals := 111 } : Room) (va_Pc [.ref q1, .int (zI (4)), .int (zI (v14)), .int (zI (v15))] (vv_I G [(q1, .inr (9, [.ref q2, .ref q3, .ref q4, .ref q5, .ref q6, .ref q7, .ref q8, .ref q9, .ref q10])), (q7, .inr (8, [.ref q11, .ref q12, .ref q13, .int (zI (0))]))] sz)) (vv_Q G (fun v (u : Unit) => False) (fun u => []) (va_A [(q1, .inr (9, [.ref q2, .ref q3, .ref q4, .ref q5, .ref q6, .ref q7, .ref q8, .ref q9, .ref q10])), (q7, .inr (8, [.ref q11, .ref q12, .ref q13, .int (zI (0))]))] sz)) (vv_XC G (fun E (u : Unit) => E = "java/lang/IndexOutOfBoundsException") (fun u => [(q1, .inr (9, [.ref q2, .ref q3, .ref q4, .ref q5, .ref q6, .ref q7, .ref q8, .ref q9, .ref q10])), (q7, .inr (8, [.ref q11, .ref q12, .ref q13, .int (zI (0))]))]) (va_A [(q1, .inr (9, [.ref q2, .ref q3, .ref q4, .ref q5, .ref q6, .ref q7, .ref q8, .ref q9, .ref q10])), (q7, .inr (8, [.ref q11, .ref q12, .ref q13, .int (zI (0))]))] sz)) 1 6 (va_A [(q1, .inr (9, [.ref q2, .ref q3, .ref q4, .ref q5, .ref q6, .ref q7, .ref q8, .ref q9, .ref q10])), (q7, .inr (8, [.ref q11, .ref q12, .ref q13, .int (zI (0))]))] sz) := by
  refine vv_startX hf (by decide) (Nat.le_of_ble_eq_true rfl) ?_
  intro p e s m below meth c A C hnm htab
  refine vv_iload_n C 1 dX10_term_0 rfl rfl ?_
  refine vv_if_lt (tgt := 14) C dX10_term_1 (by decide) (by omega) (fun h => by exfalso; omega) (fun h => ?_)
  refine vv_iload_n C 1 dX10_term_4 rfl rfl ?_
  refine vv_bipush (v := zI (6)) C dX10_term_5 (by decide) ?_
  refine vv_icmp_ge (tgt := 14) C dX10_term_7 (by decide) (by omega) (by omega) (fun h => by exfalso; omega) (fun h => ?_)
  refine vv_iconst (v := zI (1)) C dX10_term_10 rfl ?_
  refine vv_goto C 15 dX10_term_11 (by decide) ?_
  refine vv_istore (loc1 := [(4, .int (zI (1))), (0, .ref q1), (1, .int (zI (4))), (2, .int (zI (v14))), (3, .int (zI (v15)))]) C dX10_term_15 (by decide) rfl ?_
  refine vv_iload C 0 dX10_term_17 rfl ?_
  refine vv_if_eq (tgt := 32) C dX10_term_19 (by decide) (by omega) (fun h => by exfalso; omega) (fun h => ?_)
  refine vv_iload_n C 2 dX10_term_22 rfl rfl ?_
  refine vv_callS (As := [.int (zI (4))]) (rest := []) (wr := [(q1, .inr (9, [.ref q2, .ref q3, .ref q4, .ref q5, .ref q6, .ref q7, .ref q8, .ref q9, .ref q10])), (q7, .inr (8, [.ref q11, .ref q12, .ref q13, .int (zI (0))]))]) (ws2 := fun u => [(q1, .inr (9, [.ref q2, .ref q3, .ref q4, .ref q5, .ref q6, .ref q7, .ref q8, .ref q9, .ref q10])), (q7, .inr (8, [.ref q11, .ref q12, .ref q13, .int (zI (0))]))]) (isC := []) (isR := [0, 1]) (isP := [0, 1]) C (vv_cutI rfl rfl rfl rfl (by decide) (fun _ => rfl) rfl) (k100_X3_codeOfSign l hf G ) yy_X3_codeOfSign (vv_rmI rfl rfl (Nat.le_of_ble_eq_true rfl) (Nat.le_of_ble_eq_true rfl) (Nat.le_of_ble_eq_true rfl) (Nat.le_of_ble_eq_true rfl)) wm650 wm651 rfl rfl (Nat.le_of_ble_eq_true rfl) dX10_term_23 (fun v u hp => ?_)
  obtain rfl := hp
  refine vv_nrm (ws1 := [(q1, .inr (9, [.ref q2, .ref q3, .ref q4, .ref q5, .ref q6, .ref q7, .ref q8, .ref q9, .ref q10])), (q7, .inr (8, [.ref q11, .ref q12, .ref q13, .int (zI (0))]))]) (st1 := [.int (zI (5))]) rfl rfl ?_
  refine vv_callS (As := [.int (zI (5))]) (rest := []) (wr := [(q1, .inr (9, [.ref q2, .ref q3, .ref q4, .ref q5, .ref q6, .ref q7, .ref q8, .ref q9, .ref q10])), (q7, .inr (8, [.ref q11, .ref q12, .ref q13, .int (zI (0))]))]) (ws2 := fun u => [(q1, .inr (9, [.ref q2, .ref q3, .ref q4, .ref q5, .ref q6, .ref q7, .ref q8, .ref q9, .ref q10])), (q7, .inr (8, [.ref q11, .ref q12, .ref q13, .int (zI (0))]))]) (isC := []) (isR := [0, 1]) (isP := [0, 1]) C (vv_cutI rfl rfl rfl rfl (by decide) (fun _ => rfl) rfl) (k101_X3_partsOf l hf G ) yy_X3_partsOf (vv_rmI rfl rfl (Nat.le_of_ble_eq_true rfl) (Nat.le_of_ble_eq_true rfl) (Nat.le_of_ble_eq_true rfl) (Nat.le_of_ble_eq_true rfl)) wm653 wm409 rfl rfl (Nat.le_of_ble_eq_true rfl) dX10_term_26 (fun v u hp => ?_)
  obtain rfl := hp
  refine vv_nrm (ws1 := [(q1, .inr (9, [.ref q2, .ref q3, .ref q4, .ref q5, .ref q6, .ref q7, .ref q8, .ref q9, .ref q10])), (q7, .inr (8, [.ref q11, .ref q12, .ref q13, .int (zI (0))]))]) (st1 := [.int (zI (2))]) rfl rfl ?_
  refine vv_goto C 33 dX10_term_29 (by decide) ?_
  refine vv_istore (loc1 := [(5, .int (zI (2))), (4, .int (zI (1))), (0, .ref q1), (1, .int (zI (4))), (2, .int (zI (v14))), (3, .int (zI (v15)))]) C dX10_term_33 (by decide) rfl ?_
  refine vv_iload C 0 dX10_term_35 rfl ?_
  refine vv_iconst (v := zI (1)) C dX10_term_37 rfl ?_
  refine vv_icmp_lt (tgt := 46) C dX10_term_38 (by decide) (by omega) (by omega) (fun h => by exfalso; omega) (fun h => ?_)
  refine vv_aload_n C 2 dX10_term_41 rfl rfl ?_
  refine vv_iload_n C 4 dX10_term_42 rfl rfl ?_
  refine vv_callVx (As := [.int (zI (v14))]) (rest := []) (wr := []) (ws3 := fun u => [(q1, .inr (9, [.ref q2, .ref q3, .ref q4, .ref q5, .ref q6, .ref q7, .ref q8, .ref q9, .ref q10])), (q7, .inr (8, [.ref q11, .ref q12, .ref q13, .int (zI (0))]))]) (isC := [0, 1]) (isR := []) (isX := [0, 1]) (ws2 := fun _ => []) (isP := []) C (vv_cutI rfl rfl rfl rfl (by decide) (fun _ => rfl) rfl) (vv_cutI rfl rfl rfl rfl (by decide) (fun _ => rfl) rfl) (k102_X10_needTerm l hf G q1 q2 q3 q4 q5 q6 q7 q8 q9 q10 q11 q12 q13 (v14) rv2) yy_X10_needTerm (vv_rmI rfl rfl (Nat.le_of_ble_eq_true rfl) (Nat.le_of_ble_eq_true rfl) (Nat.le_of_ble_eq_true rfl) (Nat.le_of_ble_eq_true rfl)) wm654 wm656 ws_selects_Latticework_Latticework_needTerm__I_V_Latticework_needTerm__I_V 0 rfl rfl rfl rfl (Nat.le_of_ble_eq_true rfl) dX10_term_43 (fun E9 u hp => ?_) (fun v u hp => hp.elim)
  obtain rfl := hp
  exact vv_out C htab ⟨Nat.le_of_ble_eq_true rfl, Nat.le_of_ble_eq_true rfl⟩ () rfl [0, 1] rfl rfl
set_option maxHeartbeats 4000000 in
set_option maxRecDepth 100000 in
theorem k104_L_term (l : Launch) (hf : l.stackTraces = false) (G : vv_G) (q1 q2 q3 q4 q5 q6 q7 q8 q9 q10 q11 q12 q13 q14 : Nat) (v15 : Int) (rv2 : -2147483648 ≤ v15 ∧ v15 < 2147483648) (v16 : Int) (rv3 : -2147483648 ≤ v16 ∧ v16 < 2147483648) : ∀ sz, Met l yL_term (Cond.codeWith yL_term cL_term 6 (some .int) [(0, 12, 15, 21), (0, 12, 19, 13), (0, 12, 23, 15)] :: gT) ({ frames := 8, cells := 1, slots := 6, locals := 140 } : Room) (va_Pc [.ref q1, .int (zI (4)), .int (zI (v15)), .int (zI (v16)), .ref q14] (vv_I G [(q1, .inr (9, [.ref q2, .ref q3, .ref q4, .ref q5, .ref q6, .ref q7, .ref q8, .ref q9, .ref q10])), (q7, .inr (8, [.ref q11, .ref q12, .ref q13, .int (zI (0))]))] sz)) (vv_Q G (fun v (u : Unit) => v = some (.int (zI (1)))) (fun u => [(q1, .inr (9, [.ref q2, .ref q3, .ref q4, .ref q5, .ref q6, .ref q7, .ref q8, .ref q9, .ref q10])), (q7, .inr (8, [.ref q11, .ref q12, .ref q13, .int (zI (0))]))]) (va_A [(q1, .inr (9, [.ref q2, .ref q3, .ref q4, .ref q5, .ref q6, .ref q7, .ref q8, .ref q9, .ref q10])), (q7, .inr (8, [.ref q11, .ref q12, .ref q13, .int (zI (0))]))] sz)) 1 6 (va_A [(q1, .inr (9, [.ref q2, .ref q3, .ref q4, .ref q5, .ref q6, .ref q7, .ref q8, .ref q9, .ref q10])), (q7, .inr (8, [.ref q11, .ref q12, .ref q13, .int (zI (0))]))] sz) := by
  refine vv_startW hf (by decide) (Nat.le_of_ble_eq_true rfl) ?_
  intro p e s m below meth c A C hnm htab
  refine vv_aload C 4 dL_term_0 rfl ?_
  refine vv_iconst (v := zI (0)) C dL_term_2 rfl ?_
  refine vv_aload_n C 0 dL_term_3 rfl rfl ?_
  refine vv_iload_n C 1 dL_term_4 rfl rfl ?_
  refine vv_iload_n C 2 dL_term_5 rfl rfl ?_
  refine vv_iload_n C 3 dL_term_6 rfl rfl ?_
  refine vv_callVx (As := [.int (zI (4)), .int (zI (v15)), .int (zI (v16))]) (rest := [.int (zI (0)), .ref q14]) (wr := []) (ws3 := fun u => [(q1, .inr (9, [.ref q2, .ref q3, .ref q4, .ref q5, .ref q6, .ref q7, .ref q8, .ref q9, .ref q10])), (q7, .inr (8, [.ref q11, .ref q12, .ref q13, .int (zI (0))]))]) (isC := [0, 1]) (isR := []) (isX := [0, 1]) (ws2 := fun _ => []) (isP := []) C (vv_cutI rfl rfl rfl rfl (by decide) (fun _ => rfl) rfl) (vv_cutI rfl rfl rfl rfl (by decide) (fun _ => rfl) rfl) (k103_X10_term l hf G q1 q2 q3 q4 q5 q6 q7 q8 q9 q10 q11 q12 q13 (v15) rv2 (v16) rv3) yy_X10_term (vv_rmI rfl rfl (Nat.le_of_ble_eq_true rfl) (Nat.le_of_ble_eq_true rfl) (Nat.le_of_ble_eq_true rfl) (Nat.le_of_ble_eq_true rfl)) wm646 wm647 wm648 0 rfl rfl rfl rfl (Nat.le_of_ble_eq_true rfl) dL_term_7 (fun E9 u hp => ?_) (fun v u hp => hp.elim)
  obtain rfl := hp
  refine vv_catch C htab [] ⟨0, 12, 15, 21⟩ [⟨0, 12, 19, 13⟩, ⟨0, 12, 23, 15⟩] rfl (fun z hz => nomatch hz) rfl (by decide) wm645 (by decide +kernel) (fun qe43 => ?_)
  refine vv_astore (loc1 := [(5, .ref qe43), (0, .ref q1), (1, .int (zI (4))), (2, .int (zI (v15))), (3, .int (zI (v16))), (4, .ref q14)]) C dL_term_15 (by decide) rfl ?_
  refine vv_iconst (v := zI (1)) C dL_term_17 rfl ?_
  exact vv_iret C (()) rfl [0, 1] rfl rfl ⟨Nat.le_of_ble_eq_true rfl, Nat.le_of_ble_eq_true rfl⟩ dL_term_18
set_option maxHeartbeats 4000000 in
set_option maxRecDepth 100000 in
theorem k105_X13_is (l : Launch) (hf : l.stackTraces = false) (G : vv_G)  : ∀ sz, Met l yX13_is (Cond.code yX13_is cX13_is 3 (some .boolean) :: gT) ({ frames := 0, cells := 0, slots := 0, locals := 0 } : Room) (va_Pc [.int (zI (4)), .int (zI (0)), .int (zI (5))] (vv_I G [] sz)) (vv_Q G (fun v (u : Unit) => v = some (.int (zI (1)))) (fun u => []) (va_A [] sz)) 0 0 (va_A [] sz) := by
  refine vv_start hf (by decide) (Nat.le_of_ble_eq_true rfl) ?_
  intro p e s m below meth c A C hnm
  refine vv_iload_n C 0 dX13_is_0 rfl rfl ?_
  refine vv_iload_n C 1 dX13_is_1 rfl rfl ?_
  refine vv_icmp_lt (tgt := 14) C dX13_is_2 (by decide) (by omega) (by omega) (fun h => by exfalso; omega) (fun h => ?_)
  refine vv_iload_n C 0 dX13_is_5 rfl rfl ?_
  refine vv_iload_n C 2 dX13_is_6 rfl rfl ?_
  refine vv_icmp_gt (tgt := 14) C dX13_is_7 (by decide) (by omega) (by omega) (fun h => by exfalso; omega) (fun h => ?_)
  refine vv_iconst (v := zI (1)) C dX13_is_10 rfl ?_
  refine vv_goto C 15 dX13_is_11 (by decide) ?_
  exact vv_zret C (by decide) (()) rfl [] rfl rfl ⟨Nat.le_of_ble_eq_true rfl, Nat.le_of_ble_eq_true rfl⟩ dX13_is_15
set_option maxHeartbeats 4000000 in
set_option maxRecDepth 100000 in
theorem k106_X13_parts (l : Launch) (hf : l.stackTraces = false) (G : vv_G)  : ∀ sz, Met l yX13_parts (Cond.code yX13_parts cX13_parts 1 (some .int) :: gT) ({ frames := 0, cells := 0, slots := 0, locals := 0 } : Room) (va_Pc [.int (zI (4))] (vv_I G [] sz)) (vv_Q G (fun v (u : Unit) => v = some (.int (zI (2)))) (fun u => []) (va_A [] sz)) 0 0 (va_A [] sz) := by
  refine vv_start hf (by decide) (Nat.le_of_ble_eq_true rfl) ?_
  intro p e s m below meth c A C hnm
  refine vv_iload_n C 0 dX13_parts_0 rfl rfl ?_
  refine vv_iconst (v := zI (2)) C dX13_parts_1 rfl ?_
  refine vv_icmp_lt (tgt := 10) C dX13_parts_2 (by decide) (by omega) (by omega) (fun h => by exfalso; omega) (fun h => ?_)
  refine vv_iload_n C 0 dX13_parts_5 rfl rfl ?_
  refine vv_iconst (v := zI (5)) C dX13_parts_6 rfl ?_
  refine vv_icmp_le (tgt := 14) C dX13_parts_7 (by decide) (by omega) (by omega) (fun h => ?_) (fun h => by exfalso; omega)
  refine vv_iload_n C 0 dX13_parts_14 rfl rfl ?_
  refine vv_iconst (v := zI (4)) C dX13_parts_15 rfl ?_
  refine vv_icmp_ge (tgt := 23) C dX13_parts_16 (by decide) (by omega) (by omega) (fun h => ?_) (fun h => by exfalso; omega)
  refine vv_iconst (v := zI (2)) C dX13_parts_23 rfl ?_
  exact vv_iret C (()) rfl [] rfl rfl ⟨Nat.le_of_ble_eq_true rfl, Nat.le_of_ble_eq_true rfl⟩ dX13_parts_24
set_option maxHeartbeats 4000000 in
set_option maxRecDepth 100000 in
theorem k107_X13_is (l : Launch) (hf : l.stackTraces = false) (G : vv_G)  (v1 : Int) (rv2 : -2147483648 ≤ v1 ∧ v1 < 2147483648) : ∀ sz, Met l yX13_is (Cond.code yX13_is cX13_is 3 (some .boolean) :: gT) ({ frames := 0, cells := 0, slots := 0, locals := 0 } : Room) (va_Pc [.int (zI (v1)), .int (zI (0)), .int (zI (-1))] (vv_I G [] sz)) (vv_Q G (fun v (u : Unit) => v = some (.int (zI (0)))) (fun u => []) (va_A [] sz)) 0 0 (va_A [] sz) := by
  refine vv_start hf (by decide) (Nat.le_of_ble_eq_true rfl) ?_
  intro p e s m below meth c A C hnm
  refine vv_iload_n C 0 dX13_is_0 rfl rfl ?_
  refine vv_iload_n C 1 dX13_is_1 rfl rfl ?_
  refine vv_icmp_lt (tgt := 14) C dX13_is_2 (by decide) (by omega) (by omega) (fun h44 => ?_) (fun h44 => ?_)
  · skip
    refine vv_iconst (v := zI (0)) C dX13_is_14 rfl ?_
    exact vv_zret C (by decide) (()) rfl [] rfl rfl ⟨Nat.le_of_ble_eq_true rfl, Nat.le_of_ble_eq_true rfl⟩ dX13_is_15
  · skip
    refine vv_iload_n C 0 dX13_is_5 rfl rfl ?_
    refine vv_iload_n C 2 dX13_is_6 rfl rfl ?_
    refine vv_icmp_gt (tgt := 14) C dX13_is_7 (by decide) (by omega) (by omega) (fun h => ?_) (fun h => by exfalso; omega)
    refine vv_iconst (v := zI (0)) C dX13_is_14 rfl ?_
    exact vv_zret C (by decide) (()) rfl [] rfl rfl ⟨Nat.le_of_ble_eq_true rfl, Nat.le_of_ble_eq_true rfl⟩ dX13_is_15
set_option maxHeartbeats 4000000 in
set_option maxRecDepth 100000 in
theorem k108_X13_isTerm (l : Launch) (hf : l.stackTraces = false) (G : vv_G) (q1 q2 q3 q4 q5 q6 q7 : Nat) (v8 : Int) (rv2 : -2147483648 ≤ v8 ∧ v8 < 2147483648) : ∀ sz, Met l yX13_isTerm (Cond.code yX13_isTerm cX13_isTerm 2 (some .boolean) :: gT) ({ frames := 1, cells := 0, slots := 0, locals := 22 } : Room) (va_Pc [.ref q1, .int (zI (v8))] (vv_I G [(q1, .inr (12, [.int (zI (0)), .ref q2, .ref q3, .ref q4, .ref q5, .ref q6, .ref q7, .long (0 : Int64)])), (q2, .inr (13, [.int (zI (0)), .ref (G.2.2 0), .int (zI (0))]))] sz)) (vv_Q G (fun v (u : Unit) => v = some (.int (zI (0)))) (fun u => [(q1, .inr (12, [.int (zI (0)), .ref q2, .ref q3, .ref q4, .ref q5, .ref q6, .ref q7, .long (0 : Int64)])), (q2, .inr (13, [.int (zI (0)), .ref (G.2.2 0), .int (zI (0))]))]) (va_A [(q1, .inr (12, [.int (zI (0)), .ref q2, .ref q3, .ref q4, .ref q5, .ref q6, .ref q7, .long (0 : Int64)])), (q2, .inr (13, [.int (zI (0)), .ref (G.2.2 0), .int (zI (0))]))] sz)) 0 0 (va_A [(q1, .inr (12, [.int (zI (0)), .ref q2, .ref q3, .ref q4, .ref q5, .ref q6, .ref q7, .long (0 : Int64)])), (q2, .inr (13, [.int (zI (0)), .ref (G.2.2 0), .int (zI (0))]))] sz) := by
  refine vv_start hf (by decide) (Nat.le_of_ble_eq_true rfl) ?_
  intro p e s m below meth c A C hnm
  refine vv_iload_n C 1 dX13_isTerm_0 rfl rfl ?_
  refine vv_iconst (v := zI (0)) C dX13_isTerm_1 rfl ?_
  refine vv_aload_n C 0 dX13_isTerm_2 rfl rfl ?_
  refine vv_get C 0 rfl rfl vi_X13 1 (by decide) wm1128 rfl dX13_isTerm_3 ?_
  refine vv_callV (As := []) (rest := [.int (zI (0)), .int (zI (v8))]) (wr := [(q1, .inr (12, [.int (zI (0)), .ref q2, .ref q3, .ref q4, .ref q5, .ref q6, .ref q7, .long (0 : Int64)]))]) (ws2 := fun u => [(q1, .inr (12, [.int (zI (0)), .ref q2, .ref q3, .ref q4, .ref q5, .ref q6, .ref q7, .long (0 : Int64)])), (q2, .inr (13, [.int (zI (0)), .ref (G.2.2 0), .int (zI (0))]))]) (isC := [1]) (isR := [0]) (isP := [0, 1]) C (vv_cutI rfl rfl rfl rfl (by decide) (fun _ => rfl) rfl) (k29_Jx4a65c_size_8abf5 l hf G q2) yy_Jx4a65c_size_8abf5 (vv_rmI rfl rfl (Nat.le_of_ble_eq_true rfl) (Nat.le_of_ble_eq_true rfl) (Nat.le_of_ble_eq_true rfl) (Nat.le_of_ble_eq_true rfl)) wm1175 wm1176 wm1177 0 rfl rfl rfl rfl (Nat.le_of_ble_eq_true rfl) dX13_isTerm_6 (fun v u hp => ?_)
  obtain rfl := hp
  refine vv_nrm (ws1 := [(q1, .inr (12, [.int (zI (0)), .ref q2, .ref q3, .ref q4, .ref q5, .ref q6, .ref q7, .long (0 : Int64)])), (q2, .inr (13, [.int (zI (0)), .ref (G.2.2 0), .int (zI (0))]))]) (st1 := [.int (zI (0)), .int (zI (0)), .int (zI (v8))]) rfl rfl ?_
  refine vv_iconst (v := zI (1)) C dX13_isTerm_9 rfl ?_
  refine vv_isub (z := zI (-1)) C dX13_isTerm_10 (by rw [zI_sub]; exact zI_c (by omega)) ?_
  refine vv_callS (As := [.int (zI (v8)), .int (zI (0)), .int (zI (-1))]) (rest := []) (wr := [(q1, .inr (12, [.int (zI (0)), .ref q2, .ref q3, .ref q4, .ref q5, .ref q6, .ref q7, .long (0 : Int64)])), (q2, .inr (13, [.int (zI (0)), .ref (G.2.2 0), .int (zI (0))]))]) (ws2 := fun u => [(q1, .inr (12, [.int (zI (0)), .ref q2, .ref q3, .ref q4, .ref q5, .ref q6, .ref q7, .long (0 : Int64)])), (q2, .inr (13, [.int (zI (0)), .ref (G.2.2 0), .int (zI (0))]))]) (isC := []) (isR := [0, 1]) (isP := [0, 1]) C (vv_cutI rfl rfl rfl rfl (by decide) (fun _ => rfl) rfl) (k107_X13_is l hf G  (v8) rv2) yy_X13_is (vv_rmI rfl rfl (Nat.le_of_ble_eq_true rfl) (Nat.le_of_ble_eq_true rfl) (Nat.le_of_ble_eq_true rfl) (Nat.le_of_ble_eq_true rfl)) wm1160 wm1161 rfl rfl (Nat.le_of_ble_eq_true rfl) dX13_isTerm_11 (fun v u hp => ?_)
  obtain rfl := hp
  refine vv_nrm (ws1 := [(q1, .inr (12, [.int (zI (0)), .ref q2, .ref q3, .ref q4, .ref q5, .ref q6, .ref q7, .long (0 : Int64)])), (q2, .inr (13, [.int (zI (0)), .ref (G.2.2 0), .int (zI (0))]))]) (st1 := [.int (zI (0))]) rfl rfl ?_
  exact vv_zret C (by decide) (()) rfl [0, 1] rfl rfl ⟨Nat.le_of_ble_eq_true rfl, Nat.le_of_ble_eq_true rfl⟩ dX13_isTerm_14
set_option maxHeartbeats 4000000 in
set_option maxRecDepth 100000 in
theorem k109_X13_term (l : Launch) (hf : l.stackTraces = false) (G : vv_G) (q1 q2 q3 q4 q5 q6 q7 : Nat) (v8 : Int) (rv2 : -2147483648 ≤ v8 ∧ v8 < 2147483648) (v9 : Int) (rv3 : -2147483648 ≤ v9 ∧ v9 < 2147483648) : ∀ sz, Met l yX13_term (Cond.code yX13_term cX13_term 8 (some .int) :: gT) ({ frames := 2, cells := 0, slots := 0, locals := 43 } : Room) (va_Pc [.ref q1, .int (zI (4)), .int (zI (v8)), .int (zI (v9))] (vv_I G [(q1, .inr (12, [.int (zI (0)), .ref q2, .ref q3, .ref q4, .ref q5, .ref q6, .ref q7, .long (0 : Int64)])), (q2, .inr (13, [.int (zI (0)), .ref (G.2.2 0), .int (zI (0))]))] sz)) (vv_Q G (fun v (u : Unit) => v = some (.int (zI (0)))) (fun u => [(q1, .inr (12, [.int (zI (1)), .ref q2, .ref q3, .ref q4, .ref q5, .ref q6, .ref q7, .long (0 : Int64)])), (q2, .inr (13, [.int (zI (0)), .ref (G.2.2 0), .int (zI (0))]))]) (va_A [(q1, .inr (12, [.int (zI (0)), .ref q2, .ref q3, .ref q4, .ref q5, .ref q6, .ref q7, .long (0 : Int64)])), (q2, .inr (13, [.int (zI (0)), .ref (G.2.2 0), .int (zI (0))]))] sz)) 0 0 (va_A [(q1, .inr (12, [.int (zI (0)), .ref q2, .ref q3, .ref q4, .ref q5, .ref q6, .ref q7, .long (0 : Int64)])), (q2, .inr (13, [.int (zI (0)), .ref (G.2.2 0), .int (zI (0))]))] sz) := by
  refine vv_start hf (by decide) (Nat.le_of_ble_eq_true rfl) ?_
  intro p e s m below meth c A C hnm
  refine vv_aload_n C 0 dX13_term_0 rfl rfl ?_
  refine vv_iconst (v := zI (0)) C dX13_term_1 rfl ?_
  refine vv_put (ws1 := [(q1, .inr (12, [.int (zI (0)), .ref q2, .ref q3, .ref q4, .ref q5, .ref q6, .ref q7, .long (0 : Int64)])), (q2, .inr (13, [.int (zI (0)), .ref (G.2.2 0), .int (zI (0))]))]) C 0 rfl rfl vi_X13 tyX13_ok nmX13 0 (by decide) wm1127 rfl rfl rfl (Nat.le_of_ble_eq_true rfl) rfl dX13_term_2 ?_
  refine vv_iload_n C 1 dX13_term_5 rfl rfl ?_
  refine vv_iconst (v := zI (0)) C dX13_term_6 rfl ?_
  refine vv_iconst (v := zI (5)) C dX13_term_7 rfl ?_
  refine vv_callS (As := [.int (zI (4)), .int (zI (0)), .int (zI (5))]) (rest := []) (wr := [(q1, .inr (12, [.int (zI (0)), .ref q2, .ref q3, .ref q4, .ref q5, .ref q6, .ref q7, .long (0 : Int64)])), (q2, .inr (13, [.int (zI (0)), .ref (G.2.2 0), .int (zI (0))]))]) (ws2 := fun u => [(q1, .inr (12, [.int (zI (0)), .ref q2, .ref q3, .ref q4, .ref q5, .ref q6, .ref q7, .long (0 : Int64)])), (q2, .inr (13, [.int (zI (0)), .ref (G.2.2 0), .int (zI (0))]))]) (isC := []) (isR := [0, 1]) (isP := [0, 1]) C (vv_cutI rfl rfl rfl rfl (by decide) (fun _ => rfl) rfl) (k105_X13_is l hf G ) yy_X13_is (vv_rmI rfl rfl (Nat.le_of_ble_eq_true rfl) (Nat.le_of_ble_eq_true rfl) (Nat.le_of_ble_eq_true rfl) (Nat.le_of_ble_eq_true rfl)) wm1160 wm1161 rfl rfl (Nat.le_of_ble_eq_true rfl) dX13_term_8 (fun v u hp => ?_)
  obtain rfl := hp
  refine vv_nrm (ws1 := [(q1, .inr (12, [.int (zI (0)), .ref q2, .ref q3, .ref q4, .ref q5, .ref q6, .ref q7, .long (0 : Int64)])), (q2, .inr (13, [.int (zI (0)), .ref (G.2.2 0), .int (zI (0))]))]) (st1 := [.int (zI (1))]) rfl rfl ?_
  refine vv_if_eq (tgt := 21) C dX13_term_11 (by decide) (by omega) (fun h => by exfalso; omega) (fun h => ?_)
  refine vv_iload_n C 1 dX13_term_14 rfl rfl ?_
  refine vv_callS (As := [.int (zI (4))]) (rest := []) (wr := [(q1, .inr (12, [.int (zI (0)), .ref q2, .ref q3, .ref q4, .ref q5, .ref q6, .ref q7, .long (0 : Int64)])), (q2, .inr (13, [.int (zI (0)), .ref (G.2.2 0), .int (zI (0))]))]) (ws2 := fun u => [(q1, .inr (12, [.int (zI (0)), .ref q2, .ref q3, .ref q4, .ref q5, .ref q6, .ref q7, .long (0 : Int64)])), (q2, .inr (13, [.int (zI (0)), .ref (G.2.2 0), .int (zI (0))]))]) (isC := []) (isR := [0, 1]) (isP := [0, 1]) C (vv_cutI rfl rfl rfl rfl (by decide) (fun _ => rfl) rfl) (k106_X13_parts l hf G ) yy_X13_parts (vv_rmI rfl rfl (Nat.le_of_ble_eq_true rfl) (Nat.le_of_ble_eq_true rfl) (Nat.le_of_ble_eq_true rfl) (Nat.le_of_ble_eq_true rfl)) wm1367 wm1368 rfl rfl (Nat.le_of_ble_eq_true rfl) dX13_term_15 (fun v u hp => ?_)
  obtain rfl := hp
  refine vv_nrm (ws1 := [(q1, .inr (12, [.int (zI (0)), .ref q2, .ref q3, .ref q4, .ref q5, .ref q6, .ref q7, .long (0 : Int64)])), (q2, .inr (13, [.int (zI (0)), .ref (G.2.2 0), .int (zI (0))]))]) (st1 := [.int (zI (2))]) rfl rfl ?_
  refine vv_goto C 22 dX13_term_18 (by decide) ?_
  refine vv_istore (loc1 := [(4, .int (zI (2))), (0, .ref q1), (1, .int (zI (4))), (2, .int (zI (v8))), (3, .int (zI (v9)))]) C dX13_term_22 (by decide) rfl ?_
  refine vv_iload C 0 dX13_term_24 rfl ?_
  refine vv_if_le (tgt := 37) C dX13_term_26 (by decide) (by omega) (fun h => by exfalso; omega) (fun h => ?_)
  refine vv_aload_n C 1 dX13_term_29 rfl rfl ?_
  refine vv_iload_n C 3 dX13_term_30 rfl rfl ?_
  refine vv_callV (As := [.int (zI (v8))]) (rest := []) (wr := []) (ws2 := fun u => [(q1, .inr (12, [.int (zI (0)), .ref q2, .ref q3, .ref q4, .ref q5, .ref q6, .ref q7, .long (0 : Int64)])), (q2, .inr (13, [.int (zI (0)), .ref (G.2.2 0), .int (zI (0))]))]) (isC := [0, 1]) (isR := []) (isP := [0, 1]) C (vv_cutI rfl rfl rfl rfl (by decide) (fun _ => rfl) rfl) (k108_X13_isTerm l hf G q1 q2 q3 q4 q5 q6 q7 (v8) rv2) yy_X13_isTerm (vv_rmI rfl rfl (Nat.le_of_ble_eq_true rfl) (Nat.le_of_ble_eq_true rfl) (Nat.le_of_ble_eq_true rfl) (Nat.le_of_ble_eq_true rfl)) wm1370 wm1372 ws_selects_LatticeworkModel_LatticeworkModel_isTerm__I_Z_LatticeworkModel_isTerm__I_Z 0 rfl rfl rfl rfl (Nat.le_of_ble_eq_true rfl) dX13_term_31 (fun v u hp => ?_)
  obtain rfl := hp
  refine vv_nrm (ws1 := [(q1, .inr (12, [.int (zI (0)), .ref q2, .ref q3, .ref q4, .ref q5, .ref q6, .ref q7, .long (0 : Int64)])), (q2, .inr (13, [.int (zI (0)), .ref (G.2.2 0), .int (zI (0))]))]) (st1 := [.int (zI (0))]) rfl rfl ?_
  refine vv_if_eq (tgt := 51) C dX13_term_34 (by decide) (by omega) (fun h => ?_) (fun h => by exfalso; omega)
  refine vv_aload_n C 1 dX13_term_51 rfl rfl ?_
  refine vv_iconst (v := zI (1)) C dX13_term_52 rfl ?_
  refine vv_callV (As := [.int (zI (1))]) (rest := []) (wr := [(q2, .inr (13, [.int (zI (0)), .ref (G.2.2 0), .int (zI (0))]))]) (ws2 := fun u => [(q1, .inr (12, [.int (zI (1)), .ref q2, .ref q3, .ref q4, .ref q5, .ref q6, .ref q7, .long (0 : Int64)])), (q2, .inr (13, [.int (zI (0)), .ref (G.2.2 0), .int (zI (0))]))]) (isC := [0]) (isR := [1]) (isP := [1, 0]) C (vv_cutI rfl rfl rfl rfl (by decide) (fun _ => rfl) rfl) (k20_X13_refuse l hf G q1 q2 q3 q4 q5 q6 q7) yy_X13_refuse (vv_rmI rfl rfl (Nat.le_of_ble_eq_true rfl) (Nat.le_of_ble_eq_true rfl) (Nat.le_of_ble_eq_true rfl) (Nat.le_of_ble_eq_true rfl)) wm1163 wm1165 ws_selects_LatticeworkModel_LatticeworkModel_refuse__I_I_LatticeworkModel_refuse__I_I 0 rfl rfl rfl rfl (Nat.le_of_ble_eq_true rfl) dX13_term_53 (fun v u hp => ?_)
  obtain rfl := hp
  refine vv_nrm (ws1 := [(q1, .inr (12, [.int (zI (1)), .ref q2, .ref q3, .ref q4, .ref q5, .ref q6, .ref q7, .long (0 : Int64)])), (q2, .inr (13, [.int (zI (0)), .ref (G.2.2 0), .int (zI (0))]))]) (st1 := [.int (zI (0))]) rfl rfl ?_
  exact vv_iret C (()) rfl [0, 1] rfl rfl ⟨Nat.le_of_ble_eq_true rfl, Nat.le_of_ble_eq_true rfl⟩ dX13_term_56
set_option maxHeartbeats 4000000 in
set_option maxRecDepth 100000 in
theorem k110_X3_codeOfSign (l : Launch) (hf : l.stackTraces = false) (G : vv_G)  : ∀ sz, Met l yX3_codeOfSign (Cond.code yX3_codeOfSign cX3_codeOfSign 1 (some .int) :: gT) ({ frames := 0, cells := 0, slots := 0, locals := 0 } : Room) (va_Pc [.int (zI (5))] (vv_I G [] sz)) (vv_Q G (fun v (u : Unit) => v = some (.int (zI (6)))) (fun u => []) (va_A [] sz)) 0 0 (va_A [] sz) := by
  refine vv_start hf (by decide) (Nat.le_of_ble_eq_true rfl) ?_
  intro p e s m below meth c A C hnm
  refine vv_iload_n C 0 dX3_codeOfSign_0 rfl rfl ?_
  refine vv_iconst (v := zI (1)) C dX3_codeOfSign_1 rfl ?_
  refine vv_iadd (z := zI (6)) C dX3_codeOfSign_2 (by rw [zI_add]; exact zI_c (by omega)) ?_
  exact vv_iret C (()) rfl [] rfl rfl ⟨Nat.le_of_ble_eq_true rfl, Nat.le_of_ble_eq_true rfl⟩ dX3_codeOfSign_3
set_option maxHeartbeats 4000000 in
set_option maxRecDepth 100000 in
theorem k111_X3_partsOf (l : Launch) (hf : l.stackTraces = false) (G : vv_G)  : ∀ sz, Met l yX3_partsOf (Cond.code yX3_partsOf cX3_partsOf 1 (some .int) :: gT) ({ frames := 0, cells := 0, slots := 0, locals := 0 } : Room) (va_Pc [.int (zI (6))] (vv_I G [] sz)) (vv_Q G (fun v (u : Unit) => v = some (.int (zI (2)))) (fun u => []) (va_A [] sz)) 0 0 (va_A [] sz) := by
  refine vv_start hf (by decide) (Nat.le_of_ble_eq_true rfl) ?_
  intro p e s m below meth c A C hnm
  refine vv_iload_n C 0 dX3_partsOf_0 rfl rfl ?_
  refine vv_tabIn (off := 33) C 34 dX3_partsOf_1 (by omega) (by omega) (by omega) rfl (by decide) ?_
  refine vv_iconst (v := zI (2)) C dX3_partsOf_34 rfl ?_
  exact vv_iret C (()) rfl [] rfl rfl ⟨Nat.le_of_ble_eq_true rfl, Nat.le_of_ble_eq_true rfl⟩ dX3_partsOf_35
set_option maxHeartbeats 4000000 in
set_option maxRecDepth 100000 in
theorem k112_X10_needTerm (l : Launch) (hf : l.stackTraces = false) (G : vv_G) (q1 q2 q3 q4 q5 q6 q7 q8 q9 q10 q11 q12 q13 : Nat) (v14 : Int) (rv2 : -2147483648 ≤ v14 ∧ v14 < 2147483648) : ∀ sz, vx_Met l yX10_needTerm (Cond.code yX10_needTerm cX10_needTerm 2 none :: gT) ({ frames := 6, cells := 1, slots := 6, locals := 90 } : Room) (va_Pc [.ref q1, .int (zI (v14))] (vv_I G [(q1, .inr (9, [.ref q2, .ref q3, .ref q4, .ref q5, .ref q6, .ref q7, .ref q8, .ref q9, .ref q10])), (q7, .inr (8, [.ref q11, .ref q12, .ref q13, .int (zI (0))]))] sz)) (vv_Q G (fun v (u : Unit) => False) (fun u => []) (va_A [(q1, .inr (9, [.ref q2, .ref q3, .ref q4, .ref q5, .ref q6, .ref q7, .ref q8, .ref q9, .ref q10])), (q7, .inr (8, [.ref q11, .ref q12, .ref q13, .int (zI (0))]))] sz)) (vv_XC G (fun E (u : Unit) => E = "java/lang/IndexOutOfBoundsException") (fun u => [(q1, .inr (9, [.ref q2, .ref q3, .ref q4, .ref q5, .ref q6, .ref q7, .ref q8, .ref q9, .ref q10])), (q7, .inr (8, [.ref q11, .ref q12, .ref q13, .int (zI (0))]))]) (va_A [(q1, .inr (9, [.ref q2, .ref q3, .ref q4, .ref q5, .ref q6, .ref q7, .ref q8, .ref q9, .ref q10])), (q7, .inr (8, [.ref q11, .ref q12, .ref q13, .int (zI (0))]))] sz)) 1 6 (va_A [(q1, .inr (9, [.ref q2, .ref q3, .ref q4, .ref q5, .ref q6, .ref q7, .ref q8, .ref q9, .ref q10])), (q7, .inr (8, [.ref q11, .ref q12, .ref q13, .int (zI (0))]))] sz) := by
  refine vv_startX hf (by decide) (Nat.le_of_ble_eq_true rfl) ?_
  intro p e s m below meth c A C hnm htab
  refine vv_iload_n C 1 dX10_needTerm_0 rfl rfl ?_
  refine vv_if_lt (tgt := 15) C dX10_needTerm_1 (by decide) (by omega) (fun h45 => ?_) (fun h45 => ?_)
  · skip
    exact vv_throwW C tw_X10_125_288 htab dX10_needTerm_15 dX10_needTerm_18 dX10_needTerm_19 dX10_needTerm_22 dX10_needTerm_25 ⟨Nat.le_of_ble_eq_true rfl, Nat.le_of_ble_eq_true rfl, Nat.le_of_ble_eq_true rfl, Nat.le_of_ble_eq_true rfl, Nat.le_of_ble_eq_true rfl, Nat.le_of_ble_eq_true rfl⟩ () rfl [0, 1] rfl rfl
  · skip
    refine vv_iload_n C 1 dX10_needTerm_4 rfl rfl ?_
    refine vv_aload_n C 0 dX10_needTerm_5 rfl rfl ?_
    refine vv_get C 0 rfl rfl vi_X10 5 (by decide) wm329 rfl dX10_needTerm_6 ?_
    refine vv_get C 1 rfl rfl vi_X9 3 (by decide) wm198 rfl dX10_needTerm_9 ?_
    refine vv_icmp_lt (tgt := 26) C dX10_needTerm_12 (by decide) (by omega) (by omega) (fun h => by exfalso; omega) (fun h => ?_)
    exact vv_throwW C tw_X10_125_288 htab dX10_needTerm_15 dX10_needTerm_18 dX10_needTerm_19 dX10_needTerm_22 dX10_needTerm_25 ⟨Nat.le_of_ble_eq_true rfl, Nat.le_of_ble_eq_true rfl, Nat.le_of_ble_eq_true rfl, Nat.le_of_ble_eq_true rfl, Nat.le_of_ble_eq_true rfl, Nat.le_of_ble_eq_true rfl⟩ () rfl [0, 1] rfl rfl
set_option maxHeartbeats 4000000 in
set_option maxRecDepth 100000 in
theorem k113_X10_term (l : Launch) (hf : l.stackTraces = false) (G : vv_G) (q1 q2 q3 q4 q5 q6 q7 q8 q9 q10 q11 q12 q13 : Nat) (v14 : Int) (rv2 : -2147483648 ≤ v14 ∧ v14 < 2147483648) (v15 : Int) (rv3 : -2147483648 ≤ v15 ∧ v15 < 2147483648) : ∀ sz, vx_Met l yX10_term (Cond.code yX10_term cX10_term 10 (some .int) :: gT) ({ frames := 7, cells := 1, slots := 6, locals := 111 } : Room) (va_Pc [.ref q1, .int (zI (5)), .int (zI (v14)), .int (zI (v15))] (vv_I G [(q1, .inr (9, [.ref q2, .ref q3, .ref q4, .ref q5, .ref q6, .ref q7, .ref q8, .ref q9, .ref q10])), (q7, .inr (8, [.ref q11, .ref q12, .ref q13, .int (zI (0))]))] sz)) (vv_Q G (fun v (u : Unit) => False) (fun u => []) (va_A [(q1, .inr (9, [.ref q2, .ref q3, .ref q4, .ref q5, .ref q6, .ref q7, .ref q8, .ref q9, .ref q10])), (q7, .inr (8, [.ref q11, .ref q12, .ref q13, .int (zI (0))]))] sz)) (vv_XC G (fun E (u : Unit) => E = "java/lang/IndexOutOfBoundsException") (fun u => [(q1, .inr (9, [.ref q2, .ref q3, .ref q4, .ref q5, .ref q6, .ref q7, .ref q8, .ref q9, .ref q10])), (q7, .inr (8, [.ref q11, .ref q12, .ref q13, .int (zI (0))]))]) (va_A [(q1, .inr (9, [.ref q2, .ref q3, .ref q4, .ref q5, .ref q6, .ref q7, .ref q8, .ref q9, .ref q10])), (q7, .inr (8, [.ref q11, .ref q12, .ref q13, .int (zI (0))]))] sz)) 1 6 (va_A [(q1, .inr (9, [.ref q2, .ref q3, .ref q4, .ref q5, .ref q6, .ref q7, .ref q8, .ref q9, .ref q10])), (q7, .inr (8, [.ref q11, .ref q12, .ref q13, .int (zI (0))]))] sz) := by
  refine vv_startX hf (by decide) (Nat.le_of_ble_eq_true rfl) ?_
  intro p e s m below meth c A C hnm htab
  refine vv_iload_n C 1 dX10_term_0 rfl rfl ?_
  refine vv_if_lt (tgt := 14) C dX10_term_1 (by decide) (by omega) (fun h => by exfalso; omega) (fun h => ?_)
  refine vv_iload_n C 1 dX10_term_4 rfl rfl ?_
  refine vv_bipush (v := zI (6)) C dX10_term_5 (by decide) ?_
  refine vv_icmp_ge (tgt := 14) C dX10_term_7 (by decide) (by omega) (by omega) (fun h => by exfalso; omega) (fun h => ?_)
  refine vv_iconst (v := zI (1)) C dX10_term_10 rfl ?_
  refine vv_goto C 15 dX10_term_11 (by decide) ?_
  refine vv_istore (loc1 := [(4, .int (zI (1))), (0, .ref q1), (1, .int (zI (5))), (2, .int (zI (v14))), (3, .int (zI (v15)))]) C dX10_term_15 (by decide) rfl ?_
  refine vv_iload C 0 dX10_term_17 rfl ?_
  refine vv_if_eq (tgt := 32) C dX10_term_19 (by decide) (by omega) (fun h => by exfalso; omega) (fun h => ?_)
  refine vv_iload_n C 2 dX10_term_22 rfl rfl ?_
  refine vv_callS (As := [.int (zI (5))]) (rest := []) (wr := [(q1, .inr (9, [.ref q2, .ref q3, .ref q4, .ref q5, .ref q6, .ref q7, .ref q8, .ref q9, .ref q10])), (q7, .inr (8, [.ref q11, .ref q12, .ref q13, .int (zI (0))]))]) (ws2 := fun u => [(q1, .inr (9, [.ref q2, .ref q3, .ref q4, .ref q5, .ref q6, .ref q7, .ref q8, .ref q9, .ref q10])), (q7, .inr (8, [.ref q11, .ref q12, .ref q13, .int (zI (0))]))]) (isC := []) (isR := [0, 1]) (isP := [0, 1]) C (vv_cutI rfl rfl rfl rfl (by decide) (fun _ => rfl) rfl) (k110_X3_codeOfSign l hf G ) yy_X3_codeOfSign (vv_rmI rfl rfl (Nat.le_of_ble_eq_true rfl) (Nat.le_of_ble_eq_true rfl) (Nat.le_of_ble_eq_true rfl) (Nat.le_of_ble_eq_true rfl)) wm650 wm651 rfl rfl (Nat.le_of_ble_eq_true rfl) dX10_term_23 (fun v u hp => ?_)
  obtain rfl := hp
  refine vv_nrm (ws1 := [(q1, .inr (9, [.ref q2, .ref q3, .ref q4, .ref q5, .ref q6, .ref q7, .ref q8, .ref q9, .ref q10])), (q7, .inr (8, [.ref q11, .ref q12, .ref q13, .int (zI (0))]))]) (st1 := [.int (zI (6))]) rfl rfl ?_
  refine vv_callS (As := [.int (zI (6))]) (rest := []) (wr := [(q1, .inr (9, [.ref q2, .ref q3, .ref q4, .ref q5, .ref q6, .ref q7, .ref q8, .ref q9, .ref q10])), (q7, .inr (8, [.ref q11, .ref q12, .ref q13, .int (zI (0))]))]) (ws2 := fun u => [(q1, .inr (9, [.ref q2, .ref q3, .ref q4, .ref q5, .ref q6, .ref q7, .ref q8, .ref q9, .ref q10])), (q7, .inr (8, [.ref q11, .ref q12, .ref q13, .int (zI (0))]))]) (isC := []) (isR := [0, 1]) (isP := [0, 1]) C (vv_cutI rfl rfl rfl rfl (by decide) (fun _ => rfl) rfl) (k111_X3_partsOf l hf G ) yy_X3_partsOf (vv_rmI rfl rfl (Nat.le_of_ble_eq_true rfl) (Nat.le_of_ble_eq_true rfl) (Nat.le_of_ble_eq_true rfl) (Nat.le_of_ble_eq_true rfl)) wm653 wm409 rfl rfl (Nat.le_of_ble_eq_true rfl) dX10_term_26 (fun v u hp => ?_)
  obtain rfl := hp
  refine vv_nrm (ws1 := [(q1, .inr (9, [.ref q2, .ref q3, .ref q4, .ref q5, .ref q6, .ref q7, .ref q8, .ref q9, .ref q10])), (q7, .inr (8, [.ref q11, .ref q12, .ref q13, .int (zI (0))]))]) (st1 := [.int (zI (2))]) rfl rfl ?_
  refine vv_goto C 33 dX10_term_29 (by decide) ?_
  refine vv_istore (loc1 := [(5, .int (zI (2))), (4, .int (zI (1))), (0, .ref q1), (1, .int (zI (5))), (2, .int (zI (v14))), (3, .int (zI (v15)))]) C dX10_term_33 (by decide) rfl ?_
  refine vv_iload C 0 dX10_term_35 rfl ?_
  refine vv_iconst (v := zI (1)) C dX10_term_37 rfl ?_
  refine vv_icmp_lt (tgt := 46) C dX10_term_38 (by decide) (by omega) (by omega) (fun h => by exfalso; omega) (fun h => ?_)
  refine vv_aload_n C 2 dX10_term_41 rfl rfl ?_
  refine vv_iload_n C 4 dX10_term_42 rfl rfl ?_
  refine vv_callVx (As := [.int (zI (v14))]) (rest := []) (wr := []) (ws3 := fun u => [(q1, .inr (9, [.ref q2, .ref q3, .ref q4, .ref q5, .ref q6, .ref q7, .ref q8, .ref q9, .ref q10])), (q7, .inr (8, [.ref q11, .ref q12, .ref q13, .int (zI (0))]))]) (isC := [0, 1]) (isR := []) (isX := [0, 1]) (ws2 := fun _ => []) (isP := []) C (vv_cutI rfl rfl rfl rfl (by decide) (fun _ => rfl) rfl) (vv_cutI rfl rfl rfl rfl (by decide) (fun _ => rfl) rfl) (k112_X10_needTerm l hf G q1 q2 q3 q4 q5 q6 q7 q8 q9 q10 q11 q12 q13 (v14) rv2) yy_X10_needTerm (vv_rmI rfl rfl (Nat.le_of_ble_eq_true rfl) (Nat.le_of_ble_eq_true rfl) (Nat.le_of_ble_eq_true rfl) (Nat.le_of_ble_eq_true rfl)) wm654 wm656 ws_selects_Latticework_Latticework_needTerm__I_V_Latticework_needTerm__I_V 0 rfl rfl rfl rfl (Nat.le_of_ble_eq_true rfl) dX10_term_43 (fun E9 u hp => ?_) (fun v u hp => hp.elim)
  obtain rfl := hp
  exact vv_out C htab ⟨Nat.le_of_ble_eq_true rfl, Nat.le_of_ble_eq_true rfl⟩ () rfl [0, 1] rfl rfl
set_option maxHeartbeats 4000000 in
set_option maxRecDepth 100000 in
theorem k114_L_term (l : Launch) (hf : l.stackTraces = false) (G : vv_G) (q1 q2 q3 q4 q5 q6 q7 q8 q9 q10 q11 q12 q13 q14 : Nat) (v15 : Int) (rv2 : -2147483648 ≤ v15 ∧ v15 < 2147483648) (v16 : Int) (rv3 : -2147483648 ≤ v16 ∧ v16 < 2147483648) : ∀ sz, Met l yL_term (Cond.codeWith yL_term cL_term 6 (some .int) [(0, 12, 15, 21), (0, 12, 19, 13), (0, 12, 23, 15)] :: gT) ({ frames := 8, cells := 1, slots := 6, locals := 140 } : Room) (va_Pc [.ref q1, .int (zI (5)), .int (zI (v15)), .int (zI (v16)), .ref q14] (vv_I G [(q1, .inr (9, [.ref q2, .ref q3, .ref q4, .ref q5, .ref q6, .ref q7, .ref q8, .ref q9, .ref q10])), (q7, .inr (8, [.ref q11, .ref q12, .ref q13, .int (zI (0))]))] sz)) (vv_Q G (fun v (u : Unit) => v = some (.int (zI (1)))) (fun u => [(q1, .inr (9, [.ref q2, .ref q3, .ref q4, .ref q5, .ref q6, .ref q7, .ref q8, .ref q9, .ref q10])), (q7, .inr (8, [.ref q11, .ref q12, .ref q13, .int (zI (0))]))]) (va_A [(q1, .inr (9, [.ref q2, .ref q3, .ref q4, .ref q5, .ref q6, .ref q7, .ref q8, .ref q9, .ref q10])), (q7, .inr (8, [.ref q11, .ref q12, .ref q13, .int (zI (0))]))] sz)) 1 6 (va_A [(q1, .inr (9, [.ref q2, .ref q3, .ref q4, .ref q5, .ref q6, .ref q7, .ref q8, .ref q9, .ref q10])), (q7, .inr (8, [.ref q11, .ref q12, .ref q13, .int (zI (0))]))] sz) := by
  refine vv_startW hf (by decide) (Nat.le_of_ble_eq_true rfl) ?_
  intro p e s m below meth c A C hnm htab
  refine vv_aload C 4 dL_term_0 rfl ?_
  refine vv_iconst (v := zI (0)) C dL_term_2 rfl ?_
  refine vv_aload_n C 0 dL_term_3 rfl rfl ?_
  refine vv_iload_n C 1 dL_term_4 rfl rfl ?_
  refine vv_iload_n C 2 dL_term_5 rfl rfl ?_
  refine vv_iload_n C 3 dL_term_6 rfl rfl ?_
  refine vv_callVx (As := [.int (zI (5)), .int (zI (v15)), .int (zI (v16))]) (rest := [.int (zI (0)), .ref q14]) (wr := []) (ws3 := fun u => [(q1, .inr (9, [.ref q2, .ref q3, .ref q4, .ref q5, .ref q6, .ref q7, .ref q8, .ref q9, .ref q10])), (q7, .inr (8, [.ref q11, .ref q12, .ref q13, .int (zI (0))]))]) (isC := [0, 1]) (isR := []) (isX := [0, 1]) (ws2 := fun _ => []) (isP := []) C (vv_cutI rfl rfl rfl rfl (by decide) (fun _ => rfl) rfl) (vv_cutI rfl rfl rfl rfl (by decide) (fun _ => rfl) rfl) (k113_X10_term l hf G q1 q2 q3 q4 q5 q6 q7 q8 q9 q10 q11 q12 q13 (v15) rv2 (v16) rv3) yy_X10_term (vv_rmI rfl rfl (Nat.le_of_ble_eq_true rfl) (Nat.le_of_ble_eq_true rfl) (Nat.le_of_ble_eq_true rfl) (Nat.le_of_ble_eq_true rfl)) wm646 wm647 wm648 0 rfl rfl rfl rfl (Nat.le_of_ble_eq_true rfl) dL_term_7 (fun E9 u hp => ?_) (fun v u hp => hp.elim)
  obtain rfl := hp
  refine vv_catch C htab [] ⟨0, 12, 15, 21⟩ [⟨0, 12, 19, 13⟩, ⟨0, 12, 23, 15⟩] rfl (fun z hz => nomatch hz) rfl (by decide) wm645 (by decide +kernel) (fun qe46 => ?_)
  refine vv_astore (loc1 := [(5, .ref qe46), (0, .ref q1), (1, .int (zI (5))), (2, .int (zI (v15))), (3, .int (zI (v16))), (4, .ref q14)]) C dL_term_15 (by decide) rfl ?_
  refine vv_iconst (v := zI (1)) C dL_term_17 rfl ?_
  exact vv_iret C (()) rfl [0, 1] rfl rfl ⟨Nat.le_of_ble_eq_true rfl, Nat.le_of_ble_eq_true rfl⟩ dL_term_18
set_option maxHeartbeats 4000000 in
set_option maxRecDepth 100000 in
theorem k115_X13_is (l : Launch) (hf : l.stackTraces = false) (G : vv_G)  : ∀ sz, Met l yX13_is (Cond.code yX13_is cX13_is 3 (some .boolean) :: gT) ({ frames := 0, cells := 0, slots := 0, locals := 0 } : Room) (va_Pc [.int (zI (5)), .int (zI (0)), .int (zI (5))] (vv_I G [] sz)) (vv_Q G (fun v (u : Unit) => v = some (.int (zI (1)))) (fun u => []) (va_A [] sz)) 0 0 (va_A [] sz) := by
  refine vv_start hf (by decide) (Nat.le_of_ble_eq_true rfl) ?_
  intro p e s m below meth c A C hnm
  refine vv_iload_n C 0 dX13_is_0 rfl rfl ?_
  refine vv_iload_n C 1 dX13_is_1 rfl rfl ?_
  refine vv_icmp_lt (tgt := 14) C dX13_is_2 (by decide) (by omega) (by omega) (fun h => by exfalso; omega) (fun h => ?_)
  refine vv_iload_n C 0 dX13_is_5 rfl rfl ?_
  refine vv_iload_n C 2 dX13_is_6 rfl rfl ?_
  refine vv_icmp_gt (tgt := 14) C dX13_is_7 (by decide) (by omega) (by omega) (fun h => by exfalso; omega) (fun h => ?_)
  refine vv_iconst (v := zI (1)) C dX13_is_10 rfl ?_
  refine vv_goto C 15 dX13_is_11 (by decide) ?_
  exact vv_zret C (by decide) (()) rfl [] rfl rfl ⟨Nat.le_of_ble_eq_true rfl, Nat.le_of_ble_eq_true rfl⟩ dX13_is_15
set_option maxHeartbeats 4000000 in
set_option maxRecDepth 100000 in
theorem k116_X13_parts (l : Launch) (hf : l.stackTraces = false) (G : vv_G)  : ∀ sz, Met l yX13_parts (Cond.code yX13_parts cX13_parts 1 (some .int) :: gT) ({ frames := 0, cells := 0, slots := 0, locals := 0 } : Room) (va_Pc [.int (zI (5))] (vv_I G [] sz)) (vv_Q G (fun v (u : Unit) => v = some (.int (zI (2)))) (fun u => []) (va_A [] sz)) 0 0 (va_A [] sz) := by
  refine vv_start hf (by decide) (Nat.le_of_ble_eq_true rfl) ?_
  intro p e s m below meth c A C hnm
  refine vv_iload_n C 0 dX13_parts_0 rfl rfl ?_
  refine vv_iconst (v := zI (2)) C dX13_parts_1 rfl ?_
  refine vv_icmp_lt (tgt := 10) C dX13_parts_2 (by decide) (by omega) (by omega) (fun h => by exfalso; omega) (fun h => ?_)
  refine vv_iload_n C 0 dX13_parts_5 rfl rfl ?_
  refine vv_iconst (v := zI (5)) C dX13_parts_6 rfl ?_
  refine vv_icmp_le (tgt := 14) C dX13_parts_7 (by decide) (by omega) (by omega) (fun h => ?_) (fun h => by exfalso; omega)
  refine vv_iload_n C 0 dX13_parts_14 rfl rfl ?_
  refine vv_iconst (v := zI (4)) C dX13_parts_15 rfl ?_
  refine vv_icmp_ge (tgt := 23) C dX13_parts_16 (by decide) (by omega) (by omega) (fun h => ?_) (fun h => by exfalso; omega)
  refine vv_iconst (v := zI (2)) C dX13_parts_23 rfl ?_
  exact vv_iret C (()) rfl [] rfl rfl ⟨Nat.le_of_ble_eq_true rfl, Nat.le_of_ble_eq_true rfl⟩ dX13_parts_24
set_option maxHeartbeats 4000000 in
set_option maxRecDepth 100000 in
theorem k117_X13_is (l : Launch) (hf : l.stackTraces = false) (G : vv_G)  (v1 : Int) (rv2 : -2147483648 ≤ v1 ∧ v1 < 2147483648) : ∀ sz, Met l yX13_is (Cond.code yX13_is cX13_is 3 (some .boolean) :: gT) ({ frames := 0, cells := 0, slots := 0, locals := 0 } : Room) (va_Pc [.int (zI (v1)), .int (zI (0)), .int (zI (-1))] (vv_I G [] sz)) (vv_Q G (fun v (u : Unit) => v = some (.int (zI (0)))) (fun u => []) (va_A [] sz)) 0 0 (va_A [] sz) := by
  refine vv_start hf (by decide) (Nat.le_of_ble_eq_true rfl) ?_
  intro p e s m below meth c A C hnm
  refine vv_iload_n C 0 dX13_is_0 rfl rfl ?_
  refine vv_iload_n C 1 dX13_is_1 rfl rfl ?_
  refine vv_icmp_lt (tgt := 14) C dX13_is_2 (by decide) (by omega) (by omega) (fun h47 => ?_) (fun h47 => ?_)
  · skip
    refine vv_iconst (v := zI (0)) C dX13_is_14 rfl ?_
    exact vv_zret C (by decide) (()) rfl [] rfl rfl ⟨Nat.le_of_ble_eq_true rfl, Nat.le_of_ble_eq_true rfl⟩ dX13_is_15
  · skip
    refine vv_iload_n C 0 dX13_is_5 rfl rfl ?_
    refine vv_iload_n C 2 dX13_is_6 rfl rfl ?_
    refine vv_icmp_gt (tgt := 14) C dX13_is_7 (by decide) (by omega) (by omega) (fun h => ?_) (fun h => by exfalso; omega)
    refine vv_iconst (v := zI (0)) C dX13_is_14 rfl ?_
    exact vv_zret C (by decide) (()) rfl [] rfl rfl ⟨Nat.le_of_ble_eq_true rfl, Nat.le_of_ble_eq_true rfl⟩ dX13_is_15
set_option maxHeartbeats 4000000 in
set_option maxRecDepth 100000 in
theorem k118_X13_isTerm (l : Launch) (hf : l.stackTraces = false) (G : vv_G) (q1 q2 q3 q4 q5 q6 q7 : Nat) (v8 : Int) (rv2 : -2147483648 ≤ v8 ∧ v8 < 2147483648) : ∀ sz, Met l yX13_isTerm (Cond.code yX13_isTerm cX13_isTerm 2 (some .boolean) :: gT) ({ frames := 1, cells := 0, slots := 0, locals := 22 } : Room) (va_Pc [.ref q1, .int (zI (v8))] (vv_I G [(q1, .inr (12, [.int (zI (0)), .ref q2, .ref q3, .ref q4, .ref q5, .ref q6, .ref q7, .long (0 : Int64)])), (q2, .inr (13, [.int (zI (0)), .ref (G.2.2 0), .int (zI (0))]))] sz)) (vv_Q G (fun v (u : Unit) => v = some (.int (zI (0)))) (fun u => [(q1, .inr (12, [.int (zI (0)), .ref q2, .ref q3, .ref q4, .ref q5, .ref q6, .ref q7, .long (0 : Int64)])), (q2, .inr (13, [.int (zI (0)), .ref (G.2.2 0), .int (zI (0))]))]) (va_A [(q1, .inr (12, [.int (zI (0)), .ref q2, .ref q3, .ref q4, .ref q5, .ref q6, .ref q7, .long (0 : Int64)])), (q2, .inr (13, [.int (zI (0)), .ref (G.2.2 0), .int (zI (0))]))] sz)) 0 0 (va_A [(q1, .inr (12, [.int (zI (0)), .ref q2, .ref q3, .ref q4, .ref q5, .ref q6, .ref q7, .long (0 : Int64)])), (q2, .inr (13, [.int (zI (0)), .ref (G.2.2 0), .int (zI (0))]))] sz) := by
  refine vv_start hf (by decide) (Nat.le_of_ble_eq_true rfl) ?_
  intro p e s m below meth c A C hnm
  refine vv_iload_n C 1 dX13_isTerm_0 rfl rfl ?_
  refine vv_iconst (v := zI (0)) C dX13_isTerm_1 rfl ?_
  refine vv_aload_n C 0 dX13_isTerm_2 rfl rfl ?_
  refine vv_get C 0 rfl rfl vi_X13 1 (by decide) wm1128 rfl dX13_isTerm_3 ?_
  refine vv_callV (As := []) (rest := [.int (zI (0)), .int (zI (v8))]) (wr := [(q1, .inr (12, [.int (zI (0)), .ref q2, .ref q3, .ref q4, .ref q5, .ref q6, .ref q7, .long (0 : Int64)]))]) (ws2 := fun u => [(q1, .inr (12, [.int (zI (0)), .ref q2, .ref q3, .ref q4, .ref q5, .ref q6, .ref q7, .long (0 : Int64)])), (q2, .inr (13, [.int (zI (0)), .ref (G.2.2 0), .int (zI (0))]))]) (isC := [1]) (isR := [0]) (isP := [0, 1]) C (vv_cutI rfl rfl rfl rfl (by decide) (fun _ => rfl) rfl) (k29_Jx4a65c_size_8abf5 l hf G q2) yy_Jx4a65c_size_8abf5 (vv_rmI rfl rfl (Nat.le_of_ble_eq_true rfl) (Nat.le_of_ble_eq_true rfl) (Nat.le_of_ble_eq_true rfl) (Nat.le_of_ble_eq_true rfl)) wm1175 wm1176 wm1177 0 rfl rfl rfl rfl (Nat.le_of_ble_eq_true rfl) dX13_isTerm_6 (fun v u hp => ?_)
  obtain rfl := hp
  refine vv_nrm (ws1 := [(q1, .inr (12, [.int (zI (0)), .ref q2, .ref q3, .ref q4, .ref q5, .ref q6, .ref q7, .long (0 : Int64)])), (q2, .inr (13, [.int (zI (0)), .ref (G.2.2 0), .int (zI (0))]))]) (st1 := [.int (zI (0)), .int (zI (0)), .int (zI (v8))]) rfl rfl ?_
  refine vv_iconst (v := zI (1)) C dX13_isTerm_9 rfl ?_
  refine vv_isub (z := zI (-1)) C dX13_isTerm_10 (by rw [zI_sub]; exact zI_c (by omega)) ?_
  refine vv_callS (As := [.int (zI (v8)), .int (zI (0)), .int (zI (-1))]) (rest := []) (wr := [(q1, .inr (12, [.int (zI (0)), .ref q2, .ref q3, .ref q4, .ref q5, .ref q6, .ref q7, .long (0 : Int64)])), (q2, .inr (13, [.int (zI (0)), .ref (G.2.2 0), .int (zI (0))]))]) (ws2 := fun u => [(q1, .inr (12, [.int (zI (0)), .ref q2, .ref q3, .ref q4, .ref q5, .ref q6, .ref q7, .long (0 : Int64)])), (q2, .inr (13, [.int (zI (0)), .ref (G.2.2 0), .int (zI (0))]))]) (isC := []) (isR := [0, 1]) (isP := [0, 1]) C (vv_cutI rfl rfl rfl rfl (by decide) (fun _ => rfl) rfl) (k117_X13_is l hf G  (v8) rv2) yy_X13_is (vv_rmI rfl rfl (Nat.le_of_ble_eq_true rfl) (Nat.le_of_ble_eq_true rfl) (Nat.le_of_ble_eq_true rfl) (Nat.le_of_ble_eq_true rfl)) wm1160 wm1161 rfl rfl (Nat.le_of_ble_eq_true rfl) dX13_isTerm_11 (fun v u hp => ?_)
  obtain rfl := hp
  refine vv_nrm (ws1 := [(q1, .inr (12, [.int (zI (0)), .ref q2, .ref q3, .ref q4, .ref q5, .ref q6, .ref q7, .long (0 : Int64)])), (q2, .inr (13, [.int (zI (0)), .ref (G.2.2 0), .int (zI (0))]))]) (st1 := [.int (zI (0))]) rfl rfl ?_
  exact vv_zret C (by decide) (()) rfl [0, 1] rfl rfl ⟨Nat.le_of_ble_eq_true rfl, Nat.le_of_ble_eq_true rfl⟩ dX13_isTerm_14
set_option maxHeartbeats 4000000 in
set_option maxRecDepth 100000 in
theorem k119_X13_term (l : Launch) (hf : l.stackTraces = false) (G : vv_G) (q1 q2 q3 q4 q5 q6 q7 : Nat) (v8 : Int) (rv2 : -2147483648 ≤ v8 ∧ v8 < 2147483648) (v9 : Int) (rv3 : -2147483648 ≤ v9 ∧ v9 < 2147483648) : ∀ sz, Met l yX13_term (Cond.code yX13_term cX13_term 8 (some .int) :: gT) ({ frames := 2, cells := 0, slots := 0, locals := 43 } : Room) (va_Pc [.ref q1, .int (zI (5)), .int (zI (v8)), .int (zI (v9))] (vv_I G [(q1, .inr (12, [.int (zI (0)), .ref q2, .ref q3, .ref q4, .ref q5, .ref q6, .ref q7, .long (0 : Int64)])), (q2, .inr (13, [.int (zI (0)), .ref (G.2.2 0), .int (zI (0))]))] sz)) (vv_Q G (fun v (u : Unit) => v = some (.int (zI (0)))) (fun u => [(q1, .inr (12, [.int (zI (1)), .ref q2, .ref q3, .ref q4, .ref q5, .ref q6, .ref q7, .long (0 : Int64)])), (q2, .inr (13, [.int (zI (0)), .ref (G.2.2 0), .int (zI (0))]))]) (va_A [(q1, .inr (12, [.int (zI (0)), .ref q2, .ref q3, .ref q4, .ref q5, .ref q6, .ref q7, .long (0 : Int64)])), (q2, .inr (13, [.int (zI (0)), .ref (G.2.2 0), .int (zI (0))]))] sz)) 0 0 (va_A [(q1, .inr (12, [.int (zI (0)), .ref q2, .ref q3, .ref q4, .ref q5, .ref q6, .ref q7, .long (0 : Int64)])), (q2, .inr (13, [.int (zI (0)), .ref (G.2.2 0), .int (zI (0))]))] sz) := by
  refine vv_start hf (by decide) (Nat.le_of_ble_eq_true rfl) ?_
  intro p e s m below meth c A C hnm
  refine vv_aload_n C 0 dX13_term_0 rfl rfl ?_
  refine vv_iconst (v := zI (0)) C dX13_term_1 rfl ?_
  refine vv_put (ws1 := [(q1, .inr (12, [.int (zI (0)), .ref q2, .ref q3, .ref q4, .ref q5, .ref q6, .ref q7, .long (0 : Int64)])), (q2, .inr (13, [.int (zI (0)), .ref (G.2.2 0), .int (zI (0))]))]) C 0 rfl rfl vi_X13 tyX13_ok nmX13 0 (by decide) wm1127 rfl rfl rfl (Nat.le_of_ble_eq_true rfl) rfl dX13_term_2 ?_
  refine vv_iload_n C 1 dX13_term_5 rfl rfl ?_
  refine vv_iconst (v := zI (0)) C dX13_term_6 rfl ?_
  refine vv_iconst (v := zI (5)) C dX13_term_7 rfl ?_
  refine vv_callS (As := [.int (zI (5)), .int (zI (0)), .int (zI (5))]) (rest := []) (wr := [(q1, .inr (12, [.int (zI (0)), .ref q2, .ref q3, .ref q4, .ref q5, .ref q6, .ref q7, .long (0 : Int64)])), (q2, .inr (13, [.int (zI (0)), .ref (G.2.2 0), .int (zI (0))]))]) (ws2 := fun u => [(q1, .inr (12, [.int (zI (0)), .ref q2, .ref q3, .ref q4, .ref q5, .ref q6, .ref q7, .long (0 : Int64)])), (q2, .inr (13, [.int (zI (0)), .ref (G.2.2 0), .int (zI (0))]))]) (isC := []) (isR := [0, 1]) (isP := [0, 1]) C (vv_cutI rfl rfl rfl rfl (by decide) (fun _ => rfl) rfl) (k115_X13_is l hf G ) yy_X13_is (vv_rmI rfl rfl (Nat.le_of_ble_eq_true rfl) (Nat.le_of_ble_eq_true rfl) (Nat.le_of_ble_eq_true rfl) (Nat.le_of_ble_eq_true rfl)) wm1160 wm1161 rfl rfl (Nat.le_of_ble_eq_true rfl) dX13_term_8 (fun v u hp => ?_)
  obtain rfl := hp
  refine vv_nrm (ws1 := [(q1, .inr (12, [.int (zI (0)), .ref q2, .ref q3, .ref q4, .ref q5, .ref q6, .ref q7, .long (0 : Int64)])), (q2, .inr (13, [.int (zI (0)), .ref (G.2.2 0), .int (zI (0))]))]) (st1 := [.int (zI (1))]) rfl rfl ?_
  refine vv_if_eq (tgt := 21) C dX13_term_11 (by decide) (by omega) (fun h => by exfalso; omega) (fun h => ?_)
  refine vv_iload_n C 1 dX13_term_14 rfl rfl ?_
  refine vv_callS (As := [.int (zI (5))]) (rest := []) (wr := [(q1, .inr (12, [.int (zI (0)), .ref q2, .ref q3, .ref q4, .ref q5, .ref q6, .ref q7, .long (0 : Int64)])), (q2, .inr (13, [.int (zI (0)), .ref (G.2.2 0), .int (zI (0))]))]) (ws2 := fun u => [(q1, .inr (12, [.int (zI (0)), .ref q2, .ref q3, .ref q4, .ref q5, .ref q6, .ref q7, .long (0 : Int64)])), (q2, .inr (13, [.int (zI (0)), .ref (G.2.2 0), .int (zI (0))]))]) (isC := []) (isR := [0, 1]) (isP := [0, 1]) C (vv_cutI rfl rfl rfl rfl (by decide) (fun _ => rfl) rfl) (k116_X13_parts l hf G ) yy_X13_parts (vv_rmI rfl rfl (Nat.le_of_ble_eq_true rfl) (Nat.le_of_ble_eq_true rfl) (Nat.le_of_ble_eq_true rfl) (Nat.le_of_ble_eq_true rfl)) wm1367 wm1368 rfl rfl (Nat.le_of_ble_eq_true rfl) dX13_term_15 (fun v u hp => ?_)
  obtain rfl := hp
  refine vv_nrm (ws1 := [(q1, .inr (12, [.int (zI (0)), .ref q2, .ref q3, .ref q4, .ref q5, .ref q6, .ref q7, .long (0 : Int64)])), (q2, .inr (13, [.int (zI (0)), .ref (G.2.2 0), .int (zI (0))]))]) (st1 := [.int (zI (2))]) rfl rfl ?_
  refine vv_goto C 22 dX13_term_18 (by decide) ?_
  refine vv_istore (loc1 := [(4, .int (zI (2))), (0, .ref q1), (1, .int (zI (5))), (2, .int (zI (v8))), (3, .int (zI (v9)))]) C dX13_term_22 (by decide) rfl ?_
  refine vv_iload C 0 dX13_term_24 rfl ?_
  refine vv_if_le (tgt := 37) C dX13_term_26 (by decide) (by omega) (fun h => by exfalso; omega) (fun h => ?_)
  refine vv_aload_n C 1 dX13_term_29 rfl rfl ?_
  refine vv_iload_n C 3 dX13_term_30 rfl rfl ?_
  refine vv_callV (As := [.int (zI (v8))]) (rest := []) (wr := []) (ws2 := fun u => [(q1, .inr (12, [.int (zI (0)), .ref q2, .ref q3, .ref q4, .ref q5, .ref q6, .ref q7, .long (0 : Int64)])), (q2, .inr (13, [.int (zI (0)), .ref (G.2.2 0), .int (zI (0))]))]) (isC := [0, 1]) (isR := []) (isP := [0, 1]) C (vv_cutI rfl rfl rfl rfl (by decide) (fun _ => rfl) rfl) (k118_X13_isTerm l hf G q1 q2 q3 q4 q5 q6 q7 (v8) rv2) yy_X13_isTerm (vv_rmI rfl rfl (Nat.le_of_ble_eq_true rfl) (Nat.le_of_ble_eq_true rfl) (Nat.le_of_ble_eq_true rfl) (Nat.le_of_ble_eq_true rfl)) wm1370 wm1372 ws_selects_LatticeworkModel_LatticeworkModel_isTerm__I_Z_LatticeworkModel_isTerm__I_Z 0 rfl rfl rfl rfl (Nat.le_of_ble_eq_true rfl) dX13_term_31 (fun v u hp => ?_)
  obtain rfl := hp
  refine vv_nrm (ws1 := [(q1, .inr (12, [.int (zI (0)), .ref q2, .ref q3, .ref q4, .ref q5, .ref q6, .ref q7, .long (0 : Int64)])), (q2, .inr (13, [.int (zI (0)), .ref (G.2.2 0), .int (zI (0))]))]) (st1 := [.int (zI (0))]) rfl rfl ?_
  refine vv_if_eq (tgt := 51) C dX13_term_34 (by decide) (by omega) (fun h => ?_) (fun h => by exfalso; omega)
  refine vv_aload_n C 1 dX13_term_51 rfl rfl ?_
  refine vv_iconst (v := zI (1)) C dX13_term_52 rfl ?_
  refine vv_callV (As := [.int (zI (1))]) (rest := []) (wr := [(q2, .inr (13, [.int (zI (0)), .ref (G.2.2 0), .int (zI (0))]))]) (ws2 := fun u => [(q1, .inr (12, [.int (zI (1)), .ref q2, .ref q3, .ref q4, .ref q5, .ref q6, .ref q7, .long (0 : Int64)])), (q2, .inr (13, [.int (zI (0)), .ref (G.2.2 0), .int (zI (0))]))]) (isC := [0]) (isR := [1]) (isP := [1, 0]) C (vv_cutI rfl rfl rfl rfl (by decide) (fun _ => rfl) rfl) (k20_X13_refuse l hf G q1 q2 q3 q4 q5 q6 q7) yy_X13_refuse (vv_rmI rfl rfl (Nat.le_of_ble_eq_true rfl) (Nat.le_of_ble_eq_true rfl) (Nat.le_of_ble_eq_true rfl) (Nat.le_of_ble_eq_true rfl)) wm1163 wm1165 ws_selects_LatticeworkModel_LatticeworkModel_refuse__I_I_LatticeworkModel_refuse__I_I 0 rfl rfl rfl rfl (Nat.le_of_ble_eq_true rfl) dX13_term_53 (fun v u hp => ?_)
  obtain rfl := hp
  refine vv_nrm (ws1 := [(q1, .inr (12, [.int (zI (1)), .ref q2, .ref q3, .ref q4, .ref q5, .ref q6, .ref q7, .long (0 : Int64)])), (q2, .inr (13, [.int (zI (0)), .ref (G.2.2 0), .int (zI (0))]))]) (st1 := [.int (zI (0))]) rfl rfl ?_
  exact vv_iret C (()) rfl [0, 1] rfl rfl ⟨Nat.le_of_ble_eq_true rfl, Nat.le_of_ble_eq_true rfl⟩ dX13_term_56
set_option maxHeartbeats 4000000 in
set_option maxRecDepth 100000 in
theorem k120_X10_term (l : Launch) (hf : l.stackTraces = false) (G : vv_G) (q1 q2 q3 q4 q5 q6 q7 q8 q9 q10 : Nat) (v11 : Int) (rv1 : -2147483648 ≤ v11 ∧ v11 < 2147483648) (v12 : Int) (rv2 : -2147483648 ≤ v12 ∧ v12 < 2147483648) (v13 : Int) (rv3 : -2147483648 ≤ v13 ∧ v13 < 2147483648) (g0 : 6 ≤ v11) : ∀ sz, vx_Met l yX10_term (Cond.code yX10_term cX10_term 10 (some .int) :: gT) ({ frames := 6, cells := 1, slots := 6, locals := 90 } : Room) (va_Pc [.ref q1, .int (zI (v11)), .int (zI (v12)), .int (zI (v13))] (vv_I G [(q1, .inr (9, [.ref q2, .ref q3, .ref q4, .ref q5, .ref q6, .ref q7, .ref q8, .ref q9, .ref q10]))] sz)) (vv_Q G (fun v (u : Unit) => False) (fun u => []) (va_A [(q1, .inr (9, [.ref q2, .ref q3, .ref q4, .ref q5, .ref q6, .ref q7, .ref q8, .ref q9, .ref q10]))] sz)) (vv_XC G (fun E (u : Unit) => E = "java/lang/IllegalArgumentException") (fun u => [(q1, .inr (9, [.ref q2, .ref q3, .ref q4, .ref q5, .ref q6, .ref q7, .ref q8, .ref q9, .ref q10]))]) (va_A [(q1, .inr (9, [.ref q2, .ref q3, .ref q4, .ref q5, .ref q6, .ref q7, .ref q8, .ref q9, .ref q10]))] sz)) 1 6 (va_A [(q1, .inr (9, [.ref q2, .ref q3, .ref q4, .ref q5, .ref q6, .ref q7, .ref q8, .ref q9, .ref q10]))] sz) := by
  refine vv_startX hf (by decide) (Nat.le_of_ble_eq_true rfl) ?_
  intro p e s m below meth c A C hnm htab
  refine vv_iload_n C 1 dX10_term_0 rfl rfl ?_
  refine vv_if_lt (tgt := 14) C dX10_term_1 (by decide) (by omega) (fun h => by exfalso; omega) (fun h => ?_)
  refine vv_iload_n C 1 dX10_term_4 rfl rfl ?_
  refine vv_bipush (v := zI (6)) C dX10_term_5 (by decide) ?_
  refine vv_icmp_ge (tgt := 14) C dX10_term_7 (by decide) (by omega) (by omega) (fun h => ?_) (fun h => by exfalso; omega)
  refine vv_iconst (v := zI (0)) C dX10_term_14 rfl ?_
  refine vv_istore (loc1 := [(4, .int (zI (0))), (0, .ref q1), (1, .int (zI (v11))), (2, .int (zI (v12))), (3, .int (zI (v13)))]) C dX10_term_15 (by decide) rfl ?_
  refine vv_iload C 0 dX10_term_17 rfl ?_
  refine vv_if_eq (tgt := 32) C dX10_term_19 (by decide) (by omega) (fun h => ?_) (fun h => by exfalso; omega)
  refine vv_iconst (v := zI (0)) C dX10_term_32 rfl ?_
  refine vv_istore (loc1 := [(5, .int (zI (0))), (4, .int (zI (0))), (0, .ref q1), (1, .int (zI (v11))), (2, .int (zI (v12))), (3, .int (zI (v13)))]) C dX10_term_33 (by decide) rfl ?_
  refine vv_iload C 0 dX10_term_35 rfl ?_
  refine vv_iconst (v := zI (1)) C dX10_term_37 rfl ?_
  refine vv_icmp_lt (tgt := 46) C dX10_term_38 (by decide) (by omega) (by omega) (fun h => ?_) (fun h => by exfalso; omega)
  refine vv_iload C 0 dX10_term_46 rfl ?_
  refine vv_iconst (v := zI (2)) C dX10_term_48 rfl ?_
  refine vv_icmp_ne (tgt := 57) C dX10_term_49 (by decide) (by omega) (by omega) (fun h => ?_) (fun h => by exfalso; omega)
  refine vv_iload C 1 dX10_term_57 rfl ?_
  refine vv_if_ne (tgt := 72) C dX10_term_59 (by decide) (by omega) (fun h => by exfalso; omega) (fun h => ?_)
  exact vv_throw C tw_X10_74_101 htab dX10_term_62 dX10_term_65 dX10_term_66 dX10_term_68 dX10_term_71 ⟨Nat.le_of_ble_eq_true rfl, Nat.le_of_ble_eq_true rfl, Nat.le_of_ble_eq_true rfl, Nat.le_of_ble_eq_true rfl, Nat.le_of_ble_eq_true rfl, Nat.le_of_ble_eq_true rfl⟩ () rfl [0] rfl rfl
set_option maxHeartbeats 4000000 in
set_option maxRecDepth 100000 in
theorem k121_L_term (l : Launch) (hf : l.stackTraces = false) (G : vv_G) (q1 q2 q3 q4 q5 q6 q7 q8 q9 q10 q11 : Nat) (v12 : Int) (rv1 : -2147483648 ≤ v12 ∧ v12 < 2147483648) (v13 : Int) (rv2 : -2147483648 ≤ v13 ∧ v13 < 2147483648) (v14 : Int) (rv3 : -2147483648 ≤ v14 ∧ v14 < 2147483648) (g0 : 6 ≤ v12) : ∀ sz, Met l yL_term (Cond.codeWith yL_term cL_term 6 (some .int) [(0, 12, 15, 21), (0, 12, 19, 13), (0, 12, 23, 15)] :: gT) ({ frames := 7, cells := 1, slots := 6, locals := 119 } : Room) (va_Pc [.ref q1, .int (zI (v12)), .int (zI (v13)), .int (zI (v14)), .ref q11] (vv_I G [(q1, .inr (9, [.ref q2, .ref q3, .ref q4, .ref q5, .ref q6, .ref q7, .ref q8, .ref q9, .ref q10]))] sz)) (vv_Q G (fun v (u : Unit) => v = some (.int (zI (2)))) (fun u => [(q1, .inr (9, [.ref q2, .ref q3, .ref q4, .ref q5, .ref q6, .ref q7, .ref q8, .ref q9, .ref q10]))]) (va_A [(q1, .inr (9, [.ref q2, .ref q3, .ref q4, .ref q5, .ref q6, .ref q7, .ref q8, .ref q9, .ref q10]))] sz)) 1 6 (va_A [(q1, .inr (9, [.ref q2, .ref q3, .ref q4, .ref q5, .ref q6, .ref q7, .ref q8, .ref q9, .ref q10]))] sz) := by
  refine vv_startW hf (by decide) (Nat.le_of_ble_eq_true rfl) ?_
  intro p e s m below meth c A C hnm htab
  refine vv_aload C 4 dL_term_0 rfl ?_
  refine vv_iconst (v := zI (0)) C dL_term_2 rfl ?_
  refine vv_aload_n C 0 dL_term_3 rfl rfl ?_
  refine vv_iload_n C 1 dL_term_4 rfl rfl ?_
  refine vv_iload_n C 2 dL_term_5 rfl rfl ?_
  refine vv_iload_n C 3 dL_term_6 rfl rfl ?_
  refine vv_callVx (As := [.int (zI (v12)), .int (zI (v13)), .int (zI (v14))]) (rest := [.int (zI (0)), .ref q11]) (wr := []) (ws3 := fun u => [(q1, .inr (9, [.ref q2, .ref q3, .ref q4, .ref q5, .ref q6, .ref q7, .ref q8, .ref q9, .ref q10]))]) (isC := [0]) (isR := []) (isX := [0]) (ws2 := fun _ => []) (isP := []) C (vv_cutI rfl rfl rfl rfl (by decide) (fun _ => rfl) rfl) (vv_cutI rfl rfl rfl rfl (by decide) (fun _ => rfl) rfl) (k120_X10_term l hf G q1 q2 q3 q4 q5 q6 q7 q8 q9 q10 (v12) rv1 (v13) rv2 (v14) rv3 (by omega)) yy_X10_term (vv_rmI rfl rfl (Nat.le_of_ble_eq_true rfl) (Nat.le_of_ble_eq_true rfl) (Nat.le_of_ble_eq_true rfl) (Nat.le_of_ble_eq_true rfl)) wm646 wm647 wm648 0 rfl rfl rfl rfl (Nat.le_of_ble_eq_true rfl) dL_term_7 (fun E9 u hp => ?_) (fun v u hp => hp.elim)
  obtain rfl := hp
  refine vv_catch C htab [⟨0, 12, 15, 21⟩] ⟨0, 12, 19, 13⟩ [⟨0, 12, 23, 15⟩] rfl (by intro z hz; simp only [List.mem_cons, List.not_mem_nil, or_false] at hz; obtain rfl := hz; exact Or.inr ⟨by decide, "java/lang/IndexOutOfBoundsException", wm645, by decide +kernel⟩) rfl (by decide) wm541 (by decide +kernel) (fun qe48 => ?_)
  refine vv_astore (loc1 := [(5, .ref qe48), (0, .ref q1), (1, .int (zI (v12))), (2, .int (zI (v13))), (3, .int (zI (v14))), (4, .ref q11)]) C dL_term_19 (by decide) rfl ?_
  refine vv_iconst (v := zI (2)) C dL_term_21 rfl ?_
  exact vv_iret C (()) rfl [0] rfl rfl ⟨Nat.le_of_ble_eq_true rfl, Nat.le_of_ble_eq_true rfl⟩ dL_term_22
set_option maxHeartbeats 4000000 in
set_option maxRecDepth 100000 in
theorem k122_X13_is (l : Launch) (hf : l.stackTraces = false) (G : vv_G)  (v1 : Int) (rv1 : -2147483648 ≤ v1 ∧ v1 < 2147483648) (g0 : 6 ≤ v1) : ∀ sz, Met l yX13_is (Cond.code yX13_is cX13_is 3 (some .boolean) :: gT) ({ frames := 0, cells := 0, slots := 0, locals := 0 } : Room) (va_Pc [.int (zI (v1)), .int (zI (0)), .int (zI (5))] (vv_I G [] sz)) (vv_Q G (fun v (u : Unit) => v = some (.int (zI (0)))) (fun u => []) (va_A [] sz)) 0 0 (va_A [] sz) := by
  refine vv_start hf (by decide) (Nat.le_of_ble_eq_true rfl) ?_
  intro p e s m below meth c A C hnm
  refine vv_iload_n C 0 dX13_is_0 rfl rfl ?_
  refine vv_iload_n C 1 dX13_is_1 rfl rfl ?_
  refine vv_icmp_lt (tgt := 14) C dX13_is_2 (by decide) (by omega) (by omega) (fun h => by exfalso; omega) (fun h => ?_)
  refine vv_iload_n C 0 dX13_is_5 rfl rfl ?_
  refine vv_iload_n C 2 dX13_is_6 rfl rfl ?_
  refine vv_icmp_gt (tgt := 14) C dX13_is_7 (by decide) (by omega) (by omega) (fun h => ?_) (fun h => by exfalso; omega)
  refine vv_iconst (v := zI (0)) C dX13_is_14 rfl ?_
  exact vv_zret C (by decide) (()) rfl [] rfl rfl ⟨Nat.le_of_ble_eq_true rfl, Nat.le_of_ble_eq_true rfl⟩ dX13_is_15
set_option maxHeartbeats 4000000 in
set_option maxRecDepth 100000 in
theorem k123_X13_term (l : Launch) (hf : l.stackTraces = false) (G : vv_G) (q1 q2 q3 q4 q5 q6 q7 : Nat) (v8 : Int) (rv1 : -2147483648 ≤ v8 ∧ v8 < 2147483648) (v9 : Int) (rv2 : -2147483648 ≤ v9 ∧ v9 < 2147483648) (v10 : Int) (rv3 : -2147483648 ≤ v10 ∧ v10 < 2147483648) (g0 : 6 ≤ v8) : ∀ sz, Met l yX13_term (Cond.code yX13_term cX13_term 8 (some .int) :: gT) ({ frames := 1, cells := 0, slots := 0, locals := 22 } : Room) (va_Pc [.ref q1, .int (zI (v8)), .int (zI (v9)), .int (zI (v10))] (vv_I G [(q1, .inr (12, [.int (zI (0)), .ref q2, .ref q3, .ref q4, .ref q5, .ref q6, .ref q7, .long (0 : Int64)]))] sz)) (vv_Q G (fun v (u : Unit) => v = some (.int (zI (0)))) (fun u => [(q1, .inr (12, [.int (zI (2)), .ref q2, .ref q3, .ref q4, .ref q5, .ref q6, .ref q7, .long (0 : Int64)]))]) (va_A [(q1, .inr (12, [.int (zI (0)), .ref q2, .ref q3, .ref q4, .ref q5, .ref q6, .ref q7, .long (0 : Int64)]))] sz)) 0 0 (va_A [(q1, .inr (12, [.int (zI (0)), .ref q2, .ref q3, .ref q4, .ref q5, .ref q6, .ref q7, .long (0 : Int64)]))] sz) := by
  refine vv_start hf (by decide) (Nat.le_of_ble_eq_true rfl) ?_
  intro p e s m below meth c A C hnm
  refine vv_aload_n C 0 dX13_term_0 rfl rfl ?_
  refine vv_iconst (v := zI (0)) C dX13_term_1 rfl ?_
  refine vv_put (ws1 := [(q1, .inr (12, [.int (zI (0)), .ref q2, .ref q3, .ref q4, .ref q5, .ref q6, .ref q7, .long (0 : Int64)]))]) C 0 rfl rfl vi_X13 tyX13_ok nmX13 0 (by decide) wm1127 rfl rfl rfl (Nat.le_of_ble_eq_true rfl) rfl dX13_term_2 ?_
  refine vv_iload_n C 1 dX13_term_5 rfl rfl ?_
  refine vv_iconst (v := zI (0)) C dX13_term_6 rfl ?_
  refine vv_iconst (v := zI (5)) C dX13_term_7 rfl ?_
  refine vv_callS (As := [.int (zI (v8)), .int (zI (0)), .int (zI (5))]) (rest := []) (wr := [(q1, .inr (12, [.int (zI (0)), .ref q2, .ref q3, .ref q4, .ref q5, .ref q6, .ref q7, .long (0 : Int64)]))]) (ws2 := fun u => [(q1, .inr (12, [.int (zI (0)), .ref q2, .ref q3, .ref q4, .ref q5, .ref q6, .ref q7, .long (0 : Int64)]))]) (isC := []) (isR := [0]) (isP := [0]) C (vv_cutI rfl rfl rfl rfl (by decide) (fun _ => rfl) rfl) (k122_X13_is l hf G  (v8) rv1 (by omega)) yy_X13_is (vv_rmI rfl rfl (Nat.le_of_ble_eq_true rfl) (Nat.le_of_ble_eq_true rfl) (Nat.le_of_ble_eq_true rfl) (Nat.le_of_ble_eq_true rfl)) wm1160 wm1161 rfl rfl (Nat.le_of_ble_eq_true rfl) dX13_term_8 (fun v u hp => ?_)
  obtain rfl := hp
  refine vv_nrm (ws1 := [(q1, .inr (12, [.int (zI (0)), .ref q2, .ref q3, .ref q4, .ref q5, .ref q6, .ref q7, .long (0 : Int64)]))]) (st1 := [.int (zI (0))]) rfl rfl ?_
  refine vv_if_eq (tgt := 21) C dX13_term_11 (by decide) (by omega) (fun h => ?_) (fun h => by exfalso; omega)
  refine vv_iconst (v := zI (0)) C dX13_term_21 rfl ?_
  refine vv_istore (loc1 := [(4, .int (zI (0))), (0, .ref q1), (1, .int (zI (v8))), (2, .int (zI (v9))), (3, .int (zI (v10)))]) C dX13_term_22 (by decide) rfl ?_
  refine vv_iload C 0 dX13_term_24 rfl ?_
  refine vv_if_le (tgt := 37) C dX13_term_26 (by decide) (by omega) (fun h => ?_) (fun h => by exfalso; omega)
  refine vv_iload C 0 dX13_term_37 rfl ?_
  refine vv_iconst (v := zI (1)) C dX13_term_39 rfl ?_
  refine vv_icmp_le (tgt := 57) C dX13_term_40 (by decide) (by omega) (by omega) (fun h => ?_) (fun h => by exfalso; omega)
  refine vv_iload_n C 2 dX13_term_57 rfl rfl ?_
  refine vv_iconst (v := zI (0)) C dX13_term_58 rfl ?_
  refine vv_iconst (v := zI (5)) C dX13_term_59 rfl ?_
  refine vv_callS (As := [.int (zI (v8)), .int (zI (0)), .int (zI (5))]) (rest := []) (wr := [(q1, .inr (12, [.int (zI (0)), .ref q2, .ref q3, .ref q4, .ref q5, .ref q6, .ref q7, .long (0 : Int64)]))]) (ws2 := fun u => [(q1, .inr (12, [.int (zI (0)), .ref q2, .ref q3, .ref q4, .ref q5, .ref q6, .ref q7, .long (0 : Int64)]))]) (isC := []) (isR := [0]) (isP := [0]) C (vv_cutI rfl rfl rfl rfl (by decide) (fun _ => rfl) rfl) (k122_X13_is l hf G  (v8) rv1 (by omega)) yy_X13_is (vv_rmI rfl rfl (Nat.le_of_ble_eq_true rfl) (Nat.le_of_ble_eq_true rfl) (Nat.le_of_ble_eq_true rfl) (Nat.le_of_ble_eq_true rfl)) wm1160 wm1161 rfl rfl (Nat.le_of_ble_eq_true rfl) dX13_term_60 (fun v u hp => ?_)
  obtain rfl := hp
  refine vv_nrm (ws1 := [(q1, .inr (12, [.int (zI (0)), .ref q2, .ref q3, .ref q4, .ref q5, .ref q6, .ref q7, .long (0 : Int64)]))]) (st1 := [.int (zI (0))]) rfl rfl ?_
  refine vv_if_ne (tgt := 72) C dX13_term_63 (by decide) (by omega) (fun h => by exfalso; omega) (fun h => ?_)
  refine vv_aload_n C 1 dX13_term_66 rfl rfl ?_
  refine vv_iconst (v := zI (2)) C dX13_term_67 rfl ?_
  refine vv_callV (As := [.int (zI (2))]) (rest := []) (wr := []) (ws2 := fun u => [(q1, .inr (12, [.int (zI (2)), .ref q2, .ref q3, .ref q4, .ref q5, .ref q6, .ref q7, .long (0 : Int64)]))]) (isC := [0]) (isR := []) (isP := [0]) C (vv_cutI rfl rfl rfl rfl (by decide) (fun _ => rfl) rfl) (k46_X13_refuse l hf G q1 q2 q3 q4 q5 q6 q7) yy_X13_refuse (vv_rmI rfl rfl (Nat.le_of_ble_eq_true rfl) (Nat.le_of_ble_eq_true rfl) (Nat.le_of_ble_eq_true rfl) (Nat.le_of_ble_eq_true rfl)) wm1163 wm1165 ws_selects_LatticeworkModel_LatticeworkModel_refuse__I_I_LatticeworkModel_refuse__I_I 0 rfl rfl rfl rfl (Nat.le_of_ble_eq_true rfl) dX13_term_68 (fun v u hp => ?_)
  obtain rfl := hp
  refine vv_nrm (ws1 := [(q1, .inr (12, [.int (zI (2)), .ref q2, .ref q3, .ref q4, .ref q5, .ref q6, .ref q7, .long (0 : Int64)]))]) (st1 := [.int (zI (0))]) rfl rfl ?_
  exact vv_iret C (()) rfl [0] rfl rfl ⟨Nat.le_of_ble_eq_true rfl, Nat.le_of_ble_eq_true rfl⟩ dX13_term_71
set_option maxHeartbeats 4000000 in
set_option maxRecDepth 100000 in
theorem k124_X10_terms (l : Launch) (hf : l.stackTraces = false) (G : vv_G) (q1 q2 q3 q4 q5 q6 q7 q8 q9 q10 q11 q12 q13 : Nat) : ∀ sz, Met l yX10_terms (Cond.code yX10_terms cX10_terms 1 (some .int) :: gT) ({ frames := 0, cells := 0, slots := 0, locals := 0 } : Room) (va_Pc [.ref q1] (vv_I G [(q1, .inr (9, [.ref q2, .ref q3, .ref q4, .ref q5, .ref q6, .ref q7, .ref q8, .ref q9, .ref q10])), (q7, .inr (8, [.ref q11, .ref q12, .ref q13, .int (zI (0))]))] sz)) (vv_Q G (fun v (u : Unit) => v = some (.int (zI (0)))) (fun u => [(q1, .inr (9, [.ref q2, .ref q3, .ref q4, .ref q5, .ref q6, .ref q7, .ref q8, .ref q9, .ref q10])), (q7, .inr (8, [.ref q11, .ref q12, .ref q13, .int (zI (0))]))]) (va_A [(q1, .inr (9, [.ref q2, .ref q3, .ref q4, .ref q5, .ref q6, .ref q7, .ref q8, .ref q9, .ref q10])), (q7, .inr (8, [.ref q11, .ref q12, .ref q13, .int (zI (0))]))] sz)) 0 0 (va_A [(q1, .inr (9, [.ref q2, .ref q3, .ref q4, .ref q5, .ref q6, .ref q7, .ref q8, .ref q9, .ref q10])), (q7, .inr (8, [.ref q11, .ref q12, .ref q13, .int (zI (0))]))] sz) := by
  refine vv_start hf (by decide) (Nat.le_of_ble_eq_true rfl) ?_
  intro p e s m below meth c A C hnm
  refine vv_aload_n C 0 dX10_terms_0 rfl rfl ?_
  refine vv_get C 0 rfl rfl vi_X10 5 (by decide) wm329 rfl dX10_terms_1 ?_
  refine vv_get C 1 rfl rfl vi_X9 3 (by decide) wm198 rfl dX10_terms_4 ?_
  exact vv_iret C (()) rfl [0, 1] rfl rfl ⟨Nat.le_of_ble_eq_true rfl, Nat.le_of_ble_eq_true rfl⟩ dX10_terms_7
set_option maxHeartbeats 4000000 in
set_option maxRecDepth 100000 in
theorem k125_X13_terms (l : Launch) (hf : l.stackTraces = false) (G : vv_G) (q1 q2 q3 q4 q5 q6 q7 : Nat) : ∀ sz, Met l yX13_terms (Cond.code yX13_terms cX13_terms 1 (some .int) :: gT) ({ frames := 1, cells := 0, slots := 0, locals := 20 } : Room) (va_Pc [.ref q1] (vv_I G [(q1, .inr (12, [.int (zI (0)), .ref q2, .ref q3, .ref q4, .ref q5, .ref q6, .ref q7, .long (0 : Int64)])), (q2, .inr (13, [.int (zI (0)), .ref (G.2.2 0), .int (zI (0))]))] sz)) (vv_Q G (fun v (u : Unit) => v = some (.int (zI (0)))) (fun u => [(q1, .inr (12, [.int (zI (0)), .ref q2, .ref q3, .ref q4, .ref q5, .ref q6, .ref q7, .long (0 : Int64)])), (q2, .inr (13, [.int (zI (0)), .ref (G.2.2 0), .int (zI (0))]))]) (va_A [(q1, .inr (12, [.int (zI (0)), .ref q2, .ref q3, .ref q4, .ref q5, .ref q6, .ref q7, .long (0 : Int64)])), (q2, .inr (13, [.int (zI (0)), .ref (G.2.2 0), .int (zI (0))]))] sz)) 0 0 (va_A [(q1, .inr (12, [.int (zI (0)), .ref q2, .ref q3, .ref q4, .ref q5, .ref q6, .ref q7, .long (0 : Int64)])), (q2, .inr (13, [.int (zI (0)), .ref (G.2.2 0), .int (zI (0))]))] sz) := by
  refine vv_start hf (by decide) (Nat.le_of_ble_eq_true rfl) ?_
  intro p e s m below meth c A C hnm
  refine vv_aload_n C 0 dX13_terms_0 rfl rfl ?_
  refine vv_iconst (v := zI (0)) C dX13_terms_1 rfl ?_
  refine vv_put (ws1 := [(q1, .inr (12, [.int (zI (0)), .ref q2, .ref q3, .ref q4, .ref q5, .ref q6, .ref q7, .long (0 : Int64)])), (q2, .inr (13, [.int (zI (0)), .ref (G.2.2 0), .int (zI (0))]))]) C 0 rfl rfl vi_X13 tyX13_ok nmX13 0 (by decide) wm1127 rfl rfl rfl (Nat.le_of_ble_eq_true rfl) rfl dX13_terms_2 ?_
  refine vv_aload_n C 0 dX13_terms_5 rfl rfl ?_
  refine vv_get C 0 rfl rfl vi_X13 1 (by decide) wm1128 rfl dX13_terms_6 ?_
  refine vv_callV (As := []) (rest := []) (wr := [(q1, .inr (12, [.int (zI (0)), .ref q2, .ref q3, .ref q4, .ref q5, .ref q6, .ref q7, .long (0 : Int64)]))]) (ws2 := fun u => [(q1, .inr (12, [.int (zI (0)), .ref q2, .ref q3, .ref q4, .ref q5, .ref q6, .ref q7, .long (0 : Int64)])), (q2, .inr (13, [.int (zI (0)), .ref (G.2.2 0), .int (zI (0))]))]) (isC := [1]) (isR := [0]) (isP := [0, 1]) C (vv_cutI rfl rfl rfl rfl (by decide) (fun _ => rfl) rfl) (k29_Jx4a65c_size_8abf5 l hf G q2) yy_Jx4a65c_size_8abf5 (vv_rmI rfl rfl (Nat.le_of_ble_eq_true rfl) (Nat.le_of_ble_eq_true rfl) (Nat.le_of_ble_eq_true rfl) (Nat.le_of_ble_eq_true rfl)) wm1175 wm1176 wm1177 0 rfl rfl rfl rfl (Nat.le_of_ble_eq_true rfl) dX13_terms_9 (fun v u hp => ?_)
  obtain rfl := hp
  refine vv_nrm (ws1 := [(q1, .inr (12, [.int (zI (0)), .ref q2, .ref q3, .ref q4, .ref q5, .ref q6, .ref q7, .long (0 : Int64)])), (q2, .inr (13, [.int (zI (0)), .ref (G.2.2 0), .int (zI (0))]))]) (st1 := [.int (zI (0))]) rfl rfl ?_
  exact vv_iret C (()) rfl [0, 1] rfl rfl ⟨Nat.le_of_ble_eq_true rfl, Nat.le_of_ble_eq_true rfl⟩ dX13_terms_12
set_option maxHeartbeats 4000000 in
set_option maxRecDepth 100000 in
theorem k126_X10_needTerm (l : Launch) (hf : l.stackTraces = false) (G : vv_G) (q1 q2 q3 q4 q5 q6 q7 q8 q9 q10 : Nat) (v11 : Int) (rv1 : -2147483648 ≤ v11 ∧ v11 < 2147483648) (g0 : v11 ≤ -1) : ∀ sz, vx_Met l yX10_needTerm (Cond.code yX10_needTerm cX10_needTerm 2 none :: gT) ({ frames := 6, cells := 1, slots := 6, locals := 90 } : Room) (va_Pc [.ref q1, .int (zI (v11))] (vv_I G [(q1, .inr (9, [.ref q2, .ref q3, .ref q4, .ref q5, .ref q6, .ref q7, .ref q8, .ref q9, .ref q10]))] sz)) (vv_Q G (fun v (u : Unit) => False) (fun u => []) (va_A [(q1, .inr (9, [.ref q2, .ref q3, .ref q4, .ref q5, .ref q6, .ref q7, .ref q8, .ref q9, .ref q10]))] sz)) (vv_XC G (fun E (u : Unit) => E = "java/lang/IndexOutOfBoundsException") (fun u => [(q1, .inr (9, [.ref q2, .ref q3, .ref q4, .ref q5, .ref q6, .ref q7, .ref q8, .ref q9, .ref q10]))]) (va_A [(q1, .inr (9, [.ref q2, .ref q3, .ref q4, .ref q5, .ref q6, .ref q7, .ref q8, .ref q9, .ref q10]))] sz)) 1 6 (va_A [(q1, .inr (9, [.ref q2, .ref q3, .ref q4, .ref q5, .ref q6, .ref q7, .ref q8, .ref q9, .ref q10]))] sz) := by
  refine vv_startX hf (by decide) (Nat.le_of_ble_eq_true rfl) ?_
  intro p e s m below meth c A C hnm htab
  refine vv_iload_n C 1 dX10_needTerm_0 rfl rfl ?_
  refine vv_if_lt (tgt := 15) C dX10_needTerm_1 (by decide) (by omega) (fun h => ?_) (fun h => by exfalso; omega)
  exact vv_throwW C tw_X10_125_288 htab dX10_needTerm_15 dX10_needTerm_18 dX10_needTerm_19 dX10_needTerm_22 dX10_needTerm_25 ⟨Nat.le_of_ble_eq_true rfl, Nat.le_of_ble_eq_true rfl, Nat.le_of_ble_eq_true rfl, Nat.le_of_ble_eq_true rfl, Nat.le_of_ble_eq_true rfl, Nat.le_of_ble_eq_true rfl⟩ () rfl [0] rfl rfl
set_option maxHeartbeats 4000000 in
set_option maxRecDepth 100000 in
theorem k127_X10_ofTerm (l : Launch) (hf : l.stackTraces = false) (G : vv_G) (q1 q2 q3 q4 q5 q6 q7 q8 q9 q10 : Nat) (v11 : Int) (rv1 : -2147483648 ≤ v11 ∧ v11 < 2147483648) (v12 : Int) (rv2 : -2147483648 ≤ v12 ∧ v12 < 2147483648) (g0 : v11 ≤ -1) : ∀ sz, vx_Met l yX10_ofTerm (Cond.code yX10_ofTerm cX10_ofTerm 5 (some .int) :: gT) ({ frames := 7, cells := 1, slots := 6, locals := 111 } : Room) (va_Pc [.ref q1, .int (zI (v11)), .int (zI (v12))] (vv_I G [(q1, .inr (9, [.ref q2, .ref q3, .ref q4, .ref q5, .ref q6, .ref q7, .ref q8, .ref q9, .ref q10]))] sz)) (vv_Q G (fun v (u : Unit) => False) (fun u => []) (va_A [(q1, .inr (9, [.ref q2, .ref q3, .ref q4, .ref q5, .ref q6, .ref q7, .ref q8, .ref q9, .ref q10]))] sz)) (vv_XC G (fun E (u : Unit) => E = "java/lang/IndexOutOfBoundsException") (fun u => [(q1, .inr (9, [.ref q2, .ref q3, .ref q4, .ref q5, .ref q6, .ref q7, .ref q8, .ref q9, .ref q10]))]) (va_A [(q1, .inr (9, [.ref q2, .ref q3, .ref q4, .ref q5, .ref q6, .ref q7, .ref q8, .ref q9, .ref q10]))] sz)) 1 6 (va_A [(q1, .inr (9, [.ref q2, .ref q3, .ref q4, .ref q5, .ref q6, .ref q7, .ref q8, .ref q9, .ref q10]))] sz) := by
  refine vv_startX hf (by decide) (Nat.le_of_ble_eq_true rfl) ?_
  intro p e s m below meth c A C hnm htab
  refine vv_aload_n C 0 dX10_ofTerm_0 rfl rfl ?_
  refine vv_iload_n C 1 dX10_ofTerm_1 rfl rfl ?_
  refine vv_callVx (As := [.int (zI (v11))]) (rest := []) (wr := []) (ws3 := fun u => [(q1, .inr (9, [.ref q2, .ref q3, .ref q4, .ref q5, .ref q6, .ref q7, .ref q8, .ref q9, .ref q10]))]) (isC := [0]) (isR := []) (isX := [0]) (ws2 := fun _ => []) (isP := []) C (vv_cutI rfl rfl rfl rfl (by decide) (fun _ => rfl) rfl) (vv_cutI rfl rfl rfl rfl (by decide) (fun _ => rfl) rfl) (k126_X10_needTerm l hf G q1 q2 q3 q4 q5 q6 q7 q8 q9 q10 (v11) rv1 (by omega)) yy_X10_needTerm (vv_rmI rfl rfl (Nat.le_of_ble_eq_true rfl) (Nat.le_of_ble_eq_true rfl) (Nat.le_of_ble_eq_true rfl) (Nat.le_of_ble_eq_true rfl)) wm654 wm656 ws_selects_Latticework_Latticework_needTerm__I_V_Latticework_needTerm__I_V 0 rfl rfl rfl rfl (Nat.le_of_ble_eq_true rfl) dX10_ofTerm_2 (fun E9 u hp => ?_) (fun v u hp => hp.elim)
  obtain rfl := hp
  exact vv_out C htab ⟨Nat.le_of_ble_eq_true rfl, Nat.le_of_ble_eq_true rfl⟩ () rfl [0] rfl rfl
set_option maxHeartbeats 4000000 in
set_option maxRecDepth 100000 in
theorem k128_L_ofTerm (l : Launch) (hf : l.stackTraces = false) (G : vv_G) (q1 q2 q3 q4 q5 q6 q7 q8 q9 q10 q11 : Nat) (v12 : Int) (rv1 : -2147483648 ≤ v12 ∧ v12 < 2147483648) (v13 : Int) (rv2 : -2147483648 ≤ v13 ∧ v13 < 2147483648) (g0 : v12 ≤ -1) : ∀ sz, Met l yL_ofTerm (Cond.codeWith yL_ofTerm cL_ofTerm 5 (some .int) [(0, 10, 13, 21), (0, 10, 17, 13)] :: gT) ({ frames := 8, cells := 1, slots := 6, locals := 135 } : Room) (va_Pc [.ref q1, .int (zI (v12)), .int (zI (v13)), .ref q11] (vv_I G [(q1, .inr (9, [.ref q2, .ref q3, .ref q4, .ref q5, .ref q6, .ref q7, .ref q8, .ref q9, .ref q10]))] sz)) (vv_Q G (fun v (u : Unit) => v = some (.int (zI (1)))) (fun u => [(q1, .inr (9, [.ref q2, .ref q3, .ref q4, .ref q5, .ref q6, .ref q7, .ref q8, .ref q9, .ref q10]))]) (va_A [(q1, .inr (9, [.ref q2, .ref q3, .ref q4, .ref q5, .ref q6, .ref q7, .ref q8, .ref q9, .ref q10]))] sz)) 1 6 (va_A [(q1, .inr (9, [.ref q2, .ref q3, .ref q4, .ref q5, .ref q6, .ref q7, .ref q8, .ref q9, .ref q10]))] sz) := by
  refine vv_startW hf (by decide) (Nat.le_of_ble_eq_true rfl) ?_
  intro p e s m below meth c A C hnm htab
  refine vv_aload_n C 3 dL_ofTerm_0 rfl rfl ?_
  refine vv_iconst (v := zI (0)) C dL_ofTerm_1 rfl ?_
  refine vv_aload_n C 0 dL_ofTerm_2 rfl rfl ?_
  refine vv_iload_n C 1 dL_ofTerm_3 rfl rfl ?_
  refine vv_iload_n C 2 dL_ofTerm_4 rfl rfl ?_
  refine vv_callVx (As := [.int (zI (v12)), .int (zI (v13))]) (rest := [.int (zI (0)), .ref q11]) (wr := []) (ws3 := fun u => [(q1, .inr (9, [.ref q2, .ref q3, .ref q4, .ref q5, .ref q6, .ref q7, .ref q8, .ref q9, .ref q10]))]) (isC := [0]) (isR := []) (isX := [0]) (ws2 := fun _ => []) (isP := []) C (vv_cutI rfl rfl rfl rfl (by decide) (fun _ => rfl) rfl) (vv_cutI rfl rfl rfl rfl (by decide) (fun _ => rfl) rfl) (k127_X10_ofTerm l hf G q1 q2 q3 q4 q5 q6 q7 q8 q9 q10 (v12) rv1 (v13) rv2 (by omega)) yy_X10_ofTerm (vv_rmI rfl rfl (Nat.le_of_ble_eq_true rfl) (Nat.le_of_ble_eq_true rfl) (Nat.le_of_ble_eq_true rfl) (Nat.le_of_ble_eq_true rfl)) wm680 wm681 wm682 0 rfl rfl rfl rfl (Nat.le_of_ble_eq_true rfl) dL_ofTerm_5 (fun E9 u hp => ?_) (fun v u hp => hp.elim)
  obtain rfl := hp
  refine vv_catch C htab [] ⟨0, 10, 13, 21⟩ [⟨0, 10, 17, 13⟩] rfl (fun z hz => nomatch hz) rfl (by decide) wm645 (by decide +kernel) (fun qe49 => ?_)
  refine vv_astore (loc1 := [(4, .ref qe49), (0, .ref q1), (1, .int (zI (v12))), (2, .int (zI (v13))), (3, .ref q11)]) C dL_ofTerm_13 (by decide) rfl ?_
  refine vv_iconst (v := zI (1)) C dL_ofTerm_15 rfl ?_
  exact vv_iret C (()) rfl [0] rfl rfl ⟨Nat.le_of_ble_eq_true rfl, Nat.le_of_ble_eq_true rfl⟩ dL_ofTerm_16
set_option maxHeartbeats 4000000 in
set_option maxRecDepth 100000 in
theorem k129_X13_is (l : Launch) (hf : l.stackTraces = false) (G : vv_G)  (v1 : Int) (rv1 : -2147483648 ≤ v1 ∧ v1 < 2147483648) (g0 : v1 ≤ -1) : ∀ sz, Met l yX13_is (Cond.code yX13_is cX13_is 3 (some .boolean) :: gT) ({ frames := 0, cells := 0, slots := 0, locals := 0 } : Room) (va_Pc [.int (zI (v1)), .int (zI (0)), .int (zI (-1))] (vv_I G [] sz)) (vv_Q G (fun v (u : Unit) => v = some (.int (zI (0)))) (fun u => []) (va_A [] sz)) 0 0 (va_A [] sz) := by
  refine vv_start hf (by decide) (Nat.le_of_ble_eq_true rfl) ?_
  intro p e s m below meth c A C hnm
  refine vv_iload_n C 0 dX13_is_0 rfl rfl ?_
  refine vv_iload_n C 1 dX13_is_1 rfl rfl ?_
  refine vv_icmp_lt (tgt := 14) C dX13_is_2 (by decide) (by omega) (by omega) (fun h => ?_) (fun h => by exfalso; omega)
  refine vv_iconst (v := zI (0)) C dX13_is_14 rfl ?_
  exact vv_zret C (by decide) (()) rfl [] rfl rfl ⟨Nat.le_of_ble_eq_true rfl, Nat.le_of_ble_eq_true rfl⟩ dX13_is_15
set_option maxHeartbeats 4000000 in
set_option maxRecDepth 100000 in
theorem k130_X13_isTerm (l : Launch) (hf : l.stackTraces = false) (G : vv_G) (q1 q2 q3 q4 q5 q6 q7 : Nat) (v8 : Int) (rv1 : -2147483648 ≤ v8 ∧ v8 < 2147483648) (g0 : v8 ≤ -1) : ∀ sz, Met l yX13_isTerm (Cond.code yX13_isTerm cX13_isTerm 2 (some .boolean) :: gT) ({ frames := 1, cells := 0, slots := 0, locals := 22 } : Room) (va_Pc [.ref q1, .int (zI (v8))] (vv_I G [(q1, .inr (12, [.int (zI (0)), .ref q2, .ref q3, .ref q4, .ref q5, .ref q6, .ref q7, .long (0 : Int64)])), (q2, .inr (13, [.int (zI (0)), .ref (G.2.2 0), .int (zI (0))]))] sz)) (vv_Q G (fun v (u : Unit) => v = some (.int (zI (0)))) (fun u => [(q1, .inr (12, [.int (zI (0)), .ref q2, .ref q3, .ref q4, .ref q5, .ref q6, .ref q7, .long (0 : Int64)])), (q2, .inr (13, [.int (zI (0)), .ref (G.2.2 0), .int (zI (0))]))]) (va_A [(q1, .inr (12, [.int (zI (0)), .ref q2, .ref q3, .ref q4, .ref q5, .ref q6, .ref q7, .long (0 : Int64)])), (q2, .inr (13, [.int (zI (0)), .ref (G.2.2 0), .int (zI (0))]))] sz)) 0 0 (va_A [(q1, .inr (12, [.int (zI (0)), .ref q2, .ref q3, .ref q4, .ref q5, .ref q6, .ref q7, .long (0 : Int64)])), (q2, .inr (13, [.int (zI (0)), .ref (G.2.2 0), .int (zI (0))]))] sz) := by
  refine vv_start hf (by decide) (Nat.le_of_ble_eq_true rfl) ?_
  intro p e s m below meth c A C hnm
  refine vv_iload_n C 1 dX13_isTerm_0 rfl rfl ?_
  refine vv_iconst (v := zI (0)) C dX13_isTerm_1 rfl ?_
  refine vv_aload_n C 0 dX13_isTerm_2 rfl rfl ?_
  refine vv_get C 0 rfl rfl vi_X13 1 (by decide) wm1128 rfl dX13_isTerm_3 ?_
  refine vv_callV (As := []) (rest := [.int (zI (0)), .int (zI (v8))]) (wr := [(q1, .inr (12, [.int (zI (0)), .ref q2, .ref q3, .ref q4, .ref q5, .ref q6, .ref q7, .long (0 : Int64)]))]) (ws2 := fun u => [(q1, .inr (12, [.int (zI (0)), .ref q2, .ref q3, .ref q4, .ref q5, .ref q6, .ref q7, .long (0 : Int64)])), (q2, .inr (13, [.int (zI (0)), .ref (G.2.2 0), .int (zI (0))]))]) (isC := [1]) (isR := [0]) (isP := [0, 1]) C (vv_cutI rfl rfl rfl rfl (by decide) (fun _ => rfl) rfl) (k29_Jx4a65c_size_8abf5 l hf G q2) yy_Jx4a65c_size_8abf5 (vv_rmI rfl rfl (Nat.le_of_ble_eq_true rfl) (Nat.le_of_ble_eq_true rfl) (Nat.le_of_ble_eq_true rfl) (Nat.le_of_ble_eq_true rfl)) wm1175 wm1176 wm1177 0 rfl rfl rfl rfl (Nat.le_of_ble_eq_true rfl) dX13_isTerm_6 (fun v u hp => ?_)
  obtain rfl := hp
  refine vv_nrm (ws1 := [(q1, .inr (12, [.int (zI (0)), .ref q2, .ref q3, .ref q4, .ref q5, .ref q6, .ref q7, .long (0 : Int64)])), (q2, .inr (13, [.int (zI (0)), .ref (G.2.2 0), .int (zI (0))]))]) (st1 := [.int (zI (0)), .int (zI (0)), .int (zI (v8))]) rfl rfl ?_
  refine vv_iconst (v := zI (1)) C dX13_isTerm_9 rfl ?_
  refine vv_isub (z := zI (-1)) C dX13_isTerm_10 (by rw [zI_sub]; exact zI_c (by omega)) ?_
  refine vv_callS (As := [.int (zI (v8)), .int (zI (0)), .int (zI (-1))]) (rest := []) (wr := [(q1, .inr (12, [.int (zI (0)), .ref q2, .ref q3, .ref q4, .ref q5, .ref q6, .ref q7, .long (0 : Int64)])), (q2, .inr (13, [.int (zI (0)), .ref (G.2.2 0), .int (zI (0))]))]) (ws2 := fun u => [(q1, .inr (12, [.int (zI (0)), .ref q2, .ref q3, .ref q4, .ref q5, .ref q6, .ref q7, .long (0 : Int64)])), (q2, .inr (13, [.int (zI (0)), .ref (G.2.2 0), .int (zI (0))]))]) (isC := []) (isR := [0, 1]) (isP := [0, 1]) C (vv_cutI rfl rfl rfl rfl (by decide) (fun _ => rfl) rfl) (k129_X13_is l hf G  (v8) rv1 (by omega)) yy_X13_is (vv_rmI rfl rfl (Nat.le_of_ble_eq_true rfl) (Nat.le_of_ble_eq_true rfl) (Nat.le_of_ble_eq_true rfl) (Nat.le_of_ble_eq_true rfl)) wm1160 wm1161 rfl rfl (Nat.le_of_ble_eq_true rfl) dX13_isTerm_11 (fun v u hp => ?_)
  obtain rfl := hp
  refine vv_nrm (ws1 := [(q1, .inr (12, [.int (zI (0)), .ref q2, .ref q3, .ref q4, .ref q5, .ref q6, .ref q7, .long (0 : Int64)])), (q2, .inr (13, [.int (zI (0)), .ref (G.2.2 0), .int (zI (0))]))]) (st1 := [.int (zI (0))]) rfl rfl ?_
  exact vv_zret C (by decide) (()) rfl [0, 1] rfl rfl ⟨Nat.le_of_ble_eq_true rfl, Nat.le_of_ble_eq_true rfl⟩ dX13_isTerm_14
set_option maxHeartbeats 4000000 in
set_option maxRecDepth 100000 in
theorem k131_X13_ofTerm (l : Launch) (hf : l.stackTraces = false) (G : vv_G) (q1 q2 q3 q4 q5 q6 q7 : Nat) (v8 : Int) (rv1 : -2147483648 ≤ v8 ∧ v8 < 2147483648) (v9 : Int) (rv2 : -2147483648 ≤ v9 ∧ v9 < 2147483648) (g0 : v8 ≤ -1) : ∀ sz, Met l yX13_ofTerm (Cond.code yX13_ofTerm cX13_ofTerm 6 (some .int) :: gT) ({ frames := 2, cells := 0, slots := 0, locals := 43 } : Room) (va_Pc [.ref q1, .int (zI (v8)), .int (zI (v9))] (vv_I G [(q1, .inr (12, [.int (zI (0)), .ref q2, .ref q3, .ref q4, .ref q5, .ref q6, .ref q7, .long (0 : Int64)])), (q2, .inr (13, [.int (zI (0)), .ref (G.2.2 0), .int (zI (0))]))] sz)) (vv_Q G (fun v (u : Unit) => v = some (.int (zI (0)))) (fun u => [(q1, .inr (12, [.int (zI (1)), .ref q2, .ref q3, .ref q4, .ref q5, .ref q6, .ref q7, .long (0 : Int64)])), (q2, .inr (13, [.int (zI (0)), .ref (G.2.2 0), .int (zI (0))]))]) (va_A [(q1, .inr (12, [.int (zI (0)), .ref q2, .ref q3, .ref q4, .ref q5, .ref q6, .ref q7, .long (0 : Int64)])), (q2, .inr (13, [.int (zI (0)), .ref (G.2.2 0), .int (zI (0))]))] sz)) 0 0 (va_A [(q1, .inr (12, [.int (zI (0)), .ref q2, .ref q3, .ref q4, .ref q5, .ref q6, .ref q7, .long (0 : Int64)])), (q2, .inr (13, [.int (zI (0)), .ref (G.2.2 0), .int (zI (0))]))] sz) := by
  refine vv_start hf (by decide) (Nat.le_of_ble_eq_true rfl) ?_
  intro p e s m below meth c A C hnm
  refine vv_aload_n C 0 dX13_ofTerm_0 rfl rfl ?_
  refine vv_iconst (v := zI (0)) C dX13_ofTerm_1 rfl ?_
  refine vv_put (ws1 := [(q1, .inr (12, [.int (zI (0)), .ref q2, .ref q3, .ref q4, .ref q5, .ref q6, .ref q7, .long (0 : Int64)])), (q2, .inr (13, [.int (zI (0)), .ref (G.2.2 0), .int (zI (0))]))]) C 0 rfl rfl vi_X13 tyX13_ok nmX13 0 (by decide) wm1127 rfl rfl rfl (Nat.le_of_ble_eq_true rfl) rfl dX13_ofTerm_2 ?_
  refine vv_aload_n C 0 dX13_ofTerm_5 rfl rfl ?_
  refine vv_iload_n C 1 dX13_ofTerm_6 rfl rfl ?_
  refine vv_callV (As := [.int (zI (v8))]) (rest := []) (wr := []) (ws2 := fun u => [(q1, .inr (12, [.int (zI (0)), .ref q2, .ref q3, .ref q4, .ref q5, .ref q6, .ref q7, .long (0 : Int64)])), (q2, .inr (13, [.int (zI (0)), .ref (G.2.2 0), .int (zI (0))]))]) (isC := [0, 1]) (isR := []) (isP := [0, 1]) C (vv_cutI rfl rfl rfl rfl (by decide) (fun _ => rfl) rfl) (k130_X13_isTerm l hf G q1 q2 q3 q4 q5 q6 q7 (v8) rv1 (by omega)) yy_X13_isTerm (vv_rmI rfl rfl (Nat.le_of_ble_eq_true rfl) (Nat.le_of_ble_eq_true rfl) (Nat.le_of_ble_eq_true rfl) (Nat.le_of_ble_eq_true rfl)) wm1370 wm1372 ws_selects_LatticeworkModel_LatticeworkModel_isTerm__I_Z_LatticeworkModel_isTerm__I_Z 0 rfl rfl rfl rfl (Nat.le_of_ble_eq_true rfl) dX13_ofTerm_7 (fun v u hp => ?_)
  obtain rfl := hp
  refine vv_nrm (ws1 := [(q1, .inr (12, [.int (zI (0)), .ref q2, .ref q3, .ref q4, .ref q5, .ref q6, .ref q7, .long (0 : Int64)])), (q2, .inr (13, [.int (zI (0)), .ref (G.2.2 0), .int (zI (0))]))]) (st1 := [.int (zI (0))]) rfl rfl ?_
  refine vv_if_ne (tgt := 19) C dX13_ofTerm_10 (by decide) (by omega) (fun h => by exfalso; omega) (fun h => ?_)
  refine vv_aload_n C 0 dX13_ofTerm_13 rfl rfl ?_
  refine vv_iconst (v := zI (1)) C dX13_ofTerm_14 rfl ?_
  refine vv_callV (As := [.int (zI (1))]) (rest := []) (wr := [(q2, .inr (13, [.int (zI (0)), .ref (G.2.2 0), .int (zI (0))]))]) (ws2 := fun u => [(q1, .inr (12, [.int (zI (1)), .ref q2, .ref q3, .ref q4, .ref q5, .ref q6, .ref q7, .long (0 : Int64)])), (q2, .inr (13, [.int (zI (0)), .ref (G.2.2 0), .int (zI (0))]))]) (isC := [0]) (isR := [1]) (isP := [1, 0]) C (vv_cutI rfl rfl rfl rfl (by decide) (fun _ => rfl) rfl) (k20_X13_refuse l hf G q1 q2 q3 q4 q5 q6 q7) yy_X13_refuse (vv_rmI rfl rfl (Nat.le_of_ble_eq_true rfl) (Nat.le_of_ble_eq_true rfl) (Nat.le_of_ble_eq_true rfl) (Nat.le_of_ble_eq_true rfl)) wm1163 wm1165 ws_selects_LatticeworkModel_LatticeworkModel_refuse__I_I_LatticeworkModel_refuse__I_I 0 rfl rfl rfl rfl (Nat.le_of_ble_eq_true rfl) dX13_ofTerm_15 (fun v u hp => ?_)
  obtain rfl := hp
  refine vv_nrm (ws1 := [(q1, .inr (12, [.int (zI (1)), .ref q2, .ref q3, .ref q4, .ref q5, .ref q6, .ref q7, .long (0 : Int64)])), (q2, .inr (13, [.int (zI (0)), .ref (G.2.2 0), .int (zI (0))]))]) (st1 := [.int (zI (0))]) rfl rfl ?_
  exact vv_iret C (()) rfl [0, 1] rfl rfl ⟨Nat.le_of_ble_eq_true rfl, Nat.le_of_ble_eq_true rfl⟩ dX13_ofTerm_18
set_option maxHeartbeats 4000000 in
set_option maxRecDepth 100000 in
theorem k132_X10_needTerm (l : Launch) (hf : l.stackTraces = false) (G : vv_G) (q1 q2 q3 q4 q5 q6 q7 q8 q9 q10 q11 q12 q13 : Nat) (v14 : Int) (rv1 : -2147483648 ≤ v14 ∧ v14 < 2147483648) (g0 : 0 ≤ v14) : ∀ sz, vx_Met l yX10_needTerm (Cond.code yX10_needTerm cX10_needTerm 2 none :: gT) ({ frames := 6, cells := 1, slots := 6, locals := 90 } : Room) (va_Pc [.ref q1, .int (zI (v14))] (vv_I G [(q1, .inr (9, [.ref q2, .ref q3, .ref q4, .ref q5, .ref q6, .ref q7, .ref q8, .ref q9, .ref q10])), (q7, .inr (8, [.ref q11, .ref q12, .ref q13, .int (zI (0))]))] sz)) (vv_Q G (fun v (u : Unit) => False) (fun u => []) (va_A [(q1, .inr (9, [.ref q2, .ref q3, .ref q4, .ref q5, .ref q6, .ref q7, .ref q8, .ref q9, .ref q10])), (q7, .inr (8, [.ref q11, .ref q12, .ref q13, .int (zI (0))]))] sz)) (vv_XC G (fun E (u : Unit) => E = "java/lang/IndexOutOfBoundsException") (fun u => [(q1, .inr (9, [.ref q2, .ref q3, .ref q4, .ref q5, .ref q6, .ref q7, .ref q8, .ref q9, .ref q10])), (q7, .inr (8, [.ref q11, .ref q12, .ref q13, .int (zI (0))]))]) (va_A [(q1, .inr (9, [.ref q2, .ref q3, .ref q4, .ref q5, .ref q6, .ref q7, .ref q8, .ref q9, .ref q10])), (q7, .inr (8, [.ref q11, .ref q12, .ref q13, .int (zI (0))]))] sz)) 1 6 (va_A [(q1, .inr (9, [.ref q2, .ref q3, .ref q4, .ref q5, .ref q6, .ref q7, .ref q8, .ref q9, .ref q10])), (q7, .inr (8, [.ref q11, .ref q12, .ref q13, .int (zI (0))]))] sz) := by
  refine vv_startX hf (by decide) (Nat.le_of_ble_eq_true rfl) ?_
  intro p e s m below meth c A C hnm htab
  refine vv_iload_n C 1 dX10_needTerm_0 rfl rfl ?_
  refine vv_if_lt (tgt := 15) C dX10_needTerm_1 (by decide) (by omega) (fun h => by exfalso; omega) (fun h => ?_)
  refine vv_iload_n C 1 dX10_needTerm_4 rfl rfl ?_
  refine vv_aload_n C 0 dX10_needTerm_5 rfl rfl ?_
  refine vv_get C 0 rfl rfl vi_X10 5 (by decide) wm329 rfl dX10_needTerm_6 ?_
  refine vv_get C 1 rfl rfl vi_X9 3 (by decide) wm198 rfl dX10_needTerm_9 ?_
  refine vv_icmp_lt (tgt := 26) C dX10_needTerm_12 (by decide) (by omega) (by omega) (fun h => by exfalso; omega) (fun h => ?_)
  exact vv_throwW C tw_X10_125_288 htab dX10_needTerm_15 dX10_needTerm_18 dX10_needTerm_19 dX10_needTerm_22 dX10_needTerm_25 ⟨Nat.le_of_ble_eq_true rfl, Nat.le_of_ble_eq_true rfl, Nat.le_of_ble_eq_true rfl, Nat.le_of_ble_eq_true rfl, Nat.le_of_ble_eq_true rfl, Nat.le_of_ble_eq_true rfl⟩ () rfl [0, 1] rfl rfl
set_option maxHeartbeats 4000000 in
set_option maxRecDepth 100000 in
theorem k133_X10_ofTerm (l : Launch) (hf : l.stackTraces = false) (G : vv_G) (q1 q2 q3 q4 q5 q6 q7 q8 q9 q10 q11 q12 q13 : Nat) (v14 : Int) (rv1 : -2147483648 ≤ v14 ∧ v14 < 2147483648) (v15 : Int) (rv2 : -2147483648 ≤ v15 ∧ v15 < 2147483648) (g0 : 0 ≤ v14) : ∀ sz, vx_Met l yX10_ofTerm (Cond.code yX10_ofTerm cX10_ofTerm 5 (some .int) :: gT) ({ frames := 7, cells := 1, slots := 6, locals := 111 } : Room) (va_Pc [.ref q1, .int (zI (v14)), .int (zI (v15))] (vv_I G [(q1, .inr (9, [.ref q2, .ref q3, .ref q4, .ref q5, .ref q6, .ref q7, .ref q8, .ref q9, .ref q10])), (q7, .inr (8, [.ref q11, .ref q12, .ref q13, .int (zI (0))]))] sz)) (vv_Q G (fun v (u : Unit) => False) (fun u => []) (va_A [(q1, .inr (9, [.ref q2, .ref q3, .ref q4, .ref q5, .ref q6, .ref q7, .ref q8, .ref q9, .ref q10])), (q7, .inr (8, [.ref q11, .ref q12, .ref q13, .int (zI (0))]))] sz)) (vv_XC G (fun E (u : Unit) => E = "java/lang/IndexOutOfBoundsException") (fun u => [(q1, .inr (9, [.ref q2, .ref q3, .ref q4, .ref q5, .ref q6, .ref q7, .ref q8, .ref q9, .ref q10])), (q7, .inr (8, [.ref q11, .ref q12, .ref q13, .int (zI (0))]))]) (va_A [(q1, .inr (9, [.ref q2, .ref q3, .ref q4, .ref q5, .ref q6, .ref q7, .ref q8, .ref q9, .ref q10])), (q7, .inr (8, [.ref q11, .ref q12, .ref q13, .int (zI (0))]))] sz)) 1 6 (va_A [(q1, .inr (9, [.ref q2, .ref q3, .ref q4, .ref q5, .ref q6, .ref q7, .ref q8, .ref q9, .ref q10])), (q7, .inr (8, [.ref q11, .ref q12, .ref q13, .int (zI (0))]))] sz) := by
  refine vv_startX hf (by decide) (Nat.le_of_ble_eq_true rfl) ?_
  intro p e s m below meth c A C hnm htab
  refine vv_aload_n C 0 dX10_ofTerm_0 rfl rfl ?_
  refine vv_iload_n C 1 dX10_ofTerm_1 rfl rfl ?_
  refine vv_callVx (As := [.int (zI (v14))]) (rest := []) (wr := []) (ws3 := fun u => [(q1, .inr (9, [.ref q2, .ref q3, .ref q4, .ref q5, .ref q6, .ref q7, .ref q8, .ref q9, .ref q10])), (q7, .inr (8, [.ref q11, .ref q12, .ref q13, .int (zI (0))]))]) (isC := [0, 1]) (isR := []) (isX := [0, 1]) (ws2 := fun _ => []) (isP := []) C (vv_cutI rfl rfl rfl rfl (by decide) (fun _ => rfl) rfl) (vv_cutI rfl rfl rfl rfl (by decide) (fun _ => rfl) rfl) (k132_X10_needTerm l hf G q1 q2 q3 q4 q5 q6 q7 q8 q9 q10 q11 q12 q13 (v14) rv1 (by omega)) yy_X10_needTerm (vv_rmI rfl rfl (Nat.le_of_ble_eq_true rfl) (Nat.le_of_ble_eq_true rfl) (Nat.le_of_ble_eq_true rfl) (Nat.le_of_ble_eq_true rfl)) wm654 wm656 ws_selects_Latticework_Latticework_needTerm__I_V_Latticework_needTerm__I_V 0 rfl rfl rfl rfl (Nat.le_of_ble_eq_true rfl) dX10_ofTerm_2 (fun E9 u hp => ?_) (fun v u hp => hp.elim)
  obtain rfl := hp
  exact vv_out C htab ⟨Nat.le_of_ble_eq_true rfl, Nat.le_of_ble_eq_true rfl⟩ () rfl [0, 1] rfl rfl
set_option maxHeartbeats 4000000 in
set_option maxRecDepth 100000 in
theorem k134_L_ofTerm (l : Launch) (hf : l.stackTraces = false) (G : vv_G) (q1 q2 q3 q4 q5 q6 q7 q8 q9 q10 q11 q12 q13 q14 : Nat) (v15 : Int) (rv1 : -2147483648 ≤ v15 ∧ v15 < 2147483648) (v16 : Int) (rv2 : -2147483648 ≤ v16 ∧ v16 < 2147483648) (g0 : 0 ≤ v15) : ∀ sz, Met l yL_ofTerm (Cond.codeWith yL_ofTerm cL_ofTerm 5 (some .int) [(0, 10, 13, 21), (0, 10, 17, 13)] :: gT) ({ frames := 8, cells := 1, slots := 6, locals := 135 } : Room) (va_Pc [.ref q1, .int (zI (v15)), .int (zI (v16)), .ref q14] (vv_I G [(q1, .inr (9, [.ref q2, .ref q3, .ref q4, .ref q5, .ref q6, .ref q7, .ref q8, .ref q9, .ref q10])), (q7, .inr (8, [.ref q11, .ref q12, .ref q13, .int (zI (0))]))] sz)) (vv_Q G (fun v (u : Unit) => v = some (.int (zI (1)))) (fun u => [(q1, .inr (9, [.ref q2, .ref q3, .ref q4, .ref q5, .ref q6, .ref q7, .ref q8, .ref q9, .ref q10])), (q7, .inr (8, [.ref q11, .ref q12, .ref q13, .int (zI (0))]))]) (va_A [(q1, .inr (9, [.ref q2, .ref q3, .ref q4, .ref q5, .ref q6, .ref q7, .ref q8, .ref q9, .ref q10])), (q7, .inr (8, [.ref q11, .ref q12, .ref q13, .int (zI (0))]))] sz)) 1 6 (va_A [(q1, .inr (9, [.ref q2, .ref q3, .ref q4, .ref q5, .ref q6, .ref q7, .ref q8, .ref q9, .ref q10])), (q7, .inr (8, [.ref q11, .ref q12, .ref q13, .int (zI (0))]))] sz) := by
  refine vv_startW hf (by decide) (Nat.le_of_ble_eq_true rfl) ?_
  intro p e s m below meth c A C hnm htab
  refine vv_aload_n C 3 dL_ofTerm_0 rfl rfl ?_
  refine vv_iconst (v := zI (0)) C dL_ofTerm_1 rfl ?_
  refine vv_aload_n C 0 dL_ofTerm_2 rfl rfl ?_
  refine vv_iload_n C 1 dL_ofTerm_3 rfl rfl ?_
  refine vv_iload_n C 2 dL_ofTerm_4 rfl rfl ?_
  refine vv_callVx (As := [.int (zI (v15)), .int (zI (v16))]) (rest := [.int (zI (0)), .ref q14]) (wr := []) (ws3 := fun u => [(q1, .inr (9, [.ref q2, .ref q3, .ref q4, .ref q5, .ref q6, .ref q7, .ref q8, .ref q9, .ref q10])), (q7, .inr (8, [.ref q11, .ref q12, .ref q13, .int (zI (0))]))]) (isC := [0, 1]) (isR := []) (isX := [0, 1]) (ws2 := fun _ => []) (isP := []) C (vv_cutI rfl rfl rfl rfl (by decide) (fun _ => rfl) rfl) (vv_cutI rfl rfl rfl rfl (by decide) (fun _ => rfl) rfl) (k133_X10_ofTerm l hf G q1 q2 q3 q4 q5 q6 q7 q8 q9 q10 q11 q12 q13 (v15) rv1 (v16) rv2 (by omega)) yy_X10_ofTerm (vv_rmI rfl rfl (Nat.le_of_ble_eq_true rfl) (Nat.le_of_ble_eq_true rfl) (Nat.le_of_ble_eq_true rfl) (Nat.le_of_ble_eq_true rfl)) wm680 wm681 wm682 0 rfl rfl rfl rfl (Nat.le_of_ble_eq_true rfl) dL_ofTerm_5 (fun E9 u hp => ?_) (fun v u hp => hp.elim)
  obtain rfl := hp
  refine vv_catch C htab [] ⟨0, 10, 13, 21⟩ [⟨0, 10, 17, 13⟩] rfl (fun z hz => nomatch hz) rfl (by decide) wm645 (by decide +kernel) (fun qe50 => ?_)
  refine vv_astore (loc1 := [(4, .ref qe50), (0, .ref q1), (1, .int (zI (v15))), (2, .int (zI (v16))), (3, .ref q14)]) C dL_ofTerm_13 (by decide) rfl ?_
  refine vv_iconst (v := zI (1)) C dL_ofTerm_15 rfl ?_
  exact vv_iret C (()) rfl [0, 1] rfl rfl ⟨Nat.le_of_ble_eq_true rfl, Nat.le_of_ble_eq_true rfl⟩ dL_ofTerm_16
set_option maxHeartbeats 4000000 in
set_option maxRecDepth 100000 in
theorem k135_X13_is (l : Launch) (hf : l.stackTraces = false) (G : vv_G)  (v1 : Int) (rv1 : -2147483648 ≤ v1 ∧ v1 < 2147483648) (g0 : 0 ≤ v1) : ∀ sz, Met l yX13_is (Cond.code yX13_is cX13_is 3 (some .boolean) :: gT) ({ frames := 0, cells := 0, slots := 0, locals := 0 } : Room) (va_Pc [.int (zI (v1)), .int (zI (0)), .int (zI (-1))] (vv_I G [] sz)) (vv_Q G (fun v (u : Unit) => v = some (.int (zI (0)))) (fun u => []) (va_A [] sz)) 0 0 (va_A [] sz) := by
  refine vv_start hf (by decide) (Nat.le_of_ble_eq_true rfl) ?_
  intro p e s m below meth c A C hnm
  refine vv_iload_n C 0 dX13_is_0 rfl rfl ?_
  refine vv_iload_n C 1 dX13_is_1 rfl rfl ?_
  refine vv_icmp_lt (tgt := 14) C dX13_is_2 (by decide) (by omega) (by omega) (fun h => by exfalso; omega) (fun h => ?_)
  refine vv_iload_n C 0 dX13_is_5 rfl rfl ?_
  refine vv_iload_n C 2 dX13_is_6 rfl rfl ?_
  refine vv_icmp_gt (tgt := 14) C dX13_is_7 (by decide) (by omega) (by omega) (fun h => ?_) (fun h => by exfalso; omega)
  refine vv_iconst (v := zI (0)) C dX13_is_14 rfl ?_
  exact vv_zret C (by decide) (()) rfl [] rfl rfl ⟨Nat.le_of_ble_eq_true rfl, Nat.le_of_ble_eq_true rfl⟩ dX13_is_15
set_option maxHeartbeats 4000000 in
set_option maxRecDepth 100000 in
theorem k136_X13_isTerm (l : Launch) (hf : l.stackTraces = false) (G : vv_G) (q1 q2 q3 q4 q5 q6 q7 : Nat) (v8 : Int) (rv1 : -2147483648 ≤ v8 ∧ v8 < 2147483648) (g0 : 0 ≤ v8) : ∀ sz, Met l yX13_isTerm (Cond.code yX13_isTerm cX13_isTerm 2 (some .boolean) :: gT) ({ frames := 1, cells := 0, slots := 0, locals := 22 } : Room) (va_Pc [.ref q1, .int (zI (v8))] (vv_I G [(q1, .inr (12, [.int (zI (0)), .ref q2, .ref q3, .ref q4, .ref q5, .ref q6, .ref q7, .long (0 : Int64)])), (q2, .inr (13, [.int (zI (0)), .ref (G.2.2 0), .int (zI (0))]))] sz)) (vv_Q G (fun v (u : Unit) => v = some (.int (zI (0)))) (fun u => [(q1, .inr (12, [.int (zI (0)), .ref q2, .ref q3, .ref q4, .ref q5, .ref q6, .ref q7, .long (0 : Int64)])), (q2, .inr (13, [.int (zI (0)), .ref (G.2.2 0), .int (zI (0))]))]) (va_A [(q1, .inr (12, [.int (zI (0)), .ref q2, .ref q3, .ref q4, .ref q5, .ref q6, .ref q7, .long (0 : Int64)])), (q2, .inr (13, [.int (zI (0)), .ref (G.2.2 0), .int (zI (0))]))] sz)) 0 0 (va_A [(q1, .inr (12, [.int (zI (0)), .ref q2, .ref q3, .ref q4, .ref q5, .ref q6, .ref q7, .long (0 : Int64)])), (q2, .inr (13, [.int (zI (0)), .ref (G.2.2 0), .int (zI (0))]))] sz) := by
  refine vv_start hf (by decide) (Nat.le_of_ble_eq_true rfl) ?_
  intro p e s m below meth c A C hnm
  refine vv_iload_n C 1 dX13_isTerm_0 rfl rfl ?_
  refine vv_iconst (v := zI (0)) C dX13_isTerm_1 rfl ?_
  refine vv_aload_n C 0 dX13_isTerm_2 rfl rfl ?_
  refine vv_get C 0 rfl rfl vi_X13 1 (by decide) wm1128 rfl dX13_isTerm_3 ?_
  refine vv_callV (As := []) (rest := [.int (zI (0)), .int (zI (v8))]) (wr := [(q1, .inr (12, [.int (zI (0)), .ref q2, .ref q3, .ref q4, .ref q5, .ref q6, .ref q7, .long (0 : Int64)]))]) (ws2 := fun u => [(q1, .inr (12, [.int (zI (0)), .ref q2, .ref q3, .ref q4, .ref q5, .ref q6, .ref q7, .long (0 : Int64)])), (q2, .inr (13, [.int (zI (0)), .ref (G.2.2 0), .int (zI (0))]))]) (isC := [1]) (isR := [0]) (isP := [0, 1]) C (vv_cutI rfl rfl rfl rfl (by decide) (fun _ => rfl) rfl) (k29_Jx4a65c_size_8abf5 l hf G q2) yy_Jx4a65c_size_8abf5 (vv_rmI rfl rfl (Nat.le_of_ble_eq_true rfl) (Nat.le_of_ble_eq_true rfl) (Nat.le_of_ble_eq_true rfl) (Nat.le_of_ble_eq_true rfl)) wm1175 wm1176 wm1177 0 rfl rfl rfl rfl (Nat.le_of_ble_eq_true rfl) dX13_isTerm_6 (fun v u hp => ?_)
  obtain rfl := hp
  refine vv_nrm (ws1 := [(q1, .inr (12, [.int (zI (0)), .ref q2, .ref q3, .ref q4, .ref q5, .ref q6, .ref q7, .long (0 : Int64)])), (q2, .inr (13, [.int (zI (0)), .ref (G.2.2 0), .int (zI (0))]))]) (st1 := [.int (zI (0)), .int (zI (0)), .int (zI (v8))]) rfl rfl ?_
  refine vv_iconst (v := zI (1)) C dX13_isTerm_9 rfl ?_
  refine vv_isub (z := zI (-1)) C dX13_isTerm_10 (by rw [zI_sub]; exact zI_c (by omega)) ?_
  refine vv_callS (As := [.int (zI (v8)), .int (zI (0)), .int (zI (-1))]) (rest := []) (wr := [(q1, .inr (12, [.int (zI (0)), .ref q2, .ref q3, .ref q4, .ref q5, .ref q6, .ref q7, .long (0 : Int64)])), (q2, .inr (13, [.int (zI (0)), .ref (G.2.2 0), .int (zI (0))]))]) (ws2 := fun u => [(q1, .inr (12, [.int (zI (0)), .ref q2, .ref q3, .ref q4, .ref q5, .ref q6, .ref q7, .long (0 : Int64)])), (q2, .inr (13, [.int (zI (0)), .ref (G.2.2 0), .int (zI (0))]))]) (isC := []) (isR := [0, 1]) (isP := [0, 1]) C (vv_cutI rfl rfl rfl rfl (by decide) (fun _ => rfl) rfl) (k135_X13_is l hf G  (v8) rv1 (by omega)) yy_X13_is (vv_rmI rfl rfl (Nat.le_of_ble_eq_true rfl) (Nat.le_of_ble_eq_true rfl) (Nat.le_of_ble_eq_true rfl) (Nat.le_of_ble_eq_true rfl)) wm1160 wm1161 rfl rfl (Nat.le_of_ble_eq_true rfl) dX13_isTerm_11 (fun v u hp => ?_)
  obtain rfl := hp
  refine vv_nrm (ws1 := [(q1, .inr (12, [.int (zI (0)), .ref q2, .ref q3, .ref q4, .ref q5, .ref q6, .ref q7, .long (0 : Int64)])), (q2, .inr (13, [.int (zI (0)), .ref (G.2.2 0), .int (zI (0))]))]) (st1 := [.int (zI (0))]) rfl rfl ?_
  exact vv_zret C (by decide) (()) rfl [0, 1] rfl rfl ⟨Nat.le_of_ble_eq_true rfl, Nat.le_of_ble_eq_true rfl⟩ dX13_isTerm_14
set_option maxHeartbeats 4000000 in
set_option maxRecDepth 100000 in
theorem k137_X13_ofTerm (l : Launch) (hf : l.stackTraces = false) (G : vv_G) (q1 q2 q3 q4 q5 q6 q7 : Nat) (v8 : Int) (rv1 : -2147483648 ≤ v8 ∧ v8 < 2147483648) (v9 : Int) (rv2 : -2147483648 ≤ v9 ∧ v9 < 2147483648) (g0 : 0 ≤ v8) : ∀ sz, Met l yX13_ofTerm (Cond.code yX13_ofTerm cX13_ofTerm 6 (some .int) :: gT) ({ frames := 2, cells := 0, slots := 0, locals := 43 } : Room) (va_Pc [.ref q1, .int (zI (v8)), .int (zI (v9))] (vv_I G [(q1, .inr (12, [.int (zI (0)), .ref q2, .ref q3, .ref q4, .ref q5, .ref q6, .ref q7, .long (0 : Int64)])), (q2, .inr (13, [.int (zI (0)), .ref (G.2.2 0), .int (zI (0))]))] sz)) (vv_Q G (fun v (u : Unit) => v = some (.int (zI (0)))) (fun u => [(q1, .inr (12, [.int (zI (1)), .ref q2, .ref q3, .ref q4, .ref q5, .ref q6, .ref q7, .long (0 : Int64)])), (q2, .inr (13, [.int (zI (0)), .ref (G.2.2 0), .int (zI (0))]))]) (va_A [(q1, .inr (12, [.int (zI (0)), .ref q2, .ref q3, .ref q4, .ref q5, .ref q6, .ref q7, .long (0 : Int64)])), (q2, .inr (13, [.int (zI (0)), .ref (G.2.2 0), .int (zI (0))]))] sz)) 0 0 (va_A [(q1, .inr (12, [.int (zI (0)), .ref q2, .ref q3, .ref q4, .ref q5, .ref q6, .ref q7, .long (0 : Int64)])), (q2, .inr (13, [.int (zI (0)), .ref (G.2.2 0), .int (zI (0))]))] sz) := by
  refine vv_start hf (by decide) (Nat.le_of_ble_eq_true rfl) ?_
  intro p e s m below meth c A C hnm
  refine vv_aload_n C 0 dX13_ofTerm_0 rfl rfl ?_
  refine vv_iconst (v := zI (0)) C dX13_ofTerm_1 rfl ?_
  refine vv_put (ws1 := [(q1, .inr (12, [.int (zI (0)), .ref q2, .ref q3, .ref q4, .ref q5, .ref q6, .ref q7, .long (0 : Int64)])), (q2, .inr (13, [.int (zI (0)), .ref (G.2.2 0), .int (zI (0))]))]) C 0 rfl rfl vi_X13 tyX13_ok nmX13 0 (by decide) wm1127 rfl rfl rfl (Nat.le_of_ble_eq_true rfl) rfl dX13_ofTerm_2 ?_
  refine vv_aload_n C 0 dX13_ofTerm_5 rfl rfl ?_
  refine vv_iload_n C 1 dX13_ofTerm_6 rfl rfl ?_
  refine vv_callV (As := [.int (zI (v8))]) (rest := []) (wr := []) (ws2 := fun u => [(q1, .inr (12, [.int (zI (0)), .ref q2, .ref q3, .ref q4, .ref q5, .ref q6, .ref q7, .long (0 : Int64)])), (q2, .inr (13, [.int (zI (0)), .ref (G.2.2 0), .int (zI (0))]))]) (isC := [0, 1]) (isR := []) (isP := [0, 1]) C (vv_cutI rfl rfl rfl rfl (by decide) (fun _ => rfl) rfl) (k136_X13_isTerm l hf G q1 q2 q3 q4 q5 q6 q7 (v8) rv1 (by omega)) yy_X13_isTerm (vv_rmI rfl rfl (Nat.le_of_ble_eq_true rfl) (Nat.le_of_ble_eq_true rfl) (Nat.le_of_ble_eq_true rfl) (Nat.le_of_ble_eq_true rfl)) wm1370 wm1372 ws_selects_LatticeworkModel_LatticeworkModel_isTerm__I_Z_LatticeworkModel_isTerm__I_Z 0 rfl rfl rfl rfl (Nat.le_of_ble_eq_true rfl) dX13_ofTerm_7 (fun v u hp => ?_)
  obtain rfl := hp
  refine vv_nrm (ws1 := [(q1, .inr (12, [.int (zI (0)), .ref q2, .ref q3, .ref q4, .ref q5, .ref q6, .ref q7, .long (0 : Int64)])), (q2, .inr (13, [.int (zI (0)), .ref (G.2.2 0), .int (zI (0))]))]) (st1 := [.int (zI (0))]) rfl rfl ?_
  refine vv_if_ne (tgt := 19) C dX13_ofTerm_10 (by decide) (by omega) (fun h => by exfalso; omega) (fun h => ?_)
  refine vv_aload_n C 0 dX13_ofTerm_13 rfl rfl ?_
  refine vv_iconst (v := zI (1)) C dX13_ofTerm_14 rfl ?_
  refine vv_callV (As := [.int (zI (1))]) (rest := []) (wr := [(q2, .inr (13, [.int (zI (0)), .ref (G.2.2 0), .int (zI (0))]))]) (ws2 := fun u => [(q1, .inr (12, [.int (zI (1)), .ref q2, .ref q3, .ref q4, .ref q5, .ref q6, .ref q7, .long (0 : Int64)])), (q2, .inr (13, [.int (zI (0)), .ref (G.2.2 0), .int (zI (0))]))]) (isC := [0]) (isR := [1]) (isP := [1, 0]) C (vv_cutI rfl rfl rfl rfl (by decide) (fun _ => rfl) rfl) (k20_X13_refuse l hf G q1 q2 q3 q4 q5 q6 q7) yy_X13_refuse (vv_rmI rfl rfl (Nat.le_of_ble_eq_true rfl) (Nat.le_of_ble_eq_true rfl) (Nat.le_of_ble_eq_true rfl) (Nat.le_of_ble_eq_true rfl)) wm1163 wm1165 ws_selects_LatticeworkModel_LatticeworkModel_refuse__I_I_LatticeworkModel_refuse__I_I 0 rfl rfl rfl rfl (Nat.le_of_ble_eq_true rfl) dX13_ofTerm_15 (fun v u hp => ?_)
  obtain rfl := hp
  refine vv_nrm (ws1 := [(q1, .inr (12, [.int (zI (1)), .ref q2, .ref q3, .ref q4, .ref q5, .ref q6, .ref q7, .long (0 : Int64)])), (q2, .inr (13, [.int (zI (0)), .ref (G.2.2 0), .int (zI (0))]))]) (st1 := [.int (zI (0))]) rfl rfl ?_
  exact vv_iret C (()) rfl [0, 1] rfl rfl ⟨Nat.le_of_ble_eq_true rfl, Nat.le_of_ble_eq_true rfl⟩ dX13_ofTerm_18
set_option maxHeartbeats 4000000 in
set_option maxRecDepth 100000 in
theorem k138_X10_at (l : Launch) (hf : l.stackTraces = false) (G : vv_G) (q1 q2 q3 q4 q5 q6 q7 q8 q9 q10 : Nat) (v11 : Int) (rv1 : -2147483648 ≤ v11 ∧ v11 < 2147483648) (v12 : Int) (rv2 : -2147483648 ≤ v12 ∧ v12 < 2147483648) (g0 : v11 ≤ -1) : ∀ sz, vx_Met l yX10_at (Cond.code yX10_at cX10_at 5 (some .int) :: gT) ({ frames := 7, cells := 1, slots := 6, locals := 111 } : Room) (va_Pc [.ref q1, .int (zI (v11)), .int (zI (v12))] (vv_I G [(q1, .inr (9, [.ref q2, .ref q3, .ref q4, .ref q5, .ref q6, .ref q7, .ref q8, .ref q9, .ref q10]))] sz)) (vv_Q G (fun v (u : Unit) => False) (fun u => []) (va_A [(q1, .inr (9, [.ref q2, .ref q3, .ref q4, .ref q5, .ref q6, .ref q7, .ref q8, .ref q9, .ref q10]))] sz)) (vv_XC G (fun E (u : Unit) => E = "java/lang/IndexOutOfBoundsException") (fun u => [(q1, .inr (9, [.ref q2, .ref q3, .ref q4, .ref q5, .ref q6, .ref q7, .ref q8, .ref q9, .ref q10]))]) (va_A [(q1, .inr (9, [.ref q2, .ref q3, .ref q4, .ref q5, .ref q6, .ref q7, .ref q8, .ref q9, .ref q10]))] sz)) 1 6 (va_A [(q1, .inr (9, [.ref q2, .ref q3, .ref q4, .ref q5, .ref q6, .ref q7, .ref q8, .ref q9, .ref q10]))] sz) := by
  refine vv_startX hf (by decide) (Nat.le_of_ble_eq_true rfl) ?_
  intro p e s m below meth c A C hnm htab
  refine vv_aload_n C 0 dX10_at_0 rfl rfl ?_
  refine vv_iload_n C 1 dX10_at_1 rfl rfl ?_
  refine vv_callVx (As := [.int (zI (v11))]) (rest := []) (wr := []) (ws3 := fun u => [(q1, .inr (9, [.ref q2, .ref q3, .ref q4, .ref q5, .ref q6, .ref q7, .ref q8, .ref q9, .ref q10]))]) (isC := [0]) (isR := []) (isX := [0]) (ws2 := fun _ => []) (isP := []) C (vv_cutI rfl rfl rfl rfl (by decide) (fun _ => rfl) rfl) (vv_cutI rfl rfl rfl rfl (by decide) (fun _ => rfl) rfl) (k126_X10_needTerm l hf G q1 q2 q3 q4 q5 q6 q7 q8 q9 q10 (v11) rv1 (by omega)) yy_X10_needTerm (vv_rmI rfl rfl (Nat.le_of_ble_eq_true rfl) (Nat.le_of_ble_eq_true rfl) (Nat.le_of_ble_eq_true rfl) (Nat.le_of_ble_eq_true rfl)) wm654 wm656 ws_selects_Latticework_Latticework_needTerm__I_V_Latticework_needTerm__I_V 0 rfl rfl rfl rfl (Nat.le_of_ble_eq_true rfl) dX10_at_2 (fun E9 u hp => ?_) (fun v u hp => hp.elim)
  obtain rfl := hp
  exact vv_out C htab ⟨Nat.le_of_ble_eq_true rfl, Nat.le_of_ble_eq_true rfl⟩ () rfl [0] rfl rfl
set_option maxHeartbeats 4000000 in
set_option maxRecDepth 100000 in
theorem k139_L_at (l : Launch) (hf : l.stackTraces = false) (G : vv_G) (q1 q2 q3 q4 q5 q6 q7 q8 q9 q10 q11 : Nat) (v12 : Int) (rv1 : -2147483648 ≤ v12 ∧ v12 < 2147483648) (v13 : Int) (rv2 : -2147483648 ≤ v13 ∧ v13 < 2147483648) (g0 : v12 ≤ -1) : ∀ sz, Met l yL_at (Cond.codeWith yL_at cL_at 5 (some .int) [(0, 10, 13, 21)] :: gT) ({ frames := 8, cells := 1, slots := 6, locals := 135 } : Room) (va_Pc [.ref q1, .int (zI (v12)), .int (zI (v13)), .ref q11] (vv_I G [(q1, .inr (9, [.ref q2, .ref q3, .ref q4, .ref q5, .ref q6, .ref q7, .ref q8, .ref q9, .ref q10]))] sz)) (vv_Q G (fun v (u : Unit) => v = some (.int (zI (1)))) (fun u => [(q1, .inr (9, [.ref q2, .ref q3, .ref q4, .ref q5, .ref q6, .ref q7, .ref q8, .ref q9, .ref q10]))]) (va_A [(q1, .inr (9, [.ref q2, .ref q3, .ref q4, .ref q5, .ref q6, .ref q7, .ref q8, .ref q9, .ref q10]))] sz)) 1 6 (va_A [(q1, .inr (9, [.ref q2, .ref q3, .ref q4, .ref q5, .ref q6, .ref q7, .ref q8, .ref q9, .ref q10]))] sz) := by
  refine vv_startW hf (by decide) (Nat.le_of_ble_eq_true rfl) ?_
  intro p e s m below meth c A C hnm htab
  refine vv_aload_n C 3 dL_at_0 rfl rfl ?_
  refine vv_iconst (v := zI (0)) C dL_at_1 rfl ?_
  refine vv_aload_n C 0 dL_at_2 rfl rfl ?_
  refine vv_iload_n C 1 dL_at_3 rfl rfl ?_
  refine vv_iload_n C 2 dL_at_4 rfl rfl ?_
  refine vv_callVx (As := [.int (zI (v12)), .int (zI (v13))]) (rest := [.int (zI (0)), .ref q11]) (wr := []) (ws3 := fun u => [(q1, .inr (9, [.ref q2, .ref q3, .ref q4, .ref q5, .ref q6, .ref q7, .ref q8, .ref q9, .ref q10]))]) (isC := [0]) (isR := []) (isX := [0]) (ws2 := fun _ => []) (isP := []) C (vv_cutI rfl rfl rfl rfl (by decide) (fun _ => rfl) rfl) (vv_cutI rfl rfl rfl rfl (by decide) (fun _ => rfl) rfl) (k138_X10_at l hf G q1 q2 q3 q4 q5 q6 q7 q8 q9 q10 (v12) rv1 (v13) rv2 (by omega)) yy_X10_at (vv_rmI rfl rfl (Nat.le_of_ble_eq_true rfl) (Nat.le_of_ble_eq_true rfl) (Nat.le_of_ble_eq_true rfl) (Nat.le_of_ble_eq_true rfl)) wm695 wm696 wm697 0 rfl rfl rfl rfl (Nat.le_of_ble_eq_true rfl) dL_at_5 (fun E9 u hp => ?_) (fun v u hp => hp.elim)
  obtain rfl := hp
  refine vv_catch C htab [] ⟨0, 10, 13, 21⟩ [] rfl (fun z hz => nomatch hz) rfl (by decide) wm645 (by decide +kernel) (fun qe51 => ?_)
  refine vv_astore (loc1 := [(4, .ref qe51), (0, .ref q1), (1, .int (zI (v12))), (2, .int (zI (v13))), (3, .ref q11)]) C dL_at_13 (by decide) rfl ?_
  refine vv_iconst (v := zI (1)) C dL_at_15 rfl ?_
  exact vv_iret C (()) rfl [0] rfl rfl ⟨Nat.le_of_ble_eq_true rfl, Nat.le_of_ble_eq_true rfl⟩ dL_at_16
set_option maxHeartbeats 4000000 in
set_option maxRecDepth 100000 in
theorem k140_X13_at (l : Launch) (hf : l.stackTraces = false) (G : vv_G) (q1 q2 q3 q4 q5 q6 q7 : Nat) (v8 : Int) (rv1 : -2147483648 ≤ v8 ∧ v8 < 2147483648) (v9 : Int) (rv2 : -2147483648 ≤ v9 ∧ v9 < 2147483648) (g0 : v8 ≤ -1) : ∀ sz, Met l yX13_at (Cond.code yX13_at cX13_at 3 (some .int) :: gT) ({ frames := 2, cells := 0, slots := 0, locals := 43 } : Room) (va_Pc [.ref q1, .int (zI (v8)), .int (zI (v9))] (vv_I G [(q1, .inr (12, [.int (zI (0)), .ref q2, .ref q3, .ref q4, .ref q5, .ref q6, .ref q7, .long (0 : Int64)])), (q2, .inr (13, [.int (zI (0)), .ref (G.2.2 0), .int (zI (0))]))] sz)) (vv_Q G (fun v (u : Unit) => v = some (.int (zI (0)))) (fun u => [(q1, .inr (12, [.int (zI (1)), .ref q2, .ref q3, .ref q4, .ref q5, .ref q6, .ref q7, .long (0 : Int64)])), (q2, .inr (13, [.int (zI (0)), .ref (G.2.2 0), .int (zI (0))]))]) (va_A [(q1, .inr (12, [.int (zI (0)), .ref q2, .ref q3, .ref q4, .ref q5, .ref q6, .ref q7, .long (0 : Int64)])), (q2, .inr (13, [.int (zI (0)), .ref (G.2.2 0), .int (zI (0))]))] sz)) 0 0 (va_A [(q1, .inr (12, [.int (zI (0)), .ref q2, .ref q3, .ref q4, .ref q5, .ref q6, .ref q7, .long (0 : Int64)])), (q2, .inr (13, [.int (zI (0)), .ref (G.2.2 0), .int (zI (0))]))] sz) := by
  refine vv_start hf (by decide) (Nat.le_of_ble_eq_true rfl) ?_
  intro p e s m below meth c A C hnm
  refine vv_aload_n C 0 dX13_at_0 rfl rfl ?_
  refine vv_iconst (v := zI (0)) C dX13_at_1 rfl ?_
  refine vv_put (ws1 := [(q1, .inr (12, [.int (zI (0)), .ref q2, .ref q3, .ref q4, .ref q5, .ref q6, .ref q7, .long (0 : Int64)])), (q2, .inr (13, [.int (zI (0)), .ref (G.2.2 0), .int (zI (0))]))]) C 0 rfl rfl vi_X13 tyX13_ok nmX13 0 (by decide) wm1127 rfl rfl rfl (Nat.le_of_ble_eq_true rfl) rfl dX13_at_2 ?_
  refine vv_aload_n C 0 dX13_at_5 rfl rfl ?_
  refine vv_iload_n C 1 dX13_at_6 rfl rfl ?_
  refine vv_callV (As := [.int (zI (v8))]) (rest := []) (wr := []) (ws2 := fun u => [(q1, .inr (12, [.int (zI (0)), .ref q2, .ref q3, .ref q4, .ref q5, .ref q6, .ref q7, .long (0 : Int64)])), (q2, .inr (13, [.int (zI (0)), .ref (G.2.2 0), .int (zI (0))]))]) (isC := [0, 1]) (isR := []) (isP := [0, 1]) C (vv_cutI rfl rfl rfl rfl (by decide) (fun _ => rfl) rfl) (k130_X13_isTerm l hf G q1 q2 q3 q4 q5 q6 q7 (v8) rv1 (by omega)) yy_X13_isTerm (vv_rmI rfl rfl (Nat.le_of_ble_eq_true rfl) (Nat.le_of_ble_eq_true rfl) (Nat.le_of_ble_eq_true rfl) (Nat.le_of_ble_eq_true rfl)) wm1370 wm1372 ws_selects_LatticeworkModel_LatticeworkModel_isTerm__I_Z_LatticeworkModel_isTerm__I_Z 0 rfl rfl rfl rfl (Nat.le_of_ble_eq_true rfl) dX13_at_7 (fun v u hp => ?_)
  obtain rfl := hp
  refine vv_nrm (ws1 := [(q1, .inr (12, [.int (zI (0)), .ref q2, .ref q3, .ref q4, .ref q5, .ref q6, .ref q7, .long (0 : Int64)])), (q2, .inr (13, [.int (zI (0)), .ref (G.2.2 0), .int (zI (0))]))]) (st1 := [.int (zI (0))]) rfl rfl ?_
  refine vv_if_eq (tgt := 51) C dX13_at_10 (by decide) (by omega) (fun h => ?_) (fun h => by exfalso; omega)
  refine vv_aload_n C 0 dX13_at_51 rfl rfl ?_
  refine vv_iconst (v := zI (1)) C dX13_at_52 rfl ?_
  refine vv_callV (As := [.int (zI (1))]) (rest := []) (wr := [(q2, .inr (13, [.int (zI (0)), .ref (G.2.2 0), .int (zI (0))]))]) (ws2 := fun u => [(q1, .inr (12, [.int (zI (1)), .ref q2, .ref q3, .ref q4, .ref q5, .ref q6, .ref q7, .long (0 : Int64)])), (q2, .inr (13, [.int (zI (0)), .ref (G.2.2 0), .int (zI (0))]))]) (isC := [0]) (isR := [1]) (isP := [1, 0]) C (vv_cutI rfl rfl rfl rfl (by decide) (fun _ => rfl) rfl) (k20_X13_refuse l hf G q1 q2 q3 q4 q5 q6 q7) yy_X13_refuse (vv_rmI rfl rfl (Nat.le_of_ble_eq_true rfl) (Nat.le_of_ble_eq_true rfl) (Nat.le_of_ble_eq_true rfl) (Nat.le_of_ble_eq_true rfl)) wm1163 wm1165 ws_selects_LatticeworkModel_LatticeworkModel_refuse__I_I_LatticeworkModel_refuse__I_I 0 rfl rfl rfl rfl (Nat.le_of_ble_eq_true rfl) dX13_at_53 (fun v u hp => ?_)
  obtain rfl := hp
  refine vv_nrm (ws1 := [(q1, .inr (12, [.int (zI (1)), .ref q2, .ref q3, .ref q4, .ref q5, .ref q6, .ref q7, .long (0 : Int64)])), (q2, .inr (13, [.int (zI (0)), .ref (G.2.2 0), .int (zI (0))]))]) (st1 := [.int (zI (0))]) rfl rfl ?_
  exact vv_iret C (()) rfl [0, 1] rfl rfl ⟨Nat.le_of_ble_eq_true rfl, Nat.le_of_ble_eq_true rfl⟩ dX13_at_56
set_option maxHeartbeats 4000000 in
set_option maxRecDepth 100000 in
theorem k141_X10_at (l : Launch) (hf : l.stackTraces = false) (G : vv_G) (q1 q2 q3 q4 q5 q6 q7 q8 q9 q10 q11 q12 q13 : Nat) (v14 : Int) (rv1 : -2147483648 ≤ v14 ∧ v14 < 2147483648) (v15 : Int) (rv2 : -2147483648 ≤ v15 ∧ v15 < 2147483648) (g0 : 0 ≤ v14) : ∀ sz, vx_Met l yX10_at (Cond.code yX10_at cX10_at 5 (some .int) :: gT) ({ frames := 7, cells := 1, slots := 6, locals := 111 } : Room) (va_Pc [.ref q1, .int (zI (v14)), .int (zI (v15))] (vv_I G [(q1, .inr (9, [.ref q2, .ref q3, .ref q4, .ref q5, .ref q6, .ref q7, .ref q8, .ref q9, .ref q10])), (q7, .inr (8, [.ref q11, .ref q12, .ref q13, .int (zI (0))]))] sz)) (vv_Q G (fun v (u : Unit) => False) (fun u => []) (va_A [(q1, .inr (9, [.ref q2, .ref q3, .ref q4, .ref q5, .ref q6, .ref q7, .ref q8, .ref q9, .ref q10])), (q7, .inr (8, [.ref q11, .ref q12, .ref q13, .int (zI (0))]))] sz)) (vv_XC G (fun E (u : Unit) => E = "java/lang/IndexOutOfBoundsException") (fun u => [(q1, .inr (9, [.ref q2, .ref q3, .ref q4, .ref q5, .ref q6, .ref q7, .ref q8, .ref q9, .ref q10])), (q7, .inr (8, [.ref q11, .ref q12, .ref q13, .int (zI (0))]))]) (va_A [(q1, .inr (9, [.ref q2, .ref q3, .ref q4, .ref q5, .ref q6, .ref q7, .ref q8, .ref q9, .ref q10])), (q7, .inr (8, [.ref q11, .ref q12, .ref q13, .int (zI (0))]))] sz)) 1 6 (va_A [(q1, .inr (9, [.ref q2, .ref q3, .ref q4, .ref q5, .ref q6, .ref q7, .ref q8, .ref q9, .ref q10])), (q7, .inr (8, [.ref q11, .ref q12, .ref q13, .int (zI (0))]))] sz) := by
  refine vv_startX hf (by decide) (Nat.le_of_ble_eq_true rfl) ?_
  intro p e s m below meth c A C hnm htab
  refine vv_aload_n C 0 dX10_at_0 rfl rfl ?_
  refine vv_iload_n C 1 dX10_at_1 rfl rfl ?_
  refine vv_callVx (As := [.int (zI (v14))]) (rest := []) (wr := []) (ws3 := fun u => [(q1, .inr (9, [.ref q2, .ref q3, .ref q4, .ref q5, .ref q6, .ref q7, .ref q8, .ref q9, .ref q10])), (q7, .inr (8, [.ref q11, .ref q12, .ref q13, .int (zI (0))]))]) (isC := [0, 1]) (isR := []) (isX := [0, 1]) (ws2 := fun _ => []) (isP := []) C (vv_cutI rfl rfl rfl rfl (by decide) (fun _ => rfl) rfl) (vv_cutI rfl rfl rfl rfl (by decide) (fun _ => rfl) rfl) (k132_X10_needTerm l hf G q1 q2 q3 q4 q5 q6 q7 q8 q9 q10 q11 q12 q13 (v14) rv1 (by omega)) yy_X10_needTerm (vv_rmI rfl rfl (Nat.le_of_ble_eq_true rfl) (Nat.le_of_ble_eq_true rfl) (Nat.le_of_ble_eq_true rfl) (Nat.le_of_ble_eq_true rfl)) wm654 wm656 ws_selects_Latticework_Latticework_needTerm__I_V_Latticework_needTerm__I_V 0 rfl rfl rfl rfl (Nat.le_of_ble_eq_true rfl) dX10_at_2 (fun E9 u hp => ?_) (fun v u hp => hp.elim)
  obtain rfl := hp
  exact vv_out C htab ⟨Nat.le_of_ble_eq_true rfl, Nat.le_of_ble_eq_true rfl⟩ () rfl [0, 1] rfl rfl
set_option maxHeartbeats 4000000 in
set_option maxRecDepth 100000 in
theorem k142_L_at (l : Launch) (hf : l.stackTraces = false) (G : vv_G) (q1 q2 q3 q4 q5 q6 q7 q8 q9 q10 q11 q12 q13 q14 : Nat) (v15 : Int) (rv1 : -2147483648 ≤ v15 ∧ v15 < 2147483648) (v16 : Int) (rv2 : -2147483648 ≤ v16 ∧ v16 < 2147483648) (g0 : 0 ≤ v15) : ∀ sz, Met l yL_at (Cond.codeWith yL_at cL_at 5 (some .int) [(0, 10, 13, 21)] :: gT) ({ frames := 8, cells := 1, slots := 6, locals := 135 } : Room) (va_Pc [.ref q1, .int (zI (v15)), .int (zI (v16)), .ref q14] (vv_I G [(q1, .inr (9, [.ref q2, .ref q3, .ref q4, .ref q5, .ref q6, .ref q7, .ref q8, .ref q9, .ref q10])), (q7, .inr (8, [.ref q11, .ref q12, .ref q13, .int (zI (0))]))] sz)) (vv_Q G (fun v (u : Unit) => v = some (.int (zI (1)))) (fun u => [(q1, .inr (9, [.ref q2, .ref q3, .ref q4, .ref q5, .ref q6, .ref q7, .ref q8, .ref q9, .ref q10])), (q7, .inr (8, [.ref q11, .ref q12, .ref q13, .int (zI (0))]))]) (va_A [(q1, .inr (9, [.ref q2, .ref q3, .ref q4, .ref q5, .ref q6, .ref q7, .ref q8, .ref q9, .ref q10])), (q7, .inr (8, [.ref q11, .ref q12, .ref q13, .int (zI (0))]))] sz)) 1 6 (va_A [(q1, .inr (9, [.ref q2, .ref q3, .ref q4, .ref q5, .ref q6, .ref q7, .ref q8, .ref q9, .ref q10])), (q7, .inr (8, [.ref q11, .ref q12, .ref q13, .int (zI (0))]))] sz) := by
  refine vv_startW hf (by decide) (Nat.le_of_ble_eq_true rfl) ?_
  intro p e s m below meth c A C hnm htab
  refine vv_aload_n C 3 dL_at_0 rfl rfl ?_
  refine vv_iconst (v := zI (0)) C dL_at_1 rfl ?_
  refine vv_aload_n C 0 dL_at_2 rfl rfl ?_
  refine vv_iload_n C 1 dL_at_3 rfl rfl ?_
  refine vv_iload_n C 2 dL_at_4 rfl rfl ?_
  refine vv_callVx (As := [.int (zI (v15)), .int (zI (v16))]) (rest := [.int (zI (0)), .ref q14]) (wr := []) (ws3 := fun u => [(q1, .inr (9, [.ref q2, .ref q3, .ref q4, .ref q5, .ref q6, .ref q7, .ref q8, .ref q9, .ref q10])), (q7, .inr (8, [.ref q11, .ref q12, .ref q13, .int (zI (0))]))]) (isC := [0, 1]) (isR := []) (isX := [0, 1]) (ws2 := fun _ => []) (isP := []) C (vv_cutI rfl rfl rfl rfl (by decide) (fun _ => rfl) rfl) (vv_cutI rfl rfl rfl rfl (by decide) (fun _ => rfl) rfl) (k141_X10_at l hf G q1 q2 q3 q4 q5 q6 q7 q8 q9 q10 q11 q12 q13 (v15) rv1 (v16) rv2 (by omega)) yy_X10_at (vv_rmI rfl rfl (Nat.le_of_ble_eq_true rfl) (Nat.le_of_ble_eq_true rfl) (Nat.le_of_ble_eq_true rfl) (Nat.le_of_ble_eq_true rfl)) wm695 wm696 wm697 0 rfl rfl rfl rfl (Nat.le_of_ble_eq_true rfl) dL_at_5 (fun E9 u hp => ?_) (fun v u hp => hp.elim)
  obtain rfl := hp
  refine vv_catch C htab [] ⟨0, 10, 13, 21⟩ [] rfl (fun z hz => nomatch hz) rfl (by decide) wm645 (by decide +kernel) (fun qe52 => ?_)
  refine vv_astore (loc1 := [(4, .ref qe52), (0, .ref q1), (1, .int (zI (v15))), (2, .int (zI (v16))), (3, .ref q14)]) C dL_at_13 (by decide) rfl ?_
  refine vv_iconst (v := zI (1)) C dL_at_15 rfl ?_
  exact vv_iret C (()) rfl [0, 1] rfl rfl ⟨Nat.le_of_ble_eq_true rfl, Nat.le_of_ble_eq_true rfl⟩ dL_at_16
