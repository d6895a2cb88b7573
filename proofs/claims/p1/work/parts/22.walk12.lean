set_option maxHeartbeats 4000000 in
set_option maxRecDepth 100000 in
theorem k350_L_formula (l : Launch) (hf : l.stackTraces = false) (G : vv_G) (q1 q2 q3 q4 q5 q6 q7 q8 q9 q10 q11 q12 q13 q14 q15 : Nat) (v16 : Int) (rv2 : -2147483648 ≤ v16 ∧ v16 < 2147483648) (v17 : Int) (rv3 : -2147483648 ≤ v17 ∧ v17 < 2147483648) (g0 : 0 ≤ v16) : ∀ sz, Met l yL_formula (Cond.codeWith yL_formula cL_formula 6 (some .int) [(0, 12, 15, 21), (0, 12, 19, 13), (0, 12, 23, 15)] :: gT) ({ frames := 9, cells := 1, slots := 6, locals := 158 } : Room) (va_Pc [.ref q1, .int (zI (4)), .int (zI (v16)), .int (zI (v17)), .ref q15] (vv_I G [(q1, .inr (9, [.ref q2, .ref q3, .ref q4, .ref q5, .ref q6, .ref q7, .ref q8, .ref q9, .ref q10])), (q8, .inr (1, [.ref q11, .ref q12, .ref q13, .ref q14, .int (zI (0))]))] sz)) (vv_Q G (fun v (u : Unit) => v = some (.int (zI (1)))) (fun u => [(q1, .inr (9, [.ref q2, .ref q3, .ref q4, .ref q5, .ref q6, .ref q7, .ref q8, .ref q9, .ref q10])), (q8, .inr (1, [.ref q11, .ref q12, .ref q13, .ref q14, .int (zI (0))]))]) (va_A [(q1, .inr (9, [.ref q2, .ref q3, .ref q4, .ref q5, .ref q6, .ref q7, .ref q8, .ref q9, .ref q10])), (q8, .inr (1, [.ref q11, .ref q12, .ref q13, .ref q14, .int (zI (0))]))] sz)) 1 6 (va_A [(q1, .inr (9, [.ref q2, .ref q3, .ref q4, .ref q5, .ref q6, .ref q7, .ref q8, .ref q9, .ref q10])), (q8, .inr (1, [.ref q11, .ref q12, .ref q13, .ref q14, .int (zI (0))]))] sz) := by
  refine vv_startW hf (by decide) (Nat.le_of_ble_eq_true rfl) ?_
  intro p e s m below meth c A C hnm htab
  refine vv_aload C 4 dL_formula_0 rfl ?_
  refine vv_iconst (v := zI (0)) C dL_formula_2 rfl ?_
  refine vv_aload_n C 0 dL_formula_3 rfl rfl ?_
  refine vv_iload_n C 1 dL_formula_4 rfl rfl ?_
  refine vv_iload_n C 2 dL_formula_5 rfl rfl ?_
  refine vv_iload_n C 3 dL_formula_6 rfl rfl ?_
  refine vv_callVx (As := [.int (zI (4)), .int (zI (v16)), .int (zI (v17))]) (rest := [.int (zI (0)), .ref q15]) (wr := []) (ws3 := fun u => [(q1, .inr (9, [.ref q2, .ref q3, .ref q4, .ref q5, .ref q6, .ref q7, .ref q8, .ref q9, .ref q10])), (q8, .inr (1, [.ref q11, .ref q12, .ref q13, .ref q14, .int (zI (0))]))]) (isC := [0, 1]) (isR := []) (isX := [0, 1]) (ws2 := fun _ => []) (isP := []) C (vv_cutI rfl rfl rfl rfl (by decide) (fun _ => rfl) rfl) (vv_cutI rfl rfl rfl rfl (by decide) (fun _ => rfl) rfl) (k349_X10_formula l hf G q1 q2 q3 q4 q5 q6 q7 q8 q9 q10 q11 q12 q13 q14 (v16) rv2 (v17) rv3 (by omega)) yy_X10_formula (vv_rmI rfl rfl (Nat.le_of_ble_eq_true rfl) (Nat.le_of_ble_eq_true rfl) (Nat.le_of_ble_eq_true rfl) (Nat.le_of_ble_eq_true rfl)) wm956 wm957 wm958 0 rfl rfl rfl rfl (Nat.le_of_ble_eq_true rfl) dL_formula_7 (fun E9 u hp => ?_) (fun v u hp => hp.elim)
  obtain rfl := hp
  refine vv_catch C htab [] ⟨0, 12, 15, 21⟩ [⟨0, 12, 19, 13⟩, ⟨0, 12, 23, 15⟩] rfl (fun z hz => nomatch hz) rfl (by decide) wm645 (by decide +kernel) (fun qe96 => ?_)
  refine vv_astore (loc1 := [(5, .ref qe96), (0, .ref q1), (1, .int (zI (4))), (2, .int (zI (v16))), (3, .int (zI (v17))), (4, .ref q15)]) C dL_formula_15 (by decide) rfl ?_
  refine vv_iconst (v := zI (1)) C dL_formula_17 rfl ?_
  exact vv_iret C (()) rfl [0, 1] rfl rfl ⟨Nat.le_of_ble_eq_true rfl, Nat.le_of_ble_eq_true rfl⟩ dL_formula_18
set_option maxHeartbeats 4000000 in
set_option maxRecDepth 100000 in
theorem k351_X13_formula (l : Launch) (hf : l.stackTraces = false) (G : vv_G) (q1 q2 q3 q4 q5 q6 q7 : Nat) (v8 : Int) (rv2 : -2147483648 ≤ v8 ∧ v8 < 2147483648) (v9 : Int) (rv3 : -2147483648 ≤ v9 ∧ v9 < 2147483648) (g0 : 0 ≤ v8) : ∀ sz, Met l yX13_formula (Cond.code yX13_formula cX13_formula 8 (some .int) :: gT) ({ frames := 2, cells := 0, slots := 0, locals := 43 } : Room) (va_Pc [.ref q1, .int (zI (4)), .int (zI (v8)), .int (zI (v9))] (vv_I G [(q1, .inr (12, [.int (zI (0)), .ref q2, .ref q3, .ref q4, .ref q5, .ref q6, .ref q7, .long (0 : Int64)])), (q3, .inr (13, [.int (zI (0)), .ref (G.2.2 0), .int (zI (0))]))] sz)) (vv_Q G (fun v (u : Unit) => v = some (.int (zI (0)))) (fun u => [(q1, .inr (12, [.int (zI (1)), .ref q2, .ref q3, .ref q4, .ref q5, .ref q6, .ref q7, .long (0 : Int64)])), (q3, .inr (13, [.int (zI (0)), .ref (G.2.2 0), .int (zI (0))]))]) (va_A [(q1, .inr (12, [.int (zI (0)), .ref q2, .ref q3, .ref q4, .ref q5, .ref q6, .ref q7, .long (0 : Int64)])), (q3, .inr (13, [.int (zI (0)), .ref (G.2.2 0), .int (zI (0))]))] sz)) 0 0 (va_A [(q1, .inr (12, [.int (zI (0)), .ref q2, .ref q3, .ref q4, .ref q5, .ref q6, .ref q7, .long (0 : Int64)])), (q3, .inr (13, [.int (zI (0)), .ref (G.2.2 0), .int (zI (0))]))] sz) := by
  refine vv_start hf (by decide) (Nat.le_of_ble_eq_true rfl) ?_
  intro p e s m below meth c A C hnm
  refine vv_aload_n C 0 dX13_formula_0 rfl rfl ?_
  refine vv_iconst (v := zI (0)) C dX13_formula_1 rfl ?_
  refine vv_put (ws1 := [(q1, .inr (12, [.int (zI (0)), .ref q2, .ref q3, .ref q4, .ref q5, .ref q6, .ref q7, .long (0 : Int64)])), (q3, .inr (13, [.int (zI (0)), .ref (G.2.2 0), .int (zI (0))]))]) C 0 rfl rfl vi_X13 tyX13_ok nmX13 0 (by decide) wm1127 rfl rfl rfl (Nat.le_of_ble_eq_true rfl) rfl dX13_formula_2 ?_
  refine vv_iload_n C 1 dX13_formula_5 rfl rfl ?_
  refine vv_iconst (v := zI (1)) C dX13_formula_6 rfl ?_
  refine vv_icmp_ne (tgt := 32) C dX13_formula_7 (by decide) (by omega) (by omega) (fun h => ?_) (fun h => by exfalso; omega)
  refine vv_iload_n C 1 dX13_formula_32 rfl rfl ?_
  refine vv_iconst (v := zI (2)) C dX13_formula_33 rfl ?_
  refine vv_iconst (v := zI (5)) C dX13_formula_34 rfl ?_
  refine vv_callS (As := [.int (zI (4)), .int (zI (2)), .int (zI (5))]) (rest := []) (wr := [(q1, .inr (12, [.int (zI (0)), .ref q2, .ref q3, .ref q4, .ref q5, .ref q6, .ref q7, .long (0 : Int64)])), (q3, .inr (13, [.int (zI (0)), .ref (G.2.2 0), .int (zI (0))]))]) (ws2 := fun u => [(q1, .inr (12, [.int (zI (0)), .ref q2, .ref q3, .ref q4, .ref q5, .ref q6, .ref q7, .long (0 : Int64)])), (q3, .inr (13, [.int (zI (0)), .ref (G.2.2 0), .int (zI (0))]))]) (isC := []) (isR := [0, 1]) (isP := [0, 1]) C (vv_cutI rfl rfl rfl rfl (by decide) (fun _ => rfl) rfl) (k324_X13_is l hf G ) yy_X13_is (vv_rmI rfl rfl (Nat.le_of_ble_eq_true rfl) (Nat.le_of_ble_eq_true rfl) (Nat.le_of_ble_eq_true rfl) (Nat.le_of_ble_eq_true rfl)) wm1160 wm1161 rfl rfl (Nat.le_of_ble_eq_true rfl) dX13_formula_35 (fun v u hp => ?_)
  obtain rfl := hp
  refine vv_nrm (ws1 := [(q1, .inr (12, [.int (zI (0)), .ref q2, .ref q3, .ref q4, .ref q5, .ref q6, .ref q7, .long (0 : Int64)])), (q3, .inr (13, [.int (zI (0)), .ref (G.2.2 0), .int (zI (0))]))]) (st1 := [.int (zI (1))]) rfl rfl ?_
  refine vv_if_eq (tgt := 68) C dX13_formula_38 (by decide) (by omega) (fun h => by exfalso; omega) (fun h => ?_)
  refine vv_aload_n C 0 dX13_formula_41 rfl rfl ?_
  refine vv_iload_n C 2 dX13_formula_42 rfl rfl ?_
  refine vv_callV (As := [.int (zI (v8))]) (rest := []) (wr := []) (ws2 := fun u => [(q1, .inr (12, [.int (zI (0)), .ref q2, .ref q3, .ref q4, .ref q5, .ref q6, .ref q7, .long (0 : Int64)])), (q3, .inr (13, [.int (zI (0)), .ref (G.2.2 0), .int (zI (0))]))]) (isC := [0, 1]) (isR := []) (isP := [0, 1]) C (vv_cutI rfl rfl rfl rfl (by decide) (fun _ => rfl) rfl) (k342_X13_isFormula l hf G q1 q2 q3 q4 q5 q6 q7 (v8) rv2 (by omega)) yy_X13_isFormula (vv_rmI rfl rfl (Nat.le_of_ble_eq_true rfl) (Nat.le_of_ble_eq_true rfl) (Nat.le_of_ble_eq_true rfl) (Nat.le_of_ble_eq_true rfl)) wm1894 wm1896 ws_selects_LatticeworkModel_LatticeworkModel_isFormula__I_Z_LatticeworkModel_isFormula__I_Z 0 rfl rfl rfl rfl (Nat.le_of_ble_eq_true rfl) dX13_formula_43 (fun v u hp => ?_)
  obtain rfl := hp
  refine vv_nrm (ws1 := [(q1, .inr (12, [.int (zI (0)), .ref q2, .ref q3, .ref q4, .ref q5, .ref q6, .ref q7, .long (0 : Int64)])), (q3, .inr (13, [.int (zI (0)), .ref (G.2.2 0), .int (zI (0))]))]) (st1 := [.int (zI (0))]) rfl rfl ?_
  refine vv_if_eq (tgt := 62) C dX13_formula_46 (by decide) (by omega) (fun h => ?_) (fun h => by exfalso; omega)
  refine vv_aload_n C 0 dX13_formula_62 rfl rfl ?_
  refine vv_iconst (v := zI (1)) C dX13_formula_63 rfl ?_
  refine vv_callV (As := [.int (zI (1))]) (rest := []) (wr := [(q3, .inr (13, [.int (zI (0)), .ref (G.2.2 0), .int (zI (0))]))]) (ws2 := fun u => [(q1, .inr (12, [.int (zI (1)), .ref q2, .ref q3, .ref q4, .ref q5, .ref q6, .ref q7, .long (0 : Int64)])), (q3, .inr (13, [.int (zI (0)), .ref (G.2.2 0), .int (zI (0))]))]) (isC := [0]) (isR := [1]) (isP := [1, 0]) C (vv_cutI rfl rfl rfl rfl (by decide) (fun _ => rfl) rfl) (k20_X13_refuse l hf G q1 q2 q3 q4 q5 q6 q7) yy_X13_refuse (vv_rmI rfl rfl (Nat.le_of_ble_eq_true rfl) (Nat.le_of_ble_eq_true rfl) (Nat.le_of_ble_eq_true rfl) (Nat.le_of_ble_eq_true rfl)) wm1163 wm1165 ws_selects_LatticeworkModel_LatticeworkModel_refuse__I_I_LatticeworkModel_refuse__I_I 0 rfl rfl rfl rfl (Nat.le_of_ble_eq_true rfl) dX13_formula_64 (fun v u hp => ?_)
  obtain rfl := hp
  refine vv_nrm (ws1 := [(q1, .inr (12, [.int (zI (1)), .ref q2, .ref q3, .ref q4, .ref q5, .ref q6, .ref q7, .long (0 : Int64)])), (q3, .inr (13, [.int (zI (0)), .ref (G.2.2 0), .int (zI (0))]))]) (st1 := [.int (zI (0))]) rfl rfl ?_
  exact vv_iret C (()) rfl [0, 1] rfl rfl ⟨Nat.le_of_ble_eq_true rfl, Nat.le_of_ble_eq_true rfl⟩ dX13_formula_67
set_option maxHeartbeats 4000000 in
set_option maxRecDepth 100000 in
theorem k352_X10_needParts (l : Launch) (hf : l.stackTraces = false) (G : vv_G) (q1 q2 q3 q4 q5 q6 q7 q8 q9 q10 q11 q12 q13 q14 : Nat) (v15 : Int) (rv2 : -2147483648 ≤ v15 ∧ v15 < 2147483648) (v16 : Int) (rv3 : -2147483648 ≤ v16 ∧ v16 < 2147483648) (g0 : 0 ≤ v15) : ∀ sz, vx_Met l yX10_needParts (Cond.code yX10_needParts cX10_needParts 4 none :: gT) ({ frames := 7, cells := 1, slots := 6, locals := 111 } : Room) (va_Pc [.ref q1, .int (zI (5)), .int (zI (v15)), .int (zI (v16))] (vv_I G [(q1, .inr (9, [.ref q2, .ref q3, .ref q4, .ref q5, .ref q6, .ref q7, .ref q8, .ref q9, .ref q10])), (q8, .inr (1, [.ref q11, .ref q12, .ref q13, .ref q14, .int (zI (0))]))] sz)) (vv_Q G (fun v (u : Unit) => False) (fun u => []) (va_A [(q1, .inr (9, [.ref q2, .ref q3, .ref q4, .ref q5, .ref q6, .ref q7, .ref q8, .ref q9, .ref q10])), (q8, .inr (1, [.ref q11, .ref q12, .ref q13, .ref q14, .int (zI (0))]))] sz)) (vv_XC G (fun E (u : Unit) => E = "java/lang/IndexOutOfBoundsException") (fun u => [(q1, .inr (9, [.ref q2, .ref q3, .ref q4, .ref q5, .ref q6, .ref q7, .ref q8, .ref q9, .ref q10])), (q8, .inr (1, [.ref q11, .ref q12, .ref q13, .ref q14, .int (zI (0))]))]) (va_A [(q1, .inr (9, [.ref q2, .ref q3, .ref q4, .ref q5, .ref q6, .ref q7, .ref q8, .ref q9, .ref q10])), (q8, .inr (1, [.ref q11, .ref q12, .ref q13, .ref q14, .int (zI (0))]))] sz)) 1 6 (va_A [(q1, .inr (9, [.ref q2, .ref q3, .ref q4, .ref q5, .ref q6, .ref q7, .ref q8, .ref q9, .ref q10])), (q8, .inr (1, [.ref q11, .ref q12, .ref q13, .ref q14, .int (zI (0))]))] sz) := by
  refine vv_startX hf (by decide) (Nat.le_of_ble_eq_true rfl) ?_
  intro p e s m below meth c A C hnm htab
  refine vv_iload_n C 1 dX10_needParts_0 rfl rfl ?_
  refine vv_iconst (v := zI (1)) C dX10_needParts_1 rfl ?_
  refine vv_icmp_ne (tgt := 15) C dX10_needParts_2 (by decide) (by omega) (by omega) (fun h => ?_) (fun h => by exfalso; omega)
  refine vv_iload_n C 1 dX10_needParts_15 rfl rfl ?_
  refine vv_iconst (v := zI (2)) C dX10_needParts_16 rfl ?_
  refine vv_icmp_lt (tgt := 30) C dX10_needParts_17 (by decide) (by omega) (by omega) (fun h => by exfalso; omega) (fun h => ?_)
  refine vv_iload_n C 1 dX10_needParts_20 rfl rfl ?_
  refine vv_iconst (v := zI (5)) C dX10_needParts_21 rfl ?_
  refine vv_icmp_gt (tgt := 30) C dX10_needParts_22 (by decide) (by omega) (by omega) (fun h => by exfalso; omega) (fun h => ?_)
  refine vv_aload_n C 0 dX10_needParts_25 rfl rfl ?_
  refine vv_iload_n C 2 dX10_needParts_26 rfl rfl ?_
  refine vv_callVx (As := [.int (zI (v15))]) (rest := []) (wr := []) (ws3 := fun u => [(q1, .inr (9, [.ref q2, .ref q3, .ref q4, .ref q5, .ref q6, .ref q7, .ref q8, .ref q9, .ref q10])), (q8, .inr (1, [.ref q11, .ref q12, .ref q13, .ref q14, .int (zI (0))]))]) (isC := [0, 1]) (isR := []) (isX := [0, 1]) (ws2 := fun _ => []) (isP := []) C (vv_cutI rfl rfl rfl rfl (by decide) (fun _ => rfl) rfl) (vv_cutI rfl rfl rfl rfl (by decide) (fun _ => rfl) rfl) (k338_X10_needFormula l hf G q1 q2 q3 q4 q5 q6 q7 q8 q9 q10 q11 q12 q13 q14 (v15) rv2 (by omega)) yy_X10_needFormula (vv_rmI rfl rfl (Nat.le_of_ble_eq_true rfl) (Nat.le_of_ble_eq_true rfl) (Nat.le_of_ble_eq_true rfl) (Nat.le_of_ble_eq_true rfl)) wm964 wm966 ws_selects_Latticework_Latticework_needFormula__I_V_Latticework_needFormula__I_V 0 rfl rfl rfl rfl (Nat.le_of_ble_eq_true rfl) dX10_needParts_27 (fun E9 u hp => ?_) (fun v u hp => hp.elim)
  obtain rfl := hp
  exact vv_out C htab ⟨Nat.le_of_ble_eq_true rfl, Nat.le_of_ble_eq_true rfl⟩ () rfl [0, 1] rfl rfl
set_option maxHeartbeats 4000000 in
set_option maxRecDepth 100000 in
theorem k353_X10_formula (l : Launch) (hf : l.stackTraces = false) (G : vv_G) (q1 q2 q3 q4 q5 q6 q7 q8 q9 q10 q11 q12 q13 q14 : Nat) (v15 : Int) (rv2 : -2147483648 ≤ v15 ∧ v15 < 2147483648) (v16 : Int) (rv3 : -2147483648 ≤ v16 ∧ v16 < 2147483648) (g0 : 0 ≤ v15) : ∀ sz, vx_Met l yX10_formula (Cond.code yX10_formula cX10_formula 5 (some .int) :: gT) ({ frames := 8, cells := 1, slots := 6, locals := 134 } : Room) (va_Pc [.ref q1, .int (zI (5)), .int (zI (v15)), .int (zI (v16))] (vv_I G [(q1, .inr (9, [.ref q2, .ref q3, .ref q4, .ref q5, .ref q6, .ref q7, .ref q8, .ref q9, .ref q10])), (q8, .inr (1, [.ref q11, .ref q12, .ref q13, .ref q14, .int (zI (0))]))] sz)) (vv_Q G (fun v (u : Unit) => False) (fun u => []) (va_A [(q1, .inr (9, [.ref q2, .ref q3, .ref q4, .ref q5, .ref q6, .ref q7, .ref q8, .ref q9, .ref q10])), (q8, .inr (1, [.ref q11, .ref q12, .ref q13, .ref q14, .int (zI (0))]))] sz)) (vv_XC G (fun E (u : Unit) => E = "java/lang/IndexOutOfBoundsException") (fun u => [(q1, .inr (9, [.ref q2, .ref q3, .ref q4, .ref q5, .ref q6, .ref q7, .ref q8, .ref q9, .ref q10])), (q8, .inr (1, [.ref q11, .ref q12, .ref q13, .ref q14, .int (zI (0))]))]) (va_A [(q1, .inr (9, [.ref q2, .ref q3, .ref q4, .ref q5, .ref q6, .ref q7, .ref q8, .ref q9, .ref q10])), (q8, .inr (1, [.ref q11, .ref q12, .ref q13, .ref q14, .int (zI (0))]))] sz)) 1 6 (va_A [(q1, .inr (9, [.ref q2, .ref q3, .ref q4, .ref q5, .ref q6, .ref q7, .ref q8, .ref q9, .ref q10])), (q8, .inr (1, [.ref q11, .ref q12, .ref q13, .ref q14, .int (zI (0))]))] sz) := by
  refine vv_startX hf (by decide) (Nat.le_of_ble_eq_true rfl) ?_
  intro p e s m below meth c A C hnm htab
  refine vv_aload_n C 0 dX10_formula_0 rfl rfl ?_
  refine vv_iload_n C 1 dX10_formula_1 rfl rfl ?_
  refine vv_iload_n C 2 dX10_formula_2 rfl rfl ?_
  refine vv_iload_n C 3 dX10_formula_3 rfl rfl ?_
  refine vv_callVx (As := [.int (zI (5)), .int (zI (v15)), .int (zI (v16))]) (rest := []) (wr := []) (ws3 := fun u => [(q1, .inr (9, [.ref q2, .ref q3, .ref q4, .ref q5, .ref q6, .ref q7, .ref q8, .ref q9, .ref q10])), (q8, .inr (1, [.ref q11, .ref q12, .ref q13, .ref q14, .int (zI (0))]))]) (isC := [0, 1]) (isR := []) (isX := [0, 1]) (ws2 := fun _ => []) (isP := []) C (vv_cutI rfl rfl rfl rfl (by decide) (fun _ => rfl) rfl) (vv_cutI rfl rfl rfl rfl (by decide) (fun _ => rfl) rfl) (k352_X10_needParts l hf G q1 q2 q3 q4 q5 q6 q7 q8 q9 q10 q11 q12 q13 q14 (v15) rv2 (v16) rv3 (by omega)) yy_X10_needParts (vv_rmI rfl rfl (Nat.le_of_ble_eq_true rfl) (Nat.le_of_ble_eq_true rfl) (Nat.le_of_ble_eq_true rfl) (Nat.le_of_ble_eq_true rfl)) wm960 wm962 ws_selects_Latticework_Latticework_needParts__III_V_Latticework_needParts__III_V 0 rfl rfl rfl rfl (Nat.le_of_ble_eq_true rfl) dX10_formula_4 (fun E9 u hp => ?_) (fun v u hp => hp.elim)
  obtain rfl := hp
  exact vv_out C htab ⟨Nat.le_of_ble_eq_true rfl, Nat.le_of_ble_eq_true rfl⟩ () rfl [0, 1] rfl rfl
set_option maxHeartbeats 4000000 in
set_option maxRecDepth 100000 in
theorem k354_L_formula (l : Launch) (hf : l.stackTraces = false) (G : vv_G) (q1 q2 q3 q4 q5 q6 q7 q8 q9 q10 q11 q12 q13 q14 q15 : Nat) (v16 : Int) (rv2 : -2147483648 ≤ v16 ∧ v16 < 2147483648) (v17 : Int) (rv3 : -2147483648 ≤ v17 ∧ v17 < 2147483648) (g0 : 0 ≤ v16) : ∀ sz, Met l yL_formula (Cond.codeWith yL_formula cL_formula 6 (some .int) [(0, 12, 15, 21), (0, 12, 19, 13), (0, 12, 23, 15)] :: gT) ({ frames := 9, cells := 1, slots := 6, locals := 158 } : Room) (va_Pc [.ref q1, .int (zI (5)), .int (zI (v16)), .int (zI (v17)), .ref q15] (vv_I G [(q1, .inr (9, [.ref q2, .ref q3, .ref q4, .ref q5, .ref q6, .ref q7, .ref q8, .ref q9, .ref q10])), (q8, .inr (1, [.ref q11, .ref q12, .ref q13, .ref q14, .int (zI (0))]))] sz)) (vv_Q G (fun v (u : Unit) => v = some (.int (zI (1)))) (fun u => [(q1, .inr (9, [.ref q2, .ref q3, .ref q4, .ref q5, .ref q6, .ref q7, .ref q8, .ref q9, .ref q10])), (q8, .inr (1, [.ref q11, .ref q12, .ref q13, .ref q14, .int (zI (0))]))]) (va_A [(q1, .inr (9, [.ref q2, .ref q3, .ref q4, .ref q5, .ref q6, .ref q7, .ref q8, .ref q9, .ref q10])), (q8, .inr (1, [.ref q11, .ref q12, .ref q13, .ref q14, .int (zI (0))]))] sz)) 1 6 (va_A [(q1, .inr (9, [.ref q2, .ref q3, .ref q4, .ref q5, .ref q6, .ref q7, .ref q8, .ref q9, .ref q10])), (q8, .inr (1, [.ref q11, .ref q12, .ref q13, .ref q14, .int (zI (0))]))] sz) := by
  refine vv_startW hf (by decide) (Nat.le_of_ble_eq_true rfl) ?_
  intro p e s m below meth c A C hnm htab
  refine vv_aload C 4 dL_formula_0 rfl ?_
  refine vv_iconst (v := zI (0)) C dL_formula_2 rfl ?_
  refine vv_aload_n C 0 dL_formula_3 rfl rfl ?_
  refine vv_iload_n C 1 dL_formula_4 rfl rfl ?_
  refine vv_iload_n C 2 dL_formula_5 rfl rfl ?_
  refine vv_iload_n C 3 dL_formula_6 rfl rfl ?_
  refine vv_callVx (As := [.int (zI (5)), .int (zI (v16)), .int (zI (v17))]) (rest := [.int (zI (0)), .ref q15]) (wr := []) (ws3 := fun u => [(q1, .inr (9, [.ref q2, .ref q3, .ref q4, .ref q5, .ref q6, .ref q7, .ref q8, .ref q9, .ref q10])), (q8, .inr (1, [.ref q11, .ref q12, .ref q13, .ref q14, .int (zI (0))]))]) (isC := [0, 1]) (isR := []) (isX := [0, 1]) (ws2 := fun _ => []) (isP := []) C (vv_cutI rfl rfl rfl rfl (by decide) (fun _ => rfl) rfl) (vv_cutI rfl rfl rfl rfl (by decide) (fun _ => rfl) rfl) (k353_X10_formula l hf G q1 q2 q3 q4 q5 q6 q7 q8 q9 q10 q11 q12 q13 q14 (v16) rv2 (v17) rv3 (by omega)) yy_X10_formula (vv_rmI rfl rfl (Nat.le_of_ble_eq_true rfl) (Nat.le_of_ble_eq_true rfl) (Nat.le_of_ble_eq_true rfl) (Nat.le_of_ble_eq_true rfl)) wm956 wm957 wm958 0 rfl rfl rfl rfl (Nat.le_of_ble_eq_true rfl) dL_formula_7 (fun E9 u hp => ?_) (fun v u hp => hp.elim)
  obtain rfl := hp
  refine vv_catch C htab [] ⟨0, 12, 15, 21⟩ [⟨0, 12, 19, 13⟩, ⟨0, 12, 23, 15⟩] rfl (fun z hz => nomatch hz) rfl (by decide) wm645 (by decide +kernel) (fun qe97 => ?_)
  refine vv_astore (loc1 := [(5, .ref qe97), (0, .ref q1), (1, .int (zI (5))), (2, .int (zI (v16))), (3, .int (zI (v17))), (4, .ref q15)]) C dL_formula_15 (by decide) rfl ?_
  refine vv_iconst (v := zI (1)) C dL_formula_17 rfl ?_
  exact vv_iret C (()) rfl [0, 1] rfl rfl ⟨Nat.le_of_ble_eq_true rfl, Nat.le_of_ble_eq_true rfl⟩ dL_formula_18
set_option maxHeartbeats 4000000 in
set_option maxRecDepth 100000 in
theorem k355_X13_formula (l : Launch) (hf : l.stackTraces = false) (G : vv_G) (q1 q2 q3 q4 q5 q6 q7 : Nat) (v8 : Int) (rv2 : -2147483648 ≤ v8 ∧ v8 < 2147483648) (v9 : Int) (rv3 : -2147483648 ≤ v9 ∧ v9 < 2147483648) (g0 : 0 ≤ v8) : ∀ sz, Met l yX13_formula (Cond.code yX13_formula cX13_formula 8 (some .int) :: gT) ({ frames := 2, cells := 0, slots := 0, locals := 43 } : Room) (va_Pc [.ref q1, .int (zI (5)), .int (zI (v8)), .int (zI (v9))] (vv_I G [(q1, .inr (12, [.int (zI (0)), .ref q2, .ref q3, .ref q4, .ref q5, .ref q6, .ref q7, .long (0 : Int64)])), (q3, .inr (13, [.int (zI (0)), .ref (G.2.2 0), .int (zI (0))]))] sz)) (vv_Q G (fun v (u : Unit) => v = some (.int (zI (0)))) (fun u => [(q1, .inr (12, [.int (zI (1)), .ref q2, .ref q3, .ref q4, .ref q5, .ref q6, .ref q7, .long (0 : Int64)])), (q3, .inr (13, [.int (zI (0)), .ref (G.2.2 0), .int (zI (0))]))]) (va_A [(q1, .inr (12, [.int (zI (0)), .ref q2, .ref q3, .ref q4, .ref q5, .ref q6, .ref q7, .long (0 : Int64)])), (q3, .inr (13, [.int (zI (0)), .ref (G.2.2 0), .int (zI (0))]))] sz)) 0 0 (va_A [(q1, .inr (12, [.int (zI (0)), .ref q2, .ref q3, .ref q4, .ref q5, .ref q6, .ref q7, .long (0 : Int64)])), (q3, .inr (13, [.int (zI (0)), .ref (G.2.2 0), .int (zI (0))]))] sz) := by
  refine vv_start hf (by decide) (Nat.le_of_ble_eq_true rfl) ?_
  intro p e s m below meth c A C hnm
  refine vv_aload_n C 0 dX13_formula_0 rfl rfl ?_
  refine vv_iconst (v := zI (0)) C dX13_formula_1 rfl ?_
  refine vv_put (ws1 := [(q1, .inr (12, [.int (zI (0)), .ref q2, .ref q3, .ref q4, .ref q5, .ref q6, .ref q7, .long (0 : Int64)])), (q3, .inr (13, [.int (zI (0)), .ref (G.2.2 0), .int (zI (0))]))]) C 0 rfl rfl vi_X13 tyX13_ok nmX13 0 (by decide) wm1127 rfl rfl rfl (Nat.le_of_ble_eq_true rfl) rfl dX13_formula_2 ?_
  refine vv_iload_n C 1 dX13_formula_5 rfl rfl ?_
  refine vv_iconst (v := zI (1)) C dX13_formula_6 rfl ?_
  refine vv_icmp_ne (tgt := 32) C dX13_formula_7 (by decide) (by omega) (by omega) (fun h => ?_) (fun h => by exfalso; omega)
  refine vv_iload_n C 1 dX13_formula_32 rfl rfl ?_
  refine vv_iconst (v := zI (2)) C dX13_formula_33 rfl ?_
  refine vv_iconst (v := zI (5)) C dX13_formula_34 rfl ?_
  refine vv_callS (As := [.int (zI (5)), .int (zI (2)), .int (zI (5))]) (rest := []) (wr := [(q1, .inr (12, [.int (zI (0)), .ref q2, .ref q3, .ref q4, .ref q5, .ref q6, .ref q7, .long (0 : Int64)])), (q3, .inr (13, [.int (zI (0)), .ref (G.2.2 0), .int (zI (0))]))]) (ws2 := fun u => [(q1, .inr (12, [.int (zI (0)), .ref q2, .ref q3, .ref q4, .ref q5, .ref q6, .ref q7, .long (0 : Int64)])), (q3, .inr (13, [.int (zI (0)), .ref (G.2.2 0), .int (zI (0))]))]) (isC := []) (isR := [0, 1]) (isP := [0, 1]) C (vv_cutI rfl rfl rfl rfl (by decide) (fun _ => rfl) rfl) (k329_X13_is l hf G ) yy_X13_is (vv_rmI rfl rfl (Nat.le_of_ble_eq_true rfl) (Nat.le_of_ble_eq_true rfl) (Nat.le_of_ble_eq_true rfl) (Nat.le_of_ble_eq_true rfl)) wm1160 wm1161 rfl rfl (Nat.le_of_ble_eq_true rfl) dX13_formula_35 (fun v u hp => ?_)
  obtain rfl := hp
  refine vv_nrm (ws1 := [(q1, .inr (12, [.int (zI (0)), .ref q2, .ref q3, .ref q4, .ref q5, .ref q6, .ref q7, .long (0 : Int64)])), (q3, .inr (13, [.int (zI (0)), .ref (G.2.2 0), .int (zI (0))]))]) (st1 := [.int (zI (1))]) rfl rfl ?_
  refine vv_if_eq (tgt := 68) C dX13_formula_38 (by decide) (by omega) (fun h => by exfalso; omega) (fun h => ?_)
  refine vv_aload_n C 0 dX13_formula_41 rfl rfl ?_
  refine vv_iload_n C 2 dX13_formula_42 rfl rfl ?_
  refine vv_callV (As := [.int (zI (v8))]) (rest := []) (wr := []) (ws2 := fun u => [(q1, .inr (12, [.int (zI (0)), .ref q2, .ref q3, .ref q4, .ref q5, .ref q6, .ref q7, .long (0 : Int64)])), (q3, .inr (13, [.int (zI (0)), .ref (G.2.2 0), .int (zI (0))]))]) (isC := [0, 1]) (isR := []) (isP := [0, 1]) C (vv_cutI rfl rfl rfl rfl (by decide) (fun _ => rfl) rfl) (k342_X13_isFormula l hf G q1 q2 q3 q4 q5 q6 q7 (v8) rv2 (by omega)) yy_X13_isFormula (vv_rmI rfl rfl (Nat.le_of_ble_eq_true rfl) (Nat.le_of_ble_eq_true rfl) (Nat.le_of_ble_eq_true rfl) (Nat.le_of_ble_eq_true rfl)) wm1894 wm1896 ws_selects_LatticeworkModel_LatticeworkModel_isFormula__I_Z_LatticeworkModel_isFormula__I_Z 0 rfl rfl rfl rfl (Nat.le_of_ble_eq_true rfl) dX13_formula_43 (fun v u hp => ?_)
  obtain rfl := hp
  refine vv_nrm (ws1 := [(q1, .inr (12, [.int (zI (0)), .ref q2, .ref q3, .ref q4, .ref q5, .ref q6, .ref q7, .long (0 : Int64)])), (q3, .inr (13, [.int (zI (0)), .ref (G.2.2 0), .int (zI (0))]))]) (st1 := [.int (zI (0))]) rfl rfl ?_
  refine vv_if_eq (tgt := 62) C dX13_formula_46 (by decide) (by omega) (fun h => ?_) (fun h => by exfalso; omega)
  refine vv_aload_n C 0 dX13_formula_62 rfl rfl ?_
  refine vv_iconst (v := zI (1)) C dX13_formula_63 rfl ?_
  refine vv_callV (As := [.int (zI (1))]) (rest := []) (wr := [(q3, .inr (13, [.int (zI (0)), .ref (G.2.2 0), .int (zI (0))]))]) (ws2 := fun u => [(q1, .inr (12, [.int (zI (1)), .ref q2, .ref q3, .ref q4, .ref q5, .ref q6, .ref q7, .long (0 : Int64)])), (q3, .inr (13, [.int (zI (0)), .ref (G.2.2 0), .int (zI (0))]))]) (isC := [0]) (isR := [1]) (isP := [1, 0]) C (vv_cutI rfl rfl rfl rfl (by decide) (fun _ => rfl) rfl) (k20_X13_refuse l hf G q1 q2 q3 q4 q5 q6 q7) yy_X13_refuse (vv_rmI rfl rfl (Nat.le_of_ble_eq_true rfl) (Nat.le_of_ble_eq_true rfl) (Nat.le_of_ble_eq_true rfl) (Nat.le_of_ble_eq_true rfl)) wm1163 wm1165 ws_selects_LatticeworkModel_LatticeworkModel_refuse__I_I_LatticeworkModel_refuse__I_I 0 rfl rfl rfl rfl (Nat.le_of_ble_eq_true rfl) dX13_formula_64 (fun v u hp => ?_)
  obtain rfl := hp
  refine vv_nrm (ws1 := [(q1, .inr (12, [.int (zI (1)), .ref q2, .ref q3, .ref q4, .ref q5, .ref q6, .ref q7, .long (0 : Int64)])), (q3, .inr (13, [.int (zI (0)), .ref (G.2.2 0), .int (zI (0))]))]) (st1 := [.int (zI (0))]) rfl rfl ?_
  exact vv_iret C (()) rfl [0, 1] rfl rfl ⟨Nat.le_of_ble_eq_true rfl, Nat.le_of_ble_eq_true rfl⟩ dX13_formula_67
set_option maxHeartbeats 4000000 in
set_option maxRecDepth 100000 in
theorem k356_X10_needParts (l : Launch) (hf : l.stackTraces = false) (G : vv_G) (q1 q2 q3 q4 q5 q6 q7 q8 q9 q10 : Nat) (v11 : Int) (rv1 : -2147483648 ≤ v11 ∧ v11 < 2147483648) (v12 : Int) (rv2 : -2147483648 ≤ v12 ∧ v12 < 2147483648) (v13 : Int) (rv3 : -2147483648 ≤ v13 ∧ v13 < 2147483648) (g0 : 6 ≤ v11) : ∀ sz, Met l yX10_needParts (Cond.code yX10_needParts cX10_needParts 4 none :: gT) ({ frames := 0, cells := 0, slots := 0, locals := 0 } : Room) (va_Pc [.ref q1, .int (zI (v11)), .int (zI (v12)), .int (zI (v13))] (vv_I G [(q1, .inr (9, [.ref q2, .ref q3, .ref q4, .ref q5, .ref q6, .ref q7, .ref q8, .ref q9, .ref q10]))] sz)) (vv_Q G (fun v (u : Unit) => v = none) (fun u => [(q1, .inr (9, [.ref q2, .ref q3, .ref q4, .ref q5, .ref q6, .ref q7, .ref q8, .ref q9, .ref q10]))]) (va_A [(q1, .inr (9, [.ref q2, .ref q3, .ref q4, .ref q5, .ref q6, .ref q7, .ref q8, .ref q9, .ref q10]))] sz)) 0 0 (va_A [(q1, .inr (9, [.ref q2, .ref q3, .ref q4, .ref q5, .ref q6, .ref q7, .ref q8, .ref q9, .ref q10]))] sz) := by
  refine vv_start hf (by decide) (Nat.le_of_ble_eq_true rfl) ?_
  intro p e s m below meth c A C hnm
  refine vv_iload_n C 1 dX10_needParts_0 rfl rfl ?_
  refine vv_iconst (v := zI (1)) C dX10_needParts_1 rfl ?_
  refine vv_icmp_ne (tgt := 15) C dX10_needParts_2 (by decide) (by omega) (by omega) (fun h => ?_) (fun h => by exfalso; omega)
  refine vv_iload_n C 1 dX10_needParts_15 rfl rfl ?_
  refine vv_iconst (v := zI (2)) C dX10_needParts_16 rfl ?_
  refine vv_icmp_lt (tgt := 30) C dX10_needParts_17 (by decide) (by omega) (by omega) (fun h => by exfalso; omega) (fun h => ?_)
  refine vv_iload_n C 1 dX10_needParts_20 rfl rfl ?_
  refine vv_iconst (v := zI (5)) C dX10_needParts_21 rfl ?_
  refine vv_icmp_gt (tgt := 30) C dX10_needParts_22 (by decide) (by omega) (by omega) (fun h => ?_) (fun h => by exfalso; omega)
  refine vv_iload_n C 1 dX10_needParts_30 rfl rfl ?_
  refine vv_iconst (v := zI (3)) C dX10_needParts_31 rfl ?_
  refine vv_icmp_lt (tgt := 45) C dX10_needParts_32 (by decide) (by omega) (by omega) (fun h => by exfalso; omega) (fun h => ?_)
  refine vv_iload_n C 1 dX10_needParts_35 rfl rfl ?_
  refine vv_iconst (v := zI (5)) C dX10_needParts_36 rfl ?_
  refine vv_icmp_gt (tgt := 45) C dX10_needParts_37 (by decide) (by omega) (by omega) (fun h => ?_) (fun h => by exfalso; omega)
  exact vv_vret C (()) rfl [0] rfl rfl ⟨Nat.le_of_ble_eq_true rfl, Nat.le_of_ble_eq_true rfl⟩ dX10_needParts_45
set_option maxHeartbeats 4000000 in
set_option maxRecDepth 100000 in
theorem k357_X10_formula (l : Launch) (hf : l.stackTraces = false) (G : vv_G) (q1 q2 q3 q4 q5 q6 q7 q8 q9 q10 : Nat) (v11 : Int) (rv1 : -2147483648 ≤ v11 ∧ v11 < 2147483648) (v12 : Int) (rv2 : -2147483648 ≤ v12 ∧ v12 < 2147483648) (v13 : Int) (rv3 : -2147483648 ≤ v13 ∧ v13 < 2147483648) (g0 : 6 ≤ v11) : ∀ sz, vx_Met l yX10_formula (Cond.code yX10_formula cX10_formula 5 (some .int) :: gT) ({ frames := 6, cells := 1, slots := 6, locals := 90 } : Room) (va_Pc [.ref q1, .int (zI (v11)), .int (zI (v12)), .int (zI (v13))] (vv_I G [(q1, .inr (9, [.ref q2, .ref q3, .ref q4, .ref q5, .ref q6, .ref q7, .ref q8, .ref q9, .ref q10]))] sz)) (vv_Q G (fun v (u : Unit) => False) (fun u => []) (va_A [(q1, .inr (9, [.ref q2, .ref q3, .ref q4, .ref q5, .ref q6, .ref q7, .ref q8, .ref q9, .ref q10]))] sz)) (vv_XC G (fun E (u : Unit) => E = "java/lang/IllegalArgumentException") (fun u => [(q1, .inr (9, [.ref q2, .ref q3, .ref q4, .ref q5, .ref q6, .ref q7, .ref q8, .ref q9, .ref q10]))]) (va_A [(q1, .inr (9, [.ref q2, .ref q3, .ref q4, .ref q5, .ref q6, .ref q7, .ref q8, .ref q9, .ref q10]))] sz)) 1 6 (va_A [(q1, .inr (9, [.ref q2, .ref q3, .ref q4, .ref q5, .ref q6, .ref q7, .ref q8, .ref q9, .ref q10]))] sz) := by
  refine vv_startX hf (by decide) (Nat.le_of_ble_eq_true rfl) ?_
  intro p e s m below meth c A C hnm htab
  refine vv_aload_n C 0 dX10_formula_0 rfl rfl ?_
  refine vv_iload_n C 1 dX10_formula_1 rfl rfl ?_
  refine vv_iload_n C 2 dX10_formula_2 rfl rfl ?_
  refine vv_iload_n C 3 dX10_formula_3 rfl rfl ?_
  refine vv_callV (As := [.int (zI (v11)), .int (zI (v12)), .int (zI (v13))]) (rest := []) (wr := []) (ws2 := fun u => [(q1, .inr (9, [.ref q2, .ref q3, .ref q4, .ref q5, .ref q6, .ref q7, .ref q8, .ref q9, .ref q10]))]) (isC := [0]) (isR := []) (isP := [0]) C (vv_cutI rfl rfl rfl rfl (by decide) (fun _ => rfl) rfl) (k356_X10_needParts l hf G q1 q2 q3 q4 q5 q6 q7 q8 q9 q10 (v11) rv1 (v12) rv2 (v13) rv3 (by omega)) yy_X10_needParts (vv_rmI rfl rfl (Nat.le_of_ble_eq_true rfl) (Nat.le_of_ble_eq_true rfl) (Nat.le_of_ble_eq_true rfl) (Nat.le_of_ble_eq_true rfl)) wm960 wm962 ws_selects_Latticework_Latticework_needParts__III_V_Latticework_needParts__III_V 0 rfl rfl rfl rfl (Nat.le_of_ble_eq_true rfl) dX10_formula_4 (fun v u hp => ?_)
  obtain rfl := hp
  refine vv_nrm (ws1 := [(q1, .inr (9, [.ref q2, .ref q3, .ref q4, .ref q5, .ref q6, .ref q7, .ref q8, .ref q9, .ref q10]))]) (st1 := []) rfl rfl ?_
  refine vv_iload_n C 1 dX10_formula_7 rfl rfl ?_
  refine vv_if_lt (tgt := 16) C dX10_formula_8 (by decide) (by omega) (fun h => by exfalso; omega) (fun h => ?_)
  refine vv_iload_n C 1 dX10_formula_11 rfl rfl ?_
  refine vv_iconst (v := zI (5)) C dX10_formula_12 rfl ?_
  refine vv_icmp_le (tgt := 26) C dX10_formula_13 (by decide) (by omega) (by omega) (fun h => by exfalso; omega) (fun h => ?_)
  exact vv_throw C tw_X10_74_209 htab dX10_formula_16 dX10_formula_19 dX10_formula_20 dX10_formula_22 dX10_formula_25 ⟨Nat.le_of_ble_eq_true rfl, Nat.le_of_ble_eq_true rfl, Nat.le_of_ble_eq_true rfl, Nat.le_of_ble_eq_true rfl, Nat.le_of_ble_eq_true rfl, Nat.le_of_ble_eq_true rfl⟩ () rfl [0] rfl rfl
set_option maxHeartbeats 4000000 in
set_option maxRecDepth 100000 in
theorem k358_L_formula (l : Launch) (hf : l.stackTraces = false) (G : vv_G) (q1 q2 q3 q4 q5 q6 q7 q8 q9 q10 q11 : Nat) (v12 : Int) (rv1 : -2147483648 ≤ v12 ∧ v12 < 2147483648) (v13 : Int) (rv2 : -2147483648 ≤ v13 ∧ v13 < 2147483648) (v14 : Int) (rv3 : -2147483648 ≤ v14 ∧ v14 < 2147483648) (g0 : 6 ≤ v12) : ∀ sz, Met l yL_formula (Cond.codeWith yL_formula cL_formula 6 (some .int) [(0, 12, 15, 21), (0, 12, 19, 13), (0, 12, 23, 15)] :: gT) ({ frames := 7, cells := 1, slots := 6, locals := 114 } : Room) (va_Pc [.ref q1, .int (zI (v12)), .int (zI (v13)), .int (zI (v14)), .ref q11] (vv_I G [(q1, .inr (9, [.ref q2, .ref q3, .ref q4, .ref q5, .ref q6, .ref q7, .ref q8, .ref q9, .ref q10]))] sz)) (vv_Q G (fun v (u : Unit) => v = some (.int (zI (2)))) (fun u => [(q1, .inr (9, [.ref q2, .ref q3, .ref q4, .ref q5, .ref q6, .ref q7, .ref q8, .ref q9, .ref q10]))]) (va_A [(q1, .inr (9, [.ref q2, .ref q3, .ref q4, .ref q5, .ref q6, .ref q7, .ref q8, .ref q9, .ref q10]))] sz)) 1 6 (va_A [(q1, .inr (9, [.ref q2, .ref q3, .ref q4, .ref q5, .ref q6, .ref q7, .ref q8, .ref q9, .ref q10]))] sz) := by
  refine vv_startW hf (by decide) (Nat.le_of_ble_eq_true rfl) ?_
  intro p e s m below meth c A C hnm htab
  refine vv_aload C 4 dL_formula_0 rfl ?_
  refine vv_iconst (v := zI (0)) C dL_formula_2 rfl ?_
  refine vv_aload_n C 0 dL_formula_3 rfl rfl ?_
  refine vv_iload_n C 1 dL_formula_4 rfl rfl ?_
  refine vv_iload_n C 2 dL_formula_5 rfl rfl ?_
  refine vv_iload_n C 3 dL_formula_6 rfl rfl ?_
  refine vv_callVx (As := [.int (zI (v12)), .int (zI (v13)), .int (zI (v14))]) (rest := [.int (zI (0)), .ref q11]) (wr := []) (ws3 := fun u => [(q1, .inr (9, [.ref q2, .ref q3, .ref q4, .ref q5, .ref q6, .ref q7, .ref q8, .ref q9, .ref q10]))]) (isC := [0]) (isR := []) (isX := [0]) (ws2 := fun _ => []) (isP := []) C (vv_cutI rfl rfl rfl rfl (by decide) (fun _ => rfl) rfl) (vv_cutI rfl rfl rfl rfl (by decide) (fun _ => rfl) rfl) (k357_X10_formula l hf G q1 q2 q3 q4 q5 q6 q7 q8 q9 q10 (v12) rv1 (v13) rv2 (v14) rv3 (by omega)) yy_X10_formula (vv_rmI rfl rfl (Nat.le_of_ble_eq_true rfl) (Nat.le_of_ble_eq_true rfl) (Nat.le_of_ble_eq_true rfl) (Nat.le_of_ble_eq_true rfl)) wm956 wm957 wm958 0 rfl rfl rfl rfl (Nat.le_of_ble_eq_true rfl) dL_formula_7 (fun E9 u hp => ?_) (fun v u hp => hp.elim)
  obtain rfl := hp
  refine vv_catch C htab [⟨0, 12, 15, 21⟩] ⟨0, 12, 19, 13⟩ [⟨0, 12, 23, 15⟩] rfl (by intro z hz; simp only [List.mem_cons, List.not_mem_nil, or_false] at hz; obtain rfl := hz; exact Or.inr ⟨by decide, "java/lang/IndexOutOfBoundsException", wm645, by decide +kernel⟩) rfl (by decide) wm541 (by decide +kernel) (fun qe98 => ?_)
  refine vv_astore (loc1 := [(5, .ref qe98), (0, .ref q1), (1, .int (zI (v12))), (2, .int (zI (v13))), (3, .int (zI (v14))), (4, .ref q11)]) C dL_formula_19 (by decide) rfl ?_
  refine vv_iconst (v := zI (2)) C dL_formula_21 rfl ?_
  exact vv_iret C (()) rfl [0] rfl rfl ⟨Nat.le_of_ble_eq_true rfl, Nat.le_of_ble_eq_true rfl⟩ dL_formula_22
set_option maxHeartbeats 4000000 in
set_option maxRecDepth 100000 in
theorem k359_X13_is (l : Launch) (hf : l.stackTraces = false) (G : vv_G)  (v1 : Int) (rv1 : -2147483648 ≤ v1 ∧ v1 < 2147483648) (g0 : 6 ≤ v1) : ∀ sz, Met l yX13_is (Cond.code yX13_is cX13_is 3 (some .boolean) :: gT) ({ frames := 0, cells := 0, slots := 0, locals := 0 } : Room) (va_Pc [.int (zI (v1)), .int (zI (2)), .int (zI (5))] (vv_I G [] sz)) (vv_Q G (fun v (u : Unit) => v = some (.int (zI (0)))) (fun u => []) (va_A [] sz)) 0 0 (va_A [] sz) := by
  refine vv_start hf (by decide) (Nat.le_of_ble_eq_true rfl) ?_
  intro p e s m below meth c A C hnm
  refine vv_iload_n C 0 dX13_is_0 rfl rfl ?_
  refine vv_iload_n C 1 dX13_is_1 rfl rfl ?_
  refine vv_icmp_lt (tgt := 14) C dX13_is_2 (by decide) (by omega) (by omega) (fun h => by exfalso; omega) (fun h => ?_)
  refine vv_iload_n C 0 dX13_is_5 rfl rfl ?_
  refine vv_iload_n C 2 dX13_is_6 rfl rfl ?_
  refine vv_icmp_gt (tgt := 14) C dX13_is_7 (by decide) (by omega) (by omega) (fun h => ?_) (fun h => by exfalso; omega)
  refine vv_iconst (v := zI (0)) C dX13_is_14 rfl ?_
  exact vv_zret C (by decide) (()) rfl [] rfl rfl ⟨Nat.le_of_ble_eq_true rfl, Nat.le_of_ble_eq_true rfl⟩ dX13_is_15
set_option maxHeartbeats 4000000 in
set_option maxRecDepth 100000 in
theorem k360_X13_formula (l : Launch) (hf : l.stackTraces = false) (G : vv_G) (q1 q2 q3 q4 q5 q6 q7 : Nat) (v8 : Int) (rv1 : -2147483648 ≤ v8 ∧ v8 < 2147483648) (v9 : Int) (rv2 : -2147483648 ≤ v9 ∧ v9 < 2147483648) (v10 : Int) (rv3 : -2147483648 ≤ v10 ∧ v10 < 2147483648) (g0 : 6 ≤ v8) : ∀ sz, Met l yX13_formula (Cond.code yX13_formula cX13_formula 8 (some .int) :: gT) ({ frames := 1, cells := 0, slots := 0, locals := 22 } : Room) (va_Pc [.ref q1, .int (zI (v8)), .int (zI (v9)), .int (zI (v10))] (vv_I G [(q1, .inr (12, [.int (zI (0)), .ref q2, .ref q3, .ref q4, .ref q5, .ref q6, .ref q7, .long (0 : Int64)]))] sz)) (vv_Q G (fun v (u : Unit) => v = some (.int (zI (0)))) (fun u => [(q1, .inr (12, [.int (zI (2)), .ref q2, .ref q3, .ref q4, .ref q5, .ref q6, .ref q7, .long (0 : Int64)]))]) (va_A [(q1, .inr (12, [.int (zI (0)), .ref q2, .ref q3, .ref q4, .ref q5, .ref q6, .ref q7, .long (0 : Int64)]))] sz)) 0 0 (va_A [(q1, .inr (12, [.int (zI (0)), .ref q2, .ref q3, .ref q4, .ref q5, .ref q6, .ref q7, .long (0 : Int64)]))] sz) := by
  refine vv_start hf (by decide) (Nat.le_of_ble_eq_true rfl) ?_
  intro p e s m below meth c A C hnm
  refine vv_aload_n C 0 dX13_formula_0 rfl rfl ?_
  refine vv_iconst (v := zI (0)) C dX13_formula_1 rfl ?_
  refine vv_put (ws1 := [(q1, .inr (12, [.int (zI (0)), .ref q2, .ref q3, .ref q4, .ref q5, .ref q6, .ref q7, .long (0 : Int64)]))]) C 0 rfl rfl vi_X13 tyX13_ok nmX13 0 (by decide) wm1127 rfl rfl rfl (Nat.le_of_ble_eq_true rfl) rfl dX13_formula_2 ?_
  refine vv_iload_n C 1 dX13_formula_5 rfl rfl ?_
  refine vv_iconst (v := zI (1)) C dX13_formula_6 rfl ?_
  refine vv_icmp_ne (tgt := 32) C dX13_formula_7 (by decide) (by omega) (by omega) (fun h => ?_) (fun h => by exfalso; omega)
  refine vv_iload_n C 1 dX13_formula_32 rfl rfl ?_
  refine vv_iconst (v := zI (2)) C dX13_formula_33 rfl ?_
  refine vv_iconst (v := zI (5)) C dX13_formula_34 rfl ?_
  refine vv_callS (As := [.int (zI (v8)), .int (zI (2)), .int (zI (5))]) (rest := []) (wr := [(q1, .inr (12, [.int (zI (0)), .ref q2, .ref q3, .ref q4, .ref q5, .ref q6, .ref q7, .long (0 : Int64)]))]) (ws2 := fun u => [(q1, .inr (12, [.int (zI (0)), .ref q2, .ref q3, .ref q4, .ref q5, .ref q6, .ref q7, .long (0 : Int64)]))]) (isC := []) (isR := [0]) (isP := [0]) C (vv_cutI rfl rfl rfl rfl (by decide) (fun _ => rfl) rfl) (k359_X13_is l hf G  (v8) rv1 (by omega)) yy_X13_is (vv_rmI rfl rfl (Nat.le_of_ble_eq_true rfl) (Nat.le_of_ble_eq_true rfl) (Nat.le_of_ble_eq_true rfl) (Nat.le_of_ble_eq_true rfl)) wm1160 wm1161 rfl rfl (Nat.le_of_ble_eq_true rfl) dX13_formula_35 (fun v u hp => ?_)
  obtain rfl := hp
  refine vv_nrm (ws1 := [(q1, .inr (12, [.int (zI (0)), .ref q2, .ref q3, .ref q4, .ref q5, .ref q6, .ref q7, .long (0 : Int64)]))]) (st1 := [.int (zI (0))]) rfl rfl ?_
  refine vv_if_eq (tgt := 68) C dX13_formula_38 (by decide) (by omega) (fun h => ?_) (fun h => by exfalso; omega)
  refine vv_iload_n C 1 dX13_formula_68 rfl rfl ?_
  refine vv_iconst (v := zI (0)) C dX13_formula_69 rfl ?_
  refine vv_iconst (v := zI (5)) C dX13_formula_70 rfl ?_
  refine vv_callS (As := [.int (zI (v8)), .int (zI (0)), .int (zI (5))]) (rest := []) (wr := [(q1, .inr (12, [.int (zI (0)), .ref q2, .ref q3, .ref q4, .ref q5, .ref q6, .ref q7, .long (0 : Int64)]))]) (ws2 := fun u => [(q1, .inr (12, [.int (zI (0)), .ref q2, .ref q3, .ref q4, .ref q5, .ref q6, .ref q7, .long (0 : Int64)]))]) (isC := []) (isR := [0]) (isP := [0]) C (vv_cutI rfl rfl rfl rfl (by decide) (fun _ => rfl) rfl) (k122_X13_is l hf G  (v8) rv1 (by omega)) yy_X13_is (vv_rmI rfl rfl (Nat.le_of_ble_eq_true rfl) (Nat.le_of_ble_eq_true rfl) (Nat.le_of_ble_eq_true rfl) (Nat.le_of_ble_eq_true rfl)) wm1160 wm1161 rfl rfl (Nat.le_of_ble_eq_true rfl) dX13_formula_71 (fun v u hp => ?_)
  obtain rfl := hp
  refine vv_nrm (ws1 := [(q1, .inr (12, [.int (zI (0)), .ref q2, .ref q3, .ref q4, .ref q5, .ref q6, .ref q7, .long (0 : Int64)]))]) (st1 := [.int (zI (0))]) rfl rfl ?_
  refine vv_if_eq (tgt := 90) C dX13_formula_74 (by decide) (by omega) (fun h => ?_) (fun h => by exfalso; omega)
  refine vv_aload_n C 0 dX13_formula_90 rfl rfl ?_
  refine vv_iconst (v := zI (2)) C dX13_formula_91 rfl ?_
  refine vv_callV (As := [.int (zI (2))]) (rest := []) (wr := []) (ws2 := fun u => [(q1, .inr (12, [.int (zI (2)), .ref q2, .ref q3, .ref q4, .ref q5, .ref q6, .ref q7, .long (0 : Int64)]))]) (isC := [0]) (isR := []) (isP := [0]) C (vv_cutI rfl rfl rfl rfl (by decide) (fun _ => rfl) rfl) (k46_X13_refuse l hf G q1 q2 q3 q4 q5 q6 q7) yy_X13_refuse (vv_rmI rfl rfl (Nat.le_of_ble_eq_true rfl) (Nat.le_of_ble_eq_true rfl) (Nat.le_of_ble_eq_true rfl) (Nat.le_of_ble_eq_true rfl)) wm1163 wm1165 ws_selects_LatticeworkModel_LatticeworkModel_refuse__I_I_LatticeworkModel_refuse__I_I 0 rfl rfl rfl rfl (Nat.le_of_ble_eq_true rfl) dX13_formula_92 (fun v u hp => ?_)
  obtain rfl := hp
  refine vv_nrm (ws1 := [(q1, .inr (12, [.int (zI (2)), .ref q2, .ref q3, .ref q4, .ref q5, .ref q6, .ref q7, .long (0 : Int64)]))]) (st1 := [.int (zI (0))]) rfl rfl ?_
  exact vv_iret C (()) rfl [0] rfl rfl ⟨Nat.le_of_ble_eq_true rfl, Nat.le_of_ble_eq_true rfl⟩ dX13_formula_95
set_option maxHeartbeats 4000000 in
set_option maxRecDepth 100000 in
theorem k361_X10_formulas (l : Launch) (hf : l.stackTraces = false) (G : vv_G) (q1 q2 q3 q4 q5 q6 q7 q8 q9 q10 q11 q12 q13 q14 : Nat) : ∀ sz, Met l yX10_formulas (Cond.code yX10_formulas cX10_formulas 1 (some .int) :: gT) ({ frames := 0, cells := 0, slots := 0, locals := 0 } : Room) (va_Pc [.ref q1] (vv_I G [(q1, .inr (9, [.ref q2, .ref q3, .ref q4, .ref q5, .ref q6, .ref q7, .ref q8, .ref q9, .ref q10])), (q8, .inr (1, [.ref q11, .ref q12, .ref q13, .ref q14, .int (zI (0))]))] sz)) (vv_Q G (fun v (u : Unit) => v = some (.int (zI (0)))) (fun u => [(q1, .inr (9, [.ref q2, .ref q3, .ref q4, .ref q5, .ref q6, .ref q7, .ref q8, .ref q9, .ref q10])), (q8, .inr (1, [.ref q11, .ref q12, .ref q13, .ref q14, .int (zI (0))]))]) (va_A [(q1, .inr (9, [.ref q2, .ref q3, .ref q4, .ref q5, .ref q6, .ref q7, .ref q8, .ref q9, .ref q10])), (q8, .inr (1, [.ref q11, .ref q12, .ref q13, .ref q14, .int (zI (0))]))] sz)) 0 0 (va_A [(q1, .inr (9, [.ref q2, .ref q3, .ref q4, .ref q5, .ref q6, .ref q7, .ref q8, .ref q9, .ref q10])), (q8, .inr (1, [.ref q11, .ref q12, .ref q13, .ref q14, .int (zI (0))]))] sz) := by
  refine vv_start hf (by decide) (Nat.le_of_ble_eq_true rfl) ?_
  intro p e s m below meth c A C hnm
  refine vv_aload_n C 0 dX10_formulas_0 rfl rfl ?_
  refine vv_get C 0 rfl rfl vi_X10 6 (by decide) wm330 rfl dX10_formulas_1 ?_
  refine vv_get C 1 rfl rfl vi_X1 4 (by decide) wm228 rfl dX10_formulas_4 ?_
  exact vv_iret C (()) rfl [0, 1] rfl rfl ⟨Nat.le_of_ble_eq_true rfl, Nat.le_of_ble_eq_true rfl⟩ dX10_formulas_7
set_option maxHeartbeats 4000000 in
set_option maxRecDepth 100000 in
theorem k362_X13_formulas (l : Launch) (hf : l.stackTraces = false) (G : vv_G) (q1 q2 q3 q4 q5 q6 q7 : Nat) : ∀ sz, Met l yX13_formulas (Cond.code yX13_formulas cX13_formulas 1 (some .int) :: gT) ({ frames := 1, cells := 0, slots := 0, locals := 20 } : Room) (va_Pc [.ref q1] (vv_I G [(q1, .inr (12, [.int (zI (0)), .ref q2, .ref q3, .ref q4, .ref q5, .ref q6, .ref q7, .long (0 : Int64)])), (q3, .inr (13, [.int (zI (0)), .ref (G.2.2 0), .int (zI (0))]))] sz)) (vv_Q G (fun v (u : Unit) => v = some (.int (zI (0)))) (fun u => [(q1, .inr (12, [.int (zI (0)), .ref q2, .ref q3, .ref q4, .ref q5, .ref q6, .ref q7, .long (0 : Int64)])), (q3, .inr (13, [.int (zI (0)), .ref (G.2.2 0), .int (zI (0))]))]) (va_A [(q1, .inr (12, [.int (zI (0)), .ref q2, .ref q3, .ref q4, .ref q5, .ref q6, .ref q7, .long (0 : Int64)])), (q3, .inr (13, [.int (zI (0)), .ref (G.2.2 0), .int (zI (0))]))] sz)) 0 0 (va_A [(q1, .inr (12, [.int (zI (0)), .ref q2, .ref q3, .ref q4, .ref q5, .ref q6, .ref q7, .long (0 : Int64)])), (q3, .inr (13, [.int (zI (0)), .ref (G.2.2 0), .int (zI (0))]))] sz) := by
  refine vv_start hf (by decide) (Nat.le_of_ble_eq_true rfl) ?_
  intro p e s m below meth c A C hnm
  refine vv_aload_n C 0 dX13_formulas_0 rfl rfl ?_
  refine vv_iconst (v := zI (0)) C dX13_formulas_1 rfl ?_
  refine vv_put (ws1 := [(q1, .inr (12, [.int (zI (0)), .ref q2, .ref q3, .ref q4, .ref q5, .ref q6, .ref q7, .long (0 : Int64)])), (q3, .inr (13, [.int (zI (0)), .ref (G.2.2 0), .int (zI (0))]))]) C 0 rfl rfl vi_X13 tyX13_ok nmX13 0 (by decide) wm1127 rfl rfl rfl (Nat.le_of_ble_eq_true rfl) rfl dX13_formulas_2 ?_
  refine vv_aload_n C 0 dX13_formulas_5 rfl rfl ?_
  refine vv_get C 0 rfl rfl vi_X13 2 (by decide) wm1129 rfl dX13_formulas_6 ?_
  refine vv_callV (As := []) (rest := []) (wr := [(q1, .inr (12, [.int (zI (0)), .ref q2, .ref q3, .ref q4, .ref q5, .ref q6, .ref q7, .long (0 : Int64)]))]) (ws2 := fun u => [(q1, .inr (12, [.int (zI (0)), .ref q2, .ref q3, .ref q4, .ref q5, .ref q6, .ref q7, .long (0 : Int64)])), (q3, .inr (13, [.int (zI (0)), .ref (G.2.2 0), .int (zI (0))]))]) (isC := [1]) (isR := [0]) (isP := [0, 1]) C (vv_cutI rfl rfl rfl rfl (by decide) (fun _ => rfl) rfl) (k29_Jx4a65c_size_8abf5 l hf G q3) yy_Jx4a65c_size_8abf5 (vv_rmI rfl rfl (Nat.le_of_ble_eq_true rfl) (Nat.le_of_ble_eq_true rfl) (Nat.le_of_ble_eq_true rfl) (Nat.le_of_ble_eq_true rfl)) wm1175 wm1176 wm1177 0 rfl rfl rfl rfl (Nat.le_of_ble_eq_true rfl) dX13_formulas_9 (fun v u hp => ?_)
  obtain rfl := hp
  refine vv_nrm (ws1 := [(q1, .inr (12, [.int (zI (0)), .ref q2, .ref q3, .ref q4, .ref q5, .ref q6, .ref q7, .long (0 : Int64)])), (q3, .inr (13, [.int (zI (0)), .ref (G.2.2 0), .int (zI (0))]))]) (st1 := [.int (zI (0))]) rfl rfl ?_
  exact vv_iret C (()) rfl [0, 1] rfl rfl ⟨Nat.le_of_ble_eq_true rfl, Nat.le_of_ble_eq_true rfl⟩ dX13_formulas_12
set_option maxHeartbeats 4000000 in
set_option maxRecDepth 100000 in
theorem k363_X10_needFormula (l : Launch) (hf : l.stackTraces = false) (G : vv_G) (q1 q2 q3 q4 q5 q6 q7 q8 q9 q10 : Nat) (v11 : Int) (rv1 : -2147483648 ≤ v11 ∧ v11 < 2147483648) (g0 : v11 ≤ -1) : ∀ sz, vx_Met l yX10_needFormula (Cond.code yX10_needFormula cX10_needFormula 2 none :: gT) ({ frames := 6, cells := 1, slots := 6, locals := 90 } : Room) (va_Pc [.ref q1, .int (zI (v11))] (vv_I G [(q1, .inr (9, [.ref q2, .ref q3, .ref q4, .ref q5, .ref q6, .ref q7, .ref q8, .ref q9, .ref q10]))] sz)) (vv_Q G (fun v (u : Unit) => False) (fun u => []) (va_A [(q1, .inr (9, [.ref q2, .ref q3, .ref q4, .ref q5, .ref q6, .ref q7, .ref q8, .ref q9, .ref q10]))] sz)) (vv_XC G (fun E (u : Unit) => E = "java/lang/IndexOutOfBoundsException") (fun u => [(q1, .inr (9, [.ref q2, .ref q3, .ref q4, .ref q5, .ref q6, .ref q7, .ref q8, .ref q9, .ref q10]))]) (va_A [(q1, .inr (9, [.ref q2, .ref q3, .ref q4, .ref q5, .ref q6, .ref q7, .ref q8, .ref q9, .ref q10]))] sz)) 1 6 (va_A [(q1, .inr (9, [.ref q2, .ref q3, .ref q4, .ref q5, .ref q6, .ref q7, .ref q8, .ref q9, .ref q10]))] sz) := by
  refine vv_startX hf (by decide) (Nat.le_of_ble_eq_true rfl) ?_
  intro p e s m below meth c A C hnm htab
  refine vv_iload_n C 1 dX10_needFormula_0 rfl rfl ?_
  refine vv_if_lt (tgt := 15) C dX10_needFormula_1 (by decide) (by omega) (fun h => ?_) (fun h => by exfalso; omega)
  exact vv_throwW C tw_X10_125_292 htab dX10_needFormula_15 dX10_needFormula_18 dX10_needFormula_19 dX10_needFormula_22 dX10_needFormula_25 ⟨Nat.le_of_ble_eq_true rfl, Nat.le_of_ble_eq_true rfl, Nat.le_of_ble_eq_true rfl, Nat.le_of_ble_eq_true rfl, Nat.le_of_ble_eq_true rfl, Nat.le_of_ble_eq_true rfl⟩ () rfl [0] rfl rfl
set_option maxHeartbeats 4000000 in
set_option maxRecDepth 100000 in
theorem k364_X10_isProved (l : Launch) (hf : l.stackTraces = false) (G : vv_G) (q1 q2 q3 q4 q5 q6 q7 q8 q9 q10 : Nat) (v11 : Int) (rv1 : -2147483648 ≤ v11 ∧ v11 < 2147483648) (g0 : v11 ≤ -1) : ∀ sz, vx_Met l yX10_isProved (Cond.code yX10_isProved cX10_isProved 2 (some .boolean) :: gT) ({ frames := 7, cells := 1, slots := 6, locals := 111 } : Room) (va_Pc [.ref q1, .int (zI (v11))] (vv_I G [(q1, .inr (9, [.ref q2, .ref q3, .ref q4, .ref q5, .ref q6, .ref q7, .ref q8, .ref q9, .ref q10]))] sz)) (vv_Q G (fun v (u : Unit) => False) (fun u => []) (va_A [(q1, .inr (9, [.ref q2, .ref q3, .ref q4, .ref q5, .ref q6, .ref q7, .ref q8, .ref q9, .ref q10]))] sz)) (vv_XC G (fun E (u : Unit) => E = "java/lang/IndexOutOfBoundsException") (fun u => [(q1, .inr (9, [.ref q2, .ref q3, .ref q4, .ref q5, .ref q6, .ref q7, .ref q8, .ref q9, .ref q10]))]) (va_A [(q1, .inr (9, [.ref q2, .ref q3, .ref q4, .ref q5, .ref q6, .ref q7, .ref q8, .ref q9, .ref q10]))] sz)) 1 6 (va_A [(q1, .inr (9, [.ref q2, .ref q3, .ref q4, .ref q5, .ref q6, .ref q7, .ref q8, .ref q9, .ref q10]))] sz) := by
  refine vv_startX hf (by decide) (Nat.le_of_ble_eq_true rfl) ?_
  intro p e s m below meth c A C hnm htab
  refine vv_aload_n C 0 dX10_isProved_0 rfl rfl ?_
  refine vv_iload_n C 1 dX10_isProved_1 rfl rfl ?_
  refine vv_callVx (As := [.int (zI (v11))]) (rest := []) (wr := []) (ws3 := fun u => [(q1, .inr (9, [.ref q2, .ref q3, .ref q4, .ref q5, .ref q6, .ref q7, .ref q8, .ref q9, .ref q10]))]) (isC := [0]) (isR := []) (isX := [0]) (ws2 := fun _ => []) (isP := []) C (vv_cutI rfl rfl rfl rfl (by decide) (fun _ => rfl) rfl) (vv_cutI rfl rfl rfl rfl (by decide) (fun _ => rfl) rfl) (k363_X10_needFormula l hf G q1 q2 q3 q4 q5 q6 q7 q8 q9 q10 (v11) rv1 (by omega)) yy_X10_needFormula (vv_rmI rfl rfl (Nat.le_of_ble_eq_true rfl) (Nat.le_of_ble_eq_true rfl) (Nat.le_of_ble_eq_true rfl) (Nat.le_of_ble_eq_true rfl)) wm964 wm966 ws_selects_Latticework_Latticework_needFormula__I_V_Latticework_needFormula__I_V 0 rfl rfl rfl rfl (Nat.le_of_ble_eq_true rfl) dX10_isProved_2 (fun E9 u hp => ?_) (fun v u hp => hp.elim)
  obtain rfl := hp
  exact vv_out C htab ⟨Nat.le_of_ble_eq_true rfl, Nat.le_of_ble_eq_true rfl⟩ () rfl [0] rfl rfl
set_option maxHeartbeats 4000000 in
set_option maxRecDepth 100000 in
theorem k365_L_isProved (l : Launch) (hf : l.stackTraces = false) (G : vv_G) (q1 q2 q3 q4 q5 q6 q7 q8 q9 q10 q11 : Nat) (v12 : Int) (rv1 : -2147483648 ≤ v12 ∧ v12 < 2147483648) (g0 : v12 ≤ -1) : ∀ sz, Met l yL_isProved (Cond.codeWith yL_isProved cL_isProved 4 (some .int) [(0, 16, 19, 21)] :: gT) ({ frames := 8, cells := 1, slots := 6, locals := 132 } : Room) (va_Pc [.ref q1, .int (zI (v12)), .ref q11] (vv_I G [(q1, .inr (9, [.ref q2, .ref q3, .ref q4, .ref q5, .ref q6, .ref q7, .ref q8, .ref q9, .ref q10]))] sz)) (vv_Q G (fun v (u : Unit) => v = some (.int (zI (1)))) (fun u => [(q1, .inr (9, [.ref q2, .ref q3, .ref q4, .ref q5, .ref q6, .ref q7, .ref q8, .ref q9, .ref q10]))]) (va_A [(q1, .inr (9, [.ref q2, .ref q3, .ref q4, .ref q5, .ref q6, .ref q7, .ref q8, .ref q9, .ref q10]))] sz)) 1 6 (va_A [(q1, .inr (9, [.ref q2, .ref q3, .ref q4, .ref q5, .ref q6, .ref q7, .ref q8, .ref q9, .ref q10]))] sz) := by
  refine vv_startW hf (by decide) (Nat.le_of_ble_eq_true rfl) ?_
  intro p e s m below meth c A C hnm htab
  refine vv_aload_n C 2 dL_isProved_0 rfl rfl ?_
  refine vv_iconst (v := zI (0)) C dL_isProved_1 rfl ?_
  refine vv_aload_n C 0 dL_isProved_2 rfl rfl ?_
  refine vv_iload_n C 1 dL_isProved_3 rfl rfl ?_
  refine vv_callVx (As := [.int (zI (v12))]) (rest := [.int (zI (0)), .ref q11]) (wr := []) (ws3 := fun u => [(q1, .inr (9, [.ref q2, .ref q3, .ref q4, .ref q5, .ref q6, .ref q7, .ref q8, .ref q9, .ref q10]))]) (isC := [0]) (isR := []) (isX := [0]) (ws2 := fun _ => []) (isP := []) C (vv_cutI rfl rfl rfl rfl (by decide) (fun _ => rfl) rfl) (vv_cutI rfl rfl rfl rfl (by decide) (fun _ => rfl) rfl) (k364_X10_isProved l hf G q1 q2 q3 q4 q5 q6 q7 q8 q9 q10 (v12) rv1 (by omega)) yy_X10_isProved (vv_rmI rfl rfl (Nat.le_of_ble_eq_true rfl) (Nat.le_of_ble_eq_true rfl) (Nat.le_of_ble_eq_true rfl) (Nat.le_of_ble_eq_true rfl)) wm989 wm990 wm991 0 rfl rfl rfl rfl (Nat.le_of_ble_eq_true rfl) dL_isProved_4 (fun E9 u hp => ?_) (fun v u hp => hp.elim)
  obtain rfl := hp
  refine vv_catch C htab [] ⟨0, 16, 19, 21⟩ [] rfl (fun z hz => nomatch hz) rfl (by decide) wm645 (by decide +kernel) (fun qe99 => ?_)
  refine vv_astore_n (loc1 := [(3, .ref qe99), (0, .ref q1), (1, .int (zI (v12))), (2, .ref q11)]) C dL_isProved_19 rfl (by decide) rfl ?_
  refine vv_iconst (v := zI (1)) C dL_isProved_20 rfl ?_
  exact vv_iret C (()) rfl [0] rfl rfl ⟨Nat.le_of_ble_eq_true rfl, Nat.le_of_ble_eq_true rfl⟩ dL_isProved_21
set_option maxHeartbeats 4000000 in
set_option maxRecDepth 100000 in
theorem k366_X13_isFormula (l : Launch) (hf : l.stackTraces = false) (G : vv_G) (q1 q2 q3 q4 q5 q6 q7 : Nat) (v8 : Int) (rv1 : -2147483648 ≤ v8 ∧ v8 < 2147483648) (g0 : v8 ≤ -1) : ∀ sz, Met l yX13_isFormula (Cond.code yX13_isFormula cX13_isFormula 2 (some .boolean) :: gT) ({ frames := 1, cells := 0, slots := 0, locals := 22 } : Room) (va_Pc [.ref q1, .int (zI (v8))] (vv_I G [(q1, .inr (12, [.int (zI (0)), .ref q2, .ref q3, .ref q4, .ref q5, .ref q6, .ref q7, .long (0 : Int64)])), (q3, .inr (13, [.int (zI (0)), .ref (G.2.2 0), .int (zI (0))]))] sz)) (vv_Q G (fun v (u : Unit) => v = some (.int (zI (0)))) (fun u => [(q1, .inr (12, [.int (zI (0)), .ref q2, .ref q3, .ref q4, .ref q5, .ref q6, .ref q7, .long (0 : Int64)])), (q3, .inr (13, [.int (zI (0)), .ref (G.2.2 0), .int (zI (0))]))]) (va_A [(q1, .inr (12, [.int (zI (0)), .ref q2, .ref q3, .ref q4, .ref q5, .ref q6, .ref q7, .long (0 : Int64)])), (q3, .inr (13, [.int (zI (0)), .ref (G.2.2 0), .int (zI (0))]))] sz)) 0 0 (va_A [(q1, .inr (12, [.int (zI (0)), .ref q2, .ref q3, .ref q4, .ref q5, .ref q6, .ref q7, .long (0 : Int64)])), (q3, .inr (13, [.int (zI (0)), .ref (G.2.2 0), .int (zI (0))]))] sz) := by
  refine vv_start hf (by decide) (Nat.le_of_ble_eq_true rfl) ?_
  intro p e s m below meth c A C hnm
  refine vv_iload_n C 1 dX13_isFormula_0 rfl rfl ?_
  refine vv_iconst (v := zI (0)) C dX13_isFormula_1 rfl ?_
  refine vv_aload_n C 0 dX13_isFormula_2 rfl rfl ?_
  refine vv_get C 0 rfl rfl vi_X13 2 (by decide) wm1129 rfl dX13_isFormula_3 ?_
  refine vv_callV (As := []) (rest := [.int (zI (0)), .int (zI (v8))]) (wr := [(q1, .inr (12, [.int (zI (0)), .ref q2, .ref q3, .ref q4, .ref q5, .ref q6, .ref q7, .long (0 : Int64)]))]) (ws2 := fun u => [(q1, .inr (12, [.int (zI (0)), .ref q2, .ref q3, .ref q4, .ref q5, .ref q6, .ref q7, .long (0 : Int64)])), (q3, .inr (13, [.int (zI (0)), .ref (G.2.2 0), .int (zI (0))]))]) (isC := [1]) (isR := [0]) (isP := [0, 1]) C (vv_cutI rfl rfl rfl rfl (by decide) (fun _ => rfl) rfl) (k29_Jx4a65c_size_8abf5 l hf G q3) yy_Jx4a65c_size_8abf5 (vv_rmI rfl rfl (Nat.le_of_ble_eq_true rfl) (Nat.le_of_ble_eq_true rfl) (Nat.le_of_ble_eq_true rfl) (Nat.le_of_ble_eq_true rfl)) wm1175 wm1176 wm1177 0 rfl rfl rfl rfl (Nat.le_of_ble_eq_true rfl) dX13_isFormula_6 (fun v u hp => ?_)
  obtain rfl := hp
  refine vv_nrm (ws1 := [(q1, .inr (12, [.int (zI (0)), .ref q2, .ref q3, .ref q4, .ref q5, .ref q6, .ref q7, .long (0 : Int64)])), (q3, .inr (13, [.int (zI (0)), .ref (G.2.2 0), .int (zI (0))]))]) (st1 := [.int (zI (0)), .int (zI (0)), .int (zI (v8))]) rfl rfl ?_
  refine vv_iconst (v := zI (1)) C dX13_isFormula_9 rfl ?_
  refine vv_isub (z := zI (-1)) C dX13_isFormula_10 (by rw [zI_sub]; exact zI_c (by omega)) ?_
  refine vv_callS (As := [.int (zI (v8)), .int (zI (0)), .int (zI (-1))]) (rest := []) (wr := [(q1, .inr (12, [.int (zI (0)), .ref q2, .ref q3, .ref q4, .ref q5, .ref q6, .ref q7, .long (0 : Int64)])), (q3, .inr (13, [.int (zI (0)), .ref (G.2.2 0), .int (zI (0))]))]) (ws2 := fun u => [(q1, .inr (12, [.int (zI (0)), .ref q2, .ref q3, .ref q4, .ref q5, .ref q6, .ref q7, .long (0 : Int64)])), (q3, .inr (13, [.int (zI (0)), .ref (G.2.2 0), .int (zI (0))]))]) (isC := []) (isR := [0, 1]) (isP := [0, 1]) C (vv_cutI rfl rfl rfl rfl (by decide) (fun _ => rfl) rfl) (k129_X13_is l hf G  (v8) rv1 (by omega)) yy_X13_is (vv_rmI rfl rfl (Nat.le_of_ble_eq_true rfl) (Nat.le_of_ble_eq_true rfl) (Nat.le_of_ble_eq_true rfl) (Nat.le_of_ble_eq_true rfl)) wm1160 wm1161 rfl rfl (Nat.le_of_ble_eq_true rfl) dX13_isFormula_11 (fun v u hp => ?_)
  obtain rfl := hp
  refine vv_nrm (ws1 := [(q1, .inr (12, [.int (zI (0)), .ref q2, .ref q3, .ref q4, .ref q5, .ref q6, .ref q7, .long (0 : Int64)])), (q3, .inr (13, [.int (zI (0)), .ref (G.2.2 0), .int (zI (0))]))]) (st1 := [.int (zI (0))]) rfl rfl ?_
  exact vv_zret C (by decide) (()) rfl [0, 1] rfl rfl ⟨Nat.le_of_ble_eq_true rfl, Nat.le_of_ble_eq_true rfl⟩ dX13_isFormula_14
set_option maxHeartbeats 4000000 in
set_option maxRecDepth 100000 in
theorem k367_X13_isProved (l : Launch) (hf : l.stackTraces = false) (G : vv_G) (q1 q2 q3 q4 q5 q6 q7 : Nat) (v8 : Int) (rv1 : -2147483648 ≤ v8 ∧ v8 < 2147483648) (g0 : v8 ≤ -1) : ∀ sz, Met l yX13_isProved (Cond.code yX13_isProved cX13_isProved 2 (some .boolean) :: gT) ({ frames := 2, cells := 0, slots := 0, locals := 43 } : Room) (va_Pc [.ref q1, .int (zI (v8))] (vv_I G [(q1, .inr (12, [.int (zI (0)), .ref q2, .ref q3, .ref q4, .ref q5, .ref q6, .ref q7, .long (0 : Int64)])), (q3, .inr (13, [.int (zI (0)), .ref (G.2.2 0), .int (zI (0))]))] sz)) (vv_Q G (fun v (u : Unit) => v = some (.int (zI (0)))) (fun u => [(q1, .inr (12, [.int (zI (1)), .ref q2, .ref q3, .ref q4, .ref q5, .ref q6, .ref q7, .long (0 : Int64)])), (q3, .inr (13, [.int (zI (0)), .ref (G.2.2 0), .int (zI (0))]))]) (va_A [(q1, .inr (12, [.int (zI (0)), .ref q2, .ref q3, .ref q4, .ref q5, .ref q6, .ref q7, .long (0 : Int64)])), (q3, .inr (13, [.int (zI (0)), .ref (G.2.2 0), .int (zI (0))]))] sz)) 0 0 (va_A [(q1, .inr (12, [.int (zI (0)), .ref q2, .ref q3, .ref q4, .ref q5, .ref q6, .ref q7, .long (0 : Int64)])), (q3, .inr (13, [.int (zI (0)), .ref (G.2.2 0), .int (zI (0))]))] sz) := by
  refine vv_start hf (by decide) (Nat.le_of_ble_eq_true rfl) ?_
  intro p e s m below meth c A C hnm
  refine vv_aload_n C 0 dX13_isProved_0 rfl rfl ?_
  refine vv_aload_n C 0 dX13_isProved_1 rfl rfl ?_
  refine vv_iload_n C 1 dX13_isProved_2 rfl rfl ?_
  refine vv_callV (As := [.int (zI (v8))]) (rest := [.ref q1]) (wr := []) (ws2 := fun u => [(q1, .inr (12, [.int (zI (0)), .ref q2, .ref q3, .ref q4, .ref q5, .ref q6, .ref q7, .long (0 : Int64)])), (q3, .inr (13, [.int (zI (0)), .ref (G.2.2 0), .int (zI (0))]))]) (isC := [0, 1]) (isR := []) (isP := [0, 1]) C (vv_cutI rfl rfl rfl rfl (by decide) (fun _ => rfl) rfl) (k366_X13_isFormula l hf G q1 q2 q3 q4 q5 q6 q7 (v8) rv1 (by omega)) yy_X13_isFormula (vv_rmI rfl rfl (Nat.le_of_ble_eq_true rfl) (Nat.le_of_ble_eq_true rfl) (Nat.le_of_ble_eq_true rfl) (Nat.le_of_ble_eq_true rfl)) wm1894 wm1896 ws_selects_LatticeworkModel_LatticeworkModel_isFormula__I_Z_LatticeworkModel_isFormula__I_Z 0 rfl rfl rfl rfl (Nat.le_of_ble_eq_true rfl) dX13_isProved_3 (fun v u hp => ?_)
  obtain rfl := hp
  refine vv_nrm (ws1 := [(q1, .inr (12, [.int (zI (0)), .ref q2, .ref q3, .ref q4, .ref q5, .ref q6, .ref q7, .long (0 : Int64)])), (q3, .inr (13, [.int (zI (0)), .ref (G.2.2 0), .int (zI (0))]))]) (st1 := [.int (zI (0)), .ref q1]) rfl rfl ?_
  refine vv_if_eq (tgt := 13) C dX13_isProved_6 (by decide) (by omega) (fun h => ?_) (fun h => by exfalso; omega)
  refine vv_iconst (v := zI (1)) C dX13_isProved_13 rfl ?_
  refine vv_put (ws1 := [(q1, .inr (12, [.int (zI (1)), .ref q2, .ref q3, .ref q4, .ref q5, .ref q6, .ref q7, .long (0 : Int64)])), (q3, .inr (13, [.int (zI (0)), .ref (G.2.2 0), .int (zI (0))]))]) C 0 rfl rfl vi_X13 tyX13_ok nmX13 0 (by decide) wm1127 rfl rfl rfl (Nat.le_of_ble_eq_true rfl) rfl dX13_isProved_14 ?_
  refine vv_aload_n C 0 dX13_isProved_17 rfl rfl ?_
  refine vv_get C 0 rfl rfl vi_X13 0 (by decide) wm1127 rfl dX13_isProved_18 ?_
  refine vv_if_ne (tgt := 37) C dX13_isProved_21 (by decide) (by omega) (fun h => ?_) (fun h => by exfalso; omega)
  refine vv_iconst (v := zI (0)) C dX13_isProved_37 rfl ?_
  exact vv_zret C (by decide) (()) rfl [0, 1] rfl rfl ⟨Nat.le_of_ble_eq_true rfl, Nat.le_of_ble_eq_true rfl⟩ dX13_isProved_38
set_option maxHeartbeats 4000000 in
set_option maxRecDepth 100000 in
theorem k368_X10_needFormula (l : Launch) (hf : l.stackTraces = false) (G : vv_G) (q1 q2 q3 q4 q5 q6 q7 q8 q9 q10 q11 q12 q13 q14 : Nat) (v15 : Int) (rv1 : -2147483648 ≤ v15 ∧ v15 < 2147483648) (g0 : 0 ≤ v15) : ∀ sz, vx_Met l yX10_needFormula (Cond.code yX10_needFormula cX10_needFormula 2 none :: gT) ({ frames := 6, cells := 1, slots := 6, locals := 90 } : Room) (va_Pc [.ref q1, .int (zI (v15))] (vv_I G [(q1, .inr (9, [.ref q2, .ref q3, .ref q4, .ref q5, .ref q6, .ref q7, .ref q8, .ref q9, .ref q10])), (q8, .inr (1, [.ref q11, .ref q12, .ref q13, .ref q14, .int (zI (0))]))] sz)) (vv_Q G (fun v (u : Unit) => False) (fun u => []) (va_A [(q1, .inr (9, [.ref q2, .ref q3, .ref q4, .ref q5, .ref q6, .ref q7, .ref q8, .ref q9, .ref q10])), (q8, .inr (1, [.ref q11, .ref q12, .ref q13, .ref q14, .int (zI (0))]))] sz)) (vv_XC G (fun E (u : Unit) => E = "java/lang/IndexOutOfBoundsException") (fun u => [(q1, .inr (9, [.ref q2, .ref q3, .ref q4, .ref q5, .ref q6, .ref q7, .ref q8, .ref q9, .ref q10])), (q8, .inr (1, [.ref q11, .ref q12, .ref q13, .ref q14, .int (zI (0))]))]) (va_A [(q1, .inr (9, [.ref q2, .ref q3, .ref q4, .ref q5, .ref q6, .ref q7, .ref q8, .ref q9, .ref q10])), (q8, .inr (1, [.ref q11, .ref q12, .ref q13, .ref q14, .int (zI (0))]))] sz)) 1 6 (va_A [(q1, .inr (9, [.ref q2, .ref q3, .ref q4, .ref q5, .ref q6, .ref q7, .ref q8, .ref q9, .ref q10])), (q8, .inr (1, [.ref q11, .ref q12, .ref q13, .ref q14, .int (zI (0))]))] sz) := by
  refine vv_startX hf (by decide) (Nat.le_of_ble_eq_true rfl) ?_
  intro p e s m below meth c A C hnm htab
  refine vv_iload_n C 1 dX10_needFormula_0 rfl rfl ?_
  refine vv_if_lt (tgt := 15) C dX10_needFormula_1 (by decide) (by omega) (fun h => by exfalso; omega) (fun h => ?_)
  refine vv_iload_n C 1 dX10_needFormula_4 rfl rfl ?_
  refine vv_aload_n C 0 dX10_needFormula_5 rfl rfl ?_
  refine vv_get C 0 rfl rfl vi_X10 6 (by decide) wm330 rfl dX10_needFormula_6 ?_
  refine vv_get C 1 rfl rfl vi_X1 4 (by decide) wm228 rfl dX10_needFormula_9 ?_
  refine vv_icmp_lt (tgt := 26) C dX10_needFormula_12 (by decide) (by omega) (by omega) (fun h => by exfalso; omega) (fun h => ?_)
  exact vv_throwW C tw_X10_125_292 htab dX10_needFormula_15 dX10_needFormula_18 dX10_needFormula_19 dX10_needFormula_22 dX10_needFormula_25 ⟨Nat.le_of_ble_eq_true rfl, Nat.le_of_ble_eq_true rfl, Nat.le_of_ble_eq_true rfl, Nat.le_of_ble_eq_true rfl, Nat.le_of_ble_eq_true rfl, Nat.le_of_ble_eq_true rfl⟩ () rfl [0, 1] rfl rfl
set_option maxHeartbeats 4000000 in
set_option maxRecDepth 100000 in
theorem k369_X10_isProved (l : Launch) (hf : l.stackTraces = false) (G : vv_G) (q1 q2 q3 q4 q5 q6 q7 q8 q9 q10 q11 q12 q13 q14 : Nat) (v15 : Int) (rv1 : -2147483648 ≤ v15 ∧ v15 < 2147483648) (g0 : 0 ≤ v15) : ∀ sz, vx_Met l yX10_isProved (Cond.code yX10_isProved cX10_isProved 2 (some .boolean) :: gT) ({ frames := 7, cells := 1, slots := 6, locals := 111 } : Room) (va_Pc [.ref q1, .int (zI (v15))] (vv_I G [(q1, .inr (9, [.ref q2, .ref q3, .ref q4, .ref q5, .ref q6, .ref q7, .ref q8, .ref q9, .ref q10])), (q8, .inr (1, [.ref q11, .ref q12, .ref q13, .ref q14, .int (zI (0))]))] sz)) (vv_Q G (fun v (u : Unit) => False) (fun u => []) (va_A [(q1, .inr (9, [.ref q2, .ref q3, .ref q4, .ref q5, .ref q6, .ref q7, .ref q8, .ref q9, .ref q10])), (q8, .inr (1, [.ref q11, .ref q12, .ref q13, .ref q14, .int (zI (0))]))] sz)) (vv_XC G (fun E (u : Unit) => E = "java/lang/IndexOutOfBoundsException") (fun u => [(q1, .inr (9, [.ref q2, .ref q3, .ref q4, .ref q5, .ref q6, .ref q7, .ref q8, .ref q9, .ref q10])), (q8, .inr (1, [.ref q11, .ref q12, .ref q13, .ref q14, .int (zI (0))]))]) (va_A [(q1, .inr (9, [.ref q2, .ref q3, .ref q4, .ref q5, .ref q6, .ref q7, .ref q8, .ref q9, .ref q10])), (q8, .inr (1, [.ref q11, .ref q12, .ref q13, .ref q14, .int (zI (0))]))] sz)) 1 6 (va_A [(q1, .inr (9, [.ref q2, .ref q3, .ref q4, .ref q5, .ref q6, .ref q7, .ref q8, .ref q9, .ref q10])), (q8, .inr (1, [.ref q11, .ref q12, .ref q13, .ref q14, .int (zI (0))]))] sz) := by
  refine vv_startX hf (by decide) (Nat.le_of_ble_eq_true rfl) ?_
  intro p e s m below meth c A C hnm htab
  refine vv_aload_n C 0 dX10_isProved_0 rfl rfl ?_
  refine vv_iload_n C 1 dX10_isProved_1 rfl rfl ?_
  refine vv_callVx (As := [.int (zI (v15))]) (rest := []) (wr := []) (ws3 := fun u => [(q1, .inr (9, [.ref q2, .ref q3, .ref q4, .ref q5, .ref q6, .ref q7, .ref q8, .ref q9, .ref q10])), (q8, .inr (1, [.ref q11, .ref q12, .ref q13, .ref q14, .int (zI (0))]))]) (isC := [0, 1]) (isR := []) (isX := [0, 1]) (ws2 := fun _ => []) (isP := []) C (vv_cutI rfl rfl rfl rfl (by decide) (fun _ => rfl) rfl) (vv_cutI rfl rfl rfl rfl (by decide) (fun _ => rfl) rfl) (k368_X10_needFormula l hf G q1 q2 q3 q4 q5 q6 q7 q8 q9 q10 q11 q12 q13 q14 (v15) rv1 (by omega)) yy_X10_needFormula (vv_rmI rfl rfl (Nat.le_of_ble_eq_true rfl) (Nat.le_of_ble_eq_true rfl) (Nat.le_of_ble_eq_true rfl) (Nat.le_of_ble_eq_true rfl)) wm964 wm966 ws_selects_Latticework_Latticework_needFormula__I_V_Latticework_needFormula__I_V 0 rfl rfl rfl rfl (Nat.le_of_ble_eq_true rfl) dX10_isProved_2 (fun E9 u hp => ?_) (fun v u hp => hp.elim)
  obtain rfl := hp
  exact vv_out C htab ⟨Nat.le_of_ble_eq_true rfl, Nat.le_of_ble_eq_true rfl⟩ () rfl [0, 1] rfl rfl
set_option maxHeartbeats 4000000 in
set_option maxRecDepth 100000 in
theorem k370_L_isProved (l : Launch) (hf : l.stackTraces = false) (G : vv_G) (q1 q2 q3 q4 q5 q6 q7 q8 q9 q10 q11 q12 q13 q14 q15 : Nat) (v16 : Int) (rv1 : -2147483648 ≤ v16 ∧ v16 < 2147483648) (g0 : 0 ≤ v16) : ∀ sz, Met l yL_isProved (Cond.codeWith yL_isProved cL_isProved 4 (some .int) [(0, 16, 19, 21)] :: gT) ({ frames := 8, cells := 1, slots := 6, locals := 132 } : Room) (va_Pc [.ref q1, .int (zI (v16)), .ref q15] (vv_I G [(q1, .inr (9, [.ref q2, .ref q3, .ref q4, .ref q5, .ref q6, .ref q7, .ref q8, .ref q9, .ref q10])), (q8, .inr (1, [.ref q11, .ref q12, .ref q13, .ref q14, .int (zI (0))]))] sz)) (vv_Q G (fun v (u : Unit) => v = some (.int (zI (1)))) (fun u => [(q1, .inr (9, [.ref q2, .ref q3, .ref q4, .ref q5, .ref q6, .ref q7, .ref q8, .ref q9, .ref q10])), (q8, .inr (1, [.ref q11, .ref q12, .ref q13, .ref q14, .int (zI (0))]))]) (va_A [(q1, .inr (9, [.ref q2, .ref q3, .ref q4, .ref q5, .ref q6, .ref q7, .ref q8, .ref q9, .ref q10])), (q8, .inr (1, [.ref q11, .ref q12, .ref q13, .ref q14, .int (zI (0))]))] sz)) 1 6 (va_A [(q1, .inr (9, [.ref q2, .ref q3, .ref q4, .ref q5, .ref q6, .ref q7, .ref q8, .ref q9, .ref q10])), (q8, .inr (1, [.ref q11, .ref q12, .ref q13, .ref q14, .int (zI (0))]))] sz) := by
  refine vv_startW hf (by decide) (Nat.le_of_ble_eq_true rfl) ?_
  intro p e s m below meth c A C hnm htab
  refine vv_aload_n C 2 dL_isProved_0 rfl rfl ?_
  refine vv_iconst (v := zI (0)) C dL_isProved_1 rfl ?_
  refine vv_aload_n C 0 dL_isProved_2 rfl rfl ?_
  refine vv_iload_n C 1 dL_isProved_3 rfl rfl ?_
  refine vv_callVx (As := [.int (zI (v16))]) (rest := [.int (zI (0)), .ref q15]) (wr := []) (ws3 := fun u => [(q1, .inr (9, [.ref q2, .ref q3, .ref q4, .ref q5, .ref q6, .ref q7, .ref q8, .ref q9, .ref q10])), (q8, .inr (1, [.ref q11, .ref q12, .ref q13, .ref q14, .int (zI (0))]))]) (isC := [0, 1]) (isR := []) (isX := [0, 1]) (ws2 := fun _ => []) (isP := []) C (vv_cutI rfl rfl rfl rfl (by decide) (fun _ => rfl) rfl) (vv_cutI rfl rfl rfl rfl (by decide) (fun _ => rfl) rfl) (k369_X10_isProved l hf G q1 q2 q3 q4 q5 q6 q7 q8 q9 q10 q11 q12 q13 q14 (v16) rv1 (by omega)) yy_X10_isProved (vv_rmI rfl rfl (Nat.le_of_ble_eq_true rfl) (Nat.le_of_ble_eq_true rfl) (Nat.le_of_ble_eq_true rfl) (Nat.le_of_ble_eq_true rfl)) wm989 wm990 wm991 0 rfl rfl rfl rfl (Nat.le_of_ble_eq_true rfl) dL_isProved_4 (fun E9 u hp => ?_) (fun v u hp => hp.elim)
  obtain rfl := hp
  refine vv_catch C htab [] ⟨0, 16, 19, 21⟩ [] rfl (fun z hz => nomatch hz) rfl (by decide) wm645 (by decide +kernel) (fun qe100 => ?_)
  refine vv_astore_n (loc1 := [(3, .ref qe100), (0, .ref q1), (1, .int (zI (v16))), (2, .ref q15)]) C dL_isProved_19 rfl (by decide) rfl ?_
  refine vv_iconst (v := zI (1)) C dL_isProved_20 rfl ?_
  exact vv_iret C (()) rfl [0, 1] rfl rfl ⟨Nat.le_of_ble_eq_true rfl, Nat.le_of_ble_eq_true rfl⟩ dL_isProved_21
set_option maxHeartbeats 4000000 in
set_option maxRecDepth 100000 in
theorem k371_X13_isFormula (l : Launch) (hf : l.stackTraces = false) (G : vv_G) (q1 q2 q3 q4 q5 q6 q7 : Nat) (v8 : Int) (rv1 : -2147483648 ≤ v8 ∧ v8 < 2147483648) (g0 : 0 ≤ v8) : ∀ sz, Met l yX13_isFormula (Cond.code yX13_isFormula cX13_isFormula 2 (some .boolean) :: gT) ({ frames := 1, cells := 0, slots := 0, locals := 22 } : Room) (va_Pc [.ref q1, .int (zI (v8))] (vv_I G [(q1, .inr (12, [.int (zI (0)), .ref q2, .ref q3, .ref q4, .ref q5, .ref q6, .ref q7, .long (0 : Int64)])), (q3, .inr (13, [.int (zI (0)), .ref (G.2.2 0), .int (zI (0))]))] sz)) (vv_Q G (fun v (u : Unit) => v = some (.int (zI (0)))) (fun u => [(q1, .inr (12, [.int (zI (0)), .ref q2, .ref q3, .ref q4, .ref q5, .ref q6, .ref q7, .long (0 : Int64)])), (q3, .inr (13, [.int (zI (0)), .ref (G.2.2 0), .int (zI (0))]))]) (va_A [(q1, .inr (12, [.int (zI (0)), .ref q2, .ref q3, .ref q4, .ref q5, .ref q6, .ref q7, .long (0 : Int64)])), (q3, .inr (13, [.int (zI (0)), .ref (G.2.2 0), .int (zI (0))]))] sz)) 0 0 (va_A [(q1, .inr (12, [.int (zI (0)), .ref q2, .ref q3, .ref q4, .ref q5, .ref q6, .ref q7, .long (0 : Int64)])), (q3, .inr (13, [.int (zI (0)), .ref (G.2.2 0), .int (zI (0))]))] sz) := by
  refine vv_start hf (by decide) (Nat.le_of_ble_eq_true rfl) ?_
  intro p e s m below meth c A C hnm
  refine vv_iload_n C 1 dX13_isFormula_0 rfl rfl ?_
  refine vv_iconst (v := zI (0)) C dX13_isFormula_1 rfl ?_
  refine vv_aload_n C 0 dX13_isFormula_2 rfl rfl ?_
  refine vv_get C 0 rfl rfl vi_X13 2 (by decide) wm1129 rfl dX13_isFormula_3 ?_
  refine vv_callV (As := []) (rest := [.int (zI (0)), .int (zI (v8))]) (wr := [(q1, .inr (12, [.int (zI (0)), .ref q2, .ref q3, .ref q4, .ref q5, .ref q6, .ref q7, .long (0 : Int64)]))]) (ws2 := fun u => [(q1, .inr (12, [.int (zI (0)), .ref q2, .ref q3, .ref q4, .ref q5, .ref q6, .ref q7, .long (0 : Int64)])), (q3, .inr (13, [.int (zI (0)), .ref (G.2.2 0), .int (zI (0))]))]) (isC := [1]) (isR := [0]) (isP := [0, 1]) C (vv_cutI rfl rfl rfl rfl (by decide) (fun _ => rfl) rfl) (k29_Jx4a65c_size_8abf5 l hf G q3) yy_Jx4a65c_size_8abf5 (vv_rmI rfl rfl (Nat.le_of_ble_eq_true rfl) (Nat.le_of_ble_eq_true rfl) (Nat.le_of_ble_eq_true rfl) (Nat.le_of_ble_eq_true rfl)) wm1175 wm1176 wm1177 0 rfl rfl rfl rfl (Nat.le_of_ble_eq_true rfl) dX13_isFormula_6 (fun v u hp => ?_)
  obtain rfl := hp
  refine vv_nrm (ws1 := [(q1, .inr (12, [.int (zI (0)), .ref q2, .ref q3, .ref q4, .ref q5, .ref q6, .ref q7, .long (0 : Int64)])), (q3, .inr (13, [.int (zI (0)), .ref (G.2.2 0), .int (zI (0))]))]) (st1 := [.int (zI (0)), .int (zI (0)), .int (zI (v8))]) rfl rfl ?_
  refine vv_iconst (v := zI (1)) C dX13_isFormula_9 rfl ?_
  refine vv_isub (z := zI (-1)) C dX13_isFormula_10 (by rw [zI_sub]; exact zI_c (by omega)) ?_
  refine vv_callS (As := [.int (zI (v8)), .int (zI (0)), .int (zI (-1))]) (rest := []) (wr := [(q1, .inr (12, [.int (zI (0)), .ref q2, .ref q3, .ref q4, .ref q5, .ref q6, .ref q7, .long (0 : Int64)])), (q3, .inr (13, [.int (zI (0)), .ref (G.2.2 0), .int (zI (0))]))]) (ws2 := fun u => [(q1, .inr (12, [.int (zI (0)), .ref q2, .ref q3, .ref q4, .ref q5, .ref q6, .ref q7, .long (0 : Int64)])), (q3, .inr (13, [.int (zI (0)), .ref (G.2.2 0), .int (zI (0))]))]) (isC := []) (isR := [0, 1]) (isP := [0, 1]) C (vv_cutI rfl rfl rfl rfl (by decide) (fun _ => rfl) rfl) (k135_X13_is l hf G  (v8) rv1 (by omega)) yy_X13_is (vv_rmI rfl rfl (Nat.le_of_ble_eq_true rfl) (Nat.le_of_ble_eq_true rfl) (Nat.le_of_ble_eq_true rfl) (Nat.le_of_ble_eq_true rfl)) wm1160 wm1161 rfl rfl (Nat.le_of_ble_eq_true rfl) dX13_isFormula_11 (fun v u hp => ?_)
  obtain rfl := hp
  refine vv_nrm (ws1 := [(q1, .inr (12, [.int (zI (0)), .ref q2, .ref q3, .ref q4, .ref q5, .ref q6, .ref q7, .long (0 : Int64)])), (q3, .inr (13, [.int (zI (0)), .ref (G.2.2 0), .int (zI (0))]))]) (st1 := [.int (zI (0))]) rfl rfl ?_
  exact vv_zret C (by decide) (()) rfl [0, 1] rfl rfl ⟨Nat.le_of_ble_eq_true rfl, Nat.le_of_ble_eq_true rfl⟩ dX13_isFormula_14
set_option maxHeartbeats 4000000 in
set_option maxRecDepth 100000 in
theorem k372_X13_isProved (l : Launch) (hf : l.stackTraces = false) (G : vv_G) (q1 q2 q3 q4 q5 q6 q7 : Nat) (v8 : Int) (rv1 : -2147483648 ≤ v8 ∧ v8 < 2147483648) (g0 : 0 ≤ v8) : ∀ sz, Met l yX13_isProved (Cond.code yX13_isProved cX13_isProved 2 (some .boolean) :: gT) ({ frames := 2, cells := 0, slots := 0, locals := 43 } : Room) (va_Pc [.ref q1, .int (zI (v8))] (vv_I G [(q1, .inr (12, [.int (zI (0)), .ref q2, .ref q3, .ref q4, .ref q5, .ref q6, .ref q7, .long (0 : Int64)])), (q3, .inr (13, [.int (zI (0)), .ref (G.2.2 0), .int (zI (0))]))] sz)) (vv_Q G (fun v (u : Unit) => v = some (.int (zI (0)))) (fun u => [(q1, .inr (12, [.int (zI (1)), .ref q2, .ref q3, .ref q4, .ref q5, .ref q6, .ref q7, .long (0 : Int64)])), (q3, .inr (13, [.int (zI (0)), .ref (G.2.2 0), .int (zI (0))]))]) (va_A [(q1, .inr (12, [.int (zI (0)), .ref q2, .ref q3, .ref q4, .ref q5, .ref q6, .ref q7, .long (0 : Int64)])), (q3, .inr (13, [.int (zI (0)), .ref (G.2.2 0), .int (zI (0))]))] sz)) 0 0 (va_A [(q1, .inr (12, [.int (zI (0)), .ref q2, .ref q3, .ref q4, .ref q5, .ref q6, .ref q7, .long (0 : Int64)])), (q3, .inr (13, [.int (zI (0)), .ref (G.2.2 0), .int (zI (0))]))] sz) := by
  refine vv_start hf (by decide) (Nat.le_of_ble_eq_true rfl) ?_
  intro p e s m below meth c A C hnm
  refine vv_aload_n C 0 dX13_isProved_0 rfl rfl ?_
  refine vv_aload_n C 0 dX13_isProved_1 rfl rfl ?_
  refine vv_iload_n C 1 dX13_isProved_2 rfl rfl ?_
  refine vv_callV (As := [.int (zI (v8))]) (rest := [.ref q1]) (wr := []) (ws2 := fun u => [(q1, .inr (12, [.int (zI (0)), .ref q2, .ref q3, .ref q4, .ref q5, .ref q6, .ref q7, .long (0 : Int64)])), (q3, .inr (13, [.int (zI (0)), .ref (G.2.2 0), .int (zI (0))]))]) (isC := [0, 1]) (isR := []) (isP := [0, 1]) C (vv_cutI rfl rfl rfl rfl (by decide) (fun _ => rfl) rfl) (k371_X13_isFormula l hf G q1 q2 q3 q4 q5 q6 q7 (v8) rv1 (by omega)) yy_X13_isFormula (vv_rmI rfl rfl (Nat.le_of_ble_eq_true rfl) (Nat.le_of_ble_eq_true rfl) (Nat.le_of_ble_eq_true rfl) (Nat.le_of_ble_eq_true rfl)) wm1894 wm1896 ws_selects_LatticeworkModel_LatticeworkModel_isFormula__I_Z_LatticeworkModel_isFormula__I_Z 0 rfl rfl rfl rfl (Nat.le_of_ble_eq_true rfl) dX13_isProved_3 (fun v u hp => ?_)
  obtain rfl := hp
  refine vv_nrm (ws1 := [(q1, .inr (12, [.int (zI (0)), .ref q2, .ref q3, .ref q4, .ref q5, .ref q6, .ref q7, .long (0 : Int64)])), (q3, .inr (13, [.int (zI (0)), .ref (G.2.2 0), .int (zI (0))]))]) (st1 := [.int (zI (0)), .ref q1]) rfl rfl ?_
  refine vv_if_eq (tgt := 13) C dX13_isProved_6 (by decide) (by omega) (fun h => ?_) (fun h => by exfalso; omega)
  refine vv_iconst (v := zI (1)) C dX13_isProved_13 rfl ?_
  refine vv_put (ws1 := [(q1, .inr (12, [.int (zI (1)), .ref q2, .ref q3, .ref q4, .ref q5, .ref q6, .ref q7, .long (0 : Int64)])), (q3, .inr (13, [.int (zI (0)), .ref (G.2.2 0), .int (zI (0))]))]) C 0 rfl rfl vi_X13 tyX13_ok nmX13 0 (by decide) wm1127 rfl rfl rfl (Nat.le_of_ble_eq_true rfl) rfl dX13_isProved_14 ?_
  refine vv_aload_n C 0 dX13_isProved_17 rfl rfl ?_
  refine vv_get C 0 rfl rfl vi_X13 0 (by decide) wm1127 rfl dX13_isProved_18 ?_
  refine vv_if_ne (tgt := 37) C dX13_isProved_21 (by decide) (by omega) (fun h => ?_) (fun h => by exfalso; omega)
  refine vv_iconst (v := zI (0)) C dX13_isProved_37 rfl ?_
  exact vv_zret C (by decide) (()) rfl [0, 1] rfl rfl ⟨Nat.le_of_ble_eq_true rfl, Nat.le_of_ble_eq_true rfl⟩ dX13_isProved_38
set_option maxHeartbeats 4000000 in
set_option maxRecDepth 100000 in
theorem k373_X10_proof (l : Launch) (hf : l.stackTraces = false) (G : vv_G) (q1 q2 q3 q4 q5 q6 q7 q8 q9 q10 : Nat) (v11 : Int) (rv1 : -2147483648 ≤ v11 ∧ v11 < 2147483648) (v12 : Int) (rv2 : -2147483648 ≤ v12 ∧ v12 < 2147483648) (g0 : v11 ≤ -1) : ∀ sz, vx_Met l yX10_proof (Cond.code yX10_proof cX10_proof 3 (some .int) :: gT) ({ frames := 7, cells := 1, slots := 6, locals := 111 } : Room) (va_Pc [.ref q1, .int (zI (v11)), .int (zI (v12))] (vv_I G [(q1, .inr (9, [.ref q2, .ref q3, .ref q4, .ref q5, .ref q6, .ref q7, .ref q8, .ref q9, .ref q10]))] sz)) (vv_Q G (fun v (u : Unit) => False) (fun u => []) (va_A [(q1, .inr (9, [.ref q2, .ref q3, .ref q4, .ref q5, .ref q6, .ref q7, .ref q8, .ref q9, .ref q10]))] sz)) (vv_XC G (fun E (u : Unit) => E = "java/lang/IndexOutOfBoundsException") (fun u => [(q1, .inr (9, [.ref q2, .ref q3, .ref q4, .ref q5, .ref q6, .ref q7, .ref q8, .ref q9, .ref q10]))]) (va_A [(q1, .inr (9, [.ref q2, .ref q3, .ref q4, .ref q5, .ref q6, .ref q7, .ref q8, .ref q9, .ref q10]))] sz)) 1 6 (va_A [(q1, .inr (9, [.ref q2, .ref q3, .ref q4, .ref q5, .ref q6, .ref q7, .ref q8, .ref q9, .ref q10]))] sz) := by
  refine vv_startX hf (by decide) (Nat.le_of_ble_eq_true rfl) ?_
  intro p e s m below meth c A C hnm htab
  refine vv_aload_n C 0 dX10_proof_0 rfl rfl ?_
  refine vv_iload_n C 1 dX10_proof_1 rfl rfl ?_
  refine vv_callVx (As := [.int (zI (v11))]) (rest := []) (wr := []) (ws3 := fun u => [(q1, .inr (9, [.ref q2, .ref q3, .ref q4, .ref q5, .ref q6, .ref q7, .ref q8, .ref q9, .ref q10]))]) (isC := [0]) (isR := []) (isX := [0]) (ws2 := fun _ => []) (isP := []) C (vv_cutI rfl rfl rfl rfl (by decide) (fun _ => rfl) rfl) (vv_cutI rfl rfl rfl rfl (by decide) (fun _ => rfl) rfl) (k363_X10_needFormula l hf G q1 q2 q3 q4 q5 q6 q7 q8 q9 q10 (v11) rv1 (by omega)) yy_X10_needFormula (vv_rmI rfl rfl (Nat.le_of_ble_eq_true rfl) (Nat.le_of_ble_eq_true rfl) (Nat.le_of_ble_eq_true rfl) (Nat.le_of_ble_eq_true rfl)) wm964 wm966 ws_selects_Latticework_Latticework_needFormula__I_V_Latticework_needFormula__I_V 0 rfl rfl rfl rfl (Nat.le_of_ble_eq_true rfl) dX10_proof_2 (fun E9 u hp => ?_) (fun v u hp => hp.elim)
  obtain rfl := hp
  exact vv_out C htab ⟨Nat.le_of_ble_eq_true rfl, Nat.le_of_ble_eq_true rfl⟩ () rfl [0] rfl rfl
set_option maxHeartbeats 4000000 in
set_option maxRecDepth 100000 in
theorem k374_L_proof (l : Launch) (hf : l.stackTraces = false) (G : vv_G) (q1 q2 q3 q4 q5 q6 q7 q8 q9 q10 q11 : Nat) (v12 : Int) (rv1 : -2147483648 ≤ v12 ∧ v12 < 2147483648) (v13 : Int) (rv2 : -2147483648 ≤ v13 ∧ v13 < 2147483648) (g0 : v12 ≤ -1) : ∀ sz, Met l yL_proof (Cond.codeWith yL_proof cL_proof 5 (some .int) [(0, 10, 13, 21), (0, 10, 17, 13)] :: gT) ({ frames := 8, cells := 1, slots := 6, locals := 133 } : Room) (va_Pc [.ref q1, .int (zI (v12)), .int (zI (v13)), .ref q11] (vv_I G [(q1, .inr (9, [.ref q2, .ref q3, .ref q4, .ref q5, .ref q6, .ref q7, .ref q8, .ref q9, .ref q10]))] sz)) (vv_Q G (fun v (u : Unit) => v = some (.int (zI (1)))) (fun u => [(q1, .inr (9, [.ref q2, .ref q3, .ref q4, .ref q5, .ref q6, .ref q7, .ref q8, .ref q9, .ref q10]))]) (va_A [(q1, .inr (9, [.ref q2, .ref q3, .ref q4, .ref q5, .ref q6, .ref q7, .ref q8, .ref q9, .ref q10]))] sz)) 1 6 (va_A [(q1, .inr (9, [.ref q2, .ref q3, .ref q4, .ref q5, .ref q6, .ref q7, .ref q8, .ref q9, .ref q10]))] sz) := by
  refine vv_startW hf (by decide) (Nat.le_of_ble_eq_true rfl) ?_
  intro p e s m below meth c A C hnm htab
  refine vv_aload_n C 3 dL_proof_0 rfl rfl ?_
  refine vv_iconst (v := zI (0)) C dL_proof_1 rfl ?_
  refine vv_aload_n C 0 dL_proof_2 rfl rfl ?_
  refine vv_iload_n C 1 dL_proof_3 rfl rfl ?_
  refine vv_iload_n C 2 dL_proof_4 rfl rfl ?_
  refine vv_callVx (As := [.int (zI (v12)), .int (zI (v13))]) (rest := [.int (zI (0)), .ref q11]) (wr := []) (ws3 := fun u => [(q1, .inr (9, [.ref q2, .ref q3, .ref q4, .ref q5, .ref q6, .ref q7, .ref q8, .ref q9, .ref q10]))]) (isC := [0]) (isR := []) (isX := [0]) (ws2 := fun _ => []) (isP := []) C (vv_cutI rfl rfl rfl rfl (by decide) (fun _ => rfl) rfl) (vv_cutI rfl rfl rfl rfl (by decide) (fun _ => rfl) rfl) (k373_X10_proof l hf G q1 q2 q3 q4 q5 q6 q7 q8 q9 q10 (v12) rv1 (v13) rv2 (by omega)) yy_X10_proof (vv_rmI rfl rfl (Nat.le_of_ble_eq_true rfl) (Nat.le_of_ble_eq_true rfl) (Nat.le_of_ble_eq_true rfl) (Nat.le_of_ble_eq_true rfl)) wm996 wm997 wm998 0 rfl rfl rfl rfl (Nat.le_of_ble_eq_true rfl) dL_proof_5 (fun E9 u hp => ?_) (fun v u hp => hp.elim)
  obtain rfl := hp
  refine vv_catch C htab [] ⟨0, 10, 13, 21⟩ [⟨0, 10, 17, 13⟩] rfl (fun z hz => nomatch hz) rfl (by decide) wm645 (by decide +kernel) (fun qe101 => ?_)
  refine vv_astore (loc1 := [(4, .ref qe101), (0, .ref q1), (1, .int (zI (v12))), (2, .int (zI (v13))), (3, .ref q11)]) C dL_proof_13 (by decide) rfl ?_
  refine vv_iconst (v := zI (1)) C dL_proof_15 rfl ?_
  exact vv_iret C (()) rfl [0] rfl rfl ⟨Nat.le_of_ble_eq_true rfl, Nat.le_of_ble_eq_true rfl⟩ dL_proof_16
set_option maxHeartbeats 4000000 in
set_option maxRecDepth 100000 in
theorem k375_X13_proof (l : Launch) (hf : l.stackTraces = false) (G : vv_G) (q1 q2 q3 q4 q5 q6 q7 : Nat) (v8 : Int) (rv1 : -2147483648 ≤ v8 ∧ v8 < 2147483648) (v9 : Int) (rv2 : -2147483648 ≤ v9 ∧ v9 < 2147483648) (g0 : v8 ≤ -1) : ∀ sz, Met l yX13_proof (Cond.code yX13_proof cX13_proof 3 (some .int) :: gT) ({ frames := 2, cells := 0, slots := 0, locals := 43 } : Room) (va_Pc [.ref q1, .int (zI (v8)), .int (zI (v9))] (vv_I G [(q1, .inr (12, [.int (zI (0)), .ref q2, .ref q3, .ref q4, .ref q5, .ref q6, .ref q7, .long (0 : Int64)])), (q3, .inr (13, [.int (zI (0)), .ref (G.2.2 0), .int (zI (0))]))] sz)) (vv_Q G (fun v (u : Unit) => v = some (.int (zI (0)))) (fun u => [(q1, .inr (12, [.int (zI (1)), .ref q2, .ref q3, .ref q4, .ref q5, .ref q6, .ref q7, .long (0 : Int64)])), (q3, .inr (13, [.int (zI (0)), .ref (G.2.2 0), .int (zI (0))]))]) (va_A [(q1, .inr (12, [.int (zI (0)), .ref q2, .ref q3, .ref q4, .ref q5, .ref q6, .ref q7, .long (0 : Int64)])), (q3, .inr (13, [.int (zI (0)), .ref (G.2.2 0), .int (zI (0))]))] sz)) 0 0 (va_A [(q1, .inr (12, [.int (zI (0)), .ref q2, .ref q3, .ref q4, .ref q5, .ref q6, .ref q7, .long (0 : Int64)])), (q3, .inr (13, [.int (zI (0)), .ref (G.2.2 0), .int (zI (0))]))] sz) := by
  refine vv_start hf (by decide) (Nat.le_of_ble_eq_true rfl) ?_
  intro p e s m below meth c A C hnm
  refine vv_aload_n C 0 dX13_proof_0 rfl rfl ?_
  refine vv_iconst (v := zI (0)) C dX13_proof_1 rfl ?_
  refine vv_put (ws1 := [(q1, .inr (12, [.int (zI (0)), .ref q2, .ref q3, .ref q4, .ref q5, .ref q6, .ref q7, .long (0 : Int64)])), (q3, .inr (13, [.int (zI (0)), .ref (G.2.2 0), .int (zI (0))]))]) C 0 rfl rfl vi_X13 tyX13_ok nmX13 0 (by decide) wm1127 rfl rfl rfl (Nat.le_of_ble_eq_true rfl) rfl dX13_proof_2 ?_
  refine vv_aload_n C 0 dX13_proof_5 rfl rfl ?_
  refine vv_iload_n C 1 dX13_proof_6 rfl rfl ?_
  refine vv_callV (As := [.int (zI (v8))]) (rest := []) (wr := []) (ws2 := fun u => [(q1, .inr (12, [.int (zI (0)), .ref q2, .ref q3, .ref q4, .ref q5, .ref q6, .ref q7, .long (0 : Int64)])), (q3, .inr (13, [.int (zI (0)), .ref (G.2.2 0), .int (zI (0))]))]) (isC := [0, 1]) (isR := []) (isP := [0, 1]) C (vv_cutI rfl rfl rfl rfl (by decide) (fun _ => rfl) rfl) (k366_X13_isFormula l hf G q1 q2 q3 q4 q5 q6 q7 (v8) rv1 (by omega)) yy_X13_isFormula (vv_rmI rfl rfl (Nat.le_of_ble_eq_true rfl) (Nat.le_of_ble_eq_true rfl) (Nat.le_of_ble_eq_true rfl) (Nat.le_of_ble_eq_true rfl)) wm1894 wm1896 ws_selects_LatticeworkModel_LatticeworkModel_isFormula__I_Z_LatticeworkModel_isFormula__I_Z 0 rfl rfl rfl rfl (Nat.le_of_ble_eq_true rfl) dX13_proof_7 (fun v u hp => ?_)
  obtain rfl := hp
  refine vv_nrm (ws1 := [(q1, .inr (12, [.int (zI (0)), .ref q2, .ref q3, .ref q4, .ref q5, .ref q6, .ref q7, .long (0 : Int64)])), (q3, .inr (13, [.int (zI (0)), .ref (G.2.2 0), .int (zI (0))]))]) (st1 := [.int (zI (0))]) rfl rfl ?_
  refine vv_if_ne (tgt := 19) C dX13_proof_10 (by decide) (by omega) (fun h => by exfalso; omega) (fun h => ?_)
  refine vv_aload_n C 0 dX13_proof_13 rfl rfl ?_
  refine vv_iconst (v := zI (1)) C dX13_proof_14 rfl ?_
  refine vv_callV (As := [.int (zI (1))]) (rest := []) (wr := [(q3, .inr (13, [.int (zI (0)), .ref (G.2.2 0), .int (zI (0))]))]) (ws2 := fun u => [(q1, .inr (12, [.int (zI (1)), .ref q2, .ref q3, .ref q4, .ref q5, .ref q6, .ref q7, .long (0 : Int64)])), (q3, .inr (13, [.int (zI (0)), .ref (G.2.2 0), .int (zI (0))]))]) (isC := [0]) (isR := [1]) (isP := [1, 0]) C (vv_cutI rfl rfl rfl rfl (by decide) (fun _ => rfl) rfl) (k20_X13_refuse l hf G q1 q2 q3 q4 q5 q6 q7) yy_X13_refuse (vv_rmI rfl rfl (Nat.le_of_ble_eq_true rfl) (Nat.le_of_ble_eq_true rfl) (Nat.le_of_ble_eq_true rfl) (Nat.le_of_ble_eq_true rfl)) wm1163 wm1165 ws_selects_LatticeworkModel_LatticeworkModel_refuse__I_I_LatticeworkModel_refuse__I_I 0 rfl rfl rfl rfl (Nat.le_of_ble_eq_true rfl) dX13_proof_15 (fun v u hp => ?_)
  obtain rfl := hp
  refine vv_nrm (ws1 := [(q1, .inr (12, [.int (zI (1)), .ref q2, .ref q3, .ref q4, .ref q5, .ref q6, .ref q7, .long (0 : Int64)])), (q3, .inr (13, [.int (zI (0)), .ref (G.2.2 0), .int (zI (0))]))]) (st1 := [.int (zI (0))]) rfl rfl ?_
  exact vv_iret C (()) rfl [0, 1] rfl rfl ⟨Nat.le_of_ble_eq_true rfl, Nat.le_of_ble_eq_true rfl⟩ dX13_proof_18
set_option maxHeartbeats 4000000 in
set_option maxRecDepth 100000 in
theorem k376_X10_proof (l : Launch) (hf : l.stackTraces = false) (G : vv_G) (q1 q2 q3 q4 q5 q6 q7 q8 q9 q10 q11 q12 q13 q14 : Nat) (v15 : Int) (rv1 : -2147483648 ≤ v15 ∧ v15 < 2147483648) (v16 : Int) (rv2 : -2147483648 ≤ v16 ∧ v16 < 2147483648) (g0 : 0 ≤ v15) : ∀ sz, vx_Met l yX10_proof (Cond.code yX10_proof cX10_proof 3 (some .int) :: gT) ({ frames := 7, cells := 1, slots := 6, locals := 111 } : Room) (va_Pc [.ref q1, .int (zI (v15)), .int (zI (v16))] (vv_I G [(q1, .inr (9, [.ref q2, .ref q3, .ref q4, .ref q5, .ref q6, .ref q7, .ref q8, .ref q9, .ref q10])), (q8, .inr (1, [.ref q11, .ref q12, .ref q13, .ref q14, .int (zI (0))]))] sz)) (vv_Q G (fun v (u : Unit) => False) (fun u => []) (va_A [(q1, .inr (9, [.ref q2, .ref q3, .ref q4, .ref q5, .ref q6, .ref q7, .ref q8, .ref q9, .ref q10])), (q8, .inr (1, [.ref q11, .ref q12, .ref q13, .ref q14, .int (zI (0))]))] sz)) (vv_XC G (fun E (u : Unit) => E = "java/lang/IndexOutOfBoundsException") (fun u => [(q1, .inr (9, [.ref q2, .ref q3, .ref q4, .ref q5, .ref q6, .ref q7, .ref q8, .ref q9, .ref q10])), (q8, .inr (1, [.ref q11, .ref q12, .ref q13, .ref q14, .int (zI (0))]))]) (va_A [(q1, .inr (9, [.ref q2, .ref q3, .ref q4, .ref q5, .ref q6, .ref q7, .ref q8, .ref q9, .ref q10])), (q8, .inr (1, [.ref q11, .ref q12, .ref q13, .ref q14, .int (zI (0))]))] sz)) 1 6 (va_A [(q1, .inr (9, [.ref q2, .ref q3, .ref q4, .ref q5, .ref q6, .ref q7, .ref q8, .ref q9, .ref q10])), (q8, .inr (1, [.ref q11, .ref q12, .ref q13, .ref q14, .int (zI (0))]))] sz) := by
  refine vv_startX hf (by decide) (Nat.le_of_ble_eq_true rfl) ?_
  intro p e s m below meth c A C hnm htab
  refine vv_aload_n C 0 dX10_proof_0 rfl rfl ?_
  refine vv_iload_n C 1 dX10_proof_1 rfl rfl ?_
  refine vv_callVx (As := [.int (zI (v15))]) (rest := []) (wr := []) (ws3 := fun u => [(q1, .inr (9, [.ref q2, .ref q3, .ref q4, .ref q5, .ref q6, .ref q7, .ref q8, .ref q9, .ref q10])), (q8, .inr (1, [.ref q11, .ref q12, .ref q13, .ref q14, .int (zI (0))]))]) (isC := [0, 1]) (isR := []) (isX := [0, 1]) (ws2 := fun _ => []) (isP := []) C (vv_cutI rfl rfl rfl rfl (by decide) (fun _ => rfl) rfl) (vv_cutI rfl rfl rfl rfl (by decide) (fun _ => rfl) rfl) (k368_X10_needFormula l hf G q1 q2 q3 q4 q5 q6 q7 q8 q9 q10 q11 q12 q13 q14 (v15) rv1 (by omega)) yy_X10_needFormula (vv_rmI rfl rfl (Nat.le_of_ble_eq_true rfl) (Nat.le_of_ble_eq_true rfl) (Nat.le_of_ble_eq_true rfl) (Nat.le_of_ble_eq_true rfl)) wm964 wm966 ws_selects_Latticework_Latticework_needFormula__I_V_Latticework_needFormula__I_V 0 rfl rfl rfl rfl (Nat.le_of_ble_eq_true rfl) dX10_proof_2 (fun E9 u hp => ?_) (fun v u hp => hp.elim)
  obtain rfl := hp
  exact vv_out C htab ⟨Nat.le_of_ble_eq_true rfl, Nat.le_of_ble_eq_true rfl⟩ () rfl [0, 1] rfl rfl
set_option maxHeartbeats 4000000 in
set_option maxRecDepth 100000 in
theorem k377_L_proof (l : Launch) (hf : l.stackTraces = false) (G : vv_G) (q1 q2 q3 q4 q5 q6 q7 q8 q9 q10 q11 q12 q13 q14 q15 : Nat) (v16 : Int) (rv1 : -2147483648 ≤ v16 ∧ v16 < 2147483648) (v17 : Int) (rv2 : -2147483648 ≤ v17 ∧ v17 < 2147483648) (g0 : 0 ≤ v16) : ∀ sz, Met l yL_proof (Cond.codeWith yL_proof cL_proof 5 (some .int) [(0, 10, 13, 21), (0, 10, 17, 13)] :: gT) ({ frames := 8, cells := 1, slots := 6, locals := 133 } : Room) (va_Pc [.ref q1, .int (zI (v16)), .int (zI (v17)), .ref q15] (vv_I G [(q1, .inr (9, [.ref q2, .ref q3, .ref q4, .ref q5, .ref q6, .ref q7, .ref q8, .ref q9, .ref q10])), (q8, .inr (1, [.ref q11, .ref q12, .ref q13, .ref q14, .int (zI (0))]))] sz)) (vv_Q G (fun v (u : Unit) => v = some (.int (zI (1)))) (fun u => [(q1, .inr (9, [.ref q2, .ref q3, .ref q4, .ref q5, .ref q6, .ref q7, .ref q8, .ref q9, .ref q10])), (q8, .inr (1, [.ref q11, .ref q12, .ref q13, .ref q14, .int (zI (0))]))]) (va_A [(q1, .inr (9, [.ref q2, .ref q3, .ref q4, .ref q5, .ref q6, .ref q7, .ref q8, .ref q9, .ref q10])), (q8, .inr (1, [.ref q11, .ref q12, .ref q13, .ref q14, .int (zI (0))]))] sz)) 1 6 (va_A [(q1, .inr (9, [.ref q2, .ref q3, .ref q4, .ref q5, .ref q6, .ref q7, .ref q8, .ref q9, .ref q10])), (q8, .inr (1, [.ref q11, .ref q12, .ref q13, .ref q14, .int (zI (0))]))] sz) := by
  refine vv_startW hf (by decide) (Nat.le_of_ble_eq_true rfl) ?_
  intro p e s m below meth c A C hnm htab
  refine vv_aload_n C 3 dL_proof_0 rfl rfl ?_
  refine vv_iconst (v := zI (0)) C dL_proof_1 rfl ?_
  refine vv_aload_n C 0 dL_proof_2 rfl rfl ?_
  refine vv_iload_n C 1 dL_proof_3 rfl rfl ?_
  refine vv_iload_n C 2 dL_proof_4 rfl rfl ?_
  refine vv_callVx (As := [.int (zI (v16)), .int (zI (v17))]) (rest := [.int (zI (0)), .ref q15]) (wr := []) (ws3 := fun u => [(q1, .inr (9, [.ref q2, .ref q3, .ref q4, .ref q5, .ref q6, .ref q7, .ref q8, .ref q9, .ref q10])), (q8, .inr (1, [.ref q11, .ref q12, .ref q13, .ref q14, .int (zI (0))]))]) (isC := [0, 1]) (isR := []) (isX := [0, 1]) (ws2 := fun _ => []) (isP := []) C (vv_cutI rfl rfl rfl rfl (by decide) (fun _ => rfl) rfl) (vv_cutI rfl rfl rfl rfl (by decide) (fun _ => rfl) rfl) (k376_X10_proof l hf G q1 q2 q3 q4 q5 q6 q7 q8 q9 q10 q11 q12 q13 q14 (v16) rv1 (v17) rv2 (by omega)) yy_X10_proof (vv_rmI rfl rfl (Nat.le_of_ble_eq_true rfl) (Nat.le_of_ble_eq_true rfl) (Nat.le_of_ble_eq_true rfl) (Nat.le_of_ble_eq_true rfl)) wm996 wm997 wm998 0 rfl rfl rfl rfl (Nat.le_of_ble_eq_true rfl) dL_proof_5 (fun E9 u hp => ?_) (fun v u hp => hp.elim)
  obtain rfl := hp
  refine vv_catch C htab [] ⟨0, 10, 13, 21⟩ [⟨0, 10, 17, 13⟩] rfl (fun z hz => nomatch hz) rfl (by decide) wm645 (by decide +kernel) (fun qe102 => ?_)
  refine vv_astore (loc1 := [(4, .ref qe102), (0, .ref q1), (1, .int (zI (v16))), (2, .int (zI (v17))), (3, .ref q15)]) C dL_proof_13 (by decide) rfl ?_
  refine vv_iconst (v := zI (1)) C dL_proof_15 rfl ?_
  exact vv_iret C (()) rfl [0, 1] rfl rfl ⟨Nat.le_of_ble_eq_true rfl, Nat.le_of_ble_eq_true rfl⟩ dL_proof_16
set_option maxHeartbeats 4000000 in
set_option maxRecDepth 100000 in
theorem k378_X13_proof (l : Launch) (hf : l.stackTraces = false) (G : vv_G) (q1 q2 q3 q4 q5 q6 q7 : Nat) (v8 : Int) (rv1 : -2147483648 ≤ v8 ∧ v8 < 2147483648) (v9 : Int) (rv2 : -2147483648 ≤ v9 ∧ v9 < 2147483648) (g0 : 0 ≤ v8) : ∀ sz, Met l yX13_proof (Cond.code yX13_proof cX13_proof 3 (some .int) :: gT) ({ frames := 2, cells := 0, slots := 0, locals := 43 } : Room) (va_Pc [.ref q1, .int (zI (v8)), .int (zI (v9))] (vv_I G [(q1, .inr (12, [.int (zI (0)), .ref q2, .ref q3, .ref q4, .ref q5, .ref q6, .ref q7, .long (0 : Int64)])), (q3, .inr (13, [.int (zI (0)), .ref (G.2.2 0), .int (zI (0))]))] sz)) (vv_Q G (fun v (u : Unit) => v = some (.int (zI (0)))) (fun u => [(q1, .inr (12, [.int (zI (1)), .ref q2, .ref q3, .ref q4, .ref q5, .ref q6, .ref q7, .long (0 : Int64)])), (q3, .inr (13, [.int (zI (0)), .ref (G.2.2 0), .int (zI (0))]))]) (va_A [(q1, .inr (12, [.int (zI (0)), .ref q2, .ref q3, .ref q4, .ref q5, .ref q6, .ref q7, .long (0 : Int64)])), (q3, .inr (13, [.int (zI (0)), .ref (G.2.2 0), .int (zI (0))]))] sz)) 0 0 (va_A [(q1, .inr (12, [.int (zI (0)), .ref q2, .ref q3, .ref q4, .ref q5, .ref q6, .ref q7, .long (0 : Int64)])), (q3, .inr (13, [.int (zI (0)), .ref (G.2.2 0), .int (zI (0))]))] sz) := by
  refine vv_start hf (by decide) (Nat.le_of_ble_eq_true rfl) ?_
  intro p e s m below meth c A C hnm
  refine vv_aload_n C 0 dX13_proof_0 rfl rfl ?_
  refine vv_iconst (v := zI (0)) C dX13_proof_1 rfl ?_
  refine vv_put (ws1 := [(q1, .inr (12, [.int (zI (0)), .ref q2, .ref q3, .ref q4, .ref q5, .ref q6, .ref q7, .long (0 : Int64)])), (q3, .inr (13, [.int (zI (0)), .ref (G.2.2 0), .int (zI (0))]))]) C 0 rfl rfl vi_X13 tyX13_ok nmX13 0 (by decide) wm1127 rfl rfl rfl (Nat.le_of_ble_eq_true rfl) rfl dX13_proof_2 ?_
  refine vv_aload_n C 0 dX13_proof_5 rfl rfl ?_
  refine vv_iload_n C 1 dX13_proof_6 rfl rfl ?_
  refine vv_callV (As := [.int (zI (v8))]) (rest := []) (wr := []) (ws2 := fun u => [(q1, .inr (12, [.int (zI (0)), .ref q2, .ref q3, .ref q4, .ref q5, .ref q6, .ref q7, .long (0 : Int64)])), (q3, .inr (13, [.int (zI (0)), .ref (G.2.2 0), .int (zI (0))]))]) (isC := [0, 1]) (isR := []) (isP := [0, 1]) C (vv_cutI rfl rfl rfl rfl (by decide) (fun _ => rfl) rfl) (k371_X13_isFormula l hf G q1 q2 q3 q4 q5 q6 q7 (v8) rv1 (by omega)) yy_X13_isFormula (vv_rmI rfl rfl (Nat.le_of_ble_eq_true rfl) (Nat.le_of_ble_eq_true rfl) (Nat.le_of_ble_eq_true rfl) (Nat.le_of_ble_eq_true rfl)) wm1894 wm1896 ws_selects_LatticeworkModel_LatticeworkModel_isFormula__I_Z_LatticeworkModel_isFormula__I_Z 0 rfl rfl rfl rfl (Nat.le_of_ble_eq_true rfl) dX13_proof_7 (fun v u hp => ?_)
  obtain rfl := hp
  refine vv_nrm (ws1 := [(q1, .inr (12, [.int (zI (0)), .ref q2, .ref q3, .ref q4, .ref q5, .ref q6, .ref q7, .long (0 : Int64)])), (q3, .inr (13, [.int (zI (0)), .ref (G.2.2 0), .int (zI (0))]))]) (st1 := [.int (zI (0))]) rfl rfl ?_
  refine vv_if_ne (tgt := 19) C dX13_proof_10 (by decide) (by omega) (fun h => by exfalso; omega) (fun h => ?_)
  refine vv_aload_n C 0 dX13_proof_13 rfl rfl ?_
  refine vv_iconst (v := zI (1)) C dX13_proof_14 rfl ?_
  refine vv_callV (As := [.int (zI (1))]) (rest := []) (wr := [(q3, .inr (13, [.int (zI (0)), .ref (G.2.2 0), .int (zI (0))]))]) (ws2 := fun u => [(q1, .inr (12, [.int (zI (1)), .ref q2, .ref q3, .ref q4, .ref q5, .ref q6, .ref q7, .long (0 : Int64)])), (q3, .inr (13, [.int (zI (0)), .ref (G.2.2 0), .int (zI (0))]))]) (isC := [0]) (isR := [1]) (isP := [1, 0]) C (vv_cutI rfl rfl rfl rfl (by decide) (fun _ => rfl) rfl) (k20_X13_refuse l hf G q1 q2 q3 q4 q5 q6 q7) yy_X13_refuse (vv_rmI rfl rfl (Nat.le_of_ble_eq_true rfl) (Nat.le_of_ble_eq_true rfl) (Nat.le_of_ble_eq_true rfl) (Nat.le_of_ble_eq_true rfl)) wm1163 wm1165 ws_selects_LatticeworkModel_LatticeworkModel_refuse__I_I_LatticeworkModel_refuse__I_I 0 rfl rfl rfl rfl (Nat.le_of_ble_eq_true rfl) dX13_proof_15 (fun v u hp => ?_)
  obtain rfl := hp
  refine vv_nrm (ws1 := [(q1, .inr (12, [.int (zI (1)), .ref q2, .ref q3, .ref q4, .ref q5, .ref q6, .ref q7, .long (0 : Int64)])), (q3, .inr (13, [.int (zI (0)), .ref (G.2.2 0), .int (zI (0))]))]) (st1 := [.int (zI (0))]) rfl rfl ?_
  exact vv_iret C (()) rfl [0, 1] rfl rfl ⟨Nat.le_of_ble_eq_true rfl, Nat.le_of_ble_eq_true rfl⟩ dX13_proof_18
set_option maxHeartbeats 4000000 in
set_option maxRecDepth 100000 in
theorem k379_X10_line (l : Launch) (hf : l.stackTraces = false) (G : vv_G) (q1 q2 q3 q4 q5 q6 q7 q8 q9 q10 : Nat) (v11 : Int) (rv1 : -2147483648 ≤ v11 ∧ v11 < 2147483648) (v12 : Int) (rv2 : -2147483648 ≤ v12 ∧ v12 < 2147483648) (v13 : Int) (rv3 : -2147483648 ≤ v13 ∧ v13 < 2147483648) (v14 : Int) (rv4 : -2147483648 ≤ v14 ∧ v14 < 2147483648) (g0 : v11 ≤ -1) : ∀ sz, vx_Met l yX10_line (Cond.code yX10_line cX10_line 7 (some .int) :: gT) ({ frames := 7, cells := 1, slots := 6, locals := 111 } : Room) (va_Pc [.ref q1, .int (zI (v11)), .int (zI (v12)), .int (zI (v13)), .int (zI (v14))] (vv_I G [(q1, .inr (9, [.ref q2, .ref q3, .ref q4, .ref q5, .ref q6, .ref q7, .ref q8, .ref q9, .ref q10]))] sz)) (vv_Q G (fun v (u : Unit) => False) (fun u => []) (va_A [(q1, .inr (9, [.ref q2, .ref q3, .ref q4, .ref q5, .ref q6, .ref q7, .ref q8, .ref q9, .ref q10]))] sz)) (vv_XC G (fun E (u : Unit) => E = "java/lang/IndexOutOfBoundsException") (fun u => [(q1, .inr (9, [.ref q2, .ref q3, .ref q4, .ref q5, .ref q6, .ref q7, .ref q8, .ref q9, .ref q10]))]) (va_A [(q1, .inr (9, [.ref q2, .ref q3, .ref q4, .ref q5, .ref q6, .ref q7, .ref q8, .ref q9, .ref q10]))] sz)) 1 6 (va_A [(q1, .inr (9, [.ref q2, .ref q3, .ref q4, .ref q5, .ref q6, .ref q7, .ref q8, .ref q9, .ref q10]))] sz) := by
  refine vv_startX hf (by decide) (Nat.le_of_ble_eq_true rfl) ?_
  intro p e s m below meth c A C hnm htab
  refine vv_aload_n C 0 dX10_line_0 rfl rfl ?_
  refine vv_iload_n C 1 dX10_line_1 rfl rfl ?_
  refine vv_callVx (As := [.int (zI (v11))]) (rest := []) (wr := []) (ws3 := fun u => [(q1, .inr (9, [.ref q2, .ref q3, .ref q4, .ref q5, .ref q6, .ref q7, .ref q8, .ref q9, .ref q10]))]) (isC := [0]) (isR := []) (isX := [0]) (ws2 := fun _ => []) (isP := []) C (vv_cutI rfl rfl rfl rfl (by decide) (fun _ => rfl) rfl) (vv_cutI rfl rfl rfl rfl (by decide) (fun _ => rfl) rfl) (k363_X10_needFormula l hf G q1 q2 q3 q4 q5 q6 q7 q8 q9 q10 (v11) rv1 (by omega)) yy_X10_needFormula (vv_rmI rfl rfl (Nat.le_of_ble_eq_true rfl) (Nat.le_of_ble_eq_true rfl) (Nat.le_of_ble_eq_true rfl) (Nat.le_of_ble_eq_true rfl)) wm964 wm966 ws_selects_Latticework_Latticework_needFormula__I_V_Latticework_needFormula__I_V 0 rfl rfl rfl rfl (Nat.le_of_ble_eq_true rfl) dX10_line_2 (fun E9 u hp => ?_) (fun v u hp => hp.elim)
  obtain rfl := hp
  exact vv_out C htab ⟨Nat.le_of_ble_eq_true rfl, Nat.le_of_ble_eq_true rfl⟩ () rfl [0] rfl rfl
set_option maxHeartbeats 4000000 in
set_option maxRecDepth 100000 in
theorem k380_L_line (l : Launch) (hf : l.stackTraces = false) (G : vv_G) (q1 q2 q3 q4 q5 q6 q7 q8 q9 q10 q11 : Nat) (v12 : Int) (rv1 : -2147483648 ≤ v12 ∧ v12 < 2147483648) (v13 : Int) (rv2 : -2147483648 ≤ v13 ∧ v13 < 2147483648) (v14 : Int) (rv3 : -2147483648 ≤ v14 ∧ v14 < 2147483648) (v15 : Int) (rv4 : -2147483648 ≤ v15 ∧ v15 < 2147483648) (g0 : v12 ≤ -1) : ∀ sz, Met l yL_line (Cond.codeWith yL_line cL_line 7 (some .int) [(0, 14, 17, 21), (0, 14, 21, 13), (0, 14, 25, 15)] :: gT) ({ frames := 8, cells := 1, slots := 6, locals := 137 } : Room) (va_Pc [.ref q1, .int (zI (v12)), .int (zI (v13)), .int (zI (v14)), .int (zI (v15)), .ref q11] (vv_I G [(q1, .inr (9, [.ref q2, .ref q3, .ref q4, .ref q5, .ref q6, .ref q7, .ref q8, .ref q9, .ref q10]))] sz)) (vv_Q G (fun v (u : Unit) => v = some (.int (zI (1)))) (fun u => [(q1, .inr (9, [.ref q2, .ref q3, .ref q4, .ref q5, .ref q6, .ref q7, .ref q8, .ref q9, .ref q10]))]) (va_A [(q1, .inr (9, [.ref q2, .ref q3, .ref q4, .ref q5, .ref q6, .ref q7, .ref q8, .ref q9, .ref q10]))] sz)) 1 6 (va_A [(q1, .inr (9, [.ref q2, .ref q3, .ref q4, .ref q5, .ref q6, .ref q7, .ref q8, .ref q9, .ref q10]))] sz) := by
  refine vv_startW hf (by decide) (Nat.le_of_ble_eq_true rfl) ?_
  intro p e s m below meth c A C hnm htab
  refine vv_aload C 5 dL_line_0 rfl ?_
  refine vv_iconst (v := zI (0)) C dL_line_2 rfl ?_
  refine vv_aload_n C 0 dL_line_3 rfl rfl ?_
  refine vv_iload_n C 1 dL_line_4 rfl rfl ?_
  refine vv_iload_n C 2 dL_line_5 rfl rfl ?_
  refine vv_iload_n C 3 dL_line_6 rfl rfl ?_
  refine vv_iload C 4 dL_line_7 rfl ?_
  refine vv_callVx (As := [.int (zI (v12)), .int (zI (v13)), .int (zI (v14)), .int (zI (v15))]) (rest := [.int (zI (0)), .ref q11]) (wr := []) (ws3 := fun u => [(q1, .inr (9, [.ref q2, .ref q3, .ref q4, .ref q5, .ref q6, .ref q7, .ref q8, .ref q9, .ref q10]))]) (isC := [0]) (isR := []) (isX := [0]) (ws2 := fun _ => []) (isP := []) C (vv_cutI rfl rfl rfl rfl (by decide) (fun _ => rfl) rfl) (vv_cutI rfl rfl rfl rfl (by decide) (fun _ => rfl) rfl) (k379_X10_line l hf G q1 q2 q3 q4 q5 q6 q7 q8 q9 q10 (v12) rv1 (v13) rv2 (v14) rv3 (v15) rv4 (by omega)) yy_X10_line (vv_rmI rfl rfl (Nat.le_of_ble_eq_true rfl) (Nat.le_of_ble_eq_true rfl) (Nat.le_of_ble_eq_true rfl) (Nat.le_of_ble_eq_true rfl)) wm1004 wm1005 wm1006 0 rfl rfl rfl rfl (Nat.le_of_ble_eq_true rfl) dL_line_9 (fun E9 u hp => ?_) (fun v u hp => hp.elim)
  obtain rfl := hp
  refine vv_catch C htab [] ⟨0, 14, 17, 21⟩ [⟨0, 14, 21, 13⟩, ⟨0, 14, 25, 15⟩] rfl (fun z hz => nomatch hz) rfl (by decide) wm645 (by decide +kernel) (fun qe103 => ?_)
  refine vv_astore (loc1 := [(6, .ref qe103), (0, .ref q1), (1, .int (zI (v12))), (2, .int (zI (v13))), (3, .int (zI (v14))), (4, .int (zI (v15))), (5, .ref q11)]) C dL_line_17 (by decide) rfl ?_
  refine vv_iconst (v := zI (1)) C dL_line_19 rfl ?_
  exact vv_iret C (()) rfl [0] rfl rfl ⟨Nat.le_of_ble_eq_true rfl, Nat.le_of_ble_eq_true rfl⟩ dL_line_20
set_option maxHeartbeats 4000000 in
set_option maxRecDepth 100000 in
theorem k381_X13_line (l : Launch) (hf : l.stackTraces = false) (G : vv_G) (q1 q2 q3 q4 q5 q6 q7 : Nat) (v8 : Int) (rv1 : -2147483648 ≤ v8 ∧ v8 < 2147483648) (v9 : Int) (rv2 : -2147483648 ≤ v9 ∧ v9 < 2147483648) (v10 : Int) (rv3 : -2147483648 ≤ v10 ∧ v10 < 2147483648) (v11 : Int) (rv4 : -2147483648 ≤ v11 ∧ v11 < 2147483648) (g0 : v8 ≤ -1) : ∀ sz, Met l yX13_line (Cond.code yX13_line cX13_line 6 (some .int) :: gT) ({ frames := 2, cells := 0, slots := 0, locals := 43 } : Room) (va_Pc [.ref q1, .int (zI (v8)), .int (zI (v9)), .int (zI (v10)), .int (zI (v11))] (vv_I G [(q1, .inr (12, [.int (zI (0)), .ref q2, .ref q3, .ref q4, .ref q5, .ref q6, .ref q7, .long (0 : Int64)])), (q3, .inr (13, [.int (zI (0)), .ref (G.2.2 0), .int (zI (0))]))] sz)) (vv_Q G (fun v (u : Unit) => v = some (.int (zI (0)))) (fun u => [(q1, .inr (12, [.int (zI (1)), .ref q2, .ref q3, .ref q4, .ref q5, .ref q6, .ref q7, .long (0 : Int64)])), (q3, .inr (13, [.int (zI (0)), .ref (G.2.2 0), .int (zI (0))]))]) (va_A [(q1, .inr (12, [.int (zI (0)), .ref q2, .ref q3, .ref q4, .ref q5, .ref q6, .ref q7, .long (0 : Int64)])), (q3, .inr (13, [.int (zI (0)), .ref (G.2.2 0), .int (zI (0))]))] sz)) 0 0 (va_A [(q1, .inr (12, [.int (zI (0)), .ref q2, .ref q3, .ref q4, .ref q5, .ref q6, .ref q7, .long (0 : Int64)])), (q3, .inr (13, [.int (zI (0)), .ref (G.2.2 0), .int (zI (0))]))] sz) := by
  refine vv_start hf (by decide) (Nat.le_of_ble_eq_true rfl) ?_
  intro p e s m below meth c A C hnm
  refine vv_aload_n C 0 dX13_line_0 rfl rfl ?_
  refine vv_iconst (v := zI (0)) C dX13_line_1 rfl ?_
  refine vv_put (ws1 := [(q1, .inr (12, [.int (zI (0)), .ref q2, .ref q3, .ref q4, .ref q5, .ref q6, .ref q7, .long (0 : Int64)])), (q3, .inr (13, [.int (zI (0)), .ref (G.2.2 0), .int (zI (0))]))]) C 0 rfl rfl vi_X13 tyX13_ok nmX13 0 (by decide) wm1127 rfl rfl rfl (Nat.le_of_ble_eq_true rfl) rfl dX13_line_2 ?_
  refine vv_aload_n C 0 dX13_line_5 rfl rfl ?_
  refine vv_iload_n C 1 dX13_line_6 rfl rfl ?_
  refine vv_callV (As := [.int (zI (v8))]) (rest := []) (wr := []) (ws2 := fun u => [(q1, .inr (12, [.int (zI (0)), .ref q2, .ref q3, .ref q4, .ref q5, .ref q6, .ref q7, .long (0 : Int64)])), (q3, .inr (13, [.int (zI (0)), .ref (G.2.2 0), .int (zI (0))]))]) (isC := [0, 1]) (isR := []) (isP := [0, 1]) C (vv_cutI rfl rfl rfl rfl (by decide) (fun _ => rfl) rfl) (k366_X13_isFormula l hf G q1 q2 q3 q4 q5 q6 q7 (v8) rv1 (by omega)) yy_X13_isFormula (vv_rmI rfl rfl (Nat.le_of_ble_eq_true rfl) (Nat.le_of_ble_eq_true rfl) (Nat.le_of_ble_eq_true rfl) (Nat.le_of_ble_eq_true rfl)) wm1894 wm1896 ws_selects_LatticeworkModel_LatticeworkModel_isFormula__I_Z_LatticeworkModel_isFormula__I_Z 0 rfl rfl rfl rfl (Nat.le_of_ble_eq_true rfl) dX13_line_7 (fun v u hp => ?_)
  obtain rfl := hp
  refine vv_nrm (ws1 := [(q1, .inr (12, [.int (zI (0)), .ref q2, .ref q3, .ref q4, .ref q5, .ref q6, .ref q7, .long (0 : Int64)])), (q3, .inr (13, [.int (zI (0)), .ref (G.2.2 0), .int (zI (0))]))]) (st1 := [.int (zI (0))]) rfl rfl ?_
  refine vv_if_eq (tgt := 44) C dX13_line_10 (by decide) (by omega) (fun h => ?_) (fun h => by exfalso; omega)
  refine vv_aload_n C 0 dX13_line_44 rfl rfl ?_
  refine vv_iconst (v := zI (1)) C dX13_line_45 rfl ?_
  refine vv_callV (As := [.int (zI (1))]) (rest := []) (wr := [(q3, .inr (13, [.int (zI (0)), .ref (G.2.2 0), .int (zI (0))]))]) (ws2 := fun u => [(q1, .inr (12, [.int (zI (1)), .ref q2, .ref q3, .ref q4, .ref q5, .ref q6, .ref q7, .long (0 : Int64)])), (q3, .inr (13, [.int (zI (0)), .ref (G.2.2 0), .int (zI (0))]))]) (isC := [0]) (isR := [1]) (isP := [1, 0]) C (vv_cutI rfl rfl rfl rfl (by decide) (fun _ => rfl) rfl) (k20_X13_refuse l hf G q1 q2 q3 q4 q5 q6 q7) yy_X13_refuse (vv_rmI rfl rfl (Nat.le_of_ble_eq_true rfl) (Nat.le_of_ble_eq_true rfl) (Nat.le_of_ble_eq_true rfl) (Nat.le_of_ble_eq_true rfl)) wm1163 wm1165 ws_selects_LatticeworkModel_LatticeworkModel_refuse__I_I_LatticeworkModel_refuse__I_I 0 rfl rfl rfl rfl (Nat.le_of_ble_eq_true rfl) dX13_line_46 (fun v u hp => ?_)
  obtain rfl := hp
  refine vv_nrm (ws1 := [(q1, .inr (12, [.int (zI (1)), .ref q2, .ref q3, .ref q4, .ref q5, .ref q6, .ref q7, .long (0 : Int64)])), (q3, .inr (13, [.int (zI (0)), .ref (G.2.2 0), .int (zI (0))]))]) (st1 := [.int (zI (0))]) rfl rfl ?_
  exact vv_iret C (()) rfl [0, 1] rfl rfl ⟨Nat.le_of_ble_eq_true rfl, Nat.le_of_ble_eq_true rfl⟩ dX13_line_49
set_option maxHeartbeats 4000000 in
set_option maxRecDepth 100000 in
theorem k382_X10_line (l : Launch) (hf : l.stackTraces = false) (G : vv_G) (q1 q2 q3 q4 q5 q6 q7 q8 q9 q10 q11 q12 q13 q14 : Nat) (v15 : Int) (rv1 : -2147483648 ≤ v15 ∧ v15 < 2147483648) (v16 : Int) (rv2 : -2147483648 ≤ v16 ∧ v16 < 2147483648) (v17 : Int) (rv3 : -2147483648 ≤ v17 ∧ v17 < 2147483648) (v18 : Int) (rv4 : -2147483648 ≤ v18 ∧ v18 < 2147483648) (g0 : 0 ≤ v15) : ∀ sz, vx_Met l yX10_line (Cond.code yX10_line cX10_line 7 (some .int) :: gT) ({ frames := 7, cells := 1, slots := 6, locals := 111 } : Room) (va_Pc [.ref q1, .int (zI (v15)), .int (zI (v16)), .int (zI (v17)), .int (zI (v18))] (vv_I G [(q1, .inr (9, [.ref q2, .ref q3, .ref q4, .ref q5, .ref q6, .ref q7, .ref q8, .ref q9, .ref q10])), (q8, .inr (1, [.ref q11, .ref q12, .ref q13, .ref q14, .int (zI (0))]))] sz)) (vv_Q G (fun v (u : Unit) => False) (fun u => []) (va_A [(q1, .inr (9, [.ref q2, .ref q3, .ref q4, .ref q5, .ref q6, .ref q7, .ref q8, .ref q9, .ref q10])), (q8, .inr (1, [.ref q11, .ref q12, .ref q13, .ref q14, .int (zI (0))]))] sz)) (vv_XC G (fun E (u : Unit) => E = "java/lang/IndexOutOfBoundsException") (fun u => [(q1, .inr (9, [.ref q2, .ref q3, .ref q4, .ref q5, .ref q6, .ref q7, .ref q8, .ref q9, .ref q10])), (q8, .inr (1, [.ref q11, .ref q12, .ref q13, .ref q14, .int (zI (0))]))]) (va_A [(q1, .inr (9, [.ref q2, .ref q3, .ref q4, .ref q5, .ref q6, .ref q7, .ref q8, .ref q9, .ref q10])), (q8, .inr (1, [.ref q11, .ref q12, .ref q13, .ref q14, .int (zI (0))]))] sz)) 1 6 (va_A [(q1, .inr (9, [.ref q2, .ref q3, .ref q4, .ref q5, .ref q6, .ref q7, .ref q8, .ref q9, .ref q10])), (q8, .inr (1, [.ref q11, .ref q12, .ref q13, .ref q14, .int (zI (0))]))] sz) := by
  refine vv_startX hf (by decide) (Nat.le_of_ble_eq_true rfl) ?_
  intro p e s m below meth c A C hnm htab
  refine vv_aload_n C 0 dX10_line_0 rfl rfl ?_
  refine vv_iload_n C 1 dX10_line_1 rfl rfl ?_
  refine vv_callVx (As := [.int (zI (v15))]) (rest := []) (wr := []) (ws3 := fun u => [(q1, .inr (9, [.ref q2, .ref q3, .ref q4, .ref q5, .ref q6, .ref q7, .ref q8, .ref q9, .ref q10])), (q8, .inr (1, [.ref q11, .ref q12, .ref q13, .ref q14, .int (zI (0))]))]) (isC := [0, 1]) (isR := []) (isX := [0, 1]) (ws2 := fun _ => []) (isP := []) C (vv_cutI rfl rfl rfl rfl (by decide) (fun _ => rfl) rfl) (vv_cutI rfl rfl rfl rfl (by decide) (fun _ => rfl) rfl) (k368_X10_needFormula l hf G q1 q2 q3 q4 q5 q6 q7 q8 q9 q10 q11 q12 q13 q14 (v15) rv1 (by omega)) yy_X10_needFormula (vv_rmI rfl rfl (Nat.le_of_ble_eq_true rfl) (Nat.le_of_ble_eq_true rfl) (Nat.le_of_ble_eq_true rfl) (Nat.le_of_ble_eq_true rfl)) wm964 wm966 ws_selects_Latticework_Latticework_needFormula__I_V_Latticework_needFormula__I_V 0 rfl rfl rfl rfl (Nat.le_of_ble_eq_true rfl) dX10_line_2 (fun E9 u hp => ?_) (fun v u hp => hp.elim)
  obtain rfl := hp
  exact vv_out C htab ⟨Nat.le_of_ble_eq_true rfl, Nat.le_of_ble_eq_true rfl⟩ () rfl [0, 1] rfl rfl
set_option maxHeartbeats 4000000 in
set_option maxRecDepth 100000 in
theorem k383_L_line (l : Launch) (hf : l.stackTraces = false) (G : vv_G) (q1 q2 q3 q4 q5 q6 q7 q8 q9 q10 q11 q12 q13 q14 q15 : Nat) (v16 : Int) (rv1 : -2147483648 ≤ v16 ∧ v16 < 2147483648) (v17 : Int) (rv2 : -2147483648 ≤ v17 ∧ v17 < 2147483648) (v18 : Int) (rv3 : -2147483648 ≤ v18 ∧ v18 < 2147483648) (v19 : Int) (rv4 : -2147483648 ≤ v19 ∧ v19 < 2147483648) (g0 : 0 ≤ v16) : ∀ sz, Met l yL_line (Cond.codeWith yL_line cL_line 7 (some .int) [(0, 14, 17, 21), (0, 14, 21, 13), (0, 14, 25, 15)] :: gT) ({ frames := 8, cells := 1, slots := 6, locals := 137 } : Room) (va_Pc [.ref q1, .int (zI (v16)), .int (zI (v17)), .int (zI (v18)), .int (zI (v19)), .ref q15] (vv_I G [(q1, .inr (9, [.ref q2, .ref q3, .ref q4, .ref q5, .ref q6, .ref q7, .ref q8, .ref q9, .ref q10])), (q8, .inr (1, [.ref q11, .ref q12, .ref q13, .ref q14, .int (zI (0))]))] sz)) (vv_Q G (fun v (u : Unit) => v = some (.int (zI (1)))) (fun u => [(q1, .inr (9, [.ref q2, .ref q3, .ref q4, .ref q5, .ref q6, .ref q7, .ref q8, .ref q9, .ref q10])), (q8, .inr (1, [.ref q11, .ref q12, .ref q13, .ref q14, .int (zI (0))]))]) (va_A [(q1, .inr (9, [.ref q2, .ref q3, .ref q4, .ref q5, .ref q6, .ref q7, .ref q8, .ref q9, .ref q10])), (q8, .inr (1, [.ref q11, .ref q12, .ref q13, .ref q14, .int (zI (0))]))] sz)) 1 6 (va_A [(q1, .inr (9, [.ref q2, .ref q3, .ref q4, .ref q5, .ref q6, .ref q7, .ref q8, .ref q9, .ref q10])), (q8, .inr (1, [.ref q11, .ref q12, .ref q13, .ref q14, .int (zI (0))]))] sz) := by
  refine vv_startW hf (by decide) (Nat.le_of_ble_eq_true rfl) ?_
  intro p e s m below meth c A C hnm htab
  refine vv_aload C 5 dL_line_0 rfl ?_
  refine vv_iconst (v := zI (0)) C dL_line_2 rfl ?_
  refine vv_aload_n C 0 dL_line_3 rfl rfl ?_
  refine vv_iload_n C 1 dL_line_4 rfl rfl ?_
  refine vv_iload_n C 2 dL_line_5 rfl rfl ?_
  refine vv_iload_n C 3 dL_line_6 rfl rfl ?_
  refine vv_iload C 4 dL_line_7 rfl ?_
  refine vv_callVx (As := [.int (zI (v16)), .int (zI (v17)), .int (zI (v18)), .int (zI (v19))]) (rest := [.int (zI (0)), .ref q15]) (wr := []) (ws3 := fun u => [(q1, .inr (9, [.ref q2, .ref q3, .ref q4, .ref q5, .ref q6, .ref q7, .ref q8, .ref q9, .ref q10])), (q8, .inr (1, [.ref q11, .ref q12, .ref q13, .ref q14, .int (zI (0))]))]) (isC := [0, 1]) (isR := []) (isX := [0, 1]) (ws2 := fun _ => []) (isP := []) C (vv_cutI rfl rfl rfl rfl (by decide) (fun _ => rfl) rfl) (vv_cutI rfl rfl rfl rfl (by decide) (fun _ => rfl) rfl) (k382_X10_line l hf G q1 q2 q3 q4 q5 q6 q7 q8 q9 q10 q11 q12 q13 q14 (v16) rv1 (v17) rv2 (v18) rv3 (v19) rv4 (by omega)) yy_X10_line (vv_rmI rfl rfl (Nat.le_of_ble_eq_true rfl) (Nat.le_of_ble_eq_true rfl) (Nat.le_of_ble_eq_true rfl) (Nat.le_of_ble_eq_true rfl)) wm1004 wm1005 wm1006 0 rfl rfl rfl rfl (Nat.le_of_ble_eq_true rfl) dL_line_9 (fun E9 u hp => ?_) (fun v u hp => hp.elim)
  obtain rfl := hp
  refine vv_catch C htab [] ⟨0, 14, 17, 21⟩ [⟨0, 14, 21, 13⟩, ⟨0, 14, 25, 15⟩] rfl (fun z hz => nomatch hz) rfl (by decide) wm645 (by decide +kernel) (fun qe104 => ?_)
  refine vv_astore (loc1 := [(6, .ref qe104), (0, .ref q1), (1, .int (zI (v16))), (2, .int (zI (v17))), (3, .int (zI (v18))), (4, .int (zI (v19))), (5, .ref q15)]) C dL_line_17 (by decide) rfl ?_
  refine vv_iconst (v := zI (1)) C dL_line_19 rfl ?_
  exact vv_iret C (()) rfl [0, 1] rfl rfl ⟨Nat.le_of_ble_eq_true rfl, Nat.le_of_ble_eq_true rfl⟩ dL_line_20
set_option maxHeartbeats 4000000 in
set_option maxRecDepth 100000 in
theorem k384_X13_line (l : Launch) (hf : l.stackTraces = false) (G : vv_G) (q1 q2 q3 q4 q5 q6 q7 : Nat) (v8 : Int) (rv1 : -2147483648 ≤ v8 ∧ v8 < 2147483648) (v9 : Int) (rv2 : -2147483648 ≤ v9 ∧ v9 < 2147483648) (v10 : Int) (rv3 : -2147483648 ≤ v10 ∧ v10 < 2147483648) (v11 : Int) (rv4 : -2147483648 ≤ v11 ∧ v11 < 2147483648) (g0 : 0 ≤ v8) : ∀ sz, Met l yX13_line (Cond.code yX13_line cX13_line 6 (some .int) :: gT) ({ frames := 2, cells := 0, slots := 0, locals := 43 } : Room) (va_Pc [.ref q1, .int (zI (v8)), .int (zI (v9)), .int (zI (v10)), .int (zI (v11))] (vv_I G [(q1, .inr (12, [.int (zI (0)), .ref q2, .ref q3, .ref q4, .ref q5, .ref q6, .ref q7, .long (0 : Int64)])), (q3, .inr (13, [.int (zI (0)), .ref (G.2.2 0), .int (zI (0))]))] sz)) (vv_Q G (fun v (u : Unit) => v = some (.int (zI (0)))) (fun u => [(q1, .inr (12, [.int (zI (1)), .ref q2, .ref q3, .ref q4, .ref q5, .ref q6, .ref q7, .long (0 : Int64)])), (q3, .inr (13, [.int (zI (0)), .ref (G.2.2 0), .int (zI (0))]))]) (va_A [(q1, .inr (12, [.int (zI (0)), .ref q2, .ref q3, .ref q4, .ref q5, .ref q6, .ref q7, .long (0 : Int64)])), (q3, .inr (13, [.int (zI (0)), .ref (G.2.2 0), .int (zI (0))]))] sz)) 0 0 (va_A [(q1, .inr (12, [.int (zI (0)), .ref q2, .ref q3, .ref q4, .ref q5, .ref q6, .ref q7, .long (0 : Int64)])), (q3, .inr (13, [.int (zI (0)), .ref (G.2.2 0), .int (zI (0))]))] sz) := by
  refine vv_start hf (by decide) (Nat.le_of_ble_eq_true rfl) ?_
  intro p e s m below meth c A C hnm
  refine vv_aload_n C 0 dX13_line_0 rfl rfl ?_
  refine vv_iconst (v := zI (0)) C dX13_line_1 rfl ?_
  refine vv_put (ws1 := [(q1, .inr (12, [.int (zI (0)), .ref q2, .ref q3, .ref q4, .ref q5, .ref q6, .ref q7, .long (0 : Int64)])), (q3, .inr (13, [.int (zI (0)), .ref (G.2.2 0), .int (zI (0))]))]) C 0 rfl rfl vi_X13 tyX13_ok nmX13 0 (by decide) wm1127 rfl rfl rfl (Nat.le_of_ble_eq_true rfl) rfl dX13_line_2 ?_
  refine vv_aload_n C 0 dX13_line_5 rfl rfl ?_
  refine vv_iload_n C 1 dX13_line_6 rfl rfl ?_
  refine vv_callV (As := [.int (zI (v8))]) (rest := []) (wr := []) (ws2 := fun u => [(q1, .inr (12, [.int (zI (0)), .ref q2, .ref q3, .ref q4, .ref q5, .ref q6, .ref q7, .long (0 : Int64)])), (q3, .inr (13, [.int (zI (0)), .ref (G.2.2 0), .int (zI (0))]))]) (isC := [0, 1]) (isR := []) (isP := [0, 1]) C (vv_cutI rfl rfl rfl rfl (by decide) (fun _ => rfl) rfl) (k371_X13_isFormula l hf G q1 q2 q3 q4 q5 q6 q7 (v8) rv1 (by omega)) yy_X13_isFormula (vv_rmI rfl rfl (Nat.le_of_ble_eq_true rfl) (Nat.le_of_ble_eq_true rfl) (Nat.le_of_ble_eq_true rfl) (Nat.le_of_ble_eq_true rfl)) wm1894 wm1896 ws_selects_LatticeworkModel_LatticeworkModel_isFormula__I_Z_LatticeworkModel_isFormula__I_Z 0 rfl rfl rfl rfl (Nat.le_of_ble_eq_true rfl) dX13_line_7 (fun v u hp => ?_)
  obtain rfl := hp
  refine vv_nrm (ws1 := [(q1, .inr (12, [.int (zI (0)), .ref q2, .ref q3, .ref q4, .ref q5, .ref q6, .ref q7, .long (0 : Int64)])), (q3, .inr (13, [.int (zI (0)), .ref (G.2.2 0), .int (zI (0))]))]) (st1 := [.int (zI (0))]) rfl rfl ?_
  refine vv_if_eq (tgt := 44) C dX13_line_10 (by decide) (by omega) (fun h => ?_) (fun h => by exfalso; omega)
  refine vv_aload_n C 0 dX13_line_44 rfl rfl ?_
  refine vv_iconst (v := zI (1)) C dX13_line_45 rfl ?_
  refine vv_callV (As := [.int (zI (1))]) (rest := []) (wr := [(q3, .inr (13, [.int (zI (0)), .ref (G.2.2 0), .int (zI (0))]))]) (ws2 := fun u => [(q1, .inr (12, [.int (zI (1)), .ref q2, .ref q3, .ref q4, .ref q5, .ref q6, .ref q7, .long (0 : Int64)])), (q3, .inr (13, [.int (zI (0)), .ref (G.2.2 0), .int (zI (0))]))]) (isC := [0]) (isR := [1]) (isP := [1, 0]) C (vv_cutI rfl rfl rfl rfl (by decide) (fun _ => rfl) rfl) (k20_X13_refuse l hf G q1 q2 q3 q4 q5 q6 q7) yy_X13_refuse (vv_rmI rfl rfl (Nat.le_of_ble_eq_true rfl) (Nat.le_of_ble_eq_true rfl) (Nat.le_of_ble_eq_true rfl) (Nat.le_of_ble_eq_true rfl)) wm1163 wm1165 ws_selects_LatticeworkModel_LatticeworkModel_refuse__I_I_LatticeworkModel_refuse__I_I 0 rfl rfl rfl rfl (Nat.le_of_ble_eq_true rfl) dX13_line_46 (fun v u hp => ?_)
  obtain rfl := hp
  refine vv_nrm (ws1 := [(q1, .inr (12, [.int (zI (1)), .ref q2, .ref q3, .ref q4, .ref q5, .ref q6, .ref q7, .long (0 : Int64)])), (q3, .inr (13, [.int (zI (0)), .ref (G.2.2 0), .int (zI (0))]))]) (st1 := [.int (zI (0))]) rfl rfl ?_
  exact vv_iret C (()) rfl [0, 1] rfl rfl ⟨Nat.le_of_ble_eq_true rfl, Nat.le_of_ble_eq_true rfl⟩ dX13_line_49
set_option maxHeartbeats 4000000 in
set_option maxRecDepth 100000 in
theorem k385_X10_unline (l : Launch) (hf : l.stackTraces = false) (G : vv_G) (q1 q2 q3 q4 q5 q6 q7 q8 q9 q10 q11 q12 q13 q14 q15 q16 : Nat) : ∀ sz, vx_Met l yX10_unline (Cond.code yX10_unline cX10_unline 1 (some .int) :: gT) ({ frames := 6, cells := 1, slots := 6, locals := 90 } : Room) (va_Pc [.ref q1] (vv_I G [(q1, .inr (9, [.ref q2, .ref q3, .ref q4, .ref q5, .ref q6, .ref q7, .ref q8, .ref q9, .ref q10])), (q10, .inr (3, [.ref q8, .ref q9, .ref q11, .ref q12, .ref q13, .ref q14, .ref q15, .ref q16, .int (zI (0))]))] sz)) (vv_Q G (fun v (u : Unit) => False) (fun u => []) (va_A [(q1, .inr (9, [.ref q2, .ref q3, .ref q4, .ref q5, .ref q6, .ref q7, .ref q8, .ref q9, .ref q10])), (q10, .inr (3, [.ref q8, .ref q9, .ref q11, .ref q12, .ref q13, .ref q14, .ref q15, .ref q16, .int (zI (0))]))] sz)) (vv_XC G (fun E (u : Unit) => E = "java/lang/IllegalStateException") (fun u => [(q1, .inr (9, [.ref q2, .ref q3, .ref q4, .ref q5, .ref q6, .ref q7, .ref q8, .ref q9, .ref q10])), (q10, .inr (3, [.ref q8, .ref q9, .ref q11, .ref q12, .ref q13, .ref q14, .ref q15, .ref q16, .int (zI (0))]))]) (va_A [(q1, .inr (9, [.ref q2, .ref q3, .ref q4, .ref q5, .ref q6, .ref q7, .ref q8, .ref q9, .ref q10])), (q10, .inr (3, [.ref q8, .ref q9, .ref q11, .ref q12, .ref q13, .ref q14, .ref q15, .ref q16, .int (zI (0))]))] sz)) 1 6 (va_A [(q1, .inr (9, [.ref q2, .ref q3, .ref q4, .ref q5, .ref q6, .ref q7, .ref q8, .ref q9, .ref q10])), (q10, .inr (3, [.ref q8, .ref q9, .ref q11, .ref q12, .ref q13, .ref q14, .ref q15, .ref q16, .int (zI (0))]))] sz) := by
  refine vv_startX hf (by decide) (Nat.le_of_ble_eq_true rfl) ?_
  intro p e s m below meth c A C hnm htab
  refine vv_aload_n C 0 dX10_unline_0 rfl rfl ?_
  refine vv_get C 0 rfl rfl vi_X10 8 (by decide) wm332 rfl dX10_unline_1 ?_
  refine vv_get C 1 rfl rfl vi_X4 8 (by decide) wm303 rfl dX10_unline_4 ?_
  refine vv_if_gt (tgt := 21) C dX10_unline_7 (by decide) (by omega) (fun h => by exfalso; omega) (fun h => ?_)
  exact vv_throwW C tw_X10_152_261 htab dX10_unline_10 dX10_unline_13 dX10_unline_14 dX10_unline_17 dX10_unline_20 ⟨Nat.le_of_ble_eq_true rfl, Nat.le_of_ble_eq_true rfl, Nat.le_of_ble_eq_true rfl, Nat.le_of_ble_eq_true rfl, Nat.le_of_ble_eq_true rfl, Nat.le_of_ble_eq_true rfl⟩ () rfl [0, 1] rfl rfl
set_option maxHeartbeats 4000000 in
set_option maxRecDepth 100000 in
theorem k386_L_unline (l : Launch) (hf : l.stackTraces = false) (G : vv_G) (q1 q2 q3 q4 q5 q6 q7 q8 q9 q10 q11 q12 q13 q14 q15 q16 q17 : Nat) : ∀ sz, Met l yL_unline (Cond.codeWith yL_unline cL_unline 3 (some .int) [(0, 8, 11, 15)] :: gT) ({ frames := 7, cells := 1, slots := 6, locals := 110 } : Room) (va_Pc [.ref q1, .ref q17] (vv_I G [(q1, .inr (9, [.ref q2, .ref q3, .ref q4, .ref q5, .ref q6, .ref q7, .ref q8, .ref q9, .ref q10])), (q10, .inr (3, [.ref q8, .ref q9, .ref q11, .ref q12, .ref q13, .ref q14, .ref q15, .ref q16, .int (zI (0))]))] sz)) (vv_Q G (fun v (u : Unit) => v = some (.int (zI (1)))) (fun u => [(q1, .inr (9, [.ref q2, .ref q3, .ref q4, .ref q5, .ref q6, .ref q7, .ref q8, .ref q9, .ref q10])), (q10, .inr (3, [.ref q8, .ref q9, .ref q11, .ref q12, .ref q13, .ref q14, .ref q15, .ref q16, .int (zI (0))]))]) (va_A [(q1, .inr (9, [.ref q2, .ref q3, .ref q4, .ref q5, .ref q6, .ref q7, .ref q8, .ref q9, .ref q10])), (q10, .inr (3, [.ref q8, .ref q9, .ref q11, .ref q12, .ref q13, .ref q14, .ref q15, .ref q16, .int (zI (0))]))] sz)) 1 6 (va_A [(q1, .inr (9, [.ref q2, .ref q3, .ref q4, .ref q5, .ref q6, .ref q7, .ref q8, .ref q9, .ref q10])), (q10, .inr (3, [.ref q8, .ref q9, .ref q11, .ref q12, .ref q13, .ref q14, .ref q15, .ref q16, .int (zI (0))]))] sz) := by
  refine vv_startW hf (by decide) (Nat.le_of_ble_eq_true rfl) ?_
  intro p e s m below meth c A C hnm htab
  refine vv_aload_n C 1 dL_unline_0 rfl rfl ?_
  refine vv_iconst (v := zI (0)) C dL_unline_1 rfl ?_
  refine vv_aload_n C 0 dL_unline_2 rfl rfl ?_
  refine vv_callVx (As := []) (rest := [.int (zI (0)), .ref q17]) (wr := []) (ws3 := fun u => [(q1, .inr (9, [.ref q2, .ref q3, .ref q4, .ref q5, .ref q6, .ref q7, .ref q8, .ref q9, .ref q10])), (q10, .inr (3, [.ref q8, .ref q9, .ref q11, .ref q12, .ref q13, .ref q14, .ref q15, .ref q16, .int (zI (0))]))]) (isC := [0, 1]) (isR := []) (isX := [0, 1]) (ws2 := fun _ => []) (isP := []) C (vv_cutI rfl rfl rfl rfl (by decide) (fun _ => rfl) rfl) (vv_cutI rfl rfl rfl rfl (by decide) (fun _ => rfl) rfl) (k385_X10_unline l hf G q1 q2 q3 q4 q5 q6 q7 q8 q9 q10 q11 q12 q13 q14 q15 q16) yy_X10_unline (vv_rmI rfl rfl (Nat.le_of_ble_eq_true rfl) (Nat.le_of_ble_eq_true rfl) (Nat.le_of_ble_eq_true rfl) (Nat.le_of_ble_eq_true rfl)) wm1027 wm1028 wm1029 0 rfl rfl rfl rfl (Nat.le_of_ble_eq_true rfl) dL_unline_3 (fun E9 u hp => ?_) (fun v u hp => hp.elim)
  obtain rfl := hp
  refine vv_catch C htab [] ⟨0, 8, 11, 15⟩ [] rfl (fun z hz => nomatch hz) rfl (by decide) wm542 (by decide +kernel) (fun qe105 => ?_)
  refine vv_astore_n (loc1 := [(2, .ref qe105), (0, .ref q1), (1, .ref q17)]) C dL_unline_11 rfl (by decide) rfl ?_
  refine vv_iconst (v := zI (1)) C dL_unline_12 rfl ?_
  exact vv_iret C (()) rfl [0, 1] rfl rfl ⟨Nat.le_of_ble_eq_true rfl, Nat.le_of_ble_eq_true rfl⟩ dL_unline_13
