set_option maxHeartbeats 4000000 in
set_option maxRecDepth 100000 in
theorem k315_X13_formula (l : Launch) (hf : l.stackTraces = false) (G : vv_G) (q1 q2 q3 q4 q5 q6 q7 : Nat) (v8 : Int) (rv2 : -2147483648 ≤ v8 ∧ v8 < 2147483648) (v9 : Int) (rv3 : -2147483648 ≤ v9 ∧ v9 < 2147483648) (g0 : v8 ≤ -1) : ∀ sz, Met l yX13_formula (Cond.code yX13_formula cX13_formula 8 (some .int) :: gT) ({ frames := 2, cells := 0, slots := 0, locals := 43 } : Room) (va_Pc [.ref q1, .int (zI (2)), .int (zI (v8)), .int (zI (v9))] (vv_I G [(q1, .inr (12, [.int (zI (0)), .ref q2, .ref q3, .ref q4, .ref q5, .ref q6, .ref q7, .long (0 : Int64)])), (q3, .inr (13, [.int (zI (0)), .ref (G.2.2 0), .int (zI (0))]))] sz)) (vv_Q G (fun v (u : Unit) => v = some (.int (zI (0)))) (fun u => [(q1, .inr (12, [.int (zI (1)), .ref q2, .ref q3, .ref q4, .ref q5, .ref q6, .ref q7, .long (0 : Int64)])), (q3, .inr (13, [.int (zI (0)), .ref (G.2.2 0), .int (zI (0))]))]) (va_A [(q1, .inr (12, [.int (zI (0)), .ref q2, .ref q3, .ref q4, .ref q5, .ref q6, .ref q7, .long (0 : Int64)])), (q3, .inr (13, [.int (zI (0)), .ref (G.2.2 0), .int (zI (0))]))] sz)) 0 0 (va_A [(q1, .inr (12, [.int (zI (0)), .ref q2, .ref q3, .ref q4, .ref q5, .ref q6, .ref q7, .long (0 : Int64)])), (q3, .inr (13, [.int (zI (0)), .ref (G.2.2 0), .int (zI (0))]))] sz) := by
  refine vv_start hf (by decide) (Nat.le_of_ble_eq_true rfl) ?_
  intro p e s m below meth c A C hnm
  refine vv_aload_n C 0 dX13_formula_0 rfl rfl ?_
  refine vv_iconst (v := zI (0)) C dX13_formula_1 rfl ?_
  refine vv_put (ws1 := [(q1, .inr (12, [.int (zI (0)), .ref q2, .ref q3, .ref q4, .ref q5, .ref q6, .ref q7, .long (0 : Int64)])), (q3, .inr (13, [.int (zI (0)), .ref (G.2.2 0), .int (zI (0))]))]) C 0 rfl rfl vi_X13 tyX13_ok nmX13 0 (by decide) wm1127 rfl rfl rfl (Nat.le_of_ble_eq_true rfl) rfl dX13_formula_2 ?_
  refine vv_iload_n C 1 dX13_formula_5 rfl rfl ?_
  refine vv_iconst (v := zI (1)) C dX13_formula_6 rfl ?_
  refine vv_icmp_ne (tgt := 32) C dX13_formula_7 (by decide) (by omega) (by omega) (fun h => ?_) (fun h => by exfalso; omega)
  refine vv_iload_n C 1 dX13_formula_32 rfl rfl ?_
  refine vv_iconst (v := zI (2)) C dX13_formula_33 rfl ?_
  refine vv_iconst (v := zI (5)) C dX13_formula_34 rfl ?_
  refine vv_callS (As := [.int (zI (2)), .int (zI (2)), .int (zI (5))]) (rest := []) (wr := [(q1, .inr (12, [.int (zI (0)), .ref q2, .ref q3, .ref q4, .ref q5, .ref q6, .ref q7, .long (0 : Int64)])), (q3, .inr (13, [.int (zI (0)), .ref (G.2.2 0), .int (zI (0))]))]) (ws2 := fun u => [(q1, .inr (12, [.int (zI (0)), .ref q2, .ref q3, .ref q4, .ref q5, .ref q6, .ref q7, .long (0 : Int64)])), (q3, .inr (13, [.int (zI (0)), .ref (G.2.2 0), .int (zI (0))]))]) (isC := []) (isR := [0, 1]) (isP := [0, 1]) C (vv_cutI rfl rfl rfl rfl (by decide) (fun _ => rfl) rfl) (k313_X13_is l hf G ) yy_X13_is (vv_rmI rfl rfl (Nat.le_of_ble_eq_true rfl) (Nat.le_of_ble_eq_true rfl) (Nat.le_of_ble_eq_true rfl) (Nat.le_of_ble_eq_true rfl)) wm1160 wm1161 rfl rfl (Nat.le_of_ble_eq_true rfl) dX13_formula_35 (fun v u hp => ?_)
  obtain rfl := hp
  refine vv_nrm (ws1 := [(q1, .inr (12, [.int (zI (0)), .ref q2, .ref q3, .ref q4, .ref q5, .ref q6, .ref q7, .long (0 : Int64)])), (q3, .inr (13, [.int (zI (0)), .ref (G.2.2 0), .int (zI (0))]))]) (st1 := [.int (zI (1))]) rfl rfl ?_
  refine vv_if_eq (tgt := 68) C dX13_formula_38 (by decide) (by omega) (fun h => by exfalso; omega) (fun h => ?_)
  refine vv_aload_n C 0 dX13_formula_41 rfl rfl ?_
  refine vv_iload_n C 2 dX13_formula_42 rfl rfl ?_
  refine vv_callV (As := [.int (zI (v8))]) (rest := []) (wr := []) (ws2 := fun u => [(q1, .inr (12, [.int (zI (0)), .ref q2, .ref q3, .ref q4, .ref q5, .ref q6, .ref q7, .long (0 : Int64)])), (q3, .inr (13, [.int (zI (0)), .ref (G.2.2 0), .int (zI (0))]))]) (isC := [0, 1]) (isR := []) (isP := [0, 1]) C (vv_cutI rfl rfl rfl rfl (by decide) (fun _ => rfl) rfl) (k314_X13_isFormula l hf G q1 q2 q3 q4 q5 q6 q7 (v8) rv2 (by omega)) yy_X13_isFormula (vv_rmI rfl rfl (Nat.le_of_ble_eq_true rfl) (Nat.le_of_ble_eq_true rfl) (Nat.le_of_ble_eq_true rfl) (Nat.le_of_ble_eq_true rfl)) wm1894 wm1896 ws_selects_LatticeworkModel_LatticeworkModel_isFormula__I_Z_LatticeworkModel_isFormula__I_Z 0 rfl rfl rfl rfl (Nat.le_of_ble_eq_true rfl) dX13_formula_43 (fun v u hp => ?_)
  obtain rfl := hp
  refine vv_nrm (ws1 := [(q1, .inr (12, [.int (zI (0)), .ref q2, .ref q3, .ref q4, .ref q5, .ref q6, .ref q7, .long (0 : Int64)])), (q3, .inr (13, [.int (zI (0)), .ref (G.2.2 0), .int (zI (0))]))]) (st1 := [.int (zI (0))]) rfl rfl ?_
  refine vv_if_eq (tgt := 62) C dX13_formula_46 (by decide) (by omega) (fun h => ?_) (fun h => by exfalso; omega)
  refine vv_aload_n C 0 dX13_formula_62 rfl rfl ?_
  refine vv_iconst (v := zI (1)) C dX13_formula_63 rfl ?_
  refine vv_callV (As := [.int (zI (1))]) (rest := []) (wr := [(q3, .inr (13, [.int (zI (0)), .ref (G.2.2 0), .int (zI (0))]))]) (ws2 := fun u => [(q1, .inr (12, [.int (zI (1)), .ref q2, .ref q3, .ref q4, .ref q5, .ref q6, .ref q7, .long (0 : Int64)])), (q3, .inr (13, [.int (zI (0)), .ref (G.2.2 0), .int (zI (0))]))]) (isC := [0]) (isR := [1]) (isP := [1, 0]) C (vv_cutI rfl rfl rfl rfl (by decide) (fun _ => rfl) rfl) (k20_X13_refuse l hf G q1 q2 q3 q4 q5 q6 q7) yy_X13_refuse (vv_rmI rfl rfl (Nat.le_of_ble_eq_true rfl) (Nat.le_of_ble_eq_true rfl) (Nat.le_of_ble_eq_true rfl) (Nat.le_of_ble_eq_true rfl)) wm1163 wm1165 ws_selects_LatticeworkModel_LatticeworkModel_refuse__I_I_LatticeworkModel_refuse__I_I 0 rfl rfl rfl rfl (Nat.le_of_ble_eq_true rfl) dX13_formula_64 (fun v u hp => ?_)
  obtain rfl := hp
  refine vv_nrm (ws1 := [(q1, .inr (12, [.int (zI (1)), .ref q2, .ref q3, .ref q4, .ref q5, .ref q6, .ref q7, .long (0 : Int64)])), (q3, .inr (13, [.int (zI (0)), .ref (G.2.2 0), .int (zI (0))]))]) (st1 := [.int (zI (0))]) rfl rfl ?_
  exact vv_iret C (()) rfl [0, 1] rfl rfl ⟨Nat.le_of_ble_eq_true rfl, Nat.le_of_ble_eq_true rfl⟩ dX13_formula_67
set_option maxHeartbeats 4000000 in
set_option maxRecDepth 100000 in
theorem k316_X10_needParts (l : Launch) (hf : l.stackTraces = false) (G : vv_G) (q1 q2 q3 q4 q5 q6 q7 q8 q9 q10 : Nat) (v11 : Int) (rv2 : -2147483648 ≤ v11 ∧ v11 < 2147483648) (v12 : Int) (rv3 : -2147483648 ≤ v12 ∧ v12 < 2147483648) (g0 : v11 ≤ -1) : ∀ sz, vx_Met l yX10_needParts (Cond.code yX10_needParts cX10_needParts 4 none :: gT) ({ frames := 7, cells := 1, slots := 6, locals := 111 } : Room) (va_Pc [.ref q1, .int (zI (3)), .int (zI (v11)), .int (zI (v12))] (vv_I G [(q1, .inr (9, [.ref q2, .ref q3, .ref q4, .ref q5, .ref q6, .ref q7, .ref q8, .ref q9, .ref q10]))] sz)) (vv_Q G (fun v (u : Unit) => False) (fun u => []) (va_A [(q1, .inr (9, [.ref q2, .ref q3, .ref q4, .ref q5, .ref q6, .ref q7, .ref q8, .ref q9, .ref q10]))] sz)) (vv_XC G (fun E (u : Unit) => E = "java/lang/IndexOutOfBoundsException") (fun u => [(q1, .inr (9, [.ref q2, .ref q3, .ref q4, .ref q5, .ref q6, .ref q7, .ref q8, .ref q9, .ref q10]))]) (va_A [(q1, .inr (9, [.ref q2, .ref q3, .ref q4, .ref q5, .ref q6, .ref q7, .ref q8, .ref q9, .ref q10]))] sz)) 1 6 (va_A [(q1, .inr (9, [.ref q2, .ref q3, .ref q4, .ref q5, .ref q6, .ref q7, .ref q8, .ref q9, .ref q10]))] sz) := by
  refine vv_startX hf (by decide) (Nat.le_of_ble_eq_true rfl) ?_
  intro p e s m below meth c A C hnm htab
  refine vv_iload_n C 1 dX10_needParts_0 rfl rfl ?_
  refine vv_iconst (v := zI (1)) C dX10_needParts_1 rfl ?_
  refine vv_icmp_ne (tgt := 15) C dX10_needParts_2 (by decide) (by omega) (by omega) (fun h => ?_) (fun h => by exfalso; omega)
  refine vv_iload_n C 1 dX10_needParts_15 rfl rfl ?_
  refine vv_iconst (v := zI (2)) C dX10_needParts_16 rfl ?_
  refine vv_icmp_lt (tgt := 30) C dX10_needParts_17 (by decide) (by omega) (by omega) (fun h => by exfalso; omega) (fun h => ?_)
  refine vv_iload_n C 1 dX10_needParts_20 rfl rfl ?_
  refine vv_iconst (v := zI (5)) C dX10_needParts_21 rfl ?_
  refine vv_icmp_gt (tgt := 30) C dX10_needParts_22 (by decide) (by omega) (by omega) (fun h => by exfalso; omega) (fun h => ?_)
  refine vv_aload_n C 0 dX10_needParts_25 rfl rfl ?_
  refine vv_iload_n C 2 dX10_needParts_26 rfl rfl ?_
  refine vv_callVx (As := [.int (zI (v11))]) (rest := []) (wr := []) (ws3 := fun u => [(q1, .inr (9, [.ref q2, .ref q3, .ref q4, .ref q5, .ref q6, .ref q7, .ref q8, .ref q9, .ref q10]))]) (isC := [0]) (isR := []) (isX := [0]) (ws2 := fun _ => []) (isP := []) C (vv_cutI rfl rfl rfl rfl (by decide) (fun _ => rfl) rfl) (vv_cutI rfl rfl rfl rfl (by decide) (fun _ => rfl) rfl) (k309_X10_needFormula l hf G q1 q2 q3 q4 q5 q6 q7 q8 q9 q10 (v11) rv2 (by omega)) yy_X10_needFormula (vv_rmI rfl rfl (Nat.le_of_ble_eq_true rfl) (Nat.le_of_ble_eq_true rfl) (Nat.le_of_ble_eq_true rfl) (Nat.le_of_ble_eq_true rfl)) wm964 wm966 ws_selects_Latticework_Latticework_needFormula__I_V_Latticework_needFormula__I_V 0 rfl rfl rfl rfl (Nat.le_of_ble_eq_true rfl) dX10_needParts_27 (fun E9 u hp => ?_) (fun v u hp => hp.elim)
  obtain rfl := hp
  exact vv_out C htab ⟨Nat.le_of_ble_eq_true rfl, Nat.le_of_ble_eq_true rfl⟩ () rfl [0] rfl rfl
set_option maxHeartbeats 4000000 in
set_option maxRecDepth 100000 in
theorem k317_X10_formula (l : Launch) (hf : l.stackTraces = false) (G : vv_G) (q1 q2 q3 q4 q5 q6 q7 q8 q9 q10 : Nat) (v11 : Int) (rv2 : -2147483648 ≤ v11 ∧ v11 < 2147483648) (v12 : Int) (rv3 : -2147483648 ≤ v12 ∧ v12 < 2147483648) (g0 : v11 ≤ -1) : ∀ sz, vx_Met l yX10_formula (Cond.code yX10_formula cX10_formula 5 (some .int) :: gT) ({ frames := 8, cells := 1, slots := 6, locals := 134 } : Room) (va_Pc [.ref q1, .int (zI (3)), .int (zI (v11)), .int (zI (v12))] (vv_I G [(q1, .inr (9, [.ref q2, .ref q3, .ref q4, .ref q5, .ref q6, .ref q7, .ref q8, .ref q9, .ref q10]))] sz)) (vv_Q G (fun v (u : Unit) => False) (fun u => []) (va_A [(q1, .inr (9, [.ref q2, .ref q3, .ref q4, .ref q5, .ref q6, .ref q7, .ref q8, .ref q9, .ref q10]))] sz)) (vv_XC G (fun E (u : Unit) => E = "java/lang/IndexOutOfBoundsException") (fun u => [(q1, .inr (9, [.ref q2, .ref q3, .ref q4, .ref q5, .ref q6, .ref q7, .ref q8, .ref q9, .ref q10]))]) (va_A [(q1, .inr (9, [.ref q2, .ref q3, .ref q4, .ref q5, .ref q6, .ref q7, .ref q8, .ref q9, .ref q10]))] sz)) 1 6 (va_A [(q1, .inr (9, [.ref q2, .ref q3, .ref q4, .ref q5, .ref q6, .ref q7, .ref q8, .ref q9, .ref q10]))] sz) := by
  refine vv_startX hf (by decide) (Nat.le_of_ble_eq_true rfl) ?_
  intro p e s m below meth c A C hnm htab
  refine vv_aload_n C 0 dX10_formula_0 rfl rfl ?_
  refine vv_iload_n C 1 dX10_formula_1 rfl rfl ?_
  refine vv_iload_n C 2 dX10_formula_2 rfl rfl ?_
  refine vv_iload_n C 3 dX10_formula_3 rfl rfl ?_
  refine vv_callVx (As := [.int (zI (3)), .int (zI (v11)), .int (zI (v12))]) (rest := []) (wr := []) (ws3 := fun u => [(q1, .inr (9, [.ref q2, .ref q3, .ref q4, .ref q5, .ref q6, .ref q7, .ref q8, .ref q9, .ref q10]))]) (isC := [0]) (isR := []) (isX := [0]) (ws2 := fun _ => []) (isP := []) C (vv_cutI rfl rfl rfl rfl (by decide) (fun _ => rfl) rfl) (vv_cutI rfl rfl rfl rfl (by decide) (fun _ => rfl) rfl) (k316_X10_needParts l hf G q1 q2 q3 q4 q5 q6 q7 q8 q9 q10 (v11) rv2 (v12) rv3 (by omega)) yy_X10_needParts (vv_rmI rfl rfl (Nat.le_of_ble_eq_true rfl) (Nat.le_of_ble_eq_true rfl) (Nat.le_of_ble_eq_true rfl) (Nat.le_of_ble_eq_true rfl)) wm960 wm962 ws_selects_Latticework_Latticework_needParts__III_V_Latticework_needParts__III_V 0 rfl rfl rfl rfl (Nat.le_of_ble_eq_true rfl) dX10_formula_4 (fun E9 u hp => ?_) (fun v u hp => hp.elim)
  obtain rfl := hp
  exact vv_out C htab ⟨Nat.le_of_ble_eq_true rfl, Nat.le_of_ble_eq_true rfl⟩ () rfl [0] rfl rfl
set_option maxHeartbeats 4000000 in
set_option maxRecDepth 100000 in
theorem k318_L_formula (l : Launch) (hf : l.stackTraces = false) (G : vv_G) (q1 q2 q3 q4 q5 q6 q7 q8 q9 q10 q11 : Nat) (v12 : Int) (rv2 : -2147483648 ≤ v12 ∧ v12 < 2147483648) (v13 : Int) (rv3 : -2147483648 ≤ v13 ∧ v13 < 2147483648) (g0 : v12 ≤ -1) : ∀ sz, Met l yL_formula (Cond.codeWith yL_formula cL_formula 6 (some .int) [(0, 12, 15, 21), (0, 12, 19, 13), (0, 12, 23, 15)] :: gT) ({ frames := 9, cells := 1, slots := 6, locals := 158 } : Room) (va_Pc [.ref q1, .int (zI (3)), .int (zI (v12)), .int (zI (v13)), .ref q11] (vv_I G [(q1, .inr (9, [.ref q2, .ref q3, .ref q4, .ref q5, .ref q6, .ref q7, .ref q8, .ref q9, .ref q10]))] sz)) (vv_Q G (fun v (u : Unit) => v = some (.int (zI (1)))) (fun u => [(q1, .inr (9, [.ref q2, .ref q3, .ref q4, .ref q5, .ref q6, .ref q7, .ref q8, .ref q9, .ref q10]))]) (va_A [(q1, .inr (9, [.ref q2, .ref q3, .ref q4, .ref q5, .ref q6, .ref q7, .ref q8, .ref q9, .ref q10]))] sz)) 1 6 (va_A [(q1, .inr (9, [.ref q2, .ref q3, .ref q4, .ref q5, .ref q6, .ref q7, .ref q8, .ref q9, .ref q10]))] sz) := by
  refine vv_startW hf (by decide) (Nat.le_of_ble_eq_true rfl) ?_
  intro p e s m below meth c A C hnm htab
  refine vv_aload C 4 dL_formula_0 rfl ?_
  refine vv_iconst (v := zI (0)) C dL_formula_2 rfl ?_
  refine vv_aload_n C 0 dL_formula_3 rfl rfl ?_
  refine vv_iload_n C 1 dL_formula_4 rfl rfl ?_
  refine vv_iload_n C 2 dL_formula_5 rfl rfl ?_
  refine vv_iload_n C 3 dL_formula_6 rfl rfl ?_
  refine vv_callVx (As := [.int (zI (3)), .int (zI (v12)), .int (zI (v13))]) (rest := [.int (zI (0)), .ref q11]) (wr := []) (ws3 := fun u => [(q1, .inr (9, [.ref q2, .ref q3, .ref q4, .ref q5, .ref q6, .ref q7, .ref q8, .ref q9, .ref q10]))]) (isC := [0]) (isR := []) (isX := [0]) (ws2 := fun _ => []) (isP := []) C (vv_cutI rfl rfl rfl rfl (by decide) (fun _ => rfl) rfl) (vv_cutI rfl rfl rfl rfl (by decide) (fun _ => rfl) rfl) (k317_X10_formula l hf G q1 q2 q3 q4 q5 q6 q7 q8 q9 q10 (v12) rv2 (v13) rv3 (by omega)) yy_X10_formula (vv_rmI rfl rfl (Nat.le_of_ble_eq_true rfl) (Nat.le_of_ble_eq_true rfl) (Nat.le_of_ble_eq_true rfl) (Nat.le_of_ble_eq_true rfl)) wm956 wm957 wm958 0 rfl rfl rfl rfl (Nat.le_of_ble_eq_true rfl) dL_formula_7 (fun E9 u hp => ?_) (fun v u hp => hp.elim)
  obtain rfl := hp
  refine vv_catch C htab [] ⟨0, 12, 15, 21⟩ [⟨0, 12, 19, 13⟩, ⟨0, 12, 23, 15⟩] rfl (fun z hz => nomatch hz) rfl (by decide) wm645 (by decide +kernel) (fun qe90 => ?_)
  refine vv_astore (loc1 := [(5, .ref qe90), (0, .ref q1), (1, .int (zI (3))), (2, .int (zI (v12))), (3, .int (zI (v13))), (4, .ref q11)]) C dL_formula_15 (by decide) rfl ?_
  refine vv_iconst (v := zI (1)) C dL_formula_17 rfl ?_
  exact vv_iret C (()) rfl [0] rfl rfl ⟨Nat.le_of_ble_eq_true rfl, Nat.le_of_ble_eq_true rfl⟩ dL_formula_18
set_option maxHeartbeats 4000000 in
set_option maxRecDepth 100000 in
theorem k319_X13_is (l : Launch) (hf : l.stackTraces = false) (G : vv_G)  : ∀ sz, Met l yX13_is (Cond.code yX13_is cX13_is 3 (some .boolean) :: gT) ({ frames := 0, cells := 0, slots := 0, locals := 0 } : Room) (va_Pc [.int (zI (3)), .int (zI (2)), .int (zI (5))] (vv_I G [] sz)) (vv_Q G (fun v (u : Unit) => v = some (.int (zI (1)))) (fun u => []) (va_A [] sz)) 0 0 (va_A [] sz) := by
  refine vv_start hf (by decide) (Nat.le_of_ble_eq_true rfl) ?_
  intro p e s m below meth c A C hnm
  refine vv_iload_n C 0 dX13_is_0 rfl rfl ?_
  refine vv_iload_n C 1 dX13_is_1 rfl rfl ?_
  refine vv_icmp_lt (tgt := 14) C dX13_is_2 (by decide) (by omega) (by omega) (fun h => by exfalso; omega) (fun h => ?_)
  refine vv_iload_n C 0 dX13_is_5 rfl rfl ?_
  refine vv_iload_n C 2 dX13_is_6 rfl rfl ?_
  refine vv_icmp_gt (tgt := 14) C dX13_is_7 (by decide) (by omega) (by omega) (fun h => by exfalso; omega) (fun h => ?_)
  refine vv_iconst (v := zI (1)) C dX13_is_10 rfl ?_
  refine vv_goto C 15 dX13_is_11 (by decide) ?_
  exact vv_zret C (by decide) (()) rfl [] rfl rfl ⟨Nat.le_of_ble_eq_true rfl, Nat.le_of_ble_eq_true rfl⟩ dX13_is_15
set_option maxHeartbeats 4000000 in
set_option maxRecDepth 100000 in
theorem k320_X13_formula (l : Launch) (hf : l.stackTraces = false) (G : vv_G) (q1 q2 q3 q4 q5 q6 q7 : Nat) (v8 : Int) (rv2 : -2147483648 ≤ v8 ∧ v8 < 2147483648) (v9 : Int) (rv3 : -2147483648 ≤ v9 ∧ v9 < 2147483648) (g0 : v8 ≤ -1) : ∀ sz, Met l yX13_formula (Cond.code yX13_formula cX13_formula 8 (some .int) :: gT) ({ frames := 2, cells := 0, slots := 0, locals := 43 } : Room) (va_Pc [.ref q1, .int (zI (3)), .int (zI (v8)), .int (zI (v9))] (vv_I G [(q1, .inr (12, [.int (zI (0)), .ref q2, .ref q3, .ref q4, .ref q5, .ref q6, .ref q7, .long (0 : Int64)])), (q3, .inr (13, [.int (zI (0)), .ref (G.2.2 0), .int (zI (0))]))] sz)) (vv_Q G (fun v (u : Unit) => v = some (.int (zI (0)))) (fun u => [(q1, .inr (12, [.int (zI (1)), .ref q2, .ref q3, .ref q4, .ref q5, .ref q6, .ref q7, .long (0 : Int64)])), (q3, .inr (13, [.int (zI (0)), .ref (G.2.2 0), .int (zI (0))]))]) (va_A [(q1, .inr (12, [.int (zI (0)), .ref q2, .ref q3, .ref q4, .ref q5, .ref q6, .ref q7, .long (0 : Int64)])), (q3, .inr (13, [.int (zI (0)), .ref (G.2.2 0), .int (zI (0))]))] sz)) 0 0 (va_A [(q1, .inr (12, [.int (zI (0)), .ref q2, .ref q3, .ref q4, .ref q5, .ref q6, .ref q7, .long (0 : Int64)])), (q3, .inr (13, [.int (zI (0)), .ref (G.2.2 0), .int (zI (0))]))] sz) := by
  refine vv_start hf (by decide) (Nat.le_of_ble_eq_true rfl) ?_
  intro p e s m below meth c A C hnm
  refine vv_aload_n C 0 dX13_formula_0 rfl rfl ?_
  refine vv_iconst (v := zI (0)) C dX13_formula_1 rfl ?_
  refine vv_put (ws1 := [(q1, .inr (12, [.int (zI (0)), .ref q2, .ref q3, .ref q4, .ref q5, .ref q6, .ref q7, .long (0 : Int64)])), (q3, .inr (13, [.int (zI (0)), .ref (G.2.2 0), .int (zI (0))]))]) C 0 rfl rfl vi_X13 tyX13_ok nmX13 0 (by decide) wm1127 rfl rfl rfl (Nat.le_of_ble_eq_true rfl) rfl dX13_formula_2 ?_
  refine vv_iload_n C 1 dX13_formula_5 rfl rfl ?_
  refine vv_iconst (v := zI (1)) C dX13_formula_6 rfl ?_
  refine vv_icmp_ne (tgt := 32) C dX13_formula_7 (by decide) (by omega) (by omega) (fun h => ?_) (fun h => by exfalso; omega)
  refine vv_iload_n C 1 dX13_formula_32 rfl rfl ?_
  refine vv_iconst (v := zI (2)) C dX13_formula_33 rfl ?_
  refine vv_iconst (v := zI (5)) C dX13_formula_34 rfl ?_
  refine vv_callS (As := [.int (zI (3)), .int (zI (2)), .int (zI (5))]) (rest := []) (wr := [(q1, .inr (12, [.int (zI (0)), .ref q2, .ref q3, .ref q4, .ref q5, .ref q6, .ref q7, .long (0 : Int64)])), (q3, .inr (13, [.int (zI (0)), .ref (G.2.2 0), .int (zI (0))]))]) (ws2 := fun u => [(q1, .inr (12, [.int (zI (0)), .ref q2, .ref q3, .ref q4, .ref q5, .ref q6, .ref q7, .long (0 : Int64)])), (q3, .inr (13, [.int (zI (0)), .ref (G.2.2 0), .int (zI (0))]))]) (isC := []) (isR := [0, 1]) (isP := [0, 1]) C (vv_cutI rfl rfl rfl rfl (by decide) (fun _ => rfl) rfl) (k319_X13_is l hf G ) yy_X13_is (vv_rmI rfl rfl (Nat.le_of_ble_eq_true rfl) (Nat.le_of_ble_eq_true rfl) (Nat.le_of_ble_eq_true rfl) (Nat.le_of_ble_eq_true rfl)) wm1160 wm1161 rfl rfl (Nat.le_of_ble_eq_true rfl) dX13_formula_35 (fun v u hp => ?_)
  obtain rfl := hp
  refine vv_nrm (ws1 := [(q1, .inr (12, [.int (zI (0)), .ref q2, .ref q3, .ref q4, .ref q5, .ref q6, .ref q7, .long (0 : Int64)])), (q3, .inr (13, [.int (zI (0)), .ref (G.2.2 0), .int (zI (0))]))]) (st1 := [.int (zI (1))]) rfl rfl ?_
  refine vv_if_eq (tgt := 68) C dX13_formula_38 (by decide) (by omega) (fun h => by exfalso; omega) (fun h => ?_)
  refine vv_aload_n C 0 dX13_formula_41 rfl rfl ?_
  refine vv_iload_n C 2 dX13_formula_42 rfl rfl ?_
  refine vv_callV (As := [.int (zI (v8))]) (rest := []) (wr := []) (ws2 := fun u => [(q1, .inr (12, [.int (zI (0)), .ref q2, .ref q3, .ref q4, .ref q5, .ref q6, .ref q7, .long (0 : Int64)])), (q3, .inr (13, [.int (zI (0)), .ref (G.2.2 0), .int (zI (0))]))]) (isC := [0, 1]) (isR := []) (isP := [0, 1]) C (vv_cutI rfl rfl rfl rfl (by decide) (fun _ => rfl) rfl) (k314_X13_isFormula l hf G q1 q2 q3 q4 q5 q6 q7 (v8) rv2 (by omega)) yy_X13_isFormula (vv_rmI rfl rfl (Nat.le_of_ble_eq_true rfl) (Nat.le_of_ble_eq_true rfl) (Nat.le_of_ble_eq_true rfl) (Nat.le_of_ble_eq_true rfl)) wm1894 wm1896 ws_selects_LatticeworkModel_LatticeworkModel_isFormula__I_Z_LatticeworkModel_isFormula__I_Z 0 rfl rfl rfl rfl (Nat.le_of_ble_eq_true rfl) dX13_formula_43 (fun v u hp => ?_)
  obtain rfl := hp
  refine vv_nrm (ws1 := [(q1, .inr (12, [.int (zI (0)), .ref q2, .ref q3, .ref q4, .ref q5, .ref q6, .ref q7, .long (0 : Int64)])), (q3, .inr (13, [.int (zI (0)), .ref (G.2.2 0), .int (zI (0))]))]) (st1 := [.int (zI (0))]) rfl rfl ?_
  refine vv_if_eq (tgt := 62) C dX13_formula_46 (by decide) (by omega) (fun h => ?_) (fun h => by exfalso; omega)
  refine vv_aload_n C 0 dX13_formula_62 rfl rfl ?_
  refine vv_iconst (v := zI (1)) C dX13_formula_63 rfl ?_
  refine vv_callV (As := [.int (zI (1))]) (rest := []) (wr := [(q3, .inr (13, [.int (zI (0)), .ref (G.2.2 0), .int (zI (0))]))]) (ws2 := fun u => [(q1, .inr (12, [.int (zI (1)), .ref q2, .ref q3, .ref q4, .ref q5, .ref q6, .ref q7, .long (0 : Int64)])), (q3, .inr (13, [.int (zI (0)), .ref (G.2.2 0), .int (zI (0))]))]) (isC := [0]) (isR := [1]) (isP := [1, 0]) C (vv_cutI rfl rfl rfl rfl (by decide) (fun _ => rfl) rfl) (k20_X13_refuse l hf G q1 q2 q3 q4 q5 q6 q7) yy_X13_refuse (vv_rmI rfl rfl (Nat.le_of_ble_eq_true rfl) (Nat.le_of_ble_eq_true rfl) (Nat.le_of_ble_eq_true rfl) (Nat.le_of_ble_eq_true rfl)) wm1163 wm1165 ws_selects_LatticeworkModel_LatticeworkModel_refuse__I_I_LatticeworkModel_refuse__I_I 0 rfl rfl rfl rfl (Nat.le_of_ble_eq_true rfl) dX13_formula_64 (fun v u hp => ?_)
  obtain rfl := hp
  refine vv_nrm (ws1 := [(q1, .inr (12, [.int (zI (1)), .ref q2, .ref q3, .ref q4, .ref q5, .ref q6, .ref q7, .long (0 : Int64)])), (q3, .inr (13, [.int (zI (0)), .ref (G.2.2 0), .int (zI (0))]))]) (st1 := [.int (zI (0))]) rfl rfl ?_
  exact vv_iret C (()) rfl [0, 1] rfl rfl ⟨Nat.le_of_ble_eq_true rfl, Nat.le_of_ble_eq_true rfl⟩ dX13_formula_67
set_option maxHeartbeats 4000000 in
set_option maxRecDepth 100000 in
theorem k321_X10_needParts (l : Launch) (hf : l.stackTraces = false) (G : vv_G) (q1 q2 q3 q4 q5 q6 q7 q8 q9 q10 : Nat) (v11 : Int) (rv2 : -2147483648 ≤ v11 ∧ v11 < 2147483648) (v12 : Int) (rv3 : -2147483648 ≤ v12 ∧ v12 < 2147483648) (g0 : v11 ≤ -1) : ∀ sz, vx_Met l yX10_needParts (Cond.code yX10_needParts cX10_needParts 4 none :: gT) ({ frames := 7, cells := 1, slots := 6, locals := 111 } : Room) (va_Pc [.ref q1, .int (zI (4)), .int (zI (v11)), .int (zI (v12))] (vv_I G [(q1, .inr (9, [.ref q2, .ref q3, .ref q4, .ref q5, .ref q6, .ref q7, .ref q8, .ref q9, .ref q10]))] sz)) (vv_Q G (fun v (u : Unit) => False) (fun u => []) (va_A [(q1, .inr (9, [.ref q2, .ref q3, .ref q4, .ref q5, .ref q6, .ref q7, .ref q8, .ref q9, .ref q10]))] sz)) (vv_XC G (fun E (u : Unit) => E = "java/lang/IndexOutOfBoundsException") (fun u => [(q1, .inr (9, [.ref q2, .ref q3, .ref q4, .ref q5, .ref q6, .ref q7, .ref q8, .ref q9, .ref q10]))]) (va_A [(q1, .inr (9, [.ref q2, .ref q3, .ref q4, .ref q5, .ref q6, .ref q7, .ref q8, .ref q9, .ref q10]))] sz)) 1 6 (va_A [(q1, .inr (9, [.ref q2, .ref q3, .ref q4, .ref q5, .ref q6, .ref q7, .ref q8, .ref q9, .ref q10]))] sz) := by
  refine vv_startX hf (by decide) (Nat.le_of_ble_eq_true rfl) ?_
  intro p e s m below meth c A C hnm htab
  refine vv_iload_n C 1 dX10_needParts_0 rfl rfl ?_
  refine vv_iconst (v := zI (1)) C dX10_needParts_1 rfl ?_
  refine vv_icmp_ne (tgt := 15) C dX10_needParts_2 (by decide) (by omega) (by omega) (fun h => ?_) (fun h => by exfalso; omega)
  refine vv_iload_n C 1 dX10_needParts_15 rfl rfl ?_
  refine vv_iconst (v := zI (2)) C dX10_needParts_16 rfl ?_
  refine vv_icmp_lt (tgt := 30) C dX10_needParts_17 (by decide) (by omega) (by omega) (fun h => by exfalso; omega) (fun h => ?_)
  refine vv_iload_n C 1 dX10_needParts_20 rfl rfl ?_
  refine vv_iconst (v := zI (5)) C dX10_needParts_21 rfl ?_
  refine vv_icmp_gt (tgt := 30) C dX10_needParts_22 (by decide) (by omega) (by omega) (fun h => by exfalso; omega) (fun h => ?_)
  refine vv_aload_n C 0 dX10_needParts_25 rfl rfl ?_
  refine vv_iload_n C 2 dX10_needParts_26 rfl rfl ?_
  refine vv_callVx (As := [.int (zI (v11))]) (rest := []) (wr := []) (ws3 := fun u => [(q1, .inr (9, [.ref q2, .ref q3, .ref q4, .ref q5, .ref q6, .ref q7, .ref q8, .ref q9, .ref q10]))]) (isC := [0]) (isR := []) (isX := [0]) (ws2 := fun _ => []) (isP := []) C (vv_cutI rfl rfl rfl rfl (by decide) (fun _ => rfl) rfl) (vv_cutI rfl rfl rfl rfl (by decide) (fun _ => rfl) rfl) (k309_X10_needFormula l hf G q1 q2 q3 q4 q5 q6 q7 q8 q9 q10 (v11) rv2 (by omega)) yy_X10_needFormula (vv_rmI rfl rfl (Nat.le_of_ble_eq_true rfl) (Nat.le_of_ble_eq_true rfl) (Nat.le_of_ble_eq_true rfl) (Nat.le_of_ble_eq_true rfl)) wm964 wm966 ws_selects_Latticework_Latticework_needFormula__I_V_Latticework_needFormula__I_V 0 rfl rfl rfl rfl (Nat.le_of_ble_eq_true rfl) dX10_needParts_27 (fun E9 u hp => ?_) (fun v u hp => hp.elim)
  obtain rfl := hp
  exact vv_out C htab ⟨Nat.le_of_ble_eq_true rfl, Nat.le_of_ble_eq_true rfl⟩ () rfl [0] rfl rfl
set_option maxHeartbeats 4000000 in
set_option maxRecDepth 100000 in
theorem k322_X10_formula (l : Launch) (hf : l.stackTraces = false) (G : vv_G) (q1 q2 q3 q4 q5 q6 q7 q8 q9 q10 : Nat) (v11 : Int) (rv2 : -2147483648 ≤ v11 ∧ v11 < 2147483648) (v12 : Int) (rv3 : -2147483648 ≤ v12 ∧ v12 < 2147483648) (g0 : v11 ≤ -1) : ∀ sz, vx_Met l yX10_formula (Cond.code yX10_formula cX10_formula 5 (some .int) :: gT) ({ frames := 8, cells := 1, slots := 6, locals := 134 } : Room) (va_Pc [.ref q1, .int (zI (4)), .int (zI (v11)), .int (zI (v12))] (vv_I G [(q1, .inr (9, [.ref q2, .ref q3, .ref q4, .ref q5, .ref q6, .ref q7, .ref q8, .ref q9, .ref q10]))] sz)) (vv_Q G (fun v (u : Unit) => False) (fun u => []) (va_A [(q1, .inr (9, [.ref q2, .ref q3, .ref q4, .ref q5, .ref q6, .ref q7, .ref q8, .ref q9, .ref q10]))] sz)) (vv_XC G (fun E (u : Unit) => E = "java/lang/IndexOutOfBoundsException") (fun u => [(q1, .inr (9, [.ref q2, .ref q3, .ref q4, .ref q5, .ref q6, .ref q7, .ref q8, .ref q9, .ref q10]))]) (va_A [(q1, .inr (9, [.ref q2, .ref q3, .ref q4, .ref q5, .ref q6, .ref q7, .ref q8, .ref q9, .ref q10]))] sz)) 1 6 (va_A [(q1, .inr (9, [.ref q2, .ref q3, .ref q4, .ref q5, .ref q6, .ref q7, .ref q8, .ref q9, .ref q10]))] sz) := by
  refine vv_startX hf (by decide) (Nat.le_of_ble_eq_true rfl) ?_
  intro p e s m below meth c A C hnm htab
  refine vv_aload_n C 0 dX10_formula_0 rfl rfl ?_
  refine vv_iload_n C 1 dX10_formula_1 rfl rfl ?_
  refine vv_iload_n C 2 dX10_formula_2 rfl rfl ?_
  refine vv_iload_n C 3 dX10_formula_3 rfl rfl ?_
  refine vv_callVx (As := [.int (zI (4)), .int (zI (v11)), .int (zI (v12))]) (rest := []) (wr := []) (ws3 := fun u => [(q1, .inr (9, [.ref q2, .ref q3, .ref q4, .ref q5, .ref q6, .ref q7, .ref q8, .ref q9, .ref q10]))]) (isC := [0]) (isR := []) (isX := [0]) (ws2 := fun _ => []) (isP := []) C (vv_cutI rfl rfl rfl rfl (by decide) (fun _ => rfl) rfl) (vv_cutI rfl rfl rfl rfl (by decide) (fun _ => rfl) rfl) (k321_X10_needParts l hf G q1 q2 q3 q4 q5 q6 q7 q8 q9 q10 (v11) rv2 (v12) rv3 (by omega)) yy_X10_needParts (vv_rmI rfl rfl (Nat.le_of_ble_eq_true rfl) (Nat.le_of_ble_eq_true rfl) (Nat.le_of_ble_eq_true rfl) (Nat.le_of_ble_eq_true rfl)) wm960 wm962 ws_selects_Latticework_Latticework_needParts__III_V_Latticework_needParts__III_V 0 rfl rfl rfl rfl (Nat.le_of_ble_eq_true rfl) dX10_formula_4 (fun E9 u hp => ?_) (fun v u hp => hp.elim)
  obtain rfl := hp
  exact vv_out C htab ⟨Nat.le_of_ble_eq_true rfl, Nat.le_of_ble_eq_true rfl⟩ () rfl [0] rfl rfl
set_option maxHeartbeats 4000000 in
set_option maxRecDepth 100000 in
theorem k323_L_formula (l : Launch) (hf : l.stackTraces = false) (G : vv_G) (q1 q2 q3 q4 q5 q6 q7 q8 q9 q10 q11 : Nat) (v12 : Int) (rv2 : -2147483648 ≤ v12 ∧ v12 < 2147483648) (v13 : Int) (rv3 : -2147483648 ≤ v13 ∧ v13 < 2147483648) (g0 : v12 ≤ -1) : ∀ sz, Met l yL_formula (Cond.codeWith yL_formula cL_formula 6 (some .int) [(0, 12, 15, 21), (0, 12, 19, 13), (0, 12, 23, 15)] :: gT) ({ frames := 9, cells := 1, slots := 6, locals := 158 } : Room) (va_Pc [.ref q1, .int (zI (4)), .int (zI (v12)), .int (zI (v13)), .ref q11] (vv_I G [(q1, .inr (9, [.ref q2, .ref q3, .ref q4, .ref q5, .ref q6, .ref q7, .ref q8, .ref q9, .ref q10]))] sz)) (vv_Q G (fun v (u : Unit) => v = some (.int (zI (1)))) (fun u => [(q1, .inr (9, [.ref q2, .ref q3, .ref q4, .ref q5, .ref q6, .ref q7, .ref q8, .ref q9, .ref q10]))]) (va_A [(q1, .inr (9, [.ref q2, .ref q3, .ref q4, .ref q5, .ref q6, .ref q7, .ref q8, .ref q9, .ref q10]))] sz)) 1 6 (va_A [(q1, .inr (9, [.ref q2, .ref q3, .ref q4, .ref q5, .ref q6, .ref q7, .ref q8, .ref q9, .ref q10]))] sz) := by
  refine vv_startW hf (by decide) (Nat.le_of_ble_eq_true rfl) ?_
  intro p e s m below meth c A C hnm htab
  refine vv_aload C 4 dL_formula_0 rfl ?_
  refine vv_iconst (v := zI (0)) C dL_formula_2 rfl ?_
  refine vv_aload_n C 0 dL_formula_3 rfl rfl ?_
  refine vv_iload_n C 1 dL_formula_4 rfl rfl ?_
  refine vv_iload_n C 2 dL_formula_5 rfl rfl ?_
  refine vv_iload_n C 3 dL_formula_6 rfl rfl ?_
  refine vv_callVx (As := [.int (zI (4)), .int (zI (v12)), .int (zI (v13))]) (rest := [.int (zI (0)), .ref q11]) (wr := []) (ws3 := fun u => [(q1, .inr (9, [.ref q2, .ref q3, .ref q4, .ref q5, .ref q6, .ref q7, .ref q8, .ref q9, .ref q10]))]) (isC := [0]) (isR := []) (isX := [0]) (ws2 := fun _ => []) (isP := []) C (vv_cutI rfl rfl rfl rfl (by decide) (fun _ => rfl) rfl) (vv_cutI rfl rfl rfl rfl (by decide) (fun _ => rfl) rfl) (k322_X10_formula l hf G q1 q2 q3 q4 q5 q6 q7 q8 q9 q10 (v12) rv2 (v13) rv3 (by omega)) yy_X10_formula (vv_rmI rfl rfl (Nat.le_of_ble_eq_true rfl) (Nat.le_of_ble_eq_true rfl) (Nat.le_of_ble_eq_true rfl) (Nat.le_of_ble_eq_true rfl)) wm956 wm957 wm958 0 rfl rfl rfl rfl (Nat.le_of_ble_eq_true rfl) dL_formula_7 (fun E9 u hp => ?_) (fun v u hp => hp.elim)
  obtain rfl := hp
  refine vv_catch C htab [] ⟨0, 12, 15, 21⟩ [⟨0, 12, 19, 13⟩, ⟨0, 12, 23, 15⟩] rfl (fun z hz => nomatch hz) rfl (by decide) wm645 (by decide +kernel) (fun qe91 => ?_)
  refine vv_astore (loc1 := [(5, .ref qe91), (0, .ref q1), (1, .int (zI (4))), (2, .int (zI (v12))), (3, .int (zI (v13))), (4, .ref q11)]) C dL_formula_15 (by decide) rfl ?_
  refine vv_iconst (v := zI (1)) C dL_formula_17 rfl ?_
  exact vv_iret C (()) rfl [0] rfl rfl ⟨Nat.le_of_ble_eq_true rfl, Nat.le_of_ble_eq_true rfl⟩ dL_formula_18
set_option maxHeartbeats 4000000 in
set_option maxRecDepth 100000 in
theorem k324_X13_is (l : Launch) (hf : l.stackTraces = false) (G : vv_G)  : ∀ sz, Met l yX13_is (Cond.code yX13_is cX13_is 3 (some .boolean) :: gT) ({ frames := 0, cells := 0, slots := 0, locals := 0 } : Room) (va_Pc [.int (zI (4)), .int (zI (2)), .int (zI (5))] (vv_I G [] sz)) (vv_Q G (fun v (u : Unit) => v = some (.int (zI (1)))) (fun u => []) (va_A [] sz)) 0 0 (va_A [] sz) := by
  refine vv_start hf (by decide) (Nat.le_of_ble_eq_true rfl) ?_
  intro p e s m below meth c A C hnm
  refine vv_iload_n C 0 dX13_is_0 rfl rfl ?_
  refine vv_iload_n C 1 dX13_is_1 rfl rfl ?_
  refine vv_icmp_lt (tgt := 14) C dX13_is_2 (by decide) (by omega) (by omega) (fun h => by exfalso; omega) (fun h => ?_)
  refine vv_iload_n C 0 dX13_is_5 rfl rfl ?_
  refine vv_iload_n C 2 dX13_is_6 rfl rfl ?_
  refine vv_icmp_gt (tgt := 14) C dX13_is_7 (by decide) (by omega) (by omega) (fun h => by exfalso; omega) (fun h => ?_)
  refine vv_iconst (v := zI (1)) C dX13_is_10 rfl ?_
  refine vv_goto C 15 dX13_is_11 (by decide) ?_
  exact vv_zret C (by decide) (()) rfl [] rfl rfl ⟨Nat.le_of_ble_eq_true rfl, Nat.le_of_ble_eq_true rfl⟩ dX13_is_15
set_option maxHeartbeats 4000000 in
set_option maxRecDepth 100000 in
theorem k325_X13_formula (l : Launch) (hf : l.stackTraces = false) (G : vv_G) (q1 q2 q3 q4 q5 q6 q7 : Nat) (v8 : Int) (rv2 : -2147483648 ≤ v8 ∧ v8 < 2147483648) (v9 : Int) (rv3 : -2147483648 ≤ v9 ∧ v9 < 2147483648) (g0 : v8 ≤ -1) : ∀ sz, Met l yX13_formula (Cond.code yX13_formula cX13_formula 8 (some .int) :: gT) ({ frames := 2, cells := 0, slots := 0, locals := 43 } : Room) (va_Pc [.ref q1, .int (zI (4)), .int (zI (v8)), .int (zI (v9))] (vv_I G [(q1, .inr (12, [.int (zI (0)), .ref q2, .ref q3, .ref q4, .ref q5, .ref q6, .ref q7, .long (0 : Int64)])), (q3, .inr (13, [.int (zI (0)), .ref (G.2.2 0), .int (zI (0))]))] sz)) (vv_Q G (fun v (u : Unit) => v = some (.int (zI (0)))) (fun u => [(q1, .inr (12, [.int (zI (1)), .ref q2, .ref q3, .ref q4, .ref q5, .ref q6, .ref q7, .long (0 : Int64)])), (q3, .inr (13, [.int (zI (0)), .ref (G.2.2 0), .int (zI (0))]))]) (va_A [(q1, .inr (12, [.int (zI (0)), .ref q2, .ref q3, .ref q4, .ref q5, .ref q6, .ref q7, .long (0 : Int64)])), (q3, .inr (13, [.int (zI (0)), .ref (G.2.2 0), .int (zI (0))]))] sz)) 0 0 (va_A [(q1, .inr (12, [.int (zI (0)), .ref q2, .ref q3, .ref q4, .ref q5, .ref q6, .ref q7, .long (0 : Int64)])), (q3, .inr (13, [.int (zI (0)), .ref (G.2.2 0), .int (zI (0))]))] sz) := by
  refine vv_start hf (by decide) (Nat.le_of_ble_eq_true rfl) ?_
  intro p e s m below meth c A C hnm
  refine vv_aload_n C 0 dX13_formula_0 rfl rfl ?_
  refine vv_iconst (v := zI (0)) C dX13_formula_1 rfl ?_
  refine vv_put (ws1 := [(q1, .inr (12, [.int (zI (0)), .ref q2, .ref q3, .ref q4, .ref q5, .ref q6, .ref q7, .long (0 : Int64)])), (q3, .inr (13, [.int (zI (0)), .ref (G.2.2 0), .int (zI (0))]))]) C 0 rfl rfl vi_X13 tyX13_ok nmX13 0 (by decide) wm1127 rfl rfl rfl (Nat.le_of_ble_eq_true rfl) rfl dX13_formula_2 ?_
  refine vv_iload_n C 1 dX13_formula_5 rfl rfl ?_
  refine vv_iconst (v := zI (1)) C dX13_formula_6 rfl ?_
  refine vv_icmp_ne (tgt := 32) C dX13_formula_7 (by decide) (by omega) (by omega) (fun h => ?_) (fun h => by exfalso; omega)
  refine vv_iload_n C 1 dX13_formula_32 rfl rfl ?_
  refine vv_iconst (v := zI (2)) C dX13_formula_33 rfl ?_
  refine vv_iconst (v := zI (5)) C dX13_formula_34 rfl ?_
  refine vv_callS (As := [.int (zI (4)), .int (zI (2)), .int (zI (5))]) (rest := []) (wr := [(q1, .inr (12, [.int (zI (0)), .ref q2, .ref q3, .ref q4, .ref q5, .ref q6, .ref q7, .long (0 : Int64)])), (q3, .inr (13, [.int (zI (0)), .ref (G.2.2 0), .int (zI (0))]))]) (ws2 := fun u => [(q1, .inr (12, [.int (zI (0)), .ref q2, .ref q3, .ref q4, .ref q5, .ref q6, .ref q7, .long (0 : Int64)])), (q3, .inr (13, [.int (zI (0)), .ref (G.2.2 0), .int (zI (0))]))]) (isC := []) (isR := [0, 1]) (isP := [0, 1]) C (vv_cutI rfl rfl rfl rfl (by decide) (fun _ => rfl) rfl) (k324_X13_is l hf G ) yy_X13_is (vv_rmI rfl rfl (Nat.le_of_ble_eq_true rfl) (Nat.le_of_ble_eq_true rfl) (Nat.le_of_ble_eq_true rfl) (Nat.le_of_ble_eq_true rfl)) wm1160 wm1161 rfl rfl (Nat.le_of_ble_eq_true rfl) dX13_formula_35 (fun v u hp => ?_)
  obtain rfl := hp
  refine vv_nrm (ws1 := [(q1, .inr (12, [.int (zI (0)), .ref q2, .ref q3, .ref q4, .ref q5, .ref q6, .ref q7, .long (0 : Int64)])), (q3, .inr (13, [.int (zI (0)), .ref (G.2.2 0), .int (zI (0))]))]) (st1 := [.int (zI (1))]) rfl rfl ?_
  refine vv_if_eq (tgt := 68) C dX13_formula_38 (by decide) (by omega) (fun h => by exfalso; omega) (fun h => ?_)
  refine vv_aload_n C 0 dX13_formula_41 rfl rfl ?_
  refine vv_iload_n C 2 dX13_formula_42 rfl rfl ?_
  refine vv_callV (As := [.int (zI (v8))]) (rest := []) (wr := []) (ws2 := fun u => [(q1, .inr (12, [.int (zI (0)), .ref q2, .ref q3, .ref q4, .ref q5, .ref q6, .ref q7, .long (0 : Int64)])), (q3, .inr (13, [.int (zI (0)), .ref (G.2.2 0), .int (zI (0))]))]) (isC := [0, 1]) (isR := []) (isP := [0, 1]) C (vv_cutI rfl rfl rfl rfl (by decide) (fun _ => rfl) rfl) (k314_X13_isFormula l hf G q1 q2 q3 q4 q5 q6 q7 (v8) rv2 (by omega)) yy_X13_isFormula (vv_rmI rfl rfl (Nat.le_of_ble_eq_true rfl) (Nat.le_of_ble_eq_true rfl) (Nat.le_of_ble_eq_true rfl) (Nat.le_of_ble_eq_true rfl)) wm1894 wm1896 ws_selects_LatticeworkModel_LatticeworkModel_isFormula__I_Z_LatticeworkModel_isFormula__I_Z 0 rfl rfl rfl rfl (Nat.le_of_ble_eq_true rfl) dX13_formula_43 (fun v u hp => ?_)
  obtain rfl := hp
  refine vv_nrm (ws1 := [(q1, .inr (12, [.int (zI (0)), .ref q2, .ref q3, .ref q4, .ref q5, .ref q6, .ref q7, .long (0 : Int64)])), (q3, .inr (13, [.int (zI (0)), .ref (G.2.2 0), .int (zI (0))]))]) (st1 := [.int (zI (0))]) rfl rfl ?_
  refine vv_if_eq (tgt := 62) C dX13_formula_46 (by decide) (by omega) (fun h => ?_) (fun h => by exfalso; omega)
  refine vv_aload_n C 0 dX13_formula_62 rfl rfl ?_
  refine vv_iconst (v := zI (1)) C dX13_formula_63 rfl ?_
  refine vv_callV (As := [.int (zI (1))]) (rest := []) (wr := [(q3, .inr (13, [.int (zI (0)), .ref (G.2.2 0), .int (zI (0))]))]) (ws2 := fun u => [(q1, .inr (12, [.int (zI (1)), .ref q2, .ref q3, .ref q4, .ref q5, .ref q6, .ref q7, .long (0 : Int64)])), (q3, .inr (13, [.int (zI (0)), .ref (G.2.2 0), .int (zI (0))]))]) (isC := [0]) (isR := [1]) (isP := [1, 0]) C (vv_cutI rfl rfl rfl rfl (by decide) (fun _ => rfl) rfl) (k20_X13_refuse l hf G q1 q2 q3 q4 q5 q6 q7) yy_X13_refuse (vv_rmI rfl rfl (Nat.le_of_ble_eq_true rfl) (Nat.le_of_ble_eq_true rfl) (Nat.le_of_ble_eq_true rfl) (Nat.le_of_ble_eq_true rfl)) wm1163 wm1165 ws_selects_LatticeworkModel_LatticeworkModel_refuse__I_I_LatticeworkModel_refuse__I_I 0 rfl rfl rfl rfl (Nat.le_of_ble_eq_true rfl) dX13_formula_64 (fun v u hp => ?_)
  obtain rfl := hp
  refine vv_nrm (ws1 := [(q1, .inr (12, [.int (zI (1)), .ref q2, .ref q3, .ref q4, .ref q5, .ref q6, .ref q7, .long (0 : Int64)])), (q3, .inr (13, [.int (zI (0)), .ref (G.2.2 0), .int (zI (0))]))]) (st1 := [.int (zI (0))]) rfl rfl ?_
  exact vv_iret C (()) rfl [0, 1] rfl rfl ⟨Nat.le_of_ble_eq_true rfl, Nat.le_of_ble_eq_true rfl⟩ dX13_formula_67
set_option maxHeartbeats 4000000 in
set_option maxRecDepth 100000 in
theorem k326_X10_needParts (l : Launch) (hf : l.stackTraces = false) (G : vv_G) (q1 q2 q3 q4 q5 q6 q7 q8 q9 q10 : Nat) (v11 : Int) (rv2 : -2147483648 ≤ v11 ∧ v11 < 2147483648) (v12 : Int) (rv3 : -2147483648 ≤ v12 ∧ v12 < 2147483648) (g0 : v11 ≤ -1) : ∀ sz, vx_Met l yX10_needParts (Cond.code yX10_needParts cX10_needParts 4 none :: gT) ({ frames := 7, cells := 1, slots := 6, locals := 111 } : Room) (va_Pc [.ref q1, .int (zI (5)), .int (zI (v11)), .int (zI (v12))] (vv_I G [(q1, .inr (9, [.ref q2, .ref q3, .ref q4, .ref q5, .ref q6, .ref q7, .ref q8, .ref q9, .ref q10]))] sz)) (vv_Q G (fun v (u : Unit) => False) (fun u => []) (va_A [(q1, .inr (9, [.ref q2, .ref q3, .ref q4, .ref q5, .ref q6, .ref q7, .ref q8, .ref q9, .ref q10]))] sz)) (vv_XC G (fun E (u : Unit) => E = "java/lang/IndexOutOfBoundsException") (fun u => [(q1, .inr (9, [.ref q2, .ref q3, .ref q4, .ref q5, .ref q6, .ref q7, .ref q8, .ref q9, .ref q10]))]) (va_A [(q1, .inr (9, [.ref q2, .ref q3, .ref q4, .ref q5, .ref q6, .ref q7, .ref q8, .ref q9, .ref q10]))] sz)) 1 6 (va_A [(q1, .inr (9, [.ref q2, .ref q3, .ref q4, .ref q5, .ref q6, .ref q7, .ref q8, .ref q9, .ref q10]))] sz) := by
  refine vv_startX hf (by decide) (Nat.le_of_ble_eq_true rfl) ?_
  intro p e s m below meth c A C hnm htab
  refine vv_iload_n C 1 dX10_needParts_0 rfl rfl ?_
  refine vv_iconst (v := zI (1)) C dX10_needParts_1 rfl ?_
  refine vv_icmp_ne (tgt := 15) C dX10_needParts_2 (by decide) (by omega) (by omega) (fun h => ?_) (fun h => by exfalso; omega)
  refine vv_iload_n C 1 dX10_needParts_15 rfl rfl ?_
  refine vv_iconst (v := zI (2)) C dX10_needParts_16 rfl ?_
  refine vv_icmp_lt (tgt := 30) C dX10_needParts_17 (by decide) (by omega) (by omega) (fun h => by exfalso; omega) (fun h => ?_)
  refine vv_iload_n C 1 dX10_needParts_20 rfl rfl ?_
  refine vv_iconst (v := zI (5)) C dX10_needParts_21 rfl ?_
  refine vv_icmp_gt (tgt := 30) C dX10_needParts_22 (by decide) (by omega) (by omega) (fun h => by exfalso; omega) (fun h => ?_)
  refine vv_aload_n C 0 dX10_needParts_25 rfl rfl ?_
  refine vv_iload_n C 2 dX10_needParts_26 rfl rfl ?_
  refine vv_callVx (As := [.int (zI (v11))]) (rest := []) (wr := []) (ws3 := fun u => [(q1, .inr (9, [.ref q2, .ref q3, .ref q4, .ref q5, .ref q6, .ref q7, .ref q8, .ref q9, .ref q10]))]) (isC := [0]) (isR := []) (isX := [0]) (ws2 := fun _ => []) (isP := []) C (vv_cutI rfl rfl rfl rfl (by decide) (fun _ => rfl) rfl) (vv_cutI rfl rfl rfl rfl (by decide) (fun _ => rfl) rfl) (k309_X10_needFormula l hf G q1 q2 q3 q4 q5 q6 q7 q8 q9 q10 (v11) rv2 (by omega)) yy_X10_needFormula (vv_rmI rfl rfl (Nat.le_of_ble_eq_true rfl) (Nat.le_of_ble_eq_true rfl) (Nat.le_of_ble_eq_true rfl) (Nat.le_of_ble_eq_true rfl)) wm964 wm966 ws_selects_Latticework_Latticework_needFormula__I_V_Latticework_needFormula__I_V 0 rfl rfl rfl rfl (Nat.le_of_ble_eq_true rfl) dX10_needParts_27 (fun E9 u hp => ?_) (fun v u hp => hp.elim)
  obtain rfl := hp
  exact vv_out C htab ⟨Nat.le_of_ble_eq_true rfl, Nat.le_of_ble_eq_true rfl⟩ () rfl [0] rfl rfl
set_option maxHeartbeats 4000000 in
set_option maxRecDepth 100000 in
theorem k327_X10_formula (l : Launch) (hf : l.stackTraces = false) (G : vv_G) (q1 q2 q3 q4 q5 q6 q7 q8 q9 q10 : Nat) (v11 : Int) (rv2 : -2147483648 ≤ v11 ∧ v11 < 2147483648) (v12 : Int) (rv3 : -2147483648 ≤ v12 ∧ v12 < 2147483648) (g0 : v11 ≤ -1) : ∀ sz, vx_Met l yX10_formula (Cond.code yX10_formula cX10_formula 5 (some .int) :: gT) ({ frames := 8, cells := 1, slots := 6, locals := 134 } : Room) (va_Pc [.ref q1, .int (zI (5)), .int (zI (v11)), .int (zI (v12))] (vv_I G [(q1, .inr (9, [.ref q2, .ref q3, .ref q4, .ref q5, .ref q6, .ref q7, .ref q8, .ref q9, .ref q10]))] sz)) (vv_Q G (fun v (u : Unit) => False) (fun u => []) (va_A [(q1, .inr (9, [.ref q2, .ref q3, .ref q4, .ref q5, .ref q6, .ref q7, .ref q8, .ref q9, .ref q10]))] sz)) (vv_XC G (fun E (u : Unit) => E = "java/lang/IndexOutOfBoundsException") (fun u => [(q1, .inr (9, [.ref q2, .ref q3, .ref q4, .ref q5, .ref q6, .ref q7, .ref q8, .ref q9, .ref q10]))]) (va_A [(q1, .inr (9, [.ref q2, .ref q3, .ref q4, .ref q5, .ref q6, .ref q7, .ref q8, .ref q9, .ref q10]))] sz)) 1 6 (va_A [(q1, .inr (9, [.ref q2, .ref q3, .ref q4, .ref q5, .ref q6, .ref q7, .ref q8, .ref q9, .ref q10]))] sz) := by
  refine vv_startX hf (by decide) (Nat.le_of_ble_eq_true rfl) ?_
  intro p e s m below meth c A C hnm htab
  refine vv_aload_n C 0 dX10_formula_0 rfl rfl ?_
  refine vv_iload_n C 1 dX10_formula_1 rfl rfl ?_
  refine vv_iload_n C 2 dX10_formula_2 rfl rfl ?_
  refine vv_iload_n C 3 dX10_formula_3 rfl rfl ?_
  refine vv_callVx (As := [.int (zI (5)), .int (zI (v11)), .int (zI (v12))]) (rest := []) (wr := []) (ws3 := fun u => [(q1, .inr (9, [.ref q2, .ref q3, .ref q4, .ref q5, .ref q6, .ref q7, .ref q8, .ref q9, .ref q10]))]) (isC := [0]) (isR := []) (isX := [0]) (ws2 := fun _ => []) (isP := []) C (vv_cutI rfl rfl rfl rfl (by decide) (fun _ => rfl) rfl) (vv_cutI rfl rfl rfl rfl (by decide) (fun _ => rfl) rfl) (k326_X10_needParts l hf G q1 q2 q3 q4 q5 q6 q7 q8 q9 q10 (v11) rv2 (v12) rv3 (by omega)) yy_X10_needParts (vv_rmI rfl rfl (Nat.le_of_ble_eq_true rfl) (Nat.le_of_ble_eq_true rfl) (Nat.le_of_ble_eq_true rfl) (Nat.le_of_ble_eq_true rfl)) wm960 wm962 ws_selects_Latticework_Latticework_needParts__III_V_Latticework_needParts__III_V 0 rfl rfl rfl rfl (Nat.le_of_ble_eq_true rfl) dX10_formula_4 (fun E9 u hp => ?_) (fun v u hp => hp.elim)
  obtain rfl := hp
  exact vv_out C htab ⟨Nat.le_of_ble_eq_true rfl, Nat.le_of_ble_eq_true rfl⟩ () rfl [0] rfl rfl
set_option maxHeartbeats 4000000 in
set_option maxRecDepth 100000 in
theorem k328_L_formula (l : Launch) (hf : l.stackTraces = false) (G : vv_G) (q1 q2 q3 q4 q5 q6 q7 q8 q9 q10 q11 : Nat) (v12 : Int) (rv2 : -2147483648 ≤ v12 ∧ v12 < 2147483648) (v13 : Int) (rv3 : -2147483648 ≤ v13 ∧ v13 < 2147483648) (g0 : v12 ≤ -1) : ∀ sz, Met l yL_formula (Cond.codeWith yL_formula cL_formula 6 (some .int) [(0, 12, 15, 21), (0, 12, 19, 13), (0, 12, 23, 15)] :: gT) ({ frames := 9, cells := 1, slots := 6, locals := 158 } : Room) (va_Pc [.ref q1, .int (zI (5)), .int (zI (v12)), .int (zI (v13)), .ref q11] (vv_I G [(q1, .inr (9, [.ref q2, .ref q3, .ref q4, .ref q5, .ref q6, .ref q7, .ref q8, .ref q9, .ref q10]))] sz)) (vv_Q G (fun v (u : Unit) => v = some (.int (zI (1)))) (fun u => [(q1, .inr (9, [.ref q2, .ref q3, .ref q4, .ref q5, .ref q6, .ref q7, .ref q8, .ref q9, .ref q10]))]) (va_A [(q1, .inr (9, [.ref q2, .ref q3, .ref q4, .ref q5, .ref q6, .ref q7, .ref q8, .ref q9, .ref q10]))] sz)) 1 6 (va_A [(q1, .inr (9, [.ref q2, .ref q3, .ref q4, .ref q5, .ref q6, .ref q7, .ref q8, .ref q9, .ref q10]))] sz) := by
  refine vv_startW hf (by decide) (Nat.le_of_ble_eq_true rfl) ?_
  intro p e s m below meth c A C hnm htab
  refine vv_aload C 4 dL_formula_0 rfl ?_
  refine vv_iconst (v := zI (0)) C dL_formula_2 rfl ?_
  refine vv_aload_n C 0 dL_formula_3 rfl rfl ?_
  refine vv_iload_n C 1 dL_formula_4 rfl rfl ?_
  refine vv_iload_n C 2 dL_formula_5 rfl rfl ?_
  refine vv_iload_n C 3 dL_formula_6 rfl rfl ?_
  refine vv_callVx (As := [.int (zI (5)), .int (zI (v12)), .int (zI (v13))]) (rest := [.int (zI (0)), .ref q11]) (wr := []) (ws3 := fun u => [(q1, .inr (9, [.ref q2, .ref q3, .ref q4, .ref q5, .ref q6, .ref q7, .ref q8, .ref q9, .ref q10]))]) (isC := [0]) (isR := []) (isX := [0]) (ws2 := fun _ => []) (isP := []) C (vv_cutI rfl rfl rfl rfl (by decide) (fun _ => rfl) rfl) (vv_cutI rfl rfl rfl rfl (by decide) (fun _ => rfl) rfl) (k327_X10_formula l hf G q1 q2 q3 q4 q5 q6 q7 q8 q9 q10 (v12) rv2 (v13) rv3 (by omega)) yy_X10_formula (vv_rmI rfl rfl (Nat.le_of_ble_eq_true rfl) (Nat.le_of_ble_eq_true rfl) (Nat.le_of_ble_eq_true rfl) (Nat.le_of_ble_eq_true rfl)) wm956 wm957 wm958 0 rfl rfl rfl rfl (Nat.le_of_ble_eq_true rfl) dL_formula_7 (fun E9 u hp => ?_) (fun v u hp => hp.elim)
  obtain rfl := hp
  refine vv_catch C htab [] ⟨0, 12, 15, 21⟩ [⟨0, 12, 19, 13⟩, ⟨0, 12, 23, 15⟩] rfl (fun z hz => nomatch hz) rfl (by decide) wm645 (by decide +kernel) (fun qe92 => ?_)
  refine vv_astore (loc1 := [(5, .ref qe92), (0, .ref q1), (1, .int (zI (5))), (2, .int (zI (v12))), (3, .int (zI (v13))), (4, .ref q11)]) C dL_formula_15 (by decide) rfl ?_
  refine vv_iconst (v := zI (1)) C dL_formula_17 rfl ?_
  exact vv_iret C (()) rfl [0] rfl rfl ⟨Nat.le_of_ble_eq_true rfl, Nat.le_of_ble_eq_true rfl⟩ dL_formula_18
set_option maxHeartbeats 4000000 in
set_option maxRecDepth 100000 in
theorem k329_X13_is (l : Launch) (hf : l.stackTraces = false) (G : vv_G)  : ∀ sz, Met l yX13_is (Cond.code yX13_is cX13_is 3 (some .boolean) :: gT) ({ frames := 0, cells := 0, slots := 0, locals := 0 } : Room) (va_Pc [.int (zI (5)), .int (zI (2)), .int (zI (5))] (vv_I G [] sz)) (vv_Q G (fun v (u : Unit) => v = some (.int (zI (1)))) (fun u => []) (va_A [] sz)) 0 0 (va_A [] sz) := by
  refine vv_start hf (by decide) (Nat.le_of_ble_eq_true rfl) ?_
  intro p e s m below meth c A C hnm
  refine vv_iload_n C 0 dX13_is_0 rfl rfl ?_
  refine vv_iload_n C 1 dX13_is_1 rfl rfl ?_
  refine vv_icmp_lt (tgt := 14) C dX13_is_2 (by decide) (by omega) (by omega) (fun h => by exfalso; omega) (fun h => ?_)
  refine vv_iload_n C 0 dX13_is_5 rfl rfl ?_
  refine vv_iload_n C 2 dX13_is_6 rfl rfl ?_
  refine vv_icmp_gt (tgt := 14) C dX13_is_7 (by decide) (by omega) (by omega) (fun h => by exfalso; omega) (fun h => ?_)
  refine vv_iconst (v := zI (1)) C dX13_is_10 rfl ?_
  refine vv_goto C 15 dX13_is_11 (by decide) ?_
  exact vv_zret C (by decide) (()) rfl [] rfl rfl ⟨Nat.le_of_ble_eq_true rfl, Nat.le_of_ble_eq_true rfl⟩ dX13_is_15
set_option maxHeartbeats 4000000 in
set_option maxRecDepth 100000 in
theorem k330_X13_formula (l : Launch) (hf : l.stackTraces = false) (G : vv_G) (q1 q2 q3 q4 q5 q6 q7 : Nat) (v8 : Int) (rv2 : -2147483648 ≤ v8 ∧ v8 < 2147483648) (v9 : Int) (rv3 : -2147483648 ≤ v9 ∧ v9 < 2147483648) (g0 : v8 ≤ -1) : ∀ sz, Met l yX13_formula (Cond.code yX13_formula cX13_formula 8 (some .int) :: gT) ({ frames := 2, cells := 0, slots := 0, locals := 43 } : Room) (va_Pc [.ref q1, .int (zI (5)), .int (zI (v8)), .int (zI (v9))] (vv_I G [(q1, .inr (12, [.int (zI (0)), .ref q2, .ref q3, .ref q4, .ref q5, .ref q6, .ref q7, .long (0 : Int64)])), (q3, .inr (13, [.int (zI (0)), .ref (G.2.2 0), .int (zI (0))]))] sz)) (vv_Q G (fun v (u : Unit) => v = some (.int (zI (0)))) (fun u => [(q1, .inr (12, [.int (zI (1)), .ref q2, .ref q3, .ref q4, .ref q5, .ref q6, .ref q7, .long (0 : Int64)])), (q3, .inr (13, [.int (zI (0)), .ref (G.2.2 0), .int (zI (0))]))]) (va_A [(q1, .inr (12, [.int (zI (0)), .ref q2, .ref q3, .ref q4, .ref q5, .ref q6, .ref q7, .long (0 : Int64)])), (q3, .inr (13, [.int (zI (0)), .ref (G.2.2 0), .int (zI (0))]))] sz)) 0 0 (va_A [(q1, .inr (12, [.int (zI (0)), .ref q2, .ref q3, .ref q4, .ref q5, .ref q6, .ref q7, .long (0 : Int64)])), (q3, .inr (13, [.int (zI (0)), .ref (G.2.2 0), .int (zI (0))]))] sz) := by
  refine vv_start hf (by decide) (Nat.le_of_ble_eq_true rfl) ?_
  intro p e s m below meth c A C hnm
  refine vv_aload_n C 0 dX13_formula_0 rfl rfl ?_
  refine vv_iconst (v := zI (0)) C dX13_formula_1 rfl ?_
  refine vv_put (ws1 := [(q1, .inr (12, [.int (zI (0)), .ref q2, .ref q3, .ref q4, .ref q5, .ref q6, .ref q7, .long (0 : Int64)])), (q3, .inr (13, [.int (zI (0)), .ref (G.2.2 0), .int (zI (0))]))]) C 0 rfl rfl vi_X13 tyX13_ok nmX13 0 (by decide) wm1127 rfl rfl rfl (Nat.le_of_ble_eq_true rfl) rfl dX13_formula_2 ?_
  refine vv_iload_n C 1 dX13_formula_5 rfl rfl ?_
  refine vv_iconst (v := zI (1)) C dX13_formula_6 rfl ?_
  refine vv_icmp_ne (tgt := 32) C dX13_formula_7 (by decide) (by omega) (by omega) (fun h => ?_) (fun h => by exfalso; omega)
  refine vv_iload_n C 1 dX13_formula_32 rfl rfl ?_
  refine vv_iconst (v := zI (2)) C dX13_formula_33 rfl ?_
  refine vv_iconst (v := zI (5)) C dX13_formula_34 rfl ?_
  refine vv_callS (As := [.int (zI (5)), .int (zI (2)), .int (zI (5))]) (rest := []) (wr := [(q1, .inr (12, [.int (zI (0)), .ref q2, .ref q3, .ref q4, .ref q5, .ref q6, .ref q7, .long (0 : Int64)])), (q3, .inr (13, [.int (zI (0)), .ref (G.2.2 0), .int (zI (0))]))]) (ws2 := fun u => [(q1, .inr (12, [.int (zI (0)), .ref q2, .ref q3, .ref q4, .ref q5, .ref q6, .ref q7, .long (0 : Int64)])), (q3, .inr (13, [.int (zI (0)), .ref (G.2.2 0), .int (zI (0))]))]) (isC := []) (isR := [0, 1]) (isP := [0, 1]) C (vv_cutI rfl rfl rfl rfl (by decide) (fun _ => rfl) rfl) (k329_X13_is l hf G ) yy_X13_is (vv_rmI rfl rfl (Nat.le_of_ble_eq_true rfl) (Nat.le_of_ble_eq_true rfl) (Nat.le_of_ble_eq_true rfl) (Nat.le_of_ble_eq_true rfl)) wm1160 wm1161 rfl rfl (Nat.le_of_ble_eq_true rfl) dX13_formula_35 (fun v u hp => ?_)
  obtain rfl := hp
  refine vv_nrm (ws1 := [(q1, .inr (12, [.int (zI (0)), .ref q2, .ref q3, .ref q4, .ref q5, .ref q6, .ref q7, .long (0 : Int64)])), (q3, .inr (13, [.int (zI (0)), .ref (G.2.2 0), .int (zI (0))]))]) (st1 := [.int (zI (1))]) rfl rfl ?_
  refine vv_if_eq (tgt := 68) C dX13_formula_38 (by decide) (by omega) (fun h => by exfalso; omega) (fun h => ?_)
  refine vv_aload_n C 0 dX13_formula_41 rfl rfl ?_
  refine vv_iload_n C 2 dX13_formula_42 rfl rfl ?_
  refine vv_callV (As := [.int (zI (v8))]) (rest := []) (wr := []) (ws2 := fun u => [(q1, .inr (12, [.int (zI (0)), .ref q2, .ref q3, .ref q4, .ref q5, .ref q6, .ref q7, .long (0 : Int64)])), (q3, .inr (13, [.int (zI (0)), .ref (G.2.2 0), .int (zI (0))]))]) (isC := [0, 1]) (isR := []) (isP := [0, 1]) C (vv_cutI rfl rfl rfl rfl (by decide) (fun _ => rfl) rfl) (k314_X13_isFormula l hf G q1 q2 q3 q4 q5 q6 q7 (v8) rv2 (by omega)) yy_X13_isFormula (vv_rmI rfl rfl (Nat.le_of_ble_eq_true rfl) (Nat.le_of_ble_eq_true rfl) (Nat.le_of_ble_eq_true rfl) (Nat.le_of_ble_eq_true rfl)) wm1894 wm1896 ws_selects_LatticeworkModel_LatticeworkModel_isFormula__I_Z_LatticeworkModel_isFormula__I_Z 0 rfl rfl rfl rfl (Nat.le_of_ble_eq_true rfl) dX13_formula_43 (fun v u hp => ?_)
  obtain rfl := hp
  refine vv_nrm (ws1 := [(q1, .inr (12, [.int (zI (0)), .ref q2, .ref q3, .ref q4, .ref q5, .ref q6, .ref q7, .long (0 : Int64)])), (q3, .inr (13, [.int (zI (0)), .ref (G.2.2 0), .int (zI (0))]))]) (st1 := [.int (zI (0))]) rfl rfl ?_
  refine vv_if_eq (tgt := 62) C dX13_formula_46 (by decide) (by omega) (fun h => ?_) (fun h => by exfalso; omega)
  refine vv_aload_n C 0 dX13_formula_62 rfl rfl ?_
  refine vv_iconst (v := zI (1)) C dX13_formula_63 rfl ?_
  refine vv_callV (As := [.int (zI (1))]) (rest := []) (wr := [(q3, .inr (13, [.int (zI (0)), .ref (G.2.2 0), .int (zI (0))]))]) (ws2 := fun u => [(q1, .inr (12, [.int (zI (1)), .ref q2, .ref q3, .ref q4, .ref q5, .ref q6, .ref q7, .long (0 : Int64)])), (q3, .inr (13, [.int (zI (0)), .ref (G.2.2 0), .int (zI (0))]))]) (isC := [0]) (isR := [1]) (isP := [1, 0]) C (vv_cutI rfl rfl rfl rfl (by decide) (fun _ => rfl) rfl) (k20_X13_refuse l hf G q1 q2 q3 q4 q5 q6 q7) yy_X13_refuse (vv_rmI rfl rfl (Nat.le_of_ble_eq_true rfl) (Nat.le_of_ble_eq_true rfl) (Nat.le_of_ble_eq_true rfl) (Nat.le_of_ble_eq_true rfl)) wm1163 wm1165 ws_selects_LatticeworkModel_LatticeworkModel_refuse__I_I_LatticeworkModel_refuse__I_I 0 rfl rfl rfl rfl (Nat.le_of_ble_eq_true rfl) dX13_formula_64 (fun v u hp => ?_)
  obtain rfl := hp
  refine vv_nrm (ws1 := [(q1, .inr (12, [.int (zI (1)), .ref q2, .ref q3, .ref q4, .ref q5, .ref q6, .ref q7, .long (0 : Int64)])), (q3, .inr (13, [.int (zI (0)), .ref (G.2.2 0), .int (zI (0))]))]) (st1 := [.int (zI (0))]) rfl rfl ?_
  exact vv_iret C (()) rfl [0, 1] rfl rfl ⟨Nat.le_of_ble_eq_true rfl, Nat.le_of_ble_eq_true rfl⟩ dX13_formula_67
set_option maxHeartbeats 4000000 in
set_option maxRecDepth 100000 in
theorem k331_X10_needTerm (l : Launch) (hf : l.stackTraces = false) (G : vv_G) (q1 q2 q3 q4 q5 q6 q7 q8 q9 q10 q11 q12 q13 : Nat) (v14 : Int) (rv2 : -2147483648 ≤ v14 ∧ v14 < 2147483648) (g0 : 0 ≤ v14) : ∀ sz, vx_Met l yX10_needTerm (Cond.code yX10_needTerm cX10_needTerm 2 none :: gT) ({ frames := 6, cells := 1, slots := 6, locals := 90 } : Room) (va_Pc [.ref q1, .int (zI (v14))] (vv_I G [(q1, .inr (9, [.ref q2, .ref q3, .ref q4, .ref q5, .ref q6, .ref q7, .ref q8, .ref q9, .ref q10])), (q7, .inr (8, [.ref q11, .ref q12, .ref q13, .int (zI (0))]))] sz)) (vv_Q G (fun v (u : Unit) => False) (fun u => []) (va_A [(q1, .inr (9, [.ref q2, .ref q3, .ref q4, .ref q5, .ref q6, .ref q7, .ref q8, .ref q9, .ref q10])), (q7, .inr (8, [.ref q11, .ref q12, .ref q13, .int (zI (0))]))] sz)) (vv_XC G (fun E (u : Unit) => E = "java/lang/IndexOutOfBoundsException") (fun u => [(q1, .inr (9, [.ref q2, .ref q3, .ref q4, .ref q5, .ref q6, .ref q7, .ref q8, .ref q9, .ref q10])), (q7, .inr (8, [.ref q11, .ref q12, .ref q13, .int (zI (0))]))]) (va_A [(q1, .inr (9, [.ref q2, .ref q3, .ref q4, .ref q5, .ref q6, .ref q7, .ref q8, .ref q9, .ref q10])), (q7, .inr (8, [.ref q11, .ref q12, .ref q13, .int (zI (0))]))] sz)) 1 6 (va_A [(q1, .inr (9, [.ref q2, .ref q3, .ref q4, .ref q5, .ref q6, .ref q7, .ref q8, .ref q9, .ref q10])), (q7, .inr (8, [.ref q11, .ref q12, .ref q13, .int (zI (0))]))] sz) := by
  refine vv_startX hf (by decide) (Nat.le_of_ble_eq_true rfl) ?_
  intro p e s m below meth c A C hnm htab
  refine vv_iload_n C 1 dX10_needTerm_0 rfl rfl ?_
  refine vv_if_lt (tgt := 15) C dX10_needTerm_1 (by decide) (by omega) (fun h => by exfalso; omega) (fun h => ?_)
  refine vv_iload_n C 1 dX10_needTerm_4 rfl rfl ?_
  refine vv_aload_n C 0 dX10_needTerm_5 rfl rfl ?_
  refine vv_get C 0 rfl rfl vi_X10 5 (by decide) wm329 rfl dX10_needTerm_6 ?_
  refine vv_get C 1 rfl rfl vi_X9 3 (by decide) wm198 rfl dX10_needTerm_9 ?_
  refine vv_icmp_lt (tgt := 26) C dX10_needTerm_12 (by decide) (by omega) (by omega) (fun h => by exfalso; omega) (fun h => ?_)
  exact vv_throwW C tw_X10_125_288 htab dX10_needTerm_15 dX10_needTerm_18 dX10_needTerm_19 dX10_needTerm_22 dX10_needTerm_25 ⟨Nat.le_of_ble_eq_true rfl, Nat.le_of_ble_eq_true rfl, Nat.le_of_ble_eq_true rfl, Nat.le_of_ble_eq_true rfl, Nat.le_of_ble_eq_true rfl, Nat.le_of_ble_eq_true rfl⟩ () rfl [0, 1] rfl rfl
set_option maxHeartbeats 4000000 in
set_option maxRecDepth 100000 in
theorem k332_X10_needParts (l : Launch) (hf : l.stackTraces = false) (G : vv_G) (q1 q2 q3 q4 q5 q6 q7 q8 q9 q10 q11 q12 q13 : Nat) (v14 : Int) (rv2 : -2147483648 ≤ v14 ∧ v14 < 2147483648) (v15 : Int) (rv3 : -2147483648 ≤ v15 ∧ v15 < 2147483648) (g0 : 0 ≤ v14) : ∀ sz, vx_Met l yX10_needParts (Cond.code yX10_needParts cX10_needParts 4 none :: gT) ({ frames := 7, cells := 1, slots := 6, locals := 111 } : Room) (va_Pc [.ref q1, .int (zI (1)), .int (zI (v14)), .int (zI (v15))] (vv_I G [(q1, .inr (9, [.ref q2, .ref q3, .ref q4, .ref q5, .ref q6, .ref q7, .ref q8, .ref q9, .ref q10])), (q7, .inr (8, [.ref q11, .ref q12, .ref q13, .int (zI (0))]))] sz)) (vv_Q G (fun v (u : Unit) => False) (fun u => []) (va_A [(q1, .inr (9, [.ref q2, .ref q3, .ref q4, .ref q5, .ref q6, .ref q7, .ref q8, .ref q9, .ref q10])), (q7, .inr (8, [.ref q11, .ref q12, .ref q13, .int (zI (0))]))] sz)) (vv_XC G (fun E (u : Unit) => E = "java/lang/IndexOutOfBoundsException") (fun u => [(q1, .inr (9, [.ref q2, .ref q3, .ref q4, .ref q5, .ref q6, .ref q7, .ref q8, .ref q9, .ref q10])), (q7, .inr (8, [.ref q11, .ref q12, .ref q13, .int (zI (0))]))]) (va_A [(q1, .inr (9, [.ref q2, .ref q3, .ref q4, .ref q5, .ref q6, .ref q7, .ref q8, .ref q9, .ref q10])), (q7, .inr (8, [.ref q11, .ref q12, .ref q13, .int (zI (0))]))] sz)) 1 6 (va_A [(q1, .inr (9, [.ref q2, .ref q3, .ref q4, .ref q5, .ref q6, .ref q7, .ref q8, .ref q9, .ref q10])), (q7, .inr (8, [.ref q11, .ref q12, .ref q13, .int (zI (0))]))] sz) := by
  refine vv_startX hf (by decide) (Nat.le_of_ble_eq_true rfl) ?_
  intro p e s m below meth c A C hnm htab
  refine vv_iload_n C 1 dX10_needParts_0 rfl rfl ?_
  refine vv_iconst (v := zI (1)) C dX10_needParts_1 rfl ?_
  refine vv_icmp_ne (tgt := 15) C dX10_needParts_2 (by decide) (by omega) (by omega) (fun h => by exfalso; omega) (fun h => ?_)
  refine vv_aload_n C 0 dX10_needParts_5 rfl rfl ?_
  refine vv_iload_n C 2 dX10_needParts_6 rfl rfl ?_
  refine vv_callVx (As := [.int (zI (v14))]) (rest := []) (wr := []) (ws3 := fun u => [(q1, .inr (9, [.ref q2, .ref q3, .ref q4, .ref q5, .ref q6, .ref q7, .ref q8, .ref q9, .ref q10])), (q7, .inr (8, [.ref q11, .ref q12, .ref q13, .int (zI (0))]))]) (isC := [0, 1]) (isR := []) (isX := [0, 1]) (ws2 := fun _ => []) (isP := []) C (vv_cutI rfl rfl rfl rfl (by decide) (fun _ => rfl) rfl) (vv_cutI rfl rfl rfl rfl (by decide) (fun _ => rfl) rfl) (k331_X10_needTerm l hf G q1 q2 q3 q4 q5 q6 q7 q8 q9 q10 q11 q12 q13 (v14) rv2 (by omega)) yy_X10_needTerm (vv_rmI rfl rfl (Nat.le_of_ble_eq_true rfl) (Nat.le_of_ble_eq_true rfl) (Nat.le_of_ble_eq_true rfl) (Nat.le_of_ble_eq_true rfl)) wm654 wm656 ws_selects_Latticework_Latticework_needTerm__I_V_Latticework_needTerm__I_V 0 rfl rfl rfl rfl (Nat.le_of_ble_eq_true rfl) dX10_needParts_7 (fun E9 u hp => ?_) (fun v u hp => hp.elim)
  obtain rfl := hp
  exact vv_out C htab ⟨Nat.le_of_ble_eq_true rfl, Nat.le_of_ble_eq_true rfl⟩ () rfl [0, 1] rfl rfl
set_option maxHeartbeats 4000000 in
set_option maxRecDepth 100000 in
theorem k333_X10_formula (l : Launch) (hf : l.stackTraces = false) (G : vv_G) (q1 q2 q3 q4 q5 q6 q7 q8 q9 q10 q11 q12 q13 : Nat) (v14 : Int) (rv2 : -2147483648 ≤ v14 ∧ v14 < 2147483648) (v15 : Int) (rv3 : -2147483648 ≤ v15 ∧ v15 < 2147483648) (g0 : 0 ≤ v14) : ∀ sz, vx_Met l yX10_formula (Cond.code yX10_formula cX10_formula 5 (some .int) :: gT) ({ frames := 8, cells := 1, slots := 6, locals := 134 } : Room) (va_Pc [.ref q1, .int (zI (1)), .int (zI (v14)), .int (zI (v15))] (vv_I G [(q1, .inr (9, [.ref q2, .ref q3, .ref q4, .ref q5, .ref q6, .ref q7, .ref q8, .ref q9, .ref q10])), (q7, .inr (8, [.ref q11, .ref q12, .ref q13, .int (zI (0))]))] sz)) (vv_Q G (fun v (u : Unit) => False) (fun u => []) (va_A [(q1, .inr (9, [.ref q2, .ref q3, .ref q4, .ref q5, .ref q6, .ref q7, .ref q8, .ref q9, .ref q10])), (q7, .inr (8, [.ref q11, .ref q12, .ref q13, .int (zI (0))]))] sz)) (vv_XC G (fun E (u : Unit) => E = "java/lang/IndexOutOfBoundsException") (fun u => [(q1, .inr (9, [.ref q2, .ref q3, .ref q4, .ref q5, .ref q6, .ref q7, .ref q8, .ref q9, .ref q10])), (q7, .inr (8, [.ref q11, .ref q12, .ref q13, .int (zI (0))]))]) (va_A [(q1, .inr (9, [.ref q2, .ref q3, .ref q4, .ref q5, .ref q6, .ref q7, .ref q8, .ref q9, .ref q10])), (q7, .inr (8, [.ref q11, .ref q12, .ref q13, .int (zI (0))]))] sz)) 1 6 (va_A [(q1, .inr (9, [.ref q2, .ref q3, .ref q4, .ref q5, .ref q6, .ref q7, .ref q8, .ref q9, .ref q10])), (q7, .inr (8, [.ref q11, .ref q12, .ref q13, .int (zI (0))]))] sz) := by
  refine vv_startX hf (by decide) (Nat.le_of_ble_eq_true rfl) ?_
  intro p e s m below meth c A C hnm htab
  refine vv_aload_n C 0 dX10_formula_0 rfl rfl ?_
  refine vv_iload_n C 1 dX10_formula_1 rfl rfl ?_
  refine vv_iload_n C 2 dX10_formula_2 rfl rfl ?_
  refine vv_iload_n C 3 dX10_formula_3 rfl rfl ?_
  refine vv_callVx (As := [.int (zI (1)), .int (zI (v14)), .int (zI (v15))]) (rest := []) (wr := []) (ws3 := fun u => [(q1, .inr (9, [.ref q2, .ref q3, .ref q4, .ref q5, .ref q6, .ref q7, .ref q8, .ref q9, .ref q10])), (q7, .inr (8, [.ref q11, .ref q12, .ref q13, .int (zI (0))]))]) (isC := [0, 1]) (isR := []) (isX := [0, 1]) (ws2 := fun _ => []) (isP := []) C (vv_cutI rfl rfl rfl rfl (by decide) (fun _ => rfl) rfl) (vv_cutI rfl rfl rfl rfl (by decide) (fun _ => rfl) rfl) (k332_X10_needParts l hf G q1 q2 q3 q4 q5 q6 q7 q8 q9 q10 q11 q12 q13 (v14) rv2 (v15) rv3 (by omega)) yy_X10_needParts (vv_rmI rfl rfl (Nat.le_of_ble_eq_true rfl) (Nat.le_of_ble_eq_true rfl) (Nat.le_of_ble_eq_true rfl) (Nat.le_of_ble_eq_true rfl)) wm960 wm962 ws_selects_Latticework_Latticework_needParts__III_V_Latticework_needParts__III_V 0 rfl rfl rfl rfl (Nat.le_of_ble_eq_true rfl) dX10_formula_4 (fun E9 u hp => ?_) (fun v u hp => hp.elim)
  obtain rfl := hp
  exact vv_out C htab ⟨Nat.le_of_ble_eq_true rfl, Nat.le_of_ble_eq_true rfl⟩ () rfl [0, 1] rfl rfl
set_option maxHeartbeats 4000000 in
set_option maxRecDepth 100000 in
theorem k334_L_formula (l : Launch) (hf : l.stackTraces = false) (G : vv_G) (q1 q2 q3 q4 q5 q6 q7 q8 q9 q10 q11 q12 q13 q14 : Nat) (v15 : Int) (rv2 : -2147483648 ≤ v15 ∧ v15 < 2147483648) (v16 : Int) (rv3 : -2147483648 ≤ v16 ∧ v16 < 2147483648) (g0 : 0 ≤ v15) : ∀ sz, Met l yL_formula (Cond.codeWith yL_formula cL_formula 6 (some .int) [(0, 12, 15, 21), (0, 12, 19, 13), (0, 12, 23, 15)] :: gT) ({ frames := 9, cells := 1, slots := 6, locals := 158 } : Room) (va_Pc [.ref q1, .int (zI (1)), .int (zI (v15)), .int (zI (v16)), .ref q14] (vv_I G [(q1, .inr (9, [.ref q2, .ref q3, .ref q4, .ref q5, .ref q6, .ref q7, .ref q8, .ref q9, .ref q10])), (q7, .inr (8, [.ref q11, .ref q12, .ref q13, .int (zI (0))]))] sz)) (vv_Q G (fun v (u : Unit) => v = some (.int (zI (1)))) (fun u => [(q1, .inr (9, [.ref q2, .ref q3, .ref q4, .ref q5, .ref q6, .ref q7, .ref q8, .ref q9, .ref q10])), (q7, .inr (8, [.ref q11, .ref q12, .ref q13, .int (zI (0))]))]) (va_A [(q1, .inr (9, [.ref q2, .ref q3, .ref q4, .ref q5, .ref q6, .ref q7, .ref q8, .ref q9, .ref q10])), (q7, .inr (8, [.ref q11, .ref q12, .ref q13, .int (zI (0))]))] sz)) 1 6 (va_A [(q1, .inr (9, [.ref q2, .ref q3, .ref q4, .ref q5, .ref q6, .ref q7, .ref q8, .ref q9, .ref q10])), (q7, .inr (8, [.ref q11, .ref q12, .ref q13, .int (zI (0))]))] sz) := by
  refine vv_startW hf (by decide) (Nat.le_of_ble_eq_true rfl) ?_
  intro p e s m below meth c A C hnm htab
  refine vv_aload C 4 dL_formula_0 rfl ?_
  refine vv_iconst (v := zI (0)) C dL_formula_2 rfl ?_
  refine vv_aload_n C 0 dL_formula_3 rfl rfl ?_
  refine vv_iload_n C 1 dL_formula_4 rfl rfl ?_
  refine vv_iload_n C 2 dL_formula_5 rfl rfl ?_
  refine vv_iload_n C 3 dL_formula_6 rfl rfl ?_
  refine vv_callVx (As := [.int (zI (1)), .int (zI (v15)), .int (zI (v16))]) (rest := [.int (zI (0)), .ref q14]) (wr := []) (ws3 := fun u => [(q1, .inr (9, [.ref q2, .ref q3, .ref q4, .ref q5, .ref q6, .ref q7, .ref q8, .ref q9, .ref q10])), (q7, .inr (8, [.ref q11, .ref q12, .ref q13, .int (zI (0))]))]) (isC := [0, 1]) (isR := []) (isX := [0, 1]) (ws2 := fun _ => []) (isP := []) C (vv_cutI rfl rfl rfl rfl (by decide) (fun _ => rfl) rfl) (vv_cutI rfl rfl rfl rfl (by decide) (fun _ => rfl) rfl) (k333_X10_formula l hf G q1 q2 q3 q4 q5 q6 q7 q8 q9 q10 q11 q12 q13 (v15) rv2 (v16) rv3 (by omega)) yy_X10_formula (vv_rmI rfl rfl (Nat.le_of_ble_eq_true rfl) (Nat.le_of_ble_eq_true rfl) (Nat.le_of_ble_eq_true rfl) (Nat.le_of_ble_eq_true rfl)) wm956 wm957 wm958 0 rfl rfl rfl rfl (Nat.le_of_ble_eq_true rfl) dL_formula_7 (fun E9 u hp => ?_) (fun v u hp => hp.elim)
  obtain rfl := hp
  refine vv_catch C htab [] ⟨0, 12, 15, 21⟩ [⟨0, 12, 19, 13⟩, ⟨0, 12, 23, 15⟩] rfl (fun z hz => nomatch hz) rfl (by decide) wm645 (by decide +kernel) (fun qe93 => ?_)
  refine vv_astore (loc1 := [(5, .ref qe93), (0, .ref q1), (1, .int (zI (1))), (2, .int (zI (v15))), (3, .int (zI (v16))), (4, .ref q14)]) C dL_formula_15 (by decide) rfl ?_
  refine vv_iconst (v := zI (1)) C dL_formula_17 rfl ?_
  exact vv_iret C (()) rfl [0, 1] rfl rfl ⟨Nat.le_of_ble_eq_true rfl, Nat.le_of_ble_eq_true rfl⟩ dL_formula_18
set_option maxHeartbeats 4000000 in
set_option maxRecDepth 100000 in
theorem k335_X13_is (l : Launch) (hf : l.stackTraces = false) (G : vv_G)  (v1 : Int) (rv2 : -2147483648 ≤ v1 ∧ v1 < 2147483648) (g0 : 0 ≤ v1) : ∀ sz, Met l yX13_is (Cond.code yX13_is cX13_is 3 (some .boolean) :: gT) ({ frames := 0, cells := 0, slots := 0, locals := 0 } : Room) (va_Pc [.int (zI (v1)), .int (zI (0)), .int (zI (-1))] (vv_I G [] sz)) (vv_Q G (fun v (u : Unit) => v = some (.int (zI (0)))) (fun u => []) (va_A [] sz)) 0 0 (va_A [] sz) := by
  refine vv_start hf (by decide) (Nat.le_of_ble_eq_true rfl) ?_
  intro p e s m below meth c A C hnm
  refine vv_iload_n C 0 dX13_is_0 rfl rfl ?_
  refine vv_iload_n C 1 dX13_is_1 rfl rfl ?_
  refine vv_icmp_lt (tgt := 14) C dX13_is_2 (by decide) (by omega) (by omega) (fun h => by exfalso; omega) (fun h => ?_)
  refine vv_iload_n C 0 dX13_is_5 rfl rfl ?_
  refine vv_iload_n C 2 dX13_is_6 rfl rfl ?_
  refine vv_icmp_gt (tgt := 14) C dX13_is_7 (by decide) (by omega) (by omega) (fun h => ?_) (fun h => by exfalso; omega)
  refine vv_iconst (v := zI (0)) C dX13_is_14 rfl ?_
  exact vv_zret C (by decide) (()) rfl [] rfl rfl ⟨Nat.le_of_ble_eq_true rfl, Nat.le_of_ble_eq_true rfl⟩ dX13_is_15
set_option maxHeartbeats 4000000 in
set_option maxRecDepth 100000 in
theorem k336_X13_isTerm (l : Launch) (hf : l.stackTraces = false) (G : vv_G) (q1 q2 q3 q4 q5 q6 q7 : Nat) (v8 : Int) (rv2 : -2147483648 ≤ v8 ∧ v8 < 2147483648) (g0 : 0 ≤ v8) : ∀ sz, Met l yX13_isTerm (Cond.code yX13_isTerm cX13_isTerm 2 (some .boolean) :: gT) ({ frames := 1, cells := 0, slots := 0, locals := 22 } : Room) (va_Pc [.ref q1, .int (zI (v8))] (vv_I G [(q1, .inr (12, [.int (zI (0)), .ref q2, .ref q3, .ref q4, .ref q5, .ref q6, .ref q7, .long (0 : Int64)])), (q2, .inr (13, [.int (zI (0)), .ref (G.2.2 0), .int (zI (0))]))] sz)) (vv_Q G (fun v (u : Unit) => v = some (.int (zI (0)))) (fun u => [(q1, .inr (12, [.int (zI (0)), .ref q2, .ref q3, .ref q4, .ref q5, .ref q6, .ref q7, .long (0 : Int64)])), (q2, .inr (13, [.int (zI (0)), .ref (G.2.2 0), .int (zI (0))]))]) (va_A [(q1, .inr (12, [.int (zI (0)), .ref q2, .ref q3, .ref q4, .ref q5, .ref q6, .ref q7, .long (0 : Int64)])), (q2, .inr (13, [.int (zI (0)), .ref (G.2.2 0), .int (zI (0))]))] sz)) 0 0 (va_A [(q1, .inr (12, [.int (zI (0)), .ref q2, .ref q3, .ref q4, .ref q5, .ref q6, .ref q7, .long (0 : Int64)])), (q2, .inr (13, [.int (zI (0)), .ref (G.2.2 0), .int (zI (0))]))] sz) := by
  refine vv_start hf (by decide) (Nat.le_of_ble_eq_true rfl) ?_
  intro p e s m below meth c A C hnm
  refine vv_iload_n C 1 dX13_isTerm_0 rfl rfl ?_
  refine vv_iconst (v := zI (0)) C dX13_isTerm_1 rfl ?_
  refine vv_aload_n C 0 dX13_isTerm_2 rfl rfl ?_
  refine vv_get C 0 rfl rfl vi_X13 1 (by decide) wm1128 rfl dX13_isTerm_3 ?_
  refine vv_callV (As := []) (rest := [.int (zI (0)), .int (zI (v8))]) (wr := [(q1, .inr (12, [.int (zI (0)), .ref q2, .ref q3, .ref q4, .ref q5, .ref q6, .ref q7, .long (0 : Int64)]))]) (ws2 := fun u => [(q1, .inr (12, [.int (zI (0)), .ref q2, .ref q3, .ref q4, .ref q5, .ref q6, .ref q7, .long (0 : Int64)])), (q2, .inr (13, [.int (zI (0)), .ref (G.2.2 0), .int (zI (0))]))]) (isC := [1]) (isR := [0]) (isP := [0, 1]) C (vv_cutI rfl rfl rfl rfl (by decide) (fun _ => rfl) rfl) (k29_Jx4a65c_size_8abf5 l hf G q2) yy_Jx4a65c_size_8abf5 (vv_rmI rfl rfl (Nat.le_of_ble_eq_true rfl) (Nat.le_of_ble_eq_true rfl) (Nat.le_of_ble_eq_true rfl) (Nat.le_of_ble_eq_true rfl)) wm1175 wm1176 wm1177 0 rfl rfl rfl rfl (Nat.le_of_ble_eq_true rfl) dX13_isTerm_6 (fun v u hp => ?_)
  obtain rfl := hp
  refine vv_nrm (ws1 := [(q1, .inr (12, [.int (zI (0)), .ref q2, .ref q3, .ref q4, .ref q5, .ref q6, .ref q7, .long (0 : Int64)])), (q2, .inr (13, [.int (zI (0)), .ref (G.2.2 0), .int (zI (0))]))]) (st1 := [.int (zI (0)), .int (zI (0)), .int (zI (v8))]) rfl rfl ?_
  refine vv_iconst (v := zI (1)) C dX13_isTerm_9 rfl ?_
  refine vv_isub (z := zI (-1)) C dX13_isTerm_10 (by rw [zI_sub]; exact zI_c (by omega)) ?_
  refine vv_callS (As := [.int (zI (v8)), .int (zI (0)), .int (zI (-1))]) (rest := []) (wr := [(q1, .inr (12, [.int (zI (0)), .ref q2, .ref q3, .ref q4, .ref q5, .ref q6, .ref q7, .long (0 : Int64)])), (q2, .inr (13, [.int (zI (0)), .ref (G.2.2 0), .int (zI (0))]))]) (ws2 := fun u => [(q1, .inr (12, [.int (zI (0)), .ref q2, .ref q3, .ref q4, .ref q5, .ref q6, .ref q7, .long (0 : Int64)])), (q2, .inr (13, [.int (zI (0)), .ref (G.2.2 0), .int (zI (0))]))]) (isC := []) (isR := [0, 1]) (isP := [0, 1]) C (vv_cutI rfl rfl rfl rfl (by decide) (fun _ => rfl) rfl) (k335_X13_is l hf G  (v8) rv2 (by omega)) yy_X13_is (vv_rmI rfl rfl (Nat.le_of_ble_eq_true rfl) (Nat.le_of_ble_eq_true rfl) (Nat.le_of_ble_eq_true rfl) (Nat.le_of_ble_eq_true rfl)) wm1160 wm1161 rfl rfl (Nat.le_of_ble_eq_true rfl) dX13_isTerm_11 (fun v u hp => ?_)
  obtain rfl := hp
  refine vv_nrm (ws1 := [(q1, .inr (12, [.int (zI (0)), .ref q2, .ref q3, .ref q4, .ref q5, .ref q6, .ref q7, .long (0 : Int64)])), (q2, .inr (13, [.int (zI (0)), .ref (G.2.2 0), .int (zI (0))]))]) (st1 := [.int (zI (0))]) rfl rfl ?_
  exact vv_zret C (by decide) (()) rfl [0, 1] rfl rfl ⟨Nat.le_of_ble_eq_true rfl, Nat.le_of_ble_eq_true rfl⟩ dX13_isTerm_14
set_option maxHeartbeats 4000000 in
set_option maxRecDepth 100000 in
theorem k337_X13_formula (l : Launch) (hf : l.stackTraces = false) (G : vv_G) (q1 q2 q3 q4 q5 q6 q7 : Nat) (v8 : Int) (rv2 : -2147483648 ≤ v8 ∧ v8 < 2147483648) (v9 : Int) (rv3 : -2147483648 ≤ v9 ∧ v9 < 2147483648) (g0 : 0 ≤ v8) : ∀ sz, Met l yX13_formula (Cond.code yX13_formula cX13_formula 8 (some .int) :: gT) ({ frames := 2, cells := 0, slots := 0, locals := 43 } : Room) (va_Pc [.ref q1, .int (zI (1)), .int (zI (v8)), .int (zI (v9))] (vv_I G [(q1, .inr (12, [.int (zI (0)), .ref q2, .ref q3, .ref q4, .ref q5, .ref q6, .ref q7, .long (0 : Int64)])), (q2, .inr (13, [.int (zI (0)), .ref (G.2.2 0), .int (zI (0))]))] sz)) (vv_Q G (fun v (u : Unit) => v = some (.int (zI (0)))) (fun u => [(q1, .inr (12, [.int (zI (1)), .ref q2, .ref q3, .ref q4, .ref q5, .ref q6, .ref q7, .long (0 : Int64)])), (q2, .inr (13, [.int (zI (0)), .ref (G.2.2 0), .int (zI (0))]))]) (va_A [(q1, .inr (12, [.int (zI (0)), .ref q2, .ref q3, .ref q4, .ref q5, .ref q6, .ref q7, .long (0 : Int64)])), (q2, .inr (13, [.int (zI (0)), .ref (G.2.2 0), .int (zI (0))]))] sz)) 0 0 (va_A [(q1, .inr (12, [.int (zI (0)), .ref q2, .ref q3, .ref q4, .ref q5, .ref q6, .ref q7, .long (0 : Int64)])), (q2, .inr (13, [.int (zI (0)), .ref (G.2.2 0), .int (zI (0))]))] sz) := by
  refine vv_start hf (by decide) (Nat.le_of_ble_eq_true rfl) ?_
  intro p e s m below meth c A C hnm
  refine vv_aload_n C 0 dX13_formula_0 rfl rfl ?_
  refine vv_iconst (v := zI (0)) C dX13_formula_1 rfl ?_
  refine vv_put (ws1 := [(q1, .inr (12, [.int (zI (0)), .ref q2, .ref q3, .ref q4, .ref q5, .ref q6, .ref q7, .long (0 : Int64)])), (q2, .inr (13, [.int (zI (0)), .ref (G.2.2 0), .int (zI (0))]))]) C 0 rfl rfl vi_X13 tyX13_ok nmX13 0 (by decide) wm1127 rfl rfl rfl (Nat.le_of_ble_eq_true rfl) rfl dX13_formula_2 ?_
  refine vv_iload_n C 1 dX13_formula_5 rfl rfl ?_
  refine vv_iconst (v := zI (1)) C dX13_formula_6 rfl ?_
  refine vv_icmp_ne (tgt := 32) C dX13_formula_7 (by decide) (by omega) (by omega) (fun h => by exfalso; omega) (fun h => ?_)
  refine vv_aload_n C 0 dX13_formula_10 rfl rfl ?_
  refine vv_iload_n C 2 dX13_formula_11 rfl rfl ?_
  refine vv_callV (As := [.int (zI (v8))]) (rest := []) (wr := []) (ws2 := fun u => [(q1, .inr (12, [.int (zI (0)), .ref q2, .ref q3, .ref q4, .ref q5, .ref q6, .ref q7, .long (0 : Int64)])), (q2, .inr (13, [.int (zI (0)), .ref (G.2.2 0), .int (zI (0))]))]) (isC := [0, 1]) (isR := []) (isP := [0, 1]) C (vv_cutI rfl rfl rfl rfl (by decide) (fun _ => rfl) rfl) (k336_X13_isTerm l hf G q1 q2 q3 q4 q5 q6 q7 (v8) rv2 (by omega)) yy_X13_isTerm (vv_rmI rfl rfl (Nat.le_of_ble_eq_true rfl) (Nat.le_of_ble_eq_true rfl) (Nat.le_of_ble_eq_true rfl) (Nat.le_of_ble_eq_true rfl)) wm1370 wm1372 ws_selects_LatticeworkModel_LatticeworkModel_isTerm__I_Z_LatticeworkModel_isTerm__I_Z 0 rfl rfl rfl rfl (Nat.le_of_ble_eq_true rfl) dX13_formula_12 (fun v u hp => ?_)
  obtain rfl := hp
  refine vv_nrm (ws1 := [(q1, .inr (12, [.int (zI (0)), .ref q2, .ref q3, .ref q4, .ref q5, .ref q6, .ref q7, .long (0 : Int64)])), (q2, .inr (13, [.int (zI (0)), .ref (G.2.2 0), .int (zI (0))]))]) (st1 := [.int (zI (0))]) rfl rfl ?_
  refine vv_if_eq (tgt := 26) C dX13_formula_15 (by decide) (by omega) (fun h => ?_) (fun h => by exfalso; omega)
  refine vv_aload_n C 0 dX13_formula_26 rfl rfl ?_
  refine vv_iconst (v := zI (1)) C dX13_formula_27 rfl ?_
  refine vv_callV (As := [.int (zI (1))]) (rest := []) (wr := [(q2, .inr (13, [.int (zI (0)), .ref (G.2.2 0), .int (zI (0))]))]) (ws2 := fun u => [(q1, .inr (12, [.int (zI (1)), .ref q2, .ref q3, .ref q4, .ref q5, .ref q6, .ref q7, .long (0 : Int64)])), (q2, .inr (13, [.int (zI (0)), .ref (G.2.2 0), .int (zI (0))]))]) (isC := [0]) (isR := [1]) (isP := [1, 0]) C (vv_cutI rfl rfl rfl rfl (by decide) (fun _ => rfl) rfl) (k20_X13_refuse l hf G q1 q2 q3 q4 q5 q6 q7) yy_X13_refuse (vv_rmI rfl rfl (Nat.le_of_ble_eq_true rfl) (Nat.le_of_ble_eq_true rfl) (Nat.le_of_ble_eq_true rfl) (Nat.le_of_ble_eq_true rfl)) wm1163 wm1165 ws_selects_LatticeworkModel_LatticeworkModel_refuse__I_I_LatticeworkModel_refuse__I_I 0 rfl rfl rfl rfl (Nat.le_of_ble_eq_true rfl) dX13_formula_28 (fun v u hp => ?_)
  obtain rfl := hp
  refine vv_nrm (ws1 := [(q1, .inr (12, [.int (zI (1)), .ref q2, .ref q3, .ref q4, .ref q5, .ref q6, .ref q7, .long (0 : Int64)])), (q2, .inr (13, [.int (zI (0)), .ref (G.2.2 0), .int (zI (0))]))]) (st1 := [.int (zI (0))]) rfl rfl ?_
  exact vv_iret C (()) rfl [0, 1] rfl rfl ⟨Nat.le_of_ble_eq_true rfl, Nat.le_of_ble_eq_true rfl⟩ dX13_formula_31
set_option maxHeartbeats 4000000 in
set_option maxRecDepth 100000 in
theorem k338_X10_needFormula (l : Launch) (hf : l.stackTraces = false) (G : vv_G) (q1 q2 q3 q4 q5 q6 q7 q8 q9 q10 q11 q12 q13 q14 : Nat) (v15 : Int) (rv2 : -2147483648 ≤ v15 ∧ v15 < 2147483648) (g0 : 0 ≤ v15) : ∀ sz, vx_Met l yX10_needFormula (Cond.code yX10_needFormula cX10_needFormula 2 none :: gT) ({ frames := 6, cells := 1, slots := 6, locals := 90 } : Room) (va_Pc [.ref q1, .int (zI (v15))] (vv_I G [(q1, .inr (9, [.ref q2, .ref q3, .ref q4, .ref q5, .ref q6, .ref q7, .ref q8, .ref q9, .ref q10])), (q8, .inr (1, [.ref q11, .ref q12, .ref q13, .ref q14, .int (zI (0))]))] sz)) (vv_Q G (fun v (u : Unit) => False) (fun u => []) (va_A [(q1, .inr (9, [.ref q2, .ref q3, .ref q4, .ref q5, .ref q6, .ref q7, .ref q8, .ref q9, .ref q10])), (q8, .inr (1, [.ref q11, .ref q12, .ref q13, .ref q14, .int (zI (0))]))] sz)) (vv_XC G (fun E (u : Unit) => E = "java/lang/IndexOutOfBoundsException") (fun u => [(q1, .inr (9, [.ref q2, .ref q3, .ref q4, .ref q5, .ref q6, .ref q7, .ref q8, .ref q9, .ref q10])), (q8, .inr (1, [.ref q11, .ref q12, .ref q13, .ref q14, .int (zI (0))]))]) (va_A [(q1, .inr (9, [.ref q2, .ref q3, .ref q4, .ref q5, .ref q6, .ref q7, .ref q8, .ref q9, .ref q10])), (q8, .inr (1, [.ref q11, .ref q12, .ref q13, .ref q14, .int (zI (0))]))] sz)) 1 6 (va_A [(q1, .inr (9, [.ref q2, .ref q3, .ref q4, .ref q5, .ref q6, .ref q7, .ref q8, .ref q9, .ref q10])), (q8, .inr (1, [.ref q11, .ref q12, .ref q13, .ref q14, .int (zI (0))]))] sz) := by
  refine vv_startX hf (by decide) (Nat.le_of_ble_eq_true rfl) ?_
  intro p e s m below meth c A C hnm htab
  refine vv_iload_n C 1 dX10_needFormula_0 rfl rfl ?_
  refine vv_if_lt (tgt := 15) C dX10_needFormula_1 (by decide) (by omega) (fun h => by exfalso; omega) (fun h => ?_)
  refine vv_iload_n C 1 dX10_needFormula_4 rfl rfl ?_
  refine vv_aload_n C 0 dX10_needFormula_5 rfl rfl ?_
  refine vv_get C 0 rfl rfl vi_X10 6 (by decide) wm330 rfl dX10_needFormula_6 ?_
  refine vv_get C 1 rfl rfl vi_X1 4 (by decide) wm228 rfl dX10_needFormula_9 ?_
  refine vv_icmp_lt (tgt := 26) C dX10_needFormula_12 (by decide) (by omega) (by omega) (fun h => by exfalso; omega) (fun h => ?_)
  exact vv_throwW C tw_X10_125_292 htab dX10_needFormula_15 dX10_needFormula_18 dX10_needFormula_19 dX10_needFormula_22 dX10_needFormula_25 ⟨Nat.le_of_ble_eq_true rfl, Nat.le_of_ble_eq_true rfl, Nat.le_of_ble_eq_true rfl, Nat.le_of_ble_eq_true rfl, Nat.le_of_ble_eq_true rfl, Nat.le_of_ble_eq_true rfl⟩ () rfl [0, 1] rfl rfl
set_option maxHeartbeats 4000000 in
set_option maxRecDepth 100000 in
theorem k339_X10_needParts (l : Launch) (hf : l.stackTraces = false) (G : vv_G) (q1 q2 q3 q4 q5 q6 q7 q8 q9 q10 q11 q12 q13 q14 : Nat) (v15 : Int) (rv2 : -2147483648 ≤ v15 ∧ v15 < 2147483648) (v16 : Int) (rv3 : -2147483648 ≤ v16 ∧ v16 < 2147483648) (g0 : 0 ≤ v15) : ∀ sz, vx_Met l yX10_needParts (Cond.code yX10_needParts cX10_needParts 4 none :: gT) ({ frames := 7, cells := 1, slots := 6, locals := 111 } : Room) (va_Pc [.ref q1, .int (zI (2)), .int (zI (v15)), .int (zI (v16))] (vv_I G [(q1, .inr (9, [.ref q2, .ref q3, .ref q4, .ref q5, .ref q6, .ref q7, .ref q8, .ref q9, .ref q10])), (q8, .inr (1, [.ref q11, .ref q12, .ref q13, .ref q14, .int (zI (0))]))] sz)) (vv_Q G (fun v (u : Unit) => False) (fun u => []) (va_A [(q1, .inr (9, [.ref q2, .ref q3, .ref q4, .ref q5, .ref q6, .ref q7, .ref q8, .ref q9, .ref q10])), (q8, .inr (1, [.ref q11, .ref q12, .ref q13, .ref q14, .int (zI (0))]))] sz)) (vv_XC G (fun E (u : Unit) => E = "java/lang/IndexOutOfBoundsException") (fun u => [(q1, .inr (9, [.ref q2, .ref q3, .ref q4, .ref q5, .ref q6, .ref q7, .ref q8, .ref q9, .ref q10])), (q8, .inr (1, [.ref q11, .ref q12, .ref q13, .ref q14, .int (zI (0))]))]) (va_A [(q1, .inr (9, [.ref q2, .ref q3, .ref q4, .ref q5, .ref q6, .ref q7, .ref q8, .ref q9, .ref q10])), (q8, .inr (1, [.ref q11, .ref q12, .ref q13, .ref q14, .int (zI (0))]))] sz)) 1 6 (va_A [(q1, .inr (9, [.ref q2, .ref q3, .ref q4, .ref q5, .ref q6, .ref q7, .ref q8, .ref q9, .ref q10])), (q8, .inr (1, [.ref q11, .ref q12, .ref q13, .ref q14, .int (zI (0))]))] sz) := by
  refine vv_startX hf (by decide) (Nat.le_of_ble_eq_true rfl) ?_
  intro p e s m below meth c A C hnm htab
  refine vv_iload_n C 1 dX10_needParts_0 rfl rfl ?_
  refine vv_iconst (v := zI (1)) C dX10_needParts_1 rfl ?_
  refine vv_icmp_ne (tgt := 15) C dX10_needParts_2 (by decide) (by omega) (by omega) (fun h => ?_) (fun h => by exfalso; omega)
  refine vv_iload_n C 1 dX10_needParts_15 rfl rfl ?_
  refine vv_iconst (v := zI (2)) C dX10_needParts_16 rfl ?_
  refine vv_icmp_lt (tgt := 30) C dX10_needParts_17 (by decide) (by omega) (by omega) (fun h => by exfalso; omega) (fun h => ?_)
  refine vv_iload_n C 1 dX10_needParts_20 rfl rfl ?_
  refine vv_iconst (v := zI (5)) C dX10_needParts_21 rfl ?_
  refine vv_icmp_gt (tgt := 30) C dX10_needParts_22 (by decide) (by omega) (by omega) (fun h => by exfalso; omega) (fun h => ?_)
  refine vv_aload_n C 0 dX10_needParts_25 rfl rfl ?_
  refine vv_iload_n C 2 dX10_needParts_26 rfl rfl ?_
  refine vv_callVx (As := [.int (zI (v15))]) (rest := []) (wr := []) (ws3 := fun u => [(q1, .inr (9, [.ref q2, .ref q3, .ref q4, .ref q5, .ref q6, .ref q7, .ref q8, .ref q9, .ref q10])), (q8, .inr (1, [.ref q11, .ref q12, .ref q13, .ref q14, .int (zI (0))]))]) (isC := [0, 1]) (isR := []) (isX := [0, 1]) (ws2 := fun _ => []) (isP := []) C (vv_cutI rfl rfl rfl rfl (by decide) (fun _ => rfl) rfl) (vv_cutI rfl rfl rfl rfl (by decide) (fun _ => rfl) rfl) (k338_X10_needFormula l hf G q1 q2 q3 q4 q5 q6 q7 q8 q9 q10 q11 q12 q13 q14 (v15) rv2 (by omega)) yy_X10_needFormula (vv_rmI rfl rfl (Nat.le_of_ble_eq_true rfl) (Nat.le_of_ble_eq_true rfl) (Nat.le_of_ble_eq_true rfl) (Nat.le_of_ble_eq_true rfl)) wm964 wm966 ws_selects_Latticework_Latticework_needFormula__I_V_Latticework_needFormula__I_V 0 rfl rfl rfl rfl (Nat.le_of_ble_eq_true rfl) dX10_needParts_27 (fun E9 u hp => ?_) (fun v u hp => hp.elim)
  obtain rfl := hp
  exact vv_out C htab ⟨Nat.le_of_ble_eq_true rfl, Nat.le_of_ble_eq_true rfl⟩ () rfl [0, 1] rfl rfl
set_option maxHeartbeats 4000000 in
set_option maxRecDepth 100000 in
theorem k340_X10_formula (l : Launch) (hf : l.stackTraces = false) (G : vv_G) (q1 q2 q3 q4 q5 q6 q7 q8 q9 q10 q11 q12 q13 q14 : Nat) (v15 : Int) (rv2 : -2147483648 ≤ v15 ∧ v15 < 2147483648) (v16 : Int) (rv3 : -2147483648 ≤ v16 ∧ v16 < 2147483648) (g0 : 0 ≤ v15) : ∀ sz, vx_Met l yX10_formula (Cond.code yX10_formula cX10_formula 5 (some .int) :: gT) ({ frames := 8, cells := 1, slots := 6, locals := 134 } : Room) (va_Pc [.ref q1, .int (zI (2)), .int (zI (v15)), .int (zI (v16))] (vv_I G [(q1, .inr (9, [.ref q2, .ref q3, .ref q4, .ref q5, .ref q6, .ref q7, .ref q8, .ref q9, .ref q10])), (q8, .inr (1, [.ref q11, .ref q12, .ref q13, .ref q14, .int (zI (0))]))] sz)) (vv_Q G (fun v (u : Unit) => False) (fun u => []) (va_A [(q1, .inr (9, [.ref q2, .ref q3, .ref q4, .ref q5, .ref q6, .ref q7, .ref q8, .ref q9, .ref q10])), (q8, .inr (1, [.ref q11, .ref q12, .ref q13, .ref q14, .int (zI (0))]))] sz)) (vv_XC G (fun E (u : Unit) => E = "java/lang/IndexOutOfBoundsException") (fun u => [(q1, .inr (9, [.ref q2, .ref q3, .ref q4, .ref q5, .ref q6, .ref q7, .ref q8, .ref q9, .ref q10])), (q8, .inr (1, [.ref q11, .ref q12, .ref q13, .ref q14, .int (zI (0))]))]) (va_A [(q1, .inr (9, [.ref q2, .ref q3, .ref q4, .ref q5, .ref q6, .ref q7, .ref q8, .ref q9, .ref q10])), (q8, .inr (1, [.ref q11, .ref q12, .ref q13, .ref q14, .int (zI (0))]))] sz)) 1 6 (va_A [(q1, .inr (9, [.ref q2, .ref q3, .ref q4, .ref q5, .ref q6, .ref q7, .ref q8, .ref q9, .ref q10])), (q8, .inr (1, [.ref q11, .ref q12, .ref q13, .ref q14, .int (zI (0))]))] sz) := by
  refine vv_startX hf (by decide) (Nat.le_of_ble_eq_true rfl) ?_
  intro p e s m below meth c A C hnm htab
  refine vv_aload_n C 0 dX10_formula_0 rfl rfl ?_
  refine vv_iload_n C 1 dX10_formula_1 rfl rfl ?_
  refine vv_iload_n C 2 dX10_formula_2 rfl rfl ?_
  refine vv_iload_n C 3 dX10_formula_3 rfl rfl ?_
  refine vv_callVx (As := [.int (zI (2)), .int (zI (v15)), .int (zI (v16))]) (rest := []) (wr := []) (ws3 := fun u => [(q1, .inr (9, [.ref q2, .ref q3, .ref q4, .ref q5, .ref q6, .ref q7, .ref q8, .ref q9, .ref q10])), (q8, .inr (1, [.ref q11, .ref q12, .ref q13, .ref q14, .int (zI (0))]))]) (isC := [0, 1]) (isR := []) (isX := [0, 1]) (ws2 := fun _ => []) (isP := []) C (vv_cutI rfl rfl rfl rfl (by decide) (fun _ => rfl) rfl) (vv_cutI rfl rfl rfl rfl (by decide) (fun _ => rfl) rfl) (k339_X10_needParts l hf G q1 q2 q3 q4 q5 q6 q7 q8 q9 q10 q11 q12 q13 q14 (v15) rv2 (v16) rv3 (by omega)) yy_X10_needParts (vv_rmI rfl rfl (Nat.le_of_ble_eq_true rfl) (Nat.le_of_ble_eq_true rfl) (Nat.le_of_ble_eq_true rfl) (Nat.le_of_ble_eq_true rfl)) wm960 wm962 ws_selects_Latticework_Latticework_needParts__III_V_Latticework_needParts__III_V 0 rfl rfl rfl rfl (Nat.le_of_ble_eq_true rfl) dX10_formula_4 (fun E9 u hp => ?_) (fun v u hp => hp.elim)
  obtain rfl := hp
  exact vv_out C htab ⟨Nat.le_of_ble_eq_true rfl, Nat.le_of_ble_eq_true rfl⟩ () rfl [0, 1] rfl rfl
set_option maxHeartbeats 4000000 in
set_option maxRecDepth 100000 in
theorem k341_L_formula (l : Launch) (hf : l.stackTraces = false) (G : vv_G) (q1 q2 q3 q4 q5 q6 q7 q8 q9 q10 q11 q12 q13 q14 q15 : Nat) (v16 : Int) (rv2 : -2147483648 ≤ v16 ∧ v16 < 2147483648) (v17 : Int) (rv3 : -2147483648 ≤ v17 ∧ v17 < 2147483648) (g0 : 0 ≤ v16) : ∀ sz, Met l yL_formula (Cond.codeWith yL_formula cL_formula 6 (some .int) [(0, 12, 15, 21), (0, 12, 19, 13), (0, 12, 23, 15)] :: gT) ({ frames := 9, cells := 1, slots := 6, locals := 158 } : Room) (va_Pc [.ref q1, .int (zI (2)), .int (zI (v16)), .int (zI (v17)), .ref q15] (vv_I G [(q1, .inr (9, [.ref q2, .ref q3, .ref q4, .ref q5, .ref q6, .ref q7, .ref q8, .ref q9, .ref q10])), (q8, .inr (1, [.ref q11, .ref q12, .ref q13, .ref q14, .int (zI (0))]))] sz)) (vv_Q G (fun v (u : Unit) => v = some (.int (zI (1)))) (fun u => [(q1, .inr (9, [.ref q2, .ref q3, .ref q4, .ref q5, .ref q6, .ref q7, .ref q8, .ref q9, .ref q10])), (q8, .inr (1, [.ref q11, .ref q12, .ref q13, .ref q14, .int (zI (0))]))]) (va_A [(q1, .inr (9, [.ref q2, .ref q3, .ref q4, .ref q5, .ref q6, .ref q7, .ref q8, .ref q9, .ref q10])), (q8, .inr (1, [.ref q11, .ref q12, .ref q13, .ref q14, .int (zI (0))]))] sz)) 1 6 (va_A [(q1, .inr (9, [.ref q2, .ref q3, .ref q4, .ref q5, .ref q6, .ref q7, .ref q8, .ref q9, .ref q10])), (q8, .inr (1, [.ref q11, .ref q12, .ref q13, .ref q14, .int (zI (0))]))] sz) := by
  refine vv_startW hf (by decide) (Nat.le_of_ble_eq_true rfl) ?_
  intro p e s m below meth c A C hnm htab
  refine vv_aload C 4 dL_formula_0 rfl ?_
  refine vv_iconst (v := zI (0)) C dL_formula_2 rfl ?_
  refine vv_aload_n C 0 dL_formula_3 rfl rfl ?_
  refine vv_iload_n C 1 dL_formula_4 rfl rfl ?_
  refine vv_iload_n C 2 dL_formula_5 rfl rfl ?_
  refine vv_iload_n C 3 dL_formula_6 rfl rfl ?_
  refine vv_callVx (As := [.int (zI (2)), .int (zI (v16)), .int (zI (v17))]) (rest := [.int (zI (0)), .ref q15]) (wr := []) (ws3 := fun u => [(q1, .inr (9, [.ref q2, .ref q3, .ref q4, .ref q5, .ref q6, .ref q7, .ref q8, .ref q9, .ref q10])), (q8, .inr (1, [.ref q11, .ref q12, .ref q13, .ref q14, .int (zI (0))]))]) (isC := [0, 1]) (isR := []) (isX := [0, 1]) (ws2 := fun _ => []) (isP := []) C (vv_cutI rfl rfl rfl rfl (by decide) (fun _ => rfl) rfl) (vv_cutI rfl rfl rfl rfl (by decide) (fun _ => rfl) rfl) (k340_X10_formula l hf G q1 q2 q3 q4 q5 q6 q7 q8 q9 q10 q11 q12 q13 q14 (v16) rv2 (v17) rv3 (by omega)) yy_X10_formula (vv_rmI rfl rfl (Nat.le_of_ble_eq_true rfl) (Nat.le_of_ble_eq_true rfl) (Nat.le_of_ble_eq_true rfl) (Nat.le_of_ble_eq_true rfl)) wm956 wm957 wm958 0 rfl rfl rfl rfl (Nat.le_of_ble_eq_true rfl) dL_formula_7 (fun E9 u hp => ?_) (fun v u hp => hp.elim)
  obtain rfl := hp
  refine vv_catch C htab [] ⟨0, 12, 15, 21⟩ [⟨0, 12, 19, 13⟩, ⟨0, 12, 23, 15⟩] rfl (fun z hz => nomatch hz) rfl (by decide) wm645 (by decide +kernel) (fun qe94 => ?_)
  refine vv_astore (loc1 := [(5, .ref qe94), (0, .ref q1), (1, .int (zI (2))), (2, .int (zI (v16))), (3, .int (zI (v17))), (4, .ref q15)]) C dL_formula_15 (by decide) rfl ?_
  refine vv_iconst (v := zI (1)) C dL_formula_17 rfl ?_
  exact vv_iret C (()) rfl [0, 1] rfl rfl ⟨Nat.le_of_ble_eq_true rfl, Nat.le_of_ble_eq_true rfl⟩ dL_formula_18
set_option maxHeartbeats 4000000 in
set_option maxRecDepth 100000 in
theorem k342_X13_isFormula (l : Launch) (hf : l.stackTraces = false) (G : vv_G) (q1 q2 q3 q4 q5 q6 q7 : Nat) (v8 : Int) (rv2 : -2147483648 ≤ v8 ∧ v8 < 2147483648) (g0 : 0 ≤ v8) : ∀ sz, Met l yX13_isFormula (Cond.code yX13_isFormula cX13_isFormula 2 (some .boolean) :: gT) ({ frames := 1, cells := 0, slots := 0, locals := 22 } : Room) (va_Pc [.ref q1, .int (zI (v8))] (vv_I G [(q1, .inr (12, [.int (zI (0)), .ref q2, .ref q3, .ref q4, .ref q5, .ref q6, .ref q7, .long (0 : Int64)])), (q3, .inr (13, [.int (zI (0)), .ref (G.2.2 0), .int (zI (0))]))] sz)) (vv_Q G (fun v (u : Unit) => v = some (.int (zI (0)))) (fun u => [(q1, .inr (12, [.int (zI (0)), .ref q2, .ref q3, .ref q4, .ref q5, .ref q6, .ref q7, .long (0 : Int64)])), (q3, .inr (13, [.int (zI (0)), .ref (G.2.2 0), .int (zI (0))]))]) (va_A [(q1, .inr (12, [.int (zI (0)), .ref q2, .ref q3, .ref q4, .ref q5, .ref q6, .ref q7, .long (0 : Int64)])), (q3, .inr (13, [.int (zI (0)), .ref (G.2.2 0), .int (zI (0))]))] sz)) 0 0 (va_A [(q1, .inr (12, [.int (zI (0)), .ref q2, .ref q3, .ref q4, .ref q5, .ref q6, .ref q7, .long (0 : Int64)])), (q3, .inr (13, [.int (zI (0)), .ref (G.2.2 0), .int (zI (0))]))] sz) := by
  refine vv_start hf (by decide) (Nat.le_of_ble_eq_true rfl) ?_
  intro p e s m below meth c A C hnm
  refine vv_iload_n C 1 dX13_isFormula_0 rfl rfl ?_
  refine vv_iconst (v := zI (0)) C dX13_isFormula_1 rfl ?_
  refine vv_aload_n C 0 dX13_isFormula_2 rfl rfl ?_
  refine vv_get C 0 rfl rfl vi_X13 2 (by decide) wm1129 rfl dX13_isFormula_3 ?_
  refine vv_callV (As := []) (rest := [.int (zI (0)), .int (zI (v8))]) (wr := [(q1, .inr (12, [.int (zI (0)), .ref q2, .ref q3, .ref q4, .ref q5, .ref q6, .ref q7, .long (0 : Int64)]))]) (ws2 := fun u => [(q1, .inr (12, [.int (zI (0)), .ref q2, .ref q3, .ref q4, .ref q5, .ref q6, .ref q7, .long (0 : Int64)])), (q3, .inr (13, [.int (zI (0)), .ref (G.2.2 0), .int (zI (0))]))]) (isC := [1]) (isR := [0]) (isP := [0, 1]) C (vv_cutI rfl rfl rfl rfl (by decide) (fun _ => rfl) rfl) (k29_Jx4a65c_size_8abf5 l hf G q3) yy_Jx4a65c_size_8abf5 (vv_rmI rfl rfl (Nat.le_of_ble_eq_true rfl) (Nat.le_of_ble_eq_true rfl) (Nat.le_of_ble_eq_true rfl) (Nat.le_of_ble_eq_true rfl)) wm1175 wm1176 wm1177 0 rfl rfl rfl rfl (Nat.le_of_ble_eq_true rfl) dX13_isFormula_6 (fun v u hp => ?_)
  obtain rfl := hp
  refine vv_nrm (ws1 := [(q1, .inr (12, [.int (zI (0)), .ref q2, .ref q3, .ref q4, .ref q5, .ref q6, .ref q7, .long (0 : Int64)])), (q3, .inr (13, [.int (zI (0)), .ref (G.2.2 0), .int (zI (0))]))]) (st1 := [.int (zI (0)), .int (zI (0)), .int (zI (v8))]) rfl rfl ?_
  refine vv_iconst (v := zI (1)) C dX13_isFormula_9 rfl ?_
  refine vv_isub (z := zI (-1)) C dX13_isFormula_10 (by rw [zI_sub]; exact zI_c (by omega)) ?_
  refine vv_callS (As := [.int (zI (v8)), .int (zI (0)), .int (zI (-1))]) (rest := []) (wr := [(q1, .inr (12, [.int (zI (0)), .ref q2, .ref q3, .ref q4, .ref q5, .ref q6, .ref q7, .long (0 : Int64)])), (q3, .inr (13, [.int (zI (0)), .ref (G.2.2 0), .int (zI (0))]))]) (ws2 := fun u => [(q1, .inr (12, [.int (zI (0)), .ref q2, .ref q3, .ref q4, .ref q5, .ref q6, .ref q7, .long (0 : Int64)])), (q3, .inr (13, [.int (zI (0)), .ref (G.2.2 0), .int (zI (0))]))]) (isC := []) (isR := [0, 1]) (isP := [0, 1]) C (vv_cutI rfl rfl rfl rfl (by decide) (fun _ => rfl) rfl) (k335_X13_is l hf G  (v8) rv2 (by omega)) yy_X13_is (vv_rmI rfl rfl (Nat.le_of_ble_eq_true rfl) (Nat.le_of_ble_eq_true rfl) (Nat.le_of_ble_eq_true rfl) (Nat.le_of_ble_eq_true rfl)) wm1160 wm1161 rfl rfl (Nat.le_of_ble_eq_true rfl) dX13_isFormula_11 (fun v u hp => ?_)
  obtain rfl := hp
  refine vv_nrm (ws1 := [(q1, .inr (12, [.int (zI (0)), .ref q2, .ref q3, .ref q4, .ref q5, .ref q6, .ref q7, .long (0 : Int64)])), (q3, .inr (13, [.int (zI (0)), .ref (G.2.2 0), .int (zI (0))]))]) (st1 := [.int (zI (0))]) rfl rfl ?_
  exact vv_zret C (by decide) (()) rfl [0, 1] rfl rfl ⟨Nat.le_of_ble_eq_true rfl, Nat.le_of_ble_eq_true rfl⟩ dX13_isFormula_14
set_option maxHeartbeats 4000000 in
set_option maxRecDepth 100000 in
theorem k343_X13_formula (l : Launch) (hf : l.stackTraces = false) (G : vv_G) (q1 q2 q3 q4 q5 q6 q7 : Nat) (v8 : Int) (rv2 : -2147483648 ≤ v8 ∧ v8 < 2147483648) (v9 : Int) (rv3 : -2147483648 ≤ v9 ∧ v9 < 2147483648) (g0 : 0 ≤ v8) : ∀ sz, Met l yX13_formula (Cond.code yX13_formula cX13_formula 8 (some .int) :: gT) ({ frames := 2, cells := 0, slots := 0, locals := 43 } : Room) (va_Pc [.ref q1, .int (zI (2)), .int (zI (v8)), .int (zI (v9))] (vv_I G [(q1, .inr (12, [.int (zI (0)), .ref q2, .ref q3, .ref q4, .ref q5, .ref q6, .ref q7, .long (0 : Int64)])), (q3, .inr (13, [.int (zI (0)), .ref (G.2.2 0), .int (zI (0))]))] sz)) (vv_Q G (fun v (u : Unit) => v = some (.int (zI (0)))) (fun u => [(q1, .inr (12, [.int (zI (1)), .ref q2, .ref q3, .ref q4, .ref q5, .ref q6, .ref q7, .long (0 : Int64)])), (q3, .inr (13, [.int (zI (0)), .ref (G.2.2 0), .int (zI (0))]))]) (va_A [(q1, .inr (12, [.int (zI (0)), .ref q2, .ref q3, .ref q4, .ref q5, .ref q6, .ref q7, .long (0 : Int64)])), (q3, .inr (13, [.int (zI (0)), .ref (G.2.2 0), .int (zI (0))]))] sz)) 0 0 (va_A [(q1, .inr (12, [.int (zI (0)), .ref q2, .ref q3, .ref q4, .ref q5, .ref q6, .ref q7, .long (0 : Int64)])), (q3, .inr (13, [.int (zI (0)), .ref (G.2.2 0), .int (zI (0))]))] sz) := by
  refine vv_start hf (by decide) (Nat.le_of_ble_eq_true rfl) ?_
  intro p e s m below meth c A C hnm
  refine vv_aload_n C 0 dX13_formula_0 rfl rfl ?_
  refine vv_iconst (v := zI (0)) C dX13_formula_1 rfl ?_
  refine vv_put (ws1 := [(q1, .inr (12, [.int (zI (0)), .ref q2, .ref q3, .ref q4, .ref q5, .ref q6, .ref q7, .long (0 : Int64)])), (q3, .inr (13, [.int (zI (0)), .ref (G.2.2 0), .int (zI (0))]))]) C 0 rfl rfl vi_X13 tyX13_ok nmX13 0 (by decide) wm1127 rfl rfl rfl (Nat.le_of_ble_eq_true rfl) rfl dX13_formula_2 ?_
  refine vv_iload_n C 1 dX13_formula_5 rfl rfl ?_
  refine vv_iconst (v := zI (1)) C dX13_formula_6 rfl ?_
  refine vv_icmp_ne (tgt := 32) C dX13_formula_7 (by decide) (by omega) (by omega) (fun h => ?_) (fun h => by exfalso; omega)
  refine vv_iload_n C 1 dX13_formula_32 rfl rfl ?_
  refine vv_iconst (v := zI (2)) C dX13_formula_33 rfl ?_
  refine vv_iconst (v := zI (5)) C dX13_formula_34 rfl ?_
  refine vv_callS (As := [.int (zI (2)), .int (zI (2)), .int (zI (5))]) (rest := []) (wr := [(q1, .inr (12, [.int (zI (0)), .ref q2, .ref q3, .ref q4, .ref q5, .ref q6, .ref q7, .long (0 : Int64)])), (q3, .inr (13, [.int (zI (0)), .ref (G.2.2 0), .int (zI (0))]))]) (ws2 := fun u => [(q1, .inr (12, [.int (zI (0)), .ref q2, .ref q3, .ref q4, .ref q5, .ref q6, .ref q7, .long (0 : Int64)])), (q3, .inr (13, [.int (zI (0)), .ref (G.2.2 0), .int (zI (0))]))]) (isC := []) (isR := [0, 1]) (isP := [0, 1]) C (vv_cutI rfl rfl rfl rfl (by decide) (fun _ => rfl) rfl) (k313_X13_is l hf G ) yy_X13_is (vv_rmI rfl rfl (Nat.le_of_ble_eq_true rfl) (Nat.le_of_ble_eq_true rfl) (Nat.le_of_ble_eq_true rfl) (Nat.le_of_ble_eq_true rfl)) wm1160 wm1161 rfl rfl (Nat.le_of_ble_eq_true rfl) dX13_formula_35 (fun v u hp => ?_)
  obtain rfl := hp
  refine vv_nrm (ws1 := [(q1, .inr (12, [.int (zI (0)), .ref q2, .ref q3, .ref q4, .ref q5, .ref q6, .ref q7, .long (0 : Int64)])), (q3, .inr (13, [.int (zI (0)), .ref (G.2.2 0), .int (zI (0))]))]) (st1 := [.int (zI (1))]) rfl rfl ?_
  refine vv_if_eq (tgt := 68) C dX13_formula_38 (by decide) (by omega) (fun h => by exfalso; omega) (fun h => ?_)
  refine vv_aload_n C 0 dX13_formula_41 rfl rfl ?_
  refine vv_iload_n C 2 dX13_formula_42 rfl rfl ?_
  refine vv_callV (As := [.int (zI (v8))]) (rest := []) (wr := []) (ws2 := fun u => [(q1, .inr (12, [.int (zI (0)), .ref q2, .ref q3, .ref q4, .ref q5, .ref q6, .ref q7, .long (0 : Int64)])), (q3, .inr (13, [.int (zI (0)), .ref (G.2.2 0), .int (zI (0))]))]) (isC := [0, 1]) (isR := []) (isP := [0, 1]) C (vv_cutI rfl rfl rfl rfl (by decide) (fun _ => rfl) rfl) (k342_X13_isFormula l hf G q1 q2 q3 q4 q5 q6 q7 (v8) rv2 (by omega)) yy_X13_isFormula (vv_rmI rfl rfl (Nat.le_of_ble_eq_true rfl) (Nat.le_of_ble_eq_true rfl) (Nat.le_of_ble_eq_true rfl) (Nat.le_of_ble_eq_true rfl)) wm1894 wm1896 ws_selects_LatticeworkModel_LatticeworkModel_isFormula__I_Z_LatticeworkModel_isFormula__I_Z 0 rfl rfl rfl rfl (Nat.le_of_ble_eq_true rfl) dX13_formula_43 (fun v u hp => ?_)
  obtain rfl := hp
  refine vv_nrm (ws1 := [(q1, .inr (12, [.int (zI (0)), .ref q2, .ref q3, .ref q4, .ref q5, .ref q6, .ref q7, .long (0 : Int64)])), (q3, .inr (13, [.int (zI (0)), .ref (G.2.2 0), .int (zI (0))]))]) (st1 := [.int (zI (0))]) rfl rfl ?_
  refine vv_if_eq (tgt := 62) C dX13_formula_46 (by decide) (by omega) (fun h => ?_) (fun h => by exfalso; omega)
  refine vv_aload_n C 0 dX13_formula_62 rfl rfl ?_
  refine vv_iconst (v := zI (1)) C dX13_formula_63 rfl ?_
  refine vv_callV (As := [.int (zI (1))]) (rest := []) (wr := [(q3, .inr (13, [.int (zI (0)), .ref (G.2.2 0), .int (zI (0))]))]) (ws2 := fun u => [(q1, .inr (12, [.int (zI (1)), .ref q2, .ref q3, .ref q4, .ref q5, .ref q6, .ref q7, .long (0 : Int64)])), (q3, .inr (13, [.int (zI (0)), .ref (G.2.2 0), .int (zI (0))]))]) (isC := [0]) (isR := [1]) (isP := [1, 0]) C (vv_cutI rfl rfl rfl rfl (by decide) (fun _ => rfl) rfl) (k20_X13_refuse l hf G q1 q2 q3 q4 q5 q6 q7) yy_X13_refuse (vv_rmI rfl rfl (Nat.le_of_ble_eq_true rfl) (Nat.le_of_ble_eq_true rfl) (Nat.le_of_ble_eq_true rfl) (Nat.le_of_ble_eq_true rfl)) wm1163 wm1165 ws_selects_LatticeworkModel_LatticeworkModel_refuse__I_I_LatticeworkModel_refuse__I_I 0 rfl rfl rfl rfl (Nat.le_of_ble_eq_true rfl) dX13_formula_64 (fun v u hp => ?_)
  obtain rfl := hp
  refine vv_nrm (ws1 := [(q1, .inr (12, [.int (zI (1)), .ref q2, .ref q3, .ref q4, .ref q5, .ref q6, .ref q7, .long (0 : Int64)])), (q3, .inr (13, [.int (zI (0)), .ref (G.2.2 0), .int (zI (0))]))]) (st1 := [.int (zI (0))]) rfl rfl ?_
  exact vv_iret C (()) rfl [0, 1] rfl rfl ⟨Nat.le_of_ble_eq_true rfl, Nat.le_of_ble_eq_true rfl⟩ dX13_formula_67
set_option maxHeartbeats 4000000 in
set_option maxRecDepth 100000 in
theorem k344_X10_needParts (l : Launch) (hf : l.stackTraces = false) (G : vv_G) (q1 q2 q3 q4 q5 q6 q7 q8 q9 q10 q11 q12 q13 q14 : Nat) (v15 : Int) (rv2 : -2147483648 ≤ v15 ∧ v15 < 2147483648) (v16 : Int) (rv3 : -2147483648 ≤ v16 ∧ v16 < 2147483648) (g0 : 0 ≤ v15) : ∀ sz, vx_Met l yX10_needParts (Cond.code yX10_needParts cX10_needParts 4 none :: gT) ({ frames := 7, cells := 1, slots := 6, locals := 111 } : Room) (va_Pc [.ref q1, .int (zI (3)), .int (zI (v15)), .int (zI (v16))] (vv_I G [(q1, .inr (9, [.ref q2, .ref q3, .ref q4, .ref q5, .ref q6, .ref q7, .ref q8, .ref q9, .ref q10])), (q8, .inr (1, [.ref q11, .ref q12, .ref q13, .ref q14, .int (zI (0))]))] sz)) (vv_Q G (fun v (u : Unit) => False) (fun u => []) (va_A [(q1, .inr (9, [.ref q2, .ref q3, .ref q4, .ref q5, .ref q6, .ref q7, .ref q8, .ref q9, .ref q10])), (q8, .inr (1, [.ref q11, .ref q12, .ref q13, .ref q14, .int (zI (0))]))] sz)) (vv_XC G (fun E (u : Unit) => E = "java/lang/IndexOutOfBoundsException") (fun u => [(q1, .inr (9, [.ref q2, .ref q3, .ref q4, .ref q5, .ref q6, .ref q7, .ref q8, .ref q9, .ref q10])), (q8, .inr (1, [.ref q11, .ref q12, .ref q13, .ref q14, .int (zI (0))]))]) (va_A [(q1, .inr (9, [.ref q2, .ref q3, .ref q4, .ref q5, .ref q6, .ref q7, .ref q8, .ref q9, .ref q10])), (q8, .inr (1, [.ref q11, .ref q12, .ref q13, .ref q14, .int (zI (0))]))] sz)) 1 6 (va_A [(q1, .inr (9, [.ref q2, .ref q3, .ref q4, .ref q5, .ref q6, .ref q7, .ref q8, .ref q9, .ref q10])), (q8, .inr (1, [.ref q11, .ref q12, .ref q13, .ref q14, .int (zI (0))]))] sz) := by
  refine vv_startX hf (by decide) (Nat.le_of_ble_eq_true rfl) ?_
  intro p e s m below meth c A C hnm htab
  refine vv_iload_n C 1 dX10_needParts_0 rfl rfl ?_
  refine vv_iconst (v := zI (1)) C dX10_needParts_1 rfl ?_
  refine vv_icmp_ne (tgt := 15) C dX10_needParts_2 (by decide) (by omega) (by omega) (fun h => ?_) (fun h => by exfalso; omega)
  refine vv_iload_n C 1 dX10_needParts_15 rfl rfl ?_
  refine vv_iconst (v := zI (2)) C dX10_needParts_16 rfl ?_
  refine vv_icmp_lt (tgt := 30) C dX10_needParts_17 (by decide) (by omega) (by omega) (fun h => by exfalso; omega) (fun h => ?_)
  refine vv_iload_n C 1 dX10_needParts_20 rfl rfl ?_
  refine vv_iconst (v := zI (5)) C dX10_needParts_21 rfl ?_
  refine vv_icmp_gt (tgt := 30) C dX10_needParts_22 (by decide) (by omega) (by omega) (fun h => by exfalso; omega) (fun h => ?_)
  refine vv_aload_n C 0 dX10_needParts_25 rfl rfl ?_
  refine vv_iload_n C 2 dX10_needParts_26 rfl rfl ?_
  refine vv_callVx (As := [.int (zI (v15))]) (rest := []) (wr := []) (ws3 := fun u => [(q1, .inr (9, [.ref q2, .ref q3, .ref q4, .ref q5, .ref q6, .ref q7, .ref q8, .ref q9, .ref q10])), (q8, .inr (1, [.ref q11, .ref q12, .ref q13, .ref q14, .int (zI (0))]))]) (isC := [0, 1]) (isR := []) (isX := [0, 1]) (ws2 := fun _ => []) (isP := []) C (vv_cutI rfl rfl rfl rfl (by decide) (fun _ => rfl) rfl) (vv_cutI rfl rfl rfl rfl (by decide) (fun _ => rfl) rfl) (k338_X10_needFormula l hf G q1 q2 q3 q4 q5 q6 q7 q8 q9 q10 q11 q12 q13 q14 (v15) rv2 (by omega)) yy_X10_needFormula (vv_rmI rfl rfl (Nat.le_of_ble_eq_true rfl) (Nat.le_of_ble_eq_true rfl) (Nat.le_of_ble_eq_true rfl) (Nat.le_of_ble_eq_true rfl)) wm964 wm966 ws_selects_Latticework_Latticework_needFormula__I_V_Latticework_needFormula__I_V 0 rfl rfl rfl rfl (Nat.le_of_ble_eq_true rfl) dX10_needParts_27 (fun E9 u hp => ?_) (fun v u hp => hp.elim)
  obtain rfl := hp
  exact vv_out C htab ⟨Nat.le_of_ble_eq_true rfl, Nat.le_of_ble_eq_true rfl⟩ () rfl [0, 1] rfl rfl
set_option maxHeartbeats 4000000 in
set_option maxRecDepth 100000 in
theorem k345_X10_formula (l : Launch) (hf : l.stackTraces = false) (G : vv_G) (q1 q2 q3 q4 q5 q6 q7 q8 q9 q10 q11 q12 q13 q14 : Nat) (v15 : Int) (rv2 : -2147483648 ≤ v15 ∧ v15 < 2147483648) (v16 : Int) (rv3 : -2147483648 ≤ v16 ∧ v16 < 2147483648) (g0 : 0 ≤ v15) : ∀ sz, vx_Met l yX10_formula (Cond.code yX10_formula cX10_formula 5 (some .int) :: gT) ({ frames := 8, cells := 1, slots := 6, locals := 134 } : Room) (va_Pc [.ref q1, .int (zI (3)), .int (zI (v15)), .int (zI (v16))] (vv_I G [(q1, .inr (9, [.ref q2, .ref q3, .ref q4, .ref q5, .ref q6, .ref q7, .ref q8, .ref q9, .ref q10])), (q8, .inr (1, [.ref q11, .ref q12, .ref q13, .ref q14, .int (zI (0))]))] sz)) (vv_Q G (fun v (u : Unit) => False) (fun u => []) (va_A [(q1, .inr (9, [.ref q2, .ref q3, .ref q4, .ref q5, .ref q6, .ref q7, .ref q8, .ref q9, .ref q10])), (q8, .inr (1, [.ref q11, .ref q12, .ref q13, .ref q14, .int (zI (0))]))] sz)) (vv_XC G (fun E (u : Unit) => E = "java/lang/IndexOutOfBoundsException") (fun u => [(q1, .inr (9, [.ref q2, .ref q3, .ref q4, .ref q5, .ref q6, .ref q7, .ref q8, .ref q9, .ref q10])), (q8, .inr (1, [.ref q11, .ref q12, .ref q13, .ref q14, .int (zI (0))]))]) (va_A [(q1, .inr (9, [.ref q2, .ref q3, .ref q4, .ref q5, .ref q6, .ref q7, .ref q8, .ref q9, .ref q10])), (q8, .inr (1, [.ref q11, .ref q12, .ref q13, .ref q14, .int (zI (0))]))] sz)) 1 6 (va_A [(q1, .inr (9, [.ref q2, .ref q3, .ref q4, .ref q5, .ref q6, .ref q7, .ref q8, .ref q9, .ref q10])), (q8, .inr (1, [.ref q11, .ref q12, .ref q13, .ref q14, .int (zI (0))]))] sz) := by
  refine vv_startX hf (by decide) (Nat.le_of_ble_eq_true rfl) ?_
  intro p e s m below meth c A C hnm htab
  refine vv_aload_n C 0 dX10_formula_0 rfl rfl ?_
  refine vv_iload_n C 1 dX10_formula_1 rfl rfl ?_
  refine vv_iload_n C 2 dX10_formula_2 rfl rfl ?_
  refine vv_iload_n C 3 dX10_formula_3 rfl rfl ?_
  refine vv_callVx (As := [.int (zI (3)), .int (zI (v15)), .int (zI (v16))]) (rest := []) (wr := []) (ws3 := fun u => [(q1, .inr (9, [.ref q2, .ref q3, .ref q4, .ref q5, .ref q6, .ref q7, .ref q8, .ref q9, .ref q10])), (q8, .inr (1, [.ref q11, .ref q12, .ref q13, .ref q14, .int (zI (0))]))]) (isC := [0, 1]) (isR := []) (isX := [0, 1]) (ws2 := fun _ => []) (isP := []) C (vv_cutI rfl rfl rfl rfl (by decide) (fun _ => rfl) rfl) (vv_cutI rfl rfl rfl rfl (by decide) (fun _ => rfl) rfl) (k344_X10_needParts l hf G q1 q2 q3 q4 q5 q6 q7 q8 q9 q10 q11 q12 q13 q14 (v15) rv2 (v16) rv3 (by omega)) yy_X10_needParts (vv_rmI rfl rfl (Nat.le_of_ble_eq_true rfl) (Nat.le_of_ble_eq_true rfl) (Nat.le_of_ble_eq_true rfl) (Nat.le_of_ble_eq_true rfl)) wm960 wm962 ws_selects_Latticework_Latticework_needParts__III_V_Latticework_needParts__III_V 0 rfl rfl rfl rfl (Nat.le_of_ble_eq_true rfl) dX10_formula_4 (fun E9 u hp => ?_) (fun v u hp => hp.elim)
  obtain rfl := hp
  exact vv_out C htab ⟨Nat.le_of_ble_eq_true rfl, Nat.le_of_ble_eq_true rfl⟩ () rfl [0, 1] rfl rfl
set_option maxHeartbeats 4000000 in
set_option maxRecDepth 100000 in
theorem k346_L_formula (l : Launch) (hf : l.stackTraces = false) (G : vv_G) (q1 q2 q3 q4 q5 q6 q7 q8 q9 q10 q11 q12 q13 q14 q15 : Nat) (v16 : Int) (rv2 : -2147483648 ≤ v16 ∧ v16 < 2147483648) (v17 : Int) (rv3 : -2147483648 ≤ v17 ∧ v17 < 2147483648) (g0 : 0 ≤ v16) : ∀ sz, Met l yL_formula (Cond.codeWith yL_formula cL_formula 6 (some .int) [(0, 12, 15, 21), (0, 12, 19, 13), (0, 12, 23, 15)] :: gT) ({ frames := 9, cells := 1, slots := 6, locals := 158 } : Room) (va_Pc [.ref q1, .int (zI (3)), .int (zI (v16)), .int (zI (v17)), .ref q15] (vv_I G [(q1, .inr (9, [.ref q2, .ref q3, .ref q4, .ref q5, .ref q6, .ref q7, .ref q8, .ref q9, .ref q10])), (q8, .inr (1, [.ref q11, .ref q12, .ref q13, .ref q14, .int (zI (0))]))] sz)) (vv_Q G (fun v (u : Unit) => v = some (.int (zI (1)))) (fun u => [(q1, .inr (9, [.ref q2, .ref q3, .ref q4, .ref q5, .ref q6, .ref q7, .ref q8, .ref q9, .ref q10])), (q8, .inr (1, [.ref q11, .ref q12, .ref q13, .ref q14, .int (zI (0))]))]) (va_A [(q1, .inr (9, [.ref q2, .ref q3, .ref q4, .ref q5, .ref q6, .ref q7, .ref q8, .ref q9, .ref q10])), (q8, .inr (1, [.ref q11, .ref q12, .ref q13, .ref q14, .int (zI (0))]))] sz)) 1 6 (va_A [(q1, .inr (9, [.ref q2, .ref q3, .ref q4, .ref q5, .ref q6, .ref q7, .ref q8, .ref q9, .ref q10])), (q8, .inr (1, [.ref q11, .ref q12, .ref q13, .ref q14, .int (zI (0))]))] sz) := by
  refine vv_startW hf (by decide) (Nat.le_of_ble_eq_true rfl) ?_
  intro p e s m below meth c A C hnm htab
  refine vv_aload C 4 dL_formula_0 rfl ?_
  refine vv_iconst (v := zI (0)) C dL_formula_2 rfl ?_
  refine vv_aload_n C 0 dL_formula_3 rfl rfl ?_
  refine vv_iload_n C 1 dL_formula_4 rfl rfl ?_
  refine vv_iload_n C 2 dL_formula_5 rfl rfl ?_
  refine vv_iload_n C 3 dL_formula_6 rfl rfl ?_
  refine vv_callVx (As := [.int (zI (3)), .int (zI (v16)), .int (zI (v17))]) (rest := [.int (zI (0)), .ref q15]) (wr := []) (ws3 := fun u => [(q1, .inr (9, [.ref q2, .ref q3, .ref q4, .ref q5, .ref q6, .ref q7, .ref q8, .ref q9, .ref q10])), (q8, .inr (1, [.ref q11, .ref q12, .ref q13, .ref q14, .int (zI (0))]))]) (isC := [0, 1]) (isR := []) (isX := [0, 1]) (ws2 := fun _ => []) (isP := []) C (vv_cutI rfl rfl rfl rfl (by decide) (fun _ => rfl) rfl) (vv_cutI rfl rfl rfl rfl (by decide) (fun _ => rfl) rfl) (k345_X10_formula l hf G q1 q2 q3 q4 q5 q6 q7 q8 q9 q10 q11 q12 q13 q14 (v16) rv2 (v17) rv3 (by omega)) yy_X10_formula (vv_rmI rfl rfl (Nat.le_of_ble_eq_true rfl) (Nat.le_of_ble_eq_true rfl) (Nat.le_of_ble_eq_true rfl) (Nat.le_of_ble_eq_true rfl)) wm956 wm957 wm958 0 rfl rfl rfl rfl (Nat.le_of_ble_eq_true rfl) dL_formula_7 (fun E9 u hp => ?_) (fun v u hp => hp.elim)
  obtain rfl := hp
  refine vv_catch C htab [] ⟨0, 12, 15, 21⟩ [⟨0, 12, 19, 13⟩, ⟨0, 12, 23, 15⟩] rfl (fun z hz => nomatch hz) rfl (by decide) wm645 (by decide +kernel) (fun qe95 => ?_)
  refine vv_astore (loc1 := [(5, .ref qe95), (0, .ref q1), (1, .int (zI (3))), (2, .int (zI (v16))), (3, .int (zI (v17))), (4, .ref q15)]) C dL_formula_15 (by decide) rfl ?_
  refine vv_iconst (v := zI (1)) C dL_formula_17 rfl ?_
  exact vv_iret C (()) rfl [0, 1] rfl rfl ⟨Nat.le_of_ble_eq_true rfl, Nat.le_of_ble_eq_true rfl⟩ dL_formula_18
set_option maxHeartbeats 4000000 in
set_option maxRecDepth 100000 in
theorem k347_X13_formula (l : Launch) (hf : l.stackTraces = false) (G : vv_G) (q1 q2 q3 q4 q5 q6 q7 : Nat) (v8 : Int) (rv2 : -2147483648 ≤ v8 ∧ v8 < 2147483648) (v9 : Int) (rv3 : -2147483648 ≤ v9 ∧ v9 < 2147483648) (g0 : 0 ≤ v8) : ∀ sz, Met l yX13_formula (Cond.code yX13_formula cX13_formula 8 (some .int) :: gT) ({ frames := 2, cells := 0, slots := 0, locals := 43 } : Room) (va_Pc [.ref q1, .int (zI (3)), .int (zI (v8)), .int (zI (v9))] (vv_I G [(q1, .inr (12, [.int (zI (0)), .ref q2, .ref q3, .ref q4, .ref q5, .ref q6, .ref q7, .long (0 : Int64)])), (q3, .inr (13, [.int (zI (0)), .ref (G.2.2 0), .int (zI (0))]))] sz)) (vv_Q G (fun v (u : Unit) => v = some (.int (zI (0)))) (fun u => [(q1, .inr (12, [.int (zI (1)), .ref q2, .ref q3, .ref q4, .ref q5, .ref q6, .ref q7, .long (0 : Int64)])), (q3, .inr (13, [.int (zI (0)), .ref (G.2.2 0), .int (zI (0))]))]) (va_A [(q1, .inr (12, [.int (zI (0)), .ref q2, .ref q3, .ref q4, .ref q5, .ref q6, .ref q7, .long (0 : Int64)])), (q3, .inr (13, [.int (zI (0)), .ref (G.2.2 0), .int (zI (0))]))] sz)) 0 0 (va_A [(q1, .inr (12, [.int (zI (0)), .ref q2, .ref q3, .ref q4, .ref q5, .ref q6, .ref q7, .long (0 : Int64)])), (q3, .inr (13, [.int (zI (0)), .ref (G.2.2 0), .int (zI (0))]))] sz) := by
  refine vv_start hf (by decide) (Nat.le_of_ble_eq_true rfl) ?_
  intro p e s m below meth c A C hnm
  refine vv_aload_n C 0 dX13_formula_0 rfl rfl ?_
  refine vv_iconst (v := zI (0)) C dX13_formula_1 rfl ?_
  refine vv_put (ws1 := [(q1, .inr (12, [.int (zI (0)), .ref q2, .ref q3, .ref q4, .ref q5, .ref q6, .ref q7, .long (0 : Int64)])), (q3, .inr (13, [.int (zI (0)), .ref (G.2.2 0), .int (zI (0))]))]) C 0 rfl rfl vi_X13 tyX13_ok nmX13 0 (by decide) wm1127 rfl rfl rfl (Nat.le_of_ble_eq_true rfl) rfl dX13_formula_2 ?_
  refine vv_iload_n C 1 dX13_formula_5 rfl rfl ?_
  refine vv_iconst (v := zI (1)) C dX13_formula_6 rfl ?_
  refine vv_icmp_ne (tgt := 32) C dX13_formula_7 (by decide) (by omega) (by omega) (fun h => ?_) (fun h => by exfalso; omega)
  refine vv_iload_n C 1 dX13_formula_32 rfl rfl ?_
  refine vv_iconst (v := zI (2)) C dX13_formula_33 rfl ?_
  refine vv_iconst (v := zI (5)) C dX13_formula_34 rfl ?_
  refine vv_callS (As := [.int (zI (3)), .int (zI (2)), .int (zI (5))]) (rest := []) (wr := [(q1, .inr (12, [.int (zI (0)), .ref q2, .ref q3, .ref q4, .ref q5, .ref q6, .ref q7, .long (0 : Int64)])), (q3, .inr (13, [.int (zI (0)), .ref (G.2.2 0), .int (zI (0))]))]) (ws2 := fun u => [(q1, .inr (12, [.int (zI (0)), .ref q2, .ref q3, .ref q4, .ref q5, .ref q6, .ref q7, .long (0 : Int64)])), (q3, .inr (13, [.int (zI (0)), .ref (G.2.2 0), .int (zI (0))]))]) (isC := []) (isR := [0, 1]) (isP := [0, 1]) C (vv_cutI rfl rfl rfl rfl (by decide) (fun _ => rfl) rfl) (k319_X13_is l hf G ) yy_X13_is (vv_rmI rfl rfl (Nat.le_of_ble_eq_true rfl) (Nat.le_of_ble_eq_true rfl) (Nat.le_of_ble_eq_true rfl) (Nat.le_of_ble_eq_true rfl)) wm1160 wm1161 rfl rfl (Nat.le_of_ble_eq_true rfl) dX13_formula_35 (fun v u hp => ?_)
  obtain rfl := hp
  refine vv_nrm (ws1 := [(q1, .inr (12, [.int (zI (0)), .ref q2, .ref q3, .ref q4, .ref q5, .ref q6, .ref q7, .long (0 : Int64)])), (q3, .inr (13, [.int (zI (0)), .ref (G.2.2 0), .int (zI (0))]))]) (st1 := [.int (zI (1))]) rfl rfl ?_
  refine vv_if_eq (tgt := 68) C dX13_formula_38 (by decide) (by omega) (fun h => by exfalso; omega) (fun h => ?_)
  refine vv_aload_n C 0 dX13_formula_41 rfl rfl ?_
  refine vv_iload_n C 2 dX13_formula_42 rfl rfl ?_
  refine vv_callV (As := [.int (zI (v8))]) (rest := []) (wr := []) (ws2 := fun u => [(q1, .inr (12, [.int (zI (0)), .ref q2, .ref q3, .ref q4, .ref q5, .ref q6, .ref q7, .long (0 : Int64)])), (q3, .inr (13, [.int (zI (0)), .ref (G.2.2 0), .int (zI (0))]))]) (isC := [0, 1]) (isR := []) (isP := [0, 1]) C (vv_cutI rfl rfl rfl rfl (by decide) (fun _ => rfl) rfl) (k342_X13_isFormula l hf G q1 q2 q3 q4 q5 q6 q7 (v8) rv2 (by omega)) yy_X13_isFormula (vv_rmI rfl rfl (Nat.le_of_ble_eq_true rfl) (Nat.le_of_ble_eq_true rfl) (Nat.le_of_ble_eq_true rfl) (Nat.le_of_ble_eq_true rfl)) wm1894 wm1896 ws_selects_LatticeworkModel_LatticeworkModel_isFormula__I_Z_LatticeworkModel_isFormula__I_Z 0 rfl rfl rfl rfl (Nat.le_of_ble_eq_true rfl) dX13_formula_43 (fun v u hp => ?_)
  obtain rfl := hp
  refine vv_nrm (ws1 := [(q1, .inr (12, [.int (zI (0)), .ref q2, .ref q3, .ref q4, .ref q5, .ref q6, .ref q7, .long (0 : Int64)])), (q3, .inr (13, [.int (zI (0)), .ref (G.2.2 0), .int (zI (0))]))]) (st1 := [.int (zI (0))]) rfl rfl ?_
  refine vv_if_eq (tgt := 62) C dX13_formula_46 (by decide) (by omega) (fun h => ?_) (fun h => by exfalso; omega)
  refine vv_aload_n C 0 dX13_formula_62 rfl rfl ?_
  refine vv_iconst (v := zI (1)) C dX13_formula_63 rfl ?_
  refine vv_callV (As := [.int (zI (1))]) (rest := []) (wr := [(q3, .inr (13, [.int (zI (0)), .ref (G.2.2 0), .int (zI (0))]))]) (ws2 := fun u => [(q1, .inr (12, [.int (zI (1)), .ref q2, .ref q3, .ref q4, .ref q5, .ref q6, .ref q7, .long (0 : Int64)])), (q3, .inr (13, [.int (zI (0)), .ref (G.2.2 0), .int (zI (0))]))]) (isC := [0]) (isR := [1]) (isP := [1, 0]) C (vv_cutI rfl rfl rfl rfl (by decide) (fun _ => rfl) rfl) (k20_X13_refuse l hf G q1 q2 q3 q4 q5 q6 q7) yy_X13_refuse (vv_rmI rfl rfl (Nat.le_of_ble_eq_true rfl) (Nat.le_of_ble_eq_true rfl) (Nat.le_of_ble_eq_true rfl) (Nat.le_of_ble_eq_true rfl)) wm1163 wm1165 ws_selects_LatticeworkModel_LatticeworkModel_refuse__I_I_LatticeworkModel_refuse__I_I 0 rfl rfl rfl rfl (Nat.le_of_ble_eq_true rfl) dX13_formula_64 (fun v u hp => ?_)
  obtain rfl := hp
  refine vv_nrm (ws1 := [(q1, .inr (12, [.int (zI (1)), .ref q2, .ref q3, .ref q4, .ref q5, .ref q6, .ref q7, .long (0 : Int64)])), (q3, .inr (13, [.int (zI (0)), .ref (G.2.2 0), .int (zI (0))]))]) (st1 := [.int (zI (0))]) rfl rfl ?_
  exact vv_iret C (()) rfl [0, 1] rfl rfl ⟨Nat.le_of_ble_eq_true rfl, Nat.le_of_ble_eq_true rfl⟩ dX13_formula_67
set_option maxHeartbeats 4000000 in
set_option maxRecDepth 100000 in
theorem k348_X10_needParts (l : Launch) (hf : l.stackTraces = false) (G : vv_G) (q1 q2 q3 q4 q5 q6 q7 q8 q9 q10 q11 q12 q13 q14 : Nat) (v15 : Int) (rv2 : -2147483648 ≤ v15 ∧ v15 < 2147483648) (v16 : Int) (rv3 : -2147483648 ≤ v16 ∧ v16 < 2147483648) (g0 : 0 ≤ v15) : ∀ sz, vx_Met l yX10_needParts (Cond.code yX10_needParts cX10_needParts 4 none :: gT) ({ frames := 7, cells := 1, slots := 6, locals := 111 } : Room) (va_Pc [.ref q1, .int (zI (4)), .int (zI (v15)), .int (zI (v16))] (vv_I G [(q1, .inr (9, [.ref q2, .ref q3, .ref q4, .ref q5, .ref q6, .ref q7, .ref q8, .ref q9, .ref q10])), (q8, .inr (1, [.ref q11, .ref q12, .ref q13, .ref q14, .int (zI (0))]))] sz)) (vv_Q G (fun v (u : Unit) => False) (fun u => []) (va_A [(q1, .inr (9, [.ref q2, .ref q3, .ref q4, .ref q5, .ref q6, .ref q7, .ref q8, .ref q9, .ref q10])), (q8, .inr (1, [.ref q11, .ref q12, .ref q13, .ref q14, .int (zI (0))]))] sz)) (vv_XC G (fun E (u : Unit) => E = "java/lang/IndexOutOfBoundsException") (fun u => [(q1, .inr (9, [.ref q2, .ref q3, .ref q4, .ref q5, .ref q6, .ref q7, .ref q8, .ref q9, .ref q10])), (q8, .inr (1, [.ref q11, .ref q12, .ref q13, .ref q14, .int (zI (0))]))]) (va_A [(q1, .inr (9, [.ref q2, .ref q3, .ref q4, .ref q5, .ref q6, .ref q7, .ref q8, .ref q9, .ref q10])), (q8, .inr (1, [.ref q11, .ref q12, .ref q13, .ref q14, .int (zI (0))]))] sz)) 1 6 (va_A [(q1, .inr (9, [.ref q2, .ref q3, .ref q4, .ref q5, .ref q6, .ref q7, .ref q8, .ref q9, .ref q10])), (q8, .inr (1, [.ref q11, .ref q12, .ref q13, .ref q14, .int (zI (0))]))] sz) := by
  refine vv_startX hf (by decide) (Nat.le_of_ble_eq_true rfl) ?_
  intro p e s m below meth c A C hnm htab
  refine vv_iload_n C 1 dX10_needParts_0 rfl rfl ?_
  refine vv_iconst (v := zI (1)) C dX10_needParts_1 rfl ?_
  refine vv_icmp_ne (tgt := 15) C dX10_needParts_2 (by decide) (by omega) (by omega) (fun h => ?_) (fun h => by exfalso; omega)
  refine vv_iload_n C 1 dX10_needParts_15 rfl rfl ?_
  refine vv_iconst (v := zI (2)) C dX10_needParts_16 rfl ?_
  refine vv_icmp_lt (tgt := 30) C dX10_needParts_17 (by decide) (by omega) (by omega) (fun h => by exfalso; omega) (fun h => ?_)
  refine vv_iload_n C 1 dX10_needParts_20 rfl rfl ?_
  refine vv_iconst (v := zI (5)) C dX10_needParts_21 rfl ?_
  refine vv_icmp_gt (tgt := 30) C dX10_needParts_22 (by decide) (by omega) (by omega) (fun h => by exfalso; omega) (fun h => ?_)
  refine vv_aload_n C 0 dX10_needParts_25 rfl rfl ?_
  refine vv_iload_n C 2 dX10_needParts_26 rfl rfl ?_
  refine vv_callVx (As := [.int (zI (v15))]) (rest := []) (wr := []) (ws3 := fun u => [(q1, .inr (9, [.ref q2, .ref q3, .ref q4, .ref q5, .ref q6, .ref q7, .ref q8, .ref q9, .ref q10])), (q8, .inr (1, [.ref q11, .ref q12, .ref q13, .ref q14, .int (zI (0))]))]) (isC := [0, 1]) (isR := []) (isX := [0, 1]) (ws2 := fun _ => []) (isP := []) C (vv_cutI rfl rfl rfl rfl (by decide) (fun _ => rfl) rfl) (vv_cutI rfl rfl rfl rfl (by decide) (fun _ => rfl) rfl) (k338_X10_needFormula l hf G q1 q2 q3 q4 q5 q6 q7 q8 q9 q10 q11 q12 q13 q14 (v15) rv2 (by omega)) yy_X10_needFormula (vv_rmI rfl rfl (Nat.le_of_ble_eq_true rfl) (Nat.le_of_ble_eq_true rfl) (Nat.le_of_ble_eq_true rfl) (Nat.le_of_ble_eq_true rfl)) wm964 wm966 ws_selects_Latticework_Latticework_needFormula__I_V_Latticework_needFormula__I_V 0 rfl rfl rfl rfl (Nat.le_of_ble_eq_true rfl) dX10_needParts_27 (fun E9 u hp => ?_) (fun v u hp => hp.elim)
  obtain rfl := hp
  exact vv_out C htab ⟨Nat.le_of_ble_eq_true rfl, Nat.le_of_ble_eq_true rfl⟩ () rfl [0, 1] rfl rfl
set_option maxHeartbeats 4000000 in
set_option maxRecDepth 100000 in
theorem k349_X10_formula (l : Launch) (hf : l.stackTraces = false) (G : vv_G) (q1 q2 q3 q4 q5 q6 q7 q8 q9 q10 q11 q12 q13 q14 : Nat) (v15 : Int) (rv2 : -2147483648 ≤ v15 ∧ v15 < 2147483648) (v16 : Int) (rv3 : -2147483648 ≤ v16 ∧ v16 < 2147483648) (g0 : 0 ≤ v15) : ∀ sz, vx_Met l yX10_formula (Cond.code yX10_formula cX10_formula 5 (some .int) :: gT) ({ frames := 8, cells := 1, slots := 6, locals := 134 } : Room) (va_Pc [.ref q1, .int (zI (4)), .int (zI (v15)), .int (zI (v16))] (vv_I G [(q1, .inr (9, [.ref q2, .ref q3, .ref q4, .ref q5, .ref q6, .ref q7, .ref q8, .ref q9, .ref q10])), (q8, .inr (1, [.ref q11, .ref q12, .ref q13, .ref q14, .int (zI (0))]))] sz)) (vv_Q G (fun v (u : Unit) => False) (fun u => []) (va_A [(q1, .inr (9, [.ref q2, .ref q3, .ref q4, .ref q5, .ref q6, .ref q7, .ref q8, .ref q9, .ref q10])), (q8, .inr (1, [.ref q11, .ref q12, .ref q13, .ref q14, .int (zI (0))]))] sz)) (vv_XC G (fun E (u : Unit) => E = "java/lang/IndexOutOfBoundsException") (fun u => [(q1, .inr (9, [.ref q2, .ref q3, .ref q4, .ref q5, .ref q6, .ref q7, .ref q8, .ref q9, .ref q10])), (q8, .inr (1, [.ref q11, .ref q12, .ref q13, .ref q14, .int (zI (0))]))]) (va_A [(q1, .inr (9, [.ref q2, .ref q3, .ref q4, .ref q5, .ref q6, .ref q7, .ref q8, .ref q9, .ref q10])), (q8, .inr (1, [.ref q11, .ref q12, .ref q13, .ref q14, .int (zI (0))]))] sz)) 1 6 (va_A [(q1, .inr (9, [.ref q2, .ref q3, .ref q4, .ref q5, .ref q6, .ref q7, .ref q8, .ref q9, .ref q10])), (q8, .inr (1, [.ref q11, .ref q12, .ref q13, .ref q14, .int (zI (0))]))] sz) := by
  refine vv_startX hf (by decide) (Nat.le_of_ble_eq_true rfl) ?_
  intro p e s m below meth c A C hnm htab
  refine vv_aload_n C 0 dX10_formula_0 rfl rfl ?_
  refine vv_iload_n C 1 dX10_formula_1 rfl rfl ?_
  refine vv_iload_n C 2 dX10_formula_2 rfl rfl ?_
  refine vv_iload_n C 3 dX10_formula_3 rfl rfl ?_
  refine vv_callVx (As := [.int (zI (4)), .int (zI (v15)), .int (zI (v16))]) (rest := []) (wr := []) (ws3 := fun u => [(q1, .inr (9, [.ref q2, .ref q3, .ref q4, .ref q5, .ref q6, .ref q7, .ref q8, .ref q9, .ref q10])), (q8, .inr (1, [.ref q11, .ref q12, .ref q13, .ref q14, .int (zI (0))]))]) (isC := [0, 1]) (isR := []) (isX := [0, 1]) (ws2 := fun _ => []) (isP := []) C (vv_cutI rfl rfl rfl rfl (by decide) (fun _ => rfl) rfl) (vv_cutI rfl rfl rfl rfl (by decide) (fun _ => rfl) rfl) (k348_X10_needParts l hf G q1 q2 q3 q4 q5 q6 q7 q8 q9 q10 q11 q12 q13 q14 (v15) rv2 (v16) rv3 (by omega)) yy_X10_needParts (vv_rmI rfl rfl (Nat.le_of_ble_eq_true rfl) (Nat.le_of_ble_eq_true rfl) (Nat.le_of_ble_eq_true rfl) (Nat.le_of_ble_eq_true rfl)) wm960 wm962 ws_selects_Latticework_Latticework_needParts__III_V_Latticework_needParts__III_V 0 rfl rfl rfl rfl (Nat.le_of_ble_eq_true rfl) dX10_formula_4 (fun E9 u hp => ?_) (fun v u hp => hp.elim)
  obtain rfl := hp
  exact vv_out C htab ⟨Nat.le_of_ble_eq_true rfl, Nat.le_of_ble_eq_true rfl⟩ () rfl [0, 1] rfl rfl
