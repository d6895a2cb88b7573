set_option maxHeartbeats 4000000 in
set_option maxRecDepth 100000 in
theorem k281_X10_needParts (l : Launch) (hf : l.stackTraces = false) (G : vv_G) (q1 q2 q3 q4 q5 q6 q7 q8 q9 q10 : Nat) (v11 : Int) (rv2 : -2147483648 ≤ v11 ∧ v11 < 2147483648) (v12 : Int) (rv3 : -2147483648 ≤ v12 ∧ v12 < 2147483648) (g0 : v11 ≤ -1) : ∀ sz, Met l yX10_needParts (Cond.code yX10_needParts cX10_needParts 4 none :: gT) ({ frames := 0, cells := 0, slots := 0, locals := 0 } : Room) (va_Pc [.ref q1, .int (zI (0)), .int (zI (v11)), .int (zI (v12))] (vv_I G [(q1, .inr (9, [.ref q2, .ref q3, .ref q4, .ref q5, .ref q6, .ref q7, .ref q8, .ref q9, .ref q10]))] sz)) (vv_Q G (fun v (u : Unit) => v = none) (fun u => [(q1, .inr (9, [.ref q2, .ref q3, .ref q4, .ref q5, .ref q6, .ref q7, .ref q8, .ref q9, .ref q10]))]) (va_A [(q1, .inr (9, [.ref q2, .ref q3, .ref q4, .ref q5, .ref q6, .ref q7, .ref q8, .ref q9, .ref q10]))] sz)) 0 0 (va_A [(q1, .inr (9, [.ref q2, .ref q3, .ref q4, .ref q5, .ref q6, .ref q7, .ref q8, .ref q9, .ref q10]))] sz) := by
  refine vv_start hf (by decide) (Nat.le_of_ble_eq_true rfl) ?_
  intro p e s m below meth c A C hnm
  refine vv_iload_n C 1 dX10_needParts_0 rfl rfl ?_
  refine vv_iconst (v := zI (1)) C dX10_needParts_1 rfl ?_
  refine vv_icmp_ne (tgt := 15) C dX10_needParts_2 (by decide) (by omega) (by omega) (fun h => ?_) (fun h => by exfalso; omega)
  refine vv_iload_n C 1 dX10_needParts_15 rfl rfl ?_
  refine vv_iconst (v := zI (2)) C dX10_needParts_16 rfl ?_
  refine vv_icmp_lt (tgt := 30) C dX10_needParts_17 (by decide) (by omega) (by omega) (fun h => ?_) (fun h => by exfalso; omega)
  refine vv_iload_n C 1 dX10_needParts_30 rfl rfl ?_
  refine vv_iconst (v := zI (3)) C dX10_needParts_31 rfl ?_
  refine vv_icmp_lt (tgt := 45) C dX10_needParts_32 (by decide) (by omega) (by omega) (fun h => ?_) (fun h => by exfalso; omega)
  exact vv_vret C (()) rfl [0] rfl rfl ⟨Nat.le_of_ble_eq_true rfl, Nat.le_of_ble_eq_true rfl⟩ dX10_needParts_45
set_option maxHeartbeats 4000000 in
set_option maxRecDepth 100000 in
theorem k282_X10_formula (l : Launch) (hf : l.stackTraces = false) (G : vv_G) (q1 q2 q3 q4 q5 q6 q7 q8 q9 q10 : Nat) (v11 : Int) (rv2 : -2147483648 ≤ v11 ∧ v11 < 2147483648) (v12 : Int) (rv3 : -2147483648 ≤ v12 ∧ v12 < 2147483648) (g0 : v11 ≤ -1) : ∀ sz, vx_Met l yX10_formula (Cond.code yX10_formula cX10_formula 5 (some .int) :: gT) ({ frames := 6, cells := 1, slots := 6, locals := 90 } : Room) (va_Pc [.ref q1, .int (zI (0)), .int (zI (v11)), .int (zI (v12))] (vv_I G [(q1, .inr (9, [.ref q2, .ref q3, .ref q4, .ref q5, .ref q6, .ref q7, .ref q8, .ref q9, .ref q10]))] sz)) (vv_Q G (fun v (u : Unit) => False) (fun u => []) (va_A [(q1, .inr (9, [.ref q2, .ref q3, .ref q4, .ref q5, .ref q6, .ref q7, .ref q8, .ref q9, .ref q10]))] sz)) (vv_XC G (fun E (u : Unit) => E = "java/lang/IllegalArgumentException") (fun u => [(q1, .inr (9, [.ref q2, .ref q3, .ref q4, .ref q5, .ref q6, .ref q7, .ref q8, .ref q9, .ref q10]))]) (va_A [(q1, .inr (9, [.ref q2, .ref q3, .ref q4, .ref q5, .ref q6, .ref q7, .ref q8, .ref q9, .ref q10]))] sz)) 1 6 (va_A [(q1, .inr (9, [.ref q2, .ref q3, .ref q4, .ref q5, .ref q6, .ref q7, .ref q8, .ref q9, .ref q10]))] sz) := by
  refine vv_startX hf (by decide) (Nat.le_of_ble_eq_true rfl) ?_
  intro p e s m below meth c A C hnm htab
  refine vv_aload_n C 0 dX10_formula_0 rfl rfl ?_
  refine vv_iload_n C 1 dX10_formula_1 rfl rfl ?_
  refine vv_iload_n C 2 dX10_formula_2 rfl rfl ?_
  refine vv_iload_n C 3 dX10_formula_3 rfl rfl ?_
  refine vv_callV (As := [.int (zI (0)), .int (zI (v11)), .int (zI (v12))]) (rest := []) (wr := []) (ws2 := fun u => [(q1, .inr (9, [.ref q2, .ref q3, .ref q4, .ref q5, .ref q6, .ref q7, .ref q8, .ref q9, .ref q10]))]) (isC := [0]) (isR := []) (isP := [0]) C (vv_cutI rfl rfl rfl rfl (by decide) (fun _ => rfl) rfl) (k281_X10_needParts l hf G q1 q2 q3 q4 q5 q6 q7 q8 q9 q10 (v11) rv2 (v12) rv3 (by omega)) yy_X10_needParts (vv_rmI rfl rfl (Nat.le_of_ble_eq_true rfl) (Nat.le_of_ble_eq_true rfl) (Nat.le_of_ble_eq_true rfl) (Nat.le_of_ble_eq_true rfl)) wm960 wm962 ws_selects_Latticework_Latticework_needParts__III_V_Latticework_needParts__III_V 0 rfl rfl rfl rfl (Nat.le_of_ble_eq_true rfl) dX10_formula_4 (fun v u hp => ?_)
  obtain rfl := hp
  refine vv_nrm (ws1 := [(q1, .inr (9, [.ref q2, .ref q3, .ref q4, .ref q5, .ref q6, .ref q7, .ref q8, .ref q9, .ref q10]))]) (st1 := []) rfl rfl ?_
  refine vv_iload_n C 1 dX10_formula_7 rfl rfl ?_
  refine vv_if_lt (tgt := 16) C dX10_formula_8 (by decide) (by omega) (fun h => by exfalso; omega) (fun h => ?_)
  refine vv_iload_n C 1 dX10_formula_11 rfl rfl ?_
  refine vv_iconst (v := zI (5)) C dX10_formula_12 rfl ?_
  refine vv_icmp_le (tgt := 26) C dX10_formula_13 (by decide) (by omega) (by omega) (fun h => ?_) (fun h => by exfalso; omega)
  refine vv_iload_n C 1 dX10_formula_26 rfl rfl ?_
  refine vv_if_ne (tgt := 50) C dX10_formula_27 (by decide) (by omega) (fun h => by exfalso; omega) (fun h => ?_)
  refine vv_iload_n C 2 dX10_formula_30 rfl rfl ?_
  refine vv_if_lt (tgt := 40) C dX10_formula_31 (by decide) (by omega) (fun h => ?_) (fun h => by exfalso; omega)
  exact vv_throw C tw_X10_74_211 htab dX10_formula_40 dX10_formula_43 dX10_formula_44 dX10_formula_46 dX10_formula_49 ⟨Nat.le_of_ble_eq_true rfl, Nat.le_of_ble_eq_true rfl, Nat.le_of_ble_eq_true rfl, Nat.le_of_ble_eq_true rfl, Nat.le_of_ble_eq_true rfl, Nat.le_of_ble_eq_true rfl⟩ () rfl [0] rfl rfl
set_option maxHeartbeats 4000000 in
set_option maxRecDepth 100000 in
theorem k283_L_formula (l : Launch) (hf : l.stackTraces = false) (G : vv_G) (q1 q2 q3 q4 q5 q6 q7 q8 q9 q10 q11 : Nat) (v12 : Int) (rv2 : -2147483648 ≤ v12 ∧ v12 < 2147483648) (v13 : Int) (rv3 : -2147483648 ≤ v13 ∧ v13 < 2147483648) (g0 : v12 ≤ -1) : ∀ sz, Met l yL_formula (Cond.codeWith yL_formula cL_formula 6 (some .int) [(0, 12, 15, 21), (0, 12, 19, 13), (0, 12, 23, 15)] :: gT) ({ frames := 7, cells := 1, slots := 6, locals := 114 } : Room) (va_Pc [.ref q1, .int (zI (0)), .int (zI (v12)), .int (zI (v13)), .ref q11] (vv_I G [(q1, .inr (9, [.ref q2, .ref q3, .ref q4, .ref q5, .ref q6, .ref q7, .ref q8, .ref q9, .ref q10]))] sz)) (vv_Q G (fun v (u : Unit) => v = some (.int (zI (2)))) (fun u => [(q1, .inr (9, [.ref q2, .ref q3, .ref q4, .ref q5, .ref q6, .ref q7, .ref q8, .ref q9, .ref q10]))]) (va_A [(q1, .inr (9, [.ref q2, .ref q3, .ref q4, .ref q5, .ref q6, .ref q7, .ref q8, .ref q9, .ref q10]))] sz)) 1 6 (va_A [(q1, .inr (9, [.ref q2, .ref q3, .ref q4, .ref q5, .ref q6, .ref q7, .ref q8, .ref q9, .ref q10]))] sz) := by
  refine vv_startW hf (by decide) (Nat.le_of_ble_eq_true rfl) ?_
  intro p e s m below meth c A C hnm htab
  refine vv_aload C 4 dL_formula_0 rfl ?_
  refine vv_iconst (v := zI (0)) C dL_formula_2 rfl ?_
  refine vv_aload_n C 0 dL_formula_3 rfl rfl ?_
  refine vv_iload_n C 1 dL_formula_4 rfl rfl ?_
  refine vv_iload_n C 2 dL_formula_5 rfl rfl ?_
  refine vv_iload_n C 3 dL_formula_6 rfl rfl ?_
  refine vv_callVx (As := [.int (zI (0)), .int (zI (v12)), .int (zI (v13))]) (rest := [.int (zI (0)), .ref q11]) (wr := []) (ws3 := fun u => [(q1, .inr (9, [.ref q2, .ref q3, .ref q4, .ref q5, .ref q6, .ref q7, .ref q8, .ref q9, .ref q10]))]) (isC := [0]) (isR := []) (isX := [0]) (ws2 := fun _ => []) (isP := []) C (vv_cutI rfl rfl rfl rfl (by decide) (fun _ => rfl) rfl) (vv_cutI rfl rfl rfl rfl (by decide) (fun _ => rfl) rfl) (k282_X10_formula l hf G q1 q2 q3 q4 q5 q6 q7 q8 q9 q10 (v12) rv2 (v13) rv3 (by omega)) yy_X10_formula (vv_rmI rfl rfl (Nat.le_of_ble_eq_true rfl) (Nat.le_of_ble_eq_true rfl) (Nat.le_of_ble_eq_true rfl) (Nat.le_of_ble_eq_true rfl)) wm956 wm957 wm958 0 rfl rfl rfl rfl (Nat.le_of_ble_eq_true rfl) dL_formula_7 (fun E9 u hp => ?_) (fun v u hp => hp.elim)
  obtain rfl := hp
  refine vv_catch C htab [⟨0, 12, 15, 21⟩] ⟨0, 12, 19, 13⟩ [⟨0, 12, 23, 15⟩] rfl (by intro z hz; simp only [List.mem_cons, List.not_mem_nil, or_false] at hz; obtain rfl := hz; exact Or.inr ⟨by decide, "java/lang/IndexOutOfBoundsException", wm645, by decide +kernel⟩) rfl (by decide) wm541 (by decide +kernel) (fun qe81 => ?_)
  refine vv_astore (loc1 := [(5, .ref qe81), (0, .ref q1), (1, .int (zI (0))), (2, .int (zI (v12))), (3, .int (zI (v13))), (4, .ref q11)]) C dL_formula_19 (by decide) rfl ?_
  refine vv_iconst (v := zI (2)) C dL_formula_21 rfl ?_
  exact vv_iret C (()) rfl [0] rfl rfl ⟨Nat.le_of_ble_eq_true rfl, Nat.le_of_ble_eq_true rfl⟩ dL_formula_22
set_option maxHeartbeats 4000000 in
set_option maxRecDepth 100000 in
theorem k284_X13_is (l : Launch) (hf : l.stackTraces = false) (G : vv_G)  : ∀ sz, Met l yX13_is (Cond.code yX13_is cX13_is 3 (some .boolean) :: gT) ({ frames := 0, cells := 0, slots := 0, locals := 0 } : Room) (va_Pc [.int (zI (0)), .int (zI (2)), .int (zI (5))] (vv_I G [] sz)) (vv_Q G (fun v (u : Unit) => v = some (.int (zI (0)))) (fun u => []) (va_A [] sz)) 0 0 (va_A [] sz) := by
  refine vv_start hf (by decide) (Nat.le_of_ble_eq_true rfl) ?_
  intro p e s m below meth c A C hnm
  refine vv_iload_n C 0 dX13_is_0 rfl rfl ?_
  refine vv_iload_n C 1 dX13_is_1 rfl rfl ?_
  refine vv_icmp_lt (tgt := 14) C dX13_is_2 (by decide) (by omega) (by omega) (fun h => ?_) (fun h => by exfalso; omega)
  refine vv_iconst (v := zI (0)) C dX13_is_14 rfl ?_
  exact vv_zret C (by decide) (()) rfl [] rfl rfl ⟨Nat.le_of_ble_eq_true rfl, Nat.le_of_ble_eq_true rfl⟩ dX13_is_15
set_option maxHeartbeats 4000000 in
set_option maxRecDepth 100000 in
theorem k285_X13_is (l : Launch) (hf : l.stackTraces = false) (G : vv_G)  (v1 : Int) (rv2 : -2147483648 ≤ v1 ∧ v1 < 2147483648) (g0 : v1 ≤ -1) : ∀ sz, Met l yX13_is (Cond.code yX13_is cX13_is 3 (some .boolean) :: gT) ({ frames := 0, cells := 0, slots := 0, locals := 0 } : Room) (va_Pc [.int (zI (v1)), .int (zI (0)), .int (zI (5))] (vv_I G [] sz)) (vv_Q G (fun v (u : Unit) => v = some (.int (zI (0)))) (fun u => []) (va_A [] sz)) 0 0 (va_A [] sz) := by
  refine vv_start hf (by decide) (Nat.le_of_ble_eq_true rfl) ?_
  intro p e s m below meth c A C hnm
  refine vv_iload_n C 0 dX13_is_0 rfl rfl ?_
  refine vv_iload_n C 1 dX13_is_1 rfl rfl ?_
  refine vv_icmp_lt (tgt := 14) C dX13_is_2 (by decide) (by omega) (by omega) (fun h => ?_) (fun h => by exfalso; omega)
  refine vv_iconst (v := zI (0)) C dX13_is_14 rfl ?_
  exact vv_zret C (by decide) (()) rfl [] rfl rfl ⟨Nat.le_of_ble_eq_true rfl, Nat.le_of_ble_eq_true rfl⟩ dX13_is_15
set_option maxHeartbeats 4000000 in
set_option maxRecDepth 100000 in
theorem k286_X13_formula (l : Launch) (hf : l.stackTraces = false) (G : vv_G) (q1 q2 q3 q4 q5 q6 q7 : Nat) (v8 : Int) (rv2 : -2147483648 ≤ v8 ∧ v8 < 2147483648) (v9 : Int) (rv3 : -2147483648 ≤ v9 ∧ v9 < 2147483648) (g0 : v8 ≤ -1) : ∀ sz, Met l yX13_formula (Cond.code yX13_formula cX13_formula 8 (some .int) :: gT) ({ frames := 1, cells := 0, slots := 0, locals := 22 } : Room) (va_Pc [.ref q1, .int (zI (0)), .int (zI (v8)), .int (zI (v9))] (vv_I G [(q1, .inr (12, [.int (zI (0)), .ref q2, .ref q3, .ref q4, .ref q5, .ref q6, .ref q7, .long (0 : Int64)]))] sz)) (vv_Q G (fun v (u : Unit) => v = some (.int (zI (0)))) (fun u => [(q1, .inr (12, [.int (zI (2)), .ref q2, .ref q3, .ref q4, .ref q5, .ref q6, .ref q7, .long (0 : Int64)]))]) (va_A [(q1, .inr (12, [.int (zI (0)), .ref q2, .ref q3, .ref q4, .ref q5, .ref q6, .ref q7, .long (0 : Int64)]))] sz)) 0 0 (va_A [(q1, .inr (12, [.int (zI (0)), .ref q2, .ref q3, .ref q4, .ref q5, .ref q6, .ref q7, .long (0 : Int64)]))] sz) := by
  refine vv_start hf (by decide) (Nat.le_of_ble_eq_true rfl) ?_
  intro p e s m below meth c A C hnm
  refine vv_aload_n C 0 dX13_formula_0 rfl rfl ?_
  refine vv_iconst (v := zI (0)) C dX13_formula_1 rfl ?_
  refine vv_put (ws1 := [(q1, .inr (12, [.int (zI (0)), .ref q2, .ref q3, .ref q4, .ref q5, .ref q6, .ref q7, .long (0 : Int64)]))]) C 0 rfl rfl vi_X13 tyX13_ok nmX13 0 (by decide) wm1127 rfl rfl rfl (Nat.le_of_ble_eq_true rfl) rfl dX13_formula_2 ?_
  refine vv_iload_n C 1 dX13_formula_5 rfl rfl ?_
  refine vv_iconst (v := zI (1)) C dX13_formula_6 rfl ?_
  refine vv_icmp_ne (tgt := 32) C dX13_formula_7 (by decide) (by omega) (by omega) (fun h => ?_) (fun h => by exfalso; omega)
  refine vv_iload_n C 1 dX13_formula_32 rfl rfl ?_
  refine vv_iconst (v := zI (2)) C dX13_formula_33 rfl ?_
  refine vv_iconst (v := zI (5)) C dX13_formula_34 rfl ?_
  refine vv_callS (As := [.int (zI (0)), .int (zI (2)), .int (zI (5))]) (rest := []) (wr := [(q1, .inr (12, [.int (zI (0)), .ref q2, .ref q3, .ref q4, .ref q5, .ref q6, .ref q7, .long (0 : Int64)]))]) (ws2 := fun u => [(q1, .inr (12, [.int (zI (0)), .ref q2, .ref q3, .ref q4, .ref q5, .ref q6, .ref q7, .long (0 : Int64)]))]) (isC := []) (isR := [0]) (isP := [0]) C (vv_cutI rfl rfl rfl rfl (by decide) (fun _ => rfl) rfl) (k284_X13_is l hf G ) yy_X13_is (vv_rmI rfl rfl (Nat.le_of_ble_eq_true rfl) (Nat.le_of_ble_eq_true rfl) (Nat.le_of_ble_eq_true rfl) (Nat.le_of_ble_eq_true rfl)) wm1160 wm1161 rfl rfl (Nat.le_of_ble_eq_true rfl) dX13_formula_35 (fun v u hp => ?_)
  obtain rfl := hp
  refine vv_nrm (ws1 := [(q1, .inr (12, [.int (zI (0)), .ref q2, .ref q3, .ref q4, .ref q5, .ref q6, .ref q7, .long (0 : Int64)]))]) (st1 := [.int (zI (0))]) rfl rfl ?_
  refine vv_if_eq (tgt := 68) C dX13_formula_38 (by decide) (by omega) (fun h => ?_) (fun h => by exfalso; omega)
  refine vv_iload_n C 1 dX13_formula_68 rfl rfl ?_
  refine vv_iconst (v := zI (0)) C dX13_formula_69 rfl ?_
  refine vv_iconst (v := zI (5)) C dX13_formula_70 rfl ?_
  refine vv_callS (As := [.int (zI (0)), .int (zI (0)), .int (zI (5))]) (rest := []) (wr := [(q1, .inr (12, [.int (zI (0)), .ref q2, .ref q3, .ref q4, .ref q5, .ref q6, .ref q7, .long (0 : Int64)]))]) (ws2 := fun u => [(q1, .inr (12, [.int (zI (0)), .ref q2, .ref q3, .ref q4, .ref q5, .ref q6, .ref q7, .long (0 : Int64)]))]) (isC := []) (isR := [0]) (isP := [0]) C (vv_cutI rfl rfl rfl rfl (by decide) (fun _ => rfl) rfl) (k58_X13_is l hf G ) yy_X13_is (vv_rmI rfl rfl (Nat.le_of_ble_eq_true rfl) (Nat.le_of_ble_eq_true rfl) (Nat.le_of_ble_eq_true rfl) (Nat.le_of_ble_eq_true rfl)) wm1160 wm1161 rfl rfl (Nat.le_of_ble_eq_true rfl) dX13_formula_71 (fun v u hp => ?_)
  obtain rfl := hp
  refine vv_nrm (ws1 := [(q1, .inr (12, [.int (zI (0)), .ref q2, .ref q3, .ref q4, .ref q5, .ref q6, .ref q7, .long (0 : Int64)]))]) (st1 := [.int (zI (1))]) rfl rfl ?_
  refine vv_if_eq (tgt := 90) C dX13_formula_74 (by decide) (by omega) (fun h => by exfalso; omega) (fun h => ?_)
  refine vv_iload_n C 1 dX13_formula_77 rfl rfl ?_
  refine vv_if_ne (tgt := 96) C dX13_formula_78 (by decide) (by omega) (fun h => by exfalso; omega) (fun h => ?_)
  refine vv_iload_n C 2 dX13_formula_81 rfl rfl ?_
  refine vv_iconst (v := zI (0)) C dX13_formula_82 rfl ?_
  refine vv_iconst (v := zI (5)) C dX13_formula_83 rfl ?_
  refine vv_callS (As := [.int (zI (v8)), .int (zI (0)), .int (zI (5))]) (rest := []) (wr := [(q1, .inr (12, [.int (zI (0)), .ref q2, .ref q3, .ref q4, .ref q5, .ref q6, .ref q7, .long (0 : Int64)]))]) (ws2 := fun u => [(q1, .inr (12, [.int (zI (0)), .ref q2, .ref q3, .ref q4, .ref q5, .ref q6, .ref q7, .long (0 : Int64)]))]) (isC := []) (isR := [0]) (isP := [0]) C (vv_cutI rfl rfl rfl rfl (by decide) (fun _ => rfl) rfl) (k285_X13_is l hf G  (v8) rv2 (by omega)) yy_X13_is (vv_rmI rfl rfl (Nat.le_of_ble_eq_true rfl) (Nat.le_of_ble_eq_true rfl) (Nat.le_of_ble_eq_true rfl) (Nat.le_of_ble_eq_true rfl)) wm1160 wm1161 rfl rfl (Nat.le_of_ble_eq_true rfl) dX13_formula_84 (fun v u hp => ?_)
  obtain rfl := hp
  refine vv_nrm (ws1 := [(q1, .inr (12, [.int (zI (0)), .ref q2, .ref q3, .ref q4, .ref q5, .ref q6, .ref q7, .long (0 : Int64)]))]) (st1 := [.int (zI (0))]) rfl rfl ?_
  refine vv_if_ne (tgt := 96) C dX13_formula_87 (by decide) (by omega) (fun h => by exfalso; omega) (fun h => ?_)
  refine vv_aload_n C 0 dX13_formula_90 rfl rfl ?_
  refine vv_iconst (v := zI (2)) C dX13_formula_91 rfl ?_
  refine vv_callV (As := [.int (zI (2))]) (rest := []) (wr := []) (ws2 := fun u => [(q1, .inr (12, [.int (zI (2)), .ref q2, .ref q3, .ref q4, .ref q5, .ref q6, .ref q7, .long (0 : Int64)]))]) (isC := [0]) (isR := []) (isP := [0]) C (vv_cutI rfl rfl rfl rfl (by decide) (fun _ => rfl) rfl) (k46_X13_refuse l hf G q1 q2 q3 q4 q5 q6 q7) yy_X13_refuse (vv_rmI rfl rfl (Nat.le_of_ble_eq_true rfl) (Nat.le_of_ble_eq_true rfl) (Nat.le_of_ble_eq_true rfl) (Nat.le_of_ble_eq_true rfl)) wm1163 wm1165 ws_selects_LatticeworkModel_LatticeworkModel_refuse__I_I_LatticeworkModel_refuse__I_I 0 rfl rfl rfl rfl (Nat.le_of_ble_eq_true rfl) dX13_formula_92 (fun v u hp => ?_)
  obtain rfl := hp
  refine vv_nrm (ws1 := [(q1, .inr (12, [.int (zI (2)), .ref q2, .ref q3, .ref q4, .ref q5, .ref q6, .ref q7, .long (0 : Int64)]))]) (st1 := [.int (zI (0))]) rfl rfl ?_
  exact vv_iret C (()) rfl [0] rfl rfl ⟨Nat.le_of_ble_eq_true rfl, Nat.le_of_ble_eq_true rfl⟩ dX13_formula_95
set_option maxHeartbeats 4000000 in
set_option maxRecDepth 100000 in
theorem k287_X10_needParts (l : Launch) (hf : l.stackTraces = false) (G : vv_G) (q1 q2 q3 q4 q5 q6 q7 q8 q9 q10 : Nat) (v11 : Int) (rv2 : -2147483648 ≤ v11 ∧ v11 < 2147483648) (v12 : Int) (rv3 : -2147483648 ≤ v12 ∧ v12 < 2147483648) (g0 : 0 ≤ v11) (g1 : v11 ≤ 5) : ∀ sz, Met l yX10_needParts (Cond.code yX10_needParts cX10_needParts 4 none :: gT) ({ frames := 0, cells := 0, slots := 0, locals := 0 } : Room) (va_Pc [.ref q1, .int (zI (0)), .int (zI (v11)), .int (zI (v12))] (vv_I G [(q1, .inr (9, [.ref q2, .ref q3, .ref q4, .ref q5, .ref q6, .ref q7, .ref q8, .ref q9, .ref q10]))] sz)) (vv_Q G (fun v (u : Unit) => v = none) (fun u => [(q1, .inr (9, [.ref q2, .ref q3, .ref q4, .ref q5, .ref q6, .ref q7, .ref q8, .ref q9, .ref q10]))]) (va_A [(q1, .inr (9, [.ref q2, .ref q3, .ref q4, .ref q5, .ref q6, .ref q7, .ref q8, .ref q9, .ref q10]))] sz)) 0 0 (va_A [(q1, .inr (9, [.ref q2, .ref q3, .ref q4, .ref q5, .ref q6, .ref q7, .ref q8, .ref q9, .ref q10]))] sz) := by
  refine vv_start hf (by decide) (Nat.le_of_ble_eq_true rfl) ?_
  intro p e s m below meth c A C hnm
  refine vv_iload_n C 1 dX10_needParts_0 rfl rfl ?_
  refine vv_iconst (v := zI (1)) C dX10_needParts_1 rfl ?_
  refine vv_icmp_ne (tgt := 15) C dX10_needParts_2 (by decide) (by omega) (by omega) (fun h => ?_) (fun h => by exfalso; omega)
  refine vv_iload_n C 1 dX10_needParts_15 rfl rfl ?_
  refine vv_iconst (v := zI (2)) C dX10_needParts_16 rfl ?_
  refine vv_icmp_lt (tgt := 30) C dX10_needParts_17 (by decide) (by omega) (by omega) (fun h => ?_) (fun h => by exfalso; omega)
  refine vv_iload_n C 1 dX10_needParts_30 rfl rfl ?_
  refine vv_iconst (v := zI (3)) C dX10_needParts_31 rfl ?_
  refine vv_icmp_lt (tgt := 45) C dX10_needParts_32 (by decide) (by omega) (by omega) (fun h => ?_) (fun h => by exfalso; omega)
  exact vv_vret C (()) rfl [0] rfl rfl ⟨Nat.le_of_ble_eq_true rfl, Nat.le_of_ble_eq_true rfl⟩ dX10_needParts_45
set_option maxHeartbeats 4000000 in
set_option maxRecDepth 100000 in
theorem k288_X1_weightOf (l : Launch) (hf : l.stackTraces = false) (G : vv_G) (q1 q2 q3 q4 q5 : Nat) (v6 : Int) (rv2 : -2147483648 ≤ v6 ∧ v6 < 2147483648) (v7 : Int) (rv3 : -2147483648 ≤ v7 ∧ v7 < 2147483648) (g0 : 0 ≤ v6) (g1 : v6 ≤ 5) : ∀ sz, Met l yX1_weightOf (Cond.code yX1_weightOf cX1_weightOf 5 (some .int) :: gT) ({ frames := 0, cells := 0, slots := 0, locals := 0 } : Room) (va_Pc [.ref q1, .int (zI (0)), .int (zI (v6)), .int (zI (v7))] (vv_I G [(q1, .inr (1, [.ref q2, .ref q3, .ref q4, .ref q5, .int (zI (0))]))] sz)) (vv_Q G (fun v (u : Unit) => v = some (.int (zI (0)))) (fun u => [(q1, .inr (1, [.ref q2, .ref q3, .ref q4, .ref q5, .int (zI (0))]))]) (va_A [(q1, .inr (1, [.ref q2, .ref q3, .ref q4, .ref q5, .int (zI (0))]))] sz)) 0 0 (va_A [(q1, .inr (1, [.ref q2, .ref q3, .ref q4, .ref q5, .int (zI (0))]))] sz) := by
  refine vv_start hf (by decide) (Nat.le_of_ble_eq_true rfl) ?_
  intro p e s m below meth c A C hnm
  refine vv_iload_n C 1 dX1_weightOf_0 rfl rfl ?_
  refine vv_iconst (v := zI (2)) C dX1_weightOf_1 rfl ?_
  refine vv_icmp_ge (tgt := 7) C dX1_weightOf_2 (by decide) (by omega) (by omega) (fun h => by exfalso; omega) (fun h => ?_)
  refine vv_iconst (v := zI (0)) C dX1_weightOf_5 rfl ?_
  exact vv_iret C (()) rfl [0] rfl rfl ⟨Nat.le_of_ble_eq_true rfl, Nat.le_of_ble_eq_true rfl⟩ dX1_weightOf_6
set_option maxHeartbeats 4000000 in
set_option maxRecDepth 100000 in
theorem k289_X1_weightOf (l : Launch) (hf : l.stackTraces = false) (G : vv_G) (q1 q2 q3 q4 q5 : Nat) (v6 : Int) (rv2 : -2147483648 ≤ v6 ∧ v6 < 2147483648) (g0 : 0 ≤ v6) (g1 : v6 ≤ 5) : ∀ sz, Met l yX1_weightOf (Cond.code yX1_weightOf cX1_weightOf 5 (some .int) :: gT) ({ frames := 0, cells := 0, slots := 0, locals := 0 } : Room) (va_Pc [.ref q1, .int (zI (0)), .int (zI (v6)), .int (zI (0))] (vv_I G [(q1, .inr (1, [.ref q2, .ref q3, .ref q4, .ref q5, .int (zI (0))]))] sz)) (vv_Q G (fun v (u : Unit) => v = some (.int (zI (0)))) (fun u => [(q1, .inr (1, [.ref q2, .ref q3, .ref q4, .ref q5, .int (zI (0))]))]) (va_A [(q1, .inr (1, [.ref q2, .ref q3, .ref q4, .ref q5, .int (zI (0))]))] sz)) 0 0 (va_A [(q1, .inr (1, [.ref q2, .ref q3, .ref q4, .ref q5, .int (zI (0))]))] sz) := by
  refine vv_start hf (by decide) (Nat.le_of_ble_eq_true rfl) ?_
  intro p e s m below meth c A C hnm
  refine vv_iload_n C 1 dX1_weightOf_0 rfl rfl ?_
  refine vv_iconst (v := zI (2)) C dX1_weightOf_1 rfl ?_
  refine vv_icmp_ge (tgt := 7) C dX1_weightOf_2 (by decide) (by omega) (by omega) (fun h => by exfalso; omega) (fun h => ?_)
  refine vv_iconst (v := zI (0)) C dX1_weightOf_5 rfl ?_
  exact vv_iret C (()) rfl [0] rfl rfl ⟨Nat.le_of_ble_eq_true rfl, Nat.le_of_ble_eq_true rfl⟩ dX1_weightOf_6
set_option maxHeartbeats 4000000 in
set_option maxRecDepth 100000 in
theorem k290_X1_findOrAdd (l : Launch) (hf : l.stackTraces = false) (G : vv_G) (q1 q2 q3 q4 q5 : Nat) (v6 : Int) (rv2 : -2147483648 ≤ v6 ∧ v6 < 2147483648) (g0 : 0 ≤ v6) (g1 : v6 ≤ 5) : ∀ sz, Met l yX1_findOrAdd (Cond.code yX1_findOrAdd cX1_findOrAdd 5 (some .int) :: gT) ({ frames := 1, cells := 0, slots := 0, locals := 24 } : Room) (va_Pc [.ref q1, .int (zI (0)), .int (zI (v6)), .int (zI (0))] (vv_I G [(q1, .inr (1, [.ref q2, .ref q3, .ref q4, .ref q5, .int (zI (0))])), (q2, .inl (G.2.1 0, 40, .inl (fun _ => 0))), (q3, .inl (G.2.1 0, 40, .inl (fun _ => 0))), (q4, .inl (G.2.1 0, 40, .inl (fun _ => 0))), (q5, .inl (G.2.1 0, 40, .inl (fun _ => 0)))] sz)) (vv_Q G (fun v (u : Unit) => v = some (.int (zI (0)))) (fun u => [(q1, .inr (1, [.ref q2, .ref q3, .ref q4, .ref q5, .int (zI (1))]))]) (va_A [(q1, .inr (1, [.ref q2, .ref q3, .ref q4, .ref q5, .int (zI (0))])), (q2, .inl (G.2.1 0, 40, .inl (fun _ => 0))), (q3, .inl (G.2.1 0, 40, .inl (fun _ => 0))), (q4, .inl (G.2.1 0, 40, .inl (fun _ => 0))), (q5, .inl (G.2.1 0, 40, .inl (fun _ => 0)))] sz)) 0 0 (va_A [(q1, .inr (1, [.ref q2, .ref q3, .ref q4, .ref q5, .int (zI (0))])), (q2, .inl (G.2.1 0, 40, .inl (fun _ => 0))), (q3, .inl (G.2.1 0, 40, .inl (fun _ => 0))), (q4, .inl (G.2.1 0, 40, .inl (fun _ => 0))), (q5, .inl (G.2.1 0, 40, .inl (fun _ => 0)))] sz) := by
  refine vv_start hf (by decide) (Nat.le_of_ble_eq_true rfl) ?_
  intro p e s m below meth c A C hnm
  refine vv_iconst (v := zI (0)) C dX1_findOrAdd_0 rfl ?_
  refine vv_istore (loc1 := [(4, .int (zI (0))), (0, .ref q1), (1, .int (zI (0))), (2, .int (zI (v6))), (3, .int (zI (0)))]) C dX1_findOrAdd_1 (by decide) rfl ?_
  refine vv_iload C 0 dX1_findOrAdd_3 rfl ?_
  refine vv_aload_n C 1 dX1_findOrAdd_5 rfl rfl ?_
  refine vv_get C 0 rfl rfl vi_X1 4 (by decide) wm227 rfl dX1_findOrAdd_6 ?_
  refine vv_icmp_ge (tgt := 54) C dX1_findOrAdd_9 (by decide) (by omega) (by omega) (fun h => ?_) (fun h => by exfalso; omega)
  refine vv_aload_n C 1 dX1_findOrAdd_54 rfl rfl ?_
  refine vv_get C 0 rfl rfl vi_X1 4 (by decide) wm227 rfl dX1_findOrAdd_55 ?_
  refine vv_bipush (v := zI (40)) C dX1_findOrAdd_58 (by decide) ?_
  refine vv_icmp_lt (tgt := 65) C dX1_findOrAdd_60 (by decide) (by omega) (by omega) (fun h => ?_) (fun h => by exfalso; omega)
  refine vv_aload_n C 1 dX1_findOrAdd_65 rfl rfl ?_
  refine vv_get C 0 rfl rfl vi_X1 0 (by decide) wm214 rfl dX1_findOrAdd_66 ?_
  refine vv_aload_n C 1 dX1_findOrAdd_69 rfl rfl ?_
  refine vv_get C 0 rfl rfl vi_X1 4 (by decide) wm227 rfl dX1_findOrAdd_70 ?_
  refine vv_iload_n C 2 dX1_findOrAdd_73 rfl rfl ?_
  refine vv_iast (ws1 := [(q1, .inr (1, [.ref q2, .ref q3, .ref q4, .ref q5, .int (zI (0))])), (q2, .inl (G.2.1 0, 40, .inl (upd (fun _ => 0) 0 (zI (0))))), (q3, .inl (G.2.1 0, 40, .inl (fun _ => 0))), (q4, .inl (G.2.1 0, 40, .inl (fun _ => 0))), (q5, .inl (G.2.1 0, 40, .inl (fun _ => 0)))]) C 1 0 rfl rfl 0 rfl (by decide) (by decide) rfl dX1_findOrAdd_74 ?_
  generalize (upd (fun _ => 0) 0 (zI (0)) : Nat → Int32) = f82i
  refine vv_aload_n C 1 dX1_findOrAdd_75 rfl rfl ?_
  refine vv_get C 0 rfl rfl vi_X1 1 (by decide) wm218 rfl dX1_findOrAdd_76 ?_
  refine vv_aload_n C 1 dX1_findOrAdd_79 rfl rfl ?_
  refine vv_get C 0 rfl rfl vi_X1 4 (by decide) wm227 rfl dX1_findOrAdd_80 ?_
  refine vv_iload_n C 3 dX1_findOrAdd_83 rfl rfl ?_
  refine vv_iast (ws1 := [(q1, .inr (1, [.ref q2, .ref q3, .ref q4, .ref q5, .int (zI (0))])), (q2, .inl (G.2.1 0, 40, .inl (f82i))), (q3, .inl (G.2.1 0, 40, .inl (upd (fun _ => 0) 0 (zI (v6))))), (q4, .inl (G.2.1 0, 40, .inl (fun _ => 0))), (q5, .inl (G.2.1 0, 40, .inl (fun _ => 0)))]) C 2 0 rfl rfl 0 rfl (by decide) (by decide) rfl dX1_findOrAdd_84 ?_
  generalize (upd (fun _ => 0) 0 (zI (v6)) : Nat → Int32) = f83i
  refine vv_aload_n C 1 dX1_findOrAdd_85 rfl rfl ?_
  refine vv_get C 0 rfl rfl vi_X1 2 (by decide) wm222 rfl dX1_findOrAdd_86 ?_
  refine vv_aload_n C 1 dX1_findOrAdd_89 rfl rfl ?_
  refine vv_get C 0 rfl rfl vi_X1 4 (by decide) wm227 rfl dX1_findOrAdd_90 ?_
  refine vv_iload_n C 4 dX1_findOrAdd_93 rfl rfl ?_
  refine vv_iast (ws1 := [(q1, .inr (1, [.ref q2, .ref q3, .ref q4, .ref q5, .int (zI (0))])), (q2, .inl (G.2.1 0, 40, .inl (f82i))), (q3, .inl (G.2.1 0, 40, .inl (f83i))), (q4, .inl (G.2.1 0, 40, .inl (upd (fun _ => 0) 0 (zI (0))))), (q5, .inl (G.2.1 0, 40, .inl (fun _ => 0)))]) C 3 0 rfl rfl 0 rfl (by decide) (by decide) rfl dX1_findOrAdd_94 ?_
  generalize (upd (fun _ => 0) 0 (zI (0)) : Nat → Int32) = f84i
  refine vv_aload_n C 1 dX1_findOrAdd_95 rfl rfl ?_
  refine vv_get C 0 rfl rfl vi_X1 3 (by decide) wm226 rfl dX1_findOrAdd_96 ?_
  refine vv_aload_n C 1 dX1_findOrAdd_99 rfl rfl ?_
  refine vv_get C 0 rfl rfl vi_X1 4 (by decide) wm227 rfl dX1_findOrAdd_100 ?_
  refine vv_aload_n C 1 dX1_findOrAdd_103 rfl rfl ?_
  refine vv_iload_n C 2 dX1_findOrAdd_104 rfl rfl ?_
  refine vv_iload_n C 3 dX1_findOrAdd_105 rfl rfl ?_
  refine vv_iload_n C 4 dX1_findOrAdd_106 rfl rfl ?_
  refine vv_callV (As := [.int (zI (0)), .int (zI (v6)), .int (zI (0))]) (rest := [.int (zI (0)), .ref q5]) (wr := [(q5, .inl (G.2.1 0, 40, .inl (fun _ => 0)))]) (ws2 := fun u => [(q1, .inr (1, [.ref q2, .ref q3, .ref q4, .ref q5, .int (zI (0))])), (q5, .inl (G.2.1 0, 40, .inl (fun _ => 0)))]) (isC := [0]) (isR := [4]) (isP := [1, 0]) C (vv_cutI rfl rfl rfl rfl (by decide) (fun _ => rfl) rfl) (k289_X1_weightOf l hf G q1 q2 q3 q4 q5 (v6) rv2 (by omega) (by omega)) yy_X1_weightOf (vv_rmI rfl rfl (Nat.le_of_ble_eq_true rfl) (Nat.le_of_ble_eq_true rfl) (Nat.le_of_ble_eq_true rfl) (Nat.le_of_ble_eq_true rfl)) wm984 wm972 wm973 0 rfl rfl rfl rfl (Nat.le_of_ble_eq_true rfl) dX1_findOrAdd_107 (fun v u hp => ?_)
  obtain rfl := hp
  refine vv_nrm (ws1 := [(q1, .inr (1, [.ref q2, .ref q3, .ref q4, .ref q5, .int (zI (0))])), (q5, .inl (G.2.1 0, 40, .inl (fun _ => 0)))]) (st1 := [.int (zI (0)), .int (zI (0)), .ref q5]) rfl rfl ?_
  refine vv_iast (ws1 := [(q1, .inr (1, [.ref q2, .ref q3, .ref q4, .ref q5, .int (zI (0))])), (q5, .inl (G.2.1 0, 40, .inl (upd (fun _ => 0) 0 (zI (0)))))]) C 1 0 rfl rfl 0 rfl (by decide) (by decide) rfl dX1_findOrAdd_110 ?_
  generalize (upd (fun _ => 0) 0 (zI (0)) : Nat → Int32) = f85i
  refine vv_aload_n C 1 dX1_findOrAdd_111 rfl rfl ?_
  refine vv_dup C dX1_findOrAdd_112 rfl ?_
  refine vv_get C 0 rfl rfl vi_X1 4 (by decide) wm227 rfl dX1_findOrAdd_113 ?_
  refine vv_iconst (v := zI (1)) C dX1_findOrAdd_116 rfl ?_
  refine vv_iadd (z := zI (1)) C dX1_findOrAdd_117 (by rw [zI_add]; exact zI_c (by omega)) ?_
  refine vv_put (ws1 := [(q1, .inr (1, [.ref q2, .ref q3, .ref q4, .ref q5, .int (zI (1))])), (q5, .inl (G.2.1 0, 40, .inl (f85i)))]) C 0 rfl rfl vi_X1 tyX1_ok nmX1 4 (by decide) wm227 rfl rfl rfl (Nat.le_of_ble_eq_true rfl) rfl dX1_findOrAdd_118 ?_
  refine vv_aload_n C 1 dX1_findOrAdd_121 rfl rfl ?_
  refine vv_get C 0 rfl rfl vi_X1 4 (by decide) wm227 rfl dX1_findOrAdd_122 ?_
  refine vv_iconst (v := zI (1)) C dX1_findOrAdd_125 rfl ?_
  refine vv_isub (z := zI (0)) C dX1_findOrAdd_126 (by rw [zI_sub]; exact zI_c (by omega)) ?_
  exact vv_iret C (()) rfl [0] rfl rfl ⟨Nat.le_of_ble_eq_true rfl, Nat.le_of_ble_eq_true rfl⟩ dX1_findOrAdd_127
set_option maxHeartbeats 4000000 in
set_option maxRecDepth 100000 in
theorem k291_X10_formula (l : Launch) (hf : l.stackTraces = false) (G : vv_G) (q1 q2 q3 q4 q5 q6 q7 q8 q9 q10 q11 q12 q13 q14 : Nat) (v15 : Int) (rv2 : -2147483648 ≤ v15 ∧ v15 < 2147483648) (v16 : Int) (rv3 : -2147483648 ≤ v16 ∧ v16 < 2147483648) (g0 : 0 ≤ v15) (g1 : v15 ≤ 5) : ∀ sz, Met l yX10_formula (Cond.code yX10_formula cX10_formula 5 (some .int) :: gT) ({ frames := 2, cells := 0, slots := 0, locals := 48 } : Room) (va_Pc [.ref q1, .int (zI (0)), .int (zI (v15)), .int (zI (v16))] (vv_I G [(q1, .inr (9, [.ref q2, .ref q3, .ref q4, .ref q5, .ref q6, .ref q7, .ref q8, .ref q9, .ref q10])), (q8, .inr (1, [.ref q11, .ref q12, .ref q13, .ref q14, .int (zI (0))])), (q11, .inl (G.2.1 0, 40, .inl (fun _ => 0))), (q12, .inl (G.2.1 0, 40, .inl (fun _ => 0))), (q13, .inl (G.2.1 0, 40, .inl (fun _ => 0))), (q14, .inl (G.2.1 0, 40, .inl (fun _ => 0)))] sz)) (vv_Q G (fun v (u : Unit) => v = some (.int (zI (0)))) (fun u => [(q1, .inr (9, [.ref q2, .ref q3, .ref q4, .ref q5, .ref q6, .ref q7, .ref q8, .ref q9, .ref q10])), (q8, .inr (1, [.ref q11, .ref q12, .ref q13, .ref q14, .int (zI (1))]))]) (va_A [(q1, .inr (9, [.ref q2, .ref q3, .ref q4, .ref q5, .ref q6, .ref q7, .ref q8, .ref q9, .ref q10])), (q8, .inr (1, [.ref q11, .ref q12, .ref q13, .ref q14, .int (zI (0))])), (q11, .inl (G.2.1 0, 40, .inl (fun _ => 0))), (q12, .inl (G.2.1 0, 40, .inl (fun _ => 0))), (q13, .inl (G.2.1 0, 40, .inl (fun _ => 0))), (q14, .inl (G.2.1 0, 40, .inl (fun _ => 0)))] sz)) 0 0 (va_A [(q1, .inr (9, [.ref q2, .ref q3, .ref q4, .ref q5, .ref q6, .ref q7, .ref q8, .ref q9, .ref q10])), (q8, .inr (1, [.ref q11, .ref q12, .ref q13, .ref q14, .int (zI (0))])), (q11, .inl (G.2.1 0, 40, .inl (fun _ => 0))), (q12, .inl (G.2.1 0, 40, .inl (fun _ => 0))), (q13, .inl (G.2.1 0, 40, .inl (fun _ => 0))), (q14, .inl (G.2.1 0, 40, .inl (fun _ => 0)))] sz) := by
  refine vv_start hf (by decide) (Nat.le_of_ble_eq_true rfl) ?_
  intro p e s m below meth c A C hnm
  refine vv_aload_n C 0 dX10_formula_0 rfl rfl ?_
  refine vv_iload_n C 1 dX10_formula_1 rfl rfl ?_
  refine vv_iload_n C 2 dX10_formula_2 rfl rfl ?_
  refine vv_iload_n C 3 dX10_formula_3 rfl rfl ?_
  refine vv_callV (As := [.int (zI (0)), .int (zI (v15)), .int (zI (v16))]) (rest := []) (wr := [(q8, .inr (1, [.ref q11, .ref q12, .ref q13, .ref q14, .int (zI (0))])), (q11, .inl (G.2.1 0, 40, .inl (fun _ => 0))), (q12, .inl (G.2.1 0, 40, .inl (fun _ => 0))), (q13, .inl (G.2.1 0, 40, .inl (fun _ => 0))), (q14, .inl (G.2.1 0, 40, .inl (fun _ => 0)))]) (ws2 := fun u => [(q1, .inr (9, [.ref q2, .ref q3, .ref q4, .ref q5, .ref q6, .ref q7, .ref q8, .ref q9, .ref q10])), (q8, .inr (1, [.ref q11, .ref q12, .ref q13, .ref q14, .int (zI (0))])), (q11, .inl (G.2.1 0, 40, .inl (fun _ => 0))), (q12, .inl (G.2.1 0, 40, .inl (fun _ => 0))), (q13, .inl (G.2.1 0, 40, .inl (fun _ => 0))), (q14, .inl (G.2.1 0, 40, .inl (fun _ => 0)))]) (isC := [0]) (isR := [1, 2, 3, 4, 5]) (isP := [5, 0, 1, 2, 3, 4]) C (vv_cutI rfl rfl rfl rfl (by decide) (fun _ => rfl) rfl) (k287_X10_needParts l hf G q1 q2 q3 q4 q5 q6 q7 q8 q9 q10 (v15) rv2 (v16) rv3 (by omega) (by omega)) yy_X10_needParts (vv_rmI rfl rfl (Nat.le_of_ble_eq_true rfl) (Nat.le_of_ble_eq_true rfl) (Nat.le_of_ble_eq_true rfl) (Nat.le_of_ble_eq_true rfl)) wm960 wm962 ws_selects_Latticework_Latticework_needParts__III_V_Latticework_needParts__III_V 0 rfl rfl rfl rfl (Nat.le_of_ble_eq_true rfl) dX10_formula_4 (fun v u hp => ?_)
  obtain rfl := hp
  refine vv_nrm (ws1 := [(q1, .inr (9, [.ref q2, .ref q3, .ref q4, .ref q5, .ref q6, .ref q7, .ref q8, .ref q9, .ref q10])), (q8, .inr (1, [.ref q11, .ref q12, .ref q13, .ref q14, .int (zI (0))])), (q11, .inl (G.2.1 0, 40, .inl (fun _ => 0))), (q12, .inl (G.2.1 0, 40, .inl (fun _ => 0))), (q13, .inl (G.2.1 0, 40, .inl (fun _ => 0))), (q14, .inl (G.2.1 0, 40, .inl (fun _ => 0)))]) (st1 := []) rfl rfl ?_
  refine vv_iload_n C 1 dX10_formula_7 rfl rfl ?_
  refine vv_if_lt (tgt := 16) C dX10_formula_8 (by decide) (by omega) (fun h => by exfalso; omega) (fun h => ?_)
  refine vv_iload_n C 1 dX10_formula_11 rfl rfl ?_
  refine vv_iconst (v := zI (5)) C dX10_formula_12 rfl ?_
  refine vv_icmp_le (tgt := 26) C dX10_formula_13 (by decide) (by omega) (by omega) (fun h => ?_) (fun h => by exfalso; omega)
  refine vv_iload_n C 1 dX10_formula_26 rfl rfl ?_
  refine vv_if_ne (tgt := 50) C dX10_formula_27 (by decide) (by omega) (fun h => by exfalso; omega) (fun h => ?_)
  refine vv_iload_n C 2 dX10_formula_30 rfl rfl ?_
  refine vv_if_lt (tgt := 40) C dX10_formula_31 (by decide) (by omega) (fun h => by exfalso; omega) (fun h => ?_)
  refine vv_iload_n C 2 dX10_formula_34 rfl rfl ?_
  refine vv_bipush (v := zI (6)) C dX10_formula_35 (by decide) ?_
  refine vv_icmp_lt (tgt := 50) C dX10_formula_37 (by decide) (by omega) (by omega) (fun h => ?_) (fun h => by exfalso; omega)
  refine vv_aload_n C 0 dX10_formula_50 rfl rfl ?_
  refine vv_get C 0 rfl rfl vi_X10 6 (by decide) wm330 rfl dX10_formula_51 ?_
  refine vv_iload_n C 1 dX10_formula_54 rfl rfl ?_
  refine vv_iload_n C 2 dX10_formula_55 rfl rfl ?_
  refine vv_iload_n C 3 dX10_formula_56 rfl rfl ?_
  refine vv_callV (As := [.int (zI (0)), .int (zI (v15)), .int (zI (v16))]) (rest := []) (wr := [(q1, .inr (9, [.ref q2, .ref q3, .ref q4, .ref q5, .ref q6, .ref q7, .ref q8, .ref q9, .ref q10])), (q11, .inl (G.2.1 0, 40, .inl (fun _ => 0))), (q12, .inl (G.2.1 0, 40, .inl (fun _ => 0))), (q13, .inl (G.2.1 0, 40, .inl (fun _ => 0))), (q14, .inl (G.2.1 0, 40, .inl (fun _ => 0)))]) (ws2 := fun u => [(q1, .inr (9, [.ref q2, .ref q3, .ref q4, .ref q5, .ref q6, .ref q7, .ref q8, .ref q9, .ref q10])), (q8, .inr (1, [.ref q11, .ref q12, .ref q13, .ref q14, .int (zI (0))])), (q11, .inl (G.2.1 0, 40, .inl (fun _ => 0))), (q12, .inl (G.2.1 0, 40, .inl (fun _ => 0))), (q13, .inl (G.2.1 0, 40, .inl (fun _ => 0))), (q14, .inl (G.2.1 0, 40, .inl (fun _ => 0)))]) (isC := [1]) (isR := [0, 2, 3, 4, 5]) (isP := [0, 5, 1, 2, 3, 4]) C (vv_cutI rfl rfl rfl rfl (by decide) (fun _ => rfl) rfl) (k288_X1_weightOf l hf G q8 q11 q12 q13 q14 (v15) rv2 (v16) rv3 (by omega) (by omega)) yy_X1_weightOf (vv_rmI rfl rfl (Nat.le_of_ble_eq_true rfl) (Nat.le_of_ble_eq_true rfl) (Nat.le_of_ble_eq_true rfl) (Nat.le_of_ble_eq_true rfl)) wm971 wm972 wm973 0 rfl rfl rfl rfl (Nat.le_of_ble_eq_true rfl) dX10_formula_57 (fun v u hp => ?_)
  obtain rfl := hp
  refine vv_nrm (ws1 := [(q1, .inr (9, [.ref q2, .ref q3, .ref q4, .ref q5, .ref q6, .ref q7, .ref q8, .ref q9, .ref q10])), (q8, .inr (1, [.ref q11, .ref q12, .ref q13, .ref q14, .int (zI (0))])), (q11, .inl (G.2.1 0, 40, .inl (fun _ => 0))), (q12, .inl (G.2.1 0, 40, .inl (fun _ => 0))), (q13, .inl (G.2.1 0, 40, .inl (fun _ => 0))), (q14, .inl (G.2.1 0, 40, .inl (fun _ => 0)))]) (st1 := [.int (zI (0))]) rfl rfl ?_
  refine vv_bipush (v := zI (6)) C dX10_formula_60 (by decide) ?_
  refine vv_icmp_le (tgt := 75) C dX10_formula_62 (by decide) (by omega) (by omega) (fun h => ?_) (fun h => by exfalso; omega)
  refine vv_aload_n C 0 dX10_formula_75 rfl rfl ?_
  refine vv_get C 0 rfl rfl vi_X10 6 (by decide) wm330 rfl dX10_formula_76 ?_
  refine vv_iload_n C 1 dX10_formula_79 rfl rfl ?_
  refine vv_iload_n C 2 dX10_formula_80 rfl rfl ?_
  refine vv_iload_n C 1 dX10_formula_81 rfl rfl ?_
  refine vv_if_eq (tgt := 90) C dX10_formula_82 (by decide) (by omega) (fun h => ?_) (fun h => by exfalso; omega)
  refine vv_iconst (v := zI (0)) C dX10_formula_90 rfl ?_
  refine vv_goto C 95 dX10_formula_91 (by decide) ?_
  refine vv_callV (As := [.int (zI (0)), .int (zI (v15)), .int (zI (0))]) (rest := []) (wr := [(q1, .inr (9, [.ref q2, .ref q3, .ref q4, .ref q5, .ref q6, .ref q7, .ref q8, .ref q9, .ref q10]))]) (ws2 := fun u => [(q1, .inr (9, [.ref q2, .ref q3, .ref q4, .ref q5, .ref q6, .ref q7, .ref q8, .ref q9, .ref q10])), (q8, .inr (1, [.ref q11, .ref q12, .ref q13, .ref q14, .int (zI (1))]))]) (isC := [1, 2, 3, 4, 5]) (isR := [0]) (isP := [0, 1]) C (vv_cutI rfl rfl rfl rfl (by decide) (fun _ => rfl) rfl) (k290_X1_findOrAdd l hf G q8 q11 q12 q13 q14 (v15) rv2 (by omega) (by omega)) yy_X1_findOrAdd (vv_rmI rfl rfl (Nat.le_of_ble_eq_true rfl) (Nat.le_of_ble_eq_true rfl) (Nat.le_of_ble_eq_true rfl) (Nat.le_of_ble_eq_true rfl)) wm980 wm981 wm982 0 rfl rfl rfl rfl (Nat.le_of_ble_eq_true rfl) dX10_formula_95 (fun v u hp => ?_)
  obtain rfl := hp
  refine vv_nrm (ws1 := [(q1, .inr (9, [.ref q2, .ref q3, .ref q4, .ref q5, .ref q6, .ref q7, .ref q8, .ref q9, .ref q10])), (q8, .inr (1, [.ref q11, .ref q12, .ref q13, .ref q14, .int (zI (1))]))]) (st1 := [.int (zI (0))]) rfl rfl ?_
  refine vv_istore (loc1 := [(4, .int (zI (0))), (0, .ref q1), (1, .int (zI (0))), (2, .int (zI (v15))), (3, .int (zI (v16)))]) C dX10_formula_98 (by decide) rfl ?_
  refine vv_iload C 0 dX10_formula_100 rfl ?_
  refine vv_if_ge (tgt := 115) C dX10_formula_102 (by decide) (by omega) (fun h => ?_) (fun h => by exfalso; omega)
  refine vv_iload C 0 dX10_formula_115 rfl ?_
  exact vv_iret C (()) rfl [0, 1] rfl rfl ⟨Nat.le_of_ble_eq_true rfl, Nat.le_of_ble_eq_true rfl⟩ dX10_formula_117
set_option maxHeartbeats 4000000 in
set_option maxRecDepth 100000 in
theorem k292_L_formula (l : Launch) (hf : l.stackTraces = false) (G : vv_G) (q1 q2 q3 q4 q5 q6 q7 q8 q9 q10 q11 q12 q13 q14 q15 : Nat) (v16 : Int) (rv2 : -2147483648 ≤ v16 ∧ v16 < 2147483648) (v17 : Int) (rv3 : -2147483648 ≤ v17 ∧ v17 < 2147483648) (g0 : 0 ≤ v16) (g1 : v16 ≤ 5) : ∀ sz, Met l yL_formula (Cond.codeWith yL_formula cL_formula 6 (some .int) [(0, 12, 15, 21), (0, 12, 19, 13), (0, 12, 23, 15)] :: gT) ({ frames := 3, cells := 0, slots := 0, locals := 72 } : Room) (va_Pc [.ref q1, .int (zI (0)), .int (zI (v16)), .int (zI (v17)), .ref q15] (vv_I G [(q1, .inr (9, [.ref q2, .ref q3, .ref q4, .ref q5, .ref q6, .ref q7, .ref q8, .ref q9, .ref q10])), (q8, .inr (1, [.ref q11, .ref q12, .ref q13, .ref q14, .int (zI (0))])), (q11, .inl (G.2.1 0, 40, .inl (fun _ => 0))), (q12, .inl (G.2.1 0, 40, .inl (fun _ => 0))), (q13, .inl (G.2.1 0, 40, .inl (fun _ => 0))), (q14, .inl (G.2.1 0, 40, .inl (fun _ => 0))), (q15, .inl (G.2.1 1, 1, .inr (.inl (fun _ => 0))))] sz)) (vv_Q G (fun v (u : Unit) => v = some (.int (zI (0)))) (fun u => [(q1, .inr (9, [.ref q2, .ref q3, .ref q4, .ref q5, .ref q6, .ref q7, .ref q8, .ref q9, .ref q10])), (q8, .inr (1, [.ref q11, .ref q12, .ref q13, .ref q14, .int (zI (1))])), (q15, .inl (G.2.1 1, 1, .inr (.inl (vp_updL (fun _ => 0) 0 (0 : Int64)))))]) (va_A [(q1, .inr (9, [.ref q2, .ref q3, .ref q4, .ref q5, .ref q6, .ref q7, .ref q8, .ref q9, .ref q10])), (q8, .inr (1, [.ref q11, .ref q12, .ref q13, .ref q14, .int (zI (0))])), (q11, .inl (G.2.1 0, 40, .inl (fun _ => 0))), (q12, .inl (G.2.1 0, 40, .inl (fun _ => 0))), (q13, .inl (G.2.1 0, 40, .inl (fun _ => 0))), (q14, .inl (G.2.1 0, 40, .inl (fun _ => 0))), (q15, .inl (G.2.1 1, 1, .inr (.inl (fun _ => 0))))] sz)) 0 0 (va_A [(q1, .inr (9, [.ref q2, .ref q3, .ref q4, .ref q5, .ref q6, .ref q7, .ref q8, .ref q9, .ref q10])), (q8, .inr (1, [.ref q11, .ref q12, .ref q13, .ref q14, .int (zI (0))])), (q11, .inl (G.2.1 0, 40, .inl (fun _ => 0))), (q12, .inl (G.2.1 0, 40, .inl (fun _ => 0))), (q13, .inl (G.2.1 0, 40, .inl (fun _ => 0))), (q14, .inl (G.2.1 0, 40, .inl (fun _ => 0))), (q15, .inl (G.2.1 1, 1, .inr (.inl (fun _ => 0))))] sz) := by
  refine vv_startW hf (by decide) (Nat.le_of_ble_eq_true rfl) ?_
  intro p e s m below meth c A C hnm htab
  refine vv_aload C 4 dL_formula_0 rfl ?_
  refine vv_iconst (v := zI (0)) C dL_formula_2 rfl ?_
  refine vv_aload_n C 0 dL_formula_3 rfl rfl ?_
  refine vv_iload_n C 1 dL_formula_4 rfl rfl ?_
  refine vv_iload_n C 2 dL_formula_5 rfl rfl ?_
  refine vv_iload_n C 3 dL_formula_6 rfl rfl ?_
  refine vv_callV (As := [.int (zI (0)), .int (zI (v16)), .int (zI (v17))]) (rest := [.int (zI (0)), .ref q15]) (wr := [(q15, .inl (G.2.1 1, 1, .inr (.inl (fun _ => 0))))]) (ws2 := fun u => [(q1, .inr (9, [.ref q2, .ref q3, .ref q4, .ref q5, .ref q6, .ref q7, .ref q8, .ref q9, .ref q10])), (q8, .inr (1, [.ref q11, .ref q12, .ref q13, .ref q14, .int (zI (1))])), (q15, .inl (G.2.1 1, 1, .inr (.inl (fun _ => 0))))]) (isC := [0, 1, 2, 3, 4, 5]) (isR := [6]) (isP := [1, 2, 0]) C (vv_cutI rfl rfl rfl rfl (by decide) (fun _ => rfl) rfl) (k291_X10_formula l hf G q1 q2 q3 q4 q5 q6 q7 q8 q9 q10 q11 q12 q13 q14 (v16) rv2 (v17) rv3 (by omega) (by omega)) yy_X10_formula (vv_rmI rfl rfl (Nat.le_of_ble_eq_true rfl) (Nat.le_of_ble_eq_true rfl) (Nat.le_of_ble_eq_true rfl) (Nat.le_of_ble_eq_true rfl)) wm956 wm957 wm958 0 rfl rfl rfl rfl (Nat.le_of_ble_eq_true rfl) dL_formula_7 (fun v u hp => ?_)
  obtain rfl := hp
  refine vv_nrm (ws1 := [(q1, .inr (9, [.ref q2, .ref q3, .ref q4, .ref q5, .ref q6, .ref q7, .ref q8, .ref q9, .ref q10])), (q8, .inr (1, [.ref q11, .ref q12, .ref q13, .ref q14, .int (zI (1))])), (q15, .inl (G.2.1 1, 1, .inr (.inl (fun _ => 0))))]) (st1 := [.int (zI (0)), .int (zI (0)), .ref q15]) rfl rfl ?_
  refine vv_i2l (z := (0 : Int64)) C dL_formula_10 (by decide +kernel) ?_
  refine vv_last1 (ws1 := [(q1, .inr (9, [.ref q2, .ref q3, .ref q4, .ref q5, .ref q6, .ref q7, .ref q8, .ref q9, .ref q10])), (q8, .inr (1, [.ref q11, .ref q12, .ref q13, .ref q14, .int (zI (1))])), (q15, .inl (G.2.1 1, 1, .inr (.inl (vp_updL (fun _ => 0) 0 (0 : Int64)))))]) C 2 1 rfl rfl 0 rfl (by decide) (by decide) rfl dL_formula_11 ?_
  refine vv_goto C 27 dL_formula_12 (by decide) ?_
  refine vv_iconst (v := zI (0)) C dL_formula_27 rfl ?_
  exact vv_iret C (()) rfl [0, 1, 2] rfl rfl ⟨Nat.le_of_ble_eq_true rfl, Nat.le_of_ble_eq_true rfl⟩ dL_formula_28
set_option maxHeartbeats 4000000 in
set_option maxRecDepth 100000 in
theorem k293_X13_is (l : Launch) (hf : l.stackTraces = false) (G : vv_G)  (v1 : Int) (rv2 : -2147483648 ≤ v1 ∧ v1 < 2147483648) (g0 : 0 ≤ v1) (g1 : v1 ≤ 5) : ∀ sz, Met l yX13_is (Cond.code yX13_is cX13_is 3 (some .boolean) :: gT) ({ frames := 0, cells := 0, slots := 0, locals := 0 } : Room) (va_Pc [.int (zI (v1)), .int (zI (0)), .int (zI (5))] (vv_I G [] sz)) (vv_Q G (fun v (u : Unit) => v = some (.int (zI (1)))) (fun u => []) (va_A [] sz)) 0 0 (va_A [] sz) := by
  refine vv_start hf (by decide) (Nat.le_of_ble_eq_true rfl) ?_
  intro p e s m below meth c A C hnm
  refine vv_iload_n C 0 dX13_is_0 rfl rfl ?_
  refine vv_iload_n C 1 dX13_is_1 rfl rfl ?_
  refine vv_icmp_lt (tgt := 14) C dX13_is_2 (by decide) (by omega) (by omega) (fun h => by exfalso; omega) (fun h => ?_)
  refine vv_iload_n C 0 dX13_is_5 rfl rfl ?_
  refine vv_iload_n C 2 dX13_is_6 rfl rfl ?_
  refine vv_icmp_gt (tgt := 14) C dX13_is_7 (by decide) (by omega) (by omega) (fun h => by exfalso; omega) (fun h => ?_)
  refine vv_iconst (v := zI (1)) C dX13_is_10 rfl ?_
  refine vv_goto C 15 dX13_is_11 (by decide) ?_
  exact vv_zret C (by decide) (()) rfl [] rfl rfl ⟨Nat.le_of_ble_eq_true rfl, Nat.le_of_ble_eq_true rfl⟩ dX13_is_15
set_option maxHeartbeats 4000000 in
set_option maxRecDepth 100000 in
theorem k294_Jx4a65c_add_72be8 (l : Launch) (hf : l.stackTraces = false) (G : vv_G) (q1 q2 : Nat) (v3 : Int) (rv2 : -2147483648 ≤ v3 ∧ v3 < 2147483648) (g0 : 0 ≤ v3) (g1 : v3 ≤ 5) : ∀ sz, Met l yJx4a65c_add_72be8 (Cond.code yJx4a65c_add_72be8 cJx4a65c_add_72be8 4 none :: gT) ({ frames := 3, cells := 1, slots := 10, locals := 73 } : Room) (va_Pc [.ref q1, .ref q2, .ref (G.2.2 0), .int (zI (0))] (vv_I G [(q1, .inr (13, [.int (zI (1)), .ref (G.2.2 0), .int (zI (0))])), (q2, .inl (G.2.1 0, 4, .inl (upd (upd (upd (upd (fun _ => 0) 0 (zI (0))) 1 (zI (v3))) 2 (zI (0))) 3 (zI (0)))))] sz)) (vv_Q G (fun v (u : Nat) => v = none) (fun u => [(q1, .inr (13, [.int (zI (1)), .ref u, .int (zI (1))]))]) (va_A [(q1, .inr (13, [.int (zI (1)), .ref (G.2.2 0), .int (zI (0))])), (q2, .inl (G.2.1 0, 4, .inl (upd (upd (upd (upd (fun _ => 0) 0 (zI (0))) 1 (zI (v3))) 2 (zI (0))) 3 (zI (0)))))] sz)) 1 10 (va_A [(q1, .inr (13, [.int (zI (1)), .ref (G.2.2 0), .int (zI (0))])), (q2, .inl (G.2.1 0, 4, .inl (upd (upd (upd (upd (fun _ => 0) 0 (zI (0))) 1 (zI (v3))) 2 (zI (0))) 3 (zI (0)))))] sz) := by
  refine vv_start hf (by decide) (Nat.le_of_ble_eq_true rfl) ?_
  intro p e s m below meth c A C hnm
  refine vv_iload_n C 3 dJx4a65c_add_72be8_0 rfl rfl ?_
  refine vv_aload_n C 2 dJx4a65c_add_72be8_1 rfl rfl ?_
  refine vv_tlen (v := zI (0)) C (C.xT) rfl dJx4a65c_add_72be8_2 ?_
  refine vv_icmp_ne (tgt := 11) C dJx4a65c_add_72be8_3 (by decide) (by omega) (by omega) (fun h => by exfalso; omega) (fun h => ?_)
  refine vv_aload_n C 0 dJx4a65c_add_72be8_6 rfl rfl ?_
  refine vv_callV (As := []) (rest := []) (wr := [(q2, .inl (G.2.1 0, 4, .inl (upd (upd (upd (upd (fun _ => 0) 0 (zI (0))) 1 (zI (v3))) 2 (zI (0))) 3 (zI (0)))))]) (ws2 := fun u => [(q1, .inr (13, [.int (zI (1)), .ref u, .int (zI (0))])), (q2, .inl (G.2.1 0, 4, .inl (upd (upd (upd (upd (fun _ => 0) 0 (zI (0))) 1 (zI (v3))) 2 (zI (0))) 3 (zI (0))))), (u, .inl (G.2.1 4, 10, .inr (.inr (.inr (.inr (fun _ => none))))))]) (isC := [0]) (isR := [1]) (isP := [1, 0, 2]) C (vv_cutI rfl rfl rfl rfl (by decide) (fun _ => rfl) rfl) (k31_Jx4a65c_grow_d5877 l hf G q1) yy_Jx4a65c_grow_d5877 (vv_rmI rfl rfl (Nat.le_of_ble_eq_true rfl) (Nat.le_of_ble_eq_true rfl) (Nat.le_of_ble_eq_true rfl) (Nat.le_of_ble_eq_true rfl)) wm1306 wm1308 ws_selects_java_util_ArrayList_java_util_ArrayList_grow__Ljava_lang_Object__java_util_ArrayList_grow__Ljava_lang_Object_ 0 rfl rfl rfl rfl (Nat.le_of_ble_eq_true rfl) dJx4a65c_add_72be8_7 (fun v u hp => ?_)
  obtain rfl := hp
  obtain ⟨q4, rfl⟩ : ∃ z, z = u := ⟨_, rfl⟩
  refine vv_nrm (ws1 := [(q1, .inr (13, [.int (zI (1)), .ref q4, .int (zI (0))])), (q2, .inl (G.2.1 0, 4, .inl (upd (upd (upd (upd (fun _ => 0) 0 (zI (0))) 1 (zI (v3))) 2 (zI (0))) 3 (zI (0))))), (q4, .inl (G.2.1 4, 10, .inr (.inr (.inr (.inr (fun _ => none))))))]) (st1 := [.ref q4]) rfl rfl ?_
  refine vv_astore_n (loc1 := [(2, .ref q4), (0, .ref q1), (1, .ref q2), (3, .int (zI (0)))]) C dJx4a65c_add_72be8_10 rfl (by decide) rfl ?_
  refine vv_aload_n C 0 dJx4a65c_add_72be8_11 rfl rfl ?_
  refine vv_iload_n C 3 dJx4a65c_add_72be8_12 rfl rfl ?_
  refine vv_aload_n C 2 dJx4a65c_add_72be8_13 rfl rfl ?_
  refine vv_aastA (ws1 := [(q1, .inr (13, [.int (zI (1)), .ref q4, .int (zI (0))])), (q2, .inl (G.2.1 0, 4, .inl (upd (upd (upd (upd (fun _ => 0) 0 (zI (0))) 1 (zI (v3))) 2 (zI (0))) 3 (zI (0))))), (q4, .inl (G.2.1 4, 10, .inr (.inr (.inr (.inr (va_up (fun _ => none) 0 (some q2)))))))]) C 2 4 1 0 rfl rfl rfl rfl (by decide +kernel) 0 rfl (by decide) (by decide) rfl dJx4a65c_add_72be8_14 ?_
  generalize (va_up (fun _ => none) 0 (some q2) : Nat → Option Nat) = f86r
  refine vv_aload_n C 1 dJx4a65c_add_72be8_15 rfl rfl ?_
  refine vv_iload_n C 3 dJx4a65c_add_72be8_16 rfl rfl ?_
  refine vv_iconst (v := zI (1)) C dJx4a65c_add_72be8_17 rfl ?_
  refine vv_iadd (z := zI (1)) C dJx4a65c_add_72be8_18 (by rw [zI_add]; exact zI_c (by omega)) ?_
  refine vv_put (ws1 := [(q1, .inr (13, [.int (zI (1)), .ref q4, .int (zI (1))])), (q2, .inl (G.2.1 0, 4, .inl (upd (upd (upd (upd (fun _ => 0) 0 (zI (0))) 1 (zI (v3))) 2 (zI (0))) 3 (zI (0))))), (q4, .inl (G.2.1 4, 10, .inr (.inr (.inr (.inr (f86r))))))]) C 0 rfl rfl vi_Jx4a65c tyJx4a65c_ok nmJx4a65c 2 (by decide) wm1084 rfl rfl rfl (Nat.le_of_ble_eq_true rfl) rfl dJx4a65c_add_72be8_19 ?_
  exact vv_vret C (q4) rfl [0] rfl rfl ⟨Nat.le_of_ble_eq_true rfl, Nat.le_of_ble_eq_true rfl⟩ dJx4a65c_add_72be8_22
set_option maxHeartbeats 4000000 in
set_option maxRecDepth 100000 in
theorem k295_Jx4a65c_add_9ea2d (l : Launch) (hf : l.stackTraces = false) (G : vv_G) (q1 q2 : Nat) (v3 : Int) (rv2 : -2147483648 ≤ v3 ∧ v3 < 2147483648) (g0 : 0 ≤ v3) (g1 : v3 ≤ 5) : ∀ sz, Met l yJx4a65c_add_9ea2d (Cond.code yJx4a65c_add_9ea2d cJx4a65c_add_9ea2d 2 (some .boolean) :: gT) ({ frames := 4, cells := 1, slots := 10, locals := 96 } : Room) (va_Pc [.ref q1, .ref q2] (vv_I G [(q1, .inr (13, [.int (zI (0)), .ref (G.2.2 0), .int (zI (0))])), (q2, .inl (G.2.1 0, 4, .inl (upd (upd (upd (upd (fun _ => 0) 0 (zI (0))) 1 (zI (v3))) 2 (zI (0))) 3 (zI (0)))))] sz)) (vv_Q G (fun v (u : Nat) => v = some (.int (zI (1)))) (fun u => [(q1, .inr (13, [.int (zI (1)), .ref u, .int (zI (1))]))]) (va_A [(q1, .inr (13, [.int (zI (0)), .ref (G.2.2 0), .int (zI (0))])), (q2, .inl (G.2.1 0, 4, .inl (upd (upd (upd (upd (fun _ => 0) 0 (zI (0))) 1 (zI (v3))) 2 (zI (0))) 3 (zI (0)))))] sz)) 1 10 (va_A [(q1, .inr (13, [.int (zI (0)), .ref (G.2.2 0), .int (zI (0))])), (q2, .inl (G.2.1 0, 4, .inl (upd (upd (upd (upd (fun _ => 0) 0 (zI (0))) 1 (zI (v3))) 2 (zI (0))) 3 (zI (0)))))] sz) := by
  refine vv_start hf (by decide) (Nat.le_of_ble_eq_true rfl) ?_
  intro p e s m below meth c A C hnm
  refine vv_aload_n C 0 dJx4a65c_add_9ea2d_0 rfl rfl ?_
  refine vv_dup C dJx4a65c_add_9ea2d_1 rfl ?_
  refine vv_getS C 0 rfl rfl vi_Jx4a65c 0 (by decide) wm1088 wm1087 rfl dJx4a65c_add_9ea2d_2 ?_
  refine vv_iconst (v := zI (1)) C dJx4a65c_add_9ea2d_5 rfl ?_
  refine vv_iadd (z := zI (1)) C dJx4a65c_add_9ea2d_6 (by rw [zI_add]; exact zI_c (by omega)) ?_
  refine vv_putS (ws1 := [(q1, .inr (13, [.int (zI (1)), .ref (G.2.2 0), .int (zI (0))])), (q2, .inl (G.2.1 0, 4, .inl (upd (upd (upd (upd (fun _ => 0) 0 (zI (0))) 1 (zI (v3))) 2 (zI (0))) 3 (zI (0)))))]) C 0 rfl rfl vi_Jx4a65c tyJx4a65c_ok nmJx4a65c 0 (by decide) wm1088 wm1087 rfl rfl rfl (Nat.le_of_ble_eq_true rfl) rfl dJx4a65c_add_9ea2d_7 ?_
  refine vv_aload_n C 0 dJx4a65c_add_9ea2d_10 rfl rfl ?_
  refine vv_aload_n C 1 dJx4a65c_add_9ea2d_11 rfl rfl ?_
  refine vv_aload_n C 0 dJx4a65c_add_9ea2d_12 rfl rfl ?_
  refine vv_get C 0 rfl rfl vi_Jx4a65c 1 (by decide) wm1081 rfl dJx4a65c_add_9ea2d_13 ?_
  refine vv_aload_n C 0 dJx4a65c_add_9ea2d_16 rfl rfl ?_
  refine vv_get C 0 rfl rfl vi_Jx4a65c 2 (by decide) wm1084 rfl dJx4a65c_add_9ea2d_17 ?_
  refine vv_callV (As := [.ref q2, .ref (G.2.2 0), .int (zI (0))]) (rest := []) (wr := []) (ws2 := fun u => [(q1, .inr (13, [.int (zI (1)), .ref u, .int (zI (1))]))]) (isC := [0, 1]) (isR := []) (isP := [0]) C (vv_cutI rfl rfl rfl rfl (by decide) (fun _ => rfl) rfl) (k294_Jx4a65c_add_72be8 l hf G q1 q2 (v3) rv2 (by omega) (by omega)) yy_Jx4a65c_add_72be8 (vv_rmI rfl rfl (Nat.le_of_ble_eq_true rfl) (Nat.le_of_ble_eq_true rfl) (Nat.le_of_ble_eq_true rfl) (Nat.le_of_ble_eq_true rfl)) wm1302 wm1304 ws_selects_java_util_ArrayList_java_util_ArrayList_add__Ljava_lang_Object_Ljava_lang_Object_I_V_java_util_ArrayList_add__Ljava_lang_Object_Ljava_lang_Object_I_V 0 rfl rfl rfl rfl (Nat.le_of_ble_eq_true rfl) dJx4a65c_add_9ea2d_20 (fun v u hp => ?_)
  obtain rfl := hp
  obtain ⟨q4, rfl⟩ : ∃ z, z = u := ⟨_, rfl⟩
  refine vv_nrm (ws1 := [(q1, .inr (13, [.int (zI (1)), .ref q4, .int (zI (1))]))]) (st1 := []) rfl rfl ?_
  refine vv_iconst (v := zI (1)) C dJx4a65c_add_9ea2d_23 rfl ?_
  exact vv_zret C (by decide) (q4) rfl [0] rfl rfl ⟨Nat.le_of_ble_eq_true rfl, Nat.le_of_ble_eq_true rfl⟩ dJx4a65c_add_9ea2d_24
set_option maxHeartbeats 4000000 in
set_option maxRecDepth 100000 in
theorem k296_X13_formula (l : Launch) (hf : l.stackTraces = false) (G : vv_G) (q1 q2 q3 q4 q5 q6 q7 : Nat) (v8 : Int) (rv2 : -2147483648 ≤ v8 ∧ v8 < 2147483648) (v9 : Int) (rv3 : -2147483648 ≤ v9 ∧ v9 < 2147483648) (g0 : 0 ≤ v8) (g1 : v8 ≤ 5) : ∀ sz, Met l yX13_formula (Cond.code yX13_formula cX13_formula 8 (some .int) :: gT) ({ frames := 5, cells := 2, slots := 14, locals := 117 } : Room) (va_Pc [.ref q1, .int (zI (0)), .int (zI (v8)), .int (zI (v9))] (vv_I G [(q1, .inr (12, [.int (zI (0)), .ref q2, .ref q3, .ref q4, .ref q5, .ref q6, .ref q7, .long (0 : Int64)])), (q3, .inr (13, [.int (zI (0)), .ref (G.2.2 0), .int (zI (0))]))] sz)) (vv_Q G (fun v (u : Nat) => v = some (.int (zI (0)))) (fun u => [(q1, .inr (12, [.int (zI (0)), .ref q2, .ref q3, .ref q4, .ref q5, .ref q6, .ref q7, .long (0 : Int64)])), (q3, .inr (13, [.int (zI (1)), .ref u, .int (zI (1))]))]) (va_A [(q1, .inr (12, [.int (zI (0)), .ref q2, .ref q3, .ref q4, .ref q5, .ref q6, .ref q7, .long (0 : Int64)])), (q3, .inr (13, [.int (zI (0)), .ref (G.2.2 0), .int (zI (0))]))] sz)) 2 14 (va_A [(q1, .inr (12, [.int (zI (0)), .ref q2, .ref q3, .ref q4, .ref q5, .ref q6, .ref q7, .long (0 : Int64)])), (q3, .inr (13, [.int (zI (0)), .ref (G.2.2 0), .int (zI (0))]))] sz) := by
  refine vv_start hf (by decide) (Nat.le_of_ble_eq_true rfl) ?_
  intro p e s m below meth c A C hnm
  refine vv_aload_n C 0 dX13_formula_0 rfl rfl ?_
  refine vv_iconst (v := zI (0)) C dX13_formula_1 rfl ?_
  refine vv_put (ws1 := [(q1, .inr (12, [.int (zI (0)), .ref q2, .ref q3, .ref q4, .ref q5, .ref q6, .ref q7, .long (0 : Int64)])), (q3, .inr (13, [.int (zI (0)), .ref (G.2.2 0), .int (zI (0))]))]) C 0 rfl rfl vi_X13 tyX13_ok nmX13 0 (by decide) wm1127 rfl rfl rfl (Nat.le_of_ble_eq_true rfl) rfl dX13_formula_2 ?_
  refine vv_iload_n C 1 dX13_formula_5 rfl rfl ?_
  refine vv_iconst (v := zI (1)) C dX13_formula_6 rfl ?_
  refine vv_icmp_ne (tgt := 32) C dX13_formula_7 (by decide) (by omega) (by omega) (fun h => ?_) (fun h => by exfalso; omega)
  refine vv_iload_n C 1 dX13_formula_32 rfl rfl ?_
  refine vv_iconst (v := zI (2)) C dX13_formula_33 rfl ?_
  refine vv_iconst (v := zI (5)) C dX13_formula_34 rfl ?_
  refine vv_callS (As := [.int (zI (0)), .int (zI (2)), .int (zI (5))]) (rest := []) (wr := [(q1, .inr (12, [.int (zI (0)), .ref q2, .ref q3, .ref q4, .ref q5, .ref q6, .ref q7, .long (0 : Int64)])), (q3, .inr (13, [.int (zI (0)), .ref (G.2.2 0), .int (zI (0))]))]) (ws2 := fun u => [(q1, .inr (12, [.int (zI (0)), .ref q2, .ref q3, .ref q4, .ref q5, .ref q6, .ref q7, .long (0 : Int64)])), (q3, .inr (13, [.int (zI (0)), .ref (G.2.2 0), .int (zI (0))]))]) (isC := []) (isR := [0, 1]) (isP := [0, 1]) C (vv_cutI rfl rfl rfl rfl (by decide) (fun _ => rfl) rfl) (k284_X13_is l hf G ) yy_X13_is (vv_rmI rfl rfl (Nat.le_of_ble_eq_true rfl) (Nat.le_of_ble_eq_true rfl) (Nat.le_of_ble_eq_true rfl) (Nat.le_of_ble_eq_true rfl)) wm1160 wm1161 rfl rfl (Nat.le_of_ble_eq_true rfl) dX13_formula_35 (fun v u hp => ?_)
  obtain rfl := hp
  refine vv_nrm (ws1 := [(q1, .inr (12, [.int (zI (0)), .ref q2, .ref q3, .ref q4, .ref q5, .ref q6, .ref q7, .long (0 : Int64)])), (q3, .inr (13, [.int (zI (0)), .ref (G.2.2 0), .int (zI (0))]))]) (st1 := [.int (zI (0))]) rfl rfl ?_
  refine vv_if_eq (tgt := 68) C dX13_formula_38 (by decide) (by omega) (fun h => ?_) (fun h => by exfalso; omega)
  refine vv_iload_n C 1 dX13_formula_68 rfl rfl ?_
  refine vv_iconst (v := zI (0)) C dX13_formula_69 rfl ?_
  refine vv_iconst (v := zI (5)) C dX13_formula_70 rfl ?_
  refine vv_callS (As := [.int (zI (0)), .int (zI (0)), .int (zI (5))]) (rest := []) (wr := [(q1, .inr (12, [.int (zI (0)), .ref q2, .ref q3, .ref q4, .ref q5, .ref q6, .ref q7, .long (0 : Int64)])), (q3, .inr (13, [.int (zI (0)), .ref (G.2.2 0), .int (zI (0))]))]) (ws2 := fun u => [(q1, .inr (12, [.int (zI (0)), .ref q2, .ref q3, .ref q4, .ref q5, .ref q6, .ref q7, .long (0 : Int64)])), (q3, .inr (13, [.int (zI (0)), .ref (G.2.2 0), .int (zI (0))]))]) (isC := []) (isR := [0, 1]) (isP := [0, 1]) C (vv_cutI rfl rfl rfl rfl (by decide) (fun _ => rfl) rfl) (k58_X13_is l hf G ) yy_X13_is (vv_rmI rfl rfl (Nat.le_of_ble_eq_true rfl) (Nat.le_of_ble_eq_true rfl) (Nat.le_of_ble_eq_true rfl) (Nat.le_of_ble_eq_true rfl)) wm1160 wm1161 rfl rfl (Nat.le_of_ble_eq_true rfl) dX13_formula_71 (fun v u hp => ?_)
  obtain rfl := hp
  refine vv_nrm (ws1 := [(q1, .inr (12, [.int (zI (0)), .ref q2, .ref q3, .ref q4, .ref q5, .ref q6, .ref q7, .long (0 : Int64)])), (q3, .inr (13, [.int (zI (0)), .ref (G.2.2 0), .int (zI (0))]))]) (st1 := [.int (zI (1))]) rfl rfl ?_
  refine vv_if_eq (tgt := 90) C dX13_formula_74 (by decide) (by omega) (fun h => by exfalso; omega) (fun h => ?_)
  refine vv_iload_n C 1 dX13_formula_77 rfl rfl ?_
  refine vv_if_ne (tgt := 96) C dX13_formula_78 (by decide) (by omega) (fun h => by exfalso; omega) (fun h => ?_)
  refine vv_iload_n C 2 dX13_formula_81 rfl rfl ?_
  refine vv_iconst (v := zI (0)) C dX13_formula_82 rfl ?_
  refine vv_iconst (v := zI (5)) C dX13_formula_83 rfl ?_
  refine vv_callS (As := [.int (zI (v8)), .int (zI (0)), .int (zI (5))]) (rest := []) (wr := [(q1, .inr (12, [.int (zI (0)), .ref q2, .ref q3, .ref q4, .ref q5, .ref q6, .ref q7, .long (0 : Int64)])), (q3, .inr (13, [.int (zI (0)), .ref (G.2.2 0), .int (zI (0))]))]) (ws2 := fun u => [(q1, .inr (12, [.int (zI (0)), .ref q2, .ref q3, .ref q4, .ref q5, .ref q6, .ref q7, .long (0 : Int64)])), (q3, .inr (13, [.int (zI (0)), .ref (G.2.2 0), .int (zI (0))]))]) (isC := []) (isR := [0, 1]) (isP := [0, 1]) C (vv_cutI rfl rfl rfl rfl (by decide) (fun _ => rfl) rfl) (k293_X13_is l hf G  (v8) rv2 (by omega) (by omega)) yy_X13_is (vv_rmI rfl rfl (Nat.le_of_ble_eq_true rfl) (Nat.le_of_ble_eq_true rfl) (Nat.le_of_ble_eq_true rfl) (Nat.le_of_ble_eq_true rfl)) wm1160 wm1161 rfl rfl (Nat.le_of_ble_eq_true rfl) dX13_formula_84 (fun v u hp => ?_)
  obtain rfl := hp
  refine vv_nrm (ws1 := [(q1, .inr (12, [.int (zI (0)), .ref q2, .ref q3, .ref q4, .ref q5, .ref q6, .ref q7, .long (0 : Int64)])), (q3, .inr (13, [.int (zI (0)), .ref (G.2.2 0), .int (zI (0))]))]) (st1 := [.int (zI (1))]) rfl rfl ?_
  refine vv_if_ne (tgt := 96) C dX13_formula_87 (by decide) (by omega) (fun h => ?_) (fun h => by exfalso; omega)
  refine vv_iload_n C 1 dX13_formula_96 rfl rfl ?_
  refine vv_if_eq (tgt := 105) C dX13_formula_97 (by decide) (by omega) (fun h => ?_) (fun h => by exfalso; omega)
  refine vv_iconst (v := zI (0)) C dX13_formula_105 rfl ?_
  refine vv_goto C 110 dX13_formula_106 (by decide) ?_
  refine vv_istore (loc1 := [(4, .int (zI (0))), (0, .ref q1), (1, .int (zI (0))), (2, .int (zI (v8))), (3, .int (zI (v9)))]) C dX13_formula_110 (by decide) rfl ?_
  refine vv_iload_n C 2 dX13_formula_112 rfl rfl ?_
  refine vv_iconst (v := zI (2)) C dX13_formula_113 rfl ?_
  refine vv_icmp_ge (tgt := 121) C dX13_formula_114 (by decide) (by omega) (by omega) (fun h => by exfalso; omega) (fun h => ?_)
  refine vv_iconst (v := zI (0)) C dX13_formula_117 rfl ?_
  refine vv_goto C 159 dX13_formula_118 (by decide) ?_
  refine vv_istore (loc1 := [(5, .int (zI (0))), (4, .int (zI (0))), (0, .ref q1), (1, .int (zI (0))), (2, .int (zI (v8))), (3, .int (zI (v9)))]) C dX13_formula_159 (by decide) rfl ?_
  refine vv_iload C 0 dX13_formula_161 rfl ?_
  refine vv_bipush (v := zI (6)) C dX13_formula_163 (by decide) ?_
  refine vv_icmp_le (tgt := 174) C dX13_formula_165 (by decide) (by omega) (by omega) (fun h => ?_) (fun h => by exfalso; omega)
  refine vv_iconst (v := zI (4)) C dX13_formula_174 rfl ?_
  refine vv_newa (atype := .int) (ty := .int) C 0 rfl rfl wm108 4 rfl (by decide) (4, .inl (fun _ => 0)) (fun _ => rfl) (by decide) ⟨Nat.le_of_ble_eq_true rfl, Nat.le_of_ble_eq_true rfl⟩ dX13_formula_175 (fun q10 => [(q1, .inr (12, [.int (zI (0)), .ref q2, .ref q3, .ref q4, .ref q5, .ref q6, .ref q7, .long (0 : Int64)])), (q3, .inr (13, [.int (zI (0)), .ref (G.2.2 0), .int (zI (0))])), (q10, .inl (G.2.1 0, 4, .inl (fun _ => 0)))]) (fun _ => rfl) (fun q10 => ?_)
  refine vv_dup C dX13_formula_177 rfl ?_
  refine vv_iconst (v := zI (0)) C dX13_formula_178 rfl ?_
  refine vv_iload_n C 3 dX13_formula_179 rfl rfl ?_
  refine vv_iast (ws1 := [(q1, .inr (12, [.int (zI (0)), .ref q2, .ref q3, .ref q4, .ref q5, .ref q6, .ref q7, .long (0 : Int64)])), (q3, .inr (13, [.int (zI (0)), .ref (G.2.2 0), .int (zI (0))])), (q10, .inl (G.2.1 0, 4, .inl (upd (fun _ => 0) 0 (zI (0)))))]) C 2 0 rfl rfl 0 rfl (by decide) (by decide) rfl dX13_formula_180 ?_
  refine vv_dup C dX13_formula_181 rfl ?_
  refine vv_iconst (v := zI (1)) C dX13_formula_182 rfl ?_
  refine vv_iload_n C 4 dX13_formula_183 rfl rfl ?_
  refine vv_iast (ws1 := [(q1, .inr (12, [.int (zI (0)), .ref q2, .ref q3, .ref q4, .ref q5, .ref q6, .ref q7, .long (0 : Int64)])), (q3, .inr (13, [.int (zI (0)), .ref (G.2.2 0), .int (zI (0))])), (q10, .inl (G.2.1 0, 4, .inl (upd (upd (fun _ => 0) 0 (zI (0))) 1 (zI (v8)))))]) C 2 0 rfl rfl 1 rfl (by decide) (by decide) rfl dX13_formula_184 ?_
  refine vv_dup C dX13_formula_185 rfl ?_
  refine vv_iconst (v := zI (2)) C dX13_formula_186 rfl ?_
  refine vv_iload C 1 dX13_formula_187 rfl ?_
  refine vv_iast (ws1 := [(q1, .inr (12, [.int (zI (0)), .ref q2, .ref q3, .ref q4, .ref q5, .ref q6, .ref q7, .long (0 : Int64)])), (q3, .inr (13, [.int (zI (0)), .ref (G.2.2 0), .int (zI (0))])), (q10, .inl (G.2.1 0, 4, .inl (upd (upd (upd (fun _ => 0) 0 (zI (0))) 1 (zI (v8))) 2 (zI (0)))))]) C 2 0 rfl rfl 2 rfl (by decide) (by decide) rfl dX13_formula_189 ?_
  refine vv_dup C dX13_formula_190 rfl ?_
  refine vv_iconst (v := zI (3)) C dX13_formula_191 rfl ?_
  refine vv_iload C 0 dX13_formula_192 rfl ?_
  refine vv_iast (ws1 := [(q1, .inr (12, [.int (zI (0)), .ref q2, .ref q3, .ref q4, .ref q5, .ref q6, .ref q7, .long (0 : Int64)])), (q3, .inr (13, [.int (zI (0)), .ref (G.2.2 0), .int (zI (0))])), (q10, .inl (G.2.1 0, 4, .inl (upd (upd (upd (upd (fun _ => 0) 0 (zI (0))) 1 (zI (v8))) 2 (zI (0))) 3 (zI (0)))))]) C 2 0 rfl rfl 3 rfl (by decide) (by decide) rfl dX13_formula_194 ?_
  refine vv_astore (loc1 := [(6, .ref q10), (5, .int (zI (0))), (4, .int (zI (0))), (0, .ref q1), (1, .int (zI (0))), (2, .int (zI (v8))), (3, .int (zI (v9)))]) C dX13_formula_195 (by decide) rfl ?_
  refine vv_iconst (v := zI (0)) C dX13_formula_197 rfl ?_
  refine vv_istore (loc1 := [(7, .int (zI (0))), (6, .ref q10), (5, .int (zI (0))), (4, .int (zI (0))), (0, .ref q1), (1, .int (zI (0))), (2, .int (zI (v8))), (3, .int (zI (v9)))]) C dX13_formula_198 (by decide) rfl ?_
  refine vv_iload C 0 dX13_formula_200 rfl ?_
  refine vv_aload_n C 4 dX13_formula_202 rfl rfl ?_
  refine vv_get C 0 rfl rfl vi_X13 2 (by decide) wm1129 rfl dX13_formula_203 ?_
  refine vv_callV (As := []) (rest := [.int (zI (0))]) (wr := [(q1, .inr (12, [.int (zI (0)), .ref q2, .ref q3, .ref q4, .ref q5, .ref q6, .ref q7, .long (0 : Int64)])), (q10, .inl (G.2.1 0, 4, .inl (upd (upd (upd (upd (fun _ => 0) 0 (zI (0))) 1 (zI (v8))) 2 (zI (0))) 3 (zI (0)))))]) (ws2 := fun u => [(q1, .inr (12, [.int (zI (0)), .ref q2, .ref q3, .ref q4, .ref q5, .ref q6, .ref q7, .long (0 : Int64)])), (q3, .inr (13, [.int (zI (0)), .ref (G.2.2 0), .int (zI (0))])), (q10, .inl (G.2.1 0, 4, .inl (upd (upd (upd (upd (fun _ => 0) 0 (zI (0))) 1 (zI (v8))) 2 (zI (0))) 3 (zI (0)))))]) (isC := [1]) (isR := [0, 2]) (isP := [0, 2, 1]) C (vv_cutI rfl rfl rfl rfl (by decide) (fun _ => rfl) rfl) (k29_Jx4a65c_size_8abf5 l hf G q3) yy_Jx4a65c_size_8abf5 (vv_rmI rfl rfl (Nat.le_of_ble_eq_true rfl) (Nat.le_of_ble_eq_true rfl) (Nat.le_of_ble_eq_true rfl) (Nat.le_of_ble_eq_true rfl)) wm1175 wm1176 wm1177 0 rfl rfl rfl rfl (Nat.le_of_ble_eq_true rfl) dX13_formula_206 (fun v u hp => ?_)
  obtain rfl := hp
  refine vv_nrm (ws1 := [(q1, .inr (12, [.int (zI (0)), .ref q2, .ref q3, .ref q4, .ref q5, .ref q6, .ref q7, .long (0 : Int64)])), (q3, .inr (13, [.int (zI (0)), .ref (G.2.2 0), .int (zI (0))])), (q10, .inl (G.2.1 0, 4, .inl (upd (upd (upd (upd (fun _ => 0) 0 (zI (0))) 1 (zI (v8))) 2 (zI (0))) 3 (zI (0)))))]) (st1 := [.int (zI (0)), .int (zI (0))]) rfl rfl ?_
  refine vv_icmp_ge (tgt := 241) C dX13_formula_209 (by decide) (by omega) (by omega) (fun h => ?_) (fun h => by exfalso; omega)
  refine vv_aload_n C 4 dX13_formula_241 rfl rfl ?_
  refine vv_get C 0 rfl rfl vi_X13 2 (by decide) wm1129 rfl dX13_formula_242 ?_
  refine vv_callV (As := []) (rest := []) (wr := [(q1, .inr (12, [.int (zI (0)), .ref q2, .ref q3, .ref q4, .ref q5, .ref q6, .ref q7, .long (0 : Int64)])), (q10, .inl (G.2.1 0, 4, .inl (upd (upd (upd (upd (fun _ => 0) 0 (zI (0))) 1 (zI (v8))) 2 (zI (0))) 3 (zI (0)))))]) (ws2 := fun u => [(q1, .inr (12, [.int (zI (0)), .ref q2, .ref q3, .ref q4, .ref q5, .ref q6, .ref q7, .long (0 : Int64)])), (q3, .inr (13, [.int (zI (0)), .ref (G.2.2 0), .int (zI (0))])), (q10, .inl (G.2.1 0, 4, .inl (upd (upd (upd (upd (fun _ => 0) 0 (zI (0))) 1 (zI (v8))) 2 (zI (0))) 3 (zI (0)))))]) (isC := [1]) (isR := [0, 2]) (isP := [0, 2, 1]) C (vv_cutI rfl rfl rfl rfl (by decide) (fun _ => rfl) rfl) (k29_Jx4a65c_size_8abf5 l hf G q3) yy_Jx4a65c_size_8abf5 (vv_rmI rfl rfl (Nat.le_of_ble_eq_true rfl) (Nat.le_of_ble_eq_true rfl) (Nat.le_of_ble_eq_true rfl) (Nat.le_of_ble_eq_true rfl)) wm1175 wm1176 wm1177 0 rfl rfl rfl rfl (Nat.le_of_ble_eq_true rfl) dX13_formula_245 (fun v u hp => ?_)
  obtain rfl := hp
  refine vv_nrm (ws1 := [(q1, .inr (12, [.int (zI (0)), .ref q2, .ref q3, .ref q4, .ref q5, .ref q6, .ref q7, .long (0 : Int64)])), (q3, .inr (13, [.int (zI (0)), .ref (G.2.2 0), .int (zI (0))])), (q10, .inl (G.2.1 0, 4, .inl (upd (upd (upd (upd (fun _ => 0) 0 (zI (0))) 1 (zI (v8))) 2 (zI (0))) 3 (zI (0)))))]) (st1 := [.int (zI (0))]) rfl rfl ?_
  refine vv_bipush (v := zI (40)) C dX13_formula_248 (by decide) ?_
  refine vv_icmp_ne (tgt := 259) C dX13_formula_250 (by decide) (by omega) (by omega) (fun h => ?_) (fun h => by exfalso; omega)
  refine vv_aload_n C 4 dX13_formula_259 rfl rfl ?_
  refine vv_get C 0 rfl rfl vi_X13 2 (by decide) wm1129 rfl dX13_formula_260 ?_
  refine vv_aload C 1 dX13_formula_263 rfl ?_
  refine vv_callV (As := [.ref q10]) (rest := []) (wr := [(q1, .inr (12, [.int (zI (0)), .ref q2, .ref q3, .ref q4, .ref q5, .ref q6, .ref q7, .long (0 : Int64)]))]) (ws2 := fun u => [(q1, .inr (12, [.int (zI (0)), .ref q2, .ref q3, .ref q4, .ref q5, .ref q6, .ref q7, .long (0 : Int64)])), (q3, .inr (13, [.int (zI (1)), .ref u, .int (zI (1))]))]) (isC := [1, 2]) (isR := [0]) (isP := [0, 1]) C (vv_cutI rfl rfl rfl rfl (by decide) (fun _ => rfl) rfl) (k295_Jx4a65c_add_9ea2d l hf G q3 q10 (v8) rv2 (by omega) (by omega)) yy_Jx4a65c_add_9ea2d (vv_rmI rfl rfl (Nat.le_of_ble_eq_true rfl) (Nat.le_of_ble_eq_true rfl) (Nat.le_of_ble_eq_true rfl) (Nat.le_of_ble_eq_true rfl)) wm1298 wm1299 wm1300 0 rfl rfl rfl rfl (Nat.le_of_ble_eq_true rfl) dX13_formula_265 (fun v u hp => ?_)
  obtain rfl := hp
  obtain ⟨q11, rfl⟩ : ∃ z, z = u := ⟨_, rfl⟩
  refine vv_nrm (ws1 := [(q1, .inr (12, [.int (zI (0)), .ref q2, .ref q3, .ref q4, .ref q5, .ref q6, .ref q7, .long (0 : Int64)])), (q3, .inr (13, [.int (zI (1)), .ref q11, .int (zI (1))]))]) (st1 := [.int (zI (1))]) rfl rfl ?_
  refine vv_pop C dX13_formula_268 rfl ?_
  refine vv_aload_n C 4 dX13_formula_269 rfl rfl ?_
  refine vv_get C 0 rfl rfl vi_X13 2 (by decide) wm1129 rfl dX13_formula_270 ?_
  refine vv_callV (As := []) (rest := []) (wr := [(q1, .inr (12, [.int (zI (0)), .ref q2, .ref q3, .ref q4, .ref q5, .ref q6, .ref q7, .long (0 : Int64)]))]) (ws2 := fun u => [(q1, .inr (12, [.int (zI (0)), .ref q2, .ref q3, .ref q4, .ref q5, .ref q6, .ref q7, .long (0 : Int64)])), (q3, .inr (13, [.int (zI (1)), .ref q11, .int (zI (1))]))]) (isC := [1]) (isR := [0]) (isP := [0, 1]) C (vv_cutI rfl rfl rfl rfl (by decide) (fun _ => rfl) rfl) (k34_Jx4a65c_size_8abf5 l hf G q3 q11) yy_Jx4a65c_size_8abf5 (vv_rmI rfl rfl (Nat.le_of_ble_eq_true rfl) (Nat.le_of_ble_eq_true rfl) (Nat.le_of_ble_eq_true rfl) (Nat.le_of_ble_eq_true rfl)) wm1175 wm1176 wm1177 0 rfl rfl rfl rfl (Nat.le_of_ble_eq_true rfl) dX13_formula_273 (fun v u hp => ?_)
  obtain rfl := hp
  refine vv_nrm (ws1 := [(q1, .inr (12, [.int (zI (0)), .ref q2, .ref q3, .ref q4, .ref q5, .ref q6, .ref q7, .long (0 : Int64)])), (q3, .inr (13, [.int (zI (1)), .ref q11, .int (zI (1))]))]) (st1 := [.int (zI (1))]) rfl rfl ?_
  refine vv_iconst (v := zI (1)) C dX13_formula_276 rfl ?_
  refine vv_isub (z := zI (0)) C dX13_formula_277 (by rw [zI_sub]; exact zI_c (by omega)) ?_
  exact vv_iret C (q11) rfl [0, 1] rfl rfl ⟨Nat.le_of_ble_eq_true rfl, Nat.le_of_ble_eq_true rfl⟩ dX13_formula_278
set_option maxHeartbeats 4000000 in
set_option maxRecDepth 100000 in
theorem k297_X10_needParts (l : Launch) (hf : l.stackTraces = false) (G : vv_G) (q1 q2 q3 q4 q5 q6 q7 q8 q9 q10 : Nat) (v11 : Int) (rv2 : -2147483648 ≤ v11 ∧ v11 < 2147483648) (v12 : Int) (rv3 : -2147483648 ≤ v12 ∧ v12 < 2147483648) (g0 : 6 ≤ v11) : ∀ sz, Met l yX10_needParts (Cond.code yX10_needParts cX10_needParts 4 none :: gT) ({ frames := 0, cells := 0, slots := 0, locals := 0 } : Room) (va_Pc [.ref q1, .int (zI (0)), .int (zI (v11)), .int (zI (v12))] (vv_I G [(q1, .inr (9, [.ref q2, .ref q3, .ref q4, .ref q5, .ref q6, .ref q7, .ref q8, .ref q9, .ref q10]))] sz)) (vv_Q G (fun v (u : Unit) => v = none) (fun u => [(q1, .inr (9, [.ref q2, .ref q3, .ref q4, .ref q5, .ref q6, .ref q7, .ref q8, .ref q9, .ref q10]))]) (va_A [(q1, .inr (9, [.ref q2, .ref q3, .ref q4, .ref q5, .ref q6, .ref q7, .ref q8, .ref q9, .ref q10]))] sz)) 0 0 (va_A [(q1, .inr (9, [.ref q2, .ref q3, .ref q4, .ref q5, .ref q6, .ref q7, .ref q8, .ref q9, .ref q10]))] sz) := by
  refine vv_start hf (by decide) (Nat.le_of_ble_eq_true rfl) ?_
  intro p e s m below meth c A C hnm
  refine vv_iload_n C 1 dX10_needParts_0 rfl rfl ?_
  refine vv_iconst (v := zI (1)) C dX10_needParts_1 rfl ?_
  refine vv_icmp_ne (tgt := 15) C dX10_needParts_2 (by decide) (by omega) (by omega) (fun h => ?_) (fun h => by exfalso; omega)
  refine vv_iload_n C 1 dX10_needParts_15 rfl rfl ?_
  refine vv_iconst (v := zI (2)) C dX10_needParts_16 rfl ?_
  refine vv_icmp_lt (tgt := 30) C dX10_needParts_17 (by decide) (by omega) (by omega) (fun h => ?_) (fun h => by exfalso; omega)
  refine vv_iload_n C 1 dX10_needParts_30 rfl rfl ?_
  refine vv_iconst (v := zI (3)) C dX10_needParts_31 rfl ?_
  refine vv_icmp_lt (tgt := 45) C dX10_needParts_32 (by decide) (by omega) (by omega) (fun h => ?_) (fun h => by exfalso; omega)
  exact vv_vret C (()) rfl [0] rfl rfl ⟨Nat.le_of_ble_eq_true rfl, Nat.le_of_ble_eq_true rfl⟩ dX10_needParts_45
set_option maxHeartbeats 4000000 in
set_option maxRecDepth 100000 in
theorem k298_X10_formula (l : Launch) (hf : l.stackTraces = false) (G : vv_G) (q1 q2 q3 q4 q5 q6 q7 q8 q9 q10 : Nat) (v11 : Int) (rv2 : -2147483648 ≤ v11 ∧ v11 < 2147483648) (v12 : Int) (rv3 : -2147483648 ≤ v12 ∧ v12 < 2147483648) (g0 : 6 ≤ v11) : ∀ sz, vx_Met l yX10_formula (Cond.code yX10_formula cX10_formula 5 (some .int) :: gT) ({ frames := 6, cells := 1, slots := 6, locals := 90 } : Room) (va_Pc [.ref q1, .int (zI (0)), .int (zI (v11)), .int (zI (v12))] (vv_I G [(q1, .inr (9, [.ref q2, .ref q3, .ref q4, .ref q5, .ref q6, .ref q7, .ref q8, .ref q9, .ref q10]))] sz)) (vv_Q G (fun v (u : Unit) => False) (fun u => []) (va_A [(q1, .inr (9, [.ref q2, .ref q3, .ref q4, .ref q5, .ref q6, .ref q7, .ref q8, .ref q9, .ref q10]))] sz)) (vv_XC G (fun E (u : Unit) => E = "java/lang/IllegalArgumentException") (fun u => [(q1, .inr (9, [.ref q2, .ref q3, .ref q4, .ref q5, .ref q6, .ref q7, .ref q8, .ref q9, .ref q10]))]) (va_A [(q1, .inr (9, [.ref q2, .ref q3, .ref q4, .ref q5, .ref q6, .ref q7, .ref q8, .ref q9, .ref q10]))] sz)) 1 6 (va_A [(q1, .inr (9, [.ref q2, .ref q3, .ref q4, .ref q5, .ref q6, .ref q7, .ref q8, .ref q9, .ref q10]))] sz) := by
  refine vv_startX hf (by decide) (Nat.le_of_ble_eq_true rfl) ?_
  intro p e s m below meth c A C hnm htab
  refine vv_aload_n C 0 dX10_formula_0 rfl rfl ?_
  refine vv_iload_n C 1 dX10_formula_1 rfl rfl ?_
  refine vv_iload_n C 2 dX10_formula_2 rfl rfl ?_
  refine vv_iload_n C 3 dX10_formula_3 rfl rfl ?_
  refine vv_callV (As := [.int (zI (0)), .int (zI (v11)), .int (zI (v12))]) (rest := []) (wr := []) (ws2 := fun u => [(q1, .inr (9, [.ref q2, .ref q3, .ref q4, .ref q5, .ref q6, .ref q7, .ref q8, .ref q9, .ref q10]))]) (isC := [0]) (isR := []) (isP := [0]) C (vv_cutI rfl rfl rfl rfl (by decide) (fun _ => rfl) rfl) (k297_X10_needParts l hf G q1 q2 q3 q4 q5 q6 q7 q8 q9 q10 (v11) rv2 (v12) rv3 (by omega)) yy_X10_needParts (vv_rmI rfl rfl (Nat.le_of_ble_eq_true rfl) (Nat.le_of_ble_eq_true rfl) (Nat.le_of_ble_eq_true rfl) (Nat.le_of_ble_eq_true rfl)) wm960 wm962 ws_selects_Latticework_Latticework_needParts__III_V_Latticework_needParts__III_V 0 rfl rfl rfl rfl (Nat.le_of_ble_eq_true rfl) dX10_formula_4 (fun v u hp => ?_)
  obtain rfl := hp
  refine vv_nrm (ws1 := [(q1, .inr (9, [.ref q2, .ref q3, .ref q4, .ref q5, .ref q6, .ref q7, .ref q8, .ref q9, .ref q10]))]) (st1 := []) rfl rfl ?_
  refine vv_iload_n C 1 dX10_formula_7 rfl rfl ?_
  refine vv_if_lt (tgt := 16) C dX10_formula_8 (by decide) (by omega) (fun h => by exfalso; omega) (fun h => ?_)
  refine vv_iload_n C 1 dX10_formula_11 rfl rfl ?_
  refine vv_iconst (v := zI (5)) C dX10_formula_12 rfl ?_
  refine vv_icmp_le (tgt := 26) C dX10_formula_13 (by decide) (by omega) (by omega) (fun h => ?_) (fun h => by exfalso; omega)
  refine vv_iload_n C 1 dX10_formula_26 rfl rfl ?_
  refine vv_if_ne (tgt := 50) C dX10_formula_27 (by decide) (by omega) (fun h => by exfalso; omega) (fun h => ?_)
  refine vv_iload_n C 2 dX10_formula_30 rfl rfl ?_
  refine vv_if_lt (tgt := 40) C dX10_formula_31 (by decide) (by omega) (fun h => by exfalso; omega) (fun h => ?_)
  refine vv_iload_n C 2 dX10_formula_34 rfl rfl ?_
  refine vv_bipush (v := zI (6)) C dX10_formula_35 (by decide) ?_
  refine vv_icmp_lt (tgt := 50) C dX10_formula_37 (by decide) (by omega) (by omega) (fun h => by exfalso; omega) (fun h => ?_)
  exact vv_throw C tw_X10_74_211 htab dX10_formula_40 dX10_formula_43 dX10_formula_44 dX10_formula_46 dX10_formula_49 ⟨Nat.le_of_ble_eq_true rfl, Nat.le_of_ble_eq_true rfl, Nat.le_of_ble_eq_true rfl, Nat.le_of_ble_eq_true rfl, Nat.le_of_ble_eq_true rfl, Nat.le_of_ble_eq_true rfl⟩ () rfl [0] rfl rfl
set_option maxHeartbeats 4000000 in
set_option maxRecDepth 100000 in
theorem k299_L_formula (l : Launch) (hf : l.stackTraces = false) (G : vv_G) (q1 q2 q3 q4 q5 q6 q7 q8 q9 q10 q11 : Nat) (v12 : Int) (rv2 : -2147483648 ≤ v12 ∧ v12 < 2147483648) (v13 : Int) (rv3 : -2147483648 ≤ v13 ∧ v13 < 2147483648) (g0 : 6 ≤ v12) : ∀ sz, Met l yL_formula (Cond.codeWith yL_formula cL_formula 6 (some .int) [(0, 12, 15, 21), (0, 12, 19, 13), (0, 12, 23, 15)] :: gT) ({ frames := 7, cells := 1, slots := 6, locals := 114 } : Room) (va_Pc [.ref q1, .int (zI (0)), .int (zI (v12)), .int (zI (v13)), .ref q11] (vv_I G [(q1, .inr (9, [.ref q2, .ref q3, .ref q4, .ref q5, .ref q6, .ref q7, .ref q8, .ref q9, .ref q10]))] sz)) (vv_Q G (fun v (u : Unit) => v = some (.int (zI (2)))) (fun u => [(q1, .inr (9, [.ref q2, .ref q3, .ref q4, .ref q5, .ref q6, .ref q7, .ref q8, .ref q9, .ref q10]))]) (va_A [(q1, .inr (9, [.ref q2, .ref q3, .ref q4, .ref q5, .ref q6, .ref q7, .ref q8, .ref q9, .ref q10]))] sz)) 1 6 (va_A [(q1, .inr (9, [.ref q2, .ref q3, .ref q4, .ref q5, .ref q6, .ref q7, .ref q8, .ref q9, .ref q10]))] sz) := by
  refine vv_startW hf (by decide) (Nat.le_of_ble_eq_true rfl) ?_
  intro p e s m below meth c A C hnm htab
  refine vv_aload C 4 dL_formula_0 rfl ?_
  refine vv_iconst (v := zI (0)) C dL_formula_2 rfl ?_
  refine vv_aload_n C 0 dL_formula_3 rfl rfl ?_
  refine vv_iload_n C 1 dL_formula_4 rfl rfl ?_
  refine vv_iload_n C 2 dL_formula_5 rfl rfl ?_
  refine vv_iload_n C 3 dL_formula_6 rfl rfl ?_
  refine vv_callVx (As := [.int (zI (0)), .int (zI (v12)), .int (zI (v13))]) (rest := [.int (zI (0)), .ref q11]) (wr := []) (ws3 := fun u => [(q1, .inr (9, [.ref q2, .ref q3, .ref q4, .ref q5, .ref q6, .ref q7, .ref q8, .ref q9, .ref q10]))]) (isC := [0]) (isR := []) (isX := [0]) (ws2 := fun _ => []) (isP := []) C (vv_cutI rfl rfl rfl rfl (by decide) (fun _ => rfl) rfl) (vv_cutI rfl rfl rfl rfl (by decide) (fun _ => rfl) rfl) (k298_X10_formula l hf G q1 q2 q3 q4 q5 q6 q7 q8 q9 q10 (v12) rv2 (v13) rv3 (by omega)) yy_X10_formula (vv_rmI rfl rfl (Nat.le_of_ble_eq_true rfl) (Nat.le_of_ble_eq_true rfl) (Nat.le_of_ble_eq_true rfl) (Nat.le_of_ble_eq_true rfl)) wm956 wm957 wm958 0 rfl rfl rfl rfl (Nat.le_of_ble_eq_true rfl) dL_formula_7 (fun E9 u hp => ?_) (fun v u hp => hp.elim)
  obtain rfl := hp
  refine vv_catch C htab [⟨0, 12, 15, 21⟩] ⟨0, 12, 19, 13⟩ [⟨0, 12, 23, 15⟩] rfl (by intro z hz; simp only [List.mem_cons, List.not_mem_nil, or_false] at hz; obtain rfl := hz; exact Or.inr ⟨by decide, "java/lang/IndexOutOfBoundsException", wm645, by decide +kernel⟩) rfl (by decide) wm541 (by decide +kernel) (fun qe87 => ?_)
  refine vv_astore (loc1 := [(5, .ref qe87), (0, .ref q1), (1, .int (zI (0))), (2, .int (zI (v12))), (3, .int (zI (v13))), (4, .ref q11)]) C dL_formula_19 (by decide) rfl ?_
  refine vv_iconst (v := zI (2)) C dL_formula_21 rfl ?_
  exact vv_iret C (()) rfl [0] rfl rfl ⟨Nat.le_of_ble_eq_true rfl, Nat.le_of_ble_eq_true rfl⟩ dL_formula_22
set_option maxHeartbeats 4000000 in
set_option maxRecDepth 100000 in
theorem k300_X13_is (l : Launch) (hf : l.stackTraces = false) (G : vv_G)  (v1 : Int) (rv2 : -2147483648 ≤ v1 ∧ v1 < 2147483648) (g0 : 6 ≤ v1) : ∀ sz, Met l yX13_is (Cond.code yX13_is cX13_is 3 (some .boolean) :: gT) ({ frames := 0, cells := 0, slots := 0, locals := 0 } : Room) (va_Pc [.int (zI (v1)), .int (zI (0)), .int (zI (5))] (vv_I G [] sz)) (vv_Q G (fun v (u : Unit) => v = some (.int (zI (0)))) (fun u => []) (va_A [] sz)) 0 0 (va_A [] sz) := by
  refine vv_start hf (by decide) (Nat.le_of_ble_eq_true rfl) ?_
  intro p e s m below meth c A C hnm
  refine vv_iload_n C 0 dX13_is_0 rfl rfl ?_
  refine vv_iload_n C 1 dX13_is_1 rfl rfl ?_
  refine vv_icmp_lt (tgt := 14) C dX13_is_2 (by decide) (by omega) (by omega) (fun h => by exfalso; omega) (fun h => ?_)
  refine vv_iload_n C 0 dX13_is_5 rfl rfl ?_
  refine vv_iload_n C 2 dX13_is_6 rfl rfl ?_
  refine vv_icmp_gt (tgt := 14) C dX13_is_7 (by decide) (by omega) (by omega) (fun h => ?_) (fun h => by exfalso; omega)
  refine vv_iconst (v := zI (0)) C dX13_is_14 rfl ?_
  exact vv_zret C (by decide) (()) rfl [] rfl rfl ⟨Nat.le_of_ble_eq_true rfl, Nat.le_of_ble_eq_true rfl⟩ dX13_is_15
set_option maxHeartbeats 4000000 in
set_option maxRecDepth 100000 in
theorem k301_X13_formula (l : Launch) (hf : l.stackTraces = false) (G : vv_G) (q1 q2 q3 q4 q5 q6 q7 : Nat) (v8 : Int) (rv2 : -2147483648 ≤ v8 ∧ v8 < 2147483648) (v9 : Int) (rv3 : -2147483648 ≤ v9 ∧ v9 < 2147483648) (g0 : 6 ≤ v8) : ∀ sz, Met l yX13_formula (Cond.code yX13_formula cX13_formula 8 (some .int) :: gT) ({ frames := 1, cells := 0, slots := 0, locals := 22 } : Room) (va_Pc [.ref q1, .int (zI (0)), .int (zI (v8)), .int (zI (v9))] (vv_I G [(q1, .inr (12, [.int (zI (0)), .ref q2, .ref q3, .ref q4, .ref q5, .ref q6, .ref q7, .long (0 : Int64)]))] sz)) (vv_Q G (fun v (u : Unit) => v = some (.int (zI (0)))) (fun u => [(q1, .inr (12, [.int (zI (2)), .ref q2, .ref q3, .ref q4, .ref q5, .ref q6, .ref q7, .long (0 : Int64)]))]) (va_A [(q1, .inr (12, [.int (zI (0)), .ref q2, .ref q3, .ref q4, .ref q5, .ref q6, .ref q7, .long (0 : Int64)]))] sz)) 0 0 (va_A [(q1, .inr (12, [.int (zI (0)), .ref q2, .ref q3, .ref q4, .ref q5, .ref q6, .ref q7, .long (0 : Int64)]))] sz) := by
  refine vv_start hf (by decide) (Nat.le_of_ble_eq_true rfl) ?_
  intro p e s m below meth c A C hnm
  refine vv_aload_n C 0 dX13_formula_0 rfl rfl ?_
  refine vv_iconst (v := zI (0)) C dX13_formula_1 rfl ?_
  refine vv_put (ws1 := [(q1, .inr (12, [.int (zI (0)), .ref q2, .ref q3, .ref q4, .ref q5, .ref q6, .ref q7, .long (0 : Int64)]))]) C 0 rfl rfl vi_X13 tyX13_ok nmX13 0 (by decide) wm1127 rfl rfl rfl (Nat.le_of_ble_eq_true rfl) rfl dX13_formula_2 ?_
  refine vv_iload_n C 1 dX13_formula_5 rfl rfl ?_
  refine vv_iconst (v := zI (1)) C dX13_formula_6 rfl ?_
  refine vv_icmp_ne (tgt := 32) C dX13_formula_7 (by decide) (by omega) (by omega) (fun h => ?_) (fun h => by exfalso; omega)
  refine vv_iload_n C 1 dX13_formula_32 rfl rfl ?_
  refine vv_iconst (v := zI (2)) C dX13_formula_33 rfl ?_
  refine vv_iconst (v := zI (5)) C dX13_formula_34 rfl ?_
  refine vv_callS (As := [.int (zI (0)), .int (zI (2)), .int (zI (5))]) (rest := []) (wr := [(q1, .inr (12, [.int (zI (0)), .ref q2, .ref q3, .ref q4, .ref q5, .ref q6, .ref q7, .long (0 : Int64)]))]) (ws2 := fun u => [(q1, .inr (12, [.int (zI (0)), .ref q2, .ref q3, .ref q4, .ref q5, .ref q6, .ref q7, .long (0 : Int64)]))]) (isC := []) (isR := [0]) (isP := [0]) C (vv_cutI rfl rfl rfl rfl (by decide) (fun _ => rfl) rfl) (k284_X13_is l hf G ) yy_X13_is (vv_rmI rfl rfl (Nat.le_of_ble_eq_true rfl) (Nat.le_of_ble_eq_true rfl) (Nat.le_of_ble_eq_true rfl) (Nat.le_of_ble_eq_true rfl)) wm1160 wm1161 rfl rfl (Nat.le_of_ble_eq_true rfl) dX13_formula_35 (fun v u hp => ?_)
  obtain rfl := hp
  refine vv_nrm (ws1 := [(q1, .inr (12, [.int (zI (0)), .ref q2, .ref q3, .ref q4, .ref q5, .ref q6, .ref q7, .long (0 : Int64)]))]) (st1 := [.int (zI (0))]) rfl rfl ?_
  refine vv_if_eq (tgt := 68) C dX13_formula_38 (by decide) (by omega) (fun h => ?_) (fun h => by exfalso; omega)
  refine vv_iload_n C 1 dX13_formula_68 rfl rfl ?_
  refine vv_iconst (v := zI (0)) C dX13_formula_69 rfl ?_
  refine vv_iconst (v := zI (5)) C dX13_formula_70 rfl ?_
  refine vv_callS (As := [.int (zI (0)), .int (zI (0)), .int (zI (5))]) (rest := []) (wr := [(q1, .inr (12, [.int (zI (0)), .ref q2, .ref q3, .ref q4, .ref q5, .ref q6, .ref q7, .long (0 : Int64)]))]) (ws2 := fun u => [(q1, .inr (12, [.int (zI (0)), .ref q2, .ref q3, .ref q4, .ref q5, .ref q6, .ref q7, .long (0 : Int64)]))]) (isC := []) (isR := [0]) (isP := [0]) C (vv_cutI rfl rfl rfl rfl (by decide) (fun _ => rfl) rfl) (k58_X13_is l hf G ) yy_X13_is (vv_rmI rfl rfl (Nat.le_of_ble_eq_true rfl) (Nat.le_of_ble_eq_true rfl) (Nat.le_of_ble_eq_true rfl) (Nat.le_of_ble_eq_true rfl)) wm1160 wm1161 rfl rfl (Nat.le_of_ble_eq_true rfl) dX13_formula_71 (fun v u hp => ?_)
  obtain rfl := hp
  refine vv_nrm (ws1 := [(q1, .inr (12, [.int (zI (0)), .ref q2, .ref q3, .ref q4, .ref q5, .ref q6, .ref q7, .long (0 : Int64)]))]) (st1 := [.int (zI (1))]) rfl rfl ?_
  refine vv_if_eq (tgt := 90) C dX13_formula_74 (by decide) (by omega) (fun h => by exfalso; omega) (fun h => ?_)
  refine vv_iload_n C 1 dX13_formula_77 rfl rfl ?_
  refine vv_if_ne (tgt := 96) C dX13_formula_78 (by decide) (by omega) (fun h => by exfalso; omega) (fun h => ?_)
  refine vv_iload_n C 2 dX13_formula_81 rfl rfl ?_
  refine vv_iconst (v := zI (0)) C dX13_formula_82 rfl ?_
  refine vv_iconst (v := zI (5)) C dX13_formula_83 rfl ?_
  refine vv_callS (As := [.int (zI (v8)), .int (zI (0)), .int (zI (5))]) (rest := []) (wr := [(q1, .inr (12, [.int (zI (0)), .ref q2, .ref q3, .ref q4, .ref q5, .ref q6, .ref q7, .long (0 : Int64)]))]) (ws2 := fun u => [(q1, .inr (12, [.int (zI (0)), .ref q2, .ref q3, .ref q4, .ref q5, .ref q6, .ref q7, .long (0 : Int64)]))]) (isC := []) (isR := [0]) (isP := [0]) C (vv_cutI rfl rfl rfl rfl (by decide) (fun _ => rfl) rfl) (k300_X13_is l hf G  (v8) rv2 (by omega)) yy_X13_is (vv_rmI rfl rfl (Nat.le_of_ble_eq_true rfl) (Nat.le_of_ble_eq_true rfl) (Nat.le_of_ble_eq_true rfl) (Nat.le_of_ble_eq_true rfl)) wm1160 wm1161 rfl rfl (Nat.le_of_ble_eq_true rfl) dX13_formula_84 (fun v u hp => ?_)
  obtain rfl := hp
  refine vv_nrm (ws1 := [(q1, .inr (12, [.int (zI (0)), .ref q2, .ref q3, .ref q4, .ref q5, .ref q6, .ref q7, .long (0 : Int64)]))]) (st1 := [.int (zI (0))]) rfl rfl ?_
  refine vv_if_ne (tgt := 96) C dX13_formula_87 (by decide) (by omega) (fun h => by exfalso; omega) (fun h => ?_)
  refine vv_aload_n C 0 dX13_formula_90 rfl rfl ?_
  refine vv_iconst (v := zI (2)) C dX13_formula_91 rfl ?_
  refine vv_callV (As := [.int (zI (2))]) (rest := []) (wr := []) (ws2 := fun u => [(q1, .inr (12, [.int (zI (2)), .ref q2, .ref q3, .ref q4, .ref q5, .ref q6, .ref q7, .long (0 : Int64)]))]) (isC := [0]) (isR := []) (isP := [0]) C (vv_cutI rfl rfl rfl rfl (by decide) (fun _ => rfl) rfl) (k46_X13_refuse l hf G q1 q2 q3 q4 q5 q6 q7) yy_X13_refuse (vv_rmI rfl rfl (Nat.le_of_ble_eq_true rfl) (Nat.le_of_ble_eq_true rfl) (Nat.le_of_ble_eq_true rfl) (Nat.le_of_ble_eq_true rfl)) wm1163 wm1165 ws_selects_LatticeworkModel_LatticeworkModel_refuse__I_I_LatticeworkModel_refuse__I_I 0 rfl rfl rfl rfl (Nat.le_of_ble_eq_true rfl) dX13_formula_92 (fun v u hp => ?_)
  obtain rfl := hp
  refine vv_nrm (ws1 := [(q1, .inr (12, [.int (zI (2)), .ref q2, .ref q3, .ref q4, .ref q5, .ref q6, .ref q7, .long (0 : Int64)]))]) (st1 := [.int (zI (0))]) rfl rfl ?_
  exact vv_iret C (()) rfl [0] rfl rfl ⟨Nat.le_of_ble_eq_true rfl, Nat.le_of_ble_eq_true rfl⟩ dX13_formula_95
set_option maxHeartbeats 4000000 in
set_option maxRecDepth 100000 in
theorem k302_X10_needTerm (l : Launch) (hf : l.stackTraces = false) (G : vv_G) (q1 q2 q3 q4 q5 q6 q7 q8 q9 q10 : Nat) (v11 : Int) (rv2 : -2147483648 ≤ v11 ∧ v11 < 2147483648) (g0 : v11 ≤ -1) : ∀ sz, vx_Met l yX10_needTerm (Cond.code yX10_needTerm cX10_needTerm 2 none :: gT) ({ frames := 6, cells := 1, slots := 6, locals := 90 } : Room) (va_Pc [.ref q1, .int (zI (v11))] (vv_I G [(q1, .inr (9, [.ref q2, .ref q3, .ref q4, .ref q5, .ref q6, .ref q7, .ref q8, .ref q9, .ref q10]))] sz)) (vv_Q G (fun v (u : Unit) => False) (fun u => []) (va_A [(q1, .inr (9, [.ref q2, .ref q3, .ref q4, .ref q5, .ref q6, .ref q7, .ref q8, .ref q9, .ref q10]))] sz)) (vv_XC G (fun E (u : Unit) => E = "java/lang/IndexOutOfBoundsException") (fun u => [(q1, .inr (9, [.ref q2, .ref q3, .ref q4, .ref q5, .ref q6, .ref q7, .ref q8, .ref q9, .ref q10]))]) (va_A [(q1, .inr (9, [.ref q2, .ref q3, .ref q4, .ref q5, .ref q6, .ref q7, .ref q8, .ref q9, .ref q10]))] sz)) 1 6 (va_A [(q1, .inr (9, [.ref q2, .ref q3, .ref q4, .ref q5, .ref q6, .ref q7, .ref q8, .ref q9, .ref q10]))] sz) := by
  refine vv_startX hf (by decide) (Nat.le_of_ble_eq_true rfl) ?_
  intro p e s m below meth c A C hnm htab
  refine vv_iload_n C 1 dX10_needTerm_0 rfl rfl ?_
  refine vv_if_lt (tgt := 15) C dX10_needTerm_1 (by decide) (by omega) (fun h => ?_) (fun h => by exfalso; omega)
  exact vv_throwW C tw_X10_125_288 htab dX10_needTerm_15 dX10_needTerm_18 dX10_needTerm_19 dX10_needTerm_22 dX10_needTerm_25 ⟨Nat.le_of_ble_eq_true rfl, Nat.le_of_ble_eq_true rfl, Nat.le_of_ble_eq_true rfl, Nat.le_of_ble_eq_true rfl, Nat.le_of_ble_eq_true rfl, Nat.le_of_ble_eq_true rfl⟩ () rfl [0] rfl rfl
set_option maxHeartbeats 4000000 in
set_option maxRecDepth 100000 in
theorem k303_X10_needParts (l : Launch) (hf : l.stackTraces = false) (G : vv_G) (q1 q2 q3 q4 q5 q6 q7 q8 q9 q10 : Nat) (v11 : Int) (rv2 : -2147483648 ≤ v11 ∧ v11 < 2147483648) (v12 : Int) (rv3 : -2147483648 ≤ v12 ∧ v12 < 2147483648) (g0 : v11 ≤ -1) : ∀ sz, vx_Met l yX10_needParts (Cond.code yX10_needParts cX10_needParts 4 none :: gT) ({ frames := 7, cells := 1, slots := 6, locals := 111 } : Room) (va_Pc [.ref q1, .int (zI (1)), .int (zI (v11)), .int (zI (v12))] (vv_I G [(q1, .inr (9, [.ref q2, .ref q3, .ref q4, .ref q5, .ref q6, .ref q7, .ref q8, .ref q9, .ref q10]))] sz)) (vv_Q G (fun v (u : Unit) => False) (fun u => []) (va_A [(q1, .inr (9, [.ref q2, .ref q3, .ref q4, .ref q5, .ref q6, .ref q7, .ref q8, .ref q9, .ref q10]))] sz)) (vv_XC G (fun E (u : Unit) => E = "java/lang/IndexOutOfBoundsException") (fun u => [(q1, .inr (9, [.ref q2, .ref q3, .ref q4, .ref q5, .ref q6, .ref q7, .ref q8, .ref q9, .ref q10]))]) (va_A [(q1, .inr (9, [.ref q2, .ref q3, .ref q4, .ref q5, .ref q6, .ref q7, .ref q8, .ref q9, .ref q10]))] sz)) 1 6 (va_A [(q1, .inr (9, [.ref q2, .ref q3, .ref q4, .ref q5, .ref q6, .ref q7, .ref q8, .ref q9, .ref q10]))] sz) := by
  refine vv_startX hf (by decide) (Nat.le_of_ble_eq_true rfl) ?_
  intro p e s m below meth c A C hnm htab
  refine vv_iload_n C 1 dX10_needParts_0 rfl rfl ?_
  refine vv_iconst (v := zI (1)) C dX10_needParts_1 rfl ?_
  refine vv_icmp_ne (tgt := 15) C dX10_needParts_2 (by decide) (by omega) (by omega) (fun h => by exfalso; omega) (fun h => ?_)
  refine vv_aload_n C 0 dX10_needParts_5 rfl rfl ?_
  refine vv_iload_n C 2 dX10_needParts_6 rfl rfl ?_
  refine vv_callVx (As := [.int (zI (v11))]) (rest := []) (wr := []) (ws3 := fun u => [(q1, .inr (9, [.ref q2, .ref q3, .ref q4, .ref q5, .ref q6, .ref q7, .ref q8, .ref q9, .ref q10]))]) (isC := [0]) (isR := []) (isX := [0]) (ws2 := fun _ => []) (isP := []) C (vv_cutI rfl rfl rfl rfl (by decide) (fun _ => rfl) rfl) (vv_cutI rfl rfl rfl rfl (by decide) (fun _ => rfl) rfl) (k302_X10_needTerm l hf G q1 q2 q3 q4 q5 q6 q7 q8 q9 q10 (v11) rv2 (by omega)) yy_X10_needTerm (vv_rmI rfl rfl (Nat.le_of_ble_eq_true rfl) (Nat.le_of_ble_eq_true rfl) (Nat.le_of_ble_eq_true rfl) (Nat.le_of_ble_eq_true rfl)) wm654 wm656 ws_selects_Latticework_Latticework_needTerm__I_V_Latticework_needTerm__I_V 0 rfl rfl rfl rfl (Nat.le_of_ble_eq_true rfl) dX10_needParts_7 (fun E9 u hp => ?_) (fun v u hp => hp.elim)
  obtain rfl := hp
  exact vv_out C htab ⟨Nat.le_of_ble_eq_true rfl, Nat.le_of_ble_eq_true rfl⟩ () rfl [0] rfl rfl
set_option maxHeartbeats 4000000 in
set_option maxRecDepth 100000 in
theorem k304_X10_formula (l : Launch) (hf : l.stackTraces = false) (G : vv_G) (q1 q2 q3 q4 q5 q6 q7 q8 q9 q10 : Nat) (v11 : Int) (rv2 : -2147483648 ≤ v11 ∧ v11 < 2147483648) (v12 : Int) (rv3 : -2147483648 ≤ v12 ∧ v12 < 2147483648) (g0 : v11 ≤ -1) : ∀ sz, vx_Met l yX10_formula (Cond.code yX10_formula cX10_formula 5 (some .int) :: gT) ({ frames := 8, cells := 1, slots := 6, locals := 134 } : Room) (va_Pc [.ref q1, .int (zI (1)), .int (zI (v11)), .int (zI (v12))] (vv_I G [(q1, .inr (9, [.ref q2, .ref q3, .ref q4, .ref q5, .ref q6, .ref q7, .ref q8, .ref q9, .ref q10]))] sz)) (vv_Q G (fun v (u : Unit) => False) (fun u => []) (va_A [(q1, .inr (9, [.ref q2, .ref q3, .ref q4, .ref q5, .ref q6, .ref q7, .ref q8, .ref q9, .ref q10]))] sz)) (vv_XC G (fun E (u : Unit) => E = "java/lang/IndexOutOfBoundsException") (fun u => [(q1, .inr (9, [.ref q2, .ref q3, .ref q4, .ref q5, .ref q6, .ref q7, .ref q8, .ref q9, .ref q10]))]) (va_A [(q1, .inr (9, [.ref q2, .ref q3, .ref q4, .ref q5, .ref q6, .ref q7, .ref q8, .ref q9, .ref q10]))] sz)) 1 6 (va_A [(q1, .inr (9, [.ref q2, .ref q3, .ref q4, .ref q5, .ref q6, .ref q7, .ref q8, .ref q9, .ref q10]))] sz) := by
  refine vv_startX hf (by decide) (Nat.le_of_ble_eq_true rfl) ?_
  intro p e s m below meth c A C hnm htab
  refine vv_aload_n C 0 dX10_formula_0 rfl rfl ?_
  refine vv_iload_n C 1 dX10_formula_1 rfl rfl ?_
  refine vv_iload_n C 2 dX10_formula_2 rfl rfl ?_
  refine vv_iload_n C 3 dX10_formula_3 rfl rfl ?_
  refine vv_callVx (As := [.int (zI (1)), .int (zI (v11)), .int (zI (v12))]) (rest := []) (wr := []) (ws3 := fun u => [(q1, .inr (9, [.ref q2, .ref q3, .ref q4, .ref q5, .ref q6, .ref q7, .ref q8, .ref q9, .ref q10]))]) (isC := [0]) (isR := []) (isX := [0]) (ws2 := fun _ => []) (isP := []) C (vv_cutI rfl rfl rfl rfl (by decide) (fun _ => rfl) rfl) (vv_cutI rfl rfl rfl rfl (by decide) (fun _ => rfl) rfl) (k303_X10_needParts l hf G q1 q2 q3 q4 q5 q6 q7 q8 q9 q10 (v11) rv2 (v12) rv3 (by omega)) yy_X10_needParts (vv_rmI rfl rfl (Nat.le_of_ble_eq_true rfl) (Nat.le_of_ble_eq_true rfl) (Nat.le_of_ble_eq_true rfl) (Nat.le_of_ble_eq_true rfl)) wm960 wm962 ws_selects_Latticework_Latticework_needParts__III_V_Latticework_needParts__III_V 0 rfl rfl rfl rfl (Nat.le_of_ble_eq_true rfl) dX10_formula_4 (fun E9 u hp => ?_) (fun v u hp => hp.elim)
  obtain rfl := hp
  exact vv_out C htab ⟨Nat.le_of_ble_eq_true rfl, Nat.le_of_ble_eq_true rfl⟩ () rfl [0] rfl rfl
set_option maxHeartbeats 4000000 in
set_option maxRecDepth 100000 in
theorem k305_L_formula (l : Launch) (hf : l.stackTraces = false) (G : vv_G) (q1 q2 q3 q4 q5 q6 q7 q8 q9 q10 q11 : Nat) (v12 : Int) (rv2 : -2147483648 ≤ v12 ∧ v12 < 2147483648) (v13 : Int) (rv3 : -2147483648 ≤ v13 ∧ v13 < 2147483648) (g0 : v12 ≤ -1) : ∀ sz, Met l yL_formula (Cond.codeWith yL_formula cL_formula 6 (some .int) [(0, 12, 15, 21), (0, 12, 19, 13), (0, 12, 23, 15)] :: gT) ({ frames := 9, cells := 1, slots := 6, locals := 158 } : Room) (va_Pc [.ref q1, .int (zI (1)), .int (zI (v12)), .int (zI (v13)), .ref q11] (vv_I G [(q1, .inr (9, [.ref q2, .ref q3, .ref q4, .ref q5, .ref q6, .ref q7, .ref q8, .ref q9, .ref q10]))] sz)) (vv_Q G (fun v (u : Unit) => v = some (.int (zI (1)))) (fun u => [(q1, .inr (9, [.ref q2, .ref q3, .ref q4, .ref q5, .ref q6, .ref q7, .ref q8, .ref q9, .ref q10]))]) (va_A [(q1, .inr (9, [.ref q2, .ref q3, .ref q4, .ref q5, .ref q6, .ref q7, .ref q8, .ref q9, .ref q10]))] sz)) 1 6 (va_A [(q1, .inr (9, [.ref q2, .ref q3, .ref q4, .ref q5, .ref q6, .ref q7, .ref q8, .ref q9, .ref q10]))] sz) := by
  refine vv_startW hf (by decide) (Nat.le_of_ble_eq_true rfl) ?_
  intro p e s m below meth c A C hnm htab
  refine vv_aload C 4 dL_formula_0 rfl ?_
  refine vv_iconst (v := zI (0)) C dL_formula_2 rfl ?_
  refine vv_aload_n C 0 dL_formula_3 rfl rfl ?_
  refine vv_iload_n C 1 dL_formula_4 rfl rfl ?_
  refine vv_iload_n C 2 dL_formula_5 rfl rfl ?_
  refine vv_iload_n C 3 dL_formula_6 rfl rfl ?_
  refine vv_callVx (As := [.int (zI (1)), .int (zI (v12)), .int (zI (v13))]) (rest := [.int (zI (0)), .ref q11]) (wr := []) (ws3 := fun u => [(q1, .inr (9, [.ref q2, .ref q3, .ref q4, .ref q5, .ref q6, .ref q7, .ref q8, .ref q9, .ref q10]))]) (isC := [0]) (isR := []) (isX := [0]) (ws2 := fun _ => []) (isP := []) C (vv_cutI rfl rfl rfl rfl (by decide) (fun _ => rfl) rfl) (vv_cutI rfl rfl rfl rfl (by decide) (fun _ => rfl) rfl) (k304_X10_formula l hf G q1 q2 q3 q4 q5 q6 q7 q8 q9 q10 (v12) rv2 (v13) rv3 (by omega)) yy_X10_formula (vv_rmI rfl rfl (Nat.le_of_ble_eq_true rfl) (Nat.le_of_ble_eq_true rfl) (Nat.le_of_ble_eq_true rfl) (Nat.le_of_ble_eq_true rfl)) wm956 wm957 wm958 0 rfl rfl rfl rfl (Nat.le_of_ble_eq_true rfl) dL_formula_7 (fun E9 u hp => ?_) (fun v u hp => hp.elim)
  obtain rfl := hp
  refine vv_catch C htab [] ⟨0, 12, 15, 21⟩ [⟨0, 12, 19, 13⟩, ⟨0, 12, 23, 15⟩] rfl (fun z hz => nomatch hz) rfl (by decide) wm645 (by decide +kernel) (fun qe88 => ?_)
  refine vv_astore (loc1 := [(5, .ref qe88), (0, .ref q1), (1, .int (zI (1))), (2, .int (zI (v12))), (3, .int (zI (v13))), (4, .ref q11)]) C dL_formula_15 (by decide) rfl ?_
  refine vv_iconst (v := zI (1)) C dL_formula_17 rfl ?_
  exact vv_iret C (()) rfl [0] rfl rfl ⟨Nat.le_of_ble_eq_true rfl, Nat.le_of_ble_eq_true rfl⟩ dL_formula_18
set_option maxHeartbeats 4000000 in
set_option maxRecDepth 100000 in
theorem k306_X13_is (l : Launch) (hf : l.stackTraces = false) (G : vv_G)  (v1 : Int) (rv2 : -2147483648 ≤ v1 ∧ v1 < 2147483648) (g0 : v1 ≤ -1) : ∀ sz, Met l yX13_is (Cond.code yX13_is cX13_is 3 (some .boolean) :: gT) ({ frames := 0, cells := 0, slots := 0, locals := 0 } : Room) (va_Pc [.int (zI (v1)), .int (zI (0)), .int (zI (-1))] (vv_I G [] sz)) (vv_Q G (fun v (u : Unit) => v = some (.int (zI (0)))) (fun u => []) (va_A [] sz)) 0 0 (va_A [] sz) := by
  refine vv_start hf (by decide) (Nat.le_of_ble_eq_true rfl) ?_
  intro p e s m below meth c A C hnm
  refine vv_iload_n C 0 dX13_is_0 rfl rfl ?_
  refine vv_iload_n C 1 dX13_is_1 rfl rfl ?_
  refine vv_icmp_lt (tgt := 14) C dX13_is_2 (by decide) (by omega) (by omega) (fun h => ?_) (fun h => by exfalso; omega)
  refine vv_iconst (v := zI (0)) C dX13_is_14 rfl ?_
  exact vv_zret C (by decide) (()) rfl [] rfl rfl ⟨Nat.le_of_ble_eq_true rfl, Nat.le_of_ble_eq_true rfl⟩ dX13_is_15
set_option maxHeartbeats 4000000 in
set_option maxRecDepth 100000 in
theorem k307_X13_isTerm (l : Launch) (hf : l.stackTraces = false) (G : vv_G) (q1 q2 q3 q4 q5 q6 q7 : Nat) (v8 : Int) (rv2 : -2147483648 ≤ v8 ∧ v8 < 2147483648) (g0 : v8 ≤ -1) : ∀ sz, Met l yX13_isTerm (Cond.code yX13_isTerm cX13_isTerm 2 (some .boolean) :: gT) ({ frames := 1, cells := 0, slots := 0, locals := 22 } : Room) (va_Pc [.ref q1, .int (zI (v8))] (vv_I G [(q1, .inr (12, [.int (zI (0)), .ref q2, .ref q3, .ref q4, .ref q5, .ref q6, .ref q7, .long (0 : Int64)])), (q2, .inr (13, [.int (zI (0)), .ref (G.2.2 0), .int (zI (0))]))] sz)) (vv_Q G (fun v (u : Unit) => v = some (.int (zI (0)))) (fun u => [(q1, .inr (12, [.int (zI (0)), .ref q2, .ref q3, .ref q4, .ref q5, .ref q6, .ref q7, .long (0 : Int64)])), (q2, .inr (13, [.int (zI (0)), .ref (G.2.2 0), .int (zI (0))]))]) (va_A [(q1, .inr (12, [.int (zI (0)), .ref q2, .ref q3, .ref q4, .ref q5, .ref q6, .ref q7, .long (0 : Int64)])), (q2, .inr (13, [.int (zI (0)), .ref (G.2.2 0), .int (zI (0))]))] sz)) 0 0 (va_A [(q1, .inr (12, [.int (zI (0)), .ref q2, .ref q3, .ref q4, .ref q5, .ref q6, .ref q7, .long (0 : Int64)])), (q2, .inr (13, [.int (zI (0)), .ref (G.2.2 0), .int (zI (0))]))] sz) := by
  refine vv_start hf (by decide) (Nat.le_of_ble_eq_true rfl) ?_
  intro p e s m below meth c A C hnm
  refine vv_iload_n C 1 dX13_isTerm_0 rfl rfl ?_
  refine vv_iconst (v := zI (0)) C dX13_isTerm_1 rfl ?_
  refine vv_aload_n C 0 dX13_isTerm_2 rfl rfl ?_
  refine vv_get C 0 rfl rfl vi_X13 1 (by decide) wm1128 rfl dX13_isTerm_3 ?_
  refine vv_callV (As := []) (rest := [.int (zI (0)), .int (zI (v8))]) (wr := [(q1, .inr (12, [.int (zI (0)), .ref q2, .ref q3, .ref q4, .ref q5, .ref q6, .ref q7, .long (0 : Int64)]))]) (ws2 := fun u => [(q1, .inr (12, [.int (zI (0)), .ref q2, .ref q3, .ref q4, .ref q5, .ref q6, .ref q7, .long (0 : Int64)])), (q2, .inr (13, [.int (zI (0)), .ref (G.2.2 0), .int (zI (0))]))]) (isC := [1]) (isR := [0]) (isP := [0, 1]) C (vv_cutI rfl rfl rfl rfl (by decide) (fun _ => rfl) rfl) (k29_Jx4a65c_size_8abf5 l hf G q2) yy_Jx4a65c_size_8abf5 (vv_rmI rfl rfl (Nat.le_of_ble_eq_true rfl) (Nat.le_of_ble_eq_true rfl) (Nat.le_of_ble_eq_true rfl) (Nat.le_of_ble_eq_true rfl)) wm1175 wm1176 wm1177 0 rfl rfl rfl rfl (Nat.le_of_ble_eq_true rfl) dX13_isTerm_6 (fun v u hp => ?_)
  obtain rfl := hp
  refine vv_nrm (ws1 := [(q1, .inr (12, [.int (zI (0)), .ref q2, .ref q3, .ref q4, .ref q5, .ref q6, .ref q7, .long (0 : Int64)])), (q2, .inr (13, [.int (zI (0)), .ref (G.2.2 0), .int (zI (0))]))]) (st1 := [.int (zI (0)), .int (zI (0)), .int (zI (v8))]) rfl rfl ?_
  refine vv_iconst (v := zI (1)) C dX13_isTerm_9 rfl ?_
  refine vv_isub (z := zI (-1)) C dX13_isTerm_10 (by rw [zI_sub]; exact zI_c (by omega)) ?_
  refine vv_callS (As := [.int (zI (v8)), .int (zI (0)), .int (zI (-1))]) (rest := []) (wr := [(q1, .inr (12, [.int (zI (0)), .ref q2, .ref q3, .ref q4, .ref q5, .ref q6, .ref q7, .long (0 : Int64)])), (q2, .inr (13, [.int (zI (0)), .ref (G.2.2 0), .int (zI (0))]))]) (ws2 := fun u => [(q1, .inr (12, [.int (zI (0)), .ref q2, .ref q3, .ref q4, .ref q5, .ref q6, .ref q7, .long (0 : Int64)])), (q2, .inr (13, [.int (zI (0)), .ref (G.2.2 0), .int (zI (0))]))]) (isC := []) (isR := [0, 1]) (isP := [0, 1]) C (vv_cutI rfl rfl rfl rfl (by decide) (fun _ => rfl) rfl) (k306_X13_is l hf G  (v8) rv2 (by omega)) yy_X13_is (vv_rmI rfl rfl (Nat.le_of_ble_eq_true rfl) (Nat.le_of_ble_eq_true rfl) (Nat.le_of_ble_eq_true rfl) (Nat.le_of_ble_eq_true rfl)) wm1160 wm1161 rfl rfl (Nat.le_of_ble_eq_true rfl) dX13_isTerm_11 (fun v u hp => ?_)
  obtain rfl := hp
  refine vv_nrm (ws1 := [(q1, .inr (12, [.int (zI (0)), .ref q2, .ref q3, .ref q4, .ref q5, .ref q6, .ref q7, .long (0 : Int64)])), (q2, .inr (13, [.int (zI (0)), .ref (G.2.2 0), .int (zI (0))]))]) (st1 := [.int (zI (0))]) rfl rfl ?_
  exact vv_zret C (by decide) (()) rfl [0, 1] rfl rfl ⟨Nat.le_of_ble_eq_true rfl, Nat.le_of_ble_eq_true rfl⟩ dX13_isTerm_14
set_option maxHeartbeats 4000000 in
set_option maxRecDepth 100000 in
theorem k308_X13_formula (l : Launch) (hf : l.stackTraces = false) (G : vv_G) (q1 q2 q3 q4 q5 q6 q7 : Nat) (v8 : Int) (rv2 : -2147483648 ≤ v8 ∧ v8 < 2147483648) (v9 : Int) (rv3 : -2147483648 ≤ v9 ∧ v9 < 2147483648) (g0 : v8 ≤ -1) : ∀ sz, Met l yX13_formula (Cond.code yX13_formula cX13_formula 8 (some .int) :: gT) ({ frames := 2, cells := 0, slots := 0, locals := 43 } : Room) (va_Pc [.ref q1, .int (zI (1)), .int (zI (v8)), .int (zI (v9))] (vv_I G [(q1, .inr (12, [.int (zI (0)), .ref q2, .ref q3, .ref q4, .ref q5, .ref q6, .ref q7, .long (0 : Int64)])), (q2, .inr (13, [.int (zI (0)), .ref (G.2.2 0), .int (zI (0))]))] sz)) (vv_Q G (fun v (u : Unit) => v = some (.int (zI (0)))) (fun u => [(q1, .inr (12, [.int (zI (1)), .ref q2, .ref q3, .ref q4, .ref q5, .ref q6, .ref q7, .long (0 : Int64)])), (q2, .inr (13, [.int (zI (0)), .ref (G.2.2 0), .int (zI (0))]))]) (va_A [(q1, .inr (12, [.int (zI (0)), .ref q2, .ref q3, .ref q4, .ref q5, .ref q6, .ref q7, .long (0 : Int64)])), (q2, .inr (13, [.int (zI (0)), .ref (G.2.2 0), .int (zI (0))]))] sz)) 0 0 (va_A [(q1, .inr (12, [.int (zI (0)), .ref q2, .ref q3, .ref q4, .ref q5, .ref q6, .ref q7, .long (0 : Int64)])), (q2, .inr (13, [.int (zI (0)), .ref (G.2.2 0), .int (zI (0))]))] sz) := by
  refine vv_start hf (by decide) (Nat.le_of_ble_eq_true rfl) ?_
  intro p e s m below meth c A C hnm
  refine vv_aload_n C 0 dX13_formula_0 rfl rfl ?_
  refine vv_iconst (v := zI (0)) C dX13_formula_1 rfl ?_
  refine vv_put (ws1 := [(q1, .inr (12, [.int (zI (0)), .ref q2, .ref q3, .ref q4, .ref q5, .ref q6, .ref q7, .long (0 : Int64)])), (q2, .inr (13, [.int (zI (0)), .ref (G.2.2 0), .int (zI (0))]))]) C 0 rfl rfl vi_X13 tyX13_ok nmX13 0 (by decide) wm1127 rfl rfl rfl (Nat.le_of_ble_eq_true rfl) rfl dX13_formula_2 ?_
  refine vv_iload_n C 1 dX13_formula_5 rfl rfl ?_
  refine vv_iconst (v := zI (1)) C dX13_formula_6 rfl ?_
  refine vv_icmp_ne (tgt := 32) C dX13_formula_7 (by decide) (by omega) (by omega) (fun h => by exfalso; omega) (fun h => ?_)
  refine vv_aload_n C 0 dX13_formula_10 rfl rfl ?_
  refine vv_iload_n C 2 dX13_formula_11 rfl rfl ?_
  refine vv_callV (As := [.int (zI (v8))]) (rest := []) (wr := []) (ws2 := fun u => [(q1, .inr (12, [.int (zI (0)), .ref q2, .ref q3, .ref q4, .ref q5, .ref q6, .ref q7, .long (0 : Int64)])), (q2, .inr (13, [.int (zI (0)), .ref (G.2.2 0), .int (zI (0))]))]) (isC := [0, 1]) (isR := []) (isP := [0, 1]) C (vv_cutI rfl rfl rfl rfl (by decide) (fun _ => rfl) rfl) (k307_X13_isTerm l hf G q1 q2 q3 q4 q5 q6 q7 (v8) rv2 (by omega)) yy_X13_isTerm (vv_rmI rfl rfl (Nat.le_of_ble_eq_true rfl) (Nat.le_of_ble_eq_true rfl) (Nat.le_of_ble_eq_true rfl) (Nat.le_of_ble_eq_true rfl)) wm1370 wm1372 ws_selects_LatticeworkModel_LatticeworkModel_isTerm__I_Z_LatticeworkModel_isTerm__I_Z 0 rfl rfl rfl rfl (Nat.le_of_ble_eq_true rfl) dX13_formula_12 (fun v u hp => ?_)
  obtain rfl := hp
  refine vv_nrm (ws1 := [(q1, .inr (12, [.int (zI (0)), .ref q2, .ref q3, .ref q4, .ref q5, .ref q6, .ref q7, .long (0 : Int64)])), (q2, .inr (13, [.int (zI (0)), .ref (G.2.2 0), .int (zI (0))]))]) (st1 := [.int (zI (0))]) rfl rfl ?_
  refine vv_if_eq (tgt := 26) C dX13_formula_15 (by decide) (by omega) (fun h => ?_) (fun h => by exfalso; omega)
  refine vv_aload_n C 0 dX13_formula_26 rfl rfl ?_
  refine vv_iconst (v := zI (1)) C dX13_formula_27 rfl ?_
  refine vv_callV (As := [.int (zI (1))]) (rest := []) (wr := [(q2, .inr (13, [.int (zI (0)), .ref (G.2.2 0), .int (zI (0))]))]) (ws2 := fun u => [(q1, .inr (12, [.int (zI (1)), .ref q2, .ref q3, .ref q4, .ref q5, .ref q6, .ref q7, .long (0 : Int64)])), (q2, .inr (13, [.int (zI (0)), .ref (G.2.2 0), .int (zI (0))]))]) (isC := [0]) (isR := [1]) (isP := [1, 0]) C (vv_cutI rfl rfl rfl rfl (by decide) (fun _ => rfl) rfl) (k20_X13_refuse l hf G q1 q2 q3 q4 q5 q6 q7) yy_X13_refuse (vv_rmI rfl rfl (Nat.le_of_ble_eq_true rfl) (Nat.le_of_ble_eq_true rfl) (Nat.le_of_ble_eq_true rfl) (Nat.le_of_ble_eq_true rfl)) wm1163 wm1165 ws_selects_LatticeworkModel_LatticeworkModel_refuse__I_I_LatticeworkModel_refuse__I_I 0 rfl rfl rfl rfl (Nat.le_of_ble_eq_true rfl) dX13_formula_28 (fun v u hp => ?_)
  obtain rfl := hp
  refine vv_nrm (ws1 := [(q1, .inr (12, [.int (zI (1)), .ref q2, .ref q3, .ref q4, .ref q5, .ref q6, .ref q7, .long (0 : Int64)])), (q2, .inr (13, [.int (zI (0)), .ref (G.2.2 0), .int (zI (0))]))]) (st1 := [.int (zI (0))]) rfl rfl ?_
  exact vv_iret C (()) rfl [0, 1] rfl rfl ⟨Nat.le_of_ble_eq_true rfl, Nat.le_of_ble_eq_true rfl⟩ dX13_formula_31
set_option maxHeartbeats 4000000 in
set_option maxRecDepth 100000 in
theorem k309_X10_needFormula (l : Launch) (hf : l.stackTraces = false) (G : vv_G) (q1 q2 q3 q4 q5 q6 q7 q8 q9 q10 : Nat) (v11 : Int) (rv2 : -2147483648 ≤ v11 ∧ v11 < 2147483648) (g0 : v11 ≤ -1) : ∀ sz, vx_Met l yX10_needFormula (Cond.code yX10_needFormula cX10_needFormula 2 none :: gT) ({ frames := 6, cells := 1, slots := 6, locals := 90 } : Room) (va_Pc [.ref q1, .int (zI (v11))] (vv_I G [(q1, .inr (9, [.ref q2, .ref q3, .ref q4, .ref q5, .ref q6, .ref q7, .ref q8, .ref q9, .ref q10]))] sz)) (vv_Q G (fun v (u : Unit) => False) (fun u => []) (va_A [(q1, .inr (9, [.ref q2, .ref q3, .ref q4, .ref q5, .ref q6, .ref q7, .ref q8, .ref q9, .ref q10]))] sz)) (vv_XC G (fun E (u : Unit) => E = "java/lang/IndexOutOfBoundsException") (fun u => [(q1, .inr (9, [.ref q2, .ref q3, .ref q4, .ref q5, .ref q6, .ref q7, .ref q8, .ref q9, .ref q10]))]) (va_A [(q1, .inr (9, [.ref q2, .ref q3, .ref q4, .ref q5, .ref q6, .ref q7, .ref q8, .ref q9, .ref q10]))] sz)) 1 6 (va_A [(q1, .inr (9, [.ref q2, .ref q3, .ref q4, .ref q5, .ref q6, .ref q7, .ref q8, .ref q9, .ref q10]))] sz) := by
  refine vv_startX hf (by decide) (Nat.le_of_ble_eq_true rfl) ?_
  intro p e s m below meth c A C hnm htab
  refine vv_iload_n C 1 dX10_needFormula_0 rfl rfl ?_
  refine vv_if_lt (tgt := 15) C dX10_needFormula_1 (by decide) (by omega) (fun h => ?_) (fun h => by exfalso; omega)
  exact vv_throwW C tw_X10_125_292 htab dX10_needFormula_15 dX10_needFormula_18 dX10_needFormula_19 dX10_needFormula_22 dX10_needFormula_25 ⟨Nat.le_of_ble_eq_true rfl, Nat.le_of_ble_eq_true rfl, Nat.le_of_ble_eq_true rfl, Nat.le_of_ble_eq_true rfl, Nat.le_of_ble_eq_true rfl, Nat.le_of_ble_eq_true rfl⟩ () rfl [0] rfl rfl
set_option maxHeartbeats 4000000 in
set_option maxRecDepth 100000 in
theorem k310_X10_needParts (l : Launch) (hf : l.stackTraces = false) (G : vv_G) (q1 q2 q3 q4 q5 q6 q7 q8 q9 q10 : Nat) (v11 : Int) (rv2 : -2147483648 ≤ v11 ∧ v11 < 2147483648) (v12 : Int) (rv3 : -2147483648 ≤ v12 ∧ v12 < 2147483648) (g0 : v11 ≤ -1) : ∀ sz, vx_Met l yX10_needParts (Cond.code yX10_needParts cX10_needParts 4 none :: gT) ({ frames := 7, cells := 1, slots := 6, locals := 111 } : Room) (va_Pc [.ref q1, .int (zI (2)), .int (zI (v11)), .int (zI (v12))] (vv_I G [(q1, .inr (9, [.ref q2, .ref q3, .ref q4, .ref q5, .ref q6, .ref q7, .ref q8, .ref q9, .ref q10]))] sz)) (vv_Q G (fun v (u : Unit) => False) (fun u => []) (va_A [(q1, .inr (9, [.ref q2, .ref q3, .ref q4, .ref q5, .ref q6, .ref q7, .ref q8, .ref q9, .ref q10]))] sz)) (vv_XC G (fun E (u : Unit) => E = "java/lang/IndexOutOfBoundsException") (fun u => [(q1, .inr (9, [.ref q2, .ref q3, .ref q4, .ref q5, .ref q6, .ref q7, .ref q8, .ref q9, .ref q10]))]) (va_A [(q1, .inr (9, [.ref q2, .ref q3, .ref q4, .ref q5, .ref q6, .ref q7, .ref q8, .ref q9, .ref q10]))] sz)) 1 6 (va_A [(q1, .inr (9, [.ref q2, .ref q3, .ref q4, .ref q5, .ref q6, .ref q7, .ref q8, .ref q9, .ref q10]))] sz) := by
  refine vv_startX hf (by decide) (Nat.le_of_ble_eq_true rfl) ?_
  intro p e s m below meth c A C hnm htab
  refine vv_iload_n C 1 dX10_needParts_0 rfl rfl ?_
  refine vv_iconst (v := zI (1)) C dX10_needParts_1 rfl ?_
  refine vv_icmp_ne (tgt := 15) C dX10_needParts_2 (by decide) (by omega) (by omega) (fun h => ?_) (fun h => by exfalso; omega)
  refine vv_iload_n C 1 dX10_needParts_15 rfl rfl ?_
  refine vv_iconst (v := zI (2)) C dX10_needParts_16 rfl ?_
  refine vv_icmp_lt (tgt := 30) C dX10_needParts_17 (by decide) (by omega) (by omega) (fun h => by exfalso; omega) (fun h => ?_)
  refine vv_iload_n C 1 dX10_needParts_20 rfl rfl ?_
  refine vv_iconst (v := zI (5)) C dX10_needParts_21 rfl ?_
  refine vv_icmp_gt (tgt := 30) C dX10_needParts_22 (by decide) (by omega) (by omega) (fun h => by exfalso; omega) (fun h => ?_)
  refine vv_aload_n C 0 dX10_needParts_25 rfl rfl ?_
  refine vv_iload_n C 2 dX10_needParts_26 rfl rfl ?_
  refine vv_callVx (As := [.int (zI (v11))]) (rest := []) (wr := []) (ws3 := fun u => [(q1, .inr (9, [.ref q2, .ref q3, .ref q4, .ref q5, .ref q6, .ref q7, .ref q8, .ref q9, .ref q10]))]) (isC := [0]) (isR := []) (isX := [0]) (ws2 := fun _ => []) (isP := []) C (vv_cutI rfl rfl rfl rfl (by decide) (fun _ => rfl) rfl) (vv_cutI rfl rfl rfl rfl (by decide) (fun _ => rfl) rfl) (k309_X10_needFormula l hf G q1 q2 q3 q4 q5 q6 q7 q8 q9 q10 (v11) rv2 (by omega)) yy_X10_needFormula (vv_rmI rfl rfl (Nat.le_of_ble_eq_true rfl) (Nat.le_of_ble_eq_true rfl) (Nat.le_of_ble_eq_true rfl) (Nat.le_of_ble_eq_true rfl)) wm964 wm966 ws_selects_Latticework_Latticework_needFormula__I_V_Latticework_needFormula__I_V 0 rfl rfl rfl rfl (Nat.le_of_ble_eq_true rfl) dX10_needParts_27 (fun E9 u hp => ?_) (fun v u hp => hp.elim)
  obtain rfl := hp
  exact vv_out C htab ⟨Nat.le_of_ble_eq_true rfl, Nat.le_of_ble_eq_true rfl⟩ () rfl [0] rfl rfl
set_option maxHeartbeats 4000000 in
set_option maxRecDepth 100000 in
theorem k311_X10_formula (l : Launch) (hf : l.stackTraces = false) (G : vv_G) (q1 q2 q3 q4 q5 q6 q7 q8 q9 q10 : Nat) (v11 : Int) (rv2 : -2147483648 ≤ v11 ∧ v11 < 2147483648) (v12 : Int) (rv3 : -2147483648 ≤ v12 ∧ v12 < 2147483648) (g0 : v11 ≤ -1) : ∀ sz, vx_Met l yX10_formula (Cond.code yX10_formula cX10_formula 5 (some .int) :: gT) ({ frames := 8, cells := 1, slots := 6, locals := 134 } : Room) (va_Pc [.ref q1, .int (zI (2)), .int (zI (v11)), .int (zI (v12))] (vv_I G [(q1, .inr (9, [.ref q2, .ref q3, .ref q4, .ref q5, .ref q6, .ref q7, .ref q8, .ref q9, .ref q10]))] sz)) (vv_Q G (fun v (u : Unit) => False) (fun u => []) (va_A [(q1, .inr (9, [.ref q2, .ref q3, .ref q4, .ref q5, .ref q6, .ref q7, .ref q8, .ref q9, .ref q10]))] sz)) (vv_XC G (fun E (u : Unit) => E = "java/lang/IndexOutOfBoundsException") (fun u => [(q1, .inr (9, [.ref q2, .ref q3, .ref q4, .ref q5, .ref q6, .ref q7, .ref q8, .ref q9, .ref q10]))]) (va_A [(q1, .inr (9, [.ref q2, .ref q3, .ref q4, .ref q5, .ref q6, .ref q7, .ref q8, .ref q9, .ref q10]))] sz)) 1 6 (va_A [(q1, .inr (9, [.ref q2, .ref q3, .ref q4, .ref q5, .ref q6, .ref q7, .ref q8, .ref q9, .ref q10]))] sz) := by
  refine vv_startX hf (by decide) (Nat.le_of_ble_eq_true rfl) ?_
  intro p e s m below meth c A C hnm htab
  refine vv_aload_n C 0 dX10_formula_0 rfl rfl ?_
  refine vv_iload_n C 1 dX10_formula_1 rfl rfl ?_
  refine vv_iload_n C 2 dX10_formula_2 rfl rfl ?_
  refine vv_iload_n C 3 dX10_formula_3 rfl rfl ?_
  refine vv_callVx (As := [.int (zI (2)), .int (zI (v11)), .int (zI (v12))]) (rest := []) (wr := []) (ws3 := fun u => [(q1, .inr (9, [.ref q2, .ref q3, .ref q4, .ref q5, .ref q6, .ref q7, .ref q8, .ref q9, .ref q10]))]) (isC := [0]) (isR := []) (isX := [0]) (ws2 := fun _ => []) (isP := []) C (vv_cutI rfl rfl rfl rfl (by decide) (fun _ => rfl) rfl) (vv_cutI rfl rfl rfl rfl (by decide) (fun _ => rfl) rfl) (k310_X10_needParts l hf G q1 q2 q3 q4 q5 q6 q7 q8 q9 q10 (v11) rv2 (v12) rv3 (by omega)) yy_X10_needParts (vv_rmI rfl rfl (Nat.le_of_ble_eq_true rfl) (Nat.le_of_ble_eq_true rfl) (Nat.le_of_ble_eq_true rfl) (Nat.le_of_ble_eq_true rfl)) wm960 wm962 ws_selects_Latticework_Latticework_needParts__III_V_Latticework_needParts__III_V 0 rfl rfl rfl rfl (Nat.le_of_ble_eq_true rfl) dX10_formula_4 (fun E9 u hp => ?_) (fun v u hp => hp.elim)
  obtain rfl := hp
  exact vv_out C htab ⟨Nat.le_of_ble_eq_true rfl, Nat.le_of_ble_eq_true rfl⟩ () rfl [0] rfl rfl
set_option maxHeartbeats 4000000 in
set_option maxRecDepth 100000 in
theorem k312_L_formula (l : Launch) (hf : l.stackTraces = false) (G : vv_G) (q1 q2 q3 q4 q5 q6 q7 q8 q9 q10 q11 : Nat) (v12 : Int) (rv2 : -2147483648 ≤ v12 ∧ v12 < 2147483648) (v13 : Int) (rv3 : -2147483648 ≤ v13 ∧ v13 < 2147483648) (g0 : v12 ≤ -1) : ∀ sz, Met l yL_formula (Cond.codeWith yL_formula cL_formula 6 (some .int) [(0, 12, 15, 21), (0, 12, 19, 13), (0, 12, 23, 15)] :: gT) ({ frames := 9, cells := 1, slots := 6, locals := 158 } : Room) (va_Pc [.ref q1, .int (zI (2)), .int (zI (v12)), .int (zI (v13)), .ref q11] (vv_I G [(q1, .inr (9, [.ref q2, .ref q3, .ref q4, .ref q5, .ref q6, .ref q7, .ref q8, .ref q9, .ref q10]))] sz)) (vv_Q G (fun v (u : Unit) => v = some (.int (zI (1)))) (fun u => [(q1, .inr (9, [.ref q2, .ref q3, .ref q4, .ref q5, .ref q6, .ref q7, .ref q8, .ref q9, .ref q10]))]) (va_A [(q1, .inr (9, [.ref q2, .ref q3, .ref q4, .ref q5, .ref q6, .ref q7, .ref q8, .ref q9, .ref q10]))] sz)) 1 6 (va_A [(q1, .inr (9, [.ref q2, .ref q3, .ref q4, .ref q5, .ref q6, .ref q7, .ref q8, .ref q9, .ref q10]))] sz) := by
  refine vv_startW hf (by decide) (Nat.le_of_ble_eq_true rfl) ?_
  intro p e s m below meth c A C hnm htab
  refine vv_aload C 4 dL_formula_0 rfl ?_
  refine vv_iconst (v := zI (0)) C dL_formula_2 rfl ?_
  refine vv_aload_n C 0 dL_formula_3 rfl rfl ?_
  refine vv_iload_n C 1 dL_formula_4 rfl rfl ?_
  refine vv_iload_n C 2 dL_formula_5 rfl rfl ?_
  refine vv_iload_n C 3 dL_formula_6 rfl rfl ?_
  refine vv_callVx (As := [.int (zI (2)), .int (zI (v12)), .int (zI (v13))]) (rest := [.int (zI (0)), .ref q11]) (wr := []) (ws3 := fun u => [(q1, .inr (9, [.ref q2, .ref q3, .ref q4, .ref q5, .ref q6, .ref q7, .ref q8, .ref q9, .ref q10]))]) (isC := [0]) (isR := []) (isX := [0]) (ws2 := fun _ => []) (isP := []) C (vv_cutI rfl rfl rfl rfl (by decide) (fun _ => rfl) rfl) (vv_cutI rfl rfl rfl rfl (by decide) (fun _ => rfl) rfl) (k311_X10_formula l hf G q1 q2 q3 q4 q5 q6 q7 q8 q9 q10 (v12) rv2 (v13) rv3 (by omega)) yy_X10_formula (vv_rmI rfl rfl (Nat.le_of_ble_eq_true rfl) (Nat.le_of_ble_eq_true rfl) (Nat.le_of_ble_eq_true rfl) (Nat.le_of_ble_eq_true rfl)) wm956 wm957 wm958 0 rfl rfl rfl rfl (Nat.le_of_ble_eq_true rfl) dL_formula_7 (fun E9 u hp => ?_) (fun v u hp => hp.elim)
  obtain rfl := hp
  refine vv_catch C htab [] ⟨0, 12, 15, 21⟩ [⟨0, 12, 19, 13⟩, ⟨0, 12, 23, 15⟩] rfl (fun z hz => nomatch hz) rfl (by decide) wm645 (by decide +kernel) (fun qe89 => ?_)
  refine vv_astore (loc1 := [(5, .ref qe89), (0, .ref q1), (1, .int (zI (2))), (2, .int (zI (v12))), (3, .int (zI (v13))), (4, .ref q11)]) C dL_formula_15 (by decide) rfl ?_
  refine vv_iconst (v := zI (1)) C dL_formula_17 rfl ?_
  exact vv_iret C (()) rfl [0] rfl rfl ⟨Nat.le_of_ble_eq_true rfl, Nat.le_of_ble_eq_true rfl⟩ dL_formula_18
set_option maxHeartbeats 4000000 in
set_option maxRecDepth 100000 in
theorem k313_X13_is (l : Launch) (hf : l.stackTraces = false) (G : vv_G)  : ∀ sz, Met l yX13_is (Cond.code yX13_is cX13_is 3 (some .boolean) :: gT) ({ frames := 0, cells := 0, slots := 0, locals := 0 } : Room) (va_Pc [.int (zI (2)), .int (zI (2)), .int (zI (5))] (vv_I G [] sz)) (vv_Q G (fun v (u : Unit) => v = some (.int (zI (1)))) (fun u => []) (va_A [] sz)) 0 0 (va_A [] sz) := by
  refine vv_start hf (by decide) (Nat.le_of_ble_eq_true rfl) ?_
  intro p e s m below meth c A C hnm
  refine vv_iload_n C 0 dX13_is_0 rfl rfl ?_
  refine vv_iload_n C 1 dX13_is_1 rfl rfl ?_
  refine vv_icmp_lt (tgt := 14) C dX13_is_2 (by decide) (by omega) (by omega) (fun h => by exfalso; omega) (fun h => ?_)
  refine vv_iload_n C 0 dX13_is_5 rfl rfl ?_
  refine vv_iload_n C 2 dX13_is_6 rfl rfl ?_
  refine vv_icmp_gt (tgt := 14) C dX13_is_7 (by decide) (by omega) (by omega) (fun h => by exfalso; omega) (fun h => ?_)
  refine vv_iconst (v := zI (1)) C dX13_is_10 rfl ?_
  refine vv_goto C 15 dX13_is_11 (by decide) ?_
  exact vv_zret C (by decide) (()) rfl [] rfl rfl ⟨Nat.le_of_ble_eq_true rfl, Nat.le_of_ble_eq_true rfl⟩ dX13_is_15
set_option maxHeartbeats 4000000 in
set_option maxRecDepth 100000 in
theorem k314_X13_isFormula (l : Launch) (hf : l.stackTraces = false) (G : vv_G) (q1 q2 q3 q4 q5 q6 q7 : Nat) (v8 : Int) (rv2 : -2147483648 ≤ v8 ∧ v8 < 2147483648) (g0 : v8 ≤ -1) : ∀ sz, Met l yX13_isFormula (Cond.code yX13_isFormula cX13_isFormula 2 (some .boolean) :: gT) ({ frames := 1, cells := 0, slots := 0, locals := 22 } : Room) (va_Pc [.ref q1, .int (zI (v8))] (vv_I G [(q1, .inr (12, [.int (zI (0)), .ref q2, .ref q3, .ref q4, .ref q5, .ref q6, .ref q7, .long (0 : Int64)])), (q3, .inr (13, [.int (zI (0)), .ref (G.2.2 0), .int (zI (0))]))] sz)) (vv_Q G (fun v (u : Unit) => v = some (.int (zI (0)))) (fun u => [(q1, .inr (12, [.int (zI (0)), .ref q2, .ref q3, .ref q4, .ref q5, .ref q6, .ref q7, .long (0 : Int64)])), (q3, .inr (13, [.int (zI (0)), .ref (G.2.2 0), .int (zI (0))]))]) (va_A [(q1, .inr (12, [.int (zI (0)), .ref q2, .ref q3, .ref q4, .ref q5, .ref q6, .ref q7, .long (0 : Int64)])), (q3, .inr (13, [.int (zI (0)), .ref (G.2.2 0), .int (zI (0))]))] sz)) 0 0 (va_A [(q1, .inr (12, [.int (zI (0)), .ref q2, .ref q3, .ref q4, .ref q5, .ref q6, .ref q7, .long (0 : Int64)])), (q3, .inr (13, [.int (zI (0)), .ref (G.2.2 0), .int (zI (0))]))] sz) := by
  refine vv_start hf (by decide) (Nat.le_of_ble_eq_true rfl) ?_
  intro p e s m below meth c A C hnm
  refine vv_iload_n C 1 dX13_isFormula_0 rfl rfl ?_
  refine vv_iconst (v := zI (0)) C dX13_isFormula_1 rfl ?_
  refine vv_aload_n C 0 dX13_isFormula_2 rfl rfl ?_
  refine vv_get C 0 rfl rfl vi_X13 2 (by decide) wm1129 rfl dX13_isFormula_3 ?_
  refine vv_callV (As := []) (rest := [.int (zI (0)), .int (zI (v8))]) (wr := [(q1, .inr (12, [.int (zI (0)), .ref q2, .ref q3, .ref q4, .ref q5, .ref q6, .ref q7, .long (0 : Int64)]))]) (ws2 := fun u => [(q1, .inr (12, [.int (zI (0)), .ref q2, .ref q3, .ref q4, .ref q5, .ref q6, .ref q7, .long (0 : Int64)])), (q3, .inr (13, [.int (zI (0)), .ref (G.2.2 0), .int (zI (0))]))]) (isC := [1]) (isR := [0]) (isP := [0, 1]) C (vv_cutI rfl rfl rfl rfl (by decide) (fun _ => rfl) rfl) (k29_Jx4a65c_size_8abf5 l hf G q3) yy_Jx4a65c_size_8abf5 (vv_rmI rfl rfl (Nat.le_of_ble_eq_true rfl) (Nat.le_of_ble_eq_true rfl) (Nat.le_of_ble_eq_true rfl) (Nat.le_of_ble_eq_true rfl)) wm1175 wm1176 wm1177 0 rfl rfl rfl rfl (Nat.le_of_ble_eq_true rfl) dX13_isFormula_6 (fun v u hp => ?_)
  obtain rfl := hp
  refine vv_nrm (ws1 := [(q1, .inr (12, [.int (zI (0)), .ref q2, .ref q3, .ref q4, .ref q5, .ref q6, .ref q7, .long (0 : Int64)])), (q3, .inr (13, [.int (zI (0)), .ref (G.2.2 0), .int (zI (0))]))]) (st1 := [.int (zI (0)), .int (zI (0)), .int (zI (v8))]) rfl rfl ?_
  refine vv_iconst (v := zI (1)) C dX13_isFormula_9 rfl ?_
  refine vv_isub (z := zI (-1)) C dX13_isFormula_10 (by rw [zI_sub]; exact zI_c (by omega)) ?_
  refine vv_callS (As := [.int (zI (v8)), .int (zI (0)), .int (zI (-1))]) (rest := []) (wr := [(q1, .inr (12, [.int (zI (0)), .ref q2, .ref q3, .ref q4, .ref q5, .ref q6, .ref q7, .long (0 : Int64)])), (q3, .inr (13, [.int (zI (0)), .ref (G.2.2 0), .int (zI (0))]))]) (ws2 := fun u => [(q1, .inr (12, [.int (zI (0)), .ref q2, .ref q3, .ref q4, .ref q5, .ref q6, .ref q7, .long (0 : Int64)])), (q3, .inr (13, [.int (zI (0)), .ref (G.2.2 0), .int (zI (0))]))]) (isC := []) (isR := [0, 1]) (isP := [0, 1]) C (vv_cutI rfl rfl rfl rfl (by decide) (fun _ => rfl) rfl) (k306_X13_is l hf G  (v8) rv2 (by omega)) yy_X13_is (vv_rmI rfl rfl (Nat.le_of_ble_eq_true rfl) (Nat.le_of_ble_eq_true rfl) (Nat.le_of_ble_eq_true rfl) (Nat.le_of_ble_eq_true rfl)) wm1160 wm1161 rfl rfl (Nat.le_of_ble_eq_true rfl) dX13_isFormula_11 (fun v u hp => ?_)
  obtain rfl := hp
  refine vv_nrm (ws1 := [(q1, .inr (12, [.int (zI (0)), .ref q2, .ref q3, .ref q4, .ref q5, .ref q6, .ref q7, .long (0 : Int64)])), (q3, .inr (13, [.int (zI (0)), .ref (G.2.2 0), .int (zI (0))]))]) (st1 := [.int (zI (0))]) rfl rfl ?_
  exact vv_zret C (by decide) (()) rfl [0, 1] rfl rfl ⟨Nat.le_of_ble_eq_true rfl, Nat.le_of_ble_eq_true rfl⟩ dX13_isFormula_14
