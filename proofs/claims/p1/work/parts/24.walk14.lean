set_option maxHeartbeats 4000000 in
set_option maxRecDepth 100000 in
theorem k417_X10_rulesAfter (l : Launch) (hf : l.stackTraces = false) (G : vv_G) (q1 q2 q3 q4 q5 q6 q7 q8 q9 q10 : Nat) (v11 : Int) (rv1 : -2147483648 ≤ v11 ∧ v11 < 2147483648) (g0 : 4 ≤ v11) : ∀ sz, vx_Met l yX10_rulesAfter (Cond.code yX10_rulesAfter cX10_rulesAfter 2 (some .int) :: gT) ({ frames := 7, cells := 1, slots := 6, locals := 111 } : Room) (va_Pc [.ref q1, .int (zI (v11))] (vv_I G [(q1, .inr (9, [.ref q2, .ref q3, .ref q4, .ref q5, .ref q6, .ref q7, .ref q8, .ref q9, .ref q10]))] sz)) (vv_Q G (fun v (u : Unit) => False) (fun u => []) (va_A [(q1, .inr (9, [.ref q2, .ref q3, .ref q4, .ref q5, .ref q6, .ref q7, .ref q8, .ref q9, .ref q10]))] sz)) (vv_XC G (fun E (u : Unit) => E = "java/lang/IllegalArgumentException") (fun u => [(q1, .inr (9, [.ref q2, .ref q3, .ref q4, .ref q5, .ref q6, .ref q7, .ref q8, .ref q9, .ref q10]))]) (va_A [(q1, .inr (9, [.ref q2, .ref q3, .ref q4, .ref q5, .ref q6, .ref q7, .ref q8, .ref q9, .ref q10]))] sz)) 1 6 (va_A [(q1, .inr (9, [.ref q2, .ref q3, .ref q4, .ref q5, .ref q6, .ref q7, .ref q8, .ref q9, .ref q10]))] sz) := by
  refine vv_startX hf (by decide) (Nat.le_of_ble_eq_true rfl) ?_
  intro p e s m below meth c A C hnm htab
  refine vv_aload_n C 0 dX10_rulesAfter_0 rfl rfl ?_
  refine vv_iload_n C 1 dX10_rulesAfter_1 rfl rfl ?_
  refine vv_callVx (As := [.int (zI (v11))]) (rest := []) (wr := []) (ws3 := fun u => [(q1, .inr (9, [.ref q2, .ref q3, .ref q4, .ref q5, .ref q6, .ref q7, .ref q8, .ref q9, .ref q10]))]) (isC := [0]) (isR := []) (isX := [0]) (ws2 := fun _ => []) (isP := []) C (vv_cutI rfl rfl rfl rfl (by decide) (fun _ => rfl) rfl) (vv_cutI rfl rfl rfl rfl (by decide) (fun _ => rfl) rfl) (k182_X10_needStepCount l hf G q1 q2 q3 q4 q5 q6 q7 q8 q9 q10 (v11) rv1 (by omega)) yy_X10_needStepCount (vv_rmI rfl rfl (Nat.le_of_ble_eq_true rfl) (Nat.le_of_ble_eq_true rfl) (Nat.le_of_ble_eq_true rfl) (Nat.le_of_ble_eq_true rfl)) wm800 wm802 ws_selects_Latticework_Latticework_needStepCount__I_V_Latticework_needStepCount__I_V 0 rfl rfl rfl rfl (Nat.le_of_ble_eq_true rfl) dX10_rulesAfter_2 (fun E9 u hp => ?_) (fun v u hp => hp.elim)
  obtain rfl := hp
  exact vv_out C htab ⟨Nat.le_of_ble_eq_true rfl, Nat.le_of_ble_eq_true rfl⟩ () rfl [0] rfl rfl
set_option maxHeartbeats 4000000 in
set_option maxRecDepth 100000 in
theorem k418_L_rulesAfter (l : Launch) (hf : l.stackTraces = false) (G : vv_G) (q1 q2 q3 q4 q5 q6 q7 q8 q9 q10 q11 : Nat) (v12 : Int) (rv1 : -2147483648 ≤ v12 ∧ v12 < 2147483648) (g0 : 4 ≤ v12) : ∀ sz, Met l yL_rulesAfter (Cond.codeWith yL_rulesAfter cL_rulesAfter 4 (some .int) [(0, 9, 12, 13)] :: gT) ({ frames := 8, cells := 1, slots := 6, locals := 132 } : Room) (va_Pc [.ref q1, .int (zI (v12)), .ref q11] (vv_I G [(q1, .inr (9, [.ref q2, .ref q3, .ref q4, .ref q5, .ref q6, .ref q7, .ref q8, .ref q9, .ref q10]))] sz)) (vv_Q G (fun v (u : Unit) => v = some (.int (zI (1)))) (fun u => [(q1, .inr (9, [.ref q2, .ref q3, .ref q4, .ref q5, .ref q6, .ref q7, .ref q8, .ref q9, .ref q10]))]) (va_A [(q1, .inr (9, [.ref q2, .ref q3, .ref q4, .ref q5, .ref q6, .ref q7, .ref q8, .ref q9, .ref q10]))] sz)) 1 6 (va_A [(q1, .inr (9, [.ref q2, .ref q3, .ref q4, .ref q5, .ref q6, .ref q7, .ref q8, .ref q9, .ref q10]))] sz) := by
  refine vv_startW hf (by decide) (Nat.le_of_ble_eq_true rfl) ?_
  intro p e s m below meth c A C hnm htab
  refine vv_aload_n C 2 dL_rulesAfter_0 rfl rfl ?_
  refine vv_iconst (v := zI (0)) C dL_rulesAfter_1 rfl ?_
  refine vv_aload_n C 0 dL_rulesAfter_2 rfl rfl ?_
  refine vv_iload_n C 1 dL_rulesAfter_3 rfl rfl ?_
  refine vv_callVx (As := [.int (zI (v12))]) (rest := [.int (zI (0)), .ref q11]) (wr := []) (ws3 := fun u => [(q1, .inr (9, [.ref q2, .ref q3, .ref q4, .ref q5, .ref q6, .ref q7, .ref q8, .ref q9, .ref q10]))]) (isC := [0]) (isR := []) (isX := [0]) (ws2 := fun _ => []) (isP := []) C (vv_cutI rfl rfl rfl rfl (by decide) (fun _ => rfl) rfl) (vv_cutI rfl rfl rfl rfl (by decide) (fun _ => rfl) rfl) (k417_X10_rulesAfter l hf G q1 q2 q3 q4 q5 q6 q7 q8 q9 q10 (v12) rv1 (by omega)) yy_X10_rulesAfter (vv_rmI rfl rfl (Nat.le_of_ble_eq_true rfl) (Nat.le_of_ble_eq_true rfl) (Nat.le_of_ble_eq_true rfl) (Nat.le_of_ble_eq_true rfl)) wm1049 wm1050 wm1051 0 rfl rfl rfl rfl (Nat.le_of_ble_eq_true rfl) dL_rulesAfter_4 (fun E9 u hp => ?_) (fun v u hp => hp.elim)
  obtain rfl := hp
  refine vv_catch C htab [] ⟨0, 9, 12, 13⟩ [] rfl (fun z hz => nomatch hz) rfl (by decide) wm541 (by decide +kernel) (fun qe115 => ?_)
  refine vv_astore_n (loc1 := [(3, .ref qe115), (0, .ref q1), (1, .int (zI (v12))), (2, .ref q11)]) C dL_rulesAfter_12 rfl (by decide) rfl ?_
  refine vv_iconst (v := zI (1)) C dL_rulesAfter_13 rfl ?_
  exact vv_iret C (()) rfl [0] rfl rfl ⟨Nat.le_of_ble_eq_true rfl, Nat.le_of_ble_eq_true rfl⟩ dL_rulesAfter_14
set_option maxHeartbeats 4000000 in
set_option maxRecDepth 100000 in
theorem k419_X13_rulesAfter (l : Launch) (hf : l.stackTraces = false) (G : vv_G) (q1 q2 q3 q4 q5 q6 q7 : Nat) (v8 : Int) (rv1 : -2147483648 ≤ v8 ∧ v8 < 2147483648) (g0 : 4 ≤ v8) : ∀ sz, Met l yX13_rulesAfter (Cond.code yX13_rulesAfter cX13_rulesAfter 2 (some .int) :: gT) ({ frames := 1, cells := 0, slots := 0, locals := 22 } : Room) (va_Pc [.ref q1, .int (zI (v8))] (vv_I G [(q1, .inr (12, [.int (zI (0)), .ref q2, .ref q3, .ref q4, .ref q5, .ref q6, .ref q7, .long (0 : Int64)]))] sz)) (vv_Q G (fun v (u : Unit) => v = some (.int (zI (0)))) (fun u => [(q1, .inr (12, [.int (zI (1)), .ref q2, .ref q3, .ref q4, .ref q5, .ref q6, .ref q7, .long (0 : Int64)]))]) (va_A [(q1, .inr (12, [.int (zI (0)), .ref q2, .ref q3, .ref q4, .ref q5, .ref q6, .ref q7, .long (0 : Int64)]))] sz)) 0 0 (va_A [(q1, .inr (12, [.int (zI (0)), .ref q2, .ref q3, .ref q4, .ref q5, .ref q6, .ref q7, .long (0 : Int64)]))] sz) := by
  refine vv_start hf (by decide) (Nat.le_of_ble_eq_true rfl) ?_
  intro p e s m below meth c A C hnm
  refine vv_aload_n C 0 dX13_rulesAfter_0 rfl rfl ?_
  refine vv_iconst (v := zI (0)) C dX13_rulesAfter_1 rfl ?_
  refine vv_put (ws1 := [(q1, .inr (12, [.int (zI (0)), .ref q2, .ref q3, .ref q4, .ref q5, .ref q6, .ref q7, .long (0 : Int64)]))]) C 0 rfl rfl vi_X13 tyX13_ok nmX13 0 (by decide) wm1127 rfl rfl rfl (Nat.le_of_ble_eq_true rfl) rfl dX13_rulesAfter_2 ?_
  refine vv_iload_n C 1 dX13_rulesAfter_5 rfl rfl ?_
  refine vv_iconst (v := zI (1)) C dX13_rulesAfter_6 rfl ?_
  refine vv_iconst (v := zI (3)) C dX13_rulesAfter_7 rfl ?_
  refine vv_callS (As := [.int (zI (v8)), .int (zI (1)), .int (zI (3))]) (rest := []) (wr := [(q1, .inr (12, [.int (zI (0)), .ref q2, .ref q3, .ref q4, .ref q5, .ref q6, .ref q7, .long (0 : Int64)]))]) (ws2 := fun u => [(q1, .inr (12, [.int (zI (0)), .ref q2, .ref q3, .ref q4, .ref q5, .ref q6, .ref q7, .long (0 : Int64)]))]) (isC := []) (isR := [0]) (isP := [0]) C (vv_cutI rfl rfl rfl rfl (by decide) (fun _ => rfl) rfl) (k185_X13_is l hf G  (v8) rv1 (by omega)) yy_X13_is (vv_rmI rfl rfl (Nat.le_of_ble_eq_true rfl) (Nat.le_of_ble_eq_true rfl) (Nat.le_of_ble_eq_true rfl) (Nat.le_of_ble_eq_true rfl)) wm1160 wm1161 rfl rfl (Nat.le_of_ble_eq_true rfl) dX13_rulesAfter_8 (fun v u hp => ?_)
  obtain rfl := hp
  refine vv_nrm (ws1 := [(q1, .inr (12, [.int (zI (0)), .ref q2, .ref q3, .ref q4, .ref q5, .ref q6, .ref q7, .long (0 : Int64)]))]) (st1 := [.int (zI (0))]) rfl rfl ?_
  refine vv_if_eq (tgt := 31) C dX13_rulesAfter_11 (by decide) (by omega) (fun h => ?_) (fun h => by exfalso; omega)
  refine vv_aload_n C 0 dX13_rulesAfter_31 rfl rfl ?_
  refine vv_iconst (v := zI (1)) C dX13_rulesAfter_32 rfl ?_
  refine vv_callV (As := [.int (zI (1))]) (rest := []) (wr := []) (ws2 := fun u => [(q1, .inr (12, [.int (zI (1)), .ref q2, .ref q3, .ref q4, .ref q5, .ref q6, .ref q7, .long (0 : Int64)]))]) (isC := [0]) (isR := []) (isP := [0]) C (vv_cutI rfl rfl rfl rfl (by decide) (fun _ => rfl) rfl) (k20_X13_refuse l hf G q1 q2 q3 q4 q5 q6 q7) yy_X13_refuse (vv_rmI rfl rfl (Nat.le_of_ble_eq_true rfl) (Nat.le_of_ble_eq_true rfl) (Nat.le_of_ble_eq_true rfl) (Nat.le_of_ble_eq_true rfl)) wm1163 wm1165 ws_selects_LatticeworkModel_LatticeworkModel_refuse__I_I_LatticeworkModel_refuse__I_I 0 rfl rfl rfl rfl (Nat.le_of_ble_eq_true rfl) dX13_rulesAfter_33 (fun v u hp => ?_)
  obtain rfl := hp
  refine vv_nrm (ws1 := [(q1, .inr (12, [.int (zI (1)), .ref q2, .ref q3, .ref q4, .ref q5, .ref q6, .ref q7, .long (0 : Int64)]))]) (st1 := [.int (zI (0))]) rfl rfl ?_
  exact vv_iret C (()) rfl [0] rfl rfl ⟨Nat.le_of_ble_eq_true rfl, Nat.le_of_ble_eq_true rfl⟩ dX13_rulesAfter_36
set_option maxHeartbeats 4000000 in
set_option maxRecDepth 100000 in
theorem k420_X10_sizeWithout (l : Launch) (hf : l.stackTraces = false) (G : vv_G) (q1 q2 q3 q4 q5 q6 q7 q8 q9 q10 : Nat) (v11 : Int) (rv1 : -2147483648 ≤ v11 ∧ v11 < 2147483648) (v12 : Int) (rv2 : -2147483648 ≤ v12 ∧ v12 < 2147483648) (g0 : v11 ≤ -1) : ∀ sz, vx_Met l yX10_sizeWithout (Cond.code yX10_sizeWithout cX10_sizeWithout 3 (some .int) :: gT) ({ frames := 7, cells := 1, slots := 6, locals := 111 } : Room) (va_Pc [.ref q1, .int (zI (v11)), .int (zI (v12))] (vv_I G [(q1, .inr (9, [.ref q2, .ref q3, .ref q4, .ref q5, .ref q6, .ref q7, .ref q8, .ref q9, .ref q10]))] sz)) (vv_Q G (fun v (u : Unit) => False) (fun u => []) (va_A [(q1, .inr (9, [.ref q2, .ref q3, .ref q4, .ref q5, .ref q6, .ref q7, .ref q8, .ref q9, .ref q10]))] sz)) (vv_XC G (fun E (u : Unit) => E = "java/lang/IndexOutOfBoundsException") (fun u => [(q1, .inr (9, [.ref q2, .ref q3, .ref q4, .ref q5, .ref q6, .ref q7, .ref q8, .ref q9, .ref q10]))]) (va_A [(q1, .inr (9, [.ref q2, .ref q3, .ref q4, .ref q5, .ref q6, .ref q7, .ref q8, .ref q9, .ref q10]))] sz)) 1 6 (va_A [(q1, .inr (9, [.ref q2, .ref q3, .ref q4, .ref q5, .ref q6, .ref q7, .ref q8, .ref q9, .ref q10]))] sz) := by
  refine vv_startX hf (by decide) (Nat.le_of_ble_eq_true rfl) ?_
  intro p e s m below meth c A C hnm htab
  refine vv_aload_n C 0 dX10_sizeWithout_0 rfl rfl ?_
  refine vv_iload_n C 1 dX10_sizeWithout_1 rfl rfl ?_
  refine vv_callVx (As := [.int (zI (v11))]) (rest := []) (wr := []) (ws3 := fun u => [(q1, .inr (9, [.ref q2, .ref q3, .ref q4, .ref q5, .ref q6, .ref q7, .ref q8, .ref q9, .ref q10]))]) (isC := [0]) (isR := []) (isX := [0]) (ws2 := fun _ => []) (isP := []) C (vv_cutI rfl rfl rfl rfl (by decide) (fun _ => rfl) rfl) (vv_cutI rfl rfl rfl rfl (by decide) (fun _ => rfl) rfl) (k187_X10_needRule l hf G q1 q2 q3 q4 q5 q6 q7 q8 q9 q10 (v11) rv1 (by omega)) yy_X10_needRule (vv_rmI rfl rfl (Nat.le_of_ble_eq_true rfl) (Nat.le_of_ble_eq_true rfl) (Nat.le_of_ble_eq_true rfl) (Nat.le_of_ble_eq_true rfl)) wm903 wm905 ws_selects_Latticework_Latticework_needRule__I_V_Latticework_needRule__I_V 0 rfl rfl rfl rfl (Nat.le_of_ble_eq_true rfl) dX10_sizeWithout_2 (fun E9 u hp => ?_) (fun v u hp => hp.elim)
  obtain rfl := hp
  exact vv_out C htab ⟨Nat.le_of_ble_eq_true rfl, Nat.le_of_ble_eq_true rfl⟩ () rfl [0] rfl rfl
set_option maxHeartbeats 4000000 in
set_option maxRecDepth 100000 in
theorem k421_L_sizeWithout (l : Launch) (hf : l.stackTraces = false) (G : vv_G) (q1 q2 q3 q4 q5 q6 q7 q8 q9 q10 q11 : Nat) (v12 : Int) (rv1 : -2147483648 ≤ v12 ∧ v12 < 2147483648) (v13 : Int) (rv2 : -2147483648 ≤ v13 ∧ v13 < 2147483648) (g0 : v12 ≤ -1) : ∀ sz, Met l yL_sizeWithout (Cond.codeWith yL_sizeWithout cL_sizeWithout 5 (some .int) [(0, 10, 13, 21)] :: gT) ({ frames := 8, cells := 1, slots := 6, locals := 133 } : Room) (va_Pc [.ref q1, .int (zI (v12)), .int (zI (v13)), .ref q11] (vv_I G [(q1, .inr (9, [.ref q2, .ref q3, .ref q4, .ref q5, .ref q6, .ref q7, .ref q8, .ref q9, .ref q10]))] sz)) (vv_Q G (fun v (u : Unit) => v = some (.int (zI (1)))) (fun u => [(q1, .inr (9, [.ref q2, .ref q3, .ref q4, .ref q5, .ref q6, .ref q7, .ref q8, .ref q9, .ref q10]))]) (va_A [(q1, .inr (9, [.ref q2, .ref q3, .ref q4, .ref q5, .ref q6, .ref q7, .ref q8, .ref q9, .ref q10]))] sz)) 1 6 (va_A [(q1, .inr (9, [.ref q2, .ref q3, .ref q4, .ref q5, .ref q6, .ref q7, .ref q8, .ref q9, .ref q10]))] sz) := by
  refine vv_startW hf (by decide) (Nat.le_of_ble_eq_true rfl) ?_
  intro p e s m below meth c A C hnm htab
  refine vv_aload_n C 3 dL_sizeWithout_0 rfl rfl ?_
  refine vv_iconst (v := zI (0)) C dL_sizeWithout_1 rfl ?_
  refine vv_aload_n C 0 dL_sizeWithout_2 rfl rfl ?_
  refine vv_iload_n C 1 dL_sizeWithout_3 rfl rfl ?_
  refine vv_iload_n C 2 dL_sizeWithout_4 rfl rfl ?_
  refine vv_callVx (As := [.int (zI (v12)), .int (zI (v13))]) (rest := [.int (zI (0)), .ref q11]) (wr := []) (ws3 := fun u => [(q1, .inr (9, [.ref q2, .ref q3, .ref q4, .ref q5, .ref q6, .ref q7, .ref q8, .ref q9, .ref q10]))]) (isC := [0]) (isR := []) (isX := [0]) (ws2 := fun _ => []) (isP := []) C (vv_cutI rfl rfl rfl rfl (by decide) (fun _ => rfl) rfl) (vv_cutI rfl rfl rfl rfl (by decide) (fun _ => rfl) rfl) (k420_X10_sizeWithout l hf G q1 q2 q3 q4 q5 q6 q7 q8 q9 q10 (v12) rv1 (v13) rv2 (by omega)) yy_X10_sizeWithout (vv_rmI rfl rfl (Nat.le_of_ble_eq_true rfl) (Nat.le_of_ble_eq_true rfl) (Nat.le_of_ble_eq_true rfl) (Nat.le_of_ble_eq_true rfl)) wm1057 wm1058 wm1059 0 rfl rfl rfl rfl (Nat.le_of_ble_eq_true rfl) dL_sizeWithout_5 (fun E9 u hp => ?_) (fun v u hp => hp.elim)
  obtain rfl := hp
  refine vv_catch C htab [] ⟨0, 10, 13, 21⟩ [] rfl (fun z hz => nomatch hz) rfl (by decide) wm645 (by decide +kernel) (fun qe116 => ?_)
  refine vv_astore (loc1 := [(4, .ref qe116), (0, .ref q1), (1, .int (zI (v12))), (2, .int (zI (v13))), (3, .ref q11)]) C dL_sizeWithout_13 (by decide) rfl ?_
  refine vv_iconst (v := zI (1)) C dL_sizeWithout_15 rfl ?_
  exact vv_iret C (()) rfl [0] rfl rfl ⟨Nat.le_of_ble_eq_true rfl, Nat.le_of_ble_eq_true rfl⟩ dL_sizeWithout_16
set_option maxHeartbeats 4000000 in
set_option maxRecDepth 100000 in
theorem k422_X13_sizeWithout (l : Launch) (hf : l.stackTraces = false) (G : vv_G) (q1 q2 q3 q4 q5 q6 q7 q8 q9 : Nat) (v10 : Int) (rv1 : -2147483648 ≤ v10 ∧ v10 < 2147483648) (v11 : Int) (rv2 : -2147483648 ≤ v11 ∧ v11 < 2147483648) (g0 : v10 ≤ -1) : ∀ sz, Met l yX13_sizeWithout (Cond.code yX13_sizeWithout cX13_sizeWithout 4 (some .int) :: gT) ({ frames := 2, cells := 0, slots := 0, locals := 43 } : Room) (va_Pc [.ref q1, .int (zI (v10)), .int (zI (v11))] (vv_I G [(q1, .inr (12, [.int (zI (0)), .ref q2, .ref q3, .ref q4, .ref q5, .ref q6, .ref q7, .long (0 : Int64)])), (q5, .inr (10, [.ref q8, .ref q9, .int (zI (0)), .int (zI (0)), .int (zI (0))])), (q8, .inr (13, [.int (zI (0)), .ref (G.2.2 0), .int (zI (0))]))] sz)) (vv_Q G (fun v (u : Unit) => v = some (.int (zI (0)))) (fun u => [(q1, .inr (12, [.int (zI (1)), .ref q2, .ref q3, .ref q4, .ref q5, .ref q6, .ref q7, .long (0 : Int64)])), (q5, .inr (10, [.ref q8, .ref q9, .int (zI (0)), .int (zI (0)), .int (zI (0))])), (q8, .inr (13, [.int (zI (0)), .ref (G.2.2 0), .int (zI (0))]))]) (va_A [(q1, .inr (12, [.int (zI (0)), .ref q2, .ref q3, .ref q4, .ref q5, .ref q6, .ref q7, .long (0 : Int64)])), (q5, .inr (10, [.ref q8, .ref q9, .int (zI (0)), .int (zI (0)), .int (zI (0))])), (q8, .inr (13, [.int (zI (0)), .ref (G.2.2 0), .int (zI (0))]))] sz)) 0 0 (va_A [(q1, .inr (12, [.int (zI (0)), .ref q2, .ref q3, .ref q4, .ref q5, .ref q6, .ref q7, .long (0 : Int64)])), (q5, .inr (10, [.ref q8, .ref q9, .int (zI (0)), .int (zI (0)), .int (zI (0))])), (q8, .inr (13, [.int (zI (0)), .ref (G.2.2 0), .int (zI (0))]))] sz) := by
  refine vv_start hf (by decide) (Nat.le_of_ble_eq_true rfl) ?_
  intro p e s m below meth c A C hnm
  refine vv_aload_n C 0 dX13_sizeWithout_0 rfl rfl ?_
  refine vv_iconst (v := zI (0)) C dX13_sizeWithout_1 rfl ?_
  refine vv_put (ws1 := [(q1, .inr (12, [.int (zI (0)), .ref q2, .ref q3, .ref q4, .ref q5, .ref q6, .ref q7, .long (0 : Int64)])), (q5, .inr (10, [.ref q8, .ref q9, .int (zI (0)), .int (zI (0)), .int (zI (0))])), (q8, .inr (13, [.int (zI (0)), .ref (G.2.2 0), .int (zI (0))]))]) C 0 rfl rfl vi_X13 tyX13_ok nmX13 0 (by decide) wm1127 rfl rfl rfl (Nat.le_of_ble_eq_true rfl) rfl dX13_sizeWithout_2 ?_
  refine vv_aload_n C 0 dX13_sizeWithout_5 rfl rfl ?_
  refine vv_iload_n C 1 dX13_sizeWithout_6 rfl rfl ?_
  refine vv_callV (As := [.int (zI (v10))]) (rest := []) (wr := []) (ws2 := fun u => [(q1, .inr (12, [.int (zI (0)), .ref q2, .ref q3, .ref q4, .ref q5, .ref q6, .ref q7, .long (0 : Int64)])), (q5, .inr (10, [.ref q8, .ref q9, .int (zI (0)), .int (zI (0)), .int (zI (0))])), (q8, .inr (13, [.int (zI (0)), .ref (G.2.2 0), .int (zI (0))]))]) (isC := [0, 1, 2]) (isR := []) (isP := [0, 1, 2]) C (vv_cutI rfl rfl rfl rfl (by decide) (fun _ => rfl) rfl) (k190_X13_isRule l hf G q1 q2 q3 q4 q5 q6 q7 q8 q9 (v10) rv1 (by omega)) yy_X13_isRule (vv_rmI rfl rfl (Nat.le_of_ble_eq_true rfl) (Nat.le_of_ble_eq_true rfl) (Nat.le_of_ble_eq_true rfl) (Nat.le_of_ble_eq_true rfl)) wm1829 wm1831 ws_selects_LatticeworkModel_LatticeworkModel_isRule__I_Z_LatticeworkModel_isRule__I_Z 0 rfl rfl rfl rfl (Nat.le_of_ble_eq_true rfl) dX13_sizeWithout_7 (fun v u hp => ?_)
  obtain rfl := hp
  refine vv_nrm (ws1 := [(q1, .inr (12, [.int (zI (0)), .ref q2, .ref q3, .ref q4, .ref q5, .ref q6, .ref q7, .long (0 : Int64)])), (q5, .inr (10, [.ref q8, .ref q9, .int (zI (0)), .int (zI (0)), .int (zI (0))])), (q8, .inr (13, [.int (zI (0)), .ref (G.2.2 0), .int (zI (0))]))]) (st1 := [.int (zI (0))]) rfl rfl ?_
  refine vv_if_eq (tgt := 21) C dX13_sizeWithout_10 (by decide) (by omega) (fun h => ?_) (fun h => by exfalso; omega)
  refine vv_aload_n C 0 dX13_sizeWithout_21 rfl rfl ?_
  refine vv_iconst (v := zI (1)) C dX13_sizeWithout_22 rfl ?_
  refine vv_callV (As := [.int (zI (1))]) (rest := []) (wr := [(q5, .inr (10, [.ref q8, .ref q9, .int (zI (0)), .int (zI (0)), .int (zI (0))])), (q8, .inr (13, [.int (zI (0)), .ref (G.2.2 0), .int (zI (0))]))]) (ws2 := fun u => [(q1, .inr (12, [.int (zI (1)), .ref q2, .ref q3, .ref q4, .ref q5, .ref q6, .ref q7, .long (0 : Int64)])), (q5, .inr (10, [.ref q8, .ref q9, .int (zI (0)), .int (zI (0)), .int (zI (0))])), (q8, .inr (13, [.int (zI (0)), .ref (G.2.2 0), .int (zI (0))]))]) (isC := [0]) (isR := [1, 2]) (isP := [2, 0, 1]) C (vv_cutI rfl rfl rfl rfl (by decide) (fun _ => rfl) rfl) (k20_X13_refuse l hf G q1 q2 q3 q4 q5 q6 q7) yy_X13_refuse (vv_rmI rfl rfl (Nat.le_of_ble_eq_true rfl) (Nat.le_of_ble_eq_true rfl) (Nat.le_of_ble_eq_true rfl) (Nat.le_of_ble_eq_true rfl)) wm1163 wm1165 ws_selects_LatticeworkModel_LatticeworkModel_refuse__I_I_LatticeworkModel_refuse__I_I 0 rfl rfl rfl rfl (Nat.le_of_ble_eq_true rfl) dX13_sizeWithout_23 (fun v u hp => ?_)
  obtain rfl := hp
  refine vv_nrm (ws1 := [(q1, .inr (12, [.int (zI (1)), .ref q2, .ref q3, .ref q4, .ref q5, .ref q6, .ref q7, .long (0 : Int64)])), (q5, .inr (10, [.ref q8, .ref q9, .int (zI (0)), .int (zI (0)), .int (zI (0))])), (q8, .inr (13, [.int (zI (0)), .ref (G.2.2 0), .int (zI (0))]))]) (st1 := [.int (zI (0))]) rfl rfl ?_
  exact vv_iret C (()) rfl [0, 1, 2] rfl rfl ⟨Nat.le_of_ble_eq_true rfl, Nat.le_of_ble_eq_true rfl⟩ dX13_sizeWithout_26
set_option maxHeartbeats 4000000 in
set_option maxRecDepth 100000 in
theorem k423_X10_sizeWithout (l : Launch) (hf : l.stackTraces = false) (G : vv_G) (q1 q2 q3 q4 q5 q6 q7 q8 q9 q10 q11 q12 q13 q14 : Nat) (v15 : Int) (rv1 : -2147483648 ≤ v15 ∧ v15 < 2147483648) (v16 : Int) (rv2 : -2147483648 ≤ v16 ∧ v16 < 2147483648) (g0 : 0 ≤ v15) : ∀ sz, vx_Met l yX10_sizeWithout (Cond.code yX10_sizeWithout cX10_sizeWithout 3 (some .int) :: gT) ({ frames := 7, cells := 1, slots := 6, locals := 111 } : Room) (va_Pc [.ref q1, .int (zI (v15)), .int (zI (v16))] (vv_I G [(q1, .inr (9, [.ref q2, .ref q3, .ref q4, .ref q5, .ref q6, .ref q7, .ref q8, .ref q9, .ref q10])), (q5, .inr (7, [.ref q11, .ref q12, .ref q13, .ref q14, .int (zI (0)), .int (zI (0)), .int (zI (0)), .int (zI (0)), .int (zI (0))]))] sz)) (vv_Q G (fun v (u : Unit) => False) (fun u => []) (va_A [(q1, .inr (9, [.ref q2, .ref q3, .ref q4, .ref q5, .ref q6, .ref q7, .ref q8, .ref q9, .ref q10])), (q5, .inr (7, [.ref q11, .ref q12, .ref q13, .ref q14, .int (zI (0)), .int (zI (0)), .int (zI (0)), .int (zI (0)), .int (zI (0))]))] sz)) (vv_XC G (fun E (u : Unit) => E = "java/lang/IndexOutOfBoundsException") (fun u => [(q1, .inr (9, [.ref q2, .ref q3, .ref q4, .ref q5, .ref q6, .ref q7, .ref q8, .ref q9, .ref q10])), (q5, .inr (7, [.ref q11, .ref q12, .ref q13, .ref q14, .int (zI (0)), .int (zI (0)), .int (zI (0)), .int (zI (0)), .int (zI (0))]))]) (va_A [(q1, .inr (9, [.ref q2, .ref q3, .ref q4, .ref q5, .ref q6, .ref q7, .ref q8, .ref q9, .ref q10])), (q5, .inr (7, [.ref q11, .ref q12, .ref q13, .ref q14, .int (zI (0)), .int (zI (0)), .int (zI (0)), .int (zI (0)), .int (zI (0))]))] sz)) 1 6 (va_A [(q1, .inr (9, [.ref q2, .ref q3, .ref q4, .ref q5, .ref q6, .ref q7, .ref q8, .ref q9, .ref q10])), (q5, .inr (7, [.ref q11, .ref q12, .ref q13, .ref q14, .int (zI (0)), .int (zI (0)), .int (zI (0)), .int (zI (0)), .int (zI (0))]))] sz) := by
  refine vv_startX hf (by decide) (Nat.le_of_ble_eq_true rfl) ?_
  intro p e s m below meth c A C hnm htab
  refine vv_aload_n C 0 dX10_sizeWithout_0 rfl rfl ?_
  refine vv_iload_n C 1 dX10_sizeWithout_1 rfl rfl ?_
  refine vv_callVx (As := [.int (zI (v15))]) (rest := []) (wr := []) (ws3 := fun u => [(q1, .inr (9, [.ref q2, .ref q3, .ref q4, .ref q5, .ref q6, .ref q7, .ref q8, .ref q9, .ref q10])), (q5, .inr (7, [.ref q11, .ref q12, .ref q13, .ref q14, .int (zI (0)), .int (zI (0)), .int (zI (0)), .int (zI (0)), .int (zI (0))]))]) (isC := [0, 1]) (isR := []) (isX := [0, 1]) (ws2 := fun _ => []) (isP := []) C (vv_cutI rfl rfl rfl rfl (by decide) (fun _ => rfl) rfl) (vv_cutI rfl rfl rfl rfl (by decide) (fun _ => rfl) rfl) (k192_X10_needRule l hf G q1 q2 q3 q4 q5 q6 q7 q8 q9 q10 q11 q12 q13 q14 (v15) rv1 (by omega)) yy_X10_needRule (vv_rmI rfl rfl (Nat.le_of_ble_eq_true rfl) (Nat.le_of_ble_eq_true rfl) (Nat.le_of_ble_eq_true rfl) (Nat.le_of_ble_eq_true rfl)) wm903 wm905 ws_selects_Latticework_Latticework_needRule__I_V_Latticework_needRule__I_V 0 rfl rfl rfl rfl (Nat.le_of_ble_eq_true rfl) dX10_sizeWithout_2 (fun E9 u hp => ?_) (fun v u hp => hp.elim)
  obtain rfl := hp
  exact vv_out C htab ⟨Nat.le_of_ble_eq_true rfl, Nat.le_of_ble_eq_true rfl⟩ () rfl [0, 1] rfl rfl
set_option maxHeartbeats 4000000 in
set_option maxRecDepth 100000 in
theorem k424_L_sizeWithout (l : Launch) (hf : l.stackTraces = false) (G : vv_G) (q1 q2 q3 q4 q5 q6 q7 q8 q9 q10 q11 q12 q13 q14 q15 : Nat) (v16 : Int) (rv1 : -2147483648 ≤ v16 ∧ v16 < 2147483648) (v17 : Int) (rv2 : -2147483648 ≤ v17 ∧ v17 < 2147483648) (g0 : 0 ≤ v16) : ∀ sz, Met l yL_sizeWithout (Cond.codeWith yL_sizeWithout cL_sizeWithout 5 (some .int) [(0, 10, 13, 21)] :: gT) ({ frames := 8, cells := 1, slots := 6, locals := 133 } : Room) (va_Pc [.ref q1, .int (zI (v16)), .int (zI (v17)), .ref q15] (vv_I G [(q1, .inr (9, [.ref q2, .ref q3, .ref q4, .ref q5, .ref q6, .ref q7, .ref q8, .ref q9, .ref q10])), (q5, .inr (7, [.ref q11, .ref q12, .ref q13, .ref q14, .int (zI (0)), .int (zI (0)), .int (zI (0)), .int (zI (0)), .int (zI (0))]))] sz)) (vv_Q G (fun v (u : Unit) => v = some (.int (zI (1)))) (fun u => [(q1, .inr (9, [.ref q2, .ref q3, .ref q4, .ref q5, .ref q6, .ref q7, .ref q8, .ref q9, .ref q10])), (q5, .inr (7, [.ref q11, .ref q12, .ref q13, .ref q14, .int (zI (0)), .int (zI (0)), .int (zI (0)), .int (zI (0)), .int (zI (0))]))]) (va_A [(q1, .inr (9, [.ref q2, .ref q3, .ref q4, .ref q5, .ref q6, .ref q7, .ref q8, .ref q9, .ref q10])), (q5, .inr (7, [.ref q11, .ref q12, .ref q13, .ref q14, .int (zI (0)), .int (zI (0)), .int (zI (0)), .int (zI (0)), .int (zI (0))]))] sz)) 1 6 (va_A [(q1, .inr (9, [.ref q2, .ref q3, .ref q4, .ref q5, .ref q6, .ref q7, .ref q8, .ref q9, .ref q10])), (q5, .inr (7, [.ref q11, .ref q12, .ref q13, .ref q14, .int (zI (0)), .int (zI (0)), .int (zI (0)), .int (zI (0)), .int (zI (0))]))] sz) := by
  refine vv_startW hf (by decide) (Nat.le_of_ble_eq_true rfl) ?_
  intro p e s m below meth c A C hnm htab
  refine vv_aload_n C 3 dL_sizeWithout_0 rfl rfl ?_
  refine vv_iconst (v := zI (0)) C dL_sizeWithout_1 rfl ?_
  refine vv_aload_n C 0 dL_sizeWithout_2 rfl rfl ?_
  refine vv_iload_n C 1 dL_sizeWithout_3 rfl rfl ?_
  refine vv_iload_n C 2 dL_sizeWithout_4 rfl rfl ?_
  refine vv_callVx (As := [.int (zI (v16)), .int (zI (v17))]) (rest := [.int (zI (0)), .ref q15]) (wr := []) (ws3 := fun u => [(q1, .inr (9, [.ref q2, .ref q3, .ref q4, .ref q5, .ref q6, .ref q7, .ref q8, .ref q9, .ref q10])), (q5, .inr (7, [.ref q11, .ref q12, .ref q13, .ref q14, .int (zI (0)), .int (zI (0)), .int (zI (0)), .int (zI (0)), .int (zI (0))]))]) (isC := [0, 1]) (isR := []) (isX := [0, 1]) (ws2 := fun _ => []) (isP := []) C (vv_cutI rfl rfl rfl rfl (by decide) (fun _ => rfl) rfl) (vv_cutI rfl rfl rfl rfl (by decide) (fun _ => rfl) rfl) (k423_X10_sizeWithout l hf G q1 q2 q3 q4 q5 q6 q7 q8 q9 q10 q11 q12 q13 q14 (v16) rv1 (v17) rv2 (by omega)) yy_X10_sizeWithout (vv_rmI rfl rfl (Nat.le_of_ble_eq_true rfl) (Nat.le_of_ble_eq_true rfl) (Nat.le_of_ble_eq_true rfl) (Nat.le_of_ble_eq_true rfl)) wm1057 wm1058 wm1059 0 rfl rfl rfl rfl (Nat.le_of_ble_eq_true rfl) dL_sizeWithout_5 (fun E9 u hp => ?_) (fun v u hp => hp.elim)
  obtain rfl := hp
  refine vv_catch C htab [] ⟨0, 10, 13, 21⟩ [] rfl (fun z hz => nomatch hz) rfl (by decide) wm645 (by decide +kernel) (fun qe117 => ?_)
  refine vv_astore (loc1 := [(4, .ref qe117), (0, .ref q1), (1, .int (zI (v16))), (2, .int (zI (v17))), (3, .ref q15)]) C dL_sizeWithout_13 (by decide) rfl ?_
  refine vv_iconst (v := zI (1)) C dL_sizeWithout_15 rfl ?_
  exact vv_iret C (()) rfl [0, 1] rfl rfl ⟨Nat.le_of_ble_eq_true rfl, Nat.le_of_ble_eq_true rfl⟩ dL_sizeWithout_16
set_option maxHeartbeats 4000000 in
set_option maxRecDepth 100000 in
theorem k425_X13_sizeWithout (l : Launch) (hf : l.stackTraces = false) (G : vv_G) (q1 q2 q3 q4 q5 q6 q7 q8 q9 : Nat) (v10 : Int) (rv1 : -2147483648 ≤ v10 ∧ v10 < 2147483648) (v11 : Int) (rv2 : -2147483648 ≤ v11 ∧ v11 < 2147483648) (g0 : 0 ≤ v10) : ∀ sz, Met l yX13_sizeWithout (Cond.code yX13_sizeWithout cX13_sizeWithout 4 (some .int) :: gT) ({ frames := 2, cells := 0, slots := 0, locals := 43 } : Room) (va_Pc [.ref q1, .int (zI (v10)), .int (zI (v11))] (vv_I G [(q1, .inr (12, [.int (zI (0)), .ref q2, .ref q3, .ref q4, .ref q5, .ref q6, .ref q7, .long (0 : Int64)])), (q5, .inr (10, [.ref q8, .ref q9, .int (zI (0)), .int (zI (0)), .int (zI (0))])), (q8, .inr (13, [.int (zI (0)), .ref (G.2.2 0), .int (zI (0))]))] sz)) (vv_Q G (fun v (u : Unit) => v = some (.int (zI (0)))) (fun u => [(q1, .inr (12, [.int (zI (1)), .ref q2, .ref q3, .ref q4, .ref q5, .ref q6, .ref q7, .long (0 : Int64)])), (q5, .inr (10, [.ref q8, .ref q9, .int (zI (0)), .int (zI (0)), .int (zI (0))])), (q8, .inr (13, [.int (zI (0)), .ref (G.2.2 0), .int (zI (0))]))]) (va_A [(q1, .inr (12, [.int (zI (0)), .ref q2, .ref q3, .ref q4, .ref q5, .ref q6, .ref q7, .long (0 : Int64)])), (q5, .inr (10, [.ref q8, .ref q9, .int (zI (0)), .int (zI (0)), .int (zI (0))])), (q8, .inr (13, [.int (zI (0)), .ref (G.2.2 0), .int (zI (0))]))] sz)) 0 0 (va_A [(q1, .inr (12, [.int (zI (0)), .ref q2, .ref q3, .ref q4, .ref q5, .ref q6, .ref q7, .long (0 : Int64)])), (q5, .inr (10, [.ref q8, .ref q9, .int (zI (0)), .int (zI (0)), .int (zI (0))])), (q8, .inr (13, [.int (zI (0)), .ref (G.2.2 0), .int (zI (0))]))] sz) := by
  refine vv_start hf (by decide) (Nat.le_of_ble_eq_true rfl) ?_
  intro p e s m below meth c A C hnm
  refine vv_aload_n C 0 dX13_sizeWithout_0 rfl rfl ?_
  refine vv_iconst (v := zI (0)) C dX13_sizeWithout_1 rfl ?_
  refine vv_put (ws1 := [(q1, .inr (12, [.int (zI (0)), .ref q2, .ref q3, .ref q4, .ref q5, .ref q6, .ref q7, .long (0 : Int64)])), (q5, .inr (10, [.ref q8, .ref q9, .int (zI (0)), .int (zI (0)), .int (zI (0))])), (q8, .inr (13, [.int (zI (0)), .ref (G.2.2 0), .int (zI (0))]))]) C 0 rfl rfl vi_X13 tyX13_ok nmX13 0 (by decide) wm1127 rfl rfl rfl (Nat.le_of_ble_eq_true rfl) rfl dX13_sizeWithout_2 ?_
  refine vv_aload_n C 0 dX13_sizeWithout_5 rfl rfl ?_
  refine vv_iload_n C 1 dX13_sizeWithout_6 rfl rfl ?_
  refine vv_callV (As := [.int (zI (v10))]) (rest := []) (wr := []) (ws2 := fun u => [(q1, .inr (12, [.int (zI (0)), .ref q2, .ref q3, .ref q4, .ref q5, .ref q6, .ref q7, .long (0 : Int64)])), (q5, .inr (10, [.ref q8, .ref q9, .int (zI (0)), .int (zI (0)), .int (zI (0))])), (q8, .inr (13, [.int (zI (0)), .ref (G.2.2 0), .int (zI (0))]))]) (isC := [0, 1, 2]) (isR := []) (isP := [0, 1, 2]) C (vv_cutI rfl rfl rfl rfl (by decide) (fun _ => rfl) rfl) (k195_X13_isRule l hf G q1 q2 q3 q4 q5 q6 q7 q8 q9 (v10) rv1 (by omega)) yy_X13_isRule (vv_rmI rfl rfl (Nat.le_of_ble_eq_true rfl) (Nat.le_of_ble_eq_true rfl) (Nat.le_of_ble_eq_true rfl) (Nat.le_of_ble_eq_true rfl)) wm1829 wm1831 ws_selects_LatticeworkModel_LatticeworkModel_isRule__I_Z_LatticeworkModel_isRule__I_Z 0 rfl rfl rfl rfl (Nat.le_of_ble_eq_true rfl) dX13_sizeWithout_7 (fun v u hp => ?_)
  obtain rfl := hp
  refine vv_nrm (ws1 := [(q1, .inr (12, [.int (zI (0)), .ref q2, .ref q3, .ref q4, .ref q5, .ref q6, .ref q7, .long (0 : Int64)])), (q5, .inr (10, [.ref q8, .ref q9, .int (zI (0)), .int (zI (0)), .int (zI (0))])), (q8, .inr (13, [.int (zI (0)), .ref (G.2.2 0), .int (zI (0))]))]) (st1 := [.int (zI (0))]) rfl rfl ?_
  refine vv_if_eq (tgt := 21) C dX13_sizeWithout_10 (by decide) (by omega) (fun h => ?_) (fun h => by exfalso; omega)
  refine vv_aload_n C 0 dX13_sizeWithout_21 rfl rfl ?_
  refine vv_iconst (v := zI (1)) C dX13_sizeWithout_22 rfl ?_
  refine vv_callV (As := [.int (zI (1))]) (rest := []) (wr := [(q5, .inr (10, [.ref q8, .ref q9, .int (zI (0)), .int (zI (0)), .int (zI (0))])), (q8, .inr (13, [.int (zI (0)), .ref (G.2.2 0), .int (zI (0))]))]) (ws2 := fun u => [(q1, .inr (12, [.int (zI (1)), .ref q2, .ref q3, .ref q4, .ref q5, .ref q6, .ref q7, .long (0 : Int64)])), (q5, .inr (10, [.ref q8, .ref q9, .int (zI (0)), .int (zI (0)), .int (zI (0))])), (q8, .inr (13, [.int (zI (0)), .ref (G.2.2 0), .int (zI (0))]))]) (isC := [0]) (isR := [1, 2]) (isP := [2, 0, 1]) C (vv_cutI rfl rfl rfl rfl (by decide) (fun _ => rfl) rfl) (k20_X13_refuse l hf G q1 q2 q3 q4 q5 q6 q7) yy_X13_refuse (vv_rmI rfl rfl (Nat.le_of_ble_eq_true rfl) (Nat.le_of_ble_eq_true rfl) (Nat.le_of_ble_eq_true rfl) (Nat.le_of_ble_eq_true rfl)) wm1163 wm1165 ws_selects_LatticeworkModel_LatticeworkModel_refuse__I_I_LatticeworkModel_refuse__I_I 0 rfl rfl rfl rfl (Nat.le_of_ble_eq_true rfl) dX13_sizeWithout_23 (fun v u hp => ?_)
  obtain rfl := hp
  refine vv_nrm (ws1 := [(q1, .inr (12, [.int (zI (1)), .ref q2, .ref q3, .ref q4, .ref q5, .ref q6, .ref q7, .long (0 : Int64)])), (q5, .inr (10, [.ref q8, .ref q9, .int (zI (0)), .int (zI (0)), .int (zI (0))])), (q8, .inr (13, [.int (zI (0)), .ref (G.2.2 0), .int (zI (0))]))]) (st1 := [.int (zI (0))]) rfl rfl ?_
  exact vv_iret C (()) rfl [0, 1, 2] rfl rfl ⟨Nat.le_of_ble_eq_true rfl, Nat.le_of_ble_eq_true rfl⟩ dX13_sizeWithout_26
set_option maxHeartbeats 4000000 in
set_option maxRecDepth 100000 in
theorem k426_X10_mixed (l : Launch) (hf : l.stackTraces = false) (G : vv_G)  : ∀ sz, Met l yX10_mixed (Cond.code yX10_mixed cX10_mixed 4 (some .long) :: gT) ({ frames := 0, cells := 0, slots := 0, locals := 0 } : Room) (va_Pc [.long (58092 : Int64), .long (0 : Int64)] (vv_I G [] sz)) (vv_Q G (fun v (u : Unit) => v = some (.long (1800852 : Int64))) (fun u => []) (va_A [] sz)) 0 0 (va_A [] sz) := by
  refine vv_start hf (by decide) (Nat.le_of_ble_eq_true rfl) ?_
  intro p e s m below meth c A C hnm
  refine vv_lload_n C 0 dX10_mixed_0 rfl rfl ?_
  refine vv_ldc2 (v := (31 : Int64)) C dX10_mixed_1 wm507 ?_
  refine vv_lmul (z := (1800852 : Int64)) C dX10_mixed_4 (by decide +kernel) ?_
  refine vv_lload_n C 1 dX10_mixed_5 rfl rfl ?_
  refine vv_ladd (z := (1800852 : Int64)) C dX10_mixed_6 (by decide +kernel) ?_
  exact vv_lret C (()) rfl [] rfl rfl ⟨Nat.le_of_ble_eq_true rfl, Nat.le_of_ble_eq_true rfl⟩ dX10_mixed_7
set_option maxHeartbeats 4000000 in
set_option maxRecDepth 100000 in
theorem k427_X10_mixed (l : Launch) (hf : l.stackTraces = false) (G : vv_G)  : ∀ sz, Met l yX10_mixed (Cond.code yX10_mixed cX10_mixed 4 (some .long) :: gT) ({ frames := 0, cells := 0, slots := 0, locals := 0 } : Room) (va_Pc [.long (1800852 : Int64), .long (0 : Int64)] (vv_I G [] sz)) (vv_Q G (fun v (u : Unit) => v = some (.long (55826412 : Int64))) (fun u => []) (va_A [] sz)) 0 0 (va_A [] sz) := by
  refine vv_start hf (by decide) (Nat.le_of_ble_eq_true rfl) ?_
  intro p e s m below meth c A C hnm
  refine vv_lload_n C 0 dX10_mixed_0 rfl rfl ?_
  refine vv_ldc2 (v := (31 : Int64)) C dX10_mixed_1 wm507 ?_
  refine vv_lmul (z := (55826412 : Int64)) C dX10_mixed_4 (by decide +kernel) ?_
  refine vv_lload_n C 1 dX10_mixed_5 rfl rfl ?_
  refine vv_ladd (z := (55826412 : Int64)) C dX10_mixed_6 (by decide +kernel) ?_
  exact vv_lret C (()) rfl [] rfl rfl ⟨Nat.le_of_ble_eq_true rfl, Nat.le_of_ble_eq_true rfl⟩ dX10_mixed_7
set_option maxHeartbeats 4000000 in
set_option maxRecDepth 100000 in
theorem k428_X10_mixed (l : Launch) (hf : l.stackTraces = false) (G : vv_G)  : ∀ sz, Met l yX10_mixed (Cond.code yX10_mixed cX10_mixed 4 (some .long) :: gT) ({ frames := 0, cells := 0, slots := 0, locals := 0 } : Room) (va_Pc [.long (55826412 : Int64), .long (0 : Int64)] (vv_I G [] sz)) (vv_Q G (fun v (u : Unit) => v = some (.long (1730618772 : Int64))) (fun u => []) (va_A [] sz)) 0 0 (va_A [] sz) := by
  refine vv_start hf (by decide) (Nat.le_of_ble_eq_true rfl) ?_
  intro p e s m below meth c A C hnm
  refine vv_lload_n C 0 dX10_mixed_0 rfl rfl ?_
  refine vv_ldc2 (v := (31 : Int64)) C dX10_mixed_1 wm507 ?_
  refine vv_lmul (z := (1730618772 : Int64)) C dX10_mixed_4 (by decide +kernel) ?_
  refine vv_lload_n C 1 dX10_mixed_5 rfl rfl ?_
  refine vv_ladd (z := (1730618772 : Int64)) C dX10_mixed_6 (by decide +kernel) ?_
  exact vv_lret C (()) rfl [] rfl rfl ⟨Nat.le_of_ble_eq_true rfl, Nat.le_of_ble_eq_true rfl⟩ dX10_mixed_7
set_option maxHeartbeats 4000000 in
set_option maxRecDepth 100000 in
theorem k429_X10_mixed (l : Launch) (hf : l.stackTraces = false) (G : vv_G)  : ∀ sz, Met l yX10_mixed (Cond.code yX10_mixed cX10_mixed 4 (some .long) :: gT) ({ frames := 0, cells := 0, slots := 0, locals := 0 } : Room) (va_Pc [.long (1730618772 : Int64), .long (0 : Int64)] (vv_I G [] sz)) (vv_Q G (fun v (u : Unit) => v = some (.long (53649181932 : Int64))) (fun u => []) (va_A [] sz)) 0 0 (va_A [] sz) := by
  refine vv_start hf (by decide) (Nat.le_of_ble_eq_true rfl) ?_
  intro p e s m below meth c A C hnm
  refine vv_lload_n C 0 dX10_mixed_0 rfl rfl ?_
  refine vv_ldc2 (v := (31 : Int64)) C dX10_mixed_1 wm507 ?_
  refine vv_lmul (z := (53649181932 : Int64)) C dX10_mixed_4 (by decide +kernel) ?_
  refine vv_lload_n C 1 dX10_mixed_5 rfl rfl ?_
  refine vv_ladd (z := (53649181932 : Int64)) C dX10_mixed_6 (by decide +kernel) ?_
  exact vv_lret C (()) rfl [] rfl rfl ⟨Nat.le_of_ble_eq_true rfl, Nat.le_of_ble_eq_true rfl⟩ dX10_mixed_7
set_option maxHeartbeats 4000000 in
set_option maxRecDepth 100000 in
theorem k430_X10_mixed (l : Launch) (hf : l.stackTraces = false) (G : vv_G)  : ∀ sz, Met l yX10_mixed (Cond.code yX10_mixed cX10_mixed 4 (some .long) :: gT) ({ frames := 0, cells := 0, slots := 0, locals := 0 } : Room) (va_Pc [.long (53649181932 : Int64), .long (0 : Int64)] (vv_I G [] sz)) (vv_Q G (fun v (u : Unit) => v = some (.long (1663124639892 : Int64))) (fun u => []) (va_A [] sz)) 0 0 (va_A [] sz) := by
  refine vv_start hf (by decide) (Nat.le_of_ble_eq_true rfl) ?_
  intro p e s m below meth c A C hnm
  refine vv_lload_n C 0 dX10_mixed_0 rfl rfl ?_
  refine vv_ldc2 (v := (31 : Int64)) C dX10_mixed_1 wm507 ?_
  refine vv_lmul (z := (1663124639892 : Int64)) C dX10_mixed_4 (by decide +kernel) ?_
  refine vv_lload_n C 1 dX10_mixed_5 rfl rfl ?_
  refine vv_ladd (z := (1663124639892 : Int64)) C dX10_mixed_6 (by decide +kernel) ?_
  exact vv_lret C (()) rfl [] rfl rfl ⟨Nat.le_of_ble_eq_true rfl, Nat.le_of_ble_eq_true rfl⟩ dX10_mixed_7
set_option maxHeartbeats 4000000 in
set_option maxRecDepth 100000 in
theorem k431_X10_mixed (l : Launch) (hf : l.stackTraces = false) (G : vv_G)  : ∀ sz, Met l yX10_mixed (Cond.code yX10_mixed cX10_mixed 4 (some .long) :: gT) ({ frames := 0, cells := 0, slots := 0, locals := 0 } : Room) (va_Pc [.long (1663124639892 : Int64), .long (0 : Int64)] (vv_I G [] sz)) (vv_Q G (fun v (u : Unit) => v = some (.long (51556863836652 : Int64))) (fun u => []) (va_A [] sz)) 0 0 (va_A [] sz) := by
  refine vv_start hf (by decide) (Nat.le_of_ble_eq_true rfl) ?_
  intro p e s m below meth c A C hnm
  refine vv_lload_n C 0 dX10_mixed_0 rfl rfl ?_
  refine vv_ldc2 (v := (31 : Int64)) C dX10_mixed_1 wm507 ?_
  refine vv_lmul (z := (51556863836652 : Int64)) C dX10_mixed_4 (by decide +kernel) ?_
  refine vv_lload_n C 1 dX10_mixed_5 rfl rfl ?_
  refine vv_ladd (z := (51556863836652 : Int64)) C dX10_mixed_6 (by decide +kernel) ?_
  exact vv_lret C (()) rfl [] rfl rfl ⟨Nat.le_of_ble_eq_true rfl, Nat.le_of_ble_eq_true rfl⟩ dX10_mixed_7
set_option maxHeartbeats 4000000 in
set_option maxRecDepth 100000 in
theorem k432_X10_digest (l : Launch) (hf : l.stackTraces = false) (G : vv_G) (q1 q2 q3 q4 q5 q6 q7 q8 q9 q10 q11 q12 q13 q14 q15 q16 q17 q18 q19 q20 q21 q22 q23 q24 q25 q26 q27 : Nat) : ∀ sz, Met l yX10_digest (Cond.code yX10_digest cX10_digest 4 (some .long) :: gT) ({ frames := 1, cells := 0, slots := 0, locals := 23 } : Room) (va_Pc [.ref q1] (vv_I G [(q1, .inr (9, [.ref q2, .ref q3, .ref q4, .ref q5, .ref q6, .ref q7, .ref q8, .ref q9, .ref q10])), (q7, .inr (8, [.ref q11, .ref q12, .ref q13, .int (zI (0))])), (q5, .inr (7, [.ref q14, .ref q15, .ref q16, .ref q17, .int (zI (0)), .int (zI (0)), .int (zI (0)), .int (zI (0)), .int (zI (0))])), (q8, .inr (1, [.ref q18, .ref q19, .ref q20, .ref q21, .int (zI (0))])), (q10, .inr (3, [.ref q8, .ref q9, .ref q22, .ref q23, .ref q24, .ref q25, .ref q26, .ref q27, .int (zI (0))]))] sz)) (vv_Q G (fun v (u : Unit) => v = some (.long (51556863836652 : Int64))) (fun u => []) (va_A [(q1, .inr (9, [.ref q2, .ref q3, .ref q4, .ref q5, .ref q6, .ref q7, .ref q8, .ref q9, .ref q10])), (q7, .inr (8, [.ref q11, .ref q12, .ref q13, .int (zI (0))])), (q5, .inr (7, [.ref q14, .ref q15, .ref q16, .ref q17, .int (zI (0)), .int (zI (0)), .int (zI (0)), .int (zI (0)), .int (zI (0))])), (q8, .inr (1, [.ref q18, .ref q19, .ref q20, .ref q21, .int (zI (0))])), (q10, .inr (3, [.ref q8, .ref q9, .ref q22, .ref q23, .ref q24, .ref q25, .ref q26, .ref q27, .int (zI (0))]))] sz)) 0 0 (va_A [(q1, .inr (9, [.ref q2, .ref q3, .ref q4, .ref q5, .ref q6, .ref q7, .ref q8, .ref q9, .ref q10])), (q7, .inr (8, [.ref q11, .ref q12, .ref q13, .int (zI (0))])), (q5, .inr (7, [.ref q14, .ref q15, .ref q16, .ref q17, .int (zI (0)), .int (zI (0)), .int (zI (0)), .int (zI (0)), .int (zI (0))])), (q8, .inr (1, [.ref q18, .ref q19, .ref q20, .ref q21, .int (zI (0))])), (q10, .inr (3, [.ref q8, .ref q9, .ref q22, .ref q23, .ref q24, .ref q25, .ref q26, .ref q27, .int (zI (0))]))] sz) := by
  refine vv_start hf (by decide) (Nat.le_of_ble_eq_true rfl) ?_
  intro p e s m below meth c A C hnm
  refine vv_ldc2 (v := (58092 : Int64)) C dX10_digest_0 wm503 ?_
  refine vv_aload_n C 0 dX10_digest_3 rfl rfl ?_
  refine vv_get C 0 rfl rfl vi_X10 5 (by decide) wm329 rfl dX10_digest_4 ?_
  refine vv_get C 1 rfl rfl vi_X9 3 (by decide) wm198 rfl dX10_digest_7 ?_
  refine vv_i2l (z := (0 : Int64)) C dX10_digest_10 (by decide +kernel) ?_
  refine vv_callS (As := [.long (58092 : Int64), .long (0 : Int64)]) (rest := []) (wr := [(q1, .inr (9, [.ref q2, .ref q3, .ref q4, .ref q5, .ref q6, .ref q7, .ref q8, .ref q9, .ref q10])), (q7, .inr (8, [.ref q11, .ref q12, .ref q13, .int (zI (0))])), (q5, .inr (7, [.ref q14, .ref q15, .ref q16, .ref q17, .int (zI (0)), .int (zI (0)), .int (zI (0)), .int (zI (0)), .int (zI (0))])), (q8, .inr (1, [.ref q18, .ref q19, .ref q20, .ref q21, .int (zI (0))])), (q10, .inr (3, [.ref q8, .ref q9, .ref q22, .ref q23, .ref q24, .ref q25, .ref q26, .ref q27, .int (zI (0))]))]) (ws2 := fun u => [(q1, .inr (9, [.ref q2, .ref q3, .ref q4, .ref q5, .ref q6, .ref q7, .ref q8, .ref q9, .ref q10])), (q7, .inr (8, [.ref q11, .ref q12, .ref q13, .int (zI (0))])), (q5, .inr (7, [.ref q14, .ref q15, .ref q16, .ref q17, .int (zI (0)), .int (zI (0)), .int (zI (0)), .int (zI (0)), .int (zI (0))])), (q8, .inr (1, [.ref q18, .ref q19, .ref q20, .ref q21, .int (zI (0))])), (q10, .inr (3, [.ref q8, .ref q9, .ref q22, .ref q23, .ref q24, .ref q25, .ref q26, .ref q27, .int (zI (0))]))]) (isC := []) (isR := [0, 1, 2, 3, 4]) (isP := [0, 1, 2, 3, 4]) C (vv_cutI rfl rfl rfl rfl (by decide) (fun _ => rfl) rfl) (k426_X10_mixed l hf G ) yy_X10_mixed (vv_rmI rfl rfl (Nat.le_of_ble_eq_true rfl) (Nat.le_of_ble_eq_true rfl) (Nat.le_of_ble_eq_true rfl) (Nat.le_of_ble_eq_true rfl)) wm504 wm505 rfl rfl (Nat.le_of_ble_eq_true rfl) dX10_digest_11 (fun v u hp => ?_)
  obtain rfl := hp
  refine vv_nrm (ws1 := [(q1, .inr (9, [.ref q2, .ref q3, .ref q4, .ref q5, .ref q6, .ref q7, .ref q8, .ref q9, .ref q10])), (q7, .inr (8, [.ref q11, .ref q12, .ref q13, .int (zI (0))])), (q5, .inr (7, [.ref q14, .ref q15, .ref q16, .ref q17, .int (zI (0)), .int (zI (0)), .int (zI (0)), .int (zI (0)), .int (zI (0))])), (q8, .inr (1, [.ref q18, .ref q19, .ref q20, .ref q21, .int (zI (0))])), (q10, .inr (3, [.ref q8, .ref q9, .ref q22, .ref q23, .ref q24, .ref q25, .ref q26, .ref q27, .int (zI (0))]))]) (st1 := [.long (1800852 : Int64)]) rfl rfl ?_
  refine vv_lstore_n (loc1 := [(1, .long (1800852 : Int64)), (0, .ref q1)]) C dX10_digest_14 rfl (by decide) rfl ?_
  refine vv_iconst (v := zI (0)) C dX10_digest_15 rfl ?_
  refine vv_istore_n (loc1 := [(3, .int (zI (0))), (1, .long (1800852 : Int64)), (0, .ref q1)]) C dX10_digest_16 rfl (by decide) rfl ?_
  refine vv_iload_n C 0 dX10_digest_17 rfl rfl ?_
  refine vv_iconst (v := zI (4)) C dX10_digest_18 rfl ?_
  refine vv_icmp_gt (tgt := 42) C dX10_digest_19 (by decide) (by omega) (by omega) (fun h => by exfalso; omega) (fun h => ?_)
  refine vv_lload_n C 1 dX10_digest_22 rfl rfl ?_
  refine vv_aload_n C 2 dX10_digest_23 rfl rfl ?_
  refine vv_get C 0 rfl rfl vi_X10 3 (by decide) wm327 rfl dX10_digest_24 ?_
  refine vv_iload_n C 0 dX10_digest_27 rfl rfl ?_
  refine vv_callV (As := [.int (zI (0))]) (rest := [.long (1800852 : Int64)]) (wr := [(q1, .inr (9, [.ref q2, .ref q3, .ref q4, .ref q5, .ref q6, .ref q7, .ref q8, .ref q9, .ref q10])), (q7, .inr (8, [.ref q11, .ref q12, .ref q13, .int (zI (0))])), (q8, .inr (1, [.ref q18, .ref q19, .ref q20, .ref q21, .int (zI (0))])), (q10, .inr (3, [.ref q8, .ref q9, .ref q22, .ref q23, .ref q24, .ref q25, .ref q26, .ref q27, .int (zI (0))]))]) (ws2 := fun u => [(q1, .inr (9, [.ref q2, .ref q3, .ref q4, .ref q5, .ref q6, .ref q7, .ref q8, .ref q9, .ref q10])), (q7, .inr (8, [.ref q11, .ref q12, .ref q13, .int (zI (0))])), (q5, .inr (7, [.ref q14, .ref q15, .ref q16, .ref q17, .int (zI (0)), .int (zI (0)), .int (zI (0)), .int (zI (0)), .int (zI (0))])), (q8, .inr (1, [.ref q18, .ref q19, .ref q20, .ref q21, .int (zI (0))])), (q10, .inr (3, [.ref q8, .ref q9, .ref q22, .ref q23, .ref q24, .ref q25, .ref q26, .ref q27, .int (zI (0))]))]) (isC := [2]) (isR := [0, 1, 3, 4]) (isP := [0, 1, 4, 2, 3]) C (vv_cutI rfl rfl rfl rfl (by decide) (fun _ => rfl) rfl) (k201_X8_counted l hf G q5 q14 q15 q16 q17) yy_X8_counted (vv_rmI rfl rfl (Nat.le_of_ble_eq_true rfl) (Nat.le_of_ble_eq_true rfl) (Nat.le_of_ble_eq_true rfl) (Nat.le_of_ble_eq_true rfl)) wm508 wm509 wm510 0 rfl rfl rfl rfl (Nat.le_of_ble_eq_true rfl) dX10_digest_28 (fun v u hp => ?_)
  obtain rfl := hp
  refine vv_nrm (ws1 := [(q1, .inr (9, [.ref q2, .ref q3, .ref q4, .ref q5, .ref q6, .ref q7, .ref q8, .ref q9, .ref q10])), (q7, .inr (8, [.ref q11, .ref q12, .ref q13, .int (zI (0))])), (q5, .inr (7, [.ref q14, .ref q15, .ref q16, .ref q17, .int (zI (0)), .int (zI (0)), .int (zI (0)), .int (zI (0)), .int (zI (0))])), (q8, .inr (1, [.ref q18, .ref q19, .ref q20, .ref q21, .int (zI (0))])), (q10, .inr (3, [.ref q8, .ref q9, .ref q22, .ref q23, .ref q24, .ref q25, .ref q26, .ref q27, .int (zI (0))]))]) (st1 := [.int (zI (0)), .long (1800852 : Int64)]) rfl rfl ?_
  refine vv_i2l (z := (0 : Int64)) C dX10_digest_31 (by decide +kernel) ?_
  refine vv_callS (As := [.long (1800852 : Int64), .long (0 : Int64)]) (rest := []) (wr := [(q1, .inr (9, [.ref q2, .ref q3, .ref q4, .ref q5, .ref q6, .ref q7, .ref q8, .ref q9, .ref q10])), (q7, .inr (8, [.ref q11, .ref q12, .ref q13, .int (zI (0))])), (q5, .inr (7, [.ref q14, .ref q15, .ref q16, .ref q17, .int (zI (0)), .int (zI (0)), .int (zI (0)), .int (zI (0)), .int (zI (0))])), (q8, .inr (1, [.ref q18, .ref q19, .ref q20, .ref q21, .int (zI (0))])), (q10, .inr (3, [.ref q8, .ref q9, .ref q22, .ref q23, .ref q24, .ref q25, .ref q26, .ref q27, .int (zI (0))]))]) (ws2 := fun u => [(q1, .inr (9, [.ref q2, .ref q3, .ref q4, .ref q5, .ref q6, .ref q7, .ref q8, .ref q9, .ref q10])), (q7, .inr (8, [.ref q11, .ref q12, .ref q13, .int (zI (0))])), (q5, .inr (7, [.ref q14, .ref q15, .ref q16, .ref q17, .int (zI (0)), .int (zI (0)), .int (zI (0)), .int (zI (0)), .int (zI (0))])), (q8, .inr (1, [.ref q18, .ref q19, .ref q20, .ref q21, .int (zI (0))])), (q10, .inr (3, [.ref q8, .ref q9, .ref q22, .ref q23, .ref q24, .ref q25, .ref q26, .ref q27, .int (zI (0))]))]) (isC := []) (isR := [0, 1, 2, 3, 4]) (isP := [0, 1, 2, 3, 4]) C (vv_cutI rfl rfl rfl rfl (by decide) (fun _ => rfl) rfl) (k427_X10_mixed l hf G ) yy_X10_mixed (vv_rmI rfl rfl (Nat.le_of_ble_eq_true rfl) (Nat.le_of_ble_eq_true rfl) (Nat.le_of_ble_eq_true rfl) (Nat.le_of_ble_eq_true rfl)) wm504 wm505 rfl rfl (Nat.le_of_ble_eq_true rfl) dX10_digest_32 (fun v u hp => ?_)
  obtain rfl := hp
  refine vv_nrm (ws1 := [(q1, .inr (9, [.ref q2, .ref q3, .ref q4, .ref q5, .ref q6, .ref q7, .ref q8, .ref q9, .ref q10])), (q7, .inr (8, [.ref q11, .ref q12, .ref q13, .int (zI (0))])), (q5, .inr (7, [.ref q14, .ref q15, .ref q16, .ref q17, .int (zI (0)), .int (zI (0)), .int (zI (0)), .int (zI (0)), .int (zI (0))])), (q8, .inr (1, [.ref q18, .ref q19, .ref q20, .ref q21, .int (zI (0))])), (q10, .inr (3, [.ref q8, .ref q9, .ref q22, .ref q23, .ref q24, .ref q25, .ref q26, .ref q27, .int (zI (0))]))]) (st1 := [.long (55826412 : Int64)]) rfl rfl ?_
  refine vv_lstore_n (loc1 := [(1, .long (55826412 : Int64)), (3, .int (zI (0))), (0, .ref q1)]) C dX10_digest_35 rfl (by decide) rfl ?_
  refine vv_iinc (v := zI (1)) (loc1 := [(3, .int (zI (1))), (1, .long (55826412 : Int64)), (0, .ref q1)]) C 1 dX10_digest_36 rfl ((zI_add _ _).trans (zI_c (by omega))) (by decide) rfl ?_
  refine vv_goto C 17 dX10_digest_39 (by decide) ?_
  refine vv_iload_n C 0 dX10_digest_17 rfl rfl ?_
  refine vv_iconst (v := zI (4)) C dX10_digest_18 rfl ?_
  refine vv_icmp_gt (tgt := 42) C dX10_digest_19 (by decide) (by omega) (by omega) (fun h => by exfalso; omega) (fun h => ?_)
  refine vv_lload_n C 1 dX10_digest_22 rfl rfl ?_
  refine vv_aload_n C 2 dX10_digest_23 rfl rfl ?_
  refine vv_get C 0 rfl rfl vi_X10 3 (by decide) wm327 rfl dX10_digest_24 ?_
  refine vv_iload_n C 0 dX10_digest_27 rfl rfl ?_
  refine vv_callV (As := [.int (zI (1))]) (rest := [.long (55826412 : Int64)]) (wr := [(q1, .inr (9, [.ref q2, .ref q3, .ref q4, .ref q5, .ref q6, .ref q7, .ref q8, .ref q9, .ref q10])), (q7, .inr (8, [.ref q11, .ref q12, .ref q13, .int (zI (0))])), (q8, .inr (1, [.ref q18, .ref q19, .ref q20, .ref q21, .int (zI (0))])), (q10, .inr (3, [.ref q8, .ref q9, .ref q22, .ref q23, .ref q24, .ref q25, .ref q26, .ref q27, .int (zI (0))]))]) (ws2 := fun u => [(q1, .inr (9, [.ref q2, .ref q3, .ref q4, .ref q5, .ref q6, .ref q7, .ref q8, .ref q9, .ref q10])), (q7, .inr (8, [.ref q11, .ref q12, .ref q13, .int (zI (0))])), (q5, .inr (7, [.ref q14, .ref q15, .ref q16, .ref q17, .int (zI (0)), .int (zI (0)), .int (zI (0)), .int (zI (0)), .int (zI (0))])), (q8, .inr (1, [.ref q18, .ref q19, .ref q20, .ref q21, .int (zI (0))])), (q10, .inr (3, [.ref q8, .ref q9, .ref q22, .ref q23, .ref q24, .ref q25, .ref q26, .ref q27, .int (zI (0))]))]) (isC := [2]) (isR := [0, 1, 3, 4]) (isP := [0, 1, 4, 2, 3]) C (vv_cutI rfl rfl rfl rfl (by decide) (fun _ => rfl) rfl) (k207_X8_counted l hf G q5 q14 q15 q16 q17) yy_X8_counted (vv_rmI rfl rfl (Nat.le_of_ble_eq_true rfl) (Nat.le_of_ble_eq_true rfl) (Nat.le_of_ble_eq_true rfl) (Nat.le_of_ble_eq_true rfl)) wm508 wm509 wm510 0 rfl rfl rfl rfl (Nat.le_of_ble_eq_true rfl) dX10_digest_28 (fun v u hp => ?_)
  obtain rfl := hp
  refine vv_nrm (ws1 := [(q1, .inr (9, [.ref q2, .ref q3, .ref q4, .ref q5, .ref q6, .ref q7, .ref q8, .ref q9, .ref q10])), (q7, .inr (8, [.ref q11, .ref q12, .ref q13, .int (zI (0))])), (q5, .inr (7, [.ref q14, .ref q15, .ref q16, .ref q17, .int (zI (0)), .int (zI (0)), .int (zI (0)), .int (zI (0)), .int (zI (0))])), (q8, .inr (1, [.ref q18, .ref q19, .ref q20, .ref q21, .int (zI (0))])), (q10, .inr (3, [.ref q8, .ref q9, .ref q22, .ref q23, .ref q24, .ref q25, .ref q26, .ref q27, .int (zI (0))]))]) (st1 := [.int (zI (0)), .long (55826412 : Int64)]) rfl rfl ?_
  refine vv_i2l (z := (0 : Int64)) C dX10_digest_31 (by decide +kernel) ?_
  refine vv_callS (As := [.long (55826412 : Int64), .long (0 : Int64)]) (rest := []) (wr := [(q1, .inr (9, [.ref q2, .ref q3, .ref q4, .ref q5, .ref q6, .ref q7, .ref q8, .ref q9, .ref q10])), (q7, .inr (8, [.ref q11, .ref q12, .ref q13, .int (zI (0))])), (q5, .inr (7, [.ref q14, .ref q15, .ref q16, .ref q17, .int (zI (0)), .int (zI (0)), .int (zI (0)), .int (zI (0)), .int (zI (0))])), (q8, .inr (1, [.ref q18, .ref q19, .ref q20, .ref q21, .int (zI (0))])), (q10, .inr (3, [.ref q8, .ref q9, .ref q22, .ref q23, .ref q24, .ref q25, .ref q26, .ref q27, .int (zI (0))]))]) (ws2 := fun u => [(q1, .inr (9, [.ref q2, .ref q3, .ref q4, .ref q5, .ref q6, .ref q7, .ref q8, .ref q9, .ref q10])), (q7, .inr (8, [.ref q11, .ref q12, .ref q13, .int (zI (0))])), (q5, .inr (7, [.ref q14, .ref q15, .ref q16, .ref q17, .int (zI (0)), .int (zI (0)), .int (zI (0)), .int (zI (0)), .int (zI (0))])), (q8, .inr (1, [.ref q18, .ref q19, .ref q20, .ref q21, .int (zI (0))])), (q10, .inr (3, [.ref q8, .ref q9, .ref q22, .ref q23, .ref q24, .ref q25, .ref q26, .ref q27, .int (zI (0))]))]) (isC := []) (isR := [0, 1, 2, 3, 4]) (isP := [0, 1, 2, 3, 4]) C (vv_cutI rfl rfl rfl rfl (by decide) (fun _ => rfl) rfl) (k428_X10_mixed l hf G ) yy_X10_mixed (vv_rmI rfl rfl (Nat.le_of_ble_eq_true rfl) (Nat.le_of_ble_eq_true rfl) (Nat.le_of_ble_eq_true rfl) (Nat.le_of_ble_eq_true rfl)) wm504 wm505 rfl rfl (Nat.le_of_ble_eq_true rfl) dX10_digest_32 (fun v u hp => ?_)
  obtain rfl := hp
  refine vv_nrm (ws1 := [(q1, .inr (9, [.ref q2, .ref q3, .ref q4, .ref q5, .ref q6, .ref q7, .ref q8, .ref q9, .ref q10])), (q7, .inr (8, [.ref q11, .ref q12, .ref q13, .int (zI (0))])), (q5, .inr (7, [.ref q14, .ref q15, .ref q16, .ref q17, .int (zI (0)), .int (zI (0)), .int (zI (0)), .int (zI (0)), .int (zI (0))])), (q8, .inr (1, [.ref q18, .ref q19, .ref q20, .ref q21, .int (zI (0))])), (q10, .inr (3, [.ref q8, .ref q9, .ref q22, .ref q23, .ref q24, .ref q25, .ref q26, .ref q27, .int (zI (0))]))]) (st1 := [.long (1730618772 : Int64)]) rfl rfl ?_
  refine vv_lstore_n (loc1 := [(1, .long (1730618772 : Int64)), (3, .int (zI (1))), (0, .ref q1)]) C dX10_digest_35 rfl (by decide) rfl ?_
  refine vv_iinc (v := zI (2)) (loc1 := [(3, .int (zI (2))), (1, .long (1730618772 : Int64)), (0, .ref q1)]) C 1 dX10_digest_36 rfl ((zI_add _ _).trans (zI_c (by omega))) (by decide) rfl ?_
  refine vv_goto C 17 dX10_digest_39 (by decide) ?_
  refine vv_iload_n C 0 dX10_digest_17 rfl rfl ?_
  refine vv_iconst (v := zI (4)) C dX10_digest_18 rfl ?_
  refine vv_icmp_gt (tgt := 42) C dX10_digest_19 (by decide) (by omega) (by omega) (fun h => by exfalso; omega) (fun h => ?_)
  refine vv_lload_n C 1 dX10_digest_22 rfl rfl ?_
  refine vv_aload_n C 2 dX10_digest_23 rfl rfl ?_
  refine vv_get C 0 rfl rfl vi_X10 3 (by decide) wm327 rfl dX10_digest_24 ?_
  refine vv_iload_n C 0 dX10_digest_27 rfl rfl ?_
  refine vv_callV (As := [.int (zI (2))]) (rest := [.long (1730618772 : Int64)]) (wr := [(q1, .inr (9, [.ref q2, .ref q3, .ref q4, .ref q5, .ref q6, .ref q7, .ref q8, .ref q9, .ref q10])), (q7, .inr (8, [.ref q11, .ref q12, .ref q13, .int (zI (0))])), (q8, .inr (1, [.ref q18, .ref q19, .ref q20, .ref q21, .int (zI (0))])), (q10, .inr (3, [.ref q8, .ref q9, .ref q22, .ref q23, .ref q24, .ref q25, .ref q26, .ref q27, .int (zI (0))]))]) (ws2 := fun u => [(q1, .inr (9, [.ref q2, .ref q3, .ref q4, .ref q5, .ref q6, .ref q7, .ref q8, .ref q9, .ref q10])), (q7, .inr (8, [.ref q11, .ref q12, .ref q13, .int (zI (0))])), (q5, .inr (7, [.ref q14, .ref q15, .ref q16, .ref q17, .int (zI (0)), .int (zI (0)), .int (zI (0)), .int (zI (0)), .int (zI (0))])), (q8, .inr (1, [.ref q18, .ref q19, .ref q20, .ref q21, .int (zI (0))])), (q10, .inr (3, [.ref q8, .ref q9, .ref q22, .ref q23, .ref q24, .ref q25, .ref q26, .ref q27, .int (zI (0))]))]) (isC := [2]) (isR := [0, 1, 3, 4]) (isP := [0, 1, 4, 2, 3]) C (vv_cutI rfl rfl rfl rfl (by decide) (fun _ => rfl) rfl) (k213_X8_counted l hf G q5 q14 q15 q16 q17) yy_X8_counted (vv_rmI rfl rfl (Nat.le_of_ble_eq_true rfl) (Nat.le_of_ble_eq_true rfl) (Nat.le_of_ble_eq_true rfl) (Nat.le_of_ble_eq_true rfl)) wm508 wm509 wm510 0 rfl rfl rfl rfl (Nat.le_of_ble_eq_true rfl) dX10_digest_28 (fun v u hp => ?_)
  obtain rfl := hp
  refine vv_nrm (ws1 := [(q1, .inr (9, [.ref q2, .ref q3, .ref q4, .ref q5, .ref q6, .ref q7, .ref q8, .ref q9, .ref q10])), (q7, .inr (8, [.ref q11, .ref q12, .ref q13, .int (zI (0))])), (q5, .inr (7, [.ref q14, .ref q15, .ref q16, .ref q17, .int (zI (0)), .int (zI (0)), .int (zI (0)), .int (zI (0)), .int (zI (0))])), (q8, .inr (1, [.ref q18, .ref q19, .ref q20, .ref q21, .int (zI (0))])), (q10, .inr (3, [.ref q8, .ref q9, .ref q22, .ref q23, .ref q24, .ref q25, .ref q26, .ref q27, .int (zI (0))]))]) (st1 := [.int (zI (0)), .long (1730618772 : Int64)]) rfl rfl ?_
  refine vv_i2l (z := (0 : Int64)) C dX10_digest_31 (by decide +kernel) ?_
  refine vv_callS (As := [.long (1730618772 : Int64), .long (0 : Int64)]) (rest := []) (wr := [(q1, .inr (9, [.ref q2, .ref q3, .ref q4, .ref q5, .ref q6, .ref q7, .ref q8, .ref q9, .ref q10])), (q7, .inr (8, [.ref q11, .ref q12, .ref q13, .int (zI (0))])), (q5, .inr (7, [.ref q14, .ref q15, .ref q16, .ref q17, .int (zI (0)), .int (zI (0)), .int (zI (0)), .int (zI (0)), .int (zI (0))])), (q8, .inr (1, [.ref q18, .ref q19, .ref q20, .ref q21, .int (zI (0))])), (q10, .inr (3, [.ref q8, .ref q9, .ref q22, .ref q23, .ref q24, .ref q25, .ref q26, .ref q27, .int (zI (0))]))]) (ws2 := fun u => [(q1, .inr (9, [.ref q2, .ref q3, .ref q4, .ref q5, .ref q6, .ref q7, .ref q8, .ref q9, .ref q10])), (q7, .inr (8, [.ref q11, .ref q12, .ref q13, .int (zI (0))])), (q5, .inr (7, [.ref q14, .ref q15, .ref q16, .ref q17, .int (zI (0)), .int (zI (0)), .int (zI (0)), .int (zI (0)), .int (zI (0))])), (q8, .inr (1, [.ref q18, .ref q19, .ref q20, .ref q21, .int (zI (0))])), (q10, .inr (3, [.ref q8, .ref q9, .ref q22, .ref q23, .ref q24, .ref q25, .ref q26, .ref q27, .int (zI (0))]))]) (isC := []) (isR := [0, 1, 2, 3, 4]) (isP := [0, 1, 2, 3, 4]) C (vv_cutI rfl rfl rfl rfl (by decide) (fun _ => rfl) rfl) (k429_X10_mixed l hf G ) yy_X10_mixed (vv_rmI rfl rfl (Nat.le_of_ble_eq_true rfl) (Nat.le_of_ble_eq_true rfl) (Nat.le_of_ble_eq_true rfl) (Nat.le_of_ble_eq_true rfl)) wm504 wm505 rfl rfl (Nat.le_of_ble_eq_true rfl) dX10_digest_32 (fun v u hp => ?_)
  obtain rfl := hp
  refine vv_nrm (ws1 := [(q1, .inr (9, [.ref q2, .ref q3, .ref q4, .ref q5, .ref q6, .ref q7, .ref q8, .ref q9, .ref q10])), (q7, .inr (8, [.ref q11, .ref q12, .ref q13, .int (zI (0))])), (q5, .inr (7, [.ref q14, .ref q15, .ref q16, .ref q17, .int (zI (0)), .int (zI (0)), .int (zI (0)), .int (zI (0)), .int (zI (0))])), (q8, .inr (1, [.ref q18, .ref q19, .ref q20, .ref q21, .int (zI (0))])), (q10, .inr (3, [.ref q8, .ref q9, .ref q22, .ref q23, .ref q24, .ref q25, .ref q26, .ref q27, .int (zI (0))]))]) (st1 := [.long (53649181932 : Int64)]) rfl rfl ?_
  refine vv_lstore_n (loc1 := [(1, .long (53649181932 : Int64)), (3, .int (zI (2))), (0, .ref q1)]) C dX10_digest_35 rfl (by decide) rfl ?_
  refine vv_iinc (v := zI (3)) (loc1 := [(3, .int (zI (3))), (1, .long (53649181932 : Int64)), (0, .ref q1)]) C 1 dX10_digest_36 rfl ((zI_add _ _).trans (zI_c (by omega))) (by decide) rfl ?_
  refine vv_goto C 17 dX10_digest_39 (by decide) ?_
  refine vv_iload_n C 0 dX10_digest_17 rfl rfl ?_
  refine vv_iconst (v := zI (4)) C dX10_digest_18 rfl ?_
  refine vv_icmp_gt (tgt := 42) C dX10_digest_19 (by decide) (by omega) (by omega) (fun h => by exfalso; omega) (fun h => ?_)
  refine vv_lload_n C 1 dX10_digest_22 rfl rfl ?_
  refine vv_aload_n C 2 dX10_digest_23 rfl rfl ?_
  refine vv_get C 0 rfl rfl vi_X10 3 (by decide) wm327 rfl dX10_digest_24 ?_
  refine vv_iload_n C 0 dX10_digest_27 rfl rfl ?_
  refine vv_callV (As := [.int (zI (3))]) (rest := [.long (53649181932 : Int64)]) (wr := [(q1, .inr (9, [.ref q2, .ref q3, .ref q4, .ref q5, .ref q6, .ref q7, .ref q8, .ref q9, .ref q10])), (q7, .inr (8, [.ref q11, .ref q12, .ref q13, .int (zI (0))])), (q8, .inr (1, [.ref q18, .ref q19, .ref q20, .ref q21, .int (zI (0))])), (q10, .inr (3, [.ref q8, .ref q9, .ref q22, .ref q23, .ref q24, .ref q25, .ref q26, .ref q27, .int (zI (0))]))]) (ws2 := fun u => [(q1, .inr (9, [.ref q2, .ref q3, .ref q4, .ref q5, .ref q6, .ref q7, .ref q8, .ref q9, .ref q10])), (q7, .inr (8, [.ref q11, .ref q12, .ref q13, .int (zI (0))])), (q5, .inr (7, [.ref q14, .ref q15, .ref q16, .ref q17, .int (zI (0)), .int (zI (0)), .int (zI (0)), .int (zI (0)), .int (zI (0))])), (q8, .inr (1, [.ref q18, .ref q19, .ref q20, .ref q21, .int (zI (0))])), (q10, .inr (3, [.ref q8, .ref q9, .ref q22, .ref q23, .ref q24, .ref q25, .ref q26, .ref q27, .int (zI (0))]))]) (isC := [2]) (isR := [0, 1, 3, 4]) (isP := [0, 1, 4, 2, 3]) C (vv_cutI rfl rfl rfl rfl (by decide) (fun _ => rfl) rfl) (k219_X8_counted l hf G q5 q14 q15 q16 q17) yy_X8_counted (vv_rmI rfl rfl (Nat.le_of_ble_eq_true rfl) (Nat.le_of_ble_eq_true rfl) (Nat.le_of_ble_eq_true rfl) (Nat.le_of_ble_eq_true rfl)) wm508 wm509 wm510 0 rfl rfl rfl rfl (Nat.le_of_ble_eq_true rfl) dX10_digest_28 (fun v u hp => ?_)
  obtain rfl := hp
  refine vv_nrm (ws1 := [(q1, .inr (9, [.ref q2, .ref q3, .ref q4, .ref q5, .ref q6, .ref q7, .ref q8, .ref q9, .ref q10])), (q7, .inr (8, [.ref q11, .ref q12, .ref q13, .int (zI (0))])), (q5, .inr (7, [.ref q14, .ref q15, .ref q16, .ref q17, .int (zI (0)), .int (zI (0)), .int (zI (0)), .int (zI (0)), .int (zI (0))])), (q8, .inr (1, [.ref q18, .ref q19, .ref q20, .ref q21, .int (zI (0))])), (q10, .inr (3, [.ref q8, .ref q9, .ref q22, .ref q23, .ref q24, .ref q25, .ref q26, .ref q27, .int (zI (0))]))]) (st1 := [.int (zI (0)), .long (53649181932 : Int64)]) rfl rfl ?_
  refine vv_i2l (z := (0 : Int64)) C dX10_digest_31 (by decide +kernel) ?_
  refine vv_callS (As := [.long (53649181932 : Int64), .long (0 : Int64)]) (rest := []) (wr := [(q1, .inr (9, [.ref q2, .ref q3, .ref q4, .ref q5, .ref q6, .ref q7, .ref q8, .ref q9, .ref q10])), (q7, .inr (8, [.ref q11, .ref q12, .ref q13, .int (zI (0))])), (q5, .inr (7, [.ref q14, .ref q15, .ref q16, .ref q17, .int (zI (0)), .int (zI (0)), .int (zI (0)), .int (zI (0)), .int (zI (0))])), (q8, .inr (1, [.ref q18, .ref q19, .ref q20, .ref q21, .int (zI (0))])), (q10, .inr (3, [.ref q8, .ref q9, .ref q22, .ref q23, .ref q24, .ref q25, .ref q26, .ref q27, .int (zI (0))]))]) (ws2 := fun u => [(q1, .inr (9, [.ref q2, .ref q3, .ref q4, .ref q5, .ref q6, .ref q7, .ref q8, .ref q9, .ref q10])), (q7, .inr (8, [.ref q11, .ref q12, .ref q13, .int (zI (0))])), (q5, .inr (7, [.ref q14, .ref q15, .ref q16, .ref q17, .int (zI (0)), .int (zI (0)), .int (zI (0)), .int (zI (0)), .int (zI (0))])), (q8, .inr (1, [.ref q18, .ref q19, .ref q20, .ref q21, .int (zI (0))])), (q10, .inr (3, [.ref q8, .ref q9, .ref q22, .ref q23, .ref q24, .ref q25, .ref q26, .ref q27, .int (zI (0))]))]) (isC := []) (isR := [0, 1, 2, 3, 4]) (isP := [0, 1, 2, 3, 4]) C (vv_cutI rfl rfl rfl rfl (by decide) (fun _ => rfl) rfl) (k430_X10_mixed l hf G ) yy_X10_mixed (vv_rmI rfl rfl (Nat.le_of_ble_eq_true rfl) (Nat.le_of_ble_eq_true rfl) (Nat.le_of_ble_eq_true rfl) (Nat.le_of_ble_eq_true rfl)) wm504 wm505 rfl rfl (Nat.le_of_ble_eq_true rfl) dX10_digest_32 (fun v u hp => ?_)
  obtain rfl := hp
  refine vv_nrm (ws1 := [(q1, .inr (9, [.ref q2, .ref q3, .ref q4, .ref q5, .ref q6, .ref q7, .ref q8, .ref q9, .ref q10])), (q7, .inr (8, [.ref q11, .ref q12, .ref q13, .int (zI (0))])), (q5, .inr (7, [.ref q14, .ref q15, .ref q16, .ref q17, .int (zI (0)), .int (zI (0)), .int (zI (0)), .int (zI (0)), .int (zI (0))])), (q8, .inr (1, [.ref q18, .ref q19, .ref q20, .ref q21, .int (zI (0))])), (q10, .inr (3, [.ref q8, .ref q9, .ref q22, .ref q23, .ref q24, .ref q25, .ref q26, .ref q27, .int (zI (0))]))]) (st1 := [.long (1663124639892 : Int64)]) rfl rfl ?_
  refine vv_lstore_n (loc1 := [(1, .long (1663124639892 : Int64)), (3, .int (zI (3))), (0, .ref q1)]) C dX10_digest_35 rfl (by decide) rfl ?_
  refine vv_iinc (v := zI (4)) (loc1 := [(3, .int (zI (4))), (1, .long (1663124639892 : Int64)), (0, .ref q1)]) C 1 dX10_digest_36 rfl ((zI_add _ _).trans (zI_c (by omega))) (by decide) rfl ?_
  refine vv_goto C 17 dX10_digest_39 (by decide) ?_
  refine vv_iload_n C 0 dX10_digest_17 rfl rfl ?_
  refine vv_iconst (v := zI (4)) C dX10_digest_18 rfl ?_
  refine vv_icmp_gt (tgt := 42) C dX10_digest_19 (by decide) (by omega) (by omega) (fun h => by exfalso; omega) (fun h => ?_)
  refine vv_lload_n C 1 dX10_digest_22 rfl rfl ?_
  refine vv_aload_n C 2 dX10_digest_23 rfl rfl ?_
  refine vv_get C 0 rfl rfl vi_X10 3 (by decide) wm327 rfl dX10_digest_24 ?_
  refine vv_iload_n C 0 dX10_digest_27 rfl rfl ?_
  refine vv_callV (As := [.int (zI (4))]) (rest := [.long (1663124639892 : Int64)]) (wr := [(q1, .inr (9, [.ref q2, .ref q3, .ref q4, .ref q5, .ref q6, .ref q7, .ref q8, .ref q9, .ref q10])), (q7, .inr (8, [.ref q11, .ref q12, .ref q13, .int (zI (0))])), (q8, .inr (1, [.ref q18, .ref q19, .ref q20, .ref q21, .int (zI (0))])), (q10, .inr (3, [.ref q8, .ref q9, .ref q22, .ref q23, .ref q24, .ref q25, .ref q26, .ref q27, .int (zI (0))]))]) (ws2 := fun u => [(q1, .inr (9, [.ref q2, .ref q3, .ref q4, .ref q5, .ref q6, .ref q7, .ref q8, .ref q9, .ref q10])), (q7, .inr (8, [.ref q11, .ref q12, .ref q13, .int (zI (0))])), (q5, .inr (7, [.ref q14, .ref q15, .ref q16, .ref q17, .int (zI (0)), .int (zI (0)), .int (zI (0)), .int (zI (0)), .int (zI (0))])), (q8, .inr (1, [.ref q18, .ref q19, .ref q20, .ref q21, .int (zI (0))])), (q10, .inr (3, [.ref q8, .ref q9, .ref q22, .ref q23, .ref q24, .ref q25, .ref q26, .ref q27, .int (zI (0))]))]) (isC := [2]) (isR := [0, 1, 3, 4]) (isP := [0, 1, 4, 2, 3]) C (vv_cutI rfl rfl rfl rfl (by decide) (fun _ => rfl) rfl) (k225_X8_counted l hf G q5 q14 q15 q16 q17) yy_X8_counted (vv_rmI rfl rfl (Nat.le_of_ble_eq_true rfl) (Nat.le_of_ble_eq_true rfl) (Nat.le_of_ble_eq_true rfl) (Nat.le_of_ble_eq_true rfl)) wm508 wm509 wm510 0 rfl rfl rfl rfl (Nat.le_of_ble_eq_true rfl) dX10_digest_28 (fun v u hp => ?_)
  obtain rfl := hp
  refine vv_nrm (ws1 := [(q1, .inr (9, [.ref q2, .ref q3, .ref q4, .ref q5, .ref q6, .ref q7, .ref q8, .ref q9, .ref q10])), (q7, .inr (8, [.ref q11, .ref q12, .ref q13, .int (zI (0))])), (q5, .inr (7, [.ref q14, .ref q15, .ref q16, .ref q17, .int (zI (0)), .int (zI (0)), .int (zI (0)), .int (zI (0)), .int (zI (0))])), (q8, .inr (1, [.ref q18, .ref q19, .ref q20, .ref q21, .int (zI (0))])), (q10, .inr (3, [.ref q8, .ref q9, .ref q22, .ref q23, .ref q24, .ref q25, .ref q26, .ref q27, .int (zI (0))]))]) (st1 := [.int (zI (0)), .long (1663124639892 : Int64)]) rfl rfl ?_
  refine vv_i2l (z := (0 : Int64)) C dX10_digest_31 (by decide +kernel) ?_
  refine vv_callS (As := [.long (1663124639892 : Int64), .long (0 : Int64)]) (rest := []) (wr := [(q1, .inr (9, [.ref q2, .ref q3, .ref q4, .ref q5, .ref q6, .ref q7, .ref q8, .ref q9, .ref q10])), (q7, .inr (8, [.ref q11, .ref q12, .ref q13, .int (zI (0))])), (q5, .inr (7, [.ref q14, .ref q15, .ref q16, .ref q17, .int (zI (0)), .int (zI (0)), .int (zI (0)), .int (zI (0)), .int (zI (0))])), (q8, .inr (1, [.ref q18, .ref q19, .ref q20, .ref q21, .int (zI (0))])), (q10, .inr (3, [.ref q8, .ref q9, .ref q22, .ref q23, .ref q24, .ref q25, .ref q26, .ref q27, .int (zI (0))]))]) (ws2 := fun u => [(q1, .inr (9, [.ref q2, .ref q3, .ref q4, .ref q5, .ref q6, .ref q7, .ref q8, .ref q9, .ref q10])), (q7, .inr (8, [.ref q11, .ref q12, .ref q13, .int (zI (0))])), (q5, .inr (7, [.ref q14, .ref q15, .ref q16, .ref q17, .int (zI (0)), .int (zI (0)), .int (zI (0)), .int (zI (0)), .int (zI (0))])), (q8, .inr (1, [.ref q18, .ref q19, .ref q20, .ref q21, .int (zI (0))])), (q10, .inr (3, [.ref q8, .ref q9, .ref q22, .ref q23, .ref q24, .ref q25, .ref q26, .ref q27, .int (zI (0))]))]) (isC := []) (isR := [0, 1, 2, 3, 4]) (isP := [0, 1, 2, 3, 4]) C (vv_cutI rfl rfl rfl rfl (by decide) (fun _ => rfl) rfl) (k431_X10_mixed l hf G ) yy_X10_mixed (vv_rmI rfl rfl (Nat.le_of_ble_eq_true rfl) (Nat.le_of_ble_eq_true rfl) (Nat.le_of_ble_eq_true rfl) (Nat.le_of_ble_eq_true rfl)) wm504 wm505 rfl rfl (Nat.le_of_ble_eq_true rfl) dX10_digest_32 (fun v u hp => ?_)
  obtain rfl := hp
  refine vv_nrm (ws1 := [(q1, .inr (9, [.ref q2, .ref q3, .ref q4, .ref q5, .ref q6, .ref q7, .ref q8, .ref q9, .ref q10])), (q7, .inr (8, [.ref q11, .ref q12, .ref q13, .int (zI (0))])), (q5, .inr (7, [.ref q14, .ref q15, .ref q16, .ref q17, .int (zI (0)), .int (zI (0)), .int (zI (0)), .int (zI (0)), .int (zI (0))])), (q8, .inr (1, [.ref q18, .ref q19, .ref q20, .ref q21, .int (zI (0))])), (q10, .inr (3, [.ref q8, .ref q9, .ref q22, .ref q23, .ref q24, .ref q25, .ref q26, .ref q27, .int (zI (0))]))]) (st1 := [.long (51556863836652 : Int64)]) rfl rfl ?_
  refine vv_lstore_n (loc1 := [(1, .long (51556863836652 : Int64)), (3, .int (zI (4))), (0, .ref q1)]) C dX10_digest_35 rfl (by decide) rfl ?_
  refine vv_iinc (v := zI (5)) (loc1 := [(3, .int (zI (5))), (1, .long (51556863836652 : Int64)), (0, .ref q1)]) C 1 dX10_digest_36 rfl ((zI_add _ _).trans (zI_c (by omega))) (by decide) rfl ?_
  refine vv_goto C 17 dX10_digest_39 (by decide) ?_
  refine vv_iload_n C 0 dX10_digest_17 rfl rfl ?_
  refine vv_iconst (v := zI (4)) C dX10_digest_18 rfl ?_
  refine vv_icmp_gt (tgt := 42) C dX10_digest_19 (by decide) (by omega) (by omega) (fun h => ?_) (fun h => by exfalso; omega)
  refine vv_iconst (v := zI (0)) C dX10_digest_42 rfl ?_
  refine vv_istore_n (loc1 := [(3, .int (zI (0))), (1, .long (51556863836652 : Int64)), (0, .ref q1)]) C dX10_digest_43 rfl (by decide) rfl ?_
  refine vv_iload_n C 0 dX10_digest_44 rfl rfl ?_
  refine vv_aload_n C 2 dX10_digest_45 rfl rfl ?_
  refine vv_get C 0 rfl rfl vi_X10 3 (by decide) wm327 rfl dX10_digest_46 ?_
  refine vv_get C 2 rfl rfl vi_X8 4 (by decide) wm136 rfl dX10_digest_49 ?_
  refine vv_icmp_ge (tgt := 87) C dX10_digest_52 (by decide) (by omega) (by omega) (fun h => ?_) (fun h => by exfalso; omega)
  refine vv_iconst (v := zI (0)) C dX10_digest_87 rfl ?_
  refine vv_istore_n (loc1 := [(3, .int (zI (0))), (1, .long (51556863836652 : Int64)), (0, .ref q1)]) C dX10_digest_88 rfl (by decide) rfl ?_
  refine vv_iload_n C 0 dX10_digest_89 rfl rfl ?_
  refine vv_aload_n C 2 dX10_digest_90 rfl rfl ?_
  refine vv_get C 0 rfl rfl vi_X10 5 (by decide) wm329 rfl dX10_digest_91 ?_
  refine vv_get C 1 rfl rfl vi_X9 3 (by decide) wm198 rfl dX10_digest_94 ?_
  refine vv_icmp_ge (tgt := 155) C dX10_digest_97 (by decide) (by omega) (by omega) (fun h => ?_) (fun h => by exfalso; omega)
  refine vv_aload_n C 2 dX10_digest_155 rfl rfl ?_
  refine vv_callV (As := []) (rest := []) (wr := [(q10, .inr (3, [.ref q8, .ref q9, .ref q22, .ref q23, .ref q24, .ref q25, .ref q26, .ref q27, .int (zI (0))]))]) (ws2 := fun u => [(q1, .inr (9, [.ref q2, .ref q3, .ref q4, .ref q5, .ref q6, .ref q7, .ref q8, .ref q9, .ref q10])), (q8, .inr (1, [.ref q18, .ref q19, .ref q20, .ref q21, .int (zI (0))])), (q10, .inr (3, [.ref q8, .ref q9, .ref q22, .ref q23, .ref q24, .ref q25, .ref q26, .ref q27, .int (zI (0))]))]) (isC := [0, 3]) (isR := [4]) (isP := [1, 2, 0]) C (vv_cutI rfl rfl rfl rfl (by decide) (fun _ => rfl) rfl) (k404_X10_findNormalsOfEqualities l hf G q1 q2 q3 q4 q5 q6 q7 q8 q9 q10 q18 q19 q20 q21) yy_X10_findNormalsOfEqualities (vv_rmI rfl rfl (Nat.le_of_ble_eq_true rfl) (Nat.le_of_ble_eq_true rfl) (Nat.le_of_ble_eq_true rfl) (Nat.le_of_ble_eq_true rfl)) wm371 wm373 ws_selects_Latticework_Latticework_findNormalsOfEqualities__V_Latticework_findNormalsOfEqualities__V 0 rfl rfl rfl rfl (Nat.le_of_ble_eq_true rfl) dX10_digest_156 (fun v u hp => ?_)
  obtain rfl := hp
  refine vv_nrm (ws1 := [(q1, .inr (9, [.ref q2, .ref q3, .ref q4, .ref q5, .ref q6, .ref q7, .ref q8, .ref q9, .ref q10])), (q8, .inr (1, [.ref q18, .ref q19, .ref q20, .ref q21, .int (zI (0))])), (q10, .inr (3, [.ref q8, .ref q9, .ref q22, .ref q23, .ref q24, .ref q25, .ref q26, .ref q27, .int (zI (0))]))]) (st1 := []) rfl rfl ?_
  refine vv_iconst (v := zI (0)) C dX10_digest_159 rfl ?_
  refine vv_istore_n (loc1 := [(3, .int (zI (0))), (1, .long (51556863836652 : Int64)), (0, .ref q1)]) C dX10_digest_160 rfl (by decide) rfl ?_
  refine vv_iload_n C 0 dX10_digest_161 rfl rfl ?_
  refine vv_aload_n C 2 dX10_digest_162 rfl rfl ?_
  refine vv_get C 0 rfl rfl vi_X10 6 (by decide) wm330 rfl dX10_digest_163 ?_
  refine vv_get C 1 rfl rfl vi_X1 4 (by decide) wm228 rfl dX10_digest_166 ?_
  refine vv_icmp_ge (tgt := 245) C dX10_digest_169 (by decide) (by omega) (by omega) (fun h => ?_) (fun h => by exfalso; omega)
  refine vv_aload_n C 2 dX10_digest_245 rfl rfl ?_
  refine vv_get C 0 rfl rfl vi_X10 8 (by decide) wm332 rfl dX10_digest_246 ?_
  refine vv_aload_n C 2 dX10_digest_249 rfl rfl ?_
  refine vv_get C 0 rfl rfl vi_X10 8 (by decide) wm332 rfl dX10_digest_250 ?_
  refine vv_get C 2 rfl rfl vi_X4 8 (by decide) wm303 rfl dX10_digest_253 ?_
  refine vv_iconst (v := zI (1)) C dX10_digest_256 rfl ?_
  refine vv_isub (z := zI (-1)) C dX10_digest_257 (by rw [zI_sub]; exact zI_c (by omega)) ?_
  refine vv_callV (As := [.int (zI (-1))]) (rest := []) (wr := [(q1, .inr (9, [.ref q2, .ref q3, .ref q4, .ref q5, .ref q6, .ref q7, .ref q8, .ref q9, .ref q10]))]) (ws2 := fun u => [(q1, .inr (9, [.ref q2, .ref q3, .ref q4, .ref q5, .ref q6, .ref q7, .ref q8, .ref q9, .ref q10])), (q10, .inr (3, [.ref q8, .ref q9, .ref q22, .ref q23, .ref q24, .ref q25, .ref q26, .ref q27, .int (zI (0))]))]) (isC := [2]) (isR := [0]) (isP := [0, 1]) C (vv_cutI rfl rfl rfl rfl (by decide) (fun _ => rfl) rfl) (k405_X4_checkUpTo l hf G q10 q8 q9 q22 q23 q24 q25 q26 q27) yy_X4_checkUpTo (vv_rmI rfl rfl (Nat.le_of_ble_eq_true rfl) (Nat.le_of_ble_eq_true rfl) (Nat.le_of_ble_eq_true rfl) (Nat.le_of_ble_eq_true rfl)) wm422 wm423 wm424 0 rfl rfl rfl rfl (Nat.le_of_ble_eq_true rfl) dX10_digest_258 (fun v u hp => ?_)
  obtain rfl := hp
  refine vv_nrm (ws1 := [(q1, .inr (9, [.ref q2, .ref q3, .ref q4, .ref q5, .ref q6, .ref q7, .ref q8, .ref q9, .ref q10])), (q10, .inr (3, [.ref q8, .ref q9, .ref q22, .ref q23, .ref q24, .ref q25, .ref q26, .ref q27, .int (zI (0))]))]) (st1 := []) rfl rfl ?_
  refine vv_iconst (v := zI (0)) C dX10_digest_261 rfl ?_
  refine vv_istore_n (loc1 := [(3, .int (zI (0))), (1, .long (51556863836652 : Int64)), (0, .ref q1)]) C dX10_digest_262 rfl (by decide) rfl ?_
  refine vv_iload_n C 0 dX10_digest_263 rfl rfl ?_
  refine vv_aload_n C 2 dX10_digest_264 rfl rfl ?_
  refine vv_get C 0 rfl rfl vi_X10 8 (by decide) wm332 rfl dX10_digest_265 ?_
  refine vv_get C 1 rfl rfl vi_X4 8 (by decide) wm303 rfl dX10_digest_268 ?_
  refine vv_icmp_ge (tgt := 316) C dX10_digest_271 (by decide) (by omega) (by omega) (fun h => ?_) (fun h => by exfalso; omega)
  refine vv_lload_n C 1 dX10_digest_316 rfl rfl ?_
  exact vv_lret C (()) rfl [] rfl rfl ⟨Nat.le_of_ble_eq_true rfl, Nat.le_of_ble_eq_true rfl⟩ dX10_digest_317
set_option maxHeartbeats 4000000 in
set_option maxRecDepth 100000 in
theorem k433_X13_add (l : Launch) (hf : l.stackTraces = false) (G : vv_G) (q1 q2 q3 q4 q5 q6 q7 : Nat) : ∀ sz, Met l yX13_add (Cond.code yX13_add cX13_add 2 none :: gT) ({ frames := 0, cells := 0, slots := 0, locals := 0 } : Room) (va_Pc [.ref q1, .int (zI (0))] (vv_I G [(q1, .inr (12, [.int (zI (0)), .ref q2, .ref q3, .ref q4, .ref q5, .ref q6, .ref q7, .long (58092 : Int64)]))] sz)) (vv_Q G (fun v (u : Unit) => v = none) (fun u => [(q1, .inr (12, [.int (zI (0)), .ref q2, .ref q3, .ref q4, .ref q5, .ref q6, .ref q7, .long (1800852 : Int64)]))]) (va_A [(q1, .inr (12, [.int (zI (0)), .ref q2, .ref q3, .ref q4, .ref q5, .ref q6, .ref q7, .long (58092 : Int64)]))] sz)) 0 0 (va_A [(q1, .inr (12, [.int (zI (0)), .ref q2, .ref q3, .ref q4, .ref q5, .ref q6, .ref q7, .long (58092 : Int64)]))] sz) := by
  refine vv_start hf (by decide) (Nat.le_of_ble_eq_true rfl) ?_
  intro p e s m below meth c A C hnm
  refine vv_aload_n C 0 dX13_add_0 rfl rfl ?_
  refine vv_aload_n C 0 dX13_add_1 rfl rfl ?_
  refine vv_get C 0 rfl rfl vi_X13 7 (by decide) wm1134 rfl dX13_add_2 ?_
  refine vv_ldc2 (v := (31 : Int64)) C dX13_add_5 wm2093 ?_
  refine vv_lmul (z := (1800852 : Int64)) C dX13_add_8 (by decide +kernel) ?_
  refine vv_iload_n C 1 dX13_add_9 rfl rfl ?_
  refine vv_i2l (z := (0 : Int64)) C dX13_add_10 (by decide +kernel) ?_
  refine vv_ladd (z := (1800852 : Int64)) C dX13_add_11 (by decide +kernel) ?_
  refine vv_put (ws1 := [(q1, .inr (12, [.int (zI (0)), .ref q2, .ref q3, .ref q4, .ref q5, .ref q6, .ref q7, .long (1800852 : Int64)]))]) C 0 rfl rfl vi_X13 tyX13_ok nmX13 7 (by decide) wm1134 rfl rfl rfl (Nat.le_of_ble_eq_true rfl) rfl dX13_add_12 ?_
  exact vv_vret C (()) rfl [0] rfl rfl ⟨Nat.le_of_ble_eq_true rfl, Nat.le_of_ble_eq_true rfl⟩ dX13_add_15
set_option maxHeartbeats 4000000 in
set_option maxRecDepth 100000 in
theorem k434_X13_manyNow (l : Launch) (hf : l.stackTraces = false) (G : vv_G) (q1 q2 q3 q4 q5 q6 q7 q8 q9 : Nat) : ∀ sz, Met l yX13_manyNow (Cond.code yX13_manyNow cX13_manyNow 3 (some .int) :: gT) ({ frames := 1, cells := 1, slots := 5, locals := 20 } : Room) (va_Pc [.ref q1, .int (zI (0))] (vv_I G [(q1, .inr (12, [.int (zI (0)), .ref q2, .ref q3, .ref q4, .ref q5, .ref q6, .ref q7, .long (1800852 : Int64)])), (q5, .inr (10, [.ref q8, .ref q9, .int (zI (0)), .int (zI (0)), .int (zI (0))])), (q8, .inr (13, [.int (zI (0)), .ref (G.2.2 0), .int (zI (0))])), (q9, .inr (13, [.int (zI (0)), .ref (G.2.2 0), .int (zI (0))]))] sz)) (vv_Q G (fun v (u : Unit) => v = some (.int (zI (0)))) (fun u => [(q1, .inr (12, [.int (zI (0)), .ref q2, .ref q3, .ref q4, .ref q5, .ref q6, .ref q7, .long (1800852 : Int64)])), (q5, .inr (10, [.ref q8, .ref q9, .int (zI (0)), .int (zI (0)), .int (zI (0))])), (q8, .inr (13, [.int (zI (0)), .ref (G.2.2 0), .int (zI (0))])), (q9, .inr (13, [.int (zI (0)), .ref (G.2.2 0), .int (zI (0))]))]) (va_A [(q1, .inr (12, [.int (zI (0)), .ref q2, .ref q3, .ref q4, .ref q5, .ref q6, .ref q7, .long (1800852 : Int64)])), (q5, .inr (10, [.ref q8, .ref q9, .int (zI (0)), .int (zI (0)), .int (zI (0))])), (q8, .inr (13, [.int (zI (0)), .ref (G.2.2 0), .int (zI (0))])), (q9, .inr (13, [.int (zI (0)), .ref (G.2.2 0), .int (zI (0))]))] sz)) 1 5 (va_A [(q1, .inr (12, [.int (zI (0)), .ref q2, .ref q3, .ref q4, .ref q5, .ref q6, .ref q7, .long (1800852 : Int64)])), (q5, .inr (10, [.ref q8, .ref q9, .int (zI (0)), .int (zI (0)), .int (zI (0))])), (q8, .inr (13, [.int (zI (0)), .ref (G.2.2 0), .int (zI (0))])), (q9, .inr (13, [.int (zI (0)), .ref (G.2.2 0), .int (zI (0))]))] sz) := by
  refine vv_start hf (by decide) (Nat.le_of_ble_eq_true rfl) ?_
  intro p e s m below meth c A C hnm
  refine vv_iconst (v := zI (5)) C dX13_manyNow_0 rfl ?_
  refine vv_newa (atype := .int) (ty := .int) C 0 rfl rfl wm108 5 rfl (by decide) (5, .inl (fun _ => 0)) (fun _ => rfl) (by decide) ⟨Nat.le_of_ble_eq_true rfl, Nat.le_of_ble_eq_true rfl⟩ dX13_manyNow_1 (fun q10 => [(q1, .inr (12, [.int (zI (0)), .ref q2, .ref q3, .ref q4, .ref q5, .ref q6, .ref q7, .long (1800852 : Int64)])), (q5, .inr (10, [.ref q8, .ref q9, .int (zI (0)), .int (zI (0)), .int (zI (0))])), (q8, .inr (13, [.int (zI (0)), .ref (G.2.2 0), .int (zI (0))])), (q9, .inr (13, [.int (zI (0)), .ref (G.2.2 0), .int (zI (0))])), (q10, .inl (G.2.1 0, 5, .inl (fun _ => 0)))]) (fun _ => rfl) (fun q10 => ?_)
  refine vv_dup C dX13_manyNow_3 rfl ?_
  refine vv_iconst (v := zI (0)) C dX13_manyNow_4 rfl ?_
  refine vv_aload_n C 0 dX13_manyNow_5 rfl rfl ?_
  refine vv_get C 0 rfl rfl vi_X13 4 (by decide) wm1131 rfl dX13_manyNow_6 ?_
  refine vv_getN (host := "LatticeworkModel") C 1 rfl rfl vi_X11 0 (by decide) (by decide +kernel) rfl dX13_manyNow_9 ?_
  refine vv_callV (As := []) (rest := [.int (zI (0)), .ref q10, .ref q10]) (wr := [(q1, .inr (12, [.int (zI (0)), .ref q2, .ref q3, .ref q4, .ref q5, .ref q6, .ref q7, .long (1800852 : Int64)])), (q5, .inr (10, [.ref q8, .ref q9, .int (zI (0)), .int (zI (0)), .int (zI (0))])), (q9, .inr (13, [.int (zI (0)), .ref (G.2.2 0), .int (zI (0))])), (q10, .inl (G.2.1 0, 5, .inl (fun _ => 0)))]) (ws2 := fun u => [(q1, .inr (12, [.int (zI (0)), .ref q2, .ref q3, .ref q4, .ref q5, .ref q6, .ref q7, .long (1800852 : Int64)])), (q5, .inr (10, [.ref q8, .ref q9, .int (zI (0)), .int (zI (0)), .int (zI (0))])), (q8, .inr (13, [.int (zI (0)), .ref (G.2.2 0), .int (zI (0))])), (q9, .inr (13, [.int (zI (0)), .ref (G.2.2 0), .int (zI (0))])), (q10, .inl (G.2.1 0, 5, .inl (fun _ => 0)))]) (isC := [2]) (isR := [0, 1, 3, 4]) (isP := [0, 1, 4, 2, 3]) C (vv_cutI rfl rfl rfl rfl (by decide) (fun _ => rfl) rfl) (k29_Jx4a65c_size_8abf5 l hf G q8) yy_Jx4a65c_size_8abf5 (vv_rmI rfl rfl (Nat.le_of_ble_eq_true rfl) (Nat.le_of_ble_eq_true rfl) (Nat.le_of_ble_eq_true rfl) (Nat.le_of_ble_eq_true rfl)) wm1175 wm1176 wm1177 0 rfl rfl rfl rfl (Nat.le_of_ble_eq_true rfl) dX13_manyNow_12 (fun v u hp => ?_)
  obtain rfl := hp
  refine vv_nrm (ws1 := [(q1, .inr (12, [.int (zI (0)), .ref q2, .ref q3, .ref q4, .ref q5, .ref q6, .ref q7, .long (1800852 : Int64)])), (q5, .inr (10, [.ref q8, .ref q9, .int (zI (0)), .int (zI (0)), .int (zI (0))])), (q8, .inr (13, [.int (zI (0)), .ref (G.2.2 0), .int (zI (0))])), (q9, .inr (13, [.int (zI (0)), .ref (G.2.2 0), .int (zI (0))])), (q10, .inl (G.2.1 0, 5, .inl (fun _ => 0)))]) (st1 := [.int (zI (0)), .int (zI (0)), .ref q10, .ref q10]) rfl rfl ?_
  refine vv_iast (ws1 := [(q1, .inr (12, [.int (zI (0)), .ref q2, .ref q3, .ref q4, .ref q5, .ref q6, .ref q7, .long (1800852 : Int64)])), (q5, .inr (10, [.ref q8, .ref q9, .int (zI (0)), .int (zI (0)), .int (zI (0))])), (q8, .inr (13, [.int (zI (0)), .ref (G.2.2 0), .int (zI (0))])), (q9, .inr (13, [.int (zI (0)), .ref (G.2.2 0), .int (zI (0))])), (q10, .inl (G.2.1 0, 5, .inl (upd (fun _ => 0) 0 (zI (0)))))]) C 4 0 rfl rfl 0 rfl (by decide) (by decide) rfl dX13_manyNow_15 ?_
  refine vv_dup C dX13_manyNow_16 rfl ?_
  refine vv_iconst (v := zI (1)) C dX13_manyNow_17 rfl ?_
  refine vv_aload_n C 0 dX13_manyNow_18 rfl rfl ?_
  refine vv_get C 0 rfl rfl vi_X13 4 (by decide) wm1131 rfl dX13_manyNow_19 ?_
  refine vv_getN (host := "LatticeworkModel") C 1 rfl rfl vi_X11 1 (by decide) (by decide +kernel) rfl dX13_manyNow_22 ?_
  refine vv_callV (As := []) (rest := [.int (zI (1)), .ref q10, .ref q10]) (wr := [(q1, .inr (12, [.int (zI (0)), .ref q2, .ref q3, .ref q4, .ref q5, .ref q6, .ref q7, .long (1800852 : Int64)])), (q5, .inr (10, [.ref q8, .ref q9, .int (zI (0)), .int (zI (0)), .int (zI (0))])), (q8, .inr (13, [.int (zI (0)), .ref (G.2.2 0), .int (zI (0))])), (q10, .inl (G.2.1 0, 5, .inl (upd (fun _ => 0) 0 (zI (0)))))]) (ws2 := fun u => [(q1, .inr (12, [.int (zI (0)), .ref q2, .ref q3, .ref q4, .ref q5, .ref q6, .ref q7, .long (1800852 : Int64)])), (q5, .inr (10, [.ref q8, .ref q9, .int (zI (0)), .int (zI (0)), .int (zI (0))])), (q8, .inr (13, [.int (zI (0)), .ref (G.2.2 0), .int (zI (0))])), (q9, .inr (13, [.int (zI (0)), .ref (G.2.2 0), .int (zI (0))])), (q10, .inl (G.2.1 0, 5, .inl (upd (fun _ => 0) 0 (zI (0)))))]) (isC := [3]) (isR := [0, 1, 2, 4]) (isP := [0, 1, 2, 4, 3]) C (vv_cutI rfl rfl rfl rfl (by decide) (fun _ => rfl) rfl) (k29_Jx4a65c_size_8abf5 l hf G q9) yy_Jx4a65c_size_8abf5 (vv_rmI rfl rfl (Nat.le_of_ble_eq_true rfl) (Nat.le_of_ble_eq_true rfl) (Nat.le_of_ble_eq_true rfl) (Nat.le_of_ble_eq_true rfl)) wm1175 wm1176 wm1177 0 rfl rfl rfl rfl (Nat.le_of_ble_eq_true rfl) dX13_manyNow_25 (fun v u hp => ?_)
  obtain rfl := hp
  refine vv_nrm (ws1 := [(q1, .inr (12, [.int (zI (0)), .ref q2, .ref q3, .ref q4, .ref q5, .ref q6, .ref q7, .long (1800852 : Int64)])), (q5, .inr (10, [.ref q8, .ref q9, .int (zI (0)), .int (zI (0)), .int (zI (0))])), (q8, .inr (13, [.int (zI (0)), .ref (G.2.2 0), .int (zI (0))])), (q9, .inr (13, [.int (zI (0)), .ref (G.2.2 0), .int (zI (0))])), (q10, .inl (G.2.1 0, 5, .inl (upd (fun _ => 0) 0 (zI (0)))))]) (st1 := [.int (zI (0)), .int (zI (1)), .ref q10, .ref q10]) rfl rfl ?_
  refine vv_iast (ws1 := [(q1, .inr (12, [.int (zI (0)), .ref q2, .ref q3, .ref q4, .ref q5, .ref q6, .ref q7, .long (1800852 : Int64)])), (q5, .inr (10, [.ref q8, .ref q9, .int (zI (0)), .int (zI (0)), .int (zI (0))])), (q8, .inr (13, [.int (zI (0)), .ref (G.2.2 0), .int (zI (0))])), (q9, .inr (13, [.int (zI (0)), .ref (G.2.2 0), .int (zI (0))])), (q10, .inl (G.2.1 0, 5, .inl (upd (upd (fun _ => 0) 0 (zI (0))) 1 (zI (0)))))]) C 4 0 rfl rfl 1 rfl (by decide) (by decide) rfl dX13_manyNow_28 ?_
  refine vv_dup C dX13_manyNow_29 rfl ?_
  refine vv_iconst (v := zI (2)) C dX13_manyNow_30 rfl ?_
  refine vv_aload_n C 0 dX13_manyNow_31 rfl rfl ?_
  refine vv_get C 0 rfl rfl vi_X13 4 (by decide) wm1131 rfl dX13_manyNow_32 ?_
  refine vv_getN (host := "LatticeworkModel") C 1 rfl rfl vi_X11 2 (by decide) (by decide +kernel) rfl dX13_manyNow_35 ?_
  refine vv_iast (ws1 := [(q1, .inr (12, [.int (zI (0)), .ref q2, .ref q3, .ref q4, .ref q5, .ref q6, .ref q7, .long (1800852 : Int64)])), (q5, .inr (10, [.ref q8, .ref q9, .int (zI (0)), .int (zI (0)), .int (zI (0))])), (q8, .inr (13, [.int (zI (0)), .ref (G.2.2 0), .int (zI (0))])), (q9, .inr (13, [.int (zI (0)), .ref (G.2.2 0), .int (zI (0))])), (q10, .inl (G.2.1 0, 5, .inl (upd (upd (upd (fun _ => 0) 0 (zI (0))) 1 (zI (0))) 2 (zI (0)))))]) C 4 0 rfl rfl 2 rfl (by decide) (by decide) rfl dX13_manyNow_38 ?_
  refine vv_dup C dX13_manyNow_39 rfl ?_
  refine vv_iconst (v := zI (3)) C dX13_manyNow_40 rfl ?_
  refine vv_aload_n C 0 dX13_manyNow_41 rfl rfl ?_
  refine vv_get C 0 rfl rfl vi_X13 4 (by decide) wm1131 rfl dX13_manyNow_42 ?_
  refine vv_getN (host := "LatticeworkModel") C 1 rfl rfl vi_X11 3 (by decide) (by decide +kernel) rfl dX13_manyNow_45 ?_
  refine vv_iast (ws1 := [(q1, .inr (12, [.int (zI (0)), .ref q2, .ref q3, .ref q4, .ref q5, .ref q6, .ref q7, .long (1800852 : Int64)])), (q5, .inr (10, [.ref q8, .ref q9, .int (zI (0)), .int (zI (0)), .int (zI (0))])), (q8, .inr (13, [.int (zI (0)), .ref (G.2.2 0), .int (zI (0))])), (q9, .inr (13, [.int (zI (0)), .ref (G.2.2 0), .int (zI (0))])), (q10, .inl (G.2.1 0, 5, .inl (upd (upd (upd (upd (fun _ => 0) 0 (zI (0))) 1 (zI (0))) 2 (zI (0))) 3 (zI (0)))))]) C 4 0 rfl rfl 3 rfl (by decide) (by decide) rfl dX13_manyNow_48 ?_
  refine vv_dup C dX13_manyNow_49 rfl ?_
  refine vv_iconst (v := zI (4)) C dX13_manyNow_50 rfl ?_
  refine vv_aload_n C 0 dX13_manyNow_51 rfl rfl ?_
  refine vv_get C 0 rfl rfl vi_X13 4 (by decide) wm1131 rfl dX13_manyNow_52 ?_
  refine vv_getN (host := "LatticeworkModel") C 1 rfl rfl vi_X11 4 (by decide) (by decide +kernel) rfl dX13_manyNow_55 ?_
  refine vv_if_eq (tgt := 65) C dX13_manyNow_58 (by decide) (by omega) (fun h => ?_) (fun h => by exfalso; omega)
  refine vv_iconst (v := zI (0)) C dX13_manyNow_65 rfl ?_
  refine vv_iast (ws1 := [(q1, .inr (12, [.int (zI (0)), .ref q2, .ref q3, .ref q4, .ref q5, .ref q6, .ref q7, .long (1800852 : Int64)])), (q5, .inr (10, [.ref q8, .ref q9, .int (zI (0)), .int (zI (0)), .int (zI (0))])), (q8, .inr (13, [.int (zI (0)), .ref (G.2.2 0), .int (zI (0))])), (q9, .inr (13, [.int (zI (0)), .ref (G.2.2 0), .int (zI (0))])), (q10, .inl (G.2.1 0, 5, .inl (upd (upd (upd (upd (upd (fun _ => 0) 0 (zI (0))) 1 (zI (0))) 2 (zI (0))) 3 (zI (0))) 4 (zI (0)))))]) C 4 0 rfl rfl 4 rfl (by decide) (by decide) rfl dX13_manyNow_66 ?_
  refine vv_astore_n (loc1 := [(2, .ref q10), (0, .ref q1), (1, .int (zI (0)))]) C dX13_manyNow_67 rfl (by decide) rfl ?_
  refine vv_aload_n C 0 dX13_manyNow_68 rfl rfl ?_
  refine vv_iload_n C 2 dX13_manyNow_69 rfl rfl ?_
  refine vv_iald (v := (zI (0))) C 4 0 rfl rfl 0 rfl (by decide) (by decide) rfl dX13_manyNow_70 ?_
  exact vv_iret C (()) rfl [0, 1, 2, 3] rfl rfl ⟨Nat.le_of_ble_eq_true rfl, Nat.le_of_ble_eq_true rfl⟩ dX13_manyNow_71
set_option maxHeartbeats 4000000 in
set_option maxRecDepth 100000 in
theorem k435_X13_add (l : Launch) (hf : l.stackTraces = false) (G : vv_G) (q1 q2 q3 q4 q5 q6 q7 : Nat) : ∀ sz, Met l yX13_add (Cond.code yX13_add cX13_add 2 none :: gT) ({ frames := 0, cells := 0, slots := 0, locals := 0 } : Room) (va_Pc [.ref q1, .int (zI (0))] (vv_I G [(q1, .inr (12, [.int (zI (0)), .ref q2, .ref q3, .ref q4, .ref q5, .ref q6, .ref q7, .long (1800852 : Int64)]))] sz)) (vv_Q G (fun v (u : Unit) => v = none) (fun u => [(q1, .inr (12, [.int (zI (0)), .ref q2, .ref q3, .ref q4, .ref q5, .ref q6, .ref q7, .long (55826412 : Int64)]))]) (va_A [(q1, .inr (12, [.int (zI (0)), .ref q2, .ref q3, .ref q4, .ref q5, .ref q6, .ref q7, .long (1800852 : Int64)]))] sz)) 0 0 (va_A [(q1, .inr (12, [.int (zI (0)), .ref q2, .ref q3, .ref q4, .ref q5, .ref q6, .ref q7, .long (1800852 : Int64)]))] sz) := by
  refine vv_start hf (by decide) (Nat.le_of_ble_eq_true rfl) ?_
  intro p e s m below meth c A C hnm
  refine vv_aload_n C 0 dX13_add_0 rfl rfl ?_
  refine vv_aload_n C 0 dX13_add_1 rfl rfl ?_
  refine vv_get C 0 rfl rfl vi_X13 7 (by decide) wm1134 rfl dX13_add_2 ?_
  refine vv_ldc2 (v := (31 : Int64)) C dX13_add_5 wm2093 ?_
  refine vv_lmul (z := (55826412 : Int64)) C dX13_add_8 (by decide +kernel) ?_
  refine vv_iload_n C 1 dX13_add_9 rfl rfl ?_
  refine vv_i2l (z := (0 : Int64)) C dX13_add_10 (by decide +kernel) ?_
  refine vv_ladd (z := (55826412 : Int64)) C dX13_add_11 (by decide +kernel) ?_
  refine vv_put (ws1 := [(q1, .inr (12, [.int (zI (0)), .ref q2, .ref q3, .ref q4, .ref q5, .ref q6, .ref q7, .long (55826412 : Int64)]))]) C 0 rfl rfl vi_X13 tyX13_ok nmX13 7 (by decide) wm1134 rfl rfl rfl (Nat.le_of_ble_eq_true rfl) rfl dX13_add_12 ?_
  exact vv_vret C (()) rfl [0] rfl rfl ⟨Nat.le_of_ble_eq_true rfl, Nat.le_of_ble_eq_true rfl⟩ dX13_add_15
set_option maxHeartbeats 4000000 in
set_option maxRecDepth 100000 in
theorem k436_X13_manyNow (l : Launch) (hf : l.stackTraces = false) (G : vv_G) (q1 q2 q3 q4 q5 q6 q7 q8 q9 : Nat) : ∀ sz, Met l yX13_manyNow (Cond.code yX13_manyNow cX13_manyNow 3 (some .int) :: gT) ({ frames := 1, cells := 1, slots := 5, locals := 20 } : Room) (va_Pc [.ref q1, .int (zI (1))] (vv_I G [(q1, .inr (12, [.int (zI (0)), .ref q2, .ref q3, .ref q4, .ref q5, .ref q6, .ref q7, .long (55826412 : Int64)])), (q5, .inr (10, [.ref q8, .ref q9, .int (zI (0)), .int (zI (0)), .int (zI (0))])), (q8, .inr (13, [.int (zI (0)), .ref (G.2.2 0), .int (zI (0))])), (q9, .inr (13, [.int (zI (0)), .ref (G.2.2 0), .int (zI (0))]))] sz)) (vv_Q G (fun v (u : Unit) => v = some (.int (zI (0)))) (fun u => [(q1, .inr (12, [.int (zI (0)), .ref q2, .ref q3, .ref q4, .ref q5, .ref q6, .ref q7, .long (55826412 : Int64)])), (q5, .inr (10, [.ref q8, .ref q9, .int (zI (0)), .int (zI (0)), .int (zI (0))])), (q8, .inr (13, [.int (zI (0)), .ref (G.2.2 0), .int (zI (0))])), (q9, .inr (13, [.int (zI (0)), .ref (G.2.2 0), .int (zI (0))]))]) (va_A [(q1, .inr (12, [.int (zI (0)), .ref q2, .ref q3, .ref q4, .ref q5, .ref q6, .ref q7, .long (55826412 : Int64)])), (q5, .inr (10, [.ref q8, .ref q9, .int (zI (0)), .int (zI (0)), .int (zI (0))])), (q8, .inr (13, [.int (zI (0)), .ref (G.2.2 0), .int (zI (0))])), (q9, .inr (13, [.int (zI (0)), .ref (G.2.2 0), .int (zI (0))]))] sz)) 1 5 (va_A [(q1, .inr (12, [.int (zI (0)), .ref q2, .ref q3, .ref q4, .ref q5, .ref q6, .ref q7, .long (55826412 : Int64)])), (q5, .inr (10, [.ref q8, .ref q9, .int (zI (0)), .int (zI (0)), .int (zI (0))])), (q8, .inr (13, [.int (zI (0)), .ref (G.2.2 0), .int (zI (0))])), (q9, .inr (13, [.int (zI (0)), .ref (G.2.2 0), .int (zI (0))]))] sz) := by
  refine vv_start hf (by decide) (Nat.le_of_ble_eq_true rfl) ?_
  intro p e s m below meth c A C hnm
  refine vv_iconst (v := zI (5)) C dX13_manyNow_0 rfl ?_
  refine vv_newa (atype := .int) (ty := .int) C 0 rfl rfl wm108 5 rfl (by decide) (5, .inl (fun _ => 0)) (fun _ => rfl) (by decide) ⟨Nat.le_of_ble_eq_true rfl, Nat.le_of_ble_eq_true rfl⟩ dX13_manyNow_1 (fun q10 => [(q1, .inr (12, [.int (zI (0)), .ref q2, .ref q3, .ref q4, .ref q5, .ref q6, .ref q7, .long (55826412 : Int64)])), (q5, .inr (10, [.ref q8, .ref q9, .int (zI (0)), .int (zI (0)), .int (zI (0))])), (q8, .inr (13, [.int (zI (0)), .ref (G.2.2 0), .int (zI (0))])), (q9, .inr (13, [.int (zI (0)), .ref (G.2.2 0), .int (zI (0))])), (q10, .inl (G.2.1 0, 5, .inl (fun _ => 0)))]) (fun _ => rfl) (fun q10 => ?_)
  refine vv_dup C dX13_manyNow_3 rfl ?_
  refine vv_iconst (v := zI (0)) C dX13_manyNow_4 rfl ?_
  refine vv_aload_n C 0 dX13_manyNow_5 rfl rfl ?_
  refine vv_get C 0 rfl rfl vi_X13 4 (by decide) wm1131 rfl dX13_manyNow_6 ?_
  refine vv_getN (host := "LatticeworkModel") C 1 rfl rfl vi_X11 0 (by decide) (by decide +kernel) rfl dX13_manyNow_9 ?_
  refine vv_callV (As := []) (rest := [.int (zI (0)), .ref q10, .ref q10]) (wr := [(q1, .inr (12, [.int (zI (0)), .ref q2, .ref q3, .ref q4, .ref q5, .ref q6, .ref q7, .long (55826412 : Int64)])), (q5, .inr (10, [.ref q8, .ref q9, .int (zI (0)), .int (zI (0)), .int (zI (0))])), (q9, .inr (13, [.int (zI (0)), .ref (G.2.2 0), .int (zI (0))])), (q10, .inl (G.2.1 0, 5, .inl (fun _ => 0)))]) (ws2 := fun u => [(q1, .inr (12, [.int (zI (0)), .ref q2, .ref q3, .ref q4, .ref q5, .ref q6, .ref q7, .long (55826412 : Int64)])), (q5, .inr (10, [.ref q8, .ref q9, .int (zI (0)), .int (zI (0)), .int (zI (0))])), (q8, .inr (13, [.int (zI (0)), .ref (G.2.2 0), .int (zI (0))])), (q9, .inr (13, [.int (zI (0)), .ref (G.2.2 0), .int (zI (0))])), (q10, .inl (G.2.1 0, 5, .inl (fun _ => 0)))]) (isC := [2]) (isR := [0, 1, 3, 4]) (isP := [0, 1, 4, 2, 3]) C (vv_cutI rfl rfl rfl rfl (by decide) (fun _ => rfl) rfl) (k29_Jx4a65c_size_8abf5 l hf G q8) yy_Jx4a65c_size_8abf5 (vv_rmI rfl rfl (Nat.le_of_ble_eq_true rfl) (Nat.le_of_ble_eq_true rfl) (Nat.le_of_ble_eq_true rfl) (Nat.le_of_ble_eq_true rfl)) wm1175 wm1176 wm1177 0 rfl rfl rfl rfl (Nat.le_of_ble_eq_true rfl) dX13_manyNow_12 (fun v u hp => ?_)
  obtain rfl := hp
  refine vv_nrm (ws1 := [(q1, .inr (12, [.int (zI (0)), .ref q2, .ref q3, .ref q4, .ref q5, .ref q6, .ref q7, .long (55826412 : Int64)])), (q5, .inr (10, [.ref q8, .ref q9, .int (zI (0)), .int (zI (0)), .int (zI (0))])), (q8, .inr (13, [.int (zI (0)), .ref (G.2.2 0), .int (zI (0))])), (q9, .inr (13, [.int (zI (0)), .ref (G.2.2 0), .int (zI (0))])), (q10, .inl (G.2.1 0, 5, .inl (fun _ => 0)))]) (st1 := [.int (zI (0)), .int (zI (0)), .ref q10, .ref q10]) rfl rfl ?_
  refine vv_iast (ws1 := [(q1, .inr (12, [.int (zI (0)), .ref q2, .ref q3, .ref q4, .ref q5, .ref q6, .ref q7, .long (55826412 : Int64)])), (q5, .inr (10, [.ref q8, .ref q9, .int (zI (0)), .int (zI (0)), .int (zI (0))])), (q8, .inr (13, [.int (zI (0)), .ref (G.2.2 0), .int (zI (0))])), (q9, .inr (13, [.int (zI (0)), .ref (G.2.2 0), .int (zI (0))])), (q10, .inl (G.2.1 0, 5, .inl (upd (fun _ => 0) 0 (zI (0)))))]) C 4 0 rfl rfl 0 rfl (by decide) (by decide) rfl dX13_manyNow_15 ?_
  refine vv_dup C dX13_manyNow_16 rfl ?_
  refine vv_iconst (v := zI (1)) C dX13_manyNow_17 rfl ?_
  refine vv_aload_n C 0 dX13_manyNow_18 rfl rfl ?_
  refine vv_get C 0 rfl rfl vi_X13 4 (by decide) wm1131 rfl dX13_manyNow_19 ?_
  refine vv_getN (host := "LatticeworkModel") C 1 rfl rfl vi_X11 1 (by decide) (by decide +kernel) rfl dX13_manyNow_22 ?_
  refine vv_callV (As := []) (rest := [.int (zI (1)), .ref q10, .ref q10]) (wr := [(q1, .inr (12, [.int (zI (0)), .ref q2, .ref q3, .ref q4, .ref q5, .ref q6, .ref q7, .long (55826412 : Int64)])), (q5, .inr (10, [.ref q8, .ref q9, .int (zI (0)), .int (zI (0)), .int (zI (0))])), (q8, .inr (13, [.int (zI (0)), .ref (G.2.2 0), .int (zI (0))])), (q10, .inl (G.2.1 0, 5, .inl (upd (fun _ => 0) 0 (zI (0)))))]) (ws2 := fun u => [(q1, .inr (12, [.int (zI (0)), .ref q2, .ref q3, .ref q4, .ref q5, .ref q6, .ref q7, .long (55826412 : Int64)])), (q5, .inr (10, [.ref q8, .ref q9, .int (zI (0)), .int (zI (0)), .int (zI (0))])), (q8, .inr (13, [.int (zI (0)), .ref (G.2.2 0), .int (zI (0))])), (q9, .inr (13, [.int (zI (0)), .ref (G.2.2 0), .int (zI (0))])), (q10, .inl (G.2.1 0, 5, .inl (upd (fun _ => 0) 0 (zI (0)))))]) (isC := [3]) (isR := [0, 1, 2, 4]) (isP := [0, 1, 2, 4, 3]) C (vv_cutI rfl rfl rfl rfl (by decide) (fun _ => rfl) rfl) (k29_Jx4a65c_size_8abf5 l hf G q9) yy_Jx4a65c_size_8abf5 (vv_rmI rfl rfl (Nat.le_of_ble_eq_true rfl) (Nat.le_of_ble_eq_true rfl) (Nat.le_of_ble_eq_true rfl) (Nat.le_of_ble_eq_true rfl)) wm1175 wm1176 wm1177 0 rfl rfl rfl rfl (Nat.le_of_ble_eq_true rfl) dX13_manyNow_25 (fun v u hp => ?_)
  obtain rfl := hp
  refine vv_nrm (ws1 := [(q1, .inr (12, [.int (zI (0)), .ref q2, .ref q3, .ref q4, .ref q5, .ref q6, .ref q7, .long (55826412 : Int64)])), (q5, .inr (10, [.ref q8, .ref q9, .int (zI (0)), .int (zI (0)), .int (zI (0))])), (q8, .inr (13, [.int (zI (0)), .ref (G.2.2 0), .int (zI (0))])), (q9, .inr (13, [.int (zI (0)), .ref (G.2.2 0), .int (zI (0))])), (q10, .inl (G.2.1 0, 5, .inl (upd (fun _ => 0) 0 (zI (0)))))]) (st1 := [.int (zI (0)), .int (zI (1)), .ref q10, .ref q10]) rfl rfl ?_
  refine vv_iast (ws1 := [(q1, .inr (12, [.int (zI (0)), .ref q2, .ref q3, .ref q4, .ref q5, .ref q6, .ref q7, .long (55826412 : Int64)])), (q5, .inr (10, [.ref q8, .ref q9, .int (zI (0)), .int (zI (0)), .int (zI (0))])), (q8, .inr (13, [.int (zI (0)), .ref (G.2.2 0), .int (zI (0))])), (q9, .inr (13, [.int (zI (0)), .ref (G.2.2 0), .int (zI (0))])), (q10, .inl (G.2.1 0, 5, .inl (upd (upd (fun _ => 0) 0 (zI (0))) 1 (zI (0)))))]) C 4 0 rfl rfl 1 rfl (by decide) (by decide) rfl dX13_manyNow_28 ?_
  refine vv_dup C dX13_manyNow_29 rfl ?_
  refine vv_iconst (v := zI (2)) C dX13_manyNow_30 rfl ?_
  refine vv_aload_n C 0 dX13_manyNow_31 rfl rfl ?_
  refine vv_get C 0 rfl rfl vi_X13 4 (by decide) wm1131 rfl dX13_manyNow_32 ?_
  refine vv_getN (host := "LatticeworkModel") C 1 rfl rfl vi_X11 2 (by decide) (by decide +kernel) rfl dX13_manyNow_35 ?_
  refine vv_iast (ws1 := [(q1, .inr (12, [.int (zI (0)), .ref q2, .ref q3, .ref q4, .ref q5, .ref q6, .ref q7, .long (55826412 : Int64)])), (q5, .inr (10, [.ref q8, .ref q9, .int (zI (0)), .int (zI (0)), .int (zI (0))])), (q8, .inr (13, [.int (zI (0)), .ref (G.2.2 0), .int (zI (0))])), (q9, .inr (13, [.int (zI (0)), .ref (G.2.2 0), .int (zI (0))])), (q10, .inl (G.2.1 0, 5, .inl (upd (upd (upd (fun _ => 0) 0 (zI (0))) 1 (zI (0))) 2 (zI (0)))))]) C 4 0 rfl rfl 2 rfl (by decide) (by decide) rfl dX13_manyNow_38 ?_
  refine vv_dup C dX13_manyNow_39 rfl ?_
  refine vv_iconst (v := zI (3)) C dX13_manyNow_40 rfl ?_
  refine vv_aload_n C 0 dX13_manyNow_41 rfl rfl ?_
  refine vv_get C 0 rfl rfl vi_X13 4 (by decide) wm1131 rfl dX13_manyNow_42 ?_
  refine vv_getN (host := "LatticeworkModel") C 1 rfl rfl vi_X11 3 (by decide) (by decide +kernel) rfl dX13_manyNow_45 ?_
  refine vv_iast (ws1 := [(q1, .inr (12, [.int (zI (0)), .ref q2, .ref q3, .ref q4, .ref q5, .ref q6, .ref q7, .long (55826412 : Int64)])), (q5, .inr (10, [.ref q8, .ref q9, .int (zI (0)), .int (zI (0)), .int (zI (0))])), (q8, .inr (13, [.int (zI (0)), .ref (G.2.2 0), .int (zI (0))])), (q9, .inr (13, [.int (zI (0)), .ref (G.2.2 0), .int (zI (0))])), (q10, .inl (G.2.1 0, 5, .inl (upd (upd (upd (upd (fun _ => 0) 0 (zI (0))) 1 (zI (0))) 2 (zI (0))) 3 (zI (0)))))]) C 4 0 rfl rfl 3 rfl (by decide) (by decide) rfl dX13_manyNow_48 ?_
  refine vv_dup C dX13_manyNow_49 rfl ?_
  refine vv_iconst (v := zI (4)) C dX13_manyNow_50 rfl ?_
  refine vv_aload_n C 0 dX13_manyNow_51 rfl rfl ?_
  refine vv_get C 0 rfl rfl vi_X13 4 (by decide) wm1131 rfl dX13_manyNow_52 ?_
  refine vv_getN (host := "LatticeworkModel") C 1 rfl rfl vi_X11 4 (by decide) (by decide +kernel) rfl dX13_manyNow_55 ?_
  refine vv_if_eq (tgt := 65) C dX13_manyNow_58 (by decide) (by omega) (fun h => ?_) (fun h => by exfalso; omega)
  refine vv_iconst (v := zI (0)) C dX13_manyNow_65 rfl ?_
  refine vv_iast (ws1 := [(q1, .inr (12, [.int (zI (0)), .ref q2, .ref q3, .ref q4, .ref q5, .ref q6, .ref q7, .long (55826412 : Int64)])), (q5, .inr (10, [.ref q8, .ref q9, .int (zI (0)), .int (zI (0)), .int (zI (0))])), (q8, .inr (13, [.int (zI (0)), .ref (G.2.2 0), .int (zI (0))])), (q9, .inr (13, [.int (zI (0)), .ref (G.2.2 0), .int (zI (0))])), (q10, .inl (G.2.1 0, 5, .inl (upd (upd (upd (upd (upd (fun _ => 0) 0 (zI (0))) 1 (zI (0))) 2 (zI (0))) 3 (zI (0))) 4 (zI (0)))))]) C 4 0 rfl rfl 4 rfl (by decide) (by decide) rfl dX13_manyNow_66 ?_
  refine vv_astore_n (loc1 := [(2, .ref q10), (0, .ref q1), (1, .int (zI (1)))]) C dX13_manyNow_67 rfl (by decide) rfl ?_
  refine vv_aload_n C 0 dX13_manyNow_68 rfl rfl ?_
  refine vv_iload_n C 2 dX13_manyNow_69 rfl rfl ?_
  refine vv_iald (v := (zI (0))) C 4 0 rfl rfl 1 rfl (by decide) (by decide) rfl dX13_manyNow_70 ?_
  exact vv_iret C (()) rfl [0, 1, 2, 3] rfl rfl ⟨Nat.le_of_ble_eq_true rfl, Nat.le_of_ble_eq_true rfl⟩ dX13_manyNow_71
set_option maxHeartbeats 4000000 in
set_option maxRecDepth 100000 in
theorem k437_X13_add (l : Launch) (hf : l.stackTraces = false) (G : vv_G) (q1 q2 q3 q4 q5 q6 q7 : Nat) : ∀ sz, Met l yX13_add (Cond.code yX13_add cX13_add 2 none :: gT) ({ frames := 0, cells := 0, slots := 0, locals := 0 } : Room) (va_Pc [.ref q1, .int (zI (0))] (vv_I G [(q1, .inr (12, [.int (zI (0)), .ref q2, .ref q3, .ref q4, .ref q5, .ref q6, .ref q7, .long (55826412 : Int64)]))] sz)) (vv_Q G (fun v (u : Unit) => v = none) (fun u => [(q1, .inr (12, [.int (zI (0)), .ref q2, .ref q3, .ref q4, .ref q5, .ref q6, .ref q7, .long (1730618772 : Int64)]))]) (va_A [(q1, .inr (12, [.int (zI (0)), .ref q2, .ref q3, .ref q4, .ref q5, .ref q6, .ref q7, .long (55826412 : Int64)]))] sz)) 0 0 (va_A [(q1, .inr (12, [.int (zI (0)), .ref q2, .ref q3, .ref q4, .ref q5, .ref q6, .ref q7, .long (55826412 : Int64)]))] sz) := by
  refine vv_start hf (by decide) (Nat.le_of_ble_eq_true rfl) ?_
  intro p e s m below meth c A C hnm
  refine vv_aload_n C 0 dX13_add_0 rfl rfl ?_
  refine vv_aload_n C 0 dX13_add_1 rfl rfl ?_
  refine vv_get C 0 rfl rfl vi_X13 7 (by decide) wm1134 rfl dX13_add_2 ?_
  refine vv_ldc2 (v := (31 : Int64)) C dX13_add_5 wm2093 ?_
  refine vv_lmul (z := (1730618772 : Int64)) C dX13_add_8 (by decide +kernel) ?_
  refine vv_iload_n C 1 dX13_add_9 rfl rfl ?_
  refine vv_i2l (z := (0 : Int64)) C dX13_add_10 (by decide +kernel) ?_
  refine vv_ladd (z := (1730618772 : Int64)) C dX13_add_11 (by decide +kernel) ?_
  refine vv_put (ws1 := [(q1, .inr (12, [.int (zI (0)), .ref q2, .ref q3, .ref q4, .ref q5, .ref q6, .ref q7, .long (1730618772 : Int64)]))]) C 0 rfl rfl vi_X13 tyX13_ok nmX13 7 (by decide) wm1134 rfl rfl rfl (Nat.le_of_ble_eq_true rfl) rfl dX13_add_12 ?_
  exact vv_vret C (()) rfl [0] rfl rfl ⟨Nat.le_of_ble_eq_true rfl, Nat.le_of_ble_eq_true rfl⟩ dX13_add_15
set_option maxHeartbeats 4000000 in
set_option maxRecDepth 100000 in
theorem k438_X13_manyNow (l : Launch) (hf : l.stackTraces = false) (G : vv_G) (q1 q2 q3 q4 q5 q6 q7 q8 q9 : Nat) : ∀ sz, Met l yX13_manyNow (Cond.code yX13_manyNow cX13_manyNow 3 (some .int) :: gT) ({ frames := 1, cells := 1, slots := 5, locals := 20 } : Room) (va_Pc [.ref q1, .int (zI (2))] (vv_I G [(q1, .inr (12, [.int (zI (0)), .ref q2, .ref q3, .ref q4, .ref q5, .ref q6, .ref q7, .long (1730618772 : Int64)])), (q5, .inr (10, [.ref q8, .ref q9, .int (zI (0)), .int (zI (0)), .int (zI (0))])), (q8, .inr (13, [.int (zI (0)), .ref (G.2.2 0), .int (zI (0))])), (q9, .inr (13, [.int (zI (0)), .ref (G.2.2 0), .int (zI (0))]))] sz)) (vv_Q G (fun v (u : Unit) => v = some (.int (zI (0)))) (fun u => [(q1, .inr (12, [.int (zI (0)), .ref q2, .ref q3, .ref q4, .ref q5, .ref q6, .ref q7, .long (1730618772 : Int64)])), (q5, .inr (10, [.ref q8, .ref q9, .int (zI (0)), .int (zI (0)), .int (zI (0))])), (q8, .inr (13, [.int (zI (0)), .ref (G.2.2 0), .int (zI (0))])), (q9, .inr (13, [.int (zI (0)), .ref (G.2.2 0), .int (zI (0))]))]) (va_A [(q1, .inr (12, [.int (zI (0)), .ref q2, .ref q3, .ref q4, .ref q5, .ref q6, .ref q7, .long (1730618772 : Int64)])), (q5, .inr (10, [.ref q8, .ref q9, .int (zI (0)), .int (zI (0)), .int (zI (0))])), (q8, .inr (13, [.int (zI (0)), .ref (G.2.2 0), .int (zI (0))])), (q9, .inr (13, [.int (zI (0)), .ref (G.2.2 0), .int (zI (0))]))] sz)) 1 5 (va_A [(q1, .inr (12, [.int (zI (0)), .ref q2, .ref q3, .ref q4, .ref q5, .ref q6, .ref q7, .long (1730618772 : Int64)])), (q5, .inr (10, [.ref q8, .ref q9, .int (zI (0)), .int (zI (0)), .int (zI (0))])), (q8, .inr (13, [.int (zI (0)), .ref (G.2.2 0), .int (zI (0))])), (q9, .inr (13, [.int (zI (0)), .ref (G.2.2 0), .int (zI (0))]))] sz) := by
  refine vv_start hf (by decide) (Nat.le_of_ble_eq_true rfl) ?_
  intro p e s m below meth c A C hnm
  refine vv_iconst (v := zI (5)) C dX13_manyNow_0 rfl ?_
  refine vv_newa (atype := .int) (ty := .int) C 0 rfl rfl wm108 5 rfl (by decide) (5, .inl (fun _ => 0)) (fun _ => rfl) (by decide) ⟨Nat.le_of_ble_eq_true rfl, Nat.le_of_ble_eq_true rfl⟩ dX13_manyNow_1 (fun q10 => [(q1, .inr (12, [.int (zI (0)), .ref q2, .ref q3, .ref q4, .ref q5, .ref q6, .ref q7, .long (1730618772 : Int64)])), (q5, .inr (10, [.ref q8, .ref q9, .int (zI (0)), .int (zI (0)), .int (zI (0))])), (q8, .inr (13, [.int (zI (0)), .ref (G.2.2 0), .int (zI (0))])), (q9, .inr (13, [.int (zI (0)), .ref (G.2.2 0), .int (zI (0))])), (q10, .inl (G.2.1 0, 5, .inl (fun _ => 0)))]) (fun _ => rfl) (fun q10 => ?_)
  refine vv_dup C dX13_manyNow_3 rfl ?_
  refine vv_iconst (v := zI (0)) C dX13_manyNow_4 rfl ?_
  refine vv_aload_n C 0 dX13_manyNow_5 rfl rfl ?_
  refine vv_get C 0 rfl rfl vi_X13 4 (by decide) wm1131 rfl dX13_manyNow_6 ?_
  refine vv_getN (host := "LatticeworkModel") C 1 rfl rfl vi_X11 0 (by decide) (by decide +kernel) rfl dX13_manyNow_9 ?_
  refine vv_callV (As := []) (rest := [.int (zI (0)), .ref q10, .ref q10]) (wr := [(q1, .inr (12, [.int (zI (0)), .ref q2, .ref q3, .ref q4, .ref q5, .ref q6, .ref q7, .long (1730618772 : Int64)])), (q5, .inr (10, [.ref q8, .ref q9, .int (zI (0)), .int (zI (0)), .int (zI (0))])), (q9, .inr (13, [.int (zI (0)), .ref (G.2.2 0), .int (zI (0))])), (q10, .inl (G.2.1 0, 5, .inl (fun _ => 0)))]) (ws2 := fun u => [(q1, .inr (12, [.int (zI (0)), .ref q2, .ref q3, .ref q4, .ref q5, .ref q6, .ref q7, .long (1730618772 : Int64)])), (q5, .inr (10, [.ref q8, .ref q9, .int (zI (0)), .int (zI (0)), .int (zI (0))])), (q8, .inr (13, [.int (zI (0)), .ref (G.2.2 0), .int (zI (0))])), (q9, .inr (13, [.int (zI (0)), .ref (G.2.2 0), .int (zI (0))])), (q10, .inl (G.2.1 0, 5, .inl (fun _ => 0)))]) (isC := [2]) (isR := [0, 1, 3, 4]) (isP := [0, 1, 4, 2, 3]) C (vv_cutI rfl rfl rfl rfl (by decide) (fun _ => rfl) rfl) (k29_Jx4a65c_size_8abf5 l hf G q8) yy_Jx4a65c_size_8abf5 (vv_rmI rfl rfl (Nat.le_of_ble_eq_true rfl) (Nat.le_of_ble_eq_true rfl) (Nat.le_of_ble_eq_true rfl) (Nat.le_of_ble_eq_true rfl)) wm1175 wm1176 wm1177 0 rfl rfl rfl rfl (Nat.le_of_ble_eq_true rfl) dX13_manyNow_12 (fun v u hp => ?_)
  obtain rfl := hp
  refine vv_nrm (ws1 := [(q1, .inr (12, [.int (zI (0)), .ref q2, .ref q3, .ref q4, .ref q5, .ref q6, .ref q7, .long (1730618772 : Int64)])), (q5, .inr (10, [.ref q8, .ref q9, .int (zI (0)), .int (zI (0)), .int (zI (0))])), (q8, .inr (13, [.int (zI (0)), .ref (G.2.2 0), .int (zI (0))])), (q9, .inr (13, [.int (zI (0)), .ref (G.2.2 0), .int (zI (0))])), (q10, .inl (G.2.1 0, 5, .inl (fun _ => 0)))]) (st1 := [.int (zI (0)), .int (zI (0)), .ref q10, .ref q10]) rfl rfl ?_
  refine vv_iast (ws1 := [(q1, .inr (12, [.int (zI (0)), .ref q2, .ref q3, .ref q4, .ref q5, .ref q6, .ref q7, .long (1730618772 : Int64)])), (q5, .inr (10, [.ref q8, .ref q9, .int (zI (0)), .int (zI (0)), .int (zI (0))])), (q8, .inr (13, [.int (zI (0)), .ref (G.2.2 0), .int (zI (0))])), (q9, .inr (13, [.int (zI (0)), .ref (G.2.2 0), .int (zI (0))])), (q10, .inl (G.2.1 0, 5, .inl (upd (fun _ => 0) 0 (zI (0)))))]) C 4 0 rfl rfl 0 rfl (by decide) (by decide) rfl dX13_manyNow_15 ?_
  refine vv_dup C dX13_manyNow_16 rfl ?_
  refine vv_iconst (v := zI (1)) C dX13_manyNow_17 rfl ?_
  refine vv_aload_n C 0 dX13_manyNow_18 rfl rfl ?_
  refine vv_get C 0 rfl rfl vi_X13 4 (by decide) wm1131 rfl dX13_manyNow_19 ?_
  refine vv_getN (host := "LatticeworkModel") C 1 rfl rfl vi_X11 1 (by decide) (by decide +kernel) rfl dX13_manyNow_22 ?_
  refine vv_callV (As := []) (rest := [.int (zI (1)), .ref q10, .ref q10]) (wr := [(q1, .inr (12, [.int (zI (0)), .ref q2, .ref q3, .ref q4, .ref q5, .ref q6, .ref q7, .long (1730618772 : Int64)])), (q5, .inr (10, [.ref q8, .ref q9, .int (zI (0)), .int (zI (0)), .int (zI (0))])), (q8, .inr (13, [.int (zI (0)), .ref (G.2.2 0), .int (zI (0))])), (q10, .inl (G.2.1 0, 5, .inl (upd (fun _ => 0) 0 (zI (0)))))]) (ws2 := fun u => [(q1, .inr (12, [.int (zI (0)), .ref q2, .ref q3, .ref q4, .ref q5, .ref q6, .ref q7, .long (1730618772 : Int64)])), (q5, .inr (10, [.ref q8, .ref q9, .int (zI (0)), .int (zI (0)), .int (zI (0))])), (q8, .inr (13, [.int (zI (0)), .ref (G.2.2 0), .int (zI (0))])), (q9, .inr (13, [.int (zI (0)), .ref (G.2.2 0), .int (zI (0))])), (q10, .inl (G.2.1 0, 5, .inl (upd (fun _ => 0) 0 (zI (0)))))]) (isC := [3]) (isR := [0, 1, 2, 4]) (isP := [0, 1, 2, 4, 3]) C (vv_cutI rfl rfl rfl rfl (by decide) (fun _ => rfl) rfl) (k29_Jx4a65c_size_8abf5 l hf G q9) yy_Jx4a65c_size_8abf5 (vv_rmI rfl rfl (Nat.le_of_ble_eq_true rfl) (Nat.le_of_ble_eq_true rfl) (Nat.le_of_ble_eq_true rfl) (Nat.le_of_ble_eq_true rfl)) wm1175 wm1176 wm1177 0 rfl rfl rfl rfl (Nat.le_of_ble_eq_true rfl) dX13_manyNow_25 (fun v u hp => ?_)
  obtain rfl := hp
  refine vv_nrm (ws1 := [(q1, .inr (12, [.int (zI (0)), .ref q2, .ref q3, .ref q4, .ref q5, .ref q6, .ref q7, .long (1730618772 : Int64)])), (q5, .inr (10, [.ref q8, .ref q9, .int (zI (0)), .int (zI (0)), .int (zI (0))])), (q8, .inr (13, [.int (zI (0)), .ref (G.2.2 0), .int (zI (0))])), (q9, .inr (13, [.int (zI (0)), .ref (G.2.2 0), .int (zI (0))])), (q10, .inl (G.2.1 0, 5, .inl (upd (fun _ => 0) 0 (zI (0)))))]) (st1 := [.int (zI (0)), .int (zI (1)), .ref q10, .ref q10]) rfl rfl ?_
  refine vv_iast (ws1 := [(q1, .inr (12, [.int (zI (0)), .ref q2, .ref q3, .ref q4, .ref q5, .ref q6, .ref q7, .long (1730618772 : Int64)])), (q5, .inr (10, [.ref q8, .ref q9, .int (zI (0)), .int (zI (0)), .int (zI (0))])), (q8, .inr (13, [.int (zI (0)), .ref (G.2.2 0), .int (zI (0))])), (q9, .inr (13, [.int (zI (0)), .ref (G.2.2 0), .int (zI (0))])), (q10, .inl (G.2.1 0, 5, .inl (upd (upd (fun _ => 0) 0 (zI (0))) 1 (zI (0)))))]) C 4 0 rfl rfl 1 rfl (by decide) (by decide) rfl dX13_manyNow_28 ?_
  refine vv_dup C dX13_manyNow_29 rfl ?_
  refine vv_iconst (v := zI (2)) C dX13_manyNow_30 rfl ?_
  refine vv_aload_n C 0 dX13_manyNow_31 rfl rfl ?_
  refine vv_get C 0 rfl rfl vi_X13 4 (by decide) wm1131 rfl dX13_manyNow_32 ?_
  refine vv_getN (host := "LatticeworkModel") C 1 rfl rfl vi_X11 2 (by decide) (by decide +kernel) rfl dX13_manyNow_35 ?_
  refine vv_iast (ws1 := [(q1, .inr (12, [.int (zI (0)), .ref q2, .ref q3, .ref q4, .ref q5, .ref q6, .ref q7, .long (1730618772 : Int64)])), (q5, .inr (10, [.ref q8, .ref q9, .int (zI (0)), .int (zI (0)), .int (zI (0))])), (q8, .inr (13, [.int (zI (0)), .ref (G.2.2 0), .int (zI (0))])), (q9, .inr (13, [.int (zI (0)), .ref (G.2.2 0), .int (zI (0))])), (q10, .inl (G.2.1 0, 5, .inl (upd (upd (upd (fun _ => 0) 0 (zI (0))) 1 (zI (0))) 2 (zI (0)))))]) C 4 0 rfl rfl 2 rfl (by decide) (by decide) rfl dX13_manyNow_38 ?_
  refine vv_dup C dX13_manyNow_39 rfl ?_
  refine vv_iconst (v := zI (3)) C dX13_manyNow_40 rfl ?_
  refine vv_aload_n C 0 dX13_manyNow_41 rfl rfl ?_
  refine vv_get C 0 rfl rfl vi_X13 4 (by decide) wm1131 rfl dX13_manyNow_42 ?_
  refine vv_getN (host := "LatticeworkModel") C 1 rfl rfl vi_X11 3 (by decide) (by decide +kernel) rfl dX13_manyNow_45 ?_
  refine vv_iast (ws1 := [(q1, .inr (12, [.int (zI (0)), .ref q2, .ref q3, .ref q4, .ref q5, .ref q6, .ref q7, .long (1730618772 : Int64)])), (q5, .inr (10, [.ref q8, .ref q9, .int (zI (0)), .int (zI (0)), .int (zI (0))])), (q8, .inr (13, [.int (zI (0)), .ref (G.2.2 0), .int (zI (0))])), (q9, .inr (13, [.int (zI (0)), .ref (G.2.2 0), .int (zI (0))])), (q10, .inl (G.2.1 0, 5, .inl (upd (upd (upd (upd (fun _ => 0) 0 (zI (0))) 1 (zI (0))) 2 (zI (0))) 3 (zI (0)))))]) C 4 0 rfl rfl 3 rfl (by decide) (by decide) rfl dX13_manyNow_48 ?_
  refine vv_dup C dX13_manyNow_49 rfl ?_
  refine vv_iconst (v := zI (4)) C dX13_manyNow_50 rfl ?_
  refine vv_aload_n C 0 dX13_manyNow_51 rfl rfl ?_
  refine vv_get C 0 rfl rfl vi_X13 4 (by decide) wm1131 rfl dX13_manyNow_52 ?_
  refine vv_getN (host := "LatticeworkModel") C 1 rfl rfl vi_X11 4 (by decide) (by decide +kernel) rfl dX13_manyNow_55 ?_
  refine vv_if_eq (tgt := 65) C dX13_manyNow_58 (by decide) (by omega) (fun h => ?_) (fun h => by exfalso; omega)
  refine vv_iconst (v := zI (0)) C dX13_manyNow_65 rfl ?_
  refine vv_iast (ws1 := [(q1, .inr (12, [.int (zI (0)), .ref q2, .ref q3, .ref q4, .ref q5, .ref q6, .ref q7, .long (1730618772 : Int64)])), (q5, .inr (10, [.ref q8, .ref q9, .int (zI (0)), .int (zI (0)), .int (zI (0))])), (q8, .inr (13, [.int (zI (0)), .ref (G.2.2 0), .int (zI (0))])), (q9, .inr (13, [.int (zI (0)), .ref (G.2.2 0), .int (zI (0))])), (q10, .inl (G.2.1 0, 5, .inl (upd (upd (upd (upd (upd (fun _ => 0) 0 (zI (0))) 1 (zI (0))) 2 (zI (0))) 3 (zI (0))) 4 (zI (0)))))]) C 4 0 rfl rfl 4 rfl (by decide) (by decide) rfl dX13_manyNow_66 ?_
  refine vv_astore_n (loc1 := [(2, .ref q10), (0, .ref q1), (1, .int (zI (2)))]) C dX13_manyNow_67 rfl (by decide) rfl ?_
  refine vv_aload_n C 0 dX13_manyNow_68 rfl rfl ?_
  refine vv_iload_n C 2 dX13_manyNow_69 rfl rfl ?_
  refine vv_iald (v := (zI (0))) C 4 0 rfl rfl 2 rfl (by decide) (by decide) rfl dX13_manyNow_70 ?_
  exact vv_iret C (()) rfl [0, 1, 2, 3] rfl rfl ⟨Nat.le_of_ble_eq_true rfl, Nat.le_of_ble_eq_true rfl⟩ dX13_manyNow_71
set_option maxHeartbeats 4000000 in
set_option maxRecDepth 100000 in
theorem k439_X13_add (l : Launch) (hf : l.stackTraces = false) (G : vv_G) (q1 q2 q3 q4 q5 q6 q7 : Nat) : ∀ sz, Met l yX13_add (Cond.code yX13_add cX13_add 2 none :: gT) ({ frames := 0, cells := 0, slots := 0, locals := 0 } : Room) (va_Pc [.ref q1, .int (zI (0))] (vv_I G [(q1, .inr (12, [.int (zI (0)), .ref q2, .ref q3, .ref q4, .ref q5, .ref q6, .ref q7, .long (1730618772 : Int64)]))] sz)) (vv_Q G (fun v (u : Unit) => v = none) (fun u => [(q1, .inr (12, [.int (zI (0)), .ref q2, .ref q3, .ref q4, .ref q5, .ref q6, .ref q7, .long (53649181932 : Int64)]))]) (va_A [(q1, .inr (12, [.int (zI (0)), .ref q2, .ref q3, .ref q4, .ref q5, .ref q6, .ref q7, .long (1730618772 : Int64)]))] sz)) 0 0 (va_A [(q1, .inr (12, [.int (zI (0)), .ref q2, .ref q3, .ref q4, .ref q5, .ref q6, .ref q7, .long (1730618772 : Int64)]))] sz) := by
  refine vv_start hf (by decide) (Nat.le_of_ble_eq_true rfl) ?_
  intro p e s m below meth c A C hnm
  refine vv_aload_n C 0 dX13_add_0 rfl rfl ?_
  refine vv_aload_n C 0 dX13_add_1 rfl rfl ?_
  refine vv_get C 0 rfl rfl vi_X13 7 (by decide) wm1134 rfl dX13_add_2 ?_
  refine vv_ldc2 (v := (31 : Int64)) C dX13_add_5 wm2093 ?_
  refine vv_lmul (z := (53649181932 : Int64)) C dX13_add_8 (by decide +kernel) ?_
  refine vv_iload_n C 1 dX13_add_9 rfl rfl ?_
  refine vv_i2l (z := (0 : Int64)) C dX13_add_10 (by decide +kernel) ?_
  refine vv_ladd (z := (53649181932 : Int64)) C dX13_add_11 (by decide +kernel) ?_
  refine vv_put (ws1 := [(q1, .inr (12, [.int (zI (0)), .ref q2, .ref q3, .ref q4, .ref q5, .ref q6, .ref q7, .long (53649181932 : Int64)]))]) C 0 rfl rfl vi_X13 tyX13_ok nmX13 7 (by decide) wm1134 rfl rfl rfl (Nat.le_of_ble_eq_true rfl) rfl dX13_add_12 ?_
  exact vv_vret C (()) rfl [0] rfl rfl ⟨Nat.le_of_ble_eq_true rfl, Nat.le_of_ble_eq_true rfl⟩ dX13_add_15
