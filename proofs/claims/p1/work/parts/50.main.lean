set_option maxHeartbeats 4000000 in
set_option maxRecDepth 100000 in
/-- the law, from its entry -/
theorem whole_start {p : Program} {e : Env} {s : State} {m : MethodId} {below : List Frame} {meth : Method} {c : Code} (l : Launch) (hflags : l.flags = flags0) {b L : Nat} {xs : Nat → Int32} (hL : L ≤ 5) (C0 : lw_At p s m meth c b L xs) : W p l e room_1 s m #[Value.ref b] below meth c s.heap [] 0 0 (lw_Z below #[Value.ref b] s) (entryFrame m ([Value.ref b] : List Value).toArray 9) := by
  obtain ⟨hx, hb, hr, hml, hown, hts, hX, hbl, hlocks, hgv⟩ := id C0
  have hf : l.stackTraces = false := by unfold Launch.stackTraces; rw [hflags]; decide
  obtain ⟨G, hE, hK⟩ := lw_env hts hgv
  have C : vv_C l p s m #[Value.ref b] meth c RL cL_law 9 ret G (fun q => s.heap.size ≤ q) := ⟨⟨hx, hb, hml, hown, vg_ts hts⟩, hK, fun _ h => h, hE, hr, hlocks, hf⟩
  have hbA : ¬ s.heap.size ≤ b := Nat.not_le.mpr hbl
  rw [lg_entry_eq]
  suffices K : VV p l e room_1 s m #[Value.ref b] below meth c (lw_Z below #[Value.ref b] s) G (fun q => s.heap.size ≤ q) 9 0 0 [] 0 [(0, .ref b)] [] from K s.heap [] _ (fun k q h => by simp at h) ⟨fun i j p q h => by simp at h, fun k q h => by simp at h⟩ va_S.rf (lv_entry [.ref b] (Nat.le_of_ble_eq_true rfl))
  refine vv_new (ci := 9) C rfl vi_X10 tyX10_ok wm42 wm43 wm1 [.null, .null, .null, .null, .null, .null, .null, .null, .null] (fun j hj => by rcases (show j = 0 ∨ j = 1 ∨ j = 2 ∨ j = 3 ∨ j = 4 ∨ j = 5 ∨ j = 6 ∨ j = 7 ∨ j = 8 by omega) with rfl | rfl | rfl | rfl | rfl | rfl | rfl | rfl | rfl <;> rfl) ⟨Nat.le_of_ble_eq_true rfl, Nat.le_of_ble_eq_true rfl⟩ dL_law_0 (fun q1 => [(q1, .inr (9, [.null, .null, .null, .null, .null, .null, .null, .null, .null]))]) (fun _ => rfl) (fun q1 => ?_)
  refine vv_dup C dL_law_3 rfl ?_
  refine vv_callI (As := []) (rest := [.ref q1]) (wr := []) (ws2 := fun u => [(q1, .inr (9, [.ref u.1, .ref u.2.1, .ref u.2.2.1, .ref u.2.2.2.1, .ref u.2.2.2.2.1, .ref u.2.2.2.2.2.1, .ref u.2.2.2.2.2.2.1, .ref u.2.2.2.2.2.2.2.1, .ref u.2.2.2.2.2.2.2.2.1])), (u.2.2.1, .inr (0, [.ref u.1, .ref u.2.1, .ref u.2.2.2.2.2.2.2.2.2.1, .ref u.2.2.2.2.2.2.2.2.2.2.1, .ref u.2.2.2.2.2.2.2.2.2.2.2.1])), (u.2.2.2.1, .inr (7, [.ref u.2.2.2.2.2.2.2.2.2.2.2.2.1, .ref u.2.2.2.2.2.2.2.2.2.2.2.2.2.1, .ref u.2.2.2.2.2.2.2.2.2.2.2.2.2.2.1, .ref u.2.2.2.2.2.2.2.2.2.2.2.2.2.2.2.1, .int (zI (0)), .int (zI (0)), .int (zI (0)), .int (zI (0)), .int (zI (0))])), (u.2.2.2.2.2.2.2.2.2.2.2.2.1, .inl (G.2.1 1, 8, .inr (.inl (fun _ => 0)))), (u.2.2.2.2.2.2.2.2.2.2.2.2.2.1, .inl (G.2.1 1, 8, .inr (.inl (fun _ => 0)))), (u.2.2.2.2.2.2.2.2.2.2.2.2.2.2.1, .inl (G.2.1 1, 20, .inr (.inl (fun _ => 0)))), (u.2.2.2.2.2.2.2.2.2.2.2.2.2.2.2.1, .inl (G.2.1 1, 20, .inr (.inl (fun _ => 0)))), (u.2.2.2.2.1, .inr (7, [.ref u.2.2.2.2.2.2.2.2.2.2.2.2.2.2.2.2.1, .ref u.2.2.2.2.2.2.2.2.2.2.2.2.2.2.2.2.2.1, .ref u.2.2.2.2.2.2.2.2.2.2.2.2.2.2.2.2.2.2.1, .ref u.2.2.2.2.2.2.2.2.2.2.2.2.2.2.2.2.2.2.2.1, .int (zI (0)), .int (zI (0)), .int (zI (0)), .int (zI (0)), .int (zI (0))])), (u.2.2.2.2.2.2.2.2.2.2.2.2.2.2.2.2.1, .inl (G.2.1 1, 8, .inr (.inl (fun _ => 0)))), (u.2.2.2.2.2.2.2.2.2.2.2.2.2.2.2.2.2.1, .inl (G.2.1 1, 8, .inr (.inl (fun _ => 0)))), (u.2.2.2.2.2.2.2.2.2.2.2.2.2.2.2.2.2.2.1, .inl (G.2.1 1, 20, .inr (.inl (fun _ => 0)))), (u.2.2.2.2.2.2.2.2.2.2.2.2.2.2.2.2.2.2.2.1, .inl (G.2.1 1, 20, .inr (.inl (fun _ => 0)))), (u.2.2.2.2.2.1, .inr (8, [.ref u.2.2.2.2.2.2.2.2.2.2.2.2.2.2.2.2.2.2.2.2.1, .ref u.2.2.2.2.2.2.2.2.2.2.2.2.2.2.2.2.2.2.2.2.2.1, .ref u.2.2.2.2.2.2.2.2.2.2.2.2.2.2.2.2.2.2.2.2.2.2.1, .int (zI (0))])), (u.2.2.2.2.2.2.2.2.2.2.2.2.2.2.2.2.2.2.2.2.1, .inl (G.2.1 1, 60, .inr (.inl (fun _ => 0)))), (u.2.2.2.2.2.2.2.2.2.2.2.2.2.2.2.2.2.2.2.2.2.1, .inl (G.2.1 1, 60, .inr (.inl (fun _ => 0)))), (u.2.2.2.2.2.2.1, .inr (1, [.ref u.2.2.2.2.2.2.2.2.2.2.2.2.2.2.2.2.2.2.2.2.2.2.2.1, .ref u.2.2.2.2.2.2.2.2.2.2.2.2.2.2.2.2.2.2.2.2.2.2.2.2.1, .ref u.2.2.2.2.2.2.2.2.2.2.2.2.2.2.2.2.2.2.2.2.2.2.2.2.2.1, .ref u.2.2.2.2.2.2.2.2.2.2.2.2.2.2.2.2.2.2.2.2.2.2.2.2.2.2.1, .int (zI (0))])), (u.2.2.2.2.2.2.2.2.2.2.2.2.2.2.2.2.2.2.2.2.2.2.2.1, .inl (G.2.1 0, 40, .inl (fun _ => 0))), (u.2.2.2.2.2.2.2.2.2.2.2.2.2.2.2.2.2.2.2.2.2.2.2.2.1, .inl (G.2.1 0, 40, .inl (fun _ => 0))), (u.2.2.2.2.2.2.2.2.2.2.2.2.2.2.2.2.2.2.2.2.2.2.2.2.2.1, .inl (G.2.1 0, 40, .inl (fun _ => 0))), (u.2.2.2.2.2.2.2.2.2.2.2.2.2.2.2.2.2.2.2.2.2.2.2.2.2.2.1, .inl (G.2.1 0, 40, .inl (fun _ => 0))), (u.2.2.2.2.2.2.2.2.1, .inr (3, [.ref u.2.2.2.2.2.2.1, .ref u.2.2.2.2.2.2.2.1, .ref u.2.2.2.2.2.2.2.2.2.2.2.2.2.2.2.2.2.2.2.2.2.2.2.2.2.2.2.1, .ref u.2.2.2.2.2.2.2.2.2.2.2.2.2.2.2.2.2.2.2.2.2.2.2.2.2.2.2.2.1, .ref u.2.2.2.2.2.2.2.2.2.2.2.2.2.2.2.2.2.2.2.2.2.2.2.2.2.2.2.2.2.1, .ref u.2.2.2.2.2.2.2.2.2.2.2.2.2.2.2.2.2.2.2.2.2.2.2.2.2.2.2.2.2.2.1, .ref u.2.2.2.2.2.2.2.2.2.2.2.2.2.2.2.2.2.2.2.2.2.2.2.2.2.2.2.2.2.2.2.1, .ref u.2.2.2.2.2.2.2.2.2.2.2.2.2.2.2.2.2.2.2.2.2.2.2.2.2.2.2.2.2.2.2.2, .int (zI (0))]))]) (isC := [0]) (isR := []) (isP := [0, 1, 2, 3, 4, 5, 6, 7, 8, 9, 10, 11, 12, 13, 14, 15, 16, 17, 18, 19, 20]) C (vv_cutI rfl rfl rfl rfl (by decide) (fun _ => rfl) rfl) (k11_X10_init l hf G q1) yy_X10_init (vv_rmI rfl rfl (Nat.le_of_ble_eq_true rfl) (Nat.le_of_ble_eq_true rfl) (Nat.le_of_ble_eq_true rfl) (Nat.le_of_ble_eq_true rfl)) wm44 wm45 rfl rfl rfl (Nat.le_of_ble_eq_true rfl) dL_law_4 (fun v u hp => ?_)
  obtain rfl := hp
  obtain ⟨q2, q4, q13, q21, q26, q31, q35, q40, q99, q14, q19, q20, q22, q23, q24, q25, q27, q28, q29, q30, q32, q33, q34, q36, q37, q38, q39, q100, q101, q102, q103, q104, q105⟩ := u
  refine vv_nrm (ws1 := [(q1, .inr (9, [.ref q2, .ref q4, .ref q13, .ref q21, .ref q26, .ref q31, .ref q35, .ref q40, .ref q99])), (q13, .inr (0, [.ref q2, .ref q4, .ref q14, .ref q19, .ref q20])), (q21, .inr (7, [.ref q22, .ref q23, .ref q24, .ref q25, .int (zI (0)), .int (zI (0)), .int (zI (0)), .int (zI (0)), .int (zI (0))])), (q22, .inl (G.2.1 1, 8, .inr (.inl (fun _ => 0)))), (q23, .inl (G.2.1 1, 8, .inr (.inl (fun _ => 0)))), (q24, .inl (G.2.1 1, 20, .inr (.inl (fun _ => 0)))), (q25, .inl (G.2.1 1, 20, .inr (.inl (fun _ => 0)))), (q26, .inr (7, [.ref q27, .ref q28, .ref q29, .ref q30, .int (zI (0)), .int (zI (0)), .int (zI (0)), .int (zI (0)), .int (zI (0))])), (q27, .inl (G.2.1 1, 8, .inr (.inl (fun _ => 0)))), (q28, .inl (G.2.1 1, 8, .inr (.inl (fun _ => 0)))), (q29, .inl (G.2.1 1, 20, .inr (.inl (fun _ => 0)))), (q30, .inl (G.2.1 1, 20, .inr (.inl (fun _ => 0)))), (q31, .inr (8, [.ref q32, .ref q33, .ref q34, .int (zI (0))])), (q32, .inl (G.2.1 1, 60, .inr (.inl (fun _ => 0)))), (q33, .inl (G.2.1 1, 60, .inr (.inl (fun _ => 0)))), (q35, .inr (1, [.ref q36, .ref q37, .ref q38, .ref q39, .int (zI (0))])), (q36, .inl (G.2.1 0, 40, .inl (fun _ => 0))), (q37, .inl (G.2.1 0, 40, .inl (fun _ => 0))), (q38, .inl (G.2.1 0, 40, .inl (fun _ => 0))), (q39, .inl (G.2.1 0, 40, .inl (fun _ => 0))), (q99, .inr (3, [.ref q35, .ref q40, .ref q100, .ref q101, .ref q102, .ref q103, .ref q104, .ref q105, .int (zI (0))]))]) (st1 := [.ref q1]) rfl rfl ?_
  refine vv_astore_n (loc1 := [(1, .ref q1), (0, .ref b)]) C dL_law_7 rfl (by decide) rfl ?_
  refine vv_new (ci := 12) C rfl vi_X13 tyX13_ok wm1061 wm1062 wm11 [.int (zI (0)), .null, .null, .null, .null, .null, .null, .long (0 : Int64)] (fun j hj => by rcases (show j = 0 ∨ j = 1 ∨ j = 2 ∨ j = 3 ∨ j = 4 ∨ j = 5 ∨ j = 6 ∨ j = 7 by omega) with rfl | rfl | rfl | rfl | rfl | rfl | rfl | rfl <;> rfl) ⟨Nat.le_of_ble_eq_true rfl, Nat.le_of_ble_eq_true rfl⟩ dL_law_8 (fun q106 => [(q1, .inr (9, [.ref q2, .ref q4, .ref q13, .ref q21, .ref q26, .ref q31, .ref q35, .ref q40, .ref q99])), (q13, .inr (0, [.ref q2, .ref q4, .ref q14, .ref q19, .ref q20])), (q21, .inr (7, [.ref q22, .ref q23, .ref q24, .ref q25, .int (zI (0)), .int (zI (0)), .int (zI (0)), .int (zI (0)), .int (zI (0))])), (q22, .inl (G.2.1 1, 8, .inr (.inl (fun _ => 0)))), (q23, .inl (G.2.1 1, 8, .inr (.inl (fun _ => 0)))), (q24, .inl (G.2.1 1, 20, .inr (.inl (fun _ => 0)))), (q25, .inl (G.2.1 1, 20, .inr (.inl (fun _ => 0)))), (q26, .inr (7, [.ref q27, .ref q28, .ref q29, .ref q30, .int (zI (0)), .int (zI (0)), .int (zI (0)), .int (zI (0)), .int (zI (0))])), (q27, .inl (G.2.1 1, 8, .inr (.inl (fun _ => 0)))), (q28, .inl (G.2.1 1, 8, .inr (.inl (fun _ => 0)))), (q29, .inl (G.2.1 1, 20, .inr (.inl (fun _ => 0)))), (q30, .inl (G.2.1 1, 20, .inr (.inl (fun _ => 0)))), (q31, .inr (8, [.ref q32, .ref q33, .ref q34, .int (zI (0))])), (q32, .inl (G.2.1 1, 60, .inr (.inl (fun _ => 0)))), (q33, .inl (G.2.1 1, 60, .inr (.inl (fun _ => 0)))), (q35, .inr (1, [.ref q36, .ref q37, .ref q38, .ref q39, .int (zI (0))])), (q36, .inl (G.2.1 0, 40, .inl (fun _ => 0))), (q37, .inl (G.2.1 0, 40, .inl (fun _ => 0))), (q38, .inl (G.2.1 0, 40, .inl (fun _ => 0))), (q39, .inl (G.2.1 0, 40, .inl (fun _ => 0))), (q99, .inr (3, [.ref q35, .ref q40, .ref q100, .ref q101, .ref q102, .ref q103, .ref q104, .ref q105, .int (zI (0))])), (q106, .inr (12, [.int (zI (0)), .null, .null, .null, .null, .null, .null, .long (0 : Int64)]))]) (fun _ => rfl) (fun q106 => ?_)
  refine vv_dup C dL_law_11 rfl ?_
  refine vv_callI (As := []) (rest := [.ref q106]) (wr := [(q1, .inr (9, [.ref q2, .ref q4, .ref q13, .ref q21, .ref q26, .ref q31, .ref q35, .ref q40, .ref q99])), (q13, .inr (0, [.ref q2, .ref q4, .ref q14, .ref q19, .ref q20])), (q21, .inr (7, [.ref q22, .ref q23, .ref q24, .ref q25, .int (zI (0)), .int (zI (0)), .int (zI (0)), .int (zI (0)), .int (zI (0))])), (q22, .inl (G.2.1 1, 8, .inr (.inl (fun _ => 0)))), (q23, .inl (G.2.1 1, 8, .inr (.inl (fun _ => 0)))), (q24, .inl (G.2.1 1, 20, .inr (.inl (fun _ => 0)))), (q25, .inl (G.2.1 1, 20, .inr (.inl (fun _ => 0)))), (q26, .inr (7, [.ref q27, .ref q28, .ref q29, .ref q30, .int (zI (0)), .int (zI (0)), .int (zI (0)), .int (zI (0)), .int (zI (0))])), (q27, .inl (G.2.1 1, 8, .inr (.inl (fun _ => 0)))), (q28, .inl (G.2.1 1, 8, .inr (.inl (fun _ => 0)))), (q29, .inl (G.2.1 1, 20, .inr (.inl (fun _ => 0)))), (q30, .inl (G.2.1 1, 20, .inr (.inl (fun _ => 0)))), (q31, .inr (8, [.ref q32, .ref q33, .ref q34, .int (zI (0))])), (q32, .inl (G.2.1 1, 60, .inr (.inl (fun _ => 0)))), (q33, .inl (G.2.1 1, 60, .inr (.inl (fun _ => 0)))), (q35, .inr (1, [.ref q36, .ref q37, .ref q38, .ref q39, .int (zI (0))])), (q36, .inl (G.2.1 0, 40, .inl (fun _ => 0))), (q37, .inl (G.2.1 0, 40, .inl (fun _ => 0))), (q38, .inl (G.2.1 0, 40, .inl (fun _ => 0))), (q39, .inl (G.2.1 0, 40, .inl (fun _ => 0))), (q99, .inr (3, [.ref q35, .ref q40, .ref q100, .ref q101, .ref q102, .ref q103, .ref q104, .ref q105, .int (zI (0))]))]) (ws2 := fun u => [(q1, .inr (9, [.ref q2, .ref q4, .ref q13, .ref q21, .ref q26, .ref q31, .ref q35, .ref q40, .ref q99])), (q13, .inr (0, [.ref q2, .ref q4, .ref q14, .ref q19, .ref q20])), (q21, .inr (7, [.ref q22, .ref q23, .ref q24, .ref q25, .int (zI (0)), .int (zI (0)), .int (zI (0)), .int (zI (0)), .int (zI (0))])), (q22, .inl (G.2.1 1, 8, .inr (.inl (fun _ => 0)))), (q23, .inl (G.2.1 1, 8, .inr (.inl (fun _ => 0)))), (q24, .inl (G.2.1 1, 20, .inr (.inl (fun _ => 0)))), (q25, .inl (G.2.1 1, 20, .inr (.inl (fun _ => 0)))), (q26, .inr (7, [.ref q27, .ref q28, .ref q29, .ref q30, .int (zI (0)), .int (zI (0)), .int (zI (0)), .int (zI (0)), .int (zI (0))])), (q27, .inl (G.2.1 1, 8, .inr (.inl (fun _ => 0)))), (q28, .inl (G.2.1 1, 8, .inr (.inl (fun _ => 0)))), (q29, .inl (G.2.1 1, 20, .inr (.inl (fun _ => 0)))), (q30, .inl (G.2.1 1, 20, .inr (.inl (fun _ => 0)))), (q31, .inr (8, [.ref q32, .ref q33, .ref q34, .int (zI (0))])), (q32, .inl (G.2.1 1, 60, .inr (.inl (fun _ => 0)))), (q33, .inl (G.2.1 1, 60, .inr (.inl (fun _ => 0)))), (q35, .inr (1, [.ref q36, .ref q37, .ref q38, .ref q39, .int (zI (0))])), (q36, .inl (G.2.1 0, 40, .inl (fun _ => 0))), (q37, .inl (G.2.1 0, 40, .inl (fun _ => 0))), (q38, .inl (G.2.1 0, 40, .inl (fun _ => 0))), (q39, .inl (G.2.1 0, 40, .inl (fun _ => 0))), (q99, .inr (3, [.ref q35, .ref q40, .ref q100, .ref q101, .ref q102, .ref q103, .ref q104, .ref q105, .int (zI (0))])), (q106, .inr (12, [.int (zI (0)), .ref u.1, .ref u.2.1, .ref u.2.2.1, .ref u.2.2.2.1, .ref u.2.2.2.2.1, .ref u.2.2.2.2.2.1, .long (0 : Int64)])), (u.1, .inr (13, [.int (zI (0)), .ref (G.2.2 0), .int (zI (0))])), (u.2.1, .inr (13, [.int (zI (0)), .ref (G.2.2 0), .int (zI (0))])), (u.2.2.1, .inr (13, [.int (zI (0)), .ref (G.2.2 0), .int (zI (0))])), (u.2.2.2.1, .inr (10, [.ref u.2.2.2.2.2.2.1, .ref u.2.2.2.2.2.2.2, .int (zI (0)), .int (zI (0)), .int (zI (0))])), (u.2.2.2.2.2.2.1, .inr (13, [.int (zI (0)), .ref (G.2.2 0), .int (zI (0))])), (u.2.2.2.2.2.2.2, .inr (13, [.int (zI (0)), .ref (G.2.2 0), .int (zI (0))]))]) (isC := [21]) (isR := [0, 1, 2, 3, 4, 5, 6, 7, 8, 9, 10, 11, 12, 13, 14, 15, 16, 17, 18, 19, 20]) (isP := [0, 1, 2, 3, 4, 5, 6, 7, 8, 9, 10, 11, 12, 13, 14, 15, 16, 17, 18, 19, 20, 21, 22, 23, 24, 25, 26, 27]) C (vv_cutI rfl rfl rfl rfl (by decide) (fun _ => rfl) rfl) (k16_X13_init l hf G q106) yy_X13_init (vv_rmI rfl rfl (Nat.le_of_ble_eq_true rfl) (Nat.le_of_ble_eq_true rfl) (Nat.le_of_ble_eq_true rfl) (Nat.le_of_ble_eq_true rfl)) wm1063 wm1064 rfl rfl rfl (Nat.le_of_ble_eq_true rfl) dL_law_12 (fun v u hp => ?_)
  obtain rfl := hp
  obtain ⟨q107, q108, q109, q110, q113, q114, q111, q112⟩ := u
  refine vv_nrm (ws1 := [(q1, .inr (9, [.ref q2, .ref q4, .ref q13, .ref q21, .ref q26, .ref q31, .ref q35, .ref q40, .ref q99])), (q13, .inr (0, [.ref q2, .ref q4, .ref q14, .ref q19, .ref q20])), (q21, .inr (7, [.ref q22, .ref q23, .ref q24, .ref q25, .int (zI (0)), .int (zI (0)), .int (zI (0)), .int (zI (0)), .int (zI (0))])), (q22, .inl (G.2.1 1, 8, .inr (.inl (fun _ => 0)))), (q23, .inl (G.2.1 1, 8, .inr (.inl (fun _ => 0)))), (q24, .inl (G.2.1 1, 20, .inr (.inl (fun _ => 0)))), (q25, .inl (G.2.1 1, 20, .inr (.inl (fun _ => 0)))), (q26, .inr (7, [.ref q27, .ref q28, .ref q29, .ref q30, .int (zI (0)), .int (zI (0)), .int (zI (0)), .int (zI (0)), .int (zI (0))])), (q27, .inl (G.2.1 1, 8, .inr (.inl (fun _ => 0)))), (q28, .inl (G.2.1 1, 8, .inr (.inl (fun _ => 0)))), (q29, .inl (G.2.1 1, 20, .inr (.inl (fun _ => 0)))), (q30, .inl (G.2.1 1, 20, .inr (.inl (fun _ => 0)))), (q31, .inr (8, [.ref q32, .ref q33, .ref q34, .int (zI (0))])), (q32, .inl (G.2.1 1, 60, .inr (.inl (fun _ => 0)))), (q33, .inl (G.2.1 1, 60, .inr (.inl (fun _ => 0)))), (q35, .inr (1, [.ref q36, .ref q37, .ref q38, .ref q39, .int (zI (0))])), (q36, .inl (G.2.1 0, 40, .inl (fun _ => 0))), (q37, .inl (G.2.1 0, 40, .inl (fun _ => 0))), (q38, .inl (G.2.1 0, 40, .inl (fun _ => 0))), (q39, .inl (G.2.1 0, 40, .inl (fun _ => 0))), (q99, .inr (3, [.ref q35, .ref q40, .ref q100, .ref q101, .ref q102, .ref q103, .ref q104, .ref q105, .int (zI (0))])), (q106, .inr (12, [.int (zI (0)), .ref q107, .ref q108, .ref q109, .ref q110, .ref q113, .ref q114, .long (0 : Int64)])), (q107, .inr (13, [.int (zI (0)), .ref (G.2.2 0), .int (zI (0))])), (q108, .inr (13, [.int (zI (0)), .ref (G.2.2 0), .int (zI (0))])), (q109, .inr (13, [.int (zI (0)), .ref (G.2.2 0), .int (zI (0))])), (q110, .inr (10, [.ref q111, .ref q112, .int (zI (0)), .int (zI (0)), .int (zI (0))])), (q111, .inr (13, [.int (zI (0)), .ref (G.2.2 0), .int (zI (0))])), (q112, .inr (13, [.int (zI (0)), .ref (G.2.2 0), .int (zI (0))]))]) (st1 := [.ref q106]) rfl rfl ?_
  refine vv_astore_n (loc1 := [(2, .ref q106), (1, .ref q1), (0, .ref b)]) C dL_law_15 rfl (by decide) rfl ?_
  refine vv_iconst (v := zI (1)) C dL_law_16 rfl ?_
  refine vv_newa (atype := .long) (ty := .long) C 1 rfl rfl wm64 1 rfl (by decide) (1, .inr (.inl (fun _ => 0))) (fun _ => rfl) (by decide) ⟨Nat.le_of_ble_eq_true rfl, Nat.le_of_ble_eq_true rfl⟩ dL_law_17 (fun q115 => [(q1, .inr (9, [.ref q2, .ref q4, .ref q13, .ref q21, .ref q26, .ref q31, .ref q35, .ref q40, .ref q99])), (q13, .inr (0, [.ref q2, .ref q4, .ref q14, .ref q19, .ref q20])), (q21, .inr (7, [.ref q22, .ref q23, .ref q24, .ref q25, .int (zI (0)), .int (zI (0)), .int (zI (0)), .int (zI (0)), .int (zI (0))])), (q22, .inl (G.2.1 1, 8, .inr (.inl (fun _ => 0)))), (q23, .inl (G.2.1 1, 8, .inr (.inl (fun _ => 0)))), (q24, .inl (G.2.1 1, 20, .inr (.inl (fun _ => 0)))), (q25, .inl (G.2.1 1, 20, .inr (.inl (fun _ => 0)))), (q26, .inr (7, [.ref q27, .ref q28, .ref q29, .ref q30, .int (zI (0)), .int (zI (0)), .int (zI (0)), .int (zI (0)), .int (zI (0))])), (q27, .inl (G.2.1 1, 8, .inr (.inl (fun _ => 0)))), (q28, .inl (G.2.1 1, 8, .inr (.inl (fun _ => 0)))), (q29, .inl (G.2.1 1, 20, .inr (.inl (fun _ => 0)))), (q30, .inl (G.2.1 1, 20, .inr (.inl (fun _ => 0)))), (q31, .inr (8, [.ref q32, .ref q33, .ref q34, .int (zI (0))])), (q32, .inl (G.2.1 1, 60, .inr (.inl (fun _ => 0)))), (q33, .inl (G.2.1 1, 60, .inr (.inl (fun _ => 0)))), (q35, .inr (1, [.ref q36, .ref q37, .ref q38, .ref q39, .int (zI (0))])), (q36, .inl (G.2.1 0, 40, .inl (fun _ => 0))), (q37, .inl (G.2.1 0, 40, .inl (fun _ => 0))), (q38, .inl (G.2.1 0, 40, .inl (fun _ => 0))), (q39, .inl (G.2.1 0, 40, .inl (fun _ => 0))), (q99, .inr (3, [.ref q35, .ref q40, .ref q100, .ref q101, .ref q102, .ref q103, .ref q104, .ref q105, .int (zI (0))])), (q106, .inr (12, [.int (zI (0)), .ref q107, .ref q108, .ref q109, .ref q110, .ref q113, .ref q114, .long (0 : Int64)])), (q107, .inr (13, [.int (zI (0)), .ref (G.2.2 0), .int (zI (0))])), (q108, .inr (13, [.int (zI (0)), .ref (G.2.2 0), .int (zI (0))])), (q109, .inr (13, [.int (zI (0)), .ref (G.2.2 0), .int (zI (0))])), (q110, .inr (10, [.ref q111, .ref q112, .int (zI (0)), .int (zI (0)), .int (zI (0))])), (q111, .inr (13, [.int (zI (0)), .ref (G.2.2 0), .int (zI (0))])), (q112, .inr (13, [.int (zI (0)), .ref (G.2.2 0), .int (zI (0))])), (q115, .inl (G.2.1 1, 1, .inr (.inl (fun _ => 0))))]) (fun _ => rfl) (fun q115 => ?_)
  refine vv_astore_n (loc1 := [(3, .ref q115), (2, .ref q106), (1, .ref q1), (0, .ref b)]) C dL_law_19 rfl (by decide) rfl ?_
  refine vv_iconst (v := zI (0)) C dL_law_20 rfl ?_
  refine vv_istore (loc1 := [(4, .int (zI (0))), (3, .ref q115), (2, .ref q106), (1, .ref q1), (0, .ref b)]) C dL_law_21 (by decide) rfl ?_
  refine vv_wide (k1 := 115) (n1 := 1913) (Nat.le_of_ble_eq_true rfl) (Nat.le_of_ble_eq_true rfl) ?_
  refine vv_iload C 0 dL_law_23 rfl ?_
  refine vv_aload_n C 4 dL_law_25 rfl rfl ?_
  refine vv_slen (v := zI (L)) C hX hbl hbA (zI_nat L).symm dL_law_26 ?_
  refine vv_iconst (v := zI (5)) C dL_law_27 rfl ?_
  refine vv_isub (z := zI ((L : Int) - 5)) C dL_law_28 (zI_sub _ _).symm ?_
  refine vv_icmp_gt (tgt := 1920) C dL_law_29 (by decide) (by omega) (by omega) (fun h => ?_) (fun h => ?_)
  · refine vv_iconst (v := zI (1)) C dL_law_1920 rfl ?_
    exact vv_lwend C (fun _ h => h) ⟨Nat.le_of_ble_eq_true rfl, Nat.le_of_ble_eq_true rfl⟩ dL_law_1921
  obtain rfl : L = 5 := by omega
  refine vv_aload_n C 4 dL_law_32 rfl rfl ?_
  refine vv_iload C 0 dL_law_33 rfl ?_
  refine vv_sld (v := xs 0) C hX hbl hbA 0 (by decide) rfl rfl dL_law_35 ?_
  refine vv_bipush (v := zI (31)) C dL_law_36 (by decide) ?_
  obtain ⟨j, hj, ej⟩ := pk_andE (xs 0) (m := zI (31)) 5 (by decide +kernel)
  refine vv_iand (z := zI (j)) C dL_law_38 (by rw [ej, zI_nat]) ?_
  obtain ⟨v1, ex1, rv1⟩ : ∃ v : Int, xs 1 = zI (v) ∧ -2147483648 ≤ v ∧ v < 2147483648 := ⟨_, zI_of (xs 1), zI_rng (xs 1)⟩
  obtain ⟨v2, ex2, rv2⟩ : ∃ v : Int, xs 2 = zI (v) ∧ -2147483648 ≤ v ∧ v < 2147483648 := ⟨_, zI_of (xs 2), zI_rng (xs 2)⟩
  obtain ⟨v3, ex3, rv3⟩ : ∃ v : Int, xs 3 = zI (v) ∧ -2147483648 ≤ v ∧ v < 2147483648 := ⟨_, zI_of (xs 3), zI_rng (xs 3)⟩
  obtain ⟨v4, ex4, rv4⟩ : ∃ v : Int, xs 4 = zI (v) ∧ -2147483648 ≤ v ∧ v < 2147483648 := ⟨_, zI_of (xs 4), zI_rng (xs 4)⟩
  rcases (show j = 0 ∨ j = 1 ∨ j = 2 ∨ j = 3 ∨ j = 4 ∨ j = 5 ∨ j = 6 ∨ j = 7 ∨ j = 8 ∨ j = 9 ∨ j = 10 ∨ j = 11 ∨ j = 12 ∨ j = 13 ∨ j = 14 ∨ j = 15 ∨ j = 16 ∨ j = 17 ∨ j = 18 ∨ j = 19 ∨ j = 20 ∨ j = 21 ∨ j = 22 ∨ j = 23 ∨ j = 24 ∨ j = 25 ∨ j = 26 ∨ j = 27 ∨ j = 28 ∨ j = 29 ∨ j = 30 ∨ j = 31 by omega) with rfl | rfl | rfl | rfl | rfl | rfl | rfl | rfl | rfl | rfl | rfl | rfl | rfl | rfl | rfl | rfl | rfl | rfl | rfl | rfl | rfl | rfl | rfl | rfl | rfl | rfl | rfl | rfl | rfl | rfl | rfl | rfl
  · skip
    refine vv_tabIn (off := 133) C 172 dL_law_39 (by decide) (by decide) (by decide) rfl (by decide) ?_
    rcases (show (v1 ≤ -1) ∨ (0 ≤ v1 ∧ v1 ≤ 3) ∨ (4 ≤ v1) by omega) with h9 | h9 | h9
    · skip
      exact lc_0_0 hf q1 q2 q4 q13 q21 q26 q31 q35 q40 q99 q14 q19 q20 q22 q23 q24 q25 q27 q28 q29 q30 q32 q33 q34 q36 q37 q38 q39 q100 q101 q102 q103 q104 q105 q106 q107 q108 q109 q110 q113 q114 q111 q112 q115 v1 rv1 v2 rv2 v3 rv3 v4 rv4 (by omega) ex1 ex2 ex3 ex4 C hX hbl
    · skip
      exact lc_0_1 hf q1 q2 q4 q13 q21 q26 q31 q35 q40 q99 q14 q19 q20 q22 q23 q24 q25 q27 q28 q29 q30 q32 q33 q34 q36 q37 q38 q39 q100 q101 q102 q103 q104 q105 q106 q107 q108 q109 q110 q113 q114 q111 q112 q115 v1 rv1 v2 rv2 v3 rv3 v4 rv4 (by omega) (by omega) ex1 ex2 ex3 ex4 C hX hbl
    · skip
      exact lc_0_2 hf q1 q2 q4 q13 q21 q26 q31 q35 q40 q99 q14 q19 q20 q22 q23 q24 q25 q27 q28 q29 q30 q32 q33 q34 q36 q37 q38 q39 q100 q101 q102 q103 q104 q105 q106 q107 q108 q109 q110 q113 q114 q111 q112 q115 v1 rv1 v2 rv2 v3 rv3 v4 rv4 (by omega) ex1 ex2 ex3 ex4 C hX hbl
  · skip
    refine vv_tabIn (off := 189) C 228 dL_law_39 (by decide) (by decide) (by decide) rfl (by decide) ?_
    rcases (show (v1 ≤ -1) ∨ (v1 = 0) ∨ (v1 = 1) ∨ (v1 = 2) ∨ (v1 = 3) ∨ (v1 = 4) ∨ (v1 = 5) ∨ (6 ≤ v1) by omega) with h9 | h9 | h9 | h9 | h9 | h9 | h9 | h9
    · skip
      exact lc_1_0 hf q1 q2 q4 q13 q21 q26 q31 q35 q40 q99 q14 q19 q20 q22 q23 q24 q25 q27 q28 q29 q30 q32 q33 q34 q36 q37 q38 q39 q100 q101 q102 q103 q104 q105 q106 q107 q108 q109 q110 q113 q114 q111 q112 q115 v1 rv1 v2 rv2 v3 rv3 v4 rv4 (by omega) ex1 ex2 ex3 ex4 C hX hbl
    · skip
      obtain rfl : v1 = 0 := by omega
      exact lc_1_1 hf q1 q2 q4 q13 q21 q26 q31 q35 q40 q99 q14 q19 q20 q22 q23 q24 q25 q27 q28 q29 q30 q32 q33 q34 q36 q37 q38 q39 q100 q101 q102 q103 q104 q105 q106 q107 q108 q109 q110 q113 q114 q111 q112 q115 v2 rv2 v3 rv3 v4 rv4 ex1 ex2 ex3 ex4 C hX hbl
    · skip
      obtain rfl : v1 = 1 := by omega
      exact lc_1_2 hf q1 q2 q4 q13 q21 q26 q31 q35 q40 q99 q14 q19 q20 q22 q23 q24 q25 q27 q28 q29 q30 q32 q33 q34 q36 q37 q38 q39 q100 q101 q102 q103 q104 q105 q106 q107 q108 q109 q110 q113 q114 q111 q112 q115 v2 rv2 v3 rv3 v4 rv4 ex1 ex2 ex3 ex4 C hX hbl
    · skip
      obtain rfl : v1 = 2 := by omega
      exact lc_1_3 hf q1 q2 q4 q13 q21 q26 q31 q35 q40 q99 q14 q19 q20 q22 q23 q24 q25 q27 q28 q29 q30 q32 q33 q34 q36 q37 q38 q39 q100 q101 q102 q103 q104 q105 q106 q107 q108 q109 q110 q113 q114 q111 q112 q115 v2 rv2 v3 rv3 v4 rv4 ex1 ex2 ex3 ex4 C hX hbl
    · skip
      obtain rfl : v1 = 3 := by omega
      exact lc_1_4 hf q1 q2 q4 q13 q21 q26 q31 q35 q40 q99 q14 q19 q20 q22 q23 q24 q25 q27 q28 q29 q30 q32 q33 q34 q36 q37 q38 q39 q100 q101 q102 q103 q104 q105 q106 q107 q108 q109 q110 q113 q114 q111 q112 q115 v2 rv2 v3 rv3 v4 rv4 ex1 ex2 ex3 ex4 C hX hbl
    · skip
      obtain rfl : v1 = 4 := by omega
      exact lc_1_5 hf q1 q2 q4 q13 q21 q26 q31 q35 q40 q99 q14 q19 q20 q22 q23 q24 q25 q27 q28 q29 q30 q32 q33 q34 q36 q37 q38 q39 q100 q101 q102 q103 q104 q105 q106 q107 q108 q109 q110 q113 q114 q111 q112 q115 v2 rv2 v3 rv3 v4 rv4 ex1 ex2 ex3 ex4 C hX hbl
    · skip
      obtain rfl : v1 = 5 := by omega
      exact lc_1_6 hf q1 q2 q4 q13 q21 q26 q31 q35 q40 q99 q14 q19 q20 q22 q23 q24 q25 q27 q28 q29 q30 q32 q33 q34 q36 q37 q38 q39 q100 q101 q102 q103 q104 q105 q106 q107 q108 q109 q110 q113 q114 q111 q112 q115 v2 rv2 v3 rv3 v4 rv4 ex1 ex2 ex3 ex4 C hX hbl
    · skip
      exact lc_1_7 hf q1 q2 q4 q13 q21 q26 q31 q35 q40 q99 q14 q19 q20 q22 q23 q24 q25 q27 q28 q29 q30 q32 q33 q34 q36 q37 q38 q39 q100 q101 q102 q103 q104 q105 q106 q107 q108 q109 q110 q113 q114 q111 q112 q115 v1 rv1 v2 rv2 v3 rv3 v4 rv4 (by omega) ex1 ex2 ex3 ex4 C hX hbl
  · skip
    refine vv_tabIn (off := 269) C 308 dL_law_39 (by decide) (by decide) (by decide) rfl (by decide) ?_
    exact lc_2_0 hf q1 q2 q4 q13 q21 q26 q31 q35 q40 q99 q14 q19 q20 q22 q23 q24 q25 q27 q28 q29 q30 q32 q33 q34 q36 q37 q38 q39 q100 q101 q102 q103 q104 q105 q106 q107 q108 q109 q110 q113 q114 q111 q112 q115 v1 rv1 v2 rv2 v3 rv3 v4 rv4 ex1 ex2 ex3 ex4 C hX hbl
  · skip
    refine vv_tabIn (off := 282) C 321 dL_law_39 (by decide) (by decide) (by decide) rfl (by decide) ?_
    rcases (show (v1 ≤ -1) ∨ (0 ≤ v1) by omega) with h9 | h9
    · skip
      exact lc_3_0 hf q1 q2 q4 q13 q21 q26 q31 q35 q40 q99 q14 q19 q20 q22 q23 q24 q25 q27 q28 q29 q30 q32 q33 q34 q36 q37 q38 q39 q100 q101 q102 q103 q104 q105 q106 q107 q108 q109 q110 q113 q114 q111 q112 q115 v1 rv1 v2 rv2 v3 rv3 v4 rv4 (by omega) ex1 ex2 ex3 ex4 C hX hbl
    · skip
      exact lc_3_1 hf q1 q2 q4 q13 q21 q26 q31 q35 q40 q99 q14 q19 q20 q22 q23 q24 q25 q27 q28 q29 q30 q32 q33 q34 q36 q37 q38 q39 q100 q101 q102 q103 q104 q105 q106 q107 q108 q109 q110 q113 q114 q111 q112 q115 v1 rv1 v2 rv2 v3 rv3 v4 rv4 (by omega) ex1 ex2 ex3 ex4 C hX hbl
  · skip
    refine vv_tabIn (off := 350) C 389 dL_law_39 (by decide) (by decide) (by decide) rfl (by decide) ?_
    rcases (show (v1 ≤ -1) ∨ (0 ≤ v1) by omega) with h9 | h9
    · skip
      exact lc_4_0 hf q1 q2 q4 q13 q21 q26 q31 q35 q40 q99 q14 q19 q20 q22 q23 q24 q25 q27 q28 q29 q30 q32 q33 q34 q36 q37 q38 q39 q100 q101 q102 q103 q104 q105 q106 q107 q108 q109 q110 q113 q114 q111 q112 q115 v1 rv1 v2 rv2 v3 rv3 v4 rv4 (by omega) ex1 ex2 ex3 ex4 C hX hbl
    · skip
      exact lc_4_1 hf q1 q2 q4 q13 q21 q26 q31 q35 q40 q99 q14 q19 q20 q22 q23 q24 q25 q27 q28 q29 q30 q32 q33 q34 q36 q37 q38 q39 q100 q101 q102 q103 q104 q105 q106 q107 q108 q109 q110 q113 q114 q111 q112 q115 v1 rv1 v2 rv2 v3 rv3 v4 rv4 (by omega) ex1 ex2 ex3 ex4 C hX hbl
  · skip
    refine vv_tabIn (off := 418) C 457 dL_law_39 (by decide) (by decide) (by decide) rfl (by decide) ?_
    rcases (show (v1 ≤ -1) ∨ (0 ≤ v1) by omega) with h9 | h9
    · skip
      exact lc_5_0 hf q1 q2 q4 q13 q21 q26 q31 q35 q40 q99 q14 q19 q20 q22 q23 q24 q25 q27 q28 q29 q30 q32 q33 q34 q36 q37 q38 q39 q100 q101 q102 q103 q104 q105 q106 q107 q108 q109 q110 q113 q114 q111 q112 q115 v1 rv1 v2 rv2 v3 rv3 v4 rv4 (by omega) ex1 ex2 ex3 ex4 C hX hbl
    · skip
      exact lc_5_1 hf q1 q2 q4 q13 q21 q26 q31 q35 q40 q99 q14 q19 q20 q22 q23 q24 q25 q27 q28 q29 q30 q32 q33 q34 q36 q37 q38 q39 q100 q101 q102 q103 q104 q105 q106 q107 q108 q109 q110 q113 q114 q111 q112 q115 v1 rv1 v2 rv2 v3 rv3 v4 rv4 (by omega) ex1 ex2 ex3 ex4 C hX hbl
  · skip
    refine vv_tabIn (off := 486) C 525 dL_law_39 (by decide) (by decide) (by decide) rfl (by decide) ?_
    rcases (show (v1 ≤ -1) ∨ (0 ≤ v1) by omega) with h9 | h9
    · skip
      exact lc_6_0 hf q1 q2 q4 q13 q21 q26 q31 q35 q40 q99 q14 q19 q20 q22 q23 q24 q25 q27 q28 q29 q30 q32 q33 q34 q36 q37 q38 q39 q100 q101 q102 q103 q104 q105 q106 q107 q108 q109 q110 q113 q114 q111 q112 q115 v1 rv1 v2 rv2 v3 rv3 v4 rv4 (by omega) ex1 ex2 ex3 ex4 C hX hbl
    · skip
      exact lc_6_1 hf q1 q2 q4 q13 q21 q26 q31 q35 q40 q99 q14 q19 q20 q22 q23 q24 q25 q27 q28 q29 q30 q32 q33 q34 q36 q37 q38 q39 q100 q101 q102 q103 q104 q105 q106 q107 q108 q109 q110 q113 q114 q111 q112 q115 v1 rv1 v2 rv2 v3 rv3 v4 rv4 (by omega) ex1 ex2 ex3 ex4 C hX hbl
  · skip
    refine vv_tabIn (off := 561) C 600 dL_law_39 (by decide) (by decide) (by decide) rfl (by decide) ?_
    rcases (show (v1 ≤ -1) ∨ (0 ≤ v1) by omega) with h9 | h9
    · skip
      exact lc_7_0 hf q1 q2 q4 q13 q21 q26 q31 q35 q40 q99 q14 q19 q20 q22 q23 q24 q25 q27 q28 q29 q30 q32 q33 q34 q36 q37 q38 q39 q100 q101 q102 q103 q104 q105 q106 q107 q108 q109 q110 q113 q114 q111 q112 q115 v1 rv1 v2 rv2 v3 rv3 v4 rv4 (by omega) ex1 ex2 ex3 ex4 C hX hbl
    · skip
      exact lc_7_1 hf q1 q2 q4 q13 q21 q26 q31 q35 q40 q99 q14 q19 q20 q22 q23 q24 q25 q27 q28 q29 q30 q32 q33 q34 q36 q37 q38 q39 q100 q101 q102 q103 q104 q105 q106 q107 q108 q109 q110 q113 q114 q111 q112 q115 v1 rv1 v2 rv2 v3 rv3 v4 rv4 (by omega) ex1 ex2 ex3 ex4 C hX hbl
  · skip
    refine vv_tabIn (off := 629) C 668 dL_law_39 (by decide) (by decide) (by decide) rfl (by decide) ?_
    rcases (show (v1 ≤ -1) ∨ (0 ≤ v1) by omega) with h9 | h9
    · skip
      exact lc_8_0 hf q1 q2 q4 q13 q21 q26 q31 q35 q40 q99 q14 q19 q20 q22 q23 q24 q25 q27 q28 q29 q30 q32 q33 q34 q36 q37 q38 q39 q100 q101 q102 q103 q104 q105 q106 q107 q108 q109 q110 q113 q114 q111 q112 q115 v1 rv1 v2 rv2 v3 rv3 v4 rv4 (by omega) ex1 ex2 ex3 ex4 C hX hbl
    · skip
      exact lc_8_1 hf q1 q2 q4 q13 q21 q26 q31 q35 q40 q99 q14 q19 q20 q22 q23 q24 q25 q27 q28 q29 q30 q32 q33 q34 q36 q37 q38 q39 q100 q101 q102 q103 q104 q105 q106 q107 q108 q109 q110 q113 q114 q111 q112 q115 v1 rv1 v2 rv2 v3 rv3 v4 rv4 (by omega) ex1 ex2 ex3 ex4 C hX hbl
  · skip
    refine vv_tabIn (off := 697) C 736 dL_law_39 (by decide) (by decide) (by decide) rfl (by decide) ?_
    rcases (show (v1 ≤ 0) ∨ (1 ≤ v1 ∧ v1 ≤ 3) ∨ (4 ≤ v1) by omega) with h9 | h9 | h9
    · skip
      exact lc_9_0 hf q1 q2 q4 q13 q21 q26 q31 q35 q40 q99 q14 q19 q20 q22 q23 q24 q25 q27 q28 q29 q30 q32 q33 q34 q36 q37 q38 q39 q100 q101 q102 q103 q104 q105 q106 q107 q108 q109 q110 q113 q114 q111 q112 q115 v1 rv1 v2 rv2 v3 rv3 v4 rv4 (by omega) ex1 ex2 ex3 ex4 C hX hbl
    · skip
      exact lc_9_1 hf q1 q2 q4 q13 q21 q26 q31 q35 q40 q99 q14 q19 q20 q22 q23 q24 q25 q27 q28 q29 q30 q32 q33 q34 q36 q37 q38 q39 q100 q101 q102 q103 q104 q105 q106 q107 q108 q109 q110 q113 q114 q111 q112 q115 v1 rv1 v2 rv2 v3 rv3 v4 rv4 (by omega) (by omega) ex1 ex2 ex3 ex4 C hX hbl
    · skip
      exact lc_9_2 hf q1 q2 q4 q13 q21 q26 q31 q35 q40 q99 q14 q19 q20 q22 q23 q24 q25 q27 q28 q29 q30 q32 q33 q34 q36 q37 q38 q39 q100 q101 q102 q103 q104 q105 q106 q107 q108 q109 q110 q113 q114 q111 q112 q115 v1 rv1 v2 rv2 v3 rv3 v4 rv4 (by omega) ex1 ex2 ex3 ex4 C hX hbl
  · skip
    refine vv_tabIn (off := 753) C 792 dL_law_39 (by decide) (by decide) (by decide) rfl (by decide) ?_
    rcases (show (v1 ≤ -1) ∨ (0 ≤ v1) by omega) with h9 | h9
    · skip
      exact lc_10_0 hf q1 q2 q4 q13 q21 q26 q31 q35 q40 q99 q14 q19 q20 q22 q23 q24 q25 q27 q28 q29 q30 q32 q33 q34 q36 q37 q38 q39 q100 q101 q102 q103 q104 q105 q106 q107 q108 q109 q110 q113 q114 q111 q112 q115 v1 rv1 v2 rv2 v3 rv3 v4 rv4 (by omega) ex1 ex2 ex3 ex4 C hX hbl
    · skip
      exact lc_10_1 hf q1 q2 q4 q13 q21 q26 q31 q35 q40 q99 q14 q19 q20 q22 q23 q24 q25 q27 q28 q29 q30 q32 q33 q34 q36 q37 q38 q39 q100 q101 q102 q103 q104 q105 q106 q107 q108 q109 q110 q113 q114 q111 q112 q115 v1 rv1 v2 rv2 v3 rv3 v4 rv4 (by omega) ex1 ex2 ex3 ex4 C hX hbl
  · skip
    refine vv_tabIn (off := 809) C 848 dL_law_39 (by decide) (by decide) (by decide) rfl (by decide) ?_
    rcases (show (v1 ≤ -1) ∨ (v1 = 0) ∨ (v1 = 1) ∨ (v1 = 2) ∨ (v1 = 3) ∨ (v1 = 4) ∨ (5 ≤ v1) by omega) with h9 | h9 | h9 | h9 | h9 | h9 | h9
    · skip
      exact lc_11_0 hf q1 q2 q4 q13 q21 q26 q31 q35 q40 q99 q14 q19 q20 q22 q23 q24 q25 q27 q28 q29 q30 q32 q33 q34 q36 q37 q38 q39 q100 q101 q102 q103 q104 q105 q106 q107 q108 q109 q110 q113 q114 q111 q112 q115 v1 rv1 v2 rv2 v3 rv3 v4 rv4 (by omega) ex1 ex2 ex3 ex4 C hX hbl
    · skip
      obtain rfl : v1 = 0 := by omega
      exact lc_11_1 hf q1 q2 q4 q13 q21 q26 q31 q35 q40 q99 q14 q19 q20 q22 q23 q24 q25 q27 q28 q29 q30 q32 q33 q34 q36 q37 q38 q39 q100 q101 q102 q103 q104 q105 q106 q107 q108 q109 q110 q113 q114 q111 q112 q115 v2 rv2 v3 rv3 v4 rv4 ex1 ex2 ex3 ex4 C hX hbl
    · skip
      obtain rfl : v1 = 1 := by omega
      exact lc_11_2 hf q1 q2 q4 q13 q21 q26 q31 q35 q40 q99 q14 q19 q20 q22 q23 q24 q25 q27 q28 q29 q30 q32 q33 q34 q36 q37 q38 q39 q100 q101 q102 q103 q104 q105 q106 q107 q108 q109 q110 q113 q114 q111 q112 q115 v2 rv2 v3 rv3 v4 rv4 ex1 ex2 ex3 ex4 C hX hbl
    · skip
      obtain rfl : v1 = 2 := by omega
      exact lc_11_3 hf q1 q2 q4 q13 q21 q26 q31 q35 q40 q99 q14 q19 q20 q22 q23 q24 q25 q27 q28 q29 q30 q32 q33 q34 q36 q37 q38 q39 q100 q101 q102 q103 q104 q105 q106 q107 q108 q109 q110 q113 q114 q111 q112 q115 v2 rv2 v3 rv3 v4 rv4 ex1 ex2 ex3 ex4 C hX hbl
    · skip
      obtain rfl : v1 = 3 := by omega
      exact lc_11_4 hf q1 q2 q4 q13 q21 q26 q31 q35 q40 q99 q14 q19 q20 q22 q23 q24 q25 q27 q28 q29 q30 q32 q33 q34 q36 q37 q38 q39 q100 q101 q102 q103 q104 q105 q106 q107 q108 q109 q110 q113 q114 q111 q112 q115 v2 rv2 v3 rv3 v4 rv4 ex1 ex2 ex3 ex4 C hX hbl
    · skip
      obtain rfl : v1 = 4 := by omega
      exact lc_11_5 hf q1 q2 q4 q13 q21 q26 q31 q35 q40 q99 q14 q19 q20 q22 q23 q24 q25 q27 q28 q29 q30 q32 q33 q34 q36 q37 q38 q39 q100 q101 q102 q103 q104 q105 q106 q107 q108 q109 q110 q113 q114 q111 q112 q115 v2 rv2 v3 rv3 v4 rv4 ex1 ex2 ex3 ex4 C hX hbl
    · skip
      exact lc_11_6 hf q1 q2 q4 q13 q21 q26 q31 q35 q40 q99 q14 q19 q20 q22 q23 q24 q25 q27 q28 q29 q30 q32 q33 q34 q36 q37 q38 q39 q100 q101 q102 q103 q104 q105 q106 q107 q108 q109 q110 q113 q114 q111 q112 q115 v1 rv1 v2 rv2 v3 rv3 v4 rv4 (by omega) ex1 ex2 ex3 ex4 C hX hbl
  · skip
    refine vv_tabIn (off := 865) C 904 dL_law_39 (by decide) (by decide) (by decide) rfl (by decide) ?_
    rcases (show (v1 ≤ -1 ∧ v2 = 0) ∨ (v1 ≤ -1 ∧ ¬ v2 = 0) ∨ (0 ≤ v1 ∧ v2 = 0) ∨ (0 ≤ v1 ∧ ¬ v2 = 0) by omega) with h9 | h9 | h9 | h9
    · skip
      obtain rfl : v2 = 0 := by omega
      exact lc_12_0 hf q1 q2 q4 q13 q21 q26 q31 q35 q40 q99 q14 q19 q20 q22 q23 q24 q25 q27 q28 q29 q30 q32 q33 q34 q36 q37 q38 q39 q100 q101 q102 q103 q104 q105 q106 q107 q108 q109 q110 q113 q114 q111 q112 q115 v1 rv1 v3 rv3 v4 rv4 (by omega) ex1 ex2 ex3 ex4 C hX hbl
    · skip
      exact lc_12_1 hf q1 q2 q4 q13 q21 q26 q31 q35 q40 q99 q14 q19 q20 q22 q23 q24 q25 q27 q28 q29 q30 q32 q33 q34 q36 q37 q38 q39 q100 q101 q102 q103 q104 q105 q106 q107 q108 q109 q110 q113 q114 q111 q112 q115 v1 rv1 v2 rv2 v3 rv3 v4 rv4 (by omega) (by omega) ex1 ex2 ex3 ex4 C hX hbl
    · skip
      obtain rfl : v2 = 0 := by omega
      exact lc_12_2 hf q1 q2 q4 q13 q21 q26 q31 q35 q40 q99 q14 q19 q20 q22 q23 q24 q25 q27 q28 q29 q30 q32 q33 q34 q36 q37 q38 q39 q100 q101 q102 q103 q104 q105 q106 q107 q108 q109 q110 q113 q114 q111 q112 q115 v1 rv1 v3 rv3 v4 rv4 (by omega) ex1 ex2 ex3 ex4 C hX hbl
    · skip
      exact lc_12_3 hf q1 q2 q4 q13 q21 q26 q31 q35 q40 q99 q14 q19 q20 q22 q23 q24 q25 q27 q28 q29 q30 q32 q33 q34 q36 q37 q38 q39 q100 q101 q102 q103 q104 q105 q106 q107 q108 q109 q110 q113 q114 q111 q112 q115 v1 rv1 v2 rv2 v3 rv3 v4 rv4 (by omega) (by omega) ex1 ex2 ex3 ex4 C hX hbl
  · skip
    refine vv_tabIn (off := 949) C 988 dL_law_39 (by decide) (by decide) (by decide) rfl (by decide) ?_
    rcases (show (v1 ≤ -1) ∨ (0 ≤ v1) by omega) with h9 | h9
    · skip
      exact lc_13_0 hf q1 q2 q4 q13 q21 q26 q31 q35 q40 q99 q14 q19 q20 q22 q23 q24 q25 q27 q28 q29 q30 q32 q33 q34 q36 q37 q38 q39 q100 q101 q102 q103 q104 q105 q106 q107 q108 q109 q110 q113 q114 q111 q112 q115 v1 rv1 v2 rv2 v3 rv3 v4 rv4 (by omega) ex1 ex2 ex3 ex4 C hX hbl
    · skip
      exact lc_13_1 hf q1 q2 q4 q13 q21 q26 q31 q35 q40 q99 q14 q19 q20 q22 q23 q24 q25 q27 q28 q29 q30 q32 q33 q34 q36 q37 q38 q39 q100 q101 q102 q103 q104 q105 q106 q107 q108 q109 q110 q113 q114 q111 q112 q115 v1 rv1 v2 rv2 v3 rv3 v4 rv4 (by omega) ex1 ex2 ex3 ex4 C hX hbl
  · skip
    refine vv_tabIn (off := 1005) C 1044 dL_law_39 (by decide) (by decide) (by decide) rfl (by decide) ?_
    rcases (show (v1 ≤ -1) ∨ (0 ≤ v1) by omega) with h9 | h9
    · skip
      exact lc_14_0 hf q1 q2 q4 q13 q21 q26 q31 q35 q40 q99 q14 q19 q20 q22 q23 q24 q25 q27 q28 q29 q30 q32 q33 q34 q36 q37 q38 q39 q100 q101 q102 q103 q104 q105 q106 q107 q108 q109 q110 q113 q114 q111 q112 q115 v1 rv1 v2 rv2 v3 rv3 v4 rv4 (by omega) ex1 ex2 ex3 ex4 C hX hbl
    · skip
      exact lc_14_1 hf q1 q2 q4 q13 q21 q26 q31 q35 q40 q99 q14 q19 q20 q22 q23 q24 q25 q27 q28 q29 q30 q32 q33 q34 q36 q37 q38 q39 q100 q101 q102 q103 q104 q105 q106 q107 q108 q109 q110 q113 q114 q111 q112 q115 v1 rv1 v2 rv2 v3 rv3 v4 rv4 (by omega) ex1 ex2 ex3 ex4 C hX hbl
  · skip
    refine vv_tabIn (off := 1061) C 1100 dL_law_39 (by decide) (by decide) (by decide) rfl (by decide) ?_
    rcases (show (v1 ≤ -1) ∨ (0 ≤ v1) by omega) with h9 | h9
    · skip
      exact lc_15_0 hf q1 q2 q4 q13 q21 q26 q31 q35 q40 q99 q14 q19 q20 q22 q23 q24 q25 q27 q28 q29 q30 q32 q33 q34 q36 q37 q38 q39 q100 q101 q102 q103 q104 q105 q106 q107 q108 q109 q110 q113 q114 q111 q112 q115 v1 rv1 v2 rv2 v3 rv3 v4 rv4 (by omega) ex1 ex2 ex3 ex4 C hX hbl
    · skip
      exact lc_15_1 hf q1 q2 q4 q13 q21 q26 q31 q35 q40 q99 q14 q19 q20 q22 q23 q24 q25 q27 q28 q29 q30 q32 q33 q34 q36 q37 q38 q39 q100 q101 q102 q103 q104 q105 q106 q107 q108 q109 q110 q113 q114 q111 q112 q115 v1 rv1 v2 rv2 v3 rv3 v4 rv4 (by omega) ex1 ex2 ex3 ex4 C hX hbl
  · skip
    refine vv_tabIn (off := 1136) C 1175 dL_law_39 (by decide) (by decide) (by decide) rfl (by decide) ?_
    rcases (show (v1 ≤ -1) ∨ (0 ≤ v1) by omega) with h9 | h9
    · skip
      exact lc_16_0 hf q1 q2 q4 q13 q21 q26 q31 q35 q40 q99 q14 q19 q20 q22 q23 q24 q25 q27 q28 q29 q30 q32 q33 q34 q36 q37 q38 q39 q100 q101 q102 q103 q104 q105 q106 q107 q108 q109 q110 q113 q114 q111 q112 q115 v1 rv1 v2 rv2 v3 rv3 v4 rv4 (by omega) ex1 ex2 ex3 ex4 C hX hbl
    · skip
      exact lc_16_1 hf q1 q2 q4 q13 q21 q26 q31 q35 q40 q99 q14 q19 q20 q22 q23 q24 q25 q27 q28 q29 q30 q32 q33 q34 q36 q37 q38 q39 q100 q101 q102 q103 q104 q105 q106 q107 q108 q109 q110 q113 q114 q111 q112 q115 v1 rv1 v2 rv2 v3 rv3 v4 rv4 (by omega) ex1 ex2 ex3 ex4 C hX hbl
  · skip
    refine vv_tabIn (off := 1204) C 1243 dL_law_39 (by decide) (by decide) (by decide) rfl (by decide) ?_
    exact lc_17_0 hf q1 q2 q4 q13 q21 q26 q31 q35 q40 q99 q14 q19 q20 q22 q23 q24 q25 q27 q28 q29 q30 q32 q33 q34 q36 q37 q38 q39 q100 q101 q102 q103 q104 q105 q106 q107 q108 q109 q110 q113 q114 q111 q112 q115 v1 rv1 v2 rv2 v3 rv3 v4 rv4 ex1 ex2 ex3 ex4 C hX hbl
  · skip
    refine vv_tabIn (off := 1245) C 1284 dL_law_39 (by decide) (by decide) (by decide) rfl (by decide) ?_
    rcases (show (v1 ≤ -1) ∨ (v1 = 0 ∧ v2 ≤ -1) ∨ (v1 = 0 ∧ 0 ≤ v2 ∧ v2 ≤ 5) ∨ (v1 = 0 ∧ 6 ≤ v2) ∨ (v1 = 1 ∧ v2 ≤ -1) ∨ (v1 = 2 ∧ v2 ≤ -1) ∨ (v1 = 3 ∧ v2 ≤ -1) ∨ (v1 = 4 ∧ v2 ≤ -1) ∨ (v1 = 5 ∧ v2 ≤ -1) ∨ (v1 = 1 ∧ 0 ≤ v2) ∨ (v1 = 2 ∧ 0 ≤ v2) ∨ (v1 = 3 ∧ 0 ≤ v2) ∨ (v1 = 4 ∧ 0 ≤ v2) ∨ (v1 = 5 ∧ 0 ≤ v2) ∨ (6 ≤ v1) by omega) with h9 | h9 | h9 | h9 | h9 | h9 | h9 | h9 | h9 | h9 | h9 | h9 | h9 | h9 | h9
    · skip
      exact lc_18_0 hf q1 q2 q4 q13 q21 q26 q31 q35 q40 q99 q14 q19 q20 q22 q23 q24 q25 q27 q28 q29 q30 q32 q33 q34 q36 q37 q38 q39 q100 q101 q102 q103 q104 q105 q106 q107 q108 q109 q110 q113 q114 q111 q112 q115 v1 rv1 v2 rv2 v3 rv3 v4 rv4 (by omega) ex1 ex2 ex3 ex4 C hX hbl
    · skip
      obtain rfl : v1 = 0 := by omega
      exact lc_18_1 hf q1 q2 q4 q13 q21 q26 q31 q35 q40 q99 q14 q19 q20 q22 q23 q24 q25 q27 q28 q29 q30 q32 q33 q34 q36 q37 q38 q39 q100 q101 q102 q103 q104 q105 q106 q107 q108 q109 q110 q113 q114 q111 q112 q115 v2 rv2 v3 rv3 v4 rv4 (by omega) ex1 ex2 ex3 ex4 C hX hbl
    · skip
      obtain rfl : v1 = 0 := by omega
      exact lc_18_2 hf q1 q2 q4 q13 q21 q26 q31 q35 q40 q99 q14 q19 q20 q22 q23 q24 q25 q27 q28 q29 q30 q32 q33 q34 q36 q37 q38 q39 q100 q101 q102 q103 q104 q105 q106 q107 q108 q109 q110 q113 q114 q111 q112 q115 v2 rv2 v3 rv3 v4 rv4 (by omega) (by omega) ex1 ex2 ex3 ex4 C hX hbl
    · skip
      obtain rfl : v1 = 0 := by omega
      exact lc_18_3 hf q1 q2 q4 q13 q21 q26 q31 q35 q40 q99 q14 q19 q20 q22 q23 q24 q25 q27 q28 q29 q30 q32 q33 q34 q36 q37 q38 q39 q100 q101 q102 q103 q104 q105 q106 q107 q108 q109 q110 q113 q114 q111 q112 q115 v2 rv2 v3 rv3 v4 rv4 (by omega) ex1 ex2 ex3 ex4 C hX hbl
    · skip
      obtain rfl : v1 = 1 := by omega
      exact lc_18_4 hf q1 q2 q4 q13 q21 q26 q31 q35 q40 q99 q14 q19 q20 q22 q23 q24 q25 q27 q28 q29 q30 q32 q33 q34 q36 q37 q38 q39 q100 q101 q102 q103 q104 q105 q106 q107 q108 q109 q110 q113 q114 q111 q112 q115 v2 rv2 v3 rv3 v4 rv4 (by omega) ex1 ex2 ex3 ex4 C hX hbl
    · skip
      obtain rfl : v1 = 2 := by omega
      exact lc_18_5 hf q1 q2 q4 q13 q21 q26 q31 q35 q40 q99 q14 q19 q20 q22 q23 q24 q25 q27 q28 q29 q30 q32 q33 q34 q36 q37 q38 q39 q100 q101 q102 q103 q104 q105 q106 q107 q108 q109 q110 q113 q114 q111 q112 q115 v2 rv2 v3 rv3 v4 rv4 (by omega) ex1 ex2 ex3 ex4 C hX hbl
    · skip
      obtain rfl : v1 = 3 := by omega
      exact lc_18_6 hf q1 q2 q4 q13 q21 q26 q31 q35 q40 q99 q14 q19 q20 q22 q23 q24 q25 q27 q28 q29 q30 q32 q33 q34 q36 q37 q38 q39 q100 q101 q102 q103 q104 q105 q106 q107 q108 q109 q110 q113 q114 q111 q112 q115 v2 rv2 v3 rv3 v4 rv4 (by omega) ex1 ex2 ex3 ex4 C hX hbl
    · skip
      obtain rfl : v1 = 4 := by omega
      exact lc_18_7 hf q1 q2 q4 q13 q21 q26 q31 q35 q40 q99 q14 q19 q20 q22 q23 q24 q25 q27 q28 q29 q30 q32 q33 q34 q36 q37 q38 q39 q100 q101 q102 q103 q104 q105 q106 q107 q108 q109 q110 q113 q114 q111 q112 q115 v2 rv2 v3 rv3 v4 rv4 (by omega) ex1 ex2 ex3 ex4 C hX hbl
    · skip
      obtain rfl : v1 = 5 := by omega
      exact lc_18_8 hf q1 q2 q4 q13 q21 q26 q31 q35 q40 q99 q14 q19 q20 q22 q23 q24 q25 q27 q28 q29 q30 q32 q33 q34 q36 q37 q38 q39 q100 q101 q102 q103 q104 q105 q106 q107 q108 q109 q110 q113 q114 q111 q112 q115 v2 rv2 v3 rv3 v4 rv4 (by omega) ex1 ex2 ex3 ex4 C hX hbl
    · skip
      obtain rfl : v1 = 1 := by omega
      exact lc_18_9 hf q1 q2 q4 q13 q21 q26 q31 q35 q40 q99 q14 q19 q20 q22 q23 q24 q25 q27 q28 q29 q30 q32 q33 q34 q36 q37 q38 q39 q100 q101 q102 q103 q104 q105 q106 q107 q108 q109 q110 q113 q114 q111 q112 q115 v2 rv2 v3 rv3 v4 rv4 (by omega) ex1 ex2 ex3 ex4 C hX hbl
    · skip
      obtain rfl : v1 = 2 := by omega
      exact lc_18_10 hf q1 q2 q4 q13 q21 q26 q31 q35 q40 q99 q14 q19 q20 q22 q23 q24 q25 q27 q28 q29 q30 q32 q33 q34 q36 q37 q38 q39 q100 q101 q102 q103 q104 q105 q106 q107 q108 q109 q110 q113 q114 q111 q112 q115 v2 rv2 v3 rv3 v4 rv4 (by omega) ex1 ex2 ex3 ex4 C hX hbl
    · skip
      obtain rfl : v1 = 3 := by omega
      exact lc_18_11 hf q1 q2 q4 q13 q21 q26 q31 q35 q40 q99 q14 q19 q20 q22 q23 q24 q25 q27 q28 q29 q30 q32 q33 q34 q36 q37 q38 q39 q100 q101 q102 q103 q104 q105 q106 q107 q108 q109 q110 q113 q114 q111 q112 q115 v2 rv2 v3 rv3 v4 rv4 (by omega) ex1 ex2 ex3 ex4 C hX hbl
    · skip
      obtain rfl : v1 = 4 := by omega
      exact lc_18_12 hf q1 q2 q4 q13 q21 q26 q31 q35 q40 q99 q14 q19 q20 q22 q23 q24 q25 q27 q28 q29 q30 q32 q33 q34 q36 q37 q38 q39 q100 q101 q102 q103 q104 q105 q106 q107 q108 q109 q110 q113 q114 q111 q112 q115 v2 rv2 v3 rv3 v4 rv4 (by omega) ex1 ex2 ex3 ex4 C hX hbl
    · skip
      obtain rfl : v1 = 5 := by omega
      exact lc_18_13 hf q1 q2 q4 q13 q21 q26 q31 q35 q40 q99 q14 q19 q20 q22 q23 q24 q25 q27 q28 q29 q30 q32 q33 q34 q36 q37 q38 q39 q100 q101 q102 q103 q104 q105 q106 q107 q108 q109 q110 q113 q114 q111 q112 q115 v2 rv2 v3 rv3 v4 rv4 (by omega) ex1 ex2 ex3 ex4 C hX hbl
    · skip
      exact lc_18_14 hf q1 q2 q4 q13 q21 q26 q31 q35 q40 q99 q14 q19 q20 q22 q23 q24 q25 q27 q28 q29 q30 q32 q33 q34 q36 q37 q38 q39 q100 q101 q102 q103 q104 q105 q106 q107 q108 q109 q110 q113 q114 q111 q112 q115 v1 rv1 v2 rv2 v3 rv3 v4 rv4 (by omega) ex1 ex2 ex3 ex4 C hX hbl
  · skip
    refine vv_tabIn (off := 1325) C 1364 dL_law_39 (by decide) (by decide) (by decide) rfl (by decide) ?_
    exact lc_19_0 hf q1 q2 q4 q13 q21 q26 q31 q35 q40 q99 q14 q19 q20 q22 q23 q24 q25 q27 q28 q29 q30 q32 q33 q34 q36 q37 q38 q39 q100 q101 q102 q103 q104 q105 q106 q107 q108 q109 q110 q113 q114 q111 q112 q115 v1 rv1 v2 rv2 v3 rv3 v4 rv4 ex1 ex2 ex3 ex4 C hX hbl
  · skip
    refine vv_tabIn (off := 1338) C 1377 dL_law_39 (by decide) (by decide) (by decide) rfl (by decide) ?_
    rcases (show (v1 ≤ -1) ∨ (0 ≤ v1) by omega) with h9 | h9
    · skip
      exact lc_20_0 hf q1 q2 q4 q13 q21 q26 q31 q35 q40 q99 q14 q19 q20 q22 q23 q24 q25 q27 q28 q29 q30 q32 q33 q34 q36 q37 q38 q39 q100 q101 q102 q103 q104 q105 q106 q107 q108 q109 q110 q113 q114 q111 q112 q115 v1 rv1 v2 rv2 v3 rv3 v4 rv4 (by omega) ex1 ex2 ex3 ex4 C hX hbl
    · skip
      exact lc_20_1 hf q1 q2 q4 q13 q21 q26 q31 q35 q40 q99 q14 q19 q20 q22 q23 q24 q25 q27 q28 q29 q30 q32 q33 q34 q36 q37 q38 q39 q100 q101 q102 q103 q104 q105 q106 q107 q108 q109 q110 q113 q114 q111 q112 q115 v1 rv1 v2 rv2 v3 rv3 v4 rv4 (by omega) ex1 ex2 ex3 ex4 C hX hbl
  · skip
    refine vv_tabIn (off := 1401) C 1440 dL_law_39 (by decide) (by decide) (by decide) rfl (by decide) ?_
    rcases (show (v1 ≤ -1) ∨ (0 ≤ v1) by omega) with h9 | h9
    · skip
      exact lc_21_0 hf q1 q2 q4 q13 q21 q26 q31 q35 q40 q99 q14 q19 q20 q22 q23 q24 q25 q27 q28 q29 q30 q32 q33 q34 q36 q37 q38 q39 q100 q101 q102 q103 q104 q105 q106 q107 q108 q109 q110 q113 q114 q111 q112 q115 v1 rv1 v2 rv2 v3 rv3 v4 rv4 (by omega) ex1 ex2 ex3 ex4 C hX hbl
    · skip
      exact lc_21_1 hf q1 q2 q4 q13 q21 q26 q31 q35 q40 q99 q14 q19 q20 q22 q23 q24 q25 q27 q28 q29 q30 q32 q33 q34 q36 q37 q38 q39 q100 q101 q102 q103 q104 q105 q106 q107 q108 q109 q110 q113 q114 q111 q112 q115 v1 rv1 v2 rv2 v3 rv3 v4 rv4 (by omega) ex1 ex2 ex3 ex4 C hX hbl
  · skip
    refine vv_tabIn (off := 1469) C 1508 dL_law_39 (by decide) (by decide) (by decide) rfl (by decide) ?_
    rcases (show (v1 ≤ -1) ∨ (0 ≤ v1) by omega) with h9 | h9
    · skip
      exact lc_22_0 hf q1 q2 q4 q13 q21 q26 q31 q35 q40 q99 q14 q19 q20 q22 q23 q24 q25 q27 q28 q29 q30 q32 q33 q34 q36 q37 q38 q39 q100 q101 q102 q103 q104 q105 q106 q107 q108 q109 q110 q113 q114 q111 q112 q115 v1 rv1 v2 rv2 v3 rv3 v4 rv4 (by omega) ex1 ex2 ex3 ex4 C hX hbl
    · skip
      exact lc_22_1 hf q1 q2 q4 q13 q21 q26 q31 q35 q40 q99 q14 q19 q20 q22 q23 q24 q25 q27 q28 q29 q30 q32 q33 q34 q36 q37 q38 q39 q100 q101 q102 q103 q104 q105 q106 q107 q108 q109 q110 q113 q114 q111 q112 q115 v1 rv1 v2 rv2 v3 rv3 v4 rv4 (by omega) ex1 ex2 ex3 ex4 C hX hbl
  · skip
    refine vv_tabIn (off := 1561) C 1600 dL_law_39 (by decide) (by decide) (by decide) rfl (by decide) ?_
    exact lc_23_0 hf q1 q2 q4 q13 q21 q26 q31 q35 q40 q99 q14 q19 q20 q22 q23 q24 q25 q27 q28 q29 q30 q32 q33 q34 q36 q37 q38 q39 q100 q101 q102 q103 q104 q105 q106 q107 q108 q109 q110 q113 q114 q111 q112 q115 v1 rv1 v2 rv2 v3 rv3 v4 rv4 ex1 ex2 ex3 ex4 C hX hbl
  · skip
    refine vv_tabIn (off := 1605) C 1644 dL_law_39 (by decide) (by decide) (by decide) rfl (by decide) ?_
    rcases (show (v1 ≤ -1) ∨ (0 ≤ v1) by omega) with h9 | h9
    · skip
      exact lc_24_0 hf q1 q2 q4 q13 q21 q26 q31 q35 q40 q99 q14 q19 q20 q22 q23 q24 q25 q27 q28 q29 q30 q32 q33 q34 q36 q37 q38 q39 q100 q101 q102 q103 q104 q105 q106 q107 q108 q109 q110 q113 q114 q111 q112 q115 v1 rv1 v2 rv2 v3 rv3 v4 rv4 (by omega) ex1 ex2 ex3 ex4 C hX hbl
    · skip
      exact lc_24_1 hf q1 q2 q4 q13 q21 q26 q31 q35 q40 q99 q14 q19 q20 q22 q23 q24 q25 q27 q28 q29 q30 q32 q33 q34 q36 q37 q38 q39 q100 q101 q102 q103 q104 q105 q106 q107 q108 q109 q110 q113 q114 q111 q112 q115 v1 rv1 v2 rv2 v3 rv3 v4 rv4 (by omega) ex1 ex2 ex3 ex4 C hX hbl
  · skip
    refine vv_tabIn (off := 1668) C 1707 dL_law_39 (by decide) (by decide) (by decide) rfl (by decide) ?_
    rcases (show (v1 ≤ -1) ∨ (0 ≤ v1) by omega) with h9 | h9
    · skip
      exact lc_25_0 hf q1 q2 q4 q13 q21 q26 q31 q35 q40 q99 q14 q19 q20 q22 q23 q24 q25 q27 q28 q29 q30 q32 q33 q34 q36 q37 q38 q39 q100 q101 q102 q103 q104 q105 q106 q107 q108 q109 q110 q113 q114 q111 q112 q115 v1 rv1 v2 rv2 v3 rv3 v4 rv4 (by omega) ex1 ex2 ex3 ex4 C hX hbl
    · skip
      exact lc_25_1 hf q1 q2 q4 q13 q21 q26 q31 q35 q40 q99 q14 q19 q20 q22 q23 q24 q25 q27 q28 q29 q30 q32 q33 q34 q36 q37 q38 q39 q100 q101 q102 q103 q104 q105 q106 q107 q108 q109 q110 q113 q114 q111 q112 q115 v1 rv1 v2 rv2 v3 rv3 v4 rv4 (by omega) ex1 ex2 ex3 ex4 C hX hbl
  · skip
    refine vv_tabIn (off := 1724) C 1763 dL_law_39 (by decide) (by decide) (by decide) rfl (by decide) ?_
    exact lc_26_0 hf q1 q2 q4 q13 q21 q26 q31 q35 q40 q99 q14 q19 q20 q22 q23 q24 q25 q27 q28 q29 q30 q32 q33 q34 q36 q37 q38 q39 q100 q101 q102 q103 q104 q105 q106 q107 q108 q109 q110 q113 q114 q111 q112 q115 v1 rv1 v2 rv2 v3 rv3 v4 rv4 ex1 ex2 ex3 ex4 C hX hbl
  · skip
    refine vv_tabIn (off := 1737) C 1776 dL_law_39 (by decide) (by decide) (by decide) rfl (by decide) ?_
    rcases (show (v1 ≤ 0) ∨ (1 ≤ v1 ∧ v1 ≤ 3) ∨ (4 ≤ v1) by omega) with h9 | h9 | h9
    · skip
      exact lc_27_0 hf q1 q2 q4 q13 q21 q26 q31 q35 q40 q99 q14 q19 q20 q22 q23 q24 q25 q27 q28 q29 q30 q32 q33 q34 q36 q37 q38 q39 q100 q101 q102 q103 q104 q105 q106 q107 q108 q109 q110 q113 q114 q111 q112 q115 v1 rv1 v2 rv2 v3 rv3 v4 rv4 (by omega) ex1 ex2 ex3 ex4 C hX hbl
    · skip
      exact lc_27_1 hf q1 q2 q4 q13 q21 q26 q31 q35 q40 q99 q14 q19 q20 q22 q23 q24 q25 q27 q28 q29 q30 q32 q33 q34 q36 q37 q38 q39 q100 q101 q102 q103 q104 q105 q106 q107 q108 q109 q110 q113 q114 q111 q112 q115 v1 rv1 v2 rv2 v3 rv3 v4 rv4 (by omega) (by omega) ex1 ex2 ex3 ex4 C hX hbl
    · skip
      exact lc_27_2 hf q1 q2 q4 q13 q21 q26 q31 q35 q40 q99 q14 q19 q20 q22 q23 q24 q25 q27 q28 q29 q30 q32 q33 q34 q36 q37 q38 q39 q100 q101 q102 q103 q104 q105 q106 q107 q108 q109 q110 q113 q114 q111 q112 q115 v1 rv1 v2 rv2 v3 rv3 v4 rv4 (by omega) ex1 ex2 ex3 ex4 C hX hbl
  · skip
    refine vv_tabIn (off := 1793) C 1832 dL_law_39 (by decide) (by decide) (by decide) rfl (by decide) ?_
    rcases (show (v1 ≤ -1) ∨ (0 ≤ v1) by omega) with h9 | h9
    · skip
      exact lc_28_0 hf q1 q2 q4 q13 q21 q26 q31 q35 q40 q99 q14 q19 q20 q22 q23 q24 q25 q27 q28 q29 q30 q32 q33 q34 q36 q37 q38 q39 q100 q101 q102 q103 q104 q105 q106 q107 q108 q109 q110 q113 q114 q111 q112 q115 v1 rv1 v2 rv2 v3 rv3 v4 rv4 (by omega) ex1 ex2 ex3 ex4 C hX hbl
    · skip
      exact lc_28_1 hf q1 q2 q4 q13 q21 q26 q31 q35 q40 q99 q14 q19 q20 q22 q23 q24 q25 q27 q28 q29 q30 q32 q33 q34 q36 q37 q38 q39 q100 q101 q102 q103 q104 q105 q106 q107 q108 q109 q110 q113 q114 q111 q112 q115 v1 rv1 v2 rv2 v3 rv3 v4 rv4 (by omega) ex1 ex2 ex3 ex4 C hX hbl
  · skip
    refine vv_tabIn (off := 1861) C 1900 dL_law_39 (by decide) (by decide) (by decide) rfl (by decide) ?_
    exact lc_29_0 hf q1 q2 q4 q13 q21 q26 q31 q35 q40 q99 q14 q19 q20 q22 q23 q24 q25 q27 q28 q29 q30 q32 q33 q34 q36 q37 q38 q39 q100 q101 q102 q103 q104 q105 q106 q107 q108 q109 q110 q113 q114 q111 q112 q115 v1 rv1 v2 rv2 v3 rv3 v4 rv4 ex1 ex2 ex3 ex4 C hX hbl
  · skip
    refine vv_tabOut C 1914 dL_law_39 (by decide) (by decide) (by decide) ?_
    exact lc_30_0 hf q1 q2 q4 q13 q21 q26 q31 q35 q40 q99 q14 q19 q20 q22 q23 q24 q25 q27 q28 q29 q30 q32 q33 q34 q36 q37 q38 q39 q100 q101 q102 q103 q104 q105 q106 q107 q108 q109 q110 q113 q114 q111 q112 q115 v1 rv1 v2 rv2 v3 rv3 v4 rv4 ex1 ex2 ex3 ex4 C hX hbl
  · skip
    refine vv_tabOut C 1914 dL_law_39 (by decide) (by decide) (by decide) ?_
    exact lc_30_0 hf q1 q2 q4 q13 q21 q26 q31 q35 q40 q99 q14 q19 q20 q22 q23 q24 q25 q27 q28 q29 q30 q32 q33 q34 q36 q37 q38 q39 q100 q101 q102 q103 q104 q105 q106 q107 q108 q109 q110 q113 q114 q111 q112 q115 v1 rv1 v2 rv2 v3 rv3 v4 rv4 ex1 ex2 ex3 ex4 C hX hbl
