set_option maxHeartbeats 4000000 in
set_option maxRecDepth 100000 in
/-- Arrays.fill over longs -/
theorem c_fill (l : Launch) (hf : l.stackTraces = false) (G : vv_G) (a n : Nat) (hn : n ≤ 1000000) (f : Nat → Int64) (x : Int64) : ∀ sz, Met l yJ7_fill_d0a16 (Cond.code yJ7_fill_d0a16 cJ7_fill_d0a16 5 none :: gT) ({ frames := 0, cells := 0, slots := 0, locals := 0 } : Room) (va_Pc [.ref a, .long x] (vv_I G [(a, .inl (G.2.1 1, n, .inr (.inl (f))))] sz)) (vv_Q G (fun v (u : Nat → Int64) => v = none ∧ ∀ j, j < n → u j = x) (fun u => [(a, .inl (G.2.1 1, n, .inr (.inl (u))))]) (va_A [(a, .inl (G.2.1 1, n, .inr (.inl (f))))] sz)) 0 0 (va_A [(a, .inl (G.2.1 1, n, .inr (.inl (f))))] sz) := by
  refine vv_start hf (by decide) (Nat.le_of_ble_eq_true rfl) ?_
  intro p e s m below meth c A C hnm
  refine vv_iconst (v := zI (0)) C dJ7_fill_d0a16_0 rfl ?_
  refine vv_istore_n (loc1 := [(3, .int (zI (0))), (0, .ref a), (1, .long x)]) C dJ7_fill_d0a16_1 rfl (by decide) rfl ?_
  refine vv_aload_n C 1 dJ7_fill_d0a16_2 rfl rfl ?_
  refine vv_alen (v := zI (n)) C 0 1 rfl rfl (zI_nat n).symm dJ7_fill_d0a16_3 ?_
  refine vv_istore (loc1 := [(4, .int (zI (n))), (3, .int (zI (0))), (0, .ref a), (1, .long x)]) C dJ7_fill_d0a16_4 (by decide) rfl ?_
  have lp : ∀ (fu k : Nat) (g : Nat → Int64), k ≤ n → n - k < fu → (∀ j, j < k → g j = x) → VV p l e ({ frames := 0, cells := 0, slots := 0, locals := 0 } : Room) s m ([.ref a, .long x] : List Value).toArray below meth c (MQ below (vv_Q G (fun v (u : Nat → Int64) => v = none ∧ ∀ j, j < n → u j = x) (fun u => [(a, .inl (G.2.1 1, n, .inr (.inl (u))))]) A) ([.ref a, .long x] : List Value).toArray s 0 0 A) G A 5 0 0 [(a, .inl (G.2.1 1, n, .inr (.inl (g))))] 6 [(3, .int (zI (k))), (4, .int (zI (n))), (0, .ref a), (1, .long x)] [] := by
    intro fu
    induction fu with
    | zero => intro k g hk h0; exact absurd h0 (Nat.not_lt_zero _)
    | succ fu ih =>
      intro k g hk hfu hg
      refine vv_iload_n C 0 dJ7_fill_d0a16_6 rfl rfl ?_
      refine vv_iload C 1 dJ7_fill_d0a16_7 rfl ?_
      refine vv_icmp_ge (tgt := 22) C dJ7_fill_d0a16_9 (by decide) (by omega) (by omega) (fun h => ?_) (fun h => ?_)
      · exact vv_vret C g ⟨rfl, fun j hj => hg j (by omega)⟩ [0] rfl rfl ⟨Nat.le_refl _, Nat.le_refl _⟩ dJ7_fill_d0a16_22
      · refine vv_aload_n C 2 dJ7_fill_d0a16_12 rfl rfl ?_
        refine vv_iload_n C 0 dJ7_fill_d0a16_13 rfl rfl ?_
        refine vv_lload_n C 3 dJ7_fill_d0a16_14 rfl rfl ?_
        refine vv_last1 (ws1 := [(a, .inl (G.2.1 1, n, .inr (.inl (vp_updL g k x))))]) C 0 1 rfl rfl k rfl (by omega) (by omega) rfl dJ7_fill_d0a16_15 ?_
        refine vv_iinc (v := zI ((k + 1 : Nat) : Int)) (loc1 := [(3, .int (zI ((k + 1 : Nat) : Int))), (4, .int (zI (n))), (0, .ref a), (1, .long x)]) C 0 dJ7_fill_d0a16_16 rfl ((zI_add _ _).trans (zI_c (by omega))) (by decide) rfl ?_
        refine vv_goto C 6 dJ7_fill_d0a16_19 (by decide) ?_
        refine ih (k + 1) (vp_updL g k x) (by omega) (by omega) (fun j hj => ?_)
        unfold vp_updL
        split
        · rfl
        · exact hg j (by omega)
  exact vv_loc [1, 0, 2, 3] rfl (lp (n + 1) 0 f (Nat.zero_le _) (by omega) (fun j hj => absurd hj (Nat.not_lt_zero j)))
set_option maxHeartbeats 4000000 in
set_option maxRecDepth 100000 in
theorem k1_X6_init (l : Launch) (hf : l.stackTraces = false) (G : vv_G) (q1 : Nat) : ∀ sz, Met l yX6_init (Cond.code yX6_init cX6_init 1 none :: gT) ({ frames := 1, cells := 1, slots := 4, locals := 20 } : Room) (va_Pc [.ref q1] (vv_I G [(q1, .inr (5, [.null, .int (zI (0))]))] sz)) (vv_Q G (fun v (u : Unit) => v = none) (fun u => []) (va_A [(q1, .inr (5, [.null, .int (zI (0))]))] sz)) 1 4 (va_A [(q1, .inr (5, [.null, .int (zI (0))]))] sz) := by
  refine vv_start hf (by decide) (Nat.le_of_ble_eq_true rfl) ?_
  intro p e s m below meth c A C hnm
  refine vv_aload_n C 0 dX6_init_0 rfl rfl ?_
  refine vv_objInit C wm55 wm48 wm49 ⟨Nat.le_of_ble_eq_true rfl, Nat.le_of_ble_eq_true rfl, Nat.le_of_ble_eq_true rfl⟩ dX6_init_1 ?_
  refine vv_aload_n C 0 dX6_init_4 rfl rfl ?_
  refine vv_iconst (v := zI (4)) C dX6_init_5 rfl ?_
  refine vv_newa (atype := .long) (ty := .long) C 1 rfl rfl wm64 4 rfl (by decide) (4, .inr (.inl (fun _ => 0))) (fun _ => rfl) (by decide) ⟨Nat.le_of_ble_eq_true rfl, Nat.le_of_ble_eq_true rfl⟩ dX6_init_6 (fun q2 => [(q1, .inr (5, [.null, .int (zI (0))])), (q2, .inl (G.2.1 1, 4, .inr (.inl (fun _ => 0))))]) (fun _ => rfl) (fun q2 => ?_)
  refine vv_putF (ws1 := [(q1, .inr (5, [.ref q2, .int (zI (0))])), (q2, .inl (G.2.1 1, 4, .inr (.inl (fun _ => 0))))]) C hnm 0 rfl rfl vi_X6 tyX6_ok nmX6 0 (by decide) wm56 rfl rfl rfl rfl (Nat.le_of_ble_eq_true rfl) rfl dX6_init_8 ?_
  exact vv_vret C (()) rfl [] rfl rfl ⟨Nat.le_of_ble_eq_true rfl, Nat.le_of_ble_eq_true rfl⟩ dX6_init_11
set_option maxHeartbeats 4000000 in
set_option maxRecDepth 100000 in
theorem k2_X2_init (l : Launch) (hf : l.stackTraces = false) (G : vv_G) (q1 : Nat) : ∀ sz, Met l yX2_init (Cond.code yX2_init cX2_init 1 none :: gT) ({ frames := 1, cells := 8, slots := 528, locals := 20 } : Room) (va_Pc [.ref q1] (vv_I G [(q1, .inr (2, [.null, .null, .null, .null, .null, .null, .null, .null, .int (zI (0)), .int (zI (0)), .long (0 : Int64), .int (zI (0))]))] sz)) (vv_Q G (fun v (u : Unit) => v = none) (fun u => []) (va_A [(q1, .inr (2, [.null, .null, .null, .null, .null, .null, .null, .null, .int (zI (0)), .int (zI (0)), .long (0 : Int64), .int (zI (0))]))] sz)) 8 528 (va_A [(q1, .inr (2, [.null, .null, .null, .null, .null, .null, .null, .null, .int (zI (0)), .int (zI (0)), .long (0 : Int64), .int (zI (0))]))] sz) := by
  refine vv_start hf (by decide) (Nat.le_of_ble_eq_true rfl) ?_
  intro p e s m below meth c A C hnm
  refine vv_aload_n C 0 dX2_init_0 rfl rfl ?_
  refine vv_objInit C wm70 wm48 wm49 ⟨Nat.le_of_ble_eq_true rfl, Nat.le_of_ble_eq_true rfl, Nat.le_of_ble_eq_true rfl⟩ dX2_init_1 ?_
  refine vv_aload_n C 0 dX2_init_4 rfl rfl ?_
  refine vv_bipush (v := zI (56)) C dX2_init_5 (by decide) ?_
  refine vv_newa (atype := .int) (ty := .int) C 0 rfl rfl wm108 56 rfl (by decide) (56, .inl (fun _ => 0)) (fun _ => rfl) (by decide) ⟨Nat.le_of_ble_eq_true rfl, Nat.le_of_ble_eq_true rfl⟩ dX2_init_7 (fun q2 => [(q1, .inr (2, [.null, .null, .null, .null, .null, .null, .null, .null, .int (zI (0)), .int (zI (0)), .long (0 : Int64), .int (zI (0))])), (q2, .inl (G.2.1 0, 56, .inl (fun _ => 0)))]) (fun _ => rfl) (fun q2 => ?_)
  refine vv_putF (ws1 := [(q1, .inr (2, [.ref q2, .null, .null, .null, .null, .null, .null, .null, .int (zI (0)), .int (zI (0)), .long (0 : Int64), .int (zI (0))])), (q2, .inl (G.2.1 0, 56, .inl (fun _ => 0)))]) C hnm 0 rfl rfl vi_X2 tyX2_ok nmX2 0 (by decide) wm71 rfl rfl rfl rfl (Nat.le_of_ble_eq_true rfl) rfl dX2_init_9 ?_
  refine vv_aload_n C 0 dX2_init_12 rfl rfl ?_
  refine vv_bipush (v := zI (56)) C dX2_init_13 (by decide) ?_
  refine vv_newa (atype := .int) (ty := .int) C 0 rfl rfl wm108 56 rfl (by decide) (56, .inl (fun _ => 0)) (fun _ => rfl) (by decide) ⟨Nat.le_of_ble_eq_true rfl, Nat.le_of_ble_eq_true rfl⟩ dX2_init_15 (fun q3 => [(q1, .inr (2, [.ref q2, .null, .null, .null, .null, .null, .null, .null, .int (zI (0)), .int (zI (0)), .long (0 : Int64), .int (zI (0))])), (q2, .inl (G.2.1 0, 56, .inl (fun _ => 0))), (q3, .inl (G.2.1 0, 56, .inl (fun _ => 0)))]) (fun _ => rfl) (fun q3 => ?_)
  refine vv_putF (ws1 := [(q1, .inr (2, [.ref q2, .ref q3, .null, .null, .null, .null, .null, .null, .int (zI (0)), .int (zI (0)), .long (0 : Int64), .int (zI (0))])), (q2, .inl (G.2.1 0, 56, .inl (fun _ => 0))), (q3, .inl (G.2.1 0, 56, .inl (fun _ => 0)))]) C hnm 0 rfl rfl vi_X2 tyX2_ok nmX2 1 (by decide) wm72 rfl rfl rfl rfl (Nat.le_of_ble_eq_true rfl) rfl dX2_init_17 ?_
  refine vv_aload_n C 0 dX2_init_20 rfl rfl ?_
  refine vv_bipush (v := zI (56)) C dX2_init_21 (by decide) ?_
  refine vv_newa (atype := .int) (ty := .int) C 0 rfl rfl wm108 56 rfl (by decide) (56, .inl (fun _ => 0)) (fun _ => rfl) (by decide) ⟨Nat.le_of_ble_eq_true rfl, Nat.le_of_ble_eq_true rfl⟩ dX2_init_23 (fun q4 => [(q1, .inr (2, [.ref q2, .ref q3, .null, .null, .null, .null, .null, .null, .int (zI (0)), .int (zI (0)), .long (0 : Int64), .int (zI (0))])), (q2, .inl (G.2.1 0, 56, .inl (fun _ => 0))), (q3, .inl (G.2.1 0, 56, .inl (fun _ => 0))), (q4, .inl (G.2.1 0, 56, .inl (fun _ => 0)))]) (fun _ => rfl) (fun q4 => ?_)
  refine vv_putF (ws1 := [(q1, .inr (2, [.ref q2, .ref q3, .ref q4, .null, .null, .null, .null, .null, .int (zI (0)), .int (zI (0)), .long (0 : Int64), .int (zI (0))])), (q2, .inl (G.2.1 0, 56, .inl (fun _ => 0))), (q3, .inl (G.2.1 0, 56, .inl (fun _ => 0))), (q4, .inl (G.2.1 0, 56, .inl (fun _ => 0)))]) C hnm 0 rfl rfl vi_X2 tyX2_ok nmX2 2 (by decide) wm73 rfl rfl rfl rfl (Nat.le_of_ble_eq_true rfl) rfl dX2_init_25 ?_
  refine vv_aload_n C 0 dX2_init_28 rfl rfl ?_
  refine vv_bipush (v := zI (56)) C dX2_init_29 (by decide) ?_
  refine vv_newa (atype := .int) (ty := .int) C 0 rfl rfl wm108 56 rfl (by decide) (56, .inl (fun _ => 0)) (fun _ => rfl) (by decide) ⟨Nat.le_of_ble_eq_true rfl, Nat.le_of_ble_eq_true rfl⟩ dX2_init_31 (fun q5 => [(q1, .inr (2, [.ref q2, .ref q3, .ref q4, .null, .null, .null, .null, .null, .int (zI (0)), .int (zI (0)), .long (0 : Int64), .int (zI (0))])), (q2, .inl (G.2.1 0, 56, .inl (fun _ => 0))), (q3, .inl (G.2.1 0, 56, .inl (fun _ => 0))), (q4, .inl (G.2.1 0, 56, .inl (fun _ => 0))), (q5, .inl (G.2.1 0, 56, .inl (fun _ => 0)))]) (fun _ => rfl) (fun q5 => ?_)
  refine vv_putF (ws1 := [(q1, .inr (2, [.ref q2, .ref q3, .ref q4, .ref q5, .null, .null, .null, .null, .int (zI (0)), .int (zI (0)), .long (0 : Int64), .int (zI (0))])), (q2, .inl (G.2.1 0, 56, .inl (fun _ => 0))), (q3, .inl (G.2.1 0, 56, .inl (fun _ => 0))), (q4, .inl (G.2.1 0, 56, .inl (fun _ => 0))), (q5, .inl (G.2.1 0, 56, .inl (fun _ => 0)))]) C hnm 0 rfl rfl vi_X2 tyX2_ok nmX2 3 (by decide) wm74 rfl rfl rfl rfl (Nat.le_of_ble_eq_true rfl) rfl dX2_init_33 ?_
  refine vv_aload_n C 0 dX2_init_36 rfl rfl ?_
  refine vv_bipush (v := zI (56)) C dX2_init_37 (by decide) ?_
  refine vv_newa (atype := .int) (ty := .int) C 0 rfl rfl wm108 56 rfl (by decide) (56, .inl (fun _ => 0)) (fun _ => rfl) (by decide) ⟨Nat.le_of_ble_eq_true rfl, Nat.le_of_ble_eq_true rfl⟩ dX2_init_39 (fun q6 => [(q1, .inr (2, [.ref q2, .ref q3, .ref q4, .ref q5, .null, .null, .null, .null, .int (zI (0)), .int (zI (0)), .long (0 : Int64), .int (zI (0))])), (q2, .inl (G.2.1 0, 56, .inl (fun _ => 0))), (q3, .inl (G.2.1 0, 56, .inl (fun _ => 0))), (q4, .inl (G.2.1 0, 56, .inl (fun _ => 0))), (q5, .inl (G.2.1 0, 56, .inl (fun _ => 0))), (q6, .inl (G.2.1 0, 56, .inl (fun _ => 0)))]) (fun _ => rfl) (fun q6 => ?_)
  refine vv_putF (ws1 := [(q1, .inr (2, [.ref q2, .ref q3, .ref q4, .ref q5, .ref q6, .null, .null, .null, .int (zI (0)), .int (zI (0)), .long (0 : Int64), .int (zI (0))])), (q2, .inl (G.2.1 0, 56, .inl (fun _ => 0))), (q3, .inl (G.2.1 0, 56, .inl (fun _ => 0))), (q4, .inl (G.2.1 0, 56, .inl (fun _ => 0))), (q5, .inl (G.2.1 0, 56, .inl (fun _ => 0))), (q6, .inl (G.2.1 0, 56, .inl (fun _ => 0)))]) C hnm 0 rfl rfl vi_X2 tyX2_ok nmX2 4 (by decide) wm75 rfl rfl rfl rfl (Nat.le_of_ble_eq_true rfl) rfl dX2_init_41 ?_
  refine vv_aload_n C 0 dX2_init_44 rfl rfl ?_
  refine vv_sipush (v := zI (228)) C dX2_init_45 (by decide) ?_
  refine vv_newa (atype := .int) (ty := .int) C 0 rfl rfl wm108 228 rfl (by decide) (228, .inl (fun _ => 0)) (fun _ => rfl) (by decide) ⟨Nat.le_of_ble_eq_true rfl, Nat.le_of_ble_eq_true rfl⟩ dX2_init_48 (fun q7 => [(q1, .inr (2, [.ref q2, .ref q3, .ref q4, .ref q5, .ref q6, .null, .null, .null, .int (zI (0)), .int (zI (0)), .long (0 : Int64), .int (zI (0))])), (q2, .inl (G.2.1 0, 56, .inl (fun _ => 0))), (q3, .inl (G.2.1 0, 56, .inl (fun _ => 0))), (q4, .inl (G.2.1 0, 56, .inl (fun _ => 0))), (q5, .inl (G.2.1 0, 56, .inl (fun _ => 0))), (q6, .inl (G.2.1 0, 56, .inl (fun _ => 0))), (q7, .inl (G.2.1 0, 228, .inl (fun _ => 0)))]) (fun _ => rfl) (fun q7 => ?_)
  refine vv_putF (ws1 := [(q1, .inr (2, [.ref q2, .ref q3, .ref q4, .ref q5, .ref q6, .ref q7, .null, .null, .int (zI (0)), .int (zI (0)), .long (0 : Int64), .int (zI (0))])), (q2, .inl (G.2.1 0, 56, .inl (fun _ => 0))), (q3, .inl (G.2.1 0, 56, .inl (fun _ => 0))), (q4, .inl (G.2.1 0, 56, .inl (fun _ => 0))), (q5, .inl (G.2.1 0, 56, .inl (fun _ => 0))), (q6, .inl (G.2.1 0, 56, .inl (fun _ => 0))), (q7, .inl (G.2.1 0, 228, .inl (fun _ => 0)))]) C hnm 0 rfl rfl vi_X2 tyX2_ok nmX2 5 (by decide) wm76 rfl rfl rfl rfl (Nat.le_of_ble_eq_true rfl) rfl dX2_init_50 ?_
  refine vv_aload_n C 0 dX2_init_53 rfl rfl ?_
  refine vv_bipush (v := zI (8)) C dX2_init_54 (by decide) ?_
  refine vv_newa (atype := .int) (ty := .int) C 0 rfl rfl wm108 8 rfl (by decide) (8, .inl (fun _ => 0)) (fun _ => rfl) (by decide) ⟨Nat.le_of_ble_eq_true rfl, Nat.le_of_ble_eq_true rfl⟩ dX2_init_56 (fun q8 => [(q1, .inr (2, [.ref q2, .ref q3, .ref q4, .ref q5, .ref q6, .ref q7, .null, .null, .int (zI (0)), .int (zI (0)), .long (0 : Int64), .int (zI (0))])), (q2, .inl (G.2.1 0, 56, .inl (fun _ => 0))), (q3, .inl (G.2.1 0, 56, .inl (fun _ => 0))), (q4, .inl (G.2.1 0, 56, .inl (fun _ => 0))), (q5, .inl (G.2.1 0, 56, .inl (fun _ => 0))), (q6, .inl (G.2.1 0, 56, .inl (fun _ => 0))), (q7, .inl (G.2.1 0, 228, .inl (fun _ => 0))), (q8, .inl (G.2.1 0, 8, .inl (fun _ => 0)))]) (fun _ => rfl) (fun q8 => ?_)
  refine vv_putF (ws1 := [(q1, .inr (2, [.ref q2, .ref q3, .ref q4, .ref q5, .ref q6, .ref q7, .ref q8, .null, .int (zI (0)), .int (zI (0)), .long (0 : Int64), .int (zI (0))])), (q2, .inl (G.2.1 0, 56, .inl (fun _ => 0))), (q3, .inl (G.2.1 0, 56, .inl (fun _ => 0))), (q4, .inl (G.2.1 0, 56, .inl (fun _ => 0))), (q5, .inl (G.2.1 0, 56, .inl (fun _ => 0))), (q6, .inl (G.2.1 0, 56, .inl (fun _ => 0))), (q7, .inl (G.2.1 0, 228, .inl (fun _ => 0))), (q8, .inl (G.2.1 0, 8, .inl (fun _ => 0)))]) C hnm 0 rfl rfl vi_X2 tyX2_ok nmX2 6 (by decide) wm77 rfl rfl rfl rfl (Nat.le_of_ble_eq_true rfl) rfl dX2_init_58 ?_
  refine vv_aload_n C 0 dX2_init_61 rfl rfl ?_
  refine vv_bipush (v := zI (12)) C dX2_init_62 (by decide) ?_
  refine vv_newa (atype := .int) (ty := .int) C 0 rfl rfl wm108 12 rfl (by decide) (12, .inl (fun _ => 0)) (fun _ => rfl) (by decide) ⟨Nat.le_of_ble_eq_true rfl, Nat.le_of_ble_eq_true rfl⟩ dX2_init_64 (fun q9 => [(q1, .inr (2, [.ref q2, .ref q3, .ref q4, .ref q5, .ref q6, .ref q7, .ref q8, .null, .int (zI (0)), .int (zI (0)), .long (0 : Int64), .int (zI (0))])), (q2, .inl (G.2.1 0, 56, .inl (fun _ => 0))), (q3, .inl (G.2.1 0, 56, .inl (fun _ => 0))), (q4, .inl (G.2.1 0, 56, .inl (fun _ => 0))), (q5, .inl (G.2.1 0, 56, .inl (fun _ => 0))), (q6, .inl (G.2.1 0, 56, .inl (fun _ => 0))), (q7, .inl (G.2.1 0, 228, .inl (fun _ => 0))), (q8, .inl (G.2.1 0, 8, .inl (fun _ => 0))), (q9, .inl (G.2.1 0, 12, .inl (fun _ => 0)))]) (fun _ => rfl) (fun q9 => ?_)
  refine vv_putF (ws1 := [(q1, .inr (2, [.ref q2, .ref q3, .ref q4, .ref q5, .ref q6, .ref q7, .ref q8, .ref q9, .int (zI (0)), .int (zI (0)), .long (0 : Int64), .int (zI (0))])), (q2, .inl (G.2.1 0, 56, .inl (fun _ => 0))), (q3, .inl (G.2.1 0, 56, .inl (fun _ => 0))), (q4, .inl (G.2.1 0, 56, .inl (fun _ => 0))), (q5, .inl (G.2.1 0, 56, .inl (fun _ => 0))), (q6, .inl (G.2.1 0, 56, .inl (fun _ => 0))), (q7, .inl (G.2.1 0, 228, .inl (fun _ => 0))), (q8, .inl (G.2.1 0, 8, .inl (fun _ => 0))), (q9, .inl (G.2.1 0, 12, .inl (fun _ => 0)))]) C hnm 0 rfl rfl vi_X2 tyX2_ok nmX2 7 (by decide) wm78 rfl rfl rfl rfl (Nat.le_of_ble_eq_true rfl) rfl dX2_init_66 ?_
  exact vv_vret C (()) rfl [] rfl rfl ⟨Nat.le_of_ble_eq_true rfl, Nat.le_of_ble_eq_true rfl⟩ dX2_init_69
set_option maxHeartbeats 4000000 in
set_option maxRecDepth 100000 in
theorem k3_X8_init (l : Launch) (hf : l.stackTraces = false) (G : vv_G) (q1 : Nat) : ∀ sz, Met l yX8_init (Cond.code yX8_init cX8_init 1 none :: gT) ({ frames := 1, cells := 4, slots := 56, locals := 20 } : Room) (va_Pc [.ref q1] (vv_I G [(q1, .inr (7, [.null, .null, .null, .null, .int (zI (0)), .int (zI (0)), .int (zI (0)), .int (zI (0)), .int (zI (0))]))] sz)) (vv_Q G (fun v (u : Unit) => v = none) (fun u => []) (va_A [(q1, .inr (7, [.null, .null, .null, .null, .int (zI (0)), .int (zI (0)), .int (zI (0)), .int (zI (0)), .int (zI (0))]))] sz)) 4 56 (va_A [(q1, .inr (7, [.null, .null, .null, .null, .int (zI (0)), .int (zI (0)), .int (zI (0)), .int (zI (0)), .int (zI (0))]))] sz) := by
  refine vv_start hf (by decide) (Nat.le_of_ble_eq_true rfl) ?_
  intro p e s m below meth c A C hnm
  refine vv_aload_n C 0 dX8_init_0 rfl rfl ?_
  refine vv_objInit C wm120 wm48 wm49 ⟨Nat.le_of_ble_eq_true rfl, Nat.le_of_ble_eq_true rfl, Nat.le_of_ble_eq_true rfl⟩ dX8_init_1 ?_
  refine vv_aload_n C 0 dX8_init_4 rfl rfl ?_
  refine vv_bipush (v := zI (8)) C dX8_init_5 (by decide) ?_
  refine vv_newa (atype := .long) (ty := .long) C 1 rfl rfl wm64 8 rfl (by decide) (8, .inr (.inl (fun _ => 0))) (fun _ => rfl) (by decide) ⟨Nat.le_of_ble_eq_true rfl, Nat.le_of_ble_eq_true rfl⟩ dX8_init_7 (fun q2 => [(q1, .inr (7, [.null, .null, .null, .null, .int (zI (0)), .int (zI (0)), .int (zI (0)), .int (zI (0)), .int (zI (0))])), (q2, .inl (G.2.1 1, 8, .inr (.inl (fun _ => 0))))]) (fun _ => rfl) (fun q2 => ?_)
  refine vv_putF (ws1 := [(q1, .inr (7, [.ref q2, .null, .null, .null, .int (zI (0)), .int (zI (0)), .int (zI (0)), .int (zI (0)), .int (zI (0))])), (q2, .inl (G.2.1 1, 8, .inr (.inl (fun _ => 0))))]) C hnm 0 rfl rfl vi_X8 tyX8_ok nmX8 0 (by decide) wm121 rfl rfl rfl rfl (Nat.le_of_ble_eq_true rfl) rfl dX8_init_9 ?_
  refine vv_aload_n C 0 dX8_init_12 rfl rfl ?_
  refine vv_bipush (v := zI (8)) C dX8_init_13 (by decide) ?_
  refine vv_newa (atype := .long) (ty := .long) C 1 rfl rfl wm64 8 rfl (by decide) (8, .inr (.inl (fun _ => 0))) (fun _ => rfl) (by decide) ⟨Nat.le_of_ble_eq_true rfl, Nat.le_of_ble_eq_true rfl⟩ dX8_init_15 (fun q3 => [(q1, .inr (7, [.ref q2, .null, .null, .null, .int (zI (0)), .int (zI (0)), .int (zI (0)), .int (zI (0)), .int (zI (0))])), (q2, .inl (G.2.1 1, 8, .inr (.inl (fun _ => 0)))), (q3, .inl (G.2.1 1, 8, .inr (.inl (fun _ => 0))))]) (fun _ => rfl) (fun q3 => ?_)
  refine vv_putF (ws1 := [(q1, .inr (7, [.ref q2, .ref q3, .null, .null, .int (zI (0)), .int (zI (0)), .int (zI (0)), .int (zI (0)), .int (zI (0))])), (q2, .inl (G.2.1 1, 8, .inr (.inl (fun _ => 0)))), (q3, .inl (G.2.1 1, 8, .inr (.inl (fun _ => 0))))]) C hnm 0 rfl rfl vi_X8 tyX8_ok nmX8 1 (by decide) wm125 rfl rfl rfl rfl (Nat.le_of_ble_eq_true rfl) rfl dX8_init_17 ?_
  refine vv_aload_n C 0 dX8_init_20 rfl rfl ?_
  refine vv_bipush (v := zI (20)) C dX8_init_21 (by decide) ?_
  refine vv_newa (atype := .long) (ty := .long) C 1 rfl rfl wm64 20 rfl (by decide) (20, .inr (.inl (fun _ => 0))) (fun _ => rfl) (by decide) ⟨Nat.le_of_ble_eq_true rfl, Nat.le_of_ble_eq_true rfl⟩ dX8_init_23 (fun q4 => [(q1, .inr (7, [.ref q2, .ref q3, .null, .null, .int (zI (0)), .int (zI (0)), .int (zI (0)), .int (zI (0)), .int (zI (0))])), (q2, .inl (G.2.1 1, 8, .inr (.inl (fun _ => 0)))), (q3, .inl (G.2.1 1, 8, .inr (.inl (fun _ => 0)))), (q4, .inl (G.2.1 1, 20, .inr (.inl (fun _ => 0))))]) (fun _ => rfl) (fun q4 => ?_)
  refine vv_putF (ws1 := [(q1, .inr (7, [.ref q2, .ref q3, .ref q4, .null, .int (zI (0)), .int (zI (0)), .int (zI (0)), .int (zI (0)), .int (zI (0))])), (q2, .inl (G.2.1 1, 8, .inr (.inl (fun _ => 0)))), (q3, .inl (G.2.1 1, 8, .inr (.inl (fun _ => 0)))), (q4, .inl (G.2.1 1, 20, .inr (.inl (fun _ => 0))))]) C hnm 0 rfl rfl vi_X8 tyX8_ok nmX8 2 (by decide) wm129 rfl rfl rfl rfl (Nat.le_of_ble_eq_true rfl) rfl dX8_init_25 ?_
  refine vv_aload_n C 0 dX8_init_28 rfl rfl ?_
  refine vv_bipush (v := zI (20)) C dX8_init_29 (by decide) ?_
  refine vv_newa (atype := .long) (ty := .long) C 1 rfl rfl wm64 20 rfl (by decide) (20, .inr (.inl (fun _ => 0))) (fun _ => rfl) (by decide) ⟨Nat.le_of_ble_eq_true rfl, Nat.le_of_ble_eq_true rfl⟩ dX8_init_31 (fun q5 => [(q1, .inr (7, [.ref q2, .ref q3, .ref q4, .null, .int (zI (0)), .int (zI (0)), .int (zI (0)), .int (zI (0)), .int (zI (0))])), (q2, .inl (G.2.1 1, 8, .inr (.inl (fun _ => 0)))), (q3, .inl (G.2.1 1, 8, .inr (.inl (fun _ => 0)))), (q4, .inl (G.2.1 1, 20, .inr (.inl (fun _ => 0)))), (q5, .inl (G.2.1 1, 20, .inr (.inl (fun _ => 0))))]) (fun _ => rfl) (fun q5 => ?_)
  refine vv_putF (ws1 := [(q1, .inr (7, [.ref q2, .ref q3, .ref q4, .ref q5, .int (zI (0)), .int (zI (0)), .int (zI (0)), .int (zI (0)), .int (zI (0))])), (q2, .inl (G.2.1 1, 8, .inr (.inl (fun _ => 0)))), (q3, .inl (G.2.1 1, 8, .inr (.inl (fun _ => 0)))), (q4, .inl (G.2.1 1, 20, .inr (.inl (fun _ => 0)))), (q5, .inl (G.2.1 1, 20, .inr (.inl (fun _ => 0))))]) C hnm 0 rfl rfl vi_X8 tyX8_ok nmX8 3 (by decide) wm131 rfl rfl rfl rfl (Nat.le_of_ble_eq_true rfl) rfl dX8_init_33 ?_
  exact vv_vret C (()) rfl [] rfl rfl ⟨Nat.le_of_ble_eq_true rfl, Nat.le_of_ble_eq_true rfl⟩ dX8_init_36
set_option maxHeartbeats 4000000 in
set_option maxRecDepth 100000 in
theorem k4_X0_init (l : Launch) (hf : l.stackTraces = false) (G : vv_G) (q1 q2 q3 : Nat) : ∀ sz, Met l yX0_init (Cond.code yX0_init cX0_init 3 none :: gT) ({ frames := 2, cells := 7, slots := 89, locals := 40 } : Room) (va_Pc [.ref q1, .ref q2, .ref q3] (vv_I G [(q1, .inr (0, [.null, .null, .null, .null, .null]))] sz)) (vv_Q G (fun v (u : Nat × Nat × Nat) => v = none) (fun u => [(q1, .inr (0, [.ref q2, .ref q3, .ref u.1, .ref u.2.1, .ref u.2.2]))]) (va_A [(q1, .inr (0, [.null, .null, .null, .null, .null]))] sz)) 7 89 (va_A [(q1, .inr (0, [.null, .null, .null, .null, .null]))] sz) := by
  refine vv_start hf (by decide) (Nat.le_of_ble_eq_true rfl) ?_
  intro p e s m below meth c A C hnm
  refine vv_aload_n C 0 dX0_init_0 rfl rfl ?_
  refine vv_objInit C wm114 wm48 wm49 ⟨Nat.le_of_ble_eq_true rfl, Nat.le_of_ble_eq_true rfl, Nat.le_of_ble_eq_true rfl⟩ dX0_init_1 ?_
  refine vv_aload_n C 0 dX0_init_4 rfl rfl ?_
  refine vv_new (ci := 7) C rfl vi_X8 tyX8_ok wm115 wm116 wm5 [.null, .null, .null, .null, .int (zI (0)), .int (zI (0)), .int (zI (0)), .int (zI (0)), .int (zI (0))] (fun j hj => by rcases (show j = 0 ∨ j = 1 ∨ j = 2 ∨ j = 3 ∨ j = 4 ∨ j = 5 ∨ j = 6 ∨ j = 7 ∨ j = 8 by omega) with rfl | rfl | rfl | rfl | rfl | rfl | rfl | rfl | rfl <;> rfl) ⟨Nat.le_of_ble_eq_true rfl, Nat.le_of_ble_eq_true rfl⟩ dX0_init_5 (fun q4 => [(q1, .inr (0, [.null, .null, .null, .null, .null])), (q4, .inr (7, [.null, .null, .null, .null, .int (zI (0)), .int (zI (0)), .int (zI (0)), .int (zI (0)), .int (zI (0))]))]) (fun _ => rfl) (fun q4 => ?_)
  refine vv_dup C dX0_init_8 rfl ?_
  refine vv_callIN (host := "Latticework") (As := []) (rest := [.ref q4, .ref q1]) (wr := [(q1, .inr (0, [.null, .null, .null, .null, .null]))]) (ws2 := fun u => [(q1, .inr (0, [.null, .null, .null, .null, .null]))]) (isC := [1]) (isR := [0]) (isP := [0]) C (vv_cutI rfl rfl rfl rfl (by decide) (fun _ => rfl) rfl) (k3_X8_init l hf G q4) yy_X8_init (vv_rmI rfl rfl (Nat.le_of_ble_eq_true rfl) (Nat.le_of_ble_eq_true rfl) (Nat.le_of_ble_eq_true rfl) (Nat.le_of_ble_eq_true rfl)) (by decide +kernel) wm118 rfl rfl rfl (Nat.le_of_ble_eq_true rfl) dX0_init_9 (fun v u hp => ?_)
  obtain rfl := hp
  refine vv_nrm (ws1 := [(q1, .inr (0, [.null, .null, .null, .null, .null]))]) (st1 := [.ref q4, .ref q1]) rfl rfl ?_
  refine vv_putF (ws1 := [(q1, .inr (0, [.null, .null, .ref q4, .null, .null]))]) C hnm 0 rfl rfl vi_X0 tyX0_ok nmX0 2 (by decide) wm168 rfl rfl rfl rfl (Nat.le_of_ble_eq_true rfl) rfl dX0_init_12 ?_
  refine vv_aload_n C 0 dX0_init_15 rfl rfl ?_
  refine vv_bipush (v := zI (12)) C dX0_init_16 (by decide) ?_
  refine vv_newa (atype := .long) (ty := .long) C 1 rfl rfl wm64 12 rfl (by decide) (12, .inr (.inl (fun _ => 0))) (fun _ => rfl) (by decide) ⟨Nat.le_of_ble_eq_true rfl, Nat.le_of_ble_eq_true rfl⟩ dX0_init_18 (fun q5 => [(q1, .inr (0, [.null, .null, .ref q4, .null, .null])), (q5, .inl (G.2.1 1, 12, .inr (.inl (fun _ => 0))))]) (fun _ => rfl) (fun q5 => ?_)
  refine vv_putF (ws1 := [(q1, .inr (0, [.null, .null, .ref q4, .ref q5, .null])), (q5, .inl (G.2.1 1, 12, .inr (.inl (fun _ => 0))))]) C hnm 0 rfl rfl vi_X0 tyX0_ok nmX0 3 (by decide) wm169 rfl rfl rfl rfl (Nat.le_of_ble_eq_true rfl) rfl dX0_init_20 ?_
  refine vv_aload_n C 0 dX0_init_23 rfl rfl ?_
  refine vv_bipush (v := zI (12)) C dX0_init_24 (by decide) ?_
  refine vv_newa (atype := .long) (ty := .long) C 1 rfl rfl wm64 12 rfl (by decide) (12, .inr (.inl (fun _ => 0))) (fun _ => rfl) (by decide) ⟨Nat.le_of_ble_eq_true rfl, Nat.le_of_ble_eq_true rfl⟩ dX0_init_26 (fun q6 => [(q1, .inr (0, [.null, .null, .ref q4, .ref q5, .null])), (q5, .inl (G.2.1 1, 12, .inr (.inl (fun _ => 0)))), (q6, .inl (G.2.1 1, 12, .inr (.inl (fun _ => 0))))]) (fun _ => rfl) (fun q6 => ?_)
  refine vv_putF (ws1 := [(q1, .inr (0, [.null, .null, .ref q4, .ref q5, .ref q6])), (q5, .inl (G.2.1 1, 12, .inr (.inl (fun _ => 0)))), (q6, .inl (G.2.1 1, 12, .inr (.inl (fun _ => 0))))]) C hnm 0 rfl rfl vi_X0 tyX0_ok nmX0 4 (by decide) wm170 rfl rfl rfl rfl (Nat.le_of_ble_eq_true rfl) rfl dX0_init_28 ?_
  refine vv_aload_n C 0 dX0_init_31 rfl rfl ?_
  refine vv_aload_n C 1 dX0_init_32 rfl rfl ?_
  refine vv_putF (ws1 := [(q1, .inr (0, [.ref q2, .null, .ref q4, .ref q5, .ref q6])), (q5, .inl (G.2.1 1, 12, .inr (.inl (fun _ => 0)))), (q6, .inl (G.2.1 1, 12, .inr (.inl (fun _ => 0))))]) C hnm 0 rfl rfl vi_X0 tyX0_ok nmX0 0 (by decide) wm166 rfl rfl rfl rfl (Nat.le_of_ble_eq_true rfl) rfl dX0_init_33 ?_
  refine vv_aload_n C 0 dX0_init_36 rfl rfl ?_
  refine vv_aload_n C 2 dX0_init_37 rfl rfl ?_
  refine vv_putF (ws1 := [(q1, .inr (0, [.ref q2, .ref q3, .ref q4, .ref q5, .ref q6])), (q5, .inl (G.2.1 1, 12, .inr (.inl (fun _ => 0)))), (q6, .inl (G.2.1 1, 12, .inr (.inl (fun _ => 0))))]) C hnm 0 rfl rfl vi_X0 tyX0_ok nmX0 1 (by decide) wm167 rfl rfl rfl rfl (Nat.le_of_ble_eq_true rfl) rfl dX0_init_38 ?_
  exact vv_vret C ((q4, q5, q6)) rfl [0] rfl rfl ⟨Nat.le_of_ble_eq_true rfl, Nat.le_of_ble_eq_true rfl⟩ dX0_init_41
set_option maxHeartbeats 4000000 in
set_option maxRecDepth 100000 in
theorem k5_X8_init (l : Launch) (hf : l.stackTraces = false) (G : vv_G) (q1 : Nat) : ∀ sz, Met l yX8_init (Cond.code yX8_init cX8_init 1 none :: gT) ({ frames := 1, cells := 4, slots := 56, locals := 20 } : Room) (va_Pc [.ref q1] (vv_I G [(q1, .inr (7, [.null, .null, .null, .null, .int (zI (0)), .int (zI (0)), .int (zI (0)), .int (zI (0)), .int (zI (0))]))] sz)) (vv_Q G (fun v (u : Nat × Nat × Nat × Nat) => v = none) (fun u => [(q1, .inr (7, [.ref u.1, .ref u.2.1, .ref u.2.2.1, .ref u.2.2.2, .int (zI (0)), .int (zI (0)), .int (zI (0)), .int (zI (0)), .int (zI (0))])), (u.1, .inl (G.2.1 1, 8, .inr (.inl (fun _ => 0)))), (u.2.1, .inl (G.2.1 1, 8, .inr (.inl (fun _ => 0)))), (u.2.2.1, .inl (G.2.1 1, 20, .inr (.inl (fun _ => 0)))), (u.2.2.2, .inl (G.2.1 1, 20, .inr (.inl (fun _ => 0))))]) (va_A [(q1, .inr (7, [.null, .null, .null, .null, .int (zI (0)), .int (zI (0)), .int (zI (0)), .int (zI (0)), .int (zI (0))]))] sz)) 4 56 (va_A [(q1, .inr (7, [.null, .null, .null, .null, .int (zI (0)), .int (zI (0)), .int (zI (0)), .int (zI (0)), .int (zI (0))]))] sz) := by
  refine vv_start hf (by decide) (Nat.le_of_ble_eq_true rfl) ?_
  intro p e s m below meth c A C hnm
  refine vv_aload_n C 0 dX8_init_0 rfl rfl ?_
  refine vv_objInit C wm120 wm48 wm49 ⟨Nat.le_of_ble_eq_true rfl, Nat.le_of_ble_eq_true rfl, Nat.le_of_ble_eq_true rfl⟩ dX8_init_1 ?_
  refine vv_aload_n C 0 dX8_init_4 rfl rfl ?_
  refine vv_bipush (v := zI (8)) C dX8_init_5 (by decide) ?_
  refine vv_newa (atype := .long) (ty := .long) C 1 rfl rfl wm64 8 rfl (by decide) (8, .inr (.inl (fun _ => 0))) (fun _ => rfl) (by decide) ⟨Nat.le_of_ble_eq_true rfl, Nat.le_of_ble_eq_true rfl⟩ dX8_init_7 (fun q2 => [(q1, .inr (7, [.null, .null, .null, .null, .int (zI (0)), .int (zI (0)), .int (zI (0)), .int (zI (0)), .int (zI (0))])), (q2, .inl (G.2.1 1, 8, .inr (.inl (fun _ => 0))))]) (fun _ => rfl) (fun q2 => ?_)
  refine vv_putF (ws1 := [(q1, .inr (7, [.ref q2, .null, .null, .null, .int (zI (0)), .int (zI (0)), .int (zI (0)), .int (zI (0)), .int (zI (0))])), (q2, .inl (G.2.1 1, 8, .inr (.inl (fun _ => 0))))]) C hnm 0 rfl rfl vi_X8 tyX8_ok nmX8 0 (by decide) wm121 rfl rfl rfl rfl (Nat.le_of_ble_eq_true rfl) rfl dX8_init_9 ?_
  refine vv_aload_n C 0 dX8_init_12 rfl rfl ?_
  refine vv_bipush (v := zI (8)) C dX8_init_13 (by decide) ?_
  refine vv_newa (atype := .long) (ty := .long) C 1 rfl rfl wm64 8 rfl (by decide) (8, .inr (.inl (fun _ => 0))) (fun _ => rfl) (by decide) ⟨Nat.le_of_ble_eq_true rfl, Nat.le_of_ble_eq_true rfl⟩ dX8_init_15 (fun q3 => [(q1, .inr (7, [.ref q2, .null, .null, .null, .int (zI (0)), .int (zI (0)), .int (zI (0)), .int (zI (0)), .int (zI (0))])), (q2, .inl (G.2.1 1, 8, .inr (.inl (fun _ => 0)))), (q3, .inl (G.2.1 1, 8, .inr (.inl (fun _ => 0))))]) (fun _ => rfl) (fun q3 => ?_)
  refine vv_putF (ws1 := [(q1, .inr (7, [.ref q2, .ref q3, .null, .null, .int (zI (0)), .int (zI (0)), .int (zI (0)), .int (zI (0)), .int (zI (0))])), (q2, .inl (G.2.1 1, 8, .inr (.inl (fun _ => 0)))), (q3, .inl (G.2.1 1, 8, .inr (.inl (fun _ => 0))))]) C hnm 0 rfl rfl vi_X8 tyX8_ok nmX8 1 (by decide) wm125 rfl rfl rfl rfl (Nat.le_of_ble_eq_true rfl) rfl dX8_init_17 ?_
  refine vv_aload_n C 0 dX8_init_20 rfl rfl ?_
  refine vv_bipush (v := zI (20)) C dX8_init_21 (by decide) ?_
  refine vv_newa (atype := .long) (ty := .long) C 1 rfl rfl wm64 20 rfl (by decide) (20, .inr (.inl (fun _ => 0))) (fun _ => rfl) (by decide) ⟨Nat.le_of_ble_eq_true rfl, Nat.le_of_ble_eq_true rfl⟩ dX8_init_23 (fun q4 => [(q1, .inr (7, [.ref q2, .ref q3, .null, .null, .int (zI (0)), .int (zI (0)), .int (zI (0)), .int (zI (0)), .int (zI (0))])), (q2, .inl (G.2.1 1, 8, .inr (.inl (fun _ => 0)))), (q3, .inl (G.2.1 1, 8, .inr (.inl (fun _ => 0)))), (q4, .inl (G.2.1 1, 20, .inr (.inl (fun _ => 0))))]) (fun _ => rfl) (fun q4 => ?_)
  refine vv_putF (ws1 := [(q1, .inr (7, [.ref q2, .ref q3, .ref q4, .null, .int (zI (0)), .int (zI (0)), .int (zI (0)), .int (zI (0)), .int (zI (0))])), (q2, .inl (G.2.1 1, 8, .inr (.inl (fun _ => 0)))), (q3, .inl (G.2.1 1, 8, .inr (.inl (fun _ => 0)))), (q4, .inl (G.2.1 1, 20, .inr (.inl (fun _ => 0))))]) C hnm 0 rfl rfl vi_X8 tyX8_ok nmX8 2 (by decide) wm129 rfl rfl rfl rfl (Nat.le_of_ble_eq_true rfl) rfl dX8_init_25 ?_
  refine vv_aload_n C 0 dX8_init_28 rfl rfl ?_
  refine vv_bipush (v := zI (20)) C dX8_init_29 (by decide) ?_
  refine vv_newa (atype := .long) (ty := .long) C 1 rfl rfl wm64 20 rfl (by decide) (20, .inr (.inl (fun _ => 0))) (fun _ => rfl) (by decide) ⟨Nat.le_of_ble_eq_true rfl, Nat.le_of_ble_eq_true rfl⟩ dX8_init_31 (fun q5 => [(q1, .inr (7, [.ref q2, .ref q3, .ref q4, .null, .int (zI (0)), .int (zI (0)), .int (zI (0)), .int (zI (0)), .int (zI (0))])), (q2, .inl (G.2.1 1, 8, .inr (.inl (fun _ => 0)))), (q3, .inl (G.2.1 1, 8, .inr (.inl (fun _ => 0)))), (q4, .inl (G.2.1 1, 20, .inr (.inl (fun _ => 0)))), (q5, .inl (G.2.1 1, 20, .inr (.inl (fun _ => 0))))]) (fun _ => rfl) (fun q5 => ?_)
  refine vv_putF (ws1 := [(q1, .inr (7, [.ref q2, .ref q3, .ref q4, .ref q5, .int (zI (0)), .int (zI (0)), .int (zI (0)), .int (zI (0)), .int (zI (0))])), (q2, .inl (G.2.1 1, 8, .inr (.inl (fun _ => 0)))), (q3, .inl (G.2.1 1, 8, .inr (.inl (fun _ => 0)))), (q4, .inl (G.2.1 1, 20, .inr (.inl (fun _ => 0)))), (q5, .inl (G.2.1 1, 20, .inr (.inl (fun _ => 0))))]) C hnm 0 rfl rfl vi_X8 tyX8_ok nmX8 3 (by decide) wm131 rfl rfl rfl rfl (Nat.le_of_ble_eq_true rfl) rfl dX8_init_33 ?_
  exact vv_vret C ((q2, q3, q4, q5)) rfl [0, 1, 2, 3, 4] rfl rfl ⟨Nat.le_of_ble_eq_true rfl, Nat.le_of_ble_eq_true rfl⟩ dX8_init_36
set_option maxHeartbeats 4000000 in
set_option maxRecDepth 100000 in
theorem k6_X9_init (l : Launch) (hf : l.stackTraces = false) (G : vv_G) (q1 : Nat) : ∀ sz, Met l yX9_init (Cond.code yX9_init cX9_init 1 none :: gT) ({ frames := 1, cells := 3, slots := 180, locals := 20 } : Room) (va_Pc [.ref q1] (vv_I G [(q1, .inr (8, [.null, .null, .null, .int (zI (0))]))] sz)) (vv_Q G (fun v (u : Nat × Nat × Nat) => v = none) (fun u => [(q1, .inr (8, [.ref u.1, .ref u.2.1, .ref u.2.2, .int (zI (0))])), (u.1, .inl (G.2.1 1, 60, .inr (.inl (fun _ => 0)))), (u.2.1, .inl (G.2.1 1, 60, .inr (.inl (fun _ => 0))))]) (va_A [(q1, .inr (8, [.null, .null, .null, .int (zI (0))]))] sz)) 3 180 (va_A [(q1, .inr (8, [.null, .null, .null, .int (zI (0))]))] sz) := by
  refine vv_start hf (by decide) (Nat.le_of_ble_eq_true rfl) ?_
  intro p e s m below meth c A C hnm
  refine vv_aload_n C 0 dX9_init_0 rfl rfl ?_
  refine vv_objInit C wm189 wm48 wm49 ⟨Nat.le_of_ble_eq_true rfl, Nat.le_of_ble_eq_true rfl, Nat.le_of_ble_eq_true rfl⟩ dX9_init_1 ?_
  refine vv_aload_n C 0 dX9_init_4 rfl rfl ?_
  refine vv_bipush (v := zI (60)) C dX9_init_5 (by decide) ?_
  refine vv_newa (atype := .long) (ty := .long) C 1 rfl rfl wm64 60 rfl (by decide) (60, .inr (.inl (fun _ => 0))) (fun _ => rfl) (by decide) ⟨Nat.le_of_ble_eq_true rfl, Nat.le_of_ble_eq_true rfl⟩ dX9_init_7 (fun q2 => [(q1, .inr (8, [.null, .null, .null, .int (zI (0))])), (q2, .inl (G.2.1 1, 60, .inr (.inl (fun _ => 0))))]) (fun _ => rfl) (fun q2 => ?_)
  refine vv_putF (ws1 := [(q1, .inr (8, [.ref q2, .null, .null, .int (zI (0))])), (q2, .inl (G.2.1 1, 60, .inr (.inl (fun _ => 0))))]) C hnm 0 rfl rfl vi_X9 tyX9_ok nmX9 0 (by decide) wm190 rfl rfl rfl rfl (Nat.le_of_ble_eq_true rfl) rfl dX9_init_9 ?_
  refine vv_aload_n C 0 dX9_init_12 rfl rfl ?_
  refine vv_bipush (v := zI (60)) C dX9_init_13 (by decide) ?_
  refine vv_newa (atype := .long) (ty := .long) C 1 rfl rfl wm64 60 rfl (by decide) (60, .inr (.inl (fun _ => 0))) (fun _ => rfl) (by decide) ⟨Nat.le_of_ble_eq_true rfl, Nat.le_of_ble_eq_true rfl⟩ dX9_init_15 (fun q3 => [(q1, .inr (8, [.ref q2, .null, .null, .int (zI (0))])), (q2, .inl (G.2.1 1, 60, .inr (.inl (fun _ => 0)))), (q3, .inl (G.2.1 1, 60, .inr (.inl (fun _ => 0))))]) (fun _ => rfl) (fun q3 => ?_)
  refine vv_putF (ws1 := [(q1, .inr (8, [.ref q2, .ref q3, .null, .int (zI (0))])), (q2, .inl (G.2.1 1, 60, .inr (.inl (fun _ => 0)))), (q3, .inl (G.2.1 1, 60, .inr (.inl (fun _ => 0))))]) C hnm 0 rfl rfl vi_X9 tyX9_ok nmX9 1 (by decide) wm192 rfl rfl rfl rfl (Nat.le_of_ble_eq_true rfl) rfl dX9_init_17 ?_
  refine vv_aload_n C 0 dX9_init_20 rfl rfl ?_
  refine vv_bipush (v := zI (60)) C dX9_init_21 (by decide) ?_
  refine vv_newa (atype := .int) (ty := .int) C 0 rfl rfl wm108 60 rfl (by decide) (60, .inl (fun _ => 0)) (fun _ => rfl) (by decide) ⟨Nat.le_of_ble_eq_true rfl, Nat.le_of_ble_eq_true rfl⟩ dX9_init_23 (fun q4 => [(q1, .inr (8, [.ref q2, .ref q3, .null, .int (zI (0))])), (q2, .inl (G.2.1 1, 60, .inr (.inl (fun _ => 0)))), (q3, .inl (G.2.1 1, 60, .inr (.inl (fun _ => 0)))), (q4, .inl (G.2.1 0, 60, .inl (fun _ => 0)))]) (fun _ => rfl) (fun q4 => ?_)
  refine vv_putF (ws1 := [(q1, .inr (8, [.ref q2, .ref q3, .ref q4, .int (zI (0))])), (q2, .inl (G.2.1 1, 60, .inr (.inl (fun _ => 0)))), (q3, .inl (G.2.1 1, 60, .inr (.inl (fun _ => 0)))), (q4, .inl (G.2.1 0, 60, .inl (fun _ => 0)))]) C hnm 0 rfl rfl vi_X9 tyX9_ok nmX9 2 (by decide) wm195 rfl rfl rfl rfl (Nat.le_of_ble_eq_true rfl) rfl dX9_init_25 ?_
  exact vv_vret C ((q2, q3, q4)) rfl [0, 1, 2] rfl rfl ⟨Nat.le_of_ble_eq_true rfl, Nat.le_of_ble_eq_true rfl⟩ dX9_init_28
set_option maxHeartbeats 4000000 in
set_option maxRecDepth 100000 in
theorem k7_X1_init (l : Launch) (hf : l.stackTraces = false) (G : vv_G) (q1 : Nat) : ∀ sz, Met l yX1_init (Cond.code yX1_init cX1_init 1 none :: gT) ({ frames := 1, cells := 4, slots := 160, locals := 20 } : Room) (va_Pc [.ref q1] (vv_I G [(q1, .inr (1, [.null, .null, .null, .null, .int (zI (0))]))] sz)) (vv_Q G (fun v (u : Nat × Nat × Nat × Nat) => v = none) (fun u => [(q1, .inr (1, [.ref u.1, .ref u.2.1, .ref u.2.2.1, .ref u.2.2.2, .int (zI (0))])), (u.1, .inl (G.2.1 0, 40, .inl (fun _ => 0))), (u.2.1, .inl (G.2.1 0, 40, .inl (fun _ => 0))), (u.2.2.1, .inl (G.2.1 0, 40, .inl (fun _ => 0))), (u.2.2.2, .inl (G.2.1 0, 40, .inl (fun _ => 0)))]) (va_A [(q1, .inr (1, [.null, .null, .null, .null, .int (zI (0))]))] sz)) 4 160 (va_A [(q1, .inr (1, [.null, .null, .null, .null, .int (zI (0))]))] sz) := by
  refine vv_start hf (by decide) (Nat.le_of_ble_eq_true rfl) ?_
  intro p e s m below meth c A C hnm
  refine vv_aload_n C 0 dX1_init_0 rfl rfl ?_
  refine vv_objInit C wm213 wm48 wm49 ⟨Nat.le_of_ble_eq_true rfl, Nat.le_of_ble_eq_true rfl, Nat.le_of_ble_eq_true rfl⟩ dX1_init_1 ?_
  refine vv_aload_n C 0 dX1_init_4 rfl rfl ?_
  refine vv_bipush (v := zI (40)) C dX1_init_5 (by decide) ?_
  refine vv_newa (atype := .int) (ty := .int) C 0 rfl rfl wm108 40 rfl (by decide) (40, .inl (fun _ => 0)) (fun _ => rfl) (by decide) ⟨Nat.le_of_ble_eq_true rfl, Nat.le_of_ble_eq_true rfl⟩ dX1_init_7 (fun q2 => [(q1, .inr (1, [.null, .null, .null, .null, .int (zI (0))])), (q2, .inl (G.2.1 0, 40, .inl (fun _ => 0)))]) (fun _ => rfl) (fun q2 => ?_)
  refine vv_putF (ws1 := [(q1, .inr (1, [.ref q2, .null, .null, .null, .int (zI (0))])), (q2, .inl (G.2.1 0, 40, .inl (fun _ => 0)))]) C hnm 0 rfl rfl vi_X1 tyX1_ok nmX1 0 (by decide) wm214 rfl rfl rfl rfl (Nat.le_of_ble_eq_true rfl) rfl dX1_init_9 ?_
  refine vv_aload_n C 0 dX1_init_12 rfl rfl ?_
  refine vv_bipush (v := zI (40)) C dX1_init_13 (by decide) ?_
  refine vv_newa (atype := .int) (ty := .int) C 0 rfl rfl wm108 40 rfl (by decide) (40, .inl (fun _ => 0)) (fun _ => rfl) (by decide) ⟨Nat.le_of_ble_eq_true rfl, Nat.le_of_ble_eq_true rfl⟩ dX1_init_15 (fun q3 => [(q1, .inr (1, [.ref q2, .null, .null, .null, .int (zI (0))])), (q2, .inl (G.2.1 0, 40, .inl (fun _ => 0))), (q3, .inl (G.2.1 0, 40, .inl (fun _ => 0)))]) (fun _ => rfl) (fun q3 => ?_)
  refine vv_putF (ws1 := [(q1, .inr (1, [.ref q2, .ref q3, .null, .null, .int (zI (0))])), (q2, .inl (G.2.1 0, 40, .inl (fun _ => 0))), (q3, .inl (G.2.1 0, 40, .inl (fun _ => 0)))]) C hnm 0 rfl rfl vi_X1 tyX1_ok nmX1 1 (by decide) wm218 rfl rfl rfl rfl (Nat.le_of_ble_eq_true rfl) rfl dX1_init_17 ?_
  refine vv_aload_n C 0 dX1_init_20 rfl rfl ?_
  refine vv_bipush (v := zI (40)) C dX1_init_21 (by decide) ?_
  refine vv_newa (atype := .int) (ty := .int) C 0 rfl rfl wm108 40 rfl (by decide) (40, .inl (fun _ => 0)) (fun _ => rfl) (by decide) ⟨Nat.le_of_ble_eq_true rfl, Nat.le_of_ble_eq_true rfl⟩ dX1_init_23 (fun q4 => [(q1, .inr (1, [.ref q2, .ref q3, .null, .null, .int (zI (0))])), (q2, .inl (G.2.1 0, 40, .inl (fun _ => 0))), (q3, .inl (G.2.1 0, 40, .inl (fun _ => 0))), (q4, .inl (G.2.1 0, 40, .inl (fun _ => 0)))]) (fun _ => rfl) (fun q4 => ?_)
  refine vv_putF (ws1 := [(q1, .inr (1, [.ref q2, .ref q3, .ref q4, .null, .int (zI (0))])), (q2, .inl (G.2.1 0, 40, .inl (fun _ => 0))), (q3, .inl (G.2.1 0, 40, .inl (fun _ => 0))), (q4, .inl (G.2.1 0, 40, .inl (fun _ => 0)))]) C hnm 0 rfl rfl vi_X1 tyX1_ok nmX1 2 (by decide) wm222 rfl rfl rfl rfl (Nat.le_of_ble_eq_true rfl) rfl dX1_init_25 ?_
  refine vv_aload_n C 0 dX1_init_28 rfl rfl ?_
  refine vv_bipush (v := zI (40)) C dX1_init_29 (by decide) ?_
  refine vv_newa (atype := .int) (ty := .int) C 0 rfl rfl wm108 40 rfl (by decide) (40, .inl (fun _ => 0)) (fun _ => rfl) (by decide) ⟨Nat.le_of_ble_eq_true rfl, Nat.le_of_ble_eq_true rfl⟩ dX1_init_31 (fun q5 => [(q1, .inr (1, [.ref q2, .ref q3, .ref q4, .null, .int (zI (0))])), (q2, .inl (G.2.1 0, 40, .inl (fun _ => 0))), (q3, .inl (G.2.1 0, 40, .inl (fun _ => 0))), (q4, .inl (G.2.1 0, 40, .inl (fun _ => 0))), (q5, .inl (G.2.1 0, 40, .inl (fun _ => 0)))]) (fun _ => rfl) (fun q5 => ?_)
  refine vv_putF (ws1 := [(q1, .inr (1, [.ref q2, .ref q3, .ref q4, .ref q5, .int (zI (0))])), (q2, .inl (G.2.1 0, 40, .inl (fun _ => 0))), (q3, .inl (G.2.1 0, 40, .inl (fun _ => 0))), (q4, .inl (G.2.1 0, 40, .inl (fun _ => 0))), (q5, .inl (G.2.1 0, 40, .inl (fun _ => 0)))]) C hnm 0 rfl rfl vi_X1 tyX1_ok nmX1 3 (by decide) wm226 rfl rfl rfl rfl (Nat.le_of_ble_eq_true rfl) rfl dX1_init_33 ?_
  exact vv_vret C ((q2, q3, q4, q5)) rfl [0, 1, 2, 3, 4] rfl rfl ⟨Nat.le_of_ble_eq_true rfl, Nat.le_of_ble_eq_true rfl⟩ dX1_init_36
set_option maxHeartbeats 4000000 in
set_option maxRecDepth 100000 in
theorem k8_X7_init (l : Launch) (hf : l.stackTraces = false) (G : vv_G) (q1 : Nat) : ∀ sz, Met l yX7_init (Cond.code yX7_init cX7_init 1 none :: gT) ({ frames := 1, cells := 1, slots := 14, locals := 20 } : Room) (va_Pc [.ref q1] (vv_I G [(q1, .inr (6, [.null, .int (zI (0))]))] sz)) (vv_Q G (fun v (u : Nat) => v = none) (fun u => [(q1, .inr (6, [.ref u, .int (zI (0))]))]) (va_A [(q1, .inr (6, [.null, .int (zI (0))]))] sz)) 1 14 (va_A [(q1, .inr (6, [.null, .int (zI (0))]))] sz) := by
  refine vv_start hf (by decide) (Nat.le_of_ble_eq_true rfl) ?_
  intro p e s m below meth c A C hnm
  refine vv_aload_n C 0 dX7_init_0 rfl rfl ?_
  refine vv_objInit C wm252 wm48 wm49 ⟨Nat.le_of_ble_eq_true rfl, Nat.le_of_ble_eq_true rfl, Nat.le_of_ble_eq_true rfl⟩ dX7_init_1 ?_
  refine vv_aload_n C 0 dX7_init_4 rfl rfl ?_
  refine vv_bipush (v := zI (14)) C dX7_init_5 (by decide) ?_
  refine vv_newa (atype := .int) (ty := .int) C 0 rfl rfl wm108 14 rfl (by decide) (14, .inl (fun _ => 0)) (fun _ => rfl) (by decide) ⟨Nat.le_of_ble_eq_true rfl, Nat.le_of_ble_eq_true rfl⟩ dX7_init_7 (fun q2 => [(q1, .inr (6, [.null, .int (zI (0))])), (q2, .inl (G.2.1 0, 14, .inl (fun _ => 0)))]) (fun _ => rfl) (fun q2 => ?_)
  refine vv_putF (ws1 := [(q1, .inr (6, [.ref q2, .int (zI (0))])), (q2, .inl (G.2.1 0, 14, .inl (fun _ => 0)))]) C hnm 0 rfl rfl vi_X7 tyX7_ok nmX7 0 (by decide) wm253 rfl rfl rfl rfl (Nat.le_of_ble_eq_true rfl) rfl dX7_init_9 ?_
  exact vv_vret C (q2) rfl [0] rfl rfl ⟨Nat.le_of_ble_eq_true rfl, Nat.le_of_ble_eq_true rfl⟩ dX7_init_12
