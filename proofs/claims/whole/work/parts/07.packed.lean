set_option maxHeartbeats 4000000 in
set_option maxRecDepth 100000 in
theorem c_X3_codeOfSign (l : Launch) (a : Int) : Met l yX3_codeOfSign wsX3_codeOfSign ({ frames := 0, cells := 0, slots := 0, locals := 0 }) (va_Pc [.int (zI (a))] (fun _ => True)) (vp_Si (fun r => r = zI (a + 1))) 0 0 (fun _ => False) := by
  refine Met.ofW (cc := cX3_codeOfSign) (maxL := 1) (ret := (some .int)) (by decide) rfl ?_
  intro p e s m args below meth c s₁ B hml hv
  obtain ⟨rfl, -⟩ := hv
  have hx := B.exec
  have hb := B.bytes
  have hr := B.returns
  have hts := atoms_spec (ws := wsX3_codeOfSign) B.pre
  have hown : s.vm.findClass RX3 = some m.cls := findClass_of_methodNamed B.named
  have hlocks := B.notSynchronized
  have hl := lv_entry ([.int (zI (a))]) (n := 1) (Nat.le_of_ble_eq_true rfl)
  rw [lg_entry_eq]
  generalize (lg_sl ([.int (zI (a))]) ++ List.replicate (1 - (lg_sl ([.int (zI (a))])).length) Slot.unset).toArray = ls at hl ⊢
  have hl : lv_has ls 1 [(0, .int (zI (a)))] := hl
  refine lv_iload_n hx hb dX3_codeOfSign_0 rfl (lv_at hl 0 rfl) ?_
  refine lv_iconst (v := zI (1)) hx hb dX3_codeOfSign_1 rfl ?_
  refine lv_iadd hx hb dX3_codeOfSign_2 ?_
  refine zi_top (zI_add _ _) ?_
  exact W.iret (v := (zI ((a) + (1)))) hx hb hr (fun t ht hW => ⟨_, rfl, rfl, ht⟩) (fun q hq => by cases hq) dX3_codeOfSign_3
set_option maxHeartbeats 4000000 in
set_option maxRecDepth 100000 in
theorem c_X3_codeOfVariable (l : Launch) (a : Int) : Met l yX3_codeOfVariable wsX3_codeOfVariable ({ frames := 0, cells := 0, slots := 0, locals := 0 }) (va_Pc [.int (zI (a))] (fun _ => True)) (vp_Si (fun r => r = zI (11 + a))) 0 0 (fun _ => False) := by
  refine Met.ofW (cc := cX3_codeOfVariable) (maxL := 1) (ret := (some .int)) (by decide) rfl ?_
  intro p e s m args below meth c s₁ B hml hv
  obtain ⟨rfl, -⟩ := hv
  have hx := B.exec
  have hb := B.bytes
  have hr := B.returns
  have hts := atoms_spec (ws := wsX3_codeOfVariable) B.pre
  have hown : s.vm.findClass RX3 = some m.cls := findClass_of_methodNamed B.named
  have hlocks := B.notSynchronized
  have hl := lv_entry ([.int (zI (a))]) (n := 1) (Nat.le_of_ble_eq_true rfl)
  rw [lg_entry_eq]
  generalize (lg_sl ([.int (zI (a))]) ++ List.replicate (1 - (lg_sl ([.int (zI (a))])).length) Slot.unset).toArray = ls at hl ⊢
  have hl : lv_has ls 1 [(0, .int (zI (a)))] := hl
  refine lv_bipush (v := zI (11)) hx hb dX3_codeOfVariable_0 (by decide) ?_
  refine lv_iload_n hx hb dX3_codeOfVariable_2 rfl (lv_at hl 0 rfl) ?_
  refine lv_iadd hx hb dX3_codeOfVariable_3 ?_
  refine zi_top (zI_add _ _) ?_
  exact W.iret (v := (zI ((11) + (a)))) hx hb hr (fun t ht hW => ⟨_, rfl, rfl, ht⟩) (fun q hq => by cases hq) dX3_codeOfVariable_4
set_option maxHeartbeats 4000000 in
set_option maxRecDepth 100000 in
theorem c_X3_toldOf (l : Launch) (a : Int) : Met l yX3_toldOf wsX3_toldOf ({ frames := 0, cells := 0, slots := 0, locals := 0 }) (va_Pc [.int (zI (a))] (fun _ => True)) (vp_Si (fun r => r = zI (a - 1))) 0 0 (fun _ => False) := by
  refine Met.ofW (cc := cX3_toldOf) (maxL := 1) (ret := (some .int)) (by decide) rfl ?_
  intro p e s m args below meth c s₁ B hml hv
  obtain ⟨rfl, -⟩ := hv
  have hx := B.exec
  have hb := B.bytes
  have hr := B.returns
  have hts := atoms_spec (ws := wsX3_toldOf) B.pre
  have hown : s.vm.findClass RX3 = some m.cls := findClass_of_methodNamed B.named
  have hlocks := B.notSynchronized
  have hl := lv_entry ([.int (zI (a))]) (n := 1) (Nat.le_of_ble_eq_true rfl)
  rw [lg_entry_eq]
  generalize (lg_sl ([.int (zI (a))]) ++ List.replicate (1 - (lg_sl ([.int (zI (a))])).length) Slot.unset).toArray = ls at hl ⊢
  have hl : lv_has ls 1 [(0, .int (zI (a)))] := hl
  refine lv_iload_n hx hb dX3_toldOf_0 rfl (lv_at hl 0 rfl) ?_
  refine lv_iconst (v := zI (1)) hx hb dX3_toldOf_1 rfl ?_
  refine lv_isub hx hb dX3_toldOf_2 ?_
  refine zi_top (zI_sub _ _) ?_
  exact W.iret (v := (zI ((a) - (1)))) hx hb hr (fun t ht hW => ⟨_, rfl, rfl, ht⟩) (fun q hq => by cases hq) dX3_toldOf_3
set_option maxHeartbeats 4000000 in
set_option maxRecDepth 100000 in
theorem c_X3_variableOf (l : Launch) (a : Int) : Met l yX3_variableOf wsX3_variableOf ({ frames := 0, cells := 0, slots := 0, locals := 0 }) (va_Pc [.int (zI (a))] (fun _ => True)) (vp_Si (fun r => r = zI (a - 11))) 0 0 (fun _ => False) := by
  refine Met.ofW (cc := cX3_variableOf) (maxL := 1) (ret := (some .int)) (by decide) rfl ?_
  intro p e s m args below meth c s₁ B hml hv
  obtain ⟨rfl, -⟩ := hv
  have hx := B.exec
  have hb := B.bytes
  have hr := B.returns
  have hts := atoms_spec (ws := wsX3_variableOf) B.pre
  have hown : s.vm.findClass RX3 = some m.cls := findClass_of_methodNamed B.named
  have hlocks := B.notSynchronized
  have hl := lv_entry ([.int (zI (a))]) (n := 1) (Nat.le_of_ble_eq_true rfl)
  rw [lg_entry_eq]
  generalize (lg_sl ([.int (zI (a))]) ++ List.replicate (1 - (lg_sl ([.int (zI (a))])).length) Slot.unset).toArray = ls at hl ⊢
  have hl : lv_has ls 1 [(0, .int (zI (a)))] := hl
  refine lv_iload_n hx hb dX3_variableOf_0 rfl (lv_at hl 0 rfl) ?_
  refine lv_bipush (v := zI (11)) hx hb dX3_variableOf_1 (by decide) ?_
  refine lv_isub hx hb dX3_variableOf_3 ?_
  refine zi_top (zI_sub _ _) ?_
  exact W.iret (v := (zI ((a) - (11)))) hx hb hr (fun t ht hW => ⟨_, rfl, rfl, ht⟩) (fun q hq => by cases hq) dX3_variableOf_4
set_option maxHeartbeats 4000000 in
set_option maxRecDepth 100000 in
theorem c_X3_isVariable (l : Launch) (a : Int) (ha : -2147483648 ≤ a ∧ a < 2147483648) : Met l yX3_isVariable wsX3_isVariable ({ frames := 0, cells := 0, slots := 0, locals := 0 }) (va_Pc [.int (zI (a))] (fun _ => True)) (vp_Si (fun r => r = zI (zb (decide (11 ≤ a ∧ a < 15))))) 0 0 (fun _ => False) := by
  refine Met.ofW (cc := cX3_isVariable) (maxL := 1) (ret := (some .boolean)) (by decide) rfl ?_
  intro p e s m args below meth c s₁ B hml hv
  obtain ⟨rfl, -⟩ := hv
  have hx := B.exec
  have hb := B.bytes
  have hr := B.returns
  have hts := atoms_spec (ws := wsX3_isVariable) B.pre
  have hown : s.vm.findClass RX3 = some m.cls := findClass_of_methodNamed B.named
  have hlocks := B.notSynchronized
  have hl := lv_entry ([.int (zI (a))]) (n := 1) (Nat.le_of_ble_eq_true rfl)
  rw [lg_entry_eq]
  generalize (lg_sl ([.int (zI (a))]) ++ List.replicate (1 - (lg_sl ([.int (zI (a))])).length) Slot.unset).toArray = ls at hl ⊢
  have hl : lv_has ls 1 [(0, .int (zI (a)))] := hl
  refine lv_iload_n hx hb dX3_isVariable_0 rfl (lv_at hl 0 rfl) ?_
  refine lv_bipush (v := zI (11)) hx hb dX3_isVariable_1 (by decide) ?_
  refine zic_lt (tgt := 16) hx hb dX3_isVariable_3 (by decide) (by omega) (by omega) (fun c_3 => ?_) (fun c_3 => ?_)
  · skip
    have hz : zb (decide (11 ≤ a ∧ a < 15)) = 0 := zb_f (by rw [decide_eq_true_iff]; omega)
    refine lv_iconst (v := zI (0)) hx hb dX3_isVariable_16 rfl ?_
    exact W.zret (v := (zI (0))) (ty := .boolean) hx hb hr (by decide) (fun t ht hW => ⟨_, rfl, by rw [hz], ht⟩) (fun q hq => by cases hq) dX3_isVariable_17
  · skip
    refine lv_iload_n hx hb dX3_isVariable_6 rfl (lv_at hl 0 rfl) ?_
    refine lv_bipush (v := zI (15)) hx hb dX3_isVariable_7 (by decide) ?_
    refine zic_ge (tgt := 16) hx hb dX3_isVariable_9 (by decide) (by omega) (by omega) (fun c_9 => ?_) (fun c_9 => ?_)
    · skip
      have hz : zb (decide (11 ≤ a ∧ a < 15)) = 0 := zb_f (by rw [decide_eq_true_iff]; omega)
      refine lv_iconst (v := zI (0)) hx hb dX3_isVariable_16 rfl ?_
      exact W.zret (v := (zI (0))) (ty := .boolean) hx hb hr (by decide) (fun t ht hW => ⟨_, rfl, by rw [hz], ht⟩) (fun q hq => by cases hq) dX3_isVariable_17
    · skip
      have hz : zb (decide (11 ≤ a ∧ a < 15)) = 1 := zb_t (decide_eq_true (by omega))
      refine lv_iconst (v := zI (1)) hx hb dX3_isVariable_12 rfl ?_
      refine lv_goto (tgt := 17) hx hb dX3_isVariable_13 (by decide) ?_
      exact W.zret (v := (zI (1))) (ty := .boolean) hx hb hr (by decide) (fun t ht hW => ⟨_, rfl, by rw [hz], ht⟩) (fun q hq => by cases hq) dX3_isVariable_17
set_option maxHeartbeats 4000000 in
set_option maxRecDepth 100000 in
theorem c_X3_partsOf (l : Launch) (n : Nat) (hn : n < 16) : Met l yX3_partsOf wsX3_partsOf ({ frames := 0, cells := 0, slots := 0, locals := 0 }) (va_Pc [.int (zI ((n : Int)))] (fun _ => True)) (vp_Si (fun r => r = zI ((tw_parts n : Nat) : Int))) 0 0 (fun _ => False) := by
  refine Met.ofW (cc := cX3_partsOf) (maxL := 1) (ret := (some .int)) (by decide) rfl ?_
  intro p e s m args below meth c s₁ B hml hv
  obtain ⟨rfl, -⟩ := hv
  have hx := B.exec
  have hb := B.bytes
  have hr := B.returns
  have hts := atoms_spec (ws := wsX3_partsOf) B.pre
  have hown : s.vm.findClass RX3 = some m.cls := findClass_of_methodNamed B.named
  have hlocks := B.notSynchronized
  have hl := lv_entry ([.int (zI ((n : Int)))]) (n := 1) (Nat.le_of_ble_eq_true rfl)
  rw [lg_entry_eq]
  generalize (lg_sl ([.int (zI ((n : Int)))]) ++ List.replicate (1 - (lg_sl ([.int (zI ((n : Int)))])).length) Slot.unset).toArray = ls at hl ⊢
  have hl : lv_has ls 1 [(0, .int (zI ((n : Int))))] := hl
  refine lv_iload_n hx hb dX3_partsOf_0 rfl (lv_at hl 0 rfl) ?_
  rcases (show (((n : Int)) < 3 ∨ 6 < ((n : Int))) ∨ ((n : Int)) = 3 ∨ ((n : Int)) = 4 ∨ ((n : Int)) = 5 ∨ ((n : Int)) = 6 by omega) with c_1 | c_1 | c_1 | c_1 | c_1
  · skip
    refine lv_tableOut (tgt := 36) hx hb dX3_partsOf_1 (by rw [zI_T (by omega)]; omega) (by decide) ?_
    have hz : tw_parts n = 0 := by unfold tw_parts; rw [if_neg (by omega), if_neg (by omega)]
    refine lv_iconst (v := zI (0)) hx hb dX3_partsOf_36 rfl ?_
    exact W.iret (v := (zI (0))) hx hb hr (fun t ht hW => ⟨_, rfl, by rw [hz]; rfl, ht⟩) (fun q hq => by cases hq) dX3_partsOf_37
  · skip
    refine lv_tableIn (off := 31) (tgt := 32) hx hb dX3_partsOf_1 (by rw [zI_T (by omega)]; omega) (by rw [zI_T (by omega)]; omega) (by rw [zI_T (by omega), c_1]; rfl) (by decide) ?_
    have hz : tw_parts n = 1 := by unfold tw_parts; rw [if_pos (by omega)]
    refine lv_iconst (v := zI (1)) hx hb dX3_partsOf_32 rfl ?_
    exact W.iret (v := (zI (1))) hx hb hr (fun t ht hW => ⟨_, rfl, by rw [hz]; rfl, ht⟩) (fun q hq => by cases hq) dX3_partsOf_33
  · skip
    refine lv_tableIn (off := 31) (tgt := 32) hx hb dX3_partsOf_1 (by rw [zI_T (by omega)]; omega) (by rw [zI_T (by omega)]; omega) (by rw [zI_T (by omega), c_1]; rfl) (by decide) ?_
    have hz : tw_parts n = 1 := by unfold tw_parts; rw [if_pos (by omega)]
    refine lv_iconst (v := zI (1)) hx hb dX3_partsOf_32 rfl ?_
    exact W.iret (v := (zI (1))) hx hb hr (fun t ht hW => ⟨_, rfl, by rw [hz]; rfl, ht⟩) (fun q hq => by cases hq) dX3_partsOf_33
  · skip
    refine lv_tableIn (off := 33) (tgt := 34) hx hb dX3_partsOf_1 (by rw [zI_T (by omega)]; omega) (by rw [zI_T (by omega)]; omega) (by rw [zI_T (by omega), c_1]; rfl) (by decide) ?_
    have hz : tw_parts n = 2 := by unfold tw_parts; rw [if_neg (by omega), if_pos (by omega)]
    refine lv_iconst (v := zI (2)) hx hb dX3_partsOf_34 rfl ?_
    exact W.iret (v := (zI (2))) hx hb hr (fun t ht hW => ⟨_, rfl, by rw [hz]; rfl, ht⟩) (fun q hq => by cases hq) dX3_partsOf_35
  · skip
    refine lv_tableIn (off := 33) (tgt := 34) hx hb dX3_partsOf_1 (by rw [zI_T (by omega)]; omega) (by rw [zI_T (by omega)]; omega) (by rw [zI_T (by omega), c_1]; rfl) (by decide) ?_
    have hz : tw_parts n = 2 := by unfold tw_parts; rw [if_neg (by omega), if_pos (by omega)]
    refine lv_iconst (v := zI (2)) hx hb dX3_partsOf_34 rfl ?_
    exact W.iret (v := (zI (2))) hx hb hr (fun t ht hW => ⟨_, rfl, by rw [hz]; rfl, ht⟩) (fun q hq => by cases hq) dX3_partsOf_35
set_option maxHeartbeats 4000000 in
set_option maxRecDepth 100000 in
theorem c_X3_codeAt (l : Launch) (w : List Nat) (hw : tw_ok w) (k : Nat) (hk : k < 16) : Met l yX3_codeAt wsX3_codeAt ({ frames := 0, cells := 0, slots := 0, locals := 0 }) (va_Pc [.long (tw_L w), .int (zI ((k : Int)))] (fun _ => True)) (vp_Si (fun r => r = zI ((w.getD k 0 : Nat) : Int))) 0 0 (fun _ => False) := by
  refine Met.ofW (cc := cX3_codeAt) (maxL := 3) (ret := (some .int)) (by decide) rfl ?_
  intro p e s m args below meth c s₁ B hml hv
  obtain ⟨rfl, -⟩ := hv
  have hx := B.exec
  have hb := B.bytes
  have hr := B.returns
  have hts := atoms_spec (ws := wsX3_codeAt) B.pre
  have hown : s.vm.findClass RX3 = some m.cls := findClass_of_methodNamed B.named
  have hlocks := B.notSynchronized
  have hl := lv_entry ([.long (tw_L w), .int (zI ((k : Int)))]) (n := 3) (Nat.le_of_ble_eq_true rfl)
  rw [lg_entry_eq]
  generalize (lg_sl ([.long (tw_L w), .int (zI ((k : Int)))]) ++ List.replicate (3 - (lg_sl ([.long (tw_L w), .int (zI ((k : Int)))])).length) Slot.unset).toArray = ls at hl ⊢
  have hl : lv_has ls 3 [(0, .long (tw_L w)), (2, .int (zI ((k : Int))))] := hl
  refine lv_lload_n hx hb dX3_codeAt_0 rfl (lv_at hl 0 rfl) ?_
  refine lv_iconst (v := zI (4)) hx hb dX3_codeAt_1 rfl ?_
  refine lv_iload_n hx hb dX3_codeAt_2 rfl (lv_at hl 1 rfl) ?_
  refine lv_imul hx hb dX3_codeAt_3 ?_
  refine zi_top (zI_mul _ _) ?_
  refine lv_lushr hx hb dX3_codeAt_4 rfl ?_
  refine zl_top (y := (tw_L (w.drop k))) (tw_ushr hw hk) ?_
  refine lv_l2i hx hb dX3_codeAt_5 rfl ?_
  refine lv_bipush (v := zI (15)) hx hb dX3_codeAt_6 (by decide) ?_
  refine lv_iand hx hb dX3_codeAt_8 ?_
  exact W.iret (v := ((((tw_L (w.drop k))).toInt32) &&& (zI (15)))) hx hb hr (fun t ht hW => ⟨_, rfl, tw_low hw k, ht⟩) (fun q hq => by cases hq) dX3_codeAt_9
set_option maxHeartbeats 4000000 in
set_option maxRecDepth 100000 in
theorem c_X3_sizeOf (l : Launch) (w : List Nat) (hw : tw_ok w) : Met l yX3_sizeOf wsX3_sizeOf ({ frames := 0, cells := 0, slots := 0, locals := 0 }) (va_Pc [.long (tw_L w)] (fun _ => True)) (vp_Si (fun r => r = zI ((w.length : Nat) : Int))) 0 0 (fun _ => False) := by
  refine Met.ofW (cc := cX3_sizeOf) (maxL := 3) (ret := (some .int)) (by decide) rfl ?_
  intro p e s m args below meth c s₁ B hml hv
  obtain ⟨rfl, -⟩ := hv
  have hx := B.exec
  have hb := B.bytes
  have hr := B.returns
  have hts := atoms_spec (ws := wsX3_sizeOf) B.pre
  have hown : s.vm.findClass RX3 = some m.cls := findClass_of_methodNamed B.named
  have hlocks := B.notSynchronized
  have hl := lv_entry ([.long (tw_L w)]) (n := 3) (Nat.le_of_ble_eq_true rfl)
  rw [lg_entry_eq]
  generalize (lg_sl ([.long (tw_L w)]) ++ List.replicate (3 - (lg_sl ([.long (tw_L w)])).length) Slot.unset).toArray = ls at hl ⊢
  have hl : lv_has ls 3 [(0, .long (tw_L w))] := hl
  have hw1 := hw.1
  refine lv_iconst (v := zI (0)) hx hb dX3_sizeOf_0 rfl ?_
  refine lv_istore_n (lv' := [(2, .int (zI (0))), (0, .long (tw_L w))]) hx hb dX3_sizeOf_1 rfl hl (by decide) rfl (fun ls hl => ?_)
  have lp2 : ∀ (fu : Nat) (k : Nat) (x2 : Int32) (ls : Array Slot), (12 - k < fu) → (k ≤ w.length) → (x2 = zI ((k : Int))) → lv_has ls 3 [(0, .long (tw_L w)), (2, .int (x2))] → W p l e (headSpec wsX3_sizeOf ({ frames := 0, cells := 0, slots := 0, locals := 0 })).room s m ([.long (tw_L w)] : List Value).toArray below meth c s.heap [] 0 0 (MQ below (vp_Si (fun r => r = zI ((w.length : Nat) : Int))) ([.long (tw_L w)] : List Value).toArray s 0 0 (fun _ => False)) (F0 m 2 ls []) := by
    intro fu
    induction fu with
    | zero => intro k x2 ls hn; exact absurd hn (Nat.not_lt_zero _)
    | succ fu ih2 =>
      intro k x2 ls hn2 hk e2  hl
      subst e2
      refine lv_iload_n hx hb dX3_sizeOf_2 rfl (lv_at hl 1 rfl) ?_
      refine lv_bipush (v := zI (12)) hx hb dX3_sizeOf_3 (by decide) ?_
      refine zic_ge (tgt := 24) hx hb dX3_sizeOf_5 (by decide) (by omega) (by omega) (fun c_5 => ?_) (fun c_5 => ?_)
      · skip
        refine lv_iload_n hx hb dX3_sizeOf_24 rfl (lv_at hl 1 rfl) ?_
        exact W.iret (v := (zI ((k : Int)))) hx hb hr (fun t ht hW => ⟨_, rfl, zI_c (by omega), ht⟩) (fun q hq => by cases hq) dX3_sizeOf_25
      · skip
        refine lv_lload_n hx hb dX3_sizeOf_8 rfl (lv_at hl 0 rfl) ?_
        refine lv_iconst (v := zI (4)) hx hb dX3_sizeOf_9 rfl ?_
        refine lv_iload_n hx hb dX3_sizeOf_10 rfl (lv_at hl 1 rfl) ?_
        refine lv_imul hx hb dX3_sizeOf_11 ?_
        refine zi_top (zI_mul _ _) ?_
        refine lv_lushr hx hb dX3_sizeOf_12 rfl ?_
        refine zl_top (y := (tw_L (w.drop k))) (tw_ushr hw (by omega)) ?_
        refine lv_lconst (v := 0) hx hb dX3_sizeOf_13 rfl ?_
        refine W.lcmp hx hb dX3_sizeOf_14 ?_
        refine lv_if_eq (tgt := 24) hx hb dX3_sizeOf_15 (by decide) (fun c_15 => ?_) (fun c_15 => ?_)
        · skip
          rw [lg_cmp_eq, tw_L0 (hw.drop k), List.drop_eq_nil_iff] at c_15
          refine lv_iload_n hx hb dX3_sizeOf_24 rfl (lv_at hl 1 rfl) ?_
          exact W.iret (v := (zI ((k : Int)))) hx hb hr (fun t ht hW => ⟨_, rfl, zI_c (by omega), ht⟩) (fun q hq => by cases hq) dX3_sizeOf_25
        · skip
          rw [lg_cmp_eq, tw_L0 (hw.drop k), List.drop_eq_nil_iff] at c_15
          refine lv_iinc (v := zI ((k : Int) + 1)) (lv' := [(2, .int (zI ((k : Int) + 1))), (0, .long (tw_L w))]) hx hb dX3_sizeOf_18 hl (k := 1) rfl (zI_add ((k : Int)) 1) (by decide) rfl (fun ls hl => ?_)
          refine lv_goto (tgt := 2) hx hb dX3_sizeOf_21 (by decide) ?_
          exact ih2 (k + 1) _ ls (by omega) (by omega) (zI_c (by omega))  (lv_sub hl [1, 0] rfl)
  exact lp2 _ (0) _ ls (Nat.lt_succ_self _) (by omega) (zI_c (by omega))  (lv_sub hl [1, 0] rfl)
set_option maxHeartbeats 4000000 in
set_option maxRecDepth 100000 in
theorem c_X3_endOf (l : Launch) (w : List Nat) (hw : tw_ok w) (q : Nat) (hq : q ≤ 12) : Met l yX3_endOf wsX3_endOf ({ frames := 1, cells := 0, slots := 0, locals := 22 }) (va_Pc [.long (tw_L w), .int (zI ((q : Int)))] (fun _ => True)) (vp_Si (fun r => r = zI ((tw_end w q : Nat) : Int))) 0 0 (fun _ => False) := by
  refine Met.ofW (cc := cX3_endOf) (maxL := 5) (ret := (some .int)) (by decide) rfl ?_
  intro p e s m args below meth c s₁ B hml hv
  obtain ⟨rfl, -⟩ := hv
  have hx := B.exec
  have hb := B.bytes
  have hr := B.returns
  have hts := atoms_spec (ws := wsX3_endOf) B.pre
  have hown : s.vm.findClass RX3 = some m.cls := findClass_of_methodNamed B.named
  have hlocks := B.notSynchronized
  have hl := lv_entry ([.long (tw_L w), .int (zI ((q : Int)))]) (n := 5) (Nat.le_of_ble_eq_true rfl)
  rw [lg_entry_eq]
  generalize (lg_sl ([.long (tw_L w), .int (zI ((q : Int)))]) ++ List.replicate (5 - (lg_sl ([.long (tw_L w), .int (zI ((q : Int)))])).length) Slot.unset).toArray = ls at hl ⊢
  have hl : lv_has ls 5 [(0, .long (tw_L w)), (2, .int (zI ((q : Int))))] := hl
  refine lv_iload_n hx hb dX3_endOf_0 rfl (lv_at hl 1 rfl) ?_
  refine lv_istore_n (lv' := [(3, .int (zI ((q : Int)))), (0, .long (tw_L w)), (2, .int (zI ((q : Int))))]) hx hb dX3_endOf_1 rfl hl (by decide) rfl (fun ls hl => ?_)
  refine lv_iconst (v := zI (1)) hx hb dX3_endOf_2 rfl ?_
  refine lv_istore (lv' := [(4, .int (zI (1))), (3, .int (zI ((q : Int)))), (0, .long (tw_L w)), (2, .int (zI ((q : Int))))]) hx hb dX3_endOf_3 hl (by decide) rfl (fun ls hl => ?_)
  have lp5 : ∀ (fu : Nat) (k : Nat) (j : Nat) (x3 : Int32) (x4 : Int32) (ls : Array Slot), (12 - k < fu) → (k ≤ 12) → (j ≤ k + 1) → (tw_go w (12 - k) k j = tw_end w q) → (x3 = zI ((k : Int))) → (x4 = zI ((j : Int))) → lv_has ls 5 [(0, .long (tw_L w)), (3, .int (x3)), (4, .int (x4))] → W p l e (headSpec wsX3_endOf ({ frames := 1, cells := 0, slots := 0, locals := 22 })).room s m ([.long (tw_L w), .int (zI ((q : Int)))] : List Value).toArray below meth c s.heap [] 0 0 (MQ below (vp_Si (fun r => r = zI ((tw_end w q : Nat) : Int))) ([.long (tw_L w), .int (zI ((q : Int)))] : List Value).toArray s 0 0 (fun _ => False)) (F0 m 5 ls []) := by
    intro fu
    induction fu with
    | zero => intro k j x3 x4 ls hn; exact absurd hn (Nat.not_lt_zero _)
    | succ fu ih5 =>
      intro k j x3 x4 ls hn5 hk hj hg e3 e4  hl
      subst e3
      subst e4
      refine lv_iload_n hx hb dX3_endOf_5 rfl (lv_at hl 1 rfl) ?_
      refine lv_bipush (v := zI (12)) hx hb dX3_endOf_6 (by decide) ?_
      refine zic_ge (tgt := 37) hx hb dX3_endOf_8 (by decide) (by omega) (by omega) (fun c_8 => ?_) (fun c_8 => ?_)
      · skip
        have hz : tw_end w q = k := by rw [← hg, show 12 - k = 0 by omega]; rfl
        refine lv_iload_n hx hb dX3_endOf_37 rfl (lv_at hl 1 rfl) ?_
        exact W.iret (v := (zI ((k : Int)))) hx hb hr (fun t ht hW => ⟨_, rfl, by rw [hz], ht⟩) (fun q hq => by cases hq) dX3_endOf_38
      · skip
        refine lv_iload hx hb dX3_endOf_11 (lv_at hl 2 rfl) ?_
        refine zif_le (tgt := 37) hx hb dX3_endOf_13 (by decide) (by omega) (fun c_13 => ?_) (fun c_13 => ?_)
        · skip
          have hz : tw_end w q = k := by rw [← hg, show j = 0 by omega, tw_go_0]
          refine lv_iload_n hx hb dX3_endOf_37 rfl (lv_at hl 1 rfl) ?_
          exact W.iret (v := (zI ((k : Int)))) hx hb hr (fun t ht hW => ⟨_, rfl, by rw [hz], ht⟩) (fun q hq => by cases hq) dX3_endOf_38
        · skip
          refine lv_iload hx hb dX3_endOf_16 (lv_at hl 2 rfl) ?_
          refine lv_lload_n hx hb dX3_endOf_18 rfl (lv_at hl 0 rfl) ?_
          refine lv_iload_n hx hb dX3_endOf_19 rfl (lv_at hl 1 rfl) ?_
          refine vp_callSi (W.runS (As := [.long (tw_L w), .int (zI ((k : Int)))]) (rest := [.int (zI ((j : Int)))]) ⟨hx, hb, hml, hown, hts⟩ (c_X3_codeAt l w hw k (by omega)) (va_cwS 2 hts gX3_endOf_X3_codeAt rfl rfl rfl (by decide +kernel) ⟨Nat.le_of_ble_eq_true rfl, Nat.le_of_ble_eq_true rfl⟩) ⟨fun _ _ _ _ h => h, fun U hU hW => ⟨rfl, trivial⟩⟩ rfl rfl hl.1 rfl (lv_room (Nat.le_of_ble_eq_true rfl)) dX3_endOf_20 ⟨Nat.zero_le _, Nat.zero_le _⟩) (fun r hr1 => ?_)
          subst hr1
          refine vp_callSi (W.runS (As := [.int (zI (((w.getD k 0 : Nat) : Int)))]) (rest := [.int (zI ((j : Int)))]) ⟨hx, hb, hml, hown, hts⟩ (c_X3_partsOf l (w.getD k 0) (tw_getD_le hw k)) (va_cwS 1 hts gX3_endOf_X3_partsOf rfl rfl rfl (by decide +kernel) ⟨Nat.le_of_ble_eq_true rfl, Nat.le_of_ble_eq_true rfl⟩) ⟨fun _ _ _ _ h => h, fun U hU hW => ⟨rfl, trivial⟩⟩ rfl rfl hl.1 rfl (lv_room (Nat.le_of_ble_eq_true rfl)) dX3_endOf_23 ⟨Nat.zero_le _, Nat.zero_le _⟩) (fun r hr2 => ?_)
          subst hr2
          refine lv_iconst (v := zI (1)) hx hb dX3_endOf_26 rfl ?_
          refine lv_isub hx hb dX3_endOf_27 ?_
          refine zi_top (zI_sub _ _) ?_
          refine lv_iadd hx hb dX3_endOf_28 ?_
          refine zi_top (zI_add _ _) ?_
          refine lv_istore (lv' := [(4, .int (zI (((j : Int)) + ((((tw_parts (w.getD k 0) : Nat) : Int)) - (1))))), (0, .long (tw_L w)), (3, .int (zI ((k : Int))))]) hx hb dX3_endOf_29 hl (by decide) rfl (fun ls hl => ?_)
          refine lv_iinc (v := zI ((k : Int) + 1)) (lv' := [(3, .int (zI ((k : Int) + 1))), (4, .int (zI (((j : Int)) + ((((tw_parts (w.getD k 0) : Nat) : Int)) - (1))))), (0, .long (tw_L w))]) hx hb dX3_endOf_31 hl (k := 2) rfl (zI_add ((k : Int)) 1) (by decide) rfl (fun ls hl => ?_)
          refine lv_goto (tgt := 5) hx hb dX3_endOf_34 (by decide) ?_
          have hp2 := tw_parts_le (w.getD k 0)
          exact ih5 (k + 1) (j + tw_parts (w.getD k 0) - 1) _ _ ls (by omega) (by omega) (by omega) (by rw [← hg]; exact (tw_go_s w (by omega) (by omega)).symm) (zI_c (by omega)) (zI_c (by omega))  (lv_sub hl [2, 0, 1] rfl)
  exact lp5 _ (q) (1) _ _ ls (Nat.lt_succ_self _) (by omega) (by omega) (rfl) (zI_c (by omega)) (zI_c (by omega))  (lv_sub hl [2, 1, 0] rfl)
set_option maxHeartbeats 4000000 in
set_option maxRecDepth 100000 in
theorem c_X3_part (l : Launch) (w : List Nat) (hw : tw_ok w) (a b : Nat) (ha : a < 16) (hab : a ≤ b) (hb2 : b < a + 16) : Met l yX3_part wsX3_part ({ frames := 0, cells := 0, slots := 0, locals := 0 }) (va_Pc [.long (tw_L w), .int (zI ((a : Int))), .int (zI ((b : Int)))] (fun _ => True)) (vp_Sl (fun r => r = tw_L ((w.drop a).take (b - a)))) 0 0 (fun _ => False) := by
  refine Met.ofW (cc := cX3_part) (maxL := 4) (ret := (some .long)) (by decide) rfl ?_
  intro p e s m args below meth c s₁ B hml hv
  obtain ⟨rfl, -⟩ := hv
  have hx := B.exec
  have hb := B.bytes
  have hr := B.returns
  have hts := atoms_spec (ws := wsX3_part) B.pre
  have hown : s.vm.findClass RX3 = some m.cls := findClass_of_methodNamed B.named
  have hlocks := B.notSynchronized
  have hl := lv_entry ([.long (tw_L w), .int (zI ((a : Int))), .int (zI ((b : Int)))]) (n := 4) (Nat.le_of_ble_eq_true rfl)
  rw [lg_entry_eq]
  generalize (lg_sl ([.long (tw_L w), .int (zI ((a : Int))), .int (zI ((b : Int)))]) ++ List.replicate (4 - (lg_sl ([.long (tw_L w), .int (zI ((a : Int))), .int (zI ((b : Int)))])).length) Slot.unset).toArray = ls at hl ⊢
  have hl : lv_has ls 4 [(0, .long (tw_L w)), (2, .int (zI ((a : Int)))), (3, .int (zI ((b : Int))))] := hl
  refine lv_lload_n hx hb dX3_part_0 rfl (lv_at hl 0 rfl) ?_
  refine lv_iconst (v := zI (4)) hx hb dX3_part_1 rfl ?_
  refine lv_iload_n hx hb dX3_part_2 rfl (lv_at hl 1 rfl) ?_
  refine lv_imul hx hb dX3_part_3 ?_
  refine zi_top (zI_mul _ _) ?_
  refine lv_lushr hx hb dX3_part_4 rfl ?_
  refine zl_top (y := (tw_L (w.drop a))) (tw_ushr hw ha) ?_
  refine lv_lconst (v := 1) hx hb dX3_part_5 rfl ?_
  refine lv_iconst (v := zI (4)) hx hb dX3_part_6 rfl ?_
  refine lv_iload_n hx hb dX3_part_7 rfl (lv_at hl 2 rfl) ?_
  refine lv_iload_n hx hb dX3_part_8 rfl (lv_at hl 1 rfl) ?_
  refine lv_isub hx hb dX3_part_9 ?_
  refine zi_top (zI_sub _ _) ?_
  refine lv_imul hx hb dX3_part_10 ?_
  refine zi_top (zI_mul _ _) ?_
  refine zi_top (y := (zI (4 * ((b - a : Nat) : Int)))) (zI_c (by omega)) ?_
  refine lv_lshl hx hb dX3_part_11 rfl ?_
  refine lv_lconst (v := 1) hx hb dX3_part_12 rfl ?_
  refine lv_lsub hx hb dX3_part_13 ?_
  refine lv_land hx hb dX3_part_14 ?_
  exact W.lret (v := ((tw_L (w.drop a)) &&& (((1) <<< ((zI (4 * ((b - a : Nat) : Int))).toInt64 &&& 63)) - (1)))) hx hb hr (fun t ht hW => ⟨_, rfl, tw_mask (hw.drop a) (by omega), ht⟩) (fun q hq => by cases hq) dX3_part_15
set_option maxHeartbeats 4000000 in
set_option maxRecDepth 100000 in
theorem c_X3_joined (l : Launch) (u v : List Nat) (hu : tw_ok u) (hv2 : tw_ok v) (huv : u.length + v.length ≤ 12) : Met l yX3_joined wsX3_joined ({ frames := 1, cells := 0, slots := 0, locals := 22 }) (va_Pc [.long (tw_L u), .long (tw_L v)] (fun _ => True)) (vp_Sl (fun r => r = tw_L (u ++ v))) 0 0 (fun _ => False) := by
  refine Met.ofW (cc := cX3_joined) (maxL := 4) (ret := (some .long)) (by decide) rfl ?_
  intro p e s m args below meth c s₁ B hml hv
  obtain ⟨rfl, -⟩ := hv
  have hx := B.exec
  have hb := B.bytes
  have hr := B.returns
  have hts := atoms_spec (ws := wsX3_joined) B.pre
  have hown : s.vm.findClass RX3 = some m.cls := findClass_of_methodNamed B.named
  have hlocks := B.notSynchronized
  have hl := lv_entry ([.long (tw_L u), .long (tw_L v)]) (n := 4) (Nat.le_of_ble_eq_true rfl)
  rw [lg_entry_eq]
  generalize (lg_sl ([.long (tw_L u), .long (tw_L v)]) ++ List.replicate (4 - (lg_sl ([.long (tw_L u), .long (tw_L v)])).length) Slot.unset).toArray = ls at hl ⊢
  have hl : lv_has ls 4 [(0, .long (tw_L u)), (2, .long (tw_L v))] := hl
  refine lv_lload_n hx hb dX3_joined_0 rfl (lv_at hl 0 rfl) ?_
  refine lv_lload_n hx hb dX3_joined_1 rfl (lv_at hl 1 rfl) ?_
  refine lv_iconst (v := zI (4)) hx hb dX3_joined_2 rfl ?_
  refine lv_lload_n hx hb dX3_joined_3 rfl (lv_at hl 0 rfl) ?_
  refine vp_callSi (W.runS (As := [.long (tw_L u)]) (rest := [.int (zI (4)), .long (tw_L v), .long (tw_L u)]) ⟨hx, hb, hml, hown, hts⟩ (c_X3_sizeOf l u hu) (va_cwS 1 hts gX3_joined_X3_sizeOf rfl rfl rfl (by decide +kernel) ⟨Nat.le_of_ble_eq_true rfl, Nat.le_of_ble_eq_true rfl⟩) ⟨fun _ _ _ _ h => h, fun U hU hW => ⟨rfl, trivial⟩⟩ rfl rfl hl.1 rfl (lv_room (Nat.le_of_ble_eq_true rfl)) dX3_joined_4 ⟨Nat.zero_le _, Nat.zero_le _⟩) (fun r hr1 => ?_)
  subst hr1
  refine lv_imul hx hb dX3_joined_7 ?_
  refine zi_top (zI_mul _ _) ?_
  refine lv_lshl hx hb dX3_joined_8 rfl ?_
  refine lv_lor hx hb dX3_joined_9 ?_
  exact W.lret (v := ((tw_L u) ||| ((tw_L v) <<< ((zI ((4) * (((u.length : Nat) : Int)))).toInt64 &&& 63)))) hx hb hr (fun t ht hW => ⟨_, rfl, tw_join hu hv2 huv, ht⟩) (fun q hq => by cases hq) dX3_joined_10
set_option maxHeartbeats 4000000 in
set_option maxRecDepth 100000 in
theorem c_X3_timesIn (l : Launch) (w : List Nat) (hw : tw_ok w) (n : Nat) (hn : 1 ≤ n ∧ n < 16) : Met l yX3_timesIn wsX3_timesIn ({ frames := 1, cells := 0, slots := 0, locals := 22 }) (va_Pc [.long (tw_L w), .int (zI ((n : Int)))] (fun _ => True)) (vp_Si (fun r => r = zI ((w.count n : Nat) : Int))) 0 0 (fun _ => False) := by
  refine Met.ofW (cc := cX3_timesIn) (maxL := 5) (ret := (some .int)) (by decide) rfl ?_
  intro p e s m args below meth c s₁ B hml hv
  obtain ⟨rfl, -⟩ := hv
  have hx := B.exec
  have hb := B.bytes
  have hr := B.returns
  have hts := atoms_spec (ws := wsX3_timesIn) B.pre
  have hown : s.vm.findClass RX3 = some m.cls := findClass_of_methodNamed B.named
  have hlocks := B.notSynchronized
  have hl := lv_entry ([.long (tw_L w), .int (zI ((n : Int)))]) (n := 5) (Nat.le_of_ble_eq_true rfl)
  rw [lg_entry_eq]
  generalize (lg_sl ([.long (tw_L w), .int (zI ((n : Int)))]) ++ List.replicate (5 - (lg_sl ([.long (tw_L w), .int (zI ((n : Int)))])).length) Slot.unset).toArray = ls at hl ⊢
  have hl : lv_has ls 5 [(0, .long (tw_L w)), (2, .int (zI ((n : Int))))] := hl
  have hw1 := hw.1
  refine lv_iconst (v := zI (0)) hx hb dX3_timesIn_0 rfl ?_
  refine lv_istore_n (lv' := [(3, .int (zI (0))), (0, .long (tw_L w)), (2, .int (zI ((n : Int))))]) hx hb dX3_timesIn_1 rfl hl (by decide) rfl (fun ls hl => ?_)
  refine lv_iconst (v := zI (0)) hx hb dX3_timesIn_2 rfl ?_
  refine lv_istore (lv' := [(4, .int (zI (0))), (3, .int (zI (0))), (0, .long (tw_L w)), (2, .int (zI ((n : Int))))]) hx hb dX3_timesIn_3 hl (by decide) rfl (fun ls hl => ?_)
  have lp5 : ∀ (fu : Nat) (k : Nat) (j : Nat) (x3 : Int32) (x4 : Int32) (ls : Array Slot), (12 - k < fu) → (k ≤ 12) → (j = (w.take k).count n) → (j ≤ k) → (x3 = zI ((j : Int))) → (x4 = zI ((k : Int))) → lv_has ls 5 [(0, .long (tw_L w)), (2, .int (zI ((n : Int)))), (3, .int (x3)), (4, .int (x4))] → W p l e (headSpec wsX3_timesIn ({ frames := 1, cells := 0, slots := 0, locals := 22 })).room s m ([.long (tw_L w), .int (zI ((n : Int)))] : List Value).toArray below meth c s.heap [] 0 0 (MQ below (vp_Si (fun r => r = zI ((w.count n : Nat) : Int))) ([.long (tw_L w), .int (zI ((n : Int)))] : List Value).toArray s 0 0 (fun _ => False)) (F0 m 5 ls []) := by
    intro fu
    induction fu with
    | zero => intro k j x3 x4 ls hn; exact absurd hn (Nat.not_lt_zero _)
    | succ fu ih5 =>
      intro k j x3 x4 ls hn5 hk hj hj2 e3 e4  hl
      subst e3
      subst e4
      refine lv_iload hx hb dX3_timesIn_5 (lv_at hl 3 rfl) ?_
      refine lv_bipush (v := zI (12)) hx hb dX3_timesIn_7 (by decide) ?_
      refine zic_ge (tgt := 31) hx hb dX3_timesIn_9 (by decide) (by omega) (by omega) (fun c_9 => ?_) (fun c_9 => ?_)
      · skip
        rw [List.take_of_length_le (by omega)] at hj
        refine lv_iload_n hx hb dX3_timesIn_31 rfl (lv_at hl 2 rfl) ?_
        exact W.iret (v := (zI ((j : Int)))) hx hb hr (fun t ht hW => ⟨_, rfl, by rw [hj], ht⟩) (fun q hq => by cases hq) dX3_timesIn_32
      · skip
        refine lv_lload_n hx hb dX3_timesIn_12 rfl (lv_at hl 0 rfl) ?_
        refine lv_iload hx hb dX3_timesIn_13 (lv_at hl 3 rfl) ?_
        refine vp_callSi (W.runS (As := [.long (tw_L w), .int (zI ((k : Int)))]) (rest := []) ⟨hx, hb, hml, hown, hts⟩ (c_X3_codeAt l w hw k (by omega)) (va_cwS 2 hts gX3_timesIn_X3_codeAt rfl rfl rfl (by decide +kernel) ⟨Nat.le_of_ble_eq_true rfl, Nat.le_of_ble_eq_true rfl⟩) ⟨fun _ _ _ _ h => h, fun U hU hW => ⟨rfl, trivial⟩⟩ rfl rfl hl.1 rfl (lv_room (Nat.le_of_ble_eq_true rfl)) dX3_timesIn_15 ⟨Nat.zero_le _, Nat.zero_le _⟩) (fun r hr1 => ?_)
        subst hr1
        have hgd := tw_getD_le hw k
        refine lv_iload_n hx hb dX3_timesIn_18 rfl (lv_at hl 1 rfl) ?_
        refine zic_ne (tgt := 25) hx hb dX3_timesIn_19 (by decide) (by omega) (by omega) (fun c_19 => ?_) (fun c_19 => ?_)
        rotate_left
        · skip
          refine lv_iinc (v := zI ((j : Int) + 1)) (lv' := [(3, .int (zI ((j : Int) + 1))), (0, .long (tw_L w)), (2, .int (zI ((n : Int)))), (4, .int (zI ((k : Int))))]) hx hb dX3_timesIn_22 hl (k := 2) rfl (zI_add ((j : Int)) 1) (by decide) rfl (fun ls hl => ?_)
          refine lv_iinc (v := zI ((k : Int) + 1)) (lv' := [(4, .int (zI ((k : Int) + 1))), (3, .int (zI ((j : Int) + 1))), (0, .long (tw_L w)), (2, .int (zI ((n : Int))))]) hx hb dX3_timesIn_25 hl (k := 3) rfl (zI_add ((k : Int)) 1) (by decide) rfl (fun ls hl => ?_)
          refine lv_goto (tgt := 5) hx hb dX3_timesIn_28 (by decide) ?_
          exact ih5 (k + 1) (j + 1) _ _ ls (by omega) (by omega) (by rw [tw_cnt hn.1, if_pos (by omega), hj]) (by omega) (zI_c (by omega)) (zI_c (by omega))  (lv_sub hl [2, 3, 1, 0] rfl)
        · skip
          refine lv_iinc (v := zI ((k : Int) + 1)) (lv' := [(4, .int (zI ((k : Int) + 1))), (0, .long (tw_L w)), (2, .int (zI ((n : Int)))), (3, .int (zI ((j : Int))))]) hx hb dX3_timesIn_25 hl (k := 3) rfl (zI_add ((k : Int)) 1) (by decide) rfl (fun ls hl => ?_)
          refine lv_goto (tgt := 5) hx hb dX3_timesIn_28 (by decide) ?_
          exact ih5 (k + 1) (j) _ _ ls (by omega) (by omega) (by rw [tw_cnt hn.1, if_neg (by omega), hj, Nat.add_zero]) (by omega) (zI_c (by omega)) (zI_c (by omega))  (lv_sub hl [1, 2, 3, 0] rfl)
  exact lp5 _ (0) (0) _ _ ls (Nat.lt_succ_self _) (by omega) (by simp) (by omega) (zI_c (by omega)) (zI_c (by omega))  (lv_sub hl [2, 3, 1, 0] rfl)
set_option maxHeartbeats 4000000 in
set_option maxRecDepth 100000 in
theorem c_X3_variablesIn (l : Launch) (w : List Nat) (hw : tw_ok w) : Met l yX3_variablesIn wsX3_variablesIn ({ frames := 2, cells := 0, slots := 0, locals := 46 }) (va_Pc [.long (tw_L w)] (fun _ => True)) (vp_Si (fun r => r = zI ((tw_vs w 4 : Nat) : Int))) 0 0 (fun _ => False) := by
  refine Met.ofW (cc := cX3_variablesIn) (maxL := 4) (ret := (some .int)) (by decide) rfl ?_
  intro p e s m args below meth c s₁ B hml hv
  obtain ⟨rfl, -⟩ := hv
  have hx := B.exec
  have hb := B.bytes
  have hr := B.returns
  have hts := atoms_spec (ws := wsX3_variablesIn) B.pre
  have hown : s.vm.findClass RX3 = some m.cls := findClass_of_methodNamed B.named
  have hlocks := B.notSynchronized
  have hl := lv_entry ([.long (tw_L w)]) (n := 4) (Nat.le_of_ble_eq_true rfl)
  rw [lg_entry_eq]
  generalize (lg_sl ([.long (tw_L w)]) ++ List.replicate (4 - (lg_sl ([.long (tw_L w)])).length) Slot.unset).toArray = ls at hl ⊢
  have hl : lv_has ls 4 [(0, .long (tw_L w))] := hl
  have hw1 := hw.1
  refine lv_iconst (v := zI (0)) hx hb dX3_variablesIn_0 rfl ?_
  refine lv_istore_n (lv' := [(2, .int (zI (0))), (0, .long (tw_L w))]) hx hb dX3_variablesIn_1 rfl hl (by decide) rfl (fun ls hl => ?_)
  refine lv_iconst (v := zI (0)) hx hb dX3_variablesIn_2 rfl ?_
  refine lv_istore_n (lv' := [(3, .int (zI (0))), (2, .int (zI (0))), (0, .long (tw_L w))]) hx hb dX3_variablesIn_3 rfl hl (by decide) rfl (fun ls hl => ?_)
  have lp4 : ∀ (fu : Nat) (k : Nat) (j : Nat) (x2 : Int32) (x3 : Int32) (ls : Array Slot), (4 - k < fu) → (k ≤ 4) → (j = tw_vs w k) → (j ≤ k) → (x2 = zI ((j : Int))) → (x3 = zI ((k : Int))) → lv_has ls 4 [(0, .long (tw_L w)), (2, .int (x2)), (3, .int (x3))] → W p l e (headSpec wsX3_variablesIn ({ frames := 2, cells := 0, slots := 0, locals := 46 })).room s m ([.long (tw_L w)] : List Value).toArray below meth c s.heap [] 0 0 (MQ below (vp_Si (fun r => r = zI ((tw_vs w 4 : Nat) : Int))) ([.long (tw_L w)] : List Value).toArray s 0 0 (fun _ => False)) (F0 m 4 ls []) := by
    intro fu
    induction fu with
    | zero => intro k j x2 x3 ls hn; exact absurd hn (Nat.not_lt_zero _)
    | succ fu ih4 =>
      intro k j x2 x3 ls hn4 hk hj hj2 e2 e3  hl
      subst e2
      subst e3
      refine lv_iload_n hx hb dX3_variablesIn_4 rfl (lv_at hl 2 rfl) ?_
      refine lv_iconst (v := zI (4)) hx hb dX3_variablesIn_5 rfl ?_
      refine zic_ge (tgt := 29) hx hb dX3_variablesIn_6 (by decide) (by omega) (by omega) (fun c_6 => ?_) (fun c_6 => ?_)
      · skip
        have hz : tw_vs w 4 = j := by rw [hj, show k = 4 by omega]
        refine lv_iload_n hx hb dX3_variablesIn_29 rfl (lv_at hl 1 rfl) ?_
        exact W.iret (v := (zI ((j : Int)))) hx hb hr (fun t ht hW => ⟨_, rfl, by rw [hz], ht⟩) (fun q hq => by cases hq) dX3_variablesIn_30
      · skip
        refine lv_lload_n hx hb dX3_variablesIn_9 rfl (lv_at hl 0 rfl) ?_
        refine lv_iload_n hx hb dX3_variablesIn_10 rfl (lv_at hl 2 rfl) ?_
        refine vp_callSi (W.runS (As := [.int (zI ((k : Int)))]) (rest := [.long (tw_L w)]) ⟨hx, hb, hml, hown, hts⟩ (c_X3_codeOfVariable l (k : Int)) (va_cwS 1 hts gX3_variablesIn_X3_codeOfVariable rfl rfl rfl (by decide +kernel) ⟨Nat.le_of_ble_eq_true rfl, Nat.le_of_ble_eq_true rfl⟩) ⟨fun _ _ _ _ h => h, fun U hU hW => ⟨rfl, trivial⟩⟩ rfl rfl hl.1 rfl (lv_room (Nat.le_of_ble_eq_true rfl)) dX3_variablesIn_11 ⟨Nat.zero_le _, Nat.zero_le _⟩) (fun r hr1 => ?_)
        subst hr1
        refine zi_top (y := (zI (((11 + k : Nat) : Int)))) (zI_c (by omega)) ?_
        refine vp_callSi (W.runS (As := [.long (tw_L w), .int (zI (((11 + k : Nat) : Int)))]) (rest := []) ⟨hx, hb, hml, hown, hts⟩ (c_X3_timesIn l w hw (11 + k) (by omega)) (va_cwS 2 hts gX3_variablesIn_X3_timesIn rfl rfl rfl (by decide +kernel) ⟨Nat.le_of_ble_eq_true rfl, Nat.le_of_ble_eq_true rfl⟩) ⟨fun _ _ _ _ h => h, fun U hU hW => ⟨rfl, trivial⟩⟩ rfl rfl hl.1 rfl (lv_room (Nat.le_of_ble_eq_true rfl)) dX3_variablesIn_14 ⟨Nat.zero_le _, Nat.zero_le _⟩) (fun r hr2 => ?_)
        subst hr2
        have hcl : w.count (11 + k) ≤ w.length := List.count_le_length
        refine zif_le (tgt := 23) hx hb dX3_variablesIn_17 (by decide) (by omega) (fun c_17 => ?_) (fun c_17 => ?_)
        rotate_left
        · skip
          refine lv_iinc (v := zI ((j : Int) + 1)) (lv' := [(2, .int (zI ((j : Int) + 1))), (0, .long (tw_L w)), (3, .int (zI ((k : Int))))]) hx hb dX3_variablesIn_20 hl (k := 1) rfl (zI_add ((j : Int)) 1) (by decide) rfl (fun ls hl => ?_)
          refine lv_iinc (v := zI ((k : Int) + 1)) (lv' := [(3, .int (zI ((k : Int) + 1))), (2, .int (zI ((j : Int) + 1))), (0, .long (tw_L w))]) hx hb dX3_variablesIn_23 hl (k := 2) rfl (zI_add ((k : Int)) 1) (by decide) rfl (fun ls hl => ?_)
          refine lv_goto (tgt := 4) hx hb dX3_variablesIn_26 (by decide) ?_
          exact ih4 (k + 1) (j + 1) _ _ ls (by omega) (by omega) (by rw [tw_vs, if_pos (by omega), hj]) (by omega) (zI_c (by omega)) (zI_c (by omega))  (lv_sub hl [2, 1, 0] rfl)
        · skip
          refine lv_iinc (v := zI ((k : Int) + 1)) (lv' := [(3, .int (zI ((k : Int) + 1))), (0, .long (tw_L w)), (2, .int (zI ((j : Int))))]) hx hb dX3_variablesIn_23 hl (k := 2) rfl (zI_add ((k : Int)) 1) (by decide) rfl (fun ls hl => ?_)
          refine lv_goto (tgt := 4) hx hb dX3_variablesIn_26 (by decide) ?_
          exact ih4 (k + 1) (j) _ _ ls (by omega) (by omega) (by rw [tw_vs, if_neg (by omega), hj, Nat.add_zero]) (by omega) (zI_c (by omega)) (zI_c (by omega))  (lv_sub hl [1, 2, 0] rfl)
  exact lp4 _ (0) (0) _ _ ls (Nat.lt_succ_self _) (by omega) (rfl) (by omega) (zI_c (by omega)) (zI_c (by omega))  (lv_sub hl [2, 1, 0] rfl)
set_option maxHeartbeats 4000000 in
set_option maxRecDepth 100000 in
theorem c_X3_hasVariablesOf (l : Launch) (u v : List Nat) (hu : tw_ok u) (hv2 : tw_ok v) : Met l yX3_hasVariablesOf wsX3_hasVariablesOf ({ frames := 2, cells := 0, slots := 0, locals := 46 }) (va_Pc [.long (tw_L u), .long (tw_L v)] (fun _ => True)) (vp_Si (fun r => r = zI (zb (tw_hv u v)))) 0 0 (fun _ => False) := by
  refine Met.ofW (cc := cX3_hasVariablesOf) (maxL := 6) (ret := (some .boolean)) (by decide) rfl ?_
  intro p e s m args below meth c s₁ B hml hv
  obtain ⟨rfl, -⟩ := hv
  have hx := B.exec
  have hb := B.bytes
  have hr := B.returns
  have hts := atoms_spec (ws := wsX3_hasVariablesOf) B.pre
  have hown : s.vm.findClass RX3 = some m.cls := findClass_of_methodNamed B.named
  have hlocks := B.notSynchronized
  have hl := lv_entry ([.long (tw_L u), .long (tw_L v)]) (n := 6) (Nat.le_of_ble_eq_true rfl)
  rw [lg_entry_eq]
  generalize (lg_sl ([.long (tw_L u), .long (tw_L v)]) ++ List.replicate (6 - (lg_sl ([.long (tw_L u), .long (tw_L v)])).length) Slot.unset).toArray = ls at hl ⊢
  have hl : lv_has ls 6 [(0, .long (tw_L u)), (2, .long (tw_L v))] := hl
  have hu1 := hu.1
  have hv1 := hv2.1
  refine lv_iconst (v := zI (0)) hx hb dX3_hasVariablesOf_0 rfl ?_
  refine lv_istore (lv' := [(4, .int (zI (0))), (0, .long (tw_L u)), (2, .long (tw_L v))]) hx hb dX3_hasVariablesOf_1 hl (by decide) rfl (fun ls hl => ?_)
  have lp3 : ∀ (fu : Nat) (k : Nat) (x4 : Int32) (ls : Array Slot), (4 - k < fu) → (k ≤ 4) → (∀ j, j < k → v.count (11 + j) ≤ u.count (11 + j)) → (x4 = zI ((k : Int))) → lv_has ls 6 [(0, .long (tw_L u)), (2, .long (tw_L v)), (4, .int (x4))] → W p l e (headSpec wsX3_hasVariablesOf ({ frames := 2, cells := 0, slots := 0, locals := 46 })).room s m ([.long (tw_L u), .long (tw_L v)] : List Value).toArray below meth c s.heap [] 0 0 (MQ below (vp_Si (fun r => r = zI (zb (tw_hv u v)))) ([.long (tw_L u), .long (tw_L v)] : List Value).toArray s 0 0 (fun _ => False)) (F0 m 3 ls []) := by
    intro fu
    induction fu with
    | zero => intro k x4 ls hn; exact absurd hn (Nat.not_lt_zero _)
    | succ fu ih3 =>
      intro k x4 ls hn3 hk hj e4  hl
      subst e4
      refine lv_iload hx hb dX3_hasVariablesOf_3 (lv_at hl 2 rfl) ?_
      refine lv_iconst (v := zI (4)) hx hb dX3_hasVariablesOf_5 rfl ?_
      refine zic_ge (tgt := 39) hx hb dX3_hasVariablesOf_6 (by decide) (by omega) (by omega) (fun c_6 => ?_) (fun c_6 => ?_)
      · skip
        have hz : zb (tw_hv u v) = 1 := zb_t (tw_hv_iff.mpr (fun j h => hj j (by omega)))
        refine lv_iconst (v := zI (1)) hx hb dX3_hasVariablesOf_39 rfl ?_
        exact W.zret (v := (zI (1))) (ty := .boolean) hx hb hr (by decide) (fun t ht hW => ⟨_, rfl, by rw [hz], ht⟩) (fun q hq => by cases hq) dX3_hasVariablesOf_40
      · skip
        refine lv_iload hx hb dX3_hasVariablesOf_9 (lv_at hl 2 rfl) ?_
        refine vp_callSi (W.runS (As := [.int (zI ((k : Int)))]) (rest := []) ⟨hx, hb, hml, hown, hts⟩ (c_X3_codeOfVariable l (k : Int)) (va_cwS 1 hts gX3_hasVariablesOf_X3_codeOfVariable rfl rfl rfl (by decide +kernel) ⟨Nat.le_of_ble_eq_true rfl, Nat.le_of_ble_eq_true rfl⟩) ⟨fun _ _ _ _ h => h, fun U hU hW => ⟨rfl, trivial⟩⟩ rfl rfl hl.1 rfl (lv_room (Nat.le_of_ble_eq_true rfl)) dX3_hasVariablesOf_11 ⟨Nat.zero_le _, Nat.zero_le _⟩) (fun r hr1 => ?_)
        subst hr1
        refine zi_top (y := (zI (((11 + k : Nat) : Int)))) (zI_c (by omega)) ?_
        refine lv_istore (lv' := [(5, .int (zI (((11 + k : Nat) : Int)))), (0, .long (tw_L u)), (2, .long (tw_L v)), (4, .int (zI ((k : Int))))]) hx hb dX3_hasVariablesOf_14 hl (by decide) rfl (fun ls hl => ?_)
        refine lv_lload_n hx hb dX3_hasVariablesOf_16 rfl (lv_at hl 2 rfl) ?_
        refine lv_iload hx hb dX3_hasVariablesOf_17 (lv_at hl 0 rfl) ?_
        refine vp_callSi (W.runS (As := [.long (tw_L v), .int (zI (((11 + k : Nat) : Int)))]) (rest := []) ⟨hx, hb, hml, hown, hts⟩ (c_X3_timesIn l v hv2 (11 + k) (by omega)) (va_cwS 2 hts gX3_hasVariablesOf_X3_timesIn rfl rfl rfl (by decide +kernel) ⟨Nat.le_of_ble_eq_true rfl, Nat.le_of_ble_eq_true rfl⟩) ⟨fun _ _ _ _ h => h, fun U hU hW => ⟨rfl, trivial⟩⟩ rfl rfl hl.1 rfl (lv_room (Nat.le_of_ble_eq_true rfl)) dX3_hasVariablesOf_19 ⟨Nat.zero_le _, Nat.zero_le _⟩) (fun r hr2 => ?_)
        subst hr2
        have hcl : v.count (11 + k) ≤ v.length := List.count_le_length
        refine lv_lload_n hx hb dX3_hasVariablesOf_22 rfl (lv_at hl 1 rfl) ?_
        refine lv_iload hx hb dX3_hasVariablesOf_23 (lv_at hl 0 rfl) ?_
        refine vp_callSi (W.runS (As := [.long (tw_L u), .int (zI (((11 + k : Nat) : Int)))]) (rest := [.int (zI (((v.count (11 + k) : Nat) : Int)))]) ⟨hx, hb, hml, hown, hts⟩ (c_X3_timesIn l u hu (11 + k) (by omega)) (va_cwS 2 hts gX3_hasVariablesOf_X3_timesIn rfl rfl rfl (by decide +kernel) ⟨Nat.le_of_ble_eq_true rfl, Nat.le_of_ble_eq_true rfl⟩) ⟨fun _ _ _ _ h => h, fun U hU hW => ⟨rfl, trivial⟩⟩ rfl rfl hl.1 rfl (lv_room (Nat.le_of_ble_eq_true rfl)) dX3_hasVariablesOf_25 ⟨Nat.zero_le _, Nat.zero_le _⟩) (fun r hr3 => ?_)
        subst hr3
        have hcl2 : u.count (11 + k) ≤ u.length := List.count_le_length
        refine zic_le (tgt := 33) hx hb dX3_hasVariablesOf_28 (by decide) (by omega) (by omega) (fun c_28 => ?_) (fun c_28 => ?_)
        · skip
          refine lv_iinc (v := zI ((k : Int) + 1)) (lv' := [(4, .int (zI ((k : Int) + 1))), (5, .int (zI (((11 + k : Nat) : Int)))), (0, .long (tw_L u)), (2, .long (tw_L v))]) hx hb dX3_hasVariablesOf_33 hl (k := 3) rfl (zI_add ((k : Int)) 1) (by decide) rfl (fun ls hl => ?_)
          refine lv_goto (tgt := 3) hx hb dX3_hasVariablesOf_36 (by decide) ?_
          exact ih3 (k + 1) _ ls (by omega) (by omega) (fun j h => by rcases Nat.lt_or_ge j k with q | q; exact hj j q; rw [show j = k by omega]; omega) (zI_c (by omega))  (lv_sub hl [2, 3, 0] rfl)
        · skip
          have hz : zb (tw_hv u v) = 0 := zb_f (fun h => absurd (tw_hv_iff.mp h k (by omega)) (by omega))
          refine lv_iconst (v := zI (0)) hx hb dX3_hasVariablesOf_31 rfl ?_
          exact W.zret (v := (zI (0))) (ty := .boolean) hx hb hr (by decide) (fun t ht hW => ⟨_, rfl, by rw [hz], ht⟩) (fun q hq => by cases hq) dX3_hasVariablesOf_32
  exact lp3 _ (0) _ ls (Nat.lt_succ_self _) (by omega) (fun j hj => absurd hj (Nat.not_lt_zero j)) (zI_c (by omega))  (lv_sub hl [1, 2, 0] rfl)
