set_option maxHeartbeats 4000000 in
set_option maxRecDepth 100000 in
theorem c_X3_isGreater (l : Launch) (a b : List Nat) (ha : tw_wf a) (hb2 : tw_wf b) : Met l yX3_isGreater wsX3_isGreater ({ frames := 3, cells := 0, slots := 0, locals := 71 }) (va_Pc [.long (tw_L a), .long (tw_L b)] (fun _ => True)) (vp_Si (fun r => r = zI (zb (tw_gt a b)))) 0 0 (fun _ => False) := by
  refine Met.ofW (cc := cX3_isGreater) (maxL := 16) (ret := (some .boolean)) (by decide) rfl ?_
  intro p e s m args below meth c s₁ B hml hv
  obtain ⟨rfl, -⟩ := hv
  have hx := B.exec
  have hb := B.bytes
  have hr := B.returns
  have hts := atoms_spec (ws := wsX3_isGreater) B.pre
  have hown : s.vm.findClass RX3 = some m.cls := findClass_of_methodNamed B.named
  have hlocks := B.notSynchronized
  have hl := lv_entry ([.long (tw_L a), .long (tw_L b)]) (n := 16) (Nat.le_of_ble_eq_true rfl)
  rw [lg_entry_eq]
  generalize (lg_sl ([.long (tw_L a), .long (tw_L b)]) ++ List.replicate (16 - (lg_sl ([.long (tw_L a), .long (tw_L b)])).length) Slot.unset).toArray = ls at hl ⊢
  have hl : lv_has ls 16 [(0, .long (tw_L a)), (2, .long (tw_L b))] := hl
  refine lv_lload_n hx hb dX3_isGreater_0 rfl (lv_at hl 0 rfl) ?_
  refine lv_lstore (lv' := [(4, .long (tw_L a)), (0, .long (tw_L a)), (2, .long (tw_L b))]) hx hb dX3_isGreater_1 hl (by decide) rfl (fun ls hl => ?_)
  refine lv_lload_n hx hb dX3_isGreater_3 rfl (lv_at hl 2 rfl) ?_
  refine lv_lstore (lv' := [(6, .long (tw_L b)), (4, .long (tw_L a)), (0, .long (tw_L a)), (2, .long (tw_L b))]) hx hb dX3_isGreater_4 hl (by decide) rfl (fun ls hl => ?_)
  refine lv_iconst (v := zI (0)) hx hb dX3_isGreater_6 rfl ?_
  refine lv_istore (lv' := [(8, .int (zI (0))), (6, .long (tw_L b)), (4, .long (tw_L a)), (0, .long (tw_L a)), (2, .long (tw_L b))]) hx hb dX3_isGreater_7 hl (by decide) rfl (fun ls hl => ?_)
  have lp9 : ∀ (fu : Nat) (u : List Nat) (v : List Nat) (k : Nat) (x8 : Int32) (x4 : Int64) (x6 : Int64) (ls : Array Slot), (12 - k < fu) → (k ≤ 12) → (tw_wf u) → (tw_wf v) → (tw_gtF (12 - k) u v = tw_gt a b) → (x8 = zI ((k : Int))) → (x4 = tw_L u) → (x6 = tw_L v) → lv_has ls 16 [(4, .long (x4)), (6, .long (x6)), (8, .int (x8))] → W p l e (headSpec wsX3_isGreater ({ frames := 3, cells := 0, slots := 0, locals := 71 })).room s m ([.long (tw_L a), .long (tw_L b)] : List Value).toArray below meth c s.heap [] 0 0 (MQ below (vp_Si (fun r => r = zI (zb (tw_gt a b)))) ([.long (tw_L a), .long (tw_L b)] : List Value).toArray s 0 0 (fun _ => False)) (F0 m 9 ls []) := by
    intro fu
    induction fu with
    | zero => intro u v k x4 x6 x8 ls hn; exact absurd hn (Nat.not_lt_zero _)
    | succ fu ih9 =>
      intro u v k x4 x6 x8 ls hn9 hk hu hv hg e8 e4 e6 hl
      subst e4
      subst e6
      subst e8
      have hul := hu.1
      have hvl := hv.1
      have gu := tw_getD_le hu.ok 0
      have gv := tw_getD_le hv.ok 0
      refine lv_iload hx hb dX3_isGreater_9 (lv_at hl 2 rfl) ?_
      refine lv_bipush (v := zI (12)) hx hb dX3_isGreater_11 (by decide) ?_
      refine zic_ge (tgt := 229) hx hb dX3_isGreater_13 (by decide) (by omega) (by omega) (fun c_13 => ?_) (fun c_13 => ?_)
      · skip
        rw [show 12 - k = 0 by omega] at hg
        have hz : zb (tw_gt a b) = 0 := by rw [← hg]; rfl
        refine lv_iconst (v := zI (0)) hx hb dX3_isGreater_229 rfl ?_
        exact W.zret (v := (zI (0))) (ty := .boolean) hx hb hr (by decide) (fun t ht hW => ⟨_, rfl, by rw [hz], ht⟩) (fun q hq => by cases hq) dX3_isGreater_230
      · skip
        rw [show 12 - k = (12 - (k + 1)) + 1 by omega, tw_gtF] at hg
        refine lv_lload hx hb dX3_isGreater_16 (lv_at hl 0 rfl) ?_
        refine lv_lload hx hb dX3_isGreater_18 (lv_at hl 1 rfl) ?_
        refine W.lcmp hx hb dX3_isGreater_20 ?_
        refine lv_if_eq (tgt := 229) hx hb dX3_isGreater_21 (by decide) (fun c_21 => ?_) (fun c_21 => ?_)
        · skip
          rw [lg_cmp_eq, tw_Le hu.ok hv.ok] at c_21
          rw [if_pos c_21] at hg
          have hz : zb (tw_gt a b) = 0 := by rw [← hg]; rfl
          refine lv_iconst (v := zI (0)) hx hb dX3_isGreater_229 rfl ?_
          exact W.zret (v := (zI (0))) (ty := .boolean) hx hb hr (by decide) (fun t ht hW => ⟨_, rfl, by rw [hz], ht⟩) (fun q hq => by cases hq) dX3_isGreater_230
        · skip
          rw [lg_cmp_eq, tw_Le hu.ok hv.ok] at c_21
          rw [if_neg c_21] at hg
          refine lv_lload hx hb dX3_isGreater_24 (lv_at hl 0 rfl) ?_
          refine lv_lload hx hb dX3_isGreater_26 (lv_at hl 1 rfl) ?_
          refine vp_callSi (W.runS (As := [.long (tw_L u), .long (tw_L v)]) (rest := []) ⟨hx, hb, hml, hown, hts⟩ (c_X3_hasVariablesOf l u v hu.ok hv.ok) (va_cwS 2 hts gX3_isGreater_X3_hasVariablesOf rfl rfl rfl (by decide +kernel) ⟨Nat.le_of_ble_eq_true rfl, Nat.le_of_ble_eq_true rfl⟩) ⟨fun _ _ _ _ h => h, fun U hU hW => ⟨rfl, trivial⟩⟩ rfl rfl hl.1 rfl (lv_room (Nat.le_of_ble_eq_true rfl)) dX3_isGreater_28 ⟨Nat.zero_le _, Nat.zero_le _⟩) (fun r hr1 => ?_)
          subst hr1
          refine zif_ne (tgt := 36) hx hb dX3_isGreater_31 (by decide) (by have := zb_rng (tw_hv u v); omega) (fun c_31 => ?_) (fun c_31 => ?_)
          · skip
            rw [zb_iff, Classical.not_not] at c_31
            rw [if_pos c_31] at hg
            refine lv_lload hx hb dX3_isGreater_36 (lv_at hl 0 rfl) ?_
            refine vp_callSi (W.runS (As := [.long (tw_L u)]) (rest := []) ⟨hx, hb, hml, hown, hts⟩ (c_X3_sizeOf l u hu.ok) (va_cwS 1 hts gX3_isGreater_X3_sizeOf rfl rfl rfl (by decide +kernel) ⟨Nat.le_of_ble_eq_true rfl, Nat.le_of_ble_eq_true rfl⟩) ⟨fun _ _ _ _ h => h, fun U hU hW => ⟨rfl, trivial⟩⟩ rfl rfl hl.1 rfl (lv_room (Nat.le_of_ble_eq_true rfl)) dX3_isGreater_38 ⟨Nat.zero_le _, Nat.zero_le _⟩) (fun r hr2 => ?_)
            subst hr2
            refine lv_lload hx hb dX3_isGreater_41 (lv_at hl 1 rfl) ?_
            refine vp_callSi (W.runS (As := [.long (tw_L v)]) (rest := [.int (zI (((u.length : Nat) : Int)))]) ⟨hx, hb, hml, hown, hts⟩ (c_X3_sizeOf l v hv.ok) (va_cwS 1 hts gX3_isGreater_X3_sizeOf rfl rfl rfl (by decide +kernel) ⟨Nat.le_of_ble_eq_true rfl, Nat.le_of_ble_eq_true rfl⟩) ⟨fun _ _ _ _ h => h, fun U hU hW => ⟨rfl, trivial⟩⟩ rfl rfl hl.1 rfl (lv_room (Nat.le_of_ble_eq_true rfl)) dX3_isGreater_43 ⟨Nat.zero_le _, Nat.zero_le _⟩) (fun r hr3 => ?_)
            subst hr3
            refine lv_isub hx hb dX3_isGreater_46 ?_
            refine zi_top (zI_sub _ _) ?_
            refine lv_istore (lv' := [(9, .int (zI ((((u.length : Nat) : Int)) - (((v.length : Nat) : Int))))), (4, .long (tw_L u)), (6, .long (tw_L v)), (8, .int (zI ((k : Int))))]) hx hb dX3_isGreater_47 hl (by decide) rfl (fun ls hl => ?_)
            refine lv_iload hx hb dX3_isGreater_49 (lv_at hl 0 rfl) ?_
            refine zif_eq (tgt := 65) hx hb dX3_isGreater_51 (by decide) (by omega) (fun c_51 => ?_) (fun c_51 => ?_)
            · skip
              rw [if_pos (by omega)] at hg
              refine lv_lload hx hb dX3_isGreater_65 (lv_at hl 1 rfl) ?_
              refine lv_iconst (v := zI (0)) hx hb dX3_isGreater_67 rfl ?_
              refine vp_callSi (W.runS (As := [.long (tw_L u), .int (zI (0))]) (rest := []) ⟨hx, hb, hml, hown, hts⟩ (c_X3_codeAt l u hu.ok 0 (by decide)) (va_cwS 2 hts gX3_isGreater_X3_codeAt rfl rfl rfl (by decide +kernel) ⟨Nat.le_of_ble_eq_true rfl, Nat.le_of_ble_eq_true rfl⟩) ⟨fun _ _ _ _ h => h, fun U hU hW => ⟨rfl, trivial⟩⟩ rfl rfl hl.1 rfl (lv_room (Nat.le_of_ble_eq_true rfl)) dX3_isGreater_68 ⟨Nat.zero_le _, Nat.zero_le _⟩) (fun r hr4 => ?_)
              subst hr4
              refine lv_istore (lv' := [(10, .int (zI (((u.getD 0 0 : Nat) : Int)))), (9, .int (zI ((((u.length : Nat) : Int)) - (((v.length : Nat) : Int))))), (4, .long (tw_L u)), (6, .long (tw_L v)), (8, .int (zI ((k : Int))))]) hx hb dX3_isGreater_71 hl (by decide) rfl (fun ls hl => ?_)
              refine lv_lload hx hb dX3_isGreater_73 (lv_at hl 3 rfl) ?_
              refine lv_iconst (v := zI (0)) hx hb dX3_isGreater_75 rfl ?_
              refine vp_callSi (W.runS (As := [.long (tw_L v), .int (zI (0))]) (rest := []) ⟨hx, hb, hml, hown, hts⟩ (c_X3_codeAt l v hv.ok 0 (by decide)) (va_cwS 2 hts gX3_isGreater_X3_codeAt rfl rfl rfl (by decide +kernel) ⟨Nat.le_of_ble_eq_true rfl, Nat.le_of_ble_eq_true rfl⟩) ⟨fun _ _ _ _ h => h, fun U hU hW => ⟨rfl, trivial⟩⟩ rfl rfl hl.1 rfl (lv_room (Nat.le_of_ble_eq_true rfl)) dX3_isGreater_76 ⟨Nat.zero_le _, Nat.zero_le _⟩) (fun r hr5 => ?_)
              subst hr5
              refine lv_istore (lv' := [(11, .int (zI (((v.getD 0 0 : Nat) : Int)))), (10, .int (zI (((u.getD 0 0 : Nat) : Int)))), (9, .int (zI ((((u.length : Nat) : Int)) - (((v.length : Nat) : Int))))), (4, .long (tw_L u)), (6, .long (tw_L v)), (8, .int (zI ((k : Int))))]) hx hb dX3_isGreater_79 hl (by decide) rfl (fun ls hl => ?_)
              refine lv_iload hx hb dX3_isGreater_81 (lv_at hl 1 rfl) ?_
              refine vp_callSi (W.runS (As := [.int (zI (((u.getD 0 0 : Nat) : Int)))]) (rest := []) ⟨hx, hb, hml, hown, hts⟩ (c_X3_isVariable l ((u.getD 0 0 : Nat) : Int) (by omega)) (va_cwS 1 hts gX3_isGreater_X3_isVariable rfl rfl rfl (by decide +kernel) ⟨Nat.le_of_ble_eq_true rfl, Nat.le_of_ble_eq_true rfl⟩) ⟨fun _ _ _ _ h => h, fun U hU hW => ⟨rfl, trivial⟩⟩ rfl rfl hl.1 rfl (lv_room (Nat.le_of_ble_eq_true rfl)) dX3_isGreater_83 ⟨Nat.zero_le _, Nat.zero_le _⟩) (fun r hr6 => ?_)
              subst hr6
              refine zif_ne (tgt := 97) hx hb dX3_isGreater_86 (by decide) (by have := zb_rng (decide (11 ≤ ((u.getD 0 0 : Nat) : Int) ∧ ((u.getD 0 0 : Nat) : Int) < 15)); omega) (fun c_86 => ?_) (fun c_86 => ?_)
              · skip
                rw [zb_iff, Classical.not_not, decide_eq_true_iff] at c_86
                rw [if_pos (Or.inl (by omega))] at hg
                have hz : zb (tw_gt a b) = 0 := by rw [← hg]; rfl
                refine lv_iconst (v := zI (0)) hx hb dX3_isGreater_97 rfl ?_
                exact W.zret (v := (zI (0))) (ty := .boolean) hx hb hr (by decide) (fun t ht hW => ⟨_, rfl, by rw [hz], ht⟩) (fun q hq => by cases hq) dX3_isGreater_98
              · skip
                rw [zb_iff, decide_eq_true_iff] at c_86
                refine lv_iload hx hb dX3_isGreater_89 (lv_at hl 0 rfl) ?_
                refine vp_callSi (W.runS (As := [.int (zI (((v.getD 0 0 : Nat) : Int)))]) (rest := []) ⟨hx, hb, hml, hown, hts⟩ (c_X3_isVariable l ((v.getD 0 0 : Nat) : Int) (by omega)) (va_cwS 1 hts gX3_isGreater_X3_isVariable rfl rfl rfl (by decide +kernel) ⟨Nat.le_of_ble_eq_true rfl, Nat.le_of_ble_eq_true rfl⟩) ⟨fun _ _ _ _ h => h, fun U hU hW => ⟨rfl, trivial⟩⟩ rfl rfl hl.1 rfl (lv_room (Nat.le_of_ble_eq_true rfl)) dX3_isGreater_91 ⟨Nat.zero_le _, Nat.zero_le _⟩) (fun r hr7 => ?_)
                subst hr7
                refine zif_eq (tgt := 99) hx hb dX3_isGreater_94 (by decide) (by have := zb_rng (decide (11 ≤ ((v.getD 0 0 : Nat) : Int) ∧ ((v.getD 0 0 : Nat) : Int) < 15)); omega) (fun c_94 => ?_) (fun c_94 => ?_)
                · skip
                  rw [zb_iff, decide_eq_true_iff] at c_94
                  rw [if_neg (by omega)] at hg
                  refine lv_iload hx hb dX3_isGreater_99 (lv_at hl 1 rfl) ?_
                  refine lv_iload hx hb dX3_isGreater_101 (lv_at hl 0 rfl) ?_
                  refine zic_eq (tgt := 119) hx hb dX3_isGreater_103 (by decide) (by omega) (by omega) (fun c_103 => ?_) (fun c_103 => ?_)
                  · skip
                    rw [if_pos (by omega)] at hg
                    have hst := tw_gt_step hu hv c_21 (by omega) (by omega)
                    obtain ⟨hs1, hs2, hs3, hs4, -⟩ := id hst
                    refine lv_lload hx hb dX3_isGreater_119 (lv_at hl 3 rfl) ?_
                    refine lv_iconst (v := zI (1)) hx hb dX3_isGreater_121 rfl ?_
                    refine vp_callSi (W.runS (As := [.long (tw_L u), .int (zI (1))]) (rest := []) ⟨hx, hb, hml, hown, hts⟩ (c_X3_endOf l u hu.ok 1 (by decide)) (va_cwS 2 hts gX3_isGreater_X3_endOf rfl rfl rfl (by decide +kernel) ⟨Nat.le_of_ble_eq_true rfl, Nat.le_of_ble_eq_true rfl⟩) ⟨fun _ _ _ _ h => h, fun U hU hW => ⟨rfl, trivial⟩⟩ rfl rfl hl.1 rfl (lv_room (Nat.le_of_ble_eq_true rfl)) dX3_isGreater_122 ⟨Nat.zero_le _, Nat.zero_le _⟩) (fun r hr8 => ?_)
                    subst hr8
                    refine lv_istore (lv' := [(12, .int (zI (((tw_end u 1 : Nat) : Int)))), (11, .int (zI (((v.getD 0 0 : Nat) : Int)))), (10, .int (zI (((u.getD 0 0 : Nat) : Int)))), (9, .int (zI ((((u.length : Nat) : Int)) - (((v.length : Nat) : Int))))), (4, .long (tw_L u)), (6, .long (tw_L v)), (8, .int (zI ((k : Int))))]) hx hb dX3_isGreater_125 hl (by decide) rfl (fun ls hl => ?_)
                    refine lv_lload hx hb dX3_isGreater_127 (lv_at hl 5 rfl) ?_
                    refine lv_iconst (v := zI (1)) hx hb dX3_isGreater_129 rfl ?_
                    refine vp_callSi (W.runS (As := [.long (tw_L v), .int (zI (1))]) (rest := []) ⟨hx, hb, hml, hown, hts⟩ (c_X3_endOf l v hv.ok 1 (by decide)) (va_cwS 2 hts gX3_isGreater_X3_endOf rfl rfl rfl (by decide +kernel) ⟨Nat.le_of_ble_eq_true rfl, Nat.le_of_ble_eq_true rfl⟩) ⟨fun _ _ _ _ h => h, fun U hU hW => ⟨rfl, trivial⟩⟩ rfl rfl hl.1 rfl (lv_room (Nat.le_of_ble_eq_true rfl)) dX3_isGreater_130 ⟨Nat.zero_le _, Nat.zero_le _⟩) (fun r hr9 => ?_)
                    subst hr9
                    refine lv_istore (lv' := [(13, .int (zI (((tw_end v 1 : Nat) : Int)))), (12, .int (zI (((tw_end u 1 : Nat) : Int)))), (11, .int (zI (((v.getD 0 0 : Nat) : Int)))), (10, .int (zI (((u.getD 0 0 : Nat) : Int)))), (9, .int (zI ((((u.length : Nat) : Int)) - (((v.length : Nat) : Int))))), (4, .long (tw_L u)), (6, .long (tw_L v)), (8, .int (zI ((k : Int))))]) hx hb dX3_isGreater_133 hl (by decide) rfl (fun ls hl => ?_)
                    refine lv_lload hx hb dX3_isGreater_135 (lv_at hl 5 rfl) ?_
                    refine lv_iconst (v := zI (1)) hx hb dX3_isGreater_137 rfl ?_
                    refine lv_iload hx hb dX3_isGreater_138 (lv_at hl 1 rfl) ?_
                    refine vp_callSl (W.runS (As := [.long (tw_L u), .int (zI (1)), .int (zI (((tw_end u 1 : Nat) : Int)))]) (rest := []) ⟨hx, hb, hml, hown, hts⟩ (c_X3_part l u hu.ok 1 (tw_end u 1) (by decide) (by omega) (by omega)) (va_cwS 3 hts gX3_isGreater_X3_part rfl rfl rfl (by decide +kernel) ⟨Nat.le_of_ble_eq_true rfl, Nat.le_of_ble_eq_true rfl⟩) ⟨fun _ _ _ _ h => h, fun U hU hW => ⟨rfl, trivial⟩⟩ rfl rfl hl.1 rfl (lv_room (Nat.le_of_ble_eq_true rfl)) dX3_isGreater_140 ⟨Nat.zero_le _, Nat.zero_le _⟩) (fun r hr10 => ?_)
                    subst hr10
                    refine lv_lload hx hb dX3_isGreater_143 (lv_at hl 6 rfl) ?_
                    refine lv_iconst (v := zI (1)) hx hb dX3_isGreater_145 rfl ?_
                    refine lv_iload hx hb dX3_isGreater_146 (lv_at hl 0 rfl) ?_
                    refine vp_callSl (W.runS (As := [.long (tw_L v), .int (zI (1)), .int (zI (((tw_end v 1 : Nat) : Int)))]) (rest := [.long (tw_L (tw_P u))]) ⟨hx, hb, hml, hown, hts⟩ (c_X3_part l v hv.ok 1 (tw_end v 1) (by decide) (by omega) (by omega)) (va_cwS 3 hts gX3_isGreater_X3_part rfl rfl rfl (by decide +kernel) ⟨Nat.le_of_ble_eq_true rfl, Nat.le_of_ble_eq_true rfl⟩) ⟨fun _ _ _ _ h => h, fun U hU hW => ⟨rfl, trivial⟩⟩ rfl rfl hl.1 rfl (lv_room (Nat.le_of_ble_eq_true rfl)) dX3_isGreater_148 ⟨Nat.zero_le _, Nat.zero_le _⟩) (fun r hr11 => ?_)
                    subst hr11
                    refine W.lcmp hx hb dX3_isGreater_151 ?_
                    refine lv_if_ne (tgt := 159) hx hb dX3_isGreater_152 (by decide) (fun c_152 => ?_) (fun c_152 => ?_)
                    · skip
                      rw [lg_cmp_eq, tw_Le hst.2.2.2.2.1.ok hst.2.2.2.2.2.1.ok] at c_152
                      rw [if_neg c_152] at hg
                      refine lv_iconst (v := zI (0)) hx hb dX3_isGreater_159 rfl ?_
                      refine lv_istore (lv' := [(14, .int (zI (0))), (13, .int (zI (((tw_end v 1 : Nat) : Int)))), (12, .int (zI (((tw_end u 1 : Nat) : Int)))), (11, .int (zI (((v.getD 0 0 : Nat) : Int)))), (10, .int (zI (((u.getD 0 0 : Nat) : Int)))), (9, .int (zI ((((u.length : Nat) : Int)) - (((v.length : Nat) : Int))))), (4, .long (tw_L u)), (6, .long (tw_L v)), (8, .int (zI ((k : Int))))]) hx hb dX3_isGreater_160 hl (by decide) rfl (fun ls hl => ?_)
                      refine lv_lload hx hb dX3_isGreater_162 (lv_at hl 6 rfl) ?_
                      refine vp_callSi (W.runS (As := [.long (tw_L u)]) (rest := []) ⟨hx, hb, hml, hown, hts⟩ (c_X3_sizeOf l u hu.ok) (va_cwS 1 hts gX3_isGreater_X3_sizeOf rfl rfl rfl (by decide +kernel) ⟨Nat.le_of_ble_eq_true rfl, Nat.le_of_ble_eq_true rfl⟩) ⟨fun _ _ _ _ h => h, fun U hU hW => ⟨rfl, trivial⟩⟩ rfl rfl hl.1 rfl (lv_room (Nat.le_of_ble_eq_true rfl)) dX3_isGreater_164 ⟨Nat.zero_le _, Nat.zero_le _⟩) (fun r hr12 => ?_)
                      subst hr12
                      refine lv_istore (lv' := [(15, .int (zI (((u.length : Nat) : Int)))), (14, .int (zI (0))), (13, .int (zI (((tw_end v 1 : Nat) : Int)))), (12, .int (zI (((tw_end u 1 : Nat) : Int)))), (11, .int (zI (((v.getD 0 0 : Nat) : Int)))), (10, .int (zI (((u.getD 0 0 : Nat) : Int)))), (9, .int (zI ((((u.length : Nat) : Int)) - (((v.length : Nat) : Int))))), (4, .long (tw_L u)), (6, .long (tw_L v)), (8, .int (zI ((k : Int))))]) hx hb dX3_isGreater_167 hl (by decide) rfl (fun ls hl => ?_)
                      refine lv_iload hx hb dX3_isGreater_169 (lv_at hl 1 rfl) ?_
                      refine zif_eq (tgt := 186) hx hb dX3_isGreater_171 (by decide) (by omega) (fun c_171 => ?_) (fun c_171 => absurd c_171 (by decide))
                      refine lv_lload hx hb dX3_isGreater_186 (lv_at hl 7 rfl) ?_
                      refine lv_iconst (v := zI (1)) hx hb dX3_isGreater_188 rfl ?_
                      refine lv_iload hx hb dX3_isGreater_189 (lv_at hl 3 rfl) ?_
                      refine vp_callSl (W.runS (As := [.long (tw_L u), .int (zI (1)), .int (zI (((tw_end u 1 : Nat) : Int)))]) (rest := []) ⟨hx, hb, hml, hown, hts⟩ (c_X3_part l u hu.ok 1 (tw_end u 1) (by decide) (by omega) (by omega)) (va_cwS 3 hts gX3_isGreater_X3_part rfl rfl rfl (by decide +kernel) ⟨Nat.le_of_ble_eq_true rfl, Nat.le_of_ble_eq_true rfl⟩) ⟨fun _ _ _ _ h => h, fun U hU hW => ⟨rfl, trivial⟩⟩ rfl rfl hl.1 rfl (lv_room (Nat.le_of_ble_eq_true rfl)) dX3_isGreater_191 ⟨Nat.zero_le _, Nat.zero_le _⟩) (fun r hr13 => ?_)
                      subst hr13
                      refine lv_lstore (lv' := [(4, .long (tw_L (tw_P u))), (15, .int (zI (((u.length : Nat) : Int)))), (14, .int (zI (0))), (13, .int (zI (((tw_end v 1 : Nat) : Int)))), (12, .int (zI (((tw_end u 1 : Nat) : Int)))), (11, .int (zI (((v.getD 0 0 : Nat) : Int)))), (10, .int (zI (((u.getD 0 0 : Nat) : Int)))), (9, .int (zI ((((u.length : Nat) : Int)) - (((v.length : Nat) : Int))))), (6, .long (tw_L v)), (8, .int (zI ((k : Int))))]) hx hb dX3_isGreater_194 hl (by decide) rfl (fun ls hl => ?_)
                      refine lv_iload hx hb dX3_isGreater_196 (lv_at hl 2 rfl) ?_
                      refine zif_eq (tgt := 213) hx hb dX3_isGreater_198 (by decide) (by omega) (fun c_198 => ?_) (fun c_198 => absurd c_198 (by decide))
                      refine lv_lload hx hb dX3_isGreater_213 (lv_at hl 8 rfl) ?_
                      refine lv_iconst (v := zI (1)) hx hb dX3_isGreater_215 rfl ?_
                      refine lv_iload hx hb dX3_isGreater_216 (lv_at hl 3 rfl) ?_
                      refine vp_callSl (W.runS (As := [.long (tw_L v), .int (zI (1)), .int (zI (((tw_end v 1 : Nat) : Int)))]) (rest := []) ⟨hx, hb, hml, hown, hts⟩ (c_X3_part l v hv.ok 1 (tw_end v 1) (by decide) (by omega) (by omega)) (va_cwS 3 hts gX3_isGreater_X3_part rfl rfl rfl (by decide +kernel) ⟨Nat.le_of_ble_eq_true rfl, Nat.le_of_ble_eq_true rfl⟩) ⟨fun _ _ _ _ h => h, fun U hU hW => ⟨rfl, trivial⟩⟩ rfl rfl hl.1 rfl (lv_room (Nat.le_of_ble_eq_true rfl)) dX3_isGreater_218 ⟨Nat.zero_le _, Nat.zero_le _⟩) (fun r hr14 => ?_)
                      subst hr14
                      refine lv_lstore (lv' := [(6, .long (tw_L (tw_P v))), (4, .long (tw_L (tw_P u))), (15, .int (zI (((u.length : Nat) : Int)))), (14, .int (zI (0))), (13, .int (zI (((tw_end v 1 : Nat) : Int)))), (12, .int (zI (((tw_end u 1 : Nat) : Int)))), (11, .int (zI (((v.getD 0 0 : Nat) : Int)))), (10, .int (zI (((u.getD 0 0 : Nat) : Int)))), (9, .int (zI ((((u.length : Nat) : Int)) - (((v.length : Nat) : Int))))), (8, .int (zI ((k : Int))))]) hx hb dX3_isGreater_221 hl (by decide) rfl (fun ls hl => ?_)
                      refine lv_iinc (v := zI ((k : Int) + 1)) (lv' := [(8, .int (zI ((k : Int) + 1))), (6, .long (tw_L (tw_P v))), (4, .long (tw_L (tw_P u))), (15, .int (zI (((u.length : Nat) : Int)))), (14, .int (zI (0))), (13, .int (zI (((tw_end v 1 : Nat) : Int)))), (12, .int (zI (((tw_end u 1 : Nat) : Int)))), (11, .int (zI (((v.getD 0 0 : Nat) : Int)))), (10, .int (zI (((u.getD 0 0 : Nat) : Int)))), (9, .int (zI ((((u.length : Nat) : Int)) - (((v.length : Nat) : Int)))))]) hx hb dX3_isGreater_223 hl (k := 9) rfl (zI_add ((k : Int)) 1) (by decide) rfl (fun ls hl => ?_)
                      refine lv_goto (tgt := 9) hx hb dX3_isGreater_226 (by decide) ?_
                      exact ih9 (tw_P u) (tw_P v) (k + 1) _ _ _ ls (by omega) (by omega) (hst.2.2.2.2.1) (hst.2.2.2.2.2.1) (hg) (zI_c (by omega)) (rfl) (rfl) (lv_sub hl [2, 1, 0] rfl)
                    · skip
                      rw [lg_cmp_eq, tw_Le hst.2.2.2.2.1.ok hst.2.2.2.2.2.1.ok] at c_152
                      rw [if_pos c_152] at hg
                      refine lv_iconst (v := zI (1)) hx hb dX3_isGreater_155 rfl ?_
                      refine lv_goto (tgt := 160) hx hb dX3_isGreater_156 (by decide) ?_
                      refine lv_istore (lv' := [(14, .int (zI (1))), (13, .int (zI (((tw_end v 1 : Nat) : Int)))), (12, .int (zI (((tw_end u 1 : Nat) : Int)))), (11, .int (zI (((v.getD 0 0 : Nat) : Int)))), (10, .int (zI (((u.getD 0 0 : Nat) : Int)))), (9, .int (zI ((((u.length : Nat) : Int)) - (((v.length : Nat) : Int))))), (4, .long (tw_L u)), (6, .long (tw_L v)), (8, .int (zI ((k : Int))))]) hx hb dX3_isGreater_160 hl (by decide) rfl (fun ls hl => ?_)
                      refine lv_lload hx hb dX3_isGreater_162 (lv_at hl 6 rfl) ?_
                      refine vp_callSi (W.runS (As := [.long (tw_L u)]) (rest := []) ⟨hx, hb, hml, hown, hts⟩ (c_X3_sizeOf l u hu.ok) (va_cwS 1 hts gX3_isGreater_X3_sizeOf rfl rfl rfl (by decide +kernel) ⟨Nat.le_of_ble_eq_true rfl, Nat.le_of_ble_eq_true rfl⟩) ⟨fun _ _ _ _ h => h, fun U hU hW => ⟨rfl, trivial⟩⟩ rfl rfl hl.1 rfl (lv_room (Nat.le_of_ble_eq_true rfl)) dX3_isGreater_164 ⟨Nat.zero_le _, Nat.zero_le _⟩) (fun r hr15 => ?_)
                      subst hr15
                      refine lv_istore (lv' := [(15, .int (zI (((u.length : Nat) : Int)))), (14, .int (zI (1))), (13, .int (zI (((tw_end v 1 : Nat) : Int)))), (12, .int (zI (((tw_end u 1 : Nat) : Int)))), (11, .int (zI (((v.getD 0 0 : Nat) : Int)))), (10, .int (zI (((u.getD 0 0 : Nat) : Int)))), (9, .int (zI ((((u.length : Nat) : Int)) - (((v.length : Nat) : Int))))), (4, .long (tw_L u)), (6, .long (tw_L v)), (8, .int (zI ((k : Int))))]) hx hb dX3_isGreater_167 hl (by decide) rfl (fun ls hl => ?_)
                      refine lv_iload hx hb dX3_isGreater_169 (lv_at hl 1 rfl) ?_
                      refine zif_eq (tgt := 186) hx hb dX3_isGreater_171 (by decide) (by omega) (fun c_171 => absurd c_171 (by decide)) (fun c_171 => ?_)
                      refine lv_lload hx hb dX3_isGreater_174 (lv_at hl 7 rfl) ?_
                      refine lv_iload hx hb dX3_isGreater_176 (lv_at hl 3 rfl) ?_
                      refine lv_iload hx hb dX3_isGreater_178 (lv_at hl 0 rfl) ?_
                      refine vp_callSl (W.runS (As := [.long (tw_L u), .int (zI (((tw_end u 1 : Nat) : Int))), .int (zI (((u.length : Nat) : Int)))]) (rest := []) ⟨hx, hb, hml, hown, hts⟩ (c_X3_part l u hu.ok (tw_end u 1) u.length (by omega) (by omega) (by omega)) (va_cwS 3 hts gX3_isGreater_X3_part rfl rfl rfl (by decide +kernel) ⟨Nat.le_of_ble_eq_true rfl, Nat.le_of_ble_eq_true rfl⟩) ⟨fun _ _ _ _ h => h, fun U hU hW => ⟨rfl, trivial⟩⟩ rfl rfl hl.1 rfl (lv_room (Nat.le_of_ble_eq_true rfl)) dX3_isGreater_180 ⟨Nat.zero_le _, Nat.zero_le _⟩) (fun r hr16 => ?_)
                      subst hr16
                      refine lv_goto (tgt := 194) hx hb dX3_isGreater_183 (by decide) ?_
                      refine lv_lstore (lv' := [(4, .long (tw_L (tw_S u u.length))), (15, .int (zI (((u.length : Nat) : Int)))), (14, .int (zI (1))), (13, .int (zI (((tw_end v 1 : Nat) : Int)))), (12, .int (zI (((tw_end u 1 : Nat) : Int)))), (11, .int (zI (((v.getD 0 0 : Nat) : Int)))), (10, .int (zI (((u.getD 0 0 : Nat) : Int)))), (9, .int (zI ((((u.length : Nat) : Int)) - (((v.length : Nat) : Int))))), (6, .long (tw_L v)), (8, .int (zI ((k : Int))))]) hx hb dX3_isGreater_194 hl (by decide) rfl (fun ls hl => ?_)
                      refine lv_iload hx hb dX3_isGreater_196 (lv_at hl 2 rfl) ?_
                      refine zif_eq (tgt := 213) hx hb dX3_isGreater_198 (by decide) (by omega) (fun c_198 => absurd c_198 (by decide)) (fun c_198 => ?_)
                      refine lv_lload hx hb dX3_isGreater_201 (lv_at hl 8 rfl) ?_
                      refine lv_iload hx hb dX3_isGreater_203 (lv_at hl 3 rfl) ?_
                      refine lv_iload hx hb dX3_isGreater_205 (lv_at hl 1 rfl) ?_
                      refine vp_callSl (W.runS (As := [.long (tw_L v), .int (zI (((tw_end v 1 : Nat) : Int))), .int (zI (((u.length : Nat) : Int)))]) (rest := []) ⟨hx, hb, hml, hown, hts⟩ (c_X3_part l v hv.ok (tw_end v 1) u.length (by omega) (by omega) (by omega)) (va_cwS 3 hts gX3_isGreater_X3_part rfl rfl rfl (by decide +kernel) ⟨Nat.le_of_ble_eq_true rfl, Nat.le_of_ble_eq_true rfl⟩) ⟨fun _ _ _ _ h => h, fun U hU hW => ⟨rfl, trivial⟩⟩ rfl rfl hl.1 rfl (lv_room (Nat.le_of_ble_eq_true rfl)) dX3_isGreater_207 ⟨Nat.zero_le _, Nat.zero_le _⟩) (fun r hr17 => ?_)
                      subst hr17
                      refine lv_goto (tgt := 221) hx hb dX3_isGreater_210 (by decide) ?_
                      refine lv_lstore (lv' := [(6, .long (tw_L (tw_S v u.length))), (4, .long (tw_L (tw_S u u.length))), (15, .int (zI (((u.length : Nat) : Int)))), (14, .int (zI (1))), (13, .int (zI (((tw_end v 1 : Nat) : Int)))), (12, .int (zI (((tw_end u 1 : Nat) : Int)))), (11, .int (zI (((v.getD 0 0 : Nat) : Int)))), (10, .int (zI (((u.getD 0 0 : Nat) : Int)))), (9, .int (zI ((((u.length : Nat) : Int)) - (((v.length : Nat) : Int))))), (8, .int (zI ((k : Int))))]) hx hb dX3_isGreater_221 hl (by decide) rfl (fun ls hl => ?_)
                      refine lv_iinc (v := zI ((k : Int) + 1)) (lv' := [(8, .int (zI ((k : Int) + 1))), (6, .long (tw_L (tw_S v u.length))), (4, .long (tw_L (tw_S u u.length))), (15, .int (zI (((u.length : Nat) : Int)))), (14, .int (zI (1))), (13, .int (zI (((tw_end v 1 : Nat) : Int)))), (12, .int (zI (((tw_end u 1 : Nat) : Int)))), (11, .int (zI (((v.getD 0 0 : Nat) : Int)))), (10, .int (zI (((u.getD 0 0 : Nat) : Int)))), (9, .int (zI ((((u.length : Nat) : Int)) - (((v.length : Nat) : Int)))))]) hx hb dX3_isGreater_223 hl (k := 9) rfl (zI_add ((k : Int)) 1) (by decide) rfl (fun ls hl => ?_)
                      refine lv_goto (tgt := 9) hx hb dX3_isGreater_226 (by decide) ?_
                      exact ih9 (tw_S u u.length) (tw_S v u.length) (k + 1) _ _ _ ls (by omega) (by omega) ((hst.2.2.2.2.2.2 c_152).1) ((hst.2.2.2.2.2.2 c_152).2) (hg) (zI_c (by omega)) (rfl) (rfl) (lv_sub hl [2, 1, 0] rfl)
                  · skip
                    rw [if_neg (by omega)] at hg
                    refine lv_iload hx hb dX3_isGreater_106 (lv_at hl 1 rfl) ?_
                    refine lv_iload hx hb dX3_isGreater_108 (lv_at hl 0 rfl) ?_
                    refine zic_le (tgt := 117) hx hb dX3_isGreater_110 (by decide) (by omega) (by omega) (fun c_110 => ?_) (fun c_110 => ?_)
                    · skip
                      have hz : zb (tw_gt a b) = 0 := by rw [← hg]; exact zb_f (fun h => absurd (of_decide_eq_true h) (by omega))
                      refine lv_iconst (v := zI (0)) hx hb dX3_isGreater_117 rfl ?_
                      exact W.zret (v := (zI (0))) (ty := .boolean) hx hb hr (by decide) (fun t ht hW => ⟨_, rfl, by rw [hz], ht⟩) (fun q hq => by cases hq) dX3_isGreater_118
                    · skip
                      have hz : zb (tw_gt a b) = 1 := by rw [← hg]; exact zb_t (decide_eq_true (by omega))
                      refine lv_iconst (v := zI (1)) hx hb dX3_isGreater_113 rfl ?_
                      refine lv_goto (tgt := 118) hx hb dX3_isGreater_114 (by decide) ?_
                      exact W.zret (v := (zI (1))) (ty := .boolean) hx hb hr (by decide) (fun t ht hW => ⟨_, rfl, by rw [hz], ht⟩) (fun q hq => by cases hq) dX3_isGreater_118
                · skip
                  rw [zb_iff, Classical.not_not, decide_eq_true_iff] at c_94
                  rw [if_pos (Or.inr (by omega))] at hg
                  have hz : zb (tw_gt a b) = 0 := by rw [← hg]; rfl
                  refine lv_iconst (v := zI (0)) hx hb dX3_isGreater_97 rfl ?_
                  exact W.zret (v := (zI (0))) (ty := .boolean) hx hb hr (by decide) (fun t ht hW => ⟨_, rfl, by rw [hz], ht⟩) (fun q hq => by cases hq) dX3_isGreater_98
            · skip
              rw [if_neg (by omega)] at hg
              refine lv_iload hx hb dX3_isGreater_54 (lv_at hl 0 rfl) ?_
              refine zif_le (tgt := 63) hx hb dX3_isGreater_56 (by decide) (by omega) (fun c_56 => ?_) (fun c_56 => ?_)
              · skip
                have hz : zb (tw_gt a b) = 0 := by rw [← hg]; exact zb_f (fun h => absurd (of_decide_eq_true h) (by omega))
                refine lv_iconst (v := zI (0)) hx hb dX3_isGreater_63 rfl ?_
                exact W.zret (v := (zI (0))) (ty := .boolean) hx hb hr (by decide) (fun t ht hW => ⟨_, rfl, by rw [hz], ht⟩) (fun q hq => by cases hq) dX3_isGreater_64
              · skip
                have hz : zb (tw_gt a b) = 1 := by rw [← hg]; exact zb_t (decide_eq_true (by omega))
                refine lv_iconst (v := zI (1)) hx hb dX3_isGreater_59 rfl ?_
                refine lv_goto (tgt := 64) hx hb dX3_isGreater_60 (by decide) ?_
                exact W.zret (v := (zI (1))) (ty := .boolean) hx hb hr (by decide) (fun t ht hW => ⟨_, rfl, by rw [hz], ht⟩) (fun q hq => by cases hq) dX3_isGreater_64
          · skip
            rw [zb_iff] at c_31
            rw [if_neg c_31] at hg
            have hz : zb (tw_gt a b) = 0 := by rw [← hg]; rfl
            refine lv_iconst (v := zI (0)) hx hb dX3_isGreater_34 rfl ?_
            exact W.zret (v := (zI (0))) (ty := .boolean) hx hb hr (by decide) (fun t ht hW => ⟨_, rfl, by rw [hz], ht⟩) (fun q hq => by cases hq) dX3_isGreater_35
  exact lp9 _ (a) (b) (0) _ _ _ ls (Nat.lt_succ_self _) (by omega) (ha) (hb2) (rfl) (zI_c (by omega)) (rfl) (rfl) (lv_sub hl [2, 1, 0] rfl)
