-- ===== end of PART A; then your names; then what follows =====
/-! THE CLAIM OUT OF ONE WALK OF THE LAW'S BODY. Your part is whole_start (and what it stands on); all else here is the same for every law, but numbers. -/
def R_law : String := "LatticeworkLaw"
def lw_P (b : Addr) (xs : List Int32) (args : Array Value) (s : State) : Prop := args = #[.ref b] ∧ s.IntsAt b xs ∧ xs.length ≤ 5 ∧ (Jvm.Cond.and given_1 narrow_1).before args s = true
/-- what a walk over the start with the record d0 says of its end, said of the start itself -/
theorem lw_closed {s t : State} {o : Outcome} {d0 : Drawn} {L : List Loc} {k n : Nat} (hd0 : s.drawn.sameBut d0 lw_cs) (hv : ∃ v, o = .returned v) (hW : (s.setDrawn d0).WarmedH t.vm) (hs : (s.setDrawn d0).sameButNew ({ t with vm := s.vm } : State) L k n) : State.butDraws s t lw_cs (fun t1 => Framed s o t1 L k n) := by
  have h2 : t.drawn = d0 := congrArg State.drawn hs.1
  refine ⟨⟨hv, hW, State.sameButNew.setDrawn hs s.drawn⟩, ?_, by decide⟩
  rw [h2]
  exact hd0
def lw_Q (_ : Array Value) (s : State) (o : Outcome) (t : State) : Prop := o = .returned (some (.int 1)) ∧ State.butDraws s t lw_cs (fun t1 => Framed s o t1 [] 600002 7302232)
def lw_Z (below : List Frame) (a : Array Value) (s : State) : State → Prop := fun t => ∃ o, t.status = .running ∧ Ended t below o ∧ lw_Q a s o t
/-- the law's own end, with 1 on the stack, nothing written that was there before, its room as the claim has it; d0: the record of draws at this point (at the entry s.drawn: begin with 'refine W.base ?_' and 'have hd0 := Drawn.sameBut.refl s.drawn lw_cs') -/
theorem lw_ret {p : Program} {l : Launch} {e : Env} {s : State} {m : MethodId} {below : List Frame} {meth : Method} {c : Code} {b : Nat} {d0 : Drawn} (hd0 : s.drawn.sameBut d0 lw_cs) (hx : p.tables.exec = Jvm.exec) (hb : c.code = code) (hr : meth.sig.returnType = ret) (hlocks : meth.locks = false) {pc : Nat} {H : Heap} {ls : Array Slot} (hdg : decode code pc = .ok (.ireturn, 1)) : W p l e room_1 (s.setDrawn d0) m #[Value.ref b] below meth c H [] 600002 7302232 (lw_Z below #[Value.ref b] s) (F0 m pc ls [.int 1]) := by
  intro T hT X
  obtain ⟨fs, hret, hrun, hended, hW, hframe⟩ := X.leave (v := some (.int 1)) (hlocks := hlocks) (fun h => by rw [hr] at h; cases h)
  have hmeth' : T.vm.method? m = some meth := X.method'
  refine ⟨T.setFrames fs, ?_, .returned (some (.int 1)), hrun, hended, rfl, lw_closed hd0 ⟨_, rfl⟩ hW hframe⟩
  jvm_step X.here [X.here.top, hx, hb, hdg, hmeth', hr, ret, narrow_b1]
  (try refine ⟨rfl, ?_⟩); (try refine ⟨rfl, ?_⟩)
  first | (intro acts; rw [hret _ acts rfl rfl rfl]) | rw [hret _ _ rfl rfl rfl]
  exact Steps.refl _
/-- what holds at the law's entry: the machine, the code, the tables' words (any of lw_tbl by 'hts w (by decide +kernel)'), the script of L ints xs at the cell b, what the Statement gives of the start (any of its parts by flat_of_before) -/
def lw_At (p : Program) (s : State) (m : MethodId) (meth : Method) (c : Code) (b L : Nat) (xs : Nat → Int32) : Prop :=
  p.tables.exec = Jvm.exec ∧ c.code = code ∧ meth.sig.returnType = ret ∧ c.maxLocals = 9 ∧ s.vm.findClass R_law = some m.cls ∧ (∀ w ∈ lw_tbl, w.before #[Value.ref b] s = true) ∧ va_X b L xs s s.heap ∧ b < s.heap.size ∧ meth.locks = false ∧ (Jvm.Cond.and given_1 narrow_1).before #[Value.ref b] s = true
theorem lw_arr {args : Array Value} {s : State} {ty : FieldType} (h : (Cond.arrayClass ty).before args s = true) (hp : ∀ C, ty ≠ .object C) : ∃ cA : ClassId, ArrOfT s cA ty ∧ va_RA s cA ty := by
  obtain ⟨cA, kA, comp, h1, h2, h3⟩ := Cond.arrayClass_spec h
  refine ⟨cA, fun n z => ⟨(fun k h => by cases h), kA, h2, comp, h3⟩, ?_⟩
  cases ty with
  | object C => exact absurd rfl (hp C)
  | _ => exact h1
theorem lw_arrO {args : Array Value} {s : State} {C : String} (h : (Cond.arrayOver (.object C)).before args s = true) : ∃ cA : ClassId, ArrOfT s cA (.object C) ∧ va_RA s cA (.object C) := by
  obtain ⟨comp, cA, kA, h1, h2, h3, h4, h5⟩ := Cond.arrayOver_spec h
  exact ⟨cA, fun n z => ⟨(fun k h => by cases h), kA, h3, comp, h4⟩, kA, comp, h3, h4, h1, h5⟩
theorem lw_nm : ∀ q ∈ vv_nm, Cond.methodLinkNest q.1 q.2.1 q.2.2.1 q.2.2.2 ∈ tables_1 := by decide +kernel
theorem lw_nf : ∀ q ∈ vv_nf, Cond.fieldLinkNest q.1 q.2.1 q.2.2.1 q.2.2.2.1 q.2.2.2.2.1 q.2.2.2.2.2 ∈ tables_1 := by decide +kernel
theorem lw_ca : ∀ q ∈ vv_ca, Cond.castable q.1 q.2 ∈ tables_1 := by decide +kernel
theorem lw_de : ∀ q ∈ vv_de, Cond.declares q ∈ tables_1 := by decide +kernel
theorem lw_tx : ∀ q ∈ vv_tx, Cond.stringRef q.1 q.2.1 q.2.2 ∈ tables_1 := by decide +kernel
set_option maxHeartbeats 4000000 in
set_option maxRecDepth 100000 in
theorem lw_tx2 {args : Array Value} {s : State} (hg : (Jvm.Cond.and given_1 narrow_1).before args s = true) : ∀ q ∈ vv_tx, (Cond.exactly (.string q.1 q.2.1) "java/lang/String").before args s = true := by
  have hs := flat_of_before _ hg
  have hm : ∀ q ∈ vv_tx, Cond.exactly (.string q.1 q.2.1) "java/lang/String" ∈ flatC (Jvm.Cond.and given_1 narrow_1) := by decide +kernel
  exact fun q hq => hs _ (hm q hq)
set_option maxHeartbeats 4000000 in
set_option maxRecDepth 100000 in
theorem lw_nc {args : Array Value} {s : State} (hg : (Jvm.Cond.and given_1 narrow_1).before args s = true) : ∀ q ∈ vv_nc, va_Nc q.1 q.2 s := by
  have hs := flat_of_before _ hg
  have hm : ∀ q ∈ vv_nc, Cond.not (.castable q.1 q.2) ∈ flatC (Jvm.Cond.and given_1 narrow_1) := by decide +kernel
  exact fun q hq => va_Nc.of (hs _ (hm q hq))
set_option maxHeartbeats 4000000 in
set_option maxRecDepth 100000 in
/-- what the start gives: the classes' numbers, the arrays', ArrayList's empty array -/
theorem lw_env {s : State} {b : Nat} (hts : ∀ w ∈ lw_tbl, w.before #[Value.ref b] s = true) (hg : (Jvm.Cond.and given_1 narrow_1).before #[Value.ref b] s = true) : ∃ G : vv_G, vv_E G (fun q => s.heap.size ≤ q) s ∧ va_K G.1 lwC (lwT G) s := by
  have hG := vg_ts hts
  have hT : ∀ w ∈ tables_1, w.before #[Value.ref b] s = true := fun w h => hts w (List.mem_append_right _ h)
  have hs := flat_of_before _ hg
  have hA : ∀ a : Nat, a < s.heap.size → ¬ s.heap.size ≤ a := fun a h => Nat.not_le.mpr h
  obtain ⟨c0, i0, k0⟩ := u_known (C := RX0) (T := TX0) (N := 5) (n := 5) hG vi_X0 (hts (.instantiable RX0 5) (List.mem_append_right _ (by decide +kernel)))
  obtain ⟨c1, i1, k1⟩ := u_known (C := RX1) (T := TX1) (N := 5) (n := 5) hG vi_X1 (hts (.instantiable RX1 5) (List.mem_append_right _ (by decide +kernel)))
  obtain ⟨c2, i2, k2⟩ := u_known (C := RX2) (T := TX2) (N := 12) (n := 12) hG vi_X2 (hts (.instantiable RX2 12) (List.mem_append_right _ (by decide +kernel)))
  obtain ⟨c3, i3, k3⟩ := u_known (C := RX4) (T := TX4) (N := 9) (n := 9) hG vi_X4 (hts (.instantiable RX4 9) (List.mem_append_right _ (by decide +kernel)))
  obtain ⟨c4, i4, k4⟩ := u_known (C := RX5) (T := TX5) (N := 7) (n := 7) hG vi_X5 (hts (.instantiable RX5 7) (List.mem_append_right _ (by decide +kernel)))
  obtain ⟨c5, i5, k5⟩ := u_known (C := RX6) (T := TX6) (N := 2) (n := 2) hG vi_X6 (hts (.instantiable RX6 2) (List.mem_append_right _ (by decide +kernel)))
  obtain ⟨c6, i6, k6⟩ := u_known (C := RX7) (T := TX7) (N := 2) (n := 2) hG vi_X7 (hts (.instantiable RX7 2) (List.mem_append_right _ (by decide +kernel)))
  obtain ⟨c7, i7, k7⟩ := u_known (C := RX8) (T := TX8) (N := 9) (n := 9) hG vi_X8 (hts (.instantiable RX8 9) (List.mem_append_right _ (by decide +kernel)))
  obtain ⟨c8, i8, k8⟩ := u_known (C := RX9) (T := TX9) (N := 4) (n := 4) hG vi_X9 (hts (.instantiable RX9 4) (List.mem_append_right _ (by decide +kernel)))
  obtain ⟨c9, i9, k9⟩ := u_known (C := RX10) (T := TX10) (N := 9) (n := 9) hG vi_X10 (hts (.instantiable RX10 9) (List.mem_append_right _ (by decide +kernel)))
  obtain ⟨c10, i10, k10⟩ := u_known (C := RX11) (T := TX11) (N := 5) (n := 5) hG vi_X11 (hts (.instantiable RX11 5) (List.mem_append_right _ (by decide +kernel)))
  obtain ⟨c11, i11, k11⟩ := u_known (C := RX12) (T := TX12) (N := 4) (n := 4) hG vi_X12 (hts (.instantiable RX12 4) (List.mem_append_right _ (by decide +kernel)))
  obtain ⟨c12, i12, k12⟩ := u_known (C := RX13) (T := TX13) (N := 8) (n := 8) hG vi_X13 (hts (.instantiable RX13 8) (List.mem_append_right _ (by decide +kernel)))
  obtain ⟨c13, i13, k13⟩ := u_known (C := RJx4a65c) (T := TJx4a65c) (N := 3) (n := 3) hG vi_Jx4a65c (hts (.instantiable RJx4a65c 3) (List.mem_append_right _ (by decide +kernel)))
  obtain ⟨c14, i14, k14⟩ := u_known (C := RJx35411) (T := TJx35411) (N := 4) (n := 4) hG vi_Jx35411 (hts (.instantiable RJx35411 4) (List.mem_append_right _ (by decide +kernel)))
  obtain ⟨a0, ha0, hr0⟩ := lw_arr (hts (.arrayClass .int) (List.mem_append_right _ (by decide +kernel))) (fun C h => by cases h)
  obtain ⟨a1, ha1, hr1⟩ := lw_arr (hts (.arrayClass .long) (List.mem_append_right _ (by decide +kernel))) (fun C h => by cases h)
  obtain ⟨a2, ha2, hr2⟩ := lw_arr (hts (.arrayClass .boolean) (List.mem_append_right _ (by decide +kernel))) (fun C h => by cases h)
  obtain ⟨a3, ha3, hr3⟩ := lw_arrO (hts (.arrayOver (.object RX7)) (List.mem_append_right _ (by decide +kernel)))
  obtain ⟨a4, ha4, hr4⟩ := lw_arrO (hts (.arrayOver (.object "java/lang/Object")) (List.mem_append_right _ (by decide +kernel)))
  obtain ⟨t, ht, hTa⟩ := va_Tof (args := #[Value.ref b]) (s := s) (tm := (.static "java/util/ArrayList" "DEFAULTCAPACITY_EMPTY_ELEMENTDATA" "[Ljava/lang/Object;")) (ty := .object "java/lang/Object") (N := 0) (f := fun _ => .null) (A := fun q => s.heap.size ≤ q) (by decide) (hs _ (by decide +kernel)) (va_eqt (hs (.eq (.length (.static "java/util/ArrayList" "DEFAULTCAPACITY_EMPTY_ELEMENTDATA" "[Ljava/lang/Object;")) (.int 0)) (by decide +kernel))) (fun j hj => absurd hj (Nat.not_lt_zero j)) hA
  refine ⟨((fun k => if k = 0 then c0 else if k = 1 then c1 else if k = 2 then c2 else if k = 3 then c3 else if k = 4 then c4 else if k = 5 then c5 else if k = 6 then c6 else if k = 7 then c7 else if k = 8 then c8 else if k = 9 then c9 else if k = 10 then c10 else if k = 11 then c11 else if k = 12 then c12 else if k = 13 then c13 else c14, fun k => if k = 0 then i0 else if k = 1 then i1 else if k = 2 then i2 else if k = 3 then i3 else if k = 4 then i4 else if k = 5 then i5 else if k = 6 then i6 else if k = 7 then i7 else if k = 8 then i8 else if k = 9 then i9 else if k = 10 then i10 else if k = 11 then i11 else if k = 12 then i12 else if k = 13 then i13 else i14), fun k => if k = 0 then a0 else if k = 1 then a1 else if k = 2 then a2 else if k = 3 then a3 else a4, fun _ => t), ⟨?_, ?_, ?_, lw_nc hg, ?_, ?_, ?_, ?_, ?_⟩, ?_, ?_⟩
  · exact fun q hq => va_Nw.of rfl (hT _ (lw_nm q hq))
  · exact fun q hq => va_Nw.of rfl (hT _ (lw_nf q hq))
  · exact fun q hq => va_Nw.of rfl (hT _ (lw_ca q hq))
  · intro q hq
    obtain ⟨a, c, cA, kA, q1, -⟩ := Cond.exactly_spec (args := #[Value.ref b]) (first := s) (o := none) (s := s) (idx := []) (lw_tx2 hg q hq)
    exact ⟨a, vk_R.of (hT _ (lw_tx q hq)) q1⟩
  · exact vx_Zqof (hT _ (by decide +kernel)) (hT _ (by decide +kernel)) (hs _ (by decide +kernel)) hA
  · exact vx_Zqof (hT _ (by decide +kernel)) (hT _ (by decide +kernel)) (hs _ (by decide +kernel)) hA
  · exact fun q hq => va_Nw.of rfl (hT _ (lw_de q hq))
  · exact ⟨va_AO.of (hT (.arrayOver (.object RX7)) (by decide +kernel)), va_AO.of (hT (.arrayOver (.object "java/lang/Object")) (by decide +kernel)), (hT (.arrayOver (.array .int)) (by decide +kernel)), va_Zref (hT _ (by decide +kernel)) (hT _ (by decide +kernel)) ht hA, hTa, va_Fw.of (hT _ (by decide +kernel)) (hT _ (by decide +kernel)) (hT _ (by decide +kernel)) (hT _ (by decide +kernel)) (hT _ (by decide +kernel))⟩
  · intro k q hq
    match k, hq with
    | 0, hq => cases hq; exact k0
    | 1, hq => cases hq; exact k1
    | 2, hq => cases hq; exact k2
    | 3, hq => cases hq; exact k3
    | 4, hq => cases hq; exact k4
    | 5, hq => cases hq; exact k5
    | 6, hq => cases hq; exact k6
    | 7, hq => cases hq; exact k7
    | 8, hq => cases hq; exact k8
    | 9, hq => cases hq; exact k9
    | 10, hq => cases hq; exact k10
    | 11, hq => cases hq; exact k11
    | 12, hq => cases hq; exact k12
    | 13, hq => cases hq; exact k13
    | 14, hq => cases hq; exact k14
    | k + 15, hq => simp [lwC] at hq
  · intro k q hq
    match k, hq with
    | 0, hq => cases hq; exact ⟨ha0, hr0⟩
    | 1, hq => cases hq; exact ⟨ha1, hr1⟩
    | 2, hq => cases hq; exact ⟨ha2, hr2⟩
    | 3, hq => cases hq; exact ⟨ha3, hr3⟩
    | 4, hq => cases hq; exact ⟨ha4, hr4⟩
    | k + 5, hq => simp at hq
