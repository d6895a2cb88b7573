section
/-! ===== BEGIN words of one list among another's, by their places ===== -/
theorem goodIn_r {big : List Cond} (ws : List Cond) (ps : List Nat) (hp : ws = ps.filterMap (fun i => big[i]?)) (h : ws.all goodWord = true) : GoodIn big ws := by
  intro w hw
  have h1 := List.all_eq_true.mp h w hw
  rw [hp] at hw
  obtain ⟨i, -, hi⟩ := List.mem_filterMap.mp hw
  have hm : w ∈ big := by first | exact List.mem_of_getElem? hi | exact List.getElem?_mem hi
  exact ⟨hm, good_of_word h1⟩
theorem goodIn_app {big a b : List Cond} (ha : GoodIn big a) (hb : GoodIn big b) : GoodIn big (a ++ b) := fun w h => (List.mem_append.mp h).elim (ha w) (hb w)
theorem goodIn_ca {big a b : List Cond} {c : Cond} (ha : GoodIn big (c :: a)) (hb : GoodIn big b) : GoodIn big (c :: (a ++ b)) := fun w h => (List.mem_cons.mp h).elim (fun e => ha w (List.mem_cons.mpr (Or.inl e))) (fun h => (List.mem_append.mp h).elim (fun h => ha w (List.mem_cons.mpr (Or.inr h))) (hb w))
theorem goodIn_sub {big ws : List Cond} (hm : ∀ w ∈ ws, w ∈ big) (h : ws.all goodWord = true) : GoodIn big ws := fun w hw => ⟨hm w hw, good_of_word (List.all_eq_true.mp h w hw)⟩
/-! ===== END ===== -/

/-! ===== BEGIN exceptions that leave a method, and their catching by the caller (launches without stack traces) ===== -/
section VXA
/-! The laws vx_back, vx_callV, vx_callS, vx_callSW, vx_throw0, vx_throwS follow proofs of the library, with one case more: JvmDerived/Free/Laws.lean (Back.of_free), Shelf42/LK1.lean (callV, callS), Shelf/KitTraced.lean (throwNew0V, throwNewS). -/
/-- where a method has thrown q: the class by its name, the cell, what was written, the world -/
def vx_T (XC : String → State → State → Prop) (st : State) (q : Addr) (t : State) (mc ms : Nat) (free : Addr → Prop) : Prop :=
  ∃ (E : String) (ce : Cell) (L : List Loc), XC E st t ∧ t.heap[q]? = some ce ∧ ce.vm = .none ∧ st.vm.findClass E = some ce.cls ∧ st.WarmedH t.vm ∧ st.sameButNew ({ t with vm := st.vm } : State) L mc ms ∧ ∀ z ∈ L, free z.base
def vx_Q (Qc : Array Value → State → Outcome → State → Prop) (XC : String → State → State → Prop) (mc ms : Nat) (free : Addr → Prop) : Array Value → State → Outcome → State → Prop := fun a st o t =>
  (Qc a st o t ∧ ∃ L, FrameEnd st o t L mc ms ∧ ∀ q ∈ L, free q.base) ∨ ∃ q, o = .threw q ∧ vx_T XC st q t mc ms free
/-- a callee that returns or throws -/
def vx_Met (l : Launch) (y : MethodName) (ws : List Cond) (rm : Room) (Pc : Array Value → State → Prop) (Qc : Array Value → State → Outcome → State → Prop) (XC : String → State → State → Prop) (mc ms : Nat) (free : Addr → Prop) : Prop :=
  MetFree l y (headSpec ws rm) Pc (fun _ _ _ _ _ => True) (vx_Q Qc XC mc ms free)
def vx_Post (XC : String → State → State → Prop) (mc ms : Nat) (free : Addr → Prop) : Pt → Array Value → Addr → Pt → Prop := fun A a q B =>
  ∃ (g : JFrame) (mk : MethodId) (t : State) (L : List Loc) (E : String) (ce : Cell), B.U.heap = t.heap ∧ B.U.vm = t.vm ∧ XC E (A.U.calling g mk a) t ∧ t.heap[q]? = some ce ∧ ce.vm = .none ∧ A.U.vm.findClass E = some ce.cls ∧ B.locs = A.locs ++ L ∧ (∀ z ∈ L, free z.base) ∧ B.cells = A.cells + mc ∧ B.slots = A.slots + ms
def vx_Back (l : Launch) (R : Room) (p : Program) (e : Env) (below : List Frame) (s : State) (sargs : Array Value) (y : MethodName) (len W9 : Nat)
    (Pre : Pt → Array Value → Prop) (Post : Pt → Array Value → Option Value → Pt → Prop) (PostX : Pt → Array Value → Addr → Pt → Prop) : Prop :=
  ∀ (m : MethodId) (meth : Method) (c : Code) (A : Pt) (g : JFrame) (ig : Instr) (mk : MethodId) (a : Array Value),
    Stand p l e R s m sargs below meth c A.U A.locs A.cells A.slots → g.method = m → g.locals.size = c.maxLocals → decode c.code g.pc = .ok (ig, len) →
    2 * g.monitorRoom + (g.stack.map fun v => v.category).sum ≤ W9 → A.U.methodNamed? y = some mk → Pre A a →
    (∃ (v : Option Value) (B : Pt), Stand p l e R s m sargs below meth c B.U B.locs B.cells B.slots ∧ Post A a v B ∧
      Steps p.tables e below (doInvoke e (A.U.setTop g) [] mk a).1 (B.U.setTop { g with pc := g.pc + len, stack := v.toList ++ g.stack })) ∨
    (∃ (q : Addr) (B : Pt), Stand p l e R s m sargs below meth c B.U B.locs B.cells B.slots ∧ PostX A a q B ∧
      Steps p.tables e below (doInvoke e (A.U.setTop g) [] mk a).1 ((B.U.setTop g).pushFrame (.throwing q)))
section Payer
variable {l : Launch} {R : Room} {p : Program} {e : Env} {below : List Frame} {s : State} {sargs : Array Value} {y : MethodName} {len W9 : Nat}
theorem vx_back {ws : List Cond} {rm : Room} {Pc : Array Value → State → Prop} {Qc : Array Value → State → Outcome → State → Prop} {XC : String → State → State → Prop} {mc ms : Nat} {free : Addr → Prop} {bytes : ByteArray} {maxL : Nat} {ret : Option FieldType}
    (hM : vx_Met l y ws rm Pc Qc XC mc ms free) (hblind : FrameBlind Pc) (hrc : rm.cells = mc) (hrs : rm.slots = ms)
    (hframes : rm.frames + 1 ≤ R.frames) (hlocals : W9 + (maxL + 11) + rm.locals ≤ R.locals)
    (hws : ∀ w ∈ ws, ∀ a' U, s.WarmedH U.vm → w.before a' U = true) (hcode : Cond.code y bytes maxL ret ∈ ws) (hinit : ∀ a' U, s.WarmedH U.vm → (Cond.initialized y.cls).before a' U = true) :
    vx_Back l R p e below s sargs y len W9 (PreOf R mc ms Pc) (PostOf Qc mc ms free) (vx_Post XC mc ms free) := by
  intro m meth c A g ig mk a X hg hsize hdg hW hn hp
  have h1 : (headSpec ws rm).pre.before a A.U = true := atoms_intro fun w hw => hws w hw _ _ X.warmed
  have h2 : (Cond.code y bytes maxL ret).before a A.U = true := hws _ hcode _ _ X.warmed
  have h3 : (Cond.initialized y.cls).before a A.U = true := hinit _ _ X.warmed
  have h4 : A.cells + (headSpec ws rm).room.cells ≤ R.cells := by rw [show (headSpec ws rm).room.cells = mc from hrc]; exact hp.1
  have h5 : A.slots + (headSpec ws rm).room.slots ≤ R.slots := by rw [show (headSpec ws rm).room.slots = ms from hrs]; exact hp.2.1
  have hPc : Pc a (A.U.calling g mk a) := hblind _ _ _ _ hp.2.2
  obtain ⟨U, Ls, c0, s0⟩ := A
  dsimp only [Pt.U, Pt.locs, Pt.cells, Pt.slots] at h1 h2 h3 h4 h5 X hn hPc ⊢
  obtain ⟨methY, cY, hmY, hcY, -, hlY, -, -, -, -⟩ := Cond.code_spec hn h2
  obtain ⟨kY, hkY, -⟩ := className_of_methodNamed hn
  have hinitY : kY.init = .initialized := Cond.initialized_spec (findClass_of_methodNamed hn) hkY h3
  have h : At U g.method c below := by rw [hg]; exact X.here
  have hlocals9 : W9 + (maxL + 11) + (headSpec ws rm).room.locals ≤ R.locals := hlocals
  have happ : (headSpec ws rm).appliesLoose y e.platform (U.calling g mk a) = true :=
    Spec.appliesLoose_calling (g := g) h hdg hn hkY hinitY
      (X.room_calling (g := g) (R' := (headSpec ws rm).room) hsize hmY hcY hframes (by rw [hlY]; omega) h4 h5) h1
  obtain ⟨mid, hmid⟩ := h.above
  have hfr : (U.setTop g).frames = (.java g :: mid) ++ below := by rw [State.frames_setTop' g h.top, hmid]; rfl
  obtain ⟨o, s₂, hsteps, -, hend, hq⟩ := Steps.callFree hM p X.admits X.cas X.clock (acts := []) hfr happ hPc trivial
  have hq' : vx_Q Qc XC mc ms free a (U.calling g mk a) o s₂ := hq
  rw [State.frames_setTop' g h.top] at hend
  obtain ⟨g₀, hg0⟩ := Option.isSome_iff_exists.mp h.top
  obtain ⟨r, hr⟩ := State.topJava?_eq_some.mp hg0
  have hr' : (({ U with heap := s₂.heap, slotsUsed := s₂.slotsUsed } : State).setVm s₂.vm).frames = .java g₀ :: r := hr
  rcases hq' with ⟨hqc, L, hfe, hL⟩ | ⟨q, rfl, E, ce, L, hx, hce, hcv, hcl, hW₂, hsm, hL⟩
  · obtain ⟨⟨v, rfl⟩, hW₂, e2, q2, q3, q4, q5, q6⟩ := id hfe
    have e3 : s₂ = ({ (U.calling g mk a).setFrames s₂.frames with heap := s₂.heap, slotsUsed := s₂.slotsUsed } : State).setVm s₂.vm := by
      have : s₂ = ({ s₂ with vm := (U.calling g mk a).vm } : State).setVm s₂.vm := rfl
      rw [e2] at this
      exact this
    obtain ⟨c₂, i₂, len₂, hc₂, hd₂, hf₂⟩ := hend
    have hW' : U.WarmedH s₂.vm := hW₂
    have hcc : c₂ = c := by
      have h1 : s₂.code? g.method = U.code? g.method := by
        rw [State.code?_eq, State.code?_eq, hW'.alike.method?]
      exact Option.some.inj (hc₂.symm.trans (h1.trans h.code))
    subst hcc
    have hlen : len₂ = len := by rw [hdg] at hd₂; cases hd₂; rfl
    subst hlen
    have hs₂ : s₂ = (({ U with heap := s₂.heap, slotsUsed := s₂.slotsUsed } : State).setVm s₂.vm).setTop { g with pc := g.pc + len₂, stack := v.toList ++ g.stack } := by
      refine e3.trans ?_
      rw [hf₂, State.calling_eq h.top, State.setFrames_setFrames, State.setTop_of_frames _ hr', hr]
      rfl
    have hsame : U.sameButNew ({ U with heap := s₂.heap, slotsUsed := s₂.slotsUsed } : State) L mc ms := by
      refine ⟨?_, q2, q3, q4, q5, q6⟩
      obtain ⟨t, ht, -⟩ := State.frames_cons hr
      show ({ U with heap := s₂.heap, slotsUsed := s₂.slotsUsed } : State) = { U.setFrames U.frames with heap := s₂.heap, slotsUsed := s₂.slotsUsed }
      rw [State.setFrames_self ht]
    subst hg
    refine Or.inl ⟨v, ⟨(({ U with heap := s₂.heap, slotsUsed := s₂.slotsUsed } : State).setVm s₂.vm), Ls ++ L, c0 + mc, s0 + ms⟩,
      ⟨X.admits, X.cas, X.clock, X.frames, X.room, X.hears, X.method, X.code, (X.here.setHeapUsed s₂.heap s₂.slotsUsed).setVm hW'.alike, X.tail, State.WarmedH.trans X.warmed hW', X.limits, X.bytes, X.same.trans (hsame.setVm s.vm)⟩,
      ⟨g, mk, s₂, L, rfl, rfl, hqc, rfl, hL, rfl, rfl⟩, ?_⟩
    show Steps p.tables e below _ ((({ U with heap := s₂.heap, slotsUsed := s₂.slotsUsed } : State).setVm s₂.vm).setTop { g with pc := g.pc + len₂, stack := v.toList ++ g.stack })
    rw [← hs₂]
    exact hsteps
  · obtain ⟨e2, q2, q3, q4, q5, q6⟩ := id hsm
    have e3 : s₂ = ({ (U.calling g mk a).setFrames s₂.frames with heap := s₂.heap, slotsUsed := s₂.slotsUsed } : State).setVm s₂.vm := by
      have : s₂ = ({ s₂ with vm := (U.calling g mk a).vm } : State).setVm s₂.vm := rfl
      rw [e2] at this
      exact this
    have hf₂ : s₂.frames = .throwing q :: .java g :: U.frames.tail := hend
    have hW' : U.WarmedH s₂.vm := hW₂
    have hs₂ : s₂ = ((({ U with heap := s₂.heap, slotsUsed := s₂.slotsUsed } : State).setVm s₂.vm).setTop g).pushFrame (.throwing q) := by
      refine e3.trans ?_
      rw [hf₂, State.calling_eq h.top, State.setFrames_setFrames, State.pushFrame, State.frames_setTop _ hr', State.setTop_of_frames _ hr', State.setFrames_setFrames, hr]
      rfl
    have hsame : U.sameButNew ({ U with heap := s₂.heap, slotsUsed := s₂.slotsUsed } : State) L mc ms := by
      refine ⟨?_, q2, q3, q4, q5, q6⟩
      obtain ⟨t, ht, -⟩ := State.frames_cons hr
      show ({ U with heap := s₂.heap, slotsUsed := s₂.slotsUsed } : State) = { U.setFrames U.frames with heap := s₂.heap, slotsUsed := s₂.slotsUsed }
      rw [State.setFrames_self ht]
    subst hg
    refine Or.inr ⟨q, ⟨(({ U with heap := s₂.heap, slotsUsed := s₂.slotsUsed } : State).setVm s₂.vm), Ls ++ L, c0 + mc, s0 + ms⟩,
      ⟨X.admits, X.cas, X.clock, X.frames, X.room, X.hears, X.method, X.code, (X.here.setHeapUsed s₂.heap s₂.slotsUsed).setVm hW'.alike, X.tail, State.WarmedH.trans X.warmed hW', X.limits, X.bytes, X.same.trans (hsame.setVm s.vm)⟩,
      ⟨g, mk, s₂, L, E, ce, rfl, rfl, hx, hce, hcv, hcl, rfl, hL, rfl, rfl⟩, ?_⟩
    show Steps p.tables e below _ (((({ U with heap := s₂.heap, slotsUsed := s₂.slotsUsed } : State).setVm s₂.vm).setTop g).pushFrame (.throwing q))
    rw [← hs₂]
    exact hsteps
end Payer
section Calls
variable {p : Program} {l : Launch} {e : Env} {R : Room} {s : State} {m : MethodId} {args : Array Value} {below : List Frame} {meth : Method} {c : Code} {T : State} {locs : List Loc} {cells slots : Nat}
theorem vx_callV (X : Stand p l e R s m args below meth c T locs cells slots) (hexec : p.tables.exec = Jvm.exec) {own C : String} {index : Nat} {y : MethodName} {bytes : ByteArray} {maxL : Nat} {ret : Option FieldType}
    (hown : s.vm.findClass own = some m.cls) (hlink : (Cond.methodLink own index y).before args s = true) (hinst : (Cond.instanceMethod y).before args s = true) (hsel : (Cond.selects C y y).before args s = true)
    (hcode : (Cond.code y bytes maxL ret).before args s = true) (hy : y.cls ≠ "java/lang/invoke/MethodHandle" ∧ y.cls ≠ "java/lang/invoke/VarHandle")
    {W9 : Nat} {Pre : Pt → Array Value → Prop} {Post : Pt → Array Value → Option Value → Pt → Prop} {PostX : Pt → Array Value → Addr → Pt → Prop} (hK : vx_Back l R p e below s args y 3 W9 Pre Post PostX)
    {b : Addr} {cellB : Cell} (hcell : T.heap[b]? = some cellB) (hobj : cellB.vm.isStatics = false) (hcls : s.vm.findClass C = some cellB.cls)
    {g : JFrame} (hg : g.method = m) (hsize : g.locals.size = c.maxLocals) {argsL rest : List Value} (hlen : ∀ sig, parseMethodDescriptor y.desc = some sig → argsL.length = sig.parameters.length)
    (hstack : g.stack = argsL.reverse ++ .ref b :: rest) (hW : 2 * g.monitorRoom + (rest.map fun v => v.category).sum ≤ W9) (hdg : decode c.code g.pc = .ok (.invokevirtual index, 3))
    (hpre : ∀ vm₁, s.WarmedH vm₁ → Pre ⟨T.setVm vm₁, locs, cells, slots⟩ (Value.ref b :: argsL).toArray) :
    (∃ (v : Option Value) (vm₁ : Vm) (B : Pt), s.WarmedH vm₁ ∧ Stand p l e R s m args below meth c B.U B.locs B.cells B.slots ∧ Post ⟨T.setVm vm₁, locs, cells, slots⟩ (Value.ref b :: argsL).toArray v B ∧
      ∀ target, Steps p.tables e below (B.U.setTop { g with pc := g.pc + 3, stack := v.toList ++ rest }) target → Steps p.tables e below (T.setTop g) target) ∨
    (∃ (q : Addr) (vm₁ : Vm) (B : Pt), s.WarmedH vm₁ ∧ Stand p l e R s m args below meth c B.U B.locs B.cells B.slots ∧ PostX ⟨T.setVm vm₁, locs, cells, slots⟩ (Value.ref b :: argsL).toArray q B ∧
      Steps p.tables e below (T.setTop g) ((B.U.setTop { g with stack := rest }).pushFrame (.throwing q))) := by
  obtain ⟨mk, methM, hnamed, hmethM, hstM, habM⟩ := Cond.instanceMethod_spec hinst
  obtain ⟨methM', cM, hmethM', -, -, -, -, -, -, hsigM⟩ := Cond.code_spec hnamed hcode
  cases hmethM.symm.trans hmethM'
  obtain ⟨c2, r2, m2, q1, q2, q3, q4, kP, hkP, hkPi⟩ := Cond.selects_spec hsel
  cases hcls.symm.trans q1
  cases (State.methodFound?_of_named hnamed hy).symm.trans q2
  cases hnamed.symm.trans q3
  have hselP : selectMethod e.platform s.vm cellB.cls mk = .method mk := by rw [Launch.admits_selectMethod X.admits]; exact q4
  obtain ⟨vm₁, X₁, hstep₁⟩ := X.invokevirtual hexec hown hlink hnamed hmethM hstM hkP hkPi hy (a := b) (cell := cellB) hcell
    (fun z h => by rw [h] at hobj; cases hobj) hselP hmethM habM hkP hkPi (g := g) hg (argsL := argsL) (rest := rest) (hlen _ hsigM) hstack hdg
  rcases hK m meth c ⟨T.setVm vm₁, locs, cells, slots⟩ { g with stack := rest } (.invokevirtual index) mk (Value.ref b :: argsL).toArray X₁ hg hsize hdg hW (X₁.named hnamed) (hpre vm₁ X₁.warmed) with ⟨v, B, X', hpost, hsteps⟩ | ⟨q, B, X', hpost, hsteps⟩
  · exact Or.inl ⟨v, vm₁, B, X₁.warmed, X', hpost, fun target h => hstep₁ _ fun acts => by rw [doInvoke_state]; exact hsteps.trans h⟩
  · exact Or.inr ⟨q, vm₁, B, X₁.warmed, X', hpost, hstep₁ _ fun acts => by rw [doInvoke_state]; exact hsteps⟩
theorem vx_callS (X : Stand p l e R s m args below meth c T locs cells slots) (hexec : p.tables.exec = Jvm.exec) {own : String} {index : Nat} {y : MethodName} {bytes : ByteArray} {maxL : Nat} {ret : Option FieldType}
    (hown : s.vm.findClass own = some m.cls) (hlink : (Cond.methodLink own index y).before args s = true) (hstat : (Cond.static y).before args s = true) (hinit : (Cond.initialized y.cls).before args s = true)
    (hcode : (Cond.code y bytes maxL ret).before args s = true) (hy : y.cls ≠ "java/lang/invoke/MethodHandle" ∧ y.cls ≠ "java/lang/invoke/VarHandle")
    {W9 : Nat} {Pre : Pt → Array Value → Prop} {Post : Pt → Array Value → Option Value → Pt → Prop} {PostX : Pt → Array Value → Addr → Pt → Prop} (hK : vx_Back l R p e below s args y 3 W9 Pre Post PostX)
    {g : JFrame} (hg : g.method = m) (hsize : g.locals.size = c.maxLocals) {argsL rest : List Value} (hlen : ∀ sig, parseMethodDescriptor y.desc = some sig → argsL.length = sig.parameters.length)
    (hstack : g.stack = argsL.reverse ++ rest) (hW : 2 * g.monitorRoom + (rest.map fun v => v.category).sum ≤ W9) (hdg : decode c.code g.pc = .ok (.invokestatic index, 3))
    (hpre : ∀ vm₁, s.WarmedH vm₁ → Pre ⟨T.setVm vm₁, locs, cells, slots⟩ argsL.toArray) :
    (∃ (v : Option Value) (vm₁ : Vm) (B : Pt), s.WarmedH vm₁ ∧ Stand p l e R s m args below meth c B.U B.locs B.cells B.slots ∧ Post ⟨T.setVm vm₁, locs, cells, slots⟩ argsL.toArray v B ∧
      ∀ target, Steps p.tables e below (B.U.setTop { g with pc := g.pc + 3, stack := v.toList ++ rest }) target → Steps p.tables e below (T.setTop g) target) ∨
    (∃ (q : Addr) (vm₁ : Vm) (B : Pt), s.WarmedH vm₁ ∧ Stand p l e R s m args below meth c B.U B.locs B.cells B.slots ∧ PostX ⟨T.setVm vm₁, locs, cells, slots⟩ argsL.toArray q B ∧
      Steps p.tables e below (T.setTop g) ((B.U.setTop { g with stack := rest }).pushFrame (.throwing q))) := by
  obtain ⟨mk, hnamed⟩ := Cond.code_named hcode
  obtain ⟨methM, cM, hmethM, -, -, -, -, -, -, hsigM⟩ := Cond.code_spec hnamed hcode
  have hstatic : methM.isStatic = true := Cond.static_spec hnamed hmethM hstat
  obtain ⟨kP, hkP, -⟩ := className_of_methodNamed hnamed
  have hinitP : kP.init = .initialized := Cond.initialized_spec (findClass_of_methodNamed hnamed) hkP hinit
  obtain ⟨vm₁, X₁, hstep₁⟩ := X.invokestatic hexec hown hlink hnamed hmethM hstatic hkP hinitP hy (g := g) hg (argsL := argsL) (rest := rest) (hlen _ hsigM) hstack hdg
  rcases hK m meth c ⟨T.setVm vm₁, locs, cells, slots⟩ { g with stack := rest } (.invokestatic index) mk argsL.toArray X₁ hg hsize hdg hW (X₁.named hnamed) (hpre vm₁ X₁.warmed) with ⟨v, B, X', hpost, hsteps⟩ | ⟨q, B, X', hpost, hsteps⟩
  · exact Or.inl ⟨v, vm₁, B, X₁.warmed, X', hpost, fun target h => hstep₁ _ fun acts => by rw [doInvoke_state]; exact hsteps.trans h⟩
  · exact Or.inr ⟨q, vm₁, B, X₁.warmed, X', hpost, hstep₁ _ fun acts => by rw [doInvoke_state]; exact hsteps⟩
end Calls
theorem vx_cls {s : State} {T : State} {vm₁ : Vm} {E : String} {k : ClassId} (hW : s.WarmedH vm₁) (h : (T.setVm vm₁).vm.findClass E = some k) : s.vm.findClass E = some k := by
  have h1 : vm₁.findClass E = some k := h
  rw [hW.alike.findClass] at h1
  exact h1
/-- the method's frame g, with q thrown over it -/
def vx_W (p : Program) (l : Launch) (e : Env) (R : Room) (s : State) (m : MethodId) (args : Array Value) (below : List Frame) (meth : Method) (c : Code) (H : Heap) (locs : List Loc) (cells slots : Nat) (Q : State → Prop) (g : JFrame) (q : Addr) : Prop :=
  ∀ T : State, T.heap = H → Stand p l e R s m args below meth c T locs cells slots → ∃ t, Steps p.tables e below ((T.setTop g).pushFrame (.throwing q)) t ∧ Q t
def vx_Run (p : Program) (l : Launch) (e : Env) (R : Room) (s : State) (m : MethodId) (args : Array Value) (below : List Frame) (meth : Method) (c : Code) (H : Heap) (locs : List Loc) (cells slots mc ms : Nat) (g : JFrame) (rest : List Value) (Qa : State → Outcome → State → Prop) (XC : String → State → State → Prop) (free : Addr → Prop) : Prop :=
  ∀ T : State, T.heap = H → Stand p l e R s m args below meth c T locs cells slots →
    (∃ (v : Option Value) (st₀ t T' : State) (L : List Loc), st₀.heap = H ∧ Stand p l e R s m args below meth c T' (locs ++ L) (cells + mc) (slots + ms) ∧ (∀ q ∈ L, free q.base) ∧ T'.heap = t.heap ∧ T'.vm = t.vm ∧ Qa st₀ (.returned v) t ∧
      Goes p e below T g T' { g with pc := g.pc + 3, stack := v.toList ++ rest }) ∨
    (∃ (q : Addr) (st₀ t T' : State) (L : List Loc) (E : String) (ce : Cell), st₀.heap = H ∧ Stand p l e R s m args below meth c T' (locs ++ L) (cells + mc) (slots + ms) ∧ (∀ z ∈ L, free z.base) ∧ T'.heap = t.heap ∧ T'.vm = t.vm ∧ XC E st₀ t ∧ t.heap[q]? = some ce ∧ ce.vm = .none ∧ s.vm.findClass E = some ce.cls ∧
      Steps p.tables e below (T.setTop g) ((T'.setTop { g with stack := rest }).pushFrame (.throwing q)))
def vx_X {S : Type} (px : S → Prop) (B : String → S → State → Prop) (A : Nat → Prop) : String → State → State → Prop := fun E st t => ∃ u : S, px u ∧ B E u t ∧ va_F A st t
section Runs
variable {p : Program} {l : Launch} {e : Env} {R : Room} {s : State} {m : MethodId} {args : Array Value} {below : List Frame} {meth : Method} {c : Code} {H : Heap} {locs : List Loc} {cells slots : Nat}
variable {y : MethodName} {bytes cc : ByteArray} {maxL nL mc ms n index : Nat} {ret : Option FieldType} {ws : List Cond} {rm : Room} {Pc : Array Value → State → Prop} {Qc : Array Value → State → Outcome → State → Prop} {XC : String → State → State → Prop} {free : Addr → Prop} {Ts : List Cond} {own C : String} {b : Addr} {As rest : List Value} {g : JFrame}
theorem vx_callBack (cb : CallB R s args own index y bytes maxL ret ws rm mc ms n) (hM : vx_Met l y ws rm Pc Qc XC mc ms free) (hbl : FrameBlind Pc) : vx_Back l R p e below s args y 3 8 (PreOf R mc ms Pc) (PostOf Qc mc ms free) (vx_Post XC mc ms free) := by
  obtain ⟨hrc, hrs, hfr, hlo, hws, hcw, -, hini, -⟩ := cb
  exact vx_back (bytes := bytes) (maxL := maxL) (ret := ret) hM hbl hrc hrs hfr hlo hws hcw (fun a' U hW => word_at hW (Or.inl (by first | rfl | simp [Cond.onTables, Cond.keeps, Cond.steady])) hini)
theorem vx_runV (S : CallFix p m c cc nL s args Ts own) (hM : vx_Met l y ws rm Pc Qc XC mc ms free) (cw : CallW R s args own C index y bytes maxL ret ws rm mc ms n) (hp : PreV s H C b Pc As)
    (hg : g.method = m) (hn : As.length = n) (hsize : g.locals.size = nL) (hstack : g.stack = As.reverse ++ .ref b :: rest) (hW : 2 * g.monitorRoom + (rest.map fun v => v.category).sum ≤ 8) (hdg : decode cc g.pc = .ok (.invokevirtual index, 3)) (hf : cells + mc ≤ R.cells ∧ slots + ms ≤ R.slots) :
    vx_Run p l e R s m args below meth c H locs cells slots mc ms g rest (Qc (Value.ref b :: As).toArray) XC free := by
  have hK : vx_Back l R p e below s args y 3 8 (PreOf R mc ms Pc) (PostOf Qc mc ms free) (vx_Post XC mc ms free) := vx_callBack cw.1 hM hp.1
  obtain ⟨⟨-, -, -, -, -, -, hcode, -, hy, hlen, hl⟩, hin, hse⟩ := cw
  obtain ⟨hx, hb, hml, ho, -⟩ := S
  obtain ⟨-, ⟨cellB, hcB, hoB, hclB⟩, hPc⟩ := hp
  intro T hT X
  rcases vx_callV X hx (C := C) (bytes := bytes) (maxL := maxL) (ret := ret) ho hl hin hse hcode hy hK (by rw [hT]; exact hcB) hoB hclB hg (hsize.trans hml.symm) (argsL := As) (rest := rest) (fun sig h => hn.trans (hlen sig h)) hstack hW (by rw [hb]; exact hdg)
    (fun vm₁ hW₁ => ⟨hf.1, hf.2, hPc (T.setVm vm₁) hT hW₁⟩) with ⟨v, vm₁, ⟨U', l2, c2, s2⟩, hW₁, X', ⟨g', mk, t, L, e1, e2, hq, h1, hL, h2, h3⟩, st⟩ | ⟨q, vm₁, ⟨U', l2, c2, s2⟩, hW₁, X', ⟨g', mk, t, L, E, ce, e1, e2, hq, hce, hcv, hcl, h1, hL, h2, h3⟩, st⟩
  · dsimp only [Pt.U, Pt.locs, Pt.cells, Pt.slots] at X' e1 e2 h1 h2 h3 st
    subst h1; subst h2; subst h3
    exact Or.inl ⟨v, (T.setVm vm₁).calling g' mk (Value.ref b :: As).toArray, t, U', L, hT, X', hL, e1, e2, hq, st⟩
  · dsimp only [Pt.U, Pt.locs, Pt.cells, Pt.slots] at X' e1 e2 h1 h2 h3 st hcl
    subst h1; subst h2; subst h3
    exact Or.inr ⟨q, (T.setVm vm₁).calling g' mk (Value.ref b :: As).toArray, t, U', L, E, ce, hT, X', hL, e1, e2, hq, hce, hcv, vx_cls hW₁ hcl, st⟩
theorem vx_runS (S : CallFix p m c cc nL s args Ts own) (hM : vx_Met l y ws rm Pc Qc XC mc ms free) (cw : CallB R s args own index y bytes maxL ret ws rm mc ms n ∧ (Cond.static y).before args s = true) (hp : PreS s H Pc As)
    (hg : g.method = m) (hn : As.length = n) (hsize : g.locals.size = nL) (hstack : g.stack = As.reverse ++ rest) (hW : 2 * g.monitorRoom + (rest.map fun v => v.category).sum ≤ 8) (hdg : decode cc g.pc = .ok (.invokestatic index, 3)) (hf : cells + mc ≤ R.cells ∧ slots + ms ≤ R.slots) :
    vx_Run p l e R s m args below meth c H locs cells slots mc ms g rest (Qc As.toArray) XC free := by
  have hK : vx_Back l R p e below s args y 3 8 (PreOf R mc ms Pc) (PostOf Qc mc ms free) (vx_Post XC mc ms free) := vx_callBack cw.1 hM hp.1
  obtain ⟨⟨-, -, -, -, -, -, hcode, hini, hy, hlen, hl⟩, hstt⟩ := cw
  obtain ⟨hx, hb, hml, ho, -⟩ := S
  intro T hT X
  rcases vx_callS X hx (bytes := bytes) (maxL := maxL) (ret := ret) ho hl hstt hini hcode hy hK hg (hsize.trans hml.symm) (argsL := As) (rest := rest) (fun sig h => hn.trans (hlen sig h)) hstack hW (by rw [hb]; exact hdg)
    (fun vm₁ hW₁ => ⟨hf.1, hf.2, hp.2 (T.setVm vm₁) hT hW₁⟩) with ⟨v, vm₁, ⟨U', l2, c2, s2⟩, hW₁, X', ⟨g', mk, t, L, e1, e2, hq, h1, hL, h2, h3⟩, st⟩ | ⟨q, vm₁, ⟨U', l2, c2, s2⟩, hW₁, X', ⟨g', mk, t, L, E, ce, e1, e2, hq, hce, hcv, hcl, h1, hL, h2, h3⟩, st⟩
  · dsimp only [Pt.U, Pt.locs, Pt.cells, Pt.slots] at X' e1 e2 h1 h2 h3 st
    subst h1; subst h2; subst h3
    exact Or.inl ⟨v, (T.setVm vm₁).calling g' mk As.toArray, t, U', L, hT, X', hL, e1, e2, hq, st⟩
  · dsimp only [Pt.U, Pt.locs, Pt.cells, Pt.slots] at X' e1 e2 h1 h2 h3 st hcl
    subst h1; subst h2; subst h3
    exact Or.inr ⟨q, (T.setVm vm₁).calling g' mk As.toArray, t, U', L, E, ce, hT, X', hL, e1, e2, hq, hce, hcv, vx_cls hW₁ hcl, st⟩
end Runs
section Rows
variable {p : Program} {l : Launch} {e : Env} {R : Room} {s : State} {m : MethodId} {args : Array Value} {below : List Frame} {meth : Method} {c : Code} {H : Heap} {locs : List Loc} {cells slots : Nat} {Q : State → Prop}
variable {mc ms : Nat} {free : Addr → Prop} {A0 A1 : Nat → Prop} {H0 : Heap} {a : Array Value} {pc : Nat} {ls : Array Slot} {st0 rest : List Value}
theorem vx_keep {st₀ t T' : State} {L : List Loc} (h0 : st₀.heap = H) (e1 : T'.heap = t.heap) (hS : va_S A0 H0 H locs) (hA : ∀ q, q < H.size → A1 q → A0 q) (hf : ∀ q, free q → A0 q) (hL : ∀ q ∈ L, free q.base) (hF : va_F A1 st₀ t) :
    H.size ≤ T'.heap.size ∧ (∀ q : Nat, q < H.size → ¬ A1 q → T'.heap[q]? = H[q]?) ∧ va_S A0 H0 T'.heap (locs ++ L) := by
  obtain ⟨hz, hk⟩ := hF
  rw [h0] at hz hk
  exact ⟨by rw [e1]; exact hz, fun q h1 h2 => by rw [e1]; exact hk q h1 h2,
    ⟨Nat.le_trans hS.1 (by rw [e1]; exact hz), fun q h1 h2 => by rw [e1, hk q (Nat.lt_of_lt_of_le h1 hS.1) (fun z => h2 (hA q (Nat.lt_of_lt_of_le h1 hS.1) z))]; exact hS.2.1 q h1 h2, fun q hq => by
      rcases List.mem_append.mp hq with h | h
      · exact hS.2.2 q h
      · exact hf _ (hL q h)⟩⟩
theorem vx_calli {S SX : Type} {post : Int32 → S → Prop} {px : SX → Prop} {B : S → State → Prop} {BX : String → SX → State → Prop} {AX : Nat → Prop} (hr : vx_Run p l e R s m args below meth c H locs cells slots mc ms (F0 m pc ls st0) rest (va_Qi post B A1 a) (vx_X px BX AX) free) (hS : va_S A0 H0 H locs) (hA : ∀ q, q < H.size → A1 q → A0 q) (hf : ∀ q, free q → A0 q) (hAX : ∀ q, q < H.size → AX q → A0 q)
    (kx : ∀ (E : String) (ce : Cell) (q9 : Addr) (u : SX) (t : State) (H1 : Heap) (locs1 : List Loc), t.heap = H1 → s.vm.Alike t.vm → px u → BX E u t → H.size ≤ H1.size → (∀ q : Nat, q < H.size → ¬ AX q → H1[q]? = H[q]?) → va_S A0 H0 H1 locs1 → H1[q9]? = some ce → ce.vm = .none → s.vm.findClass E = some ce.cls → vx_W p l e R s m args below meth c H1 locs1 (cells + mc) (slots + ms) Q (F0 m pc ls rest) q9)
    (kk : ∀ (r : Int32) (u : S) (t : State) (H1 : Heap) (locs1 : List Loc), t.heap = H1 → s.vm.Alike t.vm → post r u → B u t → H.size ≤ H1.size → (∀ q : Nat, q < H.size → ¬ A1 q → H1[q]? = H[q]?) → va_S A0 H0 H1 locs1 → W p l e R s m args below meth c H1 locs1 (cells + mc) (slots + ms) Q (F0 m (pc + 3) ls (.int r :: rest))) : W p l e R s m args below meth c H locs cells slots Q (F0 m pc ls st0) := by
  intro T hT X
  rcases hr T hT X with ⟨v, st₀, t, T', L, h0, X', hL, e1, e2, ⟨⟨r, u, hv, hp, hb⟩, hF⟩, st⟩ | ⟨q, st₀, t, T', L, E, ce, h0, X', hL, e1, e2, ⟨u, hp, hb, hF⟩, hce, hcv, hcl, st⟩
  · cases hv
    obtain ⟨k1, k2, k3⟩ := vx_keep h0 e1 hS hA hf hL hF
    obtain ⟨t2, a1, b1⟩ := kk r u t T'.heap (locs ++ L) e1.symm (by rw [← e2]; exact X'.warmed.alike) hp hb k1 k2 k3 T' rfl X'
    exact ⟨t2, st t2 a1, b1⟩
  · obtain ⟨k1, k2, k3⟩ := vx_keep h0 e1 hS hAX hf hL hF
    obtain ⟨t2, a1, b1⟩ := kx E ce q u t T'.heap (locs ++ L) e1.symm (by rw [← e2]; exact X'.warmed.alike) hp hb k1 k2 k3 (by rw [e1]; exact hce) hcv hcl T' rfl X'
    exact ⟨t2, st.trans a1, b1⟩
theorem vx_calll {S SX : Type} {post : Int64 → S → Prop} {px : SX → Prop} {B : S → State → Prop} {BX : String → SX → State → Prop} {AX : Nat → Prop} (hr : vx_Run p l e R s m args below meth c H locs cells slots mc ms (F0 m pc ls st0) rest (va_Ql post B A1 a) (vx_X px BX AX) free) (hS : va_S A0 H0 H locs) (hA : ∀ q, q < H.size → A1 q → A0 q) (hf : ∀ q, free q → A0 q) (hAX : ∀ q, q < H.size → AX q → A0 q)
    (kx : ∀ (E : String) (ce : Cell) (q9 : Addr) (u : SX) (t : State) (H1 : Heap) (locs1 : List Loc), t.heap = H1 → s.vm.Alike t.vm → px u → BX E u t → H.size ≤ H1.size → (∀ q : Nat, q < H.size → ¬ AX q → H1[q]? = H[q]?) → va_S A0 H0 H1 locs1 → H1[q9]? = some ce → ce.vm = .none → s.vm.findClass E = some ce.cls → vx_W p l e R s m args below meth c H1 locs1 (cells + mc) (slots + ms) Q (F0 m pc ls rest) q9)
    (kk : ∀ (r : Int64) (u : S) (t : State) (H1 : Heap) (locs1 : List Loc), t.heap = H1 → s.vm.Alike t.vm → post r u → B u t → H.size ≤ H1.size → (∀ q : Nat, q < H.size → ¬ A1 q → H1[q]? = H[q]?) → va_S A0 H0 H1 locs1 → W p l e R s m args below meth c H1 locs1 (cells + mc) (slots + ms) Q (F0 m (pc + 3) ls (.long r :: rest))) : W p l e R s m args below meth c H locs cells slots Q (F0 m pc ls st0) := by
  intro T hT X
  rcases hr T hT X with ⟨v, st₀, t, T', L, h0, X', hL, e1, e2, ⟨⟨r, u, hv, hp, hb⟩, hF⟩, st⟩ | ⟨q, st₀, t, T', L, E, ce, h0, X', hL, e1, e2, ⟨u, hp, hb, hF⟩, hce, hcv, hcl, st⟩
  · cases hv
    obtain ⟨k1, k2, k3⟩ := vx_keep h0 e1 hS hA hf hL hF
    obtain ⟨t2, a1, b1⟩ := kk r u t T'.heap (locs ++ L) e1.symm (by rw [← e2]; exact X'.warmed.alike) hp hb k1 k2 k3 T' rfl X'
    exact ⟨t2, st t2 a1, b1⟩
  · obtain ⟨k1, k2, k3⟩ := vx_keep h0 e1 hS hAX hf hL hF
    obtain ⟨t2, a1, b1⟩ := kx E ce q u t T'.heap (locs ++ L) e1.symm (by rw [← e2]; exact X'.warmed.alike) hp hb k1 k2 k3 (by rw [e1]; exact hce) hcv hcl T' rfl X'
    exact ⟨t2, st.trans a1, b1⟩
theorem vx_callf {S SX : Type} {post : UInt32 → S → Prop} {px : SX → Prop} {B : S → State → Prop} {BX : String → SX → State → Prop} {AX : Nat → Prop} (hr : vx_Run p l e R s m args below meth c H locs cells slots mc ms (F0 m pc ls st0) rest (va_Qf post B A1 a) (vx_X px BX AX) free) (hS : va_S A0 H0 H locs) (hA : ∀ q, q < H.size → A1 q → A0 q) (hf : ∀ q, free q → A0 q) (hAX : ∀ q, q < H.size → AX q → A0 q)
    (kx : ∀ (E : String) (ce : Cell) (q9 : Addr) (u : SX) (t : State) (H1 : Heap) (locs1 : List Loc), t.heap = H1 → s.vm.Alike t.vm → px u → BX E u t → H.size ≤ H1.size → (∀ q : Nat, q < H.size → ¬ AX q → H1[q]? = H[q]?) → va_S A0 H0 H1 locs1 → H1[q9]? = some ce → ce.vm = .none → s.vm.findClass E = some ce.cls → vx_W p l e R s m args below meth c H1 locs1 (cells + mc) (slots + ms) Q (F0 m pc ls rest) q9)
    (kk : ∀ (r : UInt32) (u : S) (t : State) (H1 : Heap) (locs1 : List Loc), t.heap = H1 → s.vm.Alike t.vm → post r u → B u t → H.size ≤ H1.size → (∀ q : Nat, q < H.size → ¬ A1 q → H1[q]? = H[q]?) → va_S A0 H0 H1 locs1 → W p l e R s m args below meth c H1 locs1 (cells + mc) (slots + ms) Q (F0 m (pc + 3) ls (.float r :: rest))) : W p l e R s m args below meth c H locs cells slots Q (F0 m pc ls st0) := by
  intro T hT X
  rcases hr T hT X with ⟨v, st₀, t, T', L, h0, X', hL, e1, e2, ⟨⟨r, u, hv, hp, hb⟩, hF⟩, st⟩ | ⟨q, st₀, t, T', L, E, ce, h0, X', hL, e1, e2, ⟨u, hp, hb, hF⟩, hce, hcv, hcl, st⟩
  · cases hv
    obtain ⟨k1, k2, k3⟩ := vx_keep h0 e1 hS hA hf hL hF
    obtain ⟨t2, a1, b1⟩ := kk r u t T'.heap (locs ++ L) e1.symm (by rw [← e2]; exact X'.warmed.alike) hp hb k1 k2 k3 T' rfl X'
    exact ⟨t2, st t2 a1, b1⟩
  · obtain ⟨k1, k2, k3⟩ := vx_keep h0 e1 hS hAX hf hL hF
    obtain ⟨t2, a1, b1⟩ := kx E ce q u t T'.heap (locs ++ L) e1.symm (by rw [← e2]; exact X'.warmed.alike) hp hb k1 k2 k3 (by rw [e1]; exact hce) hcv hcl T' rfl X'
    exact ⟨t2, st.trans a1, b1⟩
theorem vx_calld {S SX : Type} {post : UInt64 → S → Prop} {px : SX → Prop} {B : S → State → Prop} {BX : String → SX → State → Prop} {AX : Nat → Prop} (hr : vx_Run p l e R s m args below meth c H locs cells slots mc ms (F0 m pc ls st0) rest (va_Qd post B A1 a) (vx_X px BX AX) free) (hS : va_S A0 H0 H locs) (hA : ∀ q, q < H.size → A1 q → A0 q) (hf : ∀ q, free q → A0 q) (hAX : ∀ q, q < H.size → AX q → A0 q)
    (kx : ∀ (E : String) (ce : Cell) (q9 : Addr) (u : SX) (t : State) (H1 : Heap) (locs1 : List Loc), t.heap = H1 → s.vm.Alike t.vm → px u → BX E u t → H.size ≤ H1.size → (∀ q : Nat, q < H.size → ¬ AX q → H1[q]? = H[q]?) → va_S A0 H0 H1 locs1 → H1[q9]? = some ce → ce.vm = .none → s.vm.findClass E = some ce.cls → vx_W p l e R s m args below meth c H1 locs1 (cells + mc) (slots + ms) Q (F0 m pc ls rest) q9)
    (kk : ∀ (r : UInt64) (u : S) (t : State) (H1 : Heap) (locs1 : List Loc), t.heap = H1 → s.vm.Alike t.vm → post r u → B u t → H.size ≤ H1.size → (∀ q : Nat, q < H.size → ¬ A1 q → H1[q]? = H[q]?) → va_S A0 H0 H1 locs1 → W p l e R s m args below meth c H1 locs1 (cells + mc) (slots + ms) Q (F0 m (pc + 3) ls (.double r :: rest))) : W p l e R s m args below meth c H locs cells slots Q (F0 m pc ls st0) := by
  intro T hT X
  rcases hr T hT X with ⟨v, st₀, t, T', L, h0, X', hL, e1, e2, ⟨⟨r, u, hv, hp, hb⟩, hF⟩, st⟩ | ⟨q, st₀, t, T', L, E, ce, h0, X', hL, e1, e2, ⟨u, hp, hb, hF⟩, hce, hcv, hcl, st⟩
  · cases hv
    obtain ⟨k1, k2, k3⟩ := vx_keep h0 e1 hS hA hf hL hF
    obtain ⟨t2, a1, b1⟩ := kk r u t T'.heap (locs ++ L) e1.symm (by rw [← e2]; exact X'.warmed.alike) hp hb k1 k2 k3 T' rfl X'
    exact ⟨t2, st t2 a1, b1⟩
  · obtain ⟨k1, k2, k3⟩ := vx_keep h0 e1 hS hAX hf hL hF
    obtain ⟨t2, a1, b1⟩ := kx E ce q u t T'.heap (locs ++ L) e1.symm (by rw [← e2]; exact X'.warmed.alike) hp hb k1 k2 k3 (by rw [e1]; exact hce) hcv hcl T' rfl X'
    exact ⟨t2, st.trans a1, b1⟩
theorem vx_callv {S SX : Type} {post : S → Prop} {px : SX → Prop} {B : S → State → Prop} {BX : String → SX → State → Prop} {AX : Nat → Prop} (hr : vx_Run p l e R s m args below meth c H locs cells slots mc ms (F0 m pc ls st0) rest (va_Qv post B A1 a) (vx_X px BX AX) free) (hS : va_S A0 H0 H locs) (hA : ∀ q, q < H.size → A1 q → A0 q) (hf : ∀ q, free q → A0 q) (hAX : ∀ q, q < H.size → AX q → A0 q)
    (kx : ∀ (E : String) (ce : Cell) (q9 : Addr) (u : SX) (t : State) (H1 : Heap) (locs1 : List Loc), t.heap = H1 → s.vm.Alike t.vm → px u → BX E u t → H.size ≤ H1.size → (∀ q : Nat, q < H.size → ¬ AX q → H1[q]? = H[q]?) → va_S A0 H0 H1 locs1 → H1[q9]? = some ce → ce.vm = .none → s.vm.findClass E = some ce.cls → vx_W p l e R s m args below meth c H1 locs1 (cells + mc) (slots + ms) Q (F0 m pc ls rest) q9)
    (kk : ∀ (u : S) (t : State) (H1 : Heap) (locs1 : List Loc), t.heap = H1 → s.vm.Alike t.vm → post u → B u t → H.size ≤ H1.size → (∀ q : Nat, q < H.size → ¬ A1 q → H1[q]? = H[q]?) → va_S A0 H0 H1 locs1 → W p l e R s m args below meth c H1 locs1 (cells + mc) (slots + ms) Q (F0 m (pc + 3) ls (rest))) : W p l e R s m args below meth c H locs cells slots Q (F0 m pc ls st0) := by
  intro T hT X
  rcases hr T hT X with ⟨v, st₀, t, T', L, h0, X', hL, e1, e2, ⟨⟨u, hv, hp, hb⟩, hF⟩, st⟩ | ⟨q, st₀, t, T', L, E, ce, h0, X', hL, e1, e2, ⟨u, hp, hb, hF⟩, hce, hcv, hcl, st⟩
  · cases hv
    obtain ⟨k1, k2, k3⟩ := vx_keep h0 e1 hS hA hf hL hF
    obtain ⟨t2, a1, b1⟩ := kk u t T'.heap (locs ++ L) e1.symm (by rw [← e2]; exact X'.warmed.alike) hp hb k1 k2 k3 T' rfl X'
    exact ⟨t2, st t2 a1, b1⟩
  · obtain ⟨k1, k2, k3⟩ := vx_keep h0 e1 hS hAX hf hL hF
    obtain ⟨t2, a1, b1⟩ := kx E ce q u t T'.heap (locs ++ L) e1.symm (by rw [← e2]; exact X'.warmed.alike) hp hb k1 k2 k3 (by rw [e1]; exact hce) hcv hcl T' rfl X'
    exact ⟨t2, st.trans a1, b1⟩
/-- caught by the row x of this method's table; the rows ahead don't take it -/
theorem vx_catch {own name : String} {E : String} {ce : Cell} {q : Addr} (hown : s.vm.findClass own = some m.cls) (pre : List ExceptionTableEntry) (x : ExceptionTableEntry) (suf : List ExceptionTableEntry) (hsplit : c.exceptionTable.toList = pre ++ x :: suf)
    (hpass : ∀ z ∈ pre, covers z pc = false ∨ (z.catchType ≠ 0 ∧ ∃ nm : String, (Cond.classLink own z.catchType nm).before args s = true ∧ va_Nc E nm s)) (hx : covers x pc = true) (h0 : x.catchType ≠ 0)
    (hlink : (Cond.classLink own x.catchType name).before args s = true) (hcast : (Cond.castable E name).before args s = true) (hcell : H[q]? = some ce) (hv : ce.vm = .none) (hcl : s.vm.findClass E = some ce.cls)
    (kk : W p l e R s m args below meth c H locs cells slots Q (F0 m x.handlerPc ls [.ref q])) : vx_W p l e R s m args below meth c H locs cells slots Q (F0 m pc ls rest) q := by
  intro T hT X
  have hpl : e.platform.magicAccessors = ({} : Platform).magicAccessors := by rw [X.admits.platform]
  obtain ⟨c3, c4, hc3, hc4, hasg⟩ := Cond.castable_spec hcast
  cases Option.some.inj (hc3.symm.trans hcl)
  obtain ⟨c5, hc5, hcl5⟩ := Cond.classLink_spec hown hlink e.platform hpl
  cases Option.some.inj (hc4.symm.trans hc5)
  obtain ⟨vm', X', st⟩ := X.thenCaughtThrough q (g := F0 m pc ls rest) rfl (Steps.refl _) (by rw [hT]; exact hcell) (by rw [hv]; rfl) (by obtain ⟨k9, h9, -⟩ := Vm.findClass_spec hcl; exact ⟨k9, h9⟩) pre x suf hsplit
    (fun z hz => by
      rcases hpass z hz with h | ⟨hz0, nm, hl1, hn1⟩
      · exact Or.inl h
      · obtain ⟨c6, hc6, hcl6⟩ := Cond.classLink_spec hown hl1 e.platform hpl
        obtain ⟨a8, b8, h1, h2, h3⟩ := hn1
        cases Option.some.inj (h1.symm.trans hcl)
        cases Option.some.inj (h2.symm.trans hc6)
        exact Or.inr ⟨hz0, _, hcl6, h3⟩) hx (Or.inr ⟨h0, c4, hcl5, hasg⟩)
  obtain ⟨t, a1, b1⟩ := kk (T.setVm vm') hT X'
  exact ⟨t, st.trans a1, b1⟩
end Rows
section Ends
variable {p : Program} {l : Launch} {e : Env} {R : Room} {s : State} {m : MethodId} {args : Array Value} {below : List Frame} {meth : Method} {c : Code} {H : Heap} {locs : List Loc} {cells slots : Nat} {Q : State → Prop}
variable {mc ms : Nat} {free : Addr → Prop} {A0 A1 : Nat → Prop} {H0 : Heap} {a : Array Value} {ls : Array Slot} {st0 rest : List Value}
variable {Qc : Array Value → State → Outcome → State → Prop} {XC : String → State → State → Prop}
/-- what a body that may throw owes at its end -/
def vx_MQ (below : List Frame) (Qc : Array Value → State → Outcome → State → Prop) (XC : String → State → State → Prop) (a : Array Value) (s : State) (mc ms : Nat) (free : Addr → Prop) : State → Prop := fun t =>
  ∃ o, t.status = .running ∧ Ended t below o ∧ vx_Q Qc XC mc ms free a s o t
theorem vx_ret {g : JFrame} {mc ms : Nat} (k : W p l e R s m args below meth c H locs cells slots (MQ below Qc args s mc ms free) g) : W p l e R s m args below meth c H locs cells slots (vx_MQ below Qc XC args s mc ms free) g := by
  intro T hT X
  obtain ⟨t, a1, o, b1, b2, b3, b4⟩ := k T hT X
  exact ⟨t, a1, o, b1, b2, Or.inl ⟨b3, b4⟩⟩
/-- not caught here: it goes on to the caller -/
theorem vx_widen {g : JFrame} {q : Addr} {k n : Nat} (h1 : cells ≤ k) (h2 : slots ≤ n) (kk : vx_W p l e R s m args below meth c H locs k n Q g q) : vx_W p l e R s m args below meth c H locs cells slots Q g q := fun T hT X => kk T hT (stand_widen X h1 h2)
theorem vx_out {pc : Nat} {E : String} {ce : Cell} {q : Addr} {mc ms : Nat} (hout : ∀ x ∈ c.exceptionTable.toList, covers x pc = false) (hlocks : meth.locks = false) (hcell : H[q]? = some ce) (hv : ce.vm = .none) (hcl : s.vm.findClass E = some ce.cls)
    (hx : ∀ t : State, t.heap = H → s.vm.Alike t.vm → XC E s t) (hf : ∀ z ∈ locs, free z.base) (hc : cells ≤ mc) (hs : slots ≤ ms) :
    vx_W p l e R s m args below meth c H locs cells slots (vx_MQ below Qc XC args s mc ms free) (F0 m pc ls rest) q := by
  intro T hT X
  obtain ⟨st1, hrun, hend, hW, hsm⟩ := X.leaveThrown q (g := F0 m pc ls rest) rfl rfl rfl hout hlocks
  have hcell9 : (T.setFrames (.throwing q :: below)).heap[q]? = some ce := by
    show T.heap[q]? = some ce
    rw [hT]; exact hcell
  exact ⟨_, st1, .threw q, hrun, hend, Or.inr ⟨q, rfl, E, ce, locs, hx _ hT hW.alike, hcell9, hv, hcl, hW, hsm.mono hc hs, hf⟩⟩
theorem vx_frame {U : State} {k n : Nat} (h : s.sameButNew ({ U with vm := s.vm } : State) locs k n) : s.heap.size ≤ U.heap.size ∧ ∀ q : Nat, q < s.heap.size → (∀ z ∈ locs, z.base ≠ q) → U.heap[q]? = s.heap[q]? := by
  obtain ⟨-, h2, -, -, -, h6⟩ := h
  refine ⟨h2, fun q hq hz => ?_⟩
  obtain ⟨c9, e1, e2, e3, e4⟩ := h6 q _ (Array.getElem?_eq_getElem hq)
  have hs : c9.slots = (s.heap[q]).slots := Array.ext_getElem? fun i => e4 i fun hm => hz _ hm rfl
  have h9 : c9 = s.heap[q] := by
    rw [hs] at e2
    exact e2
  have e5 : U.heap[q]? = some c9 := e1
  rw [e5, h9, Array.getElem?_eq_getElem hq]
/-- the words of a throw but the four that speak of the heap -/
def vx_no (w : Cond) : Bool := decide (w ≠ .isRef (.static Bundle.tN "UNASSIGNED_STACK" Bundle.steD)) && decide (w ≠ .isRef (.static Bundle.tN "SUPPRESSED_SENTINEL" Bundle.listD)) && decide (w ≠ .laysStatic Bundle.tN "UNASSIGNED_STACK" Bundle.steD) && decide (w ≠ .laysStatic Bundle.tN "SUPPRESSED_SENTINEL" Bundle.listD)
def vx_at0 (own : String) (ic : Nat) (X : String) (names : List String) : List Cond := (Bundle.ownAtoms0 own ic X names).filter vx_no
def vx_atS (own : String) (ic : Nat) (X : String) (names : List String) : List Cond := (Bundle.ownAtoms own ic X names).filter vx_no
/-- a word that the tables alone decide, or a good one -/
def vx_ot (w : Cond) : Bool := w.onTables || goodWord w
theorem vx_ot_at {args a' : Array Value} {s U : State} {w : Cond} (hW : s.WarmedH U.vm) (hvm : s.vm = U.vm) (hg : vx_ot w = true) (h : w.before args s = true) : w.before a' U = true := by
  simp only [vx_ot, Bool.or_eq_true] at hg
  rcases hg with hg | hg
  · exact va_tabs hg hvm h
  · exact word_at hW (good_of_word hg) h
/-- a list's words: the good ones out of the method's own list, the others by premises of their own -/
theorem vx_hat {args : Array Value} {s : State} {L B : List Cond} (h1 : ∀ w ∈ L.filter goodWord, w.before args s = true) (h2 : ∀ w ∈ L.filter (fun w => !goodWord w), w ∈ B) (h3 : ∀ w ∈ B, w.before args s = true) : ∀ w ∈ L, w.before args s = true := by
  intro w hw
  by_cases g : goodWord w = true
  · exact h1 w (List.mem_filter.mpr ⟨hw, g⟩)
  · refine h3 w (h2 w (List.mem_filter.mpr ⟨hw, ?_⟩))
    show (!goodWord w) = true
    cases hgw : goodWord w
    · rfl
    · exact absurd hgw g
theorem vx_c {args : Array Value} {s : State} {w : Cond} {B : List Cond} (h : w.before args s = true) (t : ∀ w ∈ B, w.before args s = true) : ∀ w' ∈ w :: B, w'.before args s = true := fun w' h' => (List.mem_cons.mp h').elim (fun e => by rw [e]; exact h) (t w')
theorem vx_n {args : Array Value} {s : State} : ∀ w ∈ ([] : List Cond), w.before args s = true := fun _ h => nomatch h
theorem vx_own {args : Array Value} {s : State} {L : List Cond} (h1 : ∀ w ∈ L.filter vx_no, w.before args s = true)
    (hU : (Cond.isRef (.static Bundle.tN "UNASSIGNED_STACK" Bundle.steD)).before args s = true) (hN : (Cond.isRef (.static Bundle.tN "SUPPRESSED_SENTINEL" Bundle.listD)).before args s = true)
    (lU : (Cond.laysStatic Bundle.tN "UNASSIGNED_STACK" Bundle.steD).before args s = true) (lN : (Cond.laysStatic Bundle.tN "SUPPRESSED_SENTINEL" Bundle.listD).before args s = true) : ∀ w ∈ L, w.before args s = true := by
  intro w hw
  by_cases e1 : w = .isRef (.static Bundle.tN "UNASSIGNED_STACK" Bundle.steD)
  · rw [e1]; exact hU
  · by_cases e2 : w = .isRef (.static Bundle.tN "SUPPRESSED_SENTINEL" Bundle.listD)
    · rw [e2]; exact hN
    · by_cases e3 : w = .laysStatic Bundle.tN "UNASSIGNED_STACK" Bundle.steD
      · rw [e3]; exact lU
      · by_cases e4 : w = .laysStatic Bundle.tN "SUPPRESSED_SENTINEL" Bundle.listD
        · rw [e4]; exact lN
        · exact h1 w (List.mem_filter.mpr ⟨hw, by unfold vx_no; rw [decide_eq_true e1, decide_eq_true e2, decide_eq_true e3, decide_eq_true e4]; rfl⟩)
/-- where a static field lies, its class's statics cell in H -/
def vx_L (C n d : String) (A : Nat → Prop) (U : State) (H : Heap) : Prop := ∃ (c : ClassId) (k : Class) (i : Nat) (f : Field) (a : Nat) (cell : Cell), U.vm.findClass C = some c ∧ U.fieldFound? C n d = some (c, k, i, f) ∧ f.isStatic = true ∧ k.statics = some a ∧ H[a]? = some cell ∧ cell.vm.isStatics = true ∧ cell.cls = c ∧ f.slot < cell.slots.size ∧ k.staticTypes[f.slot]? = some f.type ∧ ¬ A a
theorem vx_L.moved {C n d : String} {A : Nat → Prop} {u U : State} {H : Heap} (hvm : u.vm.Alike U.vm) (h : vx_L C n d A u H) : vx_L C n d A U H := by
  obtain ⟨c, k, i, f, a, cell, h1, h2, h3, h4, h5, h6, h7, h8, h9, h10⟩ := h
  obtain ⟨k', hi', he⟩ := State.fieldFound?_setVm hvm h2
  exact ⟨c, k', i, f, a, cell, by rw [hvm.findClass]; exact h1, hi', h3, by rw [he]; exact h4, h5, h6, h7, h8, by rw [he]; exact h9, h10⟩
theorem vx_L.kept {C n d : String} {A : Nat → Prop} {U : State} {H H1 : Heap} (h : vx_L C n d A U H) (hq : ∀ a : Nat, a < H.size → ¬ A a → H1[a]? = H[a]?) : vx_L C n d A U H1 := by
  obtain ⟨c, k, i, f, a, cell, h1, h2, h3, h4, h5, h6, h7, h8, h9, h10⟩ := h
  exact ⟨c, k, i, f, a, cell, h1, h2, h3, h4, by rw [hq a (Array.getElem?_eq_some_iff.mp h5).1 h10]; exact h5, h6, h7, h8, h9, h10⟩
theorem vx_L.narrow {C n d : String} {A B : Nat → Prop} {U : State} {H : Heap} (h : vx_L C n d A U H) (hAB : ∀ q, B q → A q) : vx_L C n d B U H := by
  obtain ⟨c, k, i, f, a, cell, h1, h2, h3, h4, h5, h6, h7, h8, h9, h10⟩ := h
  exact ⟨c, k, i, f, a, cell, h1, h2, h3, h4, h5, h6, h7, h8, h9, fun z => h10 (hAB _ z)⟩
theorem vx_L.word {C n d : String} {A : Nat → Prop} {s : State} {args : Array Value} (h : vx_L C n d A s s.heap) : (Cond.laysStatic C n d).before args s = true := by
  obtain ⟨c, k, i, f, a, cell, h1, h2, h3, h4, h5, h6, h7, h8, h9, -⟩ := h
  show (Cond.laysStatic C n d).holds args s none s [] = true
  exact Cond.laysStatic_of h1 h2 h3 h4 h5 h6 h7 h8 h9
/-- .. and what it holds: null or some reference -/
def vx_Zq (C n d : String) (A : Nat → Prop) (U : State) (H : Heap) : Prop := va_Zq C n d A U H ∧ vx_L C n d A U H
theorem vx_Zq.moved {C n d : String} {A : Nat → Prop} {u U : State} {H : Heap} (hvm : u.vm.Alike U.vm) (h : vx_Zq C n d A u H) : vx_Zq C n d A U H := ⟨va_Zq.moved hvm h.1, vx_L.moved hvm h.2⟩
theorem vx_Zq.kept {C n d : String} {A : Nat → Prop} {U : State} {H H1 : Heap} (h : vx_Zq C n d A U H) (hq : ∀ a : Nat, a < H.size → ¬ A a → H1[a]? = H[a]?) : vx_Zq C n d A U H1 := ⟨va_Zq.kept h.1 hq, vx_L.kept h.2 hq⟩
theorem vx_Zq.narrow {C n d : String} {A B : Nat → Prop} {U : State} {H : Heap} (h : vx_Zq C n d A U H) (hAB : ∀ q, B q → A q) : vx_Zq C n d B U H := ⟨va_Zq.narrow h.1 hAB, vx_L.narrow h.2 hAB⟩
theorem vx_Zqof {args : Array Value} {s : State} {C n d : String} {A : Nat → Prop} (hl : (Cond.laysStatic C n d).before args s = true) (hini : (Cond.initialized C).before args s = true) (h : (Cond.isRef (.static C n d)).before args s = true) (hA : ∀ a : Nat, a < s.heap.size → ¬ A a) : vx_Zq C n d A s s.heap := by
  refine ⟨va_Zqof hl hini h hA, ?_⟩
  obtain ⟨c, k, i, f, a, cell, h1, h2, h3, h4, h5, h6, h7, h8, h9⟩ := Cond.laysStatic_spec hl
  exact ⟨c, k, i, f, a, cell, h1, h2, h3, h4, h5, h6, h7, h8, h9, hA a (Array.getElem?_eq_some_iff.mp h5).1⟩
theorem vx_isRef {C n d : String} {v : Value} {A : Nat → Prop} {s : State} {args : Array Value} (h : va_Z C n d v A s s.heap) (hv : v.isRef = true) : (Cond.isRef (.static C n d)).before args s = true := by
  obtain ⟨cf, kf, fi, f, a, cell, h1, h2, h3, h4, h5, h6, h7, -⟩ := h
  have he : (Term.static C n d).eval args s none [] s = some v := by
    simp [Term.eval, State.fieldNamed?, h1, h2, h4, h5, h6, h7]
  simp only [Cond.before, Cond.holds, Cond.value, he]
  cases v <;> simp_all [Value.isRef]
theorem vx_isRefq {C n d : String} {A : Nat → Prop} {s : State} {args : Array Value} (h : va_Zq C n d A s s.heap) : (Cond.isRef (.static C n d)).before args s = true := by
  rcases h with h | ⟨t, h⟩
  · exact vx_isRef h rfl
  · exact vx_isRef h rfl
/-- the same frame, seen from here: as if the method were called anew in this heap -/
theorem vx_rebase {T : State} (X : Stand p l e R s m args below meth c T locs cells slots) {R' : Room} (hf : R'.frames ≤ R.frames) (hl : R'.locals ≤ R.locals) (hc : cells + R'.cells ≤ R.cells) (hs : slots + R'.slots ≤ R.slots) :
    Stand p l e R' ((T.setVm s.vm).setFrames (.invoking m args :: below)) m args below meth c T [] 0 0 := by
  have htop : (T.setVm s.vm).topJava?.isSome := X.here.top
  have hF : ((T.setVm s.vm).setFrames (.invoking m args :: below)).frames = .invoking m args :: below := State.frames_setFrames _ (State.cur_lt_of_top htop)
  obtain ⟨g₀, hg0⟩ := Option.isSome_iff_exists.mp htop
  obtain ⟨r, hr⟩ := State.topJava?_eq_some.mp hg0
  have hl9 : e.platform.stackLimits (T.setVm s.vm).me = e.platform.stackLimits s.me := X.limits
  have hb9 : (T.setVm s.vm).me.stackBytes = s.me.stackBytes := X.bytes
  refine ⟨X.admits, X.cas, X.clock, hF, ?_, X.hears, X.method, X.code, X.here, X.tail, X.warmed, ?_, ?_, ?_⟩
  · have h := X.room
    have hU : ((T.setVm s.vm).setFrames (.invoking m args :: below)).localsInUse = s.localsInUse := by
      rw [State.localsInUse_invoking hF (meth := meth) (c := c) X.method X.code, State.localsInUse_invoking X.frames X.method X.code]
    simp only [State.hasRoom, Bool.and_eq_true, decide_eq_true_eq] at h ⊢
    obtain ⟨⟨⟨⟨h1, h2, h3, h4, h5, h6⟩, h7⟩, h8⟩, h9⟩ := h
    rw [X.frames, List.length_cons] at h2 h3
    have q1 := X.heapSize
    have q2 := X.used
    simp only [hF, hU, List.length_cons, State.stackLimits_setFrames, State.stackBytes_setFrames, hl9, hb9]
    refine ⟨⟨⟨⟨by omega, by omega, by omega, by omega, by omega, h6⟩, ?_⟩, ?_⟩, X.book⟩
    · show T.heap.size + R'.cells ≤ e.platform.maxCells
      omega
    · show T.slotsUsed + R'.slots ≤ e.platform.maxSlots
      omega
  · rw [State.stackLimits_setFrames]; rfl
  · rw [State.stackBytes_setFrames]; rfl
  · refine ⟨?_, Nat.le_refl _, Nat.le_refl _, ?_, ?_, fun a c9 h9 => ⟨c9, h9, rfl, rfl, fun _ _ => rfl⟩⟩
    · obtain ⟨t, ht, -⟩ := State.frames_cons hr
      show T.setVm s.vm = { ((T.setVm s.vm).setFrames (.invoking m args :: below)).setFrames (T.setVm s.vm).frames with heap := T.heap, slotsUsed := T.slotsUsed }
      rw [State.setFrames_setFrames, State.setFrames_self ht]
      rfl
    · show T.slotsUsed = T.slotsUsed + ((T.heap.toList.drop T.heap.size).map (·.slots.size)).sum
      rw [List.drop_eq_nil_of_le (Nat.le_of_eq Array.length_toList)]
      rfl
    · show ((T.heap.toList.drop T.heap.size).map (·.slots.size)).sum ≤ 0
      rw [List.drop_eq_nil_of_le (Nat.le_of_eq Array.length_toList)]
      exact Nat.le_refl _
/-- 'throw new E()': new; dup; invokespecial; athrow -/
theorem vx_throw0 {cc : ByteArray} {pc : Nat} (hexec : p.tables.exec = Jvm.exec) (hb : c.code = cc) (hl : l.stackTraces = false) {own cls : String} {names : List String} {ik ic mc ms : Nat} {A : Nat → Prop}
    (hown : s.vm.findClass own = some m.cls) (hcls : Bundle.fit cls = true) (hnames : ∀ n ∈ names, Bundle.fit n = true)
    (hk : (Cond.classLink own ik cls).before args s = true) (hini : (Cond.initialized cls).before args s = true) (hat : ∀ w ∈ vx_at0 own ic cls names, w.before args s = true)
    (hgood : ∀ w ∈ Cond.classLink own ik cls :: Cond.initialized cls :: vx_at0 own ic cls names, vx_ot w = true)
    (hU : vx_Zq Bundle.tN "UNASSIGNED_STACK" Bundle.steD A s s.heap) (hN : vx_Zq Bundle.tN "SUPPRESSED_SENTINEL" Bundle.listD A s s.heap) (hS : va_S A s.heap H locs) (hsize : ls.size = c.maxLocals)
    (d0 : decode cc pc = .ok (.new ik, 3)) (d3 : decode cc (pc + 3) = .ok (.dup, 1)) (d4 : decode cc (pc + 4) = .ok (.invokespecial ic, 3)) (d7 : decode cc (pc + 7) = .ok (.athrow, 1))
    (hout : ∀ x ∈ c.exceptionTable.toList, covers x (pc + 7) = false)
    (hRframes : names.length + 3 < R.frames) (hRlocals : (rest.map fun v => v.category).sum + (13 * (names.length + 1) + 42) ≤ R.locals) (hRcells : cells + 1 ≤ R.cells) (hRslots : slots + 6 ≤ R.slots) (hlocks : meth.locks = false)
    (hx : ∀ t : State, s.vm.Alike t.vm → H.size ≤ t.heap.size → (∀ q : Nat, q < H.size → t.heap[q]? = H[q]?) → XC cls s t)
    (hf : ∀ z ∈ locs, free z.base) (hc : cells + 1 ≤ mc) (hs : slots + 6 ≤ ms) :
    W p l e R s m args below meth c H locs cells slots (vx_MQ below Qc XC args s mc ms free) (F0 m pc ls rest) := by
  intro T hT X
  have htr : e.platform.stackTraces = false := (show e.platform.stackTraces = l.stackTraces by rw [X.admits.platform]).trans hl
  have Y := vx_rebase X (R' := { frames := R.frames, locals := R.locals, cells := 1, slots := 6 }) (Nat.le_refl _) (Nat.le_refl _) hRcells hRslots
  obtain ⟨s', hA⟩ : ∃ z, z = (T.setVm s.vm).setFrames (.invoking m args :: below) := ⟨_, rfl⟩
  rw [← hA] at Y
  have hvm : s'.vm = s.vm := by rw [hA]; rfl
  have hhp : s'.heap = H := by rw [hA]; exact hT
  have hW0 : s.WarmedH s'.vm := by rw [hvm]; exact State.WarmedH.refl s
  have hat' : ∀ w ∈ vx_at0 own ic cls names, w.before args s' = true := fun w hw => vx_ot_at hW0 hvm.symm (hgood w (List.mem_cons_of_mem _ (List.mem_cons_of_mem _ hw))) (hat w hw)
  have hk' : (Cond.classLink own ik cls).before args s' = true := vx_ot_at hW0 hvm.symm (hgood _ List.mem_cons_self) hk
  have hini' : (Cond.initialized cls).before args s' = true := vx_ot_at hW0 hvm.symm (hgood _ (List.mem_cons_of_mem _ List.mem_cons_self)) hini
  have hU' : vx_Zq Bundle.tN "UNASSIGNED_STACK" Bundle.steD A s' s'.heap := by rw [hhp]; exact vx_Zq.moved hW0.alike (hU.kept hS.2.1)
  have hN' : vx_Zq Bundle.tN "SUPPRESSED_SENTINEL" Bundle.listD A s' s'.heap := by rw [hhp]; exact vx_Zq.moved hW0.alike (hN.kept hS.2.1)
  have h : ∀ w ∈ Bundle.ownAtoms0 own ic cls names, w.before args s' = true := vx_own hat' (vx_isRefq hU'.1) (vx_isRefq hN'.1) hU'.2.word hN'.2.word
  have hown' : s'.vm.findClass own = some m.cls := by rw [hvm]; exact hown
  have hins : (Cond.instantiable cls 6).before args s' = true := h _ (by simp [Bundle.ownAtoms0])
  obtain ⟨vm₁, cX, kX, hfX, hkX, -, -, X₁, st1⟩ := Y.newCold hexec (own := own) (C := cls) (index := ik) (n := 6) hown' hk' hins hini'
    (g := F0 m pc ls rest) rfl (by rw [hb]; exact d0) (Nat.le_refl _) (Nat.le_refl _)
  generalize hT1 : (T.setVm vm₁).pushCell { cls := cX, slots := kX.instanceTypes.map defaultValue, vm := .none } = T1 at X₁ st1
  have hcat : (Value.ref T.heap.size).category = 1 := rfl
  have hcellA : T1.heap[T.heap.size]? = some (freshCell cX kX) := by rw [← hT1]; exact State.heap_pushCell_size _ _
  have d3' : decode c.code (pc + 3) = .ok (.dup, 1) := by rw [hb]; exact d3
  obtain ⟨U, hsteps, hrun, hend, hW, hsame, ce, hce, hO⟩ := X₁.ctorThrow0 hexec htr (own := own) (cls := cls) (names := names) (ic := ic) hown' hcls hnames h (fun x hx => nomatch hx) hfX hkX hcellA (by rw [hhp, hT]; exact Nat.le_refl _)
    (g := { method := m, pc := pc + 4, locals := ls, stack := .ref T.heap.size :: .ref T.heap.size :: rest, locked := none }) rfl hsize rfl rfl (rest := rest) rfl
    (by rw [hb]; exact d4) (by rw [hb]; exact d7) hout hRframes (by simp only [List.map_cons, List.sum_cons, hcat]; omega) hlocks
  obtain ⟨f1, f2⟩ := vx_frame hsame
  rw [hhp] at f1 f2
  have hWs : s.WarmedH U.vm := State.WarmedH.trans hW0 hW
  have hcl : s.vm.findClass cls = some ce.cls := by
    have h9 := hO.cls
    rw [hvm] at h9
    exact h9
  have hall : s.sameButNew ({ U with vm := s.vm } : State) locs mc ms := by
    subst hA
    obtain ⟨e1, e2⟩ := hsame
    rw [State.setFrames_setFrames] at e1
    have h2 : (T.setVm s.vm).sameButNew ({ U with vm := s.vm } : State) [] (0 + 1) (0 + 6) := ⟨e1, e2⟩
    have h3 := X.same.trans h2
    rw [List.append_nil] at h3
    exact h3.mono hc hs
  refine ⟨U, ?_, .threw T.heap.size, hrun, hend, Or.inr ⟨T.heap.size, rfl, cls, ce, locs, hx U hWs.alike f1 (fun q hq => f2 q hq (fun z hz => nomatch hz)), hce, hO.vm, hcl, hWs, hall, hf⟩⟩
  refine st1 _ ?_
  show Steps p.tables e below (T1.setTop { method := m, pc := pc + 3, locals := ls, stack := .ref T.heap.size :: rest, locked := none }) _
  jvm_step X₁.here [X₁.here.top, hexec, d3', Value.category]
  exact hsteps
/-- 'throw new E("text")': new; dup; ldc; invokespecial; athrow -/
theorem vx_throwS {cc : ByteArray} {pc : Nat} (hexec : p.tables.exec = Jvm.exec) (hb : c.code = cc) (hl : l.stackTraces = false) {own cls text : String} {names : List String} {ik is ic mc ms sa : Nat} {A : Nat → Prop}
    (hown : s.vm.findClass own = some m.cls) (hcls : Bundle.fit cls = true) (hnames : ∀ n ∈ names, Bundle.fit n = true)
    (hk : (Cond.classLink own ik cls).before args s = true) (hini : (Cond.initialized cls).before args s = true) (hstr : vk_R own is text sa s) (hat : ∀ w ∈ vx_atS own ic cls names, w.before args s = true)
    (hgood : ∀ w ∈ Cond.classLink own ik cls :: Cond.initialized cls :: vx_atS own ic cls names, vx_ot w = true)
    (hU : vx_Zq Bundle.tN "UNASSIGNED_STACK" Bundle.steD A s s.heap) (hN : vx_Zq Bundle.tN "SUPPRESSED_SENTINEL" Bundle.listD A s s.heap) (hS : va_S A s.heap H locs) (hsize : ls.size = c.maxLocals)
    (d0 : decode cc pc = .ok (.new ik, 3)) (d3 : decode cc (pc + 3) = .ok (.dup, 1)) (d4 : decode cc (pc + 4) = .ok (.ldc is, 2)) (d6 : decode cc (pc + 6) = .ok (.invokespecial ic, 3)) (d9 : decode cc (pc + 9) = .ok (.athrow, 1))
    (hout : ∀ x ∈ c.exceptionTable.toList, covers x (pc + 9) = false)
    (hRframes : names.length + 3 < R.frames) (hRlocals : (rest.map fun v => v.category).sum + (13 * (names.length + 1) + 43) ≤ R.locals) (hRcells : cells + 1 ≤ R.cells) (hRslots : slots + 6 ≤ R.slots) (hlocks : meth.locks = false)
    (hx : ∀ t : State, s.vm.Alike t.vm → H.size ≤ t.heap.size → (∀ q : Nat, q < H.size → t.heap[q]? = H[q]?) → XC cls s t)
    (hf : ∀ z ∈ locs, free z.base) (hc : cells + 1 ≤ mc) (hs : slots + 6 ≤ ms) :
    W p l e R s m args below meth c H locs cells slots (vx_MQ below Qc XC args s mc ms free) (F0 m pc ls rest) := by
  intro T hT X
  have htr : e.platform.stackTraces = false := (show e.platform.stackTraces = l.stackTraces by rw [X.admits.platform]).trans hl
  have Y := vx_rebase X (R' := { frames := R.frames, locals := R.locals, cells := 1, slots := 6 }) (Nat.le_refl _) (Nat.le_refl _) hRcells hRslots
  obtain ⟨s', hA⟩ : ∃ z, z = (T.setVm s.vm).setFrames (.invoking m args :: below) := ⟨_, rfl⟩
  rw [← hA] at Y
  have hvm : s'.vm = s.vm := by rw [hA]; rfl
  have hhp : s'.heap = H := by rw [hA]; exact hT
  have hW0 : s.WarmedH s'.vm := by rw [hvm]; exact State.WarmedH.refl s
  have hat' : ∀ w ∈ vx_atS own ic cls names, w.before args s' = true := fun w hw => vx_ot_at hW0 hvm.symm (hgood w (List.mem_cons_of_mem _ (List.mem_cons_of_mem _ hw))) (hat w hw)
  have hk' : (Cond.classLink own ik cls).before args s' = true := vx_ot_at hW0 hvm.symm (hgood _ List.mem_cons_self) hk
  have hini' : (Cond.initialized cls).before args s' = true := vx_ot_at hW0 hvm.symm (hgood _ (List.mem_cons_of_mem _ List.mem_cons_self)) hini
  have hU' : vx_Zq Bundle.tN "UNASSIGNED_STACK" Bundle.steD A s' s'.heap := by rw [hhp]; exact vx_Zq.moved hW0.alike (hU.kept hS.2.1)
  have hN' : vx_Zq Bundle.tN "SUPPRESSED_SENTINEL" Bundle.listD A s' s'.heap := by rw [hhp]; exact vx_Zq.moved hW0.alike (hN.kept hS.2.1)
  have h : ∀ w ∈ Bundle.ownAtoms own ic cls names, w.before args s' = true := vx_own hat' (vx_isRefq hU'.1) (vx_isRefq hN'.1) hU'.2.word hN'.2.word
  have hown' : s'.vm.findClass own = some m.cls := by rw [hvm]; exact hown
  have hins : (Cond.instantiable cls 6).before args s' = true := h _ (by simp [Bundle.ownAtoms])
  obtain ⟨vm₁, cX, kX, hfX, hkX, -, -, X₁, st1⟩ := Y.newCold hexec (own := own) (C := cls) (index := ik) (n := 6) hown' hk' hins hini'
    (g := F0 m pc ls rest) rfl (by rw [hb]; exact d0) (Nat.le_refl _) (Nat.le_refl _)
  generalize hT1 : (T.setVm vm₁).pushCell { cls := cX, slots := kX.instanceTypes.map defaultValue, vm := .none } = T1 at X₁ st1
  have hcat : (Value.ref T.heap.size).category = 1 := rfl
  have hcellA : T1.heap[T.heap.size]? = some (freshCell cX kX) := by rw [← hT1]; exact State.heap_pushCell_size _ _
  have d3' : decode c.code (pc + 3) = .ok (.dup, 1) := by rw [hb]; exact d3
  have d4' : decode c.code (pc + 4) = .ok (.ldc is, 2) := by rw [hb]; exact d4
  have hstr' : vk_R own is text sa s' := vk_R.warm hW0 hstr
  obtain ⟨U, hsteps, hrun, hend, hW, hsame, ce, hce, hO⟩ := X₁.ctorThrowS hexec htr (own := own) (cls := cls) (names := names) (ic := ic) hown' hcls hnames h (fun x hx => nomatch hx) hfX hkX hcellA (by rw [hhp, hT]; exact Nat.le_refl _) (msg := .ref sa) rfl
    (g := { method := m, pc := pc + 6, locals := ls, stack := .ref sa :: .ref T.heap.size :: .ref T.heap.size :: rest, locked := none }) rfl hsize rfl rfl (rest := rest) rfl
    (by rw [hb]; exact d6) (by rw [hb]; exact d9) hout hRframes (by simp only [List.map_cons, List.sum_cons, hcat]; omega) hlocks
  obtain ⟨f1, f2⟩ := vx_frame hsame
  rw [hhp] at f1 f2
  have hWs : s.WarmedH U.vm := State.WarmedH.trans hW0 hW
  have hcl : s.vm.findClass cls = some ce.cls := by
    have h9 := hO.cls
    rw [hvm] at h9
    exact h9
  have hall : s.sameButNew ({ U with vm := s.vm } : State) locs mc ms := by
    subst hA
    obtain ⟨e1, e2⟩ := hsame
    rw [State.setFrames_setFrames] at e1
    have h2 : (T.setVm s.vm).sameButNew ({ U with vm := s.vm } : State) [] (0 + 1) (0 + 6) := ⟨e1, e2⟩
    have h3 := X.same.trans h2
    rw [List.append_nil] at h3
    exact h3.mono hc hs
  refine ⟨U, ?_, .threw T.heap.size, hrun, hend, Or.inr ⟨T.heap.size, rfl, cls, ce, locs, hx U hWs.alike f1 (fun q hq => f2 q hq (fun z hz => nomatch hz)), hce, hO.vm, hcl, hWs, hall, hf⟩⟩
  refine st1 _ ?_
  show Steps p.tables e below (T1.setTop { method := m, pc := pc + 3, locals := ls, stack := .ref T.heap.size :: rest, locked := none }) _
  jvm_step X₁.here [X₁.here.top, hexec, d3', Value.category]
  exact X₁.ldcString hexec (own := own) (text := text) (index := is) (a := sa) hown' hstr'.1 hstr'.2
    (g := { method := m, pc := pc + 4, locals := ls, stack := .ref T.heap.size :: .ref T.heap.size :: rest, locked := none }) rfl d4' _ hsteps
/-- 'throw new E("text")', the text by a wide index -/
theorem vx_throwSW {cc : ByteArray} {pc : Nat} (hexec : p.tables.exec = Jvm.exec) (hb : c.code = cc) (hl : l.stackTraces = false) {own cls text : String} {names : List String} {ik is ic mc ms sa : Nat} {A : Nat → Prop}
    (hown : s.vm.findClass own = some m.cls) (hcls : Bundle.fit cls = true) (hnames : ∀ n ∈ names, Bundle.fit n = true)
    (hk : (Cond.classLink own ik cls).before args s = true) (hini : (Cond.initialized cls).before args s = true) (hstr : vk_R own is text sa s) (hat : ∀ w ∈ vx_atS own ic cls names, w.before args s = true)
    (hgood : ∀ w ∈ Cond.classLink own ik cls :: Cond.initialized cls :: vx_atS own ic cls names, vx_ot w = true)
    (hU : vx_Zq Bundle.tN "UNASSIGNED_STACK" Bundle.steD A s s.heap) (hN : vx_Zq Bundle.tN "SUPPRESSED_SENTINEL" Bundle.listD A s s.heap) (hS : va_S A s.heap H locs) (hsize : ls.size = c.maxLocals)
    (d0 : decode cc pc = .ok (.new ik, 3)) (d3 : decode cc (pc + 3) = .ok (.dup, 1)) (d4 : decode cc (pc + 4) = .ok (.ldc_w is, 3)) (d7 : decode cc (pc + 7) = .ok (.invokespecial ic, 3)) (d10 : decode cc (pc + 10) = .ok (.athrow, 1))
    (hout : ∀ x ∈ c.exceptionTable.toList, covers x (pc + 10) = false)
    (hRframes : names.length + 3 < R.frames) (hRlocals : (rest.map fun v => v.category).sum + (13 * (names.length + 1) + 43) ≤ R.locals) (hRcells : cells + 1 ≤ R.cells) (hRslots : slots + 6 ≤ R.slots) (hlocks : meth.locks = false)
    (hx : ∀ t : State, s.vm.Alike t.vm → H.size ≤ t.heap.size → (∀ q : Nat, q < H.size → t.heap[q]? = H[q]?) → XC cls s t)
    (hf : ∀ z ∈ locs, free z.base) (hc : cells + 1 ≤ mc) (hs : slots + 6 ≤ ms) :
    W p l e R s m args below meth c H locs cells slots (vx_MQ below Qc XC args s mc ms free) (F0 m pc ls rest) := by
  intro T hT X
  have htr : e.platform.stackTraces = false := (show e.platform.stackTraces = l.stackTraces by rw [X.admits.platform]).trans hl
  have Y := vx_rebase X (R' := { frames := R.frames, locals := R.locals, cells := 1, slots := 6 }) (Nat.le_refl _) (Nat.le_refl _) hRcells hRslots
  obtain ⟨s', hA⟩ : ∃ z, z = (T.setVm s.vm).setFrames (.invoking m args :: below) := ⟨_, rfl⟩
  rw [← hA] at Y
  have hvm : s'.vm = s.vm := by rw [hA]; rfl
  have hhp : s'.heap = H := by rw [hA]; exact hT
  have hW0 : s.WarmedH s'.vm := by rw [hvm]; exact State.WarmedH.refl s
  have hat' : ∀ w ∈ vx_atS own ic cls names, w.before args s' = true := fun w hw => vx_ot_at hW0 hvm.symm (hgood w (List.mem_cons_of_mem _ (List.mem_cons_of_mem _ hw))) (hat w hw)
  have hk' : (Cond.classLink own ik cls).before args s' = true := vx_ot_at hW0 hvm.symm (hgood _ List.mem_cons_self) hk
  have hini' : (Cond.initialized cls).before args s' = true := vx_ot_at hW0 hvm.symm (hgood _ (List.mem_cons_of_mem _ List.mem_cons_self)) hini
  have hU' : vx_Zq Bundle.tN "UNASSIGNED_STACK" Bundle.steD A s' s'.heap := by rw [hhp]; exact vx_Zq.moved hW0.alike (hU.kept hS.2.1)
  have hN' : vx_Zq Bundle.tN "SUPPRESSED_SENTINEL" Bundle.listD A s' s'.heap := by rw [hhp]; exact vx_Zq.moved hW0.alike (hN.kept hS.2.1)
  have h : ∀ w ∈ Bundle.ownAtoms own ic cls names, w.before args s' = true := vx_own hat' (vx_isRefq hU'.1) (vx_isRefq hN'.1) hU'.2.word hN'.2.word
  have hown' : s'.vm.findClass own = some m.cls := by rw [hvm]; exact hown
  have hins : (Cond.instantiable cls 6).before args s' = true := h _ (by simp [Bundle.ownAtoms])
  obtain ⟨vm₁, cX, kX, hfX, hkX, -, -, X₁, st1⟩ := Y.newCold hexec (own := own) (C := cls) (index := ik) (n := 6) hown' hk' hins hini'
    (g := F0 m pc ls rest) rfl (by rw [hb]; exact d0) (Nat.le_refl _) (Nat.le_refl _)
  generalize hT1 : (T.setVm vm₁).pushCell { cls := cX, slots := kX.instanceTypes.map defaultValue, vm := .none } = T1 at X₁ st1
  have hcat : (Value.ref T.heap.size).category = 1 := rfl
  have hcellA : T1.heap[T.heap.size]? = some (freshCell cX kX) := by rw [← hT1]; exact State.heap_pushCell_size _ _
  have d3' : decode c.code (pc + 3) = .ok (.dup, 1) := by rw [hb]; exact d3
  have d4' : decode c.code (pc + 4) = .ok (.ldc_w is, 3) := by rw [hb]; exact d4
  have hstr' : vk_R own is text sa s' := vk_R.warm hW0 hstr
  obtain ⟨U, hsteps, hrun, hend, hW, hsame, ce, hce, hO⟩ := X₁.ctorThrowS hexec htr (own := own) (cls := cls) (names := names) (ic := ic) hown' hcls hnames h (fun x hx => nomatch hx) hfX hkX hcellA (by rw [hhp, hT]; exact Nat.le_refl _) (msg := .ref sa) rfl
    (g := { method := m, pc := pc + 7, locals := ls, stack := .ref sa :: .ref T.heap.size :: .ref T.heap.size :: rest, locked := none }) rfl hsize rfl rfl (rest := rest) rfl
    (by rw [hb]; exact d7) (by rw [hb]; exact d10) hout hRframes (by simp only [List.map_cons, List.sum_cons, hcat]; omega) hlocks
  obtain ⟨f1, f2⟩ := vx_frame hsame
  rw [hhp] at f1 f2
  have hWs : s.WarmedH U.vm := State.WarmedH.trans hW0 hW
  have hcl : s.vm.findClass cls = some ce.cls := by
    have h9 := hO.cls
    rw [hvm] at h9
    exact h9
  have hall : s.sameButNew ({ U with vm := s.vm } : State) locs mc ms := by
    subst hA
    obtain ⟨e1, e2⟩ := hsame
    rw [State.setFrames_setFrames] at e1
    have h2 : (T.setVm s.vm).sameButNew ({ U with vm := s.vm } : State) [] (0 + 1) (0 + 6) := ⟨e1, e2⟩
    have h3 := X.same.trans h2
    rw [List.append_nil] at h3
    exact h3.mono hc hs
  refine ⟨U, ?_, .threw T.heap.size, hrun, hend, Or.inr ⟨T.heap.size, rfl, cls, ce, locs, hx U hWs.alike f1 (fun q hq => f2 q hq (fun z hz => nomatch hz)), hce, hO.vm, hcl, hWs, hall, hf⟩⟩
  refine st1 _ ?_
  show Steps p.tables e below (T1.setTop { method := m, pc := pc + 3, locals := ls, stack := .ref T.heap.size :: rest, locked := none }) _
  jvm_step X₁.here [X₁.here.top, hexec, d3', Value.category]
  exact X₁.ldcStringW hexec (own := own) (text := text) (index := is) (a := sa) hown' hstr'.1 hstr'.2
    (g := { method := m, pc := pc + 4, locals := ls, stack := .ref T.heap.size :: .ref T.heap.size :: rest, locked := none }) rfl d4' _ hsteps
end Ends
section Bodies
variable {l : Launch}
theorem vx_ofW {y : MethodName} {ws ws' : List Cond} {rm : Room} {Pc : Array Value → State → Prop} {Qc : Array Value → State → Outcome → State → Prop} {XC : String → State → State → Prop} {mc ms : Nat} {free : Addr → Prop} {cc : ByteArray} {maxL : Nat} {ret : Option FieldType}
    (hy : plainName y.cls = true) (hw : ws = Cond.code y cc maxL ret :: ws')
    (body : ∀ p e s m args below meth c s₁, BodyLoose p l y (headSpec ws rm) cc maxL ret e s m args below meth c s₁ → c.maxLocals = maxL → (∀ x ∈ c.exceptionTable.toList, False) → Pc args s →
      W p l e (headSpec ws rm).room s m args below meth c s.heap [] 0 0 (vx_MQ below Qc XC args s mc ms free) (entryFrame m args maxL)) : vx_Met l y ws rm Pc Qc XC mc ms free := by
  refine MetFree.of_bodyS (code := cc) (maxLocals := maxL) (ret := ret) hy ?_ ?_
  · intro args s m h hn
    obtain ⟨meth, c, h1, h2, h3, h4, h5, h6, -, -⟩ := Cond.code_spec hn (atoms_spec (ws := ws) h _ (by rw [hw]; exact List.mem_cons_self))
    exact ⟨meth, c, h1, h2, h3, h4, h5, h6⟩
  · intro p e s m args below meth c s₁ B hml hP _
    have hh0 : s₁.heap = s.heap := by rw [B.state]; rfl
    have ht : ∀ x ∈ c.exceptionTable.toList, False := by
      obtain ⟨meth9, c9, h1, h2, -, -, -, -, h7, -⟩ := Cond.code_spec B.named (atoms_spec (ws := ws) B.pre _ (by rw [hw]; exact List.mem_cons_self))
      cases Option.some.inj (h1.symm.trans B.method)
      cases Option.some.inj (h2.symm.trans (Stand.of_body B).code)
      intro x hx
      rw [Array.isEmpty_iff.mp h7] at hx
      cases hx
    obtain ⟨t, a1, o, b1, b2, b3⟩ := body p e s m args below meth c s₁ B hml ht hP s₁ hh0 (Stand.of_body B)
    exact ⟨t, o, a1, b1, b2, b3⟩
/-- the table of a body with handlers -/
theorem vx_table {p : Program} {x y : MethodName} {S : Spec} {cc bytes : ByteArray} {maxL maxL' : Nat} {ret ret' : Option FieldType} {e : Env} {s s₁ : State} {m : MethodId} {args : Array Value} {below : List Frame} {meth : Method} {c : Code} {hh : List (Nat × Nat × Nat × Nat)}
    (B : BodyLoose p l y S cc maxL ret e s m args below meth c s₁) (h : (Cond.codeWith y bytes maxL' ret' hh).before args s = true) : c.exceptionTable.toList = tableOf hh := by
  obtain ⟨m9, meth9, c9, hn9, h1, h2, -, -, h6, -⟩ := Cond.codeWith_spec h
  cases Option.some.inj (hn9.symm.trans B.named)
  cases Option.some.inj (h1.symm.trans B.method)
  cases Option.some.inj (h2.symm.trans (Stand.of_body B).code)
  rw [← h6, table_eq]
end Bodies
end VXA
/-! ===== END ===== -/
/-! ===== BEGIN a static call of a method with an exception table ===== -/
section VXS
variable {p : Program} {l : Launch} {e : Env} {R : Room} {s : State} {m : MethodId} {args : Array Value} {below : List Frame} {meth : Method} {c : Code} {T : State} {H : Heap} {locs : List Loc} {cells slots : Nat}
abbrev vx_CSW (R : Room) (s : State) (args : Array Value) (own : String) (index : Nat) (y : MethodName) (bytes : ByteArray) (maxL : Nat) (ret : Option FieldType) (hh : List (Nat × Nat × Nat × Nat)) (ws : List Cond) (rm : Room) (mc ms n : Nat) : Prop :=
  (rm.cells = mc ∧ rm.slots = ms ∧ rm.frames + 1 ≤ R.frames ∧ 8 + (maxL + 11) + rm.locals ≤ R.locals ∧ (∀ w ∈ ws, ∀ (a' : Array Value) (U : State), s.WarmedH U.vm → w.before a' U = true) ∧ Cond.codeWith y bytes maxL ret hh ∈ ws) ∧
  (Cond.codeWith y bytes maxL ret hh).before args s = true ∧ (Cond.initialized y.cls).before args s = true ∧ (y.cls ≠ "java/lang/invoke/MethodHandle" ∧ y.cls ≠ "java/lang/invoke/VarHandle") ∧
  (∀ sig, parseMethodDescriptor y.desc = some sig → n = sig.parameters.length) ∧ (Cond.methodLink own index y).before args s = true ∧ (Cond.static y).before args s = true
theorem vx_cwSW {own : String} {index maxL mc ms : Nat} {y : MethodName} {bytes : ByteArray} {ret : Option FieldType} {hh : List (Nat × Nat × Nat × Nat)} {Ts ws ws' : List Cond} {rm : Room} (n : Nat) (ht : ∀ w ∈ Ts, w.before args s = true) (hT : GoodIn Ts (va_wsS own index y ws)) (hw : ws = Cond.codeWith y bytes maxL ret hh :: ws') (hrc : rm.cells = mc) (hrs : rm.slots = ms)
    (hd : y.cls ≠ "java/lang/invoke/MethodHandle" ∧ y.cls ≠ "java/lang/invoke/VarHandle" ∧ (parseMethodDescriptor y.desc).map (fun d => d.parameters.length) = some n) (hR : rm.frames + 1 ≤ R.frames ∧ 8 + (maxL + 11) + rm.locals ≤ R.locals) :
    vx_CSW R s args own index y bytes maxL ret hh ws rm mc ms n := by
  have ok : ∀ w ∈ va_wsS own index y ws, w.before args s = true := fun w h => ht w (hT w h).1
  have hG : GoodIn Ts ws := fun w h => hT w (by unfold va_wsS; exact List.mem_append_right _ h)
  have hc : Cond.codeWith y bytes maxL ret hh ∈ ws := by rw [hw]; exact List.mem_cons_self
  refine ⟨⟨hrc, hrs, hR.1, hR.2, pay_in ht hG, hc⟩, ht _ (hG _ hc).1, ok _ (by simp [va_wsS]), ⟨hd.1, hd.2.1⟩, fun sig h => ?_, ok _ (by simp [va_wsS]), ok _ (by simp [va_wsS])⟩
  have h2 := hd.2.2
  rw [h] at h2
  exact (Option.some.inj h2).symm
theorem vx_callSW (X : Stand p l e R s m args below meth c T locs cells slots) (hexec : p.tables.exec = Jvm.exec) {own : String} {index : Nat} {y : MethodName} {bytes : ByteArray} {maxL : Nat} {ret : Option FieldType} {hh : List (Nat × Nat × Nat × Nat)}
    (hown : s.vm.findClass own = some m.cls) (hlink : (Cond.methodLink own index y).before args s = true) (hstat : (Cond.static y).before args s = true) (hinit : (Cond.initialized y.cls).before args s = true)
    (hcode : (Cond.codeWith y bytes maxL ret hh).before args s = true) (hy : y.cls ≠ "java/lang/invoke/MethodHandle" ∧ y.cls ≠ "java/lang/invoke/VarHandle")
    {W9 : Nat} {Pre : Pt → Array Value → Prop} {Post : Pt → Array Value → Option Value → Pt → Prop} (hK : Back l R p e below s args y 3 W9 Pre Post)
    {g : JFrame} (hg : g.method = m) (hsize : g.locals.size = c.maxLocals) {argsL rest : List Value} (hlen : ∀ sig, parseMethodDescriptor y.desc = some sig → argsL.length = sig.parameters.length)
    (hstack : g.stack = argsL.reverse ++ rest) (hW : 2 * g.monitorRoom + (rest.map fun v => v.category).sum ≤ W9) (hdg : decode c.code g.pc = .ok (.invokestatic index, 3))
    (hpre : ∀ vm₁, s.WarmedH vm₁ → Pre ⟨T.setVm vm₁, locs, cells, slots⟩ argsL.toArray) :
    ∃ (v : Option Value) (vm₁ : Vm) (B : Pt), s.WarmedH vm₁ ∧ Stand p l e R s m args below meth c B.U B.locs B.cells B.slots ∧ Post ⟨T.setVm vm₁, locs, cells, slots⟩ argsL.toArray v B ∧
      ∀ target, Steps p.tables e below (B.U.setTop { g with pc := g.pc + 3, stack := v.toList ++ rest }) target → Steps p.tables e below (T.setTop g) target := by
  obtain ⟨mk, methM, cM, hnamed, hmethM, -, -, -, -, -, -, hsigM⟩ := Cond.codeWith_spec hcode
  have hstatic : methM.isStatic = true := Cond.static_spec hnamed hmethM hstat
  obtain ⟨kP, hkP, -⟩ := className_of_methodNamed hnamed
  have hinitP : kP.init = .initialized := Cond.initialized_spec (findClass_of_methodNamed hnamed) hkP hinit
  obtain ⟨vm₁, X₁, hstep₁⟩ := X.invokestatic hexec hown hlink hnamed hmethM hstatic hkP hinitP hy (g := g) hg (argsL := argsL) (rest := rest) (hlen _ hsigM) hstack hdg
  obtain ⟨v, B, X', hpost, hsteps⟩ := hK m meth c ⟨T.setVm vm₁, locs, cells, slots⟩ { g with stack := rest } (.invokestatic index) mk argsL.toArray X₁ hg hsize hdg hW (X₁.named hnamed) (hpre vm₁ X₁.warmed)
  exact ⟨v, vm₁, B, X₁.warmed, X', hpost, fun target h => hstep₁ _ fun acts => by rw [doInvoke_state]; exact hsteps.trans h⟩
theorem vx_runSW {y : MethodName} {bytes cc : ByteArray} {maxL nL mc ms n index : Nat} {ret : Option FieldType} {hh : List (Nat × Nat × Nat × Nat)} {ws : List Cond} {rm : Room} {Pc : Array Value → State → Prop} {Qc : Array Value → State → Outcome → State → Prop} {free : Addr → Prop} {Ts : List Cond} {own : String} {As rest : List Value} {g : JFrame}
    (S : CallFix p m c cc nL s args Ts own) (hM : Met l y ws rm Pc Qc mc ms free) (cw : vx_CSW R s args own index y bytes maxL ret hh ws rm mc ms n) (hp : PreS s H Pc As)
    (hg : g.method = m) (hn : As.length = n) (hsize : g.locals.size = nL) (hstack : g.stack = As.reverse ++ rest) (hW : 2 * g.monitorRoom + (rest.map fun v => v.category).sum ≤ 8) (hdg : decode cc g.pc = .ok (.invokestatic index, 3)) (hf : cells + mc ≤ R.cells ∧ slots + ms ≤ R.slots) :
    va_Run p l e R s m args below meth c H locs cells slots mc ms g rest (Qc As.toArray) (free) := by
  obtain ⟨⟨hrc, hrs, hfr, hlo, hws, hcw⟩, hcode, hini, hy, hlen, hl, hstt⟩ := cw
  have hK : Back l R p e below s args y 3 8 (PreOf R mc ms Pc) (PostOf Qc mc ms free) := va_backW (hh := hh) (bytes := bytes) (maxL := maxL) (ret := ret) hM hp.1 hrc hrs hfr hlo hws hcw (fun a' U hW => word_at hW (Or.inl (by first | rfl | simp [Cond.onTables, Cond.keeps, Cond.steady])) hini)
  obtain ⟨hx, hb, hml, ho, -⟩ := S
  intro T hT X
  obtain ⟨v, vm₁, ⟨U', l2, c2, s2⟩, hW₁, X', ⟨g', mk, t, L, e1, e2, hq, h1, hL, h2, h3⟩, st⟩ := vx_callSW X hx (hh := hh) (bytes := bytes) (maxL := maxL) (ret := ret) ho hl hstt hini hcode hy hK hg (hsize.trans hml.symm) (argsL := As) (rest := rest) (fun sig h => hn.trans (hlen sig h)) hstack hW (by rw [hb]; exact hdg)
    (fun vm₁ hW₁ => ⟨hf.1, hf.2, hp.2 (T.setVm vm₁) hT hW₁⟩)
  dsimp only [Pt.U, Pt.locs, Pt.cells, Pt.slots] at X' e1 e2 h1 h2 h3 st
  subst h1; subst h2; subst h3
  exact ⟨v, (T.setVm vm₁).calling g' mk As.toArray, t, U', L, hT, X', hL, e1, e2, hq, st⟩
/-- not caught here, past rows that name other classes: it goes on to the caller -/
theorem vx_outP {p : Program} {l : Launch} {e : Env} {R : Room} {s : State} {m : MethodId} {args : Array Value} {below : List Frame} {meth : Method} {c : Code} {H : Heap} {locs : List Loc} {cells slots : Nat} {free : Addr → Prop} {ls : Array Slot} {rest : List Value} {Qc : Array Value → State → Outcome → State → Prop} {XC : String → State → State → Prop}
    {pc : Nat} {own E : String} {ce : Cell} {q : Addr} {mc ms : Nat} (hown : s.vm.findClass own = some m.cls) (hlocks : meth.locks = false)
    (hpass : ∀ z ∈ c.exceptionTable.toList, covers z pc = false ∨ (z.catchType ≠ 0 ∧ ∃ nm : String, (Cond.classLink own z.catchType nm).before args s = true ∧ va_Nc E nm s)) (hcell : H[q]? = some ce) (hv : ce.vm = .none) (hcl : s.vm.findClass E = some ce.cls)
    (hx : ∀ t : State, t.heap = H → s.vm.Alike t.vm → XC E s t) (hf : ∀ z ∈ locs, free z.base) (hc : cells ≤ mc) (hs : slots ≤ ms) :
    vx_W p l e R s m args below meth c H locs cells slots (vx_MQ below Qc XC args s mc ms free) (F0 m pc ls rest) q := by
  intro T hT X
  have hpl : e.platform.magicAccessors = ({} : Platform).magicAccessors := by rw [X.admits.platform]
  obtain ⟨vm', hW', X', st⟩ := X.outThrough hlocks q (g := F0 m pc ls rest) rfl rfl rfl (cell := ce) (by rw [hT]; exact hcell) (by rw [hv]; rfl)
    (by obtain ⟨k9, h9, -⟩ := Vm.findClass_spec hcl; exact ⟨k9, h9⟩) (fun z hz => by
      rcases hpass z hz with h | ⟨hz0, nm, hl1, hn1⟩
      · exact Or.inl h
      · obtain ⟨c6, hc6, hcl6⟩ := Cond.classLink_spec hown hl1 e.platform hpl
        obtain ⟨a8, b8, h1, h2, h3⟩ := hn1
        cases Option.some.inj (h1.symm.trans hcl)
        cases Option.some.inj (h2.symm.trans hc6)
        exact Or.inr ⟨hz0, _, hcl6, h3⟩)
  obtain ⟨g₀, hfr⟩ := X'.frames_eq
  have hcell9 : ((T.setVm vm').setFrames (.throwing q :: below)).heap[q]? = some ce := by
    show T.heap[q]? = some ce
    rw [hT]; exact hcell
  have hend : Ended ((T.setVm vm').setFrames (.throwing q :: below)) below (.threw q) := State.frames_setFrames _ (State.cur_lt_of_frames hfr)
  refine ⟨(T.setVm vm').setFrames (.throwing q :: below), ?_, .threw q, X'.here.running, hend, Or.inr ⟨q, rfl, E, ce, locs, hx _ hT (X'.ends _).1.alike, hcell9, hv, hcl, (X'.ends _).1, (X'.ends _).2.mono hc hs, hf⟩⟩
  rw [X.pushThrowing_eq]
  exact st
/-- a thing of a world lies in the heap -/
theorem vx_lt {D : va_G} {cl : List vw_C} {ws : va_W} {H1 : Heap} (h : va_P D cl ws H1) {k : Nat} {q : Nat × va_E} (hk : ws[k]? = some q) : q.1 < H1.size := (h k q hk).lt
end VXS
/-! ===== END ===== -/
/-! ===== BEGIN methods with a table of their own: called by a name, returning or throwing ===== -/
section VXH
/-! vx_backW, vx_callVX, vx_callSX, vx_callVW, vx_runVW, vx_runVX, vx_runSX, vx_ofWH follow the same proofs as their sisters above (Free/Laws.lean, Shelf42/LK1.lean); vx_outP calls Shelf42/NT130.lean (outThrough). -/
section
variable {l : Launch} {R : Room} {p : Program} {e : Env} {below : List Frame} {s : State} {sargs : Array Value} {y : MethodName} {len W9 : Nat}
theorem vx_backW {ws : List Cond} {rm : Room} {Pc : Array Value → State → Prop} {Qc : Array Value → State → Outcome → State → Prop} {XC : String → State → State → Prop} {mc ms : Nat} {free : Addr → Prop} {bytes : ByteArray} {maxL : Nat} {ret : Option FieldType} {hh : List (Nat × Nat × Nat × Nat)}
    (hM : vx_Met l y ws rm Pc Qc XC mc ms free) (hblind : FrameBlind Pc) (hrc : rm.cells = mc) (hrs : rm.slots = ms)
    (hframes : rm.frames + 1 ≤ R.frames) (hlocals : W9 + (maxL + 11) + rm.locals ≤ R.locals)
    (hws : ∀ w ∈ ws, ∀ a' U, s.WarmedH U.vm → w.before a' U = true) (hcode : Cond.codeWith y bytes maxL ret hh ∈ ws) (hinit : ∀ a' U, s.WarmedH U.vm → (Cond.initialized y.cls).before a' U = true) :
    vx_Back l R p e below s sargs y len W9 (PreOf R mc ms Pc) (PostOf Qc mc ms free) (vx_Post XC mc ms free) := by
  intro m meth c A g ig mk a X hg hsize hdg hW hn hp
  have h1 : (headSpec ws rm).pre.before a A.U = true := atoms_intro fun w hw => hws w hw _ _ X.warmed
  have h2 : (Cond.codeWith y bytes maxL ret hh).before a A.U = true := hws _ hcode _ _ X.warmed
  have h3 : (Cond.initialized y.cls).before a A.U = true := hinit _ _ X.warmed
  have h4 : A.cells + (headSpec ws rm).room.cells ≤ R.cells := by rw [show (headSpec ws rm).room.cells = mc from hrc]; exact hp.1
  have h5 : A.slots + (headSpec ws rm).room.slots ≤ R.slots := by rw [show (headSpec ws rm).room.slots = ms from hrs]; exact hp.2.1
  have hPc : Pc a (A.U.calling g mk a) := hblind _ _ _ _ hp.2.2
  obtain ⟨U, Ls, c0, s0⟩ := A
  dsimp only [Pt.U, Pt.locs, Pt.cells, Pt.slots] at h1 h2 h3 h4 h5 X hn hPc ⊢
  obtain ⟨m9, methY, cY, hn9, hmY, hcY, -, hlY, -⟩ := Cond.codeWith_spec h2
  cases Option.some.inj (hn9.symm.trans hn)
  obtain ⟨kY, hkY, -⟩ := className_of_methodNamed hn
  have hinitY : kY.init = .initialized := Cond.initialized_spec (findClass_of_methodNamed hn) hkY h3
  have h : At U g.method c below := by rw [hg]; exact X.here
  have hlocals9 : W9 + (maxL + 11) + (headSpec ws rm).room.locals ≤ R.locals := hlocals
  have happ : (headSpec ws rm).appliesLoose y e.platform (U.calling g mk a) = true :=
    Spec.appliesLoose_calling (g := g) h hdg hn hkY hinitY
      (X.room_calling (g := g) (R' := (headSpec ws rm).room) hsize hmY hcY hframes (by rw [hlY]; omega) h4 h5) h1
  obtain ⟨mid, hmid⟩ := h.above
  have hfr : (U.setTop g).frames = (.java g :: mid) ++ below := by rw [State.frames_setTop' g h.top, hmid]; rfl
  obtain ⟨o, s₂, hsteps, -, hend, hq⟩ := Steps.callFree hM p X.admits X.cas X.clock (acts := []) hfr happ hPc trivial
  have hq' : vx_Q Qc XC mc ms free a (U.calling g mk a) o s₂ := hq
  rw [State.frames_setTop' g h.top] at hend
  obtain ⟨g₀, hg0⟩ := Option.isSome_iff_exists.mp h.top
  obtain ⟨r, hr⟩ := State.topJava?_eq_some.mp hg0
  have hr' : (({ U with heap := s₂.heap, slotsUsed := s₂.slotsUsed } : State).setVm s₂.vm).frames = .java g₀ :: r := hr
  rcases hq' with ⟨hqc, L, hfe, hL⟩ | ⟨q, rfl, E, ce, L, hx, hce, hcv, hcl, hW₂, hsm, hL⟩
  · obtain ⟨⟨v, rfl⟩, hW₂, e2, q2, q3, q4, q5, q6⟩ := id hfe
    have e3 : s₂ = ({ (U.calling g mk a).setFrames s₂.frames with heap := s₂.heap, slotsUsed := s₂.slotsUsed } : State).setVm s₂.vm := by
      have : s₂ = ({ s₂ with vm := (U.calling g mk a).vm } : State).setVm s₂.vm := rfl
      rw [e2] at this
      exact this
    obtain ⟨c₂, i₂, len₂, hc₂, hd₂, hf₂⟩ := hend
    have hW' : U.WarmedH s₂.vm := hW₂
    have hcc : c₂ = c := by
      have h1 : s₂.code? g.method = U.code? g.method := by
        rw [State.code?_eq, State.code?_eq, hW'.alike.method?]
      exact Option.some.inj (hc₂.symm.trans (h1.trans h.code))
    subst hcc
    have hlen : len₂ = len := by rw [hdg] at hd₂; cases hd₂; rfl
    subst hlen
    have hs₂ : s₂ = (({ U with heap := s₂.heap, slotsUsed := s₂.slotsUsed } : State).setVm s₂.vm).setTop { g with pc := g.pc + len₂, stack := v.toList ++ g.stack } := by
      refine e3.trans ?_
      rw [hf₂, State.calling_eq h.top, State.setFrames_setFrames, State.setTop_of_frames _ hr', hr]
      rfl
    have hsame : U.sameButNew ({ U with heap := s₂.heap, slotsUsed := s₂.slotsUsed } : State) L mc ms := by
      refine ⟨?_, q2, q3, q4, q5, q6⟩
      obtain ⟨t, ht, -⟩ := State.frames_cons hr
      show ({ U with heap := s₂.heap, slotsUsed := s₂.slotsUsed } : State) = { U.setFrames U.frames with heap := s₂.heap, slotsUsed := s₂.slotsUsed }
      rw [State.setFrames_self ht]
    subst hg
    refine Or.inl ⟨v, ⟨(({ U with heap := s₂.heap, slotsUsed := s₂.slotsUsed } : State).setVm s₂.vm), Ls ++ L, c0 + mc, s0 + ms⟩,
      ⟨X.admits, X.cas, X.clock, X.frames, X.room, X.hears, X.method, X.code, (X.here.setHeapUsed s₂.heap s₂.slotsUsed).setVm hW'.alike, X.tail, State.WarmedH.trans X.warmed hW', X.limits, X.bytes, X.same.trans (hsame.setVm s.vm)⟩,
      ⟨g, mk, s₂, L, rfl, rfl, hqc, rfl, hL, rfl, rfl⟩, ?_⟩
    show Steps p.tables e below _ ((({ U with heap := s₂.heap, slotsUsed := s₂.slotsUsed } : State).setVm s₂.vm).setTop { g with pc := g.pc + len₂, stack := v.toList ++ g.stack })
    rw [← hs₂]
    exact hsteps
  · obtain ⟨e2, q2, q3, q4, q5, q6⟩ := id hsm
    have e3 : s₂ = ({ (U.calling g mk a).setFrames s₂.frames with heap := s₂.heap, slotsUsed := s₂.slotsUsed } : State).setVm s₂.vm := by
      have : s₂ = ({ s₂ with vm := (U.calling g mk a).vm } : State).setVm s₂.vm := rfl
      rw [e2] at this
      exact this
    have hf₂ : s₂.frames = .throwing q :: .java g :: U.frames.tail := hend
    have hW' : U.WarmedH s₂.vm := hW₂
    have hs₂ : s₂ = ((({ U with heap := s₂.heap, slotsUsed := s₂.slotsUsed } : State).setVm s₂.vm).setTop g).pushFrame (.throwing q) := by
      refine e3.trans ?_
      rw [hf₂, State.calling_eq h.top, State.setFrames_setFrames, State.pushFrame, State.frames_setTop _ hr', State.setTop_of_frames _ hr', State.setFrames_setFrames, hr]
      rfl
    have hsame : U.sameButNew ({ U with heap := s₂.heap, slotsUsed := s₂.slotsUsed } : State) L mc ms := by
      refine ⟨?_, q2, q3, q4, q5, q6⟩
      obtain ⟨t, ht, -⟩ := State.frames_cons hr
      show ({ U with heap := s₂.heap, slotsUsed := s₂.slotsUsed } : State) = { U.setFrames U.frames with heap := s₂.heap, slotsUsed := s₂.slotsUsed }
      rw [State.setFrames_self ht]
    subst hg
    refine Or.inr ⟨q, ⟨(({ U with heap := s₂.heap, slotsUsed := s₂.slotsUsed } : State).setVm s₂.vm), Ls ++ L, c0 + mc, s0 + ms⟩,
      ⟨X.admits, X.cas, X.clock, X.frames, X.room, X.hears, X.method, X.code, (X.here.setHeapUsed s₂.heap s₂.slotsUsed).setVm hW'.alike, X.tail, State.WarmedH.trans X.warmed hW', X.limits, X.bytes, X.same.trans (hsame.setVm s.vm)⟩,
      ⟨g, mk, s₂, L, E, ce, rfl, rfl, hx, hce, hcv, hcl, rfl, hL, rfl, rfl⟩, ?_⟩
    show Steps p.tables e below _ (((({ U with heap := s₂.heap, slotsUsed := s₂.slotsUsed } : State).setVm s₂.vm).setTop g).pushFrame (.throwing q))
    rw [← hs₂]
    exact hsteps
end
variable {p : Program} {l : Launch} {e : Env} {R : Room} {s : State} {m : MethodId} {args : Array Value} {below : List Frame} {meth : Method} {c : Code} {T : State} {H : Heap} {locs : List Loc} {cells slots : Nat}
theorem vx_callVX (X : Stand p l e R s m args below meth c T locs cells slots) (hexec : p.tables.exec = Jvm.exec) {own C : String} {index : Nat} {y : MethodName} {bytes : ByteArray} {maxL : Nat} {ret : Option FieldType} {hh : List (Nat × Nat × Nat × Nat)}
    (hown : s.vm.findClass own = some m.cls) (hlink : (Cond.methodLink own index y).before args s = true) (hinst : (Cond.instanceMethod y).before args s = true) (hsel : (Cond.selects C y y).before args s = true)
    (hcode : (Cond.codeWith y bytes maxL ret hh).before args s = true) (hy : y.cls ≠ "java/lang/invoke/MethodHandle" ∧ y.cls ≠ "java/lang/invoke/VarHandle")
    {W9 : Nat} {Pre : Pt → Array Value → Prop} {Post : Pt → Array Value → Option Value → Pt → Prop} {PostX : Pt → Array Value → Addr → Pt → Prop} (hK : vx_Back l R p e below s args y 3 W9 Pre Post PostX)
    {b : Addr} {cellB : Cell} (hcell : T.heap[b]? = some cellB) (hobj : cellB.vm.isStatics = false) (hcls : s.vm.findClass C = some cellB.cls)
    {g : JFrame} (hg : g.method = m) (hsize : g.locals.size = c.maxLocals) {argsL rest : List Value} (hlen : ∀ sig, parseMethodDescriptor y.desc = some sig → argsL.length = sig.parameters.length)
    (hstack : g.stack = argsL.reverse ++ .ref b :: rest) (hW : 2 * g.monitorRoom + (rest.map fun v => v.category).sum ≤ W9) (hdg : decode c.code g.pc = .ok (.invokevirtual index, 3))
    (hpre : ∀ vm₁, s.WarmedH vm₁ → Pre ⟨T.setVm vm₁, locs, cells, slots⟩ (Value.ref b :: argsL).toArray) :
    (∃ (v : Option Value) (vm₁ : Vm) (B : Pt), s.WarmedH vm₁ ∧ Stand p l e R s m args below meth c B.U B.locs B.cells B.slots ∧ Post ⟨T.setVm vm₁, locs, cells, slots⟩ (Value.ref b :: argsL).toArray v B ∧
      ∀ target, Steps p.tables e below (B.U.setTop { g with pc := g.pc + 3, stack := v.toList ++ rest }) target → Steps p.tables e below (T.setTop g) target) ∨
    (∃ (q : Addr) (vm₁ : Vm) (B : Pt), s.WarmedH vm₁ ∧ Stand p l e R s m args below meth c B.U B.locs B.cells B.slots ∧ PostX ⟨T.setVm vm₁, locs, cells, slots⟩ (Value.ref b :: argsL).toArray q B ∧
      Steps p.tables e below (T.setTop g) ((B.U.setTop { g with stack := rest }).pushFrame (.throwing q))) := by
  obtain ⟨mk, methM, hnamed, hmethM, hstM, habM⟩ := Cond.instanceMethod_spec hinst
  obtain ⟨m8, methM', cM, hn8, hmethM', -, -, -, -, -, -, hsigM⟩ := Cond.codeWith_spec hcode
  cases Option.some.inj (hn8.symm.trans hnamed)
  cases hmethM.symm.trans hmethM'
  obtain ⟨c2, r2, m2, q1, q2, q3, q4, kP, hkP, hkPi⟩ := Cond.selects_spec hsel
  cases hcls.symm.trans q1
  cases (State.methodFound?_of_named hnamed hy).symm.trans q2
  cases hnamed.symm.trans q3
  have hselP : selectMethod e.platform s.vm cellB.cls mk = .method mk := by rw [Launch.admits_selectMethod X.admits]; exact q4
  obtain ⟨vm₁, X₁, hstep₁⟩ := X.invokevirtual hexec hown hlink hnamed hmethM hstM hkP hkPi hy (a := b) (cell := cellB) hcell
    (fun z h => by rw [h] at hobj; cases hobj) hselP hmethM habM hkP hkPi (g := g) hg (argsL := argsL) (rest := rest) (hlen _ hsigM) hstack hdg
  rcases hK m meth c ⟨T.setVm vm₁, locs, cells, slots⟩ { g with stack := rest } (.invokevirtual index) mk (Value.ref b :: argsL).toArray X₁ hg hsize hdg hW (X₁.named hnamed) (hpre vm₁ X₁.warmed) with ⟨v, B, X', hpost, hsteps⟩ | ⟨q, B, X', hpost, hsteps⟩
  · exact Or.inl ⟨v, vm₁, B, X₁.warmed, X', hpost, fun target h => hstep₁ _ fun acts => by rw [doInvoke_state]; exact hsteps.trans h⟩
  · exact Or.inr ⟨q, vm₁, B, X₁.warmed, X', hpost, hstep₁ _ fun acts => by rw [doInvoke_state]; exact hsteps⟩
theorem vx_callSX (X : Stand p l e R s m args below meth c T locs cells slots) (hexec : p.tables.exec = Jvm.exec) {own : String} {index : Nat} {y : MethodName} {bytes : ByteArray} {maxL : Nat} {ret : Option FieldType} {hh : List (Nat × Nat × Nat × Nat)}
    (hown : s.vm.findClass own = some m.cls) (hlink : (Cond.methodLink own index y).before args s = true) (hstat : (Cond.static y).before args s = true) (hinit : (Cond.initialized y.cls).before args s = true)
    (hcode : (Cond.codeWith y bytes maxL ret hh).before args s = true) (hy : y.cls ≠ "java/lang/invoke/MethodHandle" ∧ y.cls ≠ "java/lang/invoke/VarHandle")
    {W9 : Nat} {Pre : Pt → Array Value → Prop} {Post : Pt → Array Value → Option Value → Pt → Prop} {PostX : Pt → Array Value → Addr → Pt → Prop} (hK : vx_Back l R p e below s args y 3 W9 Pre Post PostX)
    {g : JFrame} (hg : g.method = m) (hsize : g.locals.size = c.maxLocals) {argsL rest : List Value} (hlen : ∀ sig, parseMethodDescriptor y.desc = some sig → argsL.length = sig.parameters.length)
    (hstack : g.stack = argsL.reverse ++ rest) (hW : 2 * g.monitorRoom + (rest.map fun v => v.category).sum ≤ W9) (hdg : decode c.code g.pc = .ok (.invokestatic index, 3))
    (hpre : ∀ vm₁, s.WarmedH vm₁ → Pre ⟨T.setVm vm₁, locs, cells, slots⟩ argsL.toArray) :
    (∃ (v : Option Value) (vm₁ : Vm) (B : Pt), s.WarmedH vm₁ ∧ Stand p l e R s m args below meth c B.U B.locs B.cells B.slots ∧ Post ⟨T.setVm vm₁, locs, cells, slots⟩ argsL.toArray v B ∧
      ∀ target, Steps p.tables e below (B.U.setTop { g with pc := g.pc + 3, stack := v.toList ++ rest }) target → Steps p.tables e below (T.setTop g) target) ∨
    (∃ (q : Addr) (vm₁ : Vm) (B : Pt), s.WarmedH vm₁ ∧ Stand p l e R s m args below meth c B.U B.locs B.cells B.slots ∧ PostX ⟨T.setVm vm₁, locs, cells, slots⟩ argsL.toArray q B ∧
      Steps p.tables e below (T.setTop g) ((B.U.setTop { g with stack := rest }).pushFrame (.throwing q))) := by
  obtain ⟨mk, methM, cM, hnamed, hmethM, -, -, -, -, -, -, hsigM⟩ := Cond.codeWith_spec hcode
  have hstatic : methM.isStatic = true := Cond.static_spec hnamed hmethM hstat
  obtain ⟨kP, hkP, -⟩ := className_of_methodNamed hnamed
  have hinitP : kP.init = .initialized := Cond.initialized_spec (findClass_of_methodNamed hnamed) hkP hinit
  obtain ⟨vm₁, X₁, hstep₁⟩ := X.invokestatic hexec hown hlink hnamed hmethM hstatic hkP hinitP hy (g := g) hg (argsL := argsL) (rest := rest) (hlen _ hsigM) hstack hdg
  rcases hK m meth c ⟨T.setVm vm₁, locs, cells, slots⟩ { g with stack := rest } (.invokestatic index) mk argsL.toArray X₁ hg hsize hdg hW (X₁.named hnamed) (hpre vm₁ X₁.warmed) with ⟨v, B, X', hpost, hsteps⟩ | ⟨q, B, X', hpost, hsteps⟩
  · exact Or.inl ⟨v, vm₁, B, X₁.warmed, X', hpost, fun target h => hstep₁ _ fun acts => by rw [doInvoke_state]; exact hsteps.trans h⟩
  · exact Or.inr ⟨q, vm₁, B, X₁.warmed, X', hpost, hstep₁ _ fun acts => by rw [doInvoke_state]; exact hsteps⟩
theorem vx_callVW (X : Stand p l e R s m args below meth c T locs cells slots) (hexec : p.tables.exec = Jvm.exec) {own C : String} {index : Nat} {y : MethodName} {bytes : ByteArray} {maxL : Nat} {ret : Option FieldType} {hh : List (Nat × Nat × Nat × Nat)}
    (hown : s.vm.findClass own = some m.cls) (hlink : (Cond.methodLink own index y).before args s = true) (hinst : (Cond.instanceMethod y).before args s = true) (hsel : (Cond.selects C y y).before args s = true)
    (hcode : (Cond.codeWith y bytes maxL ret hh).before args s = true) (hy : y.cls ≠ "java/lang/invoke/MethodHandle" ∧ y.cls ≠ "java/lang/invoke/VarHandle")
    {W9 : Nat} {Pre : Pt → Array Value → Prop} {Post : Pt → Array Value → Option Value → Pt → Prop} (hK : Back l R p e below s args y 3 W9 Pre Post)
    {b : Addr} {cellB : Cell} (hcell : T.heap[b]? = some cellB) (hobj : cellB.vm.isStatics = false) (hcls : s.vm.findClass C = some cellB.cls)
    {g : JFrame} (hg : g.method = m) (hsize : g.locals.size = c.maxLocals) {argsL rest : List Value} (hlen : ∀ sig, parseMethodDescriptor y.desc = some sig → argsL.length = sig.parameters.length)
    (hstack : g.stack = argsL.reverse ++ .ref b :: rest) (hW : 2 * g.monitorRoom + (rest.map fun v => v.category).sum ≤ W9) (hdg : decode c.code g.pc = .ok (.invokevirtual index, 3))
    (hpre : ∀ vm₁, s.WarmedH vm₁ → Pre ⟨T.setVm vm₁, locs, cells, slots⟩ (Value.ref b :: argsL).toArray) :
    ∃ (v : Option Value) (vm₁ : Vm) (B : Pt), s.WarmedH vm₁ ∧ Stand p l e R s m args below meth c B.U B.locs B.cells B.slots ∧ Post ⟨T.setVm vm₁, locs, cells, slots⟩ (Value.ref b :: argsL).toArray v B ∧
      ∀ target, Steps p.tables e below (B.U.setTop { g with pc := g.pc + 3, stack := v.toList ++ rest }) target → Steps p.tables e below (T.setTop g) target := by
  obtain ⟨mk, methM, hnamed, hmethM, hstM, habM⟩ := Cond.instanceMethod_spec hinst
  obtain ⟨m8, methM', cM, hn8, hmethM', -, -, -, -, -, -, hsigM⟩ := Cond.codeWith_spec hcode
  cases Option.some.inj (hn8.symm.trans hnamed)
  cases hmethM.symm.trans hmethM'
  obtain ⟨c2, r2, m2, q1, q2, q3, q4, kP, hkP, hkPi⟩ := Cond.selects_spec hsel
  cases hcls.symm.trans q1
  cases (State.methodFound?_of_named hnamed hy).symm.trans q2
  cases hnamed.symm.trans q3
  have hselP : selectMethod e.platform s.vm cellB.cls mk = .method mk := by rw [Launch.admits_selectMethod X.admits]; exact q4
  obtain ⟨vm₁, X₁, hstep₁⟩ := X.invokevirtual hexec hown hlink hnamed hmethM hstM hkP hkPi hy (a := b) (cell := cellB) hcell
    (fun z h => by rw [h] at hobj; cases hobj) hselP hmethM habM hkP hkPi (g := g) hg (argsL := argsL) (rest := rest) (hlen _ hsigM) hstack hdg
  obtain ⟨v, B, X', hpost, hsteps⟩ := hK m meth c ⟨T.setVm vm₁, locs, cells, slots⟩ { g with stack := rest } (.invokevirtual index) mk (Value.ref b :: argsL).toArray X₁ hg hsize hdg hW (X₁.named hnamed) (hpre vm₁ X₁.warmed)
  exact ⟨v, vm₁, B, X₁.warmed, X', hpost, fun target h => hstep₁ _ fun acts => by rw [doInvoke_state]; exact hsteps.trans h⟩
abbrev vx_CVW (R : Room) (s : State) (args : Array Value) (own C : String) (index : Nat) (y : MethodName) (bytes : ByteArray) (maxL : Nat) (ret : Option FieldType) (hh : List (Nat × Nat × Nat × Nat)) (ws : List Cond) (rm : Room) (mc ms n : Nat) : Prop :=
  (rm.cells = mc ∧ rm.slots = ms ∧ rm.frames + 1 ≤ R.frames ∧ 8 + (maxL + 11) + rm.locals ≤ R.locals ∧ (∀ w ∈ ws, ∀ (a' : Array Value) (U : State), s.WarmedH U.vm → w.before a' U = true) ∧ Cond.codeWith y bytes maxL ret hh ∈ ws) ∧
  (Cond.codeWith y bytes maxL ret hh).before args s = true ∧ (Cond.initialized y.cls).before args s = true ∧ (y.cls ≠ "java/lang/invoke/MethodHandle" ∧ y.cls ≠ "java/lang/invoke/VarHandle") ∧
  (∀ sig, parseMethodDescriptor y.desc = some sig → n = sig.parameters.length) ∧ (Cond.methodLink own index y).before args s = true ∧ (Cond.instanceMethod y).before args s = true ∧ (Cond.selects C y y).before args s = true
theorem vx_cwVW {own C : String} {index maxL mc ms : Nat} {y : MethodName} {bytes : ByteArray} {ret : Option FieldType} {hh : List (Nat × Nat × Nat × Nat)} {Ts ws ws' : List Cond} {rm : Room} (n : Nat) (ht : ∀ w ∈ Ts, w.before args s = true) (hT : GoodIn Ts (wsV own index C y ws)) (hw : ws = Cond.codeWith y bytes maxL ret hh :: ws') (hrc : rm.cells = mc) (hrs : rm.slots = ms)
    (hd : y.cls = C ∧ y.cls ≠ "java/lang/invoke/MethodHandle" ∧ y.cls ≠ "java/lang/invoke/VarHandle" ∧ (parseMethodDescriptor y.desc).map (fun d => d.parameters.length) = some n) (hR : rm.frames + 1 ≤ R.frames ∧ 8 + (maxL + 11) + rm.locals ≤ R.locals) :
    vx_CVW R s args own C index y bytes maxL ret hh ws rm mc ms n := by
  obtain ⟨hC, hd⟩ := hd
  subst hC
  have ok : ∀ w ∈ wsV own index y.cls y ws, w.before args s = true := fun w h => ht w (hT w h).1
  have hG : GoodIn Ts ws := fun w h => hT w (by unfold wsV; exact List.mem_append_right _ h)
  have hc : Cond.codeWith y bytes maxL ret hh ∈ ws := by rw [hw]; exact List.mem_cons_self
  refine ⟨⟨hrc, hrs, hR.1, hR.2, pay_in ht hG, hc⟩, ht _ (hG _ hc).1, ok _ (by simp [wsV]), ⟨hd.1, hd.2.1⟩, fun sig h => ?_, ok _ (by simp [wsV]), ok _ (by simp [wsV]), ok _ (by simp [wsV])⟩
  have h2 := hd.2.2
  rw [h] at h2
  exact (Option.some.inj h2).symm
theorem vx_runVW {y : MethodName} {bytes cc : ByteArray} {maxL nL mc ms n index : Nat} {ret : Option FieldType} {hh : List (Nat × Nat × Nat × Nat)} {ws : List Cond} {rm : Room} {Pc : Array Value → State → Prop} {Qc : Array Value → State → Outcome → State → Prop} {free : Addr → Prop} {Ts : List Cond} {own C : String} {b : Addr} {As rest : List Value} {g : JFrame}
    (S : CallFix p m c cc nL s args Ts own) (hM : Met l y ws rm Pc Qc mc ms free) (cw : vx_CVW R s args own C index y bytes maxL ret hh ws rm mc ms n) (hp : PreV s H C b Pc As)
    (hg : g.method = m) (hn : As.length = n) (hsize : g.locals.size = nL) (hstack : g.stack = As.reverse ++ .ref b :: rest) (hW : 2 * g.monitorRoom + (rest.map fun v => v.category).sum ≤ 8) (hdg : decode cc g.pc = .ok (.invokevirtual index, 3)) (hf : cells + mc ≤ R.cells ∧ slots + ms ≤ R.slots) :
    va_Run p l e R s m args below meth c H locs cells slots mc ms g rest (Qc (Value.ref b :: As).toArray) free := by
  obtain ⟨⟨hrc, hrs, hfr, hlo, hws, hcw⟩, hcode, hini, hy, hlen, hl, hin, hse⟩ := cw
  have hK : Back l R p e below s args y 3 8 (PreOf R mc ms Pc) (PostOf Qc mc ms free) := va_backW (hh := hh) (bytes := bytes) (maxL := maxL) (ret := ret) hM hp.1 hrc hrs hfr hlo hws hcw (fun a' U hW => word_at hW (Or.inl (by first | rfl | simp [Cond.onTables, Cond.keeps, Cond.steady])) hini)
  obtain ⟨hx, hb, hml, ho, -⟩ := S
  obtain ⟨-, ⟨cellB, hcB, hoB, hclB⟩, hPc⟩ := hp
  intro T hT X
  obtain ⟨v, vm₁, ⟨U', l2, c2, s2⟩, hW₁, X', ⟨g', mk, t, L, e1, e2, hq, h1, hL, h2, h3⟩, st⟩ := vx_callVW X hx (C := C) (hh := hh) (bytes := bytes) (maxL := maxL) (ret := ret) ho hl hin hse hcode hy hK (by rw [hT]; exact hcB) hoB hclB hg (hsize.trans hml.symm) (argsL := As) (rest := rest) (fun sig h => hn.trans (hlen sig h)) hstack hW (by rw [hb]; exact hdg)
    (fun vm₁ hW₁ => ⟨hf.1, hf.2, hPc (T.setVm vm₁) hT hW₁⟩)
  dsimp only [Pt.U, Pt.locs, Pt.cells, Pt.slots] at X' e1 e2 h1 h2 h3 st
  subst h1; subst h2; subst h3
  exact ⟨v, (T.setVm vm₁).calling g' mk (Value.ref b :: As).toArray, t, U', L, hT, X', hL, e1, e2, hq, st⟩
section
variable {y : MethodName} {bytes cc : ByteArray} {maxL nL mc ms n index : Nat} {ret : Option FieldType} {ws : List Cond} {rm : Room} {Pc : Array Value → State → Prop} {Qc : Array Value → State → Outcome → State → Prop} {XC : String → State → State → Prop} {free : Addr → Prop} {Ts : List Cond} {own C : String} {b : Addr} {As rest : List Value} {g : JFrame}
theorem vx_runVX {hh : List (Nat × Nat × Nat × Nat)} (S : CallFix p m c cc nL s args Ts own) (hM : vx_Met l y ws rm Pc Qc XC mc ms free) (cw : vx_CVW R s args own C index y bytes maxL ret hh ws rm mc ms n) (hp : PreV s H C b Pc As)
    (hg : g.method = m) (hn : As.length = n) (hsize : g.locals.size = nL) (hstack : g.stack = As.reverse ++ .ref b :: rest) (hW : 2 * g.monitorRoom + (rest.map fun v => v.category).sum ≤ 8) (hdg : decode cc g.pc = .ok (.invokevirtual index, 3)) (hf : cells + mc ≤ R.cells ∧ slots + ms ≤ R.slots) :
    vx_Run p l e R s m args below meth c H locs cells slots mc ms g rest (Qc (Value.ref b :: As).toArray) XC free := by
  obtain ⟨⟨hrc, hrs, hfr, hlo, hws, hcw⟩, hcode, hini, hy, hlen, hl, hin, hse⟩ := cw
  have hK : vx_Back l R p e below s args y 3 8 (PreOf R mc ms Pc) (PostOf Qc mc ms free) (vx_Post XC mc ms free) := vx_backW (hh := hh) (bytes := bytes) (maxL := maxL) (ret := ret) hM hp.1 hrc hrs hfr hlo hws hcw (fun a' U hW => word_at hW (Or.inl (by first | rfl | simp [Cond.onTables, Cond.keeps, Cond.steady])) hini)
  obtain ⟨hx, hb, hml, ho, -⟩ := S
  obtain ⟨-, ⟨cellB, hcB, hoB, hclB⟩, hPc⟩ := hp
  intro T hT X
  rcases vx_callVX X hx (C := C) (hh := hh) (bytes := bytes) (maxL := maxL) (ret := ret) ho hl hin hse hcode hy hK (by rw [hT]; exact hcB) hoB hclB hg (hsize.trans hml.symm) (argsL := As) (rest := rest) (fun sig h => hn.trans (hlen sig h)) hstack hW (by rw [hb]; exact hdg)
    (fun vm₁ hW₁ => ⟨hf.1, hf.2, hPc (T.setVm vm₁) hT hW₁⟩) with ⟨v, vm₁, ⟨U', l2, c2, s2⟩, hW₁, X', ⟨g', mk, t, L, e1, e2, hq, h1, hL, h2, h3⟩, st⟩ | ⟨q, vm₁, ⟨U', l2, c2, s2⟩, hW₁, X', ⟨g', mk, t, L, E, ce, e1, e2, hq, hce, hcv, hcl, h1, hL, h2, h3⟩, st⟩
  · dsimp only [Pt.U, Pt.locs, Pt.cells, Pt.slots] at X' e1 e2 h1 h2 h3 st
    subst h1; subst h2; subst h3
    exact Or.inl ⟨v, (T.setVm vm₁).calling g' mk (Value.ref b :: As).toArray, t, U', L, hT, X', hL, e1, e2, hq, st⟩
  · dsimp only [Pt.U, Pt.locs, Pt.cells, Pt.slots] at X' e1 e2 h1 h2 h3 st hcl
    subst h1; subst h2; subst h3
    exact Or.inr ⟨q, (T.setVm vm₁).calling g' mk (Value.ref b :: As).toArray, t, U', L, E, ce, hT, X', hL, e1, e2, hq, hce, hcv, vx_cls hW₁ hcl, st⟩
theorem vx_runSX {hh : List (Nat × Nat × Nat × Nat)} (S : CallFix p m c cc nL s args Ts own) (hM : vx_Met l y ws rm Pc Qc XC mc ms free) (cw : vx_CSW R s args own index y bytes maxL ret hh ws rm mc ms n) (hp : PreS s H Pc As)
    (hg : g.method = m) (hn : As.length = n) (hsize : g.locals.size = nL) (hstack : g.stack = As.reverse ++ rest) (hW : 2 * g.monitorRoom + (rest.map fun v => v.category).sum ≤ 8) (hdg : decode cc g.pc = .ok (.invokestatic index, 3)) (hf : cells + mc ≤ R.cells ∧ slots + ms ≤ R.slots) :
    vx_Run p l e R s m args below meth c H locs cells slots mc ms g rest (Qc As.toArray) XC free := by
  obtain ⟨⟨hrc, hrs, hfr, hlo, hws, hcw⟩, hcode, hini, hy, hlen, hl, hstt⟩ := cw
  have hK : vx_Back l R p e below s args y 3 8 (PreOf R mc ms Pc) (PostOf Qc mc ms free) (vx_Post XC mc ms free) := vx_backW (hh := hh) (bytes := bytes) (maxL := maxL) (ret := ret) hM hp.1 hrc hrs hfr hlo hws hcw (fun a' U hW => word_at hW (Or.inl (by first | rfl | simp [Cond.onTables, Cond.keeps, Cond.steady])) hini)
  obtain ⟨hx, hb, hml, ho, -⟩ := S
  intro T hT X
  rcases vx_callSX X hx (hh := hh) (bytes := bytes) (maxL := maxL) (ret := ret) ho hl hstt hini hcode hy hK hg (hsize.trans hml.symm) (argsL := As) (rest := rest) (fun sig h => hn.trans (hlen sig h)) hstack hW (by rw [hb]; exact hdg)
    (fun vm₁ hW₁ => ⟨hf.1, hf.2, hp.2 (T.setVm vm₁) hT hW₁⟩) with ⟨v, vm₁, ⟨U', l2, c2, s2⟩, hW₁, X', ⟨g', mk, t, L, e1, e2, hq, h1, hL, h2, h3⟩, st⟩ | ⟨q, vm₁, ⟨U', l2, c2, s2⟩, hW₁, X', ⟨g', mk, t, L, E, ce, e1, e2, hq, hce, hcv, hcl, h1, hL, h2, h3⟩, st⟩
  · dsimp only [Pt.U, Pt.locs, Pt.cells, Pt.slots] at X' e1 e2 h1 h2 h3 st
    subst h1; subst h2; subst h3
    exact Or.inl ⟨v, (T.setVm vm₁).calling g' mk As.toArray, t, U', L, hT, X', hL, e1, e2, hq, st⟩
  · dsimp only [Pt.U, Pt.locs, Pt.cells, Pt.slots] at X' e1 e2 h1 h2 h3 st hcl
    subst h1; subst h2; subst h3
    exact Or.inr ⟨q, (T.setVm vm₁).calling g' mk As.toArray, t, U', L, E, ce, hT, X', hL, e1, e2, hq, hce, hcv, vx_cls hW₁ hcl, st⟩
end
end VXH
theorem vx_ofWH {l : Launch} {y : MethodName} {ws ws' : List Cond} {rm : Room} {Pc : Array Value → State → Prop} {Qc : Array Value → State → Outcome → State → Prop} {XC : String → State → State → Prop} {mc ms : Nat} {free : Addr → Prop} {cc : ByteArray} {maxL : Nat} {ret : Option FieldType} {hh : List (Nat × Nat × Nat × Nat)}
    (hy : plainName y.cls = true) (hw : ws = Cond.codeWith y cc maxL ret hh :: ws')
    (body : ∀ p e s m args below meth c s₁, BodyLoose p l y (headSpec ws rm) cc maxL ret e s m args below meth c s₁ → c.maxLocals = maxL → Pc args s →
      W p l e (headSpec ws rm).room s m args below meth c s.heap [] 0 0 (vx_MQ below Qc XC args s mc ms free) (entryFrame m args maxL)) : vx_Met l y ws rm Pc Qc XC mc ms free := by
  refine MetFree.of_bodyS (code := cc) (maxLocals := maxL) (ret := ret) hy ?_ ?_
  · intro args s m h hn
    obtain ⟨m9, meth, c, hn9, h1, h2, h3, h4, -, h5, h6, -⟩ := Cond.codeWith_spec (atoms_spec (ws := ws) h _ (by rw [hw]; exact List.mem_cons_self))
    cases hn.symm.trans hn9
    exact ⟨meth, c, h1, h2, h3, h4, h5, h6⟩
  · intro p e s m args below meth c s₁ B hml hP _
    have hh0 : s₁.heap = s.heap := by rw [B.state]; rfl
    obtain ⟨t, a1, o, b1, b2, b3⟩ := body p e s m args below meth c s₁ B hml hP s₁ hh0 (Stand.of_body B)
    exact ⟨t, o, a1, b1, b2, b3⟩
/-! ===== END ===== -/
end
section
/-! integers as numbers: zI z; the branches over them; the words of codes -/
def zI (z : Int) : Int32 := Int32.ofInt z
theorem zI_c {a b : Int} (h : a = b) : zI a = zI b := by rw [h]
theorem zI_add (a b : Int) : zI a + zI b = zI (a + b) := (Int32.ofInt_add a b).symm
theorem zI_sub (a b : Int) : zI a - zI b = zI (a - b) := (Int32.ofInt_sub a b).symm
theorem zI_mul (a b : Int) : zI a * zI b = zI (a * b) := (Int32.ofInt_mul a b).symm
theorem zI_neg (a : Int) : - zI a = zI (-a) := (Int32.ofInt_neg a).symm
theorem zI_T {z : Int} (h : -2147483648 ≤ z ∧ z < 2147483648) : (zI z).toInt = z := Int32.toInt_ofInt_of_le h.1 h.2
theorem zI_of (x : Int32) : x = zI x.toInt := (Int32.ofInt_toInt x).symm
theorem zI_rng (x : Int32) : -2147483648 ≤ x.toInt ∧ x.toInt < 2147483648 := ⟨Int32.le_toInt x, Int32.toInt_lt x⟩
theorem zI_nat (n : Nat) : zI (n : Int) = nI n := Int32.ofInt_eq_ofNat
theorem zI_eq {a b : Int} (ha : -2147483648 ≤ a ∧ a < 2147483648) (hb : -2147483648 ≤ b ∧ b < 2147483648) : zI a = zI b ↔ a = b := by
  rw [← Int32.toInt_inj, zI_T ha, zI_T hb]
theorem zI_le {a b : Int} (ha : -2147483648 ≤ a ∧ a < 2147483648) (hb : -2147483648 ≤ b ∧ b < 2147483648) : zI a ≤ zI b ↔ a ≤ b := by
  rw [Int32.le_iff_toInt_le, zI_T ha, zI_T hb]
theorem zI_lt {a b : Int} (ha : -2147483648 ≤ a ∧ a < 2147483648) (hb : -2147483648 ≤ b ∧ b < 2147483648) : zI a < zI b ↔ a < b := by
  rw [Int32.lt_iff_toInt_lt, zI_T ha, zI_T hb]
theorem zI_0 : (0 : Int32) = zI 0 := rfl
theorem zI_in {a : Int} {n : Nat} (h : 0 ≤ a ∧ a < n) (hn : n < 2 ^ 31) : vp_in (zI a) n := by
  rw [vp_in_iff, zI_T (by omega)]; exact h
theorem zI_cl {a : Int} (h : 0 ≤ a ∧ a < 2147483648) : (zI a).toNatClampNeg = a.toNat := by
  obtain ⟨n, rfl⟩ : ∃ n : Nat, a = (n : Int) := ⟨a.toNat, by omega⟩
  rw [zI_nat, nI_clamp (by omega), Int.toNat_natCast]
section ZB
variable {p : Program} {l : Launch} {e : Env} {R : Room} {s : State} {m : MethodId} {args : Array Value} {below : List Frame} {meth : Method} {c : Code} {H : Heap} {locs : List Loc} {cells slots : Nat} {Q : State → Prop}
variable {cc : ByteArray} {pc : Nat} {ls : Array Slot} {rest : List Value}
theorem zi_top {x y : Int32} (h : x = y) (k : W p l e R s m args below meth c H locs cells slots Q (F0 m pc ls (.int y :: rest))) : W p l e R s m args below meth c H locs cells slots Q (F0 m pc ls (.int x :: rest)) := by rw [h]; exact k
theorem zl_top {x y : Int64} (h : x = y) (k : W p l e R s m args below meth c H locs cells slots Q (F0 m pc ls (.long y :: rest))) : W p l e R s m args below meth c H locs cells slots Q (F0 m pc ls (.long x :: rest)) := by rw [h]; exact k
theorem zif_eq (hx : p.tables.exec = Jvm.exec) (hb : c.code = cc) {a : Int} {off : Int} {tgt : Nat} (hdg : decode cc pc = .ok (.ifCond .eq off, 3)) (ht : (pc : Int) + off = (tgt : Int)) (ha : -2147483648 ≤ a ∧ a < 2147483648)
    (kt : a = 0 → W p l e R s m args below meth c H locs cells slots Q (F0 m tgt ls rest)) (kf : ¬ a = 0 → W p l e R s m args below meth c H locs cells slots Q (F0 m (pc + 3) ls rest)) : W p l e R s m args below meth c H locs cells slots Q (F0 m pc ls (.int (zI a) :: rest)) :=
  lv_if_eq hx hb hdg ht (fun h => kt ((zI_eq ha (by omega)).mp h)) (fun h => kf (fun q => h ((zI_eq ha (by omega)).mpr q)))
theorem zif_ne (hx : p.tables.exec = Jvm.exec) (hb : c.code = cc) {a : Int} {off : Int} {tgt : Nat} (hdg : decode cc pc = .ok (.ifCond .ne off, 3)) (ht : (pc : Int) + off = (tgt : Int)) (ha : -2147483648 ≤ a ∧ a < 2147483648)
    (kt : ¬ a = 0 → W p l e R s m args below meth c H locs cells slots Q (F0 m tgt ls rest)) (kf : a = 0 → W p l e R s m args below meth c H locs cells slots Q (F0 m (pc + 3) ls rest)) : W p l e R s m args below meth c H locs cells slots Q (F0 m pc ls (.int (zI a) :: rest)) :=
  lv_if_ne hx hb hdg ht (fun h => kt (fun q => h ((zI_eq ha (by omega)).mpr q))) (fun h => kf ((zI_eq ha (by omega)).mp h))
theorem zif_lt (hx : p.tables.exec = Jvm.exec) (hb : c.code = cc) {a : Int} {off : Int} {tgt : Nat} (hdg : decode cc pc = .ok (.ifCond .lt off, 3)) (ht : (pc : Int) + off = (tgt : Int)) (ha : -2147483648 ≤ a ∧ a < 2147483648)
    (kt : a < 0 → W p l e R s m args below meth c H locs cells slots Q (F0 m tgt ls rest)) (kf : ¬ a < 0 → W p l e R s m args below meth c H locs cells slots Q (F0 m (pc + 3) ls rest)) : W p l e R s m args below meth c H locs cells slots Q (F0 m pc ls (.int (zI a) :: rest)) :=
  lv_if_lt hx hb hdg ht (fun h => kt ((zI_lt ha (by omega)).mp h)) (fun h => kf (fun q => h ((zI_lt ha (by omega)).mpr q)))
theorem zif_ge (hx : p.tables.exec = Jvm.exec) (hb : c.code = cc) {a : Int} {off : Int} {tgt : Nat} (hdg : decode cc pc = .ok (.ifCond .ge off, 3)) (ht : (pc : Int) + off = (tgt : Int)) (ha : -2147483648 ≤ a ∧ a < 2147483648)
    (kt : 0 ≤ a → W p l e R s m args below meth c H locs cells slots Q (F0 m tgt ls rest)) (kf : ¬ 0 ≤ a → W p l e R s m args below meth c H locs cells slots Q (F0 m (pc + 3) ls rest)) : W p l e R s m args below meth c H locs cells slots Q (F0 m pc ls (.int (zI a) :: rest)) :=
  lv_if_ge hx hb hdg ht (fun h => kt ((zI_le (by omega) ha).mp h)) (fun h => kf (fun q => h ((zI_le (by omega) ha).mpr q)))
theorem zif_gt (hx : p.tables.exec = Jvm.exec) (hb : c.code = cc) {a : Int} {off : Int} {tgt : Nat} (hdg : decode cc pc = .ok (.ifCond .gt off, 3)) (ht : (pc : Int) + off = (tgt : Int)) (ha : -2147483648 ≤ a ∧ a < 2147483648)
    (kt : 0 < a → W p l e R s m args below meth c H locs cells slots Q (F0 m tgt ls rest)) (kf : ¬ 0 < a → W p l e R s m args below meth c H locs cells slots Q (F0 m (pc + 3) ls rest)) : W p l e R s m args below meth c H locs cells slots Q (F0 m pc ls (.int (zI a) :: rest)) :=
  lv_if_gt hx hb hdg ht (fun h => kt ((zI_lt (by omega) ha).mp h)) (fun h => kf (fun q => h ((zI_lt (by omega) ha).mpr q)))
theorem zif_le (hx : p.tables.exec = Jvm.exec) (hb : c.code = cc) {a : Int} {off : Int} {tgt : Nat} (hdg : decode cc pc = .ok (.ifCond .le off, 3)) (ht : (pc : Int) + off = (tgt : Int)) (ha : -2147483648 ≤ a ∧ a < 2147483648)
    (kt : a ≤ 0 → W p l e R s m args below meth c H locs cells slots Q (F0 m tgt ls rest)) (kf : ¬ a ≤ 0 → W p l e R s m args below meth c H locs cells slots Q (F0 m (pc + 3) ls rest)) : W p l e R s m args below meth c H locs cells slots Q (F0 m pc ls (.int (zI a) :: rest)) :=
  lv_if_le hx hb hdg ht (fun h => kt ((zI_le ha (by omega)).mp h)) (fun h => kf (fun q => h ((zI_le ha (by omega)).mpr q)))
theorem zic_eq (hx : p.tables.exec = Jvm.exec) (hb : c.code = cc) {a b : Int} {off : Int} {tgt : Nat} (hdg : decode cc pc = .ok (.if_icmp .eq off, 3)) (ht : (pc : Int) + off = (tgt : Int)) (ha : -2147483648 ≤ a ∧ a < 2147483648) (hb2 : -2147483648 ≤ b ∧ b < 2147483648)
    (kt : a = b → W p l e R s m args below meth c H locs cells slots Q (F0 m tgt ls rest)) (kf : ¬ a = b → W p l e R s m args below meth c H locs cells slots Q (F0 m (pc + 3) ls rest)) : W p l e R s m args below meth c H locs cells slots Q (F0 m pc ls (.int (zI b) :: .int (zI a) :: rest)) :=
  lv_icmp_eq hx hb hdg ht (fun h => kt ((zI_eq ha hb2).mp h)) (fun h => kf (fun q => h ((zI_eq ha hb2).mpr q)))
theorem zic_ne (hx : p.tables.exec = Jvm.exec) (hb : c.code = cc) {a b : Int} {off : Int} {tgt : Nat} (hdg : decode cc pc = .ok (.if_icmp .ne off, 3)) (ht : (pc : Int) + off = (tgt : Int)) (ha : -2147483648 ≤ a ∧ a < 2147483648) (hb2 : -2147483648 ≤ b ∧ b < 2147483648)
    (kt : ¬ a = b → W p l e R s m args below meth c H locs cells slots Q (F0 m tgt ls rest)) (kf : a = b → W p l e R s m args below meth c H locs cells slots Q (F0 m (pc + 3) ls rest)) : W p l e R s m args below meth c H locs cells slots Q (F0 m pc ls (.int (zI b) :: .int (zI a) :: rest)) :=
  lv_icmp_ne hx hb hdg ht (fun h => kt (fun q => h ((zI_eq ha hb2).mpr q))) (fun h => kf ((zI_eq ha hb2).mp h))
theorem zic_lt (hx : p.tables.exec = Jvm.exec) (hb : c.code = cc) {a b : Int} {off : Int} {tgt : Nat} (hdg : decode cc pc = .ok (.if_icmp .lt off, 3)) (ht : (pc : Int) + off = (tgt : Int)) (ha : -2147483648 ≤ a ∧ a < 2147483648) (hb2 : -2147483648 ≤ b ∧ b < 2147483648)
    (kt : a < b → W p l e R s m args below meth c H locs cells slots Q (F0 m tgt ls rest)) (kf : ¬ a < b → W p l e R s m args below meth c H locs cells slots Q (F0 m (pc + 3) ls rest)) : W p l e R s m args below meth c H locs cells slots Q (F0 m pc ls (.int (zI b) :: .int (zI a) :: rest)) :=
  lv_icmp_lt hx hb hdg ht (fun h => kt ((zI_lt ha hb2).mp h)) (fun h => kf (fun q => h ((zI_lt ha hb2).mpr q)))
theorem zic_ge (hx : p.tables.exec = Jvm.exec) (hb : c.code = cc) {a b : Int} {off : Int} {tgt : Nat} (hdg : decode cc pc = .ok (.if_icmp .ge off, 3)) (ht : (pc : Int) + off = (tgt : Int)) (ha : -2147483648 ≤ a ∧ a < 2147483648) (hb2 : -2147483648 ≤ b ∧ b < 2147483648)
    (kt : b ≤ a → W p l e R s m args below meth c H locs cells slots Q (F0 m tgt ls rest)) (kf : ¬ b ≤ a → W p l e R s m args below meth c H locs cells slots Q (F0 m (pc + 3) ls rest)) : W p l e R s m args below meth c H locs cells slots Q (F0 m pc ls (.int (zI b) :: .int (zI a) :: rest)) :=
  lv_icmp_ge hx hb hdg ht (fun h => kt ((zI_le hb2 ha).mp h)) (fun h => kf (fun q => h ((zI_le hb2 ha).mpr q)))
theorem zic_gt (hx : p.tables.exec = Jvm.exec) (hb : c.code = cc) {a b : Int} {off : Int} {tgt : Nat} (hdg : decode cc pc = .ok (.if_icmp .gt off, 3)) (ht : (pc : Int) + off = (tgt : Int)) (ha : -2147483648 ≤ a ∧ a < 2147483648) (hb2 : -2147483648 ≤ b ∧ b < 2147483648)
    (kt : b < a → W p l e R s m args below meth c H locs cells slots Q (F0 m tgt ls rest)) (kf : ¬ b < a → W p l e R s m args below meth c H locs cells slots Q (F0 m (pc + 3) ls rest)) : W p l e R s m args below meth c H locs cells slots Q (F0 m pc ls (.int (zI b) :: .int (zI a) :: rest)) :=
  lv_icmp_gt hx hb hdg ht (fun h => kt ((zI_lt hb2 ha).mp h)) (fun h => kf (fun q => h ((zI_lt hb2 ha).mpr q)))
theorem zic_le (hx : p.tables.exec = Jvm.exec) (hb : c.code = cc) {a b : Int} {off : Int} {tgt : Nat} (hdg : decode cc pc = .ok (.if_icmp .le off, 3)) (ht : (pc : Int) + off = (tgt : Int)) (ha : -2147483648 ≤ a ∧ a < 2147483648) (hb2 : -2147483648 ≤ b ∧ b < 2147483648)
    (kt : a ≤ b → W p l e R s m args below meth c H locs cells slots Q (F0 m tgt ls rest)) (kf : ¬ a ≤ b → W p l e R s m args below meth c H locs cells slots Q (F0 m (pc + 3) ls rest)) : W p l e R s m args below meth c H locs cells slots Q (F0 m pc ls (.int (zI b) :: .int (zI a) :: rest)) :=
  lv_icmp_le hx hb hdg ht (fun h => kt ((zI_le ha hb2).mp h)) (fun h => kf (fun q => h ((zI_le ha hb2).mpr q)))
end ZB
end
section
/-! rows pasted from kit/laws/BITS.to-paste: the family wb_  -/
theorem wb_tb (n : Nat) : (lN n).toBitVec = BitVec.ofNat 64 n := rfl
theorem wb_inj {a b : Int64} (h : a.toBitVec = b.toBitVec) : a = b := Int64.toBitVec_inj.mp h
theorem wb_tn {n : Nat} (h : n < 2 ^ 64) : (lN n).toBitVec.toNat = n := by rw [wb_tb, BitVec.toNat_ofNat, Nat.mod_eq_of_lt h]
theorem wb_of (x : Int64) : ∃ n, n < 2 ^ 64 ∧ x = lN n := ⟨x.toBitVec.toNat, x.toBitVec.isLt, wb_inj (by rw [wb_tb]; simp)⟩
theorem wb_of32 (x : Int32) : ∃ n, n < 2 ^ 32 ∧ x = nI n := ⟨x.toBitVec.toNat, x.toBitVec.isLt, Int32.toBitVec_inj.mp (by show _ = BitVec.ofNat 32 _; simp)⟩
theorem wb_c : ∀ k, k < 64 → ((nI k).toInt64 &&& 63) = lN k := by decide +kernel
theorem wb_cu : ∀ k, k < 64 → ((nI k).toInt64.toUInt64 &&& Int64.toUInt64 63) = UInt64.ofNat k := by decide +kernel
theorem wb_sm : ∀ k, k < 64 → (BitVec.ofNat 64 k).smod 64 = BitVec.ofNat 64 k := by decide +kernel
theorem wb_pw {a b : Nat} (h : a ≤ b) : 2 ^ b = 2 ^ a * 2 ^ (b - a) := by rw [← Nat.pow_add]; congr 1; omega
theorem wb_lt2 {a b : Nat} (h : a < b) : 2 ^ a < 2 ^ b := Nat.pow_lt_pow_right (by decide) h
theorem wb_mod (n : Nat) : lN n = lN (n % 2 ^ 64) := wb_inj (by rw [wb_tb, wb_tb]; apply BitVec.eq_of_toNat_eq; rw [BitVec.toNat_ofNat, BitVec.toNat_ofNat, Nat.mod_mod])
theorem wb_shr {n k : Nat} (hn : n < 2 ^ 64) (hk : k < 64) : ((lN n).toUInt64 >>> ((nI k).toInt64.toUInt64 &&& Int64.toUInt64 63)).toInt64 = lN (n / 2 ^ k) := by
  rw [wb_cu k hk]
  apply wb_inj
  apply BitVec.eq_of_toNat_eq
  show ((lN n).toUInt64 >>> UInt64.ofNat k).toNat = (BitVec.ofNat 64 _).toNat
  have h1 : (UInt64.ofNat k).toNat = k := by
    show (BitVec.ofNat 64 k).toNat = k
    rw [BitVec.toNat_ofNat, Nat.mod_eq_of_lt (by omega)]
  have h2 : (lN n).toUInt64.toNat = n := wb_tn hn
  rw [UInt64.toNat_shiftRight, h1, h2, Nat.mod_eq_of_lt hk, Nat.shiftRight_eq_div_pow, BitVec.toNat_ofNat, Nat.mod_eq_of_lt (Nat.lt_of_le_of_lt (Nat.div_le_self _ _) hn)]
theorem wb_shl (n : Nat) {k : Nat} (hk : k < 64) : lN n <<< ((nI k).toInt64 &&& 63) = lN (n * 2 ^ k) := by
  rw [wb_c k hk]
  apply wb_inj
  rw [Int64.toBitVec_shiftLeft, wb_tb, wb_tb, wb_tb, wb_sm k hk]
  apply BitVec.eq_of_toNat_eq
  rw [BitVec.shiftLeft_eq', BitVec.toNat_shiftLeft, BitVec.toNat_ofNat, BitVec.toNat_ofNat, BitVec.toNat_ofNat, Nat.mod_eq_of_lt (show k < 2 ^ 64 by omega), Nat.shiftLeft_eq, Nat.mul_mod, Nat.mod_mod, ← Nat.mul_mod]
theorem wb_and {a b : Nat} (ha : a < 2 ^ 64) (hb : b < 2 ^ 64) : lN a &&& lN b = lN (a &&& b) := by
  apply wb_inj
  rw [Int64.toBitVec_and, wb_tb, wb_tb, wb_tb]
  apply BitVec.eq_of_toNat_eq
  rw [BitVec.toNat_and, BitVec.toNat_ofNat, BitVec.toNat_ofNat, BitVec.toNat_ofNat, Nat.mod_eq_of_lt ha, Nat.mod_eq_of_lt hb, Nat.mod_eq_of_lt (Nat.and_lt_two_pow _ hb)]
theorem wb_or {a b : Nat} (ha : a < 2 ^ 64) (hb : b < 2 ^ 64) : lN a ||| lN b = lN (a ||| b) := by
  apply wb_inj
  rw [Int64.toBitVec_or, wb_tb, wb_tb, wb_tb]
  apply BitVec.eq_of_toNat_eq
  rw [BitVec.toNat_or, BitVec.toNat_ofNat, BitVec.toNat_ofNat, BitVec.toNat_ofNat, Nat.mod_eq_of_lt ha, Nat.mod_eq_of_lt hb, Nat.mod_eq_of_lt (Nat.or_lt_two_pow ha hb)]
theorem wb_mask {n k : Nat} (hn : n < 2 ^ 64) (hk : k < 64) : lN n &&& lN (2 ^ k - 1) = lN (n % 2 ^ k) := by
  rw [wb_and hn (by have := wb_lt2 hk; omega), Nat.and_two_pow_sub_one_eq_mod]
theorem wb_a1 {n : Nat} (hn : n < 2 ^ 64) : lN n &&& 1 = lN (n % 2) := wb_mask (k := 1) hn (by decide)
/-! words: the codes of a TERM in the order of its PLACES; a packed TERM is the number of its word -/
def tw_enc : List Nat → Nat
  | [] => 0
  | c :: w => c + 16 * tw_enc w
/-- a word of codes 1 to 15, twelve at most -/
def tw_ok (w : List Nat) : Prop := w.length ≤ 12 ∧ ∀ c ∈ w, 1 ≤ c ∧ c < 16
def tw_L (w : List Nat) : Int64 := lN (tw_enc w)
theorem tw_ok.le {w : List Nat} (h : tw_ok w) : w.length ≤ 12 := h.1
theorem tw_ok_nil : tw_ok [] := ⟨by decide, fun c h => by cases h⟩
theorem tw_pow (k : Nat) : 2 ^ (4 * k) = 16 ^ k := by rw [Nat.pow_mul]
theorem tw_enc_app (u v : List Nat) : tw_enc (u ++ v) = tw_enc u + 16 ^ u.length * tw_enc v := by
  induction u with
  | nil => simp [tw_enc]
  | cons c u ih =>
    have e : 16 ^ (u.length + 1) * tw_enc v = 16 * (16 ^ u.length * tw_enc v) := by rw [Nat.pow_succ, Nat.mul_comm (16 ^ u.length) 16, Nat.mul_assoc]
    show c + 16 * tw_enc (u ++ v) = (c + 16 * tw_enc u) + 16 ^ (u.length + 1) * tw_enc v
    rw [ih, e]
    omega
theorem tw_enc_lt {w : List Nat} (h : ∀ c ∈ w, c < 16) : tw_enc w < 16 ^ w.length := by
  induction w with
  | nil => exact Nat.one_pos
  | cons c w ih =>
    have h1 := ih (fun c h2 => h c (List.mem_cons_of_mem _ h2))
    have h2 := h c List.mem_cons_self
    show c + 16 * tw_enc w < 16 ^ (w.length + 1)
    rw [Nat.pow_succ]
    omega
theorem tw_enc_drop (k : Nat) : ∀ (w : List Nat), (∀ c ∈ w, c < 16) → tw_enc w / 16 ^ k = tw_enc (w.drop k) := by
  induction k with
  | zero => intro w _; simp
  | succ k ih =>
    intro w h
    cases w with
    | nil => simp [tw_enc]
    | cons c w =>
      have h2 := h c List.mem_cons_self
      rw [Nat.pow_succ, Nat.mul_comm, ← Nat.div_div_eq_div_mul]
      show (c + 16 * tw_enc w) / 16 / 16 ^ k = tw_enc (w.drop k)
      rw [← ih w (fun c h3 => h c (List.mem_cons_of_mem _ h3))]
      congr 1
      omega
theorem tw_enc_take {w : List Nat} (h : ∀ c ∈ w, c < 16) (k : Nat) : tw_enc w % 16 ^ k = tw_enc (w.take k) := by
  have h1 : tw_enc (w.take k) < 16 ^ (w.take k).length := tw_enc_lt (fun c hc => h c (List.mem_of_mem_take hc))
  have h2 : tw_enc (w.take k) < 16 ^ k := Nat.lt_of_lt_of_le h1 (Nat.pow_le_pow_right (by decide) (by rw [List.length_take]; omega))
  rcases Nat.lt_or_ge k w.length with hk | hk
  · have e : tw_enc w = tw_enc (w.take k) + 16 ^ k * tw_enc (w.drop k) := by
      have e1 := tw_enc_app (w.take k) (w.drop k)
      rw [List.take_append_drop, List.length_take, Nat.min_eq_left (Nat.le_of_lt hk)] at e1
      exact e1
    rw [e, Nat.add_mul_mod_self_left, Nat.mod_eq_of_lt h2]
  · rw [List.take_of_length_le hk] at h2 ⊢
    exact Nat.mod_eq_of_lt h2
theorem tw_get {w : List Nat} (h : ∀ c ∈ w, c < 16) (k : Nat) : tw_enc (w.drop k) % 16 = w.getD k 0 := by
  rcases Nat.lt_or_ge k w.length with hk | hk
  · rw [List.drop_eq_getElem_cons hk]
    show (w[k] + 16 * tw_enc (w.drop (k + 1))) % 16 = _
    rw [List.getD_eq_getElem?_getD, List.getElem?_eq_getElem hk]
    have := h w[k] (List.getElem_mem hk)
    show _ = w[k]
    omega
  · rw [List.drop_of_length_le hk, List.getD_eq_getElem?_getD, List.getElem?_eq_none hk]
    rfl
theorem tw_enc_0 {w : List Nat} (h : ∀ c ∈ w, 1 ≤ c) : tw_enc w = 0 ↔ w = [] := by
  constructor
  · intro e
    cases w with
    | nil => rfl
    | cons c w =>
      have h2 := h c List.mem_cons_self
      have e2 : c + 16 * tw_enc w = 0 := e
      omega
  · intro e
    rw [e]
    rfl
theorem tw_enc_inj : ∀ (u v : List Nat), (∀ c ∈ u, 1 ≤ c ∧ c < 16) → (∀ c ∈ v, 1 ≤ c ∧ c < 16) → tw_enc u = tw_enc v → u = v
  | [], v, _, hv, e => ((tw_enc_0 (fun c h => (hv c h).1)).mp e.symm).symm
  | c :: u, [], hu, _, e => (tw_enc_0 (fun c h => (hu c h).1)).mp e
  | c :: u, d :: v, hu, hv, e => by
    have h1 := hu c List.mem_cons_self
    have h2 := hv d List.mem_cons_self
    have e2 : c + 16 * tw_enc u = d + 16 * tw_enc v := e
    have e3 := tw_enc_inj u v (fun c h => hu c (List.mem_cons_of_mem _ h)) (fun c h => hv c (List.mem_cons_of_mem _ h)) (by omega)
    rw [e3, show c = d by omega]
theorem tw_ok.lt {w : List Nat} (h : tw_ok w) : tw_enc w < 16 ^ 12 := Nat.lt_of_lt_of_le (tw_enc_lt (fun c hc => (h.2 c hc).2)) (Nat.pow_le_pow_right (by decide) h.1)
theorem tw_ok.drop {w : List Nat} (h : tw_ok w) (k : Nat) : tw_ok (w.drop k) := ⟨by rw [List.length_drop]; have := h.1; omega, fun c hc => h.2 c (List.mem_of_mem_drop hc)⟩
theorem tw_ok.take {w : List Nat} (h : tw_ok w) (k : Nat) : tw_ok (w.take k) := ⟨by rw [List.length_take]; have := h.1; omega, fun c hc => h.2 c (List.mem_of_mem_take hc)⟩
theorem tw_ok.app {u v : List Nat} (hu : tw_ok u) (hv : tw_ok v) (h : u.length + v.length ≤ 12) : tw_ok (u ++ v) := ⟨by rw [List.length_append]; exact h, fun c hc => (List.mem_append.mp hc).elim (hu.2 c) (hv.2 c)⟩
theorem tw_ok.one {c : Nat} (h : 1 ≤ c ∧ c < 16) : tw_ok [c] := ⟨by simp, fun d hd => by rw [List.mem_singleton.mp hd]; exact h⟩
theorem tw_L0 {w : List Nat} (h : tw_ok w) : tw_L w = 0 ↔ w = [] := by
  rw [← tw_enc_0 (fun c hc => (h.2 c hc).1)]
  have h1 := h.lt
  exact pk_lEQ (a := tw_enc w) (b := 0) (by omega) (by decide)
theorem tw_Le {u v : List Nat} (hu : tw_ok u) (hv : tw_ok v) : tw_L u = tw_L v ↔ u = v := by
  have h1 := hu.lt
  have h2 := hv.lt
  constructor
  · intro e
    exact tw_enc_inj u v hu.2 hv.2 ((pk_lEQ (by omega) (by omega)).mp e)
  · intro e
    rw [e]
theorem tw_Lnil : (0 : Int64) = tw_L [] := rfl
/-- term >>> (4 * place) -/
theorem tw_ushr {w : List Nat} (h : tw_ok w) {k : Nat} (hk : k < 16) : ((tw_L w).toUInt64 >>> ((zI (4 * (k : Int))).toInt64.toUInt64 &&& Int64.toUInt64 63)).toInt64 = tw_L (w.drop k) := by
  have h1 := h.lt
  have e : zI (4 * (k : Int)) = nI (4 * k) := by rw [← zI_nat]; exact zI_c (by omega)
  rw [e]
  unfold tw_L
  rw [wb_shr (by omega) (by omega), tw_pow, tw_enc_drop k w (fun c hc => (h.2 c hc).2)]
/-- the lowest code -/
theorem tw_low {w : List Nat} (h : tw_ok w) (k : Nat) : (tw_L (w.drop k)).toInt32 &&& zI 15 = zI ((w.getD k 0 : Nat) : Int) := by
  unfold tw_L
  rw [lN_i, pk_and (nI _) (m := zI 15) 4 (by decide), zI_nat, ← tw_get (fun c hc => (h.2 c hc).2) k]
  have h1 := (h.drop k).lt
  congr 1
  show (nI (tw_enc (w.drop k))).toBitVec.toNat % 16 = _
  have e : (nI (tw_enc (w.drop k))).toBitVec.toNat = tw_enc (w.drop k) % 2 ^ 32 := by
    show (BitVec.ofNat 32 _).toNat = _
    rw [BitVec.toNat_ofNat]
  rw [e]
  omega
theorem tw_getD_le {w : List Nat} (h : tw_ok w) (k : Nat) : w.getD k 0 < 16 := by
  rw [← tw_get (fun c hc => (h.2 c hc).2) k]
  omega
/-- (1L << (4 * k)) - 1 as a mask -/
theorem tw_mask {w : List Nat} (h : tw_ok w) {k : Nat} (hk : k < 16) : tw_L w &&& (((1 : Int64) <<< ((zI (4 * (k : Int))).toInt64 &&& 63)) - 1) = tw_L (w.take k) := by
  have h1 := h.lt
  have e : zI (4 * (k : Int)) = nI (4 * k) := by rw [← zI_nat]; exact zI_c (by omega)
  have e2 : ((1 : Int64) <<< ((nI (4 * k)).toInt64 &&& 63)) - 1 = lN (2 ^ (4 * k) - 1) := by
    rw [show (1 : Int64) = lN 1 from rfl, wb_shl 1 (by omega), Nat.one_mul, lN_sub (Nat.one_le_two_pow)]
  rw [e, e2]
  unfold tw_L
  rw [wb_mask (by omega) (by omega), tw_pow, tw_enc_take (fun c hc => (h.2 c hc).2) k]
/-- head | tail << (4 * size) -/
theorem tw_join {u v : List Nat} (hu : tw_ok u) (hv : tw_ok v) (h : u.length + v.length ≤ 12) : tw_L u ||| (tw_L v <<< ((zI (4 * ((u.length : Nat) : Int))).toInt64 &&& 63)) = tw_L (u ++ v) := by
  have h1 := (hu.app hv h).lt
  have h3 := tw_enc_lt (fun c hc => (hu.2 c hc).2)
  have hu1 := hu.1
  have e : zI (4 * ((u.length : Nat) : Int)) = nI (4 * u.length) := by rw [← zI_nat]; exact zI_c (by omega)
  rw [e]
  unfold tw_L
  rw [wb_shl _ (by omega), tw_enc_app] at *
  rw [tw_pow, Nat.mul_comm (tw_enc v)] 
  have h4 : tw_enc u < 2 ^ (4 * u.length) := by rw [tw_pow]; exact h3
  rw [wb_or (by omega) (by omega), Nat.or_comm, ← tw_pow, ← Nat.two_pow_add_eq_or_of_lt h4]
  congr 1
  omega
end
section
def RX0 : String := "Latticework$Completing"
def TX0 : u_T := fun k => match k with
  | 0 => ("Latticework$Completing", "rewriting", "LLatticework$Rewriting;", true)
  | 1 => ("Latticework$Completing", "meeting", "LLatticework$Meeting;", true)
  | 2 => ("Latticework$Completing", "before", "LLatticework$State;", true)
  | 3 => ("Latticework$Completing", "foundOne", "[J", true)
  | _ => ("Latticework$Completing", "foundOther", "[J", true)
def tyX0 : Nat → FieldType := fun k => match k with
  | 0 => .object "Latticework$Rewriting"
  | 1 => .object "Latticework$Meeting"
  | 2 => .object "Latticework$State"
  | 3 => .array .long
  | _ => .array .long
abbrev wsX00 : List Cond := u_ws RX0 TX0 5
theorem nmX0 : ∀ a, a < 5 → ∀ b, b < 5 → a ≠ b → (TX0 a).2.1 ≠ (TX0 b).2.1 := by decide +kernel
theorem tyX0_ok : ∀ k, k < 5 → parseFieldDescriptor (TX0 k).2.2.1 = some (tyX0 k) := by decide +kernel
abbrev cX0_init : ByteArray := prog_2_method_1_code
def yX0_init : MethodName := ⟨RX0, "<init>", "(LLatticework$Rewriting;LLatticework$Meeting;)V"⟩
abbrev cX0_doSteps : ByteArray := prog_2_method_2_code
def yX0_doSteps : MethodName := ⟨RX0, "doSteps", "(LLatticework$State;I)V"⟩
abbrev cX0_doStep : ByteArray := prog_2_method_3_code
def yX0_doStep : MethodName := ⟨RX0, "doStep", "(LLatticework$State;)Z"⟩
abbrev cX0_takeRulesAway : ByteArray := prog_2_method_4_code
def yX0_takeRulesAway : MethodName := ⟨RX0, "takeRulesAway", "(LLatticework$State;)Z"⟩
abbrev cX0_addOverlaps : ByteArray := prog_2_method_5_code
def yX0_addOverlaps : MethodName := ⟨RX0, "addOverlaps", "(LLatticework$State;)Z"⟩
abbrev cX0_findOverlaps : ByteArray := prog_2_method_6_code
def yX0_findOverlaps : MethodName := ⟨RX0, "findOverlaps", "(LLatticework$State;II)I"⟩
abbrev cX0_writeReplaced : ByteArray := prog_2_method_7_code
def yX0_writeReplaced : MethodName := ⟨RX0, "writeReplaced", "(JII)Z"⟩
def RX1 : String := "Latticework$FormulaTable"
def TX1 : u_T := fun k => match k with
  | 0 => ("Latticework$FormulaTable", "kind", "[I", true)
  | 1 => ("Latticework$FormulaTable", "first", "[I", true)
  | 2 => ("Latticework$FormulaTable", "second", "[I", true)
  | 3 => ("Latticework$FormulaTable", "weight", "[I", true)
  | _ => ("Latticework$FormulaTable", "count", "I", false)
def tyX1 : Nat → FieldType := fun k => match k with
  | 0 => .array .int
  | 1 => .array .int
  | 2 => .array .int
  | 3 => .array .int
  | _ => .int
abbrev wsX10 : List Cond := u_ws RX1 TX1 5
theorem nmX1 : ∀ a, a < 5 → ∀ b, b < 5 → a ≠ b → (TX1 a).2.1 ≠ (TX1 b).2.1 := by decide +kernel
theorem tyX1_ok : ∀ k, k < 5 → parseFieldDescriptor (TX1 k).2.2.1 = some (tyX1 k) := by decide +kernel
abbrev cX1_init : ByteArray := prog_3_method_1_code
def yX1_init : MethodName := ⟨RX1, "<init>", "()V"⟩
abbrev cX1_weightOf : ByteArray := prog_3_method_2_code
def yX1_weightOf : MethodName := ⟨RX1, "weightOf", "(III)I"⟩
abbrev cX1_has : ByteArray := prog_3_method_3_code
def yX1_has : MethodName := ⟨RX1, "has", "(I)Z"⟩
abbrev cX1_findOrAdd : ByteArray := prog_3_method_4_code
def yX1_findOrAdd : MethodName := ⟨RX1, "findOrAdd", "(III)I"⟩
abbrev cX1_isTakenApart : ByteArray := prog_3_method_5_code
def yX1_isTakenApart : MethodName := ⟨RX1, "isTakenApart", "(I)Z"⟩
def RX2 : String := "Latticework$Meeting"
def TX2 : u_T := fun k => match k with
  | 0 => ("Latticework$Meeting", "code", "[I", true)
  | 1 => ("Latticework$Meeting", "first", "[I", true)
  | 2 => ("Latticework$Meeting", "second", "[I", true)
  | 3 => ("Latticework$Meeting", "leader", "[I", true)
  | 4 => ("Latticework$Meeting", "size", "[I", true)
  | 5 => ("Latticework$Meeting", "pile", "[I", true)
  | 6 => ("Latticework$Meeting", "numberedAnew", "[I", true)
  | 7 => ("Latticework$Meeting", "places", "[I", true)
  | 8 => ("Latticework$Meeting", "nodes", "I", false)
  | 9 => ("Latticework$Meeting", "seen", "I", false)
  | 10 => ("Latticework$Meeting", "written", "J", false)
  | _ => ("Latticework$Meeting", "length", "I", false)
def tyX2 : Nat → FieldType := fun k => match k with
  | 0 => .array .int
  | 1 => .array .int
  | 2 => .array .int
  | 3 => .array .int
  | 4 => .array .int
  | 5 => .array .int
  | 6 => .array .int
  | 7 => .array .int
  | 8 => .int
  | 9 => .int
  | 10 => .long
  | _ => .int
abbrev wsX20 : List Cond := u_ws RX2 TX2 12
theorem nmX2 : ∀ a, a < 12 → ∀ b, b < 12 → a ≠ b → (TX2 a).2.1 ≠ (TX2 b).2.1 := by decide +kernel
theorem tyX2_ok : ∀ k, k < 12 → parseFieldDescriptor (TX2 k).2.2.1 = some (tyX2 k) := by decide +kernel
abbrev cX2_init : ByteArray := prog_4_method_1_code
def yX2_init : MethodName := ⟨RX2, "<init>", "()V"⟩
abbrev cX2_sizeOfBoth : ByteArray := prog_4_method_2_code
def yX2_sizeOfBoth : MethodName := ⟨RX2, "sizeOfBoth", "(JJ)I"⟩
abbrev cX2_clear : ByteArray := prog_4_method_3_code
def yX2_clear : MethodName := ⟨RX2, "clear", "()V"⟩
abbrev cX2_addTerm : ByteArray := prog_4_method_4_code
def yX2_addTerm : MethodName := ⟨RX2, "addTerm", "(JI)I"⟩
abbrev cX2_nodeAt : ByteArray := prog_4_method_5_code
def yX2_nodeAt : MethodName := ⟨RX2, "nodeAt", "(I)I"⟩
abbrev cX2_addNode : ByteArray := prog_4_method_6_code
def yX2_addNode : MethodName := ⟨RX2, "addNode", "(III)I"⟩
abbrev cX2_doMeet : ByteArray := prog_4_method_7_code
def yX2_doMeet : MethodName := ⟨RX2, "doMeet", "(II)Z"⟩
abbrev cX2_leaderOf : ByteArray := prog_4_method_8_code
def yX2_leaderOf : MethodName := ⟨RX2, "leaderOf", "(I)I"⟩
abbrev cX2_unite : ByteArray := prog_4_method_9_code
def yX2_unite : MethodName := ⟨RX2, "unite", "(II)Z"⟩
abbrev cX2_pilePair : ByteArray := prog_4_method_10_code
def yX2_pilePair : MethodName := ⟨RX2, "pilePair", "(III)I"⟩
abbrev cX2_measure : ByteArray := prog_4_method_11_code
def yX2_measure : MethodName := ⟨RX2, "measure", "()Z"⟩
abbrev cX2_beginEquation : ByteArray := prog_4_method_12_code
def yX2_beginEquation : MethodName := ⟨RX2, "beginEquation", "()V"⟩
abbrev cX2_takeSide : ByteArray := prog_4_method_13_code
def yX2_takeSide : MethodName := ⟨RX2, "takeSide", "()J"⟩
abbrev cX2_writeCode : ByteArray := prog_4_method_14_code
def yX2_writeCode : MethodName := ⟨RX2, "writeCode", "(I)Z"⟩
abbrev cX2_writeNode : ByteArray := prog_4_method_15_code
def yX2_writeNode : MethodName := ⟨RX2, "writeNode", "(I)Z"⟩
abbrev cX2_pileNode : ByteArray := prog_4_method_16_code
def yX2_pileNode : MethodName := ⟨RX2, "pileNode", "(II)I"⟩
abbrev cX2_anewOf : ByteArray := prog_4_method_17_code
def yX2_anewOf : MethodName := ⟨RX2, "anewOf", "(I)I"⟩
def RX3 : String := "Latticework$Packed"
def TX3 : u_T := fun k => match k with
  | _ => ("", "", "", false)
def tyX3 : Nat → FieldType := fun k => match k with
  | _ => .int
abbrev wsX30 : List Cond := u_ws RX3 TX3 0
theorem nmX3 : ∀ a, a < 0 → ∀ b, b < 0 → a ≠ b → (TX3 a).2.1 ≠ (TX3 b).2.1 := by decide +kernel
theorem tyX3_ok : ∀ k, k < 0 → parseFieldDescriptor (TX3 k).2.2.1 = some (tyX3 k) := by decide +kernel
abbrev cX3_codeOfSign : ByteArray := prog_5_method_2_code
def yX3_codeOfSign : MethodName := ⟨RX3, "codeOfSign", "(I)I"⟩
abbrev cX3_codeOfVariable : ByteArray := prog_5_method_3_code
def yX3_codeOfVariable : MethodName := ⟨RX3, "codeOfVariable", "(I)I"⟩
abbrev cX3_toldOf : ByteArray := prog_5_method_4_code
def yX3_toldOf : MethodName := ⟨RX3, "toldOf", "(I)I"⟩
abbrev cX3_isVariable : ByteArray := prog_5_method_5_code
def yX3_isVariable : MethodName := ⟨RX3, "isVariable", "(I)Z"⟩
abbrev cX3_variableOf : ByteArray := prog_5_method_6_code
def yX3_variableOf : MethodName := ⟨RX3, "variableOf", "(I)I"⟩
abbrev cX3_partsOf : ByteArray := prog_5_method_7_code
def yX3_partsOf : MethodName := ⟨RX3, "partsOf", "(I)I"⟩
abbrev cX3_codeAt : ByteArray := prog_5_method_8_code
def yX3_codeAt : MethodName := ⟨RX3, "codeAt", "(JI)I"⟩
abbrev cX3_sizeOf : ByteArray := prog_5_method_9_code
def yX3_sizeOf : MethodName := ⟨RX3, "sizeOf", "(J)I"⟩
abbrev cX3_endOf : ByteArray := prog_5_method_10_code
def yX3_endOf : MethodName := ⟨RX3, "endOf", "(JI)I"⟩
abbrev cX3_part : ByteArray := prog_5_method_11_code
def yX3_part : MethodName := ⟨RX3, "part", "(JII)J"⟩
abbrev cX3_joined : ByteArray := prog_5_method_12_code
def yX3_joined : MethodName := ⟨RX3, "joined", "(JJ)J"⟩
abbrev cX3_timesIn : ByteArray := prog_5_method_13_code
def yX3_timesIn : MethodName := ⟨RX3, "timesIn", "(JI)I"⟩
abbrev cX3_variablesIn : ByteArray := prog_5_method_14_code
def yX3_variablesIn : MethodName := ⟨RX3, "variablesIn", "(J)I"⟩
abbrev cX3_hasVariablesOf : ByteArray := prog_5_method_15_code
def yX3_hasVariablesOf : MethodName := ⟨RX3, "hasVariablesOf", "(JJ)Z"⟩
abbrev cX3_isGreater : ByteArray := prog_5_method_16_code
def yX3_isGreater : MethodName := ⟨RX3, "isGreater", "(JJ)Z"⟩
def RX4 : String := "Latticework$ProofLines"
def TX4 : u_T := fun k => match k with
  | 0 => ("Latticework$ProofLines", "formulas", "LLatticework$FormulaTable;", true)
  | 1 => ("Latticework$ProofLines", "prover", "LLatticework$Prover;", true)
  | 2 => ("Latticework$ProofLines", "formula", "[I", true)
  | 3 => ("Latticework$ProofLines", "reason", "[I", true)
  | 4 => ("Latticework$ProofLines", "x", "[I", true)
  | 5 => ("Latticework$ProofLines", "y", "[I", true)
  | 6 => ("Latticework$ProofLines", "givenLines", "[I", true)
  | 7 => ("Latticework$ProofLines", "right", "[Z", true)
  | _ => ("Latticework$ProofLines", "count", "I", false)
def tyX4 : Nat → FieldType := fun k => match k with
  | 0 => .object "Latticework$FormulaTable"
  | 1 => .object "Latticework$Prover"
  | 2 => .array .int
  | 3 => .array .int
  | 4 => .array .int
  | 5 => .array .int
  | 6 => .array .int
  | 7 => .array .boolean
  | _ => .int
abbrev wsX40 : List Cond := u_ws RX4 TX4 9
theorem nmX4 : ∀ a, a < 9 → ∀ b, b < 9 → a ≠ b → (TX4 a).2.1 ≠ (TX4 b).2.1 := by decide +kernel
theorem tyX4_ok : ∀ k, k < 9 → parseFieldDescriptor (TX4 k).2.2.1 = some (tyX4 k) := by decide +kernel
abbrev cX4_init : ByteArray := prog_6_method_1_code
def yX4_init : MethodName := ⟨RX4, "<init>", "(LLatticework$FormulaTable;LLatticework$Prover;)V"⟩
abbrev cX4_linesNamedBy : ByteArray := prog_6_method_2_code
def yX4_linesNamedBy : MethodName := ⟨RX4, "linesNamedBy", "(I)I"⟩
abbrev cX4_add : ByteArray := prog_6_method_3_code
def yX4_add : MethodName := ⟨RX4, "add", "(IIII)I"⟩
abbrev cX4_givenBelow : ByteArray := prog_6_method_4_code
def yX4_givenBelow : MethodName := ⟨RX4, "givenBelow", "(I)I"⟩
abbrev cX4_givenUnder : ByteArray := prog_6_method_5_code
def yX4_givenUnder : MethodName := ⟨RX4, "givenUnder", "(I)I"⟩
abbrev cX4_checkUpTo : ByteArray := prog_6_method_6_code
def yX4_checkUpTo : MethodName := ⟨RX4, "checkUpTo", "(I)V"⟩
abbrev cX4_doesReasonHold : ByteArray := prog_6_method_7_code
def yX4_doesReasonHold : MethodName := ⟨RX4, "doesReasonHold", "(I)Z"⟩
abbrev cX4_isMadeOf : ByteArray := prog_6_method_8_code
def yX4_isMadeOf : MethodName := ⟨RX4, "isMadeOf", "(IIII)Z"⟩
def RX5 : String := "Latticework$Prover"
def TX5 : u_T := fun k => match k with
  | 0 => ("Latticework$Prover", "terms", "LLatticework$TermTable;", true)
  | 1 => ("Latticework$Prover", "formulas", "LLatticework$FormulaTable;", true)
  | 2 => ("Latticework$Prover", "left", "[LLatticework$Row;", true)
  | 3 => ("Latticework$Prover", "right", "[LLatticework$Row;", true)
  | 4 => ("Latticework$Prover", "takenApart", "I", false)
  | 5 => ("Latticework$Prover", "closed", "I", false)
  | _ => ("Latticework$Prover", "openAtoms", "I", false)
def tyX5 : Nat → FieldType := fun k => match k with
  | 0 => .object "Latticework$TermTable"
  | 1 => .object "Latticework$FormulaTable"
  | 2 => .array (.object "Latticework$Row")
  | 3 => .array (.object "Latticework$Row")
  | 4 => .int
  | 5 => .int
  | _ => .int
abbrev wsX50 : List Cond := u_ws RX5 TX5 7
theorem nmX5 : ∀ a, a < 7 → ∀ b, b < 7 → a ≠ b → (TX5 a).2.1 ≠ (TX5 b).2.1 := by decide +kernel
theorem tyX5_ok : ∀ k, k < 7 → parseFieldDescriptor (TX5 k).2.2.1 = some (tyX5 k) := by decide +kernel
abbrev cX5_init : ByteArray := prog_7_method_1_code
def yX5_init : MethodName := ⟨RX5, "<init>", "(LLatticework$TermTable;LLatticework$FormulaTable;)V"⟩
abbrev cX5_prove : ByteArray := prog_7_method_2_code
def yX5_prove : MethodName := ⟨RX5, "prove", "(II)Z"⟩
abbrev cX5_isClosed : ByteArray := prog_7_method_3_code
def yX5_isClosed : MethodName := ⟨RX5, "isClosed", "(I)Z"⟩
abbrev cX5_isTrue : ByteArray := prog_7_method_4_code
def yX5_isTrue : MethodName := ⟨RX5, "isTrue", "(I)Z"⟩
abbrev cX5_isAmong : ByteArray := prog_7_method_5_code
def yX5_isAmong : MethodName := ⟨RX5, "isAmong", "(ILLatticework$Row;)Z"⟩
abbrev cX5_isSameAtom : ByteArray := prog_7_method_6_code
def yX5_isSameAtom : MethodName := ⟨RX5, "isSameAtom", "(II)Z"⟩
abbrev cX5_takeApart : ByteArray := prog_7_method_7_code
def yX5_takeApart : MethodName := ⟨RX5, "takeApart", "(I)I"⟩
abbrev cX5_placeToTakeApart : ByteArray := prog_7_method_8_code
def yX5_placeToTakeApart : MethodName := ⟨RX5, "placeToTakeApart", "(LLatticework$Row;)I"⟩
abbrev cX5_takeApartLeft : ByteArray := prog_7_method_9_code
def yX5_takeApartLeft : MethodName := ⟨RX5, "takeApartLeft", "(II)I"⟩
abbrev cX5_takeApartRight : ByteArray := prog_7_method_10_code
def yX5_takeApartRight : MethodName := ⟨RX5, "takeApartRight", "(II)I"⟩
abbrev cX5_comeTwo : ByteArray := prog_7_method_11_code
def yX5_comeTwo : MethodName := ⟨RX5, "comeTwo", "(I[LLatticework$Row;I[LLatticework$Row;I)I"⟩
abbrev cX5_atomsIn : ByteArray := prog_7_method_12_code
def yX5_atomsIn : MethodName := ⟨RX5, "atomsIn", "(LLatticework$Row;)I"⟩
def RX6 : String := "Latticework$Rewriting"
def TX6 : u_T := fun k => match k with
  | 0 => ("Latticework$Rewriting", "put", "[J", true)
  | _ => ("Latticework$Rewriting", "times", "I", false)
def tyX6 : Nat → FieldType := fun k => match k with
  | 0 => .array .long
  | _ => .int
abbrev wsX60 : List Cond := u_ws RX6 TX6 2
theorem nmX6 : ∀ a, a < 2 → ∀ b, b < 2 → a ≠ b → (TX6 a).2.1 ≠ (TX6 b).2.1 := by decide +kernel
theorem tyX6_ok : ∀ k, k < 2 → parseFieldDescriptor (TX6 k).2.2.1 = some (tyX6 k) := by decide +kernel
abbrev cX6_init : ByteArray := prog_8_method_1_code
def yX6_init : MethodName := ⟨RX6, "<init>", "()V"⟩
abbrev cX6_doesFit : ByteArray := prog_8_method_2_code
def yX6_doesFit : MethodName := ⟨RX6, "doesFit", "(JJI)Z"⟩
abbrev cX6_doesFitSomewhere : ByteArray := prog_8_method_3_code
def yX6_doesFitSomewhere : MethodName := ⟨RX6, "doesFitSomewhere", "(JJ)Z"⟩
abbrev cX6_filled : ByteArray := prog_8_method_4_code
def yX6_filled : MethodName := ⟨RX6, "filled", "(J)J"⟩
abbrev cX6_rewrittenOnce : ByteArray := prog_8_method_5_code
def yX6_rewrittenOnce : MethodName := ⟨RX6, "rewrittenOnce", "(LLatticework$State;JI)J"⟩
abbrev cX6_rewritten : ByteArray := prog_8_method_6_code
def yX6_rewritten : MethodName := ⟨RX6, "rewritten", "(LLatticework$State;JI)J"⟩
def RX7 : String := "Latticework$Row"
def TX7 : u_T := fun k => match k with
  | 0 => ("Latticework$Row", "formula", "[I", true)
  | _ => ("Latticework$Row", "count", "I", false)
def tyX7 : Nat → FieldType := fun k => match k with
  | 0 => .array .int
  | _ => .int
abbrev wsX70 : List Cond := u_ws RX7 TX7 2
theorem nmX7 : ∀ a, a < 2 → ∀ b, b < 2 → a ≠ b → (TX7 a).2.1 ≠ (TX7 b).2.1 := by decide +kernel
theorem tyX7_ok : ∀ k, k < 2 → parseFieldDescriptor (TX7 k).2.2.1 = some (tyX7 k) := by decide +kernel
abbrev cX7_init : ByteArray := prog_9_method_1_code
def yX7_init : MethodName := ⟨RX7, "<init>", "()V"⟩
abbrev cX7_add : ByteArray := prog_9_method_2_code
def yX7_add : MethodName := ⟨RX7, "add", "(I)V"⟩
abbrev cX7_remove : ByteArray := prog_9_method_3_code
def yX7_remove : MethodName := ⟨RX7, "remove", "(I)V"⟩
abbrev cX7_copy : ByteArray := prog_9_method_4_code
def yX7_copy : MethodName := ⟨RX7, "copy", "(LLatticework$Row;)V"⟩
def RX8 : String := "Latticework$State"
def TX8 : u_T := fun k => match k with
  | 0 => ("Latticework$State", "left", "[J", true)
  | 1 => ("Latticework$State", "right", "[J", true)
  | 2 => ("Latticework$State", "one", "[J", true)
  | 3 => ("Latticework$State", "other", "[J", true)
  | 4 => ("Latticework$State", "rules", "I", false)
  | 5 => ("Latticework$State", "waiting", "I", false)
  | 6 => ("Latticework$State", "aside", "I", false)
  | 7 => ("Latticework$State", "done", "I", false)
  | _ => ("Latticework$State", "isStopped", "Z", false)
def tyX8 : Nat → FieldType := fun k => match k with
  | 0 => .array .long
  | 1 => .array .long
  | 2 => .array .long
  | 3 => .array .long
  | 4 => .int
  | 5 => .int
  | 6 => .int
  | 7 => .int
  | _ => .boolean
abbrev wsX80 : List Cond := u_ws RX8 TX8 9
theorem nmX8 : ∀ a, a < 9 → ∀ b, b < 9 → a ≠ b → (TX8 a).2.1 ≠ (TX8 b).2.1 := by decide +kernel
theorem tyX8_ok : ∀ k, k < 9 → parseFieldDescriptor (TX8 k).2.2.1 = some (tyX8 k) := by decide +kernel
abbrev cX8_init : ByteArray := prog_10_method_1_code
def yX8_init : MethodName := ⟨RX8, "<init>", "()V"⟩
abbrev cX8_copy : ByteArray := prog_10_method_2_code
def yX8_copy : MethodName := ⟨RX8, "copy", "(LLatticework$State;)V"⟩
abbrev cX8_counted : ByteArray := prog_10_method_3_code
def yX8_counted : MethodName := ⟨RX8, "counted", "(I)I"⟩
abbrev cX8_addRule : ByteArray := prog_10_method_4_code
def yX8_addRule : MethodName := ⟨RX8, "addRule", "(JJ)Z"⟩
abbrev cX8_removeRule : ByteArray := prog_10_method_5_code
def yX8_removeRule : MethodName := ⟨RX8, "removeRule", "(I)V"⟩
abbrev cX8_addEquation : ByteArray := prog_10_method_6_code
def yX8_addEquation : MethodName := ⟨RX8, "addEquation", "(JJ)Z"⟩
abbrev cX8_removeFirstEquation : ByteArray := prog_10_method_7_code
def yX8_removeFirstEquation : MethodName := ⟨RX8, "removeFirstEquation", "()V"⟩
def RX9 : String := "Latticework$TermTable"
def TX9 : u_T := fun k => match k with
  | 0 => ("Latticework$TermTable", "packed", "[J", true)
  | 1 => ("Latticework$TermTable", "normal", "[J", true)
  | 2 => ("Latticework$TermTable", "rewrites", "[I", true)
  | _ => ("Latticework$TermTable", "count", "I", false)
def tyX9 : Nat → FieldType := fun k => match k with
  | 0 => .array .long
  | 1 => .array .long
  | 2 => .array .int
  | _ => .int
abbrev wsX90 : List Cond := u_ws RX9 TX9 4
theorem nmX9 : ∀ a, a < 4 → ∀ b, b < 4 → a ≠ b → (TX9 a).2.1 ≠ (TX9 b).2.1 := by decide +kernel
theorem tyX9_ok : ∀ k, k < 4 → parseFieldDescriptor (TX9 k).2.2.1 = some (tyX9 k) := by decide +kernel
abbrev cX9_init : ByteArray := prog_11_method_1_code
def yX9_init : MethodName := ⟨RX9, "<init>", "()V"⟩
abbrev cX9_findOrAdd : ByteArray := prog_11_method_2_code
def yX9_findOrAdd : MethodName := ⟨RX9, "findOrAdd", "(J)I"⟩
abbrev cX9_forgetNormals : ByteArray := prog_11_method_3_code
def yX9_forgetNormals : MethodName := ⟨RX9, "forgetNormals", "()V"⟩
def RX10 : String := "Latticework"
def TX10 : u_T := fun k => match k with
  | 0 => ("Latticework", "rewriting", "LLatticework$Rewriting;", true)
  | 1 => ("Latticework", "meeting", "LLatticework$Meeting;", true)
  | 2 => ("Latticework", "completing", "LLatticework$Completing;", true)
  | 3 => ("Latticework", "state", "LLatticework$State;", true)
  | 4 => ("Latticework", "trial", "LLatticework$State;", true)
  | 5 => ("Latticework", "termTable", "LLatticework$TermTable;", true)
  | 6 => ("Latticework", "formulaTable", "LLatticework$FormulaTable;", true)
  | 7 => ("Latticework", "prover", "LLatticework$Prover;", true)
  | _ => ("Latticework", "proofLines", "LLatticework$ProofLines;", true)
def tyX10 : Nat → FieldType := fun k => match k with
  | 0 => .object "Latticework$Rewriting"
  | 1 => .object "Latticework$Meeting"
  | 2 => .object "Latticework$Completing"
  | 3 => .object "Latticework$State"
  | 4 => .object "Latticework$State"
  | 5 => .object "Latticework$TermTable"
  | 6 => .object "Latticework$FormulaTable"
  | 7 => .object "Latticework$Prover"
  | _ => .object "Latticework$ProofLines"
abbrev wsX100 : List Cond := u_ws RX10 TX10 9
theorem nmX10 : ∀ a, a < 9 → ∀ b, b < 9 → a ≠ b → (TX10 a).2.1 ≠ (TX10 b).2.1 := by decide +kernel
theorem tyX10_ok : ∀ k, k < 9 → parseFieldDescriptor (TX10 k).2.2.1 = some (tyX10 k) := by decide +kernel
abbrev cX10_init : ByteArray := prog_1_method_1_code
def yX10_init : MethodName := ⟨RX10, "<init>", "()V"⟩
abbrev cX10_variable : ByteArray := prog_1_method_2_code
def yX10_variable : MethodName := ⟨RX10, "variable", "(I)I"⟩
abbrev cX10_term : ByteArray := prog_1_method_3_code
def yX10_term : MethodName := ⟨RX10, "term", "(III)I"⟩
abbrev cX10_terms : ByteArray := prog_1_method_4_code
def yX10_terms : MethodName := ⟨RX10, "terms", "()I"⟩
abbrev cX10_ofTerm : ByteArray := prog_1_method_5_code
def yX10_ofTerm : MethodName := ⟨RX10, "ofTerm", "(II)I"⟩
abbrev cX10_at : ByteArray := prog_1_method_6_code
def yX10_at : MethodName := ⟨RX10, "at", "(II)I"⟩
abbrev cX10_compare : ByteArray := prog_1_method_7_code
def yX10_compare : MethodName := ⟨RX10, "compare", "(II)I"⟩
abbrev cX10_fits : ByteArray := prog_1_method_8_code
def yX10_fits : MethodName := ⟨RX10, "fits", "(II)Z"⟩
abbrev cX10_meet : ByteArray := prog_1_method_9_code
def yX10_meet : MethodName := ⟨RX10, "meet", "(II)I"⟩
abbrev cX10_equation : ByteArray := prog_1_method_10_code
def yX10_equation : MethodName := ⟨RX10, "equation", "(II)I"⟩
abbrev cX10_complete : ByteArray := prog_1_method_11_code
def yX10_complete : MethodName := ⟨RX10, "complete", "(I)I"⟩
abbrev cX10_dropRule : ByteArray := prog_1_method_12_code
def yX10_dropRule : MethodName := ⟨RX10, "dropRule", "(I)I"⟩
abbrev cX10_many : ByteArray := prog_1_method_13_code
def yX10_many : MethodName := ⟨RX10, "many", "(I)I"⟩
abbrev cX10_normal : ByteArray := prog_1_method_15_code
def yX10_normal : MethodName := ⟨RX10, "normal", "(I)I"⟩
abbrev cX10_steps : ByteArray := prog_1_method_16_code
def yX10_steps : MethodName := ⟨RX10, "steps", "(I)I"⟩
abbrev cX10_areEqual : ByteArray := prog_1_method_17_code
def yX10_areEqual : MethodName := ⟨RX10, "areEqual", "(II)Z"⟩
abbrev cX10_overlaps : ByteArray := prog_1_method_18_code
def yX10_overlaps : MethodName := ⟨RX10, "overlaps", "(II)I"⟩
abbrev cX10_meanSize : ByteArray := prog_1_method_19_code
def yX10_meanSize : MethodName := ⟨RX10, "meanSize", "()D"⟩
abbrev cX10_formula : ByteArray := prog_1_method_20_code
def yX10_formula : MethodName := ⟨RX10, "formula", "(III)I"⟩
abbrev cX10_formulas : ByteArray := prog_1_method_21_code
def yX10_formulas : MethodName := ⟨RX10, "formulas", "()I"⟩
abbrev cX10_isProved : ByteArray := prog_1_method_22_code
def yX10_isProved : MethodName := ⟨RX10, "isProved", "(I)Z"⟩
abbrev cX10_proof : ByteArray := prog_1_method_23_code
def yX10_proof : MethodName := ⟨RX10, "proof", "(II)I"⟩
abbrev cX10_line : ByteArray := prog_1_method_24_code
def yX10_line : MethodName := ⟨RX10, "line", "(IIII)I"⟩
abbrev cX10_isRight : ByteArray := prog_1_method_26_code
def yX10_isRight : MethodName := ⟨RX10, "isRight", "(I)Z"⟩
abbrev cX10_given : ByteArray := prog_1_method_27_code
def yX10_given : MethodName := ⟨RX10, "given", "(I)I"⟩
abbrev cX10_firstWrong : ByteArray := prog_1_method_28_code
def yX10_firstWrong : MethodName := ⟨RX10, "firstWrong", "()I"⟩
abbrev cX10_rulesAfter : ByteArray := prog_1_method_29_code
def yX10_rulesAfter : MethodName := ⟨RX10, "rulesAfter", "(I)I"⟩
abbrev cX10_sizeWithout : ByteArray := prog_1_method_30_code
def yX10_sizeWithout : MethodName := ⟨RX10, "sizeWithout", "(II)I"⟩
abbrev cX10_digest : ByteArray := prog_1_method_31_code
def yX10_digest : MethodName := ⟨RX10, "digest", "()J"⟩
abbrev cX10_needTerm : ByteArray := prog_1_method_32_code
def yX10_needTerm : MethodName := ⟨RX10, "needTerm", "(I)V"⟩
abbrev cX10_needRule : ByteArray := prog_1_method_33_code
def yX10_needRule : MethodName := ⟨RX10, "needRule", "(I)V"⟩
abbrev cX10_needFormula : ByteArray := prog_1_method_34_code
def yX10_needFormula : MethodName := ⟨RX10, "needFormula", "(I)V"⟩
abbrev cX10_needLine : ByteArray := prog_1_method_35_code
def yX10_needLine : MethodName := ⟨RX10, "needLine", "(I)V"⟩
abbrev cX10_needStepCount : ByteArray := prog_1_method_36_code
def yX10_needStepCount : MethodName := ⟨RX10, "needStepCount", "(I)V"⟩
abbrev cX10_needParts : ByteArray := prog_1_method_37_code
def yX10_needParts : MethodName := ⟨RX10, "needParts", "(III)V"⟩
abbrev cX10_numberOf : ByteArray := prog_1_method_38_code
def yX10_numberOf : MethodName := ⟨RX10, "numberOf", "(J)I"⟩
abbrev cX10_normalOf : ByteArray := prog_1_method_39_code
def yX10_normalOf : MethodName := ⟨RX10, "normalOf", "(I)J"⟩
abbrev cX10_rewritesOf : ByteArray := prog_1_method_40_code
def yX10_rewritesOf : MethodName := ⟨RX10, "rewritesOf", "(I)I"⟩
abbrev cX10_findNormal : ByteArray := prog_1_method_41_code
def yX10_findNormal : MethodName := ⟨RX10, "findNormal", "(I)V"⟩
abbrev cX10_findNormalsOfEqualities : ByteArray := prog_1_method_42_code
def yX10_findNormalsOfEqualities : MethodName := ⟨RX10, "findNormalsOfEqualities", "()V"⟩
abbrev cX10_mixed : ByteArray := prog_1_method_43_code
def yX10_mixed : MethodName := ⟨RX10, "mixed", "(JJ)J"⟩
abbrev cX10_mixedTerm : ByteArray := prog_1_method_44_code
def yX10_mixedTerm : MethodName := ⟨RX10, "mixedTerm", "(JJ)J"⟩
def RJx145de : String := "java/io/Serializable"
def TJx145de : u_T := fun k => match k with
  | _ => ("", "", "", false)
def tyJx145de : Nat → FieldType := fun k => match k with
  | _ => .int
abbrev wsJx145de0 : List Cond := u_ws RJx145de TJx145de 0
theorem nmJx145de : ∀ a, a < 0 → ∀ b, b < 0 → a ≠ b → (TJx145de a).2.1 ≠ (TJx145de b).2.1 := by decide +kernel
theorem tyJx145de_ok : ∀ k, k < 0 → parseFieldDescriptor (TJx145de k).2.2.1 = some (tyJx145de k) := by decide +kernel
def RJ6 : String := "java/lang/Integer"
def TJ6 : u_T := fun k => match k with
  | _ => ("java/lang/Integer", "value", "I", true)
def tyJ6 : Nat → FieldType := fun k => match k with
  | _ => .int
abbrev wsJ60 : List Cond := u_ws RJ6 TJ6 1
theorem nmJ6 : ∀ a, a < 1 → ∀ b, b < 1 → a ≠ b → (TJ6 a).2.1 ≠ (TJ6 b).2.1 := by decide +kernel
theorem tyJ6_ok : ∀ k, k < 1 → parseFieldDescriptor (TJ6 k).2.2.1 = some (tyJ6 k) := by decide +kernel
abbrev cJ6_bitCount_0f7a4 : ByteArray := prog_26_method_49_code
def yJ6_bitCount_0f7a4 : MethodName := ⟨RJ6, "bitCount", "(I)I"⟩
def RJ9 : String := "java/lang/Math"
def TJ9 : u_T := fun k => match k with
  | _ => ("", "", "", false)
def tyJ9 : Nat → FieldType := fun k => match k with
  | _ => .int
abbrev wsJ90 : List Cond := u_ws RJ9 TJ9 0
theorem nmJ9 : ∀ a, a < 0 → ∀ b, b < 0 → a ≠ b → (TJ9 a).2.1 ≠ (TJ9 b).2.1 := by decide +kernel
theorem tyJ9_ok : ∀ k, k < 0 → parseFieldDescriptor (TJ9 k).2.2.1 = some (tyJ9 k) := by decide +kernel
abbrev cJ9_max_7cf53 : ByteArray := prog_30_method_65_code
def yJ9_max_7cf53 : MethodName := ⟨RJ9, "max", "(II)I"⟩
abbrev cJ9_min_7cf53 : ByteArray := prog_30_method_69_code
def yJ9_min_7cf53 : MethodName := ⟨RJ9, "min", "(II)I"⟩
def RJ0 : String := "java/lang/String"
def TJ0 : u_T := fun k => match k with
  | 0 => ("java/lang/String", "value", "[B", true)
  | 1 => ("java/lang/String", "coder", "B", true)
  | 2 => ("java/lang/String", "hash", "I", false)
  | _ => ("java/lang/String", "hashIsZero", "Z", false)
def tyJ0 : Nat → FieldType := fun k => match k with
  | 0 => .array .byte
  | 1 => .byte
  | 2 => .int
  | _ => .boolean
abbrev wsJ00 : List Cond := u_ws RJ0 TJ0 4
theorem nmJ0 : ∀ a, a < 4 → ∀ b, b < 4 → a ≠ b → (TJ0 a).2.1 ≠ (TJ0 b).2.1 := by decide +kernel
theorem tyJ0_ok : ∀ k, k < 4 → parseFieldDescriptor (TJ0 k).2.2.1 = some (tyJ0 k) := by decide +kernel
def RJ10 : String := "java/lang/System"
def TJ10 : u_T := fun k => match k with
  | _ => ("", "", "", false)
def tyJ10 : Nat → FieldType := fun k => match k with
  | _ => .int
abbrev wsJ100 : List Cond := u_ws RJ10 TJ10 0
theorem nmJ10 : ∀ a, a < 0 → ∀ b, b < 0 → a ≠ b → (TJ10 a).2.1 ≠ (TJ10 b).2.1 := by decide +kernel
theorem tyJ10_ok : ∀ k, k < 0 → parseFieldDescriptor (TJ10 k).2.2.1 = some (tyJ10 k) := by decide +kernel
def RJ7 : String := "java/util/Arrays"
def TJ7 : u_T := fun k => match k with
  | _ => ("", "", "", false)
def tyJ7 : Nat → FieldType := fun k => match k with
  | _ => .int
abbrev wsJ70 : List Cond := u_ws RJ7 TJ7 0
theorem nmJ7 : ∀ a, a < 0 → ∀ b, b < 0 → a ≠ b → (TJ7 a).2.1 ≠ (TJ7 b).2.1 := by decide +kernel
theorem tyJ7_ok : ∀ k, k < 0 → parseFieldDescriptor (TJ7 k).2.2.1 = some (tyJ7 k) := by decide +kernel
abbrev cJ7_fill_d0a16 : ByteArray := prog_45_method_101_code
def yJ7_fill_d0a16 : MethodName := ⟨RJ7, "fill", "([JJ)V"⟩
abbrev cJ7_fill_53178 : ByteArray := prog_45_method_103_code
def yJ7_fill_53178 : MethodName := ⟨RJ7, "fill", "([II)V"⟩
def wsX8_init : List Cond := .code yX8_init cX8_init 1 none :: ([.methodLink RX8 3 objectInit, .instanceMethod objectInit, .code objectInit ⟨#[0xb1]⟩ 1 none, .arrayClass .long, .fieldLink RX8 9 "Latticework$State" "left" "[J", .fieldLink RX8 15 "Latticework$State" "right" "[J", .fieldLink RX8 18 "Latticework$State" "one" "[J", .fieldLink RX8 21 "Latticework$State" "other" "[J"] ++ wsX80)
def wsX0_init : List Cond := .code yX0_init cX0_init 3 none :: ([.methodLink RX0 3 objectInit, .instanceMethod objectInit, .code objectInit ⟨#[0xb1]⟩ 1 none, .classLink RX0 9 RX8, .instantiable RX8 9, .initialized RX8, .fieldLink RX0 12 "Latticework$Completing" "before" "LLatticework$State;", .arrayClass .long, .fieldLink RX0 18 "Latticework$Completing" "foundOne" "[J", .fieldLink RX0 22 "Latticework$Completing" "foundOther" "[J", .fieldLink RX0 25 "Latticework$Completing" "rewriting" "LLatticework$Rewriting;", .fieldLink RX0 29 "Latticework$Completing" "meeting" "LLatticework$Meeting;", .instanceMethod yX8_init, .code yX8_init cX8_init 1 none, .methodLink RX8 3 objectInit, .fieldLink RX8 9 "Latticework$State" "left" "[J", .fieldLink RX8 15 "Latticework$State" "right" "[J", .fieldLink RX8 18 "Latticework$State" "one" "[J", .fieldLink RX8 21 "Latticework$State" "other" "[J"] ++ wsX80 ++ wsX00)
def wsX8_copy : List Cond := .code yX8_copy cX8_copy 2 none :: ([.fieldLink RX8 9 "Latticework$State" "left" "[J", .methodLink RX8 24 arraycopyName, .native arraycopyName, .static arraycopyName, .initialized "java/lang/System", .fieldLink RX8 15 "Latticework$State" "right" "[J", .fieldLink RX8 18 "Latticework$State" "one" "[J", .fieldLink RX8 21 "Latticework$State" "other" "[J", .fieldLink RX8 30 "Latticework$State" "rules" "I", .fieldLink RX8 34 "Latticework$State" "waiting" "I", .fieldLink RX8 37 "Latticework$State" "aside" "I", .fieldLink RX8 40 "Latticework$State" "done" "I", .fieldLink RX8 43 "Latticework$State" "isStopped" "Z"] ++ wsX80)
def wsX3_sizeOf : List Cond := .code yX3_sizeOf cX3_sizeOf 3 (some .int) :: ([])
def wsJ7_fill_d0a16 : List Cond := .code yJ7_fill_d0a16 cJ7_fill_d0a16 5 none :: ([])
def wsX3_codeAt : List Cond := .code yX3_codeAt cX3_codeAt 3 (some .int) :: ([])
def wsX3_isVariable : List Cond := .code yX3_isVariable cX3_isVariable 1 (some .boolean) :: ([])
def wsX3_variableOf : List Cond := .code yX3_variableOf cX3_variableOf 1 (some .int) :: ([])
def wsX3_partsOf : List Cond := .code yX3_partsOf cX3_partsOf 1 (some .int) :: ([])
def wsX3_endOf : List Cond := .code yX3_endOf cX3_endOf 5 (some .int) :: ([.methodLink RX3 11 yX3_codeAt, .static yX3_codeAt, .initialized RX3, .code yX3_codeAt cX3_codeAt 3 (some .int), .methodLink RX3 15 yX3_partsOf, .static yX3_partsOf, .code yX3_partsOf cX3_partsOf 1 (some .int)])
def wsX3_part : List Cond := .code yX3_part cX3_part 4 (some .long) :: ([])
def wsX6_doesFit_r1 : List Cond := [Cond.fieldLink RX6 9 "Latticework$Rewriting" "put" "[J", Cond.methodLink RX6 15 yJ7_fill_d0a16, Cond.static yJ7_fill_d0a16, Cond.initialized RJ7, Cond.code yJ7_fill_d0a16 cJ7_fill_d0a16 5 none, Cond.methodLink RX6 21 yX3_sizeOf, Cond.static yX3_sizeOf, Cond.initialized RX3, Cond.code yX3_sizeOf cX3_sizeOf 3 (some .int), Cond.methodLink RX6 27 yX3_codeAt, Cond.static yX3_codeAt, Cond.code yX3_codeAt cX3_codeAt 3 (some .int), Cond.methodLink RX6 31 yX3_isVariable, Cond.static yX3_isVariable, Cond.code yX3_isVariable cX3_isVariable 1 (some .boolean), Cond.methodLink RX6 35 yX3_variableOf, Cond.static yX3_variableOf, Cond.code yX3_variableOf cX3_variableOf 1 (some .int), Cond.methodLink RX6 39 yX3_endOf, Cond.static yX3_endOf, Cond.code yX3_endOf cX3_endOf 5 (some .int), Cond.methodLink RX3 11 yX3_codeAt, Cond.methodLink RX3 15 yX3_partsOf, Cond.static yX3_partsOf]
def wsX6_doesFit_r2 : List Cond := [Cond.code yX3_partsOf cX3_partsOf 1 (some .int), Cond.methodLink RX6 42 yX3_part, Cond.static yX3_part, Cond.code yX3_part cX3_part 4 (some .long)]
def wsX6_doesFit : List Cond := .code yX6_doesFit cX6_doesFit 14 (some .boolean) :: ((wsX6_doesFit_r1 ++ wsX6_doesFit_r2) ++ wsX60)
def wsX3_joined : List Cond := .code yX3_joined cX3_joined 4 (some .long) :: ([.methodLink RX3 19 yX3_sizeOf, .static yX3_sizeOf, .initialized RX3, .code yX3_sizeOf cX3_sizeOf 3 (some .int)])
def wsX6_filled : List Cond := .code yX6_filled cX6_filled 8 (some .long) :: ([.fieldLink RX6 9 "Latticework$Rewriting" "put" "[J", .methodLink RX6 21 yX3_sizeOf, .static yX3_sizeOf, .initialized RX3, .code yX3_sizeOf cX3_sizeOf 3 (some .int), .methodLink RX6 27 yX3_codeAt, .static yX3_codeAt, .code yX3_codeAt cX3_codeAt 3 (some .int), .methodLink RX6 31 yX3_isVariable, .static yX3_isVariable, .code yX3_isVariable cX3_isVariable 1 (some .boolean), .methodLink RX6 35 yX3_variableOf, .static yX3_variableOf, .code yX3_variableOf cX3_variableOf 1 (some .int), .methodLink RX6 50 yX3_joined, .static yX3_joined, .code yX3_joined cX3_joined 4 (some .long), .methodLink RX3 19 yX3_sizeOf] ++ wsX60)
def wsX6_rewrittenOnce_r1 : List Cond := [Cond.fieldLink RX6 54 "Latticework$State" "rules" "I", Cond.fieldLink RX6 60 "Latticework$State" "left" "[J", Cond.fieldLink RX6 63 "Latticework$State" "right" "[J", Cond.methodLink RX6 21 yX3_sizeOf, Cond.static yX3_sizeOf, Cond.initialized RX3, Cond.code yX3_sizeOf cX3_sizeOf 3 (some .int), Cond.methodLink RX6 46 yX6_doesFit, Cond.instanceMethod yX6_doesFit, Cond.selects RX6 yX6_doesFit yX6_doesFit, Cond.initialized RX6, Cond.code yX6_doesFit cX6_doesFit 14 (some .boolean), Cond.fieldLink RX6 9 "Latticework$Rewriting" "put" "[J", Cond.methodLink RX6 15 yJ7_fill_d0a16, Cond.static yJ7_fill_d0a16, Cond.initialized RJ7, Cond.code yJ7_fill_d0a16 cJ7_fill_d0a16 5 none, Cond.methodLink RX6 27 yX3_codeAt, Cond.static yX3_codeAt, Cond.code yX3_codeAt cX3_codeAt 3 (some .int), Cond.methodLink RX6 31 yX3_isVariable, Cond.static yX3_isVariable, Cond.code yX3_isVariable cX3_isVariable 1 (some .boolean), Cond.methodLink RX6 35 yX3_variableOf]
def wsX6_rewrittenOnce_r2 : List Cond := [Cond.static yX3_variableOf, Cond.code yX3_variableOf cX3_variableOf 1 (some .int), Cond.methodLink RX6 39 yX3_endOf, Cond.static yX3_endOf, Cond.code yX3_endOf cX3_endOf 5 (some .int), Cond.methodLink RX3 11 yX3_codeAt, Cond.methodLink RX3 15 yX3_partsOf, Cond.static yX3_partsOf, Cond.code yX3_partsOf cX3_partsOf 1 (some .int), Cond.methodLink RX6 42 yX3_part, Cond.static yX3_part, Cond.code yX3_part cX3_part 4 (some .long), Cond.methodLink RX6 66 yX6_filled, Cond.instanceMethod yX6_filled, Cond.selects RX6 yX6_filled yX6_filled, Cond.code yX6_filled cX6_filled 8 (some .long), Cond.methodLink RX6 50 yX3_joined, Cond.static yX3_joined, Cond.code yX3_joined cX3_joined 4 (some .long), Cond.methodLink RX3 19 yX3_sizeOf]
def wsX6_rewrittenOnce : List Cond := .code yX6_rewrittenOnce cX6_rewrittenOnce 12 (some .long) :: ((wsX6_rewrittenOnce_r1 ++ wsX6_rewrittenOnce_r2) ++ wsX80 ++ wsX60)
def wsX6_rewritten_r1 : List Cond := [Cond.fieldLink RX6 70 "Latticework$Rewriting" "times" "I", Cond.methodLink RX6 73 yX6_rewrittenOnce, Cond.instanceMethod yX6_rewrittenOnce, Cond.selects RX6 yX6_rewrittenOnce yX6_rewrittenOnce, Cond.initialized RX6, Cond.code yX6_rewrittenOnce cX6_rewrittenOnce 12 (some .long), Cond.fieldLink RX6 54 "Latticework$State" "rules" "I", Cond.fieldLink RX6 60 "Latticework$State" "left" "[J", Cond.fieldLink RX6 63 "Latticework$State" "right" "[J", Cond.methodLink RX6 21 yX3_sizeOf, Cond.static yX3_sizeOf, Cond.initialized RX3, Cond.code yX3_sizeOf cX3_sizeOf 3 (some .int), Cond.methodLink RX6 46 yX6_doesFit, Cond.instanceMethod yX6_doesFit, Cond.selects RX6 yX6_doesFit yX6_doesFit, Cond.code yX6_doesFit cX6_doesFit 14 (some .boolean), Cond.fieldLink RX6 9 "Latticework$Rewriting" "put" "[J", Cond.methodLink RX6 15 yJ7_fill_d0a16, Cond.static yJ7_fill_d0a16, Cond.initialized RJ7, Cond.code yJ7_fill_d0a16 cJ7_fill_d0a16 5 none, Cond.methodLink RX6 27 yX3_codeAt, Cond.static yX3_codeAt]
def wsX6_rewritten_r2 : List Cond := [Cond.code yX3_codeAt cX3_codeAt 3 (some .int), Cond.methodLink RX6 31 yX3_isVariable, Cond.static yX3_isVariable, Cond.code yX3_isVariable cX3_isVariable 1 (some .boolean), Cond.methodLink RX6 35 yX3_variableOf, Cond.static yX3_variableOf, Cond.code yX3_variableOf cX3_variableOf 1 (some .int), Cond.methodLink RX6 39 yX3_endOf, Cond.static yX3_endOf, Cond.code yX3_endOf cX3_endOf 5 (some .int), Cond.methodLink RX3 11 yX3_codeAt, Cond.methodLink RX3 15 yX3_partsOf, Cond.static yX3_partsOf, Cond.code yX3_partsOf cX3_partsOf 1 (some .int), Cond.methodLink RX6 42 yX3_part, Cond.static yX3_part, Cond.code yX3_part cX3_part 4 (some .long), Cond.methodLink RX6 66 yX6_filled, Cond.instanceMethod yX6_filled, Cond.selects RX6 yX6_filled yX6_filled, Cond.code yX6_filled cX6_filled 8 (some .long), Cond.methodLink RX6 50 yX3_joined, Cond.static yX3_joined, Cond.code yX3_joined cX3_joined 4 (some .long)]
def wsX6_rewritten_r3 : List Cond := [Cond.methodLink RX3 19 yX3_sizeOf]
def wsX6_rewritten : List Cond := .code yX6_rewritten cX6_rewritten 9 (some .long) :: ((wsX6_rewritten_r1 ++ (wsX6_rewritten_r2 ++ wsX6_rewritten_r3)) ++ wsX60 ++ wsX80)
def wsX8_removeFirstEquation : List Cond := .code yX8_removeFirstEquation cX8_removeFirstEquation 2 none :: ([.fieldLink RX8 34 "Latticework$State" "waiting" "I", .fieldLink RX8 18 "Latticework$State" "one" "[J", .fieldLink RX8 21 "Latticework$State" "other" "[J"] ++ wsX80)
def wsX3_codeOfVariable : List Cond := .code yX3_codeOfVariable cX3_codeOfVariable 1 (some .int) :: ([])
def wsX3_timesIn : List Cond := .code yX3_timesIn cX3_timesIn 5 (some .int) :: ([.methodLink RX3 11 yX3_codeAt, .static yX3_codeAt, .initialized RX3, .code yX3_codeAt cX3_codeAt 3 (some .int)])
def wsX3_hasVariablesOf : List Cond := .code yX3_hasVariablesOf cX3_hasVariablesOf 6 (some .boolean) :: ([.methodLink RX3 23 yX3_codeOfVariable, .static yX3_codeOfVariable, .initialized RX3, .code yX3_codeOfVariable cX3_codeOfVariable 1 (some .int), .methodLink RX3 26 yX3_timesIn, .static yX3_timesIn, .code yX3_timesIn cX3_timesIn 5 (some .int), .methodLink RX3 11 yX3_codeAt, .static yX3_codeAt, .code yX3_codeAt cX3_codeAt 3 (some .int)])
def wsX3_isGreater_r1 : List Cond := [Cond.methodLink RX3 29 yX3_hasVariablesOf, Cond.static yX3_hasVariablesOf, Cond.initialized RX3, Cond.code yX3_hasVariablesOf cX3_hasVariablesOf 6 (some .boolean), Cond.methodLink RX3 23 yX3_codeOfVariable, Cond.static yX3_codeOfVariable, Cond.code yX3_codeOfVariable cX3_codeOfVariable 1 (some .int), Cond.methodLink RX3 26 yX3_timesIn, Cond.static yX3_timesIn, Cond.code yX3_timesIn cX3_timesIn 5 (some .int), Cond.methodLink RX3 11 yX3_codeAt, Cond.static yX3_codeAt, Cond.code yX3_codeAt cX3_codeAt 3 (some .int), Cond.methodLink RX3 19 yX3_sizeOf, Cond.static yX3_sizeOf, Cond.code yX3_sizeOf cX3_sizeOf 3 (some .int), Cond.methodLink RX3 33 yX3_isVariable, Cond.static yX3_isVariable, Cond.code yX3_isVariable cX3_isVariable 1 (some .boolean), Cond.methodLink RX3 37 yX3_endOf, Cond.static yX3_endOf, Cond.code yX3_endOf cX3_endOf 5 (some .int), Cond.methodLink RX3 15 yX3_partsOf, Cond.static yX3_partsOf]
def wsX3_isGreater_r2 : List Cond := [Cond.code yX3_partsOf cX3_partsOf 1 (some .int), Cond.methodLink RX3 40 yX3_part, Cond.static yX3_part, Cond.code yX3_part cX3_part 4 (some .long)]
def wsX3_isGreater : List Cond := .code yX3_isGreater cX3_isGreater 16 (some .boolean) :: ((wsX3_isGreater_r1 ++ wsX3_isGreater_r2))
def wsX8_addRule : List Cond := .code yX8_addRule cX8_addRule 5 (some .boolean) :: ([.fieldLink RX8 30 "Latticework$State" "rules" "I", .fieldLink RX8 9 "Latticework$State" "left" "[J", .fieldLink RX8 15 "Latticework$State" "right" "[J"] ++ wsX80)
def wsX6_doesFitSomewhere_r1 : List Cond := [Cond.methodLink RX6 21 yX3_sizeOf, Cond.static yX3_sizeOf, Cond.initialized RX3, Cond.code yX3_sizeOf cX3_sizeOf 3 (some .int), Cond.methodLink RX6 46 yX6_doesFit, Cond.instanceMethod yX6_doesFit, Cond.selects RX6 yX6_doesFit yX6_doesFit, Cond.initialized RX6, Cond.code yX6_doesFit cX6_doesFit 14 (some .boolean), Cond.fieldLink RX6 9 "Latticework$Rewriting" "put" "[J", Cond.methodLink RX6 15 yJ7_fill_d0a16, Cond.static yJ7_fill_d0a16, Cond.initialized RJ7, Cond.code yJ7_fill_d0a16 cJ7_fill_d0a16 5 none, Cond.methodLink RX6 27 yX3_codeAt, Cond.static yX3_codeAt, Cond.code yX3_codeAt cX3_codeAt 3 (some .int), Cond.methodLink RX6 31 yX3_isVariable, Cond.static yX3_isVariable, Cond.code yX3_isVariable cX3_isVariable 1 (some .boolean), Cond.methodLink RX6 35 yX3_variableOf, Cond.static yX3_variableOf, Cond.code yX3_variableOf cX3_variableOf 1 (some .int), Cond.methodLink RX6 39 yX3_endOf]
def wsX6_doesFitSomewhere_r2 : List Cond := [Cond.static yX3_endOf, Cond.code yX3_endOf cX3_endOf 5 (some .int), Cond.methodLink RX3 11 yX3_codeAt, Cond.methodLink RX3 15 yX3_partsOf, Cond.static yX3_partsOf, Cond.code yX3_partsOf cX3_partsOf 1 (some .int), Cond.methodLink RX6 42 yX3_part, Cond.static yX3_part, Cond.code yX3_part cX3_part 4 (some .long)]
def wsX6_doesFitSomewhere : List Cond := .code yX6_doesFitSomewhere cX6_doesFitSomewhere 7 (some .boolean) :: ((wsX6_doesFitSomewhere_r1 ++ wsX6_doesFitSomewhere_r2) ++ wsX60)
def wsX8_addEquation : List Cond := .code yX8_addEquation cX8_addEquation 5 (some .boolean) :: ([.fieldLink RX8 34 "Latticework$State" "waiting" "I", .fieldLink RX8 18 "Latticework$State" "one" "[J", .fieldLink RX8 21 "Latticework$State" "other" "[J"] ++ wsX80)
def wsX8_removeRule : List Cond := .code yX8_removeRule cX8_removeRule 3 none :: ([.fieldLink RX8 30 "Latticework$State" "rules" "I", .fieldLink RX8 9 "Latticework$State" "left" "[J", .fieldLink RX8 15 "Latticework$State" "right" "[J"] ++ wsX80)
def wsX0_takeRulesAway_r1 : List Cond := [Cond.fieldLink RX0 85 "Latticework$State" "left" "[J", Cond.fieldLink RX0 88 "Latticework$State" "rules" "I", Cond.fieldLink RX0 25 "Latticework$Completing" "rewriting" "LLatticework$Rewriting;", Cond.fieldLink RX0 94 "Latticework$State" "right" "[J", Cond.methodLink RX0 91 yX6_doesFitSomewhere, Cond.instanceMethod yX6_doesFitSomewhere, Cond.selects RX6 yX6_doesFitSomewhere yX6_doesFitSomewhere, Cond.initialized RX6, Cond.code yX6_doesFitSomewhere cX6_doesFitSomewhere 7 (some .boolean), Cond.methodLink RX6 21 yX3_sizeOf, Cond.static yX3_sizeOf, Cond.initialized RX3, Cond.code yX3_sizeOf cX3_sizeOf 3 (some .int), Cond.methodLink RX6 46 yX6_doesFit, Cond.instanceMethod yX6_doesFit, Cond.selects RX6 yX6_doesFit yX6_doesFit, Cond.code yX6_doesFit cX6_doesFit 14 (some .boolean), Cond.fieldLink RX6 9 "Latticework$Rewriting" "put" "[J", Cond.methodLink RX6 15 yJ7_fill_d0a16, Cond.static yJ7_fill_d0a16, Cond.initialized RJ7, Cond.code yJ7_fill_d0a16 cJ7_fill_d0a16 5 none, Cond.methodLink RX6 27 yX3_codeAt, Cond.static yX3_codeAt]
def wsX0_takeRulesAway_r2 : List Cond := [Cond.code yX3_codeAt cX3_codeAt 3 (some .int), Cond.methodLink RX6 31 yX3_isVariable, Cond.static yX3_isVariable, Cond.code yX3_isVariable cX3_isVariable 1 (some .boolean), Cond.methodLink RX6 35 yX3_variableOf, Cond.static yX3_variableOf, Cond.code yX3_variableOf cX3_variableOf 1 (some .int), Cond.methodLink RX6 39 yX3_endOf, Cond.static yX3_endOf, Cond.code yX3_endOf cX3_endOf 5 (some .int), Cond.methodLink RX3 11 yX3_codeAt, Cond.methodLink RX3 15 yX3_partsOf, Cond.static yX3_partsOf, Cond.code yX3_partsOf cX3_partsOf 1 (some .int), Cond.methodLink RX6 42 yX3_part, Cond.static yX3_part, Cond.code yX3_part cX3_part 4 (some .long), Cond.methodLink RX0 97 yX8_addEquation, Cond.instanceMethod yX8_addEquation, Cond.selects RX8 yX8_addEquation yX8_addEquation, Cond.initialized RX8, Cond.code yX8_addEquation cX8_addEquation 5 (some .boolean), Cond.fieldLink RX8 34 "Latticework$State" "waiting" "I", Cond.fieldLink RX8 18 "Latticework$State" "one" "[J"]
def wsX0_takeRulesAway_r3 : List Cond := [Cond.fieldLink RX8 21 "Latticework$State" "other" "[J", Cond.methodLink RX0 100 yX8_removeRule, Cond.instanceMethod yX8_removeRule, Cond.selects RX8 yX8_removeRule yX8_removeRule, Cond.code yX8_removeRule cX8_removeRule 3 none, Cond.fieldLink RX8 30 "Latticework$State" "rules" "I", Cond.fieldLink RX8 9 "Latticework$State" "left" "[J", Cond.fieldLink RX8 15 "Latticework$State" "right" "[J"]
def wsX0_takeRulesAway : List Cond := .code yX0_takeRulesAway cX0_takeRulesAway 6 (some .boolean) :: ((wsX0_takeRulesAway_r1 ++ (wsX0_takeRulesAway_r2 ++ wsX0_takeRulesAway_r3)) ++ wsX80 ++ wsX00 ++ wsX60)
def wsX2_clear : List Cond := .code yX2_clear cX2_clear 2 none :: ([.fieldLink RX2 51 "Latticework$Meeting" "nodes" "I", .fieldLink RX2 11 "Latticework$Meeting" "code" "[I", .fieldLink RX2 15 "Latticework$Meeting" "first" "[I", .fieldLink RX2 18 "Latticework$Meeting" "second" "[I", .methodLink RX2 55 yX3_codeOfVariable, .static yX3_codeOfVariable, .initialized RX3, .code yX3_codeOfVariable cX3_codeOfVariable 1 (some .int)] ++ wsX20)
def wsX2_nodeAt : List Cond := .code yX2_nodeAt cX2_nodeAt 2 (some .int) :: ([.fieldLink RX2 33 "Latticework$Meeting" "places" "[I"] ++ wsX20)
def wsX2_addNode : List Cond := .code yX2_addNode cX2_addNode 4 (some .int) :: ([.fieldLink RX2 51 "Latticework$Meeting" "nodes" "I", .fieldLink RX2 11 "Latticework$Meeting" "code" "[I", .fieldLink RX2 15 "Latticework$Meeting" "first" "[I", .fieldLink RX2 18 "Latticework$Meeting" "second" "[I"] ++ wsX20)
def wsX2_addTerm_r1 : List Cond := [Cond.fieldLink RX2 33 "Latticework$Meeting" "places" "[I", Cond.methodLink RX2 60 yX3_sizeOf, Cond.static yX3_sizeOf, Cond.initialized RX3, Cond.code yX3_sizeOf cX3_sizeOf 3 (some .int), Cond.methodLink RX2 64 yX3_codeAt, Cond.static yX3_codeAt, Cond.code yX3_codeAt cX3_codeAt 3 (some .int), Cond.methodLink RX2 67 yX3_isVariable, Cond.static yX3_isVariable, Cond.code yX3_isVariable cX3_isVariable 1 (some .boolean), Cond.methodLink RX2 71 yX3_variableOf, Cond.static yX3_variableOf, Cond.code yX3_variableOf cX3_variableOf 1 (some .int), Cond.methodLink RX2 74 yX3_partsOf, Cond.static yX3_partsOf, Cond.code yX3_partsOf cX3_partsOf 1 (some .int), Cond.methodLink RX2 77 yX3_endOf, Cond.static yX3_endOf, Cond.code yX3_endOf cX3_endOf 5 (some .int), Cond.methodLink RX3 11 yX3_codeAt, Cond.methodLink RX3 15 yX3_partsOf, Cond.methodLink RX2 80 yX2_nodeAt, Cond.instanceMethod yX2_nodeAt]
def wsX2_addTerm_r2 : List Cond := [Cond.selects RX2 yX2_nodeAt yX2_nodeAt, Cond.initialized RX2, Cond.code yX2_nodeAt cX2_nodeAt 2 (some .int), Cond.methodLink RX2 83 yX2_addNode, Cond.instanceMethod yX2_addNode, Cond.selects RX2 yX2_addNode yX2_addNode, Cond.code yX2_addNode cX2_addNode 4 (some .int), Cond.fieldLink RX2 51 "Latticework$Meeting" "nodes" "I", Cond.fieldLink RX2 11 "Latticework$Meeting" "code" "[I", Cond.fieldLink RX2 15 "Latticework$Meeting" "first" "[I", Cond.fieldLink RX2 18 "Latticework$Meeting" "second" "[I"]
def wsX2_addTerm : List Cond := .code yX2_addTerm cX2_addTerm 8 (some .int) :: ((wsX2_addTerm_r1 ++ wsX2_addTerm_r2) ++ wsX20)
def wsX2_leaderOf : List Cond := .code yX2_leaderOf cX2_leaderOf 4 (some .int) :: ([.fieldLink RX2 21 "Latticework$Meeting" "leader" "[I"] ++ wsX20)
def wsX2_pilePair : List Cond := .code yX2_pilePair cX2_pilePair 4 (some .int) :: ([.fieldLink RX2 27 "Latticework$Meeting" "pile" "[I"] ++ wsX20)
def wsX2_unite : List Cond := .code yX2_unite cX2_unite 7 (some .boolean) :: ([.fieldLink RX2 27 "Latticework$Meeting" "pile" "[I", .fieldLink RX2 11 "Latticework$Meeting" "code" "[I", .fieldLink RX2 21 "Latticework$Meeting" "leader" "[I", .fieldLink RX2 18 "Latticework$Meeting" "second" "[I", .fieldLink RX2 15 "Latticework$Meeting" "first" "[I", .methodLink RX2 47 yX2_leaderOf, .instanceMethod yX2_leaderOf, .selects RX2 yX2_leaderOf yX2_leaderOf, .initialized RX2, .code yX2_leaderOf cX2_leaderOf 4 (some .int), .methodLink RX2 67 yX3_isVariable, .static yX3_isVariable, .initialized RX3, .code yX3_isVariable cX3_isVariable 1 (some .boolean), .methodLink RX2 94 yX2_pilePair, .instanceMethod yX2_pilePair, .selects RX2 yX2_pilePair yX2_pilePair, .code yX2_pilePair cX2_pilePair 4 (some .int)] ++ wsX20)
def wsX2_measure : List Cond := .code yX2_measure cX2_measure 7 (some .boolean) :: ([.fieldLink RX2 51 "Latticework$Meeting" "nodes" "I", .fieldLink RX2 21 "Latticework$Meeting" "leader" "[I", .fieldLink RX2 24 "Latticework$Meeting" "size" "[I", .fieldLink RX2 15 "Latticework$Meeting" "first" "[I", .fieldLink RX2 18 "Latticework$Meeting" "second" "[I", .methodLink RX2 97 Lib.Math.max.name, .static Lib.Math.max.name, .initialized "java/lang/Math", .code Lib.Math.max.name Lib.Math.max.code 2 (some .int), .methodLink RX2 47 yX2_leaderOf, .instanceMethod yX2_leaderOf, .selects RX2 yX2_leaderOf yX2_leaderOf, .initialized RX2, .code yX2_leaderOf cX2_leaderOf 4 (some .int)] ++ wsX20)
def wsX2_doMeet_r1 : List Cond := [Cond.fieldLink RX2 51 "Latticework$Meeting" "nodes" "I", Cond.fieldLink RX2 21 "Latticework$Meeting" "leader" "[I", Cond.fieldLink RX2 24 "Latticework$Meeting" "size" "[I", Cond.methodLink RX2 87 yX2_unite, Cond.instanceMethod yX2_unite, Cond.selects RX2 yX2_unite yX2_unite, Cond.initialized RX2, Cond.code yX2_unite cX2_unite 7 (some .boolean), Cond.fieldLink RX2 27 "Latticework$Meeting" "pile" "[I", Cond.fieldLink RX2 11 "Latticework$Meeting" "code" "[I", Cond.fieldLink RX2 18 "Latticework$Meeting" "second" "[I", Cond.fieldLink RX2 15 "Latticework$Meeting" "first" "[I", Cond.methodLink RX2 47 yX2_leaderOf, Cond.instanceMethod yX2_leaderOf, Cond.selects RX2 yX2_leaderOf yX2_leaderOf, Cond.code yX2_leaderOf cX2_leaderOf 4 (some .int), Cond.methodLink RX2 67 yX3_isVariable, Cond.static yX3_isVariable, Cond.initialized RX3, Cond.code yX3_isVariable cX3_isVariable 1 (some .boolean), Cond.methodLink RX2 94 yX2_pilePair, Cond.instanceMethod yX2_pilePair, Cond.selects RX2 yX2_pilePair yX2_pilePair, Cond.code yX2_pilePair cX2_pilePair 4 (some .int)]
def wsX2_doMeet_r2 : List Cond := [Cond.methodLink RX2 90 yX2_measure, Cond.instanceMethod yX2_measure, Cond.selects RX2 yX2_measure yX2_measure, Cond.code yX2_measure cX2_measure 7 (some .boolean), Cond.methodLink RX2 97 Lib.Math.max.name, Cond.static Lib.Math.max.name, Cond.initialized "java/lang/Math", Cond.code Lib.Math.max.name Lib.Math.max.code 2 (some .int)]
def wsX2_doMeet : List Cond := .code yX2_doMeet cX2_doMeet 4 (some .boolean) :: ((wsX2_doMeet_r1 ++ wsX2_doMeet_r2) ++ wsX20)
def wsJ7_fill_53178 : List Cond := .code yJ7_fill_53178 cJ7_fill_53178 4 none :: ([])
def wsX2_beginEquation : List Cond := .code yX2_beginEquation cX2_beginEquation 1 none :: ([.fieldLink RX2 30 "Latticework$Meeting" "numberedAnew" "[I", .fieldLink RX2 109 "Latticework$Meeting" "seen" "I", .fieldLink RX2 112 "Latticework$Meeting" "written" "J", .fieldLink RX2 116 "Latticework$Meeting" "length" "I", .methodLink RX2 103 yJ7_fill_53178, .static yJ7_fill_53178, .initialized RJ7, .code yJ7_fill_53178 cJ7_fill_53178 4 none] ++ wsX20)
def wsX2_anewOf : List Cond := .code yX2_anewOf cX2_anewOf 2 (some .int) :: ([.fieldLink RX2 30 "Latticework$Meeting" "numberedAnew" "[I", .fieldLink RX2 109 "Latticework$Meeting" "seen" "I"] ++ wsX20)
def wsX2_writeCode : List Cond := .code yX2_writeCode cX2_writeCode 2 (some .boolean) :: ([.fieldLink RX2 116 "Latticework$Meeting" "length" "I", .fieldLink RX2 112 "Latticework$Meeting" "written" "J"] ++ wsX20)
def wsX2_pileNode : List Cond := .code yX2_pileNode cX2_pileNode 3 (some .int) :: ([.fieldLink RX2 27 "Latticework$Meeting" "pile" "[I"] ++ wsX20)
def wsX2_writeNode_r1 : List Cond := [Cond.fieldLink RX2 116 "Latticework$Meeting" "length" "I", Cond.fieldLink RX2 24 "Latticework$Meeting" "size" "[I", Cond.fieldLink RX2 27 "Latticework$Meeting" "pile" "[I", Cond.fieldLink RX2 30 "Latticework$Meeting" "numberedAnew" "[I", Cond.fieldLink RX2 11 "Latticework$Meeting" "code" "[I", Cond.fieldLink RX2 18 "Latticework$Meeting" "second" "[I", Cond.fieldLink RX2 15 "Latticework$Meeting" "first" "[I", Cond.methodLink RX2 47 yX2_leaderOf, Cond.instanceMethod yX2_leaderOf, Cond.selects RX2 yX2_leaderOf yX2_leaderOf, Cond.initialized RX2, Cond.code yX2_leaderOf cX2_leaderOf 4 (some .int), Cond.fieldLink RX2 21 "Latticework$Meeting" "leader" "[I", Cond.methodLink RX2 119 yX2_anewOf, Cond.instanceMethod yX2_anewOf, Cond.selects RX2 yX2_anewOf yX2_anewOf, Cond.code yX2_anewOf cX2_anewOf 2 (some .int), Cond.fieldLink RX2 109 "Latticework$Meeting" "seen" "I", Cond.methodLink RX2 122 yX2_writeCode, Cond.instanceMethod yX2_writeCode, Cond.selects RX2 yX2_writeCode yX2_writeCode, Cond.code yX2_writeCode cX2_writeCode 2 (some .boolean), Cond.fieldLink RX2 112 "Latticework$Meeting" "written" "J", Cond.methodLink RX2 125 yX2_pileNode]
def wsX2_writeNode_r2 : List Cond := [Cond.instanceMethod yX2_pileNode, Cond.selects RX2 yX2_pileNode yX2_pileNode, Cond.code yX2_pileNode cX2_pileNode 3 (some .int)]
def wsX2_writeNode : List Cond := .code yX2_writeNode cX2_writeNode 6 (some .boolean) :: ((wsX2_writeNode_r1 ++ wsX2_writeNode_r2) ++ wsX20)
def wsX0_writeReplaced_r1 : List Cond := [Cond.fieldLink RX0 29 "Latticework$Completing" "meeting" "LLatticework$Meeting;", Cond.methodLink RX0 117 yX3_sizeOf, Cond.static yX3_sizeOf, Cond.initialized RX3, Cond.code yX3_sizeOf cX3_sizeOf 3 (some .int), Cond.methodLink RX0 150 yX3_endOf, Cond.static yX3_endOf, Cond.code yX3_endOf cX3_endOf 5 (some .int), Cond.methodLink RX3 11 yX3_codeAt, Cond.static yX3_codeAt, Cond.code yX3_codeAt cX3_codeAt 3 (some .int), Cond.methodLink RX3 15 yX3_partsOf, Cond.static yX3_partsOf, Cond.code yX3_partsOf cX3_partsOf 1 (some .int), Cond.methodLink RX0 121 yX3_codeAt, Cond.methodLink RX0 147 yX2_writeNode, Cond.instanceMethod yX2_writeNode, Cond.selects RX2 yX2_writeNode yX2_writeNode, Cond.initialized RX2, Cond.code yX2_writeNode cX2_writeNode 6 (some .boolean), Cond.fieldLink RX2 116 "Latticework$Meeting" "length" "I", Cond.fieldLink RX2 24 "Latticework$Meeting" "size" "[I", Cond.fieldLink RX2 27 "Latticework$Meeting" "pile" "[I", Cond.fieldLink RX2 30 "Latticework$Meeting" "numberedAnew" "[I"]
def wsX0_writeReplaced_r2 : List Cond := [Cond.fieldLink RX2 11 "Latticework$Meeting" "code" "[I", Cond.fieldLink RX2 18 "Latticework$Meeting" "second" "[I", Cond.fieldLink RX2 15 "Latticework$Meeting" "first" "[I", Cond.methodLink RX2 47 yX2_leaderOf, Cond.instanceMethod yX2_leaderOf, Cond.selects RX2 yX2_leaderOf yX2_leaderOf, Cond.code yX2_leaderOf cX2_leaderOf 4 (some .int), Cond.fieldLink RX2 21 "Latticework$Meeting" "leader" "[I", Cond.methodLink RX2 119 yX2_anewOf, Cond.instanceMethod yX2_anewOf, Cond.selects RX2 yX2_anewOf yX2_anewOf, Cond.code yX2_anewOf cX2_anewOf 2 (some .int), Cond.fieldLink RX2 109 "Latticework$Meeting" "seen" "I", Cond.methodLink RX2 122 yX2_writeCode, Cond.instanceMethod yX2_writeCode, Cond.selects RX2 yX2_writeCode yX2_writeCode, Cond.code yX2_writeCode cX2_writeCode 2 (some .boolean), Cond.fieldLink RX2 112 "Latticework$Meeting" "written" "J", Cond.methodLink RX2 125 yX2_pileNode, Cond.instanceMethod yX2_pileNode, Cond.selects RX2 yX2_pileNode yX2_pileNode, Cond.code yX2_pileNode cX2_pileNode 3 (some .int), Cond.methodLink RX0 124 yX3_isVariable, Cond.static yX3_isVariable]
def wsX0_writeReplaced_r3 : List Cond := [Cond.code yX3_isVariable cX3_isVariable 1 (some .boolean), Cond.methodLink RX0 128 yX2_nodeAt, Cond.instanceMethod yX2_nodeAt, Cond.selects RX2 yX2_nodeAt yX2_nodeAt, Cond.code yX2_nodeAt cX2_nodeAt 2 (some .int), Cond.fieldLink RX2 33 "Latticework$Meeting" "places" "[I", Cond.methodLink RX0 153 yX2_writeCode]
def wsX0_writeReplaced : List Cond := .code yX0_writeReplaced cX0_writeReplaced 10 (some .boolean) :: ((wsX0_writeReplaced_r1 ++ (wsX0_writeReplaced_r2 ++ wsX0_writeReplaced_r3)) ++ wsX00 ++ wsX20)
def wsX2_takeSide : List Cond := .code yX2_takeSide cX2_takeSide 3 (some .long) :: ([.fieldLink RX2 112 "Latticework$Meeting" "written" "J", .fieldLink RX2 116 "Latticework$Meeting" "length" "I"] ++ wsX20)
def wsX0_findOverlaps_r1 : List Cond := [Cond.fieldLink RX0 29 "Latticework$Completing" "meeting" "LLatticework$Meeting;", Cond.fieldLink RX0 85 "Latticework$State" "left" "[J", Cond.fieldLink RX0 94 "Latticework$State" "right" "[J", Cond.fieldLink RX0 18 "Latticework$Completing" "foundOne" "[J", Cond.fieldLink RX0 22 "Latticework$Completing" "foundOther" "[J", Cond.methodLink RX0 108 yX2_clear, Cond.instanceMethod yX2_clear, Cond.selects RX2 yX2_clear yX2_clear, Cond.initialized RX2, Cond.code yX2_clear cX2_clear 2 none, Cond.fieldLink RX2 51 "Latticework$Meeting" "nodes" "I", Cond.fieldLink RX2 11 "Latticework$Meeting" "code" "[I", Cond.fieldLink RX2 15 "Latticework$Meeting" "first" "[I", Cond.fieldLink RX2 18 "Latticework$Meeting" "second" "[I", Cond.methodLink RX2 55 yX3_codeOfVariable, Cond.static yX3_codeOfVariable, Cond.initialized RX3, Cond.code yX3_codeOfVariable cX3_codeOfVariable 1 (some .int), Cond.methodLink RX0 113 yX2_addTerm, Cond.instanceMethod yX2_addTerm, Cond.selects RX2 yX2_addTerm yX2_addTerm, Cond.code yX2_addTerm cX2_addTerm 8 (some .int), Cond.fieldLink RX2 33 "Latticework$Meeting" "places" "[I", Cond.methodLink RX2 60 yX3_sizeOf]
def wsX0_findOverlaps_r2 : List Cond := [Cond.static yX3_sizeOf, Cond.code yX3_sizeOf cX3_sizeOf 3 (some .int), Cond.methodLink RX2 64 yX3_codeAt, Cond.static yX3_codeAt, Cond.code yX3_codeAt cX3_codeAt 3 (some .int), Cond.methodLink RX2 67 yX3_isVariable, Cond.static yX3_isVariable, Cond.code yX3_isVariable cX3_isVariable 1 (some .boolean), Cond.methodLink RX2 71 yX3_variableOf, Cond.static yX3_variableOf, Cond.code yX3_variableOf cX3_variableOf 1 (some .int), Cond.methodLink RX2 74 yX3_partsOf, Cond.static yX3_partsOf, Cond.code yX3_partsOf cX3_partsOf 1 (some .int), Cond.methodLink RX2 77 yX3_endOf, Cond.static yX3_endOf, Cond.code yX3_endOf cX3_endOf 5 (some .int), Cond.methodLink RX3 11 yX3_codeAt, Cond.methodLink RX3 15 yX3_partsOf, Cond.methodLink RX2 80 yX2_nodeAt, Cond.instanceMethod yX2_nodeAt, Cond.selects RX2 yX2_nodeAt yX2_nodeAt, Cond.code yX2_nodeAt cX2_nodeAt 2 (some .int), Cond.methodLink RX2 83 yX2_addNode]
def wsX0_findOverlaps_r3 : List Cond := [Cond.instanceMethod yX2_addNode, Cond.selects RX2 yX2_addNode yX2_addNode, Cond.code yX2_addNode cX2_addNode 4 (some .int), Cond.methodLink RX0 117 yX3_sizeOf, Cond.methodLink RX0 121 yX3_codeAt, Cond.methodLink RX0 124 yX3_isVariable, Cond.methodLink RX0 128 yX2_nodeAt, Cond.methodLink RX0 132 yX2_doMeet, Cond.instanceMethod yX2_doMeet, Cond.selects RX2 yX2_doMeet yX2_doMeet, Cond.code yX2_doMeet cX2_doMeet 4 (some .boolean), Cond.fieldLink RX2 21 "Latticework$Meeting" "leader" "[I", Cond.fieldLink RX2 24 "Latticework$Meeting" "size" "[I", Cond.methodLink RX2 87 yX2_unite, Cond.instanceMethod yX2_unite, Cond.selects RX2 yX2_unite yX2_unite, Cond.code yX2_unite cX2_unite 7 (some .boolean), Cond.fieldLink RX2 27 "Latticework$Meeting" "pile" "[I", Cond.methodLink RX2 47 yX2_leaderOf, Cond.instanceMethod yX2_leaderOf, Cond.selects RX2 yX2_leaderOf yX2_leaderOf, Cond.code yX2_leaderOf cX2_leaderOf 4 (some .int), Cond.methodLink RX2 94 yX2_pilePair, Cond.instanceMethod yX2_pilePair]
def wsX0_findOverlaps_r4 : List Cond := [Cond.selects RX2 yX2_pilePair yX2_pilePair, Cond.code yX2_pilePair cX2_pilePair 4 (some .int), Cond.methodLink RX2 90 yX2_measure, Cond.instanceMethod yX2_measure, Cond.selects RX2 yX2_measure yX2_measure, Cond.code yX2_measure cX2_measure 7 (some .boolean), Cond.methodLink RX2 97 Lib.Math.max.name, Cond.static Lib.Math.max.name, Cond.initialized "java/lang/Math", Cond.code Lib.Math.max.name Lib.Math.max.code 2 (some .int), Cond.methodLink RX0 136 yX2_beginEquation, Cond.instanceMethod yX2_beginEquation, Cond.selects RX2 yX2_beginEquation yX2_beginEquation, Cond.code yX2_beginEquation cX2_beginEquation 1 none, Cond.fieldLink RX2 30 "Latticework$Meeting" "numberedAnew" "[I", Cond.fieldLink RX2 109 "Latticework$Meeting" "seen" "I", Cond.fieldLink RX2 112 "Latticework$Meeting" "written" "J", Cond.fieldLink RX2 116 "Latticework$Meeting" "length" "I", Cond.methodLink RX2 103 yJ7_fill_53178, Cond.static yJ7_fill_53178, Cond.initialized RJ7, Cond.code yJ7_fill_53178 cJ7_fill_53178 4 none, Cond.methodLink RX0 139 yX0_writeReplaced, Cond.instanceMethod yX0_writeReplaced]
def wsX0_findOverlaps_r5 : List Cond := [Cond.selects RX0 yX0_writeReplaced yX0_writeReplaced, Cond.initialized RX0, Cond.code yX0_writeReplaced cX0_writeReplaced 10 (some .boolean), Cond.methodLink RX0 150 yX3_endOf, Cond.methodLink RX0 147 yX2_writeNode, Cond.instanceMethod yX2_writeNode, Cond.selects RX2 yX2_writeNode yX2_writeNode, Cond.code yX2_writeNode cX2_writeNode 6 (some .boolean), Cond.methodLink RX2 119 yX2_anewOf, Cond.instanceMethod yX2_anewOf, Cond.selects RX2 yX2_anewOf yX2_anewOf, Cond.code yX2_anewOf cX2_anewOf 2 (some .int), Cond.methodLink RX2 122 yX2_writeCode, Cond.instanceMethod yX2_writeCode, Cond.selects RX2 yX2_writeCode yX2_writeCode, Cond.code yX2_writeCode cX2_writeCode 2 (some .boolean), Cond.methodLink RX2 125 yX2_pileNode, Cond.instanceMethod yX2_pileNode, Cond.selects RX2 yX2_pileNode yX2_pileNode, Cond.code yX2_pileNode cX2_pileNode 3 (some .int), Cond.methodLink RX0 153 yX2_writeCode, Cond.methodLink RX0 143 yX2_takeSide, Cond.instanceMethod yX2_takeSide, Cond.selects RX2 yX2_takeSide yX2_takeSide]
def wsX0_findOverlaps_r6 : List Cond := [Cond.code yX2_takeSide cX2_takeSide 3 (some .long)]
def wsX0_findOverlaps : List Cond := .code yX0_findOverlaps cX0_findOverlaps 13 (some .int) :: ((wsX0_findOverlaps_r1 ++ (wsX0_findOverlaps_r2 ++ (wsX0_findOverlaps_r3 ++ (wsX0_findOverlaps_r4 ++ (wsX0_findOverlaps_r5 ++ wsX0_findOverlaps_r6))))) ++ wsX00 ++ wsX80 ++ wsX20)
def wsX0_addOverlaps_r1 : List Cond := [Cond.fieldLink RX0 88 "Latticework$State" "rules" "I", Cond.fieldLink RX0 18 "Latticework$Completing" "foundOne" "[J", Cond.fieldLink RX0 22 "Latticework$Completing" "foundOther" "[J", Cond.methodLink RX0 104 yX0_findOverlaps, Cond.instanceMethod yX0_findOverlaps, Cond.selects RX0 yX0_findOverlaps yX0_findOverlaps, Cond.initialized RX0, Cond.code yX0_findOverlaps cX0_findOverlaps 13 (some .int), Cond.fieldLink RX0 29 "Latticework$Completing" "meeting" "LLatticework$Meeting;", Cond.fieldLink RX0 85 "Latticework$State" "left" "[J", Cond.fieldLink RX0 94 "Latticework$State" "right" "[J", Cond.methodLink RX0 108 yX2_clear, Cond.instanceMethod yX2_clear, Cond.selects RX2 yX2_clear yX2_clear, Cond.initialized RX2, Cond.code yX2_clear cX2_clear 2 none, Cond.fieldLink RX2 51 "Latticework$Meeting" "nodes" "I", Cond.fieldLink RX2 11 "Latticework$Meeting" "code" "[I", Cond.fieldLink RX2 15 "Latticework$Meeting" "first" "[I", Cond.fieldLink RX2 18 "Latticework$Meeting" "second" "[I", Cond.methodLink RX2 55 yX3_codeOfVariable, Cond.static yX3_codeOfVariable, Cond.initialized RX3, Cond.code yX3_codeOfVariable cX3_codeOfVariable 1 (some .int)]
def wsX0_addOverlaps_r2 : List Cond := [Cond.methodLink RX0 113 yX2_addTerm, Cond.instanceMethod yX2_addTerm, Cond.selects RX2 yX2_addTerm yX2_addTerm, Cond.code yX2_addTerm cX2_addTerm 8 (some .int), Cond.fieldLink RX2 33 "Latticework$Meeting" "places" "[I", Cond.methodLink RX2 60 yX3_sizeOf, Cond.static yX3_sizeOf, Cond.code yX3_sizeOf cX3_sizeOf 3 (some .int), Cond.methodLink RX2 64 yX3_codeAt, Cond.static yX3_codeAt, Cond.code yX3_codeAt cX3_codeAt 3 (some .int), Cond.methodLink RX2 67 yX3_isVariable, Cond.static yX3_isVariable, Cond.code yX3_isVariable cX3_isVariable 1 (some .boolean), Cond.methodLink RX2 71 yX3_variableOf, Cond.static yX3_variableOf, Cond.code yX3_variableOf cX3_variableOf 1 (some .int), Cond.methodLink RX2 74 yX3_partsOf, Cond.static yX3_partsOf, Cond.code yX3_partsOf cX3_partsOf 1 (some .int), Cond.methodLink RX2 77 yX3_endOf, Cond.static yX3_endOf, Cond.code yX3_endOf cX3_endOf 5 (some .int), Cond.methodLink RX3 11 yX3_codeAt]
def wsX0_addOverlaps_r3 : List Cond := [Cond.methodLink RX3 15 yX3_partsOf, Cond.methodLink RX2 80 yX2_nodeAt, Cond.instanceMethod yX2_nodeAt, Cond.selects RX2 yX2_nodeAt yX2_nodeAt, Cond.code yX2_nodeAt cX2_nodeAt 2 (some .int), Cond.methodLink RX2 83 yX2_addNode, Cond.instanceMethod yX2_addNode, Cond.selects RX2 yX2_addNode yX2_addNode, Cond.code yX2_addNode cX2_addNode 4 (some .int), Cond.methodLink RX0 117 yX3_sizeOf, Cond.methodLink RX0 121 yX3_codeAt, Cond.methodLink RX0 124 yX3_isVariable, Cond.methodLink RX0 128 yX2_nodeAt, Cond.methodLink RX0 132 yX2_doMeet, Cond.instanceMethod yX2_doMeet, Cond.selects RX2 yX2_doMeet yX2_doMeet, Cond.code yX2_doMeet cX2_doMeet 4 (some .boolean), Cond.fieldLink RX2 21 "Latticework$Meeting" "leader" "[I", Cond.fieldLink RX2 24 "Latticework$Meeting" "size" "[I", Cond.methodLink RX2 87 yX2_unite, Cond.instanceMethod yX2_unite, Cond.selects RX2 yX2_unite yX2_unite, Cond.code yX2_unite cX2_unite 7 (some .boolean), Cond.fieldLink RX2 27 "Latticework$Meeting" "pile" "[I"]
def wsX0_addOverlaps_r4 : List Cond := [Cond.methodLink RX2 47 yX2_leaderOf, Cond.instanceMethod yX2_leaderOf, Cond.selects RX2 yX2_leaderOf yX2_leaderOf, Cond.code yX2_leaderOf cX2_leaderOf 4 (some .int), Cond.methodLink RX2 94 yX2_pilePair, Cond.instanceMethod yX2_pilePair, Cond.selects RX2 yX2_pilePair yX2_pilePair, Cond.code yX2_pilePair cX2_pilePair 4 (some .int), Cond.methodLink RX2 90 yX2_measure, Cond.instanceMethod yX2_measure, Cond.selects RX2 yX2_measure yX2_measure, Cond.code yX2_measure cX2_measure 7 (some .boolean), Cond.methodLink RX2 97 Lib.Math.max.name, Cond.static Lib.Math.max.name, Cond.initialized "java/lang/Math", Cond.code Lib.Math.max.name Lib.Math.max.code 2 (some .int), Cond.methodLink RX0 136 yX2_beginEquation, Cond.instanceMethod yX2_beginEquation, Cond.selects RX2 yX2_beginEquation yX2_beginEquation, Cond.code yX2_beginEquation cX2_beginEquation 1 none, Cond.fieldLink RX2 30 "Latticework$Meeting" "numberedAnew" "[I", Cond.fieldLink RX2 109 "Latticework$Meeting" "seen" "I", Cond.fieldLink RX2 112 "Latticework$Meeting" "written" "J", Cond.fieldLink RX2 116 "Latticework$Meeting" "length" "I"]
def wsX0_addOverlaps_r5 : List Cond := [Cond.methodLink RX2 103 yJ7_fill_53178, Cond.static yJ7_fill_53178, Cond.initialized RJ7, Cond.code yJ7_fill_53178 cJ7_fill_53178 4 none, Cond.methodLink RX0 139 yX0_writeReplaced, Cond.instanceMethod yX0_writeReplaced, Cond.selects RX0 yX0_writeReplaced yX0_writeReplaced, Cond.code yX0_writeReplaced cX0_writeReplaced 10 (some .boolean), Cond.methodLink RX0 150 yX3_endOf, Cond.methodLink RX0 147 yX2_writeNode, Cond.instanceMethod yX2_writeNode, Cond.selects RX2 yX2_writeNode yX2_writeNode, Cond.code yX2_writeNode cX2_writeNode 6 (some .boolean), Cond.methodLink RX2 119 yX2_anewOf, Cond.instanceMethod yX2_anewOf, Cond.selects RX2 yX2_anewOf yX2_anewOf, Cond.code yX2_anewOf cX2_anewOf 2 (some .int), Cond.methodLink RX2 122 yX2_writeCode, Cond.instanceMethod yX2_writeCode, Cond.selects RX2 yX2_writeCode yX2_writeCode, Cond.code yX2_writeCode cX2_writeCode 2 (some .boolean), Cond.methodLink RX2 125 yX2_pileNode, Cond.instanceMethod yX2_pileNode, Cond.selects RX2 yX2_pileNode yX2_pileNode]
def wsX0_addOverlaps_r6 : List Cond := [Cond.code yX2_pileNode cX2_pileNode 3 (some .int), Cond.methodLink RX0 153 yX2_writeCode, Cond.methodLink RX0 143 yX2_takeSide, Cond.instanceMethod yX2_takeSide, Cond.selects RX2 yX2_takeSide yX2_takeSide, Cond.code yX2_takeSide cX2_takeSide 3 (some .long), Cond.methodLink RX0 97 yX8_addEquation, Cond.instanceMethod yX8_addEquation, Cond.selects RX8 yX8_addEquation yX8_addEquation, Cond.initialized RX8, Cond.code yX8_addEquation cX8_addEquation 5 (some .boolean), Cond.fieldLink RX8 34 "Latticework$State" "waiting" "I", Cond.fieldLink RX8 18 "Latticework$State" "one" "[J", Cond.fieldLink RX8 21 "Latticework$State" "other" "[J"]
def wsX0_addOverlaps : List Cond := .code yX0_addOverlaps cX0_addOverlaps 8 (some .boolean) :: ((wsX0_addOverlaps_r1 ++ (wsX0_addOverlaps_r2 ++ (wsX0_addOverlaps_r3 ++ (wsX0_addOverlaps_r4 ++ (wsX0_addOverlaps_r5 ++ wsX0_addOverlaps_r6))))) ++ wsX80 ++ wsX00 ++ wsX20)
def wsX0_doStep_r1 : List Cond := [Cond.fieldLink RX0 25 "Latticework$Completing" "rewriting" "LLatticework$Rewriting;", Cond.fieldLink RX0 52 "Latticework$State" "one" "[J", Cond.fieldLink RX0 61 "Latticework$State" "other" "[J", Cond.fieldLink RX0 73 "Latticework$State" "aside" "I", Cond.methodLink RX0 55 yX6_rewritten, Cond.instanceMethod yX6_rewritten, Cond.selects RX6 yX6_rewritten yX6_rewritten, Cond.initialized RX6, Cond.code yX6_rewritten cX6_rewritten 9 (some .long), Cond.fieldLink RX6 70 "Latticework$Rewriting" "times" "I", Cond.methodLink RX6 73 yX6_rewrittenOnce, Cond.instanceMethod yX6_rewrittenOnce, Cond.selects RX6 yX6_rewrittenOnce yX6_rewrittenOnce, Cond.code yX6_rewrittenOnce cX6_rewrittenOnce 12 (some .long), Cond.fieldLink RX6 54 "Latticework$State" "rules" "I", Cond.fieldLink RX6 60 "Latticework$State" "left" "[J", Cond.fieldLink RX6 63 "Latticework$State" "right" "[J", Cond.methodLink RX6 21 yX3_sizeOf, Cond.static yX3_sizeOf, Cond.initialized RX3, Cond.code yX3_sizeOf cX3_sizeOf 3 (some .int), Cond.methodLink RX6 46 yX6_doesFit, Cond.instanceMethod yX6_doesFit, Cond.selects RX6 yX6_doesFit yX6_doesFit]
def wsX0_doStep_r2 : List Cond := [Cond.code yX6_doesFit cX6_doesFit 14 (some .boolean), Cond.fieldLink RX6 9 "Latticework$Rewriting" "put" "[J", Cond.methodLink RX6 15 yJ7_fill_d0a16, Cond.static yJ7_fill_d0a16, Cond.initialized RJ7, Cond.code yJ7_fill_d0a16 cJ7_fill_d0a16 5 none, Cond.methodLink RX6 27 yX3_codeAt, Cond.static yX3_codeAt, Cond.code yX3_codeAt cX3_codeAt 3 (some .int), Cond.methodLink RX6 31 yX3_isVariable, Cond.static yX3_isVariable, Cond.code yX3_isVariable cX3_isVariable 1 (some .boolean), Cond.methodLink RX6 35 yX3_variableOf, Cond.static yX3_variableOf, Cond.code yX3_variableOf cX3_variableOf 1 (some .int), Cond.methodLink RX6 39 yX3_endOf, Cond.static yX3_endOf, Cond.code yX3_endOf cX3_endOf 5 (some .int), Cond.methodLink RX3 11 yX3_codeAt, Cond.methodLink RX3 15 yX3_partsOf, Cond.static yX3_partsOf, Cond.code yX3_partsOf cX3_partsOf 1 (some .int), Cond.methodLink RX6 42 yX3_part, Cond.static yX3_part]
def wsX0_doStep_r3 : List Cond := [Cond.code yX3_part cX3_part 4 (some .long), Cond.methodLink RX6 66 yX6_filled, Cond.instanceMethod yX6_filled, Cond.selects RX6 yX6_filled yX6_filled, Cond.code yX6_filled cX6_filled 8 (some .long), Cond.methodLink RX6 50 yX3_joined, Cond.static yX3_joined, Cond.code yX3_joined cX3_joined 4 (some .long), Cond.methodLink RX3 19 yX3_sizeOf, Cond.methodLink RX0 64 yX8_removeFirstEquation, Cond.instanceMethod yX8_removeFirstEquation, Cond.selects RX8 yX8_removeFirstEquation yX8_removeFirstEquation, Cond.initialized RX8, Cond.code yX8_removeFirstEquation cX8_removeFirstEquation 2 none, Cond.fieldLink RX8 34 "Latticework$State" "waiting" "I", Cond.fieldLink RX8 18 "Latticework$State" "one" "[J", Cond.fieldLink RX8 21 "Latticework$State" "other" "[J", Cond.methodLink RX0 67 yX3_isGreater, Cond.static yX3_isGreater, Cond.code yX3_isGreater cX3_isGreater 16 (some .boolean), Cond.methodLink RX3 29 yX3_hasVariablesOf, Cond.static yX3_hasVariablesOf, Cond.code yX3_hasVariablesOf cX3_hasVariablesOf 6 (some .boolean), Cond.methodLink RX3 23 yX3_codeOfVariable]
def wsX0_doStep_r4 : List Cond := [Cond.static yX3_codeOfVariable, Cond.code yX3_codeOfVariable cX3_codeOfVariable 1 (some .int), Cond.methodLink RX3 26 yX3_timesIn, Cond.static yX3_timesIn, Cond.code yX3_timesIn cX3_timesIn 5 (some .int), Cond.methodLink RX3 33 yX3_isVariable, Cond.methodLink RX3 37 yX3_endOf, Cond.methodLink RX3 40 yX3_part, Cond.methodLink RX0 76 yX8_addRule, Cond.instanceMethod yX8_addRule, Cond.selects RX8 yX8_addRule yX8_addRule, Cond.code yX8_addRule cX8_addRule 5 (some .boolean), Cond.fieldLink RX8 30 "Latticework$State" "rules" "I", Cond.fieldLink RX8 9 "Latticework$State" "left" "[J", Cond.fieldLink RX8 15 "Latticework$State" "right" "[J", Cond.methodLink RX0 79 yX0_takeRulesAway, Cond.instanceMethod yX0_takeRulesAway, Cond.selects RX0 yX0_takeRulesAway yX0_takeRulesAway, Cond.initialized RX0, Cond.code yX0_takeRulesAway cX0_takeRulesAway 6 (some .boolean), Cond.fieldLink RX0 85 "Latticework$State" "left" "[J", Cond.fieldLink RX0 88 "Latticework$State" "rules" "I", Cond.fieldLink RX0 94 "Latticework$State" "right" "[J", Cond.methodLink RX0 91 yX6_doesFitSomewhere]
def wsX0_doStep_r5 : List Cond := [Cond.instanceMethod yX6_doesFitSomewhere, Cond.selects RX6 yX6_doesFitSomewhere yX6_doesFitSomewhere, Cond.code yX6_doesFitSomewhere cX6_doesFitSomewhere 7 (some .boolean), Cond.methodLink RX0 97 yX8_addEquation, Cond.instanceMethod yX8_addEquation, Cond.selects RX8 yX8_addEquation yX8_addEquation, Cond.code yX8_addEquation cX8_addEquation 5 (some .boolean), Cond.methodLink RX0 100 yX8_removeRule, Cond.instanceMethod yX8_removeRule, Cond.selects RX8 yX8_removeRule yX8_removeRule, Cond.code yX8_removeRule cX8_removeRule 3 none, Cond.methodLink RX0 82 yX0_addOverlaps, Cond.instanceMethod yX0_addOverlaps, Cond.selects RX0 yX0_addOverlaps yX0_addOverlaps, Cond.code yX0_addOverlaps cX0_addOverlaps 8 (some .boolean), Cond.fieldLink RX0 18 "Latticework$Completing" "foundOne" "[J", Cond.fieldLink RX0 22 "Latticework$Completing" "foundOther" "[J", Cond.methodLink RX0 104 yX0_findOverlaps, Cond.instanceMethod yX0_findOverlaps, Cond.selects RX0 yX0_findOverlaps yX0_findOverlaps, Cond.code yX0_findOverlaps cX0_findOverlaps 13 (some .int), Cond.fieldLink RX0 29 "Latticework$Completing" "meeting" "LLatticework$Meeting;", Cond.methodLink RX0 108 yX2_clear, Cond.instanceMethod yX2_clear]
def wsX0_doStep_r6 : List Cond := [Cond.selects RX2 yX2_clear yX2_clear, Cond.initialized RX2, Cond.code yX2_clear cX2_clear 2 none, Cond.fieldLink RX2 51 "Latticework$Meeting" "nodes" "I", Cond.fieldLink RX2 11 "Latticework$Meeting" "code" "[I", Cond.fieldLink RX2 15 "Latticework$Meeting" "first" "[I", Cond.fieldLink RX2 18 "Latticework$Meeting" "second" "[I", Cond.methodLink RX2 55 yX3_codeOfVariable, Cond.methodLink RX0 113 yX2_addTerm, Cond.instanceMethod yX2_addTerm, Cond.selects RX2 yX2_addTerm yX2_addTerm, Cond.code yX2_addTerm cX2_addTerm 8 (some .int), Cond.fieldLink RX2 33 "Latticework$Meeting" "places" "[I", Cond.methodLink RX2 60 yX3_sizeOf, Cond.methodLink RX2 64 yX3_codeAt, Cond.methodLink RX2 67 yX3_isVariable, Cond.methodLink RX2 71 yX3_variableOf, Cond.methodLink RX2 74 yX3_partsOf, Cond.methodLink RX2 77 yX3_endOf, Cond.methodLink RX2 80 yX2_nodeAt, Cond.instanceMethod yX2_nodeAt, Cond.selects RX2 yX2_nodeAt yX2_nodeAt, Cond.code yX2_nodeAt cX2_nodeAt 2 (some .int), Cond.methodLink RX2 83 yX2_addNode]
def wsX0_doStep_r7 : List Cond := [Cond.instanceMethod yX2_addNode, Cond.selects RX2 yX2_addNode yX2_addNode, Cond.code yX2_addNode cX2_addNode 4 (some .int), Cond.methodLink RX0 117 yX3_sizeOf, Cond.methodLink RX0 121 yX3_codeAt, Cond.methodLink RX0 124 yX3_isVariable, Cond.methodLink RX0 128 yX2_nodeAt, Cond.methodLink RX0 132 yX2_doMeet, Cond.instanceMethod yX2_doMeet, Cond.selects RX2 yX2_doMeet yX2_doMeet, Cond.code yX2_doMeet cX2_doMeet 4 (some .boolean), Cond.fieldLink RX2 21 "Latticework$Meeting" "leader" "[I", Cond.fieldLink RX2 24 "Latticework$Meeting" "size" "[I", Cond.methodLink RX2 87 yX2_unite, Cond.instanceMethod yX2_unite, Cond.selects RX2 yX2_unite yX2_unite, Cond.code yX2_unite cX2_unite 7 (some .boolean), Cond.fieldLink RX2 27 "Latticework$Meeting" "pile" "[I", Cond.methodLink RX2 47 yX2_leaderOf, Cond.instanceMethod yX2_leaderOf, Cond.selects RX2 yX2_leaderOf yX2_leaderOf, Cond.code yX2_leaderOf cX2_leaderOf 4 (some .int), Cond.methodLink RX2 94 yX2_pilePair, Cond.instanceMethod yX2_pilePair]
def wsX0_doStep_r8 : List Cond := [Cond.selects RX2 yX2_pilePair yX2_pilePair, Cond.code yX2_pilePair cX2_pilePair 4 (some .int), Cond.methodLink RX2 90 yX2_measure, Cond.instanceMethod yX2_measure, Cond.selects RX2 yX2_measure yX2_measure, Cond.code yX2_measure cX2_measure 7 (some .boolean), Cond.methodLink RX2 97 Lib.Math.max.name, Cond.static Lib.Math.max.name, Cond.initialized "java/lang/Math", Cond.code Lib.Math.max.name Lib.Math.max.code 2 (some .int), Cond.methodLink RX0 136 yX2_beginEquation, Cond.instanceMethod yX2_beginEquation, Cond.selects RX2 yX2_beginEquation yX2_beginEquation, Cond.code yX2_beginEquation cX2_beginEquation 1 none, Cond.fieldLink RX2 30 "Latticework$Meeting" "numberedAnew" "[I", Cond.fieldLink RX2 109 "Latticework$Meeting" "seen" "I", Cond.fieldLink RX2 112 "Latticework$Meeting" "written" "J", Cond.fieldLink RX2 116 "Latticework$Meeting" "length" "I", Cond.methodLink RX2 103 yJ7_fill_53178, Cond.static yJ7_fill_53178, Cond.code yJ7_fill_53178 cJ7_fill_53178 4 none, Cond.methodLink RX0 139 yX0_writeReplaced, Cond.instanceMethod yX0_writeReplaced, Cond.selects RX0 yX0_writeReplaced yX0_writeReplaced]
def wsX0_doStep_r9 : List Cond := [Cond.code yX0_writeReplaced cX0_writeReplaced 10 (some .boolean), Cond.methodLink RX0 150 yX3_endOf, Cond.methodLink RX0 147 yX2_writeNode, Cond.instanceMethod yX2_writeNode, Cond.selects RX2 yX2_writeNode yX2_writeNode, Cond.code yX2_writeNode cX2_writeNode 6 (some .boolean), Cond.methodLink RX2 119 yX2_anewOf, Cond.instanceMethod yX2_anewOf, Cond.selects RX2 yX2_anewOf yX2_anewOf, Cond.code yX2_anewOf cX2_anewOf 2 (some .int), Cond.methodLink RX2 122 yX2_writeCode, Cond.instanceMethod yX2_writeCode, Cond.selects RX2 yX2_writeCode yX2_writeCode, Cond.code yX2_writeCode cX2_writeCode 2 (some .boolean), Cond.methodLink RX2 125 yX2_pileNode, Cond.instanceMethod yX2_pileNode, Cond.selects RX2 yX2_pileNode yX2_pileNode, Cond.code yX2_pileNode cX2_pileNode 3 (some .int), Cond.methodLink RX0 153 yX2_writeCode, Cond.methodLink RX0 143 yX2_takeSide, Cond.instanceMethod yX2_takeSide, Cond.selects RX2 yX2_takeSide yX2_takeSide, Cond.code yX2_takeSide cX2_takeSide 3 (some .long)]
def wsX0_doStep : List Cond := .code yX0_doStep cX0_doStep 7 (some .boolean) :: ((wsX0_doStep_r1 ++ (wsX0_doStep_r2 ++ (wsX0_doStep_r3 ++ (wsX0_doStep_r4 ++ (wsX0_doStep_r5 ++ (wsX0_doStep_r6 ++ (wsX0_doStep_r7 ++ (wsX0_doStep_r8 ++ wsX0_doStep_r9)))))))) ++ wsX00 ++ wsX80 ++ wsX60 ++ wsX20)
def wsX0_doSteps_r1 : List Cond := [Cond.fieldLink RX0 33 "Latticework$State" "waiting" "I", Cond.fieldLink RX0 37 "Latticework$State" "isStopped" "Z", Cond.fieldLink RX0 12 "Latticework$Completing" "before" "LLatticework$State;", Cond.fieldLink RX0 49 "Latticework$State" "done" "I", Cond.methodLink RX0 41 yX8_copy, Cond.instanceMethod yX8_copy, Cond.selects RX8 yX8_copy yX8_copy, Cond.initialized RX8, Cond.code yX8_copy cX8_copy 2 none, Cond.fieldLink RX8 9 "Latticework$State" "left" "[J", Cond.methodLink RX8 24 arraycopyName, Cond.native arraycopyName, Cond.static arraycopyName, Cond.initialized "java/lang/System", Cond.fieldLink RX8 15 "Latticework$State" "right" "[J", Cond.fieldLink RX8 18 "Latticework$State" "one" "[J", Cond.fieldLink RX8 21 "Latticework$State" "other" "[J", Cond.fieldLink RX8 30 "Latticework$State" "rules" "I", Cond.fieldLink RX8 34 "Latticework$State" "waiting" "I", Cond.fieldLink RX8 37 "Latticework$State" "aside" "I", Cond.fieldLink RX8 40 "Latticework$State" "done" "I", Cond.fieldLink RX8 43 "Latticework$State" "isStopped" "Z", Cond.methodLink RX0 45 yX0_doStep, Cond.instanceMethod yX0_doStep]
def wsX0_doSteps_r2 : List Cond := [Cond.selects RX0 yX0_doStep yX0_doStep, Cond.initialized RX0, Cond.code yX0_doStep cX0_doStep 7 (some .boolean), Cond.fieldLink RX0 25 "Latticework$Completing" "rewriting" "LLatticework$Rewriting;", Cond.fieldLink RX0 52 "Latticework$State" "one" "[J", Cond.fieldLink RX0 61 "Latticework$State" "other" "[J", Cond.fieldLink RX0 73 "Latticework$State" "aside" "I", Cond.methodLink RX0 55 yX6_rewritten, Cond.instanceMethod yX6_rewritten, Cond.selects RX6 yX6_rewritten yX6_rewritten, Cond.initialized RX6, Cond.code yX6_rewritten cX6_rewritten 9 (some .long), Cond.fieldLink RX6 70 "Latticework$Rewriting" "times" "I", Cond.methodLink RX6 73 yX6_rewrittenOnce, Cond.instanceMethod yX6_rewrittenOnce, Cond.selects RX6 yX6_rewrittenOnce yX6_rewrittenOnce, Cond.code yX6_rewrittenOnce cX6_rewrittenOnce 12 (some .long), Cond.fieldLink RX6 54 "Latticework$State" "rules" "I", Cond.fieldLink RX6 60 "Latticework$State" "left" "[J", Cond.fieldLink RX6 63 "Latticework$State" "right" "[J", Cond.methodLink RX6 21 yX3_sizeOf, Cond.static yX3_sizeOf, Cond.initialized RX3, Cond.code yX3_sizeOf cX3_sizeOf 3 (some .int)]
def wsX0_doSteps_r3 : List Cond := [Cond.methodLink RX6 46 yX6_doesFit, Cond.instanceMethod yX6_doesFit, Cond.selects RX6 yX6_doesFit yX6_doesFit, Cond.code yX6_doesFit cX6_doesFit 14 (some .boolean), Cond.fieldLink RX6 9 "Latticework$Rewriting" "put" "[J", Cond.methodLink RX6 15 yJ7_fill_d0a16, Cond.static yJ7_fill_d0a16, Cond.initialized RJ7, Cond.code yJ7_fill_d0a16 cJ7_fill_d0a16 5 none, Cond.methodLink RX6 27 yX3_codeAt, Cond.static yX3_codeAt, Cond.code yX3_codeAt cX3_codeAt 3 (some .int), Cond.methodLink RX6 31 yX3_isVariable, Cond.static yX3_isVariable, Cond.code yX3_isVariable cX3_isVariable 1 (some .boolean), Cond.methodLink RX6 35 yX3_variableOf, Cond.static yX3_variableOf, Cond.code yX3_variableOf cX3_variableOf 1 (some .int), Cond.methodLink RX6 39 yX3_endOf, Cond.static yX3_endOf, Cond.code yX3_endOf cX3_endOf 5 (some .int), Cond.methodLink RX3 11 yX3_codeAt, Cond.methodLink RX3 15 yX3_partsOf, Cond.static yX3_partsOf]
def wsX0_doSteps_r4 : List Cond := [Cond.code yX3_partsOf cX3_partsOf 1 (some .int), Cond.methodLink RX6 42 yX3_part, Cond.static yX3_part, Cond.code yX3_part cX3_part 4 (some .long), Cond.methodLink RX6 66 yX6_filled, Cond.instanceMethod yX6_filled, Cond.selects RX6 yX6_filled yX6_filled, Cond.code yX6_filled cX6_filled 8 (some .long), Cond.methodLink RX6 50 yX3_joined, Cond.static yX3_joined, Cond.code yX3_joined cX3_joined 4 (some .long), Cond.methodLink RX3 19 yX3_sizeOf, Cond.methodLink RX0 64 yX8_removeFirstEquation, Cond.instanceMethod yX8_removeFirstEquation, Cond.selects RX8 yX8_removeFirstEquation yX8_removeFirstEquation, Cond.code yX8_removeFirstEquation cX8_removeFirstEquation 2 none, Cond.methodLink RX0 67 yX3_isGreater, Cond.static yX3_isGreater, Cond.code yX3_isGreater cX3_isGreater 16 (some .boolean), Cond.methodLink RX3 29 yX3_hasVariablesOf, Cond.static yX3_hasVariablesOf, Cond.code yX3_hasVariablesOf cX3_hasVariablesOf 6 (some .boolean), Cond.methodLink RX3 23 yX3_codeOfVariable, Cond.static yX3_codeOfVariable]
def wsX0_doSteps_r5 : List Cond := [Cond.code yX3_codeOfVariable cX3_codeOfVariable 1 (some .int), Cond.methodLink RX3 26 yX3_timesIn, Cond.static yX3_timesIn, Cond.code yX3_timesIn cX3_timesIn 5 (some .int), Cond.methodLink RX3 33 yX3_isVariable, Cond.methodLink RX3 37 yX3_endOf, Cond.methodLink RX3 40 yX3_part, Cond.methodLink RX0 76 yX8_addRule, Cond.instanceMethod yX8_addRule, Cond.selects RX8 yX8_addRule yX8_addRule, Cond.code yX8_addRule cX8_addRule 5 (some .boolean), Cond.methodLink RX0 79 yX0_takeRulesAway, Cond.instanceMethod yX0_takeRulesAway, Cond.selects RX0 yX0_takeRulesAway yX0_takeRulesAway, Cond.code yX0_takeRulesAway cX0_takeRulesAway 6 (some .boolean), Cond.fieldLink RX0 85 "Latticework$State" "left" "[J", Cond.fieldLink RX0 88 "Latticework$State" "rules" "I", Cond.fieldLink RX0 94 "Latticework$State" "right" "[J", Cond.methodLink RX0 91 yX6_doesFitSomewhere, Cond.instanceMethod yX6_doesFitSomewhere, Cond.selects RX6 yX6_doesFitSomewhere yX6_doesFitSomewhere, Cond.code yX6_doesFitSomewhere cX6_doesFitSomewhere 7 (some .boolean), Cond.methodLink RX0 97 yX8_addEquation, Cond.instanceMethod yX8_addEquation]
def wsX0_doSteps_r6 : List Cond := [Cond.selects RX8 yX8_addEquation yX8_addEquation, Cond.code yX8_addEquation cX8_addEquation 5 (some .boolean), Cond.methodLink RX0 100 yX8_removeRule, Cond.instanceMethod yX8_removeRule, Cond.selects RX8 yX8_removeRule yX8_removeRule, Cond.code yX8_removeRule cX8_removeRule 3 none, Cond.methodLink RX0 82 yX0_addOverlaps, Cond.instanceMethod yX0_addOverlaps, Cond.selects RX0 yX0_addOverlaps yX0_addOverlaps, Cond.code yX0_addOverlaps cX0_addOverlaps 8 (some .boolean), Cond.fieldLink RX0 18 "Latticework$Completing" "foundOne" "[J", Cond.fieldLink RX0 22 "Latticework$Completing" "foundOther" "[J", Cond.methodLink RX0 104 yX0_findOverlaps, Cond.instanceMethod yX0_findOverlaps, Cond.selects RX0 yX0_findOverlaps yX0_findOverlaps, Cond.code yX0_findOverlaps cX0_findOverlaps 13 (some .int), Cond.fieldLink RX0 29 "Latticework$Completing" "meeting" "LLatticework$Meeting;", Cond.methodLink RX0 108 yX2_clear, Cond.instanceMethod yX2_clear, Cond.selects RX2 yX2_clear yX2_clear, Cond.initialized RX2, Cond.code yX2_clear cX2_clear 2 none, Cond.fieldLink RX2 51 "Latticework$Meeting" "nodes" "I", Cond.fieldLink RX2 11 "Latticework$Meeting" "code" "[I"]
def wsX0_doSteps_r7 : List Cond := [Cond.fieldLink RX2 15 "Latticework$Meeting" "first" "[I", Cond.fieldLink RX2 18 "Latticework$Meeting" "second" "[I", Cond.methodLink RX2 55 yX3_codeOfVariable, Cond.methodLink RX0 113 yX2_addTerm, Cond.instanceMethod yX2_addTerm, Cond.selects RX2 yX2_addTerm yX2_addTerm, Cond.code yX2_addTerm cX2_addTerm 8 (some .int), Cond.fieldLink RX2 33 "Latticework$Meeting" "places" "[I", Cond.methodLink RX2 60 yX3_sizeOf, Cond.methodLink RX2 64 yX3_codeAt, Cond.methodLink RX2 67 yX3_isVariable, Cond.methodLink RX2 71 yX3_variableOf, Cond.methodLink RX2 74 yX3_partsOf, Cond.methodLink RX2 77 yX3_endOf, Cond.methodLink RX2 80 yX2_nodeAt, Cond.instanceMethod yX2_nodeAt, Cond.selects RX2 yX2_nodeAt yX2_nodeAt, Cond.code yX2_nodeAt cX2_nodeAt 2 (some .int), Cond.methodLink RX2 83 yX2_addNode, Cond.instanceMethod yX2_addNode, Cond.selects RX2 yX2_addNode yX2_addNode, Cond.code yX2_addNode cX2_addNode 4 (some .int), Cond.methodLink RX0 117 yX3_sizeOf, Cond.methodLink RX0 121 yX3_codeAt]
def wsX0_doSteps_r8 : List Cond := [Cond.methodLink RX0 124 yX3_isVariable, Cond.methodLink RX0 128 yX2_nodeAt, Cond.methodLink RX0 132 yX2_doMeet, Cond.instanceMethod yX2_doMeet, Cond.selects RX2 yX2_doMeet yX2_doMeet, Cond.code yX2_doMeet cX2_doMeet 4 (some .boolean), Cond.fieldLink RX2 21 "Latticework$Meeting" "leader" "[I", Cond.fieldLink RX2 24 "Latticework$Meeting" "size" "[I", Cond.methodLink RX2 87 yX2_unite, Cond.instanceMethod yX2_unite, Cond.selects RX2 yX2_unite yX2_unite, Cond.code yX2_unite cX2_unite 7 (some .boolean), Cond.fieldLink RX2 27 "Latticework$Meeting" "pile" "[I", Cond.methodLink RX2 47 yX2_leaderOf, Cond.instanceMethod yX2_leaderOf, Cond.selects RX2 yX2_leaderOf yX2_leaderOf, Cond.code yX2_leaderOf cX2_leaderOf 4 (some .int), Cond.methodLink RX2 94 yX2_pilePair, Cond.instanceMethod yX2_pilePair, Cond.selects RX2 yX2_pilePair yX2_pilePair, Cond.code yX2_pilePair cX2_pilePair 4 (some .int), Cond.methodLink RX2 90 yX2_measure, Cond.instanceMethod yX2_measure, Cond.selects RX2 yX2_measure yX2_measure]
def wsX0_doSteps_r9 : List Cond := [Cond.code yX2_measure cX2_measure 7 (some .boolean), Cond.methodLink RX2 97 Lib.Math.max.name, Cond.static Lib.Math.max.name, Cond.initialized "java/lang/Math", Cond.code Lib.Math.max.name Lib.Math.max.code 2 (some .int), Cond.methodLink RX0 136 yX2_beginEquation, Cond.instanceMethod yX2_beginEquation, Cond.selects RX2 yX2_beginEquation yX2_beginEquation, Cond.code yX2_beginEquation cX2_beginEquation 1 none, Cond.fieldLink RX2 30 "Latticework$Meeting" "numberedAnew" "[I", Cond.fieldLink RX2 109 "Latticework$Meeting" "seen" "I", Cond.fieldLink RX2 112 "Latticework$Meeting" "written" "J", Cond.fieldLink RX2 116 "Latticework$Meeting" "length" "I", Cond.methodLink RX2 103 yJ7_fill_53178, Cond.static yJ7_fill_53178, Cond.code yJ7_fill_53178 cJ7_fill_53178 4 none, Cond.methodLink RX0 139 yX0_writeReplaced, Cond.instanceMethod yX0_writeReplaced, Cond.selects RX0 yX0_writeReplaced yX0_writeReplaced, Cond.code yX0_writeReplaced cX0_writeReplaced 10 (some .boolean), Cond.methodLink RX0 150 yX3_endOf, Cond.methodLink RX0 147 yX2_writeNode, Cond.instanceMethod yX2_writeNode, Cond.selects RX2 yX2_writeNode yX2_writeNode]
def wsX0_doSteps_r10 : List Cond := [Cond.code yX2_writeNode cX2_writeNode 6 (some .boolean), Cond.methodLink RX2 119 yX2_anewOf, Cond.instanceMethod yX2_anewOf, Cond.selects RX2 yX2_anewOf yX2_anewOf, Cond.code yX2_anewOf cX2_anewOf 2 (some .int), Cond.methodLink RX2 122 yX2_writeCode, Cond.instanceMethod yX2_writeCode, Cond.selects RX2 yX2_writeCode yX2_writeCode, Cond.code yX2_writeCode cX2_writeCode 2 (some .boolean), Cond.methodLink RX2 125 yX2_pileNode, Cond.instanceMethod yX2_pileNode, Cond.selects RX2 yX2_pileNode yX2_pileNode, Cond.code yX2_pileNode cX2_pileNode 3 (some .int), Cond.methodLink RX0 153 yX2_writeCode, Cond.methodLink RX0 143 yX2_takeSide, Cond.instanceMethod yX2_takeSide, Cond.selects RX2 yX2_takeSide yX2_takeSide, Cond.code yX2_takeSide cX2_takeSide 3 (some .long)]
def wsX0_doSteps : List Cond := .code yX0_doSteps cX0_doSteps 4 none :: ((wsX0_doSteps_r1 ++ (wsX0_doSteps_r2 ++ (wsX0_doSteps_r3 ++ (wsX0_doSteps_r4 ++ (wsX0_doSteps_r5 ++ (wsX0_doSteps_r6 ++ (wsX0_doSteps_r7 ++ (wsX0_doSteps_r8 ++ (wsX0_doSteps_r9 ++ wsX0_doSteps_r10))))))))) ++ wsX80 ++ wsX00 ++ wsX60 ++ wsX20)
def wsX1_init : List Cond := .code yX1_init cX1_init 1 none :: ([.methodLink RX1 3 objectInit, .instanceMethod objectInit, .code objectInit ⟨#[0xb1]⟩ 1 none, .arrayClass .int, .fieldLink RX1 9 "Latticework$FormulaTable" "kind" "[I", .fieldLink RX1 15 "Latticework$FormulaTable" "first" "[I", .fieldLink RX1 18 "Latticework$FormulaTable" "second" "[I", .fieldLink RX1 21 "Latticework$FormulaTable" "weight" "[I"] ++ wsX10)
def wsX1_has : List Cond := .code yX1_has cX1_has 2 (some .boolean) :: ([.fieldLink RX1 28 "Latticework$FormulaTable" "count" "I"] ++ wsX10)
def wsX1_weightOf : List Cond := .code yX1_weightOf cX1_weightOf 5 (some .int) :: ([.fieldLink RX1 21 "Latticework$FormulaTable" "weight" "[I", .methodLink RX1 24 yX1_has, .instanceMethod yX1_has, .selects RX1 yX1_has yX1_has, .initialized RX1, .code yX1_has cX1_has 2 (some .boolean), .fieldLink RX1 28 "Latticework$FormulaTable" "count" "I"] ++ wsX10)
def wsX1_findOrAdd : List Cond := .code yX1_findOrAdd cX1_findOrAdd 5 (some .int) :: ([.fieldLink RX1 28 "Latticework$FormulaTable" "count" "I", .fieldLink RX1 9 "Latticework$FormulaTable" "kind" "[I", .fieldLink RX1 15 "Latticework$FormulaTable" "first" "[I", .fieldLink RX1 18 "Latticework$FormulaTable" "second" "[I", .fieldLink RX1 21 "Latticework$FormulaTable" "weight" "[I", .methodLink RX1 32 yX1_weightOf, .instanceMethod yX1_weightOf, .selects RX1 yX1_weightOf yX1_weightOf, .initialized RX1, .code yX1_weightOf cX1_weightOf 5 (some .int), .methodLink RX1 24 yX1_has, .instanceMethod yX1_has, .selects RX1 yX1_has yX1_has, .code yX1_has cX1_has 2 (some .boolean)] ++ wsX10)
def wsX1_isTakenApart : List Cond := .code yX1_isTakenApart cX1_isTakenApart 2 (some .boolean) :: ([.fieldLink RX1 9 "Latticework$FormulaTable" "kind" "[I"] ++ wsX10)
def wsX2_init : List Cond := .code yX2_init cX2_init 1 none :: ([.methodLink RX2 5 objectInit, .instanceMethod objectInit, .code objectInit ⟨#[0xb1]⟩ 1 none, .arrayClass .int, .fieldLink RX2 11 "Latticework$Meeting" "code" "[I", .fieldLink RX2 15 "Latticework$Meeting" "first" "[I", .fieldLink RX2 18 "Latticework$Meeting" "second" "[I", .fieldLink RX2 21 "Latticework$Meeting" "leader" "[I", .fieldLink RX2 24 "Latticework$Meeting" "size" "[I", .fieldLink RX2 27 "Latticework$Meeting" "pile" "[I", .fieldLink RX2 30 "Latticework$Meeting" "numberedAnew" "[I", .fieldLink RX2 33 "Latticework$Meeting" "places" "[I"] ++ wsX20)
def wsX2_sizeOfBoth_r1 : List Cond := [Cond.fieldLink RX2 24 "Latticework$Meeting" "size" "[I", Cond.methodLink RX2 36 yX2_clear, Cond.instanceMethod yX2_clear, Cond.selects RX2 yX2_clear yX2_clear, Cond.initialized RX2, Cond.code yX2_clear cX2_clear 2 none, Cond.fieldLink RX2 51 "Latticework$Meeting" "nodes" "I", Cond.fieldLink RX2 11 "Latticework$Meeting" "code" "[I", Cond.fieldLink RX2 15 "Latticework$Meeting" "first" "[I", Cond.fieldLink RX2 18 "Latticework$Meeting" "second" "[I", Cond.methodLink RX2 55 yX3_codeOfVariable, Cond.static yX3_codeOfVariable, Cond.initialized RX3, Cond.code yX3_codeOfVariable cX3_codeOfVariable 1 (some .int), Cond.methodLink RX2 39 yX2_addTerm, Cond.instanceMethod yX2_addTerm, Cond.selects RX2 yX2_addTerm yX2_addTerm, Cond.code yX2_addTerm cX2_addTerm 8 (some .int), Cond.fieldLink RX2 33 "Latticework$Meeting" "places" "[I", Cond.methodLink RX2 60 yX3_sizeOf, Cond.static yX3_sizeOf, Cond.code yX3_sizeOf cX3_sizeOf 3 (some .int), Cond.methodLink RX2 64 yX3_codeAt, Cond.static yX3_codeAt]
def wsX2_sizeOfBoth_r2 : List Cond := [Cond.code yX3_codeAt cX3_codeAt 3 (some .int), Cond.methodLink RX2 67 yX3_isVariable, Cond.static yX3_isVariable, Cond.code yX3_isVariable cX3_isVariable 1 (some .boolean), Cond.methodLink RX2 71 yX3_variableOf, Cond.static yX3_variableOf, Cond.code yX3_variableOf cX3_variableOf 1 (some .int), Cond.methodLink RX2 74 yX3_partsOf, Cond.static yX3_partsOf, Cond.code yX3_partsOf cX3_partsOf 1 (some .int), Cond.methodLink RX2 77 yX3_endOf, Cond.static yX3_endOf, Cond.code yX3_endOf cX3_endOf 5 (some .int), Cond.methodLink RX3 11 yX3_codeAt, Cond.methodLink RX3 15 yX3_partsOf, Cond.methodLink RX2 80 yX2_nodeAt, Cond.instanceMethod yX2_nodeAt, Cond.selects RX2 yX2_nodeAt yX2_nodeAt, Cond.code yX2_nodeAt cX2_nodeAt 2 (some .int), Cond.methodLink RX2 83 yX2_addNode, Cond.instanceMethod yX2_addNode, Cond.selects RX2 yX2_addNode yX2_addNode, Cond.code yX2_addNode cX2_addNode 4 (some .int), Cond.methodLink RX2 43 yX2_doMeet]
def wsX2_sizeOfBoth_r3 : List Cond := [Cond.instanceMethod yX2_doMeet, Cond.selects RX2 yX2_doMeet yX2_doMeet, Cond.code yX2_doMeet cX2_doMeet 4 (some .boolean), Cond.fieldLink RX2 21 "Latticework$Meeting" "leader" "[I", Cond.methodLink RX2 87 yX2_unite, Cond.instanceMethod yX2_unite, Cond.selects RX2 yX2_unite yX2_unite, Cond.code yX2_unite cX2_unite 7 (some .boolean), Cond.fieldLink RX2 27 "Latticework$Meeting" "pile" "[I", Cond.methodLink RX2 47 yX2_leaderOf, Cond.instanceMethod yX2_leaderOf, Cond.selects RX2 yX2_leaderOf yX2_leaderOf, Cond.code yX2_leaderOf cX2_leaderOf 4 (some .int), Cond.methodLink RX2 94 yX2_pilePair, Cond.instanceMethod yX2_pilePair, Cond.selects RX2 yX2_pilePair yX2_pilePair, Cond.code yX2_pilePair cX2_pilePair 4 (some .int), Cond.methodLink RX2 90 yX2_measure, Cond.instanceMethod yX2_measure, Cond.selects RX2 yX2_measure yX2_measure, Cond.code yX2_measure cX2_measure 7 (some .boolean), Cond.methodLink RX2 97 Lib.Math.max.name, Cond.static Lib.Math.max.name, Cond.initialized "java/lang/Math"]
def wsX2_sizeOfBoth_r4 : List Cond := [Cond.code Lib.Math.max.name Lib.Math.max.code 2 (some .int)]
def wsX2_sizeOfBoth : List Cond := .code yX2_sizeOfBoth cX2_sizeOfBoth 6 (some .int) :: ((wsX2_sizeOfBoth_r1 ++ (wsX2_sizeOfBoth_r2 ++ (wsX2_sizeOfBoth_r3 ++ wsX2_sizeOfBoth_r4))) ++ wsX20)
def wsX3_codeOfSign : List Cond := .code yX3_codeOfSign cX3_codeOfSign 1 (some .int) :: ([])
def wsX3_toldOf : List Cond := .code yX3_toldOf cX3_toldOf 1 (some .int) :: ([])
def wsX3_variablesIn : List Cond := .code yX3_variablesIn cX3_variablesIn 4 (some .int) :: ([.methodLink RX3 23 yX3_codeOfVariable, .static yX3_codeOfVariable, .initialized RX3, .code yX3_codeOfVariable cX3_codeOfVariable 1 (some .int), .methodLink RX3 26 yX3_timesIn, .static yX3_timesIn, .code yX3_timesIn cX3_timesIn 5 (some .int), .methodLink RX3 11 yX3_codeAt, .static yX3_codeAt, .code yX3_codeAt cX3_codeAt 3 (some .int)])
def wsX4_init : List Cond := .code yX4_init cX4_init 3 none :: ([.methodLink RX4 3 objectInit, .instanceMethod objectInit, .code objectInit ⟨#[0xb1]⟩ 1 none, .arrayClass .int, .fieldLink RX4 9 "Latticework$ProofLines" "formula" "[I", .fieldLink RX4 15 "Latticework$ProofLines" "reason" "[I", .fieldLink RX4 18 "Latticework$ProofLines" "x" "[I", .fieldLink RX4 21 "Latticework$ProofLines" "y" "[I", .fieldLink RX4 24 "Latticework$ProofLines" "givenLines" "[I", .arrayClass .boolean, .fieldLink RX4 27 "Latticework$ProofLines" "right" "[Z", .fieldLink RX4 31 "Latticework$ProofLines" "formulas" "LLatticework$FormulaTable;", .fieldLink RX4 35 "Latticework$ProofLines" "prover" "LLatticework$Prover;"] ++ wsX40)
def wsX4_linesNamedBy : List Cond := .code yX4_linesNamedBy cX4_linesNamedBy 1 (some .int) :: ([])
def wsX4_givenBelow : List Cond := .code yX4_givenBelow cX4_givenBelow 3 (some .int) :: ([.fieldLink RX4 24 "Latticework$ProofLines" "givenLines" "[I", .fieldLink RX4 18 "Latticework$ProofLines" "x" "[I", .fieldLink RX4 39 "Latticework$ProofLines" "count" "I", .fieldLink RX4 21 "Latticework$ProofLines" "y" "[I"] ++ wsX40)
def wsX4_add : List Cond := .code yX4_add cX4_add 6 (some .int) :: ([.fieldLink RX4 39 "Latticework$ProofLines" "count" "I", .fieldLink RX4 9 "Latticework$ProofLines" "formula" "[I", .fieldLink RX4 15 "Latticework$ProofLines" "reason" "[I", .fieldLink RX4 18 "Latticework$ProofLines" "x" "[I", .fieldLink RX4 21 "Latticework$ProofLines" "y" "[I", .fieldLink RX4 24 "Latticework$ProofLines" "givenLines" "[I", .methodLink RX4 43 yX4_linesNamedBy, .static yX4_linesNamedBy, .initialized RX4, .code yX4_linesNamedBy cX4_linesNamedBy 1 (some .int), .methodLink RX4 47 yX4_givenBelow, .instanceMethod yX4_givenBelow, .selects RX4 yX4_givenBelow yX4_givenBelow, .code yX4_givenBelow cX4_givenBelow 3 (some .int)] ++ wsX40)
def wsJ6_bitCount_0f7a4 : List Cond := .code yJ6_bitCount_0f7a4 cJ6_bitCount_0f7a4 1 (some .int) :: ([.constant RJ6 265 (1431655765), .constant RJ6 266 (858993459), .constant RJ6 267 (252645135)])
def wsX4_givenUnder : List Cond := .code yX4_givenUnder cX4_givenUnder 2 (some .int) :: ([.fieldLink RX4 24 "Latticework$ProofLines" "givenLines" "[I", .methodLink RX4 50 yJ6_bitCount_0f7a4, .static yJ6_bitCount_0f7a4, .initialized RJ6, .code yJ6_bitCount_0f7a4 cJ6_bitCount_0f7a4 1 (some .int), .constant RJ6 265 (1431655765), .constant RJ6 266 (858993459), .constant RJ6 267 (252645135)] ++ wsX40)
def wsX4_isMadeOf : List Cond := .code yX4_isMadeOf cX4_isMadeOf 5 (some .boolean) :: ([.fieldLink RX4 31 "Latticework$ProofLines" "formulas" "LLatticework$FormulaTable;", .fieldLink RX4 63 "Latticework$FormulaTable" "kind" "[I", .fieldLink RX4 68 "Latticework$FormulaTable" "first" "[I", .fieldLink RX4 71 "Latticework$FormulaTable" "second" "[I"] ++ wsX40 ++ wsX10)
def wsX5_isTrue : List Cond := .code yX5_isTrue cX5_isTrue 2 (some .boolean) :: ([.fieldLink RX5 24 "Latticework$Prover" "formulas" "LLatticework$FormulaTable;", .fieldLink RX5 75 "Latticework$FormulaTable" "kind" "[I", .fieldLink RX5 20 "Latticework$Prover" "terms" "LLatticework$TermTable;", .fieldLink RX5 78 "Latticework$TermTable" "normal" "[J", .fieldLink RX5 84 "Latticework$FormulaTable" "first" "[I", .fieldLink RX5 87 "Latticework$FormulaTable" "second" "[I"] ++ wsX50 ++ wsX10 ++ wsX90)
def wsX7_add : List Cond := .code yX7_add cX7_add 2 none :: ([.fieldLink RX7 15 "Latticework$Row" "count" "I", .fieldLink RX7 11 "Latticework$Row" "formula" "[I"] ++ wsX70)
def wsX5_isSameAtom : List Cond := .code yX5_isSameAtom cX5_isSameAtom 11 (some .boolean) :: ([.fieldLink RX5 24 "Latticework$Prover" "formulas" "LLatticework$FormulaTable;", .fieldLink RX5 75 "Latticework$FormulaTable" "kind" "[I", .fieldLink RX5 20 "Latticework$Prover" "terms" "LLatticework$TermTable;", .fieldLink RX5 78 "Latticework$TermTable" "normal" "[J", .fieldLink RX5 84 "Latticework$FormulaTable" "first" "[I", .fieldLink RX5 87 "Latticework$FormulaTable" "second" "[I"] ++ wsX50 ++ wsX10 ++ wsX90)
def wsX5_isAmong : List Cond := .code yX5_isAmong cX5_isAmong 4 (some .boolean) :: ([.fieldLink RX5 39 "Latticework$Row" "count" "I", .fieldLink RX5 59 "Latticework$Row" "formula" "[I", .methodLink RX5 90 yX5_isSameAtom, .instanceMethod yX5_isSameAtom, .selects RX5 yX5_isSameAtom yX5_isSameAtom, .initialized RX5, .code yX5_isSameAtom cX5_isSameAtom 11 (some .boolean), .fieldLink RX5 24 "Latticework$Prover" "formulas" "LLatticework$FormulaTable;", .fieldLink RX5 75 "Latticework$FormulaTable" "kind" "[I", .fieldLink RX5 20 "Latticework$Prover" "terms" "LLatticework$TermTable;", .fieldLink RX5 78 "Latticework$TermTable" "normal" "[J", .fieldLink RX5 84 "Latticework$FormulaTable" "first" "[I", .fieldLink RX5 87 "Latticework$FormulaTable" "second" "[I"] ++ wsX70 ++ wsX50 ++ wsX10 ++ wsX90)
def wsX5_isClosed_r1 : List Cond := [Cond.fieldLink RX5 17 "Latticework$Prover" "right" "[LLatticework$Row;", Cond.fieldLink RX5 39 "Latticework$Row" "count" "I", Cond.fieldLink RX5 59 "Latticework$Row" "formula" "[I", Cond.fieldLink RX5 24 "Latticework$Prover" "formulas" "LLatticework$FormulaTable;", Cond.fieldLink RX5 13 "Latticework$Prover" "left" "[LLatticework$Row;", Cond.methodLink RX5 63 yX1_isTakenApart, Cond.instanceMethod yX1_isTakenApart, Cond.selects RX1 yX1_isTakenApart yX1_isTakenApart, Cond.initialized RX1, Cond.code yX1_isTakenApart cX1_isTakenApart 2 (some .boolean), Cond.fieldLink RX1 9 "Latticework$FormulaTable" "kind" "[I", Cond.methodLink RX5 68 yX5_isTrue, Cond.instanceMethod yX5_isTrue, Cond.selects RX5 yX5_isTrue yX5_isTrue, Cond.initialized RX5, Cond.code yX5_isTrue cX5_isTrue 2 (some .boolean), Cond.fieldLink RX5 75 "Latticework$FormulaTable" "kind" "[I", Cond.fieldLink RX5 20 "Latticework$Prover" "terms" "LLatticework$TermTable;", Cond.fieldLink RX5 78 "Latticework$TermTable" "normal" "[J", Cond.fieldLink RX5 84 "Latticework$FormulaTable" "first" "[I", Cond.fieldLink RX5 87 "Latticework$FormulaTable" "second" "[I", Cond.methodLink RX5 71 yX5_isAmong, Cond.instanceMethod yX5_isAmong, Cond.selects RX5 yX5_isAmong yX5_isAmong]
def wsX5_isClosed_r2 : List Cond := [Cond.code yX5_isAmong cX5_isAmong 4 (some .boolean), Cond.methodLink RX5 90 yX5_isSameAtom, Cond.instanceMethod yX5_isSameAtom, Cond.selects RX5 yX5_isSameAtom yX5_isSameAtom, Cond.code yX5_isSameAtom cX5_isSameAtom 11 (some .boolean)]
def wsX5_isClosed : List Cond := .code yX5_isClosed cX5_isClosed 5 (some .boolean) :: ((wsX5_isClosed_r1 ++ wsX5_isClosed_r2) ++ wsX50 ++ wsX70 ++ wsX10 ++ wsX90)
def wsX5_placeToTakeApart : List Cond := .code yX5_placeToTakeApart cX5_placeToTakeApart 3 (some .int) :: ([.fieldLink RX5 39 "Latticework$Row" "count" "I", .fieldLink RX5 24 "Latticework$Prover" "formulas" "LLatticework$FormulaTable;", .fieldLink RX5 59 "Latticework$Row" "formula" "[I", .methodLink RX5 63 yX1_isTakenApart, .instanceMethod yX1_isTakenApart, .selects RX1 yX1_isTakenApart yX1_isTakenApart, .initialized RX1, .code yX1_isTakenApart cX1_isTakenApart 2 (some .boolean), .fieldLink RX1 9 "Latticework$FormulaTable" "kind" "[I"] ++ wsX70 ++ wsX50 ++ wsX10)
def wsX7_remove : List Cond := .code yX7_remove cX7_remove 3 none :: ([.fieldLink RX7 15 "Latticework$Row" "count" "I", .fieldLink RX7 11 "Latticework$Row" "formula" "[I"] ++ wsX70)
def wsX7_copy : List Cond := .code yX7_copy cX7_copy 3 none :: ([.fieldLink RX7 11 "Latticework$Row" "formula" "[I", .fieldLink RX7 15 "Latticework$Row" "count" "I"] ++ wsX70)
def wsX5_comeTwo : List Cond := .code yX5_comeTwo cX5_comeTwo 7 (some .int) :: ([.fieldLink RX5 13 "Latticework$Prover" "left" "[LLatticework$Row;", .fieldLink RX5 17 "Latticework$Prover" "right" "[LLatticework$Row;", .methodLink RX5 111 yX7_copy, .instanceMethod yX7_copy, .selects RX7 yX7_copy yX7_copy, .initialized RX7, .code yX7_copy cX7_copy 3 none, .fieldLink RX7 11 "Latticework$Row" "formula" "[I", .fieldLink RX7 15 "Latticework$Row" "count" "I", .methodLink RX5 42 yX7_add, .instanceMethod yX7_add, .selects RX7 yX7_add yX7_add, .code yX7_add cX7_add 2 none] ++ wsX50 ++ wsX70)
def wsX5_takeApartLeft_r1 : List Cond := [Cond.fieldLink RX5 13 "Latticework$Prover" "left" "[LLatticework$Row;", Cond.fieldLink RX5 59 "Latticework$Row" "formula" "[I", Cond.fieldLink RX5 24 "Latticework$Prover" "formulas" "LLatticework$FormulaTable;", Cond.fieldLink RX5 84 "Latticework$FormulaTable" "first" "[I", Cond.fieldLink RX5 87 "Latticework$FormulaTable" "second" "[I", Cond.fieldLink RX5 75 "Latticework$FormulaTable" "kind" "[I", Cond.fieldLink RX5 17 "Latticework$Prover" "right" "[LLatticework$Row;", Cond.methodLink RX5 104 yX7_remove, Cond.instanceMethod yX7_remove, Cond.selects RX7 yX7_remove yX7_remove, Cond.initialized RX7, Cond.code yX7_remove cX7_remove 3 none, Cond.fieldLink RX7 15 "Latticework$Row" "count" "I", Cond.fieldLink RX7 11 "Latticework$Row" "formula" "[I", Cond.methodLink RX5 42 yX7_add, Cond.instanceMethod yX7_add, Cond.selects RX7 yX7_add yX7_add, Cond.code yX7_add cX7_add 2 none, Cond.methodLink RX5 107 yX5_comeTwo, Cond.instanceMethod yX5_comeTwo, Cond.selects RX5 yX5_comeTwo yX5_comeTwo, Cond.initialized RX5, Cond.code yX5_comeTwo cX5_comeTwo 7 (some .int), Cond.methodLink RX5 111 yX7_copy]
def wsX5_takeApartLeft_r2 : List Cond := [Cond.instanceMethod yX7_copy, Cond.selects RX7 yX7_copy yX7_copy, Cond.code yX7_copy cX7_copy 3 none]
def wsX5_takeApartLeft : List Cond := .code yX5_takeApartLeft cX5_takeApartLeft 6 (some .int) :: ((wsX5_takeApartLeft_r1 ++ wsX5_takeApartLeft_r2) ++ wsX50 ++ wsX70 ++ wsX10)
def wsX5_takeApartRight_r1 : List Cond := [Cond.fieldLink RX5 17 "Latticework$Prover" "right" "[LLatticework$Row;", Cond.fieldLink RX5 59 "Latticework$Row" "formula" "[I", Cond.fieldLink RX5 24 "Latticework$Prover" "formulas" "LLatticework$FormulaTable;", Cond.fieldLink RX5 84 "Latticework$FormulaTable" "first" "[I", Cond.fieldLink RX5 87 "Latticework$FormulaTable" "second" "[I", Cond.fieldLink RX5 75 "Latticework$FormulaTable" "kind" "[I", Cond.fieldLink RX5 13 "Latticework$Prover" "left" "[LLatticework$Row;", Cond.methodLink RX5 104 yX7_remove, Cond.instanceMethod yX7_remove, Cond.selects RX7 yX7_remove yX7_remove, Cond.initialized RX7, Cond.code yX7_remove cX7_remove 3 none, Cond.fieldLink RX7 15 "Latticework$Row" "count" "I", Cond.fieldLink RX7 11 "Latticework$Row" "formula" "[I", Cond.methodLink RX5 42 yX7_add, Cond.instanceMethod yX7_add, Cond.selects RX7 yX7_add yX7_add, Cond.code yX7_add cX7_add 2 none, Cond.methodLink RX5 107 yX5_comeTwo, Cond.instanceMethod yX5_comeTwo, Cond.selects RX5 yX5_comeTwo yX5_comeTwo, Cond.initialized RX5, Cond.code yX5_comeTwo cX5_comeTwo 7 (some .int), Cond.methodLink RX5 111 yX7_copy]
def wsX5_takeApartRight_r2 : List Cond := [Cond.instanceMethod yX7_copy, Cond.selects RX7 yX7_copy yX7_copy, Cond.code yX7_copy cX7_copy 3 none]
def wsX5_takeApartRight : List Cond := .code yX5_takeApartRight cX5_takeApartRight 6 (some .int) :: ((wsX5_takeApartRight_r1 ++ wsX5_takeApartRight_r2) ++ wsX50 ++ wsX70 ++ wsX10)
def wsX5_takeApart_r1 : List Cond := [Cond.fieldLink RX5 13 "Latticework$Prover" "left" "[LLatticework$Row;", Cond.fieldLink RX5 17 "Latticework$Prover" "right" "[LLatticework$Row;", Cond.methodLink RX5 94 yX5_placeToTakeApart, Cond.instanceMethod yX5_placeToTakeApart, Cond.selects RX5 yX5_placeToTakeApart yX5_placeToTakeApart, Cond.initialized RX5, Cond.code yX5_placeToTakeApart cX5_placeToTakeApart 3 (some .int), Cond.fieldLink RX5 39 "Latticework$Row" "count" "I", Cond.fieldLink RX5 24 "Latticework$Prover" "formulas" "LLatticework$FormulaTable;", Cond.fieldLink RX5 59 "Latticework$Row" "formula" "[I", Cond.methodLink RX5 63 yX1_isTakenApart, Cond.instanceMethod yX1_isTakenApart, Cond.selects RX1 yX1_isTakenApart yX1_isTakenApart, Cond.initialized RX1, Cond.code yX1_isTakenApart cX1_isTakenApart 2 (some .boolean), Cond.fieldLink RX1 9 "Latticework$FormulaTable" "kind" "[I", Cond.methodLink RX5 97 yX5_takeApartLeft, Cond.instanceMethod yX5_takeApartLeft, Cond.selects RX5 yX5_takeApartLeft yX5_takeApartLeft, Cond.code yX5_takeApartLeft cX5_takeApartLeft 6 (some .int), Cond.fieldLink RX5 84 "Latticework$FormulaTable" "first" "[I", Cond.fieldLink RX5 87 "Latticework$FormulaTable" "second" "[I", Cond.fieldLink RX5 75 "Latticework$FormulaTable" "kind" "[I", Cond.methodLink RX5 104 yX7_remove]
def wsX5_takeApart_r2 : List Cond := [Cond.instanceMethod yX7_remove, Cond.selects RX7 yX7_remove yX7_remove, Cond.initialized RX7, Cond.code yX7_remove cX7_remove 3 none, Cond.fieldLink RX7 15 "Latticework$Row" "count" "I", Cond.fieldLink RX7 11 "Latticework$Row" "formula" "[I", Cond.methodLink RX5 42 yX7_add, Cond.instanceMethod yX7_add, Cond.selects RX7 yX7_add yX7_add, Cond.code yX7_add cX7_add 2 none, Cond.methodLink RX5 107 yX5_comeTwo, Cond.instanceMethod yX5_comeTwo, Cond.selects RX5 yX5_comeTwo yX5_comeTwo, Cond.code yX5_comeTwo cX5_comeTwo 7 (some .int), Cond.methodLink RX5 111 yX7_copy, Cond.instanceMethod yX7_copy, Cond.selects RX7 yX7_copy yX7_copy, Cond.code yX7_copy cX7_copy 3 none, Cond.methodLink RX5 101 yX5_takeApartRight, Cond.instanceMethod yX5_takeApartRight, Cond.selects RX5 yX5_takeApartRight yX5_takeApartRight, Cond.code yX5_takeApartRight cX5_takeApartRight 6 (some .int)]
def wsX5_takeApart : List Cond := .code yX5_takeApart cX5_takeApart 3 (some .int) :: ((wsX5_takeApart_r1 ++ wsX5_takeApart_r2) ++ wsX50 ++ wsX70 ++ wsX10)
def wsX5_atomsIn : List Cond := .code yX5_atomsIn cX5_atomsIn 5 (some .int) :: ([.fieldLink RX5 39 "Latticework$Row" "count" "I", .fieldLink RX5 59 "Latticework$Row" "formula" "[I", .fieldLink RX5 24 "Latticework$Prover" "formulas" "LLatticework$FormulaTable;", .fieldLink RX5 75 "Latticework$FormulaTable" "kind" "[I", .fieldLink RX5 84 "Latticework$FormulaTable" "first" "[I"] ++ wsX70 ++ wsX50 ++ wsX10)
def wsX5_prove_r1 : List Cond := [Cond.fieldLink RX5 29 "Latticework$Prover" "takenApart" "I", Cond.fieldLink RX5 33 "Latticework$Prover" "closed" "I", Cond.fieldLink RX5 36 "Latticework$Prover" "openAtoms" "I", Cond.fieldLink RX5 13 "Latticework$Prover" "left" "[LLatticework$Row;", Cond.fieldLink RX5 39 "Latticework$Row" "count" "I", Cond.fieldLink RX5 17 "Latticework$Prover" "right" "[LLatticework$Row;", Cond.constant RX5 46 (1000000), Cond.methodLink RX5 42 yX7_add, Cond.instanceMethod yX7_add, Cond.selects RX7 yX7_add yX7_add, Cond.initialized RX7, Cond.code yX7_add cX7_add 2 none, Cond.fieldLink RX7 15 "Latticework$Row" "count" "I", Cond.fieldLink RX7 11 "Latticework$Row" "formula" "[I", Cond.methodLink RX5 47 yX5_isClosed, Cond.instanceMethod yX5_isClosed, Cond.selects RX5 yX5_isClosed yX5_isClosed, Cond.initialized RX5, Cond.code yX5_isClosed cX5_isClosed 5 (some .boolean), Cond.fieldLink RX5 59 "Latticework$Row" "formula" "[I", Cond.fieldLink RX5 24 "Latticework$Prover" "formulas" "LLatticework$FormulaTable;", Cond.methodLink RX5 63 yX1_isTakenApart, Cond.instanceMethod yX1_isTakenApart, Cond.selects RX1 yX1_isTakenApart yX1_isTakenApart]
def wsX5_prove_r2 : List Cond := [Cond.initialized RX1, Cond.code yX1_isTakenApart cX1_isTakenApart 2 (some .boolean), Cond.fieldLink RX1 9 "Latticework$FormulaTable" "kind" "[I", Cond.methodLink RX5 68 yX5_isTrue, Cond.instanceMethod yX5_isTrue, Cond.selects RX5 yX5_isTrue yX5_isTrue, Cond.code yX5_isTrue cX5_isTrue 2 (some .boolean), Cond.fieldLink RX5 75 "Latticework$FormulaTable" "kind" "[I", Cond.fieldLink RX5 20 "Latticework$Prover" "terms" "LLatticework$TermTable;", Cond.fieldLink RX5 78 "Latticework$TermTable" "normal" "[J", Cond.fieldLink RX5 84 "Latticework$FormulaTable" "first" "[I", Cond.fieldLink RX5 87 "Latticework$FormulaTable" "second" "[I", Cond.methodLink RX5 71 yX5_isAmong, Cond.instanceMethod yX5_isAmong, Cond.selects RX5 yX5_isAmong yX5_isAmong, Cond.code yX5_isAmong cX5_isAmong 4 (some .boolean), Cond.methodLink RX5 90 yX5_isSameAtom, Cond.instanceMethod yX5_isSameAtom, Cond.selects RX5 yX5_isSameAtom yX5_isSameAtom, Cond.code yX5_isSameAtom cX5_isSameAtom 11 (some .boolean), Cond.methodLink RX5 51 yX5_takeApart, Cond.instanceMethod yX5_takeApart, Cond.selects RX5 yX5_takeApart yX5_takeApart, Cond.code yX5_takeApart cX5_takeApart 3 (some .int)]
def wsX5_prove_r3 : List Cond := [Cond.methodLink RX5 94 yX5_placeToTakeApart, Cond.instanceMethod yX5_placeToTakeApart, Cond.selects RX5 yX5_placeToTakeApart yX5_placeToTakeApart, Cond.code yX5_placeToTakeApart cX5_placeToTakeApart 3 (some .int), Cond.methodLink RX5 97 yX5_takeApartLeft, Cond.instanceMethod yX5_takeApartLeft, Cond.selects RX5 yX5_takeApartLeft yX5_takeApartLeft, Cond.code yX5_takeApartLeft cX5_takeApartLeft 6 (some .int), Cond.methodLink RX5 104 yX7_remove, Cond.instanceMethod yX7_remove, Cond.selects RX7 yX7_remove yX7_remove, Cond.code yX7_remove cX7_remove 3 none, Cond.methodLink RX5 107 yX5_comeTwo, Cond.instanceMethod yX5_comeTwo, Cond.selects RX5 yX5_comeTwo yX5_comeTwo, Cond.code yX5_comeTwo cX5_comeTwo 7 (some .int), Cond.methodLink RX5 111 yX7_copy, Cond.instanceMethod yX7_copy, Cond.selects RX7 yX7_copy yX7_copy, Cond.code yX7_copy cX7_copy 3 none, Cond.methodLink RX5 101 yX5_takeApartRight, Cond.instanceMethod yX5_takeApartRight, Cond.selects RX5 yX5_takeApartRight yX5_takeApartRight, Cond.code yX5_takeApartRight cX5_takeApartRight 6 (some .int)]
def wsX5_prove_r4 : List Cond := [Cond.methodLink RX5 55 yX5_atomsIn, Cond.instanceMethod yX5_atomsIn, Cond.selects RX5 yX5_atomsIn yX5_atomsIn, Cond.code yX5_atomsIn cX5_atomsIn 5 (some .int)]
def wsX5_prove : List Cond := .code yX5_prove cX5_prove 7 (some .boolean) :: ((wsX5_prove_r1 ++ (wsX5_prove_r2 ++ (wsX5_prove_r3 ++ wsX5_prove_r4))) ++ wsX50 ++ wsX70 ++ wsX10 ++ wsX90)
def wsX4_doesReasonHold_r1 : List Cond := [Cond.fieldLink RX4 9 "Latticework$ProofLines" "formula" "[I", Cond.fieldLink RX4 18 "Latticework$ProofLines" "x" "[I", Cond.fieldLink RX4 21 "Latticework$ProofLines" "y" "[I", Cond.fieldLink RX4 15 "Latticework$ProofLines" "reason" "[I", Cond.fieldLink RX4 31 "Latticework$ProofLines" "formulas" "LLatticework$FormulaTable;", Cond.fieldLink RX4 63 "Latticework$FormulaTable" "kind" "[I", Cond.fieldLink RX4 68 "Latticework$FormulaTable" "first" "[I", Cond.fieldLink RX4 71 "Latticework$FormulaTable" "second" "[I", Cond.fieldLink RX4 35 "Latticework$ProofLines" "prover" "LLatticework$Prover;", Cond.methodLink RX4 59 yX4_isMadeOf, Cond.instanceMethod yX4_isMadeOf, Cond.selects RX4 yX4_isMadeOf yX4_isMadeOf, Cond.initialized RX4, Cond.code yX4_isMadeOf cX4_isMadeOf 5 (some .boolean), Cond.methodLink RX4 74 yX5_isTrue, Cond.instanceMethod yX5_isTrue, Cond.selects RX5 yX5_isTrue yX5_isTrue, Cond.initialized RX5, Cond.code yX5_isTrue cX5_isTrue 2 (some .boolean), Cond.fieldLink RX5 24 "Latticework$Prover" "formulas" "LLatticework$FormulaTable;", Cond.fieldLink RX5 75 "Latticework$FormulaTable" "kind" "[I", Cond.fieldLink RX5 20 "Latticework$Prover" "terms" "LLatticework$TermTable;", Cond.fieldLink RX5 78 "Latticework$TermTable" "normal" "[J", Cond.fieldLink RX5 84 "Latticework$FormulaTable" "first" "[I"]
def wsX4_doesReasonHold_r2 : List Cond := [Cond.fieldLink RX5 87 "Latticework$FormulaTable" "second" "[I", Cond.methodLink RX4 79 yX5_prove, Cond.instanceMethod yX5_prove, Cond.selects RX5 yX5_prove yX5_prove, Cond.code yX5_prove cX5_prove 7 (some .boolean), Cond.fieldLink RX5 29 "Latticework$Prover" "takenApart" "I", Cond.fieldLink RX5 33 "Latticework$Prover" "closed" "I", Cond.fieldLink RX5 36 "Latticework$Prover" "openAtoms" "I", Cond.fieldLink RX5 13 "Latticework$Prover" "left" "[LLatticework$Row;", Cond.fieldLink RX5 39 "Latticework$Row" "count" "I", Cond.fieldLink RX5 17 "Latticework$Prover" "right" "[LLatticework$Row;", Cond.constant RX5 46 (1000000), Cond.methodLink RX5 42 yX7_add, Cond.instanceMethod yX7_add, Cond.selects RX7 yX7_add yX7_add, Cond.initialized RX7, Cond.code yX7_add cX7_add 2 none, Cond.fieldLink RX7 15 "Latticework$Row" "count" "I", Cond.fieldLink RX7 11 "Latticework$Row" "formula" "[I", Cond.methodLink RX5 47 yX5_isClosed, Cond.instanceMethod yX5_isClosed, Cond.selects RX5 yX5_isClosed yX5_isClosed, Cond.code yX5_isClosed cX5_isClosed 5 (some .boolean), Cond.fieldLink RX5 59 "Latticework$Row" "formula" "[I"]
def wsX4_doesReasonHold_r3 : List Cond := [Cond.methodLink RX5 63 yX1_isTakenApart, Cond.instanceMethod yX1_isTakenApart, Cond.selects RX1 yX1_isTakenApart yX1_isTakenApart, Cond.initialized RX1, Cond.code yX1_isTakenApart cX1_isTakenApart 2 (some .boolean), Cond.fieldLink RX1 9 "Latticework$FormulaTable" "kind" "[I", Cond.methodLink RX5 68 yX5_isTrue, Cond.methodLink RX5 71 yX5_isAmong, Cond.instanceMethod yX5_isAmong, Cond.selects RX5 yX5_isAmong yX5_isAmong, Cond.code yX5_isAmong cX5_isAmong 4 (some .boolean), Cond.methodLink RX5 90 yX5_isSameAtom, Cond.instanceMethod yX5_isSameAtom, Cond.selects RX5 yX5_isSameAtom yX5_isSameAtom, Cond.code yX5_isSameAtom cX5_isSameAtom 11 (some .boolean), Cond.methodLink RX5 51 yX5_takeApart, Cond.instanceMethod yX5_takeApart, Cond.selects RX5 yX5_takeApart yX5_takeApart, Cond.code yX5_takeApart cX5_takeApart 3 (some .int), Cond.methodLink RX5 94 yX5_placeToTakeApart, Cond.instanceMethod yX5_placeToTakeApart, Cond.selects RX5 yX5_placeToTakeApart yX5_placeToTakeApart, Cond.code yX5_placeToTakeApart cX5_placeToTakeApart 3 (some .int), Cond.methodLink RX5 97 yX5_takeApartLeft]
def wsX4_doesReasonHold_r4 : List Cond := [Cond.instanceMethod yX5_takeApartLeft, Cond.selects RX5 yX5_takeApartLeft yX5_takeApartLeft, Cond.code yX5_takeApartLeft cX5_takeApartLeft 6 (some .int), Cond.methodLink RX5 104 yX7_remove, Cond.instanceMethod yX7_remove, Cond.selects RX7 yX7_remove yX7_remove, Cond.code yX7_remove cX7_remove 3 none, Cond.methodLink RX5 107 yX5_comeTwo, Cond.instanceMethod yX5_comeTwo, Cond.selects RX5 yX5_comeTwo yX5_comeTwo, Cond.code yX5_comeTwo cX5_comeTwo 7 (some .int), Cond.methodLink RX5 111 yX7_copy, Cond.instanceMethod yX7_copy, Cond.selects RX7 yX7_copy yX7_copy, Cond.code yX7_copy cX7_copy 3 none, Cond.methodLink RX5 101 yX5_takeApartRight, Cond.instanceMethod yX5_takeApartRight, Cond.selects RX5 yX5_takeApartRight yX5_takeApartRight, Cond.code yX5_takeApartRight cX5_takeApartRight 6 (some .int), Cond.methodLink RX5 55 yX5_atomsIn, Cond.instanceMethod yX5_atomsIn, Cond.selects RX5 yX5_atomsIn yX5_atomsIn, Cond.code yX5_atomsIn cX5_atomsIn 5 (some .int)]
def wsX4_doesReasonHold : List Cond := .code yX4_doesReasonHold cX4_doesReasonHold 5 (some .boolean) :: ((wsX4_doesReasonHold_r1 ++ (wsX4_doesReasonHold_r2 ++ (wsX4_doesReasonHold_r3 ++ wsX4_doesReasonHold_r4))) ++ wsX40 ++ wsX10 ++ wsX50 ++ wsX90 ++ wsX70)
def wsX4_checkUpTo_r1 : List Cond := [Cond.fieldLink RX4 39 "Latticework$ProofLines" "count" "I", Cond.fieldLink RX4 15 "Latticework$ProofLines" "reason" "[I", Cond.fieldLink RX4 27 "Latticework$ProofLines" "right" "[Z", Cond.fieldLink RX4 18 "Latticework$ProofLines" "x" "[I", Cond.fieldLink RX4 21 "Latticework$ProofLines" "y" "[I", Cond.methodLink RX4 43 yX4_linesNamedBy, Cond.static yX4_linesNamedBy, Cond.initialized RX4, Cond.code yX4_linesNamedBy cX4_linesNamedBy 1 (some .int), Cond.methodLink RX4 55 yX4_doesReasonHold, Cond.instanceMethod yX4_doesReasonHold, Cond.selects RX4 yX4_doesReasonHold yX4_doesReasonHold, Cond.code yX4_doesReasonHold cX4_doesReasonHold 5 (some .boolean), Cond.fieldLink RX4 9 "Latticework$ProofLines" "formula" "[I", Cond.fieldLink RX4 31 "Latticework$ProofLines" "formulas" "LLatticework$FormulaTable;", Cond.fieldLink RX4 63 "Latticework$FormulaTable" "kind" "[I", Cond.fieldLink RX4 68 "Latticework$FormulaTable" "first" "[I", Cond.fieldLink RX4 71 "Latticework$FormulaTable" "second" "[I", Cond.fieldLink RX4 35 "Latticework$ProofLines" "prover" "LLatticework$Prover;", Cond.methodLink RX4 59 yX4_isMadeOf, Cond.instanceMethod yX4_isMadeOf, Cond.selects RX4 yX4_isMadeOf yX4_isMadeOf, Cond.code yX4_isMadeOf cX4_isMadeOf 5 (some .boolean), Cond.methodLink RX4 74 yX5_isTrue]
def wsX4_checkUpTo_r2 : List Cond := [Cond.instanceMethod yX5_isTrue, Cond.selects RX5 yX5_isTrue yX5_isTrue, Cond.initialized RX5, Cond.code yX5_isTrue cX5_isTrue 2 (some .boolean), Cond.fieldLink RX5 24 "Latticework$Prover" "formulas" "LLatticework$FormulaTable;", Cond.fieldLink RX5 75 "Latticework$FormulaTable" "kind" "[I", Cond.fieldLink RX5 20 "Latticework$Prover" "terms" "LLatticework$TermTable;", Cond.fieldLink RX5 78 "Latticework$TermTable" "normal" "[J", Cond.fieldLink RX5 84 "Latticework$FormulaTable" "first" "[I", Cond.fieldLink RX5 87 "Latticework$FormulaTable" "second" "[I", Cond.methodLink RX4 79 yX5_prove, Cond.instanceMethod yX5_prove, Cond.selects RX5 yX5_prove yX5_prove, Cond.code yX5_prove cX5_prove 7 (some .boolean), Cond.fieldLink RX5 29 "Latticework$Prover" "takenApart" "I", Cond.fieldLink RX5 33 "Latticework$Prover" "closed" "I", Cond.fieldLink RX5 36 "Latticework$Prover" "openAtoms" "I", Cond.fieldLink RX5 13 "Latticework$Prover" "left" "[LLatticework$Row;", Cond.fieldLink RX5 39 "Latticework$Row" "count" "I", Cond.fieldLink RX5 17 "Latticework$Prover" "right" "[LLatticework$Row;", Cond.constant RX5 46 (1000000), Cond.methodLink RX5 42 yX7_add, Cond.instanceMethod yX7_add, Cond.selects RX7 yX7_add yX7_add]
def wsX4_checkUpTo_r3 : List Cond := [Cond.initialized RX7, Cond.code yX7_add cX7_add 2 none, Cond.fieldLink RX7 15 "Latticework$Row" "count" "I", Cond.fieldLink RX7 11 "Latticework$Row" "formula" "[I", Cond.methodLink RX5 47 yX5_isClosed, Cond.instanceMethod yX5_isClosed, Cond.selects RX5 yX5_isClosed yX5_isClosed, Cond.code yX5_isClosed cX5_isClosed 5 (some .boolean), Cond.fieldLink RX5 59 "Latticework$Row" "formula" "[I", Cond.methodLink RX5 63 yX1_isTakenApart, Cond.instanceMethod yX1_isTakenApart, Cond.selects RX1 yX1_isTakenApart yX1_isTakenApart, Cond.initialized RX1, Cond.code yX1_isTakenApart cX1_isTakenApart 2 (some .boolean), Cond.fieldLink RX1 9 "Latticework$FormulaTable" "kind" "[I", Cond.methodLink RX5 68 yX5_isTrue, Cond.methodLink RX5 71 yX5_isAmong, Cond.instanceMethod yX5_isAmong, Cond.selects RX5 yX5_isAmong yX5_isAmong, Cond.code yX5_isAmong cX5_isAmong 4 (some .boolean), Cond.methodLink RX5 90 yX5_isSameAtom, Cond.instanceMethod yX5_isSameAtom, Cond.selects RX5 yX5_isSameAtom yX5_isSameAtom, Cond.code yX5_isSameAtom cX5_isSameAtom 11 (some .boolean)]
def wsX4_checkUpTo_r4 : List Cond := [Cond.methodLink RX5 51 yX5_takeApart, Cond.instanceMethod yX5_takeApart, Cond.selects RX5 yX5_takeApart yX5_takeApart, Cond.code yX5_takeApart cX5_takeApart 3 (some .int), Cond.methodLink RX5 94 yX5_placeToTakeApart, Cond.instanceMethod yX5_placeToTakeApart, Cond.selects RX5 yX5_placeToTakeApart yX5_placeToTakeApart, Cond.code yX5_placeToTakeApart cX5_placeToTakeApart 3 (some .int), Cond.methodLink RX5 97 yX5_takeApartLeft, Cond.instanceMethod yX5_takeApartLeft, Cond.selects RX5 yX5_takeApartLeft yX5_takeApartLeft, Cond.code yX5_takeApartLeft cX5_takeApartLeft 6 (some .int), Cond.methodLink RX5 104 yX7_remove, Cond.instanceMethod yX7_remove, Cond.selects RX7 yX7_remove yX7_remove, Cond.code yX7_remove cX7_remove 3 none, Cond.methodLink RX5 107 yX5_comeTwo, Cond.instanceMethod yX5_comeTwo, Cond.selects RX5 yX5_comeTwo yX5_comeTwo, Cond.code yX5_comeTwo cX5_comeTwo 7 (some .int), Cond.methodLink RX5 111 yX7_copy, Cond.instanceMethod yX7_copy, Cond.selects RX7 yX7_copy yX7_copy, Cond.code yX7_copy cX7_copy 3 none]
def wsX4_checkUpTo_r5 : List Cond := [Cond.methodLink RX5 101 yX5_takeApartRight, Cond.instanceMethod yX5_takeApartRight, Cond.selects RX5 yX5_takeApartRight yX5_takeApartRight, Cond.code yX5_takeApartRight cX5_takeApartRight 6 (some .int), Cond.methodLink RX5 55 yX5_atomsIn, Cond.instanceMethod yX5_atomsIn, Cond.selects RX5 yX5_atomsIn yX5_atomsIn, Cond.code yX5_atomsIn cX5_atomsIn 5 (some .int)]
def wsX4_checkUpTo : List Cond := .code yX4_checkUpTo cX4_checkUpTo 4 none :: ((wsX4_checkUpTo_r1 ++ (wsX4_checkUpTo_r2 ++ (wsX4_checkUpTo_r3 ++ (wsX4_checkUpTo_r4 ++ wsX4_checkUpTo_r5)))) ++ wsX40 ++ wsX10 ++ wsX50 ++ wsX90 ++ wsX70)
def wsX7_init : List Cond := .code yX7_init cX7_init 1 none :: ([.methodLink RX7 3 objectInit, .instanceMethod objectInit, .code objectInit ⟨#[0xb1]⟩ 1 none, .arrayClass .int, .fieldLink RX7 11 "Latticework$Row" "formula" "[I"] ++ wsX70)
def wsX5_init : List Cond := .code yX5_init cX5_init 4 none :: ([.methodLink RX5 3 objectInit, .instanceMethod objectInit, .code objectInit ⟨#[0xb1]⟩ 1 none, .classLink RX5 11 RX7, .fieldLink RX5 13 "Latticework$Prover" "left" "[LLatticework$Row;", .fieldLink RX5 17 "Latticework$Prover" "right" "[LLatticework$Row;", .fieldLink RX5 20 "Latticework$Prover" "terms" "LLatticework$TermTable;", .fieldLink RX5 24 "Latticework$Prover" "formulas" "LLatticework$FormulaTable;", .instantiable RX7 2, .initialized RX7, .instanceMethod yX7_init, .code yX7_init cX7_init 1 none, .methodLink RX7 3 objectInit, .arrayClass .int, .fieldLink RX7 11 "Latticework$Row" "formula" "[I"] ++ wsX50 ++ wsX70)
def wsX6_init : List Cond := .code yX6_init cX6_init 1 none :: ([.methodLink RX6 3 objectInit, .instanceMethod objectInit, .code objectInit ⟨#[0xb1]⟩ 1 none, .arrayClass .long, .fieldLink RX6 9 "Latticework$Rewriting" "put" "[J"] ++ wsX60)
def wsX8_counted : List Cond := .code yX8_counted cX8_counted 2 (some .int) :: ([.fieldLink RX8 30 "Latticework$State" "rules" "I", .fieldLink RX8 34 "Latticework$State" "waiting" "I", .fieldLink RX8 37 "Latticework$State" "aside" "I", .fieldLink RX8 40 "Latticework$State" "done" "I", .fieldLink RX8 43 "Latticework$State" "isStopped" "Z"] ++ wsX80)
def wsX9_init : List Cond := .code yX9_init cX9_init 1 none :: ([.methodLink RX9 3 objectInit, .instanceMethod objectInit, .code objectInit ⟨#[0xb1]⟩ 1 none, .arrayClass .long, .fieldLink RX9 9 "Latticework$TermTable" "packed" "[J", .fieldLink RX9 15 "Latticework$TermTable" "normal" "[J", .arrayClass .int, .fieldLink RX9 18 "Latticework$TermTable" "rewrites" "[I"] ++ wsX90)
def wsX9_findOrAdd : List Cond := .code yX9_findOrAdd cX9_findOrAdd 4 (some .int) :: ([.fieldLink RX9 22 "Latticework$TermTable" "count" "I", .fieldLink RX9 9 "Latticework$TermTable" "packed" "[J"] ++ wsX90)
def wsX9_forgetNormals : List Cond := .code yX9_forgetNormals cX9_forgetNormals 1 none :: ([.fieldLink RX9 15 "Latticework$TermTable" "normal" "[J", .methodLink RX9 26 yJ7_fill_d0a16, .static yJ7_fill_d0a16, .initialized RJ7, .code yJ7_fill_d0a16 cJ7_fill_d0a16 5 none] ++ wsX90)
def wsX10_init_r1 : List Cond := [Cond.methodLink RX10 1 objectInit, Cond.instanceMethod objectInit, Cond.code objectInit ⟨#[0xb1]⟩ 1 none, Cond.classLink RX10 7 RX6, Cond.instantiable RX6 2, Cond.initialized RX6, Cond.fieldLink RX10 10 "Latticework" "rewriting" "LLatticework$Rewriting;", Cond.classLink RX10 16 RX2, Cond.instantiable RX2 12, Cond.initialized RX2, Cond.fieldLink RX10 19 "Latticework" "meeting" "LLatticework$Meeting;", Cond.classLink RX10 23 RX0, Cond.instantiable RX0 5, Cond.initialized RX0, Cond.fieldLink RX10 28 "Latticework" "completing" "LLatticework$Completing;", Cond.classLink RX10 32 RX8, Cond.instantiable RX8 9, Cond.initialized RX8, Cond.fieldLink RX10 35 "Latticework" "state" "LLatticework$State;", Cond.fieldLink RX10 39 "Latticework" "trial" "LLatticework$State;", Cond.classLink RX10 42 RX9, Cond.instantiable RX9 4, Cond.initialized RX9, Cond.fieldLink RX10 45 "Latticework" "termTable" "LLatticework$TermTable;"]
def wsX10_init_r2 : List Cond := [Cond.classLink RX10 49 RX1, Cond.instantiable RX1 5, Cond.initialized RX1, Cond.fieldLink RX10 52 "Latticework" "formulaTable" "LLatticework$FormulaTable;", Cond.classLink RX10 56 RX5, Cond.instantiable RX5 7, Cond.initialized RX5, Cond.fieldLink RX10 61 "Latticework" "prover" "LLatticework$Prover;", Cond.classLink RX10 65 RX4, Cond.instantiable RX4 9, Cond.initialized RX4, Cond.fieldLink RX10 70 "Latticework" "proofLines" "LLatticework$ProofLines;", Cond.instanceMethod yX6_init, Cond.code yX6_init cX6_init 1 none, Cond.methodLink RX6 3 objectInit, Cond.arrayClass .long, Cond.fieldLink RX6 9 "Latticework$Rewriting" "put" "[J", Cond.instanceMethod yX2_init, Cond.code yX2_init cX2_init 1 none, Cond.methodLink RX2 5 objectInit, Cond.arrayClass .int, Cond.fieldLink RX2 11 "Latticework$Meeting" "code" "[I", Cond.fieldLink RX2 15 "Latticework$Meeting" "first" "[I", Cond.fieldLink RX2 18 "Latticework$Meeting" "second" "[I"]
def wsX10_init_r3 : List Cond := [Cond.fieldLink RX2 21 "Latticework$Meeting" "leader" "[I", Cond.fieldLink RX2 24 "Latticework$Meeting" "size" "[I", Cond.fieldLink RX2 27 "Latticework$Meeting" "pile" "[I", Cond.fieldLink RX2 30 "Latticework$Meeting" "numberedAnew" "[I", Cond.fieldLink RX2 33 "Latticework$Meeting" "places" "[I", Cond.methodLink RX10 25 yX0_init, Cond.instanceMethod yX0_init, Cond.code yX0_init cX0_init 3 none, Cond.methodLink RX0 3 objectInit, Cond.classLink RX0 9 RX8, Cond.fieldLink RX0 12 "Latticework$Completing" "before" "LLatticework$State;", Cond.fieldLink RX0 18 "Latticework$Completing" "foundOne" "[J", Cond.fieldLink RX0 22 "Latticework$Completing" "foundOther" "[J", Cond.fieldLink RX0 25 "Latticework$Completing" "rewriting" "LLatticework$Rewriting;", Cond.fieldLink RX0 29 "Latticework$Completing" "meeting" "LLatticework$Meeting;", Cond.instanceMethod yX8_init, Cond.code yX8_init cX8_init 1 none, Cond.methodLink RX8 3 objectInit, Cond.fieldLink RX8 9 "Latticework$State" "left" "[J", Cond.fieldLink RX8 15 "Latticework$State" "right" "[J", Cond.fieldLink RX8 18 "Latticework$State" "one" "[J", Cond.fieldLink RX8 21 "Latticework$State" "other" "[J", Cond.instanceMethod yX9_init, Cond.code yX9_init cX9_init 1 none]
def wsX10_init_r4 : List Cond := [Cond.methodLink RX9 3 objectInit, Cond.fieldLink RX9 9 "Latticework$TermTable" "packed" "[J", Cond.fieldLink RX9 15 "Latticework$TermTable" "normal" "[J", Cond.fieldLink RX9 18 "Latticework$TermTable" "rewrites" "[I", Cond.instanceMethod yX1_init, Cond.code yX1_init cX1_init 1 none, Cond.methodLink RX1 3 objectInit, Cond.fieldLink RX1 9 "Latticework$FormulaTable" "kind" "[I", Cond.fieldLink RX1 15 "Latticework$FormulaTable" "first" "[I", Cond.fieldLink RX1 18 "Latticework$FormulaTable" "second" "[I", Cond.fieldLink RX1 21 "Latticework$FormulaTable" "weight" "[I", Cond.methodLink RX10 58 yX5_init, Cond.instanceMethod yX5_init, Cond.code yX5_init cX5_init 4 none, Cond.methodLink RX5 3 objectInit, Cond.classLink RX5 11 RX7, Cond.fieldLink RX5 13 "Latticework$Prover" "left" "[LLatticework$Row;", Cond.fieldLink RX5 17 "Latticework$Prover" "right" "[LLatticework$Row;", Cond.fieldLink RX5 20 "Latticework$Prover" "terms" "LLatticework$TermTable;", Cond.fieldLink RX5 24 "Latticework$Prover" "formulas" "LLatticework$FormulaTable;", Cond.instantiable RX7 2, Cond.initialized RX7, Cond.instanceMethod yX7_init, Cond.code yX7_init cX7_init 1 none]
def wsX10_init_r5 : List Cond := [Cond.methodLink RX7 3 objectInit, Cond.fieldLink RX7 11 "Latticework$Row" "formula" "[I", Cond.methodLink RX10 67 yX4_init, Cond.instanceMethod yX4_init, Cond.code yX4_init cX4_init 3 none, Cond.methodLink RX4 3 objectInit, Cond.fieldLink RX4 9 "Latticework$ProofLines" "formula" "[I", Cond.fieldLink RX4 15 "Latticework$ProofLines" "reason" "[I", Cond.fieldLink RX4 18 "Latticework$ProofLines" "x" "[I", Cond.fieldLink RX4 21 "Latticework$ProofLines" "y" "[I", Cond.fieldLink RX4 24 "Latticework$ProofLines" "givenLines" "[I", Cond.arrayClass .boolean, Cond.fieldLink RX4 27 "Latticework$ProofLines" "right" "[Z", Cond.fieldLink RX4 31 "Latticework$ProofLines" "formulas" "LLatticework$FormulaTable;", Cond.fieldLink RX4 35 "Latticework$ProofLines" "prover" "LLatticework$Prover;"]
def wsX10_init : List Cond := .code yX10_init cX10_init 1 none :: ((wsX10_init_r1 ++ (wsX10_init_r2 ++ (wsX10_init_r3 ++ (wsX10_init_r4 ++ wsX10_init_r5)))) ++ wsX60 ++ wsX100 ++ wsX20 ++ wsX00 ++ wsX80 ++ wsX90 ++ wsX10 ++ wsX50 ++ wsX40 ++ wsX70)
def wsX10_numberOf : List Cond := .code yX10_numberOf cX10_numberOf 4 (some .int) :: ([.classLink RX10 152 "java/lang/IllegalStateException", .initialized "java/lang/IllegalStateException", .fieldLink RX10 45 "Latticework" "termTable" "LLatticework$TermTable;", .methodLink RX10 298 yX9_findOrAdd, .instanceMethod yX9_findOrAdd, .selects RX9 yX9_findOrAdd yX9_findOrAdd, .initialized RX9, .code yX9_findOrAdd cX9_findOrAdd 4 (some .int), .fieldLink RX9 22 "Latticework$TermTable" "count" "I", .fieldLink RX9 9 "Latticework$TermTable" "packed" "[J"] ++ wsX100 ++ wsX90 ++ (vx_atS RX10 156 "java/lang/IllegalStateException" ["java/lang/RuntimeException", "java/lang/Exception"]).filter goodWord)
def wsX10_variable : List Cond := .code yX10_variable cX10_variable 2 (some .int) :: ([.classLink RX10 74 "java/lang/IllegalArgumentException", .initialized "java/lang/IllegalArgumentException", .methodLink RX10 81 yX3_codeOfVariable, .static yX3_codeOfVariable, .initialized RX3, .code yX3_codeOfVariable cX3_codeOfVariable 1 (some .int), .methodLink RX10 87 yX10_numberOf, .instanceMethod yX10_numberOf, .selects RX10 yX10_numberOf yX10_numberOf, .initialized RX10, .code yX10_numberOf cX10_numberOf 4 (some .int), .classLink RX10 152 "java/lang/IllegalStateException", .initialized "java/lang/IllegalStateException", .fieldLink RX10 45 "Latticework" "termTable" "LLatticework$TermTable;", .methodLink RX10 298 yX9_findOrAdd, .instanceMethod yX9_findOrAdd, .selects RX9 yX9_findOrAdd yX9_findOrAdd, .initialized RX9, .code yX9_findOrAdd cX9_findOrAdd 4 (some .int), .fieldLink RX9 22 "Latticework$TermTable" "count" "I", .fieldLink RX9 9 "Latticework$TermTable" "packed" "[J"] ++ wsX100 ++ wsX90 ++ (vx_atS RX10 78 "java/lang/IllegalArgumentException" ["java/lang/RuntimeException", "java/lang/Exception"]).filter goodWord ++ (vx_atS RX10 156 "java/lang/IllegalStateException" ["java/lang/RuntimeException", "java/lang/Exception"]).filter goodWord)
def wsX10_needTerm : List Cond := .code yX10_needTerm cX10_needTerm 2 none :: ([.classLink RX10 125 "java/lang/IndexOutOfBoundsException", .initialized "java/lang/IndexOutOfBoundsException", .fieldLink RX10 45 "Latticework" "termTable" "LLatticework$TermTable;", .fieldLink RX10 116 "Latticework$TermTable" "count" "I"] ++ wsX100 ++ wsX90 ++ (vx_atS RX10 129 "java/lang/IndexOutOfBoundsException" ["java/lang/RuntimeException", "java/lang/Exception"]).filter goodWord)
def wsX10_term_r1 : List Cond := [Cond.classLink RX10 74 "java/lang/IllegalArgumentException", Cond.initialized "java/lang/IllegalArgumentException", Cond.fieldLink RX10 45 "Latticework" "termTable" "LLatticework$TermTable;", Cond.fieldLink RX10 103 "Latticework$TermTable" "packed" "[J", Cond.methodLink RX10 91 yX3_codeOfSign, Cond.static yX3_codeOfSign, Cond.initialized RX3, Cond.code yX3_codeOfSign cX3_codeOfSign 1 (some .int), Cond.methodLink RX10 94 yX3_partsOf, Cond.static yX3_partsOf, Cond.code yX3_partsOf cX3_partsOf 1 (some .int), Cond.methodLink RX10 97 yX10_needTerm, Cond.instanceMethod yX10_needTerm, Cond.selects RX10 yX10_needTerm yX10_needTerm, Cond.initialized RX10, Cond.code yX10_needTerm cX10_needTerm 2 none, Cond.classLink RX10 125 "java/lang/IndexOutOfBoundsException", Cond.initialized "java/lang/IndexOutOfBoundsException", Cond.fieldLink RX10 116 "Latticework$TermTable" "count" "I", Cond.methodLink RX10 107 yX3_sizeOf, Cond.static yX3_sizeOf, Cond.code yX3_sizeOf cX3_sizeOf 3 (some .int), Cond.methodLink RX10 112 yX3_joined, Cond.static yX3_joined]
def wsX10_term_r2 : List Cond := [Cond.code yX3_joined cX3_joined 4 (some .long), Cond.methodLink RX3 19 yX3_sizeOf, Cond.methodLink RX10 87 yX10_numberOf, Cond.instanceMethod yX10_numberOf, Cond.selects RX10 yX10_numberOf yX10_numberOf, Cond.code yX10_numberOf cX10_numberOf 4 (some .int), Cond.classLink RX10 152 "java/lang/IllegalStateException", Cond.initialized "java/lang/IllegalStateException", Cond.methodLink RX10 298 yX9_findOrAdd, Cond.instanceMethod yX9_findOrAdd, Cond.selects RX9 yX9_findOrAdd yX9_findOrAdd, Cond.initialized RX9, Cond.code yX9_findOrAdd cX9_findOrAdd 4 (some .int), Cond.fieldLink RX9 22 "Latticework$TermTable" "count" "I", Cond.fieldLink RX9 9 "Latticework$TermTable" "packed" "[J"]
def wsX10_term : List Cond := .code yX10_term cX10_term 10 (some .int) :: ((wsX10_term_r1 ++ wsX10_term_r2) ++ wsX100 ++ wsX90 ++ (vx_atS RX10 78 "java/lang/IllegalArgumentException" ["java/lang/RuntimeException", "java/lang/Exception"]).filter goodWord ++ (vx_atS RX10 129 "java/lang/IndexOutOfBoundsException" ["java/lang/RuntimeException", "java/lang/Exception"]).filter goodWord ++ (vx_atS RX10 156 "java/lang/IllegalStateException" ["java/lang/RuntimeException", "java/lang/Exception"]).filter goodWord)
def wsX10_terms : List Cond := .code yX10_terms cX10_terms 1 (some .int) :: ([.fieldLink RX10 45 "Latticework" "termTable" "LLatticework$TermTable;", .fieldLink RX10 116 "Latticework$TermTable" "count" "I"] ++ wsX100 ++ wsX90)
def wsX10_ofTerm_r1 : List Cond := [Cond.classLink RX10 74 "java/lang/IllegalArgumentException", Cond.initialized "java/lang/IllegalArgumentException", Cond.fieldLink RX10 45 "Latticework" "termTable" "LLatticework$TermTable;", Cond.fieldLink RX10 103 "Latticework$TermTable" "packed" "[J", Cond.methodLink RX10 97 yX10_needTerm, Cond.instanceMethod yX10_needTerm, Cond.selects RX10 yX10_needTerm yX10_needTerm, Cond.initialized RX10, Cond.code yX10_needTerm cX10_needTerm 2 none, Cond.classLink RX10 125 "java/lang/IndexOutOfBoundsException", Cond.initialized "java/lang/IndexOutOfBoundsException", Cond.fieldLink RX10 116 "Latticework$TermTable" "count" "I", Cond.methodLink RX10 107 yX3_sizeOf, Cond.static yX3_sizeOf, Cond.initialized RX3, Cond.code yX3_sizeOf cX3_sizeOf 3 (some .int), Cond.methodLink RX10 122 yX3_variablesIn, Cond.static yX3_variablesIn, Cond.code yX3_variablesIn cX3_variablesIn 4 (some .int), Cond.methodLink RX3 23 yX3_codeOfVariable, Cond.static yX3_codeOfVariable, Cond.code yX3_codeOfVariable cX3_codeOfVariable 1 (some .int), Cond.methodLink RX3 26 yX3_timesIn, Cond.static yX3_timesIn]
def wsX10_ofTerm_r2 : List Cond := [Cond.code yX3_timesIn cX3_timesIn 5 (some .int), Cond.methodLink RX3 11 yX3_codeAt, Cond.static yX3_codeAt, Cond.code yX3_codeAt cX3_codeAt 3 (some .int)]
def wsX10_ofTerm : List Cond := .code yX10_ofTerm cX10_ofTerm 5 (some .int) :: ((wsX10_ofTerm_r1 ++ wsX10_ofTerm_r2) ++ wsX100 ++ wsX90 ++ (vx_atS RX10 78 "java/lang/IllegalArgumentException" ["java/lang/RuntimeException", "java/lang/Exception"]).filter goodWord ++ (vx_atS RX10 129 "java/lang/IndexOutOfBoundsException" ["java/lang/RuntimeException", "java/lang/Exception"]).filter goodWord)
def wsX10_at : List Cond := .code yX10_at cX10_at 5 (some .int) :: ([.classLink RX10 125 "java/lang/IndexOutOfBoundsException", .initialized "java/lang/IndexOutOfBoundsException", .fieldLink RX10 45 "Latticework" "termTable" "LLatticework$TermTable;", .fieldLink RX10 103 "Latticework$TermTable" "packed" "[J", .methodLink RX10 97 yX10_needTerm, .instanceMethod yX10_needTerm, .selects RX10 yX10_needTerm yX10_needTerm, .initialized RX10, .code yX10_needTerm cX10_needTerm 2 none, .fieldLink RX10 116 "Latticework$TermTable" "count" "I", .methodLink RX10 107 yX3_sizeOf, .static yX3_sizeOf, .initialized RX3, .code yX3_sizeOf cX3_sizeOf 3 (some .int), .methodLink RX10 130 yX3_codeAt, .static yX3_codeAt, .code yX3_codeAt cX3_codeAt 3 (some .int), .methodLink RX10 134 yX3_toldOf, .static yX3_toldOf, .code yX3_toldOf cX3_toldOf 1 (some .int)] ++ wsX100 ++ wsX90 ++ (vx_atS RX10 129 "java/lang/IndexOutOfBoundsException" ["java/lang/RuntimeException", "java/lang/Exception"]).filter goodWord)
def wsX10_compare_r1 : List Cond := [Cond.fieldLink RX10 45 "Latticework" "termTable" "LLatticework$TermTable;", Cond.fieldLink RX10 103 "Latticework$TermTable" "packed" "[J", Cond.methodLink RX10 97 yX10_needTerm, Cond.instanceMethod yX10_needTerm, Cond.selects RX10 yX10_needTerm yX10_needTerm, Cond.initialized RX10, Cond.code yX10_needTerm cX10_needTerm 2 none, Cond.classLink RX10 125 "java/lang/IndexOutOfBoundsException", Cond.initialized "java/lang/IndexOutOfBoundsException", Cond.fieldLink RX10 116 "Latticework$TermTable" "count" "I", Cond.methodLink RX10 137 yX3_isGreater, Cond.static yX3_isGreater, Cond.initialized RX3, Cond.code yX3_isGreater cX3_isGreater 16 (some .boolean), Cond.methodLink RX3 29 yX3_hasVariablesOf, Cond.static yX3_hasVariablesOf, Cond.code yX3_hasVariablesOf cX3_hasVariablesOf 6 (some .boolean), Cond.methodLink RX3 23 yX3_codeOfVariable, Cond.static yX3_codeOfVariable, Cond.code yX3_codeOfVariable cX3_codeOfVariable 1 (some .int), Cond.methodLink RX3 26 yX3_timesIn, Cond.static yX3_timesIn, Cond.code yX3_timesIn cX3_timesIn 5 (some .int), Cond.methodLink RX3 11 yX3_codeAt]
def wsX10_compare_r2 : List Cond := [Cond.static yX3_codeAt, Cond.code yX3_codeAt cX3_codeAt 3 (some .int), Cond.methodLink RX3 19 yX3_sizeOf, Cond.static yX3_sizeOf, Cond.code yX3_sizeOf cX3_sizeOf 3 (some .int), Cond.methodLink RX3 33 yX3_isVariable, Cond.static yX3_isVariable, Cond.code yX3_isVariable cX3_isVariable 1 (some .boolean), Cond.methodLink RX3 37 yX3_endOf, Cond.static yX3_endOf, Cond.code yX3_endOf cX3_endOf 5 (some .int), Cond.methodLink RX3 15 yX3_partsOf, Cond.static yX3_partsOf, Cond.code yX3_partsOf cX3_partsOf 1 (some .int), Cond.methodLink RX3 40 yX3_part, Cond.static yX3_part, Cond.code yX3_part cX3_part 4 (some .long)]
def wsX10_compare : List Cond := .code yX10_compare cX10_compare 7 (some .int) :: ((wsX10_compare_r1 ++ wsX10_compare_r2) ++ wsX100 ++ wsX90 ++ (vx_atS RX10 129 "java/lang/IndexOutOfBoundsException" ["java/lang/RuntimeException", "java/lang/Exception"]).filter goodWord)
def wsX10_fits_r1 : List Cond := [Cond.fieldLink RX10 10 "Latticework" "rewriting" "LLatticework$Rewriting;", Cond.fieldLink RX10 45 "Latticework" "termTable" "LLatticework$TermTable;", Cond.fieldLink RX10 103 "Latticework$TermTable" "packed" "[J", Cond.methodLink RX10 97 yX10_needTerm, Cond.instanceMethod yX10_needTerm, Cond.selects RX10 yX10_needTerm yX10_needTerm, Cond.initialized RX10, Cond.code yX10_needTerm cX10_needTerm 2 none, Cond.classLink RX10 125 "java/lang/IndexOutOfBoundsException", Cond.initialized "java/lang/IndexOutOfBoundsException", Cond.fieldLink RX10 116 "Latticework$TermTable" "count" "I", Cond.methodLink RX10 141 yX6_doesFit, Cond.instanceMethod yX6_doesFit, Cond.selects RX6 yX6_doesFit yX6_doesFit, Cond.initialized RX6, Cond.code yX6_doesFit cX6_doesFit 14 (some .boolean), Cond.fieldLink RX6 9 "Latticework$Rewriting" "put" "[J", Cond.methodLink RX6 15 yJ7_fill_d0a16, Cond.static yJ7_fill_d0a16, Cond.initialized RJ7, Cond.code yJ7_fill_d0a16 cJ7_fill_d0a16 5 none, Cond.methodLink RX6 21 yX3_sizeOf, Cond.static yX3_sizeOf, Cond.initialized RX3]
def wsX10_fits_r2 : List Cond := [Cond.code yX3_sizeOf cX3_sizeOf 3 (some .int), Cond.methodLink RX6 27 yX3_codeAt, Cond.static yX3_codeAt, Cond.code yX3_codeAt cX3_codeAt 3 (some .int), Cond.methodLink RX6 31 yX3_isVariable, Cond.static yX3_isVariable, Cond.code yX3_isVariable cX3_isVariable 1 (some .boolean), Cond.methodLink RX6 35 yX3_variableOf, Cond.static yX3_variableOf, Cond.code yX3_variableOf cX3_variableOf 1 (some .int), Cond.methodLink RX6 39 yX3_endOf, Cond.static yX3_endOf, Cond.code yX3_endOf cX3_endOf 5 (some .int), Cond.methodLink RX3 11 yX3_codeAt, Cond.methodLink RX3 15 yX3_partsOf, Cond.static yX3_partsOf, Cond.code yX3_partsOf cX3_partsOf 1 (some .int), Cond.methodLink RX6 42 yX3_part, Cond.static yX3_part, Cond.code yX3_part cX3_part 4 (some .long)]
def wsX10_fits : List Cond := .code yX10_fits cX10_fits 3 (some .boolean) :: ((wsX10_fits_r1 ++ wsX10_fits_r2) ++ wsX100 ++ wsX90 ++ wsX60 ++ (vx_atS RX10 129 "java/lang/IndexOutOfBoundsException" ["java/lang/RuntimeException", "java/lang/Exception"]).filter goodWord)
def wsX10_meet_r1 : List Cond := [Cond.fieldLink RX10 19 "Latticework" "meeting" "LLatticework$Meeting;", Cond.fieldLink RX10 45 "Latticework" "termTable" "LLatticework$TermTable;", Cond.fieldLink RX10 103 "Latticework$TermTable" "packed" "[J", Cond.methodLink RX10 97 yX10_needTerm, Cond.instanceMethod yX10_needTerm, Cond.selects RX10 yX10_needTerm yX10_needTerm, Cond.initialized RX10, Cond.code yX10_needTerm cX10_needTerm 2 none, Cond.classLink RX10 125 "java/lang/IndexOutOfBoundsException", Cond.initialized "java/lang/IndexOutOfBoundsException", Cond.fieldLink RX10 116 "Latticework$TermTable" "count" "I", Cond.methodLink RX10 145 yX2_sizeOfBoth, Cond.instanceMethod yX2_sizeOfBoth, Cond.selects RX2 yX2_sizeOfBoth yX2_sizeOfBoth, Cond.initialized RX2, Cond.code yX2_sizeOfBoth cX2_sizeOfBoth 6 (some .int), Cond.fieldLink RX2 24 "Latticework$Meeting" "size" "[I", Cond.methodLink RX2 36 yX2_clear, Cond.instanceMethod yX2_clear, Cond.selects RX2 yX2_clear yX2_clear, Cond.code yX2_clear cX2_clear 2 none, Cond.fieldLink RX2 51 "Latticework$Meeting" "nodes" "I", Cond.fieldLink RX2 11 "Latticework$Meeting" "code" "[I", Cond.fieldLink RX2 15 "Latticework$Meeting" "first" "[I"]
def wsX10_meet_r2 : List Cond := [Cond.fieldLink RX2 18 "Latticework$Meeting" "second" "[I", Cond.methodLink RX2 55 yX3_codeOfVariable, Cond.static yX3_codeOfVariable, Cond.initialized RX3, Cond.code yX3_codeOfVariable cX3_codeOfVariable 1 (some .int), Cond.methodLink RX2 39 yX2_addTerm, Cond.instanceMethod yX2_addTerm, Cond.selects RX2 yX2_addTerm yX2_addTerm, Cond.code yX2_addTerm cX2_addTerm 8 (some .int), Cond.fieldLink RX2 33 "Latticework$Meeting" "places" "[I", Cond.methodLink RX2 60 yX3_sizeOf, Cond.static yX3_sizeOf, Cond.code yX3_sizeOf cX3_sizeOf 3 (some .int), Cond.methodLink RX2 64 yX3_codeAt, Cond.static yX3_codeAt, Cond.code yX3_codeAt cX3_codeAt 3 (some .int), Cond.methodLink RX2 67 yX3_isVariable, Cond.static yX3_isVariable, Cond.code yX3_isVariable cX3_isVariable 1 (some .boolean), Cond.methodLink RX2 71 yX3_variableOf, Cond.static yX3_variableOf, Cond.code yX3_variableOf cX3_variableOf 1 (some .int), Cond.methodLink RX2 74 yX3_partsOf, Cond.static yX3_partsOf]
def wsX10_meet_r3 : List Cond := [Cond.code yX3_partsOf cX3_partsOf 1 (some .int), Cond.methodLink RX2 77 yX3_endOf, Cond.static yX3_endOf, Cond.code yX3_endOf cX3_endOf 5 (some .int), Cond.methodLink RX3 11 yX3_codeAt, Cond.methodLink RX3 15 yX3_partsOf, Cond.methodLink RX2 80 yX2_nodeAt, Cond.instanceMethod yX2_nodeAt, Cond.selects RX2 yX2_nodeAt yX2_nodeAt, Cond.code yX2_nodeAt cX2_nodeAt 2 (some .int), Cond.methodLink RX2 83 yX2_addNode, Cond.instanceMethod yX2_addNode, Cond.selects RX2 yX2_addNode yX2_addNode, Cond.code yX2_addNode cX2_addNode 4 (some .int), Cond.methodLink RX2 43 yX2_doMeet, Cond.instanceMethod yX2_doMeet, Cond.selects RX2 yX2_doMeet yX2_doMeet, Cond.code yX2_doMeet cX2_doMeet 4 (some .boolean), Cond.fieldLink RX2 21 "Latticework$Meeting" "leader" "[I", Cond.methodLink RX2 87 yX2_unite, Cond.instanceMethod yX2_unite, Cond.selects RX2 yX2_unite yX2_unite, Cond.code yX2_unite cX2_unite 7 (some .boolean), Cond.fieldLink RX2 27 "Latticework$Meeting" "pile" "[I"]
def wsX10_meet_r4 : List Cond := [Cond.methodLink RX2 47 yX2_leaderOf, Cond.instanceMethod yX2_leaderOf, Cond.selects RX2 yX2_leaderOf yX2_leaderOf, Cond.code yX2_leaderOf cX2_leaderOf 4 (some .int), Cond.methodLink RX2 94 yX2_pilePair, Cond.instanceMethod yX2_pilePair, Cond.selects RX2 yX2_pilePair yX2_pilePair, Cond.code yX2_pilePair cX2_pilePair 4 (some .int), Cond.methodLink RX2 90 yX2_measure, Cond.instanceMethod yX2_measure, Cond.selects RX2 yX2_measure yX2_measure, Cond.code yX2_measure cX2_measure 7 (some .boolean), Cond.methodLink RX2 97 Lib.Math.max.name, Cond.static Lib.Math.max.name, Cond.initialized "java/lang/Math", Cond.code Lib.Math.max.name Lib.Math.max.code 2 (some .int)]
def wsX10_meet : List Cond := .code yX10_meet cX10_meet 3 (some .int) :: ((wsX10_meet_r1 ++ (wsX10_meet_r2 ++ (wsX10_meet_r3 ++ wsX10_meet_r4))) ++ wsX100 ++ wsX90 ++ wsX20 ++ (vx_atS RX10 129 "java/lang/IndexOutOfBoundsException" ["java/lang/RuntimeException", "java/lang/Exception"]).filter goodWord)
def wsX10_equation : List Cond := .code yX10_equation cX10_equation 3 (some .int) :: ([.classLink RX10 152 "java/lang/IllegalStateException", .initialized "java/lang/IllegalStateException", .fieldLink RX10 35 "Latticework" "state" "LLatticework$State;", .fieldLink RX10 45 "Latticework" "termTable" "LLatticework$TermTable;", .fieldLink RX10 103 "Latticework$TermTable" "packed" "[J", .fieldLink RX10 157 "Latticework$State" "isStopped" "Z", .fieldLink RX10 161 "Latticework$State" "waiting" "I", .methodLink RX10 97 yX10_needTerm, .instanceMethod yX10_needTerm, .selects RX10 yX10_needTerm yX10_needTerm, .initialized RX10, .code yX10_needTerm cX10_needTerm 2 none, .classLink RX10 125 "java/lang/IndexOutOfBoundsException", .initialized "java/lang/IndexOutOfBoundsException", .fieldLink RX10 116 "Latticework$TermTable" "count" "I", .methodLink RX10 149 yX8_addEquation, .instanceMethod yX8_addEquation, .selects RX8 yX8_addEquation yX8_addEquation, .initialized RX8, .code yX8_addEquation cX8_addEquation 5 (some .boolean), .fieldLink RX8 34 "Latticework$State" "waiting" "I", .fieldLink RX8 18 "Latticework$State" "one" "[J", .fieldLink RX8 21 "Latticework$State" "other" "[J"] ++ wsX100 ++ wsX90 ++ wsX80 ++ (vx_atS RX10 156 "java/lang/IllegalStateException" ["java/lang/RuntimeException", "java/lang/Exception"]).filter goodWord ++ (vx_atS RX10 129 "java/lang/IndexOutOfBoundsException" ["java/lang/RuntimeException", "java/lang/Exception"]).filter goodWord)
def wsX10_needStepCount : List Cond := .code yX10_needStepCount cX10_needStepCount 2 none :: ([.classLink RX10 74 "java/lang/IllegalArgumentException", .initialized "java/lang/IllegalArgumentException"] ++ (vx_atS RX10 78 "java/lang/IllegalArgumentException" ["java/lang/RuntimeException", "java/lang/Exception"]).filter goodWord)
def wsX10_complete_r1 : List Cond := [Cond.fieldLink RX10 28 "Latticework" "completing" "LLatticework$Completing;", Cond.fieldLink RX10 35 "Latticework" "state" "LLatticework$State;", Cond.fieldLink RX10 45 "Latticework" "termTable" "LLatticework$TermTable;", Cond.fieldLink RX10 174 "Latticework$State" "rules" "I", Cond.methodLink RX10 164 yX10_needStepCount, Cond.instanceMethod yX10_needStepCount, Cond.selects RX10 yX10_needStepCount yX10_needStepCount, Cond.initialized RX10, Cond.code yX10_needStepCount cX10_needStepCount 2 none, Cond.classLink RX10 74 "java/lang/IllegalArgumentException", Cond.initialized "java/lang/IllegalArgumentException", Cond.methodLink RX10 167 yX0_doSteps, Cond.instanceMethod yX0_doSteps, Cond.selects RX0 yX0_doSteps yX0_doSteps, Cond.initialized RX0, Cond.code yX0_doSteps cX0_doSteps 4 none, Cond.fieldLink RX0 33 "Latticework$State" "waiting" "I", Cond.fieldLink RX0 37 "Latticework$State" "isStopped" "Z", Cond.fieldLink RX0 12 "Latticework$Completing" "before" "LLatticework$State;", Cond.fieldLink RX0 49 "Latticework$State" "done" "I", Cond.methodLink RX0 41 yX8_copy, Cond.instanceMethod yX8_copy, Cond.selects RX8 yX8_copy yX8_copy, Cond.initialized RX8]
def wsX10_complete_r2 : List Cond := [Cond.code yX8_copy cX8_copy 2 none, Cond.fieldLink RX8 9 "Latticework$State" "left" "[J", Cond.methodLink RX8 24 arraycopyName, Cond.native arraycopyName, Cond.static arraycopyName, Cond.initialized "java/lang/System", Cond.fieldLink RX8 15 "Latticework$State" "right" "[J", Cond.fieldLink RX8 18 "Latticework$State" "one" "[J", Cond.fieldLink RX8 21 "Latticework$State" "other" "[J", Cond.fieldLink RX8 30 "Latticework$State" "rules" "I", Cond.fieldLink RX8 34 "Latticework$State" "waiting" "I", Cond.fieldLink RX8 37 "Latticework$State" "aside" "I", Cond.fieldLink RX8 40 "Latticework$State" "done" "I", Cond.fieldLink RX8 43 "Latticework$State" "isStopped" "Z", Cond.methodLink RX0 45 yX0_doStep, Cond.instanceMethod yX0_doStep, Cond.selects RX0 yX0_doStep yX0_doStep, Cond.code yX0_doStep cX0_doStep 7 (some .boolean), Cond.fieldLink RX0 25 "Latticework$Completing" "rewriting" "LLatticework$Rewriting;", Cond.fieldLink RX0 52 "Latticework$State" "one" "[J", Cond.fieldLink RX0 61 "Latticework$State" "other" "[J", Cond.fieldLink RX0 73 "Latticework$State" "aside" "I", Cond.methodLink RX0 55 yX6_rewritten, Cond.instanceMethod yX6_rewritten]
def wsX10_complete_r3 : List Cond := [Cond.selects RX6 yX6_rewritten yX6_rewritten, Cond.initialized RX6, Cond.code yX6_rewritten cX6_rewritten 9 (some .long), Cond.fieldLink RX6 70 "Latticework$Rewriting" "times" "I", Cond.methodLink RX6 73 yX6_rewrittenOnce, Cond.instanceMethod yX6_rewrittenOnce, Cond.selects RX6 yX6_rewrittenOnce yX6_rewrittenOnce, Cond.code yX6_rewrittenOnce cX6_rewrittenOnce 12 (some .long), Cond.fieldLink RX6 54 "Latticework$State" "rules" "I", Cond.fieldLink RX6 60 "Latticework$State" "left" "[J", Cond.fieldLink RX6 63 "Latticework$State" "right" "[J", Cond.methodLink RX6 21 yX3_sizeOf, Cond.static yX3_sizeOf, Cond.initialized RX3, Cond.code yX3_sizeOf cX3_sizeOf 3 (some .int), Cond.methodLink RX6 46 yX6_doesFit, Cond.instanceMethod yX6_doesFit, Cond.selects RX6 yX6_doesFit yX6_doesFit, Cond.code yX6_doesFit cX6_doesFit 14 (some .boolean), Cond.fieldLink RX6 9 "Latticework$Rewriting" "put" "[J", Cond.methodLink RX6 15 yJ7_fill_d0a16, Cond.static yJ7_fill_d0a16, Cond.initialized RJ7, Cond.code yJ7_fill_d0a16 cJ7_fill_d0a16 5 none]
def wsX10_complete_r4 : List Cond := [Cond.methodLink RX6 27 yX3_codeAt, Cond.static yX3_codeAt, Cond.code yX3_codeAt cX3_codeAt 3 (some .int), Cond.methodLink RX6 31 yX3_isVariable, Cond.static yX3_isVariable, Cond.code yX3_isVariable cX3_isVariable 1 (some .boolean), Cond.methodLink RX6 35 yX3_variableOf, Cond.static yX3_variableOf, Cond.code yX3_variableOf cX3_variableOf 1 (some .int), Cond.methodLink RX6 39 yX3_endOf, Cond.static yX3_endOf, Cond.code yX3_endOf cX3_endOf 5 (some .int), Cond.methodLink RX3 11 yX3_codeAt, Cond.methodLink RX3 15 yX3_partsOf, Cond.static yX3_partsOf, Cond.code yX3_partsOf cX3_partsOf 1 (some .int), Cond.methodLink RX6 42 yX3_part, Cond.static yX3_part, Cond.code yX3_part cX3_part 4 (some .long), Cond.methodLink RX6 66 yX6_filled, Cond.instanceMethod yX6_filled, Cond.selects RX6 yX6_filled yX6_filled, Cond.code yX6_filled cX6_filled 8 (some .long), Cond.methodLink RX6 50 yX3_joined]
def wsX10_complete_r5 : List Cond := [Cond.static yX3_joined, Cond.code yX3_joined cX3_joined 4 (some .long), Cond.methodLink RX3 19 yX3_sizeOf, Cond.methodLink RX0 64 yX8_removeFirstEquation, Cond.instanceMethod yX8_removeFirstEquation, Cond.selects RX8 yX8_removeFirstEquation yX8_removeFirstEquation, Cond.code yX8_removeFirstEquation cX8_removeFirstEquation 2 none, Cond.methodLink RX0 67 yX3_isGreater, Cond.static yX3_isGreater, Cond.code yX3_isGreater cX3_isGreater 16 (some .boolean), Cond.methodLink RX3 29 yX3_hasVariablesOf, Cond.static yX3_hasVariablesOf, Cond.code yX3_hasVariablesOf cX3_hasVariablesOf 6 (some .boolean), Cond.methodLink RX3 23 yX3_codeOfVariable, Cond.static yX3_codeOfVariable, Cond.code yX3_codeOfVariable cX3_codeOfVariable 1 (some .int), Cond.methodLink RX3 26 yX3_timesIn, Cond.static yX3_timesIn, Cond.code yX3_timesIn cX3_timesIn 5 (some .int), Cond.methodLink RX3 33 yX3_isVariable, Cond.methodLink RX3 37 yX3_endOf, Cond.methodLink RX3 40 yX3_part, Cond.methodLink RX0 76 yX8_addRule, Cond.instanceMethod yX8_addRule]
def wsX10_complete_r6 : List Cond := [Cond.selects RX8 yX8_addRule yX8_addRule, Cond.code yX8_addRule cX8_addRule 5 (some .boolean), Cond.methodLink RX0 79 yX0_takeRulesAway, Cond.instanceMethod yX0_takeRulesAway, Cond.selects RX0 yX0_takeRulesAway yX0_takeRulesAway, Cond.code yX0_takeRulesAway cX0_takeRulesAway 6 (some .boolean), Cond.fieldLink RX0 85 "Latticework$State" "left" "[J", Cond.fieldLink RX0 88 "Latticework$State" "rules" "I", Cond.fieldLink RX0 94 "Latticework$State" "right" "[J", Cond.methodLink RX0 91 yX6_doesFitSomewhere, Cond.instanceMethod yX6_doesFitSomewhere, Cond.selects RX6 yX6_doesFitSomewhere yX6_doesFitSomewhere, Cond.code yX6_doesFitSomewhere cX6_doesFitSomewhere 7 (some .boolean), Cond.methodLink RX0 97 yX8_addEquation, Cond.instanceMethod yX8_addEquation, Cond.selects RX8 yX8_addEquation yX8_addEquation, Cond.code yX8_addEquation cX8_addEquation 5 (some .boolean), Cond.methodLink RX0 100 yX8_removeRule, Cond.instanceMethod yX8_removeRule, Cond.selects RX8 yX8_removeRule yX8_removeRule, Cond.code yX8_removeRule cX8_removeRule 3 none, Cond.methodLink RX0 82 yX0_addOverlaps, Cond.instanceMethod yX0_addOverlaps, Cond.selects RX0 yX0_addOverlaps yX0_addOverlaps]
def wsX10_complete_r7 : List Cond := [Cond.code yX0_addOverlaps cX0_addOverlaps 8 (some .boolean), Cond.fieldLink RX0 18 "Latticework$Completing" "foundOne" "[J", Cond.fieldLink RX0 22 "Latticework$Completing" "foundOther" "[J", Cond.methodLink RX0 104 yX0_findOverlaps, Cond.instanceMethod yX0_findOverlaps, Cond.selects RX0 yX0_findOverlaps yX0_findOverlaps, Cond.code yX0_findOverlaps cX0_findOverlaps 13 (some .int), Cond.fieldLink RX0 29 "Latticework$Completing" "meeting" "LLatticework$Meeting;", Cond.methodLink RX0 108 yX2_clear, Cond.instanceMethod yX2_clear, Cond.selects RX2 yX2_clear yX2_clear, Cond.initialized RX2, Cond.code yX2_clear cX2_clear 2 none, Cond.fieldLink RX2 51 "Latticework$Meeting" "nodes" "I", Cond.fieldLink RX2 11 "Latticework$Meeting" "code" "[I", Cond.fieldLink RX2 15 "Latticework$Meeting" "first" "[I", Cond.fieldLink RX2 18 "Latticework$Meeting" "second" "[I", Cond.methodLink RX2 55 yX3_codeOfVariable, Cond.methodLink RX0 113 yX2_addTerm, Cond.instanceMethod yX2_addTerm, Cond.selects RX2 yX2_addTerm yX2_addTerm, Cond.code yX2_addTerm cX2_addTerm 8 (some .int), Cond.fieldLink RX2 33 "Latticework$Meeting" "places" "[I", Cond.methodLink RX2 60 yX3_sizeOf]
def wsX10_complete_r8 : List Cond := [Cond.methodLink RX2 64 yX3_codeAt, Cond.methodLink RX2 67 yX3_isVariable, Cond.methodLink RX2 71 yX3_variableOf, Cond.methodLink RX2 74 yX3_partsOf, Cond.methodLink RX2 77 yX3_endOf, Cond.methodLink RX2 80 yX2_nodeAt, Cond.instanceMethod yX2_nodeAt, Cond.selects RX2 yX2_nodeAt yX2_nodeAt, Cond.code yX2_nodeAt cX2_nodeAt 2 (some .int), Cond.methodLink RX2 83 yX2_addNode, Cond.instanceMethod yX2_addNode, Cond.selects RX2 yX2_addNode yX2_addNode, Cond.code yX2_addNode cX2_addNode 4 (some .int), Cond.methodLink RX0 117 yX3_sizeOf, Cond.methodLink RX0 121 yX3_codeAt, Cond.methodLink RX0 124 yX3_isVariable, Cond.methodLink RX0 128 yX2_nodeAt, Cond.methodLink RX0 132 yX2_doMeet, Cond.instanceMethod yX2_doMeet, Cond.selects RX2 yX2_doMeet yX2_doMeet, Cond.code yX2_doMeet cX2_doMeet 4 (some .boolean), Cond.fieldLink RX2 21 "Latticework$Meeting" "leader" "[I", Cond.fieldLink RX2 24 "Latticework$Meeting" "size" "[I", Cond.methodLink RX2 87 yX2_unite]
def wsX10_complete_r9 : List Cond := [Cond.instanceMethod yX2_unite, Cond.selects RX2 yX2_unite yX2_unite, Cond.code yX2_unite cX2_unite 7 (some .boolean), Cond.fieldLink RX2 27 "Latticework$Meeting" "pile" "[I", Cond.methodLink RX2 47 yX2_leaderOf, Cond.instanceMethod yX2_leaderOf, Cond.selects RX2 yX2_leaderOf yX2_leaderOf, Cond.code yX2_leaderOf cX2_leaderOf 4 (some .int), Cond.methodLink RX2 94 yX2_pilePair, Cond.instanceMethod yX2_pilePair, Cond.selects RX2 yX2_pilePair yX2_pilePair, Cond.code yX2_pilePair cX2_pilePair 4 (some .int), Cond.methodLink RX2 90 yX2_measure, Cond.instanceMethod yX2_measure, Cond.selects RX2 yX2_measure yX2_measure, Cond.code yX2_measure cX2_measure 7 (some .boolean), Cond.methodLink RX2 97 Lib.Math.max.name, Cond.static Lib.Math.max.name, Cond.initialized "java/lang/Math", Cond.code Lib.Math.max.name Lib.Math.max.code 2 (some .int), Cond.methodLink RX0 136 yX2_beginEquation, Cond.instanceMethod yX2_beginEquation, Cond.selects RX2 yX2_beginEquation yX2_beginEquation, Cond.code yX2_beginEquation cX2_beginEquation 1 none]
def wsX10_complete_r10 : List Cond := [Cond.fieldLink RX2 30 "Latticework$Meeting" "numberedAnew" "[I", Cond.fieldLink RX2 109 "Latticework$Meeting" "seen" "I", Cond.fieldLink RX2 112 "Latticework$Meeting" "written" "J", Cond.fieldLink RX2 116 "Latticework$Meeting" "length" "I", Cond.methodLink RX2 103 yJ7_fill_53178, Cond.static yJ7_fill_53178, Cond.code yJ7_fill_53178 cJ7_fill_53178 4 none, Cond.methodLink RX0 139 yX0_writeReplaced, Cond.instanceMethod yX0_writeReplaced, Cond.selects RX0 yX0_writeReplaced yX0_writeReplaced, Cond.code yX0_writeReplaced cX0_writeReplaced 10 (some .boolean), Cond.methodLink RX0 150 yX3_endOf, Cond.methodLink RX0 147 yX2_writeNode, Cond.instanceMethod yX2_writeNode, Cond.selects RX2 yX2_writeNode yX2_writeNode, Cond.code yX2_writeNode cX2_writeNode 6 (some .boolean), Cond.methodLink RX2 119 yX2_anewOf, Cond.instanceMethod yX2_anewOf, Cond.selects RX2 yX2_anewOf yX2_anewOf, Cond.code yX2_anewOf cX2_anewOf 2 (some .int), Cond.methodLink RX2 122 yX2_writeCode, Cond.instanceMethod yX2_writeCode, Cond.selects RX2 yX2_writeCode yX2_writeCode, Cond.code yX2_writeCode cX2_writeCode 2 (some .boolean)]
def wsX10_complete_r11 : List Cond := [Cond.methodLink RX2 125 yX2_pileNode, Cond.instanceMethod yX2_pileNode, Cond.selects RX2 yX2_pileNode yX2_pileNode, Cond.code yX2_pileNode cX2_pileNode 3 (some .int), Cond.methodLink RX0 153 yX2_writeCode, Cond.methodLink RX0 143 yX2_takeSide, Cond.instanceMethod yX2_takeSide, Cond.selects RX2 yX2_takeSide yX2_takeSide, Cond.code yX2_takeSide cX2_takeSide 3 (some .long), Cond.methodLink RX10 171 yX9_forgetNormals, Cond.instanceMethod yX9_forgetNormals, Cond.selects RX9 yX9_forgetNormals yX9_forgetNormals, Cond.initialized RX9, Cond.code yX9_forgetNormals cX9_forgetNormals 1 none, Cond.fieldLink RX9 15 "Latticework$TermTable" "normal" "[J", Cond.methodLink RX9 26 yJ7_fill_d0a16]
def wsX10_complete : List Cond := .code yX10_complete cX10_complete 2 (some .int) :: ((wsX10_complete_r1 ++ (wsX10_complete_r2 ++ (wsX10_complete_r3 ++ (wsX10_complete_r4 ++ (wsX10_complete_r5 ++ (wsX10_complete_r6 ++ (wsX10_complete_r7 ++ (wsX10_complete_r8 ++ (wsX10_complete_r9 ++ (wsX10_complete_r10 ++ wsX10_complete_r11)))))))))) ++ wsX100 ++ wsX80 ++ wsX00 ++ wsX60 ++ wsX20 ++ wsX90 ++ (vx_atS RX10 78 "java/lang/IllegalArgumentException" ["java/lang/RuntimeException", "java/lang/Exception"]).filter goodWord)
def wsX10_needRule : List Cond := .code yX10_needRule cX10_needRule 2 none :: ([.classLink RX10 125 "java/lang/IndexOutOfBoundsException", .initialized "java/lang/IndexOutOfBoundsException", .fieldLink RX10 35 "Latticework" "state" "LLatticework$State;", .fieldLink RX10 174 "Latticework$State" "rules" "I"] ++ wsX100 ++ wsX80 ++ (vx_atS RX10 129 "java/lang/IndexOutOfBoundsException" ["java/lang/RuntimeException", "java/lang/Exception"]).filter goodWord)
def wsX10_dropRule_r1 : List Cond := [Cond.fieldLink RX10 35 "Latticework" "state" "LLatticework$State;", Cond.fieldLink RX10 45 "Latticework" "termTable" "LLatticework$TermTable;", Cond.fieldLink RX10 174 "Latticework$State" "rules" "I", Cond.methodLink RX10 177 yX10_needRule, Cond.instanceMethod yX10_needRule, Cond.selects RX10 yX10_needRule yX10_needRule, Cond.initialized RX10, Cond.code yX10_needRule cX10_needRule 2 none, Cond.classLink RX10 125 "java/lang/IndexOutOfBoundsException", Cond.initialized "java/lang/IndexOutOfBoundsException", Cond.methodLink RX10 180 yX8_removeRule, Cond.instanceMethod yX8_removeRule, Cond.selects RX8 yX8_removeRule yX8_removeRule, Cond.initialized RX8, Cond.code yX8_removeRule cX8_removeRule 3 none, Cond.fieldLink RX8 30 "Latticework$State" "rules" "I", Cond.fieldLink RX8 9 "Latticework$State" "left" "[J", Cond.fieldLink RX8 15 "Latticework$State" "right" "[J", Cond.methodLink RX10 171 yX9_forgetNormals, Cond.instanceMethod yX9_forgetNormals, Cond.selects RX9 yX9_forgetNormals yX9_forgetNormals, Cond.initialized RX9, Cond.code yX9_forgetNormals cX9_forgetNormals 1 none, Cond.fieldLink RX9 15 "Latticework$TermTable" "normal" "[J"]
def wsX10_dropRule_r2 : List Cond := [Cond.methodLink RX9 26 yJ7_fill_d0a16, Cond.static yJ7_fill_d0a16, Cond.initialized RJ7, Cond.code yJ7_fill_d0a16 cJ7_fill_d0a16 5 none]
def wsX10_dropRule : List Cond := .code yX10_dropRule cX10_dropRule 2 (some .int) :: ((wsX10_dropRule_r1 ++ wsX10_dropRule_r2) ++ wsX100 ++ wsX80 ++ wsX90 ++ (vx_atS RX10 129 "java/lang/IndexOutOfBoundsException" ["java/lang/RuntimeException", "java/lang/Exception"]).filter goodWord)
def wsX10_many : List Cond := .code yX10_many cX10_many 2 (some .int) :: ([.classLink RX10 74 "java/lang/IllegalArgumentException", .initialized "java/lang/IllegalArgumentException", .fieldLink RX10 35 "Latticework" "state" "LLatticework$State;", .methodLink RX10 185 yX8_counted, .instanceMethod yX8_counted, .selects RX8 yX8_counted yX8_counted, .initialized RX8, .code yX8_counted cX8_counted 2 (some .int), .fieldLink RX8 30 "Latticework$State" "rules" "I", .fieldLink RX8 34 "Latticework$State" "waiting" "I", .fieldLink RX8 37 "Latticework$State" "aside" "I", .fieldLink RX8 40 "Latticework$State" "done" "I", .fieldLink RX8 43 "Latticework$State" "isStopped" "Z"] ++ wsX100 ++ wsX80 ++ (vx_atS RX10 78 "java/lang/IllegalArgumentException" ["java/lang/RuntimeException", "java/lang/Exception"]).filter goodWord)
def wsX10_findNormal_r1 : List Cond := [Cond.fieldLink RX10 45 "Latticework" "termTable" "LLatticework$TermTable;", Cond.fieldLink RX10 305 "Latticework$TermTable" "normal" "[J", Cond.fieldLink RX10 10 "Latticework" "rewriting" "LLatticework$Rewriting;", Cond.fieldLink RX10 35 "Latticework" "state" "LLatticework$State;", Cond.fieldLink RX10 103 "Latticework$TermTable" "packed" "[J", Cond.fieldLink RX10 308 "Latticework$TermTable" "rewrites" "[I", Cond.fieldLink RX10 312 "Latticework$Rewriting" "times" "I", Cond.methodLink RX10 276 yX6_rewritten, Cond.instanceMethod yX6_rewritten, Cond.selects RX6 yX6_rewritten yX6_rewritten, Cond.initialized RX6, Cond.code yX6_rewritten cX6_rewritten 9 (some .long), Cond.fieldLink RX6 70 "Latticework$Rewriting" "times" "I", Cond.methodLink RX6 73 yX6_rewrittenOnce, Cond.instanceMethod yX6_rewrittenOnce, Cond.selects RX6 yX6_rewrittenOnce yX6_rewrittenOnce, Cond.code yX6_rewrittenOnce cX6_rewrittenOnce 12 (some .long), Cond.fieldLink RX6 54 "Latticework$State" "rules" "I", Cond.fieldLink RX6 60 "Latticework$State" "left" "[J", Cond.fieldLink RX6 63 "Latticework$State" "right" "[J", Cond.methodLink RX6 21 yX3_sizeOf, Cond.static yX3_sizeOf, Cond.initialized RX3, Cond.code yX3_sizeOf cX3_sizeOf 3 (some .int)]
def wsX10_findNormal_r2 : List Cond := [Cond.methodLink RX6 46 yX6_doesFit, Cond.instanceMethod yX6_doesFit, Cond.selects RX6 yX6_doesFit yX6_doesFit, Cond.code yX6_doesFit cX6_doesFit 14 (some .boolean), Cond.fieldLink RX6 9 "Latticework$Rewriting" "put" "[J", Cond.methodLink RX6 15 yJ7_fill_d0a16, Cond.static yJ7_fill_d0a16, Cond.initialized RJ7, Cond.code yJ7_fill_d0a16 cJ7_fill_d0a16 5 none, Cond.methodLink RX6 27 yX3_codeAt, Cond.static yX3_codeAt, Cond.code yX3_codeAt cX3_codeAt 3 (some .int), Cond.methodLink RX6 31 yX3_isVariable, Cond.static yX3_isVariable, Cond.code yX3_isVariable cX3_isVariable 1 (some .boolean), Cond.methodLink RX6 35 yX3_variableOf, Cond.static yX3_variableOf, Cond.code yX3_variableOf cX3_variableOf 1 (some .int), Cond.methodLink RX6 39 yX3_endOf, Cond.static yX3_endOf, Cond.code yX3_endOf cX3_endOf 5 (some .int), Cond.methodLink RX3 11 yX3_codeAt, Cond.methodLink RX3 15 yX3_partsOf, Cond.static yX3_partsOf]
def wsX10_findNormal_r3 : List Cond := [Cond.code yX3_partsOf cX3_partsOf 1 (some .int), Cond.methodLink RX6 42 yX3_part, Cond.static yX3_part, Cond.code yX3_part cX3_part 4 (some .long), Cond.methodLink RX6 66 yX6_filled, Cond.instanceMethod yX6_filled, Cond.selects RX6 yX6_filled yX6_filled, Cond.code yX6_filled cX6_filled 8 (some .long), Cond.methodLink RX6 50 yX3_joined, Cond.static yX3_joined, Cond.code yX3_joined cX3_joined 4 (some .long), Cond.methodLink RX3 19 yX3_sizeOf]
def wsX10_findNormal : List Cond := .code yX10_findNormal cX10_findNormal 2 none :: ((wsX10_findNormal_r1 ++ (wsX10_findNormal_r2 ++ wsX10_findNormal_r3)) ++ wsX100 ++ wsX90 ++ wsX60 ++ wsX80)
def wsX10_normalOf_r1 : List Cond := [Cond.fieldLink RX10 45 "Latticework" "termTable" "LLatticework$TermTable;", Cond.fieldLink RX10 305 "Latticework$TermTable" "normal" "[J", Cond.methodLink RX10 302 yX10_findNormal, Cond.instanceMethod yX10_findNormal, Cond.selects RX10 yX10_findNormal yX10_findNormal, Cond.initialized RX10, Cond.code yX10_findNormal cX10_findNormal 2 none, Cond.fieldLink RX10 10 "Latticework" "rewriting" "LLatticework$Rewriting;", Cond.fieldLink RX10 35 "Latticework" "state" "LLatticework$State;", Cond.fieldLink RX10 103 "Latticework$TermTable" "packed" "[J", Cond.fieldLink RX10 308 "Latticework$TermTable" "rewrites" "[I", Cond.fieldLink RX10 312 "Latticework$Rewriting" "times" "I", Cond.methodLink RX10 276 yX6_rewritten, Cond.instanceMethod yX6_rewritten, Cond.selects RX6 yX6_rewritten yX6_rewritten, Cond.initialized RX6, Cond.code yX6_rewritten cX6_rewritten 9 (some .long), Cond.fieldLink RX6 70 "Latticework$Rewriting" "times" "I", Cond.methodLink RX6 73 yX6_rewrittenOnce, Cond.instanceMethod yX6_rewrittenOnce, Cond.selects RX6 yX6_rewrittenOnce yX6_rewrittenOnce, Cond.code yX6_rewrittenOnce cX6_rewrittenOnce 12 (some .long), Cond.fieldLink RX6 54 "Latticework$State" "rules" "I", Cond.fieldLink RX6 60 "Latticework$State" "left" "[J"]
def wsX10_normalOf_r2 : List Cond := [Cond.fieldLink RX6 63 "Latticework$State" "right" "[J", Cond.methodLink RX6 21 yX3_sizeOf, Cond.static yX3_sizeOf, Cond.initialized RX3, Cond.code yX3_sizeOf cX3_sizeOf 3 (some .int), Cond.methodLink RX6 46 yX6_doesFit, Cond.instanceMethod yX6_doesFit, Cond.selects RX6 yX6_doesFit yX6_doesFit, Cond.code yX6_doesFit cX6_doesFit 14 (some .boolean), Cond.fieldLink RX6 9 "Latticework$Rewriting" "put" "[J", Cond.methodLink RX6 15 yJ7_fill_d0a16, Cond.static yJ7_fill_d0a16, Cond.initialized RJ7, Cond.code yJ7_fill_d0a16 cJ7_fill_d0a16 5 none, Cond.methodLink RX6 27 yX3_codeAt, Cond.static yX3_codeAt, Cond.code yX3_codeAt cX3_codeAt 3 (some .int), Cond.methodLink RX6 31 yX3_isVariable, Cond.static yX3_isVariable, Cond.code yX3_isVariable cX3_isVariable 1 (some .boolean), Cond.methodLink RX6 35 yX3_variableOf, Cond.static yX3_variableOf, Cond.code yX3_variableOf cX3_variableOf 1 (some .int), Cond.methodLink RX6 39 yX3_endOf]
def wsX10_normalOf_r3 : List Cond := [Cond.static yX3_endOf, Cond.code yX3_endOf cX3_endOf 5 (some .int), Cond.methodLink RX3 11 yX3_codeAt, Cond.methodLink RX3 15 yX3_partsOf, Cond.static yX3_partsOf, Cond.code yX3_partsOf cX3_partsOf 1 (some .int), Cond.methodLink RX6 42 yX3_part, Cond.static yX3_part, Cond.code yX3_part cX3_part 4 (some .long), Cond.methodLink RX6 66 yX6_filled, Cond.instanceMethod yX6_filled, Cond.selects RX6 yX6_filled yX6_filled, Cond.code yX6_filled cX6_filled 8 (some .long), Cond.methodLink RX6 50 yX3_joined, Cond.static yX3_joined, Cond.code yX3_joined cX3_joined 4 (some .long), Cond.methodLink RX3 19 yX3_sizeOf]
def wsX10_normalOf : List Cond := .code yX10_normalOf cX10_normalOf 2 (some .long) :: ((wsX10_normalOf_r1 ++ (wsX10_normalOf_r2 ++ wsX10_normalOf_r3)) ++ wsX100 ++ wsX90 ++ wsX60 ++ wsX80)
def wsX10_normal_r1 : List Cond := [Cond.methodLink RX10 97 yX10_needTerm, Cond.instanceMethod yX10_needTerm, Cond.selects RX10 yX10_needTerm yX10_needTerm, Cond.initialized RX10, Cond.code yX10_needTerm cX10_needTerm 2 none, Cond.classLink RX10 125 "java/lang/IndexOutOfBoundsException", Cond.initialized "java/lang/IndexOutOfBoundsException", Cond.fieldLink RX10 45 "Latticework" "termTable" "LLatticework$TermTable;", Cond.fieldLink RX10 116 "Latticework$TermTable" "count" "I", Cond.methodLink RX10 194 yX10_normalOf, Cond.instanceMethod yX10_normalOf, Cond.selects RX10 yX10_normalOf yX10_normalOf, Cond.code yX10_normalOf cX10_normalOf 2 (some .long), Cond.fieldLink RX10 305 "Latticework$TermTable" "normal" "[J", Cond.methodLink RX10 302 yX10_findNormal, Cond.instanceMethod yX10_findNormal, Cond.selects RX10 yX10_findNormal yX10_findNormal, Cond.code yX10_findNormal cX10_findNormal 2 none, Cond.fieldLink RX10 10 "Latticework" "rewriting" "LLatticework$Rewriting;", Cond.fieldLink RX10 35 "Latticework" "state" "LLatticework$State;", Cond.fieldLink RX10 103 "Latticework$TermTable" "packed" "[J", Cond.fieldLink RX10 308 "Latticework$TermTable" "rewrites" "[I", Cond.fieldLink RX10 312 "Latticework$Rewriting" "times" "I", Cond.methodLink RX10 276 yX6_rewritten]
def wsX10_normal_r2 : List Cond := [Cond.instanceMethod yX6_rewritten, Cond.selects RX6 yX6_rewritten yX6_rewritten, Cond.initialized RX6, Cond.code yX6_rewritten cX6_rewritten 9 (some .long), Cond.fieldLink RX6 70 "Latticework$Rewriting" "times" "I", Cond.methodLink RX6 73 yX6_rewrittenOnce, Cond.instanceMethod yX6_rewrittenOnce, Cond.selects RX6 yX6_rewrittenOnce yX6_rewrittenOnce, Cond.code yX6_rewrittenOnce cX6_rewrittenOnce 12 (some .long), Cond.fieldLink RX6 54 "Latticework$State" "rules" "I", Cond.fieldLink RX6 60 "Latticework$State" "left" "[J", Cond.fieldLink RX6 63 "Latticework$State" "right" "[J", Cond.methodLink RX6 21 yX3_sizeOf, Cond.static yX3_sizeOf, Cond.initialized RX3, Cond.code yX3_sizeOf cX3_sizeOf 3 (some .int), Cond.methodLink RX6 46 yX6_doesFit, Cond.instanceMethod yX6_doesFit, Cond.selects RX6 yX6_doesFit yX6_doesFit, Cond.code yX6_doesFit cX6_doesFit 14 (some .boolean), Cond.fieldLink RX6 9 "Latticework$Rewriting" "put" "[J", Cond.methodLink RX6 15 yJ7_fill_d0a16, Cond.static yJ7_fill_d0a16, Cond.initialized RJ7]
def wsX10_normal_r3 : List Cond := [Cond.code yJ7_fill_d0a16 cJ7_fill_d0a16 5 none, Cond.methodLink RX6 27 yX3_codeAt, Cond.static yX3_codeAt, Cond.code yX3_codeAt cX3_codeAt 3 (some .int), Cond.methodLink RX6 31 yX3_isVariable, Cond.static yX3_isVariable, Cond.code yX3_isVariable cX3_isVariable 1 (some .boolean), Cond.methodLink RX6 35 yX3_variableOf, Cond.static yX3_variableOf, Cond.code yX3_variableOf cX3_variableOf 1 (some .int), Cond.methodLink RX6 39 yX3_endOf, Cond.static yX3_endOf, Cond.code yX3_endOf cX3_endOf 5 (some .int), Cond.methodLink RX3 11 yX3_codeAt, Cond.methodLink RX3 15 yX3_partsOf, Cond.static yX3_partsOf, Cond.code yX3_partsOf cX3_partsOf 1 (some .int), Cond.methodLink RX6 42 yX3_part, Cond.static yX3_part, Cond.code yX3_part cX3_part 4 (some .long), Cond.methodLink RX6 66 yX6_filled, Cond.instanceMethod yX6_filled, Cond.selects RX6 yX6_filled yX6_filled, Cond.code yX6_filled cX6_filled 8 (some .long)]
def wsX10_normal_r4 : List Cond := [Cond.methodLink RX6 50 yX3_joined, Cond.static yX3_joined, Cond.code yX3_joined cX3_joined 4 (some .long), Cond.methodLink RX3 19 yX3_sizeOf, Cond.methodLink RX10 87 yX10_numberOf, Cond.instanceMethod yX10_numberOf, Cond.selects RX10 yX10_numberOf yX10_numberOf, Cond.code yX10_numberOf cX10_numberOf 4 (some .int), Cond.classLink RX10 152 "java/lang/IllegalStateException", Cond.initialized "java/lang/IllegalStateException", Cond.methodLink RX10 298 yX9_findOrAdd, Cond.instanceMethod yX9_findOrAdd, Cond.selects RX9 yX9_findOrAdd yX9_findOrAdd, Cond.initialized RX9, Cond.code yX9_findOrAdd cX9_findOrAdd 4 (some .int), Cond.fieldLink RX9 22 "Latticework$TermTable" "count" "I", Cond.fieldLink RX9 9 "Latticework$TermTable" "packed" "[J"]
def wsX10_normal : List Cond := .code yX10_normal cX10_normal 2 (some .int) :: ((wsX10_normal_r1 ++ (wsX10_normal_r2 ++ (wsX10_normal_r3 ++ wsX10_normal_r4))) ++ wsX100 ++ wsX90 ++ wsX60 ++ wsX80 ++ (vx_atS RX10 129 "java/lang/IndexOutOfBoundsException" ["java/lang/RuntimeException", "java/lang/Exception"]).filter goodWord ++ (vx_atS RX10 156 "java/lang/IllegalStateException" ["java/lang/RuntimeException", "java/lang/Exception"]).filter goodWord)
def wsX10_rewritesOf_r1 : List Cond := [Cond.fieldLink RX10 45 "Latticework" "termTable" "LLatticework$TermTable;", Cond.fieldLink RX10 308 "Latticework$TermTable" "rewrites" "[I", Cond.methodLink RX10 302 yX10_findNormal, Cond.instanceMethod yX10_findNormal, Cond.selects RX10 yX10_findNormal yX10_findNormal, Cond.initialized RX10, Cond.code yX10_findNormal cX10_findNormal 2 none, Cond.fieldLink RX10 305 "Latticework$TermTable" "normal" "[J", Cond.fieldLink RX10 10 "Latticework" "rewriting" "LLatticework$Rewriting;", Cond.fieldLink RX10 35 "Latticework" "state" "LLatticework$State;", Cond.fieldLink RX10 103 "Latticework$TermTable" "packed" "[J", Cond.fieldLink RX10 312 "Latticework$Rewriting" "times" "I", Cond.methodLink RX10 276 yX6_rewritten, Cond.instanceMethod yX6_rewritten, Cond.selects RX6 yX6_rewritten yX6_rewritten, Cond.initialized RX6, Cond.code yX6_rewritten cX6_rewritten 9 (some .long), Cond.fieldLink RX6 70 "Latticework$Rewriting" "times" "I", Cond.methodLink RX6 73 yX6_rewrittenOnce, Cond.instanceMethod yX6_rewrittenOnce, Cond.selects RX6 yX6_rewrittenOnce yX6_rewrittenOnce, Cond.code yX6_rewrittenOnce cX6_rewrittenOnce 12 (some .long), Cond.fieldLink RX6 54 "Latticework$State" "rules" "I", Cond.fieldLink RX6 60 "Latticework$State" "left" "[J"]
def wsX10_rewritesOf_r2 : List Cond := [Cond.fieldLink RX6 63 "Latticework$State" "right" "[J", Cond.methodLink RX6 21 yX3_sizeOf, Cond.static yX3_sizeOf, Cond.initialized RX3, Cond.code yX3_sizeOf cX3_sizeOf 3 (some .int), Cond.methodLink RX6 46 yX6_doesFit, Cond.instanceMethod yX6_doesFit, Cond.selects RX6 yX6_doesFit yX6_doesFit, Cond.code yX6_doesFit cX6_doesFit 14 (some .boolean), Cond.fieldLink RX6 9 "Latticework$Rewriting" "put" "[J", Cond.methodLink RX6 15 yJ7_fill_d0a16, Cond.static yJ7_fill_d0a16, Cond.initialized RJ7, Cond.code yJ7_fill_d0a16 cJ7_fill_d0a16 5 none, Cond.methodLink RX6 27 yX3_codeAt, Cond.static yX3_codeAt, Cond.code yX3_codeAt cX3_codeAt 3 (some .int), Cond.methodLink RX6 31 yX3_isVariable, Cond.static yX3_isVariable, Cond.code yX3_isVariable cX3_isVariable 1 (some .boolean), Cond.methodLink RX6 35 yX3_variableOf, Cond.static yX3_variableOf, Cond.code yX3_variableOf cX3_variableOf 1 (some .int), Cond.methodLink RX6 39 yX3_endOf]
def wsX10_rewritesOf_r3 : List Cond := [Cond.static yX3_endOf, Cond.code yX3_endOf cX3_endOf 5 (some .int), Cond.methodLink RX3 11 yX3_codeAt, Cond.methodLink RX3 15 yX3_partsOf, Cond.static yX3_partsOf, Cond.code yX3_partsOf cX3_partsOf 1 (some .int), Cond.methodLink RX6 42 yX3_part, Cond.static yX3_part, Cond.code yX3_part cX3_part 4 (some .long), Cond.methodLink RX6 66 yX6_filled, Cond.instanceMethod yX6_filled, Cond.selects RX6 yX6_filled yX6_filled, Cond.code yX6_filled cX6_filled 8 (some .long), Cond.methodLink RX6 50 yX3_joined, Cond.static yX3_joined, Cond.code yX3_joined cX3_joined 4 (some .long), Cond.methodLink RX3 19 yX3_sizeOf]
def wsX10_rewritesOf : List Cond := .code yX10_rewritesOf cX10_rewritesOf 2 (some .int) :: ((wsX10_rewritesOf_r1 ++ (wsX10_rewritesOf_r2 ++ wsX10_rewritesOf_r3)) ++ wsX100 ++ wsX90 ++ wsX60 ++ wsX80)
def wsX10_steps_r1 : List Cond := [Cond.methodLink RX10 97 yX10_needTerm, Cond.instanceMethod yX10_needTerm, Cond.selects RX10 yX10_needTerm yX10_needTerm, Cond.initialized RX10, Cond.code yX10_needTerm cX10_needTerm 2 none, Cond.classLink RX10 125 "java/lang/IndexOutOfBoundsException", Cond.initialized "java/lang/IndexOutOfBoundsException", Cond.fieldLink RX10 45 "Latticework" "termTable" "LLatticework$TermTable;", Cond.fieldLink RX10 116 "Latticework$TermTable" "count" "I", Cond.methodLink RX10 198 yX10_rewritesOf, Cond.instanceMethod yX10_rewritesOf, Cond.selects RX10 yX10_rewritesOf yX10_rewritesOf, Cond.code yX10_rewritesOf cX10_rewritesOf 2 (some .int), Cond.fieldLink RX10 308 "Latticework$TermTable" "rewrites" "[I", Cond.methodLink RX10 302 yX10_findNormal, Cond.instanceMethod yX10_findNormal, Cond.selects RX10 yX10_findNormal yX10_findNormal, Cond.code yX10_findNormal cX10_findNormal 2 none, Cond.fieldLink RX10 305 "Latticework$TermTable" "normal" "[J", Cond.fieldLink RX10 10 "Latticework" "rewriting" "LLatticework$Rewriting;", Cond.fieldLink RX10 35 "Latticework" "state" "LLatticework$State;", Cond.fieldLink RX10 103 "Latticework$TermTable" "packed" "[J", Cond.fieldLink RX10 312 "Latticework$Rewriting" "times" "I", Cond.methodLink RX10 276 yX6_rewritten]
def wsX10_steps_r2 : List Cond := [Cond.instanceMethod yX6_rewritten, Cond.selects RX6 yX6_rewritten yX6_rewritten, Cond.initialized RX6, Cond.code yX6_rewritten cX6_rewritten 9 (some .long), Cond.fieldLink RX6 70 "Latticework$Rewriting" "times" "I", Cond.methodLink RX6 73 yX6_rewrittenOnce, Cond.instanceMethod yX6_rewrittenOnce, Cond.selects RX6 yX6_rewrittenOnce yX6_rewrittenOnce, Cond.code yX6_rewrittenOnce cX6_rewrittenOnce 12 (some .long), Cond.fieldLink RX6 54 "Latticework$State" "rules" "I", Cond.fieldLink RX6 60 "Latticework$State" "left" "[J", Cond.fieldLink RX6 63 "Latticework$State" "right" "[J", Cond.methodLink RX6 21 yX3_sizeOf, Cond.static yX3_sizeOf, Cond.initialized RX3, Cond.code yX3_sizeOf cX3_sizeOf 3 (some .int), Cond.methodLink RX6 46 yX6_doesFit, Cond.instanceMethod yX6_doesFit, Cond.selects RX6 yX6_doesFit yX6_doesFit, Cond.code yX6_doesFit cX6_doesFit 14 (some .boolean), Cond.fieldLink RX6 9 "Latticework$Rewriting" "put" "[J", Cond.methodLink RX6 15 yJ7_fill_d0a16, Cond.static yJ7_fill_d0a16, Cond.initialized RJ7]
def wsX10_steps_r3 : List Cond := [Cond.code yJ7_fill_d0a16 cJ7_fill_d0a16 5 none, Cond.methodLink RX6 27 yX3_codeAt, Cond.static yX3_codeAt, Cond.code yX3_codeAt cX3_codeAt 3 (some .int), Cond.methodLink RX6 31 yX3_isVariable, Cond.static yX3_isVariable, Cond.code yX3_isVariable cX3_isVariable 1 (some .boolean), Cond.methodLink RX6 35 yX3_variableOf, Cond.static yX3_variableOf, Cond.code yX3_variableOf cX3_variableOf 1 (some .int), Cond.methodLink RX6 39 yX3_endOf, Cond.static yX3_endOf, Cond.code yX3_endOf cX3_endOf 5 (some .int), Cond.methodLink RX3 11 yX3_codeAt, Cond.methodLink RX3 15 yX3_partsOf, Cond.static yX3_partsOf, Cond.code yX3_partsOf cX3_partsOf 1 (some .int), Cond.methodLink RX6 42 yX3_part, Cond.static yX3_part, Cond.code yX3_part cX3_part 4 (some .long), Cond.methodLink RX6 66 yX6_filled, Cond.instanceMethod yX6_filled, Cond.selects RX6 yX6_filled yX6_filled, Cond.code yX6_filled cX6_filled 8 (some .long)]
def wsX10_steps_r4 : List Cond := [Cond.methodLink RX6 50 yX3_joined, Cond.static yX3_joined, Cond.code yX3_joined cX3_joined 4 (some .long), Cond.methodLink RX3 19 yX3_sizeOf]
def wsX10_steps : List Cond := .code yX10_steps cX10_steps 2 (some .int) :: ((wsX10_steps_r1 ++ (wsX10_steps_r2 ++ (wsX10_steps_r3 ++ wsX10_steps_r4))) ++ wsX100 ++ wsX90 ++ wsX60 ++ wsX80 ++ (vx_atS RX10 129 "java/lang/IndexOutOfBoundsException" ["java/lang/RuntimeException", "java/lang/Exception"]).filter goodWord)
def wsX10_areEqual_r1 : List Cond := [Cond.methodLink RX10 97 yX10_needTerm, Cond.instanceMethod yX10_needTerm, Cond.selects RX10 yX10_needTerm yX10_needTerm, Cond.initialized RX10, Cond.code yX10_needTerm cX10_needTerm 2 none, Cond.classLink RX10 125 "java/lang/IndexOutOfBoundsException", Cond.initialized "java/lang/IndexOutOfBoundsException", Cond.fieldLink RX10 45 "Latticework" "termTable" "LLatticework$TermTable;", Cond.fieldLink RX10 116 "Latticework$TermTable" "count" "I", Cond.methodLink RX10 194 yX10_normalOf, Cond.instanceMethod yX10_normalOf, Cond.selects RX10 yX10_normalOf yX10_normalOf, Cond.code yX10_normalOf cX10_normalOf 2 (some .long), Cond.fieldLink RX10 305 "Latticework$TermTable" "normal" "[J", Cond.methodLink RX10 302 yX10_findNormal, Cond.instanceMethod yX10_findNormal, Cond.selects RX10 yX10_findNormal yX10_findNormal, Cond.code yX10_findNormal cX10_findNormal 2 none, Cond.fieldLink RX10 10 "Latticework" "rewriting" "LLatticework$Rewriting;", Cond.fieldLink RX10 35 "Latticework" "state" "LLatticework$State;", Cond.fieldLink RX10 103 "Latticework$TermTable" "packed" "[J", Cond.fieldLink RX10 308 "Latticework$TermTable" "rewrites" "[I", Cond.fieldLink RX10 312 "Latticework$Rewriting" "times" "I", Cond.methodLink RX10 276 yX6_rewritten]
def wsX10_areEqual_r2 : List Cond := [Cond.instanceMethod yX6_rewritten, Cond.selects RX6 yX6_rewritten yX6_rewritten, Cond.initialized RX6, Cond.code yX6_rewritten cX6_rewritten 9 (some .long), Cond.fieldLink RX6 70 "Latticework$Rewriting" "times" "I", Cond.methodLink RX6 73 yX6_rewrittenOnce, Cond.instanceMethod yX6_rewrittenOnce, Cond.selects RX6 yX6_rewrittenOnce yX6_rewrittenOnce, Cond.code yX6_rewrittenOnce cX6_rewrittenOnce 12 (some .long), Cond.fieldLink RX6 54 "Latticework$State" "rules" "I", Cond.fieldLink RX6 60 "Latticework$State" "left" "[J", Cond.fieldLink RX6 63 "Latticework$State" "right" "[J", Cond.methodLink RX6 21 yX3_sizeOf, Cond.static yX3_sizeOf, Cond.initialized RX3, Cond.code yX3_sizeOf cX3_sizeOf 3 (some .int), Cond.methodLink RX6 46 yX6_doesFit, Cond.instanceMethod yX6_doesFit, Cond.selects RX6 yX6_doesFit yX6_doesFit, Cond.code yX6_doesFit cX6_doesFit 14 (some .boolean), Cond.fieldLink RX6 9 "Latticework$Rewriting" "put" "[J", Cond.methodLink RX6 15 yJ7_fill_d0a16, Cond.static yJ7_fill_d0a16, Cond.initialized RJ7]
def wsX10_areEqual_r3 : List Cond := [Cond.code yJ7_fill_d0a16 cJ7_fill_d0a16 5 none, Cond.methodLink RX6 27 yX3_codeAt, Cond.static yX3_codeAt, Cond.code yX3_codeAt cX3_codeAt 3 (some .int), Cond.methodLink RX6 31 yX3_isVariable, Cond.static yX3_isVariable, Cond.code yX3_isVariable cX3_isVariable 1 (some .boolean), Cond.methodLink RX6 35 yX3_variableOf, Cond.static yX3_variableOf, Cond.code yX3_variableOf cX3_variableOf 1 (some .int), Cond.methodLink RX6 39 yX3_endOf, Cond.static yX3_endOf, Cond.code yX3_endOf cX3_endOf 5 (some .int), Cond.methodLink RX3 11 yX3_codeAt, Cond.methodLink RX3 15 yX3_partsOf, Cond.static yX3_partsOf, Cond.code yX3_partsOf cX3_partsOf 1 (some .int), Cond.methodLink RX6 42 yX3_part, Cond.static yX3_part, Cond.code yX3_part cX3_part 4 (some .long), Cond.methodLink RX6 66 yX6_filled, Cond.instanceMethod yX6_filled, Cond.selects RX6 yX6_filled yX6_filled, Cond.code yX6_filled cX6_filled 8 (some .long)]
def wsX10_areEqual_r4 : List Cond := [Cond.methodLink RX6 50 yX3_joined, Cond.static yX3_joined, Cond.code yX3_joined cX3_joined 4 (some .long), Cond.methodLink RX3 19 yX3_sizeOf]
def wsX10_areEqual : List Cond := .code yX10_areEqual cX10_areEqual 3 (some .boolean) :: ((wsX10_areEqual_r1 ++ (wsX10_areEqual_r2 ++ (wsX10_areEqual_r3 ++ wsX10_areEqual_r4))) ++ wsX100 ++ wsX90 ++ wsX60 ++ wsX80 ++ (vx_atS RX10 129 "java/lang/IndexOutOfBoundsException" ["java/lang/RuntimeException", "java/lang/Exception"]).filter goodWord)
def wsX10_overlaps_r1 : List Cond := [Cond.fieldLink RX10 28 "Latticework" "completing" "LLatticework$Completing;", Cond.fieldLink RX10 35 "Latticework" "state" "LLatticework$State;", Cond.methodLink RX10 177 yX10_needRule, Cond.instanceMethod yX10_needRule, Cond.selects RX10 yX10_needRule yX10_needRule, Cond.initialized RX10, Cond.code yX10_needRule cX10_needRule 2 none, Cond.classLink RX10 125 "java/lang/IndexOutOfBoundsException", Cond.initialized "java/lang/IndexOutOfBoundsException", Cond.fieldLink RX10 174 "Latticework$State" "rules" "I", Cond.methodLink RX10 201 yX0_findOverlaps, Cond.instanceMethod yX0_findOverlaps, Cond.selects RX0 yX0_findOverlaps yX0_findOverlaps, Cond.initialized RX0, Cond.code yX0_findOverlaps cX0_findOverlaps 13 (some .int), Cond.fieldLink RX0 29 "Latticework$Completing" "meeting" "LLatticework$Meeting;", Cond.fieldLink RX0 85 "Latticework$State" "left" "[J", Cond.fieldLink RX0 94 "Latticework$State" "right" "[J", Cond.fieldLink RX0 18 "Latticework$Completing" "foundOne" "[J", Cond.fieldLink RX0 22 "Latticework$Completing" "foundOther" "[J", Cond.methodLink RX0 108 yX2_clear, Cond.instanceMethod yX2_clear, Cond.selects RX2 yX2_clear yX2_clear, Cond.initialized RX2]
def wsX10_overlaps_r2 : List Cond := [Cond.code yX2_clear cX2_clear 2 none, Cond.fieldLink RX2 51 "Latticework$Meeting" "nodes" "I", Cond.fieldLink RX2 11 "Latticework$Meeting" "code" "[I", Cond.fieldLink RX2 15 "Latticework$Meeting" "first" "[I", Cond.fieldLink RX2 18 "Latticework$Meeting" "second" "[I", Cond.methodLink RX2 55 yX3_codeOfVariable, Cond.static yX3_codeOfVariable, Cond.initialized RX3, Cond.code yX3_codeOfVariable cX3_codeOfVariable 1 (some .int), Cond.methodLink RX0 113 yX2_addTerm, Cond.instanceMethod yX2_addTerm, Cond.selects RX2 yX2_addTerm yX2_addTerm, Cond.code yX2_addTerm cX2_addTerm 8 (some .int), Cond.fieldLink RX2 33 "Latticework$Meeting" "places" "[I", Cond.methodLink RX2 60 yX3_sizeOf, Cond.static yX3_sizeOf, Cond.code yX3_sizeOf cX3_sizeOf 3 (some .int), Cond.methodLink RX2 64 yX3_codeAt, Cond.static yX3_codeAt, Cond.code yX3_codeAt cX3_codeAt 3 (some .int), Cond.methodLink RX2 67 yX3_isVariable, Cond.static yX3_isVariable, Cond.code yX3_isVariable cX3_isVariable 1 (some .boolean), Cond.methodLink RX2 71 yX3_variableOf]
def wsX10_overlaps_r3 : List Cond := [Cond.static yX3_variableOf, Cond.code yX3_variableOf cX3_variableOf 1 (some .int), Cond.methodLink RX2 74 yX3_partsOf, Cond.static yX3_partsOf, Cond.code yX3_partsOf cX3_partsOf 1 (some .int), Cond.methodLink RX2 77 yX3_endOf, Cond.static yX3_endOf, Cond.code yX3_endOf cX3_endOf 5 (some .int), Cond.methodLink RX3 11 yX3_codeAt, Cond.methodLink RX3 15 yX3_partsOf, Cond.methodLink RX2 80 yX2_nodeAt, Cond.instanceMethod yX2_nodeAt, Cond.selects RX2 yX2_nodeAt yX2_nodeAt, Cond.code yX2_nodeAt cX2_nodeAt 2 (some .int), Cond.methodLink RX2 83 yX2_addNode, Cond.instanceMethod yX2_addNode, Cond.selects RX2 yX2_addNode yX2_addNode, Cond.code yX2_addNode cX2_addNode 4 (some .int), Cond.methodLink RX0 117 yX3_sizeOf, Cond.methodLink RX0 121 yX3_codeAt, Cond.methodLink RX0 124 yX3_isVariable, Cond.methodLink RX0 128 yX2_nodeAt, Cond.methodLink RX0 132 yX2_doMeet, Cond.instanceMethod yX2_doMeet]
def wsX10_overlaps_r4 : List Cond := [Cond.selects RX2 yX2_doMeet yX2_doMeet, Cond.code yX2_doMeet cX2_doMeet 4 (some .boolean), Cond.fieldLink RX2 21 "Latticework$Meeting" "leader" "[I", Cond.fieldLink RX2 24 "Latticework$Meeting" "size" "[I", Cond.methodLink RX2 87 yX2_unite, Cond.instanceMethod yX2_unite, Cond.selects RX2 yX2_unite yX2_unite, Cond.code yX2_unite cX2_unite 7 (some .boolean), Cond.fieldLink RX2 27 "Latticework$Meeting" "pile" "[I", Cond.methodLink RX2 47 yX2_leaderOf, Cond.instanceMethod yX2_leaderOf, Cond.selects RX2 yX2_leaderOf yX2_leaderOf, Cond.code yX2_leaderOf cX2_leaderOf 4 (some .int), Cond.methodLink RX2 94 yX2_pilePair, Cond.instanceMethod yX2_pilePair, Cond.selects RX2 yX2_pilePair yX2_pilePair, Cond.code yX2_pilePair cX2_pilePair 4 (some .int), Cond.methodLink RX2 90 yX2_measure, Cond.instanceMethod yX2_measure, Cond.selects RX2 yX2_measure yX2_measure, Cond.code yX2_measure cX2_measure 7 (some .boolean), Cond.methodLink RX2 97 Lib.Math.max.name, Cond.static Lib.Math.max.name, Cond.initialized "java/lang/Math"]
def wsX10_overlaps_r5 : List Cond := [Cond.code Lib.Math.max.name Lib.Math.max.code 2 (some .int), Cond.methodLink RX0 136 yX2_beginEquation, Cond.instanceMethod yX2_beginEquation, Cond.selects RX2 yX2_beginEquation yX2_beginEquation, Cond.code yX2_beginEquation cX2_beginEquation 1 none, Cond.fieldLink RX2 30 "Latticework$Meeting" "numberedAnew" "[I", Cond.fieldLink RX2 109 "Latticework$Meeting" "seen" "I", Cond.fieldLink RX2 112 "Latticework$Meeting" "written" "J", Cond.fieldLink RX2 116 "Latticework$Meeting" "length" "I", Cond.methodLink RX2 103 yJ7_fill_53178, Cond.static yJ7_fill_53178, Cond.initialized RJ7, Cond.code yJ7_fill_53178 cJ7_fill_53178 4 none, Cond.methodLink RX0 139 yX0_writeReplaced, Cond.instanceMethod yX0_writeReplaced, Cond.selects RX0 yX0_writeReplaced yX0_writeReplaced, Cond.code yX0_writeReplaced cX0_writeReplaced 10 (some .boolean), Cond.methodLink RX0 150 yX3_endOf, Cond.methodLink RX0 147 yX2_writeNode, Cond.instanceMethod yX2_writeNode, Cond.selects RX2 yX2_writeNode yX2_writeNode, Cond.code yX2_writeNode cX2_writeNode 6 (some .boolean), Cond.methodLink RX2 119 yX2_anewOf, Cond.instanceMethod yX2_anewOf]
def wsX10_overlaps_r6 : List Cond := [Cond.selects RX2 yX2_anewOf yX2_anewOf, Cond.code yX2_anewOf cX2_anewOf 2 (some .int), Cond.methodLink RX2 122 yX2_writeCode, Cond.instanceMethod yX2_writeCode, Cond.selects RX2 yX2_writeCode yX2_writeCode, Cond.code yX2_writeCode cX2_writeCode 2 (some .boolean), Cond.methodLink RX2 125 yX2_pileNode, Cond.instanceMethod yX2_pileNode, Cond.selects RX2 yX2_pileNode yX2_pileNode, Cond.code yX2_pileNode cX2_pileNode 3 (some .int), Cond.methodLink RX0 153 yX2_writeCode, Cond.methodLink RX0 143 yX2_takeSide, Cond.instanceMethod yX2_takeSide, Cond.selects RX2 yX2_takeSide yX2_takeSide, Cond.code yX2_takeSide cX2_takeSide 3 (some .long)]
def wsX10_overlaps : List Cond := .code yX10_overlaps cX10_overlaps 3 (some .int) :: ((wsX10_overlaps_r1 ++ (wsX10_overlaps_r2 ++ (wsX10_overlaps_r3 ++ (wsX10_overlaps_r4 ++ (wsX10_overlaps_r5 ++ wsX10_overlaps_r6))))) ++ wsX100 ++ wsX80 ++ wsX00 ++ wsX20 ++ (vx_atS RX10 129 "java/lang/IndexOutOfBoundsException" ["java/lang/RuntimeException", "java/lang/Exception"]).filter goodWord)
def wsX10_meanSize : List Cond := .code yX10_meanSize cX10_meanSize 3 (some .double) :: ([.fieldLink RX10 35 "Latticework" "state" "LLatticework$State;", .fieldLink RX10 174 "Latticework$State" "rules" "I", .fieldLink RX10 188 "Latticework$State" "left" "[J", .methodLink RX10 107 yX3_sizeOf, .static yX3_sizeOf, .initialized RX3, .code yX3_sizeOf cX3_sizeOf 3 (some .int)] ++ wsX100 ++ wsX80)
def wsX10_needFormula : List Cond := .code yX10_needFormula cX10_needFormula 2 none :: ([.classLink RX10 125 "java/lang/IndexOutOfBoundsException", .initialized "java/lang/IndexOutOfBoundsException", .fieldLink RX10 52 "Latticework" "formulaTable" "LLatticework$FormulaTable;", .fieldLink RX10 224 "Latticework$FormulaTable" "count" "I"] ++ wsX100 ++ wsX10 ++ (vx_atS RX10 129 "java/lang/IndexOutOfBoundsException" ["java/lang/RuntimeException", "java/lang/Exception"]).filter goodWord)
def wsX10_needParts : List Cond := .code yX10_needParts cX10_needParts 4 none :: ([.methodLink RX10 97 yX10_needTerm, .instanceMethod yX10_needTerm, .selects RX10 yX10_needTerm yX10_needTerm, .initialized RX10, .code yX10_needTerm cX10_needTerm 2 none, .classLink RX10 125 "java/lang/IndexOutOfBoundsException", .initialized "java/lang/IndexOutOfBoundsException", .fieldLink RX10 45 "Latticework" "termTable" "LLatticework$TermTable;", .fieldLink RX10 116 "Latticework$TermTable" "count" "I", .methodLink RX10 225 yX10_needFormula, .instanceMethod yX10_needFormula, .selects RX10 yX10_needFormula yX10_needFormula, .code yX10_needFormula cX10_needFormula 2 none, .fieldLink RX10 52 "Latticework" "formulaTable" "LLatticework$FormulaTable;", .fieldLink RX10 224 "Latticework$FormulaTable" "count" "I"] ++ wsX100 ++ wsX90 ++ wsX10 ++ (vx_atS RX10 129 "java/lang/IndexOutOfBoundsException" ["java/lang/RuntimeException", "java/lang/Exception"]).filter goodWord)
def wsX10_formula_r1 : List Cond := [Cond.classLink RX10 74 "java/lang/IllegalArgumentException", Cond.initialized "java/lang/IllegalArgumentException", Cond.classLink RX10 152 "java/lang/IllegalStateException", Cond.initialized "java/lang/IllegalStateException", Cond.fieldLink RX10 52 "Latticework" "formulaTable" "LLatticework$FormulaTable;", Cond.methodLink RX10 205 yX10_needParts, Cond.instanceMethod yX10_needParts, Cond.selects RX10 yX10_needParts yX10_needParts, Cond.initialized RX10, Cond.code yX10_needParts cX10_needParts 4 none, Cond.methodLink RX10 97 yX10_needTerm, Cond.instanceMethod yX10_needTerm, Cond.selects RX10 yX10_needTerm yX10_needTerm, Cond.code yX10_needTerm cX10_needTerm 2 none, Cond.classLink RX10 125 "java/lang/IndexOutOfBoundsException", Cond.initialized "java/lang/IndexOutOfBoundsException", Cond.fieldLink RX10 45 "Latticework" "termTable" "LLatticework$TermTable;", Cond.fieldLink RX10 116 "Latticework$TermTable" "count" "I", Cond.methodLink RX10 225 yX10_needFormula, Cond.instanceMethod yX10_needFormula, Cond.selects RX10 yX10_needFormula yX10_needFormula, Cond.code yX10_needFormula cX10_needFormula 2 none, Cond.fieldLink RX10 224 "Latticework$FormulaTable" "count" "I", Cond.methodLink RX10 213 yX1_weightOf]
def wsX10_formula_r2 : List Cond := [Cond.instanceMethod yX1_weightOf, Cond.selects RX1 yX1_weightOf yX1_weightOf, Cond.initialized RX1, Cond.code yX1_weightOf cX1_weightOf 5 (some .int), Cond.fieldLink RX1 21 "Latticework$FormulaTable" "weight" "[I", Cond.methodLink RX1 24 yX1_has, Cond.instanceMethod yX1_has, Cond.selects RX1 yX1_has yX1_has, Cond.code yX1_has cX1_has 2 (some .boolean), Cond.fieldLink RX1 28 "Latticework$FormulaTable" "count" "I", Cond.methodLink RX10 219 yX1_findOrAdd, Cond.instanceMethod yX1_findOrAdd, Cond.selects RX1 yX1_findOrAdd yX1_findOrAdd, Cond.code yX1_findOrAdd cX1_findOrAdd 5 (some .int), Cond.fieldLink RX1 9 "Latticework$FormulaTable" "kind" "[I", Cond.fieldLink RX1 15 "Latticework$FormulaTable" "first" "[I", Cond.fieldLink RX1 18 "Latticework$FormulaTable" "second" "[I", Cond.methodLink RX1 32 yX1_weightOf]
def wsX10_formula : List Cond := .code yX10_formula cX10_formula 5 (some .int) :: ((wsX10_formula_r1 ++ wsX10_formula_r2) ++ wsX100 ++ wsX90 ++ wsX10 ++ (vx_atS RX10 78 "java/lang/IllegalArgumentException" ["java/lang/RuntimeException", "java/lang/Exception"]).filter goodWord ++ (vx_atS RX10 156 "java/lang/IllegalStateException" ["java/lang/RuntimeException", "java/lang/Exception"]).filter goodWord ++ (vx_atS RX10 129 "java/lang/IndexOutOfBoundsException" ["java/lang/RuntimeException", "java/lang/Exception"]).filter goodWord)
def wsX10_formulas : List Cond := .code yX10_formulas cX10_formulas 1 (some .int) :: ([.fieldLink RX10 52 "Latticework" "formulaTable" "LLatticework$FormulaTable;", .fieldLink RX10 224 "Latticework$FormulaTable" "count" "I"] ++ wsX100 ++ wsX10)
def wsX10_findNormalsOfEqualities_r1 : List Cond := [Cond.fieldLink RX10 52 "Latticework" "formulaTable" "LLatticework$FormulaTable;", Cond.fieldLink RX10 224 "Latticework$FormulaTable" "count" "I", Cond.fieldLink RX10 315 "Latticework$FormulaTable" "kind" "[I", Cond.fieldLink RX10 318 "Latticework$FormulaTable" "first" "[I", Cond.fieldLink RX10 321 "Latticework$FormulaTable" "second" "[I", Cond.methodLink RX10 302 yX10_findNormal, Cond.instanceMethod yX10_findNormal, Cond.selects RX10 yX10_findNormal yX10_findNormal, Cond.initialized RX10, Cond.code yX10_findNormal cX10_findNormal 2 none, Cond.fieldLink RX10 45 "Latticework" "termTable" "LLatticework$TermTable;", Cond.fieldLink RX10 305 "Latticework$TermTable" "normal" "[J", Cond.fieldLink RX10 10 "Latticework" "rewriting" "LLatticework$Rewriting;", Cond.fieldLink RX10 35 "Latticework" "state" "LLatticework$State;", Cond.fieldLink RX10 103 "Latticework$TermTable" "packed" "[J", Cond.fieldLink RX10 308 "Latticework$TermTable" "rewrites" "[I", Cond.fieldLink RX10 312 "Latticework$Rewriting" "times" "I", Cond.methodLink RX10 276 yX6_rewritten, Cond.instanceMethod yX6_rewritten, Cond.selects RX6 yX6_rewritten yX6_rewritten, Cond.initialized RX6, Cond.code yX6_rewritten cX6_rewritten 9 (some .long), Cond.fieldLink RX6 70 "Latticework$Rewriting" "times" "I", Cond.methodLink RX6 73 yX6_rewrittenOnce]
def wsX10_findNormalsOfEqualities_r2 : List Cond := [Cond.instanceMethod yX6_rewrittenOnce, Cond.selects RX6 yX6_rewrittenOnce yX6_rewrittenOnce, Cond.code yX6_rewrittenOnce cX6_rewrittenOnce 12 (some .long), Cond.fieldLink RX6 54 "Latticework$State" "rules" "I", Cond.fieldLink RX6 60 "Latticework$State" "left" "[J", Cond.fieldLink RX6 63 "Latticework$State" "right" "[J", Cond.methodLink RX6 21 yX3_sizeOf, Cond.static yX3_sizeOf, Cond.initialized RX3, Cond.code yX3_sizeOf cX3_sizeOf 3 (some .int), Cond.methodLink RX6 46 yX6_doesFit, Cond.instanceMethod yX6_doesFit, Cond.selects RX6 yX6_doesFit yX6_doesFit, Cond.code yX6_doesFit cX6_doesFit 14 (some .boolean), Cond.fieldLink RX6 9 "Latticework$Rewriting" "put" "[J", Cond.methodLink RX6 15 yJ7_fill_d0a16, Cond.static yJ7_fill_d0a16, Cond.initialized RJ7, Cond.code yJ7_fill_d0a16 cJ7_fill_d0a16 5 none, Cond.methodLink RX6 27 yX3_codeAt, Cond.static yX3_codeAt, Cond.code yX3_codeAt cX3_codeAt 3 (some .int), Cond.methodLink RX6 31 yX3_isVariable, Cond.static yX3_isVariable]
def wsX10_findNormalsOfEqualities_r3 : List Cond := [Cond.code yX3_isVariable cX3_isVariable 1 (some .boolean), Cond.methodLink RX6 35 yX3_variableOf, Cond.static yX3_variableOf, Cond.code yX3_variableOf cX3_variableOf 1 (some .int), Cond.methodLink RX6 39 yX3_endOf, Cond.static yX3_endOf, Cond.code yX3_endOf cX3_endOf 5 (some .int), Cond.methodLink RX3 11 yX3_codeAt, Cond.methodLink RX3 15 yX3_partsOf, Cond.static yX3_partsOf, Cond.code yX3_partsOf cX3_partsOf 1 (some .int), Cond.methodLink RX6 42 yX3_part, Cond.static yX3_part, Cond.code yX3_part cX3_part 4 (some .long), Cond.methodLink RX6 66 yX6_filled, Cond.instanceMethod yX6_filled, Cond.selects RX6 yX6_filled yX6_filled, Cond.code yX6_filled cX6_filled 8 (some .long), Cond.methodLink RX6 50 yX3_joined, Cond.static yX3_joined, Cond.code yX3_joined cX3_joined 4 (some .long), Cond.methodLink RX3 19 yX3_sizeOf]
def wsX10_findNormalsOfEqualities : List Cond := .code yX10_findNormalsOfEqualities cX10_findNormalsOfEqualities 2 none :: ((wsX10_findNormalsOfEqualities_r1 ++ (wsX10_findNormalsOfEqualities_r2 ++ wsX10_findNormalsOfEqualities_r3)) ++ wsX100 ++ wsX10 ++ wsX90 ++ wsX60 ++ wsX80)
def wsX10_isProved_r1 : List Cond := [Cond.fieldLink RX10 61 "Latticework" "prover" "LLatticework$Prover;", Cond.methodLink RX10 225 yX10_needFormula, Cond.instanceMethod yX10_needFormula, Cond.selects RX10 yX10_needFormula yX10_needFormula, Cond.initialized RX10, Cond.code yX10_needFormula cX10_needFormula 2 none, Cond.classLink RX10 125 "java/lang/IndexOutOfBoundsException", Cond.initialized "java/lang/IndexOutOfBoundsException", Cond.fieldLink RX10 52 "Latticework" "formulaTable" "LLatticework$FormulaTable;", Cond.fieldLink RX10 224 "Latticework$FormulaTable" "count" "I", Cond.methodLink RX10 228 yX10_findNormalsOfEqualities, Cond.instanceMethod yX10_findNormalsOfEqualities, Cond.selects RX10 yX10_findNormalsOfEqualities yX10_findNormalsOfEqualities, Cond.code yX10_findNormalsOfEqualities cX10_findNormalsOfEqualities 2 none, Cond.fieldLink RX10 315 "Latticework$FormulaTable" "kind" "[I", Cond.fieldLink RX10 318 "Latticework$FormulaTable" "first" "[I", Cond.fieldLink RX10 321 "Latticework$FormulaTable" "second" "[I", Cond.methodLink RX10 302 yX10_findNormal, Cond.instanceMethod yX10_findNormal, Cond.selects RX10 yX10_findNormal yX10_findNormal, Cond.code yX10_findNormal cX10_findNormal 2 none, Cond.fieldLink RX10 45 "Latticework" "termTable" "LLatticework$TermTable;", Cond.fieldLink RX10 305 "Latticework$TermTable" "normal" "[J", Cond.fieldLink RX10 10 "Latticework" "rewriting" "LLatticework$Rewriting;"]
def wsX10_isProved_r2 : List Cond := [Cond.fieldLink RX10 35 "Latticework" "state" "LLatticework$State;", Cond.fieldLink RX10 103 "Latticework$TermTable" "packed" "[J", Cond.fieldLink RX10 308 "Latticework$TermTable" "rewrites" "[I", Cond.fieldLink RX10 312 "Latticework$Rewriting" "times" "I", Cond.methodLink RX10 276 yX6_rewritten, Cond.instanceMethod yX6_rewritten, Cond.selects RX6 yX6_rewritten yX6_rewritten, Cond.initialized RX6, Cond.code yX6_rewritten cX6_rewritten 9 (some .long), Cond.fieldLink RX6 70 "Latticework$Rewriting" "times" "I", Cond.methodLink RX6 73 yX6_rewrittenOnce, Cond.instanceMethod yX6_rewrittenOnce, Cond.selects RX6 yX6_rewrittenOnce yX6_rewrittenOnce, Cond.code yX6_rewrittenOnce cX6_rewrittenOnce 12 (some .long), Cond.fieldLink RX6 54 "Latticework$State" "rules" "I", Cond.fieldLink RX6 60 "Latticework$State" "left" "[J", Cond.fieldLink RX6 63 "Latticework$State" "right" "[J", Cond.methodLink RX6 21 yX3_sizeOf, Cond.static yX3_sizeOf, Cond.initialized RX3, Cond.code yX3_sizeOf cX3_sizeOf 3 (some .int), Cond.methodLink RX6 46 yX6_doesFit, Cond.instanceMethod yX6_doesFit, Cond.selects RX6 yX6_doesFit yX6_doesFit]
def wsX10_isProved_r3 : List Cond := [Cond.code yX6_doesFit cX6_doesFit 14 (some .boolean), Cond.fieldLink RX6 9 "Latticework$Rewriting" "put" "[J", Cond.methodLink RX6 15 yJ7_fill_d0a16, Cond.static yJ7_fill_d0a16, Cond.initialized RJ7, Cond.code yJ7_fill_d0a16 cJ7_fill_d0a16 5 none, Cond.methodLink RX6 27 yX3_codeAt, Cond.static yX3_codeAt, Cond.code yX3_codeAt cX3_codeAt 3 (some .int), Cond.methodLink RX6 31 yX3_isVariable, Cond.static yX3_isVariable, Cond.code yX3_isVariable cX3_isVariable 1 (some .boolean), Cond.methodLink RX6 35 yX3_variableOf, Cond.static yX3_variableOf, Cond.code yX3_variableOf cX3_variableOf 1 (some .int), Cond.methodLink RX6 39 yX3_endOf, Cond.static yX3_endOf, Cond.code yX3_endOf cX3_endOf 5 (some .int), Cond.methodLink RX3 11 yX3_codeAt, Cond.methodLink RX3 15 yX3_partsOf, Cond.static yX3_partsOf, Cond.code yX3_partsOf cX3_partsOf 1 (some .int), Cond.methodLink RX6 42 yX3_part, Cond.static yX3_part]
def wsX10_isProved_r4 : List Cond := [Cond.code yX3_part cX3_part 4 (some .long), Cond.methodLink RX6 66 yX6_filled, Cond.instanceMethod yX6_filled, Cond.selects RX6 yX6_filled yX6_filled, Cond.code yX6_filled cX6_filled 8 (some .long), Cond.methodLink RX6 50 yX3_joined, Cond.static yX3_joined, Cond.code yX3_joined cX3_joined 4 (some .long), Cond.methodLink RX3 19 yX3_sizeOf, Cond.methodLink RX10 231 yX5_prove, Cond.instanceMethod yX5_prove, Cond.selects RX5 yX5_prove yX5_prove, Cond.initialized RX5, Cond.code yX5_prove cX5_prove 7 (some .boolean), Cond.fieldLink RX5 29 "Latticework$Prover" "takenApart" "I", Cond.fieldLink RX5 33 "Latticework$Prover" "closed" "I", Cond.fieldLink RX5 36 "Latticework$Prover" "openAtoms" "I", Cond.fieldLink RX5 13 "Latticework$Prover" "left" "[LLatticework$Row;", Cond.fieldLink RX5 39 "Latticework$Row" "count" "I", Cond.fieldLink RX5 17 "Latticework$Prover" "right" "[LLatticework$Row;", Cond.constant RX5 46 (1000000), Cond.methodLink RX5 42 yX7_add, Cond.instanceMethod yX7_add, Cond.selects RX7 yX7_add yX7_add]
def wsX10_isProved_r5 : List Cond := [Cond.initialized RX7, Cond.code yX7_add cX7_add 2 none, Cond.fieldLink RX7 15 "Latticework$Row" "count" "I", Cond.fieldLink RX7 11 "Latticework$Row" "formula" "[I", Cond.methodLink RX5 47 yX5_isClosed, Cond.instanceMethod yX5_isClosed, Cond.selects RX5 yX5_isClosed yX5_isClosed, Cond.code yX5_isClosed cX5_isClosed 5 (some .boolean), Cond.fieldLink RX5 59 "Latticework$Row" "formula" "[I", Cond.fieldLink RX5 24 "Latticework$Prover" "formulas" "LLatticework$FormulaTable;", Cond.methodLink RX5 63 yX1_isTakenApart, Cond.instanceMethod yX1_isTakenApart, Cond.selects RX1 yX1_isTakenApart yX1_isTakenApart, Cond.initialized RX1, Cond.code yX1_isTakenApart cX1_isTakenApart 2 (some .boolean), Cond.fieldLink RX1 9 "Latticework$FormulaTable" "kind" "[I", Cond.methodLink RX5 68 yX5_isTrue, Cond.instanceMethod yX5_isTrue, Cond.selects RX5 yX5_isTrue yX5_isTrue, Cond.code yX5_isTrue cX5_isTrue 2 (some .boolean), Cond.fieldLink RX5 75 "Latticework$FormulaTable" "kind" "[I", Cond.fieldLink RX5 20 "Latticework$Prover" "terms" "LLatticework$TermTable;", Cond.fieldLink RX5 78 "Latticework$TermTable" "normal" "[J", Cond.fieldLink RX5 84 "Latticework$FormulaTable" "first" "[I"]
def wsX10_isProved_r6 : List Cond := [Cond.fieldLink RX5 87 "Latticework$FormulaTable" "second" "[I", Cond.methodLink RX5 71 yX5_isAmong, Cond.instanceMethod yX5_isAmong, Cond.selects RX5 yX5_isAmong yX5_isAmong, Cond.code yX5_isAmong cX5_isAmong 4 (some .boolean), Cond.methodLink RX5 90 yX5_isSameAtom, Cond.instanceMethod yX5_isSameAtom, Cond.selects RX5 yX5_isSameAtom yX5_isSameAtom, Cond.code yX5_isSameAtom cX5_isSameAtom 11 (some .boolean), Cond.methodLink RX5 51 yX5_takeApart, Cond.instanceMethod yX5_takeApart, Cond.selects RX5 yX5_takeApart yX5_takeApart, Cond.code yX5_takeApart cX5_takeApart 3 (some .int), Cond.methodLink RX5 94 yX5_placeToTakeApart, Cond.instanceMethod yX5_placeToTakeApart, Cond.selects RX5 yX5_placeToTakeApart yX5_placeToTakeApart, Cond.code yX5_placeToTakeApart cX5_placeToTakeApart 3 (some .int), Cond.methodLink RX5 97 yX5_takeApartLeft, Cond.instanceMethod yX5_takeApartLeft, Cond.selects RX5 yX5_takeApartLeft yX5_takeApartLeft, Cond.code yX5_takeApartLeft cX5_takeApartLeft 6 (some .int), Cond.methodLink RX5 104 yX7_remove, Cond.instanceMethod yX7_remove, Cond.selects RX7 yX7_remove yX7_remove]
def wsX10_isProved_r7 : List Cond := [Cond.code yX7_remove cX7_remove 3 none, Cond.methodLink RX5 107 yX5_comeTwo, Cond.instanceMethod yX5_comeTwo, Cond.selects RX5 yX5_comeTwo yX5_comeTwo, Cond.code yX5_comeTwo cX5_comeTwo 7 (some .int), Cond.methodLink RX5 111 yX7_copy, Cond.instanceMethod yX7_copy, Cond.selects RX7 yX7_copy yX7_copy, Cond.code yX7_copy cX7_copy 3 none, Cond.methodLink RX5 101 yX5_takeApartRight, Cond.instanceMethod yX5_takeApartRight, Cond.selects RX5 yX5_takeApartRight yX5_takeApartRight, Cond.code yX5_takeApartRight cX5_takeApartRight 6 (some .int), Cond.methodLink RX5 55 yX5_atomsIn, Cond.instanceMethod yX5_atomsIn, Cond.selects RX5 yX5_atomsIn yX5_atomsIn, Cond.code yX5_atomsIn cX5_atomsIn 5 (some .int)]
def wsX10_isProved : List Cond := .code yX10_isProved cX10_isProved 2 (some .boolean) :: ((wsX10_isProved_r1 ++ (wsX10_isProved_r2 ++ (wsX10_isProved_r3 ++ (wsX10_isProved_r4 ++ (wsX10_isProved_r5 ++ (wsX10_isProved_r6 ++ wsX10_isProved_r7)))))) ++ wsX100 ++ wsX10 ++ wsX90 ++ wsX60 ++ wsX80 ++ wsX50 ++ wsX70 ++ (vx_atS RX10 129 "java/lang/IndexOutOfBoundsException" ["java/lang/RuntimeException", "java/lang/Exception"]).filter goodWord)
def wsX10_proof_r1 : List Cond := [Cond.classLink RX10 74 "java/lang/IllegalArgumentException", Cond.initialized "java/lang/IllegalArgumentException", Cond.fieldLink RX10 61 "Latticework" "prover" "LLatticework$Prover;", Cond.fieldLink RX10 237 "Latticework$Prover" "takenApart" "I", Cond.fieldLink RX10 240 "Latticework$Prover" "closed" "I", Cond.fieldLink RX10 243 "Latticework$Prover" "openAtoms" "I", Cond.methodLink RX10 225 yX10_needFormula, Cond.instanceMethod yX10_needFormula, Cond.selects RX10 yX10_needFormula yX10_needFormula, Cond.initialized RX10, Cond.code yX10_needFormula cX10_needFormula 2 none, Cond.classLink RX10 125 "java/lang/IndexOutOfBoundsException", Cond.initialized "java/lang/IndexOutOfBoundsException", Cond.fieldLink RX10 52 "Latticework" "formulaTable" "LLatticework$FormulaTable;", Cond.fieldLink RX10 224 "Latticework$FormulaTable" "count" "I", Cond.methodLink RX10 228 yX10_findNormalsOfEqualities, Cond.instanceMethod yX10_findNormalsOfEqualities, Cond.selects RX10 yX10_findNormalsOfEqualities yX10_findNormalsOfEqualities, Cond.code yX10_findNormalsOfEqualities cX10_findNormalsOfEqualities 2 none, Cond.fieldLink RX10 315 "Latticework$FormulaTable" "kind" "[I", Cond.fieldLink RX10 318 "Latticework$FormulaTable" "first" "[I", Cond.fieldLink RX10 321 "Latticework$FormulaTable" "second" "[I", Cond.methodLink RX10 302 yX10_findNormal, Cond.instanceMethod yX10_findNormal]
def wsX10_proof_r2 : List Cond := [Cond.selects RX10 yX10_findNormal yX10_findNormal, Cond.code yX10_findNormal cX10_findNormal 2 none, Cond.fieldLink RX10 45 "Latticework" "termTable" "LLatticework$TermTable;", Cond.fieldLink RX10 305 "Latticework$TermTable" "normal" "[J", Cond.fieldLink RX10 10 "Latticework" "rewriting" "LLatticework$Rewriting;", Cond.fieldLink RX10 35 "Latticework" "state" "LLatticework$State;", Cond.fieldLink RX10 103 "Latticework$TermTable" "packed" "[J", Cond.fieldLink RX10 308 "Latticework$TermTable" "rewrites" "[I", Cond.fieldLink RX10 312 "Latticework$Rewriting" "times" "I", Cond.methodLink RX10 276 yX6_rewritten, Cond.instanceMethod yX6_rewritten, Cond.selects RX6 yX6_rewritten yX6_rewritten, Cond.initialized RX6, Cond.code yX6_rewritten cX6_rewritten 9 (some .long), Cond.fieldLink RX6 70 "Latticework$Rewriting" "times" "I", Cond.methodLink RX6 73 yX6_rewrittenOnce, Cond.instanceMethod yX6_rewrittenOnce, Cond.selects RX6 yX6_rewrittenOnce yX6_rewrittenOnce, Cond.code yX6_rewrittenOnce cX6_rewrittenOnce 12 (some .long), Cond.fieldLink RX6 54 "Latticework$State" "rules" "I", Cond.fieldLink RX6 60 "Latticework$State" "left" "[J", Cond.fieldLink RX6 63 "Latticework$State" "right" "[J", Cond.methodLink RX6 21 yX3_sizeOf, Cond.static yX3_sizeOf]
def wsX10_proof_r3 : List Cond := [Cond.initialized RX3, Cond.code yX3_sizeOf cX3_sizeOf 3 (some .int), Cond.methodLink RX6 46 yX6_doesFit, Cond.instanceMethod yX6_doesFit, Cond.selects RX6 yX6_doesFit yX6_doesFit, Cond.code yX6_doesFit cX6_doesFit 14 (some .boolean), Cond.fieldLink RX6 9 "Latticework$Rewriting" "put" "[J", Cond.methodLink RX6 15 yJ7_fill_d0a16, Cond.static yJ7_fill_d0a16, Cond.initialized RJ7, Cond.code yJ7_fill_d0a16 cJ7_fill_d0a16 5 none, Cond.methodLink RX6 27 yX3_codeAt, Cond.static yX3_codeAt, Cond.code yX3_codeAt cX3_codeAt 3 (some .int), Cond.methodLink RX6 31 yX3_isVariable, Cond.static yX3_isVariable, Cond.code yX3_isVariable cX3_isVariable 1 (some .boolean), Cond.methodLink RX6 35 yX3_variableOf, Cond.static yX3_variableOf, Cond.code yX3_variableOf cX3_variableOf 1 (some .int), Cond.methodLink RX6 39 yX3_endOf, Cond.static yX3_endOf, Cond.code yX3_endOf cX3_endOf 5 (some .int), Cond.methodLink RX3 11 yX3_codeAt]
def wsX10_proof_r4 : List Cond := [Cond.methodLink RX3 15 yX3_partsOf, Cond.static yX3_partsOf, Cond.code yX3_partsOf cX3_partsOf 1 (some .int), Cond.methodLink RX6 42 yX3_part, Cond.static yX3_part, Cond.code yX3_part cX3_part 4 (some .long), Cond.methodLink RX6 66 yX6_filled, Cond.instanceMethod yX6_filled, Cond.selects RX6 yX6_filled yX6_filled, Cond.code yX6_filled cX6_filled 8 (some .long), Cond.methodLink RX6 50 yX3_joined, Cond.static yX3_joined, Cond.code yX3_joined cX3_joined 4 (some .long), Cond.methodLink RX3 19 yX3_sizeOf, Cond.methodLink RX10 231 yX5_prove, Cond.instanceMethod yX5_prove, Cond.selects RX5 yX5_prove yX5_prove, Cond.initialized RX5, Cond.code yX5_prove cX5_prove 7 (some .boolean), Cond.fieldLink RX5 29 "Latticework$Prover" "takenApart" "I", Cond.fieldLink RX5 33 "Latticework$Prover" "closed" "I", Cond.fieldLink RX5 36 "Latticework$Prover" "openAtoms" "I", Cond.fieldLink RX5 13 "Latticework$Prover" "left" "[LLatticework$Row;", Cond.fieldLink RX5 39 "Latticework$Row" "count" "I"]
def wsX10_proof_r5 : List Cond := [Cond.fieldLink RX5 17 "Latticework$Prover" "right" "[LLatticework$Row;", Cond.constant RX5 46 (1000000), Cond.methodLink RX5 42 yX7_add, Cond.instanceMethod yX7_add, Cond.selects RX7 yX7_add yX7_add, Cond.initialized RX7, Cond.code yX7_add cX7_add 2 none, Cond.fieldLink RX7 15 "Latticework$Row" "count" "I", Cond.fieldLink RX7 11 "Latticework$Row" "formula" "[I", Cond.methodLink RX5 47 yX5_isClosed, Cond.instanceMethod yX5_isClosed, Cond.selects RX5 yX5_isClosed yX5_isClosed, Cond.code yX5_isClosed cX5_isClosed 5 (some .boolean), Cond.fieldLink RX5 59 "Latticework$Row" "formula" "[I", Cond.fieldLink RX5 24 "Latticework$Prover" "formulas" "LLatticework$FormulaTable;", Cond.methodLink RX5 63 yX1_isTakenApart, Cond.instanceMethod yX1_isTakenApart, Cond.selects RX1 yX1_isTakenApart yX1_isTakenApart, Cond.initialized RX1, Cond.code yX1_isTakenApart cX1_isTakenApart 2 (some .boolean), Cond.fieldLink RX1 9 "Latticework$FormulaTable" "kind" "[I", Cond.methodLink RX5 68 yX5_isTrue, Cond.instanceMethod yX5_isTrue, Cond.selects RX5 yX5_isTrue yX5_isTrue]
def wsX10_proof_r6 : List Cond := [Cond.code yX5_isTrue cX5_isTrue 2 (some .boolean), Cond.fieldLink RX5 75 "Latticework$FormulaTable" "kind" "[I", Cond.fieldLink RX5 20 "Latticework$Prover" "terms" "LLatticework$TermTable;", Cond.fieldLink RX5 78 "Latticework$TermTable" "normal" "[J", Cond.fieldLink RX5 84 "Latticework$FormulaTable" "first" "[I", Cond.fieldLink RX5 87 "Latticework$FormulaTable" "second" "[I", Cond.methodLink RX5 71 yX5_isAmong, Cond.instanceMethod yX5_isAmong, Cond.selects RX5 yX5_isAmong yX5_isAmong, Cond.code yX5_isAmong cX5_isAmong 4 (some .boolean), Cond.methodLink RX5 90 yX5_isSameAtom, Cond.instanceMethod yX5_isSameAtom, Cond.selects RX5 yX5_isSameAtom yX5_isSameAtom, Cond.code yX5_isSameAtom cX5_isSameAtom 11 (some .boolean), Cond.methodLink RX5 51 yX5_takeApart, Cond.instanceMethod yX5_takeApart, Cond.selects RX5 yX5_takeApart yX5_takeApart, Cond.code yX5_takeApart cX5_takeApart 3 (some .int), Cond.methodLink RX5 94 yX5_placeToTakeApart, Cond.instanceMethod yX5_placeToTakeApart, Cond.selects RX5 yX5_placeToTakeApart yX5_placeToTakeApart, Cond.code yX5_placeToTakeApart cX5_placeToTakeApart 3 (some .int), Cond.methodLink RX5 97 yX5_takeApartLeft, Cond.instanceMethod yX5_takeApartLeft]
def wsX10_proof_r7 : List Cond := [Cond.selects RX5 yX5_takeApartLeft yX5_takeApartLeft, Cond.code yX5_takeApartLeft cX5_takeApartLeft 6 (some .int), Cond.methodLink RX5 104 yX7_remove, Cond.instanceMethod yX7_remove, Cond.selects RX7 yX7_remove yX7_remove, Cond.code yX7_remove cX7_remove 3 none, Cond.methodLink RX5 107 yX5_comeTwo, Cond.instanceMethod yX5_comeTwo, Cond.selects RX5 yX5_comeTwo yX5_comeTwo, Cond.code yX5_comeTwo cX5_comeTwo 7 (some .int), Cond.methodLink RX5 111 yX7_copy, Cond.instanceMethod yX7_copy, Cond.selects RX7 yX7_copy yX7_copy, Cond.code yX7_copy cX7_copy 3 none, Cond.methodLink RX5 101 yX5_takeApartRight, Cond.instanceMethod yX5_takeApartRight, Cond.selects RX5 yX5_takeApartRight yX5_takeApartRight, Cond.code yX5_takeApartRight cX5_takeApartRight 6 (some .int), Cond.methodLink RX5 55 yX5_atomsIn, Cond.instanceMethod yX5_atomsIn, Cond.selects RX5 yX5_atomsIn yX5_atomsIn, Cond.code yX5_atomsIn cX5_atomsIn 5 (some .int)]
def wsX10_proof : List Cond := .code yX10_proof cX10_proof 3 (some .int) :: ((wsX10_proof_r1 ++ (wsX10_proof_r2 ++ (wsX10_proof_r3 ++ (wsX10_proof_r4 ++ (wsX10_proof_r5 ++ (wsX10_proof_r6 ++ wsX10_proof_r7)))))) ++ wsX100 ++ wsX50 ++ wsX10 ++ wsX90 ++ wsX60 ++ wsX80 ++ wsX70 ++ (vx_atS RX10 78 "java/lang/IllegalArgumentException" ["java/lang/RuntimeException", "java/lang/Exception"]).filter goodWord ++ (vx_atS RX10 129 "java/lang/IndexOutOfBoundsException" ["java/lang/RuntimeException", "java/lang/Exception"]).filter goodWord)
def wsX10_needLine : List Cond := .code yX10_needLine cX10_needLine 2 none :: ([.classLink RX10 125 "java/lang/IndexOutOfBoundsException", .initialized "java/lang/IndexOutOfBoundsException", .fieldLink RX10 70 "Latticework" "proofLines" "LLatticework$ProofLines;", .fieldLink RX10 260 "Latticework$ProofLines" "count" "I"] ++ wsX100 ++ wsX40 ++ (vx_atS RX10 129 "java/lang/IndexOutOfBoundsException" ["java/lang/RuntimeException", "java/lang/Exception"]).filter goodWord)
def wsX10_line_r1 : List Cond := [Cond.classLink RX10 74 "java/lang/IllegalArgumentException", Cond.initialized "java/lang/IllegalArgumentException", Cond.classLink RX10 152 "java/lang/IllegalStateException", Cond.initialized "java/lang/IllegalStateException", Cond.fieldLink RX10 70 "Latticework" "proofLines" "LLatticework$ProofLines;", Cond.methodLink RX10 225 yX10_needFormula, Cond.instanceMethod yX10_needFormula, Cond.selects RX10 yX10_needFormula yX10_needFormula, Cond.initialized RX10, Cond.code yX10_needFormula cX10_needFormula 2 none, Cond.classLink RX10 125 "java/lang/IndexOutOfBoundsException", Cond.initialized "java/lang/IndexOutOfBoundsException", Cond.fieldLink RX10 52 "Latticework" "formulaTable" "LLatticework$FormulaTable;", Cond.fieldLink RX10 224 "Latticework$FormulaTable" "count" "I", Cond.methodLink RX10 246 yX4_linesNamedBy, Cond.static yX4_linesNamedBy, Cond.initialized RX4, Cond.code yX4_linesNamedBy cX4_linesNamedBy 1 (some .int), Cond.methodLink RX10 249 yX10_needLine, Cond.instanceMethod yX10_needLine, Cond.selects RX10 yX10_needLine yX10_needLine, Cond.code yX10_needLine cX10_needLine 2 none, Cond.fieldLink RX10 260 "Latticework$ProofLines" "count" "I", Cond.methodLink RX10 254 yX4_add]
def wsX10_line_r2 : List Cond := [Cond.instanceMethod yX4_add, Cond.selects RX4 yX4_add yX4_add, Cond.code yX4_add cX4_add 6 (some .int), Cond.fieldLink RX4 39 "Latticework$ProofLines" "count" "I", Cond.fieldLink RX4 9 "Latticework$ProofLines" "formula" "[I", Cond.fieldLink RX4 15 "Latticework$ProofLines" "reason" "[I", Cond.fieldLink RX4 18 "Latticework$ProofLines" "x" "[I", Cond.fieldLink RX4 21 "Latticework$ProofLines" "y" "[I", Cond.fieldLink RX4 24 "Latticework$ProofLines" "givenLines" "[I", Cond.methodLink RX4 43 yX4_linesNamedBy, Cond.methodLink RX4 47 yX4_givenBelow, Cond.instanceMethod yX4_givenBelow, Cond.selects RX4 yX4_givenBelow yX4_givenBelow, Cond.code yX4_givenBelow cX4_givenBelow 3 (some .int)]
def wsX10_line : List Cond := .code yX10_line cX10_line 7 (some .int) :: ((wsX10_line_r1 ++ wsX10_line_r2) ++ wsX100 ++ wsX10 ++ wsX40 ++ (vx_atS RX10 78 "java/lang/IllegalArgumentException" ["java/lang/RuntimeException", "java/lang/Exception"]).filter goodWord ++ (vx_atS RX10 156 "java/lang/IllegalStateException" ["java/lang/RuntimeException", "java/lang/Exception"]).filter goodWord ++ (vx_atS RX10 129 "java/lang/IndexOutOfBoundsException" ["java/lang/RuntimeException", "java/lang/Exception"]).filter goodWord)
def wsX10_isRight_r1 : List Cond := [Cond.fieldLink RX10 70 "Latticework" "proofLines" "LLatticework$ProofLines;", Cond.fieldLink RX10 266 "Latticework$ProofLines" "right" "[Z", Cond.methodLink RX10 249 yX10_needLine, Cond.instanceMethod yX10_needLine, Cond.selects RX10 yX10_needLine yX10_needLine, Cond.initialized RX10, Cond.code yX10_needLine cX10_needLine 2 none, Cond.classLink RX10 125 "java/lang/IndexOutOfBoundsException", Cond.initialized "java/lang/IndexOutOfBoundsException", Cond.fieldLink RX10 260 "Latticework$ProofLines" "count" "I", Cond.methodLink RX10 228 yX10_findNormalsOfEqualities, Cond.instanceMethod yX10_findNormalsOfEqualities, Cond.selects RX10 yX10_findNormalsOfEqualities yX10_findNormalsOfEqualities, Cond.code yX10_findNormalsOfEqualities cX10_findNormalsOfEqualities 2 none, Cond.fieldLink RX10 52 "Latticework" "formulaTable" "LLatticework$FormulaTable;", Cond.fieldLink RX10 224 "Latticework$FormulaTable" "count" "I", Cond.fieldLink RX10 315 "Latticework$FormulaTable" "kind" "[I", Cond.fieldLink RX10 318 "Latticework$FormulaTable" "first" "[I", Cond.fieldLink RX10 321 "Latticework$FormulaTable" "second" "[I", Cond.methodLink RX10 302 yX10_findNormal, Cond.instanceMethod yX10_findNormal, Cond.selects RX10 yX10_findNormal yX10_findNormal, Cond.code yX10_findNormal cX10_findNormal 2 none, Cond.fieldLink RX10 45 "Latticework" "termTable" "LLatticework$TermTable;"]
def wsX10_isRight_r2 : List Cond := [Cond.fieldLink RX10 305 "Latticework$TermTable" "normal" "[J", Cond.fieldLink RX10 10 "Latticework" "rewriting" "LLatticework$Rewriting;", Cond.fieldLink RX10 35 "Latticework" "state" "LLatticework$State;", Cond.fieldLink RX10 103 "Latticework$TermTable" "packed" "[J", Cond.fieldLink RX10 308 "Latticework$TermTable" "rewrites" "[I", Cond.fieldLink RX10 312 "Latticework$Rewriting" "times" "I", Cond.methodLink RX10 276 yX6_rewritten, Cond.instanceMethod yX6_rewritten, Cond.selects RX6 yX6_rewritten yX6_rewritten, Cond.initialized RX6, Cond.code yX6_rewritten cX6_rewritten 9 (some .long), Cond.fieldLink RX6 70 "Latticework$Rewriting" "times" "I", Cond.methodLink RX6 73 yX6_rewrittenOnce, Cond.instanceMethod yX6_rewrittenOnce, Cond.selects RX6 yX6_rewrittenOnce yX6_rewrittenOnce, Cond.code yX6_rewrittenOnce cX6_rewrittenOnce 12 (some .long), Cond.fieldLink RX6 54 "Latticework$State" "rules" "I", Cond.fieldLink RX6 60 "Latticework$State" "left" "[J", Cond.fieldLink RX6 63 "Latticework$State" "right" "[J", Cond.methodLink RX6 21 yX3_sizeOf, Cond.static yX3_sizeOf, Cond.initialized RX3, Cond.code yX3_sizeOf cX3_sizeOf 3 (some .int), Cond.methodLink RX6 46 yX6_doesFit]
def wsX10_isRight_r3 : List Cond := [Cond.instanceMethod yX6_doesFit, Cond.selects RX6 yX6_doesFit yX6_doesFit, Cond.code yX6_doesFit cX6_doesFit 14 (some .boolean), Cond.fieldLink RX6 9 "Latticework$Rewriting" "put" "[J", Cond.methodLink RX6 15 yJ7_fill_d0a16, Cond.static yJ7_fill_d0a16, Cond.initialized RJ7, Cond.code yJ7_fill_d0a16 cJ7_fill_d0a16 5 none, Cond.methodLink RX6 27 yX3_codeAt, Cond.static yX3_codeAt, Cond.code yX3_codeAt cX3_codeAt 3 (some .int), Cond.methodLink RX6 31 yX3_isVariable, Cond.static yX3_isVariable, Cond.code yX3_isVariable cX3_isVariable 1 (some .boolean), Cond.methodLink RX6 35 yX3_variableOf, Cond.static yX3_variableOf, Cond.code yX3_variableOf cX3_variableOf 1 (some .int), Cond.methodLink RX6 39 yX3_endOf, Cond.static yX3_endOf, Cond.code yX3_endOf cX3_endOf 5 (some .int), Cond.methodLink RX3 11 yX3_codeAt, Cond.methodLink RX3 15 yX3_partsOf, Cond.static yX3_partsOf, Cond.code yX3_partsOf cX3_partsOf 1 (some .int)]
def wsX10_isRight_r4 : List Cond := [Cond.methodLink RX6 42 yX3_part, Cond.static yX3_part, Cond.code yX3_part cX3_part 4 (some .long), Cond.methodLink RX6 66 yX6_filled, Cond.instanceMethod yX6_filled, Cond.selects RX6 yX6_filled yX6_filled, Cond.code yX6_filled cX6_filled 8 (some .long), Cond.methodLink RX6 50 yX3_joined, Cond.static yX3_joined, Cond.code yX3_joined cX3_joined 4 (some .long), Cond.methodLink RX3 19 yX3_sizeOf, Cond.methodLink RX10 263 yX4_checkUpTo, Cond.instanceMethod yX4_checkUpTo, Cond.selects RX4 yX4_checkUpTo yX4_checkUpTo, Cond.initialized RX4, Cond.code yX4_checkUpTo cX4_checkUpTo 4 none, Cond.fieldLink RX4 39 "Latticework$ProofLines" "count" "I", Cond.fieldLink RX4 15 "Latticework$ProofLines" "reason" "[I", Cond.fieldLink RX4 27 "Latticework$ProofLines" "right" "[Z", Cond.fieldLink RX4 18 "Latticework$ProofLines" "x" "[I", Cond.fieldLink RX4 21 "Latticework$ProofLines" "y" "[I", Cond.methodLink RX4 43 yX4_linesNamedBy, Cond.static yX4_linesNamedBy, Cond.code yX4_linesNamedBy cX4_linesNamedBy 1 (some .int)]
def wsX10_isRight_r5 : List Cond := [Cond.methodLink RX4 55 yX4_doesReasonHold, Cond.instanceMethod yX4_doesReasonHold, Cond.selects RX4 yX4_doesReasonHold yX4_doesReasonHold, Cond.code yX4_doesReasonHold cX4_doesReasonHold 5 (some .boolean), Cond.fieldLink RX4 9 "Latticework$ProofLines" "formula" "[I", Cond.fieldLink RX4 31 "Latticework$ProofLines" "formulas" "LLatticework$FormulaTable;", Cond.fieldLink RX4 63 "Latticework$FormulaTable" "kind" "[I", Cond.fieldLink RX4 68 "Latticework$FormulaTable" "first" "[I", Cond.fieldLink RX4 71 "Latticework$FormulaTable" "second" "[I", Cond.fieldLink RX4 35 "Latticework$ProofLines" "prover" "LLatticework$Prover;", Cond.methodLink RX4 59 yX4_isMadeOf, Cond.instanceMethod yX4_isMadeOf, Cond.selects RX4 yX4_isMadeOf yX4_isMadeOf, Cond.code yX4_isMadeOf cX4_isMadeOf 5 (some .boolean), Cond.methodLink RX4 74 yX5_isTrue, Cond.instanceMethod yX5_isTrue, Cond.selects RX5 yX5_isTrue yX5_isTrue, Cond.initialized RX5, Cond.code yX5_isTrue cX5_isTrue 2 (some .boolean), Cond.fieldLink RX5 24 "Latticework$Prover" "formulas" "LLatticework$FormulaTable;", Cond.fieldLink RX5 75 "Latticework$FormulaTable" "kind" "[I", Cond.fieldLink RX5 20 "Latticework$Prover" "terms" "LLatticework$TermTable;", Cond.fieldLink RX5 78 "Latticework$TermTable" "normal" "[J", Cond.fieldLink RX5 84 "Latticework$FormulaTable" "first" "[I"]
def wsX10_isRight_r6 : List Cond := [Cond.fieldLink RX5 87 "Latticework$FormulaTable" "second" "[I", Cond.methodLink RX4 79 yX5_prove, Cond.instanceMethod yX5_prove, Cond.selects RX5 yX5_prove yX5_prove, Cond.code yX5_prove cX5_prove 7 (some .boolean), Cond.fieldLink RX5 29 "Latticework$Prover" "takenApart" "I", Cond.fieldLink RX5 33 "Latticework$Prover" "closed" "I", Cond.fieldLink RX5 36 "Latticework$Prover" "openAtoms" "I", Cond.fieldLink RX5 13 "Latticework$Prover" "left" "[LLatticework$Row;", Cond.fieldLink RX5 39 "Latticework$Row" "count" "I", Cond.fieldLink RX5 17 "Latticework$Prover" "right" "[LLatticework$Row;", Cond.constant RX5 46 (1000000), Cond.methodLink RX5 42 yX7_add, Cond.instanceMethod yX7_add, Cond.selects RX7 yX7_add yX7_add, Cond.initialized RX7, Cond.code yX7_add cX7_add 2 none, Cond.fieldLink RX7 15 "Latticework$Row" "count" "I", Cond.fieldLink RX7 11 "Latticework$Row" "formula" "[I", Cond.methodLink RX5 47 yX5_isClosed, Cond.instanceMethod yX5_isClosed, Cond.selects RX5 yX5_isClosed yX5_isClosed, Cond.code yX5_isClosed cX5_isClosed 5 (some .boolean), Cond.fieldLink RX5 59 "Latticework$Row" "formula" "[I"]
def wsX10_isRight_r7 : List Cond := [Cond.methodLink RX5 63 yX1_isTakenApart, Cond.instanceMethod yX1_isTakenApart, Cond.selects RX1 yX1_isTakenApart yX1_isTakenApart, Cond.initialized RX1, Cond.code yX1_isTakenApart cX1_isTakenApart 2 (some .boolean), Cond.fieldLink RX1 9 "Latticework$FormulaTable" "kind" "[I", Cond.methodLink RX5 68 yX5_isTrue, Cond.methodLink RX5 71 yX5_isAmong, Cond.instanceMethod yX5_isAmong, Cond.selects RX5 yX5_isAmong yX5_isAmong, Cond.code yX5_isAmong cX5_isAmong 4 (some .boolean), Cond.methodLink RX5 90 yX5_isSameAtom, Cond.instanceMethod yX5_isSameAtom, Cond.selects RX5 yX5_isSameAtom yX5_isSameAtom, Cond.code yX5_isSameAtom cX5_isSameAtom 11 (some .boolean), Cond.methodLink RX5 51 yX5_takeApart, Cond.instanceMethod yX5_takeApart, Cond.selects RX5 yX5_takeApart yX5_takeApart, Cond.code yX5_takeApart cX5_takeApart 3 (some .int), Cond.methodLink RX5 94 yX5_placeToTakeApart, Cond.instanceMethod yX5_placeToTakeApart, Cond.selects RX5 yX5_placeToTakeApart yX5_placeToTakeApart, Cond.code yX5_placeToTakeApart cX5_placeToTakeApart 3 (some .int), Cond.methodLink RX5 97 yX5_takeApartLeft]
def wsX10_isRight_r8 : List Cond := [Cond.instanceMethod yX5_takeApartLeft, Cond.selects RX5 yX5_takeApartLeft yX5_takeApartLeft, Cond.code yX5_takeApartLeft cX5_takeApartLeft 6 (some .int), Cond.methodLink RX5 104 yX7_remove, Cond.instanceMethod yX7_remove, Cond.selects RX7 yX7_remove yX7_remove, Cond.code yX7_remove cX7_remove 3 none, Cond.methodLink RX5 107 yX5_comeTwo, Cond.instanceMethod yX5_comeTwo, Cond.selects RX5 yX5_comeTwo yX5_comeTwo, Cond.code yX5_comeTwo cX5_comeTwo 7 (some .int), Cond.methodLink RX5 111 yX7_copy, Cond.instanceMethod yX7_copy, Cond.selects RX7 yX7_copy yX7_copy, Cond.code yX7_copy cX7_copy 3 none, Cond.methodLink RX5 101 yX5_takeApartRight, Cond.instanceMethod yX5_takeApartRight, Cond.selects RX5 yX5_takeApartRight yX5_takeApartRight, Cond.code yX5_takeApartRight cX5_takeApartRight 6 (some .int), Cond.methodLink RX5 55 yX5_atomsIn, Cond.instanceMethod yX5_atomsIn, Cond.selects RX5 yX5_atomsIn yX5_atomsIn, Cond.code yX5_atomsIn cX5_atomsIn 5 (some .int)]
def wsX10_isRight : List Cond := .code yX10_isRight cX10_isRight 2 (some .boolean) :: ((wsX10_isRight_r1 ++ (wsX10_isRight_r2 ++ (wsX10_isRight_r3 ++ (wsX10_isRight_r4 ++ (wsX10_isRight_r5 ++ (wsX10_isRight_r6 ++ (wsX10_isRight_r7 ++ wsX10_isRight_r8))))))) ++ wsX100 ++ wsX40 ++ wsX10 ++ wsX90 ++ wsX60 ++ wsX80 ++ wsX50 ++ wsX70 ++ (vx_atS RX10 129 "java/lang/IndexOutOfBoundsException" ["java/lang/RuntimeException", "java/lang/Exception"]).filter goodWord)
def wsX10_given : List Cond := .code yX10_given cX10_given 2 (some .int) :: ([.fieldLink RX10 70 "Latticework" "proofLines" "LLatticework$ProofLines;", .methodLink RX10 249 yX10_needLine, .instanceMethod yX10_needLine, .selects RX10 yX10_needLine yX10_needLine, .initialized RX10, .code yX10_needLine cX10_needLine 2 none, .classLink RX10 125 "java/lang/IndexOutOfBoundsException", .initialized "java/lang/IndexOutOfBoundsException", .fieldLink RX10 260 "Latticework$ProofLines" "count" "I", .methodLink RX10 269 yX4_givenUnder, .instanceMethod yX4_givenUnder, .selects RX4 yX4_givenUnder yX4_givenUnder, .initialized RX4, .code yX4_givenUnder cX4_givenUnder 2 (some .int), .fieldLink RX4 24 "Latticework$ProofLines" "givenLines" "[I", .methodLink RX4 50 yJ6_bitCount_0f7a4, .static yJ6_bitCount_0f7a4, .initialized RJ6, .code yJ6_bitCount_0f7a4 cJ6_bitCount_0f7a4 1 (some .int), .constant RJ6 265 (1431655765), .constant RJ6 266 (858993459), .constant RJ6 267 (252645135)] ++ wsX100 ++ wsX40 ++ (vx_atS RX10 129 "java/lang/IndexOutOfBoundsException" ["java/lang/RuntimeException", "java/lang/Exception"]).filter goodWord)
def wsX10_firstWrong_r1 : List Cond := [Cond.fieldLink RX10 70 "Latticework" "proofLines" "LLatticework$ProofLines;", Cond.fieldLink RX10 260 "Latticework$ProofLines" "count" "I", Cond.fieldLink RX10 266 "Latticework$ProofLines" "right" "[Z", Cond.methodLink RX10 228 yX10_findNormalsOfEqualities, Cond.instanceMethod yX10_findNormalsOfEqualities, Cond.selects RX10 yX10_findNormalsOfEqualities yX10_findNormalsOfEqualities, Cond.initialized RX10, Cond.code yX10_findNormalsOfEqualities cX10_findNormalsOfEqualities 2 none, Cond.fieldLink RX10 52 "Latticework" "formulaTable" "LLatticework$FormulaTable;", Cond.fieldLink RX10 224 "Latticework$FormulaTable" "count" "I", Cond.fieldLink RX10 315 "Latticework$FormulaTable" "kind" "[I", Cond.fieldLink RX10 318 "Latticework$FormulaTable" "first" "[I", Cond.fieldLink RX10 321 "Latticework$FormulaTable" "second" "[I", Cond.methodLink RX10 302 yX10_findNormal, Cond.instanceMethod yX10_findNormal, Cond.selects RX10 yX10_findNormal yX10_findNormal, Cond.code yX10_findNormal cX10_findNormal 2 none, Cond.fieldLink RX10 45 "Latticework" "termTable" "LLatticework$TermTable;", Cond.fieldLink RX10 305 "Latticework$TermTable" "normal" "[J", Cond.fieldLink RX10 10 "Latticework" "rewriting" "LLatticework$Rewriting;", Cond.fieldLink RX10 35 "Latticework" "state" "LLatticework$State;", Cond.fieldLink RX10 103 "Latticework$TermTable" "packed" "[J", Cond.fieldLink RX10 308 "Latticework$TermTable" "rewrites" "[I", Cond.fieldLink RX10 312 "Latticework$Rewriting" "times" "I"]
def wsX10_firstWrong_r2 : List Cond := [Cond.methodLink RX10 276 yX6_rewritten, Cond.instanceMethod yX6_rewritten, Cond.selects RX6 yX6_rewritten yX6_rewritten, Cond.initialized RX6, Cond.code yX6_rewritten cX6_rewritten 9 (some .long), Cond.fieldLink RX6 70 "Latticework$Rewriting" "times" "I", Cond.methodLink RX6 73 yX6_rewrittenOnce, Cond.instanceMethod yX6_rewrittenOnce, Cond.selects RX6 yX6_rewrittenOnce yX6_rewrittenOnce, Cond.code yX6_rewrittenOnce cX6_rewrittenOnce 12 (some .long), Cond.fieldLink RX6 54 "Latticework$State" "rules" "I", Cond.fieldLink RX6 60 "Latticework$State" "left" "[J", Cond.fieldLink RX6 63 "Latticework$State" "right" "[J", Cond.methodLink RX6 21 yX3_sizeOf, Cond.static yX3_sizeOf, Cond.initialized RX3, Cond.code yX3_sizeOf cX3_sizeOf 3 (some .int), Cond.methodLink RX6 46 yX6_doesFit, Cond.instanceMethod yX6_doesFit, Cond.selects RX6 yX6_doesFit yX6_doesFit, Cond.code yX6_doesFit cX6_doesFit 14 (some .boolean), Cond.fieldLink RX6 9 "Latticework$Rewriting" "put" "[J", Cond.methodLink RX6 15 yJ7_fill_d0a16, Cond.static yJ7_fill_d0a16]
def wsX10_firstWrong_r3 : List Cond := [Cond.initialized RJ7, Cond.code yJ7_fill_d0a16 cJ7_fill_d0a16 5 none, Cond.methodLink RX6 27 yX3_codeAt, Cond.static yX3_codeAt, Cond.code yX3_codeAt cX3_codeAt 3 (some .int), Cond.methodLink RX6 31 yX3_isVariable, Cond.static yX3_isVariable, Cond.code yX3_isVariable cX3_isVariable 1 (some .boolean), Cond.methodLink RX6 35 yX3_variableOf, Cond.static yX3_variableOf, Cond.code yX3_variableOf cX3_variableOf 1 (some .int), Cond.methodLink RX6 39 yX3_endOf, Cond.static yX3_endOf, Cond.code yX3_endOf cX3_endOf 5 (some .int), Cond.methodLink RX3 11 yX3_codeAt, Cond.methodLink RX3 15 yX3_partsOf, Cond.static yX3_partsOf, Cond.code yX3_partsOf cX3_partsOf 1 (some .int), Cond.methodLink RX6 42 yX3_part, Cond.static yX3_part, Cond.code yX3_part cX3_part 4 (some .long), Cond.methodLink RX6 66 yX6_filled, Cond.instanceMethod yX6_filled, Cond.selects RX6 yX6_filled yX6_filled]
def wsX10_firstWrong_r4 : List Cond := [Cond.code yX6_filled cX6_filled 8 (some .long), Cond.methodLink RX6 50 yX3_joined, Cond.static yX3_joined, Cond.code yX3_joined cX3_joined 4 (some .long), Cond.methodLink RX3 19 yX3_sizeOf, Cond.methodLink RX10 263 yX4_checkUpTo, Cond.instanceMethod yX4_checkUpTo, Cond.selects RX4 yX4_checkUpTo yX4_checkUpTo, Cond.initialized RX4, Cond.code yX4_checkUpTo cX4_checkUpTo 4 none, Cond.fieldLink RX4 39 "Latticework$ProofLines" "count" "I", Cond.fieldLink RX4 15 "Latticework$ProofLines" "reason" "[I", Cond.fieldLink RX4 27 "Latticework$ProofLines" "right" "[Z", Cond.fieldLink RX4 18 "Latticework$ProofLines" "x" "[I", Cond.fieldLink RX4 21 "Latticework$ProofLines" "y" "[I", Cond.methodLink RX4 43 yX4_linesNamedBy, Cond.static yX4_linesNamedBy, Cond.code yX4_linesNamedBy cX4_linesNamedBy 1 (some .int), Cond.methodLink RX4 55 yX4_doesReasonHold, Cond.instanceMethod yX4_doesReasonHold, Cond.selects RX4 yX4_doesReasonHold yX4_doesReasonHold, Cond.code yX4_doesReasonHold cX4_doesReasonHold 5 (some .boolean), Cond.fieldLink RX4 9 "Latticework$ProofLines" "formula" "[I", Cond.fieldLink RX4 31 "Latticework$ProofLines" "formulas" "LLatticework$FormulaTable;"]
def wsX10_firstWrong_r5 : List Cond := [Cond.fieldLink RX4 63 "Latticework$FormulaTable" "kind" "[I", Cond.fieldLink RX4 68 "Latticework$FormulaTable" "first" "[I", Cond.fieldLink RX4 71 "Latticework$FormulaTable" "second" "[I", Cond.fieldLink RX4 35 "Latticework$ProofLines" "prover" "LLatticework$Prover;", Cond.methodLink RX4 59 yX4_isMadeOf, Cond.instanceMethod yX4_isMadeOf, Cond.selects RX4 yX4_isMadeOf yX4_isMadeOf, Cond.code yX4_isMadeOf cX4_isMadeOf 5 (some .boolean), Cond.methodLink RX4 74 yX5_isTrue, Cond.instanceMethod yX5_isTrue, Cond.selects RX5 yX5_isTrue yX5_isTrue, Cond.initialized RX5, Cond.code yX5_isTrue cX5_isTrue 2 (some .boolean), Cond.fieldLink RX5 24 "Latticework$Prover" "formulas" "LLatticework$FormulaTable;", Cond.fieldLink RX5 75 "Latticework$FormulaTable" "kind" "[I", Cond.fieldLink RX5 20 "Latticework$Prover" "terms" "LLatticework$TermTable;", Cond.fieldLink RX5 78 "Latticework$TermTable" "normal" "[J", Cond.fieldLink RX5 84 "Latticework$FormulaTable" "first" "[I", Cond.fieldLink RX5 87 "Latticework$FormulaTable" "second" "[I", Cond.methodLink RX4 79 yX5_prove, Cond.instanceMethod yX5_prove, Cond.selects RX5 yX5_prove yX5_prove, Cond.code yX5_prove cX5_prove 7 (some .boolean), Cond.fieldLink RX5 29 "Latticework$Prover" "takenApart" "I"]
def wsX10_firstWrong_r6 : List Cond := [Cond.fieldLink RX5 33 "Latticework$Prover" "closed" "I", Cond.fieldLink RX5 36 "Latticework$Prover" "openAtoms" "I", Cond.fieldLink RX5 13 "Latticework$Prover" "left" "[LLatticework$Row;", Cond.fieldLink RX5 39 "Latticework$Row" "count" "I", Cond.fieldLink RX5 17 "Latticework$Prover" "right" "[LLatticework$Row;", Cond.constant RX5 46 (1000000), Cond.methodLink RX5 42 yX7_add, Cond.instanceMethod yX7_add, Cond.selects RX7 yX7_add yX7_add, Cond.initialized RX7, Cond.code yX7_add cX7_add 2 none, Cond.fieldLink RX7 15 "Latticework$Row" "count" "I", Cond.fieldLink RX7 11 "Latticework$Row" "formula" "[I", Cond.methodLink RX5 47 yX5_isClosed, Cond.instanceMethod yX5_isClosed, Cond.selects RX5 yX5_isClosed yX5_isClosed, Cond.code yX5_isClosed cX5_isClosed 5 (some .boolean), Cond.fieldLink RX5 59 "Latticework$Row" "formula" "[I", Cond.methodLink RX5 63 yX1_isTakenApart, Cond.instanceMethod yX1_isTakenApart, Cond.selects RX1 yX1_isTakenApart yX1_isTakenApart, Cond.initialized RX1, Cond.code yX1_isTakenApart cX1_isTakenApart 2 (some .boolean), Cond.fieldLink RX1 9 "Latticework$FormulaTable" "kind" "[I"]
def wsX10_firstWrong_r7 : List Cond := [Cond.methodLink RX5 68 yX5_isTrue, Cond.methodLink RX5 71 yX5_isAmong, Cond.instanceMethod yX5_isAmong, Cond.selects RX5 yX5_isAmong yX5_isAmong, Cond.code yX5_isAmong cX5_isAmong 4 (some .boolean), Cond.methodLink RX5 90 yX5_isSameAtom, Cond.instanceMethod yX5_isSameAtom, Cond.selects RX5 yX5_isSameAtom yX5_isSameAtom, Cond.code yX5_isSameAtom cX5_isSameAtom 11 (some .boolean), Cond.methodLink RX5 51 yX5_takeApart, Cond.instanceMethod yX5_takeApart, Cond.selects RX5 yX5_takeApart yX5_takeApart, Cond.code yX5_takeApart cX5_takeApart 3 (some .int), Cond.methodLink RX5 94 yX5_placeToTakeApart, Cond.instanceMethod yX5_placeToTakeApart, Cond.selects RX5 yX5_placeToTakeApart yX5_placeToTakeApart, Cond.code yX5_placeToTakeApart cX5_placeToTakeApart 3 (some .int), Cond.methodLink RX5 97 yX5_takeApartLeft, Cond.instanceMethod yX5_takeApartLeft, Cond.selects RX5 yX5_takeApartLeft yX5_takeApartLeft, Cond.code yX5_takeApartLeft cX5_takeApartLeft 6 (some .int), Cond.methodLink RX5 104 yX7_remove, Cond.instanceMethod yX7_remove, Cond.selects RX7 yX7_remove yX7_remove]
def wsX10_firstWrong_r8 : List Cond := [Cond.code yX7_remove cX7_remove 3 none, Cond.methodLink RX5 107 yX5_comeTwo, Cond.instanceMethod yX5_comeTwo, Cond.selects RX5 yX5_comeTwo yX5_comeTwo, Cond.code yX5_comeTwo cX5_comeTwo 7 (some .int), Cond.methodLink RX5 111 yX7_copy, Cond.instanceMethod yX7_copy, Cond.selects RX7 yX7_copy yX7_copy, Cond.code yX7_copy cX7_copy 3 none, Cond.methodLink RX5 101 yX5_takeApartRight, Cond.instanceMethod yX5_takeApartRight, Cond.selects RX5 yX5_takeApartRight yX5_takeApartRight, Cond.code yX5_takeApartRight cX5_takeApartRight 6 (some .int), Cond.methodLink RX5 55 yX5_atomsIn, Cond.instanceMethod yX5_atomsIn, Cond.selects RX5 yX5_atomsIn yX5_atomsIn, Cond.code yX5_atomsIn cX5_atomsIn 5 (some .int)]
def wsX10_firstWrong : List Cond := .code yX10_firstWrong cX10_firstWrong 2 (some .int) :: ((wsX10_firstWrong_r1 ++ (wsX10_firstWrong_r2 ++ (wsX10_firstWrong_r3 ++ (wsX10_firstWrong_r4 ++ (wsX10_firstWrong_r5 ++ (wsX10_firstWrong_r6 ++ (wsX10_firstWrong_r7 ++ wsX10_firstWrong_r8))))))) ++ wsX100 ++ wsX40 ++ wsX10 ++ wsX90 ++ wsX60 ++ wsX80 ++ wsX50 ++ wsX70)
def wsX10_rulesAfter_r1 : List Cond := [Cond.fieldLink RX10 39 "Latticework" "trial" "LLatticework$State;", Cond.fieldLink RX10 35 "Latticework" "state" "LLatticework$State;", Cond.fieldLink RX10 28 "Latticework" "completing" "LLatticework$Completing;", Cond.fieldLink RX10 174 "Latticework$State" "rules" "I", Cond.methodLink RX10 164 yX10_needStepCount, Cond.instanceMethod yX10_needStepCount, Cond.selects RX10 yX10_needStepCount yX10_needStepCount, Cond.initialized RX10, Cond.code yX10_needStepCount cX10_needStepCount 2 none, Cond.classLink RX10 74 "java/lang/IllegalArgumentException", Cond.initialized "java/lang/IllegalArgumentException", Cond.methodLink RX10 272 yX8_copy, Cond.instanceMethod yX8_copy, Cond.selects RX8 yX8_copy yX8_copy, Cond.initialized RX8, Cond.code yX8_copy cX8_copy 2 none, Cond.fieldLink RX8 9 "Latticework$State" "left" "[J", Cond.methodLink RX8 24 arraycopyName, Cond.native arraycopyName, Cond.static arraycopyName, Cond.initialized "java/lang/System", Cond.fieldLink RX8 15 "Latticework$State" "right" "[J", Cond.fieldLink RX8 18 "Latticework$State" "one" "[J", Cond.fieldLink RX8 21 "Latticework$State" "other" "[J"]
def wsX10_rulesAfter_r2 : List Cond := [Cond.fieldLink RX8 30 "Latticework$State" "rules" "I", Cond.fieldLink RX8 34 "Latticework$State" "waiting" "I", Cond.fieldLink RX8 37 "Latticework$State" "aside" "I", Cond.fieldLink RX8 40 "Latticework$State" "done" "I", Cond.fieldLink RX8 43 "Latticework$State" "isStopped" "Z", Cond.methodLink RX10 167 yX0_doSteps, Cond.instanceMethod yX0_doSteps, Cond.selects RX0 yX0_doSteps yX0_doSteps, Cond.initialized RX0, Cond.code yX0_doSteps cX0_doSteps 4 none, Cond.fieldLink RX0 33 "Latticework$State" "waiting" "I", Cond.fieldLink RX0 37 "Latticework$State" "isStopped" "Z", Cond.fieldLink RX0 12 "Latticework$Completing" "before" "LLatticework$State;", Cond.fieldLink RX0 49 "Latticework$State" "done" "I", Cond.methodLink RX0 41 yX8_copy, Cond.methodLink RX0 45 yX0_doStep, Cond.instanceMethod yX0_doStep, Cond.selects RX0 yX0_doStep yX0_doStep, Cond.code yX0_doStep cX0_doStep 7 (some .boolean), Cond.fieldLink RX0 25 "Latticework$Completing" "rewriting" "LLatticework$Rewriting;", Cond.fieldLink RX0 52 "Latticework$State" "one" "[J", Cond.fieldLink RX0 61 "Latticework$State" "other" "[J", Cond.fieldLink RX0 73 "Latticework$State" "aside" "I", Cond.methodLink RX0 55 yX6_rewritten]
def wsX10_rulesAfter_r3 : List Cond := [Cond.instanceMethod yX6_rewritten, Cond.selects RX6 yX6_rewritten yX6_rewritten, Cond.initialized RX6, Cond.code yX6_rewritten cX6_rewritten 9 (some .long), Cond.fieldLink RX6 70 "Latticework$Rewriting" "times" "I", Cond.methodLink RX6 73 yX6_rewrittenOnce, Cond.instanceMethod yX6_rewrittenOnce, Cond.selects RX6 yX6_rewrittenOnce yX6_rewrittenOnce, Cond.code yX6_rewrittenOnce cX6_rewrittenOnce 12 (some .long), Cond.fieldLink RX6 54 "Latticework$State" "rules" "I", Cond.fieldLink RX6 60 "Latticework$State" "left" "[J", Cond.fieldLink RX6 63 "Latticework$State" "right" "[J", Cond.methodLink RX6 21 yX3_sizeOf, Cond.static yX3_sizeOf, Cond.initialized RX3, Cond.code yX3_sizeOf cX3_sizeOf 3 (some .int), Cond.methodLink RX6 46 yX6_doesFit, Cond.instanceMethod yX6_doesFit, Cond.selects RX6 yX6_doesFit yX6_doesFit, Cond.code yX6_doesFit cX6_doesFit 14 (some .boolean), Cond.fieldLink RX6 9 "Latticework$Rewriting" "put" "[J", Cond.methodLink RX6 15 yJ7_fill_d0a16, Cond.static yJ7_fill_d0a16, Cond.initialized RJ7]
def wsX10_rulesAfter_r4 : List Cond := [Cond.code yJ7_fill_d0a16 cJ7_fill_d0a16 5 none, Cond.methodLink RX6 27 yX3_codeAt, Cond.static yX3_codeAt, Cond.code yX3_codeAt cX3_codeAt 3 (some .int), Cond.methodLink RX6 31 yX3_isVariable, Cond.static yX3_isVariable, Cond.code yX3_isVariable cX3_isVariable 1 (some .boolean), Cond.methodLink RX6 35 yX3_variableOf, Cond.static yX3_variableOf, Cond.code yX3_variableOf cX3_variableOf 1 (some .int), Cond.methodLink RX6 39 yX3_endOf, Cond.static yX3_endOf, Cond.code yX3_endOf cX3_endOf 5 (some .int), Cond.methodLink RX3 11 yX3_codeAt, Cond.methodLink RX3 15 yX3_partsOf, Cond.static yX3_partsOf, Cond.code yX3_partsOf cX3_partsOf 1 (some .int), Cond.methodLink RX6 42 yX3_part, Cond.static yX3_part, Cond.code yX3_part cX3_part 4 (some .long), Cond.methodLink RX6 66 yX6_filled, Cond.instanceMethod yX6_filled, Cond.selects RX6 yX6_filled yX6_filled, Cond.code yX6_filled cX6_filled 8 (some .long)]
def wsX10_rulesAfter_r5 : List Cond := [Cond.methodLink RX6 50 yX3_joined, Cond.static yX3_joined, Cond.code yX3_joined cX3_joined 4 (some .long), Cond.methodLink RX3 19 yX3_sizeOf, Cond.methodLink RX0 64 yX8_removeFirstEquation, Cond.instanceMethod yX8_removeFirstEquation, Cond.selects RX8 yX8_removeFirstEquation yX8_removeFirstEquation, Cond.code yX8_removeFirstEquation cX8_removeFirstEquation 2 none, Cond.methodLink RX0 67 yX3_isGreater, Cond.static yX3_isGreater, Cond.code yX3_isGreater cX3_isGreater 16 (some .boolean), Cond.methodLink RX3 29 yX3_hasVariablesOf, Cond.static yX3_hasVariablesOf, Cond.code yX3_hasVariablesOf cX3_hasVariablesOf 6 (some .boolean), Cond.methodLink RX3 23 yX3_codeOfVariable, Cond.static yX3_codeOfVariable, Cond.code yX3_codeOfVariable cX3_codeOfVariable 1 (some .int), Cond.methodLink RX3 26 yX3_timesIn, Cond.static yX3_timesIn, Cond.code yX3_timesIn cX3_timesIn 5 (some .int), Cond.methodLink RX3 33 yX3_isVariable, Cond.methodLink RX3 37 yX3_endOf, Cond.methodLink RX3 40 yX3_part, Cond.methodLink RX0 76 yX8_addRule]
def wsX10_rulesAfter_r6 : List Cond := [Cond.instanceMethod yX8_addRule, Cond.selects RX8 yX8_addRule yX8_addRule, Cond.code yX8_addRule cX8_addRule 5 (some .boolean), Cond.methodLink RX0 79 yX0_takeRulesAway, Cond.instanceMethod yX0_takeRulesAway, Cond.selects RX0 yX0_takeRulesAway yX0_takeRulesAway, Cond.code yX0_takeRulesAway cX0_takeRulesAway 6 (some .boolean), Cond.fieldLink RX0 85 "Latticework$State" "left" "[J", Cond.fieldLink RX0 88 "Latticework$State" "rules" "I", Cond.fieldLink RX0 94 "Latticework$State" "right" "[J", Cond.methodLink RX0 91 yX6_doesFitSomewhere, Cond.instanceMethod yX6_doesFitSomewhere, Cond.selects RX6 yX6_doesFitSomewhere yX6_doesFitSomewhere, Cond.code yX6_doesFitSomewhere cX6_doesFitSomewhere 7 (some .boolean), Cond.methodLink RX0 97 yX8_addEquation, Cond.instanceMethod yX8_addEquation, Cond.selects RX8 yX8_addEquation yX8_addEquation, Cond.code yX8_addEquation cX8_addEquation 5 (some .boolean), Cond.methodLink RX0 100 yX8_removeRule, Cond.instanceMethod yX8_removeRule, Cond.selects RX8 yX8_removeRule yX8_removeRule, Cond.code yX8_removeRule cX8_removeRule 3 none, Cond.methodLink RX0 82 yX0_addOverlaps, Cond.instanceMethod yX0_addOverlaps]
def wsX10_rulesAfter_r7 : List Cond := [Cond.selects RX0 yX0_addOverlaps yX0_addOverlaps, Cond.code yX0_addOverlaps cX0_addOverlaps 8 (some .boolean), Cond.fieldLink RX0 18 "Latticework$Completing" "foundOne" "[J", Cond.fieldLink RX0 22 "Latticework$Completing" "foundOther" "[J", Cond.methodLink RX0 104 yX0_findOverlaps, Cond.instanceMethod yX0_findOverlaps, Cond.selects RX0 yX0_findOverlaps yX0_findOverlaps, Cond.code yX0_findOverlaps cX0_findOverlaps 13 (some .int), Cond.fieldLink RX0 29 "Latticework$Completing" "meeting" "LLatticework$Meeting;", Cond.methodLink RX0 108 yX2_clear, Cond.instanceMethod yX2_clear, Cond.selects RX2 yX2_clear yX2_clear, Cond.initialized RX2, Cond.code yX2_clear cX2_clear 2 none, Cond.fieldLink RX2 51 "Latticework$Meeting" "nodes" "I", Cond.fieldLink RX2 11 "Latticework$Meeting" "code" "[I", Cond.fieldLink RX2 15 "Latticework$Meeting" "first" "[I", Cond.fieldLink RX2 18 "Latticework$Meeting" "second" "[I", Cond.methodLink RX2 55 yX3_codeOfVariable, Cond.methodLink RX0 113 yX2_addTerm, Cond.instanceMethod yX2_addTerm, Cond.selects RX2 yX2_addTerm yX2_addTerm, Cond.code yX2_addTerm cX2_addTerm 8 (some .int), Cond.fieldLink RX2 33 "Latticework$Meeting" "places" "[I"]
def wsX10_rulesAfter_r8 : List Cond := [Cond.methodLink RX2 60 yX3_sizeOf, Cond.methodLink RX2 64 yX3_codeAt, Cond.methodLink RX2 67 yX3_isVariable, Cond.methodLink RX2 71 yX3_variableOf, Cond.methodLink RX2 74 yX3_partsOf, Cond.methodLink RX2 77 yX3_endOf, Cond.methodLink RX2 80 yX2_nodeAt, Cond.instanceMethod yX2_nodeAt, Cond.selects RX2 yX2_nodeAt yX2_nodeAt, Cond.code yX2_nodeAt cX2_nodeAt 2 (some .int), Cond.methodLink RX2 83 yX2_addNode, Cond.instanceMethod yX2_addNode, Cond.selects RX2 yX2_addNode yX2_addNode, Cond.code yX2_addNode cX2_addNode 4 (some .int), Cond.methodLink RX0 117 yX3_sizeOf, Cond.methodLink RX0 121 yX3_codeAt, Cond.methodLink RX0 124 yX3_isVariable, Cond.methodLink RX0 128 yX2_nodeAt, Cond.methodLink RX0 132 yX2_doMeet, Cond.instanceMethod yX2_doMeet, Cond.selects RX2 yX2_doMeet yX2_doMeet, Cond.code yX2_doMeet cX2_doMeet 4 (some .boolean), Cond.fieldLink RX2 21 "Latticework$Meeting" "leader" "[I", Cond.fieldLink RX2 24 "Latticework$Meeting" "size" "[I"]
def wsX10_rulesAfter_r9 : List Cond := [Cond.methodLink RX2 87 yX2_unite, Cond.instanceMethod yX2_unite, Cond.selects RX2 yX2_unite yX2_unite, Cond.code yX2_unite cX2_unite 7 (some .boolean), Cond.fieldLink RX2 27 "Latticework$Meeting" "pile" "[I", Cond.methodLink RX2 47 yX2_leaderOf, Cond.instanceMethod yX2_leaderOf, Cond.selects RX2 yX2_leaderOf yX2_leaderOf, Cond.code yX2_leaderOf cX2_leaderOf 4 (some .int), Cond.methodLink RX2 94 yX2_pilePair, Cond.instanceMethod yX2_pilePair, Cond.selects RX2 yX2_pilePair yX2_pilePair, Cond.code yX2_pilePair cX2_pilePair 4 (some .int), Cond.methodLink RX2 90 yX2_measure, Cond.instanceMethod yX2_measure, Cond.selects RX2 yX2_measure yX2_measure, Cond.code yX2_measure cX2_measure 7 (some .boolean), Cond.methodLink RX2 97 Lib.Math.max.name, Cond.static Lib.Math.max.name, Cond.initialized "java/lang/Math", Cond.code Lib.Math.max.name Lib.Math.max.code 2 (some .int), Cond.methodLink RX0 136 yX2_beginEquation, Cond.instanceMethod yX2_beginEquation, Cond.selects RX2 yX2_beginEquation yX2_beginEquation]
def wsX10_rulesAfter_r10 : List Cond := [Cond.code yX2_beginEquation cX2_beginEquation 1 none, Cond.fieldLink RX2 30 "Latticework$Meeting" "numberedAnew" "[I", Cond.fieldLink RX2 109 "Latticework$Meeting" "seen" "I", Cond.fieldLink RX2 112 "Latticework$Meeting" "written" "J", Cond.fieldLink RX2 116 "Latticework$Meeting" "length" "I", Cond.methodLink RX2 103 yJ7_fill_53178, Cond.static yJ7_fill_53178, Cond.code yJ7_fill_53178 cJ7_fill_53178 4 none, Cond.methodLink RX0 139 yX0_writeReplaced, Cond.instanceMethod yX0_writeReplaced, Cond.selects RX0 yX0_writeReplaced yX0_writeReplaced, Cond.code yX0_writeReplaced cX0_writeReplaced 10 (some .boolean), Cond.methodLink RX0 150 yX3_endOf, Cond.methodLink RX0 147 yX2_writeNode, Cond.instanceMethod yX2_writeNode, Cond.selects RX2 yX2_writeNode yX2_writeNode, Cond.code yX2_writeNode cX2_writeNode 6 (some .boolean), Cond.methodLink RX2 119 yX2_anewOf, Cond.instanceMethod yX2_anewOf, Cond.selects RX2 yX2_anewOf yX2_anewOf, Cond.code yX2_anewOf cX2_anewOf 2 (some .int), Cond.methodLink RX2 122 yX2_writeCode, Cond.instanceMethod yX2_writeCode, Cond.selects RX2 yX2_writeCode yX2_writeCode]
def wsX10_rulesAfter_r11 : List Cond := [Cond.code yX2_writeCode cX2_writeCode 2 (some .boolean), Cond.methodLink RX2 125 yX2_pileNode, Cond.instanceMethod yX2_pileNode, Cond.selects RX2 yX2_pileNode yX2_pileNode, Cond.code yX2_pileNode cX2_pileNode 3 (some .int), Cond.methodLink RX0 153 yX2_writeCode, Cond.methodLink RX0 143 yX2_takeSide, Cond.instanceMethod yX2_takeSide, Cond.selects RX2 yX2_takeSide yX2_takeSide, Cond.code yX2_takeSide cX2_takeSide 3 (some .long)]
def wsX10_rulesAfter : List Cond := .code yX10_rulesAfter cX10_rulesAfter 2 (some .int) :: ((wsX10_rulesAfter_r1 ++ (wsX10_rulesAfter_r2 ++ (wsX10_rulesAfter_r3 ++ (wsX10_rulesAfter_r4 ++ (wsX10_rulesAfter_r5 ++ (wsX10_rulesAfter_r6 ++ (wsX10_rulesAfter_r7 ++ (wsX10_rulesAfter_r8 ++ (wsX10_rulesAfter_r9 ++ (wsX10_rulesAfter_r10 ++ wsX10_rulesAfter_r11)))))))))) ++ wsX100 ++ wsX80 ++ wsX00 ++ wsX60 ++ wsX20 ++ (vx_atS RX10 78 "java/lang/IllegalArgumentException" ["java/lang/RuntimeException", "java/lang/Exception"]).filter goodWord)
def wsX10_sizeWithout_r1 : List Cond := [Cond.fieldLink RX10 10 "Latticework" "rewriting" "LLatticework$Rewriting;", Cond.fieldLink RX10 35 "Latticework" "state" "LLatticework$State;", Cond.fieldLink RX10 45 "Latticework" "termTable" "LLatticework$TermTable;", Cond.fieldLink RX10 103 "Latticework$TermTable" "packed" "[J", Cond.methodLink RX10 177 yX10_needRule, Cond.instanceMethod yX10_needRule, Cond.selects RX10 yX10_needRule yX10_needRule, Cond.initialized RX10, Cond.code yX10_needRule cX10_needRule 2 none, Cond.classLink RX10 125 "java/lang/IndexOutOfBoundsException", Cond.initialized "java/lang/IndexOutOfBoundsException", Cond.fieldLink RX10 174 "Latticework$State" "rules" "I", Cond.methodLink RX10 97 yX10_needTerm, Cond.instanceMethod yX10_needTerm, Cond.selects RX10 yX10_needTerm yX10_needTerm, Cond.code yX10_needTerm cX10_needTerm 2 none, Cond.fieldLink RX10 116 "Latticework$TermTable" "count" "I", Cond.methodLink RX10 276 yX6_rewritten, Cond.instanceMethod yX6_rewritten, Cond.selects RX6 yX6_rewritten yX6_rewritten, Cond.initialized RX6, Cond.code yX6_rewritten cX6_rewritten 9 (some .long), Cond.fieldLink RX6 70 "Latticework$Rewriting" "times" "I", Cond.methodLink RX6 73 yX6_rewrittenOnce]
def wsX10_sizeWithout_r2 : List Cond := [Cond.instanceMethod yX6_rewrittenOnce, Cond.selects RX6 yX6_rewrittenOnce yX6_rewrittenOnce, Cond.code yX6_rewrittenOnce cX6_rewrittenOnce 12 (some .long), Cond.fieldLink RX6 54 "Latticework$State" "rules" "I", Cond.fieldLink RX6 60 "Latticework$State" "left" "[J", Cond.fieldLink RX6 63 "Latticework$State" "right" "[J", Cond.methodLink RX6 21 yX3_sizeOf, Cond.static yX3_sizeOf, Cond.initialized RX3, Cond.code yX3_sizeOf cX3_sizeOf 3 (some .int), Cond.methodLink RX6 46 yX6_doesFit, Cond.instanceMethod yX6_doesFit, Cond.selects RX6 yX6_doesFit yX6_doesFit, Cond.code yX6_doesFit cX6_doesFit 14 (some .boolean), Cond.fieldLink RX6 9 "Latticework$Rewriting" "put" "[J", Cond.methodLink RX6 15 yJ7_fill_d0a16, Cond.static yJ7_fill_d0a16, Cond.initialized RJ7, Cond.code yJ7_fill_d0a16 cJ7_fill_d0a16 5 none, Cond.methodLink RX6 27 yX3_codeAt, Cond.static yX3_codeAt, Cond.code yX3_codeAt cX3_codeAt 3 (some .int), Cond.methodLink RX6 31 yX3_isVariable, Cond.static yX3_isVariable]
def wsX10_sizeWithout_r3 : List Cond := [Cond.code yX3_isVariable cX3_isVariable 1 (some .boolean), Cond.methodLink RX6 35 yX3_variableOf, Cond.static yX3_variableOf, Cond.code yX3_variableOf cX3_variableOf 1 (some .int), Cond.methodLink RX6 39 yX3_endOf, Cond.static yX3_endOf, Cond.code yX3_endOf cX3_endOf 5 (some .int), Cond.methodLink RX3 11 yX3_codeAt, Cond.methodLink RX3 15 yX3_partsOf, Cond.static yX3_partsOf, Cond.code yX3_partsOf cX3_partsOf 1 (some .int), Cond.methodLink RX6 42 yX3_part, Cond.static yX3_part, Cond.code yX3_part cX3_part 4 (some .long), Cond.methodLink RX6 66 yX6_filled, Cond.instanceMethod yX6_filled, Cond.selects RX6 yX6_filled yX6_filled, Cond.code yX6_filled cX6_filled 8 (some .long), Cond.methodLink RX6 50 yX3_joined, Cond.static yX3_joined, Cond.code yX3_joined cX3_joined 4 (some .long), Cond.methodLink RX3 19 yX3_sizeOf, Cond.methodLink RX10 107 yX3_sizeOf]
def wsX10_sizeWithout : List Cond := .code yX10_sizeWithout cX10_sizeWithout 3 (some .int) :: ((wsX10_sizeWithout_r1 ++ (wsX10_sizeWithout_r2 ++ wsX10_sizeWithout_r3)) ++ wsX100 ++ wsX90 ++ wsX80 ++ wsX60 ++ (vx_atS RX10 129 "java/lang/IndexOutOfBoundsException" ["java/lang/RuntimeException", "java/lang/Exception"]).filter goodWord)
def wsX10_mixed : List Cond := .code yX10_mixed cX10_mixed 4 (some .long) :: ([.constantLong RX10 324 (31)])
def wsX10_mixedTerm : List Cond := .code yX10_mixedTerm cX10_mixedTerm 8 (some .long) :: ([.methodLink RX10 107 yX3_sizeOf, .static yX3_sizeOf, .initialized RX3, .code yX3_sizeOf cX3_sizeOf 3 (some .int), .methodLink RX10 130 yX3_codeAt, .static yX3_codeAt, .code yX3_codeAt cX3_codeAt 3 (some .int), .methodLink RX10 134 yX3_toldOf, .static yX3_toldOf, .code yX3_toldOf cX3_toldOf 1 (some .int), .methodLink RX10 282 yX10_mixed, .static yX10_mixed, .initialized RX10, .code yX10_mixed cX10_mixed 4 (some .long), .constantLong RX10 324 (31)])
def wsX10_digest_r1 : List Cond := [Cond.constantLong RX10 280 (58092), Cond.fieldLink RX10 45 "Latticework" "termTable" "LLatticework$TermTable;", Cond.fieldLink RX10 116 "Latticework$TermTable" "count" "I", Cond.fieldLink RX10 35 "Latticework" "state" "LLatticework$State;", Cond.fieldLink RX10 174 "Latticework$State" "rules" "I", Cond.fieldLink RX10 188 "Latticework$State" "left" "[J", Cond.fieldLink RX10 191 "Latticework$State" "right" "[J", Cond.fieldLink RX10 103 "Latticework$TermTable" "packed" "[J", Cond.fieldLink RX10 52 "Latticework" "formulaTable" "LLatticework$FormulaTable;", Cond.fieldLink RX10 224 "Latticework$FormulaTable" "count" "I", Cond.fieldLink RX10 61 "Latticework" "prover" "LLatticework$Prover;", Cond.fieldLink RX10 237 "Latticework$Prover" "takenApart" "I", Cond.fieldLink RX10 240 "Latticework$Prover" "closed" "I", Cond.fieldLink RX10 243 "Latticework$Prover" "openAtoms" "I", Cond.fieldLink RX10 70 "Latticework" "proofLines" "LLatticework$ProofLines;", Cond.fieldLink RX10 260 "Latticework$ProofLines" "count" "I", Cond.fieldLink RX10 266 "Latticework$ProofLines" "right" "[Z", Cond.methodLink RX10 282 yX10_mixed, Cond.static yX10_mixed, Cond.initialized RX10, Cond.code yX10_mixed cX10_mixed 4 (some .long), Cond.constantLong RX10 324 (31), Cond.methodLink RX10 185 yX8_counted, Cond.instanceMethod yX8_counted]
def wsX10_digest_r2 : List Cond := [Cond.selects RX8 yX8_counted yX8_counted, Cond.initialized RX8, Cond.code yX8_counted cX8_counted 2 (some .int), Cond.fieldLink RX8 30 "Latticework$State" "rules" "I", Cond.fieldLink RX8 34 "Latticework$State" "waiting" "I", Cond.fieldLink RX8 37 "Latticework$State" "aside" "I", Cond.fieldLink RX8 40 "Latticework$State" "done" "I", Cond.fieldLink RX8 43 "Latticework$State" "isStopped" "Z", Cond.methodLink RX10 285 yX10_mixedTerm, Cond.static yX10_mixedTerm, Cond.code yX10_mixedTerm cX10_mixedTerm 8 (some .long), Cond.methodLink RX10 107 yX3_sizeOf, Cond.static yX3_sizeOf, Cond.initialized RX3, Cond.code yX3_sizeOf cX3_sizeOf 3 (some .int), Cond.methodLink RX10 130 yX3_codeAt, Cond.static yX3_codeAt, Cond.code yX3_codeAt cX3_codeAt 3 (some .int), Cond.methodLink RX10 134 yX3_toldOf, Cond.static yX3_toldOf, Cond.code yX3_toldOf cX3_toldOf 1 (some .int), Cond.methodLink RX10 198 yX10_rewritesOf, Cond.instanceMethod yX10_rewritesOf, Cond.selects RX10 yX10_rewritesOf yX10_rewritesOf]
def wsX10_digest_r3 : List Cond := [Cond.code yX10_rewritesOf cX10_rewritesOf 2 (some .int), Cond.fieldLink RX10 308 "Latticework$TermTable" "rewrites" "[I", Cond.methodLink RX10 302 yX10_findNormal, Cond.instanceMethod yX10_findNormal, Cond.selects RX10 yX10_findNormal yX10_findNormal, Cond.code yX10_findNormal cX10_findNormal 2 none, Cond.fieldLink RX10 305 "Latticework$TermTable" "normal" "[J", Cond.fieldLink RX10 10 "Latticework" "rewriting" "LLatticework$Rewriting;", Cond.fieldLink RX10 312 "Latticework$Rewriting" "times" "I", Cond.methodLink RX10 276 yX6_rewritten, Cond.instanceMethod yX6_rewritten, Cond.selects RX6 yX6_rewritten yX6_rewritten, Cond.initialized RX6, Cond.code yX6_rewritten cX6_rewritten 9 (some .long), Cond.fieldLink RX6 70 "Latticework$Rewriting" "times" "I", Cond.methodLink RX6 73 yX6_rewrittenOnce, Cond.instanceMethod yX6_rewrittenOnce, Cond.selects RX6 yX6_rewrittenOnce yX6_rewrittenOnce, Cond.code yX6_rewrittenOnce cX6_rewrittenOnce 12 (some .long), Cond.fieldLink RX6 54 "Latticework$State" "rules" "I", Cond.fieldLink RX6 60 "Latticework$State" "left" "[J", Cond.fieldLink RX6 63 "Latticework$State" "right" "[J", Cond.methodLink RX6 21 yX3_sizeOf, Cond.methodLink RX6 46 yX6_doesFit]
def wsX10_digest_r4 : List Cond := [Cond.instanceMethod yX6_doesFit, Cond.selects RX6 yX6_doesFit yX6_doesFit, Cond.code yX6_doesFit cX6_doesFit 14 (some .boolean), Cond.fieldLink RX6 9 "Latticework$Rewriting" "put" "[J", Cond.methodLink RX6 15 yJ7_fill_d0a16, Cond.static yJ7_fill_d0a16, Cond.initialized RJ7, Cond.code yJ7_fill_d0a16 cJ7_fill_d0a16 5 none, Cond.methodLink RX6 27 yX3_codeAt, Cond.methodLink RX6 31 yX3_isVariable, Cond.static yX3_isVariable, Cond.code yX3_isVariable cX3_isVariable 1 (some .boolean), Cond.methodLink RX6 35 yX3_variableOf, Cond.static yX3_variableOf, Cond.code yX3_variableOf cX3_variableOf 1 (some .int), Cond.methodLink RX6 39 yX3_endOf, Cond.static yX3_endOf, Cond.code yX3_endOf cX3_endOf 5 (some .int), Cond.methodLink RX3 11 yX3_codeAt, Cond.methodLink RX3 15 yX3_partsOf, Cond.static yX3_partsOf, Cond.code yX3_partsOf cX3_partsOf 1 (some .int), Cond.methodLink RX6 42 yX3_part, Cond.static yX3_part]
def wsX10_digest_r5 : List Cond := [Cond.code yX3_part cX3_part 4 (some .long), Cond.methodLink RX6 66 yX6_filled, Cond.instanceMethod yX6_filled, Cond.selects RX6 yX6_filled yX6_filled, Cond.code yX6_filled cX6_filled 8 (some .long), Cond.methodLink RX6 50 yX3_joined, Cond.static yX3_joined, Cond.code yX3_joined cX3_joined 4 (some .long), Cond.methodLink RX3 19 yX3_sizeOf, Cond.methodLink RX10 194 yX10_normalOf, Cond.instanceMethod yX10_normalOf, Cond.selects RX10 yX10_normalOf yX10_normalOf, Cond.code yX10_normalOf cX10_normalOf 2 (some .long), Cond.methodLink RX10 228 yX10_findNormalsOfEqualities, Cond.instanceMethod yX10_findNormalsOfEqualities, Cond.selects RX10 yX10_findNormalsOfEqualities yX10_findNormalsOfEqualities, Cond.code yX10_findNormalsOfEqualities cX10_findNormalsOfEqualities 2 none, Cond.fieldLink RX10 315 "Latticework$FormulaTable" "kind" "[I", Cond.fieldLink RX10 318 "Latticework$FormulaTable" "first" "[I", Cond.fieldLink RX10 321 "Latticework$FormulaTable" "second" "[I", Cond.methodLink RX10 231 yX5_prove, Cond.instanceMethod yX5_prove, Cond.selects RX5 yX5_prove yX5_prove, Cond.initialized RX5]
def wsX10_digest_r6 : List Cond := [Cond.code yX5_prove cX5_prove 7 (some .boolean), Cond.fieldLink RX5 29 "Latticework$Prover" "takenApart" "I", Cond.fieldLink RX5 33 "Latticework$Prover" "closed" "I", Cond.fieldLink RX5 36 "Latticework$Prover" "openAtoms" "I", Cond.fieldLink RX5 13 "Latticework$Prover" "left" "[LLatticework$Row;", Cond.fieldLink RX5 39 "Latticework$Row" "count" "I", Cond.fieldLink RX5 17 "Latticework$Prover" "right" "[LLatticework$Row;", Cond.constant RX5 46 (1000000), Cond.methodLink RX5 42 yX7_add, Cond.instanceMethod yX7_add, Cond.selects RX7 yX7_add yX7_add, Cond.initialized RX7, Cond.code yX7_add cX7_add 2 none, Cond.fieldLink RX7 15 "Latticework$Row" "count" "I", Cond.fieldLink RX7 11 "Latticework$Row" "formula" "[I", Cond.methodLink RX5 47 yX5_isClosed, Cond.instanceMethod yX5_isClosed, Cond.selects RX5 yX5_isClosed yX5_isClosed, Cond.code yX5_isClosed cX5_isClosed 5 (some .boolean), Cond.fieldLink RX5 59 "Latticework$Row" "formula" "[I", Cond.fieldLink RX5 24 "Latticework$Prover" "formulas" "LLatticework$FormulaTable;", Cond.methodLink RX5 63 yX1_isTakenApart, Cond.instanceMethod yX1_isTakenApart, Cond.selects RX1 yX1_isTakenApart yX1_isTakenApart]
def wsX10_digest_r7 : List Cond := [Cond.initialized RX1, Cond.code yX1_isTakenApart cX1_isTakenApart 2 (some .boolean), Cond.fieldLink RX1 9 "Latticework$FormulaTable" "kind" "[I", Cond.methodLink RX5 68 yX5_isTrue, Cond.instanceMethod yX5_isTrue, Cond.selects RX5 yX5_isTrue yX5_isTrue, Cond.code yX5_isTrue cX5_isTrue 2 (some .boolean), Cond.fieldLink RX5 75 "Latticework$FormulaTable" "kind" "[I", Cond.fieldLink RX5 20 "Latticework$Prover" "terms" "LLatticework$TermTable;", Cond.fieldLink RX5 78 "Latticework$TermTable" "normal" "[J", Cond.fieldLink RX5 84 "Latticework$FormulaTable" "first" "[I", Cond.fieldLink RX5 87 "Latticework$FormulaTable" "second" "[I", Cond.methodLink RX5 71 yX5_isAmong, Cond.instanceMethod yX5_isAmong, Cond.selects RX5 yX5_isAmong yX5_isAmong, Cond.code yX5_isAmong cX5_isAmong 4 (some .boolean), Cond.methodLink RX5 90 yX5_isSameAtom, Cond.instanceMethod yX5_isSameAtom, Cond.selects RX5 yX5_isSameAtom yX5_isSameAtom, Cond.code yX5_isSameAtom cX5_isSameAtom 11 (some .boolean), Cond.methodLink RX5 51 yX5_takeApart, Cond.instanceMethod yX5_takeApart, Cond.selects RX5 yX5_takeApart yX5_takeApart, Cond.code yX5_takeApart cX5_takeApart 3 (some .int)]
def wsX10_digest_r8 : List Cond := [Cond.methodLink RX5 94 yX5_placeToTakeApart, Cond.instanceMethod yX5_placeToTakeApart, Cond.selects RX5 yX5_placeToTakeApart yX5_placeToTakeApart, Cond.code yX5_placeToTakeApart cX5_placeToTakeApart 3 (some .int), Cond.methodLink RX5 97 yX5_takeApartLeft, Cond.instanceMethod yX5_takeApartLeft, Cond.selects RX5 yX5_takeApartLeft yX5_takeApartLeft, Cond.code yX5_takeApartLeft cX5_takeApartLeft 6 (some .int), Cond.methodLink RX5 104 yX7_remove, Cond.instanceMethod yX7_remove, Cond.selects RX7 yX7_remove yX7_remove, Cond.code yX7_remove cX7_remove 3 none, Cond.methodLink RX5 107 yX5_comeTwo, Cond.instanceMethod yX5_comeTwo, Cond.selects RX5 yX5_comeTwo yX5_comeTwo, Cond.code yX5_comeTwo cX5_comeTwo 7 (some .int), Cond.methodLink RX5 111 yX7_copy, Cond.instanceMethod yX7_copy, Cond.selects RX7 yX7_copy yX7_copy, Cond.code yX7_copy cX7_copy 3 none, Cond.methodLink RX5 101 yX5_takeApartRight, Cond.instanceMethod yX5_takeApartRight, Cond.selects RX5 yX5_takeApartRight yX5_takeApartRight, Cond.code yX5_takeApartRight cX5_takeApartRight 6 (some .int)]
def wsX10_digest_r9 : List Cond := [Cond.methodLink RX5 55 yX5_atomsIn, Cond.instanceMethod yX5_atomsIn, Cond.selects RX5 yX5_atomsIn yX5_atomsIn, Cond.code yX5_atomsIn cX5_atomsIn 5 (some .int), Cond.methodLink RX10 263 yX4_checkUpTo, Cond.instanceMethod yX4_checkUpTo, Cond.selects RX4 yX4_checkUpTo yX4_checkUpTo, Cond.initialized RX4, Cond.code yX4_checkUpTo cX4_checkUpTo 4 none, Cond.fieldLink RX4 39 "Latticework$ProofLines" "count" "I", Cond.fieldLink RX4 15 "Latticework$ProofLines" "reason" "[I", Cond.fieldLink RX4 27 "Latticework$ProofLines" "right" "[Z", Cond.fieldLink RX4 18 "Latticework$ProofLines" "x" "[I", Cond.fieldLink RX4 21 "Latticework$ProofLines" "y" "[I", Cond.methodLink RX4 43 yX4_linesNamedBy, Cond.static yX4_linesNamedBy, Cond.code yX4_linesNamedBy cX4_linesNamedBy 1 (some .int), Cond.methodLink RX4 55 yX4_doesReasonHold, Cond.instanceMethod yX4_doesReasonHold, Cond.selects RX4 yX4_doesReasonHold yX4_doesReasonHold, Cond.code yX4_doesReasonHold cX4_doesReasonHold 5 (some .boolean), Cond.fieldLink RX4 9 "Latticework$ProofLines" "formula" "[I", Cond.fieldLink RX4 31 "Latticework$ProofLines" "formulas" "LLatticework$FormulaTable;", Cond.fieldLink RX4 63 "Latticework$FormulaTable" "kind" "[I"]
def wsX10_digest_r10 : List Cond := [Cond.fieldLink RX4 68 "Latticework$FormulaTable" "first" "[I", Cond.fieldLink RX4 71 "Latticework$FormulaTable" "second" "[I", Cond.fieldLink RX4 35 "Latticework$ProofLines" "prover" "LLatticework$Prover;", Cond.methodLink RX4 59 yX4_isMadeOf, Cond.instanceMethod yX4_isMadeOf, Cond.selects RX4 yX4_isMadeOf yX4_isMadeOf, Cond.code yX4_isMadeOf cX4_isMadeOf 5 (some .boolean), Cond.methodLink RX4 74 yX5_isTrue, Cond.methodLink RX4 79 yX5_prove, Cond.methodLink RX10 269 yX4_givenUnder, Cond.instanceMethod yX4_givenUnder, Cond.selects RX4 yX4_givenUnder yX4_givenUnder, Cond.code yX4_givenUnder cX4_givenUnder 2 (some .int), Cond.fieldLink RX4 24 "Latticework$ProofLines" "givenLines" "[I", Cond.methodLink RX4 50 yJ6_bitCount_0f7a4, Cond.static yJ6_bitCount_0f7a4, Cond.initialized RJ6, Cond.code yJ6_bitCount_0f7a4 cJ6_bitCount_0f7a4 1 (some .int), Cond.constant RJ6 265 (1431655765), Cond.constant RJ6 266 (858993459), Cond.constant RJ6 267 (252645135)]
def wsX10_digest : List Cond := .code yX10_digest cX10_digest 4 (some .long) :: ((wsX10_digest_r1 ++ (wsX10_digest_r2 ++ (wsX10_digest_r3 ++ (wsX10_digest_r4 ++ (wsX10_digest_r5 ++ (wsX10_digest_r6 ++ (wsX10_digest_r7 ++ (wsX10_digest_r8 ++ (wsX10_digest_r9 ++ wsX10_digest_r10))))))))) ++ wsX100 ++ wsX90 ++ wsX80 ++ wsX10 ++ wsX50 ++ wsX40 ++ wsX60 ++ wsX70)
def wsJ9_max_7cf53 : List Cond := .code yJ9_max_7cf53 cJ9_max_7cf53 2 (some .int) :: ([])
def wsJ9_min_7cf53 : List Cond := .code yJ9_min_7cf53 cJ9_min_7cf53 2 (some .int) :: ([])
end
section
theorem dX3_codeOfSign_0 : decode cX3_codeOfSign 0 = .ok (.iload_n 0, 1) := by decide +kernel
theorem dX3_codeOfSign_1 : decode cX3_codeOfSign 1 = .ok (.iconst 1, 1) := by decide +kernel
theorem dX3_codeOfSign_2 : decode cX3_codeOfSign 2 = .ok (.iadd, 1) := by decide +kernel
theorem dX3_codeOfSign_3 : decode cX3_codeOfSign 3 = .ok (.ireturn, 1) := by decide +kernel
theorem dX3_codeOfVariable_0 : decode cX3_codeOfVariable 0 = .ok (.bipush 11, 2) := by decide +kernel
theorem dX3_codeOfVariable_2 : decode cX3_codeOfVariable 2 = .ok (.iload_n 0, 1) := by decide +kernel
theorem dX3_codeOfVariable_3 : decode cX3_codeOfVariable 3 = .ok (.iadd, 1) := by decide +kernel
theorem dX3_codeOfVariable_4 : decode cX3_codeOfVariable 4 = .ok (.ireturn, 1) := by decide +kernel
theorem dX3_toldOf_0 : decode cX3_toldOf 0 = .ok (.iload_n 0, 1) := by decide +kernel
theorem dX3_toldOf_1 : decode cX3_toldOf 1 = .ok (.iconst 1, 1) := by decide +kernel
theorem dX3_toldOf_2 : decode cX3_toldOf 2 = .ok (.isub, 1) := by decide +kernel
theorem dX3_toldOf_3 : decode cX3_toldOf 3 = .ok (.ireturn, 1) := by decide +kernel
theorem dX3_isVariable_0 : decode cX3_isVariable 0 = .ok (.iload_n 0, 1) := by decide +kernel
theorem dX3_isVariable_1 : decode cX3_isVariable 1 = .ok (.bipush 11, 2) := by decide +kernel
theorem dX3_isVariable_3 : decode cX3_isVariable 3 = .ok (.if_icmp .lt 13, 3) := by decide +kernel
theorem dX3_isVariable_6 : decode cX3_isVariable 6 = .ok (.iload_n 0, 1) := by decide +kernel
theorem dX3_isVariable_7 : decode cX3_isVariable 7 = .ok (.bipush 15, 2) := by decide +kernel
theorem dX3_isVariable_9 : decode cX3_isVariable 9 = .ok (.if_icmp .ge 7, 3) := by decide +kernel
theorem dX3_isVariable_12 : decode cX3_isVariable 12 = .ok (.iconst 1, 1) := by decide +kernel
theorem dX3_isVariable_13 : decode cX3_isVariable 13 = .ok (.goto 4, 3) := by decide +kernel
theorem dX3_isVariable_16 : decode cX3_isVariable 16 = .ok (.iconst 0, 1) := by decide +kernel
theorem dX3_isVariable_17 : decode cX3_isVariable 17 = .ok (.ireturn, 1) := by decide +kernel
theorem dX3_variableOf_0 : decode cX3_variableOf 0 = .ok (.iload_n 0, 1) := by decide +kernel
theorem dX3_variableOf_1 : decode cX3_variableOf 1 = .ok (.bipush 11, 2) := by decide +kernel
theorem dX3_variableOf_3 : decode cX3_variableOf 3 = .ok (.isub, 1) := by decide +kernel
theorem dX3_variableOf_4 : decode cX3_variableOf 4 = .ok (.ireturn, 1) := by decide +kernel
theorem dX3_partsOf_0 : decode cX3_partsOf 0 = .ok (.iload_n 0, 1) := by decide +kernel
theorem dX3_partsOf_1 : decode cX3_partsOf 1 = .ok (.tableswitch 35 3 6 #[31, 31, 33, 33], 31) := by decide +kernel
theorem dX3_partsOf_32 : decode cX3_partsOf 32 = .ok (.iconst 1, 1) := by decide +kernel
theorem dX3_partsOf_33 : decode cX3_partsOf 33 = .ok (.ireturn, 1) := by decide +kernel
theorem dX3_partsOf_34 : decode cX3_partsOf 34 = .ok (.iconst 2, 1) := by decide +kernel
theorem dX3_partsOf_35 : decode cX3_partsOf 35 = .ok (.ireturn, 1) := by decide +kernel
theorem dX3_partsOf_36 : decode cX3_partsOf 36 = .ok (.iconst 0, 1) := by decide +kernel
theorem dX3_partsOf_37 : decode cX3_partsOf 37 = .ok (.ireturn, 1) := by decide +kernel
theorem dX3_codeAt_0 : decode cX3_codeAt 0 = .ok (.lload_n 0, 1) := by decide +kernel
theorem dX3_codeAt_1 : decode cX3_codeAt 1 = .ok (.iconst 4, 1) := by decide +kernel
theorem dX3_codeAt_2 : decode cX3_codeAt 2 = .ok (.iload_n 2, 1) := by decide +kernel
theorem dX3_codeAt_3 : decode cX3_codeAt 3 = .ok (.imul, 1) := by decide +kernel
theorem dX3_codeAt_4 : decode cX3_codeAt 4 = .ok (.lushr, 1) := by decide +kernel
theorem dX3_codeAt_5 : decode cX3_codeAt 5 = .ok (.l2i, 1) := by decide +kernel
theorem dX3_codeAt_6 : decode cX3_codeAt 6 = .ok (.bipush 15, 2) := by decide +kernel
theorem dX3_codeAt_8 : decode cX3_codeAt 8 = .ok (.iand, 1) := by decide +kernel
theorem dX3_codeAt_9 : decode cX3_codeAt 9 = .ok (.ireturn, 1) := by decide +kernel
theorem dX3_sizeOf_0 : decode cX3_sizeOf 0 = .ok (.iconst 0, 1) := by decide +kernel
theorem dX3_sizeOf_1 : decode cX3_sizeOf 1 = .ok (.istore_n 2, 1) := by decide +kernel
theorem dX3_sizeOf_2 : decode cX3_sizeOf 2 = .ok (.iload_n 2, 1) := by decide +kernel
theorem dX3_sizeOf_3 : decode cX3_sizeOf 3 = .ok (.bipush 12, 2) := by decide +kernel
theorem dX3_sizeOf_5 : decode cX3_sizeOf 5 = .ok (.if_icmp .ge 19, 3) := by decide +kernel
theorem dX3_sizeOf_8 : decode cX3_sizeOf 8 = .ok (.lload_n 0, 1) := by decide +kernel
theorem dX3_sizeOf_9 : decode cX3_sizeOf 9 = .ok (.iconst 4, 1) := by decide +kernel
theorem dX3_sizeOf_10 : decode cX3_sizeOf 10 = .ok (.iload_n 2, 1) := by decide +kernel
theorem dX3_sizeOf_11 : decode cX3_sizeOf 11 = .ok (.imul, 1) := by decide +kernel
theorem dX3_sizeOf_12 : decode cX3_sizeOf 12 = .ok (.lushr, 1) := by decide +kernel
theorem dX3_sizeOf_13 : decode cX3_sizeOf 13 = .ok (.lconst 0, 1) := by decide +kernel
theorem dX3_sizeOf_14 : decode cX3_sizeOf 14 = .ok (.lcmp, 1) := by decide +kernel
theorem dX3_sizeOf_15 : decode cX3_sizeOf 15 = .ok (.ifCond .eq 9, 3) := by decide +kernel
theorem dX3_sizeOf_18 : decode cX3_sizeOf 18 = .ok (.iinc 2 1, 3) := by decide +kernel
theorem dX3_sizeOf_21 : decode cX3_sizeOf 21 = .ok (.goto (-19), 3) := by decide +kernel
theorem dX3_sizeOf_24 : decode cX3_sizeOf 24 = .ok (.iload_n 2, 1) := by decide +kernel
theorem dX3_sizeOf_25 : decode cX3_sizeOf 25 = .ok (.ireturn, 1) := by decide +kernel
set_option maxRecDepth 20000 in
theorem ggX3_endOf_X3_codeAt : GoodIn wsX3_endOf wsX3_codeAt := goodIn_r _ [4] (by decide +kernel) (by decide +kernel)
set_option maxRecDepth 20000 in
theorem gX3_endOf_X3_codeAt : GoodIn wsX3_endOf (va_wsS RX3 11 yX3_codeAt wsX3_codeAt) := goodIn_app (goodIn_of _ (by decide +kernel)) ggX3_endOf_X3_codeAt
set_option maxRecDepth 20000 in
theorem ggX3_endOf_X3_partsOf : GoodIn wsX3_endOf wsX3_partsOf := goodIn_r _ [7] (by decide +kernel) (by decide +kernel)
set_option maxRecDepth 20000 in
theorem gX3_endOf_X3_partsOf : GoodIn wsX3_endOf (va_wsS RX3 15 yX3_partsOf wsX3_partsOf) := goodIn_app (goodIn_of _ (by decide +kernel)) ggX3_endOf_X3_partsOf
theorem dX3_endOf_0 : decode cX3_endOf 0 = .ok (.iload_n 2, 1) := by decide +kernel
theorem dX3_endOf_1 : decode cX3_endOf 1 = .ok (.istore_n 3, 1) := by decide +kernel
theorem dX3_endOf_2 : decode cX3_endOf 2 = .ok (.iconst 1, 1) := by decide +kernel
theorem dX3_endOf_3 : decode cX3_endOf 3 = .ok (.istore 4, 2) := by decide +kernel
theorem dX3_endOf_5 : decode cX3_endOf 5 = .ok (.iload_n 3, 1) := by decide +kernel
theorem dX3_endOf_6 : decode cX3_endOf 6 = .ok (.bipush 12, 2) := by decide +kernel
theorem dX3_endOf_8 : decode cX3_endOf 8 = .ok (.if_icmp .ge 29, 3) := by decide +kernel
theorem dX3_endOf_11 : decode cX3_endOf 11 = .ok (.iload 4, 2) := by decide +kernel
theorem dX3_endOf_13 : decode cX3_endOf 13 = .ok (.ifCond .le 24, 3) := by decide +kernel
theorem dX3_endOf_16 : decode cX3_endOf 16 = .ok (.iload 4, 2) := by decide +kernel
theorem dX3_endOf_18 : decode cX3_endOf 18 = .ok (.lload_n 0, 1) := by decide +kernel
theorem dX3_endOf_19 : decode cX3_endOf 19 = .ok (.iload_n 3, 1) := by decide +kernel
theorem dX3_endOf_20 : decode cX3_endOf 20 = .ok (.invokestatic 11, 3) := by decide +kernel
theorem dX3_endOf_23 : decode cX3_endOf 23 = .ok (.invokestatic 15, 3) := by decide +kernel
theorem dX3_endOf_26 : decode cX3_endOf 26 = .ok (.iconst 1, 1) := by decide +kernel
theorem dX3_endOf_27 : decode cX3_endOf 27 = .ok (.isub, 1) := by decide +kernel
theorem dX3_endOf_28 : decode cX3_endOf 28 = .ok (.iadd, 1) := by decide +kernel
theorem dX3_endOf_29 : decode cX3_endOf 29 = .ok (.istore 4, 2) := by decide +kernel
theorem dX3_endOf_31 : decode cX3_endOf 31 = .ok (.iinc 3 1, 3) := by decide +kernel
theorem dX3_endOf_34 : decode cX3_endOf 34 = .ok (.goto (-29), 3) := by decide +kernel
theorem dX3_endOf_37 : decode cX3_endOf 37 = .ok (.iload_n 3, 1) := by decide +kernel
theorem dX3_endOf_38 : decode cX3_endOf 38 = .ok (.ireturn, 1) := by decide +kernel
theorem dX3_part_0 : decode cX3_part 0 = .ok (.lload_n 0, 1) := by decide +kernel
theorem dX3_part_1 : decode cX3_part 1 = .ok (.iconst 4, 1) := by decide +kernel
theorem dX3_part_2 : decode cX3_part 2 = .ok (.iload_n 2, 1) := by decide +kernel
theorem dX3_part_3 : decode cX3_part 3 = .ok (.imul, 1) := by decide +kernel
theorem dX3_part_4 : decode cX3_part 4 = .ok (.lushr, 1) := by decide +kernel
theorem dX3_part_5 : decode cX3_part 5 = .ok (.lconst 1, 1) := by decide +kernel
theorem dX3_part_6 : decode cX3_part 6 = .ok (.iconst 4, 1) := by decide +kernel
theorem dX3_part_7 : decode cX3_part 7 = .ok (.iload_n 3, 1) := by decide +kernel
theorem dX3_part_8 : decode cX3_part 8 = .ok (.iload_n 2, 1) := by decide +kernel
theorem dX3_part_9 : decode cX3_part 9 = .ok (.isub, 1) := by decide +kernel
theorem dX3_part_10 : decode cX3_part 10 = .ok (.imul, 1) := by decide +kernel
theorem dX3_part_11 : decode cX3_part 11 = .ok (.lshl, 1) := by decide +kernel
theorem dX3_part_12 : decode cX3_part 12 = .ok (.lconst 1, 1) := by decide +kernel
theorem dX3_part_13 : decode cX3_part 13 = .ok (.lsub, 1) := by decide +kernel
theorem dX3_part_14 : decode cX3_part 14 = .ok (.land, 1) := by decide +kernel
theorem dX3_part_15 : decode cX3_part 15 = .ok (.lreturn, 1) := by decide +kernel
set_option maxRecDepth 20000 in
theorem ggX3_joined_X3_sizeOf : GoodIn wsX3_joined wsX3_sizeOf := goodIn_r _ [4] (by decide +kernel) (by decide +kernel)
set_option maxRecDepth 20000 in
theorem gX3_joined_X3_sizeOf : GoodIn wsX3_joined (va_wsS RX3 19 yX3_sizeOf wsX3_sizeOf) := goodIn_app (goodIn_of _ (by decide +kernel)) ggX3_joined_X3_sizeOf
theorem dX3_joined_0 : decode cX3_joined 0 = .ok (.lload_n 0, 1) := by decide +kernel
theorem dX3_joined_1 : decode cX3_joined 1 = .ok (.lload_n 2, 1) := by decide +kernel
theorem dX3_joined_2 : decode cX3_joined 2 = .ok (.iconst 4, 1) := by decide +kernel
theorem dX3_joined_3 : decode cX3_joined 3 = .ok (.lload_n 0, 1) := by decide +kernel
theorem dX3_joined_4 : decode cX3_joined 4 = .ok (.invokestatic 19, 3) := by decide +kernel
theorem dX3_joined_7 : decode cX3_joined 7 = .ok (.imul, 1) := by decide +kernel
theorem dX3_joined_8 : decode cX3_joined 8 = .ok (.lshl, 1) := by decide +kernel
theorem dX3_joined_9 : decode cX3_joined 9 = .ok (.lor, 1) := by decide +kernel
theorem dX3_joined_10 : decode cX3_joined 10 = .ok (.lreturn, 1) := by decide +kernel
set_option maxRecDepth 20000 in
theorem ggX3_timesIn_X3_codeAt : GoodIn wsX3_timesIn wsX3_codeAt := goodIn_r _ [4] (by decide +kernel) (by decide +kernel)
set_option maxRecDepth 20000 in
theorem gX3_timesIn_X3_codeAt : GoodIn wsX3_timesIn (va_wsS RX3 11 yX3_codeAt wsX3_codeAt) := goodIn_app (goodIn_of _ (by decide +kernel)) ggX3_timesIn_X3_codeAt
theorem dX3_timesIn_0 : decode cX3_timesIn 0 = .ok (.iconst 0, 1) := by decide +kernel
theorem dX3_timesIn_1 : decode cX3_timesIn 1 = .ok (.istore_n 3, 1) := by decide +kernel
theorem dX3_timesIn_2 : decode cX3_timesIn 2 = .ok (.iconst 0, 1) := by decide +kernel
theorem dX3_timesIn_3 : decode cX3_timesIn 3 = .ok (.istore 4, 2) := by decide +kernel
theorem dX3_timesIn_5 : decode cX3_timesIn 5 = .ok (.iload 4, 2) := by decide +kernel
theorem dX3_timesIn_7 : decode cX3_timesIn 7 = .ok (.bipush 12, 2) := by decide +kernel
theorem dX3_timesIn_9 : decode cX3_timesIn 9 = .ok (.if_icmp .ge 22, 3) := by decide +kernel
theorem dX3_timesIn_12 : decode cX3_timesIn 12 = .ok (.lload_n 0, 1) := by decide +kernel
theorem dX3_timesIn_13 : decode cX3_timesIn 13 = .ok (.iload 4, 2) := by decide +kernel
theorem dX3_timesIn_15 : decode cX3_timesIn 15 = .ok (.invokestatic 11, 3) := by decide +kernel
theorem dX3_timesIn_18 : decode cX3_timesIn 18 = .ok (.iload_n 2, 1) := by decide +kernel
theorem dX3_timesIn_19 : decode cX3_timesIn 19 = .ok (.if_icmp .ne 6, 3) := by decide +kernel
theorem dX3_timesIn_22 : decode cX3_timesIn 22 = .ok (.iinc 3 1, 3) := by decide +kernel
theorem dX3_timesIn_25 : decode cX3_timesIn 25 = .ok (.iinc 4 1, 3) := by decide +kernel
theorem dX3_timesIn_28 : decode cX3_timesIn 28 = .ok (.goto (-23), 3) := by decide +kernel
theorem dX3_timesIn_31 : decode cX3_timesIn 31 = .ok (.iload_n 3, 1) := by decide +kernel
theorem dX3_timesIn_32 : decode cX3_timesIn 32 = .ok (.ireturn, 1) := by decide +kernel
set_option maxRecDepth 20000 in
theorem ggX3_variablesIn_X3_codeOfVariable : GoodIn wsX3_variablesIn wsX3_codeOfVariable := goodIn_r _ [4] (by decide +kernel) (by decide +kernel)
set_option maxRecDepth 20000 in
theorem gX3_variablesIn_X3_codeOfVariable : GoodIn wsX3_variablesIn (va_wsS RX3 23 yX3_codeOfVariable wsX3_codeOfVariable) := goodIn_app (goodIn_of _ (by decide +kernel)) ggX3_variablesIn_X3_codeOfVariable
set_option maxRecDepth 20000 in
theorem ggX3_variablesIn_X3_timesIn : GoodIn wsX3_variablesIn wsX3_timesIn := goodIn_r _ [7, 8, 9, 3, 10] (by decide +kernel) (by decide +kernel)
set_option maxRecDepth 20000 in
theorem gX3_variablesIn_X3_timesIn : GoodIn wsX3_variablesIn (va_wsS RX3 26 yX3_timesIn wsX3_timesIn) := goodIn_app (goodIn_of _ (by decide +kernel)) ggX3_variablesIn_X3_timesIn
theorem dX3_variablesIn_0 : decode cX3_variablesIn 0 = .ok (.iconst 0, 1) := by decide +kernel
theorem dX3_variablesIn_1 : decode cX3_variablesIn 1 = .ok (.istore_n 2, 1) := by decide +kernel
theorem dX3_variablesIn_2 : decode cX3_variablesIn 2 = .ok (.iconst 0, 1) := by decide +kernel
theorem dX3_variablesIn_3 : decode cX3_variablesIn 3 = .ok (.istore_n 3, 1) := by decide +kernel
theorem dX3_variablesIn_4 : decode cX3_variablesIn 4 = .ok (.iload_n 3, 1) := by decide +kernel
theorem dX3_variablesIn_5 : decode cX3_variablesIn 5 = .ok (.iconst 4, 1) := by decide +kernel
theorem dX3_variablesIn_6 : decode cX3_variablesIn 6 = .ok (.if_icmp .ge 23, 3) := by decide +kernel
theorem dX3_variablesIn_9 : decode cX3_variablesIn 9 = .ok (.lload_n 0, 1) := by decide +kernel
theorem dX3_variablesIn_10 : decode cX3_variablesIn 10 = .ok (.iload_n 3, 1) := by decide +kernel
theorem dX3_variablesIn_11 : decode cX3_variablesIn 11 = .ok (.invokestatic 23, 3) := by decide +kernel
theorem dX3_variablesIn_14 : decode cX3_variablesIn 14 = .ok (.invokestatic 26, 3) := by decide +kernel
theorem dX3_variablesIn_17 : decode cX3_variablesIn 17 = .ok (.ifCond .le 6, 3) := by decide +kernel
theorem dX3_variablesIn_20 : decode cX3_variablesIn 20 = .ok (.iinc 2 1, 3) := by decide +kernel
theorem dX3_variablesIn_23 : decode cX3_variablesIn 23 = .ok (.iinc 3 1, 3) := by decide +kernel
theorem dX3_variablesIn_26 : decode cX3_variablesIn 26 = .ok (.goto (-22), 3) := by decide +kernel
theorem dX3_variablesIn_29 : decode cX3_variablesIn 29 = .ok (.iload_n 2, 1) := by decide +kernel
theorem dX3_variablesIn_30 : decode cX3_variablesIn 30 = .ok (.ireturn, 1) := by decide +kernel
set_option maxRecDepth 20000 in
theorem ggX3_hasVariablesOf_X3_codeOfVariable : GoodIn wsX3_hasVariablesOf wsX3_codeOfVariable := goodIn_r _ [4] (by decide +kernel) (by decide +kernel)
set_option maxRecDepth 20000 in
theorem gX3_hasVariablesOf_X3_codeOfVariable : GoodIn wsX3_hasVariablesOf (va_wsS RX3 23 yX3_codeOfVariable wsX3_codeOfVariable) := goodIn_app (goodIn_of _ (by decide +kernel)) ggX3_hasVariablesOf_X3_codeOfVariable
set_option maxRecDepth 20000 in
theorem ggX3_hasVariablesOf_X3_timesIn : GoodIn wsX3_hasVariablesOf wsX3_timesIn := goodIn_r _ [7, 8, 9, 3, 10] (by decide +kernel) (by decide +kernel)
set_option maxRecDepth 20000 in
theorem gX3_hasVariablesOf_X3_timesIn : GoodIn wsX3_hasVariablesOf (va_wsS RX3 26 yX3_timesIn wsX3_timesIn) := goodIn_app (goodIn_of _ (by decide +kernel)) ggX3_hasVariablesOf_X3_timesIn
theorem dX3_hasVariablesOf_0 : decode cX3_hasVariablesOf 0 = .ok (.iconst 0, 1) := by decide +kernel
theorem dX3_hasVariablesOf_1 : decode cX3_hasVariablesOf 1 = .ok (.istore 4, 2) := by decide +kernel
theorem dX3_hasVariablesOf_3 : decode cX3_hasVariablesOf 3 = .ok (.iload 4, 2) := by decide +kernel
theorem dX3_hasVariablesOf_5 : decode cX3_hasVariablesOf 5 = .ok (.iconst 4, 1) := by decide +kernel
theorem dX3_hasVariablesOf_6 : decode cX3_hasVariablesOf 6 = .ok (.if_icmp .ge 33, 3) := by decide +kernel
theorem dX3_hasVariablesOf_9 : decode cX3_hasVariablesOf 9 = .ok (.iload 4, 2) := by decide +kernel
theorem dX3_hasVariablesOf_11 : decode cX3_hasVariablesOf 11 = .ok (.invokestatic 23, 3) := by decide +kernel
theorem dX3_hasVariablesOf_14 : decode cX3_hasVariablesOf 14 = .ok (.istore 5, 2) := by decide +kernel
theorem dX3_hasVariablesOf_16 : decode cX3_hasVariablesOf 16 = .ok (.lload_n 2, 1) := by decide +kernel
theorem dX3_hasVariablesOf_17 : decode cX3_hasVariablesOf 17 = .ok (.iload 5, 2) := by decide +kernel
theorem dX3_hasVariablesOf_19 : decode cX3_hasVariablesOf 19 = .ok (.invokestatic 26, 3) := by decide +kernel
theorem dX3_hasVariablesOf_22 : decode cX3_hasVariablesOf 22 = .ok (.lload_n 0, 1) := by decide +kernel
theorem dX3_hasVariablesOf_23 : decode cX3_hasVariablesOf 23 = .ok (.iload 5, 2) := by decide +kernel
theorem dX3_hasVariablesOf_25 : decode cX3_hasVariablesOf 25 = .ok (.invokestatic 26, 3) := by decide +kernel
theorem dX3_hasVariablesOf_28 : decode cX3_hasVariablesOf 28 = .ok (.if_icmp .le 5, 3) := by decide +kernel
theorem dX3_hasVariablesOf_31 : decode cX3_hasVariablesOf 31 = .ok (.iconst 0, 1) := by decide +kernel
theorem dX3_hasVariablesOf_32 : decode cX3_hasVariablesOf 32 = .ok (.ireturn, 1) := by decide +kernel
theorem dX3_hasVariablesOf_33 : decode cX3_hasVariablesOf 33 = .ok (.iinc 4 1, 3) := by decide +kernel
theorem dX3_hasVariablesOf_36 : decode cX3_hasVariablesOf 36 = .ok (.goto (-33), 3) := by decide +kernel
theorem dX3_hasVariablesOf_39 : decode cX3_hasVariablesOf 39 = .ok (.iconst 1, 1) := by decide +kernel
theorem dX3_hasVariablesOf_40 : decode cX3_hasVariablesOf 40 = .ok (.ireturn, 1) := by decide +kernel
set_option maxRecDepth 20000 in
theorem ggX3_isGreater_X3_hasVariablesOf : GoodIn wsX3_isGreater wsX3_hasVariablesOf := goodIn_r _ [4, 5, 6, 3, 7, 8, 9, 10, 11, 12, 13] (by decide +kernel) (by decide +kernel)
set_option maxRecDepth 20000 in
theorem gX3_isGreater_X3_hasVariablesOf : GoodIn wsX3_isGreater (va_wsS RX3 29 yX3_hasVariablesOf wsX3_hasVariablesOf) := goodIn_app (goodIn_of _ (by decide +kernel)) ggX3_isGreater_X3_hasVariablesOf
set_option maxRecDepth 20000 in
theorem ggX3_isGreater_X3_sizeOf : GoodIn wsX3_isGreater wsX3_sizeOf := goodIn_r _ [16] (by decide +kernel) (by decide +kernel)
set_option maxRecDepth 20000 in
theorem gX3_isGreater_X3_sizeOf : GoodIn wsX3_isGreater (va_wsS RX3 19 yX3_sizeOf wsX3_sizeOf) := goodIn_app (goodIn_of _ (by decide +kernel)) ggX3_isGreater_X3_sizeOf
set_option maxRecDepth 20000 in
theorem ggX3_isGreater_X3_codeAt : GoodIn wsX3_isGreater wsX3_codeAt := goodIn_r _ [13] (by decide +kernel) (by decide +kernel)
set_option maxRecDepth 20000 in
theorem gX3_isGreater_X3_codeAt : GoodIn wsX3_isGreater (va_wsS RX3 11 yX3_codeAt wsX3_codeAt) := goodIn_app (goodIn_of _ (by decide +kernel)) ggX3_isGreater_X3_codeAt
set_option maxRecDepth 20000 in
theorem ggX3_isGreater_X3_isVariable : GoodIn wsX3_isGreater wsX3_isVariable := goodIn_r _ [19] (by decide +kernel) (by decide +kernel)
set_option maxRecDepth 20000 in
theorem gX3_isGreater_X3_isVariable : GoodIn wsX3_isGreater (va_wsS RX3 33 yX3_isVariable wsX3_isVariable) := goodIn_app (goodIn_of _ (by decide +kernel)) ggX3_isGreater_X3_isVariable
set_option maxRecDepth 20000 in
theorem ggX3_isGreater_X3_endOf : GoodIn wsX3_isGreater wsX3_endOf := goodIn_r _ [22, 11, 12, 3, 13, 23, 24, 25] (by decide +kernel) (by decide +kernel)
set_option maxRecDepth 20000 in
theorem gX3_isGreater_X3_endOf : GoodIn wsX3_isGreater (va_wsS RX3 37 yX3_endOf wsX3_endOf) := goodIn_app (goodIn_of _ (by decide +kernel)) ggX3_isGreater_X3_endOf
set_option maxRecDepth 20000 in
theorem ggX3_isGreater_X3_part : GoodIn wsX3_isGreater wsX3_part := goodIn_r _ [28] (by decide +kernel) (by decide +kernel)
set_option maxRecDepth 20000 in
theorem gX3_isGreater_X3_part : GoodIn wsX3_isGreater (va_wsS RX3 40 yX3_part wsX3_part) := goodIn_app (goodIn_of _ (by decide +kernel)) ggX3_isGreater_X3_part
theorem dX3_isGreater_0 : decode cX3_isGreater 0 = .ok (.lload_n 0, 1) := by decide +kernel
theorem dX3_isGreater_1 : decode cX3_isGreater 1 = .ok (.lstore 4, 2) := by decide +kernel
theorem dX3_isGreater_3 : decode cX3_isGreater 3 = .ok (.lload_n 2, 1) := by decide +kernel
theorem dX3_isGreater_4 : decode cX3_isGreater 4 = .ok (.lstore 6, 2) := by decide +kernel
theorem dX3_isGreater_6 : decode cX3_isGreater 6 = .ok (.iconst 0, 1) := by decide +kernel
theorem dX3_isGreater_7 : decode cX3_isGreater 7 = .ok (.istore 8, 2) := by decide +kernel
theorem dX3_isGreater_9 : decode cX3_isGreater 9 = .ok (.iload 8, 2) := by decide +kernel
theorem dX3_isGreater_11 : decode cX3_isGreater 11 = .ok (.bipush 12, 2) := by decide +kernel
theorem dX3_isGreater_13 : decode cX3_isGreater 13 = .ok (.if_icmp .ge 216, 3) := by decide +kernel
theorem dX3_isGreater_16 : decode cX3_isGreater 16 = .ok (.lload 4, 2) := by decide +kernel
theorem dX3_isGreater_18 : decode cX3_isGreater 18 = .ok (.lload 6, 2) := by decide +kernel
theorem dX3_isGreater_20 : decode cX3_isGreater 20 = .ok (.lcmp, 1) := by decide +kernel
theorem dX3_isGreater_21 : decode cX3_isGreater 21 = .ok (.ifCond .eq 208, 3) := by decide +kernel
theorem dX3_isGreater_24 : decode cX3_isGreater 24 = .ok (.lload 4, 2) := by decide +kernel
theorem dX3_isGreater_26 : decode cX3_isGreater 26 = .ok (.lload 6, 2) := by decide +kernel
theorem dX3_isGreater_28 : decode cX3_isGreater 28 = .ok (.invokestatic 29, 3) := by decide +kernel
theorem dX3_isGreater_31 : decode cX3_isGreater 31 = .ok (.ifCond .ne 5, 3) := by decide +kernel
theorem dX3_isGreater_34 : decode cX3_isGreater 34 = .ok (.iconst 0, 1) := by decide +kernel
theorem dX3_isGreater_35 : decode cX3_isGreater 35 = .ok (.ireturn, 1) := by decide +kernel
theorem dX3_isGreater_36 : decode cX3_isGreater 36 = .ok (.lload 4, 2) := by decide +kernel
theorem dX3_isGreater_38 : decode cX3_isGreater 38 = .ok (.invokestatic 19, 3) := by decide +kernel
theorem dX3_isGreater_41 : decode cX3_isGreater 41 = .ok (.lload 6, 2) := by decide +kernel
theorem dX3_isGreater_43 : decode cX3_isGreater 43 = .ok (.invokestatic 19, 3) := by decide +kernel
theorem dX3_isGreater_46 : decode cX3_isGreater 46 = .ok (.isub, 1) := by decide +kernel
theorem dX3_isGreater_47 : decode cX3_isGreater 47 = .ok (.istore 9, 2) := by decide +kernel
theorem dX3_isGreater_49 : decode cX3_isGreater 49 = .ok (.iload 9, 2) := by decide +kernel
theorem dX3_isGreater_51 : decode cX3_isGreater 51 = .ok (.ifCond .eq 14, 3) := by decide +kernel
theorem dX3_isGreater_54 : decode cX3_isGreater 54 = .ok (.iload 9, 2) := by decide +kernel
theorem dX3_isGreater_56 : decode cX3_isGreater 56 = .ok (.ifCond .le 7, 3) := by decide +kernel
theorem dX3_isGreater_59 : decode cX3_isGreater 59 = .ok (.iconst 1, 1) := by decide +kernel
theorem dX3_isGreater_60 : decode cX3_isGreater 60 = .ok (.goto 4, 3) := by decide +kernel
theorem dX3_isGreater_63 : decode cX3_isGreater 63 = .ok (.iconst 0, 1) := by decide +kernel
theorem dX3_isGreater_64 : decode cX3_isGreater 64 = .ok (.ireturn, 1) := by decide +kernel
theorem dX3_isGreater_65 : decode cX3_isGreater 65 = .ok (.lload 4, 2) := by decide +kernel
theorem dX3_isGreater_67 : decode cX3_isGreater 67 = .ok (.iconst 0, 1) := by decide +kernel
theorem dX3_isGreater_68 : decode cX3_isGreater 68 = .ok (.invokestatic 11, 3) := by decide +kernel
theorem dX3_isGreater_71 : decode cX3_isGreater 71 = .ok (.istore 10, 2) := by decide +kernel
theorem dX3_isGreater_73 : decode cX3_isGreater 73 = .ok (.lload 6, 2) := by decide +kernel
theorem dX3_isGreater_75 : decode cX3_isGreater 75 = .ok (.iconst 0, 1) := by decide +kernel
theorem dX3_isGreater_76 : decode cX3_isGreater 76 = .ok (.invokestatic 11, 3) := by decide +kernel
theorem dX3_isGreater_79 : decode cX3_isGreater 79 = .ok (.istore 11, 2) := by decide +kernel
theorem dX3_isGreater_81 : decode cX3_isGreater 81 = .ok (.iload 10, 2) := by decide +kernel
theorem dX3_isGreater_83 : decode cX3_isGreater 83 = .ok (.invokestatic 33, 3) := by decide +kernel
theorem dX3_isGreater_86 : decode cX3_isGreater 86 = .ok (.ifCond .ne 11, 3) := by decide +kernel
theorem dX3_isGreater_89 : decode cX3_isGreater 89 = .ok (.iload 11, 2) := by decide +kernel
theorem dX3_isGreater_91 : decode cX3_isGreater 91 = .ok (.invokestatic 33, 3) := by decide +kernel
theorem dX3_isGreater_94 : decode cX3_isGreater 94 = .ok (.ifCond .eq 5, 3) := by decide +kernel
theorem dX3_isGreater_97 : decode cX3_isGreater 97 = .ok (.iconst 0, 1) := by decide +kernel
theorem dX3_isGreater_98 : decode cX3_isGreater 98 = .ok (.ireturn, 1) := by decide +kernel
theorem dX3_isGreater_99 : decode cX3_isGreater 99 = .ok (.iload 10, 2) := by decide +kernel
theorem dX3_isGreater_101 : decode cX3_isGreater 101 = .ok (.iload 11, 2) := by decide +kernel
theorem dX3_isGreater_103 : decode cX3_isGreater 103 = .ok (.if_icmp .eq 16, 3) := by decide +kernel
theorem dX3_isGreater_106 : decode cX3_isGreater 106 = .ok (.iload 10, 2) := by decide +kernel
theorem dX3_isGreater_108 : decode cX3_isGreater 108 = .ok (.iload 11, 2) := by decide +kernel
theorem dX3_isGreater_110 : decode cX3_isGreater 110 = .ok (.if_icmp .le 7, 3) := by decide +kernel
theorem dX3_isGreater_113 : decode cX3_isGreater 113 = .ok (.iconst 1, 1) := by decide +kernel
theorem dX3_isGreater_114 : decode cX3_isGreater 114 = .ok (.goto 4, 3) := by decide +kernel
theorem dX3_isGreater_117 : decode cX3_isGreater 117 = .ok (.iconst 0, 1) := by decide +kernel
theorem dX3_isGreater_118 : decode cX3_isGreater 118 = .ok (.ireturn, 1) := by decide +kernel
theorem dX3_isGreater_119 : decode cX3_isGreater 119 = .ok (.lload 4, 2) := by decide +kernel
theorem dX3_isGreater_121 : decode cX3_isGreater 121 = .ok (.iconst 1, 1) := by decide +kernel
theorem dX3_isGreater_122 : decode cX3_isGreater 122 = .ok (.invokestatic 37, 3) := by decide +kernel
theorem dX3_isGreater_125 : decode cX3_isGreater 125 = .ok (.istore 12, 2) := by decide +kernel
theorem dX3_isGreater_127 : decode cX3_isGreater 127 = .ok (.lload 6, 2) := by decide +kernel
theorem dX3_isGreater_129 : decode cX3_isGreater 129 = .ok (.iconst 1, 1) := by decide +kernel
theorem dX3_isGreater_130 : decode cX3_isGreater 130 = .ok (.invokestatic 37, 3) := by decide +kernel
theorem dX3_isGreater_133 : decode cX3_isGreater 133 = .ok (.istore 13, 2) := by decide +kernel
theorem dX3_isGreater_135 : decode cX3_isGreater 135 = .ok (.lload 4, 2) := by decide +kernel
theorem dX3_isGreater_137 : decode cX3_isGreater 137 = .ok (.iconst 1, 1) := by decide +kernel
theorem dX3_isGreater_138 : decode cX3_isGreater 138 = .ok (.iload 12, 2) := by decide +kernel
theorem dX3_isGreater_140 : decode cX3_isGreater 140 = .ok (.invokestatic 40, 3) := by decide +kernel
theorem dX3_isGreater_143 : decode cX3_isGreater 143 = .ok (.lload 6, 2) := by decide +kernel
theorem dX3_isGreater_145 : decode cX3_isGreater 145 = .ok (.iconst 1, 1) := by decide +kernel
theorem dX3_isGreater_146 : decode cX3_isGreater 146 = .ok (.iload 13, 2) := by decide +kernel
theorem dX3_isGreater_148 : decode cX3_isGreater 148 = .ok (.invokestatic 40, 3) := by decide +kernel
theorem dX3_isGreater_151 : decode cX3_isGreater 151 = .ok (.lcmp, 1) := by decide +kernel
theorem dX3_isGreater_152 : decode cX3_isGreater 152 = .ok (.ifCond .ne 7, 3) := by decide +kernel
theorem dX3_isGreater_155 : decode cX3_isGreater 155 = .ok (.iconst 1, 1) := by decide +kernel
theorem dX3_isGreater_156 : decode cX3_isGreater 156 = .ok (.goto 4, 3) := by decide +kernel
theorem dX3_isGreater_159 : decode cX3_isGreater 159 = .ok (.iconst 0, 1) := by decide +kernel
theorem dX3_isGreater_160 : decode cX3_isGreater 160 = .ok (.istore 14, 2) := by decide +kernel
theorem dX3_isGreater_162 : decode cX3_isGreater 162 = .ok (.lload 4, 2) := by decide +kernel
theorem dX3_isGreater_164 : decode cX3_isGreater 164 = .ok (.invokestatic 19, 3) := by decide +kernel
theorem dX3_isGreater_167 : decode cX3_isGreater 167 = .ok (.istore 15, 2) := by decide +kernel
theorem dX3_isGreater_169 : decode cX3_isGreater 169 = .ok (.iload 14, 2) := by decide +kernel
theorem dX3_isGreater_171 : decode cX3_isGreater 171 = .ok (.ifCond .eq 15, 3) := by decide +kernel
theorem dX3_isGreater_174 : decode cX3_isGreater 174 = .ok (.lload 4, 2) := by decide +kernel
theorem dX3_isGreater_176 : decode cX3_isGreater 176 = .ok (.iload 12, 2) := by decide +kernel
theorem dX3_isGreater_178 : decode cX3_isGreater 178 = .ok (.iload 15, 2) := by decide +kernel
theorem dX3_isGreater_180 : decode cX3_isGreater 180 = .ok (.invokestatic 40, 3) := by decide +kernel
theorem dX3_isGreater_183 : decode cX3_isGreater 183 = .ok (.goto 11, 3) := by decide +kernel
theorem dX3_isGreater_186 : decode cX3_isGreater 186 = .ok (.lload 4, 2) := by decide +kernel
theorem dX3_isGreater_188 : decode cX3_isGreater 188 = .ok (.iconst 1, 1) := by decide +kernel
theorem dX3_isGreater_189 : decode cX3_isGreater 189 = .ok (.iload 12, 2) := by decide +kernel
theorem dX3_isGreater_191 : decode cX3_isGreater 191 = .ok (.invokestatic 40, 3) := by decide +kernel
theorem dX3_isGreater_194 : decode cX3_isGreater 194 = .ok (.lstore 4, 2) := by decide +kernel
theorem dX3_isGreater_196 : decode cX3_isGreater 196 = .ok (.iload 14, 2) := by decide +kernel
theorem dX3_isGreater_198 : decode cX3_isGreater 198 = .ok (.ifCond .eq 15, 3) := by decide +kernel
theorem dX3_isGreater_201 : decode cX3_isGreater 201 = .ok (.lload 6, 2) := by decide +kernel
theorem dX3_isGreater_203 : decode cX3_isGreater 203 = .ok (.iload 13, 2) := by decide +kernel
theorem dX3_isGreater_205 : decode cX3_isGreater 205 = .ok (.iload 15, 2) := by decide +kernel
theorem dX3_isGreater_207 : decode cX3_isGreater 207 = .ok (.invokestatic 40, 3) := by decide +kernel
theorem dX3_isGreater_210 : decode cX3_isGreater 210 = .ok (.goto 11, 3) := by decide +kernel
theorem dX3_isGreater_213 : decode cX3_isGreater 213 = .ok (.lload 6, 2) := by decide +kernel
theorem dX3_isGreater_215 : decode cX3_isGreater 215 = .ok (.iconst 1, 1) := by decide +kernel
theorem dX3_isGreater_216 : decode cX3_isGreater 216 = .ok (.iload 13, 2) := by decide +kernel
theorem dX3_isGreater_218 : decode cX3_isGreater 218 = .ok (.invokestatic 40, 3) := by decide +kernel
theorem dX3_isGreater_221 : decode cX3_isGreater 221 = .ok (.lstore 6, 2) := by decide +kernel
theorem dX3_isGreater_223 : decode cX3_isGreater 223 = .ok (.iinc 8 1, 3) := by decide +kernel
theorem dX3_isGreater_226 : decode cX3_isGreater 226 = .ok (.goto (-217), 3) := by decide +kernel
theorem dX3_isGreater_229 : decode cX3_isGreater 229 = .ok (.iconst 0, 1) := by decide +kernel
theorem dX3_isGreater_230 : decode cX3_isGreater 230 = .ok (.ireturn, 1) := by decide +kernel
end
section
/-! what the methods of Packed answer, on words -/
def tw_parts (c : Nat) : Nat := if c = 3 ∨ c = 4 then 1 else if c = 5 ∨ c = 6 then 2 else 0
theorem tw_parts_le (c : Nat) : tw_parts c ≤ 2 := by
  unfold tw_parts
  split
  · decide
  · split <;> decide
/-- the place behind the terms that are still missing, from a place on, with so many places to go -/
def tw_go (w : List Nat) : Nat → Nat → Nat → Nat
  | 0, e, _ => e
  | f + 1, e, m => if m = 0 then e else tw_go w f (e + 1) (m + tw_parts (w.getD e 0) - 1)
def tw_end (w : List Nat) (p : Nat) : Nat := tw_go w (12 - p) p 1
theorem tw_go_le (w : List Nat) : ∀ (f e m : Nat), tw_go w f e m ≤ e + f
  | 0, e, _ => Nat.le_refl e
  | f + 1, e, m => by
    unfold tw_go
    split
    · omega
    · have := tw_go_le w f (e + 1) (m + tw_parts (w.getD e 0) - 1)
      omega
theorem tw_go_ge (w : List Nat) : ∀ (f e m : Nat), e ≤ tw_go w f e m
  | 0, e, _ => Nat.le_refl e
  | f + 1, e, m => by
    unfold tw_go
    split
    · omega
    · have := tw_go_ge w f (e + 1) (m + tw_parts (w.getD e 0) - 1)
      omega
theorem tw_end_le (w : List Nat) {p : Nat} (h : p ≤ 12) : tw_end w p ≤ 12 := by
  have := tw_go_le w (12 - p) p 1
  unfold tw_end
  omega
theorem tw_end_ge (w : List Nat) (p : Nat) : p ≤ tw_end w p := tw_go_ge w (12 - p) p 1
theorem tw_end_gt (w : List Nat) {p : Nat} (h : p < 12) : p < tw_end w p := by
  unfold tw_end
  rw [show 12 - p = (11 - p) + 1 by omega]
  unfold tw_go
  rw [if_neg (by decide)]
  have := tw_go_ge w (11 - p) (p + 1) (1 + tw_parts (w.getD p 0) - 1)
  omega
theorem tw_go_0 (w : List Nat) (f e : Nat) : tw_go w f e 0 = e := by
  cases f with
  | zero => rfl
  | succ f => rw [tw_go, if_pos rfl]
theorem tw_go_s (w : List Nat) {e m : Nat} (he : e < 12) (hm : 0 < m) : tw_go w (12 - e) e m = tw_go w (12 - (e + 1)) (e + 1) (m + tw_parts (w.getD e 0) - 1) := by
  rw [show 12 - e = (12 - (e + 1)) + 1 by omega, tw_go, if_neg (by omega)]
/-- how often a code stands in the first places -/
theorem tw_cnt {w : List Nat} {c : Nat} (hc : 1 ≤ c) (k : Nat) : (w.take (k + 1)).count c = (w.take k).count c + (if w.getD k 0 = c then 1 else 0) := by
  rcases Nat.lt_or_ge k w.length with hk | hk
  · rw [List.take_succ_eq_append_getElem hk, List.count_append, List.getD_eq_getElem?_getD, List.getElem?_eq_getElem hk]
    show _ + [w[k]].count c = _ + (if w[k] = c then 1 else 0)
    rw [List.count_singleton]
    by_cases h : w[k] = c
    · rw [if_pos h, if_pos (by rw [h]; simp)]
    · rw [if_neg h, if_neg (by simp [h])]
  · rw [List.take_of_length_le hk, List.take_of_length_le (by omega), List.getD_eq_getElem?_getD, List.getElem?_eq_none hk]
    show _ = _ + (if (0 : Nat) = c then 1 else 0)
    rw [if_neg (by omega), Nat.add_zero]
/-- how many of the first variables stand in it -/
def tw_vs (w : List Nat) : Nat → Nat
  | 0 => 0
  | v + 1 => tw_vs w v + (if 0 < w.count (11 + v) then 1 else 0)
theorem tw_vs_le (w : List Nat) : ∀ v, tw_vs w v ≤ v
  | 0 => Nat.le_refl 0
  | v + 1 => by
    have := tw_vs_le w v
    unfold tw_vs
    split <;> omega
/-- no variable is more often in t than in s -/
def tw_hv (s t : List Nat) : Bool := (List.range 4).all (fun v => decide (t.count (11 + v) ≤ s.count (11 + v)))
theorem tw_hv_iff {s t : List Nat} : tw_hv s t = true ↔ ∀ v, v < 4 → t.count (11 + v) ≤ s.count (11 + v) := by
  unfold tw_hv
  rw [List.all_eq_true]
  exact ⟨fun h v hv => of_decide_eq_true (h v (List.mem_range.mpr hv)), fun h v hv => decide_eq_true (h v (List.mem_range.mp hv))⟩
/-- a boolean as a number -/
def zb (b : Bool) : Int := if b then 1 else 0
theorem zb_t {b : Bool} (h : b = true) : zb b = 1 := by rw [h]; rfl
theorem zb_f {b : Bool} (h : ¬ b = true) : zb b = 0 := by
  cases b with
  | false => rfl
  | true => exact absurd rfl h
theorem zb_iff {b : Bool} : zb b = 0 ↔ ¬ b = true := by cases b <;> decide
theorem zb_rng (b : Bool) : 0 ≤ zb b ∧ zb b ≤ 1 := by cases b <;> decide
end
section
set_option maxHeartbeats 4000000 in
set_option maxRecDepth 100000 in
theorem c_X3_codeOfSign (l : Launch) (a : Int) : Met l yX3_codeOfSign wsX3_codeOfSign ({ frames := 0, cells := 0, slots := 0, locals := 0 }) (va_Pc [.int (zI (a))] (fun _ => True)) (vp_Si (fun r => r = zI (a + 1))) 0 0 (fun _ => False) := by
  refine Met.ofW (cc := cX3_codeOfSign) (maxL := 1) (ret := (some .int)) (by decide) rfl ?_
  intro p e s m args below meth c s₁ B hml hv
  obtain ⟨rfl, -⟩ := hv
  have hx := B.exec
  have hb := B.bytes
  have hr := B.returns
  have hts := atoms_spec (ws := wsX3_codeOfSign) B.pre
  have hown : s.vm.findClass RX3 = some m.cls := findClass_of_methodNamed B.named
  have hlocks := B.notSynchronized
  have hl := lv_entry ([.int (zI (a))]) (n := 1) (Nat.le_of_ble_eq_true rfl)
  rw [lg_entry_eq]
  generalize (lg_sl ([.int (zI (a))]) ++ List.replicate (1 - (lg_sl ([.int (zI (a))])).length) Slot.unset).toArray = ls at hl ⊢
  have hl : lv_has ls 1 [(0, .int (zI (a)))] := hl
  refine lv_iload_n hx hb dX3_codeOfSign_0 rfl (lv_at hl 0 rfl) ?_
  refine lv_iconst (v := zI (1)) hx hb dX3_codeOfSign_1 rfl ?_
  refine lv_iadd hx hb dX3_codeOfSign_2 ?_
  refine zi_top (zI_add _ _) ?_
  exact W.iret (v := (zI ((a) + (1)))) hx hb hr (fun t ht hW => ⟨_, rfl, rfl, ht⟩) (fun q hq => by cases hq) dX3_codeOfSign_3
set_option maxHeartbeats 4000000 in
set_option maxRecDepth 100000 in
theorem c_X3_codeOfVariable (l : Launch) (a : Int) : Met l yX3_codeOfVariable wsX3_codeOfVariable ({ frames := 0, cells := 0, slots := 0, locals := 0 }) (va_Pc [.int (zI (a))] (fun _ => True)) (vp_Si (fun r => r = zI (11 + a))) 0 0 (fun _ => False) := by
  refine Met.ofW (cc := cX3_codeOfVariable) (maxL := 1) (ret := (some .int)) (by decide) rfl ?_
  intro p e s m args below meth c s₁ B hml hv
  obtain ⟨rfl, -⟩ := hv
  have hx := B.exec
  have hb := B.bytes
  have hr := B.returns
  have hts := atoms_spec (ws := wsX3_codeOfVariable) B.pre
  have hown : s.vm.findClass RX3 = some m.cls := findClass_of_methodNamed B.named
  have hlocks := B.notSynchronized
  have hl := lv_entry ([.int (zI (a))]) (n := 1) (Nat.le_of_ble_eq_true rfl)
  rw [lg_entry_eq]
  generalize (lg_sl ([.int (zI (a))]) ++ List.replicate (1 - (lg_sl ([.int (zI (a))])).length) Slot.unset).toArray = ls at hl ⊢
  have hl : lv_has ls 1 [(0, .int (zI (a)))] := hl
  refine lv_bipush (v := zI (11)) hx hb dX3_codeOfVariable_0 (by decide) ?_
  refine lv_iload_n hx hb dX3_codeOfVariable_2 rfl (lv_at hl 0 rfl) ?_
  refine lv_iadd hx hb dX3_codeOfVariable_3 ?_
  refine zi_top (zI_add _ _) ?_
  exact W.iret (v := (zI ((11) + (a)))) hx hb hr (fun t ht hW => ⟨_, rfl, rfl, ht⟩) (fun q hq => by cases hq) dX3_codeOfVariable_4
set_option maxHeartbeats 4000000 in
set_option maxRecDepth 100000 in
theorem c_X3_toldOf (l : Launch) (a : Int) : Met l yX3_toldOf wsX3_toldOf ({ frames := 0, cells := 0, slots := 0, locals := 0 }) (va_Pc [.int (zI (a))] (fun _ => True)) (vp_Si (fun r => r = zI (a - 1))) 0 0 (fun _ => False) := by
  refine Met.ofW (cc := cX3_toldOf) (maxL := 1) (ret := (some .int)) (by decide) rfl ?_
  intro p e s m args below meth c s₁ B hml hv
  obtain ⟨rfl, -⟩ := hv
  have hx := B.exec
  have hb := B.bytes
  have hr := B.returns
  have hts := atoms_spec (ws := wsX3_toldOf) B.pre
  have hown : s.vm.findClass RX3 = some m.cls := findClass_of_methodNamed B.named
  have hlocks := B.notSynchronized
  have hl := lv_entry ([.int (zI (a))]) (n := 1) (Nat.le_of_ble_eq_true rfl)
  rw [lg_entry_eq]
  generalize (lg_sl ([.int (zI (a))]) ++ List.replicate (1 - (lg_sl ([.int (zI (a))])).length) Slot.unset).toArray = ls at hl ⊢
  have hl : lv_has ls 1 [(0, .int (zI (a)))] := hl
  refine lv_iload_n hx hb dX3_toldOf_0 rfl (lv_at hl 0 rfl) ?_
  refine lv_iconst (v := zI (1)) hx hb dX3_toldOf_1 rfl ?_
  refine lv_isub hx hb dX3_toldOf_2 ?_
  refine zi_top (zI_sub _ _) ?_
  exact W.iret (v := (zI ((a) - (1)))) hx hb hr (fun t ht hW => ⟨_, rfl, rfl, ht⟩) (fun q hq => by cases hq) dX3_toldOf_3
set_option maxHeartbeats 4000000 in
set_option maxRecDepth 100000 in
theorem c_X3_variableOf (l : Launch) (a : Int) : Met l yX3_variableOf wsX3_variableOf ({ frames := 0, cells := 0, slots := 0, locals := 0 }) (va_Pc [.int (zI (a))] (fun _ => True)) (vp_Si (fun r => r = zI (a - 11))) 0 0 (fun _ => False) := by
  refine Met.ofW (cc := cX3_variableOf) (maxL := 1) (ret := (some .int)) (by decide) rfl ?_
  intro p e s m args below meth c s₁ B hml hv
  obtain ⟨rfl, -⟩ := hv
  have hx := B.exec
  have hb := B.bytes
  have hr := B.returns
  have hts := atoms_spec (ws := wsX3_variableOf) B.pre
  have hown : s.vm.findClass RX3 = some m.cls := findClass_of_methodNamed B.named
  have hlocks := B.notSynchronized
  have hl := lv_entry ([.int (zI (a))]) (n := 1) (Nat.le_of_ble_eq_true rfl)
  rw [lg_entry_eq]
  generalize (lg_sl ([.int (zI (a))]) ++ List.replicate (1 - (lg_sl ([.int (zI (a))])).length) Slot.unset).toArray = ls at hl ⊢
  have hl : lv_has ls 1 [(0, .int (zI (a)))] := hl
  refine lv_iload_n hx hb dX3_variableOf_0 rfl (lv_at hl 0 rfl) ?_
  refine lv_bipush (v := zI (11)) hx hb dX3_variableOf_1 (by decide) ?_
  refine lv_isub hx hb dX3_variableOf_3 ?_
  refine zi_top (zI_sub _ _) ?_
  exact W.iret (v := (zI ((a) - (11)))) hx hb hr (fun t ht hW => ⟨_, rfl, rfl, ht⟩) (fun q hq => by cases hq) dX3_variableOf_4
set_option maxHeartbeats 4000000 in
set_option maxRecDepth 100000 in
theorem c_X3_isVariable (l : Launch) (a : Int) (ha : -2147483648 ≤ a ∧ a < 2147483648) : Met l yX3_isVariable wsX3_isVariable ({ frames := 0, cells := 0, slots := 0, locals := 0 }) (va_Pc [.int (zI (a))] (fun _ => True)) (vp_Si (fun r => r = zI (zb (decide (11 ≤ a ∧ a < 15))))) 0 0 (fun _ => False) := by
  refine Met.ofW (cc := cX3_isVariable) (maxL := 1) (ret := (some .boolean)) (by decide) rfl ?_
  intro p e s m args below meth c s₁ B hml hv
  obtain ⟨rfl, -⟩ := hv
  have hx := B.exec
  have hb := B.bytes
  have hr := B.returns
  have hts := atoms_spec (ws := wsX3_isVariable) B.pre
  have hown : s.vm.findClass RX3 = some m.cls := findClass_of_methodNamed B.named
  have hlocks := B.notSynchronized
  have hl := lv_entry ([.int (zI (a))]) (n := 1) (Nat.le_of_ble_eq_true rfl)
  rw [lg_entry_eq]
  generalize (lg_sl ([.int (zI (a))]) ++ List.replicate (1 - (lg_sl ([.int (zI (a))])).length) Slot.unset).toArray = ls at hl ⊢
  have hl : lv_has ls 1 [(0, .int (zI (a)))] := hl
  refine lv_iload_n hx hb dX3_isVariable_0 rfl (lv_at hl 0 rfl) ?_
  refine lv_bipush (v := zI (11)) hx hb dX3_isVariable_1 (by decide) ?_
  refine zic_lt (tgt := 16) hx hb dX3_isVariable_3 (by decide) (by omega) (by omega) (fun c_3 => ?_) (fun c_3 => ?_)
  · skip
    have hz : zb (decide (11 ≤ a ∧ a < 15)) = 0 := zb_f (by rw [decide_eq_true_iff]; omega)
    refine lv_iconst (v := zI (0)) hx hb dX3_isVariable_16 rfl ?_
    exact W.zret (v := (zI (0))) (ty := .boolean) hx hb hr (by decide) (fun t ht hW => ⟨_, rfl, by rw [hz], ht⟩) (fun q hq => by cases hq) dX3_isVariable_17
  · skip
    refine lv_iload_n hx hb dX3_isVariable_6 rfl (lv_at hl 0 rfl) ?_
    refine lv_bipush (v := zI (15)) hx hb dX3_isVariable_7 (by decide) ?_
    refine zic_ge (tgt := 16) hx hb dX3_isVariable_9 (by decide) (by omega) (by omega) (fun c_9 => ?_) (fun c_9 => ?_)
    · skip
      have hz : zb (decide (11 ≤ a ∧ a < 15)) = 0 := zb_f (by rw [decide_eq_true_iff]; omega)
      refine lv_iconst (v := zI (0)) hx hb dX3_isVariable_16 rfl ?_
      exact W.zret (v := (zI (0))) (ty := .boolean) hx hb hr (by decide) (fun t ht hW => ⟨_, rfl, by rw [hz], ht⟩) (fun q hq => by cases hq) dX3_isVariable_17
    · skip
      have hz : zb (decide (11 ≤ a ∧ a < 15)) = 1 := zb_t (decide_eq_true (by omega))
      refine lv_iconst (v := zI (1)) hx hb dX3_isVariable_12 rfl ?_
      refine lv_goto (tgt := 17) hx hb dX3_isVariable_13 (by decide) ?_
      exact W.zret (v := (zI (1))) (ty := .boolean) hx hb hr (by decide) (fun t ht hW => ⟨_, rfl, by rw [hz], ht⟩) (fun q hq => by cases hq) dX3_isVariable_17
set_option maxHeartbeats 4000000 in
set_option maxRecDepth 100000 in
theorem c_X3_partsOf (l : Launch) (n : Nat) (hn : n < 16) : Met l yX3_partsOf wsX3_partsOf ({ frames := 0, cells := 0, slots := 0, locals := 0 }) (va_Pc [.int (zI ((n : Int)))] (fun _ => True)) (vp_Si (fun r => r = zI ((tw_parts n : Nat) : Int))) 0 0 (fun _ => False) := by
  refine Met.ofW (cc := cX3_partsOf) (maxL := 1) (ret := (some .int)) (by decide) rfl ?_
  intro p e s m args below meth c s₁ B hml hv
  obtain ⟨rfl, -⟩ := hv
  have hx := B.exec
  have hb := B.bytes
  have hr := B.returns
  have hts := atoms_spec (ws := wsX3_partsOf) B.pre
  have hown : s.vm.findClass RX3 = some m.cls := findClass_of_methodNamed B.named
  have hlocks := B.notSynchronized
  have hl := lv_entry ([.int (zI ((n : Int)))]) (n := 1) (Nat.le_of_ble_eq_true rfl)
  rw [lg_entry_eq]
  generalize (lg_sl ([.int (zI ((n : Int)))]) ++ List.replicate (1 - (lg_sl ([.int (zI ((n : Int)))])).length) Slot.unset).toArray = ls at hl ⊢
  have hl : lv_has ls 1 [(0, .int (zI ((n : Int))))] := hl
  refine lv_iload_n hx hb dX3_partsOf_0 rfl (lv_at hl 0 rfl) ?_
  rcases (show (((n : Int)) < 3 ∨ 6 < ((n : Int))) ∨ ((n : Int)) = 3 ∨ ((n : Int)) = 4 ∨ ((n : Int)) = 5 ∨ ((n : Int)) = 6 by omega) with c_1 | c_1 | c_1 | c_1 | c_1
  · skip
    refine lv_tableOut (tgt := 36) hx hb dX3_partsOf_1 (by rw [zI_T (by omega)]; omega) (by decide) ?_
    have hz : tw_parts n = 0 := by unfold tw_parts; rw [if_neg (by omega), if_neg (by omega)]
    refine lv_iconst (v := zI (0)) hx hb dX3_partsOf_36 rfl ?_
    exact W.iret (v := (zI (0))) hx hb hr (fun t ht hW => ⟨_, rfl, by rw [hz]; rfl, ht⟩) (fun q hq => by cases hq) dX3_partsOf_37
  · skip
    refine lv_tableIn (off := 31) (tgt := 32) hx hb dX3_partsOf_1 (by rw [zI_T (by omega)]; omega) (by rw [zI_T (by omega)]; omega) (by rw [zI_T (by omega), c_1]; rfl) (by decide) ?_
    have hz : tw_parts n = 1 := by unfold tw_parts; rw [if_pos (by omega)]
    refine lv_iconst (v := zI (1)) hx hb dX3_partsOf_32 rfl ?_
    exact W.iret (v := (zI (1))) hx hb hr (fun t ht hW => ⟨_, rfl, by rw [hz]; rfl, ht⟩) (fun q hq => by cases hq) dX3_partsOf_33
  · skip
    refine lv_tableIn (off := 31) (tgt := 32) hx hb dX3_partsOf_1 (by rw [zI_T (by omega)]; omega) (by rw [zI_T (by omega)]; omega) (by rw [zI_T (by omega), c_1]; rfl) (by decide) ?_
    have hz : tw_parts n = 1 := by unfold tw_parts; rw [if_pos (by omega)]
    refine lv_iconst (v := zI (1)) hx hb dX3_partsOf_32 rfl ?_
    exact W.iret (v := (zI (1))) hx hb hr (fun t ht hW => ⟨_, rfl, by rw [hz]; rfl, ht⟩) (fun q hq => by cases hq) dX3_partsOf_33
  · skip
    refine lv_tableIn (off := 33) (tgt := 34) hx hb dX3_partsOf_1 (by rw [zI_T (by omega)]; omega) (by rw [zI_T (by omega)]; omega) (by rw [zI_T (by omega), c_1]; rfl) (by decide) ?_
    have hz : tw_parts n = 2 := by unfold tw_parts; rw [if_neg (by omega), if_pos (by omega)]
    refine lv_iconst (v := zI (2)) hx hb dX3_partsOf_34 rfl ?_
    exact W.iret (v := (zI (2))) hx hb hr (fun t ht hW => ⟨_, rfl, by rw [hz]; rfl, ht⟩) (fun q hq => by cases hq) dX3_partsOf_35
  · skip
    refine lv_tableIn (off := 33) (tgt := 34) hx hb dX3_partsOf_1 (by rw [zI_T (by omega)]; omega) (by rw [zI_T (by omega)]; omega) (by rw [zI_T (by omega), c_1]; rfl) (by decide) ?_
    have hz : tw_parts n = 2 := by unfold tw_parts; rw [if_neg (by omega), if_pos (by omega)]
    refine lv_iconst (v := zI (2)) hx hb dX3_partsOf_34 rfl ?_
    exact W.iret (v := (zI (2))) hx hb hr (fun t ht hW => ⟨_, rfl, by rw [hz]; rfl, ht⟩) (fun q hq => by cases hq) dX3_partsOf_35
set_option maxHeartbeats 4000000 in
set_option maxRecDepth 100000 in
theorem c_X3_codeAt (l : Launch) (w : List Nat) (hw : tw_ok w) (k : Nat) (hk : k < 16) : Met l yX3_codeAt wsX3_codeAt ({ frames := 0, cells := 0, slots := 0, locals := 0 }) (va_Pc [.long (tw_L w), .int (zI ((k : Int)))] (fun _ => True)) (vp_Si (fun r => r = zI ((w.getD k 0 : Nat) : Int))) 0 0 (fun _ => False) := by
  refine Met.ofW (cc := cX3_codeAt) (maxL := 3) (ret := (some .int)) (by decide) rfl ?_
  intro p e s m args below meth c s₁ B hml hv
  obtain ⟨rfl, -⟩ := hv
  have hx := B.exec
  have hb := B.bytes
  have hr := B.returns
  have hts := atoms_spec (ws := wsX3_codeAt) B.pre
  have hown : s.vm.findClass RX3 = some m.cls := findClass_of_methodNamed B.named
  have hlocks := B.notSynchronized
  have hl := lv_entry ([.long (tw_L w), .int (zI ((k : Int)))]) (n := 3) (Nat.le_of_ble_eq_true rfl)
  rw [lg_entry_eq]
  generalize (lg_sl ([.long (tw_L w), .int (zI ((k : Int)))]) ++ List.replicate (3 - (lg_sl ([.long (tw_L w), .int (zI ((k : Int)))])).length) Slot.unset).toArray = ls at hl ⊢
  have hl : lv_has ls 3 [(0, .long (tw_L w)), (2, .int (zI ((k : Int))))] := hl
  refine lv_lload_n hx hb dX3_codeAt_0 rfl (lv_at hl 0 rfl) ?_
  refine lv_iconst (v := zI (4)) hx hb dX3_codeAt_1 rfl ?_
  refine lv_iload_n hx hb dX3_codeAt_2 rfl (lv_at hl 1 rfl) ?_
  refine lv_imul hx hb dX3_codeAt_3 ?_
  refine zi_top (zI_mul _ _) ?_
  refine lv_lushr hx hb dX3_codeAt_4 rfl ?_
  refine zl_top (y := (tw_L (w.drop k))) (tw_ushr hw hk) ?_
  refine lv_l2i hx hb dX3_codeAt_5 rfl ?_
  refine lv_bipush (v := zI (15)) hx hb dX3_codeAt_6 (by decide) ?_
  refine lv_iand hx hb dX3_codeAt_8 ?_
  exact W.iret (v := ((((tw_L (w.drop k))).toInt32) &&& (zI (15)))) hx hb hr (fun t ht hW => ⟨_, rfl, tw_low hw k, ht⟩) (fun q hq => by cases hq) dX3_codeAt_9
set_option maxHeartbeats 4000000 in
set_option maxRecDepth 100000 in
theorem c_X3_sizeOf (l : Launch) (w : List Nat) (hw : tw_ok w) : Met l yX3_sizeOf wsX3_sizeOf ({ frames := 0, cells := 0, slots := 0, locals := 0 }) (va_Pc [.long (tw_L w)] (fun _ => True)) (vp_Si (fun r => r = zI ((w.length : Nat) : Int))) 0 0 (fun _ => False) := by
  refine Met.ofW (cc := cX3_sizeOf) (maxL := 3) (ret := (some .int)) (by decide) rfl ?_
  intro p e s m args below meth c s₁ B hml hv
  obtain ⟨rfl, -⟩ := hv
  have hx := B.exec
  have hb := B.bytes
  have hr := B.returns
  have hts := atoms_spec (ws := wsX3_sizeOf) B.pre
  have hown : s.vm.findClass RX3 = some m.cls := findClass_of_methodNamed B.named
  have hlocks := B.notSynchronized
  have hl := lv_entry ([.long (tw_L w)]) (n := 3) (Nat.le_of_ble_eq_true rfl)
  rw [lg_entry_eq]
  generalize (lg_sl ([.long (tw_L w)]) ++ List.replicate (3 - (lg_sl ([.long (tw_L w)])).length) Slot.unset).toArray = ls at hl ⊢
  have hl : lv_has ls 3 [(0, .long (tw_L w))] := hl
  have hw1 := hw.1
  refine lv_iconst (v := zI (0)) hx hb dX3_sizeOf_0 rfl ?_
  refine lv_istore_n (lv' := [(2, .int (zI (0))), (0, .long (tw_L w))]) hx hb dX3_sizeOf_1 rfl hl (by decide) rfl (fun ls hl => ?_)
  have lp2 : ∀ (fu : Nat) (k : Nat) (x2 : Int32) (ls : Array Slot), (12 - k < fu) → (k ≤ w.length) → (x2 = zI ((k : Int))) → lv_has ls 3 [(0, .long (tw_L w)), (2, .int (x2))] → W p l e (headSpec wsX3_sizeOf ({ frames := 0, cells := 0, slots := 0, locals := 0 })).room s m ([.long (tw_L w)] : List Value).toArray below meth c s.heap [] 0 0 (MQ below (vp_Si (fun r => r = zI ((w.length : Nat) : Int))) ([.long (tw_L w)] : List Value).toArray s 0 0 (fun _ => False)) (F0 m 2 ls []) := by
    intro fu
    induction fu with
    | zero => intro k x2 ls hn; exact absurd hn (Nat.not_lt_zero _)
    | succ fu ih2 =>
      intro k x2 ls hn2 hk e2  hl
      subst e2
      refine lv_iload_n hx hb dX3_sizeOf_2 rfl (lv_at hl 1 rfl) ?_
      refine lv_bipush (v := zI (12)) hx hb dX3_sizeOf_3 (by decide) ?_
      refine zic_ge (tgt := 24) hx hb dX3_sizeOf_5 (by decide) (by omega) (by omega) (fun c_5 => ?_) (fun c_5 => ?_)
      · skip
        refine lv_iload_n hx hb dX3_sizeOf_24 rfl (lv_at hl 1 rfl) ?_
        exact W.iret (v := (zI ((k : Int)))) hx hb hr (fun t ht hW => ⟨_, rfl, zI_c (by omega), ht⟩) (fun q hq => by cases hq) dX3_sizeOf_25
      · skip
        refine lv_lload_n hx hb dX3_sizeOf_8 rfl (lv_at hl 0 rfl) ?_
        refine lv_iconst (v := zI (4)) hx hb dX3_sizeOf_9 rfl ?_
        refine lv_iload_n hx hb dX3_sizeOf_10 rfl (lv_at hl 1 rfl) ?_
        refine lv_imul hx hb dX3_sizeOf_11 ?_
        refine zi_top (zI_mul _ _) ?_
        refine lv_lushr hx hb dX3_sizeOf_12 rfl ?_
        refine zl_top (y := (tw_L (w.drop k))) (tw_ushr hw (by omega)) ?_
        refine lv_lconst (v := 0) hx hb dX3_sizeOf_13 rfl ?_
        refine W.lcmp hx hb dX3_sizeOf_14 ?_
        refine lv_if_eq (tgt := 24) hx hb dX3_sizeOf_15 (by decide) (fun c_15 => ?_) (fun c_15 => ?_)
        · skip
          rw [lg_cmp_eq, tw_L0 (hw.drop k), List.drop_eq_nil_iff] at c_15
          refine lv_iload_n hx hb dX3_sizeOf_24 rfl (lv_at hl 1 rfl) ?_
          exact W.iret (v := (zI ((k : Int)))) hx hb hr (fun t ht hW => ⟨_, rfl, zI_c (by omega), ht⟩) (fun q hq => by cases hq) dX3_sizeOf_25
        · skip
          rw [lg_cmp_eq, tw_L0 (hw.drop k), List.drop_eq_nil_iff] at c_15
          refine lv_iinc (v := zI ((k : Int) + 1)) (lv' := [(2, .int (zI ((k : Int) + 1))), (0, .long (tw_L w))]) hx hb dX3_sizeOf_18 hl (k := 1) rfl (zI_add ((k : Int)) 1) (by decide) rfl (fun ls hl => ?_)
          refine lv_goto (tgt := 2) hx hb dX3_sizeOf_21 (by decide) ?_
          exact ih2 (k + 1) _ ls (by omega) (by omega) (zI_c (by omega))  (lv_sub hl [1, 0] rfl)
  exact lp2 _ (0) _ ls (Nat.lt_succ_self _) (by omega) (zI_c (by omega))  (lv_sub hl [1, 0] rfl)
set_option maxHeartbeats 4000000 in
set_option maxRecDepth 100000 in
theorem c_X3_endOf (l : Launch) (w : List Nat) (hw : tw_ok w) (q : Nat) (hq : q ≤ 12) : Met l yX3_endOf wsX3_endOf ({ frames := 1, cells := 0, slots := 0, locals := 22 }) (va_Pc [.long (tw_L w), .int (zI ((q : Int)))] (fun _ => True)) (vp_Si (fun r => r = zI ((tw_end w q : Nat) : Int))) 0 0 (fun _ => False) := by
  refine Met.ofW (cc := cX3_endOf) (maxL := 5) (ret := (some .int)) (by decide) rfl ?_
  intro p e s m args below meth c s₁ B hml hv
  obtain ⟨rfl, -⟩ := hv
  have hx := B.exec
  have hb := B.bytes
  have hr := B.returns
  have hts := atoms_spec (ws := wsX3_endOf) B.pre
  have hown : s.vm.findClass RX3 = some m.cls := findClass_of_methodNamed B.named
  have hlocks := B.notSynchronized
  have hl := lv_entry ([.long (tw_L w), .int (zI ((q : Int)))]) (n := 5) (Nat.le_of_ble_eq_true rfl)
  rw [lg_entry_eq]
  generalize (lg_sl ([.long (tw_L w), .int (zI ((q : Int)))]) ++ List.replicate (5 - (lg_sl ([.long (tw_L w), .int (zI ((q : Int)))])).length) Slot.unset).toArray = ls at hl ⊢
  have hl : lv_has ls 5 [(0, .long (tw_L w)), (2, .int (zI ((q : Int))))] := hl
  refine lv_iload_n hx hb dX3_endOf_0 rfl (lv_at hl 1 rfl) ?_
  refine lv_istore_n (lv' := [(3, .int (zI ((q : Int)))), (0, .long (tw_L w)), (2, .int (zI ((q : Int))))]) hx hb dX3_endOf_1 rfl hl (by decide) rfl (fun ls hl => ?_)
  refine lv_iconst (v := zI (1)) hx hb dX3_endOf_2 rfl ?_
  refine lv_istore (lv' := [(4, .int (zI (1))), (3, .int (zI ((q : Int)))), (0, .long (tw_L w)), (2, .int (zI ((q : Int))))]) hx hb dX3_endOf_3 hl (by decide) rfl (fun ls hl => ?_)
  have lp5 : ∀ (fu : Nat) (k : Nat) (j : Nat) (x3 : Int32) (x4 : Int32) (ls : Array Slot), (12 - k < fu) → (k ≤ 12) → (j ≤ k + 1) → (tw_go w (12 - k) k j = tw_end w q) → (x3 = zI ((k : Int))) → (x4 = zI ((j : Int))) → lv_has ls 5 [(0, .long (tw_L w)), (3, .int (x3)), (4, .int (x4))] → W p l e (headSpec wsX3_endOf ({ frames := 1, cells := 0, slots := 0, locals := 22 })).room s m ([.long (tw_L w), .int (zI ((q : Int)))] : List Value).toArray below meth c s.heap [] 0 0 (MQ below (vp_Si (fun r => r = zI ((tw_end w q : Nat) : Int))) ([.long (tw_L w), .int (zI ((q : Int)))] : List Value).toArray s 0 0 (fun _ => False)) (F0 m 5 ls []) := by
    intro fu
    induction fu with
    | zero => intro k j x3 x4 ls hn; exact absurd hn (Nat.not_lt_zero _)
    | succ fu ih5 =>
      intro k j x3 x4 ls hn5 hk hj hg e3 e4  hl
      subst e3
      subst e4
      refine lv_iload_n hx hb dX3_endOf_5 rfl (lv_at hl 1 rfl) ?_
      refine lv_bipush (v := zI (12)) hx hb dX3_endOf_6 (by decide) ?_
      refine zic_ge (tgt := 37) hx hb dX3_endOf_8 (by decide) (by omega) (by omega) (fun c_8 => ?_) (fun c_8 => ?_)
      · skip
        have hz : tw_end w q = k := by rw [← hg, show 12 - k = 0 by omega]; rfl
        refine lv_iload_n hx hb dX3_endOf_37 rfl (lv_at hl 1 rfl) ?_
        exact W.iret (v := (zI ((k : Int)))) hx hb hr (fun t ht hW => ⟨_, rfl, by rw [hz], ht⟩) (fun q hq => by cases hq) dX3_endOf_38
      · skip
        refine lv_iload hx hb dX3_endOf_11 (lv_at hl 2 rfl) ?_
        refine zif_le (tgt := 37) hx hb dX3_endOf_13 (by decide) (by omega) (fun c_13 => ?_) (fun c_13 => ?_)
        · skip
          have hz : tw_end w q = k := by rw [← hg, show j = 0 by omega, tw_go_0]
          refine lv_iload_n hx hb dX3_endOf_37 rfl (lv_at hl 1 rfl) ?_
          exact W.iret (v := (zI ((k : Int)))) hx hb hr (fun t ht hW => ⟨_, rfl, by rw [hz], ht⟩) (fun q hq => by cases hq) dX3_endOf_38
        · skip
          refine lv_iload hx hb dX3_endOf_16 (lv_at hl 2 rfl) ?_
          refine lv_lload_n hx hb dX3_endOf_18 rfl (lv_at hl 0 rfl) ?_
          refine lv_iload_n hx hb dX3_endOf_19 rfl (lv_at hl 1 rfl) ?_
          refine vp_callSi (W.runS (As := [.long (tw_L w), .int (zI ((k : Int)))]) (rest := [.int (zI ((j : Int)))]) ⟨hx, hb, hml, hown, hts⟩ (c_X3_codeAt l w hw k (by omega)) (va_cwS 2 hts gX3_endOf_X3_codeAt rfl rfl rfl (by decide +kernel) ⟨Nat.le_of_ble_eq_true rfl, Nat.le_of_ble_eq_true rfl⟩) ⟨fun _ _ _ _ h => h, fun U hU hW => ⟨rfl, trivial⟩⟩ rfl rfl hl.1 rfl (lv_room (Nat.le_of_ble_eq_true rfl)) dX3_endOf_20 ⟨Nat.zero_le _, Nat.zero_le _⟩) (fun r hr1 => ?_)
          subst hr1
          refine vp_callSi (W.runS (As := [.int (zI (((w.getD k 0 : Nat) : Int)))]) (rest := [.int (zI ((j : Int)))]) ⟨hx, hb, hml, hown, hts⟩ (c_X3_partsOf l (w.getD k 0) (tw_getD_le hw k)) (va_cwS 1 hts gX3_endOf_X3_partsOf rfl rfl rfl (by decide +kernel) ⟨Nat.le_of_ble_eq_true rfl, Nat.le_of_ble_eq_true rfl⟩) ⟨fun _ _ _ _ h => h, fun U hU hW => ⟨rfl, trivial⟩⟩ rfl rfl hl.1 rfl (lv_room (Nat.le_of_ble_eq_true rfl)) dX3_endOf_23 ⟨Nat.zero_le _, Nat.zero_le _⟩) (fun r hr2 => ?_)
          subst hr2
          refine lv_iconst (v := zI (1)) hx hb dX3_endOf_26 rfl ?_
          refine lv_isub hx hb dX3_endOf_27 ?_
          refine zi_top (zI_sub _ _) ?_
          refine lv_iadd hx hb dX3_endOf_28 ?_
          refine zi_top (zI_add _ _) ?_
          refine lv_istore (lv' := [(4, .int (zI (((j : Int)) + ((((tw_parts (w.getD k 0) : Nat) : Int)) - (1))))), (0, .long (tw_L w)), (3, .int (zI ((k : Int))))]) hx hb dX3_endOf_29 hl (by decide) rfl (fun ls hl => ?_)
          refine lv_iinc (v := zI ((k : Int) + 1)) (lv' := [(3, .int (zI ((k : Int) + 1))), (4, .int (zI (((j : Int)) + ((((tw_parts (w.getD k 0) : Nat) : Int)) - (1))))), (0, .long (tw_L w))]) hx hb dX3_endOf_31 hl (k := 2) rfl (zI_add ((k : Int)) 1) (by decide) rfl (fun ls hl => ?_)
          refine lv_goto (tgt := 5) hx hb dX3_endOf_34 (by decide) ?_
          have hp2 := tw_parts_le (w.getD k 0)
          exact ih5 (k + 1) (j + tw_parts (w.getD k 0) - 1) _ _ ls (by omega) (by omega) (by omega) (by rw [← hg]; exact (tw_go_s w (by omega) (by omega)).symm) (zI_c (by omega)) (zI_c (by omega))  (lv_sub hl [2, 0, 1] rfl)
  exact lp5 _ (q) (1) _ _ ls (Nat.lt_succ_self _) (by omega) (by omega) (rfl) (zI_c (by omega)) (zI_c (by omega))  (lv_sub hl [2, 1, 0] rfl)
set_option maxHeartbeats 4000000 in
set_option maxRecDepth 100000 in
theorem c_X3_part (l : Launch) (w : List Nat) (hw : tw_ok w) (a b : Nat) (ha : a < 16) (hab : a ≤ b) (hb2 : b < a + 16) : Met l yX3_part wsX3_part ({ frames := 0, cells := 0, slots := 0, locals := 0 }) (va_Pc [.long (tw_L w), .int (zI ((a : Int))), .int (zI ((b : Int)))] (fun _ => True)) (vp_Sl (fun r => r = tw_L ((w.drop a).take (b - a)))) 0 0 (fun _ => False) := by
  refine Met.ofW (cc := cX3_part) (maxL := 4) (ret := (some .long)) (by decide) rfl ?_
  intro p e s m args below meth c s₁ B hml hv
  obtain ⟨rfl, -⟩ := hv
  have hx := B.exec
  have hb := B.bytes
  have hr := B.returns
  have hts := atoms_spec (ws := wsX3_part) B.pre
  have hown : s.vm.findClass RX3 = some m.cls := findClass_of_methodNamed B.named
  have hlocks := B.notSynchronized
  have hl := lv_entry ([.long (tw_L w), .int (zI ((a : Int))), .int (zI ((b : Int)))]) (n := 4) (Nat.le_of_ble_eq_true rfl)
  rw [lg_entry_eq]
  generalize (lg_sl ([.long (tw_L w), .int (zI ((a : Int))), .int (zI ((b : Int)))]) ++ List.replicate (4 - (lg_sl ([.long (tw_L w), .int (zI ((a : Int))), .int (zI ((b : Int)))])).length) Slot.unset).toArray = ls at hl ⊢
  have hl : lv_has ls 4 [(0, .long (tw_L w)), (2, .int (zI ((a : Int)))), (3, .int (zI ((b : Int))))] := hl
  refine lv_lload_n hx hb dX3_part_0 rfl (lv_at hl 0 rfl) ?_
  refine lv_iconst (v := zI (4)) hx hb dX3_part_1 rfl ?_
  refine lv_iload_n hx hb dX3_part_2 rfl (lv_at hl 1 rfl) ?_
  refine lv_imul hx hb dX3_part_3 ?_
  refine zi_top (zI_mul _ _) ?_
  refine lv_lushr hx hb dX3_part_4 rfl ?_
  refine zl_top (y := (tw_L (w.drop a))) (tw_ushr hw ha) ?_
  refine lv_lconst (v := 1) hx hb dX3_part_5 rfl ?_
  refine lv_iconst (v := zI (4)) hx hb dX3_part_6 rfl ?_
  refine lv_iload_n hx hb dX3_part_7 rfl (lv_at hl 2 rfl) ?_
  refine lv_iload_n hx hb dX3_part_8 rfl (lv_at hl 1 rfl) ?_
  refine lv_isub hx hb dX3_part_9 ?_
  refine zi_top (zI_sub _ _) ?_
  refine lv_imul hx hb dX3_part_10 ?_
  refine zi_top (zI_mul _ _) ?_
  refine zi_top (y := (zI (4 * ((b - a : Nat) : Int)))) (zI_c (by omega)) ?_
  refine lv_lshl hx hb dX3_part_11 rfl ?_
  refine lv_lconst (v := 1) hx hb dX3_part_12 rfl ?_
  refine lv_lsub hx hb dX3_part_13 ?_
  refine lv_land hx hb dX3_part_14 ?_
  exact W.lret (v := ((tw_L (w.drop a)) &&& (((1) <<< ((zI (4 * ((b - a : Nat) : Int))).toInt64 &&& 63)) - (1)))) hx hb hr (fun t ht hW => ⟨_, rfl, tw_mask (hw.drop a) (by omega), ht⟩) (fun q hq => by cases hq) dX3_part_15
set_option maxHeartbeats 4000000 in
set_option maxRecDepth 100000 in
theorem c_X3_joined (l : Launch) (u v : List Nat) (hu : tw_ok u) (hv2 : tw_ok v) (huv : u.length + v.length ≤ 12) : Met l yX3_joined wsX3_joined ({ frames := 1, cells := 0, slots := 0, locals := 22 }) (va_Pc [.long (tw_L u), .long (tw_L v)] (fun _ => True)) (vp_Sl (fun r => r = tw_L (u ++ v))) 0 0 (fun _ => False) := by
  refine Met.ofW (cc := cX3_joined) (maxL := 4) (ret := (some .long)) (by decide) rfl ?_
  intro p e s m args below meth c s₁ B hml hv
  obtain ⟨rfl, -⟩ := hv
  have hx := B.exec
  have hb := B.bytes
  have hr := B.returns
  have hts := atoms_spec (ws := wsX3_joined) B.pre
  have hown : s.vm.findClass RX3 = some m.cls := findClass_of_methodNamed B.named
  have hlocks := B.notSynchronized
  have hl := lv_entry ([.long (tw_L u), .long (tw_L v)]) (n := 4) (Nat.le_of_ble_eq_true rfl)
  rw [lg_entry_eq]
  generalize (lg_sl ([.long (tw_L u), .long (tw_L v)]) ++ List.replicate (4 - (lg_sl ([.long (tw_L u), .long (tw_L v)])).length) Slot.unset).toArray = ls at hl ⊢
  have hl : lv_has ls 4 [(0, .long (tw_L u)), (2, .long (tw_L v))] := hl
  refine lv_lload_n hx hb dX3_joined_0 rfl (lv_at hl 0 rfl) ?_
  refine lv_lload_n hx hb dX3_joined_1 rfl (lv_at hl 1 rfl) ?_
  refine lv_iconst (v := zI (4)) hx hb dX3_joined_2 rfl ?_
  refine lv_lload_n hx hb dX3_joined_3 rfl (lv_at hl 0 rfl) ?_
  refine vp_callSi (W.runS (As := [.long (tw_L u)]) (rest := [.int (zI (4)), .long (tw_L v), .long (tw_L u)]) ⟨hx, hb, hml, hown, hts⟩ (c_X3_sizeOf l u hu) (va_cwS 1 hts gX3_joined_X3_sizeOf rfl rfl rfl (by decide +kernel) ⟨Nat.le_of_ble_eq_true rfl, Nat.le_of_ble_eq_true rfl⟩) ⟨fun _ _ _ _ h => h, fun U hU hW => ⟨rfl, trivial⟩⟩ rfl rfl hl.1 rfl (lv_room (Nat.le_of_ble_eq_true rfl)) dX3_joined_4 ⟨Nat.zero_le _, Nat.zero_le _⟩) (fun r hr1 => ?_)
  subst hr1
  refine lv_imul hx hb dX3_joined_7 ?_
  refine zi_top (zI_mul _ _) ?_
  refine lv_lshl hx hb dX3_joined_8 rfl ?_
  refine lv_lor hx hb dX3_joined_9 ?_
  exact W.lret (v := ((tw_L u) ||| ((tw_L v) <<< ((zI ((4) * (((u.length : Nat) : Int)))).toInt64 &&& 63)))) hx hb hr (fun t ht hW => ⟨_, rfl, tw_join hu hv2 huv, ht⟩) (fun q hq => by cases hq) dX3_joined_10
set_option maxHeartbeats 4000000 in
set_option maxRecDepth 100000 in
theorem c_X3_timesIn (l : Launch) (w : List Nat) (hw : tw_ok w) (n : Nat) (hn : 1 ≤ n ∧ n < 16) : Met l yX3_timesIn wsX3_timesIn ({ frames := 1, cells := 0, slots := 0, locals := 22 }) (va_Pc [.long (tw_L w), .int (zI ((n : Int)))] (fun _ => True)) (vp_Si (fun r => r = zI ((w.count n : Nat) : Int))) 0 0 (fun _ => False) := by
  refine Met.ofW (cc := cX3_timesIn) (maxL := 5) (ret := (some .int)) (by decide) rfl ?_
  intro p e s m args below meth c s₁ B hml hv
  obtain ⟨rfl, -⟩ := hv
  have hx := B.exec
  have hb := B.bytes
  have hr := B.returns
  have hts := atoms_spec (ws := wsX3_timesIn) B.pre
  have hown : s.vm.findClass RX3 = some m.cls := findClass_of_methodNamed B.named
  have hlocks := B.notSynchronized
  have hl := lv_entry ([.long (tw_L w), .int (zI ((n : Int)))]) (n := 5) (Nat.le_of_ble_eq_true rfl)
  rw [lg_entry_eq]
  generalize (lg_sl ([.long (tw_L w), .int (zI ((n : Int)))]) ++ List.replicate (5 - (lg_sl ([.long (tw_L w), .int (zI ((n : Int)))])).length) Slot.unset).toArray = ls at hl ⊢
  have hl : lv_has ls 5 [(0, .long (tw_L w)), (2, .int (zI ((n : Int))))] := hl
  have hw1 := hw.1
  refine lv_iconst (v := zI (0)) hx hb dX3_timesIn_0 rfl ?_
  refine lv_istore_n (lv' := [(3, .int (zI (0))), (0, .long (tw_L w)), (2, .int (zI ((n : Int))))]) hx hb dX3_timesIn_1 rfl hl (by decide) rfl (fun ls hl => ?_)
  refine lv_iconst (v := zI (0)) hx hb dX3_timesIn_2 rfl ?_
  refine lv_istore (lv' := [(4, .int (zI (0))), (3, .int (zI (0))), (0, .long (tw_L w)), (2, .int (zI ((n : Int))))]) hx hb dX3_timesIn_3 hl (by decide) rfl (fun ls hl => ?_)
  have lp5 : ∀ (fu : Nat) (k : Nat) (j : Nat) (x3 : Int32) (x4 : Int32) (ls : Array Slot), (12 - k < fu) → (k ≤ 12) → (j = (w.take k).count n) → (j ≤ k) → (x3 = zI ((j : Int))) → (x4 = zI ((k : Int))) → lv_has ls 5 [(0, .long (tw_L w)), (2, .int (zI ((n : Int)))), (3, .int (x3)), (4, .int (x4))] → W p l e (headSpec wsX3_timesIn ({ frames := 1, cells := 0, slots := 0, locals := 22 })).room s m ([.long (tw_L w), .int (zI ((n : Int)))] : List Value).toArray below meth c s.heap [] 0 0 (MQ below (vp_Si (fun r => r = zI ((w.count n : Nat) : Int))) ([.long (tw_L w), .int (zI ((n : Int)))] : List Value).toArray s 0 0 (fun _ => False)) (F0 m 5 ls []) := by
    intro fu
    induction fu with
    | zero => intro k j x3 x4 ls hn; exact absurd hn (Nat.not_lt_zero _)
    | succ fu ih5 =>
      intro k j x3 x4 ls hn5 hk hj hj2 e3 e4  hl
      subst e3
      subst e4
      refine lv_iload hx hb dX3_timesIn_5 (lv_at hl 3 rfl) ?_
      refine lv_bipush (v := zI (12)) hx hb dX3_timesIn_7 (by decide) ?_
      refine zic_ge (tgt := 31) hx hb dX3_timesIn_9 (by decide) (by omega) (by omega) (fun c_9 => ?_) (fun c_9 => ?_)
      · skip
        rw [List.take_of_length_le (by omega)] at hj
        refine lv_iload_n hx hb dX3_timesIn_31 rfl (lv_at hl 2 rfl) ?_
        exact W.iret (v := (zI ((j : Int)))) hx hb hr (fun t ht hW => ⟨_, rfl, by rw [hj], ht⟩) (fun q hq => by cases hq) dX3_timesIn_32
      · skip
        refine lv_lload_n hx hb dX3_timesIn_12 rfl (lv_at hl 0 rfl) ?_
        refine lv_iload hx hb dX3_timesIn_13 (lv_at hl 3 rfl) ?_
        refine vp_callSi (W.runS (As := [.long (tw_L w), .int (zI ((k : Int)))]) (rest := []) ⟨hx, hb, hml, hown, hts⟩ (c_X3_codeAt l w hw k (by omega)) (va_cwS 2 hts gX3_timesIn_X3_codeAt rfl rfl rfl (by decide +kernel) ⟨Nat.le_of_ble_eq_true rfl, Nat.le_of_ble_eq_true rfl⟩) ⟨fun _ _ _ _ h => h, fun U hU hW => ⟨rfl, trivial⟩⟩ rfl rfl hl.1 rfl (lv_room (Nat.le_of_ble_eq_true rfl)) dX3_timesIn_15 ⟨Nat.zero_le _, Nat.zero_le _⟩) (fun r hr1 => ?_)
        subst hr1
        have hgd := tw_getD_le hw k
        refine lv_iload_n hx hb dX3_timesIn_18 rfl (lv_at hl 1 rfl) ?_
        refine zic_ne (tgt := 25) hx hb dX3_timesIn_19 (by decide) (by omega) (by omega) (fun c_19 => ?_) (fun c_19 => ?_)
        rotate_left
        · skip
          refine lv_iinc (v := zI ((j : Int) + 1)) (lv' := [(3, .int (zI ((j : Int) + 1))), (0, .long (tw_L w)), (2, .int (zI ((n : Int)))), (4, .int (zI ((k : Int))))]) hx hb dX3_timesIn_22 hl (k := 2) rfl (zI_add ((j : Int)) 1) (by decide) rfl (fun ls hl => ?_)
          refine lv_iinc (v := zI ((k : Int) + 1)) (lv' := [(4, .int (zI ((k : Int) + 1))), (3, .int (zI ((j : Int) + 1))), (0, .long (tw_L w)), (2, .int (zI ((n : Int))))]) hx hb dX3_timesIn_25 hl (k := 3) rfl (zI_add ((k : Int)) 1) (by decide) rfl (fun ls hl => ?_)
          refine lv_goto (tgt := 5) hx hb dX3_timesIn_28 (by decide) ?_
          exact ih5 (k + 1) (j + 1) _ _ ls (by omega) (by omega) (by rw [tw_cnt hn.1, if_pos (by omega), hj]) (by omega) (zI_c (by omega)) (zI_c (by omega))  (lv_sub hl [2, 3, 1, 0] rfl)
        · skip
          refine lv_iinc (v := zI ((k : Int) + 1)) (lv' := [(4, .int (zI ((k : Int) + 1))), (0, .long (tw_L w)), (2, .int (zI ((n : Int)))), (3, .int (zI ((j : Int))))]) hx hb dX3_timesIn_25 hl (k := 3) rfl (zI_add ((k : Int)) 1) (by decide) rfl (fun ls hl => ?_)
          refine lv_goto (tgt := 5) hx hb dX3_timesIn_28 (by decide) ?_
          exact ih5 (k + 1) (j) _ _ ls (by omega) (by omega) (by rw [tw_cnt hn.1, if_neg (by omega), hj, Nat.add_zero]) (by omega) (zI_c (by omega)) (zI_c (by omega))  (lv_sub hl [1, 2, 3, 0] rfl)
  exact lp5 _ (0) (0) _ _ ls (Nat.lt_succ_self _) (by omega) (by simp) (by omega) (zI_c (by omega)) (zI_c (by omega))  (lv_sub hl [2, 3, 1, 0] rfl)
set_option maxHeartbeats 4000000 in
set_option maxRecDepth 100000 in
theorem c_X3_variablesIn (l : Launch) (w : List Nat) (hw : tw_ok w) : Met l yX3_variablesIn wsX3_variablesIn ({ frames := 2, cells := 0, slots := 0, locals := 46 }) (va_Pc [.long (tw_L w)] (fun _ => True)) (vp_Si (fun r => r = zI ((tw_vs w 4 : Nat) : Int))) 0 0 (fun _ => False) := by
  refine Met.ofW (cc := cX3_variablesIn) (maxL := 4) (ret := (some .int)) (by decide) rfl ?_
  intro p e s m args below meth c s₁ B hml hv
  obtain ⟨rfl, -⟩ := hv
  have hx := B.exec
  have hb := B.bytes
  have hr := B.returns
  have hts := atoms_spec (ws := wsX3_variablesIn) B.pre
  have hown : s.vm.findClass RX3 = some m.cls := findClass_of_methodNamed B.named
  have hlocks := B.notSynchronized
  have hl := lv_entry ([.long (tw_L w)]) (n := 4) (Nat.le_of_ble_eq_true rfl)
  rw [lg_entry_eq]
  generalize (lg_sl ([.long (tw_L w)]) ++ List.replicate (4 - (lg_sl ([.long (tw_L w)])).length) Slot.unset).toArray = ls at hl ⊢
  have hl : lv_has ls 4 [(0, .long (tw_L w))] := hl
  have hw1 := hw.1
  refine lv_iconst (v := zI (0)) hx hb dX3_variablesIn_0 rfl ?_
  refine lv_istore_n (lv' := [(2, .int (zI (0))), (0, .long (tw_L w))]) hx hb dX3_variablesIn_1 rfl hl (by decide) rfl (fun ls hl => ?_)
  refine lv_iconst (v := zI (0)) hx hb dX3_variablesIn_2 rfl ?_
  refine lv_istore_n (lv' := [(3, .int (zI (0))), (2, .int (zI (0))), (0, .long (tw_L w))]) hx hb dX3_variablesIn_3 rfl hl (by decide) rfl (fun ls hl => ?_)
  have lp4 : ∀ (fu : Nat) (k : Nat) (j : Nat) (x2 : Int32) (x3 : Int32) (ls : Array Slot), (4 - k < fu) → (k ≤ 4) → (j = tw_vs w k) → (j ≤ k) → (x2 = zI ((j : Int))) → (x3 = zI ((k : Int))) → lv_has ls 4 [(0, .long (tw_L w)), (2, .int (x2)), (3, .int (x3))] → W p l e (headSpec wsX3_variablesIn ({ frames := 2, cells := 0, slots := 0, locals := 46 })).room s m ([.long (tw_L w)] : List Value).toArray below meth c s.heap [] 0 0 (MQ below (vp_Si (fun r => r = zI ((tw_vs w 4 : Nat) : Int))) ([.long (tw_L w)] : List Value).toArray s 0 0 (fun _ => False)) (F0 m 4 ls []) := by
    intro fu
    induction fu with
    | zero => intro k j x2 x3 ls hn; exact absurd hn (Nat.not_lt_zero _)
    | succ fu ih4 =>
      intro k j x2 x3 ls hn4 hk hj hj2 e2 e3  hl
      subst e2
      subst e3
      refine lv_iload_n hx hb dX3_variablesIn_4 rfl (lv_at hl 2 rfl) ?_
      refine lv_iconst (v := zI (4)) hx hb dX3_variablesIn_5 rfl ?_
      refine zic_ge (tgt := 29) hx hb dX3_variablesIn_6 (by decide) (by omega) (by omega) (fun c_6 => ?_) (fun c_6 => ?_)
      · skip
        have hz : tw_vs w 4 = j := by rw [hj, show k = 4 by omega]
        refine lv_iload_n hx hb dX3_variablesIn_29 rfl (lv_at hl 1 rfl) ?_
        exact W.iret (v := (zI ((j : Int)))) hx hb hr (fun t ht hW => ⟨_, rfl, by rw [hz], ht⟩) (fun q hq => by cases hq) dX3_variablesIn_30
      · skip
        refine lv_lload_n hx hb dX3_variablesIn_9 rfl (lv_at hl 0 rfl) ?_
        refine lv_iload_n hx hb dX3_variablesIn_10 rfl (lv_at hl 2 rfl) ?_
        refine vp_callSi (W.runS (As := [.int (zI ((k : Int)))]) (rest := [.long (tw_L w)]) ⟨hx, hb, hml, hown, hts⟩ (c_X3_codeOfVariable l (k : Int)) (va_cwS 1 hts gX3_variablesIn_X3_codeOfVariable rfl rfl rfl (by decide +kernel) ⟨Nat.le_of_ble_eq_true rfl, Nat.le_of_ble_eq_true rfl⟩) ⟨fun _ _ _ _ h => h, fun U hU hW => ⟨rfl, trivial⟩⟩ rfl rfl hl.1 rfl (lv_room (Nat.le_of_ble_eq_true rfl)) dX3_variablesIn_11 ⟨Nat.zero_le _, Nat.zero_le _⟩) (fun r hr1 => ?_)
        subst hr1
        refine zi_top (y := (zI (((11 + k : Nat) : Int)))) (zI_c (by omega)) ?_
        refine vp_callSi (W.runS (As := [.long (tw_L w), .int (zI (((11 + k : Nat) : Int)))]) (rest := []) ⟨hx, hb, hml, hown, hts⟩ (c_X3_timesIn l w hw (11 + k) (by omega)) (va_cwS 2 hts gX3_variablesIn_X3_timesIn rfl rfl rfl (by decide +kernel) ⟨Nat.le_of_ble_eq_true rfl, Nat.le_of_ble_eq_true rfl⟩) ⟨fun _ _ _ _ h => h, fun U hU hW => ⟨rfl, trivial⟩⟩ rfl rfl hl.1 rfl (lv_room (Nat.le_of_ble_eq_true rfl)) dX3_variablesIn_14 ⟨Nat.zero_le _, Nat.zero_le _⟩) (fun r hr2 => ?_)
        subst hr2
        have hcl : w.count (11 + k) ≤ w.length := List.count_le_length
        refine zif_le (tgt := 23) hx hb dX3_variablesIn_17 (by decide) (by omega) (fun c_17 => ?_) (fun c_17 => ?_)
        rotate_left
        · skip
          refine lv_iinc (v := zI ((j : Int) + 1)) (lv' := [(2, .int (zI ((j : Int) + 1))), (0, .long (tw_L w)), (3, .int (zI ((k : Int))))]) hx hb dX3_variablesIn_20 hl (k := 1) rfl (zI_add ((j : Int)) 1) (by decide) rfl (fun ls hl => ?_)
          refine lv_iinc (v := zI ((k : Int) + 1)) (lv' := [(3, .int (zI ((k : Int) + 1))), (2, .int (zI ((j : Int) + 1))), (0, .long (tw_L w))]) hx hb dX3_variablesIn_23 hl (k := 2) rfl (zI_add ((k : Int)) 1) (by decide) rfl (fun ls hl => ?_)
          refine lv_goto (tgt := 4) hx hb dX3_variablesIn_26 (by decide) ?_
          exact ih4 (k + 1) (j + 1) _ _ ls (by omega) (by omega) (by rw [tw_vs, if_pos (by omega), hj]) (by omega) (zI_c (by omega)) (zI_c (by omega))  (lv_sub hl [2, 1, 0] rfl)
        · skip
          refine lv_iinc (v := zI ((k : Int) + 1)) (lv' := [(3, .int (zI ((k : Int) + 1))), (0, .long (tw_L w)), (2, .int (zI ((j : Int))))]) hx hb dX3_variablesIn_23 hl (k := 2) rfl (zI_add ((k : Int)) 1) (by decide) rfl (fun ls hl => ?_)
          refine lv_goto (tgt := 4) hx hb dX3_variablesIn_26 (by decide) ?_
          exact ih4 (k + 1) (j) _ _ ls (by omega) (by omega) (by rw [tw_vs, if_neg (by omega), hj, Nat.add_zero]) (by omega) (zI_c (by omega)) (zI_c (by omega))  (lv_sub hl [1, 2, 0] rfl)
  exact lp4 _ (0) (0) _ _ ls (Nat.lt_succ_self _) (by omega) (rfl) (by omega) (zI_c (by omega)) (zI_c (by omega))  (lv_sub hl [2, 1, 0] rfl)
set_option maxHeartbeats 4000000 in
set_option maxRecDepth 100000 in
theorem c_X3_hasVariablesOf (l : Launch) (u v : List Nat) (hu : tw_ok u) (hv2 : tw_ok v) : Met l yX3_hasVariablesOf wsX3_hasVariablesOf ({ frames := 2, cells := 0, slots := 0, locals := 46 }) (va_Pc [.long (tw_L u), .long (tw_L v)] (fun _ => True)) (vp_Si (fun r => r = zI (zb (tw_hv u v)))) 0 0 (fun _ => False) := by
  refine Met.ofW (cc := cX3_hasVariablesOf) (maxL := 6) (ret := (some .boolean)) (by decide) rfl ?_
  intro p e s m args below meth c s₁ B hml hv
  obtain ⟨rfl, -⟩ := hv
  have hx := B.exec
  have hb := B.bytes
  have hr := B.returns
  have hts := atoms_spec (ws := wsX3_hasVariablesOf) B.pre
  have hown : s.vm.findClass RX3 = some m.cls := findClass_of_methodNamed B.named
  have hlocks := B.notSynchronized
  have hl := lv_entry ([.long (tw_L u), .long (tw_L v)]) (n := 6) (Nat.le_of_ble_eq_true rfl)
  rw [lg_entry_eq]
  generalize (lg_sl ([.long (tw_L u), .long (tw_L v)]) ++ List.replicate (6 - (lg_sl ([.long (tw_L u), .long (tw_L v)])).length) Slot.unset).toArray = ls at hl ⊢
  have hl : lv_has ls 6 [(0, .long (tw_L u)), (2, .long (tw_L v))] := hl
  have hu1 := hu.1
  have hv1 := hv2.1
  refine lv_iconst (v := zI (0)) hx hb dX3_hasVariablesOf_0 rfl ?_
  refine lv_istore (lv' := [(4, .int (zI (0))), (0, .long (tw_L u)), (2, .long (tw_L v))]) hx hb dX3_hasVariablesOf_1 hl (by decide) rfl (fun ls hl => ?_)
  have lp3 : ∀ (fu : Nat) (k : Nat) (x4 : Int32) (ls : Array Slot), (4 - k < fu) → (k ≤ 4) → (∀ j, j < k → v.count (11 + j) ≤ u.count (11 + j)) → (x4 = zI ((k : Int))) → lv_has ls 6 [(0, .long (tw_L u)), (2, .long (tw_L v)), (4, .int (x4))] → W p l e (headSpec wsX3_hasVariablesOf ({ frames := 2, cells := 0, slots := 0, locals := 46 })).room s m ([.long (tw_L u), .long (tw_L v)] : List Value).toArray below meth c s.heap [] 0 0 (MQ below (vp_Si (fun r => r = zI (zb (tw_hv u v)))) ([.long (tw_L u), .long (tw_L v)] : List Value).toArray s 0 0 (fun _ => False)) (F0 m 3 ls []) := by
    intro fu
    induction fu with
    | zero => intro k x4 ls hn; exact absurd hn (Nat.not_lt_zero _)
    | succ fu ih3 =>
      intro k x4 ls hn3 hk hj e4  hl
      subst e4
      refine lv_iload hx hb dX3_hasVariablesOf_3 (lv_at hl 2 rfl) ?_
      refine lv_iconst (v := zI (4)) hx hb dX3_hasVariablesOf_5 rfl ?_
      refine zic_ge (tgt := 39) hx hb dX3_hasVariablesOf_6 (by decide) (by omega) (by omega) (fun c_6 => ?_) (fun c_6 => ?_)
      · skip
        have hz : zb (tw_hv u v) = 1 := zb_t (tw_hv_iff.mpr (fun j h => hj j (by omega)))
        refine lv_iconst (v := zI (1)) hx hb dX3_hasVariablesOf_39 rfl ?_
        exact W.zret (v := (zI (1))) (ty := .boolean) hx hb hr (by decide) (fun t ht hW => ⟨_, rfl, by rw [hz], ht⟩) (fun q hq => by cases hq) dX3_hasVariablesOf_40
      · skip
        refine lv_iload hx hb dX3_hasVariablesOf_9 (lv_at hl 2 rfl) ?_
        refine vp_callSi (W.runS (As := [.int (zI ((k : Int)))]) (rest := []) ⟨hx, hb, hml, hown, hts⟩ (c_X3_codeOfVariable l (k : Int)) (va_cwS 1 hts gX3_hasVariablesOf_X3_codeOfVariable rfl rfl rfl (by decide +kernel) ⟨Nat.le_of_ble_eq_true rfl, Nat.le_of_ble_eq_true rfl⟩) ⟨fun _ _ _ _ h => h, fun U hU hW => ⟨rfl, trivial⟩⟩ rfl rfl hl.1 rfl (lv_room (Nat.le_of_ble_eq_true rfl)) dX3_hasVariablesOf_11 ⟨Nat.zero_le _, Nat.zero_le _⟩) (fun r hr1 => ?_)
        subst hr1
        refine zi_top (y := (zI (((11 + k : Nat) : Int)))) (zI_c (by omega)) ?_
        refine lv_istore (lv' := [(5, .int (zI (((11 + k : Nat) : Int)))), (0, .long (tw_L u)), (2, .long (tw_L v)), (4, .int (zI ((k : Int))))]) hx hb dX3_hasVariablesOf_14 hl (by decide) rfl (fun ls hl => ?_)
        refine lv_lload_n hx hb dX3_hasVariablesOf_16 rfl (lv_at hl 2 rfl) ?_
        refine lv_iload hx hb dX3_hasVariablesOf_17 (lv_at hl 0 rfl) ?_
        refine vp_callSi (W.runS (As := [.long (tw_L v), .int (zI (((11 + k : Nat) : Int)))]) (rest := []) ⟨hx, hb, hml, hown, hts⟩ (c_X3_timesIn l v hv2 (11 + k) (by omega)) (va_cwS 2 hts gX3_hasVariablesOf_X3_timesIn rfl rfl rfl (by decide +kernel) ⟨Nat.le_of_ble_eq_true rfl, Nat.le_of_ble_eq_true rfl⟩) ⟨fun _ _ _ _ h => h, fun U hU hW => ⟨rfl, trivial⟩⟩ rfl rfl hl.1 rfl (lv_room (Nat.le_of_ble_eq_true rfl)) dX3_hasVariablesOf_19 ⟨Nat.zero_le _, Nat.zero_le _⟩) (fun r hr2 => ?_)
        subst hr2
        have hcl : v.count (11 + k) ≤ v.length := List.count_le_length
        refine lv_lload_n hx hb dX3_hasVariablesOf_22 rfl (lv_at hl 1 rfl) ?_
        refine lv_iload hx hb dX3_hasVariablesOf_23 (lv_at hl 0 rfl) ?_
        refine vp_callSi (W.runS (As := [.long (tw_L u), .int (zI (((11 + k : Nat) : Int)))]) (rest := [.int (zI (((v.count (11 + k) : Nat) : Int)))]) ⟨hx, hb, hml, hown, hts⟩ (c_X3_timesIn l u hu (11 + k) (by omega)) (va_cwS 2 hts gX3_hasVariablesOf_X3_timesIn rfl rfl rfl (by decide +kernel) ⟨Nat.le_of_ble_eq_true rfl, Nat.le_of_ble_eq_true rfl⟩) ⟨fun _ _ _ _ h => h, fun U hU hW => ⟨rfl, trivial⟩⟩ rfl rfl hl.1 rfl (lv_room (Nat.le_of_ble_eq_true rfl)) dX3_hasVariablesOf_25 ⟨Nat.zero_le _, Nat.zero_le _⟩) (fun r hr3 => ?_)
        subst hr3
        have hcl2 : u.count (11 + k) ≤ u.length := List.count_le_length
        refine zic_le (tgt := 33) hx hb dX3_hasVariablesOf_28 (by decide) (by omega) (by omega) (fun c_28 => ?_) (fun c_28 => ?_)
        · skip
          refine lv_iinc (v := zI ((k : Int) + 1)) (lv' := [(4, .int (zI ((k : Int) + 1))), (5, .int (zI (((11 + k : Nat) : Int)))), (0, .long (tw_L u)), (2, .long (tw_L v))]) hx hb dX3_hasVariablesOf_33 hl (k := 3) rfl (zI_add ((k : Int)) 1) (by decide) rfl (fun ls hl => ?_)
          refine lv_goto (tgt := 3) hx hb dX3_hasVariablesOf_36 (by decide) ?_
          exact ih3 (k + 1) _ ls (by omega) (by omega) (fun j h => by rcases Nat.lt_or_ge j k with q | q; exact hj j q; rw [show j = k by omega]; omega) (zI_c (by omega))  (lv_sub hl [2, 3, 0] rfl)
        · skip
          have hz : zb (tw_hv u v) = 0 := zb_f (fun h => absurd (tw_hv_iff.mp h k (by omega)) (by omega))
          refine lv_iconst (v := zI (0)) hx hb dX3_hasVariablesOf_31 rfl ?_
          exact W.zret (v := (zI (0))) (ty := .boolean) hx hb hr (by decide) (fun t ht hW => ⟨_, rfl, by rw [hz], ht⟩) (fun q hq => by cases hq) dX3_hasVariablesOf_32
  exact lp3 _ (0) _ ls (Nat.lt_succ_self _) (by omega) (fun j hj => absurd hj (Nat.not_lt_zero j)) (zI_c (by omega))  (lv_sub hl [1, 2, 0] rfl)
end
section
/-! whole terms among the words -/
def tw_code (c : Nat) : Prop := (1 ≤ c ∧ c ≤ 6) ∨ (11 ≤ c ∧ c < 15)
/-- what is left behind so many terms -/
def tw_m : List Nat → Nat → Option (List Nat)
  | [], m => if m = 0 then some [] else none
  | c :: w, m => if m = 0 then some (c :: w) else tw_m w (m - 1 + tw_parts c)
theorem tw_m_0 (w : List Nat) : tw_m w 0 = some w := by
  cases w with
  | nil => rfl
  | cons c w => rw [tw_m, if_pos rfl]
theorem tw_m_s (c : Nat) (w : List Nat) (m : Nat) : tw_m (c :: w) (m + 1) = tw_m w (m + tw_parts c) := by
  rw [tw_m, if_neg (by omega), Nat.add_sub_cancel]
theorem tw_m_n (m : Nat) : tw_m [] (m + 1) = none := by rw [tw_m, if_neg (by omega)]
theorem tw_m_add : ∀ (w : List Nat) (a b : Nat), tw_m w (a + b) = (tw_m w a).bind (fun r => tw_m r b)
  | w, 0, b => by rw [Nat.zero_add, tw_m_0]; rfl
  | [], a + 1, b => by rw [show a + 1 + b = (a + b) + 1 by omega, tw_m_n, tw_m_n]; rfl
  | c :: w, a + 1, b => by
    rw [show a + 1 + b = (a + b) + 1 by omega, tw_m_s, tw_m_s, show a + b + tw_parts c = (a + tw_parts c) + b by omega, tw_m_add w]
theorem tw_m_split : ∀ (w : List Nat) (m : Nat) (r : List Nat), tw_m w m = some r → ∃ u, w = u ++ r ∧ tw_m u m = some []
  | w, 0, r, h => by
    rw [tw_m_0] at h
    cases h
    exact ⟨[], rfl, rfl⟩
  | [], m + 1, r, h => by rw [tw_m_n] at h; cases h
  | c :: w, m + 1, r, h => by
    rw [tw_m_s] at h
    obtain ⟨u, h1, h2⟩ := tw_m_split w _ r h
    exact ⟨c :: u, by rw [h1]; rfl, by rw [tw_m_s]; exact h2⟩
theorem tw_m_app : ∀ (u : List Nat) (m : Nat) (r v : List Nat), tw_m u m = some r → tw_m (u ++ v) m = some (r ++ v)
  | u, 0, r, v, h => by
    rw [tw_m_0] at h
    cases h
    exact tw_m_0 _
  | [], m + 1, r, v, h => by rw [tw_m_n] at h; cases h
  | c :: u, m + 1, r, v, h => by
    rw [tw_m_s] at h
    rw [List.cons_append, tw_m_s]
    exact tw_m_app u _ r v h
theorem tw_m_len : ∀ (w : List Nat) (m : Nat) (r : List Nat), tw_m w m = some r → r.length + m ≤ w.length
  | w, 0, r, h => by
    rw [tw_m_0] at h
    cases h
    exact Nat.le_refl _
  | [], m + 1, r, h => by rw [tw_m_n] at h; cases h
  | c :: w, m + 1, r, h => by
    rw [tw_m_s] at h
    have := tw_m_len w _ r h
    rw [List.length_cons]
    omega
/-- a TERM: a whole word of at most twelve codes -/
def tw_wf (w : List Nat) : Prop := w.length ≤ 12 ∧ (∀ c ∈ w, tw_code c) ∧ tw_m w 1 = some []
theorem tw_wf.ok {w : List Nat} (h : tw_wf w) : tw_ok w := ⟨h.1, fun c hc => by have := h.2.1 c hc; unfold tw_code at this; omega⟩
theorem tw_wf.pos {w : List Nat} (h : tw_wf w) : 0 < w.length := by
  have := tw_m_len w 1 [] h.2.2
  rw [List.length_nil] at this
  omega
theorem tw_wf.one {c : Nat} (h : tw_code c) (h0 : tw_parts c = 0) : tw_wf [c] := ⟨by simp, fun d hd => by rw [List.mem_singleton.mp hd]; exact h, by rw [tw_m_s, h0]; rfl⟩
theorem tw_getD_cons (c : Nat) (w : List Nat) (k : Nat) : (c :: w).getD (k + 1) 0 = w.getD k 0 := rfl
theorem tw_getD_drop (w : List Nat) (k j : Nat) : (w.drop k).getD j 0 = w.getD (k + j) 0 := by
  rw [List.getD_eq_getElem?_getD, List.getD_eq_getElem?_getD, List.getElem?_drop]
/-- the machine's search for an end is the parse -/
theorem tw_go_m {w : List Nat} (hw : w.length ≤ 12) : ∀ (f e m : Nat) (r : List Nat), f = 12 - e → e ≤ w.length → tw_m (w.drop e) m = some r → tw_go w f e m = w.length - r.length
  | f, e, 0, r, hf, he, h => by
    rw [tw_m_0] at h
    cases h
    rw [tw_go_0, List.length_drop]
    omega
  | 0, e, m + 1, r, hf, he, h => by
    have := tw_m_len _ _ _ h
    rw [List.length_drop] at this
    omega
  | f + 1, e, m + 1, r, hf, he, h => by
    have hl := tw_m_len _ _ _ h
    rw [List.length_drop] at hl
    have hlt : e < w.length := by omega
    rw [List.drop_eq_getElem_cons hlt, tw_m_s] at h
    rw [tw_go, if_neg (by omega)]
    have e1 : w.getD e 0 = w[e] := by rw [List.getD_eq_getElem?_getD, List.getElem?_eq_getElem hlt]; rfl
    rw [e1, show m + 1 + tw_parts w[e] - 1 = m + tw_parts w[e] by omega]
    exact tw_go_m hw f (e + 1) _ r (by omega) hlt h
/-- behind every place of a parse there is a whole term -/
theorem tw_m_at : ∀ (w : List Nat) (m : Nat), tw_m w m = some [] → ∀ p, p < w.length → ∃ r, tw_m (w.drop p) 1 = some r
  | [], m, _, p, hp => absurd hp (Nat.not_lt_zero p)
  | c :: w, 0, h, p, hp => by rw [tw_m_0] at h; cases h
  | c :: w, m + 1, h, 0, hp => by
    rw [Nat.add_comm, tw_m_add] at h
    rw [List.drop_zero]
    cases h1 : tw_m (c :: w) 1 with
    | none => rw [h1] at h; cases h
    | some r => exact ⟨r, rfl⟩
  | c :: w, m + 1, h, p + 1, hp => by
    rw [tw_m_s] at h
    exact tw_m_at w _ h p (Nat.lt_of_succ_lt_succ hp)
/-- the part at a place: what is ahead of it, it, what is behind it -/
theorem tw_wf.at {w : List Nat} (h : tw_wf w) {p : Nat} (hp : p < w.length) : ∃ a u b, w = a ++ u ++ b ∧ a.length = p ∧ tw_wf u ∧ tw_end w p = p + u.length := by
  obtain ⟨r, hr⟩ := tw_m_at w 1 h.2.2 p hp
  obtain ⟨u, h1, h2⟩ := tw_m_split _ _ _ hr
  have hg := tw_go_m h.1 (12 - p) p 1 r rfl (Nat.le_of_lt hp) hr
  have e : w = w.take p ++ u ++ r := by rw [List.append_assoc, ← h1, List.take_append_drop]
  have hlen : (w.drop p).length = u.length + r.length := by rw [h1, List.length_append]
  rw [List.length_drop] at hlen
  refine ⟨w.take p, u, r, e, by rw [List.length_take]; omega, ⟨?_, fun c hc => h.2.1 c ?_, h2⟩, ?_⟩
  · have := h.1
    omega
  · rw [e]
    exact List.mem_append_left _ (List.mem_append_right _ hc)
  · show tw_go w (12 - p) p 1 = _
    rw [hg]
    omega
/-- what a TERM looks like -/
theorem tw_wf.cases {w : List Nat} (h : tw_wf w) : (∃ c, tw_code c ∧ tw_parts c = 0 ∧ w = [c]) ∨ (∃ c u, tw_code c ∧ tw_parts c = 1 ∧ tw_wf u ∧ w = c :: u ∧ tw_end w 1 = w.length) ∨ (∃ c u v, tw_code c ∧ tw_parts c = 2 ∧ tw_wf u ∧ tw_wf v ∧ w = c :: (u ++ v) ∧ tw_end w 1 = 1 + u.length) := by
  have h0 := h.pos
  cases w with
  | nil => exact absurd h0 (Nat.lt_irrefl 0)
  | cons c w =>
    have hc := h.2.1 c List.mem_cons_self
    have hm : tw_m w (0 + tw_parts c) = some [] := by rw [← tw_m_s]; exact h.2.2
    rw [Nat.zero_add] at hm
    have h12 : w.length + 1 ≤ 12 := h.1
    have hcs : ∀ d ∈ w, tw_code d := fun d hd => h.2.1 d (List.mem_cons_of_mem _ hd)
    have hp := tw_parts_le c
    rcases (show tw_parts c = 0 ∨ tw_parts c = 1 ∨ tw_parts c = 2 by omega) with q | q | q
    · rw [q, tw_m_0] at hm
      cases hm
      exact Or.inl ⟨c, hc, q, rfl⟩
    · rw [q] at hm
      have hw : tw_wf w := ⟨by omega, hcs, hm⟩
      refine Or.inr (Or.inl ⟨c, w, hc, q, hw, rfl, ?_⟩)
      have hg := tw_go_m h.1 (12 - 1) 1 1 [] rfl (by rw [List.length_cons]; omega) hm
      exact hg
    · rw [q, tw_m_add w 1 1] at hm
      cases h1 : tw_m w 1 with
      | none => rw [h1] at hm; cases hm
      | some r =>
        rw [h1] at hm
        have hm2 : tw_m r 1 = some [] := hm
        obtain ⟨u, e1, e2⟩ := tw_m_split _ _ _ h1
        have hl : w.length = u.length + r.length := by rw [e1, List.length_append]
        refine Or.inr (Or.inr ⟨c, u, r, hc, q, ⟨by omega, fun d hd => hcs d (by rw [e1]; exact List.mem_append_left _ hd), e2⟩, ⟨by omega, fun d hd => hcs d (by rw [e1]; exact List.mem_append_right _ hd), hm2⟩, by rw [e1], ?_⟩)
        have hg := tw_go_m h.1 (12 - 1) 1 1 r rfl (by rw [List.length_cons]; omega) h1
        have hg2 : tw_end (c :: w) 1 = (c :: w).length - r.length := hg
        rw [hg2, List.length_cons]
        omega
/-- two whole words at the head of the same word are the same -/
theorem tw_m_head {u v a b : List Nat} {m : Nat} (hu : tw_m u m = some []) (hv : tw_m v m = some []) (e : u ++ a = v ++ b) : u = v ∧ a = b := by
  have h1 := tw_m_app u m [] a hu
  have h2 := tw_m_app v m [] b hv
  rw [e, h2] at h1
  have h3 : b = a := Option.some.inj h1
  subst h3
  exact ⟨List.append_cancel_right e, rfl⟩
end
section
/-! which of two TERMS is GREATER, as Packed finds it -/
abbrev tw_P (u : List Nat) : List Nat := (u.drop 1).take (tw_end u 1 - 1)
abbrev tw_S (u : List Nat) (n : Nat) : List Nat := (u.drop (tw_end u 1)).take (n - tw_end u 1)
def tw_gtF : Nat → List Nat → List Nat → Bool
  | 0, _, _ => false
  | f + 1, u, v => if u = v then false else if tw_hv u v = true then
      (if u.length = v.length then
        (if (11 ≤ u.getD 0 0 ∧ u.getD 0 0 < 15) ∨ (11 ≤ v.getD 0 0 ∧ v.getD 0 0 < 15) then false
         else if u.getD 0 0 = v.getD 0 0 then (if tw_P u = tw_P v then tw_gtF f (tw_S u u.length) (tw_S v u.length) else tw_gtF f (tw_P u) (tw_P v))
         else decide (v.getD 0 0 < u.getD 0 0))
       else decide (v.length < u.length))
    else false
def tw_gt (u v : List Nat) : Bool := tw_gtF 12 u v
theorem tw_P2 {c : Nat} {u v : List Nat} (h : tw_end (c :: (u ++ v)) 1 = 1 + u.length) : tw_P (c :: (u ++ v)) = u := by
  show (List.drop 1 (c :: (u ++ v))).take _ = u
  rw [h, show 1 + u.length - 1 = u.length by omega]
  show (u ++ v).take u.length = u
  rw [List.take_left]
theorem tw_S2 {c : Nat} {u v : List Nat} {n : Nat} (h : tw_end (c :: (u ++ v)) 1 = 1 + u.length) (hn : n = 1 + u.length + v.length) : tw_S (c :: (u ++ v)) n = v := by
  show (List.drop _ (c :: (u ++ v))).take _ = v
  rw [h, Nat.add_comm 1 u.length]
  show (List.drop u.length (u ++ v)).take _ = v
  rw [List.drop_left, List.take_of_length_le (by omega)]
theorem tw_P1 {c : Nat} {u : List Nat} (h : tw_end (c :: u) 1 = (c :: u).length) : tw_P (c :: u) = u := by
  show (List.drop 1 (c :: u)).take _ = u
  rw [h]
  show u.take _ = u
  rw [List.take_of_length_le (by rw [List.length_cons]; omega)]
/-- the parts of two TERMS that are not the same, of one SIZE and with one sign -/
theorem tw_gt_step {u v : List Nat} (hu : tw_wf u) (hv : tw_wf v) (hne : ¬ u = v) (hl : u.length = v.length) (hc : u.getD 0 0 = v.getD 0 0) :
    tw_end u 1 ≤ u.length ∧ tw_end v 1 ≤ v.length ∧ 1 ≤ tw_end u 1 ∧ 1 ≤ tw_end v 1 ∧ tw_wf (tw_P u) ∧ tw_wf (tw_P v) ∧
      (tw_P u = tw_P v → tw_wf (tw_S u u.length) ∧ tw_wf (tw_S v u.length)) := by
  rcases hu.cases with ⟨c, -, h0, rfl⟩ | ⟨c, u1, -, h0, h1, rfl, he⟩ | ⟨c, u1, u2, -, h0, h1, h2, rfl, he⟩ <;>
    rcases hv.cases with ⟨d, -, g0, rfl⟩ | ⟨d, v1, -, g0, g1, rfl, ge⟩ | ⟨d, v1, v2, -, g0, g1, g2, rfl, ge⟩
  · have e : c = d := hc
    exact absurd (by rw [e]) hne
  · have e : c = d := hc
    rw [e, g0] at h0
    cases h0
  · have e : c = d := hc
    rw [e, g0] at h0
    cases h0
  · have e : c = d := hc
    rw [e, g0] at h0
    cases h0
  · have e : c = d := hc
    subst e
    refine ⟨Nat.le_of_eq he, Nat.le_of_eq ge, tw_end_ge _ 1, tw_end_ge _ 1, by rw [tw_P1 he]; exact h1, by rw [tw_P1 ge]; exact g1, fun q => ?_⟩
    rw [tw_P1 he, tw_P1 ge] at q
    exact absurd (by rw [q]) hne
  · have e : c = d := hc
    rw [e, g0] at h0
    cases h0
  · have e : c = d := hc
    rw [e, g0] at h0
    cases h0
  · have e : c = d := hc
    rw [e, g0] at h0
    cases h0
  · have l1 : (c :: (u1 ++ u2)).length = 1 + u1.length + u2.length := by rw [List.length_cons, List.length_append]; omega
    have l2 : (d :: (v1 ++ v2)).length = 1 + v1.length + v2.length := by rw [List.length_cons, List.length_append]; omega
    refine ⟨by rw [he, l1]; omega, by rw [ge, l2]; omega, tw_end_ge _ 1, tw_end_ge _ 1, by rw [tw_P2 he]; exact h1, by rw [tw_P2 ge]; exact g1, fun q => ⟨by rw [tw_S2 he l1]; exact h2, by rw [tw_S2 ge (hl.trans l2)]; exact g2⟩⟩
end
section
set_option maxHeartbeats 4000000 in
set_option maxRecDepth 100000 in
theorem c_X3_isGreater (l : Launch) (a b : List Nat) (ha : tw_wf a) (hb2 : tw_wf b) : Met l yX3_isGreater wsX3_isGreater ({ frames := 3, cells := 0, slots := 0, locals := 71 }) (va_Pc [.long (tw_L a), .long (tw_L b)] (fun _ => True)) (vp_Si (fun r => r = zI (zb (tw_gt a b)))) 0 0 (fun _ => False) := by
  refine Met.ofW (cc := cX3_isGreater) (maxL := 16) (ret := (some .boolean)) (by decide) rfl ?_
  intro p e s m args below meth c s₁ B hml hv
  obtain ⟨rfl, -⟩ := hv
  have hx := B.exec
  have hb := B.bytes
  have hr := B.returns
  have hts := atoms_spec (ws := wsX3_isGreater) B.pre
  have hown : s.vm.findClass RX3 = some m.cls := findClass_of_methodNamed B.named
  have hlocks := B.notSynchronized
  have hl := lv_entry ([.long (tw_L a), .long (tw_L b)]) (n := 16) (Nat.le_of_ble_eq_true rfl)
  rw [lg_entry_eq]
  generalize (lg_sl ([.long (tw_L a), .long (tw_L b)]) ++ List.replicate (16 - (lg_sl ([.long (tw_L a), .long (tw_L b)])).length) Slot.unset).toArray = ls at hl ⊢
  have hl : lv_has ls 16 [(0, .long (tw_L a)), (2, .long (tw_L b))] := hl
  refine lv_lload_n hx hb dX3_isGreater_0 rfl (lv_at hl 0 rfl) ?_
  refine lv_lstore (lv' := [(4, .long (tw_L a)), (0, .long (tw_L a)), (2, .long (tw_L b))]) hx hb dX3_isGreater_1 hl (by decide) rfl (fun ls hl => ?_)
  refine lv_lload_n hx hb dX3_isGreater_3 rfl (lv_at hl 2 rfl) ?_
  refine lv_lstore (lv' := [(6, .long (tw_L b)), (4, .long (tw_L a)), (0, .long (tw_L a)), (2, .long (tw_L b))]) hx hb dX3_isGreater_4 hl (by decide) rfl (fun ls hl => ?_)
  refine lv_iconst (v := zI (0)) hx hb dX3_isGreater_6 rfl ?_
  refine lv_istore (lv' := [(8, .int (zI (0))), (6, .long (tw_L b)), (4, .long (tw_L a)), (0, .long (tw_L a)), (2, .long (tw_L b))]) hx hb dX3_isGreater_7 hl (by decide) rfl (fun ls hl => ?_)
  have lp9 : ∀ (fu : Nat) (u : List Nat) (v : List Nat) (k : Nat) (x8 : Int32) (x4 : Int64) (x6 : Int64) (ls : Array Slot), (12 - k < fu) → (k ≤ 12) → (tw_wf u) → (tw_wf v) → (tw_gtF (12 - k) u v = tw_gt a b) → (x8 = zI ((k : Int))) → (x4 = tw_L u) → (x6 = tw_L v) → lv_has ls 16 [(4, .long (x4)), (6, .long (x6)), (8, .int (x8))] → W p l e (headSpec wsX3_isGreater ({ frames := 3, cells := 0, slots := 0, locals := 71 })).room s m ([.long (tw_L a), .long (tw_L b)] : List Value).toArray below meth c s.heap [] 0 0 (MQ below (vp_Si (fun r => r = zI (zb (tw_gt a b)))) ([.long (tw_L a), .long (tw_L b)] : List Value).toArray s 0 0 (fun _ => False)) (F0 m 9 ls []) := by
    intro fu
    induction fu with
    | zero => intro u v k x4 x6 x8 ls hn; exact absurd hn (Nat.not_lt_zero _)
    | succ fu ih9 =>
      intro u v k x4 x6 x8 ls hn9 hk hu hv hg e8 e4 e6 hl
      subst e4
      subst e6
      subst e8
      have hul := hu.1
      have hvl := hv.1
      have gu := tw_getD_le hu.ok 0
      have gv := tw_getD_le hv.ok 0
      refine lv_iload hx hb dX3_isGreater_9 (lv_at hl 2 rfl) ?_
      refine lv_bipush (v := zI (12)) hx hb dX3_isGreater_11 (by decide) ?_
      refine zic_ge (tgt := 229) hx hb dX3_isGreater_13 (by decide) (by omega) (by omega) (fun c_13 => ?_) (fun c_13 => ?_)
      · skip
        rw [show 12 - k = 0 by omega] at hg
        have hz : zb (tw_gt a b) = 0 := by rw [← hg]; rfl
        refine lv_iconst (v := zI (0)) hx hb dX3_isGreater_229 rfl ?_
        exact W.zret (v := (zI (0))) (ty := .boolean) hx hb hr (by decide) (fun t ht hW => ⟨_, rfl, by rw [hz], ht⟩) (fun q hq => by cases hq) dX3_isGreater_230
      · skip
        rw [show 12 - k = (12 - (k + 1)) + 1 by omega, tw_gtF] at hg
        refine lv_lload hx hb dX3_isGreater_16 (lv_at hl 0 rfl) ?_
        refine lv_lload hx hb dX3_isGreater_18 (lv_at hl 1 rfl) ?_
        refine W.lcmp hx hb dX3_isGreater_20 ?_
        refine lv_if_eq (tgt := 229) hx hb dX3_isGreater_21 (by decide) (fun c_21 => ?_) (fun c_21 => ?_)
        · skip
          rw [lg_cmp_eq, tw_Le hu.ok hv.ok] at c_21
          rw [if_pos c_21] at hg
          have hz : zb (tw_gt a b) = 0 := by rw [← hg]; rfl
          refine lv_iconst (v := zI (0)) hx hb dX3_isGreater_229 rfl ?_
          exact W.zret (v := (zI (0))) (ty := .boolean) hx hb hr (by decide) (fun t ht hW => ⟨_, rfl, by rw [hz], ht⟩) (fun q hq => by cases hq) dX3_isGreater_230
        · skip
          rw [lg_cmp_eq, tw_Le hu.ok hv.ok] at c_21
          rw [if_neg c_21] at hg
          refine lv_lload hx hb dX3_isGreater_24 (lv_at hl 0 rfl) ?_
          refine lv_lload hx hb dX3_isGreater_26 (lv_at hl 1 rfl) ?_
          refine vp_callSi (W.runS (As := [.long (tw_L u), .long (tw_L v)]) (rest := []) ⟨hx, hb, hml, hown, hts⟩ (c_X3_hasVariablesOf l u v hu.ok hv.ok) (va_cwS 2 hts gX3_isGreater_X3_hasVariablesOf rfl rfl rfl (by decide +kernel) ⟨Nat.le_of_ble_eq_true rfl, Nat.le_of_ble_eq_true rfl⟩) ⟨fun _ _ _ _ h => h, fun U hU hW => ⟨rfl, trivial⟩⟩ rfl rfl hl.1 rfl (lv_room (Nat.le_of_ble_eq_true rfl)) dX3_isGreater_28 ⟨Nat.zero_le _, Nat.zero_le _⟩) (fun r hr1 => ?_)
          subst hr1
          refine zif_ne (tgt := 36) hx hb dX3_isGreater_31 (by decide) (by have := zb_rng (tw_hv u v); omega) (fun c_31 => ?_) (fun c_31 => ?_)
          · skip
            rw [zb_iff, Classical.not_not] at c_31
            rw [if_pos c_31] at hg
            refine lv_lload hx hb dX3_isGreater_36 (lv_at hl 0 rfl) ?_
            refine vp_callSi (W.runS (As := [.long (tw_L u)]) (rest := []) ⟨hx, hb, hml, hown, hts⟩ (c_X3_sizeOf l u hu.ok) (va_cwS 1 hts gX3_isGreater_X3_sizeOf rfl rfl rfl (by decide +kernel) ⟨Nat.le_of_ble_eq_true rfl, Nat.le_of_ble_eq_true rfl⟩) ⟨fun _ _ _ _ h => h, fun U hU hW => ⟨rfl, trivial⟩⟩ rfl rfl hl.1 rfl (lv_room (Nat.le_of_ble_eq_true rfl)) dX3_isGreater_38 ⟨Nat.zero_le _, Nat.zero_le _⟩) (fun r hr2 => ?_)
            subst hr2
            refine lv_lload hx hb dX3_isGreater_41 (lv_at hl 1 rfl) ?_
            refine vp_callSi (W.runS (As := [.long (tw_L v)]) (rest := [.int (zI (((u.length : Nat) : Int)))]) ⟨hx, hb, hml, hown, hts⟩ (c_X3_sizeOf l v hv.ok) (va_cwS 1 hts gX3_isGreater_X3_sizeOf rfl rfl rfl (by decide +kernel) ⟨Nat.le_of_ble_eq_true rfl, Nat.le_of_ble_eq_true rfl⟩) ⟨fun _ _ _ _ h => h, fun U hU hW => ⟨rfl, trivial⟩⟩ rfl rfl hl.1 rfl (lv_room (Nat.le_of_ble_eq_true rfl)) dX3_isGreater_43 ⟨Nat.zero_le _, Nat.zero_le _⟩) (fun r hr3 => ?_)
            subst hr3
            refine lv_isub hx hb dX3_isGreater_46 ?_
            refine zi_top (zI_sub _ _) ?_
            refine lv_istore (lv' := [(9, .int (zI ((((u.length : Nat) : Int)) - (((v.length : Nat) : Int))))), (4, .long (tw_L u)), (6, .long (tw_L v)), (8, .int (zI ((k : Int))))]) hx hb dX3_isGreater_47 hl (by decide) rfl (fun ls hl => ?_)
            refine lv_iload hx hb dX3_isGreater_49 (lv_at hl 0 rfl) ?_
            refine zif_eq (tgt := 65) hx hb dX3_isGreater_51 (by decide) (by omega) (fun c_51 => ?_) (fun c_51 => ?_)
            · skip
              rw [if_pos (by omega)] at hg
              refine lv_lload hx hb dX3_isGreater_65 (lv_at hl 1 rfl) ?_
              refine lv_iconst (v := zI (0)) hx hb dX3_isGreater_67 rfl ?_
              refine vp_callSi (W.runS (As := [.long (tw_L u), .int (zI (0))]) (rest := []) ⟨hx, hb, hml, hown, hts⟩ (c_X3_codeAt l u hu.ok 0 (by decide)) (va_cwS 2 hts gX3_isGreater_X3_codeAt rfl rfl rfl (by decide +kernel) ⟨Nat.le_of_ble_eq_true rfl, Nat.le_of_ble_eq_true rfl⟩) ⟨fun _ _ _ _ h => h, fun U hU hW => ⟨rfl, trivial⟩⟩ rfl rfl hl.1 rfl (lv_room (Nat.le_of_ble_eq_true rfl)) dX3_isGreater_68 ⟨Nat.zero_le _, Nat.zero_le _⟩) (fun r hr4 => ?_)
              subst hr4
              refine lv_istore (lv' := [(10, .int (zI (((u.getD 0 0 : Nat) : Int)))), (9, .int (zI ((((u.length : Nat) : Int)) - (((v.length : Nat) : Int))))), (4, .long (tw_L u)), (6, .long (tw_L v)), (8, .int (zI ((k : Int))))]) hx hb dX3_isGreater_71 hl (by decide) rfl (fun ls hl => ?_)
              refine lv_lload hx hb dX3_isGreater_73 (lv_at hl 3 rfl) ?_
              refine lv_iconst (v := zI (0)) hx hb dX3_isGreater_75 rfl ?_
              refine vp_callSi (W.runS (As := [.long (tw_L v), .int (zI (0))]) (rest := []) ⟨hx, hb, hml, hown, hts⟩ (c_X3_codeAt l v hv.ok 0 (by decide)) (va_cwS 2 hts gX3_isGreater_X3_codeAt rfl rfl rfl (by decide +kernel) ⟨Nat.le_of_ble_eq_true rfl, Nat.le_of_ble_eq_true rfl⟩) ⟨fun _ _ _ _ h => h, fun U hU hW => ⟨rfl, trivial⟩⟩ rfl rfl hl.1 rfl (lv_room (Nat.le_of_ble_eq_true rfl)) dX3_isGreater_76 ⟨Nat.zero_le _, Nat.zero_le _⟩) (fun r hr5 => ?_)
              subst hr5
              refine lv_istore (lv' := [(11, .int (zI (((v.getD 0 0 : Nat) : Int)))), (10, .int (zI (((u.getD 0 0 : Nat) : Int)))), (9, .int (zI ((((u.length : Nat) : Int)) - (((v.length : Nat) : Int))))), (4, .long (tw_L u)), (6, .long (tw_L v)), (8, .int (zI ((k : Int))))]) hx hb dX3_isGreater_79 hl (by decide) rfl (fun ls hl => ?_)
              refine lv_iload hx hb dX3_isGreater_81 (lv_at hl 1 rfl) ?_
              refine vp_callSi (W.runS (As := [.int (zI (((u.getD 0 0 : Nat) : Int)))]) (rest := []) ⟨hx, hb, hml, hown, hts⟩ (c_X3_isVariable l ((u.getD 0 0 : Nat) : Int) (by omega)) (va_cwS 1 hts gX3_isGreater_X3_isVariable rfl rfl rfl (by decide +kernel) ⟨Nat.le_of_ble_eq_true rfl, Nat.le_of_ble_eq_true rfl⟩) ⟨fun _ _ _ _ h => h, fun U hU hW => ⟨rfl, trivial⟩⟩ rfl rfl hl.1 rfl (lv_room (Nat.le_of_ble_eq_true rfl)) dX3_isGreater_83 ⟨Nat.zero_le _, Nat.zero_le _⟩) (fun r hr6 => ?_)
              subst hr6
              refine zif_ne (tgt := 97) hx hb dX3_isGreater_86 (by decide) (by have := zb_rng (decide (11 ≤ ((u.getD 0 0 : Nat) : Int) ∧ ((u.getD 0 0 : Nat) : Int) < 15)); omega) (fun c_86 => ?_) (fun c_86 => ?_)
              · skip
                rw [zb_iff, Classical.not_not, decide_eq_true_iff] at c_86
                rw [if_pos (Or.inl (by omega))] at hg
                have hz : zb (tw_gt a b) = 0 := by rw [← hg]; rfl
                refine lv_iconst (v := zI (0)) hx hb dX3_isGreater_97 rfl ?_
                exact W.zret (v := (zI (0))) (ty := .boolean) hx hb hr (by decide) (fun t ht hW => ⟨_, rfl, by rw [hz], ht⟩) (fun q hq => by cases hq) dX3_isGreater_98
              · skip
                rw [zb_iff, decide_eq_true_iff] at c_86
                refine lv_iload hx hb dX3_isGreater_89 (lv_at hl 0 rfl) ?_
                refine vp_callSi (W.runS (As := [.int (zI (((v.getD 0 0 : Nat) : Int)))]) (rest := []) ⟨hx, hb, hml, hown, hts⟩ (c_X3_isVariable l ((v.getD 0 0 : Nat) : Int) (by omega)) (va_cwS 1 hts gX3_isGreater_X3_isVariable rfl rfl rfl (by decide +kernel) ⟨Nat.le_of_ble_eq_true rfl, Nat.le_of_ble_eq_true rfl⟩) ⟨fun _ _ _ _ h => h, fun U hU hW => ⟨rfl, trivial⟩⟩ rfl rfl hl.1 rfl (lv_room (Nat.le_of_ble_eq_true rfl)) dX3_isGreater_91 ⟨Nat.zero_le _, Nat.zero_le _⟩) (fun r hr7 => ?_)
                subst hr7
                refine zif_eq (tgt := 99) hx hb dX3_isGreater_94 (by decide) (by have := zb_rng (decide (11 ≤ ((v.getD 0 0 : Nat) : Int) ∧ ((v.getD 0 0 : Nat) : Int) < 15)); omega) (fun c_94 => ?_) (fun c_94 => ?_)
                · skip
                  rw [zb_iff, decide_eq_true_iff] at c_94
                  rw [if_neg (by omega)] at hg
                  refine lv_iload hx hb dX3_isGreater_99 (lv_at hl 1 rfl) ?_
                  refine lv_iload hx hb dX3_isGreater_101 (lv_at hl 0 rfl) ?_
                  refine zic_eq (tgt := 119) hx hb dX3_isGreater_103 (by decide) (by omega) (by omega) (fun c_103 => ?_) (fun c_103 => ?_)
                  · skip
                    rw [if_pos (by omega)] at hg
                    have hst := tw_gt_step hu hv c_21 (by omega) (by omega)
                    obtain ⟨hs1, hs2, hs3, hs4, -⟩ := id hst
                    refine lv_lload hx hb dX3_isGreater_119 (lv_at hl 3 rfl) ?_
                    refine lv_iconst (v := zI (1)) hx hb dX3_isGreater_121 rfl ?_
                    refine vp_callSi (W.runS (As := [.long (tw_L u), .int (zI (1))]) (rest := []) ⟨hx, hb, hml, hown, hts⟩ (c_X3_endOf l u hu.ok 1 (by decide)) (va_cwS 2 hts gX3_isGreater_X3_endOf rfl rfl rfl (by decide +kernel) ⟨Nat.le_of_ble_eq_true rfl, Nat.le_of_ble_eq_true rfl⟩) ⟨fun _ _ _ _ h => h, fun U hU hW => ⟨rfl, trivial⟩⟩ rfl rfl hl.1 rfl (lv_room (Nat.le_of_ble_eq_true rfl)) dX3_isGreater_122 ⟨Nat.zero_le _, Nat.zero_le _⟩) (fun r hr8 => ?_)
                    subst hr8
                    refine lv_istore (lv' := [(12, .int (zI (((tw_end u 1 : Nat) : Int)))), (11, .int (zI (((v.getD 0 0 : Nat) : Int)))), (10, .int (zI (((u.getD 0 0 : Nat) : Int)))), (9, .int (zI ((((u.length : Nat) : Int)) - (((v.length : Nat) : Int))))), (4, .long (tw_L u)), (6, .long (tw_L v)), (8, .int (zI ((k : Int))))]) hx hb dX3_isGreater_125 hl (by decide) rfl (fun ls hl => ?_)
                    refine lv_lload hx hb dX3_isGreater_127 (lv_at hl 5 rfl) ?_
                    refine lv_iconst (v := zI (1)) hx hb dX3_isGreater_129 rfl ?_
                    refine vp_callSi (W.runS (As := [.long (tw_L v), .int (zI (1))]) (rest := []) ⟨hx, hb, hml, hown, hts⟩ (c_X3_endOf l v hv.ok 1 (by decide)) (va_cwS 2 hts gX3_isGreater_X3_endOf rfl rfl rfl (by decide +kernel) ⟨Nat.le_of_ble_eq_true rfl, Nat.le_of_ble_eq_true rfl⟩) ⟨fun _ _ _ _ h => h, fun U hU hW => ⟨rfl, trivial⟩⟩ rfl rfl hl.1 rfl (lv_room (Nat.le_of_ble_eq_true rfl)) dX3_isGreater_130 ⟨Nat.zero_le _, Nat.zero_le _⟩) (fun r hr9 => ?_)
                    subst hr9
                    refine lv_istore (lv' := [(13, .int (zI (((tw_end v 1 : Nat) : Int)))), (12, .int (zI (((tw_end u 1 : Nat) : Int)))), (11, .int (zI (((v.getD 0 0 : Nat) : Int)))), (10, .int (zI (((u.getD 0 0 : Nat) : Int)))), (9, .int (zI ((((u.length : Nat) : Int)) - (((v.length : Nat) : Int))))), (4, .long (tw_L u)), (6, .long (tw_L v)), (8, .int (zI ((k : Int))))]) hx hb dX3_isGreater_133 hl (by decide) rfl (fun ls hl => ?_)
                    refine lv_lload hx hb dX3_isGreater_135 (lv_at hl 5 rfl) ?_
                    refine lv_iconst (v := zI (1)) hx hb dX3_isGreater_137 rfl ?_
                    refine lv_iload hx hb dX3_isGreater_138 (lv_at hl 1 rfl) ?_
                    refine vp_callSl (W.runS (As := [.long (tw_L u), .int (zI (1)), .int (zI (((tw_end u 1 : Nat) : Int)))]) (rest := []) ⟨hx, hb, hml, hown, hts⟩ (c_X3_part l u hu.ok 1 (tw_end u 1) (by decide) (by omega) (by omega)) (va_cwS 3 hts gX3_isGreater_X3_part rfl rfl rfl (by decide +kernel) ⟨Nat.le_of_ble_eq_true rfl, Nat.le_of_ble_eq_true rfl⟩) ⟨fun _ _ _ _ h => h, fun U hU hW => ⟨rfl, trivial⟩⟩ rfl rfl hl.1 rfl (lv_room (Nat.le_of_ble_eq_true rfl)) dX3_isGreater_140 ⟨Nat.zero_le _, Nat.zero_le _⟩) (fun r hr10 => ?_)
                    subst hr10
                    refine lv_lload hx hb dX3_isGreater_143 (lv_at hl 6 rfl) ?_
                    refine lv_iconst (v := zI (1)) hx hb dX3_isGreater_145 rfl ?_
                    refine lv_iload hx hb dX3_isGreater_146 (lv_at hl 0 rfl) ?_
                    refine vp_callSl (W.runS (As := [.long (tw_L v), .int (zI (1)), .int (zI (((tw_end v 1 : Nat) : Int)))]) (rest := [.long (tw_L (tw_P u))]) ⟨hx, hb, hml, hown, hts⟩ (c_X3_part l v hv.ok 1 (tw_end v 1) (by decide) (by omega) (by omega)) (va_cwS 3 hts gX3_isGreater_X3_part rfl rfl rfl (by decide +kernel) ⟨Nat.le_of_ble_eq_true rfl, Nat.le_of_ble_eq_true rfl⟩) ⟨fun _ _ _ _ h => h, fun U hU hW => ⟨rfl, trivial⟩⟩ rfl rfl hl.1 rfl (lv_room (Nat.le_of_ble_eq_true rfl)) dX3_isGreater_148 ⟨Nat.zero_le _, Nat.zero_le _⟩) (fun r hr11 => ?_)
                    subst hr11
                    refine W.lcmp hx hb dX3_isGreater_151 ?_
                    refine lv_if_ne (tgt := 159) hx hb dX3_isGreater_152 (by decide) (fun c_152 => ?_) (fun c_152 => ?_)
                    · skip
                      rw [lg_cmp_eq, tw_Le hst.2.2.2.2.1.ok hst.2.2.2.2.2.1.ok] at c_152
                      rw [if_neg c_152] at hg
                      refine lv_iconst (v := zI (0)) hx hb dX3_isGreater_159 rfl ?_
                      refine lv_istore (lv' := [(14, .int (zI (0))), (13, .int (zI (((tw_end v 1 : Nat) : Int)))), (12, .int (zI (((tw_end u 1 : Nat) : Int)))), (11, .int (zI (((v.getD 0 0 : Nat) : Int)))), (10, .int (zI (((u.getD 0 0 : Nat) : Int)))), (9, .int (zI ((((u.length : Nat) : Int)) - (((v.length : Nat) : Int))))), (4, .long (tw_L u)), (6, .long (tw_L v)), (8, .int (zI ((k : Int))))]) hx hb dX3_isGreater_160 hl (by decide) rfl (fun ls hl => ?_)
                      refine lv_lload hx hb dX3_isGreater_162 (lv_at hl 6 rfl) ?_
                      refine vp_callSi (W.runS (As := [.long (tw_L u)]) (rest := []) ⟨hx, hb, hml, hown, hts⟩ (c_X3_sizeOf l u hu.ok) (va_cwS 1 hts gX3_isGreater_X3_sizeOf rfl rfl rfl (by decide +kernel) ⟨Nat.le_of_ble_eq_true rfl, Nat.le_of_ble_eq_true rfl⟩) ⟨fun _ _ _ _ h => h, fun U hU hW => ⟨rfl, trivial⟩⟩ rfl rfl hl.1 rfl (lv_room (Nat.le_of_ble_eq_true rfl)) dX3_isGreater_164 ⟨Nat.zero_le _, Nat.zero_le _⟩) (fun r hr12 => ?_)
                      subst hr12
                      refine lv_istore (lv' := [(15, .int (zI (((u.length : Nat) : Int)))), (14, .int (zI (0))), (13, .int (zI (((tw_end v 1 : Nat) : Int)))), (12, .int (zI (((tw_end u 1 : Nat) : Int)))), (11, .int (zI (((v.getD 0 0 : Nat) : Int)))), (10, .int (zI (((u.getD 0 0 : Nat) : Int)))), (9, .int (zI ((((u.length : Nat) : Int)) - (((v.length : Nat) : Int))))), (4, .long (tw_L u)), (6, .long (tw_L v)), (8, .int (zI ((k : Int))))]) hx hb dX3_isGreater_167 hl (by decide) rfl (fun ls hl => ?_)
                      refine lv_iload hx hb dX3_isGreater_169 (lv_at hl 1 rfl) ?_
                      refine zif_eq (tgt := 186) hx hb dX3_isGreater_171 (by decide) (by omega) (fun c_171 => ?_) (fun c_171 => absurd c_171 (by decide))
                      refine lv_lload hx hb dX3_isGreater_186 (lv_at hl 7 rfl) ?_
                      refine lv_iconst (v := zI (1)) hx hb dX3_isGreater_188 rfl ?_
                      refine lv_iload hx hb dX3_isGreater_189 (lv_at hl 3 rfl) ?_
                      refine vp_callSl (W.runS (As := [.long (tw_L u), .int (zI (1)), .int (zI (((tw_end u 1 : Nat) : Int)))]) (rest := []) ⟨hx, hb, hml, hown, hts⟩ (c_X3_part l u hu.ok 1 (tw_end u 1) (by decide) (by omega) (by omega)) (va_cwS 3 hts gX3_isGreater_X3_part rfl rfl rfl (by decide +kernel) ⟨Nat.le_of_ble_eq_true rfl, Nat.le_of_ble_eq_true rfl⟩) ⟨fun _ _ _ _ h => h, fun U hU hW => ⟨rfl, trivial⟩⟩ rfl rfl hl.1 rfl (lv_room (Nat.le_of_ble_eq_true rfl)) dX3_isGreater_191 ⟨Nat.zero_le _, Nat.zero_le _⟩) (fun r hr13 => ?_)
                      subst hr13
                      refine lv_lstore (lv' := [(4, .long (tw_L (tw_P u))), (15, .int (zI (((u.length : Nat) : Int)))), (14, .int (zI (0))), (13, .int (zI (((tw_end v 1 : Nat) : Int)))), (12, .int (zI (((tw_end u 1 : Nat) : Int)))), (11, .int (zI (((v.getD 0 0 : Nat) : Int)))), (10, .int (zI (((u.getD 0 0 : Nat) : Int)))), (9, .int (zI ((((u.length : Nat) : Int)) - (((v.length : Nat) : Int))))), (6, .long (tw_L v)), (8, .int (zI ((k : Int))))]) hx hb dX3_isGreater_194 hl (by decide) rfl (fun ls hl => ?_)
                      refine lv_iload hx hb dX3_isGreater_196 (lv_at hl 2 rfl) ?_
                      refine zif_eq (tgt := 213) hx hb dX3_isGreater_198 (by decide) (by omega) (fun c_198 => ?_) (fun c_198 => absurd c_198 (by decide))
                      refine lv_lload hx hb dX3_isGreater_213 (lv_at hl 8 rfl) ?_
                      refine lv_iconst (v := zI (1)) hx hb dX3_isGreater_215 rfl ?_
                      refine lv_iload hx hb dX3_isGreater_216 (lv_at hl 3 rfl) ?_
                      refine vp_callSl (W.runS (As := [.long (tw_L v), .int (zI (1)), .int (zI (((tw_end v 1 : Nat) : Int)))]) (rest := []) ⟨hx, hb, hml, hown, hts⟩ (c_X3_part l v hv.ok 1 (tw_end v 1) (by decide) (by omega) (by omega)) (va_cwS 3 hts gX3_isGreater_X3_part rfl rfl rfl (by decide +kernel) ⟨Nat.le_of_ble_eq_true rfl, Nat.le_of_ble_eq_true rfl⟩) ⟨fun _ _ _ _ h => h, fun U hU hW => ⟨rfl, trivial⟩⟩ rfl rfl hl.1 rfl (lv_room (Nat.le_of_ble_eq_true rfl)) dX3_isGreater_218 ⟨Nat.zero_le _, Nat.zero_le _⟩) (fun r hr14 => ?_)
                      subst hr14
                      refine lv_lstore (lv' := [(6, .long (tw_L (tw_P v))), (4, .long (tw_L (tw_P u))), (15, .int (zI (((u.length : Nat) : Int)))), (14, .int (zI (0))), (13, .int (zI (((tw_end v 1 : Nat) : Int)))), (12, .int (zI (((tw_end u 1 : Nat) : Int)))), (11, .int (zI (((v.getD 0 0 : Nat) : Int)))), (10, .int (zI (((u.getD 0 0 : Nat) : Int)))), (9, .int (zI ((((u.length : Nat) : Int)) - (((v.length : Nat) : Int))))), (8, .int (zI ((k : Int))))]) hx hb dX3_isGreater_221 hl (by decide) rfl (fun ls hl => ?_)
                      refine lv_iinc (v := zI ((k : Int) + 1)) (lv' := [(8, .int (zI ((k : Int) + 1))), (6, .long (tw_L (tw_P v))), (4, .long (tw_L (tw_P u))), (15, .int (zI (((u.length : Nat) : Int)))), (14, .int (zI (0))), (13, .int (zI (((tw_end v 1 : Nat) : Int)))), (12, .int (zI (((tw_end u 1 : Nat) : Int)))), (11, .int (zI (((v.getD 0 0 : Nat) : Int)))), (10, .int (zI (((u.getD 0 0 : Nat) : Int)))), (9, .int (zI ((((u.length : Nat) : Int)) - (((v.length : Nat) : Int)))))]) hx hb dX3_isGreater_223 hl (k := 9) rfl (zI_add ((k : Int)) 1) (by decide) rfl (fun ls hl => ?_)
                      refine lv_goto (tgt := 9) hx hb dX3_isGreater_226 (by decide) ?_
                      exact ih9 (tw_P u) (tw_P v) (k + 1) _ _ _ ls (by omega) (by omega) (hst.2.2.2.2.1) (hst.2.2.2.2.2.1) (hg) (zI_c (by omega)) (rfl) (rfl) (lv_sub hl [2, 1, 0] rfl)
                    · skip
                      rw [lg_cmp_eq, tw_Le hst.2.2.2.2.1.ok hst.2.2.2.2.2.1.ok] at c_152
                      rw [if_pos c_152] at hg
                      refine lv_iconst (v := zI (1)) hx hb dX3_isGreater_155 rfl ?_
                      refine lv_goto (tgt := 160) hx hb dX3_isGreater_156 (by decide) ?_
                      refine lv_istore (lv' := [(14, .int (zI (1))), (13, .int (zI (((tw_end v 1 : Nat) : Int)))), (12, .int (zI (((tw_end u 1 : Nat) : Int)))), (11, .int (zI (((v.getD 0 0 : Nat) : Int)))), (10, .int (zI (((u.getD 0 0 : Nat) : Int)))), (9, .int (zI ((((u.length : Nat) : Int)) - (((v.length : Nat) : Int))))), (4, .long (tw_L u)), (6, .long (tw_L v)), (8, .int (zI ((k : Int))))]) hx hb dX3_isGreater_160 hl (by decide) rfl (fun ls hl => ?_)
                      refine lv_lload hx hb dX3_isGreater_162 (lv_at hl 6 rfl) ?_
                      refine vp_callSi (W.runS (As := [.long (tw_L u)]) (rest := []) ⟨hx, hb, hml, hown, hts⟩ (c_X3_sizeOf l u hu.ok) (va_cwS 1 hts gX3_isGreater_X3_sizeOf rfl rfl rfl (by decide +kernel) ⟨Nat.le_of_ble_eq_true rfl, Nat.le_of_ble_eq_true rfl⟩) ⟨fun _ _ _ _ h => h, fun U hU hW => ⟨rfl, trivial⟩⟩ rfl rfl hl.1 rfl (lv_room (Nat.le_of_ble_eq_true rfl)) dX3_isGreater_164 ⟨Nat.zero_le _, Nat.zero_le _⟩) (fun r hr15 => ?_)
                      subst hr15
                      refine lv_istore (lv' := [(15, .int (zI (((u.length : Nat) : Int)))), (14, .int (zI (1))), (13, .int (zI (((tw_end v 1 : Nat) : Int)))), (12, .int (zI (((tw_end u 1 : Nat) : Int)))), (11, .int (zI (((v.getD 0 0 : Nat) : Int)))), (10, .int (zI (((u.getD 0 0 : Nat) : Int)))), (9, .int (zI ((((u.length : Nat) : Int)) - (((v.length : Nat) : Int))))), (4, .long (tw_L u)), (6, .long (tw_L v)), (8, .int (zI ((k : Int))))]) hx hb dX3_isGreater_167 hl (by decide) rfl (fun ls hl => ?_)
                      refine lv_iload hx hb dX3_isGreater_169 (lv_at hl 1 rfl) ?_
                      refine zif_eq (tgt := 186) hx hb dX3_isGreater_171 (by decide) (by omega) (fun c_171 => absurd c_171 (by decide)) (fun c_171 => ?_)
                      refine lv_lload hx hb dX3_isGreater_174 (lv_at hl 7 rfl) ?_
                      refine lv_iload hx hb dX3_isGreater_176 (lv_at hl 3 rfl) ?_
                      refine lv_iload hx hb dX3_isGreater_178 (lv_at hl 0 rfl) ?_
                      refine vp_callSl (W.runS (As := [.long (tw_L u), .int (zI (((tw_end u 1 : Nat) : Int))), .int (zI (((u.length : Nat) : Int)))]) (rest := []) ⟨hx, hb, hml, hown, hts⟩ (c_X3_part l u hu.ok (tw_end u 1) u.length (by omega) (by omega) (by omega)) (va_cwS 3 hts gX3_isGreater_X3_part rfl rfl rfl (by decide +kernel) ⟨Nat.le_of_ble_eq_true rfl, Nat.le_of_ble_eq_true rfl⟩) ⟨fun _ _ _ _ h => h, fun U hU hW => ⟨rfl, trivial⟩⟩ rfl rfl hl.1 rfl (lv_room (Nat.le_of_ble_eq_true rfl)) dX3_isGreater_180 ⟨Nat.zero_le _, Nat.zero_le _⟩) (fun r hr16 => ?_)
                      subst hr16
                      refine lv_goto (tgt := 194) hx hb dX3_isGreater_183 (by decide) ?_
                      refine lv_lstore (lv' := [(4, .long (tw_L (tw_S u u.length))), (15, .int (zI (((u.length : Nat) : Int)))), (14, .int (zI (1))), (13, .int (zI (((tw_end v 1 : Nat) : Int)))), (12, .int (zI (((tw_end u 1 : Nat) : Int)))), (11, .int (zI (((v.getD 0 0 : Nat) : Int)))), (10, .int (zI (((u.getD 0 0 : Nat) : Int)))), (9, .int (zI ((((u.length : Nat) : Int)) - (((v.length : Nat) : Int))))), (6, .long (tw_L v)), (8, .int (zI ((k : Int))))]) hx hb dX3_isGreater_194 hl (by decide) rfl (fun ls hl => ?_)
                      refine lv_iload hx hb dX3_isGreater_196 (lv_at hl 2 rfl) ?_
                      refine zif_eq (tgt := 213) hx hb dX3_isGreater_198 (by decide) (by omega) (fun c_198 => absurd c_198 (by decide)) (fun c_198 => ?_)
                      refine lv_lload hx hb dX3_isGreater_201 (lv_at hl 8 rfl) ?_
                      refine lv_iload hx hb dX3_isGreater_203 (lv_at hl 3 rfl) ?_
                      refine lv_iload hx hb dX3_isGreater_205 (lv_at hl 1 rfl) ?_
                      refine vp_callSl (W.runS (As := [.long (tw_L v), .int (zI (((tw_end v 1 : Nat) : Int))), .int (zI (((u.length : Nat) : Int)))]) (rest := []) ⟨hx, hb, hml, hown, hts⟩ (c_X3_part l v hv.ok (tw_end v 1) u.length (by omega) (by omega) (by omega)) (va_cwS 3 hts gX3_isGreater_X3_part rfl rfl rfl (by decide +kernel) ⟨Nat.le_of_ble_eq_true rfl, Nat.le_of_ble_eq_true rfl⟩) ⟨fun _ _ _ _ h => h, fun U hU hW => ⟨rfl, trivial⟩⟩ rfl rfl hl.1 rfl (lv_room (Nat.le_of_ble_eq_true rfl)) dX3_isGreater_207 ⟨Nat.zero_le _, Nat.zero_le _⟩) (fun r hr17 => ?_)
                      subst hr17
                      refine lv_goto (tgt := 221) hx hb dX3_isGreater_210 (by decide) ?_
                      refine lv_lstore (lv' := [(6, .long (tw_L (tw_S v u.length))), (4, .long (tw_L (tw_S u u.length))), (15, .int (zI (((u.length : Nat) : Int)))), (14, .int (zI (1))), (13, .int (zI (((tw_end v 1 : Nat) : Int)))), (12, .int (zI (((tw_end u 1 : Nat) : Int)))), (11, .int (zI (((v.getD 0 0 : Nat) : Int)))), (10, .int (zI (((u.getD 0 0 : Nat) : Int)))), (9, .int (zI ((((u.length : Nat) : Int)) - (((v.length : Nat) : Int))))), (8, .int (zI ((k : Int))))]) hx hb dX3_isGreater_221 hl (by decide) rfl (fun ls hl => ?_)
                      refine lv_iinc (v := zI ((k : Int) + 1)) (lv' := [(8, .int (zI ((k : Int) + 1))), (6, .long (tw_L (tw_S v u.length))), (4, .long (tw_L (tw_S u u.length))), (15, .int (zI (((u.length : Nat) : Int)))), (14, .int (zI (1))), (13, .int (zI (((tw_end v 1 : Nat) : Int)))), (12, .int (zI (((tw_end u 1 : Nat) : Int)))), (11, .int (zI (((v.getD 0 0 : Nat) : Int)))), (10, .int (zI (((u.getD 0 0 : Nat) : Int)))), (9, .int (zI ((((u.length : Nat) : Int)) - (((v.length : Nat) : Int)))))]) hx hb dX3_isGreater_223 hl (k := 9) rfl (zI_add ((k : Int)) 1) (by decide) rfl (fun ls hl => ?_)
                      refine lv_goto (tgt := 9) hx hb dX3_isGreater_226 (by decide) ?_
                      exact ih9 (tw_S u u.length) (tw_S v u.length) (k + 1) _ _ _ ls (by omega) (by omega) ((hst.2.2.2.2.2.2 c_152).1) ((hst.2.2.2.2.2.2 c_152).2) (hg) (zI_c (by omega)) (rfl) (rfl) (lv_sub hl [2, 1, 0] rfl)
                  · skip
                    rw [if_neg (by omega)] at hg
                    refine lv_iload hx hb dX3_isGreater_106 (lv_at hl 1 rfl) ?_
                    refine lv_iload hx hb dX3_isGreater_108 (lv_at hl 0 rfl) ?_
                    refine zic_le (tgt := 117) hx hb dX3_isGreater_110 (by decide) (by omega) (by omega) (fun c_110 => ?_) (fun c_110 => ?_)
                    · skip
                      have hz : zb (tw_gt a b) = 0 := by rw [← hg]; exact zb_f (fun h => absurd (of_decide_eq_true h) (by omega))
                      refine lv_iconst (v := zI (0)) hx hb dX3_isGreater_117 rfl ?_
                      exact W.zret (v := (zI (0))) (ty := .boolean) hx hb hr (by decide) (fun t ht hW => ⟨_, rfl, by rw [hz], ht⟩) (fun q hq => by cases hq) dX3_isGreater_118
                    · skip
                      have hz : zb (tw_gt a b) = 1 := by rw [← hg]; exact zb_t (decide_eq_true (by omega))
                      refine lv_iconst (v := zI (1)) hx hb dX3_isGreater_113 rfl ?_
                      refine lv_goto (tgt := 118) hx hb dX3_isGreater_114 (by decide) ?_
                      exact W.zret (v := (zI (1))) (ty := .boolean) hx hb hr (by decide) (fun t ht hW => ⟨_, rfl, by rw [hz], ht⟩) (fun q hq => by cases hq) dX3_isGreater_118
                · skip
                  rw [zb_iff, Classical.not_not, decide_eq_true_iff] at c_94
                  rw [if_pos (Or.inr (by omega))] at hg
                  have hz : zb (tw_gt a b) = 0 := by rw [← hg]; rfl
                  refine lv_iconst (v := zI (0)) hx hb dX3_isGreater_97 rfl ?_
                  exact W.zret (v := (zI (0))) (ty := .boolean) hx hb hr (by decide) (fun t ht hW => ⟨_, rfl, by rw [hz], ht⟩) (fun q hq => by cases hq) dX3_isGreater_98
            · skip
              rw [if_neg (by omega)] at hg
              refine lv_iload hx hb dX3_isGreater_54 (lv_at hl 0 rfl) ?_
              refine zif_le (tgt := 63) hx hb dX3_isGreater_56 (by decide) (by omega) (fun c_56 => ?_) (fun c_56 => ?_)
              · skip
                have hz : zb (tw_gt a b) = 0 := by rw [← hg]; exact zb_f (fun h => absurd (of_decide_eq_true h) (by omega))
                refine lv_iconst (v := zI (0)) hx hb dX3_isGreater_63 rfl ?_
                exact W.zret (v := (zI (0))) (ty := .boolean) hx hb hr (by decide) (fun t ht hW => ⟨_, rfl, by rw [hz], ht⟩) (fun q hq => by cases hq) dX3_isGreater_64
              · skip
                have hz : zb (tw_gt a b) = 1 := by rw [← hg]; exact zb_t (decide_eq_true (by omega))
                refine lv_iconst (v := zI (1)) hx hb dX3_isGreater_59 rfl ?_
                refine lv_goto (tgt := 64) hx hb dX3_isGreater_60 (by decide) ?_
                exact W.zret (v := (zI (1))) (ty := .boolean) hx hb hr (by decide) (fun t ht hW => ⟨_, rfl, by rw [hz], ht⟩) (fun q hq => by cases hq) dX3_isGreater_64
          · skip
            rw [zb_iff] at c_31
            rw [if_neg c_31] at hg
            have hz : zb (tw_gt a b) = 0 := by rw [← hg]; rfl
            refine lv_iconst (v := zI (0)) hx hb dX3_isGreater_34 rfl ?_
            exact W.zret (v := (zI (0))) (ty := .boolean) hx hb hr (by decide) (fun t ht hW => ⟨_, rfl, by rw [hz], ht⟩) (fun q hq => by cases hq) dX3_isGreater_35
  exact lp9 _ (a) (b) (0) _ _ _ ls (Nat.lt_succ_self _) (by omega) (ha) (hb2) (rfl) (zI_c (by omega)) (rfl) (rfl) (lv_sub hl [2, 1, 0] rfl)
end
section
/-! worlds: the classes, the arrays' classes, starts and ends of methods that change cells -/
abbrev lwC : List vw_C := [(RX0, TX0, 5), (RX1, TX1, 5), (RX2, TX2, 12), (RX4, TX4, 9), (RX5, TX5, 7), (RX6, TX6, 2), (RX7, TX7, 2), (RX8, TX8, 9), (RX9, TX9, 4), (RX10, TX10, 9)]
abbrev lwG : Type := va_G × ClassId × ClassId × ClassId × ClassId
abbrev gI (G : lwG) : ClassId := G.2.1
abbrev gJ (G : lwG) : ClassId := G.2.2.1
abbrev gZ (G : lwG) : ClassId := G.2.2.2.1
abbrev gR (G : lwG) : ClassId := G.2.2.2.2
abbrev lwT (G : lwG) : List (ClassId × FieldType) := [(gI G, .int), (gJ G, .long), (gZ G, .boolean), (gR G, .object RX7)]
def lwIn (G : lwG) (ws : va_W) (sz : Nat) (U : State) : Prop := U.heap.size = sz ∧ va_P G.1 lwC ws U.heap ∧ va_K G.1 lwC (lwT G) U ∧ va_D (fun _ => True) ws
def lwOut (G : lwG) (A : Nat → Prop) (ws : va_W) (t : State) : Prop := va_P G.1 lwC ws t.heap ∧ va_K G.1 lwC (lwT G) t ∧ va_D A ws
def lwRd (G : lwG) (ws : va_W) (U : State) : Prop := va_P G.1 lwC ws U.heap ∧ va_K G.1 lwC (lwT G) U
theorem lwIn.blind {G : lwG} {ws : va_W} {sz : Nat} {U : State} {g : JFrame} {mk : MethodId} {a : Array Value} (h : lwIn G ws sz U) : lwIn G ws sz (U.calling g mk a) := ⟨h.1, h.2.1, va_K.moved (u := U) (U := U.calling g mk a) (Vm.Alike.refl U.vm) h.2.2.1, h.2.2.2⟩
theorem lwRd.blind {G : lwG} {ws : va_W} {U : State} {g : JFrame} {mk : MethodId} {a : Array Value} (h : lwRd G ws U) : lwRd G ws (U.calling g mk a) := ⟨h.1, va_K.moved (u := U) (U := U.calling g mk a) (Vm.Alike.refl U.vm) h.2⟩
theorem lwIn.mk {G : lwG} {ws : va_W} {s : State} {H : Heap} {A : Nat → Prop} (hP : va_P G.1 lwC ws H) (hK : va_K G.1 lwC (lwT G) s) (hD : va_D A ws) (U : State) (hU : U.heap = H) (hW : s.WarmedH U.vm) : lwIn G ws H.size U := ⟨by rw [hU], by rw [hU]; exact hP, va_K.moved hW.alike hK, hD.weaken (fun _ _ _ _ => trivial)⟩
theorem lwRd.mk {G : lwG} {ws : va_W} {s : State} {H : Heap} (hP : va_P G.1 lwC ws H) (hK : va_K G.1 lwC (lwT G) s) (U : State) (hU : U.heap = H) (hW : s.WarmedH U.vm) : lwRd G ws U := ⟨by rw [hU]; exact hP, va_K.moved hW.alike hK⟩
theorem zI_ix {e : Int} {k : Nat} (h : e = (k : Int)) (hk : k < 2147483648) : (zI e).toNatClampNeg = k := by rw [h, zI_nat, nI_clamp hk]
theorem zI_vin {e : Int} {k n : Nat} (h : e = (k : Int)) (hk : k < n) (hn : n ≤ 1000) : vp_in (zI e) n := zI_in (by omega) (by omega)
section ZA
variable {p : Program} {l : Launch} {e : Env} {R : Room} {s : State} {m : MethodId} {args : Array Value} {below : List Frame} {meth : Method} {c : Code} {H : Heap} {locs : List Loc} {cells slots : Nat} {Q : State → Prop}
variable {cc : ByteArray} {pc : Nat} {ls : Array Slot} {rest : List Value} {D : va_G} {cl : List vw_C} {A : Nat → Prop} {a : Nat} {tys : List (ClassId × FieldType)} {ws : va_W} {H0 : Heap}
theorem ziald (hx : p.tables.exec = Jvm.exec) (hb : c.code = cc) (hK : va_K D cl tys s) (hP : va_P D cl ws H) (q0 t0 : Nat) {cA : ClassId} {n : Nat} {f : Nat → Int32} (ha : ws[q0]? = some (a, .inl (cA, n, .inl f))) (ht : tys[t0]? = some (cA, .int)) {z : Int} (k : Nat) (hz : z = (k : Int)) (hk : k < n) (hn : n ≤ 1000) (hdg : decode cc pc = .ok (.iaload, 1))
    (kk : W p l e R s m args below meth c H locs cells slots Q (F0 m (pc + 1) ls (.int (f k) :: rest))) : W p l e R s m args below meth c H locs cells slots Q (F0 m pc ls (.int (zI z) :: .ref a :: rest)) :=
  va_iald hx hb hK hP q0 t0 ha ht (zI_vin hz hk hn) hdg (by rw [zI_ix hz (by omega)]; exact kk)
theorem zzald (hx : p.tables.exec = Jvm.exec) (hb : c.code = cc) (hK : va_K D cl tys s) (hP : va_P D cl ws H) (q0 t0 : Nat) {cA : ClassId} {n : Nat} {f : Nat → Int32} (ha : ws[q0]? = some (a, .inl (cA, n, .inl f))) (ht : tys[t0]? = some (cA, .boolean)) {z : Int} (k : Nat) (hz : z = (k : Int)) (hk : k < n) (hn : n ≤ 1000) (hdg : decode cc pc = .ok (.baload, 1))
    (kk : W p l e R s m args below meth c H locs cells slots Q (F0 m (pc + 1) ls (.int (f k) :: rest))) : W p l e R s m args below meth c H locs cells slots Q (F0 m pc ls (.int (zI z) :: .ref a :: rest)) :=
  va_zald hx hb hK hP q0 t0 ha ht (zI_vin hz hk hn) hdg (by rw [zI_ix hz (by omega)]; exact kk)
theorem zlald (hx : p.tables.exec = Jvm.exec) (hb : c.code = cc) (hK : va_K D cl tys s) (hP : va_P D cl ws H) (q0 t0 : Nat) {cA : ClassId} {n : Nat} {f : Nat → Int64} (ha : ws[q0]? = some (a, .inl (cA, n, .inr (.inl f)))) (ht : tys[t0]? = some (cA, .long)) {z : Int} (k : Nat) (hz : z = (k : Int)) (hk : k < n) (hn : n ≤ 1000) (hdg : decode cc pc = .ok (.laload, 1))
    (kk : W p l e R s m args below meth c H locs cells slots Q (F0 m (pc + 1) ls (.long (f k) :: rest))) : W p l e R s m args below meth c H locs cells slots Q (F0 m pc ls (.int (zI z) :: .ref a :: rest)) :=
  va_lald hx hb hK hP q0 t0 ha ht (zI_vin hz hk hn) hdg (by rw [zI_ix hz (by omega)]; exact kk)
theorem zaldq (hx : p.tables.exec = Jvm.exec) (hb : c.code = cc) (hK : va_K D cl tys s) (hP : va_P D cl ws H) (q0 t0 : Nat) {cA : ClassId} {C : String} {n : Nat} {f : Nat → Option Nat} (ha : ws[q0]? = some (a, .inl (cA, n, .inr (.inr (.inr (.inr f)))))) (ht : tys[t0]? = some (cA, .object C)) {z : Int} (k : Nat) (hz : z = (k : Int)) (hk : k < n) (hn : n ≤ 1000) {v : Nat} (hv : f k = some v) (hdg : decode cc pc = .ok (.aaload, 1))
    (kk : W p l e R s m args below meth c H locs cells slots Q (F0 m (pc + 1) ls (.ref v :: rest))) : W p l e R s m args below meth c H locs cells slots Q (F0 m pc ls (.int (zI z) :: .ref a :: rest)) :=
  va_aldq hx hb hK hP q0 t0 ha ht (zI_vin hz hk hn) hdg (by rw [zI_ix hz (by omega), hv]; exact kk)
theorem ziast (hx : p.tables.exec = Jvm.exec) (hb : c.code = cc) (hK : va_K D cl tys s) (hP : va_P D cl ws H) (hD : va_D A ws) (hS : va_S A H0 H locs) (q0 t0 : Nat) {cA : ClassId} {n : Nat} {f : Nat → Int32} (ha : ws[q0]? = some (a, .inl (cA, n, .inl f))) (ht : tys[t0]? = some (cA, .int)) {z : Int} {x : Int32} (k : Nat) (hz : z = (k : Int)) (hk : k < n) (hn : n ≤ 1000) (hdg : decode cc pc = .ok (.iastore, 1))
    (kk : ∀ (H1 : Heap) (locs1 : List Loc), va_P D cl (ws.set q0 (a, .inl (cA, n, .inl (upd f k x)))) H1 → va_D A (ws.set q0 (a, .inl (cA, n, .inl (upd f k x)))) → va_S A H0 H1 locs1 → W p l e R s m args below meth c H1 locs1 cells slots Q (F0 m (pc + 1) ls rest)) : W p l e R s m args below meth c H locs cells slots Q (F0 m pc ls (.int x :: .int (zI z) :: .ref a :: rest)) :=
  va_iast hx hb hK hP hD hS q0 t0 ha ht (zI_vin hz hk hn) hdg (by rw [zI_ix hz (by omega)]; exact kk)
theorem zzast (hx : p.tables.exec = Jvm.exec) (hb : c.code = cc) (hK : va_K D cl tys s) (hP : va_P D cl ws H) (hD : va_D A ws) (hS : va_S A H0 H locs) (q0 t0 : Nat) {cA : ClassId} {n : Nat} {f : Nat → Int32} (ha : ws[q0]? = some (a, .inl (cA, n, .inl f))) (ht : tys[t0]? = some (cA, .boolean)) {z : Int} {x : Int32} (k : Nat) (hz : z = (k : Int)) (hk : k < n) (hn : n ≤ 1000) (hdg : decode cc pc = .ok (.bastore, 1))
    (kk : ∀ (H1 : Heap) (locs1 : List Loc), va_P D cl (ws.set q0 (a, .inl (cA, n, .inl (upd f k (x &&& 1))))) H1 → va_D A (ws.set q0 (a, .inl (cA, n, .inl (upd f k (x &&& 1))))) → va_S A H0 H1 locs1 → W p l e R s m args below meth c H1 locs1 cells slots Q (F0 m (pc + 1) ls rest)) : W p l e R s m args below meth c H locs cells slots Q (F0 m pc ls (.int x :: .int (zI z) :: .ref a :: rest)) :=
  va_zast hx hb hK hP hD hS q0 t0 ha ht (zI_vin hz hk hn) hdg (by rw [zI_ix hz (by omega)]; exact kk)
theorem zlast (hx : p.tables.exec = Jvm.exec) (hb : c.code = cc) (hK : va_K D cl tys s) (hP : va_P D cl ws H) (hD : va_D A ws) (hS : va_S A H0 H locs) (q0 t0 : Nat) {cA : ClassId} {n : Nat} {f : Nat → Int64} (ha : ws[q0]? = some (a, .inl (cA, n, .inr (.inl f)))) (ht : tys[t0]? = some (cA, .long)) {z : Int} {x : Int64} (k : Nat) (hz : z = (k : Int)) (hk : k < n) (hn : n ≤ 1000) (hdg : decode cc pc = .ok (.lastore, 1))
    (kk : ∀ (H1 : Heap) (locs1 : List Loc), va_P D cl (ws.set q0 (a, .inl (cA, n, .inr (.inl (vp_updL f k x))))) H1 → va_D A (ws.set q0 (a, .inl (cA, n, .inr (.inl (vp_updL f k x))))) → va_S A H0 H1 locs1 → W p l e R s m args below meth c H1 locs1 cells slots Q (F0 m (pc + 1) ls rest)) : W p l e R s m args below meth c H locs cells slots Q (F0 m pc ls (.long x :: .int (zI z) :: .ref a :: rest)) :=
  va_last hx hb hK hP hD hS q0 t0 ha ht (zI_vin hz hk hn) hdg (by rw [zI_ix hz (by omega)]; exact kk)
end ZA
end
