/-- the method's frame, with an E thrown over it -/
def VX (p : Program) (l : Launch) (e : Env) (R : Room) (s : State) (m : MethodId) (args : Array Value) (below : List Frame) (meth : Method) (c : Code) (Q : State → Prop) (G : vv_G) (A : Nat → Prop) (nL k n : Nat) (ws : va_W) (pc : Nat) (loc : List (Nat × Value)) (E : String) : Prop :=
  ∀ (H : Heap) (locs : List Loc) (ls : Array Slot) (ce : Cell) (q : Addr) (rest : List Value), va_P G.1 lwC ws H → va_D A ws → va_S A s.heap H locs → lv_has ls nL loc → H[q]? = some ce → ce.vm = .none → s.vm.findClass E = some ce.cls → vx_W p l e R s m args below meth c H locs k n Q (F0 m pc ls rest) q
section VVK
variable {p : Program} {l : Launch} {e : Env} {R : Room} {s : State} {m : MethodId} {args : Array Value} {below : List Frame} {meth : Method} {c : Code} {Q : State → Prop} {own : String} {cc : ByteArray} {nL : Nat} {ret : Option FieldType} {G : vv_G} {A : Nat → Prop}
variable {k n pc : Nat} {ws wc wr : va_W} {loc : List (Nat × Value)} {st rest As : List Value} {idx mc ms mL n0 : Nat} {y : MethodName} {bytes : ByteArray} {rt : Option FieldType} {rm : Room} {b : Nat}
variable {S SX : Type} {post : Option Value → S → Prop} {W1 : S → va_W} {ws2 : S → va_W} {px : String → SX → Prop} {W2 : SX → va_W} {ws3 : SX → va_W} {a0 : Array Value}
/-- how the callee's cells lie among the caller's: its own, the rest, and how they lie behind the call -/
def vv_cut (ws wc wr : va_W) (W1 ws2 : S → va_W) (isC isR isP : List Nat) : Prop := isC.map (fun i => ws[i]?) = wc.map some ∧ va_nd isC = true ∧ isR.map (fun i => ws[i]?) = wr.map some ∧ va_nd isR = true ∧ (∀ i ∈ isR, i ∉ isC) ∧ (∀ u : S, isP.map (fun i => (wr ++ W1 u)[i]?) = (ws2 u).map some) ∧ va_nd isP = true
theorem vv_cutI {isC isR isP : List Nat} (h1 : isC.map (fun i => ws[i]?) = wc.map some) (h2 : va_nd isC = true) (h3 : isR.map (fun i => ws[i]?) = wr.map some) (h4 : va_nd isR = true) (h5 : ∀ i ∈ isR, i ∉ isC) (h6 : ∀ u : S, isP.map (fun i => (wr ++ W1 u)[i]?) = (ws2 u).map some) (h7 : va_nd isP = true) : vv_cut ws wc wr W1 ws2 isC isR isP := ⟨h1, h2, h3, h4, h5, h6, h7⟩
theorem vv_pre (C : vv_C l p s m args meth c own cc nL ret G A) {isC : List Nat} (hC : isC.map (fun i => ws[i]?) = wc.map some) (hN : va_nd isC = true) {H : Heap} {locs : List Loc} (hP : va_P G.1 lwC ws H) (hD : va_D A ws) (hS : va_S A s.heap H locs) (U : State) (hU : U.heap = H) (hW : s.WarmedH U.vm) : vv_I G wc H.size U :=
  ⟨by rw [hU], by rw [hU]; exact hP.sub isC (vv_fm hC), va_K.moved hW.alike C.hK, (hD.sub isC hN hC).weaken (fun _ _ _ _ => trivial), C.hE.call hS (va_free hD hS C.hA isC hC) hU hW⟩
theorem vv_call {isC isR isP : List Nat} (C : vv_C l p s m args meth c own cc nL ret G A) (ct : vv_cut ws wc wr W1 ws2 isC isR isP)
    (hr : ∀ (H : Heap) (locs : List Loc) (ls : Array Slot), va_P G.1 lwC ws H → va_D A ws → va_S A s.heap H locs → lv_has ls nL loc → va_Run p l e R s m args below meth c H locs k n mc ms (F0 m pc ls st) rest (vv_Q G post W1 (va_A wc H.size) a0) (va_A wc H.size))
    (kk : ∀ (v : Option Value) (u : S), post v u → VV p l e R s m args below meth c Q G A nL (k + mc) (n + ms) (ws2 u) (pc + 3) loc (v.toList ++ rest)) : VV p l e R s m args below meth c Q G A nL k n ws pc loc st := by
  intro H locs ls hP hD hS hl T hT X
  obtain ⟨hC, hNC, hRr, hNR, hdis, hPm, hNP⟩ := ct
  have hF := va_free hD hS C.hA isC hC
  obtain ⟨v, st₀, t, T', L, h0, X', hL, e1, e2, ⟨⟨v', u, hv, hp, hP1, hD1⟩, hFr⟩, st⟩ := hr H locs ls hP hD hS hl T hT X
  cases hv
  obtain ⟨k1, k2, k3⟩ := vx_keep h0 e1 hS (fun q _ h => hF q h) hF hL hFr
  rw [← e1] at hP1
  obtain ⟨hPj, hDj⟩ := va_join hP hD isC isR hC hRr hNR hdis k2 hF hP1 hD1
  obtain ⟨t2, a1, b1⟩ := kk v u hp T'.heap (locs ++ L) ls (hPj.sub isP (vv_fm (hPm u))) (hDj.sub isP hNP (hPm u)) k3 hl T' rfl X'
  exact ⟨t2, st t2 a1, b1⟩
theorem vv_callx {isC isR isP isX : List Nat} (C : vv_C l p s m args meth c own cc nL ret G A) (ct : vv_cut ws wc wr W1 ws2 isC isR isP) (cx : vv_cut ws wc wr W2 ws3 isC isR isX)
    (hr : ∀ (H : Heap) (locs : List Loc) (ls : Array Slot), va_P G.1 lwC ws H → va_D A ws → va_S A s.heap H locs → lv_has ls nL loc → vx_Run p l e R s m args below meth c H locs k n mc ms (F0 m pc ls st) rest (vv_Q G post W1 (va_A wc H.size) a0) (vv_XC G px W2 (va_A wc H.size)) (va_A wc H.size))
    (kx : ∀ (E : String) (u : SX), px E u → VX p l e R s m args below meth c Q G A nL (k + mc) (n + ms) (ws3 u) pc loc E)
    (kk : ∀ (v : Option Value) (u : S), post v u → VV p l e R s m args below meth c Q G A nL (k + mc) (n + ms) (ws2 u) (pc + 3) loc (v.toList ++ rest)) : VV p l e R s m args below meth c Q G A nL k n ws pc loc st := by
  intro H locs ls hP hD hS hl T hT X
  obtain ⟨hC, hNC, hRr, hNR, hdis, hPm, hNP⟩ := ct
  obtain ⟨-, -, -, -, -, hPx, hNx⟩ := cx
  have hF := va_free hD hS C.hA isC hC
  rcases hr H locs ls hP hD hS hl T hT X with ⟨v, st₀, t, T', L, h0, X', hL, e1, e2, ⟨⟨v', u, hv, hp, hP1, hD1⟩, hFr⟩, st⟩ | ⟨q, st₀, t, T', L, E, ce, h0, X', hL, e1, e2, ⟨u, hp, ⟨hP1, hD1⟩, hFr⟩, hce, hcv, hcl, st⟩
  · cases hv
    obtain ⟨k1, k2, k3⟩ := vx_keep h0 e1 hS (fun q _ h => hF q h) hF hL hFr
    rw [← e1] at hP1
    obtain ⟨hPj, hDj⟩ := va_join hP hD isC isR hC hRr hNR hdis k2 hF hP1 hD1
    obtain ⟨t2, a1, b1⟩ := kk v u hp T'.heap (locs ++ L) ls (hPj.sub isP (vv_fm (hPm u))) (hDj.sub isP hNP (hPm u)) k3 hl T' rfl X'
    exact ⟨t2, st t2 a1, b1⟩
  · obtain ⟨k1, k2, k3⟩ := vx_keep h0 e1 hS (fun q _ h => hF q h) hF hL hFr
    rw [← e1] at hP1
    obtain ⟨hPj, hDj⟩ := va_join hP hD isC isR hC hRr hNR hdis k2 hF hP1 hD1
    obtain ⟨t2, a1, b1⟩ := kx E u hp T'.heap (locs ++ L) ls ce q rest (hPj.sub isX (vv_fm (hPx u))) (hDj.sub isX hNx (hPx u)) k3 hl (by rw [e1]; exact hce) hcv hcl T' rfl X'
    exact ⟨t2, st.trans a1, b1⟩
/-- the words of a callee -/
def vv_yes (y : MethodName) (bytes : ByteArray) (mL : Nat) (rt : Option FieldType) (n0 : Nat) : Prop := Cond.code y bytes mL rt ∈ gT ∧ Cond.initialized y.cls ∈ gT ∧ y.cls ≠ "java/lang/invoke/MethodHandle" ∧ y.cls ≠ "java/lang/invoke/VarHandle" ∧ (parseMethodDescriptor y.desc).map (fun d => d.parameters.length) = some n0
def vv_rm (rm R : Room) (mL mc ms k n : Nat) : Prop := rm.cells = mc ∧ rm.slots = ms ∧ rm.frames + 1 ≤ R.frames ∧ 8 + (mL + 11) + rm.locals ≤ R.locals ∧ k + mc ≤ R.cells ∧ n + ms ≤ R.slots
theorem vv_yesI (h1 : Cond.code y bytes mL rt ∈ gT) (h2 : Cond.initialized y.cls ∈ gT) (h3 : y.cls ≠ "java/lang/invoke/MethodHandle") (h4 : y.cls ≠ "java/lang/invoke/VarHandle") (h5 : (parseMethodDescriptor y.desc).map (fun d => d.parameters.length) = some n0) : vv_yes y bytes mL rt n0 := ⟨h1, h2, h3, h4, h5⟩
theorem vv_rmI (h1 : rm.cells = mc) (h2 : rm.slots = ms) (h3 : rm.frames + 1 ≤ R.frames) (h4 : 8 + (mL + 11) + rm.locals ≤ R.locals) (h5 : k + mc ≤ R.cells) (h6 : n + ms ≤ R.slots) : vv_rm rm R mL mc ms k n := ⟨h1, h2, h3, h4, h5, h6⟩
theorem vv_cb (C : vv_C l p s m args meth c own cc nL ret G A) (hy : vv_yes y bytes mL rt n0) (hR : vv_rm rm R mL mc ms k n) (hl : Cond.methodLink own idx y ∈ gT) : CallB R s args own idx y bytes mL rt (Cond.code y bytes mL rt :: gT) rm mc ms n0 :=
  callB_of n0 C.hts (vg_in hy.1) rfl hR.1 hR.2.1 (C.hts _ hy.2.1) (C.hts _ hl) ⟨hy.2.2.1, hy.2.2.2.1, hy.2.2.2.2⟩ ⟨hR.2.2.1, hR.2.2.2.1⟩
theorem vv_cn (C : vv_C l p s m args meth c own cc nL ret G A) {host : String} (hy : vv_yes y bytes mL rt n0) (hR : vv_rm rm R mL mc ms k n) (hl : (own, idx, y, host) ∈ vv_nm) : va_CN R s args own idx y host bytes mL rt (Cond.code y bytes mL rt :: gT) rm mc ms n0 :=
  va_cnB n0 C.hts (vg_in hy.1) rfl hR.1 hR.2.1 (C.hE.1 _ hl) (C.hts _ hy.2.1) ⟨hy.2.2.1, hy.2.2.2.1, hy.2.2.2.2⟩ ⟨hR.2.2.1, hR.2.2.2.1⟩
variable {isC isR isP isX : List Nat} {ci N : Nat} {fs : List Value} {Cn : String} {T : u_T}
/-- a virtual call of a method that returns -/
theorem vv_callV (C : vv_C l p s m args meth c own cc nL ret G A) (ct : vv_cut ws wc wr W1 ws2 isC isR isP) (hM : ∀ sz, Met l y (Cond.code y bytes mL rt :: gT) rm (va_Pc (.ref b :: As) (vv_I G wc sz)) (vv_Q G post W1 (va_A wc sz)) mc ms (va_A wc sz)) (hy : vv_yes y bytes mL rt n0) (hR : vv_rm rm R mL mc ms k n)
    (hl : Cond.methodLink own idx y ∈ gT) (hi : Cond.instanceMethod y ∈ gT) (hse : Cond.selects Cn y y ∈ gT) (q0 : Nat) (he : wc[q0]? = some (b, .inr (ci, fs))) (hc : lwC[ci]? = some (Cn, T, N)) (hst : st = As.reverse ++ .ref b :: rest) (hn : As.length = n0) (h8 : (rest.map fun v => v.category).sum ≤ 8) (hdg : decode cc pc = .ok (.invokevirtual idx, 3))
    (kk : ∀ (v : Option Value) (u : S), post v u → VV p l e R s m args below meth c Q G A nL (k + mc) (n + ms) (ws2 u) (pc + 3) loc (v.toList ++ rest)) : VV p l e R s m args below meth c Q G A nL k n ws pc loc st := by
  subst hst
  exact vv_call C ct (fun H locs ls hP hD hS hlv => va_runV C.1 (hM H.size) ⟨vv_cb C hy hR hl, C.hts _ hi, C.hts _ hse⟩ ⟨vv_I.blind, va_recv C.hK (hP.sub isC (vv_fm ct.1)) hc he, fun U hU hW => ⟨rfl, vv_pre C ct.1 ct.2.1 hP hD hS U hU hW⟩⟩ rfl hn hlv.1 rfl (lv_room h8) hdg ⟨hR.2.2.2.2.1, hR.2.2.2.2.2⟩) kk
/-- .. that may throw -/
theorem vv_callVx (C : vv_C l p s m args meth c own cc nL ret G A) (ct : vv_cut ws wc wr W1 ws2 isC isR isP) (cx : vv_cut ws wc wr W2 ws3 isC isR isX) (hM : ∀ sz, vx_Met l y (Cond.code y bytes mL rt :: gT) rm (va_Pc (.ref b :: As) (vv_I G wc sz)) (vv_Q G post W1 (va_A wc sz)) (vv_XC G px W2 (va_A wc sz)) mc ms (va_A wc sz)) (hy : vv_yes y bytes mL rt n0) (hR : vv_rm rm R mL mc ms k n)
    (hl : Cond.methodLink own idx y ∈ gT) (hi : Cond.instanceMethod y ∈ gT) (hse : Cond.selects Cn y y ∈ gT) (q0 : Nat) (he : wc[q0]? = some (b, .inr (ci, fs))) (hc : lwC[ci]? = some (Cn, T, N)) (hst : st = As.reverse ++ .ref b :: rest) (hn : As.length = n0) (h8 : (rest.map fun v => v.category).sum ≤ 8) (hdg : decode cc pc = .ok (.invokevirtual idx, 3))
    (kx : ∀ (E : String) (u : SX), px E u → VX p l e R s m args below meth c Q G A nL (k + mc) (n + ms) (ws3 u) pc loc E)
    (kk : ∀ (v : Option Value) (u : S), post v u → VV p l e R s m args below meth c Q G A nL (k + mc) (n + ms) (ws2 u) (pc + 3) loc (v.toList ++ rest)) : VV p l e R s m args below meth c Q G A nL k n ws pc loc st := by
  subst hst
  exact vv_callx C ct cx (fun H locs ls hP hD hS hlv => vx_runV C.1 (hM H.size) ⟨vv_cb C hy hR hl, C.hts _ hi, C.hts _ hse⟩ ⟨vv_I.blind, va_recv C.hK (hP.sub isC (vv_fm ct.1)) hc he, fun U hU hW => ⟨rfl, vv_pre C ct.1 ct.2.1 hP hD hS U hU hW⟩⟩ rfl hn hlv.1 rfl (lv_room h8) hdg ⟨hR.2.2.2.2.1, hR.2.2.2.2.2⟩) kx kk
/-- a virtual call of a nest mate's private method -/
theorem vv_callVN (C : vv_C l p s m args meth c own cc nL ret G A) {host : String} (ct : vv_cut ws wc wr W1 ws2 isC isR isP) (hM : ∀ sz, Met l y (Cond.code y bytes mL rt :: gT) rm (va_Pc (.ref b :: As) (vv_I G wc sz)) (vv_Q G post W1 (va_A wc sz)) mc ms (va_A wc sz)) (hy : vv_yes y bytes mL rt n0) (hR : vv_rm rm R mL mc ms k n)
    (hl : (own, idx, y, host) ∈ vv_nm) (hi : Cond.instanceMethod y ∈ gT) (hse : Cond.selects Cn y y ∈ gT) (q0 : Nat) (he : wc[q0]? = some (b, .inr (ci, fs))) (hc : lwC[ci]? = some (Cn, T, N)) (hst : st = As.reverse ++ .ref b :: rest) (hn : As.length = n0) (h8 : (rest.map fun v => v.category).sum ≤ 8) (hdg : decode cc pc = .ok (.invokevirtual idx, 3))
    (kk : ∀ (v : Option Value) (u : S), post v u → VV p l e R s m args below meth c Q G A nL (k + mc) (n + ms) (ws2 u) (pc + 3) loc (v.toList ++ rest)) : VV p l e R s m args below meth c Q G A nL k n ws pc loc st := by
  subst hst
  exact vv_call C ct (fun H locs ls hP hD hS hlv => va_runVN C.1 (hM H.size) ⟨vv_cn C hy hR hl, C.hts _ hi, C.hts _ hse⟩ ⟨vv_I.blind, va_recv C.hK (hP.sub isC (vv_fm ct.1)) hc he, fun U hU hW => ⟨rfl, vv_pre C ct.1 ct.2.1 hP hD hS U hU hW⟩⟩ rfl hn hlv.1 rfl (lv_room h8) hdg ⟨hR.2.2.2.2.1, hR.2.2.2.2.2⟩) kk
/-- a static call -/
theorem vv_callS (C : vv_C l p s m args meth c own cc nL ret G A) (ct : vv_cut ws wc wr W1 ws2 isC isR isP) (hM : ∀ sz, Met l y (Cond.code y bytes mL rt :: gT) rm (va_Pc As (vv_I G wc sz)) (vv_Q G post W1 (va_A wc sz)) mc ms (va_A wc sz)) (hy : vv_yes y bytes mL rt n0) (hR : vv_rm rm R mL mc ms k n)
    (hl : Cond.methodLink own idx y ∈ gT) (hi : Cond.static y ∈ gT) (hst : st = As.reverse ++ rest) (hn : As.length = n0) (h8 : (rest.map fun v => v.category).sum ≤ 8) (hdg : decode cc pc = .ok (.invokestatic idx, 3))
    (kk : ∀ (v : Option Value) (u : S), post v u → VV p l e R s m args below meth c Q G A nL (k + mc) (n + ms) (ws2 u) (pc + 3) loc (v.toList ++ rest)) : VV p l e R s m args below meth c Q G A nL k n ws pc loc st := by
  subst hst
  exact vv_call C ct (fun H locs ls hP hD hS hlv => va_runS C.1 (hM H.size) ⟨vv_cb C hy hR hl, C.hts _ hi⟩ ⟨vv_I.blind, fun U hU hW => ⟨rfl, vv_pre C ct.1 ct.2.1 hP hD hS U hU hW⟩⟩ rfl hn hlv.1 rfl (lv_room h8) hdg ⟨hR.2.2.2.2.1, hR.2.2.2.2.2⟩) kk
/-- a static call of a method with handlers -/
theorem vv_callSW {hh : List (Nat × Nat × Nat × Nat)} (C : vv_C l p s m args meth c own cc nL ret G A) (ct : vv_cut ws wc wr W1 ws2 isC isR isP) (hM : ∀ sz, Met l y (Cond.codeWith y bytes mL rt hh :: gT) rm (va_Pc As (vv_I G wc sz)) (vv_Q G post W1 (va_A wc sz)) mc ms (va_A wc sz)) (hcw : Cond.codeWith y bytes mL rt hh ∈ gT) (hy : Cond.initialized y.cls ∈ gT ∧ y.cls ≠ "java/lang/invoke/MethodHandle" ∧ y.cls ≠ "java/lang/invoke/VarHandle" ∧ (parseMethodDescriptor y.desc).map (fun d => d.parameters.length) = some n0) (hR : vv_rm rm R mL mc ms k n)
    (hl : Cond.methodLink own idx y ∈ gT) (hi : Cond.static y ∈ gT) (hst : st = As.reverse ++ rest) (hn : As.length = n0) (h8 : (rest.map fun v => v.category).sum ≤ 8) (hdg : decode cc pc = .ok (.invokestatic idx, 3))
    (kk : ∀ (v : Option Value) (u : S), post v u → VV p l e R s m args below meth c Q G A nL (k + mc) (n + ms) (ws2 u) (pc + 3) loc (v.toList ++ rest)) : VV p l e R s m args below meth c Q G A nL k n ws pc loc st := by
  subst hst
  refine vv_call C ct (fun H locs ls hP hD hS hlv => vx_runSW C.1 (hM H.size) (vx_cwSW n0 C.hts (fun w hw => ?_) rfl hR.1 hR.2.1 ⟨hy.2.1, hy.2.2.1, hy.2.2.2⟩ ⟨hR.2.2.1, hR.2.2.2.1⟩) ⟨vv_I.blind, fun U hU hW => ⟨rfl, vv_pre C ct.1 ct.2.1 hP hD hS U hU hW⟩⟩ rfl hn hlv.1 rfl (lv_room h8) hdg ⟨hR.2.2.2.2.1, hR.2.2.2.2.2⟩) kk
  unfold va_wsS at hw
  rcases List.mem_append.mp hw with hw | hw
  · have hm : w ∈ gT := by
      simp only [List.mem_cons, List.not_mem_nil, or_false] at hw
      rcases hw with rfl | rfl | rfl
      · exact hl
      · exact hi
      · exact hy.1
    exact ⟨hm, good_of_word (List.mem_filter.mp hm).2⟩
  · exact vg_in hcw w hw
/-- a constructor's call -/
theorem vv_callI (C : vv_C l p s m args meth c own cc nL ret G A) (ct : vv_cut ws wc wr W1 ws2 isC isR isP) (hM : ∀ sz, Met l y (Cond.code y bytes mL none :: gT) rm (va_Pc (.ref b :: As) (vv_I G wc sz)) (vv_Q G post W1 (va_A wc sz)) mc ms (va_A wc sz)) (hy : vv_yes y bytes mL none n0) (hR : vv_rm rm R mL mc ms k n)
    (hl : Cond.methodLink own idx y ∈ gT) (hi : Cond.instanceMethod y ∈ gT) (hin : y.name = "<init>") (hst : st = As.reverse ++ .ref b :: rest) (hn : As.length = n0) (h8 : (rest.map fun v => v.category).sum ≤ 8) (hdg : decode cc pc = .ok (.invokespecial idx, 3))
    (kk : ∀ (v : Option Value) (u : S), post v u → VV p l e R s m args below meth c Q G A nL (k + mc) (n + ms) (ws2 u) (pc + 3) loc (v.toList ++ rest)) : VV p l e R s m args below meth c Q G A nL k n ws pc loc st := by
  subst hst
  exact vv_call C ct (fun H locs ls hP hD hS hlv => va_runI C.1 (hM H.size) ⟨vv_cb C hy hR hl, hin, C.hts _ hi⟩ ⟨vv_I.blind, fun U hU hW => ⟨rfl, vv_pre C ct.1 ct.2.1 hP hD hS U hU hW⟩⟩ rfl hn hlv.1 rfl (lv_room h8) hdg ⟨hR.2.2.2.2.1, hR.2.2.2.2.2⟩) kk
theorem vv_callIN (C : vv_C l p s m args meth c own cc nL ret G A) {host : String} (ct : vv_cut ws wc wr W1 ws2 isC isR isP) (hM : ∀ sz, Met l y (Cond.code y bytes mL none :: gT) rm (va_Pc (.ref b :: As) (vv_I G wc sz)) (vv_Q G post W1 (va_A wc sz)) mc ms (va_A wc sz)) (hy : vv_yes y bytes mL none n0) (hR : vv_rm rm R mL mc ms k n)
    (hl : (own, idx, y, host) ∈ vv_nm) (hi : Cond.instanceMethod y ∈ gT) (hin : y.name = "<init>") (hst : st = As.reverse ++ .ref b :: rest) (hn : As.length = n0) (h8 : (rest.map fun v => v.category).sum ≤ 8) (hdg : decode cc pc = .ok (.invokespecial idx, 3))
    (kk : ∀ (v : Option Value) (u : S), post v u → VV p l e R s m args below meth c Q G A nL (k + mc) (n + ms) (ws2 u) (pc + 3) loc (v.toList ++ rest)) : VV p l e R s m args below meth c Q G A nL k n ws pc loc st := by
  subst hst
  exact vv_call C ct (fun H locs ls hP hD hS hlv => va_runIN C.1 (hM H.size) ⟨vv_cn C hy hR hl, hin, C.hts _ hi⟩ ⟨vv_I.blind, fun U hU hW => ⟨rfl, vv_pre C ct.1 ct.2.1 hP hD hS U hU hW⟩⟩ rfl hn hlv.1 rfl (lv_room h8) hdg ⟨hR.2.2.2.2.1, hR.2.2.2.2.2⟩) kk
/-- 'throw new E("text")' -/
def vv_tw (own : String) (ik is ic : Nat) (cls text : String) (names : List String) : Prop := Bundle.fit cls = true ∧ (∀ n ∈ names, Bundle.fit n = true) ∧ Cond.classLink own ik cls ∈ gT ∧ Cond.initialized cls ∈ gT ∧ (own, is, text) ∈ vv_tx ∧ (∀ w ∈ (vx_atS own ic cls names).filter goodWord, w ∈ gT) ∧ (∀ w ∈ (vx_atS own ic cls names).filter (fun w => !goodWord w), w ∈ vv_ca.map (fun q => Cond.castable q.1 q.2) ++ vv_de.map Cond.declares) ∧ ∀ w ∈ Cond.classLink own ik cls :: Cond.initialized cls :: vx_atS own ic cls names, vx_ot w = true
theorem vv_twI {own cls text : String} {ik is ic : Nat} {names : List String} (h1 : Bundle.fit cls = true) (h2 : ∀ n ∈ names, Bundle.fit n = true) (h3 : Cond.classLink own ik cls ∈ gT) (h4 : Cond.initialized cls ∈ gT) (h5 : (own, is, text) ∈ vv_tx) (h6 : ∀ w ∈ (vx_atS own ic cls names).filter goodWord, w ∈ gT) (h7 : ∀ w ∈ (vx_atS own ic cls names).filter (fun w => !goodWord w), w ∈ vv_ca.map (fun q => Cond.castable q.1 q.2) ++ vv_de.map Cond.declares) (h8 : ∀ w ∈ Cond.classLink own ik cls :: Cond.initialized cls :: vx_atS own ic cls names, vx_ot w = true) : vv_tw own ik is ic cls text names := ⟨h1, h2, h3, h4, h5, h6, h7, h8⟩
theorem vv_throw (C : vv_C l p s m args meth c own cc nL ret G A) {Qc : Array Value → State → Outcome → State → Prop} {cls text : String} {names : List String} {ik is ic : Nat} (tw : vv_tw own ik is ic cls text names) (htab : ∀ x ∈ c.exceptionTable.toList, False)
    (d0 : decode cc pc = .ok (.new ik, 3)) (d3 : decode cc (pc + 3) = .ok (.dup, 1)) (d4 : decode cc (pc + 4) = .ok (.ldc is, 2)) (d6 : decode cc (pc + 6) = .ok (.invokespecial ic, 3)) (d9 : decode cc (pc + 9) = .ok (.athrow, 1))
    (hR : names.length + 3 < R.frames ∧ (st.map fun v => v.category).sum + (13 * (names.length + 1) + 43) ≤ R.locals ∧ k + 1 ≤ R.cells ∧ n + 6 ≤ R.slots ∧ k + 1 ≤ mc ∧ n + 6 ≤ ms) (u : SX) (hp : px cls u) (is0 : List Nat) (hs : is0.map (fun i => ws[i]?) = (W2 u).map some) (hn : va_nd is0 = true) :
    VV p l e R s m args below meth c (vx_MQ below Qc (vv_XC G px W2 A) args s mc ms A) G A nL k n ws pc loc st := by
  intro H locs ls hP hD hS hl
  obtain ⟨t1, t2, t3, t4, t5, t6, t7, t8⟩ := tw
  obtain ⟨sa, hsa⟩ := C.hE.2.2.2.2.1 _ t5
  refine vx_throwS C.hx C.hb C.hst C.hown t1 t2 (C.hts _ t3) (C.hts _ t4) hsa (vx_hat (B := vv_ca.map (fun q => Cond.castable q.1 q.2) ++ vv_de.map Cond.declares) (fun w hw => C.hts _ (t6 w hw)) t7 (fun w hw => ?_)) t8 C.hE.2.2.2.2.2.1 C.hE.2.2.2.2.2.2.1 hS (by rw [C.hml]; exact hl.1) d0 d3 d4 d6 d9 (fun x hx => (htab x hx).elim) hR.1 hR.2.1 hR.2.2.1 hR.2.2.2.1 C.hlk (fun t hal hz hk => ?_) hS.2.2 hR.2.2.2.2.1 hR.2.2.2.2.2
  · rcases List.mem_append.mp hw with h | h
    · obtain ⟨q, hq, rfl⟩ := List.mem_map.mp h
      exact va_Nw.use rfl (C.hE.2.2.1 q hq)
    · obtain ⟨q, hq, rfl⟩ := List.mem_map.mp h
      exact va_Nw.use rfl (C.hE.2.2.2.2.2.2.2.1 q hq)
  · exact ⟨u, hp, ⟨(hP.kept (fun j x hx => hk x.1 ((hP j x hx).lt))).sub is0 (vv_fm hs), hD.sub is0 hn hs⟩, Nat.le_trans hS.1 hz, fun q h1 h2 => (hk q (Nat.lt_of_lt_of_le h1 hS.1)).trans (hS.2.1 q h1 h2)⟩
/-- .. the text by a wide index -/
theorem vv_throwW (C : vv_C l p s m args meth c own cc nL ret G A) {Qc : Array Value → State → Outcome → State → Prop} {cls text : String} {names : List String} {ik is ic : Nat} (tw : vv_tw own ik is ic cls text names) (htab : ∀ x ∈ c.exceptionTable.toList, False)
    (d0 : decode cc pc = .ok (.new ik, 3)) (d3 : decode cc (pc + 3) = .ok (.dup, 1)) (d4 : decode cc (pc + 4) = .ok (.ldc_w is, 3)) (d6 : decode cc (pc + 7) = .ok (.invokespecial ic, 3)) (d9 : decode cc (pc + 10) = .ok (.athrow, 1))
    (hR : names.length + 3 < R.frames ∧ (st.map fun v => v.category).sum + (13 * (names.length + 1) + 43) ≤ R.locals ∧ k + 1 ≤ R.cells ∧ n + 6 ≤ R.slots ∧ k + 1 ≤ mc ∧ n + 6 ≤ ms) (u : SX) (hp : px cls u) (is0 : List Nat) (hs : is0.map (fun i => ws[i]?) = (W2 u).map some) (hn : va_nd is0 = true) :
    VV p l e R s m args below meth c (vx_MQ below Qc (vv_XC G px W2 A) args s mc ms A) G A nL k n ws pc loc st := by
  intro H locs ls hP hD hS hl
  obtain ⟨t1, t2, t3, t4, t5, t6, t7, t8⟩ := tw
  obtain ⟨sa, hsa⟩ := C.hE.2.2.2.2.1 _ t5
  refine vx_throwSW C.hx C.hb C.hst C.hown t1 t2 (C.hts _ t3) (C.hts _ t4) hsa (vx_hat (B := vv_ca.map (fun q => Cond.castable q.1 q.2) ++ vv_de.map Cond.declares) (fun w hw => C.hts _ (t6 w hw)) t7 (fun w hw => ?_)) t8 C.hE.2.2.2.2.2.1 C.hE.2.2.2.2.2.2.1 hS (by rw [C.hml]; exact hl.1) d0 d3 d4 d6 d9 (fun x hx => (htab x hx).elim) hR.1 hR.2.1 hR.2.2.1 hR.2.2.2.1 C.hlk (fun t hal hz hk => ?_) hS.2.2 hR.2.2.2.2.1 hR.2.2.2.2.2
  · rcases List.mem_append.mp hw with h | h
    · obtain ⟨q, hq, rfl⟩ := List.mem_map.mp h
      exact va_Nw.use rfl (C.hE.2.2.1 q hq)
    · obtain ⟨q, hq, rfl⟩ := List.mem_map.mp h
      exact va_Nw.use rfl (C.hE.2.2.2.2.2.2.2.1 q hq)
  · exact ⟨u, hp, ⟨(hP.kept (fun j x hx => hk x.1 ((hP j x hx).lt))).sub is0 (vv_fm hs), hD.sub is0 hn hs⟩, Nat.le_trans hS.1 hz, fun q h1 h2 => (hk q (Nat.lt_of_lt_of_le h1 hS.1)).trans (hS.2.1 q h1 h2)⟩
/-- a throw goes on to the caller -/
theorem vv_out (C : vv_C l p s m args meth c own cc nL ret G A) {Qc : Array Value → State → Outcome → State → Prop} {E : String} (htab : ∀ x ∈ c.exceptionTable.toList, False) (hc : k ≤ mc ∧ n ≤ ms) (u : SX) (hp : px E u) (is0 : List Nat) (hs : is0.map (fun i => ws[i]?) = (W2 u).map some) (hn : va_nd is0 = true) :
    VX p l e R s m args below meth c (vx_MQ below Qc (vv_XC G px W2 A) args s mc ms A) G A nL k n ws pc loc E := by
  intro H locs ls ce q rest hP hD hS hl hce hcv hcl
  exact vx_out (fun x hx => (htab x hx).elim) C.hlk hce hcv hcl (fun t ht hal => ⟨u, hp, ⟨by rw [ht]; exact hP.sub is0 (vv_fm hs), hD.sub is0 hn hs⟩, hS.F ht⟩) hS.2.2 hc.1 hc.2
/-- a throw is caught by a row of the method's own table -/
theorem vv_catch (C : vv_C l p s m args meth c own cc nL ret G A) {E name : String} {hh : List (Nat × Nat × Nat × Nat)} (htab : c.exceptionTable.toList = tableOf hh) (pre : List ExceptionTableEntry) (x : ExceptionTableEntry) (suf : List ExceptionTableEntry) (hsplit : tableOf hh = pre ++ x :: suf)
    (hpass : ∀ z ∈ pre, covers z pc = false ∨ (z.catchType ≠ 0 ∧ ∃ nm : String, Cond.classLink own z.catchType nm ∈ gT ∧ (E, nm) ∈ vv_nc)) (hx : covers x pc = true) (h0 : x.catchType ≠ 0) (hlink : Cond.classLink own x.catchType name ∈ gT) (hcast : (E, name) ∈ vv_ca)
    (kk : ∀ q : Nat, VV p l e R s m args below meth c Q G A nL k n ws x.handlerPc loc [.ref q]) : VX p l e R s m args below meth c Q G A nL k n ws pc loc E := by
  intro H locs ls ce q rest hP hD hS hl hce hcv hcl
  exact vx_catch C.hown pre x suf (htab.trans hsplit) (fun z hz => (hpass z hz).imp id (fun h => ⟨h.1, h.2.imp (fun nm h => ⟨C.hts _ h.1, C.hE.2.2.2.1 _ h.2⟩)⟩)) hx h0 (C.hts _ hlink) (va_Nw.use rfl (C.hE.2.2.1 _ hcast)) hce hcv hcl (kk q H locs ls hP hD hS hl)
end VVK
