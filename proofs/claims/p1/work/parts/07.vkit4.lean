section VVM
variable {p : Program} {l : Launch} {e : Env} {R : Room} {s : State} {m : MethodId} {args : Array Value} {below : List Frame} {meth : Method} {c : Code} {Q : State → Prop} {own : String} {cc : ByteArray} {nL : Nat} {ret : Option FieldType} {G : vv_G} {A : Nat → Prop}
variable {k n pc : Nat} {ws ws1 wc wr : va_W} {loc : List (Nat × Value)} {st rest As : List Value} {a ci N idx : Nat} {fs : List Value} {Cn : String} {T : u_T}
theorem vv_C.xRow (C : vv_C l p s m args meth c own cc nL ret G A) : va_AO RX7 s := C.hE.2.2.2.2.2.2.2.2.1
theorem vv_C.xObj (C : vv_C l p s m args meth c own cc nL ret G A) : va_AO "java/lang/Object" s := C.hE.2.2.2.2.2.2.2.2.2.1
theorem vv_C.xAA (C : vv_C l p s m args meth c own cc nL ret G A) : (Cond.arrayOver (.array .int)).before args s = true := C.hE.2.2.2.2.2.2.2.2.2.2.1
theorem vv_C.xZ (C : vv_C l p s m args meth c own cc nL ret G A) : va_Z "java/util/ArrayList" "DEFAULTCAPACITY_EMPTY_ELEMENTDATA" "[Ljava/lang/Object;" (.ref (G.2.2 0)) A s s.heap := C.hE.2.2.2.2.2.2.2.2.2.2.2.1
theorem vv_C.xT (C : vv_C l p s m args meth c own cc nL ret G A) : va_T (.object "java/lang/Object") (G.2.2 0) 0 (fun _ => .null) A s s.heap := C.hE.2.2.2.2.2.2.2.2.2.2.2.2.1
theorem vv_C.xF (C : vv_C l p s m args meth c own cc nL ret G A) : va_Fw RJx35411 ⟨"java/util/Iterator", "hasNext", "()Z"⟩ yJx35411_hasNext_aae02 s := C.hE.2.2.2.2.2.2.2.2.2.2.2.2.2
theorem vv_dconst0 (C : vv_C l p s m args meth c own cc nL ret G A) (hdg : decode cc pc = .ok (.dconst 0, 1)) (kk : VV p l e R s m args below meth c Q G A nL k n ws (pc + 1) loc (.double FP.dconst0 :: st)) : VV p l e R s m args below meth c Q G A nL k n ws pc loc st := fun H locs ls hP hD hS hl => lv_dconst0 C.hx C.hb hdg (kk H locs ls hP hD hS hl)
-- the law's own script
theorem vv_slen (C : vv_C l p s m args meth c own cc nL ret G A) {b L : Nat} {xs : Nat → Int32} (hX : va_X b L xs s s.heap) (hbl : b < s.heap.size) (hbA : ¬ A b) {v : Int32} (hv : Int32.ofNat L = v) (hdg : decode cc pc = .ok (.arraylength, 1))
    (kk : VV p l e R s m args below meth c Q G A nL k n ws (pc + 1) loc (.int v :: st)) : VV p l e R s m args below meth c Q G A nL k n ws pc loc (.ref b :: st) := fun H locs ls hP hD hS hl =>
  va_slen C.hx C.hb hX hbl hbA hS hdg (hv ▸ kk H locs ls hP hD hS hl)
theorem vv_sld (C : vv_C l p s m args meth c own cc nL ret G A) {b L : Nat} {xs : Nat → Int32} (hX : va_X b L xs s s.heap) (hbl : b < s.heap.size) (hbA : ¬ A b) {z : Int} (j : Nat) (hj : j < L ∧ L < 1000000) (hz : z = (j : Int)) {v : Int32} (hv : xs j = v) (hdg : decode cc pc = .ok (.iaload, 1))
    (kk : VV p l e R s m args below meth c Q G A nL k n ws (pc + 1) loc (.int v :: st)) : VV p l e R s m args below meth c Q G A nL k n ws pc loc (.int (zI z) :: .ref b :: st) := fun H locs ls hP hD hS hl =>
  va_sld C.hx C.hb hX hbl hbA hS (vv_ix hz hj.1 (by omega)).1 hdg (by rw [(vv_ix hz hj.1 (by omega)).2, hv]; exact kk H locs ls hP hD hS hl)
-- System.arraycopy
theorem vv_copyl (C : vv_C l p s m args meth c own cc nL ret G A) (hlink : Cond.methodLink own idx arraycopyName ∈ gT) (hnat : Cond.native arraycopyName ∈ gT) (hstat : Cond.static arraycopyName ∈ gT) (hini : Cond.initialized "java/lang/System" ∈ gT) (q0 q1 t0 t1 : Nat) {a0 : Nat} {c0 c1 : ClassId} {n0 n1 : Nat} {f g : Nat → Int64} {ty : FieldType} (ha0 : ws[q0]? = some (a0, .inl (c0, n0, .inr (.inl f)))) (ha1 : ws[q1]? = some (a, .inl (c1, n1, .inr (.inl g)))) (ht0 : (lwT G)[t0]? = some (c0, ty)) (ht1 : (lwT G)[t1]? = some (c1, ty)) (hprim : refKind ty = false)
    (sp dp n2 : Nat) {x y z : Int} (e1 : x = (sp : Int)) (e2 : y = (dp : Int)) (e3 : z = (n2 : Int)) (h4 : sp + n2 ≤ n0 ∧ n0 ≤ 1000000) (h5 : dp + n2 ≤ n1 ∧ n1 ≤ 1000000) (hfit : ∀ i, i < n2 → fits ty (.long (f (sp + i))) = true) (hR : 1 ≤ R.frames ∧ (st.map fun v => v.category).sum + (nativeFrameWords "java/lang/System" "arraycopy" 5 + 11) ≤ R.locals) (hw : ws.set q1 (a, .inl (c1, n1, .inr (.inl (va_cpy f g sp dp n2)))) = ws1) (hdg : decode cc pc = .ok (.invokestatic idx, 3))
    (kk : VV p l e R s m args below meth c Q G A nL k n ws1 (pc + 3) loc st) : VV p l e R s m args below meth c Q G A nL k n ws pc loc (.int (zI z) :: .int (zI y) :: .ref a :: .int (zI x) :: .ref a0 :: st) := fun H locs ls hP hD hS hl => by
  subst e1; subst e2; subst e3
  rw [zI_nat, zI_nat, zI_nat]
  have k1 : (nI sp).toNatClampNeg = sp := nI_clamp (by omega)
  have k2 : (nI dp).toNatClampNeg = dp := nI_clamp (by omega)
  have k3 : (nI n2).toNatClampNeg = n2 := nI_clamp (by omega)
  exact va_copyl C.hx C.hb (by rw [C.hml]; exact hl.1.symm) C.hown (C.hts _ hlink) (C.hts _ hnat) (C.hts _ hstat) (C.hts _ hini) C.hK hP hD hS q0 q1 t0 t1 ha0 ha1 ht0 ht1 hprim (nI_pos (by omega)) (nI_pos (by omega)) (nI_pos (by omega)) (by rw [k1, k3]; exact h4.1) (by rw [k2, k3]; exact h5.1) (by rw [k1, k3]; exact hfit) hR.1 hR.2 hdg (by rw [k1, k2, k3, hw]; exact fun H1 locs1 hP1 hD1 hS1 => kk H1 locs1 ls hP1 hD1 hS1 hl)
theorem vv_copyi (C : vv_C l p s m args meth c own cc nL ret G A) (hlink : Cond.methodLink own idx arraycopyName ∈ gT) (hnat : Cond.native arraycopyName ∈ gT) (hstat : Cond.static arraycopyName ∈ gT) (hini : Cond.initialized "java/lang/System" ∈ gT) (q0 q1 t0 t1 : Nat) {a0 : Nat} {c0 c1 : ClassId} {n0 n1 : Nat} {f g : Nat → Int32} {ty : FieldType} (ha0 : ws[q0]? = some (a0, .inl (c0, n0, .inl f))) (ha1 : ws[q1]? = some (a, .inl (c1, n1, .inl g))) (ht0 : (lwT G)[t0]? = some (c0, ty)) (ht1 : (lwT G)[t1]? = some (c1, ty)) (hprim : refKind ty = false)
    (sp dp n2 : Nat) {x y z : Int} (e1 : x = (sp : Int)) (e2 : y = (dp : Int)) (e3 : z = (n2 : Int)) (h4 : sp + n2 ≤ n0 ∧ n0 ≤ 1000000) (h5 : dp + n2 ≤ n1 ∧ n1 ≤ 1000000) (hfit : ∀ i, i < n2 → fits ty (.int (f (sp + i))) = true) (hR : 1 ≤ R.frames ∧ (st.map fun v => v.category).sum + (nativeFrameWords "java/lang/System" "arraycopy" 5 + 11) ≤ R.locals) (hw : ws.set q1 (a, .inl (c1, n1, .inl (va_cpy f g sp dp n2))) = ws1) (hdg : decode cc pc = .ok (.invokestatic idx, 3))
    (kk : VV p l e R s m args below meth c Q G A nL k n ws1 (pc + 3) loc st) : VV p l e R s m args below meth c Q G A nL k n ws pc loc (.int (zI z) :: .int (zI y) :: .ref a :: .int (zI x) :: .ref a0 :: st) := fun H locs ls hP hD hS hl => by
  subst e1; subst e2; subst e3
  rw [zI_nat, zI_nat, zI_nat]
  have k1 : (nI sp).toNatClampNeg = sp := nI_clamp (by omega)
  have k2 : (nI dp).toNatClampNeg = dp := nI_clamp (by omega)
  have k3 : (nI n2).toNatClampNeg = n2 := nI_clamp (by omega)
  exact va_copyi C.hx C.hb (by rw [C.hml]; exact hl.1.symm) C.hown (C.hts _ hlink) (C.hts _ hnat) (C.hts _ hstat) (C.hts _ hini) C.hK hP hD hS q0 q1 t0 t1 ha0 ha1 ht0 ht1 hprim (nI_pos (by omega)) (nI_pos (by omega)) (nI_pos (by omega)) (by rw [k1, k3]; exact h4.1) (by rw [k2, k3]; exact h5.1) (by rw [k1, k3]; exact hfit) hR.1 hR.2 hdg (by rw [k1, k2, k3, hw]; exact fun H1 locs1 hP1 hD1 hS1 => kk H1 locs1 ls hP1 hD1 hS1 hl)
/-- an array of ints put into an array of objects -/
theorem vv_aastA (C : vv_C l p s m args meth c own cc nL ret G A) (q0 t0 qk tk : Nat) {cA cB : ClassId} {n0 v : Nat} {x : vp_A} {f : Nat → Option Nat} (he : ws[q0]? = some (a, .inl (cA, n0, .inr (.inr (.inr (.inr f)))))) (ht : (lwT G)[t0]? = some (cA, .object "java/lang/Object")) (hv : ws[qk]? = some (v, .inl (cB, x))) (htk : (lwT G)[tk]? = some (cB, .int)) (hca : ("[I", "java/lang/Object") ∈ vv_ca) {z : Int} (j : Nat) (hz : z = (j : Int)) (hj : j < n0) (hn0 : n0 ≤ 1000000) (hw : ws.set q0 (a, .inl (cA, n0, .inr (.inr (.inr (.inr (va_up f j (some v))))))) = ws1) (hdg : decode cc pc = .ok (.aastore, 1))
    (kk : VV p l e R s m args below meth c Q G A nL k n ws1 (pc + 1) loc st) : VV p l e R s m args below meth c Q G A nL k n ws pc loc (.ref v :: .int (zI z) :: .ref a :: st) := fun H locs ls hP hD hS hl =>
  vb_astq C.hx C.hb C.hK hP hD hS q0 t0 he ht ⟨_, hP qk _ hv, by obtain ⟨n9, f9 | f9 | f9 | f9 | f9⟩ := x <;> rfl, by
    have h9 := va_nm_int (C.hK.2 tk _ htk).2
    obtain ⟨n9, f9 | f9 | f9 | f9 | f9⟩ := x <;> exact h9⟩ (fun comp c0 h1 h2 => vb_asgC (C.hE.2.2.1 _ hca) comp c0 h1 h2) (vv_ix hz hj hn0).1 hdg (by rw [(vv_ix hz hj hn0).2, hw]; exact fun H1 locs1 hP1 hD1 hS1 => kk H1 locs1 ls hP1 hD1 hS1 hl)
variable {S : Type} {post : Option Value → S → Prop} {W1 : S → va_W} {ws2 : S → va_W} {isC isR isP : List Nat} {mc ms mL n0 : Nat} {x y : MethodName} {bytes : ByteArray} {rt : Option FieldType} {rm : Room} {b : Nat}
/-- hasNext, called by its interface -/
theorem vv_callF {count : Nat} (C : vv_C l p s m args meth c own cc nL ret G A) (ct : vv_cut ws wc wr W1 ws2 isC isR isP) (hM : ∀ sz, Met l yJx35411_hasNext_aae02 (Cond.code yJx35411_hasNext_aae02 bytes mL rt :: gT) rm (va_Pc [.ref b] (vv_I G wc sz)) (vv_Q G post W1 (va_A wc sz)) mc ms (va_A wc sz)) (hy : vv_yes yJx35411_hasNext_aae02 bytes mL rt 0) (hR : vv_rm rm R mL mc ms k n)
    (hl : Cond.methodLink own idx ⟨"java/util/Iterator", "hasNext", "()Z"⟩ ∈ gT) (hse : Cond.selects RJx35411 ⟨"java/util/Iterator", "hasNext", "()Z"⟩ yJx35411_hasNext_aae02 ∈ gT) (hi : Cond.instanceMethod yJx35411_hasNext_aae02 ∈ gT) (q0 : Nat) (he : wc[q0]? = some (b, .inr (ci, fs))) (hc : lwC[ci]? = some (RJx35411, T, N)) (hst : st = .ref b :: rest) (h8 : (rest.map fun v => v.category).sum ≤ 8) (hdg : decode cc pc = .ok (.invokeinterface idx count, 5))
    (kk : ∀ (v : Option Value) (u : S), post v u → VV p l e R s m args below meth c Q G A nL (k + mc) (n + ms) (ws2 u) (pc + 5) loc (v.toList ++ rest)) : VV p l e R s m args below meth c Q G A nL k n ws pc loc st := by
  subst hst
  intro H locs ls hP hD hS hlv T9 hT X
  obtain ⟨hC, hNC, hRr, hNR, hdis, hPm, hNP⟩ := ct
  have hF := va_free hD hS C.hA isC hC
  have hGd : GoodIn gT (va_wsF own idx RJx35411 ⟨"java/util/Iterator", "hasNext", "()Z"⟩ yJx35411_hasNext_aae02 (Cond.code yJx35411_hasNext_aae02 bytes mL rt :: gT)) := by
    intro w hw
    unfold va_wsF at hw
    rcases List.mem_append.mp hw with hw | hw
    · have hm : w ∈ gT := by
        simp only [List.mem_cons, List.not_mem_nil, or_false] at hw
        rcases hw with rfl | rfl | rfl | rfl
        · exact hl
        · exact hse
        · exact hi
        · exact hy.2.1
      exact ⟨hm, good_of_word (List.mem_filter.mp hm).2⟩
    · exact vg_in hy.1 w hw
  have hcls := (C.hK.1 ci _ hc).2
  have hr : va_Run5 p l e R s m args below meth c H locs k n mc ms (F0 m pc ls (.ref b :: rest)) rest (vv_Q G post W1 (va_A wc H.size) (#[.ref b])) (va_A wc H.size) :=
    va_runF hcls C.1 (hM H.size) (va_cwF 0 C.hts hGd rfl hR.1 hR.2.1 C.xF ⟨by decide, by decide, by decide +kernel⟩ ⟨hR.2.2.1, hR.2.2.2.1⟩) ⟨vv_I.blind, va_recv C.hK (hP.sub isC (vv_fm hC)) hc he, fun U hU hW => ⟨rfl, vv_pre C hC hNC hP hD hS U hU hW⟩⟩ rfl rfl hlv.1 rfl (lv_room h8) hdg ⟨hR.2.2.2.2.1, hR.2.2.2.2.2⟩
  obtain ⟨v, st₀, t, T', L, h0, X', hL, e1, e2, ⟨⟨v', u, hv, hp, hP1, hD1⟩, hFr⟩, st⟩ := hr T9 hT X
  cases hv
  obtain ⟨k1, k2, k3⟩ := vx_keep h0 e1 hS (fun q _ h => hF q h) hF hL hFr
  rw [← e1] at hP1
  obtain ⟨hPj, hDj⟩ := va_join hP hD isC isR hC hRr hNR hdis k2 hF hP1 hD1
  obtain ⟨t2, a1, b1⟩ := kk v u hp T'.heap (locs ++ L) ls (hPj.sub isP (vv_fm (hPm u))) (hDj.sub isP hNP (hPm u)) k3 hlv T' rfl X'
  exact ⟨t2, st t2 a1, b1⟩
end VVM
