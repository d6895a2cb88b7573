theorem vv_uniq {U : State} {a b : ClassId} {ty : FieldType} (h1 : va_RA U a ty) (h2 : va_RA U b ty) : a = b := by
  cases ty with
  | object C =>
    obtain ⟨_, _, _, _, _, h3⟩ := h1
    obtain ⟨_, _, _, _, _, h4⟩ := h2
    exact Option.some.inj (h3.symm.trans h4)
  | _ => exact Option.some.inj (Eq.trans (Eq.symm h1) h2)
theorem vv_last {α : Type} (l : List α) (a : α) : (l ++ [a])[l.length]? = some a := by simp
section VVH
variable {p : Program} {l : Launch} {e : Env} {R : Room} {s : State} {m : MethodId} {args : Array Value} {below : List Frame} {meth : Method} {c : Code} {Q : State → Prop} {own : String} {cc : ByteArray} {nL : Nat} {ret : Option FieldType} {G : vv_G} {A : Nat → Prop}
variable {k n pc : Nat} {ws ws1 : va_W} {loc : List (Nat × Value)} {st : List Value} {a ci N idx : Nat} {fs : List Value} {Cn : String} {T : u_T}
-- fields
theorem vv_get (C : vv_C l p s m args meth c own cc nL ret G A) (q0 : Nat) (he : ws[q0]? = some (a, .inr (ci, fs))) (hc : lwC[ci]? = some (Cn, T, N)) (hin : ∀ w ∈ u_ws Cn T N, w ∈ gT) (j : Nat) (hj : j < N) (hlink : Cond.fieldLink own idx (T j).1 (T j).2.1 (T j).2.2.1 ∈ gT) {v : Value} (hv : fs[j]? = some v) (hdg : decode cc pc = .ok (.getfield idx, 3))
    (kk : VV p l e R s m args below meth c Q G A nL k n ws (pc + 3) loc (v :: st)) : VV p l e R s m args below meth c Q G A nL k n ws pc loc (.ref a :: st) := fun H locs ls hP hD hS hl =>
  va_get C.hx C.hb C.hts hin C.hown C.hK hP q0 he hc j hj (C.hts _ hlink) (fun _ h => h) hv hdg (kk H locs ls hP hD hS hl)
theorem vv_getN (C : vv_C l p s m args meth c own cc nL ret G A) {host : String} (q0 : Nat) (he : ws[q0]? = some (a, .inr (ci, fs))) (hc : lwC[ci]? = some (Cn, T, N)) (hin : ∀ w ∈ u_ws Cn T N, w ∈ gT) (j : Nat) (hj : j < N) (hlink : (own, idx, (T j).1, (T j).2.1, (T j).2.2.1, host) ∈ vv_nf) {v : Value} (hv : fs[j]? = some v) (hdg : decode cc pc = .ok (.getfield idx, 3))
    (kk : VV p l e R s m args below meth c Q G A nL k n ws (pc + 3) loc (v :: st)) : VV p l e R s m args below meth c Q G A nL k n ws pc loc (.ref a :: st) := fun H locs ls hP hD hS hl =>
  va_getN C.hx C.hb C.hts hin C.hown C.hK hP q0 he hc j hj (va_Nw.use rfl (C.hE.2.1 _ hlink)) (fun _ h => h) hv hdg (kk H locs ls hP hD hS hl)
theorem vv_put (C : vv_C l p s m args meth c own cc nL ret G A) (q0 : Nat) (he : ws[q0]? = some (a, .inr (ci, fs))) (hc : lwC[ci]? = some (Cn, T, N)) (hin : ∀ w ∈ u_ws Cn T N, w ∈ gT) {ty0 : Nat → FieldType} (hty : ∀ k, k < N → parseFieldDescriptor (T k).2.2.1 = some (ty0 k)) (hnm : ∀ a, a < N → ∀ b, b < N → a ≠ b → (T a).2.1 ≠ (T b).2.1) (j : Nat) (hj : j < N) (hlink : Cond.fieldLink own idx (T j).1 (T j).2.1 (T j).2.2.1 ∈ gT) (hfin : (T j).2.2.2 = false) {v : Value} (hn : narrow (ty0 j) v = v) (hfit : fits (ty0 j) v = true) (hl0 : j < fs.length) (hw : ws.set q0 (a, .inr (ci, fs.set j v)) = ws1) (hdg : decode cc pc = .ok (.putfield idx, 3))
    (kk : VV p l e R s m args below meth c Q G A nL k n ws1 (pc + 3) loc st) : VV p l e R s m args below meth c Q G A nL k n ws pc loc (v :: .ref a :: st) := fun H locs ls hP hD hS hl =>
  va_put C.hx C.hb C.hts hin ty0 hty hnm C.hown C.hK hP hD hS q0 he hc j hj (C.hts _ hlink) (fun _ h => h) hfin (hty j hj) hn hfit hl0 hdg (fun H1 locs1 hP1 hD1 hS1 => kk H1 locs1 ls (hw ▸ hP1) (hw ▸ hD1) hS1 hl)
theorem vv_putF (C : vv_C l p s m args meth c own cc nL ret G A) (hnm0 : meth.name = "<init>") (q0 : Nat) (he : ws[q0]? = some (a, .inr (ci, fs))) (hc : lwC[ci]? = some (Cn, T, N)) (hin : ∀ w ∈ u_ws Cn T N, w ∈ gT) {ty0 : Nat → FieldType} (hty : ∀ k, k < N → parseFieldDescriptor (T k).2.2.1 = some (ty0 k)) (hnm : ∀ a, a < N → ∀ b, b < N → a ≠ b → (T a).2.1 ≠ (T b).2.1) (j : Nat) (hj : j < N) (hlink : Cond.fieldLink own idx (T j).1 (T j).2.1 (T j).2.2.1 ∈ gT) (hfin : (T j).2.2.2 = true) (hdecl : (T j).1 = own) {v : Value} (hn : narrow (ty0 j) v = v) (hfit : fits (ty0 j) v = true) (hl0 : j < fs.length) (hw : ws.set q0 (a, .inr (ci, fs.set j v)) = ws1) (hdg : decode cc pc = .ok (.putfield idx, 3))
    (kk : VV p l e R s m args below meth c Q G A nL k n ws1 (pc + 3) loc st) : VV p l e R s m args below meth c Q G A nL k n ws pc loc (v :: .ref a :: st) := fun H locs ls hP hD hS hl =>
  va_putF C.hx C.hb C.hts hin ty0 hty hnm C.hown C.hK hP hD hS q0 he hc j hj (C.hts _ hlink) (fun _ h => h) hfin hnm0 hdecl (hty j hj) hn hfit hl0 hdg (fun H1 locs1 hP1 hD1 hS1 => kk H1 locs1 ls (hw ▸ hP1) (hw ▸ hD1) hS1 hl)
theorem vv_getS (C : vv_C l p s m args meth c own cc nL ret G A) (q0 : Nat) (he : ws[q0]? = some (a, .inr (ci, fs))) (hc : lwC[ci]? = some (Cn, T, N)) (hin : ∀ w ∈ u_ws Cn T N, w ∈ gT) (j : Nat) (hj : j < N) {ref : String} (hlink : Cond.fieldLink own idx ref (T j).2.1 (T j).2.2.1 ∈ gT) (hsf : Cond.sameField ref (T j).1 (T j).2.1 (T j).2.2.1 ∈ gT) {v : Value} (hv : fs[j]? = some v) (hdg : decode cc pc = .ok (.getfield idx, 3))
    (kk : VV p l e R s m args below meth c Q G A nL k n ws (pc + 3) loc (v :: st)) : VV p l e R s m args below meth c Q G A nL k n ws pc loc (.ref a :: st) := fun H locs ls hP hD hS hl =>
  va_get C.hx C.hb C.hts hin C.hown C.hK hP q0 he hc j hj (C.hts _ hlink) (fun x h => u_same (C.hts _ hsf) x h) hv hdg (kk H locs ls hP hD hS hl)
theorem vv_putS (C : vv_C l p s m args meth c own cc nL ret G A) (q0 : Nat) (he : ws[q0]? = some (a, .inr (ci, fs))) (hc : lwC[ci]? = some (Cn, T, N)) (hin : ∀ w ∈ u_ws Cn T N, w ∈ gT) {ty0 : Nat → FieldType} (hty : ∀ k, k < N → parseFieldDescriptor (T k).2.2.1 = some (ty0 k)) (hnm : ∀ a, a < N → ∀ b, b < N → a ≠ b → (T a).2.1 ≠ (T b).2.1) (j : Nat) (hj : j < N) {ref : String} (hlink : Cond.fieldLink own idx ref (T j).2.1 (T j).2.2.1 ∈ gT) (hsf : Cond.sameField ref (T j).1 (T j).2.1 (T j).2.2.1 ∈ gT) (hfin : (T j).2.2.2 = false) {v : Value} (hn : narrow (ty0 j) v = v) (hfit : fits (ty0 j) v = true) (hl0 : j < fs.length) (hw : ws.set q0 (a, .inr (ci, fs.set j v)) = ws1) (hdg : decode cc pc = .ok (.putfield idx, 3))
    (kk : VV p l e R s m args below meth c Q G A nL k n ws1 (pc + 3) loc st) : VV p l e R s m args below meth c Q G A nL k n ws pc loc (v :: .ref a :: st) := fun H locs ls hP hD hS hl =>
  va_put C.hx C.hb C.hts hin ty0 hty hnm C.hown C.hK hP hD hS q0 he hc j hj (C.hts _ hlink) (fun x h => u_same (C.hts _ hsf) x h) hfin (hty j hj) hn hfit hl0 hdg (fun H1 locs1 hP1 hD1 hS1 => kk H1 locs1 ls (hw ▸ hP1) (hw ▸ hD1) hS1 hl)
-- arrays: the index is the number j
theorem vv_ix {z : Int} {j n : Nat} (hz : z = (j : Int)) (hj : j < n) (hn : n ≤ 1000000) : vp_in (zI z) n ∧ (zI z).toNatClampNeg = j := by
  subst hz
  rw [zI_nat]
  exact ⟨vp_in_nI hj (by omega), nI_clamp (by omega)⟩
theorem vv_iald (C : vv_C l p s m args meth c own cc nL ret G A) (q0 t0 : Nat) {cA : ClassId} {n0 : Nat} {f : Nat → Int32} (he : ws[q0]? = some (a, .inl (cA, n0, .inl f))) (ht : (lwT G)[t0]? = some (cA, .int)) {z : Int} (j : Nat) (hz : z = (j : Int)) (hj : j < n0) (hn0 : n0 ≤ 1000000) {v : Int32} (hv : f j = v) (hdg : decode cc pc = .ok (.iaload, 1))
    (kk : VV p l e R s m args below meth c Q G A nL k n ws (pc + 1) loc (.int v :: st)) : VV p l e R s m args below meth c Q G A nL k n ws pc loc (.int (zI z) :: .ref a :: st) := fun H locs ls hP hD hS hl =>
  va_iald C.hx C.hb C.hK hP q0 t0 he ht (vv_ix hz hj hn0).1 hdg (by rw [(vv_ix hz hj hn0).2, hv]; exact kk H locs ls hP hD hS hl)
theorem vv_zald (C : vv_C l p s m args meth c own cc nL ret G A) (q0 t0 : Nat) {cA : ClassId} {n0 : Nat} {f : Nat → Int32} (he : ws[q0]? = some (a, .inl (cA, n0, .inl f))) (ht : (lwT G)[t0]? = some (cA, .boolean)) {z : Int} (j : Nat) (hz : z = (j : Int)) (hj : j < n0) (hn0 : n0 ≤ 1000000) {v : Int32} (hv : f j = v) (hdg : decode cc pc = .ok (.baload, 1))
    (kk : VV p l e R s m args below meth c Q G A nL k n ws (pc + 1) loc (.int v :: st)) : VV p l e R s m args below meth c Q G A nL k n ws pc loc (.int (zI z) :: .ref a :: st) := fun H locs ls hP hD hS hl =>
  va_zald C.hx C.hb C.hK hP q0 t0 he ht (vv_ix hz hj hn0).1 hdg (by rw [(vv_ix hz hj hn0).2, hv]; exact kk H locs ls hP hD hS hl)
theorem vv_lald (C : vv_C l p s m args meth c own cc nL ret G A) (q0 t0 : Nat) {cA : ClassId} {n0 : Nat} {f : Nat → Int64} (he : ws[q0]? = some (a, .inl (cA, n0, .inr (.inl f)))) (ht : (lwT G)[t0]? = some (cA, .long)) {z : Int} (j : Nat) (hz : z = (j : Int)) (hj : j < n0) (hn0 : n0 ≤ 1000000) {v : Int64} (hv : f j = v) (hdg : decode cc pc = .ok (.laload, 1))
    (kk : VV p l e R s m args below meth c Q G A nL k n ws (pc + 1) loc (.long v :: st)) : VV p l e R s m args below meth c Q G A nL k n ws pc loc (.int (zI z) :: .ref a :: st) := fun H locs ls hP hD hS hl =>
  va_lald C.hx C.hb C.hK hP q0 t0 he ht (vv_ix hz hj hn0).1 hdg (by rw [(vv_ix hz hj hn0).2, hv]; exact kk H locs ls hP hD hS hl)
theorem vv_aald (C : vv_C l p s m args meth c own cc nL ret G A) (q0 t0 : Nat) {cA : ClassId} {E : String} {n0 : Nat} {f : Nat → Option Nat} (he : ws[q0]? = some (a, .inl (cA, n0, .inr (.inr (.inr (.inr f)))))) (ht : (lwT G)[t0]? = some (cA, .object E)) {z : Int} (j : Nat) (hz : z = (j : Int)) (hj : j < n0) (hn0 : n0 ≤ 1000000) {v : Value} (hv : va_rf (f j) = v) (hdg : decode cc pc = .ok (.aaload, 1))
    (kk : VV p l e R s m args below meth c Q G A nL k n ws (pc + 1) loc (v :: st)) : VV p l e R s m args below meth c Q G A nL k n ws pc loc (.int (zI z) :: .ref a :: st) := fun H locs ls hP hD hS hl =>
  va_aldq C.hx C.hb C.hK hP q0 t0 he ht (vv_ix hz hj hn0).1 hdg (by rw [(vv_ix hz hj hn0).2, hv]; exact kk H locs ls hP hD hS hl)
theorem vv_iast (C : vv_C l p s m args meth c own cc nL ret G A) (q0 t0 : Nat) {cA : ClassId} {n0 : Nat} {f : Nat → Int32} {x : Int32} (he : ws[q0]? = some (a, .inl (cA, n0, .inl f))) (ht : (lwT G)[t0]? = some (cA, .int)) {z : Int} (j : Nat) (hz : z = (j : Int)) (hj : j < n0) (hn0 : n0 ≤ 1000000) (hw : ws.set q0 (a, .inl (cA, n0, .inl (upd f j x))) = ws1) (hdg : decode cc pc = .ok (.iastore, 1))
    (kk : VV p l e R s m args below meth c Q G A nL k n ws1 (pc + 1) loc st) : VV p l e R s m args below meth c Q G A nL k n ws pc loc (.int x :: .int (zI z) :: .ref a :: st) := fun H locs ls hP hD hS hl =>
  va_iast C.hx C.hb C.hK hP hD hS q0 t0 he ht (vv_ix hz hj hn0).1 hdg (by rw [(vv_ix hz hj hn0).2, hw]; exact fun H1 locs1 hP1 hD1 hS1 => kk H1 locs1 ls hP1 hD1 hS1 hl)
theorem vv_zast (C : vv_C l p s m args meth c own cc nL ret G A) (q0 t0 : Nat) {cA : ClassId} {n0 : Nat} {f : Nat → Int32} {x : Int32} (he : ws[q0]? = some (a, .inl (cA, n0, .inl f))) (ht : (lwT G)[t0]? = some (cA, .boolean)) {z : Int} (j : Nat) (hz : z = (j : Int)) (hj : j < n0) (hn0 : n0 ≤ 1000000) (hw : ws.set q0 (a, .inl (cA, n0, .inl (upd f j (vp_nar .boolean x)))) = ws1) (hdg : decode cc pc = .ok (.bastore, 1))
    (kk : VV p l e R s m args below meth c Q G A nL k n ws1 (pc + 1) loc st) : VV p l e R s m args below meth c Q G A nL k n ws pc loc (.int x :: .int (zI z) :: .ref a :: st) := fun H locs ls hP hD hS hl =>
  va_zast C.hx C.hb C.hK hP hD hS q0 t0 he ht (vv_ix hz hj hn0).1 hdg (by rw [(vv_ix hz hj hn0).2, hw]; exact fun H1 locs1 hP1 hD1 hS1 => kk H1 locs1 ls hP1 hD1 hS1 hl)
theorem vv_last1 (C : vv_C l p s m args meth c own cc nL ret G A) (q0 t0 : Nat) {cA : ClassId} {n0 : Nat} {f : Nat → Int64} {x : Int64} (he : ws[q0]? = some (a, .inl (cA, n0, .inr (.inl f)))) (ht : (lwT G)[t0]? = some (cA, .long)) {z : Int} (j : Nat) (hz : z = (j : Int)) (hj : j < n0) (hn0 : n0 ≤ 1000000) (hw : ws.set q0 (a, .inl (cA, n0, .inr (.inl (vp_updL f j x)))) = ws1) (hdg : decode cc pc = .ok (.lastore, 1))
    (kk : VV p l e R s m args below meth c Q G A nL k n ws1 (pc + 1) loc st) : VV p l e R s m args below meth c Q G A nL k n ws pc loc (.long x :: .int (zI z) :: .ref a :: st) := fun H locs ls hP hD hS hl =>
  va_last C.hx C.hb C.hK hP hD hS q0 t0 he ht (vv_ix hz hj hn0).1 hdg (by rw [(vv_ix hz hj hn0).2, hw]; exact fun H1 locs1 hP1 hD1 hS1 => kk H1 locs1 ls hP1 hD1 hS1 hl)
/-- an object of a world put into an array of its own class -/
theorem vv_aast (C : vv_C l p s m args meth c own cc nL ret G A) (q0 t0 qk : Nat) {cA : ClassId} {n0 v : Nat} {vs : List Value} {f : Nat → Option Nat} (he : ws[q0]? = some (a, .inl (cA, n0, .inr (.inr (.inr (.inr f)))))) (ht : (lwT G)[t0]? = some (cA, .object Cn)) (hv : ws[qk]? = some (v, .inr (ci, vs))) (hc : lwC[ci]? = some (Cn, T, N)) {z : Int} (j : Nat) (hz : z = (j : Int)) (hj : j < n0) (hn0 : n0 ≤ 1000000) (hw : ws.set q0 (a, .inl (cA, n0, .inr (.inr (.inr (.inr (va_up f j (some v))))))) = ws1) (hdg : decode cc pc = .ok (.aastore, 1))
    (kk : VV p l e R s m args below meth c Q G A nL k n ws1 (pc + 1) loc st) : VV p l e R s m args below meth c Q G A nL k n ws pc loc (.ref v :: .int (zI z) :: .ref a :: st) := fun H locs ls hP hD hS hl =>
  va_astq C.hx C.hb C.hK hP hD hS q0 t0 qk ci (r := (Cn, T, N)) he ht hv hc (vv_ix hz hj hn0).1 hdg (by rw [(vv_ix hz hj hn0).2, hw]; exact fun H1 locs1 hP1 hD1 hS1 => kk H1 locs1 ls hP1 hD1 hS1 hl)
theorem vv_alen (C : vv_C l p s m args meth c own cc nL ret G A) (q0 t0 : Nat) {cA : ClassId} {x : vp_A} (he : ws[q0]? = some (a, .inl (cA, x))) {ty : FieldType} (ht : (lwT G)[t0]? = some (cA, ty)) {v : Int32} (hv : Int32.ofNat x.1 = v) (hdg : decode cc pc = .ok (.arraylength, 1))
    (kk : VV p l e R s m args below meth c Q G A nL k n ws (pc + 1) loc (.int v :: st)) : VV p l e R s m args below meth c Q G A nL k n ws pc loc (.ref a :: st) := fun H locs ls hP hD hS hl =>
  va_alen C.hx C.hb C.hK hP q0 t0 he ht hv hdg (kk H locs ls hP hD hS hl)
/-- an array of numbers is made -/
theorem vv_newa (C : vv_C l p s m args meth c own cc nL ret G A) {atype : ArrayType} (t0 : Nat) {cA : ClassId} {ty : FieldType} (ht : (lwT G)[t0]? = some (cA, ty)) (hty : newarray.typeOf atype = ty) (harr : Cond.arrayClass (newarray.typeOf atype) ∈ gT) {z : Int} (N' : Nat) (hz : z = (N' : Int)) (hN : N' ≤ 1000000) (a0 : vp_A) (ha : ∀ cA : ClassId, vp_cell cA a0 = arrV cA N' (fun _ => defaultValue ty)) (hb8 : componentBytes ty ≤ 8) (hr : k + 1 ≤ R.cells ∧ n + N' ≤ R.slots) (hdg : decode cc pc = .ok (.newarray atype, 2)) (w1 : Nat → va_W) (hw : ∀ q : Nat, ws ++ [(q, .inl (cA, a0))] = w1 q)
    (kk : ∀ q : Nat, VV p l e R s m args below meth c Q G A nL (k + 1) (n + N') (w1 q) (pc + 2) loc (.ref q :: st)) : VV p l e R s m args below meth c Q G A nL k n ws pc loc (.int (zI z) :: st) := fun H locs ls hP hD hS hl => by
  subst hz
  rw [zI_nat]
  refine va_newa C.hx C.hb (C.hts _ harr) hty C.hK hP hD hS C.hA ha (nI_pos (by omega)) (nI_clamp (by omega)) ?_ hr.1 hr.2 hdg (fun q cB H1 hK1 hP1 hD1 hS1 => ?_)
  · exact Nat.le_trans (Nat.mul_le_mul hN hb8) (by decide)
  · have e := vv_uniq (hK1.2 (lwT G).length (cB, ty) (vv_last _ _)).2 (C.hK.2 t0 _ ht).2
    subst e
    exact kk q H1 locs ls (hw q ▸ hP1) (hw q ▸ hD1) hS1 hl
/-- an array of references is made -/
theorem vv_newq (C : vv_C l p s m args meth c own cc nL ret G A) (t0 : Nat) {cA : ClassId} {E : String} (ht : (lwT G)[t0]? = some (cA, .object E)) (hcl : Cond.classLink own idx E ∈ gT) (hover : va_AO E s) {z : Int} (N' : Nat) (hz : z = (N' : Int)) (hN : N' ≤ 1000000) (hr : k + 1 ≤ R.cells ∧ n + N' ≤ R.slots) (hdg : decode cc pc = .ok (.anewarray idx, 3)) (w1 : Nat → va_W) (hw : ∀ q : Nat, ws ++ [(q, .inl (cA, N', .inr (.inr (.inr (.inr (fun _ => none))))))] = w1 q)
    (kk : ∀ q : Nat, VV p l e R s m args below meth c Q G A nL (k + 1) (n + N') (w1 q) (pc + 3) loc (.ref q :: st)) : VV p l e R s m args below meth c Q G A nL k n ws pc loc (.int (zI z) :: st) := fun H locs ls hP hD hS hl => by
  subst hz
  rw [zI_nat]
  refine va_newq C.hx C.hb C.hown (C.hts _ hcl) hover C.hK hP hD hS C.hA (nI_pos (by omega)) (nI_clamp (by omega)) (by omega) hr.1 hr.2 hdg (fun q cB H1 hK1 hP1 hD1 hS1 => ?_)
  have e := vv_uniq (hK1.2 (lwT G).length (cB, .object E) (vv_last _ _)).2 (C.hK.2 t0 _ ht).2
  subst e
  exact kk q H1 locs ls (hw q ▸ hP1) (hw q ▸ hD1) hS1 hl
/-- an array of arrays of ints is made, and at once forgotten by the world -/
theorem vv_newA (C : vv_C l p s m args meth c own cc nL ret G A) {t : FieldType} (hcl : Cond.classLink own idx (FieldType.array t).toString ∈ gT) (hover : (Cond.arrayOver (.array t)).before args s = true) {z : Int} (N' : Nat) (hz : z = (N' : Int)) (hN : N' ≤ 1000000) (hr : k + 1 ≤ R.cells ∧ n + N' ≤ R.slots) (hdg : decode cc pc = .ok (.anewarray idx, 3))
    (kk : ∀ q : Nat, VV p l e R s m args below meth c Q G A nL (k + 1) (n + N') ws (pc + 3) loc (.ref q :: st)) : VV p l e R s m args below meth c Q G A nL k n ws pc loc (.int (zI z) :: st) := fun H locs ls hP hD hS hl => by
  subst hz
  rw [zI_nat]
  have hcN : (nI N').toNatClampNeg = N' := nI_clamp (by omega)
  refine W.anewA C.hx C.hb C.hown (C.hts _ hcl) hover rfl hdg rfl (nI_pos (by omega)) (by rw [hcN]; omega) hr.1 (by rw [hcN]; exact hr.2) fun cA kA comp f1 f2 f3 f4 => ?_
  rw [hcN]
  generalize hH1 : H.push ({ cls := cA, slots := Array.replicate N' .null, vm := .none } : Cell) = H1
  have z1 : H1.size = H.size + 1 := by rw [← hH1, Array.size_push]
  have o1 : ∀ q : Nat, q < H.size → H1[q]? = H[q]? := fun q hq => by rw [← hH1, Array.getElem?_push, if_neg (Nat.ne_of_lt hq)]
  exact kk H.size H1 locs ls (hP.kept (fun j x hx => o1 x.1 ((hP j x hx).lt))) hD ⟨Nat.le_trans hS.1 (by omega), fun x h1 h2 => (o1 x (Nat.lt_of_lt_of_le h1 hS.1)).trans (hS.2.1 x h1 h2), hS.2.2⟩ hl
theorem vv_new (C : vv_C l p s m args meth c own cc nL ret G A) (hc : lwC[ci]? = some (Cn, T, N)) (hin : ∀ w ∈ u_ws Cn T N, w ∈ gT) {ty0 : Nat → FieldType} (hty : ∀ k, k < N → parseFieldDescriptor (T k).2.2.1 = some (ty0 k)) (hcl : Cond.classLink own idx Cn ∈ gT) (hinst : Cond.instantiable Cn N ∈ gT) (hini : Cond.initialized Cn ∈ gT) (fs : List Value) (hfs : ∀ j, j < N → defaultValue (ty0 j) = vp_V fs j) (hr : k + 1 ≤ R.cells ∧ n + N ≤ R.slots) (hdg : decode cc pc = .ok (.new idx, 3)) (w1 : Nat → va_W) (hw : ∀ q : Nat, ws ++ [(q, .inr (ci, fs))] = w1 q)
    (kk : ∀ q : Nat, VV p l e R s m args below meth c Q G A nL (k + 1) (n + N) (w1 q) (pc + 3) loc (.ref q :: st)) : VV p l e R s m args below meth c Q G A nL k n ws pc loc st := fun H locs ls hP hD hS hl =>
  va_new C.hx C.hb C.hts hin ty0 hty C.hown (C.hts _ hcl) (C.hts _ hinst) (C.hts _ hini) C.hK hP hD hS C.hA hc hfs hr.1 hr.2 hdg (fun q H1 hP1 hD1 hS1 => kk q H1 locs ls (hw q ▸ hP1) (hw q ▸ hD1) hS1 hl)
theorem vv_objInit (C : vv_C l p s m args meth c own cc nL ret G A) (hlink : Cond.methodLink own idx objectInit ∈ gT) (h2 : Cond.instanceMethod objectInit ∈ gT) (h3 : Cond.code objectInit ⟨#[0xb1]⟩ 1 none ∈ gT) (hR : 1 ≤ R.frames ∧ (st.map fun v => v.category).sum ≤ 8 ∧ 20 ≤ R.locals) (hdg : decode cc pc = .ok (.invokespecial idx, 3))
    (kk : VV p l e R s m args below meth c Q G A nL k n ws (pc + 3) loc st) : VV p l e R s m args below meth c Q G A nL k n ws pc loc (.ref a :: st) := fun H locs ls hP hD hS hl =>
  W.objInit C.hx C.hb C.hown (C.hts _ hlink) (C.hts _ h2) (C.hts _ h3) rfl (by rw [C.hml]; exact hl.1) rfl hdg hR.1 (by have h9 := lv_room (m := m) (pc := pc) (ls := ls) (rest := .ref a :: st) hR.2.1; omega) (W.eq (g2 := F0 m (pc + 3) ls st) rfl (kk H locs ls hP hD hS hl))
theorem vv_gets (C : vv_C l p s m args meth c own cc nL ret G A) {Co nm d ref : String} {v : Value} (hZ : va_Z Co nm d v A s s.heap) (hlink : Cond.fieldLink own idx Co nm d ∈ gT) (hdg : decode cc pc = .ok (.getstatic idx, 3))
    (kk : VV p l e R s m args below meth c Q G A nL k n ws (pc + 3) loc (v :: st)) : VV p l e R s m args below meth c Q G A nL k n ws pc loc st := fun H locs ls hP hD hS hl =>
  va_gets C.hx C.hb hZ hS C.hown (C.hts _ hlink) (fun _ h => h) hdg (kk H locs ls hP hD hS hl)
theorem vv_tlen (C : vv_C l p s m args meth c own cc nL ret G A) {t N : Nat} {f : Nat → Value} {ty : FieldType} (hT : va_T ty t N f A s s.heap) {v : Int32} (hv : Int32.ofNat N = v) (hdg : decode cc pc = .ok (.arraylength, 1))
    (kk : VV p l e R s m args below meth c Q G A nL k n ws (pc + 1) loc (.int v :: st)) : VV p l e R s m args below meth c Q G A nL k n ws pc loc (.ref t :: st) := fun H locs ls hP hD hS hl =>
  va_tlen C.hx C.hb hT hS hv hdg (kk H locs ls hP hD hS hl)
-- ends
variable {S : Type} {post : Option Value → S → Prop} {W1 : S → va_W}
theorem vv_end {v : Option Value} {H : Heap} {locs : List Loc} {t : State} (u : S) (hp : post v u) (is : List Nat) (hs : is.map (fun i => ws[i]?) = (W1 u).map some) (hn : va_nd is = true) (hP : va_P G.1 lwC ws H) (hD : va_D A ws) (hS : va_S A s.heap H locs) (ht : t.heap = H) : vv_Q G post W1 A args s (.returned v) t :=
  ⟨⟨v, u, rfl, hp, by rw [ht]; exact hP.sub is (vv_fm hs), hD.sub is hn hs⟩, hS.F ht⟩
theorem vv_iret (C : vv_C l p s m args meth c own cc nL (some .int) G A) {v : Int32} (u : S) (hp : post (some (.int v)) u) (is : List Nat) (hs : is.map (fun i => ws[i]?) = (W1 u).map some) (hn : va_nd is = true) {mc ms : Nat} (hk : k ≤ mc ∧ n ≤ ms) (hdg : decode cc pc = .ok (.ireturn, 1)) : VV p l e R s m args below meth c (MQ below (vv_Q G post W1 A) args s mc ms A) G A nL k n ws pc loc [.int v] := fun H locs ls hP hD hS hl =>
  W.widen hk.1 hk.2 (W.iret C.hx C.hb C.hr (fun t ht hW => vv_end u hp is hs hn hP hD hS ht) hS.2.2 hdg C.hlk)
theorem vv_zret (C : vv_C l p s m args meth c own cc nL (some .boolean) G A) {v : Int32} (hnar : narrow .boolean (.int v) = .int v) (u : S) (hp : post (some (.int v)) u) (is : List Nat) (hs : is.map (fun i => ws[i]?) = (W1 u).map some) (hn : va_nd is = true) {mc ms : Nat} (hk : k ≤ mc ∧ n ≤ ms) (hdg : decode cc pc = .ok (.ireturn, 1)) : VV p l e R s m args below meth c (MQ below (vv_Q G post W1 A) args s mc ms A) G A nL k n ws pc loc [.int v] := fun H locs ls hP hD hS hl =>
  W.widen hk.1 hk.2 (W.zret C.hx C.hb C.hr hnar (fun t ht hW => vv_end u hp is hs hn hP hD hS ht) hS.2.2 hdg C.hlk)
theorem vv_lret (C : vv_C l p s m args meth c own cc nL (some .long) G A) {v : Int64} (u : S) (hp : post (some (.long v)) u) (is : List Nat) (hs : is.map (fun i => ws[i]?) = (W1 u).map some) (hn : va_nd is = true) {mc ms : Nat} (hk : k ≤ mc ∧ n ≤ ms) (hdg : decode cc pc = .ok (.lreturn, 1)) : VV p l e R s m args below meth c (MQ below (vv_Q G post W1 A) args s mc ms A) G A nL k n ws pc loc [.long v] := fun H locs ls hP hD hS hl =>
  W.widen hk.1 hk.2 (W.lret C.hx C.hb C.hr (fun t ht hW => vv_end u hp is hs hn hP hD hS ht) hS.2.2 hdg C.hlk)
theorem vv_dret (C : vv_C l p s m args meth c own cc nL (some .double) G A) {v : UInt64} (u : S) (hp : post (some (.double v)) u) (is : List Nat) (hs : is.map (fun i => ws[i]?) = (W1 u).map some) (hn : va_nd is = true) {mc ms : Nat} (hk : k ≤ mc ∧ n ≤ ms) (hdg : decode cc pc = .ok (.dreturn, 1)) : VV p l e R s m args below meth c (MQ below (vv_Q G post W1 A) args s mc ms A) G A nL k n ws pc loc [.double v] := fun H locs ls hP hD hS hl =>
  W.widen hk.1 hk.2 (W.dret C.hx C.hb C.hr (fun t ht hW => vv_end u hp is hs hn hP hD hS ht) hS.2.2 hdg C.hlk)
theorem vv_vret (C : vv_C l p s m args meth c own cc nL none G A) (u : S) (hp : post none u) (is : List Nat) (hs : is.map (fun i => ws[i]?) = (W1 u).map some) (hn : va_nd is = true) {mc ms : Nat} (hk : k ≤ mc ∧ n ≤ ms) (hdg : decode cc pc = .ok (.return_, 1)) : VV p l e R s m args below meth c (MQ below (vv_Q G post W1 A) args s mc ms A) G A nL k n ws pc loc [] := fun H locs ls hP hD hS hl =>
  W.widen hk.1 hk.2 (W.vret C.hx C.hb C.hr (fun t ht hW => vv_end u hp is hs hn hP hD hS ht) hS.2.2 hdg C.hlk)
theorem vv_aret {rt : FieldType} (C : vv_C l p s m args meth c own cc nL (some rt) G A) (hrt : (∃ n, rt = .object n) ∨ ∃ t, rt = .array t) {v : Value} (hv : v = .null ∨ ∃ a, v = .ref a) (u : S) (hp : post (some v) u) (is : List Nat) (hs : is.map (fun i => ws[i]?) = (W1 u).map some) (hn : va_nd is = true) {mc ms : Nat} (hk : k ≤ mc ∧ n ≤ ms) (hdg : decode cc pc = .ok (.areturn, 1)) : VV p l e R s m args below meth c (MQ below (vv_Q G post W1 A) args s mc ms A) G A nL k n ws pc loc [v] := fun H locs ls hP hD hS hl =>
  W.widen hk.1 hk.2 (W.aret C.hx C.hb C.hr hrt hv (fun t ht hW => vv_end u hp is hs hn hP hD hS ht) hS.2.2 hdg C.hlk)
theorem vv_toX {Qc : Array Value → State → Outcome → State → Prop} {XC : String → State → State → Prop} {mc ms : Nat} {free : Addr → Prop} (kk : VV p l e R s m args below meth c (MQ below Qc args s mc ms free) G A nL k n ws pc loc st) : VV p l e R s m args below meth c (vx_MQ below Qc XC args s mc ms free) G A nL k n ws pc loc st := fun H locs ls hP hD hS hl => vx_ret (kk H locs ls hP hD hS hl)
end VVH
