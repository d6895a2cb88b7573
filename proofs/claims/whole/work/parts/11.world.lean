/-! worlds: the classes, the arrays' classes, starts and ends of methods that change cells -/
abbrev lwC : List vw_C := [(RX0, TX0, 5), (RX1, TX1, 5), (RX2, TX2, 12), (RX4, TX4, 9), (RX5, TX5, 7), (RX6, TX6, 2), (RX7, TX7, 2), (RX8, TX8, 9), (RX9, TX9, 4), (RX10, TX10, 9)]
abbrev lwG : Type := va_G × ClassId × ClassId × ClassId × ClassId
abbrev gI (G : lwG) : ClassId := G.2.1
abbrev gJ (G : lwG) : ClassId := G.2.2.1
abbrev gZ (G : lwG) : ClassId := G.2.2.2.1
abbrev gR (G : lwG) : ClassId := G.2.2.2.2
abbrev lwT (G : lwG) : List (ClassId × FieldType) := [(gI G, .int), (gJ G, .long), (gZ G, .boolean), (gR G, .object RX7)]
def lwIn (G : lwG) (ws : va_W) (sz : Nat) (U : State) : Prop := U.heap.size = sz ∧ va_P G.1 lwC ws U.heap ∧ va_K G.1 lwC (lwT G) U ∧ va_D (fun _ => True) ws
def lwOut (G : lwG) (A : Nat → Prop) (ws : va_W) (t : State) : Prop := va_P G.1 lwC ws t.heap ∧ va_K G.1 lwC (lwT G) t ∧ va_D A ws
def lwRd (G : lwG) (ws : va_W) (U : State) : Prop := va_P G.1 lwC ws U.heap ∧ va_K G.1 lwC (lwT G) U
theorem lwIn.blind {G : lwG} {ws : va_W} {sz : Nat} {U : State} {g : JFrame} {mk : MethodId} {a : Array Value} (h : lwIn G ws sz U) : lwIn G ws sz (U.calling g mk a) := ⟨h.1, h.2.1, va_K.moved (u := U) (U := U.calling g mk a) (Vm.Alike.refl U.vm) h.2.2.1, h.2.2.2⟩
theorem lwRd.blind {G : lwG} {ws : va_W} {U : State} {g : JFrame} {mk : MethodId} {a : Array Value} (h : lwRd G ws U) : lwRd G ws (U.calling g mk a) := ⟨h.1, va_K.moved (u := U) (U := U.calling g mk a) (Vm.Alike.refl U.vm) h.2⟩
theorem lwIn.mk {G : lwG} {ws : va_W} {s : State} {H : Heap} {A : Nat → Prop} (hP : va_P G.1 lwC ws H) (hK : va_K G.1 lwC (lwT G) s) (hD : va_D A ws) (U : State) (hU : U.heap = H) (hW : s.WarmedH U.vm) : lwIn G ws H.size U := ⟨by rw [hU], by rw [hU]; exact hP, va_K.moved hW.alike hK, hD.weaken (fun _ _ _ _ => trivial)⟩
theorem lwRd.mk {G : lwG} {ws : va_W} {s : State} {H : Heap} (hP : va_P G.1 lwC ws H) (hK : va_K G.1 lwC (lwT G) s) (U : State) (hU : U.heap = H) (hW : s.WarmedH U.vm) : lwRd G ws U := ⟨by rw [hU]; exact hP, va_K.moved hW.alike hK⟩
theorem zI_ix {e : Int} {k : Nat} (h : e = (k : Int)) (hk : k < 2147483648) : (zI e).toNatClampNeg = k := by rw [h, zI_nat, nI_clamp hk]
theorem zI_vin {e : Int} {k n : Nat} (h : e = (k : Int)) (hk : k < n) (hn : n ≤ 1000) : vp_in (zI e) n := zI_in (by omega) (by omega)
section ZA
variable {p : Program} {l : Launch} {e : Env} {R : Room} {s : State} {m : MethodId} {args : Array Value} {below : List Frame} {meth : Method} {c : Code} {H : Heap} {locs : List Loc} {cells slots : Nat} {Q : State → Prop}
variable {cc : ByteArray} {pc : Nat} {ls : Array Slot} {rest : List Value} {D : va_G} {cl : List vw_C} {A : Nat → Prop} {a : Nat} {tys : List (ClassId × FieldType)} {ws : va_W} {H0 : Heap}
theorem ziald (hx : p.tables.exec = Jvm.exec) (hb : c.code = cc) (hK : va_K D cl tys s) (hP : va_P D cl ws H) (q0 t0 : Nat) {cA : ClassId} {n : Nat} {f : Nat → Int32} (ha : ws[q0]? = some (a, .inl (cA, n, .inl f))) (ht : tys[t0]? = some (cA, .int)) {z : Int} (k : Nat) (hz : z = (k : Int)) (hk : k < n) (hn : n ≤ 1000) (hdg : decode cc pc = .ok (.iaload, 1))
    (kk : W p l e R s m args below meth c H locs cells slots Q (F0 m (pc + 1) ls (.int (f k) :: rest))) : W p l e R s m args below meth c H locs cells slots Q (F0 m pc ls (.int (zI z) :: .ref a :: rest)) :=
  va_iald hx hb hK hP q0 t0 ha ht (zI_vin hz hk hn) hdg (by rw [zI_ix hz (by omega)]; exact kk)
theorem zzald (hx : p.tables.exec = Jvm.exec) (hb : c.code = cc) (hK : va_K D cl tys s) (hP : va_P D cl ws H) (q0 t0 : Nat) {cA : ClassId} {n : Nat} {f : Nat → Int32} (ha : ws[q0]? = some (a, .inl (cA, n, .inl f))) (ht : tys[t0]? = some (cA, .boolean)) {z : Int} (k : Nat) (hz : z = (k : Int)) (hk : k < n) (hn : n ≤ 1000) (hdg : decode cc pc = .ok (.baload, 1))
    (kk : W p l e R s m args below meth c H locs cells slots Q (F0 m (pc + 1) ls (.int (f k) :: rest))) : W p l e R s m args below meth c H locs cells slots Q (F0 m pc ls (.int (zI z) :: .ref a :: rest)) :=
  va_zald hx hb hK hP q0 t0 ha ht (zI_vin hz hk hn) hdg (by rw [zI_ix hz (by omega)]; exact kk)
theorem zlald (hx : p.tables.exec = Jvm.exec) (hb : c.code = cc) (hK : va_K D cl tys s) (hP : va_P D cl ws H) (q0 t0 : Nat) {cA : ClassId} {n : Nat} {f : Nat → Int64} (ha : ws[q0]? = some (a, .inl (cA, n, .inr (.inl f)))) (ht : tys[t0]? = some (cA, .long)) {z : Int} (k : Nat) (hz : z = (k : Int)) (hk : k < n) (hn : n ≤ 1000) (hdg : decode cc pc = .ok (.laload, 1))
    (kk : W p l e R s m args below meth c H locs cells slots Q (F0 m (pc + 1) ls (.long (f k) :: rest))) : W p l e R s m args below meth c H locs cells slots Q (F0 m pc ls (.int (zI z) :: .ref a :: rest)) :=
  va_lald hx hb hK hP q0 t0 ha ht (zI_vin hz hk hn) hdg (by rw [zI_ix hz (by omega)]; exact kk)
theorem zaldq (hx : p.tables.exec = Jvm.exec) (hb : c.code = cc) (hK : va_K D cl tys s) (hP : va_P D cl ws H) (q0 t0 : Nat) {cA : ClassId} {C : String} {n : Nat} {f : Nat → Option Nat} (ha : ws[q0]? = some (a, .inl (cA, n, .inr (.inr (.inr (.inr f)))))) (ht : tys[t0]? = some (cA, .object C)) {z : Int} (k : Nat) (hz : z = (k : Int)) (hk : k < n) (hn : n ≤ 1000) {v : Nat} (hv : f k = some v) (hdg : decode cc pc = .ok (.aaload, 1))
    (kk : W p l e R s m args below meth c H locs cells slots Q (F0 m (pc + 1) ls (.ref v :: rest))) : W p l e R s m args below meth c H locs cells slots Q (F0 m pc ls (.int (zI z) :: .ref a :: rest)) :=
  va_aldq hx hb hK hP q0 t0 ha ht (zI_vin hz hk hn) hdg (by rw [zI_ix hz (by omega), hv]; exact kk)
theorem ziast (hx : p.tables.exec = Jvm.exec) (hb : c.code = cc) (hK : va_K D cl tys s) (hP : va_P D cl ws H) (hD : va_D A ws) (hS : va_S A H0 H locs) (q0 t0 : Nat) {cA : ClassId} {n : Nat} {f : Nat → Int32} (ha : ws[q0]? = some (a, .inl (cA, n, .inl f))) (ht : tys[t0]? = some (cA, .int)) {z : Int} {x : Int32} (k : Nat) (hz : z = (k : Int)) (hk : k < n) (hn : n ≤ 1000) (hdg : decode cc pc = .ok (.iastore, 1))
    (kk : ∀ (H1 : Heap) (locs1 : List Loc), va_P D cl (ws.set q0 (a, .inl (cA, n, .inl (upd f k x)))) H1 → va_D A (ws.set q0 (a, .inl (cA, n, .inl (upd f k x)))) → va_S A H0 H1 locs1 → W p l e R s m args below meth c H1 locs1 cells slots Q (F0 m (pc + 1) ls rest)) : W p l e R s m args below meth c H locs cells slots Q (F0 m pc ls (.int x :: .int (zI z) :: .ref a :: rest)) :=
  va_iast hx hb hK hP hD hS q0 t0 ha ht (zI_vin hz hk hn) hdg (by rw [zI_ix hz (by omega)]; exact kk)
theorem zzast (hx : p.tables.exec = Jvm.exec) (hb : c.code = cc) (hK : va_K D cl tys s) (hP : va_P D cl ws H) (hD : va_D A ws) (hS : va_S A H0 H locs) (q0 t0 : Nat) {cA : ClassId} {n : Nat} {f : Nat → Int32} (ha : ws[q0]? = some (a, .inl (cA, n, .inl f))) (ht : tys[t0]? = some (cA, .boolean)) {z : Int} {x : Int32} (k : Nat) (hz : z = (k : Int)) (hk : k < n) (hn : n ≤ 1000) (hdg : decode cc pc = .ok (.bastore, 1))
    (kk : ∀ (H1 : Heap) (locs1 : List Loc), va_P D cl (ws.set q0 (a, .inl (cA, n, .inl (upd f k (x &&& 1))))) H1 → va_D A (ws.set q0 (a, .inl (cA, n, .inl (upd f k (x &&& 1))))) → va_S A H0 H1 locs1 → W p l e R s m args below meth c H1 locs1 cells slots Q (F0 m (pc + 1) ls rest)) : W p l e R s m args below meth c H locs cells slots Q (F0 m pc ls (.int x :: .int (zI z) :: .ref a :: rest)) :=
  va_zast hx hb hK hP hD hS q0 t0 ha ht (zI_vin hz hk hn) hdg (by rw [zI_ix hz (by omega)]; exact kk)
theorem zlast (hx : p.tables.exec = Jvm.exec) (hb : c.code = cc) (hK : va_K D cl tys s) (hP : va_P D cl ws H) (hD : va_D A ws) (hS : va_S A H0 H locs) (q0 t0 : Nat) {cA : ClassId} {n : Nat} {f : Nat → Int64} (ha : ws[q0]? = some (a, .inl (cA, n, .inr (.inl f)))) (ht : tys[t0]? = some (cA, .long)) {z : Int} {x : Int64} (k : Nat) (hz : z = (k : Int)) (hk : k < n) (hn : n ≤ 1000) (hdg : decode cc pc = .ok (.lastore, 1))
    (kk : ∀ (H1 : Heap) (locs1 : List Loc), va_P D cl (ws.set q0 (a, .inl (cA, n, .inr (.inl (vp_updL f k x))))) H1 → va_D A (ws.set q0 (a, .inl (cA, n, .inr (.inl (vp_updL f k x))))) → va_S A H0 H1 locs1 → W p l e R s m args below meth c H1 locs1 cells slots Q (F0 m (pc + 1) ls rest)) : W p l e R s m args below meth c H locs cells slots Q (F0 m pc ls (.long x :: .int (zI z) :: .ref a :: rest)) :=
  va_last hx hb hK hP hD hS q0 t0 ha ht (zI_vin hz hk hn) hdg (by rw [zI_ix hz (by omega)]; exact kk)
end ZA
