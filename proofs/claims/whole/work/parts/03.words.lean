/-! rows pasted from kit/laws/BITS.to-paste: the family wb_  -/
theorem wb_tb (n : Nat) : (lN n).toBitVec = BitVec.ofNat 64 n := rfl
theorem wb_inj {a b : Int64} (h : a.toBitVec = b.toBitVec) : a = b := Int64.toBitVec_inj.mp h
theorem wb_tn {n : Nat} (h : n < 2 ^ 64) : (lN n).toBitVec.toNat = n := by rw [wb_tb, BitVec.toNat_ofNat, Nat.mod_eq_of_lt h]
theorem wb_of (x : Int64) : ∃ n, n < 2 ^ 64 ∧ x = lN n := ⟨x.toBitVec.toNat, x.toBitVec.isLt, wb_inj (by rw [wb_tb]; simp)⟩
theorem wb_of32 (x : Int32) : ∃ n, n < 2 ^ 32 ∧ x = nI n := ⟨x.toBitVec.toNat, x.toBitVec.isLt, Int32.toBitVec_inj.mp (by show _ = BitVec.ofNat 32 _; simp)⟩
theorem wb_c : ∀ k, k < 64 → ((nI k).toInt64 &&& 63) = lN k := by decide +kernel
theorem wb_cu : ∀ k, k < 64 → ((nI k).toInt64.toUInt64 &&& Int64.toUInt64 63) = UInt64.ofNat k := by decide +kernel
theorem wb_sm : ∀ k, k < 64 → (BitVec.ofNat 64 k).smod 64 = BitVec.ofNat 64 k := by decide +kernel
theorem wb_pw {a b : Nat} (h : a ≤ b) : 2 ^ b = 2 ^ a * 2 ^ (b - a) := by rw [← Nat.pow_add]; congr 1; omega
theorem wb_lt2 {a b : Nat} (h : a < b) : 2 ^ a < 2 ^ b := Nat.pow_lt_pow_right (by decide) h
theorem wb_mod (n : Nat) : lN n = lN (n % 2 ^ 64) := wb_inj (by rw [wb_tb, wb_tb]; apply BitVec.eq_of_toNat_eq; rw [BitVec.toNat_ofNat, BitVec.toNat_ofNat, Nat.mod_mod])
theorem wb_shr {n k : Nat} (hn : n < 2 ^ 64) (hk : k < 64) : ((lN n).toUInt64 >>> ((nI k).toInt64.toUInt64 &&& Int64.toUInt64 63)).toInt64 = lN (n / 2 ^ k) := by
  rw [wb_cu k hk]
  apply wb_inj
  apply BitVec.eq_of_toNat_eq
  show ((lN n).toUInt64 >>> UInt64.ofNat k).toNat = (BitVec.ofNat 64 _).toNat
  have h1 : (UInt64.ofNat k).toNat = k := by
    show (BitVec.ofNat 64 k).toNat = k
    rw [BitVec.toNat_ofNat, Nat.mod_eq_of_lt (by omega)]
  have h2 : (lN n).toUInt64.toNat = n := wb_tn hn
  rw [UInt64.toNat_shiftRight, h1, h2, Nat.mod_eq_of_lt hk, Nat.shiftRight_eq_div_pow, BitVec.toNat_ofNat, Nat.mod_eq_of_lt (Nat.lt_of_le_of_lt (Nat.div_le_self _ _) hn)]
theorem wb_shl (n : Nat) {k : Nat} (hk : k < 64) : lN n <<< ((nI k).toInt64 &&& 63) = lN (n * 2 ^ k) := by
  rw [wb_c k hk]
  apply wb_inj
  rw [Int64.toBitVec_shiftLeft, wb_tb, wb_tb, wb_tb, wb_sm k hk]
  apply BitVec.eq_of_toNat_eq
  rw [BitVec.shiftLeft_eq', BitVec.toNat_shiftLeft, BitVec.toNat_ofNat, BitVec.toNat_ofNat, BitVec.toNat_ofNat, Nat.mod_eq_of_lt (show k < 2 ^ 64 by omega), Nat.shiftLeft_eq, Nat.mul_mod, Nat.mod_mod, ← Nat.mul_mod]
theorem wb_and {a b : Nat} (ha : a < 2 ^ 64) (hb : b < 2 ^ 64) : lN a &&& lN b = lN (a &&& b) := by
  apply wb_inj
  rw [Int64.toBitVec_and, wb_tb, wb_tb, wb_tb]
  apply BitVec.eq_of_toNat_eq
  rw [BitVec.toNat_and, BitVec.toNat_ofNat, BitVec.toNat_ofNat, BitVec.toNat_ofNat, Nat.mod_eq_of_lt ha, Nat.mod_eq_of_lt hb, Nat.mod_eq_of_lt (Nat.and_lt_two_pow _ hb)]
theorem wb_or {a b : Nat} (ha : a < 2 ^ 64) (hb : b < 2 ^ 64) : lN a ||| lN b = lN (a ||| b) := by
  apply wb_inj
  rw [Int64.toBitVec_or, wb_tb, wb_tb, wb_tb]
  apply BitVec.eq_of_toNat_eq
  rw [BitVec.toNat_or, BitVec.toNat_ofNat, BitVec.toNat_ofNat, BitVec.toNat_ofNat, Nat.mod_eq_of_lt ha, Nat.mod_eq_of_lt hb, Nat.mod_eq_of_lt (Nat.or_lt_two_pow ha hb)]
theorem wb_mask {n k : Nat} (hn : n < 2 ^ 64) (hk : k < 64) : lN n &&& lN (2 ^ k - 1) = lN (n % 2 ^ k) := by
  rw [wb_and hn (by have := wb_lt2 hk; omega), Nat.and_two_pow_sub_one_eq_mod]
theorem wb_a1 {n : Nat} (hn : n < 2 ^ 64) : lN n &&& 1 = lN (n % 2) := wb_mask (k := 1) hn (by decide)
/-! words: the codes of a TERM in the order of its PLACES; a packed TERM is the number of its word -/
def tw_enc : List Nat → Nat
  | [] => 0
  | c :: w => c + 16 * tw_enc w
/-- a word of codes 1 to 15, twelve at most -/
def tw_ok (w : List Nat) : Prop := w.length ≤ 12 ∧ ∀ c ∈ w, 1 ≤ c ∧ c < 16
def tw_L (w : List Nat) : Int64 := lN (tw_enc w)
theorem tw_ok.le {w : List Nat} (h : tw_ok w) : w.length ≤ 12 := h.1
theorem tw_ok_nil : tw_ok [] := ⟨by decide, fun c h => by cases h⟩
theorem tw_pow (k : Nat) : 2 ^ (4 * k) = 16 ^ k := by rw [Nat.pow_mul]
theorem tw_enc_app (u v : List Nat) : tw_enc (u ++ v) = tw_enc u + 16 ^ u.length * tw_enc v := by
  induction u with
  | nil => simp [tw_enc]
  | cons c u ih =>
    have e : 16 ^ (u.length + 1) * tw_enc v = 16 * (16 ^ u.length * tw_enc v) := by rw [Nat.pow_succ, Nat.mul_comm (16 ^ u.length) 16, Nat.mul_assoc]
    show c + 16 * tw_enc (u ++ v) = (c + 16 * tw_enc u) + 16 ^ (u.length + 1) * tw_enc v
    rw [ih, e]
    omega
theorem tw_enc_lt {w : List Nat} (h : ∀ c ∈ w, c < 16) : tw_enc w < 16 ^ w.length := by
  induction w with
  | nil => exact Nat.one_pos
  | cons c w ih =>
    have h1 := ih (fun c h2 => h c (List.mem_cons_of_mem _ h2))
    have h2 := h c List.mem_cons_self
    show c + 16 * tw_enc w < 16 ^ (w.length + 1)
    rw [Nat.pow_succ]
    omega
theorem tw_enc_drop (k : Nat) : ∀ (w : List Nat), (∀ c ∈ w, c < 16) → tw_enc w / 16 ^ k = tw_enc (w.drop k) := by
  induction k with
  | zero => intro w _; simp
  | succ k ih =>
    intro w h
    cases w with
    | nil => simp [tw_enc]
    | cons c w =>
      have h2 := h c List.mem_cons_self
      rw [Nat.pow_succ, Nat.mul_comm, ← Nat.div_div_eq_div_mul]
      show (c + 16 * tw_enc w) / 16 / 16 ^ k = tw_enc (w.drop k)
      rw [← ih w (fun c h3 => h c (List.mem_cons_of_mem _ h3))]
      congr 1
      omega
theorem tw_enc_take {w : List Nat} (h : ∀ c ∈ w, c < 16) (k : Nat) : tw_enc w % 16 ^ k = tw_enc (w.take k) := by
  have h1 : tw_enc (w.take k) < 16 ^ (w.take k).length := tw_enc_lt (fun c hc => h c (List.mem_of_mem_take hc))
  have h2 : tw_enc (w.take k) < 16 ^ k := Nat.lt_of_lt_of_le h1 (Nat.pow_le_pow_right (by decide) (by rw [List.length_take]; omega))
  rcases Nat.lt_or_ge k w.length with hk | hk
  · have e : tw_enc w = tw_enc (w.take k) + 16 ^ k * tw_enc (w.drop k) := by
      have e1 := tw_enc_app (w.take k) (w.drop k)
      rw [List.take_append_drop, List.length_take, Nat.min_eq_left (Nat.le_of_lt hk)] at e1
      exact e1
    rw [e, Nat.add_mul_mod_self_left, Nat.mod_eq_of_lt h2]
  · rw [List.take_of_length_le hk] at h2 ⊢
    exact Nat.mod_eq_of_lt h2
theorem tw_get {w : List Nat} (h : ∀ c ∈ w, c < 16) (k : Nat) : tw_enc (w.drop k) % 16 = w.getD k 0 := by
  rcases Nat.lt_or_ge k w.length with hk | hk
  · rw [List.drop_eq_getElem_cons hk]
    show (w[k] + 16 * tw_enc (w.drop (k + 1))) % 16 = _
    rw [List.getD_eq_getElem?_getD, List.getElem?_eq_getElem hk]
    have := h w[k] (List.getElem_mem hk)
    show _ = w[k]
    omega
  · rw [List.drop_of_length_le hk, List.getD_eq_getElem?_getD, List.getElem?_eq_none hk]
    rfl
theorem tw_enc_0 {w : List Nat} (h : ∀ c ∈ w, 1 ≤ c) : tw_enc w = 0 ↔ w = [] := by
  constructor
  · intro e
    cases w with
    | nil => rfl
    | cons c w =>
      have h2 := h c List.mem_cons_self
      have e2 : c + 16 * tw_enc w = 0 := e
      omega
  · intro e
    rw [e]
    rfl
theorem tw_enc_inj : ∀ (u v : List Nat), (∀ c ∈ u, 1 ≤ c ∧ c < 16) → (∀ c ∈ v, 1 ≤ c ∧ c < 16) → tw_enc u = tw_enc v → u = v
  | [], v, _, hv, e => ((tw_enc_0 (fun c h => (hv c h).1)).mp e.symm).symm
  | c :: u, [], hu, _, e => (tw_enc_0 (fun c h => (hu c h).1)).mp e
  | c :: u, d :: v, hu, hv, e => by
    have h1 := hu c List.mem_cons_self
    have h2 := hv d List.mem_cons_self
    have e2 : c + 16 * tw_enc u = d + 16 * tw_enc v := e
    have e3 := tw_enc_inj u v (fun c h => hu c (List.mem_cons_of_mem _ h)) (fun c h => hv c (List.mem_cons_of_mem _ h)) (by omega)
    rw [e3, show c = d by omega]
theorem tw_ok.lt {w : List Nat} (h : tw_ok w) : tw_enc w < 16 ^ 12 := Nat.lt_of_lt_of_le (tw_enc_lt (fun c hc => (h.2 c hc).2)) (Nat.pow_le_pow_right (by decide) h.1)
theorem tw_ok.drop {w : List Nat} (h : tw_ok w) (k : Nat) : tw_ok (w.drop k) := ⟨by rw [List.length_drop]; have := h.1; omega, fun c hc => h.2 c (List.mem_of_mem_drop hc)⟩
theorem tw_ok.take {w : List Nat} (h : tw_ok w) (k : Nat) : tw_ok (w.take k) := ⟨by rw [List.length_take]; have := h.1; omega, fun c hc => h.2 c (List.mem_of_mem_take hc)⟩
theorem tw_ok.app {u v : List Nat} (hu : tw_ok u) (hv : tw_ok v) (h : u.length + v.length ≤ 12) : tw_ok (u ++ v) := ⟨by rw [List.length_append]; exact h, fun c hc => (List.mem_append.mp hc).elim (hu.2 c) (hv.2 c)⟩
theorem tw_ok.one {c : Nat} (h : 1 ≤ c ∧ c < 16) : tw_ok [c] := ⟨by simp, fun d hd => by rw [List.mem_singleton.mp hd]; exact h⟩
theorem tw_L0 {w : List Nat} (h : tw_ok w) : tw_L w = 0 ↔ w = [] := by
  rw [← tw_enc_0 (fun c hc => (h.2 c hc).1)]
  have h1 := h.lt
  exact pk_lEQ (a := tw_enc w) (b := 0) (by omega) (by decide)
theorem tw_Le {u v : List Nat} (hu : tw_ok u) (hv : tw_ok v) : tw_L u = tw_L v ↔ u = v := by
  have h1 := hu.lt
  have h2 := hv.lt
  constructor
  · intro e
    exact tw_enc_inj u v hu.2 hv.2 ((pk_lEQ (by omega) (by omega)).mp e)
  · intro e
    rw [e]
theorem tw_Lnil : (0 : Int64) = tw_L [] := rfl
/-- term >>> (4 * place) -/
theorem tw_ushr {w : List Nat} (h : tw_ok w) {k : Nat} (hk : k < 16) : ((tw_L w).toUInt64 >>> ((zI (4 * (k : Int))).toInt64.toUInt64 &&& Int64.toUInt64 63)).toInt64 = tw_L (w.drop k) := by
  have h1 := h.lt
  have e : zI (4 * (k : Int)) = nI (4 * k) := by rw [← zI_nat]; exact zI_c (by omega)
  rw [e]
  unfold tw_L
  rw [wb_shr (by omega) (by omega), tw_pow, tw_enc_drop k w (fun c hc => (h.2 c hc).2)]
/-- the lowest code -/
theorem tw_low {w : List Nat} (h : tw_ok w) (k : Nat) : (tw_L (w.drop k)).toInt32 &&& zI 15 = zI ((w.getD k 0 : Nat) : Int) := by
  unfold tw_L
  rw [lN_i, pk_and (nI _) (m := zI 15) 4 (by decide), zI_nat, ← tw_get (fun c hc => (h.2 c hc).2) k]
  have h1 := (h.drop k).lt
  congr 1
  show (nI (tw_enc (w.drop k))).toBitVec.toNat % 16 = _
  have e : (nI (tw_enc (w.drop k))).toBitVec.toNat = tw_enc (w.drop k) % 2 ^ 32 := by
    show (BitVec.ofNat 32 _).toNat = _
    rw [BitVec.toNat_ofNat]
  rw [e]
  omega
theorem tw_getD_le {w : List Nat} (h : tw_ok w) (k : Nat) : w.getD k 0 < 16 := by
  rw [← tw_get (fun c hc => (h.2 c hc).2) k]
  omega
/-- (1L << (4 * k)) - 1 as a mask -/
theorem tw_mask {w : List Nat} (h : tw_ok w) {k : Nat} (hk : k < 16) : tw_L w &&& (((1 : Int64) <<< ((zI (4 * (k : Int))).toInt64 &&& 63)) - 1) = tw_L (w.take k) := by
  have h1 := h.lt
  have e : zI (4 * (k : Int)) = nI (4 * k) := by rw [← zI_nat]; exact zI_c (by omega)
  have e2 : ((1 : Int64) <<< ((nI (4 * k)).toInt64 &&& 63)) - 1 = lN (2 ^ (4 * k) - 1) := by
    rw [show (1 : Int64) = lN 1 from rfl, wb_shl 1 (by omega), Nat.one_mul, lN_sub (Nat.one_le_two_pow)]
  rw [e, e2]
  unfold tw_L
  rw [wb_mask (by omega) (by omega), tw_pow, tw_enc_take (fun c hc => (h.2 c hc).2) k]
/-- head | tail << (4 * size) -/
theorem tw_join {u v : List Nat} (hu : tw_ok u) (hv : tw_ok v) (h : u.length + v.length ≤ 12) : tw_L u ||| (tw_L v <<< ((zI (4 * ((u.length : Nat) : Int))).toInt64 &&& 63)) = tw_L (u ++ v) := by
  have h1 := (hu.app hv h).lt
  have h3 := tw_enc_lt (fun c hc => (hu.2 c hc).2)
  have hu1 := hu.1
  have e : zI (4 * ((u.length : Nat) : Int)) = nI (4 * u.length) := by rw [← zI_nat]; exact zI_c (by omega)
  rw [e]
  unfold tw_L
  rw [wb_shl _ (by omega), tw_enc_app] at *
  rw [tw_pow, Nat.mul_comm (tw_enc v)] 
  have h4 : tw_enc u < 2 ^ (4 * u.length) := by rw [tw_pow]; exact h3
  rw [wb_or (by omega) (by omega), Nat.or_comm, ← tw_pow, ← Nat.two_pow_add_eq_or_of_lt h4]
  congr 1
  omega
