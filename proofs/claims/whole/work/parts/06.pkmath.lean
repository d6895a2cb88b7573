/-! what the methods of Packed answer, on words -/
def tw_parts (c : Nat) : Nat := if c = 3 ∨ c = 4 then 1 else if c = 5 ∨ c = 6 then 2 else 0
theorem tw_parts_le (c : Nat) : tw_parts c ≤ 2 := by
  unfold tw_parts
  split
  · decide
  · split <;> decide
/-- the place behind the terms that are still missing, from a place on, with so many places to go -/
def tw_go (w : List Nat) : Nat → Nat → Nat → Nat
  | 0, e, _ => e
  | f + 1, e, m => if m = 0 then e else tw_go w f (e + 1) (m + tw_parts (w.getD e 0) - 1)
def tw_end (w : List Nat) (p : Nat) : Nat := tw_go w (12 - p) p 1
theorem tw_go_le (w : List Nat) : ∀ (f e m : Nat), tw_go w f e m ≤ e + f
  | 0, e, _ => Nat.le_refl e
  | f + 1, e, m => by
    unfold tw_go
    split
    · omega
    · have := tw_go_le w f (e + 1) (m + tw_parts (w.getD e 0) - 1)
      omega
theorem tw_go_ge (w : List Nat) : ∀ (f e m : Nat), e ≤ tw_go w f e m
  | 0, e, _ => Nat.le_refl e
  | f + 1, e, m => by
    unfold tw_go
    split
    · omega
    · have := tw_go_ge w f (e + 1) (m + tw_parts (w.getD e 0) - 1)
      omega
theorem tw_end_le (w : List Nat) {p : Nat} (h : p ≤ 12) : tw_end w p ≤ 12 := by
  have := tw_go_le w (12 - p) p 1
  unfold tw_end
  omega
theorem tw_end_ge (w : List Nat) (p : Nat) : p ≤ tw_end w p := tw_go_ge w (12 - p) p 1
theorem tw_end_gt (w : List Nat) {p : Nat} (h : p < 12) : p < tw_end w p := by
  unfold tw_end
  rw [show 12 - p = (11 - p) + 1 by omega]
  unfold tw_go
  rw [if_neg (by decide)]
  have := tw_go_ge w (11 - p) (p + 1) (1 + tw_parts (w.getD p 0) - 1)
  omega
theorem tw_go_0 (w : List Nat) (f e : Nat) : tw_go w f e 0 = e := by
  cases f with
  | zero => rfl
  | succ f => rw [tw_go, if_pos rfl]
theorem tw_go_s (w : List Nat) {e m : Nat} (he : e < 12) (hm : 0 < m) : tw_go w (12 - e) e m = tw_go w (12 - (e + 1)) (e + 1) (m + tw_parts (w.getD e 0) - 1) := by
  rw [show 12 - e = (12 - (e + 1)) + 1 by omega, tw_go, if_neg (by omega)]
/-- how often a code stands in the first places -/
theorem tw_cnt {w : List Nat} {c : Nat} (hc : 1 ≤ c) (k : Nat) : (w.take (k + 1)).count c = (w.take k).count c + (if w.getD k 0 = c then 1 else 0) := by
  rcases Nat.lt_or_ge k w.length with hk | hk
  · rw [List.take_succ_eq_append_getElem hk, List.count_append, List.getD_eq_getElem?_getD, List.getElem?_eq_getElem hk]
    show _ + [w[k]].count c = _ + (if w[k] = c then 1 else 0)
    rw [List.count_singleton]
    by_cases h : w[k] = c
    · rw [if_pos h, if_pos (by rw [h]; simp)]
    · rw [if_neg h, if_neg (by simp [h])]
  · rw [List.take_of_length_le hk, List.take_of_length_le (by omega), List.getD_eq_getElem?_getD, List.getElem?_eq_none hk]
    show _ = _ + (if (0 : Nat) = c then 1 else 0)
    rw [if_neg (by omega), Nat.add_zero]
/-- how many of the first variables stand in it -/
def tw_vs (w : List Nat) : Nat → Nat
  | 0 => 0
  | v + 1 => tw_vs w v + (if 0 < w.count (11 + v) then 1 else 0)
theorem tw_vs_le (w : List Nat) : ∀ v, tw_vs w v ≤ v
  | 0 => Nat.le_refl 0
  | v + 1 => by
    have := tw_vs_le w v
    unfold tw_vs
    split <;> omega
/-- no variable is more often in t than in s -/
def tw_hv (s t : List Nat) : Bool := (List.range 4).all (fun v => decide (t.count (11 + v) ≤ s.count (11 + v)))
theorem tw_hv_iff {s t : List Nat} : tw_hv s t = true ↔ ∀ v, v < 4 → t.count (11 + v) ≤ s.count (11 + v) := by
  unfold tw_hv
  rw [List.all_eq_true]
  exact ⟨fun h v hv => of_decide_eq_true (h v (List.mem_range.mpr hv)), fun h v hv => decide_eq_true (h v (List.mem_range.mp hv))⟩
/-- a boolean as a number -/
def zb (b : Bool) : Int := if b then 1 else 0
theorem zb_t {b : Bool} (h : b = true) : zb b = 1 := by rw [h]; rfl
theorem zb_f {b : Bool} (h : ¬ b = true) : zb b = 0 := by
  cases b with
  | false => rfl
  | true => exact absurd rfl h
theorem zb_iff {b : Bool} : zb b = 0 ↔ ¬ b = true := by cases b <;> decide
theorem zb_rng (b : Bool) : 0 ≤ zb b ∧ zb b ≤ 1 := by cases b <;> decide
