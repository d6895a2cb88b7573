/-! which of two TERMS is GREATER, as Packed finds it -/
abbrev tw_P (u : List Nat) : List Nat := (u.drop 1).take (tw_end u 1 - 1)
abbrev tw_S (u : List Nat) (n : Nat) : List Nat := (u.drop (tw_end u 1)).take (n - tw_end u 1)
def tw_gtF : Nat → List Nat → List Nat → Bool
  | 0, _, _ => false
  | f + 1, u, v => if u = v then false else if tw_hv u v = true then
      (if u.length = v.length then
        (if (11 ≤ u.getD 0 0 ∧ u.getD 0 0 < 15) ∨ (11 ≤ v.getD 0 0 ∧ v.getD 0 0 < 15) then false
         else if u.getD 0 0 = v.getD 0 0 then (if tw_P u = tw_P v then tw_gtF f (tw_S u u.length) (tw_S v u.length) else tw_gtF f (tw_P u) (tw_P v))
         else decide (v.getD 0 0 < u.getD 0 0))
       else decide (v.length < u.length))
    else false
def tw_gt (u v : List Nat) : Bool := tw_gtF 12 u v
theorem tw_P2 {c : Nat} {u v : List Nat} (h : tw_end (c :: (u ++ v)) 1 = 1 + u.length) : tw_P (c :: (u ++ v)) = u := by
  show (List.drop 1 (c :: (u ++ v))).take _ = u
  rw [h, show 1 + u.length - 1 = u.length by omega]
  show (u ++ v).take u.length = u
  rw [List.take_left]
theorem tw_S2 {c : Nat} {u v : List Nat} {n : Nat} (h : tw_end (c :: (u ++ v)) 1 = 1 + u.length) (hn : n = 1 + u.length + v.length) : tw_S (c :: (u ++ v)) n = v := by
  show (List.drop _ (c :: (u ++ v))).take _ = v
  rw [h, Nat.add_comm 1 u.length]
  show (List.drop u.length (u ++ v)).take _ = v
  rw [List.drop_left, List.take_of_length_le (by omega)]
theorem tw_P1 {c : Nat} {u : List Nat} (h : tw_end (c :: u) 1 = (c :: u).length) : tw_P (c :: u) = u := by
  show (List.drop 1 (c :: u)).take _ = u
  rw [h]
  show u.take _ = u
  rw [List.take_of_length_le (by rw [List.length_cons]; omega)]
/-- the parts of two TERMS that are not the same, of one SIZE and with one sign -/
theorem tw_gt_step {u v : List Nat} (hu : tw_wf u) (hv : tw_wf v) (hne : ¬ u = v) (hl : u.length = v.length) (hc : u.getD 0 0 = v.getD 0 0) :
    tw_end u 1 ≤ u.length ∧ tw_end v 1 ≤ v.length ∧ 1 ≤ tw_end u 1 ∧ 1 ≤ tw_end v 1 ∧ tw_wf (tw_P u) ∧ tw_wf (tw_P v) ∧
      (tw_P u = tw_P v → tw_wf (tw_S u u.length) ∧ tw_wf (tw_S v u.length)) := by
  rcases hu.cases with ⟨c, -, h0, rfl⟩ | ⟨c, u1, -, h0, h1, rfl, he⟩ | ⟨c, u1, u2, -, h0, h1, h2, rfl, he⟩ <;>
    rcases hv.cases with ⟨d, -, g0, rfl⟩ | ⟨d, v1, -, g0, g1, rfl, ge⟩ | ⟨d, v1, v2, -, g0, g1, g2, rfl, ge⟩
  · have e : c = d := hc
    exact absurd (by rw [e]) hne
  · have e : c = d := hc
    rw [e, g0] at h0
    cases h0
  · have e : c = d := hc
    rw [e, g0] at h0
    cases h0
  · have e : c = d := hc
    rw [e, g0] at h0
    cases h0
  · have e : c = d := hc
    subst e
    refine ⟨Nat.le_of_eq he, Nat.le_of_eq ge, tw_end_ge _ 1, tw_end_ge _ 1, by rw [tw_P1 he]; exact h1, by rw [tw_P1 ge]; exact g1, fun q => ?_⟩
    rw [tw_P1 he, tw_P1 ge] at q
    exact absurd (by rw [q]) hne
  · have e : c = d := hc
    rw [e, g0] at h0
    cases h0
  · have e : c = d := hc
    rw [e, g0] at h0
    cases h0
  · have e : c = d := hc
    rw [e, g0] at h0
    cases h0
  · have l1 : (c :: (u1 ++ u2)).length = 1 + u1.length + u2.length := by rw [List.length_cons, List.length_append]; omega
    have l2 : (d :: (v1 ++ v2)).length = 1 + v1.length + v2.length := by rw [List.length_cons, List.length_append]; omega
    refine ⟨by rw [he, l1]; omega, by rw [ge, l2]; omega, tw_end_ge _ 1, tw_end_ge _ 1, by rw [tw_P2 he]; exact h1, by rw [tw_P2 ge]; exact g1, fun q => ⟨by rw [tw_S2 he l1]; exact h2, by rw [tw_S2 ge (hl.trans l2)]; exact g2⟩⟩
