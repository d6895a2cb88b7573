/-! whole terms among the words -/
def tw_code (c : Nat) : Prop := (1 ≤ c ∧ c ≤ 6) ∨ (11 ≤ c ∧ c < 15)
/-- what is left behind so many terms -/
def tw_m : List Nat → Nat → Option (List Nat)
  | [], m => if m = 0 then some [] else none
  | c :: w, m => if m = 0 then some (c :: w) else tw_m w (m - 1 + tw_parts c)
theorem tw_m_0 (w : List Nat) : tw_m w 0 = some w := by
  cases w with
  | nil => rfl
  | cons c w => rw [tw_m, if_pos rfl]
theorem tw_m_s (c : Nat) (w : List Nat) (m : Nat) : tw_m (c :: w) (m + 1) = tw_m w (m + tw_parts c) := by
  rw [tw_m, if_neg (by omega), Nat.add_sub_cancel]
theorem tw_m_n (m : Nat) : tw_m [] (m + 1) = none := by rw [tw_m, if_neg (by omega)]
theorem tw_m_add : ∀ (w : List Nat) (a b : Nat), tw_m w (a + b) = (tw_m w a).bind (fun r => tw_m r b)
  | w, 0, b => by rw [Nat.zero_add, tw_m_0]; rfl
  | [], a + 1, b => by rw [show a + 1 + b = (a + b) + 1 by omega, tw_m_n, tw_m_n]; rfl
  | c :: w, a + 1, b => by
    rw [show a + 1 + b = (a + b) + 1 by omega, tw_m_s, tw_m_s, show a + b + tw_parts c = (a + tw_parts c) + b by omega, tw_m_add w]
theorem tw_m_split : ∀ (w : List Nat) (m : Nat) (r : List Nat), tw_m w m = some r → ∃ u, w = u ++ r ∧ tw_m u m = some []
  | w, 0, r, h => by
    rw [tw_m_0] at h
    cases h
    exact ⟨[], rfl, rfl⟩
  | [], m + 1, r, h => by rw [tw_m_n] at h; cases h
  | c :: w, m + 1, r, h => by
    rw [tw_m_s] at h
    obtain ⟨u, h1, h2⟩ := tw_m_split w _ r h
    exact ⟨c :: u, by rw [h1]; rfl, by rw [tw_m_s]; exact h2⟩
theorem tw_m_app : ∀ (u : List Nat) (m : Nat) (r v : List Nat), tw_m u m = some r → tw_m (u ++ v) m = some (r ++ v)
  | u, 0, r, v, h => by
    rw [tw_m_0] at h
    cases h
    exact tw_m_0 _
  | [], m + 1, r, v, h => by rw [tw_m_n] at h; cases h
  | c :: u, m + 1, r, v, h => by
    rw [tw_m_s] at h
    rw [List.cons_append, tw_m_s]
    exact tw_m_app u _ r v h
theorem tw_m_len : ∀ (w : List Nat) (m : Nat) (r : List Nat), tw_m w m = some r → r.length + m ≤ w.length
  | w, 0, r, h => by
    rw [tw_m_0] at h
    cases h
    exact Nat.le_refl _
  | [], m + 1, r, h => by rw [tw_m_n] at h; cases h
  | c :: w, m + 1, r, h => by
    rw [tw_m_s] at h
    have := tw_m_len w _ r h
    rw [List.length_cons]
    omega
/-- a TERM: a whole word of at most twelve codes -/
def tw_wf (w : List Nat) : Prop := w.length ≤ 12 ∧ (∀ c ∈ w, tw_code c) ∧ tw_m w 1 = some []
theorem tw_wf.ok {w : List Nat} (h : tw_wf w) : tw_ok w := ⟨h.1, fun c hc => by have := h.2.1 c hc; unfold tw_code at this; omega⟩
theorem tw_wf.pos {w : List Nat} (h : tw_wf w) : 0 < w.length := by
  have := tw_m_len w 1 [] h.2.2
  rw [List.length_nil] at this
  omega
theorem tw_wf.one {c : Nat} (h : tw_code c) (h0 : tw_parts c = 0) : tw_wf [c] := ⟨by simp, fun d hd => by rw [List.mem_singleton.mp hd]; exact h, by rw [tw_m_s, h0]; rfl⟩
theorem tw_getD_cons (c : Nat) (w : List Nat) (k : Nat) : (c :: w).getD (k + 1) 0 = w.getD k 0 := rfl
theorem tw_getD_drop (w : List Nat) (k j : Nat) : (w.drop k).getD j 0 = w.getD (k + j) 0 := by
  rw [List.getD_eq_getElem?_getD, List.getD_eq_getElem?_getD, List.getElem?_drop]
/-- the machine's search for an end is the parse -/
theorem tw_go_m {w : List Nat} (hw : w.length ≤ 12) : ∀ (f e m : Nat) (r : List Nat), f = 12 - e → e ≤ w.length → tw_m (w.drop e) m = some r → tw_go w f e m = w.length - r.length
  | f, e, 0, r, hf, he, h => by
    rw [tw_m_0] at h
    cases h
    rw [tw_go_0, List.length_drop]
    omega
  | 0, e, m + 1, r, hf, he, h => by
    have := tw_m_len _ _ _ h
    rw [List.length_drop] at this
    omega
  | f + 1, e, m + 1, r, hf, he, h => by
    have hl := tw_m_len _ _ _ h
    rw [List.length_drop] at hl
    have hlt : e < w.length := by omega
    rw [List.drop_eq_getElem_cons hlt, tw_m_s] at h
    rw [tw_go, if_neg (by omega)]
    have e1 : w.getD e 0 = w[e] := by rw [List.getD_eq_getElem?_getD, List.getElem?_eq_getElem hlt]; rfl
    rw [e1, show m + 1 + tw_parts w[e] - 1 = m + tw_parts w[e] by omega]
    exact tw_go_m hw f (e + 1) _ r (by omega) hlt h
/-- behind every place of a parse there is a whole term -/
theorem tw_m_at : ∀ (w : List Nat) (m : Nat), tw_m w m = some [] → ∀ p, p < w.length → ∃ r, tw_m (w.drop p) 1 = some r
  | [], m, _, p, hp => absurd hp (Nat.not_lt_zero p)
  | c :: w, 0, h, p, hp => by rw [tw_m_0] at h; cases h
  | c :: w, m + 1, h, 0, hp => by
    rw [Nat.add_comm, tw_m_add] at h
    rw [List.drop_zero]
    cases h1 : tw_m (c :: w) 1 with
    | none => rw [h1] at h; cases h
    | some r => exact ⟨r, rfl⟩
  | c :: w, m + 1, h, p + 1, hp => by
    rw [tw_m_s] at h
    exact tw_m_at w _ h p (Nat.lt_of_succ_lt_succ hp)
/-- the part at a place: what is ahead of it, it, what is behind it -/
theorem tw_wf.at {w : List Nat} (h : tw_wf w) {p : Nat} (hp : p < w.length) : ∃ a u b, w = a ++ u ++ b ∧ a.length = p ∧ tw_wf u ∧ tw_end w p = p + u.length := by
  obtain ⟨r, hr⟩ := tw_m_at w 1 h.2.2 p hp
  obtain ⟨u, h1, h2⟩ := tw_m_split _ _ _ hr
  have hg := tw_go_m h.1 (12 - p) p 1 r rfl (Nat.le_of_lt hp) hr
  have e : w = w.take p ++ u ++ r := by rw [List.append_assoc, ← h1, List.take_append_drop]
  have hlen : (w.drop p).length = u.length + r.length := by rw [h1, List.length_append]
  rw [List.length_drop] at hlen
  refine ⟨w.take p, u, r, e, by rw [List.length_take]; omega, ⟨?_, fun c hc => h.2.1 c ?_, h2⟩, ?_⟩
  · have := h.1
    omega
  · rw [e]
    exact List.mem_append_left _ (List.mem_append_right _ hc)
  · show tw_go w (12 - p) p 1 = _
    rw [hg]
    omega
/-- what a TERM looks like -/
theorem tw_wf.cases {w : List Nat} (h : tw_wf w) : (∃ c, tw_code c ∧ tw_parts c = 0 ∧ w = [c]) ∨ (∃ c u, tw_code c ∧ tw_parts c = 1 ∧ tw_wf u ∧ w = c :: u ∧ tw_end w 1 = w.length) ∨ (∃ c u v, tw_code c ∧ tw_parts c = 2 ∧ tw_wf u ∧ tw_wf v ∧ w = c :: (u ++ v) ∧ tw_end w 1 = 1 + u.length) := by
  have h0 := h.pos
  cases w with
  | nil => exact absurd h0 (Nat.lt_irrefl 0)
  | cons c w =>
    have hc := h.2.1 c List.mem_cons_self
    have hm : tw_m w (0 + tw_parts c) = some [] := by rw [← tw_m_s]; exact h.2.2
    rw [Nat.zero_add] at hm
    have h12 : w.length + 1 ≤ 12 := h.1
    have hcs : ∀ d ∈ w, tw_code d := fun d hd => h.2.1 d (List.mem_cons_of_mem _ hd)
    have hp := tw_parts_le c
    rcases (show tw_parts c = 0 ∨ tw_parts c = 1 ∨ tw_parts c = 2 by omega) with q | q | q
    · rw [q, tw_m_0] at hm
      cases hm
      exact Or.inl ⟨c, hc, q, rfl⟩
    · rw [q] at hm
      have hw : tw_wf w := ⟨by omega, hcs, hm⟩
      refine Or.inr (Or.inl ⟨c, w, hc, q, hw, rfl, ?_⟩)
      have hg := tw_go_m h.1 (12 - 1) 1 1 [] rfl (by rw [List.length_cons]; omega) hm
      exact hg
    · rw [q, tw_m_add w 1 1] at hm
      cases h1 : tw_m w 1 with
      | none => rw [h1] at hm; cases hm
      | some r =>
        rw [h1] at hm
        have hm2 : tw_m r 1 = some [] := hm
        obtain ⟨u, e1, e2⟩ := tw_m_split _ _ _ h1
        have hl : w.length = u.length + r.length := by rw [e1, List.length_append]
        refine Or.inr (Or.inr ⟨c, u, r, hc, q, ⟨by omega, fun d hd => hcs d (by rw [e1]; exact List.mem_append_left _ hd), e2⟩, ⟨by omega, fun d hd => hcs d (by rw [e1]; exact List.mem_append_right _ hd), hm2⟩, by rw [e1], ?_⟩)
        have hg := tw_go_m h.1 (12 - 1) 1 1 r rfl (by rw [List.length_cons]; omega) h1
        have hg2 : tw_end (c :: w) 1 = (c :: w).length - r.length := hg
        rw [hg2, List.length_cons]
        omega
/-- two whole words at the head of the same word are the same -/
theorem tw_m_head {u v a b : List Nat} {m : Nat} (hu : tw_m u m = some []) (hv : tw_m v m = some []) (e : u ++ a = v ++ b) : u = v ∧ a = b := by
  have h1 := tw_m_app u m [] a hu
  have h2 := tw_m_app v m [] b hv
  rw [e, h2] at h1
  have h3 : b = a := Option.some.inj h1
  subst h3
  exact ⟨List.append_cancel_right e, rfl⟩
