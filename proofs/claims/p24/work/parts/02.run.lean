set_option linter.all false
/-! THE RUN of a program of the abstract machine: 'ab_st' says what a place does; calls at most d deep -/
section
variable (st : Nat → Nat → ab_O)
def ab_run : Nat → Nat → Nat → Nat → ab_M → List ab_V → ab_H → Option ab_T
  | 0, _, _, _, _, _, _ => none
  | n + 1, d, M, pc, loc, stk, h => match st M pc loc stk h with
    | .inl r => r
    | .inr (.inl (pc', loc', stk', h')) => ab_run n d M pc' loc' stk' h'
    | .inr (.inr ((M', loc', h'), k)) => match d with
      | 0 => none
      | d + 1 => match ab_run n d M' 0 loc' [] h' with
        | none => none
        | some r => match k r with
          | none => none
          | some (.inl r') => some r'
          | some (.inr (pc', loc2, stk2, h2)) => ab_run n (d + 1) M pc' loc2 stk2 h2
theorem ab_run_mono : ∀ (n d M pc : Nat) (loc : ab_M) (stk : List ab_V) (h : ab_H) (r : ab_T), ab_run st n d M pc loc stk h = some r → ab_run st (n + 1) d M pc loc stk h = some r := by
  intro n
  induction n with
  | zero => intro d M pc loc stk h r hr; simp [ab_run] at hr
  | succ n ih =>
    intro d M pc loc stk h r hr
    rw [ab_run] at hr ⊢
    split at hr <;> rename_i heq
    · exact hr
    · exact ih _ _ _ _ _ _ _ hr
    · cases d with
      | zero => simp at hr
      | succ d =>
        simp only at hr ⊢
        split at hr
        · cases hr
        · rename_i r1 h1
          rw [ih _ _ _ _ _ _ _ h1]
          simp only
          split at hr
          · cases hr
          · exact hr
          · exact ih _ _ _ _ _ _ _ hr
theorem ab_run_le {n n' d M pc : Nat} {loc : ab_M} {stk : List ab_V} {h : ab_H} {r : ab_T} (hr : ab_run st n d M pc loc stk h = some r) (hn : n ≤ n') : ab_run st n' d M pc loc stk h = some r := by
  obtain ⟨k, rfl⟩ := Nat.exists_eq_add_of_le hn
  induction k with
  | zero => exact hr
  | succ k ih => exact ab_run_mono st _ _ _ _ _ _ _ _ (ih (by omega))
noncomputable def ab_ev (d M pc : Nat) (loc : ab_M) (stk : List ab_V) (h : ab_H) : Option ab_T :=
  @dite (Option ab_T) (∃ (n : Nat) (r : ab_T), ab_run st n d M pc loc stk h = some r) (Classical.propDecidable _) (fun hx => some (Classical.choose (Classical.choose_spec hx))) (fun _ => none)
theorem ab_ev_of {n d M pc : Nat} {loc : ab_M} {stk : List ab_V} {h : ab_H} {r : ab_T} (hr : ab_run st n d M pc loc stk h = some r) : ab_ev st d M pc loc stk h = some r := by
  have hx : ∃ (n : Nat) (r : ab_T), ab_run st n d M pc loc stk h = some r := ⟨n, r, hr⟩
  unfold ab_ev
  rw [dif_pos hx]
  have h1 := Classical.choose_spec (Classical.choose_spec hx)
  have h2 := ab_run_le st h1 (Nat.le_max_left (Classical.choose hx) n)
  have h3 := ab_run_le st hr (Nat.le_max_right (Classical.choose hx) n)
  rw [h2] at h3
  exact h3
theorem ab_of_ev {d M pc : Nat} {loc : ab_M} {stk : List ab_V} {h : ab_H} {r : ab_T} (hr : ab_ev st d M pc loc stk h = some r) : ∃ n : Nat, ab_run st n d M pc loc stk h = some r := by
  unfold ab_ev at hr
  by_cases hx : ∃ (n : Nat) (r : ab_T), ab_run st n d M pc loc stk h = some r
  · rw [dif_pos hx] at hr
    have h1 := Classical.choose_spec (Classical.choose_spec hx)
    cases hr
    exact ⟨_, h1⟩
  · rw [dif_neg hx] at hr
    cases hr
/-- what a result of a call becomes in the caller -/
noncomputable def ab_go (d M : Nat) (k : ab_T → Option (ab_T ⊕ ab_S)) (r : Option ab_T) : Option ab_T := match r with
  | none => none
  | some r => match k r with
    | none => none
    | some (.inl r') => some r'
    | some (.inr (pc, loc, stk, h)) => ab_ev st d M pc loc stk h
theorem ab_ev_done {d M pc : Nat} {loc : ab_M} {stk : List ab_V} {h : ab_H} {r : Option ab_T} (hs : st M pc loc stk h = .inl r) : ab_ev st d M pc loc stk h = r := by
  cases r with
  | some r => exact ab_ev_of st (n := 1) (by rw [ab_run, hs])
  | none =>
    cases hx : ab_ev st d M pc loc stk h with
    | none => rfl
    | some r =>
      obtain ⟨n, hn⟩ := ab_of_ev st hx
      cases n with
      | zero => simp [ab_run] at hn
      | succ n => rw [ab_run, hs] at hn; cases hn
theorem ab_ev_jump {d M pc pc' : Nat} {loc loc' : ab_M} {stk stk' : List ab_V} {h h' : ab_H} (hs : st M pc loc stk h = ab_j pc' loc' stk' h') : ab_ev st d M pc loc stk h = ab_ev st d M pc' loc' stk' h' := by
  apply Option.ext
  intro r
  constructor
  · intro hx
    obtain ⟨n, hn⟩ := ab_of_ev st hx
    cases n with
    | zero => simp [ab_run] at hn
    | succ n => rw [ab_run, hs] at hn; exact ab_ev_of st hn
  · intro hx
    obtain ⟨n, hn⟩ := ab_of_ev st hx
    exact ab_ev_of st (n := n + 1) (by rw [ab_run, hs]; exact hn)
theorem ab_ev_call {d M pc M' : Nat} {loc loc' : ab_M} {stk : List ab_V} {h h' : ab_H} {k : ab_T → Option (ab_T ⊕ ab_S)} (hs : st M pc loc stk h = .inr (.inr ((M', loc', h'), k))) : ab_ev st (d + 1) M pc loc stk h = ab_go st (d + 1) M k (ab_ev st d M' 0 loc' [] h') := by
  apply Option.ext
  intro r
  constructor
  · intro hx
    obtain ⟨n, hn⟩ := ab_of_ev st hx
    cases n with
    | zero => simp [ab_run] at hn
    | succ n =>
      rw [ab_run, hs] at hn
      simp only at hn
      split at hn
      · cases hn
      · rename_i r1 h1
        rw [ab_ev_of st h1]
        unfold ab_go
        split at hn
        · cases hn
        · rename_i h2; simp only [h2]; exact hn
        · rename_i h2; simp only [h2]; exact ab_ev_of st hn
  · intro hx
    unfold ab_go at hx
    split at hx
    · cases hx
    · rename_i r1 h1
      obtain ⟨n1, hn1⟩ := ab_of_ev st h1
      split at hx
      · cases hx
      · rename_i h2
        exact ab_ev_of st (n := n1 + 1) (by rw [ab_run, hs]; simp only [hn1, h2]; exact hx)
      · rename_i h2
        obtain ⟨n2, hn2⟩ := ab_of_ev st hx
        exact ab_ev_of st (n := max n1 n2 + 1) (by
          rw [ab_run, hs]
          simp only [ab_run_le st hn1 (Nat.le_max_left n1 n2), h2]
          exact ab_run_le st hn2 (Nat.le_max_right n1 n2))
end
