/-! THE SHELF IS MADE -/
section
variable {B : ab_B}
def cs_h0 : ab_H := (fun _ _ => 0, fun _ _ => none, fun _ _ => 0, [], 0, 0)
def cs_hA : ab_H := cs_k2 (ab_new cs_h0 5 13)
theorem cs_hA_L : cs_L cs_hA := ⟨⟨rfl, rfl, rfl, rfl, rfl, rfl, rfl, rfl, rfl, rfl, rfl, rfl, rfl, rfl, rfl, rfl, rfl, rfl⟩, ⟨rfl, rfl, rfl, rfl, rfl, rfl, rfl, rfl, rfl, rfl, rfl, rfl, rfl, rfl, rfl, rfl, rfl⟩⟩
theorem cs_hA_z (c : Nat) (x : Int) (hc : (2 ≤ c ∧ c ≤ 6) ∨ (11 ≤ c ∧ c ≤ 17)) : ab_gi cs_hA c x = 0 := by
  have h : c = 2 ∨ c = 3 ∨ c = 4 ∨ c = 5 ∨ c = 6 ∨ c = 11 ∨ c = 12 ∨ c = 13 ∨ c = 14 ∨ c = 15 ∨ c = 16 ∨ c = 17 := by omega
  rcases h with h | h | h | h | h | h | h | h | h | h | h | h <;> subst h <;> rfl
theorem cs_hA_k (d : Int) (h1 : 0 ≤ d) (h2 : d < 5) : ab_gi cs_hA 8 d = 10 ∧ ab_gi cs_hA 9 d = 3 ∧ ab_gi cs_hA 10 d = 2 := by
  have h : d = 0 ∨ d = 1 ∨ d = 2 ∨ d = 3 ∨ d = 4 := by omega
  rcases h with h | h | h | h | h <;> subst h <;> exact ⟨rfl, rfl, rfl⟩
theorem cs_hA_7 : ab_gi cs_hA 7 0 = 30 ∧ ab_gi cs_hA 7 1 = 0 ∧ ab_gi cs_hA 7 6 = -1 ∧ ab_gi cs_hA 7 12 = 0 := ⟨rfl, rfl, rfl, rfl⟩
theorem m92 {dd : Nat} {h : ab_H} (hL : cs_L h) : ab_E B dd 92 0 [some (.inr (.inr (some 0)))] [] h = some (.inl none, ab_si (ab_si (ab_si h 0 3 (-1)) 0 4 (-1)) 0 5 (-1)) := by
  simp (disch := omega) only [e92_0, e92_1, e92_2, e92_5, e92_6, e92_7, e92_10, e92_11, e92_12, e92_15, Option.isSome_some, ab_bvh_some, ab_bvh_thr, ab_ge, ab_lt, ab_le, ab_gt, ab_eq, ab_ne, decide_eq_true_eq, ab_w_id, ab_w0, ab_gd_some, ab_gs_0, ab_gs_1, ab_gl_0, ab_gl_1, ab_bv_some, ab_bu_some, ab_bv_thr, ab_bu_thr, ab_fx_n, ab_fx_i, ab_fx_q, ab_fx_l, ab_sh_si, ab_gr_si, ab_gl_si, cs_n, ↓reduceIte, true_or, or_true, false_or, or_false, and_true, true_and, and_false, false_and, not_true_eq_false, not_false_eq_true, eq_self, Int.reduceEq, Int.reduceLT, Int.reduceLE, Int.reduceAdd, Int.reduceMul, Int.reduceNeg, if_pos, if_neg, hL.1, hL.2]
/-- what the object's own fields are -/
def cs_O (h : ab_H) (on nb nv ns : Int) : Prop := ab_gi h 0 2 = on ∧ ab_gi h 0 3 = nb ∧ ab_gi h 0 4 = nv ∧ ab_gi h 0 5 = ns
theorem cz_R_0 {h : ab_H} (hz : ∀ c x, (11 ≤ c ∧ c ≤ 16) → ab_gi h c x = 0) (h1 : ab_gi h 7 6 = -1) (h2 : ab_gi h 7 12 = 0) : cz_R h cz_z0 := by
  have rp : ∀ (n : Nat) (t : Int), cz_g (List.replicate n 0) t = 0 := fun n t => by
    unfold cz_g
    rw [List.getD_eq_getElem?_getD, List.getElem?_replicate]
    split <;> rfl
  refine ⟨⟨rfl, rfl, rfl, rfl, rfl⟩, fun t _ _ => ?_, h2, fun t _ _ => ?_, fun t _ _ => ?_, fun t _ _ => ?_, fun t _ _ => ?_, h1⟩
  all_goals (rw [hz _ _ (by omega)]; exact (rp _ _).symm)
/-- the plan that is found -/
def cz_pl (D d : Int) : Int := if D = 3 then 0 else if d = 3 then 3 else if d = 4 ∧ D = 5 then 3 else 0
theorem cz_mk_some {D : Int} (hD : 3 ≤ D) (hD5 : D ≤ 5) : ∃ x, cz_mk D cz_z0 = some x ∧ x.2.2.2.2.2.2 = (if D = 3 then 3 else 6) ∧ ∀ d, 0 ≤ d → d < 5 → cz_g x.2.2.2.2.2.1 d = cz_pl D d := by
  have hc : D = 3 ∨ D = 4 ∨ D = 5 := by omega
  have key : ∀ (l : List Int) (e : Int), (cz_mk D cz_z0).map (fun x => (x.2.2.2.2.2.1, x.2.2.2.2.2.2)) = some (l, e) → ∃ x, cz_mk D cz_z0 = some x ∧ x.2.2.2.2.2.1 = l ∧ x.2.2.2.2.2.2 = e := fun l e h => by
    cases hx : cz_mk D cz_z0 with
    | none => rw [hx] at h; cases h
    | some x => rw [hx] at h; cases h; exact ⟨x, rfl, rfl, rfl⟩
  rcases hc with c | c | c <;> subst c
  · obtain ⟨x, e1, e2, e3⟩ := key _ _ cz_ev3
    refine ⟨x, e1, e3, fun d d1 d2 => ?_⟩
    rw [e2]
    have h : d = 0 ∨ d = 1 ∨ d = 2 ∨ d = 3 ∨ d = 4 := by omega
    rcases h with h | h | h | h | h <;> subst h <;> rfl
  · obtain ⟨x, e1, e2, e3⟩ := key _ _ cz_ev4
    refine ⟨x, e1, e3, fun d d1 d2 => ?_⟩
    rw [e2]
    have h : d = 0 ∨ d = 1 ∨ d = 2 ∨ d = 3 ∨ d = 4 := by omega
    rcases h with h | h | h | h | h <;> subst h <;> rfl
  · obtain ⟨x, e1, e2, e3⟩ := key _ _ cz_ev5
    refine ⟨x, e1, e3, fun d d1 d2 => ?_⟩
    rw [e2]
    have h : d = 0 ∨ d = 1 ∨ d = 2 ∨ d = 3 ∨ d = 4 := by omega
    rcases h with h | h | h | h | h <;> subst h <;> rfl
/-- the starts as a shelf of D disks has them -/
def cs_Y (D : Int) (h : ab_H) : Prop := cz_K h D ∧ ab_gi h 7 6 = (if D = 3 then 3 else 6) ∧ (∀ d, 0 ≤ d → d < 5 → ab_gi h 11 d = cz_pl D d) ∧ (∀ d, 0 ≤ d → d < 5 → -1 ≤ ab_gi h 17 d ∧ ab_gi h 17 d ≤ 1000)
theorem m37 {e : Nat} {D : Int} {h : ab_H} (hD : 3 ≤ D) (hD5 : D ≤ 5) (hK : cz_K (ab_si h 7 2 D) D) (r : cz_R h cz_z0) (h17 : ∀ d, 0 ≤ d → d < 5 → -1 ≤ ab_gi h 17 d ∧ ab_gi h 17 d ≤ 1000) :
    ∃ h', ab_E B (e + 16) 37 0 [some (.inr (.inr (some 7))), some (.inl D)] [] h = some (.inl none, h') ∧ cs_Y D h' ∧ cz_F (ab_si h 7 2 D) h' := by
  have hL : cs_L h := hK.1.1
  have r1 : cz_R (ab_si h 7 2 D) cz_z0 := by
    obtain ⟨l, a1, a2, a3, a4, a5, a6, a7⟩ := r
    exact ⟨l, fun d q1 q2 => by rw [ab_gi_si, if_neg (by simp)]; exact a1 d q1 q2, by rw [ab_gi_si, if_neg (by simp)]; exact a2, fun d q1 q2 => by rw [ab_gi_si, if_neg (by simp)]; exact a3 d q1 q2, fun d q1 q2 => by rw [ab_gi_si, if_neg (by simp)]; exact a4 d q1 q2, fun d q1 q2 => by rw [ab_gi_si, if_neg (by simp)]; exact a5 d q1 q2, fun d q1 q2 => by rw [ab_gi_si, if_neg (by simp)]; exact a6 d q1 q2, by rw [ab_gi_si, if_neg (by simp)]; exact a7⟩
  obtain ⟨x, e1, e2, e3⟩ := cz_mk_some hD hD5
  obtain ⟨h', a, r', f⟩ := m52 (B := B) (e := e) hD hD5 hK r1 e1
  refine ⟨h', ?_, ⟨f.K hK, r'.2.2.2.2.2.2.2.trans e2, fun d d1 d2 => (r'.2.2.2.2.2.2.1 d d1 d2).trans (e3 d d1 d2), fun d d1 d2 => ?_⟩, f⟩
  · simp (disch := omega) only [e37_0, e37_1, e37_2, e37_5, e37_6, e37_9, Option.isSome_some, ab_bvh_some, ab_bvh_thr, ab_ge, ab_lt, ab_le, ab_gt, ab_eq, ab_ne, decide_eq_true_eq, ab_w_id, ab_w0, ab_gd_some, ab_gs_0, ab_gs_1, ab_gl_0, ab_gl_1, ab_bv_some, ab_bu_some, ab_bv_thr, ab_bu_thr, ab_fx_n, ab_fx_i, ab_fx_q, ab_fx_l, ab_sh_si, ab_gr_si, ab_gl_si, cs_n, ↓reduceIte, true_or, or_true, false_or, or_false, and_true, true_and, and_false, false_and, not_true_eq_false, not_false_eq_true, eq_self, Int.reduceEq, Int.reduceLT, Int.reduceLE, Int.reduceAdd, Int.reduceMul, Int.reduceNeg, if_pos, if_neg, hL.1, hL.2, a]
  · rw [f.2 17 d (by omega) (by simp), ab_gi_si, if_neg (by simp)]; exact h17 d d1 d2
end
