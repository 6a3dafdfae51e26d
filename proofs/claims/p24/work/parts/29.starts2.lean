set_option linter.all false
/-! THE STARTS: steps of the plan -/
section
variable {B : ab_B}
theorem cs_T_si {h : ab_H} {c : Nat} {k v : Int} (hT : cs_T h) (h1 : c ≠ 8) (h2 : c ≠ 9) (h3 : c ≠ 10) (h4 : c = 7 → k ≠ 0 ∧ k ≠ 1 ∧ k ≠ 2) : cs_T (ab_si h c k v) := by
  obtain ⟨hL, hn, hl, hp, hk⟩ := hT
  have e : ∀ c' k', (c' ≠ c ∨ (c = 7 → k' ≠ k)) → c' ≠ c ∨ c = 7 → ab_gi (ab_si h c k v) c' k' = ab_gi h c' k' := fun c' k' hc hc2 => by
    rw [ab_gi_si]
    by_cases q : c' = c
    · rcases hc2 with z | z
      · exact absurd q z
      · rcases hc with y | y
        · exact absurd q y
        · rw [if_neg (fun x => y z x.2)]
    · rw [if_neg (fun x => q x.1)]
  by_cases h7 : c = 7
  · obtain ⟨a0, a1, a2⟩ := h4 h7
    refine ⟨hL, ?_, ?_, ?_, fun d q1 q2 => ?_⟩
    · rw [e 7 2 (Or.inr (fun _ => Ne.symm a2)) (Or.inr h7)]; exact hn
    · rw [e 7 0 (Or.inr (fun _ => Ne.symm a0)) (Or.inr h7)]; exact hl
    · rw [e 7 1 (Or.inr (fun _ => Ne.symm a1)) (Or.inr h7)]; exact hp
    · rw [e 8 d (Or.inl (Ne.symm h1)) (Or.inl (Ne.symm h1)), e 9 d (Or.inl (Ne.symm h2)) (Or.inl (Ne.symm h2)), e 10 d (Or.inl (Ne.symm h3)) (Or.inl (Ne.symm h3))]; exact hk d q1 q2
  · have h7' : 7 ≠ c := Ne.symm h7
    refine ⟨hL, ?_, ?_, ?_, fun d q1 q2 => ?_⟩
    · rw [e 7 2 (Or.inl h7') (Or.inl h7')]; exact hn
    · rw [e 7 0 (Or.inl h7') (Or.inl h7')]; exact hl
    · rw [e 7 1 (Or.inl h7') (Or.inl h7')]; exact hp
    · rw [e 8 d (Or.inl (Ne.symm h1)) (Or.inl (Ne.symm h1)), e 9 d (Or.inl (Ne.symm h2)) (Or.inl (Ne.symm h2)), e 10 d (Or.inl (Ne.symm h3)) (Or.inl (Ne.symm h3))]; exact hk d q1 q2
/-- the starts by a gap -/
def cs_gw (gap : Int) : ab_H → Int → Int → Nat → ab_H
  | h, _, _, 0 => h
  | h, st, i, k + 1 => cs_gw gap (ab_si h 17 i st) (st + gap) (i + 1) k
theorem cs_gw_gi {gap : Int} {c : Nat} (hc : c ≠ 17) : ∀ (k : Nat) (h : ab_H) (st i x : Int), ab_gi (cs_gw gap h st i k) c x = ab_gi h c x
  | 0, h, st, i, x => rfl
  | k + 1, h, st, i, x => by
    unfold cs_gw
    rw [cs_gw_gi hc k, ab_gi_si, if_neg (fun q => hc q.1)]
theorem cs_gw_T {gap : Int} : ∀ (k : Nat) (h : ab_H) (st i : Int), cs_T h → cs_T (cs_gw gap h st i k)
  | 0, h, st, i, hT => hT
  | k + 1, h, st, i, hT => cs_gw_T k _ _ _ (cs_T_si hT (by decide) (by decide) (by decide) (fun q => absurd q (by decide)))
theorem cs_gw_b {gap : Int} (hg : 0 ≤ gap) (hg2 : gap ≤ 20) : ∀ (k : Nat) (h : ab_H) (st i : Int), 0 ≤ st → st + gap * k ≤ 200 → (∀ d, 0 ≤ d → d < 5 → -1 ≤ ab_gi h 17 d ∧ ab_gi h 17 d ≤ 1000) → ∀ d, 0 ≤ d → d < 5 → -1 ≤ ab_gi (cs_gw gap h st i k) 17 d ∧ ab_gi (cs_gw gap h st i k) 17 d ≤ 1000
  | 0, h, st, i, _, _, hb => hb
  | k + 1, h, st, i, q1, q2, hb => by
    have e : gap * ((k + 1 : Nat) : Int) = gap * (k : Int) + gap := by rw [Int.natCast_add, Int.mul_add]; simp
    have e2 : 0 ≤ gap * (k : Int) := Int.mul_nonneg hg (by omega)
    rw [e] at q2
    refine cs_gw_b hg hg2 k _ _ _ (by omega) (by omega) (fun d d1 d2 => ?_)
    have := hb d d1 d2
    rw [ab_gi_si]
    split <;> omega
theorem m48_loop {dd : Nat} {gap n : Int} (hg : 0 ≤ gap) (hg2 : gap ≤ 20) (hn5 : n ≤ 5) : ∀ (k : Nat) (h : ab_H) (i st la : Int), cs_T h → ab_gi h 7 2 = n → 0 ≤ i → i + k = n →
    ab_E B (dd + 3) 48 7 [some (.inr (.inr (.inl (some 7)))), some (.inl gap), some (.inl st), some (.inl la), some (.inl i)] [] h = ab_E B (dd + 3) 48 42 [some (.inr (.inr (.inl (some 7)))), some (.inl gap), some (.inl (st + gap * k)), some (.inl (if k = 0 then la else st + gap * (k - 1))), some (.inl n)] [] (cs_gw gap h st i k)
  | 0, h, i, st, la, hT, en, q1, q2 => by
    have hL := hT.1
    have e : i = n := by omega
    rw [e48_7]
    simp (disch := omega) only [e48_0, e48_1, e48_2, e48_3, e48_4, e48_5, e48_9, e48_10, e48_13, e48_16, e48_18, e48_19, e48_22, e48_23, e48_26, e48_28, e48_29, e48_30, e48_31, e48_32, e48_33, e48_34, e48_35, e48_36, e48_39, e48_43, e48_44, e48_47, e48_50, e48_53, e48_54, e48_57, e48_58, implies_true, Int.reduceSub, Option.isNone_some, Option.isNone_none, ab_bh_some, ab_bh_thr, ab_gs_3, ab_gl_2, ab_gl_3, ab_gt_some, ab_gc_0, ab_gk_0, Bool.false_eq_true, Bool.true_eq_false, false_implies, Nat.reduceEqDiff, ab_ge, ab_lt, ab_le, ab_gt, ab_eq, ab_ne, decide_eq_true_eq, ab_w_id, ab_w0, ab_gd_some, ab_gs_0, ab_gs_1, ab_gl_0, ab_gl_1, ab_bv_some, ab_bu_some, ab_bv_thr, ab_bu_thr, ab_fx_n, ab_fx_i, ab_fx_q, ab_fx_l, ab_sh_si, ab_gr_si, ab_gl_si, cs_n, ↓reduceIte, true_or, or_true, false_or, or_false, and_true, true_and, and_false, false_and, not_true_eq_false, not_false_eq_true, eq_self, Int.reduceEq, Int.reduceLT, Int.reduceLE, Int.reduceAdd, Int.reduceMul, Int.reduceNeg, if_pos, if_neg, hL.1, hL.2]
    rw [e]
    simp only [cs_gw, Int.natCast_zero, Int.mul_zero, Int.add_zero]
  | k + 1, h, i, st, la, hT, en, q1, q2 => by
    have hL := hT.1
    have e : gap * ((k + 1 : Nat) : Int) = gap + gap * (k : Int) := by rw [Int.natCast_add, Int.mul_add, Int.add_comm]; simp
    rw [e48_7]
    simp (disch := omega) only [e48_0, e48_1, e48_2, e48_3, e48_4, e48_5, e48_9, e48_10, e48_13, e48_16, e48_18, e48_19, e48_22, e48_23, e48_26, e48_28, e48_29, e48_30, e48_31, e48_32, e48_33, e48_34, e48_35, e48_36, e48_39, e48_43, e48_44, e48_47, e48_50, e48_53, e48_54, e48_57, e48_58, implies_true, Int.reduceSub, Option.isNone_some, Option.isNone_none, ab_bh_some, ab_bh_thr, ab_gs_3, ab_gl_2, ab_gl_3, ab_gt_some, ab_gc_0, ab_gk_0, Bool.false_eq_true, Bool.true_eq_false, false_implies, Nat.reduceEqDiff, ab_ge, ab_lt, ab_le, ab_gt, ab_eq, ab_ne, decide_eq_true_eq, ab_w_id, ab_w0, ab_gd_some, ab_gs_0, ab_gs_1, ab_gl_0, ab_gl_1, ab_bv_some, ab_bu_some, ab_bv_thr, ab_bu_thr, ab_fx_n, ab_fx_i, ab_fx_q, ab_fx_l, ab_sh_si, ab_gr_si, ab_gl_si, cs_n, ↓reduceIte, true_or, or_true, false_or, or_false, and_true, true_and, and_false, false_and, not_true_eq_false, not_false_eq_true, eq_self, Int.reduceEq, Int.reduceLT, Int.reduceLE, Int.reduceAdd, Int.reduceMul, Int.reduceNeg, if_pos, if_neg, hL.1, hL.2]
    rw [m48_loop hg hg2 hn5 k _ (i + 1) (st + gap) st (cs_T_si hT (by decide) (by decide) (by decide) (fun q => absurd q (by decide))) (by rw [ab_gi_si, if_neg (by simp)]; exact en) (by omega) (by omega)]
    have e3 : (if k = 0 then st else st + gap + gap * ((k : Int) - 1)) = st + gap * (((k + 1 : Nat) : Int) - 1) := by
      split
      · rename_i c; subst c; simp
      · rw [Int.mul_sub, Int.mul_sub, e]; omega
    rw [e3, e, ← Int.add_assoc]
    rfl
/-- when the last one starts by a gap: NONE if that trips -/
def cs_gap (h : ab_H) (gap : Int) : Int := if cs_tp (cs_gw gap h 0 0 (ab_gi h 7 2).toNat) 17 0 0 100 = 1 then -1 else if (ab_gi h 7 2).toNat = 0 then -1 else 0 + gap * (((ab_gi h 7 2).toNat : Int) - 1)
theorem m48 {dd : Nat} {h : ab_H} {gap : Int} (hT : cs_T h) (hb : ∀ d, 0 ≤ d → d < 5 → -1 ≤ ab_gi h 17 d ∧ ab_gi h 17 d ≤ 1000) (hg : 0 ≤ gap) (hg2 : gap ≤ 20) :
    ab_E B (dd + 3) 48 0 [some (.inr (.inr (.inl (some 7)))), some (.inl gap), none, none, none] [] h = some (.inl (some (.inl (cs_gap h gap))), cs_gw gap h 0 0 (ab_gi h 7 2).toNat) := by
  have hL := hT.1
  have hn := hT.2.1
  have hT2 := cs_gw_T (gap := gap) (ab_gi h 7 2).toNat h 0 0 hT
  have hL2 := hT2.1
  have hb2 := cs_gw_b hg hg2 (ab_gi h 7 2).toNat h 0 0 (by omega) (by
    have : gap * ((ab_gi h 7 2).toNat : Int) ≤ 20 * 5 := Int.mul_le_mul hg2 (by omega) (by omega) (by omega)
    omega) hb
  simp (disch := omega) only [e48_0, e48_1, e48_2, e48_3, e48_4, e48_5, e48_9, e48_10, e48_13, e48_16, e48_18, e48_19, e48_22, e48_23, e48_26, e48_28, e48_29, e48_30, e48_31, e48_32, e48_33, e48_34, e48_35, e48_36, e48_39, e48_42, e48_43, e48_44, e48_47, e48_50, e48_53, e48_54, e48_57, e48_58, implies_true, Int.reduceSub, Option.isNone_some, Option.isNone_none, ab_bh_some, ab_bh_thr, ab_gs_3, ab_gl_2, ab_gl_3, ab_gt_some, ab_gc_0, ab_gk_0, Bool.false_eq_true, Bool.true_eq_false, false_implies, Nat.reduceEqDiff, ab_ge, ab_lt, ab_le, ab_gt, ab_eq, ab_ne, decide_eq_true_eq, ab_w_id, ab_w0, ab_gd_some, ab_gs_0, ab_gs_1, ab_gl_0, ab_gl_1, ab_bv_some, ab_bu_some, ab_bv_thr, ab_bu_thr, ab_fx_n, ab_fx_i, ab_fx_q, ab_fx_l, ab_sh_si, ab_gr_si, ab_gl_si, cs_n, ↓reduceIte, true_or, or_true, false_or, or_false, and_true, true_and, and_false, false_and, not_true_eq_false, not_false_eq_true, eq_self, Int.reduceEq, Int.reduceLT, Int.reduceLE, Int.reduceAdd, Int.reduceMul, Int.reduceNeg, if_pos, if_neg]
  rw [m48_loop hg hg2 hn.2 (ab_gi h 7 2).toNat h 0 0 (-1) hT rfl (by omega) (by omega)]
  unfold cs_gap
  rcases cs_tp01 (cs_gw gap h 0 0 (ab_gi h 7 2).toNat) 17 100 0 0 with q | q <;>
    simp (disch := omega) only [e48_0, e48_1, e48_2, e48_3, e48_4, e48_5, e48_9, e48_10, e48_13, e48_16, e48_18, e48_19, e48_22, e48_23, e48_26, e48_28, e48_29, e48_30, e48_31, e48_32, e48_33, e48_34, e48_35, e48_36, e48_39, e48_42, e48_43, e48_44, e48_47, e48_50, e48_53, e48_54, e48_57, e48_58, implies_true, Int.reduceSub, Option.isNone_some, Option.isNone_none, ab_bh_some, ab_bh_thr, ab_gs_3, ab_gl_2, ab_gl_3, ab_gt_some, ab_gc_0, ab_gk_0, Bool.false_eq_true, Bool.true_eq_false, false_implies, Nat.reduceEqDiff, ab_ge, ab_lt, ab_le, ab_gt, ab_eq, ab_ne, decide_eq_true_eq, ab_w_id, ab_w0, ab_gd_some, ab_gs_0, ab_gs_1, ab_gl_0, ab_gl_1, ab_bv_some, ab_bu_some, ab_bv_thr, ab_bu_thr, ab_fx_n, ab_fx_i, ab_fx_q, ab_fx_l, ab_sh_si, ab_gr_si, ab_gl_si, cs_n, ↓reduceIte, true_or, or_true, false_or, or_false, and_true, true_and, and_false, false_and, not_true_eq_false, not_false_eq_true, eq_self, Int.reduceEq, Int.reduceLT, Int.reduceLE, Int.reduceAdd, Int.reduceMul, Int.reduceNeg, if_pos, if_neg, hL2.1, hL2.2, m51 hT2 hL2.1.2.2.2.2.2.2.2.2.2.2.2.2.2.2.2.2.2 hb2, q]
/-- a found order is kept -/
def cs_kt : ab_H → Int → Nat → ab_H
  | h, _, 0 => h
  | h, i, k + 1 => cs_kt (ab_si (ab_si h 11 i (ab_gi h 13 i)) 12 i (ab_gi h 14 i)) (i + 1) k
theorem m55_loop {dd : Nat} {e : Int} : ∀ (k : Nat) (h : ab_H) (i : Int), cs_L h → 0 ≤ i → i + k = 5 →
    ab_E B dd 55 7 [some (.inr (.inr (.inl (some 7)))), some (.inl e), some (.inl i)] [] h = some (.inl none, cs_kt h i k)
  | 0, h, i, hL, q1, q2 => by
    rw [e55_7]
    simp (disch := omega) only [e55_0, e55_1, e55_2, e55_5, e55_6, e55_8, e55_9, e55_12, e55_13, e55_16, e55_17, e55_18, e55_21, e55_22, e55_23, e55_24, e55_25, e55_28, e55_29, e55_30, e55_33, e55_34, e55_35, e55_36, e55_39, e55_42, implies_true, Int.reduceSub, Option.isNone_some, Option.isNone_none, ab_bh_some, ab_bh_thr, ab_gs_3, ab_gl_2, ab_gl_3, ab_gt_some, ab_gc_0, ab_gk_0, Bool.false_eq_true, Bool.true_eq_false, false_implies, Nat.reduceEqDiff, ab_ge, ab_lt, ab_le, ab_gt, ab_eq, ab_ne, decide_eq_true_eq, ab_w_id, ab_w0, ab_gd_some, ab_gs_0, ab_gs_1, ab_gl_0, ab_gl_1, ab_bv_some, ab_bu_some, ab_bv_thr, ab_bu_thr, ab_fx_n, ab_fx_i, ab_fx_q, ab_fx_l, ab_sh_si, ab_gr_si, ab_gl_si, cs_n, ↓reduceIte, true_or, or_true, false_or, or_false, and_true, true_and, and_false, false_and, not_true_eq_false, not_false_eq_true, eq_self, Int.reduceEq, Int.reduceLT, Int.reduceLE, Int.reduceAdd, Int.reduceMul, Int.reduceNeg, if_pos, if_neg, hL.1, hL.2]
    rfl
  | k + 1, h, i, hL, q1, q2 => by
    rw [e55_7]
    simp (disch := omega) only [e55_0, e55_1, e55_2, e55_5, e55_6, e55_8, e55_9, e55_12, e55_13, e55_16, e55_17, e55_18, e55_21, e55_22, e55_23, e55_24, e55_25, e55_28, e55_29, e55_30, e55_33, e55_34, e55_35, e55_36, e55_39, e55_42, implies_true, Int.reduceSub, Option.isNone_some, Option.isNone_none, ab_bh_some, ab_bh_thr, ab_gs_3, ab_gl_2, ab_gl_3, ab_gt_some, ab_gc_0, ab_gk_0, Bool.false_eq_true, Bool.true_eq_false, false_implies, Nat.reduceEqDiff, ab_ge, ab_lt, ab_le, ab_gt, ab_eq, ab_ne, decide_eq_true_eq, ab_w_id, ab_w0, ab_gd_some, ab_gs_0, ab_gs_1, ab_gl_0, ab_gl_1, ab_bv_some, ab_bu_some, ab_bv_thr, ab_bu_thr, ab_fx_n, ab_fx_i, ab_fx_q, ab_fx_l, ab_sh_si, ab_gr_si, ab_gl_si, cs_n, ↓reduceIte, true_or, or_true, false_or, or_false, and_true, true_and, and_false, false_and, not_true_eq_false, not_false_eq_true, eq_self, Int.reduceEq, Int.reduceLT, Int.reduceLE, Int.reduceAdd, Int.reduceMul, Int.reduceNeg, if_pos, if_neg, hL.1, hL.2]
    have e1 : ab_gi (ab_si h 11 i (ab_gi h 13 i)) 14 i = ab_gi h 14 i := by rw [ab_gi_si, if_neg (by simp)]
    rw [e1]
    exact m55_loop k (ab_si (ab_si h 11 i (ab_gi h 13 i)) 12 i (ab_gi h 14 i)) (i + 1) hL (by omega) (by omega)
theorem m55 {dd : Nat} {h : ab_H} {e : Int} (hL : cs_L h) :
    ab_E B dd 55 0 [some (.inr (.inr (.inl (some 7)))), some (.inl e), none] [] h = some (.inl none, cs_kt (ab_si h 7 6 e) 0 5) := by
  simp (disch := omega) only [e55_0, e55_1, e55_2, e55_5, e55_6, e55_8, e55_9, e55_12, e55_13, e55_16, e55_17, e55_18, e55_21, e55_22, e55_23, e55_24, e55_25, e55_28, e55_29, e55_30, e55_33, e55_34, e55_35, e55_36, e55_39, e55_42, implies_true, Int.reduceSub, Option.isNone_some, Option.isNone_none, ab_bh_some, ab_bh_thr, ab_gs_3, ab_gl_2, ab_gl_3, ab_gt_some, ab_gc_0, ab_gk_0, Bool.false_eq_true, Bool.true_eq_false, false_implies, Nat.reduceEqDiff, ab_ge, ab_lt, ab_le, ab_gt, ab_eq, ab_ne, decide_eq_true_eq, ab_w_id, ab_w0, ab_gd_some, ab_gs_0, ab_gs_1, ab_gl_0, ab_gl_1, ab_bv_some, ab_bu_some, ab_bv_thr, ab_bu_thr, ab_fx_n, ab_fx_i, ab_fx_q, ab_fx_l, ab_sh_si, ab_gr_si, ab_gl_si, cs_n, ↓reduceIte, true_or, or_true, false_or, or_false, and_true, true_and, and_false, false_and, not_true_eq_false, not_false_eq_true, eq_self, Int.reduceEq, Int.reduceLT, Int.reduceLE, Int.reduceAdd, Int.reduceMul, Int.reduceNeg, if_pos, if_neg, hL.1, hL.2]
  exact m55_loop 5 (ab_si h 7 6 e) 0 hL (by omega) (by omega)
/-- surges from tenth t on -/
def cs_as (v : Int) : ab_H → Int → Nat → ab_H
  | h, _, 0 => h
  | h, t, k + 1 => cs_as v (ab_si h 16 t (ab_gi h 16 t + v)) (t + 1) k
theorem m56_loop {dd : Nat} {d st ti idle en p : Int} (h1 : 0 ≤ d) (h2 : d < 5) (he : en ≤ 100) : ∀ (k : Nat) (h : ab_H) (t : Int), cs_T h → ab_gi h 8 d = p → 0 ≤ t → t + k = en →
    ab_E B (dd + 1) 56 36 [some (.inr (.inr (.inl (some 7)))), some (.inl d), some (.inl st), some (.inl ti), some (.inl idle), some (.inl en), some (.inl t)] [] h = some (.inl none, cs_as (ti * (p - idle)) h t k)
  | 0, h, t, hT, ep, q1, q2 => by
    have hL := hT.1
    rw [e56_36]
    simp (disch := omega) only [e56_0, e56_1, e56_2, e56_5, e56_7, e56_8, e56_9, e56_10, e56_13, e56_14, e56_16, e56_17, e56_18, e56_21, e56_22, e56_24, e56_25, e56_26, e56_29, e56_30, e56_31, e56_34, e56_38, e56_40, e56_43, e56_45, e56_46, e56_49, e56_50, e56_53, e56_54, e56_57, e56_59, e56_60, e56_61, e56_62, e56_63, e56_64, e56_67, e56_69, e56_70, e56_71, e56_72, e56_73, e56_76, e56_79, implies_true, Int.reduceSub, Option.isNone_some, Option.isNone_none, ab_bh_some, ab_bh_thr, ab_gs_3, ab_gl_2, ab_gl_3, ab_gt_some, ab_gc_0, ab_gk_0, Bool.false_eq_true, Bool.true_eq_false, false_implies, Nat.reduceEqDiff, ab_ge, ab_lt, ab_le, ab_gt, ab_eq, ab_ne, decide_eq_true_eq, ab_w_id, ab_w0, ab_gd_some, ab_gs_0, ab_gs_1, ab_gl_0, ab_gl_1, ab_bv_some, ab_bu_some, ab_bv_thr, ab_bu_thr, ab_fx_n, ab_fx_i, ab_fx_q, ab_fx_l, ab_sh_si, ab_gr_si, ab_gl_si, cs_n, ↓reduceIte, true_or, or_true, false_or, or_false, and_true, true_and, and_false, false_and, not_true_eq_false, not_false_eq_true, eq_self, Int.reduceEq, Int.reduceLT, Int.reduceLE, Int.reduceAdd, Int.reduceMul, Int.reduceNeg, if_pos, if_neg, hL.1, hL.2]
    rfl
  | k + 1, h, t, hT, ep, q1, q2 => by
    have hL := hT.1
    rw [e56_36]
    simp (disch := omega) only [e56_0, e56_1, e56_2, e56_5, e56_7, e56_8, e56_9, e56_10, e56_13, e56_14, e56_16, e56_17, e56_18, e56_21, e56_22, e56_24, e56_25, e56_26, e56_29, e56_30, e56_31, e56_34, e56_38, e56_40, e56_43, e56_45, e56_46, e56_49, e56_50, e56_53, e56_54, e56_57, e56_59, e56_60, e56_61, e56_62, e56_63, e56_64, e56_67, e56_69, e56_70, e56_71, e56_72, e56_73, e56_76, e56_79, implies_true, Int.reduceSub, Option.isNone_some, Option.isNone_none, ab_bh_some, ab_bh_thr, ab_gs_3, ab_gl_2, ab_gl_3, ab_gt_some, ab_gc_0, ab_gk_0, Bool.false_eq_true, Bool.true_eq_false, false_implies, Nat.reduceEqDiff, ab_ge, ab_lt, ab_le, ab_gt, ab_eq, ab_ne, decide_eq_true_eq, ab_w_id, ab_w0, ab_gd_some, ab_gs_0, ab_gs_1, ab_gl_0, ab_gl_1, ab_bv_some, ab_bu_some, ab_bv_thr, ab_bu_thr, ab_fx_n, ab_fx_i, ab_fx_q, ab_fx_l, ab_sh_si, ab_gr_si, ab_gl_si, cs_n, ↓reduceIte, true_or, or_true, false_or, or_false, and_true, true_and, and_false, false_and, not_true_eq_false, not_false_eq_true, eq_self, Int.reduceEq, Int.reduceLT, Int.reduceLE, Int.reduceAdd, Int.reduceMul, Int.reduceNeg, if_pos, if_neg, hL.1, hL.2, m40 hT h1 h2]
    rw [ep]
    exact m56_loop h1 h2 he k _ (t + 1) (cs_T_si hT (by decide) (by decide) (by decide) (fun q => absurd q (by decide))) (by rw [ab_gi_si, if_neg (by simp)]; exact ep) (by omega) (by omega)
/-- a disk's draw is added -/
def cs_ad (h : ab_H) (d st ti : Int) : ab_H := cs_as (ti * (ab_gi h 8 d - ab_gi h 10 d)) (ab_si h 7 12 (ab_gi h 7 12 + ti * ab_gi h 10 d)) st (ab_gi h 9 d).toNat
theorem m56 {dd : Nat} {h : ab_H} {d st ti : Int} (hT : cs_T h) (h1 : 0 ≤ d) (h2 : d < 5) (h3 : 0 ≤ st) (h4 : st ≤ 60) :
    ab_E B (dd + 1) 56 0 [some (.inr (.inr (.inl (some 7)))), some (.inl d), some (.inl st), some (.inl ti), none, none, none] [] h = some (.inl none, cs_ad h d st ti) := by
  have hL := hT.1
  have hk := hT.2.2.2.2 d h1 h2
  have e : (if ab_w st < ab_w 0 then ab_w 0 else ab_w st) = st := by simp (disch := omega) only [implies_true, Int.reduceSub, Option.isNone_some, Option.isNone_none, ab_bh_some, ab_bh_thr, ab_gs_3, ab_gl_2, ab_gl_3, ab_gt_some, ab_gc_0, ab_gk_0, Bool.false_eq_true, Bool.true_eq_false, false_implies, Nat.reduceEqDiff, ab_ge, ab_lt, ab_le, ab_gt, ab_eq, ab_ne, decide_eq_true_eq, ab_w_id, ab_w0, ab_gd_some, ab_gs_0, ab_gs_1, ab_gl_0, ab_gl_1, ab_bv_some, ab_bu_some, ab_bv_thr, ab_bu_thr, ab_fx_n, ab_fx_i, ab_fx_q, ab_fx_l, ab_sh_si, ab_gr_si, ab_gl_si, cs_n, ↓reduceIte, true_or, or_true, false_or, or_false, and_true, true_and, and_false, false_and, not_true_eq_false, not_false_eq_true, eq_self, Int.reduceEq, Int.reduceLT, Int.reduceLE, Int.reduceAdd, Int.reduceMul, Int.reduceNeg, if_pos, if_neg]
  simp (disch := omega) only [e56_0, e56_1, e56_2, e56_5, e56_7, e56_8, e56_9, e56_10, e56_13, e56_14, e56_16, e56_17, e56_18, e56_21, e56_22, e56_24, e56_25, e56_26, e56_29, e56_30, e56_31, e56_34, e56_38, e56_40, e56_43, e56_45, e56_46, e56_49, e56_50, e56_53, e56_54, e56_57, e56_59, e56_60, e56_61, e56_62, e56_63, e56_64, e56_67, e56_69, e56_70, e56_71, e56_72, e56_73, e56_76, e56_79, implies_true, Int.reduceSub, Option.isNone_some, Option.isNone_none, ab_bh_some, ab_bh_thr, ab_gs_3, ab_gl_2, ab_gl_3, ab_gt_some, ab_gc_0, ab_gk_0, Bool.false_eq_true, Bool.true_eq_false, false_implies, Nat.reduceEqDiff, ab_ge, ab_lt, ab_le, ab_gt, ab_eq, ab_ne, decide_eq_true_eq, ab_w_id, ab_w0, ab_gd_some, ab_gs_0, ab_gs_1, ab_gl_0, ab_gl_1, ab_bv_some, ab_bu_some, ab_bv_thr, ab_bu_thr, ab_fx_n, ab_fx_i, ab_fx_q, ab_fx_l, ab_sh_si, ab_gr_si, ab_gl_si, cs_n, ↓reduceIte, true_or, or_true, false_or, or_false, and_true, true_and, and_false, false_and, not_true_eq_false, not_false_eq_true, eq_self, Int.reduceEq, Int.reduceLT, Int.reduceLE, Int.reduceAdd, Int.reduceMul, Int.reduceNeg, if_pos, if_neg, hL.1, hL.2, m42 hT h1 h2, m41 hT h1 h2, e]
  exact m56_loop h1 h2 (by omega) (ab_gi h 9 d).toNat _ st (cs_T_si hT (by decide) (by decide) (by decide) (by decide)) (by rw [ab_gi_si, if_neg (by simp)]) (by omega) (by omega)
theorem m58 {dd : Nat} {h : ab_H} {p r : Int} (hL : cs_L h) (h1 : 0 ≤ p) (h2 : p < 5) :
    ab_E B dd 58 0 [some (.inr (.inr (.inl (some 7)))), some (.inl p), some (.inl r)] [] h = some (.inl none, ab_si h 15 p r) := by
  simp (disch := omega) only [e58_0, e58_1, e58_4, e58_5, e58_6, e58_9, e58_10, e58_13, e58_14, e58_15, e58_16, implies_true, Int.reduceSub, Option.isNone_some, Option.isNone_none, ab_bh_some, ab_bh_thr, ab_gs_3, ab_gl_2, ab_gl_3, ab_gt_some, ab_gc_0, ab_gk_0, Bool.false_eq_true, Bool.true_eq_false, false_implies, Nat.reduceEqDiff, ab_ge, ab_lt, ab_le, ab_gt, ab_eq, ab_ne, decide_eq_true_eq, ab_w_id, ab_w0, ab_gd_some, ab_gs_0, ab_gs_1, ab_gl_0, ab_gl_1, ab_bv_some, ab_bu_some, ab_bv_thr, ab_bu_thr, ab_fx_n, ab_fx_i, ab_fx_q, ab_fx_l, ab_sh_si, ab_gr_si, ab_gl_si, cs_n, ↓reduceIte, true_or, or_true, false_or, or_false, and_true, true_and, and_false, false_and, not_true_eq_false, not_false_eq_true, eq_self, Int.reduceEq, Int.reduceLT, Int.reduceLE, Int.reduceAdd, Int.reduceMul, Int.reduceNeg, if_pos, if_neg, hL.1, hL.2]
/-- the draws of those that are placed are small numbers -/
def cs_U (h : ab_H) : Prop := (-2000 ≤ ab_gi h 7 12 ∧ ab_gi h 7 12 ≤ 2000) ∧ ∀ t, 0 ≤ t → t < 100 → -2000 ≤ ab_gi h 16 t ∧ ab_gi h 16 t ≤ 2000
def cs_tw (h : ab_H) (d st : Int) : Int → Int → Nat → Int
  | _, _, 0 => 0
  | run, t, k + 1 => if ab_gi h 7 1 < (if ab_gi h 7 0 < ab_gi h 7 12 + ab_gi h 16 t + cs_ds h d (t - st) then run + 1 else 0) then 1 else cs_tw h d st (if ab_gi h 7 0 < ab_gi h 7 12 + ab_gi h 16 t + cs_ds h d (t - st) then run + 1 else 0) (t + 1) k
theorem m59_loop {dd : Nat} {h : ab_H} {d st en ra : Int} (hT : cs_T h) (hU : cs_U h) (h1 : 0 ≤ d) (h2 : d < 5) (h3 : 0 ≤ st) (h4 : st ≤ 60) (he : en ≤ 100) : ∀ (k : Nat) (t run : Int) (o7 : Option ab_V), 0 ≤ t → t + k = en → -1000 ≤ run → run ≤ 1000 →
    ab_E B (dd + 1) 59 11 [some (.inr (.inr (.inl (some 7)))), some (.inl d), some (.inl st), some (.inl en), some (.inl ra), some (.inl run), some (.inl t), o7] [] h = some (.inl (some (.inl (cs_tw h d st run t k))), h)
  | 0, t, run, o7, q1, q2, q3, q4 => by
    have hL := hT.1
    rw [e59_11]
    simp (disch := omega) only [e59_0, e59_2, e59_4, e59_5, e59_6, e59_9, e59_13, e59_14, e59_17, e59_19, e59_20, e59_23, e59_24, e59_27, e59_28, e59_31, e59_32, e59_35, e59_37, e59_38, e59_39, e59_40, e59_41, e59_43, e59_44, e59_45, e59_48, e59_49, e59_51, e59_53, e59_54, e59_57, e59_60, e59_62, e59_63, e59_64, e59_67, e59_68, e59_70, e59_72, e59_73, e59_76, e59_79, e59_80, e59_81, e59_84, e59_87, e59_88, implies_true, Int.reduceSub, Option.isNone_some, Option.isNone_none, ab_bh_some, ab_bh_thr, ab_gs_3, ab_gl_2, ab_gl_3, ab_gt_some, ab_gc_0, ab_gk_0, Bool.false_eq_true, Bool.true_eq_false, false_implies, Nat.reduceEqDiff, ab_ge, ab_lt, ab_le, ab_gt, ab_eq, ab_ne, decide_eq_true_eq, ab_w_id, ab_w0, ab_gd_some, ab_gs_0, ab_gs_1, ab_gl_0, ab_gl_1, ab_bv_some, ab_bu_some, ab_bv_thr, ab_bu_thr, ab_fx_n, ab_fx_i, ab_fx_q, ab_fx_l, ab_sh_si, ab_gr_si, ab_gl_si, cs_n, ↓reduceIte, true_or, or_true, false_or, or_false, and_true, true_and, and_false, false_and, not_true_eq_false, not_false_eq_true, eq_self, Int.reduceEq, Int.reduceLT, Int.reduceLE, Int.reduceAdd, Int.reduceMul, Int.reduceNeg, if_pos, if_neg, hL.1, hL.2]
    rfl
  | k + 1, t, run, o7, q1, q2, q3, q4 => by
    have hL := hT.1
    have hl := hT.2.2.1
    have hp := hT.2.2.2.1
    have hu1 := hU.1
    have hu2 := hU.2 t q1 (by omega)
    have hd := cs_ds_le (t := t - st) hT h1 h2
    have ih := fun run o7 => m59_loop (dd := dd) (ra := ra) hT hU h1 h2 h3 h4 he k (t + 1) run o7 (by omega) (by omega)
    rw [e59_11]
    unfold cs_tw
    by_cases c0 : ab_gi h 7 0 < ab_gi h 7 12 + ab_gi h 16 t + cs_ds h d (t - st)
    · rw [if_pos c0]
      by_cases c1 : ab_gi h 7 1 < run + 1
      · simp (disch := omega) only [e59_0, e59_2, e59_4, e59_5, e59_6, e59_9, e59_13, e59_14, e59_17, e59_19, e59_20, e59_23, e59_24, e59_27, e59_28, e59_31, e59_32, e59_35, e59_37, e59_38, e59_39, e59_40, e59_41, e59_43, e59_44, e59_45, e59_48, e59_49, e59_51, e59_53, e59_54, e59_57, e59_60, e59_62, e59_63, e59_64, e59_67, e59_68, e59_70, e59_72, e59_73, e59_76, e59_79, e59_80, e59_81, e59_84, e59_87, e59_88, implies_true, Int.reduceSub, Option.isNone_some, Option.isNone_none, ab_bh_some, ab_bh_thr, ab_gs_3, ab_gl_2, ab_gl_3, ab_gt_some, ab_gc_0, ab_gk_0, Bool.false_eq_true, Bool.true_eq_false, false_implies, Nat.reduceEqDiff, ab_ge, ab_lt, ab_le, ab_gt, ab_eq, ab_ne, decide_eq_true_eq, ab_w_id, ab_w0, ab_gd_some, ab_gs_0, ab_gs_1, ab_gl_0, ab_gl_1, ab_bv_some, ab_bu_some, ab_bv_thr, ab_bu_thr, ab_fx_n, ab_fx_i, ab_fx_q, ab_fx_l, ab_sh_si, ab_gr_si, ab_gl_si, cs_n, ↓reduceIte, true_or, or_true, false_or, or_false, and_true, true_and, and_false, false_and, not_true_eq_false, not_false_eq_true, eq_self, Int.reduceEq, Int.reduceLT, Int.reduceLE, Int.reduceAdd, Int.reduceMul, Int.reduceNeg, if_pos, if_neg, hL.1, hL.2, m50 hT h1 h2 (show -1000000 ≤ t - st by omega) (show t - st ≤ 1000000 by omega)]
      · simp (disch := omega) only [e59_0, e59_2, e59_4, e59_5, e59_6, e59_9, e59_13, e59_14, e59_17, e59_19, e59_20, e59_23, e59_24, e59_27, e59_28, e59_31, e59_32, e59_35, e59_37, e59_38, e59_39, e59_40, e59_41, e59_43, e59_44, e59_45, e59_48, e59_49, e59_51, e59_53, e59_54, e59_57, e59_60, e59_62, e59_63, e59_64, e59_67, e59_68, e59_70, e59_72, e59_73, e59_76, e59_79, e59_80, e59_81, e59_84, e59_87, e59_88, implies_true, Int.reduceSub, Option.isNone_some, Option.isNone_none, ab_bh_some, ab_bh_thr, ab_gs_3, ab_gl_2, ab_gl_3, ab_gt_some, ab_gc_0, ab_gk_0, Bool.false_eq_true, Bool.true_eq_false, false_implies, Nat.reduceEqDiff, ab_ge, ab_lt, ab_le, ab_gt, ab_eq, ab_ne, decide_eq_true_eq, ab_w_id, ab_w0, ab_gd_some, ab_gs_0, ab_gs_1, ab_gl_0, ab_gl_1, ab_bv_some, ab_bu_some, ab_bv_thr, ab_bu_thr, ab_fx_n, ab_fx_i, ab_fx_q, ab_fx_l, ab_sh_si, ab_gr_si, ab_gl_si, cs_n, ↓reduceIte, true_or, or_true, false_or, or_false, and_true, true_and, and_false, false_and, not_true_eq_false, not_false_eq_true, eq_self, Int.reduceEq, Int.reduceLT, Int.reduceLE, Int.reduceAdd, Int.reduceMul, Int.reduceNeg, if_pos, if_neg, hL.1, hL.2, m50 hT h1 h2 (show -1000000 ≤ t - st by omega) (show t - st ≤ 1000000 by omega)]
        exact ih _ _ (by omega) (by omega)
    · rw [if_neg c0]
      simp (disch := omega) only [e59_0, e59_2, e59_4, e59_5, e59_6, e59_9, e59_13, e59_14, e59_17, e59_19, e59_20, e59_23, e59_24, e59_27, e59_28, e59_31, e59_32, e59_35, e59_37, e59_38, e59_39, e59_40, e59_41, e59_43, e59_44, e59_45, e59_48, e59_49, e59_51, e59_53, e59_54, e59_57, e59_60, e59_62, e59_63, e59_64, e59_67, e59_68, e59_70, e59_72, e59_73, e59_76, e59_79, e59_80, e59_81, e59_84, e59_87, e59_88, implies_true, Int.reduceSub, Option.isNone_some, Option.isNone_none, ab_bh_some, ab_bh_thr, ab_gs_3, ab_gl_2, ab_gl_3, ab_gt_some, ab_gc_0, ab_gk_0, Bool.false_eq_true, Bool.true_eq_false, false_implies, Nat.reduceEqDiff, ab_ge, ab_lt, ab_le, ab_gt, ab_eq, ab_ne, decide_eq_true_eq, ab_w_id, ab_w0, ab_gd_some, ab_gs_0, ab_gs_1, ab_gl_0, ab_gl_1, ab_bv_some, ab_bu_some, ab_bv_thr, ab_bu_thr, ab_fx_n, ab_fx_i, ab_fx_q, ab_fx_l, ab_sh_si, ab_gr_si, ab_gl_si, cs_n, ↓reduceIte, true_or, or_true, false_or, or_false, and_true, true_and, and_false, false_and, not_true_eq_false, not_false_eq_true, eq_self, Int.reduceEq, Int.reduceLT, Int.reduceLE, Int.reduceAdd, Int.reduceMul, Int.reduceNeg, if_pos, if_neg, hL.1, hL.2, m50 hT h1 h2 (show -1000000 ≤ t - st by omega) (show t - st ≤ 1000000 by omega)]
      exact ih _ _ (by omega) (by omega)
theorem m59 {dd : Nat} {h : ab_H} {d st en ra : Int} (hT : cs_T h) (hU : cs_U h) (h1 : 0 ≤ d) (h2 : d < 5) (h3 : 0 ≤ st) (h4 : st ≤ 60) (he : en ≤ 100) (hse : st ≤ en) (h5 : -1000 ≤ ra) (h6 : ra ≤ 1000) :
    ab_E B (dd + 1) 59 0 [some (.inr (.inr (.inl (some 7)))), some (.inl d), some (.inl st), some (.inl en), some (.inl ra), none, none, none] [] h = some (.inl (some (.inl (cs_tw h d st ra st (en - st).toNat))), h) := by
  have hL := hT.1
  have e : (if ab_w st < ab_w 0 then ab_w 0 else ab_w st) = st := by simp (disch := omega) only [implies_true, Int.reduceSub, Option.isNone_some, Option.isNone_none, ab_bh_some, ab_bh_thr, ab_gs_3, ab_gl_2, ab_gl_3, ab_gt_some, ab_gc_0, ab_gk_0, Bool.false_eq_true, Bool.true_eq_false, false_implies, Nat.reduceEqDiff, ab_ge, ab_lt, ab_le, ab_gt, ab_eq, ab_ne, decide_eq_true_eq, ab_w_id, ab_w0, ab_gd_some, ab_gs_0, ab_gs_1, ab_gl_0, ab_gl_1, ab_bv_some, ab_bu_some, ab_bv_thr, ab_bu_thr, ab_fx_n, ab_fx_i, ab_fx_q, ab_fx_l, ab_sh_si, ab_gr_si, ab_gl_si, cs_n, ↓reduceIte, true_or, or_true, false_or, or_false, and_true, true_and, and_false, false_and, not_true_eq_false, not_false_eq_true, eq_self, Int.reduceEq, Int.reduceLT, Int.reduceLE, Int.reduceAdd, Int.reduceMul, Int.reduceNeg, if_pos, if_neg]
  simp (disch := omega) only [e59_0, e59_2, e59_4, e59_5, e59_6, e59_9, e59_13, e59_14, e59_17, e59_19, e59_20, e59_23, e59_24, e59_27, e59_28, e59_31, e59_32, e59_35, e59_37, e59_38, e59_39, e59_40, e59_41, e59_43, e59_44, e59_45, e59_48, e59_49, e59_51, e59_53, e59_54, e59_57, e59_60, e59_62, e59_63, e59_64, e59_67, e59_68, e59_70, e59_72, e59_73, e59_76, e59_79, e59_80, e59_81, e59_84, e59_87, e59_88, implies_true, Int.reduceSub, Option.isNone_some, Option.isNone_none, ab_bh_some, ab_bh_thr, ab_gs_3, ab_gl_2, ab_gl_3, ab_gt_some, ab_gc_0, ab_gk_0, Bool.false_eq_true, Bool.true_eq_false, false_implies, Nat.reduceEqDiff, ab_ge, ab_lt, ab_le, ab_gt, ab_eq, ab_ne, decide_eq_true_eq, ab_w_id, ab_w0, ab_gd_some, ab_gs_0, ab_gs_1, ab_gl_0, ab_gl_1, ab_bv_some, ab_bu_some, ab_bv_thr, ab_bu_thr, ab_fx_n, ab_fx_i, ab_fx_q, ab_fx_l, ab_sh_si, ab_gr_si, ab_gl_si, cs_n, ↓reduceIte, true_or, or_true, false_or, or_false, and_true, true_and, and_false, false_and, not_true_eq_false, not_false_eq_true, eq_self, Int.reduceEq, Int.reduceLT, Int.reduceLE, Int.reduceAdd, Int.reduceMul, Int.reduceNeg, if_pos, if_neg, hL.1, hL.2, e]
  exact m59_loop hT hU h1 h2 h3 h4 he (en - st).toNat st ra _ (by omega) (by omega) h5 h6
end
