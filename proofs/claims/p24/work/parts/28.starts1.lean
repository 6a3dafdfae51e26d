set_option linter.all false
/-! THE STARTS: what is asked -/
section
variable {B : ab_B}
def cs_T (h : ab_H) : Prop := cs_L h ∧ (0 ≤ ab_gi h 7 2 ∧ ab_gi h 7 2 ≤ 5) ∧ (1 ≤ ab_gi h 7 0 ∧ ab_gi h 7 0 ≤ 90) ∧ (0 ≤ ab_gi h 7 1 ∧ ab_gi h 7 1 ≤ 9) ∧ ∀ d, 0 ≤ d → d < 5 → (1 ≤ ab_gi h 8 d ∧ ab_gi h 8 d ≤ 30) ∧ (1 ≤ ab_gi h 9 d ∧ ab_gi h 9 d ≤ 9) ∧ (0 ≤ ab_gi h 10 d ∧ ab_gi h 10 d ≤ 9)
theorem m40 {dd : Nat} {h : ab_H} {d : Int} (hT : cs_T h) (h1 : 0 ≤ d) (h2 : d < 5) :
    ab_E B dd 40 0 [some (.inr (.inr (.inl (some 7)))), some (.inl d)] [] h = some (.inl (some (.inl (ab_gi h 8 d))), h) := by
  have hL := hT.1
  simp (disch := omega) only [e40_0, e40_1, e40_4, e40_5, e40_6, e40_9, e40_10, e40_13, e40_14, e40_15, e40_18, e40_19, implies_true, Int.reduceSub, Option.isNone_some, Option.isNone_none, ab_bh_some, ab_bh_thr, ab_gs_3, ab_gl_2, ab_gl_3, ab_gt_some, ab_gc_0, ab_gk_0, Bool.false_eq_true, Bool.true_eq_false, false_implies, Nat.reduceEqDiff, ab_ge, ab_lt, ab_le, ab_gt, ab_eq, ab_ne, decide_eq_true_eq, ab_w_id, ab_w0, ab_gd_some, ab_gs_0, ab_gs_1, ab_gl_0, ab_gl_1, ab_bv_some, ab_bu_some, ab_bv_thr, ab_bu_thr, ab_fx_n, ab_fx_i, ab_fx_q, ab_fx_l, ab_sh_si, ab_gr_si, ab_gl_si, cs_n, ↓reduceIte, true_or, or_true, false_or, or_false, and_true, true_and, and_false, false_and, not_true_eq_false, not_false_eq_true, eq_self, Int.reduceEq, Int.reduceLT, Int.reduceLE, Int.reduceAdd, Int.reduceMul, Int.reduceNeg, if_pos, if_neg, hL.1, hL.2]
theorem m41 {dd : Nat} {h : ab_H} {d : Int} (hT : cs_T h) (h1 : 0 ≤ d) (h2 : d < 5) :
    ab_E B dd 41 0 [some (.inr (.inr (.inl (some 7)))), some (.inl d)] [] h = some (.inl (some (.inl (ab_gi h 9 d))), h) := by
  have hL := hT.1
  simp (disch := omega) only [e41_0, e41_1, e41_4, e41_5, e41_6, e41_9, e41_10, e41_13, e41_14, e41_15, e41_18, e41_19, implies_true, Int.reduceSub, Option.isNone_some, Option.isNone_none, ab_bh_some, ab_bh_thr, ab_gs_3, ab_gl_2, ab_gl_3, ab_gt_some, ab_gc_0, ab_gk_0, Bool.false_eq_true, Bool.true_eq_false, false_implies, Nat.reduceEqDiff, ab_ge, ab_lt, ab_le, ab_gt, ab_eq, ab_ne, decide_eq_true_eq, ab_w_id, ab_w0, ab_gd_some, ab_gs_0, ab_gs_1, ab_gl_0, ab_gl_1, ab_bv_some, ab_bu_some, ab_bv_thr, ab_bu_thr, ab_fx_n, ab_fx_i, ab_fx_q, ab_fx_l, ab_sh_si, ab_gr_si, ab_gl_si, cs_n, ↓reduceIte, true_or, or_true, false_or, or_false, and_true, true_and, and_false, false_and, not_true_eq_false, not_false_eq_true, eq_self, Int.reduceEq, Int.reduceLT, Int.reduceLE, Int.reduceAdd, Int.reduceMul, Int.reduceNeg, if_pos, if_neg, hL.1, hL.2]
theorem m42 {dd : Nat} {h : ab_H} {d : Int} (hT : cs_T h) (h1 : 0 ≤ d) (h2 : d < 5) :
    ab_E B dd 42 0 [some (.inr (.inr (.inl (some 7)))), some (.inl d)] [] h = some (.inl (some (.inl (ab_gi h 10 d))), h) := by
  have hL := hT.1
  simp (disch := omega) only [e42_0, e42_1, e42_4, e42_5, e42_6, e42_9, e42_10, e42_13, e42_14, e42_15, e42_18, e42_19, implies_true, Int.reduceSub, Option.isNone_some, Option.isNone_none, ab_bh_some, ab_bh_thr, ab_gs_3, ab_gl_2, ab_gl_3, ab_gt_some, ab_gc_0, ab_gk_0, Bool.false_eq_true, Bool.true_eq_false, false_implies, Nat.reduceEqDiff, ab_ge, ab_lt, ab_le, ab_gt, ab_eq, ab_ne, decide_eq_true_eq, ab_w_id, ab_w0, ab_gd_some, ab_gs_0, ab_gs_1, ab_gl_0, ab_gl_1, ab_bv_some, ab_bu_some, ab_bv_thr, ab_bu_thr, ab_fx_n, ab_fx_i, ab_fx_q, ab_fx_l, ab_sh_si, ab_gr_si, ab_gl_si, cs_n, ↓reduceIte, true_or, or_true, false_or, or_false, and_true, true_and, and_false, false_and, not_true_eq_false, not_false_eq_true, eq_self, Int.reduceEq, Int.reduceLT, Int.reduceLE, Int.reduceAdd, Int.reduceMul, Int.reduceNeg, if_pos, if_neg, hL.1, hL.2]
theorem m43 {dd : Nat} {h : ab_H} (hL : cs_L h) :
    ab_E B dd 43 0 [some (.inr (.inr (.inl (some 7))))] [] h = some (.inl (some (.inl (ab_gi h 7 6))), h) := by
  simp (disch := omega) only [e43_0, e43_1, e43_4, implies_true, Int.reduceSub, Option.isNone_some, Option.isNone_none, ab_bh_some, ab_bh_thr, ab_gs_3, ab_gl_2, ab_gl_3, ab_gt_some, ab_gc_0, ab_gk_0, Bool.false_eq_true, Bool.true_eq_false, false_implies, Nat.reduceEqDiff, ab_ge, ab_lt, ab_le, ab_gt, ab_eq, ab_ne, decide_eq_true_eq, ab_w_id, ab_w0, ab_gd_some, ab_gs_0, ab_gs_1, ab_gl_0, ab_gl_1, ab_bv_some, ab_bu_some, ab_bv_thr, ab_bu_thr, ab_fx_n, ab_fx_i, ab_fx_q, ab_fx_l, ab_sh_si, ab_gr_si, ab_gl_si, cs_n, ↓reduceIte, true_or, or_true, false_or, or_false, and_true, true_and, and_false, false_and, not_true_eq_false, not_false_eq_true, eq_self, Int.reduceEq, Int.reduceLT, Int.reduceLE, Int.reduceAdd, Int.reduceMul, Int.reduceNeg, if_pos, if_neg, hL.1, hL.2]
theorem m44 {dd : Nat} {h : ab_H} {d : Int} (hL : cs_L h) (hp : -1 ≤ ab_gi h 7 6 ∧ ab_gi h 7 6 ≤ 1000) (h1 : 0 ≤ d) (h2 : d < 5) :
    ab_E B dd 44 0 [some (.inr (.inr (.inl (some 7)))), some (.inl d)] [] h = some (.inl (some (.inl (if ab_gi h 7 6 = -1 then -1 else ab_gi h 11 d))), h) := by
  by_cases c : ab_gi h 7 6 = -1
  · simp (disch := omega) only [e44_0, e44_1, e44_4, e44_5, e44_8, e44_9, e44_12, e44_13, e44_14, e44_17, e44_18, e44_21, e44_22, e44_23, e44_26, e44_27, implies_true, Int.reduceSub, Option.isNone_some, Option.isNone_none, ab_bh_some, ab_bh_thr, ab_gs_3, ab_gl_2, ab_gl_3, ab_gt_some, ab_gc_0, ab_gk_0, Bool.false_eq_true, Bool.true_eq_false, false_implies, Nat.reduceEqDiff, ab_ge, ab_lt, ab_le, ab_gt, ab_eq, ab_ne, decide_eq_true_eq, ab_w_id, ab_w0, ab_gd_some, ab_gs_0, ab_gs_1, ab_gl_0, ab_gl_1, ab_bv_some, ab_bu_some, ab_bv_thr, ab_bu_thr, ab_fx_n, ab_fx_i, ab_fx_q, ab_fx_l, ab_sh_si, ab_gr_si, ab_gl_si, cs_n, ↓reduceIte, true_or, or_true, false_or, or_false, and_true, true_and, and_false, false_and, not_true_eq_false, not_false_eq_true, eq_self, Int.reduceEq, Int.reduceLT, Int.reduceLE, Int.reduceAdd, Int.reduceMul, Int.reduceNeg, if_pos, if_neg, hL.1, hL.2, eq_true c]
  · simp (disch := omega) only [e44_0, e44_1, e44_4, e44_5, e44_8, e44_9, e44_12, e44_13, e44_14, e44_17, e44_18, e44_21, e44_22, e44_23, e44_26, e44_27, implies_true, Int.reduceSub, Option.isNone_some, Option.isNone_none, ab_bh_some, ab_bh_thr, ab_gs_3, ab_gl_2, ab_gl_3, ab_gt_some, ab_gc_0, ab_gk_0, Bool.false_eq_true, Bool.true_eq_false, false_implies, Nat.reduceEqDiff, ab_ge, ab_lt, ab_le, ab_gt, ab_eq, ab_ne, decide_eq_true_eq, ab_w_id, ab_w0, ab_gd_some, ab_gs_0, ab_gs_1, ab_gl_0, ab_gl_1, ab_bv_some, ab_bu_some, ab_bv_thr, ab_bu_thr, ab_fx_n, ab_fx_i, ab_fx_q, ab_fx_l, ab_sh_si, ab_gr_si, ab_gl_si, cs_n, ↓reduceIte, true_or, or_true, false_or, or_false, and_true, true_and, and_false, false_and, not_true_eq_false, not_false_eq_true, eq_self, Int.reduceEq, Int.reduceLT, Int.reduceLE, Int.reduceAdd, Int.reduceMul, Int.reduceNeg, if_pos, if_neg, hL.1, hL.2, eq_false c]
theorem m45 {dd : Nat} {h : ab_H} {d : Int} (hL : cs_L h) (hp : -1 ≤ ab_gi h 7 6 ∧ ab_gi h 7 6 ≤ 1000) (h1 : 0 ≤ d) (h2 : d < 5) :
    ab_E B dd 45 0 [some (.inr (.inr (.inl (some 7)))), some (.inl d)] [] h = some (.inl (some (.inl (if ab_gi h 7 6 = -1 then -1 else ab_gi h 12 d))), h) := by
  by_cases c : ab_gi h 7 6 = -1
  · simp (disch := omega) only [e45_0, e45_1, e45_4, e45_5, e45_8, e45_9, e45_12, e45_13, e45_14, e45_17, e45_18, e45_21, e45_22, e45_23, e45_26, e45_27, implies_true, Int.reduceSub, Option.isNone_some, Option.isNone_none, ab_bh_some, ab_bh_thr, ab_gs_3, ab_gl_2, ab_gl_3, ab_gt_some, ab_gc_0, ab_gk_0, Bool.false_eq_true, Bool.true_eq_false, false_implies, Nat.reduceEqDiff, ab_ge, ab_lt, ab_le, ab_gt, ab_eq, ab_ne, decide_eq_true_eq, ab_w_id, ab_w0, ab_gd_some, ab_gs_0, ab_gs_1, ab_gl_0, ab_gl_1, ab_bv_some, ab_bu_some, ab_bv_thr, ab_bu_thr, ab_fx_n, ab_fx_i, ab_fx_q, ab_fx_l, ab_sh_si, ab_gr_si, ab_gl_si, cs_n, ↓reduceIte, true_or, or_true, false_or, or_false, and_true, true_and, and_false, false_and, not_true_eq_false, not_false_eq_true, eq_self, Int.reduceEq, Int.reduceLT, Int.reduceLE, Int.reduceAdd, Int.reduceMul, Int.reduceNeg, if_pos, if_neg, hL.1, hL.2, eq_true c]
  · simp (disch := omega) only [e45_0, e45_1, e45_4, e45_5, e45_8, e45_9, e45_12, e45_13, e45_14, e45_17, e45_18, e45_21, e45_22, e45_23, e45_26, e45_27, implies_true, Int.reduceSub, Option.isNone_some, Option.isNone_none, ab_bh_some, ab_bh_thr, ab_gs_3, ab_gl_2, ab_gl_3, ab_gt_some, ab_gc_0, ab_gk_0, Bool.false_eq_true, Bool.true_eq_false, false_implies, Nat.reduceEqDiff, ab_ge, ab_lt, ab_le, ab_gt, ab_eq, ab_ne, decide_eq_true_eq, ab_w_id, ab_w0, ab_gd_some, ab_gs_0, ab_gs_1, ab_gl_0, ab_gl_1, ab_bv_some, ab_bu_some, ab_bv_thr, ab_bu_thr, ab_fx_n, ab_fx_i, ab_fx_q, ab_fx_l, ab_sh_si, ab_gr_si, ab_gl_si, cs_n, ↓reduceIte, true_or, or_true, false_or, or_false, and_true, true_and, and_false, false_and, not_true_eq_false, not_false_eq_true, eq_self, Int.reduceEq, Int.reduceLT, Int.reduceLE, Int.reduceAdd, Int.reduceMul, Int.reduceNeg, if_pos, if_neg, hL.1, hL.2, eq_false c]
/-- what a disk draws t tenths behind its start -/
def cs_ds (h : ab_H) (d t : Int) : Int := if t < ab_gi h 9 d then ab_gi h 8 d else ab_gi h 10 d
theorem cs_ds_le {h : ab_H} {d t : Int} (hT : cs_T h) (h1 : 0 ≤ d) (h2 : d < 5) : 0 ≤ cs_ds h d t ∧ cs_ds h d t ≤ 30 := by
  have := hT.2.2.2.2 d h1 h2
  unfold cs_ds
  split <;> omega
theorem m50 {dd : Nat} {h : ab_H} {d t : Int} (hT : cs_T h) (h1 : 0 ≤ d) (h2 : d < 5) (h3 : -1000000 ≤ t) (h4 : t ≤ 1000000) :
    ab_E B dd 50 0 [some (.inr (.inr (.inl (some 7)))), some (.inl d), some (.inl t)] [] h = some (.inl (some (.inl (cs_ds h d t))), h) := by
  have hL := hT.1
  have hk := hT.2.2.2.2 d h1 h2
  unfold cs_ds
  by_cases c : t < ab_gi h 9 d
  · simp (disch := omega) only [e50_0, e50_1, e50_4, e50_5, e50_6, e50_9, e50_10, e50_11, e50_12, e50_13, e50_16, e50_17, e50_18, e50_21, e50_22, e50_25, e50_26, e50_27, e50_30, e50_31, e50_34, e50_35, e50_36, implies_true, Int.reduceSub, Option.isNone_some, Option.isNone_none, ab_bh_some, ab_bh_thr, ab_gs_3, ab_gl_2, ab_gl_3, ab_gt_some, ab_gc_0, ab_gk_0, Bool.false_eq_true, Bool.true_eq_false, false_implies, Nat.reduceEqDiff, ab_ge, ab_lt, ab_le, ab_gt, ab_eq, ab_ne, decide_eq_true_eq, ab_w_id, ab_w0, ab_gd_some, ab_gs_0, ab_gs_1, ab_gl_0, ab_gl_1, ab_bv_some, ab_bu_some, ab_bv_thr, ab_bu_thr, ab_fx_n, ab_fx_i, ab_fx_q, ab_fx_l, ab_sh_si, ab_gr_si, ab_gl_si, cs_n, ↓reduceIte, true_or, or_true, false_or, or_false, and_true, true_and, and_false, false_and, not_true_eq_false, not_false_eq_true, eq_self, Int.reduceEq, Int.reduceLT, Int.reduceLE, Int.reduceAdd, Int.reduceMul, Int.reduceNeg, if_pos, if_neg, hL.1, hL.2]
  · simp (disch := omega) only [e50_0, e50_1, e50_4, e50_5, e50_6, e50_9, e50_10, e50_11, e50_12, e50_13, e50_16, e50_17, e50_18, e50_21, e50_22, e50_25, e50_26, e50_27, e50_30, e50_31, e50_34, e50_35, e50_36, implies_true, Int.reduceSub, Option.isNone_some, Option.isNone_none, ab_bh_some, ab_bh_thr, ab_gs_3, ab_gl_2, ab_gl_3, ab_gt_some, ab_gc_0, ab_gk_0, Bool.false_eq_true, Bool.true_eq_false, false_implies, Nat.reduceEqDiff, ab_ge, ab_lt, ab_le, ab_gt, ab_eq, ab_ne, decide_eq_true_eq, ab_w_id, ab_w0, ab_gd_some, ab_gs_0, ab_gs_1, ab_gl_0, ab_gl_1, ab_bv_some, ab_bu_some, ab_bv_thr, ab_bu_thr, ab_fx_n, ab_fx_i, ab_fx_q, ab_fx_l, ab_sh_si, ab_gr_si, ab_gl_si, cs_n, ↓reduceIte, true_or, or_true, false_or, or_false, and_true, true_and, and_false, false_and, not_true_eq_false, not_false_eq_true, eq_self, Int.reduceEq, Int.reduceLT, Int.reduceLE, Int.reduceAdd, Int.reduceMul, Int.reduceNeg, if_pos, if_neg, hL.1, hL.2]
/-- what the disk d draws at the tenth t by the starts in the row a -/
def cs_d1 (h : ab_H) (a : Nat) (t d : Int) : Int := if t < ab_gi h a d then 0 else cs_ds h d (t - ab_gi h a d)
/-- what all draw -/
def cs_dr (h : ab_H) (a : Nat) (t : Int) : Int := cs_sf (cs_d1 h a t) 0 (ab_gi h 7 2).toNat
theorem cs_sf_rng {f : Int → Int} {B : Int} : ∀ (k : Nat) (i : Int), (∀ j, i ≤ j → j < i + k → 0 ≤ f j ∧ f j ≤ B) → 0 ≤ cs_sf f i k ∧ cs_sf f i k ≤ B * k
  | 0, i, _ => by simp [cs_sf]
  | k + 1, i, hf => by
    have h1 := cs_sf_rng k (i + 1) (fun j q1 q2 => hf j (by omega) (by omega))
    have h2 := hf i (by omega) (by omega)
    simp only [cs_sf]
    have e : B * ((k + 1 : Nat) : Int) = B * (k : Int) + B := by rw [Int.natCast_add, Int.mul_add]; simp
    rw [e]
    omega
theorem cs_d1_le {h : ab_H} {a : Nat} {t d : Int} (hT : cs_T h) (h1 : 0 ≤ d) (h2 : d < 5) : 0 ≤ cs_d1 h a t d ∧ cs_d1 h a t d ≤ 30 := by
  have := cs_ds_le (t := t - ab_gi h a d) hT h1 h2
  unfold cs_d1
  split <;> omega
theorem cs_dr_le {h : ab_H} {a : Nat} {t : Int} (hT : cs_T h) : 0 ≤ cs_dr h a t ∧ cs_dr h a t ≤ 150 := by
  have hn := hT.2.1
  have := cs_sf_rng (f := cs_d1 h a t) (B := 30) (ab_gi h 7 2).toNat 0 (fun j q1 q2 => cs_d1_le hT q1 (by omega))
  unfold cs_dr
  omega
theorem m49_loop {dd : Nat} {h : ab_H} {a : Nat} {t : Int} (hT : cs_T h) (ha : (ab_sh h)[a]? = some (0, 5)) (hs : ∀ d, 0 ≤ d → d < 5 → -1 ≤ ab_gi h a d ∧ ab_gi h a d ≤ 1000) (h3 : 0 ≤ t) (h4 : t ≤ 1000) : ∀ (k : Nat) (i c : Int), 0 ≤ i → i + k = ab_gi h 7 2 →
    ab_E B (dd + 1) 49 5 [some (.inr (.inr (.inl (some 7)))), some (.inr (.inr (.inl (some a)))), some (.inl t), some (.inl c), some (.inl i)] [] h = some (.inl (some (.inl (c + cs_sf (cs_d1 h a t) i k))), h)
  | 0, i, c, q1, q2 => by
    have hL := hT.1
    have hn := hT.2.1
    rw [e49_5]
    simp (disch := omega) only [e49_0, e49_1, e49_2, e49_3, e49_7, e49_8, e49_11, e49_14, e49_16, e49_17, e49_18, e49_21, e49_22, e49_23, e49_25, e49_26, e49_29, e49_30, e49_31, e49_33, e49_34, e49_35, e49_37, e49_38, e49_39, e49_42, e49_43, e49_44, e49_47, e49_50, e49_51, implies_true, Int.reduceSub, Option.isNone_some, Option.isNone_none, ab_bh_some, ab_bh_thr, ab_gs_3, ab_gl_2, ab_gl_3, ab_gt_some, ab_gc_0, ab_gk_0, Bool.false_eq_true, Bool.true_eq_false, false_implies, Nat.reduceEqDiff, ab_ge, ab_lt, ab_le, ab_gt, ab_eq, ab_ne, decide_eq_true_eq, ab_w_id, ab_w0, ab_gd_some, ab_gs_0, ab_gs_1, ab_gl_0, ab_gl_1, ab_bv_some, ab_bu_some, ab_bv_thr, ab_bu_thr, ab_fx_n, ab_fx_i, ab_fx_q, ab_fx_l, ab_sh_si, ab_gr_si, ab_gl_si, cs_n, ↓reduceIte, true_or, or_true, false_or, or_false, and_true, true_and, and_false, false_and, not_true_eq_false, not_false_eq_true, eq_self, Int.reduceEq, Int.reduceLT, Int.reduceLE, Int.reduceAdd, Int.reduceMul, Int.reduceNeg, if_pos, if_neg, hL.1, hL.2, cs_sf, Int.add_zero]
  | k + 1, i, c, q1, q2 => by
    have hL := hT.1
    have hn := hT.2.1
    have hv := hs i q1 (by omega)
    have ih := fun c => m49_loop (dd := dd) hT ha hs h3 h4 k (i + 1) c (by omega) (by omega)
    rw [e49_5]
    by_cases c0 : t < ab_gi h a i
    · have e : cs_d1 h a t i = 0 := if_pos c0
      simp (disch := omega) only [e49_0, e49_1, e49_2, e49_3, e49_7, e49_8, e49_11, e49_14, e49_16, e49_17, e49_18, e49_21, e49_22, e49_23, e49_25, e49_26, e49_29, e49_30, e49_31, e49_33, e49_34, e49_35, e49_37, e49_38, e49_39, e49_42, e49_43, e49_44, e49_47, e49_50, e49_51, implies_true, Int.reduceSub, Option.isNone_some, Option.isNone_none, ab_bh_some, ab_bh_thr, ab_gs_3, ab_gl_2, ab_gl_3, ab_gt_some, ab_gc_0, ab_gk_0, Bool.false_eq_true, Bool.true_eq_false, false_implies, Nat.reduceEqDiff, ab_ge, ab_lt, ab_le, ab_gt, ab_eq, ab_ne, decide_eq_true_eq, ab_w_id, ab_w0, ab_gd_some, ab_gs_0, ab_gs_1, ab_gl_0, ab_gl_1, ab_bv_some, ab_bu_some, ab_bv_thr, ab_bu_thr, ab_fx_n, ab_fx_i, ab_fx_q, ab_fx_l, ab_sh_si, ab_gr_si, ab_gl_si, cs_n, ↓reduceIte, true_or, or_true, false_or, or_false, and_true, true_and, and_false, false_and, not_true_eq_false, not_false_eq_true, eq_self, Int.reduceEq, Int.reduceLT, Int.reduceLE, Int.reduceAdd, Int.reduceMul, Int.reduceNeg, if_pos, if_neg, hL.1, hL.2, ha]
      rw [ih]; simp only [cs_sf, e, Int.zero_add]
    · have e : cs_d1 h a t i = cs_ds h i (t - ab_gi h a i) := if_neg c0
      simp (disch := omega) only [e49_0, e49_1, e49_2, e49_3, e49_7, e49_8, e49_11, e49_14, e49_16, e49_17, e49_18, e49_21, e49_22, e49_23, e49_25, e49_26, e49_29, e49_30, e49_31, e49_33, e49_34, e49_35, e49_37, e49_38, e49_39, e49_42, e49_43, e49_44, e49_47, e49_50, e49_51, implies_true, Int.reduceSub, Option.isNone_some, Option.isNone_none, ab_bh_some, ab_bh_thr, ab_gs_3, ab_gl_2, ab_gl_3, ab_gt_some, ab_gc_0, ab_gk_0, Bool.false_eq_true, Bool.true_eq_false, false_implies, Nat.reduceEqDiff, ab_ge, ab_lt, ab_le, ab_gt, ab_eq, ab_ne, decide_eq_true_eq, ab_w_id, ab_w0, ab_gd_some, ab_gs_0, ab_gs_1, ab_gl_0, ab_gl_1, ab_bv_some, ab_bu_some, ab_bv_thr, ab_bu_thr, ab_fx_n, ab_fx_i, ab_fx_q, ab_fx_l, ab_sh_si, ab_gr_si, ab_gl_si, cs_n, ↓reduceIte, true_or, or_true, false_or, or_false, and_true, true_and, and_false, false_and, not_true_eq_false, not_false_eq_true, eq_self, Int.reduceEq, Int.reduceLT, Int.reduceLE, Int.reduceAdd, Int.reduceMul, Int.reduceNeg, if_pos, if_neg, hL.1, hL.2, ha, m50 hT q1 (show i < 5 by omega) (show -1000000 ≤ t - ab_gi h a i by omega) (show t - ab_gi h a i ≤ 1000000 by omega)]
      rw [ih]; simp only [cs_sf, e, Int.add_assoc]
theorem m49 {dd : Nat} {h : ab_H} {a : Nat} {t : Int} (hT : cs_T h) (ha : (ab_sh h)[a]? = some (0, 5)) (hs : ∀ d, 0 ≤ d → d < 5 → -1 ≤ ab_gi h a d ∧ ab_gi h a d ≤ 1000) (h3 : 0 ≤ t) (h4 : t ≤ 1000) :
    ab_E B (dd + 1) 49 0 [some (.inr (.inr (.inl (some 7)))), some (.inr (.inr (.inl (some a)))), some (.inl t), none, none] [] h = some (.inl (some (.inl (cs_dr h a t))), h) := by
  have hn := hT.2.1
  simp (disch := omega) only [e49_0, e49_1, e49_2, e49_3, e49_7, e49_8, e49_11, e49_14, e49_16, e49_17, e49_18, e49_21, e49_22, e49_23, e49_25, e49_26, e49_29, e49_30, e49_31, e49_33, e49_34, e49_35, e49_37, e49_38, e49_39, e49_42, e49_43, e49_44, e49_47, e49_50, e49_51, implies_true, Int.reduceSub, Option.isNone_some, Option.isNone_none, ab_bh_some, ab_bh_thr, ab_gs_3, ab_gl_2, ab_gl_3, ab_gt_some, ab_gc_0, ab_gk_0, Bool.false_eq_true, Bool.true_eq_false, false_implies, Nat.reduceEqDiff, ab_ge, ab_lt, ab_le, ab_gt, ab_eq, ab_ne, decide_eq_true_eq, ab_w_id, ab_w0, ab_gd_some, ab_gs_0, ab_gs_1, ab_gl_0, ab_gl_1, ab_bv_some, ab_bu_some, ab_bv_thr, ab_bu_thr, ab_fx_n, ab_fx_i, ab_fx_q, ab_fx_l, ab_sh_si, ab_gr_si, ab_gl_si, cs_n, ↓reduceIte, true_or, or_true, false_or, or_false, and_true, true_and, and_false, false_and, not_true_eq_false, not_false_eq_true, eq_self, Int.reduceEq, Int.reduceLT, Int.reduceLE, Int.reduceAdd, Int.reduceMul, Int.reduceNeg, if_pos, if_neg]
  rw [m49_loop hT ha hs h3 h4 (ab_gi h 7 2).toNat 0 0 (by omega) (by omega)]
  simp only [Int.zero_add, cs_dr]
/-- whether the fuse trips from the tenth t on, k tenths, run of them above the limit ahead -/
def cs_tp (h : ab_H) (a : Nat) : Int → Int → Nat → Int
  | _, _, 0 => 0
  | run, t, k + 1 => if ab_gi h 7 1 < (if ab_gi h 7 0 < cs_dr h a t then run + 1 else 0) then 1 else cs_tp h a (if ab_gi h 7 0 < cs_dr h a t then run + 1 else 0) (t + 1) k
theorem m51_loop {dd : Nat} {h : ab_H} {a : Nat} (hT : cs_T h) (ha : (ab_sh h)[a]? = some (0, 5)) (hs : ∀ d, 0 ≤ d → d < 5 → -1 ≤ ab_gi h a d ∧ ab_gi h a d ≤ 1000) : ∀ (k : Nat) (t run : Int), 0 ≤ t → t + k = 100 → 0 ≤ run → run ≤ 9 →
    ab_E B (dd + 2) 51 4 [some (.inr (.inr (.inl (some 7)))), some (.inr (.inr (.inl (some a)))), some (.inl run), some (.inl t)] [] h = some (.inl (some (.inl (cs_tp h a run t k))), h)
  | 0, t, run, q1, q2, q3, q4 => by
    have hL := hT.1
    rw [e51_4]
    simp (disch := omega) only [e51_0, e51_1, e51_2, e51_3, e51_5, e51_7, e51_10, e51_11, e51_12, e51_13, e51_16, e51_17, e51_20, e51_23, e51_24, e51_25, e51_26, e51_29, e51_30, e51_31, e51_32, e51_33, e51_36, e51_39, e51_40, e51_41, e51_44, e51_47, e51_48, implies_true, Int.reduceSub, Option.isNone_some, Option.isNone_none, ab_bh_some, ab_bh_thr, ab_gs_3, ab_gl_2, ab_gl_3, ab_gt_some, ab_gc_0, ab_gk_0, Bool.false_eq_true, Bool.true_eq_false, false_implies, Nat.reduceEqDiff, ab_ge, ab_lt, ab_le, ab_gt, ab_eq, ab_ne, decide_eq_true_eq, ab_w_id, ab_w0, ab_gd_some, ab_gs_0, ab_gs_1, ab_gl_0, ab_gl_1, ab_bv_some, ab_bu_some, ab_bv_thr, ab_bu_thr, ab_fx_n, ab_fx_i, ab_fx_q, ab_fx_l, ab_sh_si, ab_gr_si, ab_gl_si, cs_n, ↓reduceIte, true_or, or_true, false_or, or_false, and_true, true_and, and_false, false_and, not_true_eq_false, not_false_eq_true, eq_self, Int.reduceEq, Int.reduceLT, Int.reduceLE, Int.reduceAdd, Int.reduceMul, Int.reduceNeg, if_pos, if_neg, hL.1, hL.2]
    rfl
  | k + 1, t, run, q1, q2, q3, q4 => by
    have hL := hT.1
    have hl := hT.2.2.1
    have hp := hT.2.2.2.1
    have hd := cs_dr_le (a := a) (t := t) hT
    have ih := fun run => m51_loop (dd := dd) hT ha hs k (t + 1) run (by omega) (by omega)
    rw [e51_4]
    unfold cs_tp
    by_cases c0 : ab_gi h 7 0 < cs_dr h a t
    · rw [if_pos c0]
      by_cases c1 : ab_gi h 7 1 < run + 1
      · simp (disch := omega) only [e51_0, e51_1, e51_2, e51_3, e51_5, e51_7, e51_10, e51_11, e51_12, e51_13, e51_16, e51_17, e51_20, e51_23, e51_24, e51_25, e51_26, e51_29, e51_30, e51_31, e51_32, e51_33, e51_36, e51_39, e51_40, e51_41, e51_44, e51_47, e51_48, implies_true, Int.reduceSub, Option.isNone_some, Option.isNone_none, ab_bh_some, ab_bh_thr, ab_gs_3, ab_gl_2, ab_gl_3, ab_gt_some, ab_gc_0, ab_gk_0, Bool.false_eq_true, Bool.true_eq_false, false_implies, Nat.reduceEqDiff, ab_ge, ab_lt, ab_le, ab_gt, ab_eq, ab_ne, decide_eq_true_eq, ab_w_id, ab_w0, ab_gd_some, ab_gs_0, ab_gs_1, ab_gl_0, ab_gl_1, ab_bv_some, ab_bu_some, ab_bv_thr, ab_bu_thr, ab_fx_n, ab_fx_i, ab_fx_q, ab_fx_l, ab_sh_si, ab_gr_si, ab_gl_si, cs_n, ↓reduceIte, true_or, or_true, false_or, or_false, and_true, true_and, and_false, false_and, not_true_eq_false, not_false_eq_true, eq_self, Int.reduceEq, Int.reduceLT, Int.reduceLE, Int.reduceAdd, Int.reduceMul, Int.reduceNeg, if_pos, if_neg, hL.1, hL.2, m49 hT ha hs q1 (show t ≤ 1000 by omega)]
      · simp (disch := omega) only [e51_0, e51_1, e51_2, e51_3, e51_5, e51_7, e51_10, e51_11, e51_12, e51_13, e51_16, e51_17, e51_20, e51_23, e51_24, e51_25, e51_26, e51_29, e51_30, e51_31, e51_32, e51_33, e51_36, e51_39, e51_40, e51_41, e51_44, e51_47, e51_48, implies_true, Int.reduceSub, Option.isNone_some, Option.isNone_none, ab_bh_some, ab_bh_thr, ab_gs_3, ab_gl_2, ab_gl_3, ab_gt_some, ab_gc_0, ab_gk_0, Bool.false_eq_true, Bool.true_eq_false, false_implies, Nat.reduceEqDiff, ab_ge, ab_lt, ab_le, ab_gt, ab_eq, ab_ne, decide_eq_true_eq, ab_w_id, ab_w0, ab_gd_some, ab_gs_0, ab_gs_1, ab_gl_0, ab_gl_1, ab_bv_some, ab_bu_some, ab_bv_thr, ab_bu_thr, ab_fx_n, ab_fx_i, ab_fx_q, ab_fx_l, ab_sh_si, ab_gr_si, ab_gl_si, cs_n, ↓reduceIte, true_or, or_true, false_or, or_false, and_true, true_and, and_false, false_and, not_true_eq_false, not_false_eq_true, eq_self, Int.reduceEq, Int.reduceLT, Int.reduceLE, Int.reduceAdd, Int.reduceMul, Int.reduceNeg, if_pos, if_neg, hL.1, hL.2, m49 hT ha hs q1 (show t ≤ 1000 by omega)]
        exact ih _ (by omega) (by omega)
    · rw [if_neg c0]
      simp (disch := omega) only [e51_0, e51_1, e51_2, e51_3, e51_5, e51_7, e51_10, e51_11, e51_12, e51_13, e51_16, e51_17, e51_20, e51_23, e51_24, e51_25, e51_26, e51_29, e51_30, e51_31, e51_32, e51_33, e51_36, e51_39, e51_40, e51_41, e51_44, e51_47, e51_48, implies_true, Int.reduceSub, Option.isNone_some, Option.isNone_none, ab_bh_some, ab_bh_thr, ab_gs_3, ab_gl_2, ab_gl_3, ab_gt_some, ab_gc_0, ab_gk_0, Bool.false_eq_true, Bool.true_eq_false, false_implies, Nat.reduceEqDiff, ab_ge, ab_lt, ab_le, ab_gt, ab_eq, ab_ne, decide_eq_true_eq, ab_w_id, ab_w0, ab_gd_some, ab_gs_0, ab_gs_1, ab_gl_0, ab_gl_1, ab_bv_some, ab_bu_some, ab_bv_thr, ab_bu_thr, ab_fx_n, ab_fx_i, ab_fx_q, ab_fx_l, ab_sh_si, ab_gr_si, ab_gl_si, cs_n, ↓reduceIte, true_or, or_true, false_or, or_false, and_true, true_and, and_false, false_and, not_true_eq_false, not_false_eq_true, eq_self, Int.reduceEq, Int.reduceLT, Int.reduceLE, Int.reduceAdd, Int.reduceMul, Int.reduceNeg, if_pos, if_neg, hL.1, hL.2, m49 hT ha hs q1 (show t ≤ 1000 by omega)]
      exact ih _ (by omega) (by omega)
theorem m51 {dd : Nat} {h : ab_H} {a : Nat} (hT : cs_T h) (ha : (ab_sh h)[a]? = some (0, 5)) (hs : ∀ d, 0 ≤ d → d < 5 → -1 ≤ ab_gi h a d ∧ ab_gi h a d ≤ 1000) :
    ab_E B (dd + 2) 51 0 [some (.inr (.inr (.inl (some 7)))), some (.inr (.inr (.inl (some a)))), none, none] [] h = some (.inl (some (.inl (cs_tp h a 0 0 100))), h) := by
  simp (disch := omega) only [e51_0, e51_1, e51_2, e51_3, e51_5, e51_7, e51_10, e51_11, e51_12, e51_13, e51_16, e51_17, e51_20, e51_23, e51_24, e51_25, e51_26, e51_29, e51_30, e51_31, e51_32, e51_33, e51_36, e51_39, e51_40, e51_41, e51_44, e51_47, e51_48, implies_true, Int.reduceSub, Option.isNone_some, Option.isNone_none, ab_bh_some, ab_bh_thr, ab_gs_3, ab_gl_2, ab_gl_3, ab_gt_some, ab_gc_0, ab_gk_0, Bool.false_eq_true, Bool.true_eq_false, false_implies, Nat.reduceEqDiff, ab_ge, ab_lt, ab_le, ab_gt, ab_eq, ab_ne, decide_eq_true_eq, ab_w_id, ab_w0, ab_gd_some, ab_gs_0, ab_gs_1, ab_gl_0, ab_gl_1, ab_bv_some, ab_bu_some, ab_bv_thr, ab_bu_thr, ab_fx_n, ab_fx_i, ab_fx_q, ab_fx_l, ab_sh_si, ab_gr_si, ab_gl_si, cs_n, ↓reduceIte, true_or, or_true, false_or, or_false, and_true, true_and, and_false, false_and, not_true_eq_false, not_false_eq_true, eq_self, Int.reduceEq, Int.reduceLT, Int.reduceLE, Int.reduceAdd, Int.reduceMul, Int.reduceNeg, if_pos, if_neg]
  exact m51_loop hT ha hs 100 0 0 (by omega) (by omega) (by omega) (by omega)
theorem cs_tp01 (h : ab_H) (a : Nat) : ∀ (k : Nat) (run t : Int), cs_tp h a run t k = 0 ∨ cs_tp h a run t k = 1
  | 0, _, _ => Or.inl rfl
  | k + 1, run, t => by
    have ih := fun r => cs_tp01 h a k r (t + 1)
    unfold cs_tp
    by_cases c : ab_gi h 7 1 < (if ab_gi h 7 0 < cs_dr h a t then run + 1 else 0)
    · rw [if_pos c]; exact Or.inr rfl
    · rw [if_neg c]; exact ih _
/-- the plan's row is fit to be asked -/
def cs_P (h : ab_H) : Prop := (-1 ≤ ab_gi h 7 6 ∧ ab_gi h 7 6 ≤ 1000) ∧ ∀ d, 0 ≤ d → d < 5 → -1 ≤ ab_gi h 11 d ∧ ab_gi h 11 d ≤ 1000
theorem m46 {dd : Nat} {h : ab_H} {t : Int} (hT : cs_T h) (hP : cs_P h) (h3 : 0 ≤ t) (h4 : t ≤ 1000) :
    ab_E B (dd + 2) 46 0 [some (.inr (.inr (.inl (some 7)))), some (.inl t)] [] h = some (.inl (some (.inl (if ab_gi h 7 6 = -1 then -1 else cs_dr h 11 t))), h) := by
  have hL := hT.1
  have hp := hP.1
  by_cases c : ab_gi h 7 6 = -1
  · simp (disch := omega) only [e46_0, e46_1, e46_4, e46_5, e46_8, e46_9, e46_12, e46_13, e46_14, e46_17, e46_18, e46_21, implies_true, Int.reduceSub, Option.isNone_some, Option.isNone_none, ab_bh_some, ab_bh_thr, ab_gs_3, ab_gl_2, ab_gl_3, ab_gt_some, ab_gc_0, ab_gk_0, Bool.false_eq_true, Bool.true_eq_false, false_implies, Nat.reduceEqDiff, ab_ge, ab_lt, ab_le, ab_gt, ab_eq, ab_ne, decide_eq_true_eq, ab_w_id, ab_w0, ab_gd_some, ab_gs_0, ab_gs_1, ab_gl_0, ab_gl_1, ab_bv_some, ab_bu_some, ab_bv_thr, ab_bu_thr, ab_fx_n, ab_fx_i, ab_fx_q, ab_fx_l, ab_sh_si, ab_gr_si, ab_gl_si, cs_n, ↓reduceIte, true_or, or_true, false_or, or_false, and_true, true_and, and_false, false_and, not_true_eq_false, not_false_eq_true, eq_self, Int.reduceEq, Int.reduceLT, Int.reduceLE, Int.reduceAdd, Int.reduceMul, Int.reduceNeg, if_pos, if_neg, hL.1, hL.2, eq_true c]
  · simp (disch := omega) only [e46_0, e46_1, e46_4, e46_5, e46_8, e46_9, e46_12, e46_13, e46_14, e46_17, e46_18, e46_21, implies_true, Int.reduceSub, Option.isNone_some, Option.isNone_none, ab_bh_some, ab_bh_thr, ab_gs_3, ab_gl_2, ab_gl_3, ab_gt_some, ab_gc_0, ab_gk_0, Bool.false_eq_true, Bool.true_eq_false, false_implies, Nat.reduceEqDiff, ab_ge, ab_lt, ab_le, ab_gt, ab_eq, ab_ne, decide_eq_true_eq, ab_w_id, ab_w0, ab_gd_some, ab_gs_0, ab_gs_1, ab_gl_0, ab_gl_1, ab_bv_some, ab_bu_some, ab_bv_thr, ab_bu_thr, ab_fx_n, ab_fx_i, ab_fx_q, ab_fx_l, ab_sh_si, ab_gr_si, ab_gl_si, cs_n, ↓reduceIte, true_or, or_true, false_or, or_false, and_true, true_and, and_false, false_and, not_true_eq_false, not_false_eq_true, eq_self, Int.reduceEq, Int.reduceLT, Int.reduceLE, Int.reduceAdd, Int.reduceMul, Int.reduceNeg, if_pos, if_neg, hL.1, hL.2, eq_false c, m49 hT hL.1.2.2.2.2.2.2.2.2.2.2.2.1 hP.2 h3 h4]
theorem m47 {dd : Nat} {h : ab_H} (hT : cs_T h) (hP : cs_P h) :
    ab_E B (dd + 3) 47 0 [some (.inr (.inr (.inl (some 7))))] [] h = some (.inl (some (.inl (if ab_gi h 7 6 = -1 then 0 else cs_tp h 11 0 0 100))), h) := by
  have hL := hT.1
  have hp := hP.1
  by_cases c : ab_gi h 7 6 = -1
  · simp (disch := omega) only [e47_0, e47_1, e47_4, e47_5, e47_8, e47_9, e47_10, e47_13, e47_16, e47_19, e47_20, e47_23, e47_24, implies_true, Int.reduceSub, Option.isNone_some, Option.isNone_none, ab_bh_some, ab_bh_thr, ab_gs_3, ab_gl_2, ab_gl_3, ab_gt_some, ab_gc_0, ab_gk_0, Bool.false_eq_true, Bool.true_eq_false, false_implies, Nat.reduceEqDiff, ab_ge, ab_lt, ab_le, ab_gt, ab_eq, ab_ne, decide_eq_true_eq, ab_w_id, ab_w0, ab_gd_some, ab_gs_0, ab_gs_1, ab_gl_0, ab_gl_1, ab_bv_some, ab_bu_some, ab_bv_thr, ab_bu_thr, ab_fx_n, ab_fx_i, ab_fx_q, ab_fx_l, ab_sh_si, ab_gr_si, ab_gl_si, cs_n, ↓reduceIte, true_or, or_true, false_or, or_false, and_true, true_and, and_false, false_and, not_true_eq_false, not_false_eq_true, eq_self, Int.reduceEq, Int.reduceLT, Int.reduceLE, Int.reduceAdd, Int.reduceMul, Int.reduceNeg, if_pos, if_neg, hL.1, hL.2, eq_true c]
  · rcases cs_tp01 h 11 100 0 0 with q | q <;> simp (disch := omega) only [e47_0, e47_1, e47_4, e47_5, e47_8, e47_9, e47_10, e47_13, e47_16, e47_19, e47_20, e47_23, e47_24, implies_true, Int.reduceSub, Option.isNone_some, Option.isNone_none, ab_bh_some, ab_bh_thr, ab_gs_3, ab_gl_2, ab_gl_3, ab_gt_some, ab_gc_0, ab_gk_0, Bool.false_eq_true, Bool.true_eq_false, false_implies, Nat.reduceEqDiff, ab_ge, ab_lt, ab_le, ab_gt, ab_eq, ab_ne, decide_eq_true_eq, ab_w_id, ab_w0, ab_gd_some, ab_gs_0, ab_gs_1, ab_gl_0, ab_gl_1, ab_bv_some, ab_bu_some, ab_bv_thr, ab_bu_thr, ab_fx_n, ab_fx_i, ab_fx_q, ab_fx_l, ab_sh_si, ab_gr_si, ab_gl_si, cs_n, ↓reduceIte, true_or, or_true, false_or, or_false, and_true, true_and, and_false, false_and, not_true_eq_false, not_false_eq_true, eq_self, Int.reduceEq, Int.reduceLT, Int.reduceLE, Int.reduceAdd, Int.reduceMul, Int.reduceNeg, if_pos, if_neg, hL.1, hL.2, eq_false c, m51 hT hL.1.2.2.2.2.2.2.2.2.2.2.2.1 hP.2, q]
theorem m53_loop {dd : Nat} {h : ab_H} (hT : cs_T h) : ∀ (k : Nat) (i c : Int), 0 ≤ i → i + k = ab_gi h 7 2 →
    ab_E B (dd + 1) 53 4 [some (.inr (.inr (.inl (some 7)))), some (.inl c), some (.inl i)] [] h = some (.inl (some (.inl (c + cs_sf (fun d => ab_gi h 10 d) i k))), h)
  | 0, i, c, q1, q2 => by
    have hL := hT.1
    have hn := hT.2.1
    rw [e53_4]
    simp (disch := omega) only [e53_0, e53_1, e53_2, e53_3, e53_5, e53_6, e53_9, e53_12, e53_13, e53_14, e53_15, e53_18, e53_19, e53_20, e53_23, e53_26, e53_27, implies_true, Int.reduceSub, Option.isNone_some, Option.isNone_none, ab_bh_some, ab_bh_thr, ab_gs_3, ab_gl_2, ab_gl_3, ab_gt_some, ab_gc_0, ab_gk_0, Bool.false_eq_true, Bool.true_eq_false, false_implies, Nat.reduceEqDiff, ab_ge, ab_lt, ab_le, ab_gt, ab_eq, ab_ne, decide_eq_true_eq, ab_w_id, ab_w0, ab_gd_some, ab_gs_0, ab_gs_1, ab_gl_0, ab_gl_1, ab_bv_some, ab_bu_some, ab_bv_thr, ab_bu_thr, ab_fx_n, ab_fx_i, ab_fx_q, ab_fx_l, ab_sh_si, ab_gr_si, ab_gl_si, cs_n, ↓reduceIte, true_or, or_true, false_or, or_false, and_true, true_and, and_false, false_and, not_true_eq_false, not_false_eq_true, eq_self, Int.reduceEq, Int.reduceLT, Int.reduceLE, Int.reduceAdd, Int.reduceMul, Int.reduceNeg, if_pos, if_neg, hL.1, hL.2, cs_sf, Int.add_zero]
  | k + 1, i, c, q1, q2 => by
    have hL := hT.1
    have hn := hT.2.1
    rw [e53_4]
    simp (disch := omega) only [e53_0, e53_1, e53_2, e53_3, e53_5, e53_6, e53_9, e53_12, e53_13, e53_14, e53_15, e53_18, e53_19, e53_20, e53_23, e53_26, e53_27, implies_true, Int.reduceSub, Option.isNone_some, Option.isNone_none, ab_bh_some, ab_bh_thr, ab_gs_3, ab_gl_2, ab_gl_3, ab_gt_some, ab_gc_0, ab_gk_0, Bool.false_eq_true, Bool.true_eq_false, false_implies, Nat.reduceEqDiff, ab_ge, ab_lt, ab_le, ab_gt, ab_eq, ab_ne, decide_eq_true_eq, ab_w_id, ab_w0, ab_gd_some, ab_gs_0, ab_gs_1, ab_gl_0, ab_gl_1, ab_bv_some, ab_bu_some, ab_bv_thr, ab_bu_thr, ab_fx_n, ab_fx_i, ab_fx_q, ab_fx_l, ab_sh_si, ab_gr_si, ab_gl_si, cs_n, ↓reduceIte, true_or, or_true, false_or, or_false, and_true, true_and, and_false, false_and, not_true_eq_false, not_false_eq_true, eq_self, Int.reduceEq, Int.reduceLT, Int.reduceLE, Int.reduceAdd, Int.reduceMul, Int.reduceNeg, if_pos, if_neg, hL.1, hL.2, m42 hT q1 (show i < 5 by omega)]
    rw [m53_loop hT k (i + 1) _ (by omega) (by omega)]
    simp only [cs_sf, Int.add_assoc]
theorem m53 {dd : Nat} {h : ab_H} (hT : cs_T h) :
    ab_E B (dd + 1) 53 0 [some (.inr (.inr (.inl (some 7)))), none, none] [] h = some (.inl (some (.inl (cs_sf (fun d => ab_gi h 10 d) 0 (ab_gi h 7 2).toNat))), h) := by
  have hn := hT.2.1
  simp (disch := omega) only [e53_0, e53_1, e53_2, e53_3, e53_5, e53_6, e53_9, e53_12, e53_13, e53_14, e53_15, e53_18, e53_19, e53_20, e53_23, e53_26, e53_27, implies_true, Int.reduceSub, Option.isNone_some, Option.isNone_none, ab_bh_some, ab_bh_thr, ab_gs_3, ab_gl_2, ab_gl_3, ab_gt_some, ab_gc_0, ab_gk_0, Bool.false_eq_true, Bool.true_eq_false, false_implies, Nat.reduceEqDiff, ab_ge, ab_lt, ab_le, ab_gt, ab_eq, ab_ne, decide_eq_true_eq, ab_w_id, ab_w0, ab_gd_some, ab_gs_0, ab_gs_1, ab_gl_0, ab_gl_1, ab_bv_some, ab_bu_some, ab_bv_thr, ab_bu_thr, ab_fx_n, ab_fx_i, ab_fx_q, ab_fx_l, ab_sh_si, ab_gr_si, ab_gl_si, cs_n, ↓reduceIte, true_or, or_true, false_or, or_false, and_true, true_and, and_false, false_and, not_true_eq_false, not_false_eq_true, eq_self, Int.reduceEq, Int.reduceLT, Int.reduceLE, Int.reduceAdd, Int.reduceMul, Int.reduceNeg, if_pos, if_neg]
  rw [m53_loop hT (ab_gi h 7 2).toNat 0 0 (by omega) (by omega)]
  simp only [Int.zero_add]
end
