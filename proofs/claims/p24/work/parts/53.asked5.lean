set_option linter.all false
/-! WHAT IS ASKED OF THE REFERENCE: draws, losses, soundness -/
section
variable {B : ab_B}
theorem n155_loop {dd : Nat} {t D S : Int} {h : ab_H} {b kc k0 : Nat} {st : Int → Int} (hm : mL h b D S) (hK : pk_ok (mKK h)) (e1 : ab_gi h 18 1 = D) (hD5 : D ≤ 5) (s1 : (ab_sh h)[kc]? = some (2, 2)) (r1 : ab_gr h kc 0 = some k0) (s2 : (ab_sh h)[k0]? = some (0, D.toNat)) (hst : ∀ d, 0 ≤ d → d < D → ab_gi h k0 d = st d ∧ 0 ≤ st d ∧ st d ≤ 200) (t1 : 0 ≤ t) (t2 : t ≤ 1000) : ∀ (k : Nat) (i c : Int), 0 ≤ i → i + k = D →
    ab_E B (dd + 1) 155 16 [some (.inr (.inr (.inl (some 18)))), some (.inl t), some (.inr (.inr (.inl (some kc)))), some (.inl c), some (.inl i)] [] h = some (.inl (some (.inl (c + cs_sf (pk_d1 (mKK h) st t) i k))), h)
  | 0, i, c, q1, q2 => by
    rw [e155_16]
    simp (disch := omega) only [e155_0, e155_1, e155_4, e155_5, e155_6, e155_9, e155_10, e155_11, e155_12, e155_13, e155_14, e155_18, e155_19, e155_22, e155_25, e155_26, e155_27, e155_29, e155_30, e155_31, e155_32, e155_34, e155_35, e155_36, e155_39, e155_40, e155_41, e155_44, e155_47, e155_48, implies_true, Int.reduceSub, Option.isNone_some, Option.isNone_none, ab_bh_some, ab_bh_thr, ab_gs_3, ab_gl_2, ab_gl_3, ab_gt_some, ab_gc_0, ab_gk_0, Bool.false_eq_true, Bool.true_eq_false, false_implies, Nat.reduceEqDiff, ab_ge, ab_lt, ab_le, ab_gt, ab_eq, ab_ne, decide_eq_true_eq, ab_w_id, ab_w0, ab_gd_some, ab_gs_0, ab_gs_1, ab_gl_0, ab_gl_1, ab_bv_some, ab_bu_some, ab_bv_thr, ab_bu_thr, ab_fx_n, ab_fx_i, ab_fx_q, ab_fx_l, ab_sh_si, ab_gr_si, ab_gl_si, cs_n, ↓reduceIte, true_or, or_true, false_or, or_false, and_true, true_and, and_false, false_and, not_true_eq_false, not_false_eq_true, eq_self, Int.reduceEq, Int.reduceLT, Int.reduceLE, Int.reduceAdd, Int.reduceMul, Int.reduceNeg, if_pos, if_neg, hm.1, e1, cs_sf, Int.add_zero]
  | k + 1, i, c, q1, q2 => by
    obtain ⟨v, v1, v2⟩ := hst i q1 (by omega)
    have ih := n155_loop (dd := dd) hm hK e1 hD5 s1 r1 s2 hst t1 t2 k (i + 1) (c + pk_d1 (mKK h) st t i) (by omega) (by omega)
    have e := n132 (B := B) (dd := dd) (st := st i) hm hK q1 (show i < 5 by omega) v1 (by omega) t1 t2
    unfold cs_sf
    rw [← Int.add_assoc, ← ih, e155_16]
    have ed : pk_d1 (mKK h) st t i = if t < st i then 0 else if t < st i + (mKK h).2.1 i then (mKK h).1 i else (mKK h).2.2.1 i := by
      unfold pk_d1
      rw [if_neg (by omega)]
    rw [ed]
    simp (disch := omega) only [e155_0, e155_1, e155_4, e155_5, e155_6, e155_9, e155_10, e155_11, e155_12, e155_13, e155_14, e155_18, e155_19, e155_22, e155_25, e155_26, e155_27, e155_29, e155_30, e155_31, e155_32, e155_34, e155_35, e155_36, e155_39, e155_40, e155_41, e155_44, e155_47, e155_48, implies_true, Int.reduceSub, Option.isNone_some, Option.isNone_none, ab_bh_some, ab_bh_thr, ab_gs_3, ab_gl_2, ab_gl_3, ab_gt_some, ab_gc_0, ab_gk_0, Bool.false_eq_true, Bool.true_eq_false, false_implies, Nat.reduceEqDiff, ab_ge, ab_lt, ab_le, ab_gt, ab_eq, ab_ne, decide_eq_true_eq, ab_w_id, ab_w0, ab_gd_some, ab_gs_0, ab_gs_1, ab_gl_0, ab_gl_1, ab_bv_some, ab_bu_some, ab_bv_thr, ab_bu_thr, ab_fx_n, ab_fx_i, ab_fx_q, ab_fx_l, ab_sh_si, ab_gr_si, ab_gl_si, cs_n, ↓reduceIte, true_or, or_true, false_or, or_false, and_true, true_and, and_false, false_and, not_true_eq_false, not_false_eq_true, eq_self, Int.reduceEq, Int.reduceLT, Int.reduceLE, Int.reduceAdd, Int.reduceMul, Int.reduceNeg, if_pos, if_neg, hm.1, e1, s1, r1, s2, v, e]
theorem n155 {dd : Nat} {t : Int} {g h : ab_H} {b : Nat} (i : ci g) (m : mm g h b) (t1 : 0 ≤ t) (t2 : t ≤ 1000) :
    ∃ h', ab_E B (dd + 9) 155 0 [some (.inr (.inr (.inl (some 18)))), some (.inl t), none, none, none] [] h = some (.inl (some (.inl (pk_t (ck_K g) (ab_gi g 1 0) (pk_plan (ck_K g) (ab_gi g 1 0)) t))), h') ∧ mm g h' b ∧ mW h h' 0 0 := by
  have hDS := i.1.2.1
  have hs := m.1.1.1
  have hK : pk_ok (ck_K g) := ck_K_ok i.2.1.1.1
  obtain ⟨h1, r, a1, m1, x1, X, k1⟩ := n137 (B := B) (dd := dd) i m
  refine ⟨h1, ?_, m1, x1⟩
  cases hy : pk_plan (ck_K g) (ab_gi g 1 0) with
  | none =>
    rw [hy] at X
    have er : r = none := X
    subst er
    simp (disch := omega) only [e155_0, e155_1, e155_4, e155_5, e155_6, e155_9, e155_10, e155_11, e155_12, e155_13, e155_14, e155_18, e155_19, e155_22, e155_25, e155_26, e155_27, e155_29, e155_30, e155_31, e155_32, e155_34, e155_35, e155_36, e155_39, e155_40, e155_41, e155_44, e155_47, e155_48, implies_true, Int.reduceSub, Option.isNone_some, Option.isNone_none, ab_bh_some, ab_bh_thr, ab_gs_3, ab_gl_2, ab_gl_3, ab_gt_some, ab_gc_0, ab_gk_0, Bool.false_eq_true, Bool.true_eq_false, false_implies, Nat.reduceEqDiff, ab_ge, ab_lt, ab_le, ab_gt, ab_eq, ab_ne, decide_eq_true_eq, ab_w_id, ab_w0, ab_gd_some, ab_gs_0, ab_gs_1, ab_gl_0, ab_gl_1, ab_bv_some, ab_bu_some, ab_bv_thr, ab_bu_thr, ab_fx_n, ab_fx_i, ab_fx_q, ab_fx_l, ab_sh_si, ab_gr_si, ab_gl_si, cs_n, ↓reduceIte, true_or, or_true, false_or, or_false, and_true, true_and, and_false, false_and, not_true_eq_false, not_false_eq_true, eq_self, Int.reduceEq, Int.reduceLT, Int.reduceLE, Int.reduceAdd, Int.reduceMul, Int.reduceNeg, if_pos, if_neg, hs, a1]
    rfl
  | some y =>
    rw [hy] at X
    obtain ⟨kc, k0, k1', er, -, ⟨s1, s2, s3⟩, ⟨r1, r2⟩, m5, m6⟩ := X
    subst er
    have hF := pk_plan_F hK (by omega) y hy
    have eM := m1.2.2.2.1
    have lp := n155_loop (B := B) (dd := dd + 8) m1.1 (by rw [eM]; exact hK) m1.2.1.1 (by omega) s1 r1 s2 (st := y.1) (fun d d1 d2 => ⟨(m5 d d1 d2).1, by have := (hF.1 d d1 d2).1; omega⟩) t1 t2 (ab_gi g 1 0).toNat 0 0 (by omega) (by omega)
    rw [Int.zero_add, eM] at lp
    have ee : pk_t (ck_K g) (ab_gi g 1 0) (some y) t = cs_sf (pk_d1 (ck_K g) y.1 t) 0 (ab_gi g 1 0).toNat := rfl
    rw [ee, ← lp]
    simp (disch := omega) only [e155_0, e155_1, e155_4, e155_5, e155_6, e155_9, e155_10, e155_11, e155_12, e155_13, e155_14, e155_18, e155_19, e155_22, e155_25, e155_26, e155_27, e155_29, e155_30, e155_31, e155_32, e155_34, e155_35, e155_36, e155_39, e155_40, e155_41, e155_44, e155_47, e155_48, implies_true, Int.reduceSub, Option.isNone_some, Option.isNone_none, ab_bh_some, ab_bh_thr, ab_gs_3, ab_gl_2, ab_gl_3, ab_gt_some, ab_gc_0, ab_gk_0, Bool.false_eq_true, Bool.true_eq_false, false_implies, Nat.reduceEqDiff, ab_ge, ab_lt, ab_le, ab_gt, ab_eq, ab_ne, decide_eq_true_eq, ab_w_id, ab_w0, ab_gd_some, ab_gs_0, ab_gs_1, ab_gl_0, ab_gl_1, ab_bv_some, ab_bu_some, ab_bv_thr, ab_bu_thr, ab_fx_n, ab_fx_i, ab_fx_q, ab_fx_l, ab_sh_si, ab_gr_si, ab_gl_si, cs_n, ↓reduceIte, true_or, or_true, false_or, or_false, and_true, true_and, and_false, false_and, not_true_eq_false, not_false_eq_true, eq_self, Int.reduceEq, Int.reduceLT, Int.reduceLE, Int.reduceAdd, Int.reduceMul, Int.reduceNeg, if_pos, if_neg, hs, a1]
theorem n156_1 {dd : Nat} {w : Int} {g h : ab_H} {b : Nat} (m : mm g h b) (w1 : -2147483648 ≤ w) (w2 : w < 2147483648) (hn : ¬ (0 ≤ w ∧ w ≤ 999)) : mR B (dd + 2) 156 [some (.inr (.inr (.inl (some 18)))), some (.inl w)] h g 1 0 0 0 := by
  have hs := m.1.1.1
  have e := n100n (B := B) (dd := dd + 1) (h := h) w1 w2 (show -2147483648 ≤ 0 by omega) (show (0 : Int) < 2147483648 by omega) (show -2147483648 ≤ 999 by omega) (show (999 : Int) < 2147483648 by omega) hn
  refine mR_no m ?_
  simp (disch := omega) only [e156_0, e156_1, e156_2, e156_3, e156_6, e156_9, e156_12, e156_13, e156_16, e156_17, e156_18, e156_21, e156_24, e156_25, e156_28, e156_29, e156_30, e156_33, implies_true, Int.reduceSub, Option.isNone_some, Option.isNone_none, ab_bh_some, ab_bh_thr, ab_gs_3, ab_gl_2, ab_gl_3, ab_gt_some, ab_gc_0, ab_gk_0, Bool.false_eq_true, Bool.true_eq_false, false_implies, Nat.reduceEqDiff, ab_ge, ab_lt, ab_le, ab_gt, ab_eq, ab_ne, decide_eq_true_eq, ab_w_id, ab_w0, ab_gd_some, ab_gs_0, ab_gs_1, ab_gl_0, ab_gl_1, ab_bv_some, ab_bu_some, ab_bv_thr, ab_bu_thr, ab_fx_n, ab_fx_i, ab_fx_q, ab_fx_l, ab_sh_si, ab_gr_si, ab_gl_si, cs_n, ↓reduceIte, true_or, or_true, false_or, or_false, and_true, true_and, and_false, false_and, not_true_eq_false, not_false_eq_true, eq_self, Int.reduceEq, Int.reduceLT, Int.reduceLE, Int.reduceAdd, Int.reduceMul, Int.reduceNeg, if_pos, if_neg, hs, e, n102_1 hs]
theorem n156 {dd : Nat} {w : Int} {g h : ab_H} {b : Nat} (i : ci g) (m : mm g h b) (w1 : 0 ≤ w) (w2 : w ≤ 999) : mR B (dd + 10) 156 [some (.inr (.inr (.inl (some 18)))), some (.inl w)] h g 0 (pk_t (ck_K g) (ab_gi g 1 0) (pk_plan (ck_K g) (ab_gi g 1 0)) w) 362 1810 := by
  have hs := m.1.1.1
  have hs0 : (ab_sh (mt h 0))[18]? = some (8, 22) := hs
  have m0 : mm g (mt h 0) b := mm_thr m
  have t0 := mt_t h 0
  have e := n100y (B := B) (dd := dd + 9) (h := h) (show -2147483648 ≤ 0 by omega) (show (999 : Int) < 2147483648 by omega) w1 w2
  obtain ⟨h1, a1, m1, x1⟩ := n155 (B := B) (dd := dd) i m0 w1 (show w ≤ 1000 by omega)
  refine mW_ans ?_ m1 x1
  simp (disch := omega) only [e156_0, e156_1, e156_2, e156_3, e156_6, e156_9, e156_12, e156_13, e156_16, e156_17, e156_18, e156_21, e156_24, e156_25, e156_28, e156_29, e156_30, e156_33, implies_true, Int.reduceSub, Option.isNone_some, Option.isNone_none, ab_bh_some, ab_bh_thr, ab_gs_3, ab_gl_2, ab_gl_3, ab_gt_some, ab_gc_0, ab_gk_0, Bool.false_eq_true, Bool.true_eq_false, false_implies, Nat.reduceEqDiff, ab_ge, ab_lt, ab_le, ab_gt, ab_eq, ab_ne, decide_eq_true_eq, ab_w_id, ab_w0, ab_gd_some, ab_gs_0, ab_gs_1, ab_gl_0, ab_gl_1, ab_bv_some, ab_bu_some, ab_bv_thr, ab_bu_thr, ab_fx_n, ab_fx_i, ab_fx_q, ab_fx_l, ab_sh_si, ab_gr_si, ab_gl_si, cs_n, ↓reduceIte, true_or, or_true, false_or, or_false, and_true, true_and, and_false, false_and, not_true_eq_false, not_false_eq_true, eq_self, Int.reduceEq, Int.reduceLT, Int.reduceLE, Int.reduceAdd, Int.reduceMul, Int.reduceNeg, if_pos, if_neg, hs, hs0, e, n102_0 hs, n101_0 hs0 t0, a1]
/-! what would be lost -/
theorem n158_1 {dd : Nat} {d s : Int} {g h : ab_H} {b : Nat} (i : ci g) (m : mm g h b) (r1 : -2147483648 ≤ d) (r2 : d < 2147483648) (t1 : -2147483648 ≤ s) (t2 : s < 2147483648) (hn : ¬ ((0 ≤ d ∧ d < ab_gi g 1 0) ∧ (0 ≤ s ∧ s < ab_gi g 1 0))) : mR B (dd + 2) 158 [some (.inr (.inr (.inl (some 18)))), some (.inl d), some (.inl s), none, none, none] h g 1 0 0 0 := by
  have hs := m.1.1.1
  refine mR_no m ?_
  by_cases c : 0 ≤ d ∧ d < ab_gi g 1 0
  · simp (disch := omega) only [e158_0, e158_1, e158_2, e158_3, e158_6, e158_9, e158_10, e158_11, e158_14, e158_17, e158_18, e158_21, e158_22, e158_23, e158_26, e158_29, e158_30, e158_31, e158_32, e158_35, e158_36, e158_39, e158_40, e158_41, e158_44, e158_47, e158_48, e158_49, e158_50, e158_53, e158_54, e158_55, e158_56, e158_57, e158_60, e158_61, e158_62, e158_64, e158_65, e158_68, e158_69, e158_70, e158_71, e158_72, e158_75, e158_76, e158_77, e158_78, e158_79, e158_82, e158_84, e158_85, e158_88, e158_89, e158_90, e158_91, e158_92, e158_95, e158_96, e158_98, e158_99, e158_101, implies_true, Int.reduceSub, Option.isNone_some, Option.isNone_none, ab_bh_some, ab_bh_thr, ab_gs_3, ab_gl_2, ab_gl_3, ab_gt_some, ab_gc_0, ab_gk_0, Bool.false_eq_true, Bool.true_eq_false, false_implies, Nat.reduceEqDiff, ab_ge, ab_lt, ab_le, ab_gt, ab_eq, ab_ne, decide_eq_true_eq, ab_w_id, ab_w0, ab_gd_some, ab_gs_0, ab_gs_1, ab_gl_0, ab_gl_1, ab_bv_some, ab_bu_some, ab_bv_thr, ab_bu_thr, ab_fx_n, ab_fx_i, ab_fx_q, ab_fx_l, ab_sh_si, ab_gr_si, ab_gl_si, cs_n, ↓reduceIte, true_or, or_true, false_or, or_false, and_true, true_and, and_false, false_and, not_true_eq_false, not_false_eq_true, eq_self, Int.reduceEq, Int.reduceLT, Int.reduceLE, Int.reduceAdd, Int.reduceMul, Int.reduceNeg, if_pos, if_neg, hs, n103y i.1 m c.1 c.2, n103n i.1 m t1 t2 (fun q => hn ⟨c, q⟩), n102_1 hs]
  · simp (disch := omega) only [e158_0, e158_1, e158_2, e158_3, e158_6, e158_9, e158_10, e158_11, e158_14, e158_17, e158_18, e158_21, e158_22, e158_23, e158_26, e158_29, e158_30, e158_31, e158_32, e158_35, e158_36, e158_39, e158_40, e158_41, e158_44, e158_47, e158_48, e158_49, e158_50, e158_53, e158_54, e158_55, e158_56, e158_57, e158_60, e158_61, e158_62, e158_64, e158_65, e158_68, e158_69, e158_70, e158_71, e158_72, e158_75, e158_76, e158_77, e158_78, e158_79, e158_82, e158_84, e158_85, e158_88, e158_89, e158_90, e158_91, e158_92, e158_95, e158_96, e158_98, e158_99, e158_101, implies_true, Int.reduceSub, Option.isNone_some, Option.isNone_none, ab_bh_some, ab_bh_thr, ab_gs_3, ab_gl_2, ab_gl_3, ab_gt_some, ab_gc_0, ab_gk_0, Bool.false_eq_true, Bool.true_eq_false, false_implies, Nat.reduceEqDiff, ab_ge, ab_lt, ab_le, ab_gt, ab_eq, ab_ne, decide_eq_true_eq, ab_w_id, ab_w0, ab_gd_some, ab_gs_0, ab_gs_1, ab_gl_0, ab_gl_1, ab_bv_some, ab_bu_some, ab_bv_thr, ab_bu_thr, ab_fx_n, ab_fx_i, ab_fx_q, ab_fx_l, ab_sh_si, ab_gr_si, ab_gl_si, cs_n, ↓reduceIte, true_or, or_true, false_or, or_false, and_true, true_and, and_false, false_and, not_true_eq_false, not_false_eq_true, eq_self, Int.reduceEq, Int.reduceLT, Int.reduceLE, Int.reduceAdd, Int.reduceMul, Int.reduceNeg, if_pos, if_neg, hs, n103n i.1 m r1 r2 c, n102_1 hs]
theorem n158_2 {dd : Nat} {d : Int} {g h : ab_H} {b : Nat} (i : ci g) (m : mm g h b) (d1 : 0 ≤ d) (d2 : d < ab_gi g 1 0) : mR B (dd + 2) 158 [some (.inr (.inr (.inl (some 18)))), some (.inl d), some (.inl d), none, none, none] h g 2 0 0 0 := by
  have hs := m.1.1.1
  have hs0 : (ab_sh (mt h 0))[18]? = some (8, 22) := hs
  have hDS := i.1.2.1
  have e1 := n101_r (B := B) (dd := dd + 1) (w := 2) m (by omega) (by omega)
  refine mR_no m ?_
  simp (disch := omega) only [e158_0, e158_1, e158_2, e158_3, e158_6, e158_9, e158_10, e158_11, e158_14, e158_17, e158_18, e158_21, e158_22, e158_23, e158_26, e158_29, e158_30, e158_31, e158_32, e158_35, e158_36, e158_39, e158_40, e158_41, e158_44, e158_47, e158_48, e158_49, e158_50, e158_53, e158_54, e158_55, e158_56, e158_57, e158_60, e158_61, e158_62, e158_64, e158_65, e158_68, e158_69, e158_70, e158_71, e158_72, e158_75, e158_76, e158_77, e158_78, e158_79, e158_82, e158_84, e158_85, e158_88, e158_89, e158_90, e158_91, e158_92, e158_95, e158_96, e158_98, e158_99, e158_101, implies_true, Int.reduceSub, Option.isNone_some, Option.isNone_none, ab_bh_some, ab_bh_thr, ab_gs_3, ab_gl_2, ab_gl_3, ab_gt_some, ab_gc_0, ab_gk_0, Bool.false_eq_true, Bool.true_eq_false, false_implies, Nat.reduceEqDiff, ab_ge, ab_lt, ab_le, ab_gt, ab_eq, ab_ne, decide_eq_true_eq, ab_w_id, ab_w0, ab_gd_some, ab_gs_0, ab_gs_1, ab_gl_0, ab_gl_1, ab_bv_some, ab_bu_some, ab_bv_thr, ab_bu_thr, ab_fx_n, ab_fx_i, ab_fx_q, ab_fx_l, ab_sh_si, ab_gr_si, ab_gl_si, cs_n, ↓reduceIte, true_or, or_true, false_or, or_false, and_true, true_and, and_false, false_and, not_true_eq_false, not_false_eq_true, eq_self, Int.reduceEq, Int.reduceLT, Int.reduceLE, Int.reduceAdd, Int.reduceMul, Int.reduceNeg, if_pos, if_neg, hs, hs0, n103y i.1 m d1 d2, n102_0 hs, e1]
theorem n158 {dd : Nat} {d s : Int} {g h : ab_H} {b : Nat} (i : ci g) (m : mm g h b) (d1 : 0 ≤ d) (d2 : d < ab_gi g 1 0) (s1 : 0 ≤ s) (s2 : s < ab_gi g 1 0) (hne : d ≠ s) : mR B (dd + 5) 158 [some (.inr (.inr (.inl (some 18)))), some (.inl d), some (.inl s), none, none, none] h g 0 (mlost (ab_si (ab_si g 5 d 1) 5 s 1)) 0 0 := by
  have hs := m.1.1.1
  have m0 : mm g (mt h 0) b := mm_thr m
  have hm0 := m0.1
  have t0 := mt_t h 0
  have x0 : mE h (mt h 0) 0 0 := mE.si (by omega)
  have hDS := i.1.2.1
  have hb := hm0.2.2.2.2
  have F := i.1.2.2.2
  have fd := (m0.2.2.1.2.1 d d1 d2).1
  have fs := (m0.2.2.1.2.1 s s1 s2).1
  have m1 := mm_fa (v := 1) i.1 m0 d1 d2
  have hR1 : cs_R (ab_si g 5 d 1) := cs_R_si5 i.1 (Or.inr rfl)
  have f0 : ab_gi (ab_si g 5 d 1) 1 0 = ab_gi g 1 0 := by rw [ab_gi_si, if_neg (by omega)]
  have m2 := mm_fa (v := 1) hR1 m1 s1 (by rw [f0]; exact s2)
  rw [f0] at m2
  have hR2 : cs_R (ab_si (ab_si g 5 d 1) 5 s 1) := cs_R_si5 hR1 (Or.inr rfl)
  have e18 := n118 (B := B) (dd := dd) hR2 m2
  generalize hbf : b + 2 + 2 * (ab_gi g 1 0).toNat = bf at fd fs m1 m2 e18
  have hbf18 : 18 < bf := by omega
  have hsf : (ab_sh (mt h 0))[bf]? = some (1, (ab_gi g 1 0).toNat) := by rw [← hbf]; exact hm0.1.2.2.2.2.1
  have hrf : ab_gr (mt h 0) 18 6 = some bf := by rw [← hbf]; exact hm0.2.1.2.2.1
  have g4 : ∀ c x, ab_gi (ab_si (ab_si (ab_si (ab_si (mt h 0) bf d 1) bf s 1) bf d (ab_gi g 5 d)) bf s (ab_gi g 5 s)) c x = ab_gi (mt h 0) c x := fun c x => by
    rw [ab_gi_si, ab_gi_si, ab_gi_si, ab_gi_si]
    by_cases z1 : c = bf ∧ x = s
    · rw [if_pos z1, z1.1, z1.2, fs]
    · rw [if_neg z1]
      by_cases z2 : c = bf ∧ x = d
      · rw [if_pos z2, z2.1, z2.2, fd]
      · rw [if_neg z2, if_neg z1, if_neg z2]
  have m4 : mm g (ab_si (ab_si (ab_si (ab_si (mt h 0) bf d 1) bf s 1) bf d (ab_gi g 5 d)) bf s (ab_gi g 5 s)) b := mm_of m0 (fun _ _ q => q) (fun _ _ _ _ => rfl) (fun c x _ _ _ => g4 c x)
  have fs1 : ab_gi (ab_si (mt h 0) bf d 1) bf s = ab_gi g 5 s := by rw [ab_gi_si, if_neg (by omega)]; exact fs
  refine ⟨_, b, ?_, m4, (((x0.trans (mE.si (by omega))).trans (mE.si (by omega))).trans (mE.si (by omega))).trans (mE.si (by omega)), by rw [g4]; exact t0⟩
  have Fd := F d
  have Fs := F s
  simp (disch := omega) only [e158_0, e158_1, e158_2, e158_3, e158_6, e158_9, e158_10, e158_11, e158_14, e158_17, e158_18, e158_21, e158_22, e158_23, e158_26, e158_29, e158_30, e158_31, e158_32, e158_35, e158_36, e158_39, e158_40, e158_41, e158_44, e158_47, e158_48, e158_49, e158_50, e158_53, e158_54, e158_55, e158_56, e158_57, e158_60, e158_61, e158_62, e158_64, e158_65, e158_68, e158_69, e158_70, e158_71, e158_72, e158_75, e158_76, e158_77, e158_78, e158_79, e158_82, e158_84, e158_85, e158_88, e158_89, e158_90, e158_91, e158_92, e158_95, e158_96, e158_98, e158_99, e158_101, implies_true, Int.reduceSub, Option.isNone_some, Option.isNone_none, ab_bh_some, ab_bh_thr, ab_gs_3, ab_gl_2, ab_gl_3, ab_gt_some, ab_gc_0, ab_gk_0, Bool.false_eq_true, Bool.true_eq_false, false_implies, Nat.reduceEqDiff, ab_ge, ab_lt, ab_le, ab_gt, ab_eq, ab_ne, decide_eq_true_eq, ab_w_id, ab_w0, ab_gd_some, ab_gs_0, ab_gs_1, ab_gl_0, ab_gl_1, ab_bv_some, ab_bu_some, ab_bv_thr, ab_bu_thr, ab_fx_n, ab_fx_i, ab_fx_q, ab_fx_l, ab_sh_si, ab_gr_si, ab_gl_si, cs_n, ↓reduceIte, true_or, or_true, false_or, or_false, and_true, true_and, and_false, false_and, not_true_eq_false, not_false_eq_true, eq_self, Int.reduceEq, Int.reduceLT, Int.reduceLE, Int.reduceAdd, Int.reduceMul, Int.reduceNeg, if_pos, if_neg, hs, hm0.1, hsf, hrf, n103y i.1 m d1 d2, n103y i.1 m s1 s2, n102_0 hs, n101_0 hm0.1.1 t0, eq_false hne, fd, fs, e18]
/-! soundness -/
def ms1 (g : ab_H) (n : Int) : Int → Nat → Int
  | _, 0 => 1
  | t, k + 1 => if t ≠ n ∧ cs_bc g t = 0 ∧ cs_xo g (t % ab_gi g 1 0) t ≠ ab_gi g 2 (t % ab_gi g 1 0 * 8 + t) then 0 else ms1 g n (t + 1) k
def ms2 (g : ab_H) (n : Int) : Int → Nat → Int
  | _, 0 => 1
  | t, k + 1 => if t / (ab_gi g 1 0 - 1) ≠ n ∧ cs_sh g (cs_dk (ab_gi g 1 0) t) (t / (ab_gi g 1 0 - 1)) ≠ -1 ∧ cs_sh g (cs_dk (ab_gi g 1 0) t) (t / (ab_gi g 1 0 - 1)) ≠ ab_gi g 4 (cs_dk (ab_gi g 1 0) t * 8 + t / (ab_gi g 1 0 - 1)) then 0 else ms2 g n (t + 1) k
def mso (g : ab_H) : Int := if ms1 g (cs_nt g) 0 (ab_gi g 1 1).toNat = 0 then 0 else ms2 g (cs_nt g) 0 (cs_B g).toNat
theorem ms1_01 (g : ab_H) (n : Int) : ∀ (k : Nat) (t : Int), ms1 g n t k = 0 ∨ ms1 g n t k = 1
  | 0, _ => Or.inr rfl
  | k + 1, t => by
    unfold ms1
    split
    · exact Or.inl rfl
    · exact ms1_01 g n k (t + 1)
theorem ms2_01 (g : ab_H) (n : Int) : ∀ (k : Nat) (t : Int), ms2 g n t k = 0 ∨ ms2 g n t k = 1
  | 0, _ => Or.inr rfl
  | k + 1, t => by
    unfold ms2
    split
    · exact Or.inl rfl
    · exact ms2_01 g n k (t + 1)
theorem mso_01 (g : ab_H) : mso g = 0 ∨ mso g = 1 := by
  unfold mso
  split
  · exact Or.inl rfl
  · exact ms2_01 _ _ _ _
theorem n159_a {dd : Nat} {n : Int} {g h : ab_H} {b : Nat} (hR : cs_R g) (m : mm g h b) (n1 : -1 ≤ n) (n2 : n < 40) : ∀ (k : Nat) (t : Int), 0 ≤ t → t + k = ab_gi g 1 1 →
    (ms1 g n t k = 0 → ab_E B (dd + 2) 159 24 [some (.inr (.inr (.inl (some 18)))), some (.inl n), some (.inl t)] [] h = some (.inl (some (.inl 0)), h)) ∧ (ms1 g n t k = 1 → ab_E B (dd + 2) 159 24 [some (.inr (.inr (.inl (some 18)))), some (.inl n), some (.inl t)] [] h = ab_E B (dd + 2) 159 78 [some (.inr (.inr (.inl (some 18)))), some (.inl n), some (.inl (ab_gi g 1 1))] [] h)
  | 0, t, q1, q2 => by
    have hs := m.1.1.1
    have e2 := m.2.1.2.1
    have hDS := hR.2.1
    have e : t = ab_gi g 1 1 := by omega
    refine ⟨fun q => ?_, fun _ => ?_⟩
    · unfold ms1 at q; omega
    · rw [e159_24]
      simp (disch := omega) only [e159_0, e159_1, e159_4, e159_7, e159_8, e159_11, e159_12, e159_13, e159_16, e159_17, e159_18, e159_21, e159_22, e159_23, e159_25, e159_26, e159_29, e159_32, e159_33, e159_34, e159_37, e159_38, e159_39, e159_42, e159_45, e159_46, e159_47, e159_48, e159_51, e159_52, e159_55, e159_56, e159_59, e159_60, e159_61, e159_64, e159_65, e159_66, e159_67, e159_70, e159_71, e159_72, e159_75, e159_79, e159_81, e159_82, e159_85, e159_88, e159_89, e159_90, e159_93, e159_94, e159_97, e159_98, e159_99, e159_102, e159_103, e159_106, e159_107, e159_108, e159_111, e159_112, e159_115, e159_116, e159_117, e159_120, e159_121, e159_122, e159_125, e159_129, e159_132, e159_133, e159_134, e159_137, e159_138, e159_139, e159_140, e159_141, e159_144, e159_147, e159_148, e159_151, e159_152, implies_true, Int.reduceSub, Option.isNone_some, Option.isNone_none, ab_bh_some, ab_bh_thr, ab_gs_3, ab_gl_2, ab_gl_3, ab_gt_some, ab_gc_0, ab_gk_0, Bool.false_eq_true, Bool.true_eq_false, false_implies, Nat.reduceEqDiff, ab_ge, ab_lt, ab_le, ab_gt, ab_eq, ab_ne, decide_eq_true_eq, ab_w_id, ab_w0, ab_gd_some, ab_gs_0, ab_gs_1, ab_gl_0, ab_gl_1, ab_bv_some, ab_bu_some, ab_bv_thr, ab_bu_thr, ab_fx_n, ab_fx_i, ab_fx_q, ab_fx_l, ab_sh_si, ab_gr_si, ab_gl_si, cs_n, ↓reduceIte, true_or, or_true, false_or, or_false, and_true, true_and, and_false, false_and, not_true_eq_false, not_false_eq_true, eq_self, Int.reduceEq, Int.reduceLT, Int.reduceLE, Int.reduceAdd, Int.reduceMul, Int.reduceNeg, if_pos, if_neg, hs, e2, e]
  | k + 1, t, q1, q2 => by
    have hm := m.1
    have e2 := m.2.1.2.1
    have hDS := hR.2.1
    have hD : 3 ≤ ab_gi g 1 0 := by omega
    have sd1 : 0 ≤ t % ab_gi g 1 0 := Int.emod_nonneg _ (by omega)
    have sd2 : t % ab_gi g 1 0 < ab_gi g 1 0 := Int.emod_lt_of_pos _ (by omega)
    have e13 := n113 (B := B) (dd := dd) hR m q1 (show t < ab_gi g 1 1 by omega)
    have e8 := n108 (B := B) (dd := dd + 1) hR m hD q1 (show t < 40 by omega)
    have e14 := n114 (B := B) (dd := dd + 1) hR m sd1 (show t % ab_gi g 1 0 < 8 by omega) q1 (show t < ab_gi g 1 1 by omega)
    have hrow := hm.2.2.1 _ sd1 sd2
    have v := (m.2.2.1.1 _ t sd1 sd2 q1 (show t < ab_gi g 1 1 by omega)).1
    have hv := hR.2.2.1 (t % ab_gi g 1 0 * 8 + t) (by omega) (by omega)
    have hbc := cs_bc_le hR t
    have hx := cs_xo_rng (d := t % ab_gi g 1 0) hR q1 (show t < ab_gi g 1 1 by omega)
    have ih := n159_a (dd := dd) hR m n1 n2 k (t + 1) (by omega) (by omega)
    have st : ∀ r, ab_E B (dd + 2) 159 24 [some (.inr (.inr (.inl (some 18)))), some (.inl n), some (.inl (t + 1))] [] h = r → ¬ (t ≠ n ∧ cs_bc g t = 0 ∧ cs_xo g (t % ab_gi g 1 0) t ≠ ab_gi g 2 (t % ab_gi g 1 0 * 8 + t)) → ab_E B (dd + 2) 159 24 [some (.inr (.inr (.inl (some 18)))), some (.inl n), some (.inl t)] [] h = r := fun r hr hc => by
      rw [← hr, e159_24]
      by_cases z1 : t = n
      · simp (disch := omega) only [e159_0, e159_1, e159_4, e159_7, e159_8, e159_11, e159_12, e159_13, e159_16, e159_17, e159_18, e159_21, e159_22, e159_23, e159_25, e159_26, e159_29, e159_32, e159_33, e159_34, e159_37, e159_38, e159_39, e159_42, e159_45, e159_46, e159_47, e159_48, e159_51, e159_52, e159_55, e159_56, e159_59, e159_60, e159_61, e159_64, e159_65, e159_66, e159_67, e159_70, e159_71, e159_72, e159_75, e159_79, e159_81, e159_82, e159_85, e159_88, e159_89, e159_90, e159_93, e159_94, e159_97, e159_98, e159_99, e159_102, e159_103, e159_106, e159_107, e159_108, e159_111, e159_112, e159_115, e159_116, e159_117, e159_120, e159_121, e159_122, e159_125, e159_129, e159_132, e159_133, e159_134, e159_137, e159_138, e159_139, e159_140, e159_141, e159_144, e159_147, e159_148, e159_151, e159_152, implies_true, Int.reduceSub, Option.isNone_some, Option.isNone_none, ab_bh_some, ab_bh_thr, ab_gs_3, ab_gl_2, ab_gl_3, ab_gt_some, ab_gc_0, ab_gk_0, Bool.false_eq_true, Bool.true_eq_false, false_implies, Nat.reduceEqDiff, ab_ge, ab_lt, ab_le, ab_gt, ab_eq, ab_ne, decide_eq_true_eq, ab_w_id, ab_w0, ab_gd_some, ab_gs_0, ab_gs_1, ab_gl_0, ab_gl_1, ab_bv_some, ab_bu_some, ab_bv_thr, ab_bu_thr, ab_fx_n, ab_fx_i, ab_fx_q, ab_fx_l, ab_sh_si, ab_gr_si, ab_gl_si, cs_n, ↓reduceIte, true_or, or_true, false_or, or_false, and_true, true_and, and_false, false_and, not_true_eq_false, not_false_eq_true, eq_self, Int.reduceEq, Int.reduceLT, Int.reduceLE, Int.reduceAdd, Int.reduceMul, Int.reduceNeg, if_pos, if_neg, hm.1, hm.2.1, e2, eq_true z1]
      · by_cases z2 : cs_bc g t = 0
        · have z3 : cs_xo g (t % ab_gi g 1 0) t = ab_gi g 2 (t % ab_gi g 1 0 * 8 + t) := Decidable.byContradiction fun q => hc ⟨z1, z2, q⟩
          simp (disch := omega) only [e159_0, e159_1, e159_4, e159_7, e159_8, e159_11, e159_12, e159_13, e159_16, e159_17, e159_18, e159_21, e159_22, e159_23, e159_25, e159_26, e159_29, e159_32, e159_33, e159_34, e159_37, e159_38, e159_39, e159_42, e159_45, e159_46, e159_47, e159_48, e159_51, e159_52, e159_55, e159_56, e159_59, e159_60, e159_61, e159_64, e159_65, e159_66, e159_67, e159_70, e159_71, e159_72, e159_75, e159_79, e159_81, e159_82, e159_85, e159_88, e159_89, e159_90, e159_93, e159_94, e159_97, e159_98, e159_99, e159_102, e159_103, e159_106, e159_107, e159_108, e159_111, e159_112, e159_115, e159_116, e159_117, e159_120, e159_121, e159_122, e159_125, e159_129, e159_132, e159_133, e159_134, e159_137, e159_138, e159_139, e159_140, e159_141, e159_144, e159_147, e159_148, e159_151, e159_152, implies_true, Int.reduceSub, Option.isNone_some, Option.isNone_none, ab_bh_some, ab_bh_thr, ab_gs_3, ab_gl_2, ab_gl_3, ab_gt_some, ab_gc_0, ab_gk_0, Bool.false_eq_true, Bool.true_eq_false, false_implies, Nat.reduceEqDiff, ab_ge, ab_lt, ab_le, ab_gt, ab_eq, ab_ne, decide_eq_true_eq, ab_w_id, ab_w0, ab_gd_some, ab_gs_0, ab_gs_1, ab_gl_0, ab_gl_1, ab_bv_some, ab_bu_some, ab_bv_thr, ab_bu_thr, ab_fx_n, ab_fx_i, ab_fx_q, ab_fx_l, ab_sh_si, ab_gr_si, ab_gl_si, cs_n, ↓reduceIte, true_or, or_true, false_or, or_false, and_true, true_and, and_false, false_and, not_true_eq_false, not_false_eq_true, eq_self, Int.reduceEq, Int.reduceLT, Int.reduceLE, Int.reduceAdd, Int.reduceMul, Int.reduceNeg, if_pos, if_neg, hm.1, hm.2.1, e2, eq_false z1, e13, z2, e8, e14, hrow, v, z3]
        · simp (disch := omega) only [e159_0, e159_1, e159_4, e159_7, e159_8, e159_11, e159_12, e159_13, e159_16, e159_17, e159_18, e159_21, e159_22, e159_23, e159_25, e159_26, e159_29, e159_32, e159_33, e159_34, e159_37, e159_38, e159_39, e159_42, e159_45, e159_46, e159_47, e159_48, e159_51, e159_52, e159_55, e159_56, e159_59, e159_60, e159_61, e159_64, e159_65, e159_66, e159_67, e159_70, e159_71, e159_72, e159_75, e159_79, e159_81, e159_82, e159_85, e159_88, e159_89, e159_90, e159_93, e159_94, e159_97, e159_98, e159_99, e159_102, e159_103, e159_106, e159_107, e159_108, e159_111, e159_112, e159_115, e159_116, e159_117, e159_120, e159_121, e159_122, e159_125, e159_129, e159_132, e159_133, e159_134, e159_137, e159_138, e159_139, e159_140, e159_141, e159_144, e159_147, e159_148, e159_151, e159_152, implies_true, Int.reduceSub, Option.isNone_some, Option.isNone_none, ab_bh_some, ab_bh_thr, ab_gs_3, ab_gl_2, ab_gl_3, ab_gt_some, ab_gc_0, ab_gk_0, Bool.false_eq_true, Bool.true_eq_false, false_implies, Nat.reduceEqDiff, ab_ge, ab_lt, ab_le, ab_gt, ab_eq, ab_ne, decide_eq_true_eq, ab_w_id, ab_w0, ab_gd_some, ab_gs_0, ab_gs_1, ab_gl_0, ab_gl_1, ab_bv_some, ab_bu_some, ab_bv_thr, ab_bu_thr, ab_fx_n, ab_fx_i, ab_fx_q, ab_fx_l, ab_sh_si, ab_gr_si, ab_gl_si, cs_n, ↓reduceIte, true_or, or_true, false_or, or_false, and_true, true_and, and_false, false_and, not_true_eq_false, not_false_eq_true, eq_self, Int.reduceEq, Int.reduceLT, Int.reduceLE, Int.reduceAdd, Int.reduceMul, Int.reduceNeg, if_pos, if_neg, hm.1, hm.2.1, e2, eq_false z1, e13, eq_false z2]
    unfold ms1
    by_cases c : t ≠ n ∧ cs_bc g t = 0 ∧ cs_xo g (t % ab_gi g 1 0) t ≠ ab_gi g 2 (t % ab_gi g 1 0 * 8 + t)
    · rw [if_pos c]
      refine ⟨fun _ => ?_, fun q => by omega⟩
      rw [e159_24]
      simp (disch := omega) only [e159_0, e159_1, e159_4, e159_7, e159_8, e159_11, e159_12, e159_13, e159_16, e159_17, e159_18, e159_21, e159_22, e159_23, e159_25, e159_26, e159_29, e159_32, e159_33, e159_34, e159_37, e159_38, e159_39, e159_42, e159_45, e159_46, e159_47, e159_48, e159_51, e159_52, e159_55, e159_56, e159_59, e159_60, e159_61, e159_64, e159_65, e159_66, e159_67, e159_70, e159_71, e159_72, e159_75, e159_79, e159_81, e159_82, e159_85, e159_88, e159_89, e159_90, e159_93, e159_94, e159_97, e159_98, e159_99, e159_102, e159_103, e159_106, e159_107, e159_108, e159_111, e159_112, e159_115, e159_116, e159_117, e159_120, e159_121, e159_122, e159_125, e159_129, e159_132, e159_133, e159_134, e159_137, e159_138, e159_139, e159_140, e159_141, e159_144, e159_147, e159_148, e159_151, e159_152, implies_true, Int.reduceSub, Option.isNone_some, Option.isNone_none, ab_bh_some, ab_bh_thr, ab_gs_3, ab_gl_2, ab_gl_3, ab_gt_some, ab_gc_0, ab_gk_0, Bool.false_eq_true, Bool.true_eq_false, false_implies, Nat.reduceEqDiff, ab_ge, ab_lt, ab_le, ab_gt, ab_eq, ab_ne, decide_eq_true_eq, ab_w_id, ab_w0, ab_gd_some, ab_gs_0, ab_gs_1, ab_gl_0, ab_gl_1, ab_bv_some, ab_bu_some, ab_bv_thr, ab_bu_thr, ab_fx_n, ab_fx_i, ab_fx_q, ab_fx_l, ab_sh_si, ab_gr_si, ab_gl_si, cs_n, ↓reduceIte, true_or, or_true, false_or, or_false, and_true, true_and, and_false, false_and, not_true_eq_false, not_false_eq_true, eq_self, Int.reduceEq, Int.reduceLT, Int.reduceLE, Int.reduceAdd, Int.reduceMul, Int.reduceNeg, if_pos, if_neg, hm.1, hm.2.1, e2, eq_false c.1, e13, eq_true c.2.1, e8, e14, hrow, v, eq_false c.2.2]
    · rw [if_neg c]
      exact ⟨fun q => st _ (ih.1 q) c, fun q => st _ (ih.2 q) c⟩
theorem n159_b {dd : Nat} {n : Int} {g h : ab_H} {b : Nat} (hR : cs_R g) (m : mm g h b) (n1 : -1 ≤ n) (n2 : n < 40) : ∀ (k : Nat) (t : Int), 0 ≤ t → t + k = cs_B g →
    (ms2 g n t k = 0 → ab_E B (dd + 4) 159 80 [some (.inr (.inr (.inl (some 18)))), some (.inl n), some (.inl t)] [] h = some (.inl (some (.inl 0)), h)) ∧ (ms2 g n t k = 1 → ab_E B (dd + 4) 159 80 [some (.inr (.inr (.inl (some 18)))), some (.inl n), some (.inl t)] [] h = ab_E B (dd + 4) 159 128 [some (.inr (.inr (.inl (some 18)))), some (.inl n), some (.inl (cs_B g))] [] h)
  | 0, t, q1, q2 => by
    have hs := m.1.1.1
    have hB := cs_B_le hR
    have e6 := n106 (B := B) (dd := dd + 3) hR m
    have e : t = cs_B g := by omega
    refine ⟨fun q => ?_, fun _ => ?_⟩
    · unfold ms2 at q; omega
    · rw [e159_80]
      simp (disch := omega) only [e159_0, e159_1, e159_4, e159_7, e159_8, e159_11, e159_12, e159_13, e159_16, e159_17, e159_18, e159_21, e159_22, e159_23, e159_25, e159_26, e159_29, e159_32, e159_33, e159_34, e159_37, e159_38, e159_39, e159_42, e159_45, e159_46, e159_47, e159_48, e159_51, e159_52, e159_55, e159_56, e159_59, e159_60, e159_61, e159_64, e159_65, e159_66, e159_67, e159_70, e159_71, e159_72, e159_75, e159_79, e159_81, e159_82, e159_85, e159_88, e159_89, e159_90, e159_93, e159_94, e159_97, e159_98, e159_99, e159_102, e159_103, e159_106, e159_107, e159_108, e159_111, e159_112, e159_115, e159_116, e159_117, e159_120, e159_121, e159_122, e159_125, e159_129, e159_132, e159_133, e159_134, e159_137, e159_138, e159_139, e159_140, e159_141, e159_144, e159_147, e159_148, e159_151, e159_152, implies_true, Int.reduceSub, Option.isNone_some, Option.isNone_none, ab_bh_some, ab_bh_thr, ab_gs_3, ab_gl_2, ab_gl_3, ab_gt_some, ab_gc_0, ab_gk_0, Bool.false_eq_true, Bool.true_eq_false, false_implies, Nat.reduceEqDiff, ab_ge, ab_lt, ab_le, ab_gt, ab_eq, ab_ne, decide_eq_true_eq, ab_w_id, ab_w0, ab_gd_some, ab_gs_0, ab_gs_1, ab_gl_0, ab_gl_1, ab_bv_some, ab_bu_some, ab_bv_thr, ab_bu_thr, ab_fx_n, ab_fx_i, ab_fx_q, ab_fx_l, ab_sh_si, ab_gr_si, ab_gl_si, cs_n, ↓reduceIte, true_or, or_true, false_or, or_false, and_true, true_and, and_false, false_and, not_true_eq_false, not_false_eq_true, eq_self, Int.reduceEq, Int.reduceLT, Int.reduceLE, Int.reduceAdd, Int.reduceMul, Int.reduceNeg, if_pos, if_neg, hs, e6, e]
  | k + 1, t, q1, q2 => by
    have hm := m.1
    have hB := cs_B_le hR
    have e6 := n106 (B := B) (dd := dd + 3) hR m
    obtain ⟨hD, h3, b1, b2, b3, b4, b5, b6⟩ := cs_B_D hR q1 (show t < cs_B g by omega)
    have e7 := n107 (B := B) (dd := dd + 3) hR m hD q1 b1
    have e17 := n117 (B := B) (dd := dd) hR m q1 (show t < cs_B g by omega)
    have hr := cs_sh_rng hR b4 b5 b2 b3
    have v := m.2.2.1.2.2 t q1 h3
    have hDS := hR.2.1
    have hv := hR.2.2.1 (cs_dk (ab_gi g 1 0) t * 8 + t / (ab_gi g 1 0 - 1)) (by omega) (by omega)
    have ih := n159_b (dd := dd) hR m n1 n2 k (t + 1) (by omega) (by omega)
    have st : ∀ r, ab_E B (dd + 4) 159 80 [some (.inr (.inr (.inl (some 18)))), some (.inl n), some (.inl (t + 1))] [] h = r → ¬ (t / (ab_gi g 1 0 - 1) ≠ n ∧ cs_sh g (cs_dk (ab_gi g 1 0) t) (t / (ab_gi g 1 0 - 1)) ≠ -1 ∧ cs_sh g (cs_dk (ab_gi g 1 0) t) (t / (ab_gi g 1 0 - 1)) ≠ ab_gi g 4 (cs_dk (ab_gi g 1 0) t * 8 + t / (ab_gi g 1 0 - 1))) → ab_E B (dd + 4) 159 80 [some (.inr (.inr (.inl (some 18)))), some (.inl n), some (.inl t)] [] h = r := fun r hr' hc => by
      rw [← hr', e159_80]
      by_cases z1 : t / (ab_gi g 1 0 - 1) = n
      · simp (disch := omega) only [e159_0, e159_1, e159_4, e159_7, e159_8, e159_11, e159_12, e159_13, e159_16, e159_17, e159_18, e159_21, e159_22, e159_23, e159_25, e159_26, e159_29, e159_32, e159_33, e159_34, e159_37, e159_38, e159_39, e159_42, e159_45, e159_46, e159_47, e159_48, e159_51, e159_52, e159_55, e159_56, e159_59, e159_60, e159_61, e159_64, e159_65, e159_66, e159_67, e159_70, e159_71, e159_72, e159_75, e159_79, e159_81, e159_82, e159_85, e159_88, e159_89, e159_90, e159_93, e159_94, e159_97, e159_98, e159_99, e159_102, e159_103, e159_106, e159_107, e159_108, e159_111, e159_112, e159_115, e159_116, e159_117, e159_120, e159_121, e159_122, e159_125, e159_129, e159_132, e159_133, e159_134, e159_137, e159_138, e159_139, e159_140, e159_141, e159_144, e159_147, e159_148, e159_151, e159_152, implies_true, Int.reduceSub, Option.isNone_some, Option.isNone_none, ab_bh_some, ab_bh_thr, ab_gs_3, ab_gl_2, ab_gl_3, ab_gt_some, ab_gc_0, ab_gk_0, Bool.false_eq_true, Bool.true_eq_false, false_implies, Nat.reduceEqDiff, ab_ge, ab_lt, ab_le, ab_gt, ab_eq, ab_ne, decide_eq_true_eq, ab_w_id, ab_w0, ab_gd_some, ab_gs_0, ab_gs_1, ab_gl_0, ab_gl_1, ab_bv_some, ab_bu_some, ab_bv_thr, ab_bu_thr, ab_fx_n, ab_fx_i, ab_fx_q, ab_fx_l, ab_sh_si, ab_gr_si, ab_gl_si, cs_n, ↓reduceIte, true_or, or_true, false_or, or_false, and_true, true_and, and_false, false_and, not_true_eq_false, not_false_eq_true, eq_self, Int.reduceEq, Int.reduceLT, Int.reduceLE, Int.reduceAdd, Int.reduceMul, Int.reduceNeg, if_pos, if_neg, hm.1, hm.2.1, e6, e7, eq_true z1]
      · by_cases z2 : cs_sh g (cs_dk (ab_gi g 1 0) t) (t / (ab_gi g 1 0 - 1)) = -1
        · simp (disch := omega) only [e159_0, e159_1, e159_4, e159_7, e159_8, e159_11, e159_12, e159_13, e159_16, e159_17, e159_18, e159_21, e159_22, e159_23, e159_25, e159_26, e159_29, e159_32, e159_33, e159_34, e159_37, e159_38, e159_39, e159_42, e159_45, e159_46, e159_47, e159_48, e159_51, e159_52, e159_55, e159_56, e159_59, e159_60, e159_61, e159_64, e159_65, e159_66, e159_67, e159_70, e159_71, e159_72, e159_75, e159_79, e159_81, e159_82, e159_85, e159_88, e159_89, e159_90, e159_93, e159_94, e159_97, e159_98, e159_99, e159_102, e159_103, e159_106, e159_107, e159_108, e159_111, e159_112, e159_115, e159_116, e159_117, e159_120, e159_121, e159_122, e159_125, e159_129, e159_132, e159_133, e159_134, e159_137, e159_138, e159_139, e159_140, e159_141, e159_144, e159_147, e159_148, e159_151, e159_152, implies_true, Int.reduceSub, Option.isNone_some, Option.isNone_none, ab_bh_some, ab_bh_thr, ab_gs_3, ab_gl_2, ab_gl_3, ab_gt_some, ab_gc_0, ab_gk_0, Bool.false_eq_true, Bool.true_eq_false, false_implies, Nat.reduceEqDiff, ab_ge, ab_lt, ab_le, ab_gt, ab_eq, ab_ne, decide_eq_true_eq, ab_w_id, ab_w0, ab_gd_some, ab_gs_0, ab_gs_1, ab_gl_0, ab_gl_1, ab_bv_some, ab_bu_some, ab_bv_thr, ab_bu_thr, ab_fx_n, ab_fx_i, ab_fx_q, ab_fx_l, ab_sh_si, ab_gr_si, ab_gl_si, cs_n, ↓reduceIte, true_or, or_true, false_or, or_false, and_true, true_and, and_false, false_and, not_true_eq_false, not_false_eq_true, eq_self, Int.reduceEq, Int.reduceLT, Int.reduceLE, Int.reduceAdd, Int.reduceMul, Int.reduceNeg, if_pos, if_neg, hm.1, hm.2.1, e6, e7, eq_false z1, e17, eq_true z2]
        · have z3 : cs_sh g (cs_dk (ab_gi g 1 0) t) (t / (ab_gi g 1 0 - 1)) = ab_gi g 4 (cs_dk (ab_gi g 1 0) t * 8 + t / (ab_gi g 1 0 - 1)) := Decidable.byContradiction fun q => hc ⟨z1, z2, q⟩
          simp (disch := omega) only [e159_0, e159_1, e159_4, e159_7, e159_8, e159_11, e159_12, e159_13, e159_16, e159_17, e159_18, e159_21, e159_22, e159_23, e159_25, e159_26, e159_29, e159_32, e159_33, e159_34, e159_37, e159_38, e159_39, e159_42, e159_45, e159_46, e159_47, e159_48, e159_51, e159_52, e159_55, e159_56, e159_59, e159_60, e159_61, e159_64, e159_65, e159_66, e159_67, e159_70, e159_71, e159_72, e159_75, e159_79, e159_81, e159_82, e159_85, e159_88, e159_89, e159_90, e159_93, e159_94, e159_97, e159_98, e159_99, e159_102, e159_103, e159_106, e159_107, e159_108, e159_111, e159_112, e159_115, e159_116, e159_117, e159_120, e159_121, e159_122, e159_125, e159_129, e159_132, e159_133, e159_134, e159_137, e159_138, e159_139, e159_140, e159_141, e159_144, e159_147, e159_148, e159_151, e159_152, implies_true, Int.reduceSub, Option.isNone_some, Option.isNone_none, ab_bh_some, ab_bh_thr, ab_gs_3, ab_gl_2, ab_gl_3, ab_gt_some, ab_gc_0, ab_gk_0, Bool.false_eq_true, Bool.true_eq_false, false_implies, Nat.reduceEqDiff, ab_ge, ab_lt, ab_le, ab_gt, ab_eq, ab_ne, decide_eq_true_eq, ab_w_id, ab_w0, ab_gd_some, ab_gs_0, ab_gs_1, ab_gl_0, ab_gl_1, ab_bv_some, ab_bu_some, ab_bv_thr, ab_bu_thr, ab_fx_n, ab_fx_i, ab_fx_q, ab_fx_l, ab_sh_si, ab_gr_si, ab_gl_si, cs_n, ↓reduceIte, true_or, or_true, false_or, or_false, and_true, true_and, and_false, false_and, not_true_eq_false, not_false_eq_true, eq_self, Int.reduceEq, Int.reduceLT, Int.reduceLE, Int.reduceAdd, Int.reduceMul, Int.reduceNeg, if_pos, if_neg, hm.1, hm.2.1, e6, e7, eq_false z1, e17, eq_false z2, v, eq_true z3]
    unfold ms2
    by_cases c : t / (ab_gi g 1 0 - 1) ≠ n ∧ cs_sh g (cs_dk (ab_gi g 1 0) t) (t / (ab_gi g 1 0 - 1)) ≠ -1 ∧ cs_sh g (cs_dk (ab_gi g 1 0) t) (t / (ab_gi g 1 0 - 1)) ≠ ab_gi g 4 (cs_dk (ab_gi g 1 0) t * 8 + t / (ab_gi g 1 0 - 1))
    · rw [if_pos c]
      refine ⟨fun _ => ?_, fun q => by omega⟩
      rw [e159_80]
      simp (disch := omega) only [e159_0, e159_1, e159_4, e159_7, e159_8, e159_11, e159_12, e159_13, e159_16, e159_17, e159_18, e159_21, e159_22, e159_23, e159_25, e159_26, e159_29, e159_32, e159_33, e159_34, e159_37, e159_38, e159_39, e159_42, e159_45, e159_46, e159_47, e159_48, e159_51, e159_52, e159_55, e159_56, e159_59, e159_60, e159_61, e159_64, e159_65, e159_66, e159_67, e159_70, e159_71, e159_72, e159_75, e159_79, e159_81, e159_82, e159_85, e159_88, e159_89, e159_90, e159_93, e159_94, e159_97, e159_98, e159_99, e159_102, e159_103, e159_106, e159_107, e159_108, e159_111, e159_112, e159_115, e159_116, e159_117, e159_120, e159_121, e159_122, e159_125, e159_129, e159_132, e159_133, e159_134, e159_137, e159_138, e159_139, e159_140, e159_141, e159_144, e159_147, e159_148, e159_151, e159_152, implies_true, Int.reduceSub, Option.isNone_some, Option.isNone_none, ab_bh_some, ab_bh_thr, ab_gs_3, ab_gl_2, ab_gl_3, ab_gt_some, ab_gc_0, ab_gk_0, Bool.false_eq_true, Bool.true_eq_false, false_implies, Nat.reduceEqDiff, ab_ge, ab_lt, ab_le, ab_gt, ab_eq, ab_ne, decide_eq_true_eq, ab_w_id, ab_w0, ab_gd_some, ab_gs_0, ab_gs_1, ab_gl_0, ab_gl_1, ab_bv_some, ab_bu_some, ab_bv_thr, ab_bu_thr, ab_fx_n, ab_fx_i, ab_fx_q, ab_fx_l, ab_sh_si, ab_gr_si, ab_gl_si, cs_n, ↓reduceIte, true_or, or_true, false_or, or_false, and_true, true_and, and_false, false_and, not_true_eq_false, not_false_eq_true, eq_self, Int.reduceEq, Int.reduceLT, Int.reduceLE, Int.reduceAdd, Int.reduceMul, Int.reduceNeg, if_pos, if_neg, hm.1, hm.2.1, e6, e7, eq_false c.1, e17, eq_false c.2.1, v, eq_false c.2.2]
    · rw [if_neg c]
      exact ⟨fun q => st _ (ih.1 q) c, fun q => st _ (ih.2 q) c⟩
theorem n159 {dd : Nat} {g h : ab_H} {b : Nat} (i : ci g) (m : mm g h b) :
    ∃ h', ab_E B (dd + 9) 159 0 [some (.inr (.inr (.inl (some 18)))), none, none] [] h = some (.inl (some (.inl (mso g))), h') ∧ mm g h' b ∧ mW h h' 0 0 := by
  have hR := i.1
  have hDS := hR.2.1
  have hm := m.1
  have hK : pk_ok (ck_K g) := ck_K_ok i.2.1.1.1
  have hn : -1 ≤ cs_nt g ∧ cs_nt g < 40 := by
    unfold cs_nt
    rcases i.2.2.2.1 with ⟨q, -⟩ | ⟨⟨q1, q2⟩, -⟩
    · rw [if_neg (by omega)]; omega
    · rw [if_pos q1]
      obtain ⟨hD, h3, b1, b2, b3, -⟩ := cs_B_D hR q1 q2
      omega
  have pre : ab_E B (dd + 9) 159 0 [some (.inr (.inr (.inl (some 18)))), none, none] [] h = ab_E B (dd + 9) 159 24 [some (.inr (.inr (.inl (some 18)))), some (.inl (cs_nt g)), some (.inl 0)] [] h := by
    unfold cs_nt
    rcases m.2.2.2.2.1 with ⟨n1, n2, -, -⟩ | ⟨c, n1, -, n3, n4, -, -, n7⟩
    · rw [if_neg (by omega)]
      simp (disch := omega) only [e159_0, e159_1, e159_4, e159_7, e159_8, e159_11, e159_12, e159_13, e159_16, e159_17, e159_18, e159_21, e159_22, e159_23, e159_25, e159_26, e159_29, e159_32, e159_33, e159_34, e159_37, e159_38, e159_39, e159_42, e159_45, e159_46, e159_47, e159_48, e159_51, e159_52, e159_55, e159_56, e159_59, e159_60, e159_61, e159_64, e159_65, e159_66, e159_67, e159_70, e159_71, e159_72, e159_75, e159_79, e159_81, e159_82, e159_85, e159_88, e159_89, e159_90, e159_93, e159_94, e159_97, e159_98, e159_99, e159_102, e159_103, e159_106, e159_107, e159_108, e159_111, e159_112, e159_115, e159_116, e159_117, e159_120, e159_121, e159_122, e159_125, e159_129, e159_132, e159_133, e159_134, e159_137, e159_138, e159_139, e159_140, e159_141, e159_144, e159_147, e159_148, e159_151, e159_152, implies_true, Int.reduceSub, Option.isNone_some, Option.isNone_none, ab_bh_some, ab_bh_thr, ab_gs_3, ab_gl_2, ab_gl_3, ab_gt_some, ab_gc_0, ab_gk_0, Bool.false_eq_true, Bool.true_eq_false, false_implies, Nat.reduceEqDiff, ab_ge, ab_lt, ab_le, ab_gt, ab_eq, ab_ne, decide_eq_true_eq, ab_w_id, ab_w0, ab_gd_some, ab_gs_0, ab_gs_1, ab_gl_0, ab_gl_1, ab_bv_some, ab_bu_some, ab_bv_thr, ab_bu_thr, ab_fx_n, ab_fx_i, ab_fx_q, ab_fx_l, ab_sh_si, ab_gr_si, ab_gl_si, cs_n, ↓reduceIte, true_or, or_true, false_or, or_false, and_true, true_and, and_false, false_and, not_true_eq_false, not_false_eq_true, eq_self, Int.reduceEq, Int.reduceLT, Int.reduceLE, Int.reduceAdd, Int.reduceMul, Int.reduceNeg, if_pos, if_neg, hm.1, n1]
    · rw [if_pos n7]
      have q2 : ab_gi g 0 3 < cs_B g := by
        rcases i.2.2.2.1 with ⟨q, -⟩ | ⟨⟨q1, q2⟩, -⟩
        · omega
        · exact q2
      obtain ⟨hD, h3, b1, b2, b3, -⟩ := cs_B_D hR n7 q2
      have e7 := n107 (B := B) (dd := dd + 8) hR m hD n7 b1
      simp (disch := omega) only [e159_0, e159_1, e159_4, e159_7, e159_8, e159_11, e159_12, e159_13, e159_16, e159_17, e159_18, e159_21, e159_22, e159_23, e159_25, e159_26, e159_29, e159_32, e159_33, e159_34, e159_37, e159_38, e159_39, e159_42, e159_45, e159_46, e159_47, e159_48, e159_51, e159_52, e159_55, e159_56, e159_59, e159_60, e159_61, e159_64, e159_65, e159_66, e159_67, e159_70, e159_71, e159_72, e159_75, e159_79, e159_81, e159_82, e159_85, e159_88, e159_89, e159_90, e159_93, e159_94, e159_97, e159_98, e159_99, e159_102, e159_103, e159_106, e159_107, e159_108, e159_111, e159_112, e159_115, e159_116, e159_117, e159_120, e159_121, e159_122, e159_125, e159_129, e159_132, e159_133, e159_134, e159_137, e159_138, e159_139, e159_140, e159_141, e159_144, e159_147, e159_148, e159_151, e159_152, implies_true, Int.reduceSub, Option.isNone_some, Option.isNone_none, ab_bh_some, ab_bh_thr, ab_gs_3, ab_gl_2, ab_gl_3, ab_gt_some, ab_gc_0, ab_gk_0, Bool.false_eq_true, Bool.true_eq_false, false_implies, Nat.reduceEqDiff, ab_ge, ab_lt, ab_le, ab_gt, ab_eq, ab_ne, decide_eq_true_eq, ab_w_id, ab_w0, ab_gd_some, ab_gs_0, ab_gs_1, ab_gl_0, ab_gl_1, ab_bv_some, ab_bu_some, ab_bv_thr, ab_bu_thr, ab_fx_n, ab_fx_i, ab_fx_q, ab_fx_l, ab_sh_si, ab_gr_si, ab_gl_si, cs_n, ↓reduceIte, true_or, or_true, false_or, or_false, and_true, true_and, and_false, false_and, not_true_eq_false, not_false_eq_true, eq_self, Int.reduceEq, Int.reduceLT, Int.reduceLE, Int.reduceAdd, Int.reduceMul, Int.reduceNeg, if_pos, if_neg, hm.1, n1, n3, n4, e7]
  have la := n159_a (B := B) (dd := dd + 7) hR m hn.1 hn.2 (ab_gi g 1 1).toNat 0 (by omega) (by omega)
  have hB := cs_B_le hR
  have lb := n159_b (B := B) (dd := dd + 5) hR m hn.1 hn.2 (cs_B g).toNat 0 (by omega) (by omega)
  unfold mso
  rcases ms1_01 g (cs_nt g) (ab_gi g 1 1).toNat 0 with q | q
  · rw [if_pos q]
    exact ⟨h, by rw [pre, la.1 q], m, mW.rf⟩
  · rw [if_neg (by omega)]
    have pre2 : ab_E B (dd + 9) 159 0 [some (.inr (.inr (.inl (some 18)))), none, none] [] h = ab_E B (dd + 9) 159 80 [some (.inr (.inr (.inl (some 18)))), some (.inl (cs_nt g)), some (.inl 0)] [] h := by
      rw [pre, la.2 q]
      simp (disch := omega) only [e159_78, e159_79, implies_true, Int.reduceSub, Option.isNone_some, Option.isNone_none, ab_bh_some, ab_bh_thr, ab_gs_3, ab_gl_2, ab_gl_3, ab_gt_some, ab_gc_0, ab_gk_0, Bool.false_eq_true, Bool.true_eq_false, false_implies, Nat.reduceEqDiff, ab_ge, ab_lt, ab_le, ab_gt, ab_eq, ab_ne, decide_eq_true_eq, ab_w_id, ab_w0, ab_gd_some, ab_gs_0, ab_gs_1, ab_gl_0, ab_gl_1, ab_bv_some, ab_bu_some, ab_bv_thr, ab_bu_thr, ab_fx_n, ab_fx_i, ab_fx_q, ab_fx_l, ab_sh_si, ab_gr_si, ab_gl_si, cs_n, ↓reduceIte, true_or, or_true, false_or, or_false, and_true, true_and, and_false, false_and, not_true_eq_false, not_false_eq_true, eq_self, Int.reduceEq, Int.reduceLT, Int.reduceLE, Int.reduceAdd, Int.reduceMul, Int.reduceNeg, if_pos, if_neg]
    rcases ms2_01 g (cs_nt g) (cs_B g).toNat 0 with q2 | q2
    · rw [q2]
      exact ⟨h, by rw [pre2, lb.1 q2], m, mW.rf⟩
    · rw [q2]
      obtain ⟨h1, r, a1, m1, x1, X, k1⟩ := n137 (B := B) (dd := dd) i m
      have hm1 := m1.1
      refine ⟨h1, ?_, m1, x1⟩
      rw [pre2, lb.2 q2]
      cases hy : pk_plan (ck_K g) (ab_gi g 1 0) with
      | none =>
        rw [hy] at X
        have er : r = none := X
        subst er
        rw [e159_128]
        simp (disch := omega) only [e159_0, e159_1, e159_4, e159_7, e159_8, e159_11, e159_12, e159_13, e159_16, e159_17, e159_18, e159_21, e159_22, e159_23, e159_25, e159_26, e159_29, e159_32, e159_33, e159_34, e159_37, e159_38, e159_39, e159_42, e159_45, e159_46, e159_47, e159_48, e159_51, e159_52, e159_55, e159_56, e159_59, e159_60, e159_61, e159_64, e159_65, e159_66, e159_67, e159_70, e159_71, e159_72, e159_75, e159_79, e159_81, e159_82, e159_85, e159_88, e159_89, e159_90, e159_93, e159_94, e159_97, e159_98, e159_99, e159_102, e159_103, e159_106, e159_107, e159_108, e159_111, e159_112, e159_115, e159_116, e159_117, e159_120, e159_121, e159_122, e159_125, e159_129, e159_132, e159_133, e159_134, e159_137, e159_138, e159_139, e159_140, e159_141, e159_144, e159_147, e159_148, e159_151, e159_152, implies_true, Int.reduceSub, Option.isNone_some, Option.isNone_none, ab_bh_some, ab_bh_thr, ab_gs_3, ab_gl_2, ab_gl_3, ab_gt_some, ab_gc_0, ab_gk_0, Bool.false_eq_true, Bool.true_eq_false, false_implies, Nat.reduceEqDiff, ab_ge, ab_lt, ab_le, ab_gt, ab_eq, ab_ne, decide_eq_true_eq, ab_w_id, ab_w0, ab_gd_some, ab_gs_0, ab_gs_1, ab_gl_0, ab_gl_1, ab_bv_some, ab_bu_some, ab_bv_thr, ab_bu_thr, ab_fx_n, ab_fx_i, ab_fx_q, ab_fx_l, ab_sh_si, ab_gr_si, ab_gl_si, cs_n, ↓reduceIte, true_or, or_true, false_or, or_false, and_true, true_and, and_false, false_and, not_true_eq_false, not_false_eq_true, eq_self, Int.reduceEq, Int.reduceLT, Int.reduceLE, Int.reduceAdd, Int.reduceMul, Int.reduceNeg, if_pos, if_neg, hm.1, a1]
      | some y =>
        rw [hy] at X
        obtain ⟨kc, k0, k1', er, -, ⟨s1, s2, s3⟩, ⟨r1, r2⟩, m5, m6⟩ := X
        subst er
        have hF := pk_plan_F hK (by omega) y hy
        have eM := m1.2.2.2.1
        have e33 := n133 (B := B) (dd := dd + 7) hm1 (by rw [eM]; exact hK) m1.2.1.1 (by omega) (by omega) (a := k0) (st := y.1) ⟨s2, fun d d1 d2 => ⟨(m5 d d1 d2).1, by have := (hF.1 d d1 d2).1; omega⟩⟩
        rw [eM, hF.2.1, if_neg (by decide)] at e33
        rw [e159_128]
        simp (disch := omega) only [e159_0, e159_1, e159_4, e159_7, e159_8, e159_11, e159_12, e159_13, e159_16, e159_17, e159_18, e159_21, e159_22, e159_23, e159_25, e159_26, e159_29, e159_32, e159_33, e159_34, e159_37, e159_38, e159_39, e159_42, e159_45, e159_46, e159_47, e159_48, e159_51, e159_52, e159_55, e159_56, e159_59, e159_60, e159_61, e159_64, e159_65, e159_66, e159_67, e159_70, e159_71, e159_72, e159_75, e159_79, e159_81, e159_82, e159_85, e159_88, e159_89, e159_90, e159_93, e159_94, e159_97, e159_98, e159_99, e159_102, e159_103, e159_106, e159_107, e159_108, e159_111, e159_112, e159_115, e159_116, e159_117, e159_120, e159_121, e159_122, e159_125, e159_129, e159_132, e159_133, e159_134, e159_137, e159_138, e159_139, e159_140, e159_141, e159_144, e159_147, e159_148, e159_151, e159_152, implies_true, Int.reduceSub, Option.isNone_some, Option.isNone_none, ab_bh_some, ab_bh_thr, ab_gs_3, ab_gl_2, ab_gl_3, ab_gt_some, ab_gc_0, ab_gk_0, Bool.false_eq_true, Bool.true_eq_false, false_implies, Nat.reduceEqDiff, ab_ge, ab_lt, ab_le, ab_gt, ab_eq, ab_ne, decide_eq_true_eq, ab_w_id, ab_w0, ab_gd_some, ab_gs_0, ab_gs_1, ab_gl_0, ab_gl_1, ab_bv_some, ab_bu_some, ab_bv_thr, ab_bu_thr, ab_fx_n, ab_fx_i, ab_fx_q, ab_fx_l, ab_sh_si, ab_gr_si, ab_gl_si, cs_n, ↓reduceIte, true_or, or_true, false_or, or_false, and_true, true_and, and_false, false_and, not_true_eq_false, not_false_eq_true, eq_self, Int.reduceEq, Int.reduceLT, Int.reduceLE, Int.reduceAdd, Int.reduceMul, Int.reduceNeg, if_pos, if_neg, hm.1, a1, hm1.1, s1, r1, e33]
theorem n160 {dd : Nat} {g h : ab_H} {b : Nat} (i : ci g) (m : mm g h b) : mR B (dd + 10) 160 [some (.inr (.inr (.inl (some 18))))] h g 0 (mso g) 362 1810 := by
  have hs := m.1.1.1
  have hs0 : (ab_sh (mt h 0))[18]? = some (8, 22) := hs
  have m0 : mm g (mt h 0) b := mm_thr m
  obtain ⟨h1, a1, m1, x1⟩ := n159 (B := B) (dd := dd) i m0
  have emt : ab_si h 18 0 0 = mt h 0 := rfl
  refine mW_ans ?_ m1 x1
  rcases mso_01 g with q | q
  · rw [q] at a1 ⊢
    simp (disch := omega) only [e160_0, e160_1, e160_2, e160_5, e160_6, e160_9, implies_true, Int.reduceSub, Option.isNone_some, Option.isNone_none, ab_bh_some, ab_bh_thr, ab_gs_3, ab_gl_2, ab_gl_3, ab_gt_some, ab_gc_0, ab_gk_0, Bool.false_eq_true, Bool.true_eq_false, false_implies, Nat.reduceEqDiff, ab_ge, ab_lt, ab_le, ab_gt, ab_eq, ab_ne, decide_eq_true_eq, ab_w_id, ab_w0, ab_gd_some, ab_gs_0, ab_gs_1, ab_gl_0, ab_gl_1, ab_bv_some, ab_bu_some, ab_bv_thr, ab_bu_thr, ab_fx_n, ab_fx_i, ab_fx_q, ab_fx_l, ab_sh_si, ab_gr_si, ab_gl_si, cs_n, ↓reduceIte, true_or, or_true, false_or, or_false, and_true, true_and, and_false, false_and, not_true_eq_false, not_false_eq_true, eq_self, Int.reduceEq, Int.reduceLT, Int.reduceLE, Int.reduceAdd, Int.reduceMul, Int.reduceNeg, if_pos, if_neg, hs, emt, hs0, a1]
  · rw [q] at a1 ⊢
    simp (disch := omega) only [e160_0, e160_1, e160_2, e160_5, e160_6, e160_9, implies_true, Int.reduceSub, Option.isNone_some, Option.isNone_none, ab_bh_some, ab_bh_thr, ab_gs_3, ab_gl_2, ab_gl_3, ab_gt_some, ab_gc_0, ab_gk_0, Bool.false_eq_true, Bool.true_eq_false, false_implies, Nat.reduceEqDiff, ab_ge, ab_lt, ab_le, ab_gt, ab_eq, ab_ne, decide_eq_true_eq, ab_w_id, ab_w0, ab_gd_some, ab_gs_0, ab_gs_1, ab_gl_0, ab_gl_1, ab_bv_some, ab_bu_some, ab_bv_thr, ab_bu_thr, ab_fx_n, ab_fx_i, ab_fx_q, ab_fx_l, ab_sh_si, ab_gr_si, ab_gl_si, cs_n, ↓reduceIte, true_or, or_true, false_or, or_false, and_true, true_and, and_false, false_and, not_true_eq_false, not_false_eq_true, eq_self, Int.reduceEq, Int.reduceLT, Int.reduceLE, Int.reduceAdd, Int.reduceMul, Int.reduceNeg, if_pos, if_neg, hs, emt, hs0, a1]
end
