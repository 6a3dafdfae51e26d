set_option linter.all false
/-! THE REFERENCE: read, fail, swap, flip, rebuild, patrol, giveUp -/
section
variable {B : ab_B}
theorem n124_1 {dd : Nat} {k : Int} {g h : ab_H} {b : Nat} (i : ci g) (m : mm g h b) (r1 : -2147483648 ≤ k) (r2 : k < 2147483648) (hn : ¬ (0 ≤ k ∧ k < cs_B g)) : mR B (dd + 2) 124 [some (.inr (.inr (.inl (some 18)))), some (.inl k), none] h g 1 0 0 0 := by
  have hs := m.1.1.1
  refine mR_no m ?_
  simp (disch := omega) only [e124_0, e124_1, e124_2, e124_3, e124_6, e124_7, e124_10, e124_13, e124_14, e124_15, e124_18, e124_21, e124_22, e124_25, e124_26, e124_27, e124_30, e124_33, e124_34, e124_35, e124_36, e124_37, e124_40, e124_41, e124_42, e124_43, e124_44, e124_47, e124_48, e124_49, e124_52, e124_55, e124_58, e124_59, e124_60, e124_61, e124_64, e124_67, e124_68, e124_69, e124_70, e124_73, e124_74, e124_75, e124_78, e124_79, implies_true, Int.reduceSub, Option.isNone_some, Option.isNone_none, ab_bh_some, ab_bh_thr, ab_gs_3, ab_gl_2, ab_gl_3, ab_gt_some, ab_gc_0, ab_gk_0, Bool.false_eq_true, Bool.true_eq_false, false_implies, Nat.reduceEqDiff, ab_ge, ab_lt, ab_le, ab_gt, ab_eq, ab_ne, decide_eq_true_eq, ab_w_id, ab_w0, ab_gd_some, ab_gs_0, ab_gs_1, ab_gl_0, ab_gl_1, ab_bv_some, ab_bu_some, ab_bv_thr, ab_bu_thr, ab_fx_n, ab_fx_i, ab_fx_q, ab_fx_l, ab_sh_si, ab_gr_si, ab_gl_si, cs_n, ↓reduceIte, true_or, or_true, false_or, or_false, and_true, true_and, and_false, false_and, not_true_eq_false, not_false_eq_true, eq_self, Int.reduceEq, Int.reduceLT, Int.reduceLE, Int.reduceAdd, Int.reduceMul, Int.reduceNeg, if_pos, if_neg, hs, n105n i.1 m r1 r2 hn, n102_1 hs]
theorem n124_2 {dd : Nat} {k : Int} {g h : ab_H} {b : Nat} (i : ci g) (m : mm g h b) (h1 : 0 ≤ k) (h2 : k < cs_B g) (hn : ab_gi g 0 2 = 0) : mR B (dd + 2) 124 [some (.inr (.inr (.inl (some 18)))), some (.inl k), none] h g 2 0 0 0 := by
  have hs := m.1.1.1
  have hs0 : (ab_sh (mt h 0))[18]? = some (8, 22) := hs
  have m0 : mm g (mt h 0) b := mm_thr m
  have e1 := n101_r (B := B) (dd := dd + 1) (w := 2) m (by omega) (by omega)
  have e3 := m0.2.1.2.2.1
  refine mR_no m ?_
  simp (disch := omega) only [e124_0, e124_1, e124_2, e124_3, e124_6, e124_7, e124_10, e124_13, e124_14, e124_15, e124_18, e124_21, e124_22, e124_25, e124_26, e124_27, e124_30, e124_33, e124_34, e124_35, e124_36, e124_37, e124_40, e124_41, e124_42, e124_43, e124_44, e124_47, e124_48, e124_49, e124_52, e124_55, e124_58, e124_59, e124_60, e124_61, e124_64, e124_67, e124_68, e124_69, e124_70, e124_73, e124_74, e124_75, e124_78, e124_79, implies_true, Int.reduceSub, Option.isNone_some, Option.isNone_none, ab_bh_some, ab_bh_thr, ab_gs_3, ab_gl_2, ab_gl_3, ab_gt_some, ab_gc_0, ab_gk_0, Bool.false_eq_true, Bool.true_eq_false, false_implies, Nat.reduceEqDiff, ab_ge, ab_lt, ab_le, ab_gt, ab_eq, ab_ne, decide_eq_true_eq, ab_w_id, ab_w0, ab_gd_some, ab_gs_0, ab_gs_1, ab_gl_0, ab_gl_1, ab_bv_some, ab_bu_some, ab_bv_thr, ab_bu_thr, ab_fx_n, ab_fx_i, ab_fx_q, ab_fx_l, ab_sh_si, ab_gr_si, ab_gl_si, cs_n, ↓reduceIte, true_or, or_true, false_or, or_false, and_true, true_and, and_false, false_and, not_true_eq_false, not_false_eq_true, eq_self, Int.reduceEq, Int.reduceLT, Int.reduceLE, Int.reduceAdd, Int.reduceMul, Int.reduceNeg, if_pos, if_neg, hs, hs0, n105y i.1 m h1 h2, n102_0 hs, e3, hn, e1]
theorem n124 {dd : Nat} {k : Int} {g h : ab_H} {b : Nat} (i : ci g) (m : mm g h b) (h1 : 0 ≤ k) (h2 : k < cs_B g) (hon : ab_gi g 0 2 = 1) : mR B (dd + 5) 124 [some (.inr (.inr (.inl (some 18)))), some (.inl k), none] h (cs_re g k) 0 (cs_sh g (cs_dk (ab_gi g 1 0) k) (k / (ab_gi g 1 0 - 1))) 0 0 := by
  have hs := m.1.1.1
  have hs0 : (ab_sh (mt h 0))[18]? = some (8, 22) := hs
  have m0 : mm g (mt h 0) b := mm_thr m
  have t0 := mt_t h 0
  have x0 : mE h (mt h 0) 0 0 := mE.si (by omega)
  obtain ⟨hD, h3, b1, b2, b3, b4, b5, b6⟩ := cs_B_D i.1 h1 h2
  have e3 := m0.2.1.2.2.1
  have e7 := n107 (B := B) (dd := dd + 4) i.1 m0 hD h1 b1
  have e9 := n109 (B := B) (dd := dd + 3) i.1 m0 hD h1 b1
  have e11 := n111 (B := B) (dd := dd + 4) i.1 m0 b4 b5 b2 b3
  have e17 := n117 (B := B) (dd := dd + 1) i.1 m0 h1 h2
  unfold cs_re
  rcases cs_b01 g (cs_dk (ab_gi g 1 0) k) (k / (ab_gi g 1 0 - 1)) with hb | hb
  · rw [if_neg (by omega)]
    have e15 := m0.2.1.2.2.2.2.2.2.1
    refine ⟨ab_si (mt h 0) 18 15 (ab_gi g 0 9 + 1), b, ?_, mm_f m0 (by omega), x0.trans (mE.si (by omega)), by rw [ab_gi_si, if_neg (by omega)]; exact t0⟩
    simp (disch := omega) only [e124_0, e124_1, e124_2, e124_3, e124_6, e124_7, e124_10, e124_13, e124_14, e124_15, e124_18, e124_21, e124_22, e124_25, e124_26, e124_27, e124_30, e124_33, e124_34, e124_35, e124_36, e124_37, e124_40, e124_41, e124_42, e124_43, e124_44, e124_47, e124_48, e124_49, e124_52, e124_55, e124_58, e124_59, e124_60, e124_61, e124_64, e124_67, e124_68, e124_69, e124_70, e124_73, e124_74, e124_75, e124_78, e124_79, implies_true, Int.reduceSub, Option.isNone_some, Option.isNone_none, ab_bh_some, ab_bh_thr, ab_gs_3, ab_gl_2, ab_gl_3, ab_gt_some, ab_gc_0, ab_gk_0, Bool.false_eq_true, Bool.true_eq_false, false_implies, Nat.reduceEqDiff, ab_ge, ab_lt, ab_le, ab_gt, ab_eq, ab_ne, decide_eq_true_eq, ab_w_id, ab_w0, ab_gd_some, ab_gs_0, ab_gs_1, ab_gl_0, ab_gl_1, ab_bv_some, ab_bu_some, ab_bv_thr, ab_bu_thr, ab_fx_n, ab_fx_i, ab_fx_q, ab_fx_l, ab_sh_si, ab_gr_si, ab_gl_si, cs_n, ↓reduceIte, true_or, or_true, false_or, or_false, and_true, true_and, and_false, false_and, not_true_eq_false, not_false_eq_true, eq_self, Int.reduceEq, Int.reduceLT, Int.reduceLE, Int.reduceAdd, Int.reduceMul, Int.reduceNeg, if_pos, if_neg, hs, hs0, n105y i.1 m h1 h2, n102_0 hs, n101_0 hs0 t0, e3, hon, e7, e9, e11, e17, hb, e15]
  · rw [if_pos hb]
    obtain ⟨p1, a1, m1, x1, q1⟩ := n116 (B := B) (dd := dd + 2) i.1 m0 b2 b3
    obtain ⟨im, wm, gm⟩ := cs_me_ok i b2 b3
    have hm1 := m1.1
    have e15 : ab_gi p1 18 15 = ab_gi g 0 9 := m1.2.1.2.2.2.2.2.2.1.trans (gm 0 9 (by decide) (by decide) (by decide))
    refine ⟨ab_si p1 18 15 (ab_gi g 0 9 + 1), b, ?_, mm_f m1 (by omega), (x0.trans x1).trans (mE.si (by omega)), by rw [ab_gi_si, if_neg (by omega), q1]; exact t0⟩
    simp (disch := omega) only [e124_0, e124_1, e124_2, e124_3, e124_6, e124_7, e124_10, e124_13, e124_14, e124_15, e124_18, e124_21, e124_22, e124_25, e124_26, e124_27, e124_30, e124_33, e124_34, e124_35, e124_36, e124_37, e124_40, e124_41, e124_42, e124_43, e124_44, e124_47, e124_48, e124_49, e124_52, e124_55, e124_58, e124_59, e124_60, e124_61, e124_64, e124_67, e124_68, e124_69, e124_70, e124_73, e124_74, e124_75, e124_78, e124_79, implies_true, Int.reduceSub, Option.isNone_some, Option.isNone_none, ab_bh_some, ab_bh_thr, ab_gs_3, ab_gl_2, ab_gl_3, ab_gt_some, ab_gc_0, ab_gk_0, Bool.false_eq_true, Bool.true_eq_false, false_implies, Nat.reduceEqDiff, ab_ge, ab_lt, ab_le, ab_gt, ab_eq, ab_ne, decide_eq_true_eq, ab_w_id, ab_w0, ab_gd_some, ab_gs_0, ab_gs_1, ab_gl_0, ab_gl_1, ab_bv_some, ab_bu_some, ab_bv_thr, ab_bu_thr, ab_fx_n, ab_fx_i, ab_fx_q, ab_fx_l, ab_sh_si, ab_gr_si, ab_gl_si, cs_n, ↓reduceIte, true_or, or_true, false_or, or_false, and_true, true_and, and_false, false_and, not_true_eq_false, not_false_eq_true, eq_self, Int.reduceEq, Int.reduceLT, Int.reduceLE, Int.reduceAdd, Int.reduceMul, Int.reduceNeg, if_pos, if_neg, hs, hs0, n105y i.1 m h1 h2, n102_0 hs, n101_0 hs0 t0, e3, hon, e7, e9, e11, e17, hb, a1, hm1.1, e15]
theorem n125_1 {dd : Nat} {d : Int} {g h : ab_H} {b : Nat} (i : ci g) (m : mm g h b) (r1 : -2147483648 ≤ d) (r2 : d < 2147483648) (hn : ¬ (0 ≤ d ∧ d < ab_gi g 1 0)) : mR B (dd + 2) 125 [some (.inr (.inr (.inl (some 18)))), some (.inl d)] h g 1 0 0 0 := by
  have hs := m.1.1.1
  refine mR_no m ?_
  simp (disch := omega) only [e125_0, e125_1, e125_2, e125_3, e125_6, e125_7, e125_10, e125_13, e125_14, e125_15, e125_18, e125_19, e125_20, e125_21, e125_24, e125_27, e125_28, e125_29, e125_30, e125_33, e125_34, e125_35, e125_36, e125_37, e125_40, implies_true, Int.reduceSub, Option.isNone_some, Option.isNone_none, ab_bh_some, ab_bh_thr, ab_gs_3, ab_gl_2, ab_gl_3, ab_gt_some, ab_gc_0, ab_gk_0, Bool.false_eq_true, Bool.true_eq_false, false_implies, Nat.reduceEqDiff, ab_ge, ab_lt, ab_le, ab_gt, ab_eq, ab_ne, decide_eq_true_eq, ab_w_id, ab_w0, ab_gd_some, ab_gs_0, ab_gs_1, ab_gl_0, ab_gl_1, ab_bv_some, ab_bu_some, ab_bv_thr, ab_bu_thr, ab_fx_n, ab_fx_i, ab_fx_q, ab_fx_l, ab_sh_si, ab_gr_si, ab_gl_si, cs_n, ↓reduceIte, true_or, or_true, false_or, or_false, and_true, true_and, and_false, false_and, not_true_eq_false, not_false_eq_true, eq_self, Int.reduceEq, Int.reduceLT, Int.reduceLE, Int.reduceAdd, Int.reduceMul, Int.reduceNeg, if_pos, if_neg, hs, n103n i.1 m r1 r2 hn, n102_1 hs]
theorem n125_2 {dd : Nat} {d : Int} {g h : ab_H} {b : Nat} (i : ci g) (m : mm g h b) (h1 : 0 ≤ d) (h2 : d < ab_gi g 1 0) (hn : ab_gi g 5 d = 1) : mR B (dd + 2) 125 [some (.inr (.inr (.inl (some 18)))), some (.inl d)] h g 2 0 0 0 := by
  have hs := m.1.1.1
  have m0 : mm g (mt h 0) b := mm_thr m
  have hm0 := m0.1
  have e1 := n101_r (B := B) (dd := dd + 1) (w := 2) m (by omega) (by omega)
  have f := (m0.2.2.1.2.1 d h1 h2).1
  refine mR_no m ?_
  simp (disch := omega) only [e125_0, e125_1, e125_2, e125_3, e125_6, e125_7, e125_10, e125_13, e125_14, e125_15, e125_18, e125_19, e125_20, e125_21, e125_24, e125_27, e125_28, e125_29, e125_30, e125_33, e125_34, e125_35, e125_36, e125_37, e125_40, implies_true, Int.reduceSub, Option.isNone_some, Option.isNone_none, ab_bh_some, ab_bh_thr, ab_gs_3, ab_gl_2, ab_gl_3, ab_gt_some, ab_gc_0, ab_gk_0, Bool.false_eq_true, Bool.true_eq_false, false_implies, Nat.reduceEqDiff, ab_ge, ab_lt, ab_le, ab_gt, ab_eq, ab_ne, decide_eq_true_eq, ab_w_id, ab_w0, ab_gd_some, ab_gs_0, ab_gs_1, ab_gl_0, ab_gl_1, ab_bv_some, ab_bu_some, ab_bv_thr, ab_bu_thr, ab_fx_n, ab_fx_i, ab_fx_q, ab_fx_l, ab_sh_si, ab_gr_si, ab_gl_si, cs_n, ↓reduceIte, true_or, or_true, false_or, or_false, and_true, true_and, and_false, false_and, not_true_eq_false, not_false_eq_true, eq_self, Int.reduceEq, Int.reduceLT, Int.reduceLE, Int.reduceAdd, Int.reduceMul, Int.reduceNeg, if_pos, if_neg, hs, hm0.1, hm0.2.1, n103y i.1 m h1 h2, n102_0 hs, f, hn, e1]
theorem n125 {dd : Nat} {d : Int} {g h : ab_H} {b : Nat} (i : ci g) (m : mm g h b) (h1 : 0 ≤ d) (h2 : d < ab_gi g 1 0) (hn : ab_gi g 5 d = 0) : mR B (dd + 5) 125 [some (.inr (.inr (.inl (some 18)))), some (.inl d)] h (ab_si g 5 d 1) 0 (mlost (ab_si g 5 d 1)) 0 0 := by
  have hs := m.1.1.1
  have m0 : mm g (mt h 0) b := mm_thr m
  have hm0 := m0.1
  have t0 := mt_t h 0
  have x0 : mE h (mt h 0) 0 0 := mE.si (by omega)
  have f := (m0.2.2.1.2.1 d h1 h2).1
  have hb := hm0.2.2.2.2
  have m1 := mm_fa (v := 1) i.1 m0 h1 h2
  have hR1 : cs_R (ab_si g 5 d 1) := cs_R_si5 i.1 (Or.inr rfl)
  have e18 := n118 (B := B) (dd := dd) hR1 m1
  refine ⟨_, b, ?_, m1, x0.trans (mE.si (by omega)), by rw [ab_gi_si, if_neg (by omega)]; exact t0⟩
  simp (disch := omega) only [e125_0, e125_1, e125_2, e125_3, e125_6, e125_7, e125_10, e125_13, e125_14, e125_15, e125_18, e125_19, e125_20, e125_21, e125_24, e125_27, e125_28, e125_29, e125_30, e125_33, e125_34, e125_35, e125_36, e125_37, e125_40, implies_true, Int.reduceSub, Option.isNone_some, Option.isNone_none, ab_bh_some, ab_bh_thr, ab_gs_3, ab_gl_2, ab_gl_3, ab_gt_some, ab_gc_0, ab_gk_0, Bool.false_eq_true, Bool.true_eq_false, false_implies, Nat.reduceEqDiff, ab_ge, ab_lt, ab_le, ab_gt, ab_eq, ab_ne, decide_eq_true_eq, ab_w_id, ab_w0, ab_gd_some, ab_gs_0, ab_gs_1, ab_gl_0, ab_gl_1, ab_bv_some, ab_bu_some, ab_bv_thr, ab_bu_thr, ab_fx_n, ab_fx_i, ab_fx_q, ab_fx_l, ab_sh_si, ab_gr_si, ab_gl_si, cs_n, ↓reduceIte, true_or, or_true, false_or, or_false, and_true, true_and, and_false, false_and, not_true_eq_false, not_false_eq_true, eq_self, Int.reduceEq, Int.reduceLT, Int.reduceLE, Int.reduceAdd, Int.reduceMul, Int.reduceNeg, if_pos, if_neg, hs, hm0.1, hm0.2.1, n103y i.1 m h1 h2, n102_0 hs, n101_0 hm0.1.1 t0, f, hn, e18]
/-! swap -/
theorem n126_1 {dd : Nat} {d : Int} {g h : ab_H} {b : Nat} (i : ci g) (m : mm g h b) (r1 : -2147483648 ≤ d) (r2 : d < 2147483648) (hn : ¬ (0 ≤ d ∧ d < ab_gi g 1 0)) : mR B (dd + 2) 126 [some (.inr (.inr (.inl (some 18)))), some (.inl d), none] h g 1 0 0 0 := by
  have hs := m.1.1.1
  refine mR_no m ?_
  simp (disch := omega) only [e126_0, e126_1, e126_2, e126_3, e126_6, e126_7, e126_10, e126_13, e126_14, e126_15, e126_16, e126_19, e126_20, e126_21, e126_22, e126_23, e126_26, e126_27, e126_28, e126_29, e126_30, e126_31, e126_32, e126_33, e126_34, e126_35, e126_36, e126_39, e126_42, e126_43, e126_46, e126_47, e126_48, e126_49, e126_50, e126_51, e126_52, e126_55, e126_56, e126_57, e126_58, e126_59, e126_60, e126_63, e126_66, e126_67, e126_68, e126_71, e126_72, e126_75, implies_true, Int.reduceSub, Option.isNone_some, Option.isNone_none, ab_bh_some, ab_bh_thr, ab_gs_3, ab_gl_2, ab_gl_3, ab_gt_some, ab_gc_0, ab_gk_0, Bool.false_eq_true, Bool.true_eq_false, false_implies, Nat.reduceEqDiff, ab_ge, ab_lt, ab_le, ab_gt, ab_eq, ab_ne, decide_eq_true_eq, ab_w_id, ab_w0, ab_gd_some, ab_gs_0, ab_gs_1, ab_gl_0, ab_gl_1, ab_bv_some, ab_bu_some, ab_bv_thr, ab_bu_thr, ab_fx_n, ab_fx_i, ab_fx_q, ab_fx_l, ab_sh_si, ab_gr_si, ab_gl_si, cs_n, ↓reduceIte, true_or, or_true, false_or, or_false, and_true, true_and, and_false, false_and, not_true_eq_false, not_false_eq_true, eq_self, Int.reduceEq, Int.reduceLT, Int.reduceLE, Int.reduceAdd, Int.reduceMul, Int.reduceNeg, if_pos, if_neg, hs, n103n i.1 m r1 r2 hn, n102_1 hs]
theorem n126_loop {dd : Nat} {d D S : Int} {b : Nat} (d1 : 0 ≤ d) (d2 : d < D) (D3 : 3 ≤ D) (S8 : S ≤ 8) : ∀ (k : Nat) (g h : ab_H) (t : Int), cs_R g → mm g h b → ab_gi g 1 0 = D → ab_gi g 1 1 = S → 0 ≤ t → t + k = S →
    ∃ h', ab_E B dd 126 34 [some (.inr (.inr (.inl (some 18)))), some (.inl d), some (.inl t)] [] h = ab_E B dd 126 66 [some (.inr (.inr (.inl (some 18)))), some (.inl d), some (.inl S)] [] h' ∧ mm (cs_wipe d g t k) h' b ∧ mE h h' 0 0 ∧ ab_gi h' 18 0 = ab_gi h 18 0
  | 0, g, h, t, hR, m, eD, eS, t1, t2 => by
    have hm := m.1
    have e2 := m.2.1.2.1
    have et : t = S := by omega
    refine ⟨h, ?_, m, mE.rf, rfl⟩
    rw [e126_34]
    simp (disch := omega) only [e126_0, e126_1, e126_2, e126_3, e126_6, e126_7, e126_10, e126_13, e126_14, e126_15, e126_16, e126_19, e126_20, e126_21, e126_22, e126_23, e126_26, e126_27, e126_28, e126_29, e126_30, e126_31, e126_32, e126_33, e126_35, e126_36, e126_39, e126_42, e126_43, e126_46, e126_47, e126_48, e126_49, e126_50, e126_51, e126_52, e126_55, e126_56, e126_57, e126_58, e126_59, e126_60, e126_63, e126_67, e126_68, e126_71, e126_72, e126_75, implies_true, Int.reduceSub, Option.isNone_some, Option.isNone_none, ab_bh_some, ab_bh_thr, ab_gs_3, ab_gl_2, ab_gl_3, ab_gt_some, ab_gc_0, ab_gk_0, Bool.false_eq_true, Bool.true_eq_false, false_implies, Nat.reduceEqDiff, ab_ge, ab_lt, ab_le, ab_gt, ab_eq, ab_ne, decide_eq_true_eq, ab_w_id, ab_w0, ab_gd_some, ab_gs_0, ab_gs_1, ab_gl_0, ab_gl_1, ab_bv_some, ab_bu_some, ab_bv_thr, ab_bu_thr, ab_fx_n, ab_fx_i, ab_fx_q, ab_fx_l, ab_sh_si, ab_gr_si, ab_gl_si, cs_n, ↓reduceIte, true_or, or_true, false_or, or_false, and_true, true_and, and_false, false_and, not_true_eq_false, not_false_eq_true, eq_self, Int.reduceEq, Int.reduceLT, Int.reduceLE, Int.reduceAdd, Int.reduceMul, Int.reduceNeg, if_pos, if_neg, hm.1, hm.2.1, e2, eS, et]
  | k + 1, g, h, t, hR, m, eD, eS, t1, t2 => by
    have hm := m.1
    have e2 := m.2.1.2.1
    have hrow := hm.2.2.1 d d1 (by omega)
    have m1 := mm_v (v := 0) hR m d1 (by omega) t1 (by omega)
    have hR1 : cs_R (ab_si g 2 (d * 8 + t) 0) := cs_R_si2 hR (by omega) (by omega)
    have f0 : ab_gi (ab_si g 2 (d * 8 + t) 0) 1 0 = ab_gi g 1 0 := by rw [ab_gi_si, if_neg (by omega)]
    have f1 : ab_gi (ab_si g 2 (d * 8 + t) 0) 1 1 = ab_gi g 1 1 := by rw [ab_gi_si, if_neg (by omega)]
    have m2 := mm_m (v := -1) hR1 m1 d1 (by omega) t1 (by omega)
    rw [f0] at m2
    have hR2 : cs_R (ab_si (ab_si g 2 (d * 8 + t) 0) 3 (d * 8 + t) (-1)) := cs_R_si3 hR1 (by omega) (by omega)
    obtain ⟨h', a, m3, x3, q3⟩ := n126_loop (dd := dd) d1 d2 D3 S8 k _ _ (t + 1) hR2 m2 (by rw [ab_gi_si, if_neg (by omega), f0]; exact eD) (by rw [ab_gi_si, if_neg (by omega), f1]; exact eS) (by omega) (by omega)
    have hb : 18 < b := by have := hm.2.2.2.2; omega
    unfold cs_wipe
    refine ⟨h', ?_, m3, ((mE.si (by omega)).trans (mE.si (by omega))).trans x3, by rw [q3, ab_gi_si, if_neg (by omega), ab_gi_si, if_neg (by omega)]⟩
    rw [← a, e126_34]
    simp (disch := omega) only [e126_0, e126_1, e126_2, e126_3, e126_6, e126_7, e126_10, e126_13, e126_14, e126_15, e126_16, e126_19, e126_20, e126_21, e126_22, e126_23, e126_26, e126_27, e126_28, e126_29, e126_30, e126_31, e126_32, e126_33, e126_35, e126_36, e126_39, e126_42, e126_43, e126_46, e126_47, e126_48, e126_49, e126_50, e126_51, e126_52, e126_55, e126_56, e126_57, e126_58, e126_59, e126_60, e126_63, e126_67, e126_68, e126_71, e126_72, e126_75, implies_true, Int.reduceSub, Option.isNone_some, Option.isNone_none, ab_bh_some, ab_bh_thr, ab_gs_3, ab_gl_2, ab_gl_3, ab_gt_some, ab_gc_0, ab_gk_0, Bool.false_eq_true, Bool.true_eq_false, false_implies, Nat.reduceEqDiff, ab_ge, ab_lt, ab_le, ab_gt, ab_eq, ab_ne, decide_eq_true_eq, ab_w_id, ab_w0, ab_gd_some, ab_gs_0, ab_gs_1, ab_gl_0, ab_gl_1, ab_bv_some, ab_bu_some, ab_bv_thr, ab_bu_thr, ab_fx_n, ab_fx_i, ab_fx_q, ab_fx_l, ab_sh_si, ab_gr_si, ab_gl_si, cs_n, ↓reduceIte, true_or, or_true, false_or, or_false, and_true, true_and, and_false, false_and, not_true_eq_false, not_false_eq_true, eq_self, Int.reduceEq, Int.reduceLT, Int.reduceLE, Int.reduceAdd, Int.reduceMul, Int.reduceNeg, if_pos, if_neg, hm.1, hm.2.1, hrow, e2, eS]
theorem n126 {dd : Nat} {d : Int} {g h : ab_H} {b : Nat} (i : ci g) (m : mm g h b) (h1 : 0 ≤ d) (h2 : d < ab_gi g 1 0) : mR B (dd + 5) 126 [some (.inr (.inr (.inl (some 18)))), some (.inl d), none] h (ab_si (cs_put g d) 0 6 0) 0 (mlost (ab_si (cs_put g d) 0 6 0)) 0 0 := by
  have hs := m.1.1.1
  have m0 : mm g (mt h 0) b := mm_thr m
  have hm0 := m0.1
  have t0 := mt_t h 0
  have x0 : mE h (mt h 0) 0 0 := mE.si (by omega)
  have hDS := i.1.2.1
  have hb := hm0.2.2.2.2
  have s6 := (m0.2.2.1.2.1 d h1 h2).2
  have m1 := mm_fa (v := 0) i.1 m0 h1 h2
  have hR1 : cs_R (ab_si g 5 d 0) := cs_R_si5 i.1 (Or.inl rfl)
  have f0 : ab_gi (ab_si g 5 d 0) 1 0 = ab_gi g 1 0 := by rw [ab_gi_si, if_neg (by omega)]
  have m2 := mm_sw (v := ab_gi g 6 d + 1) hR1 m1 h1 (by rw [f0]; exact h2)
  rw [f0] at m2
  have hR2 : cs_R (ab_si (ab_si g 5 d 0) 6 d (ab_gi g 6 d + 1)) := cs_R_six hR1 (by decide) (by decide) (by decide) (by decide) (by decide)
  have g0 : ab_gi (ab_si (ab_si g 5 d 0) 6 d (ab_gi g 6 d + 1)) 1 0 = ab_gi g 1 0 := by rw [ab_gi_si, if_neg (by omega), f0]
  have g1 : ab_gi (ab_si (ab_si g 5 d 0) 6 d (ab_gi g 6 d + 1)) 1 1 = ab_gi g 1 1 := by rw [ab_gi_si, if_neg (by omega), ab_gi_si, if_neg (by omega)]
  obtain ⟨p3, a3, m3, x3, q3⟩ := n126_loop (B := B) (dd := dd + 5) h1 h2 (by omega) (by omega) (ab_gi g 1 1).toNat _ _ 0 hR2 m2 g0 g1 (by omega) (by omega)
  have hm3 := m3.1
  have m3' : mm (cs_put g d) p3 b := m3
  have m4 := mm_f (k := 6) (j := 12) (v := 0) m3' (by omega)
  obtain ⟨r1, r2, r3⟩ := cs_put_ok i.1 h1 h2
  have hR4 : cs_R (ab_si (cs_put g d) 0 6 0) := cs_R_six r1 (by decide) (by decide) (by decide) (by decide) (by decide)
  have e18 := n118 (B := B) (dd := dd) hR4 m4
  refine ⟨ab_si p3 18 12 0, b, ?_, m4, (((x0.trans (mE.si (by omega))).trans (mE.si (by omega))).trans x3).trans (mE.si (by omega)), by rw [ab_gi_si, if_neg (by omega), q3, ab_gi_si, if_neg (by omega), ab_gi_si, if_neg (by omega)]; exact t0⟩
  have s6' : ∀ v, ab_gi (ab_si (mt h 0) (b + 2 + 2 * (ab_gi g 1 0).toNat) d v) (b + 3 + 2 * (ab_gi g 1 0).toNat) d = ab_gi g 6 d := fun v => by rw [ab_gi_si, if_neg (by omega)]; exact s6
  simp (disch := omega) only [e126_0, e126_1, e126_2, e126_3, e126_6, e126_7, e126_10, e126_13, e126_14, e126_15, e126_16, e126_19, e126_20, e126_21, e126_22, e126_23, e126_26, e126_27, e126_28, e126_29, e126_30, e126_31, e126_32, e126_33, e126_35, e126_36, e126_39, e126_42, e126_43, e126_46, e126_47, e126_48, e126_49, e126_50, e126_51, e126_52, e126_55, e126_56, e126_57, e126_58, e126_59, e126_60, e126_63, implies_true, Int.reduceSub, Option.isNone_some, Option.isNone_none, ab_bh_some, ab_bh_thr, ab_gs_3, ab_gl_2, ab_gl_3, ab_gt_some, ab_gc_0, ab_gk_0, Bool.false_eq_true, Bool.true_eq_false, false_implies, Nat.reduceEqDiff, ab_ge, ab_lt, ab_le, ab_gt, ab_eq, ab_ne, decide_eq_true_eq, ab_w_id, ab_w0, ab_gd_some, ab_gs_0, ab_gs_1, ab_gl_0, ab_gl_1, ab_bv_some, ab_bu_some, ab_bv_thr, ab_bu_thr, ab_fx_n, ab_fx_i, ab_fx_q, ab_fx_l, ab_sh_si, ab_gr_si, ab_gl_si, cs_n, ↓reduceIte, true_or, or_true, false_or, or_false, and_true, true_and, and_false, false_and, not_true_eq_false, not_false_eq_true, eq_self, Int.reduceEq, Int.reduceLT, Int.reduceLE, Int.reduceAdd, Int.reduceMul, Int.reduceNeg, if_pos, if_neg, hs, hm0.1, hm0.2.1, n103y i.1 m h1 h2, n102_0 hs, s6']
  rw [a3]
  simp (disch := omega) only [e126_66, e126_67, e126_68, e126_71, e126_72, e126_75, implies_true, Int.reduceSub, Option.isNone_some, Option.isNone_none, ab_bh_some, ab_bh_thr, ab_gs_3, ab_gl_2, ab_gl_3, ab_gt_some, ab_gc_0, ab_gk_0, Bool.false_eq_true, Bool.true_eq_false, false_implies, Nat.reduceEqDiff, ab_ge, ab_lt, ab_le, ab_gt, ab_eq, ab_ne, decide_eq_true_eq, ab_w_id, ab_w0, ab_gd_some, ab_gs_0, ab_gs_1, ab_gl_0, ab_gl_1, ab_bv_some, ab_bu_some, ab_bv_thr, ab_bu_thr, ab_fx_n, ab_fx_i, ab_fx_q, ab_fx_l, ab_sh_si, ab_gr_si, ab_gl_si, cs_n, ↓reduceIte, true_or, or_true, false_or, or_false, and_true, true_and, and_false, false_and, not_true_eq_false, not_false_eq_true, eq_self, Int.reduceEq, Int.reduceLT, Int.reduceLE, Int.reduceAdd, Int.reduceMul, Int.reduceNeg, if_pos, if_neg, hm3.1, e18]
/-! flip -/
theorem n127_1 {dd : Nat} {d s v : Int} {g h : ab_H} {b : Nat} (i : ci g) (m : mm g h b) (r1 : -2147483648 ≤ d) (r2 : d < 2147483648) (t1 : -2147483648 ≤ s) (t2 : s < 2147483648) (hn : ¬ ((0 ≤ d ∧ d < ab_gi g 1 0) ∧ (0 ≤ s ∧ s < ab_gi g 1 1))) : mR B (dd + 2) 127 [some (.inr (.inr (.inl (some 18)))), some (.inl d), some (.inl s), some (.inl v)] h g 1 0 0 0 := by
  have hs := m.1.1.1
  refine mR_no m ?_
  by_cases c : 0 ≤ d ∧ d < ab_gi g 1 0
  · simp (disch := omega) only [e127_0, e127_1, e127_2, e127_3, e127_6, e127_9, e127_10, e127_11, e127_14, e127_17, e127_18, e127_21, e127_22, e127_23, e127_26, e127_29, e127_30, e127_31, e127_32, e127_35, e127_38, e127_41, e127_42, e127_45, e127_46, e127_47, e127_50, e127_53, e127_54, e127_55, e127_58, e127_59, e127_60, e127_61, e127_64, e127_67, e127_68, e127_69, e127_70, e127_73, e127_74, e127_75, e127_76, e127_77, e127_78, e127_79, e127_80, e127_81, e127_82, e127_85, e127_86, e127_87, e127_88, e127_89, implies_true, Int.reduceSub, Option.isNone_some, Option.isNone_none, ab_bh_some, ab_bh_thr, ab_gs_3, ab_gl_2, ab_gl_3, ab_gt_some, ab_gc_0, ab_gk_0, Bool.false_eq_true, Bool.true_eq_false, false_implies, Nat.reduceEqDiff, ab_ge, ab_lt, ab_le, ab_gt, ab_eq, ab_ne, decide_eq_true_eq, ab_w_id, ab_w0, ab_gd_some, ab_gs_0, ab_gs_1, ab_gl_0, ab_gl_1, ab_bv_some, ab_bu_some, ab_bv_thr, ab_bu_thr, ab_fx_n, ab_fx_i, ab_fx_q, ab_fx_l, ab_sh_si, ab_gr_si, ab_gl_si, cs_n, ↓reduceIte, true_or, or_true, false_or, or_false, and_true, true_and, and_false, false_and, not_true_eq_false, not_false_eq_true, eq_self, Int.reduceEq, Int.reduceLT, Int.reduceLE, Int.reduceAdd, Int.reduceMul, Int.reduceNeg, if_pos, if_neg, hs, n103y i.1 m c.1 c.2, n104n i.1 m t1 t2 (fun q => hn ⟨c, q⟩), n102_1 hs]
  · simp (disch := omega) only [e127_0, e127_1, e127_2, e127_3, e127_6, e127_9, e127_10, e127_11, e127_14, e127_17, e127_18, e127_21, e127_22, e127_23, e127_26, e127_29, e127_30, e127_31, e127_32, e127_35, e127_38, e127_41, e127_42, e127_45, e127_46, e127_47, e127_50, e127_53, e127_54, e127_55, e127_58, e127_59, e127_60, e127_61, e127_64, e127_67, e127_68, e127_69, e127_70, e127_73, e127_74, e127_75, e127_76, e127_77, e127_78, e127_79, e127_80, e127_81, e127_82, e127_85, e127_86, e127_87, e127_88, e127_89, implies_true, Int.reduceSub, Option.isNone_some, Option.isNone_none, ab_bh_some, ab_bh_thr, ab_gs_3, ab_gl_2, ab_gl_3, ab_gt_some, ab_gc_0, ab_gk_0, Bool.false_eq_true, Bool.true_eq_false, false_implies, Nat.reduceEqDiff, ab_ge, ab_lt, ab_le, ab_gt, ab_eq, ab_ne, decide_eq_true_eq, ab_w_id, ab_w0, ab_gd_some, ab_gs_0, ab_gs_1, ab_gl_0, ab_gl_1, ab_bv_some, ab_bu_some, ab_bv_thr, ab_bu_thr, ab_fx_n, ab_fx_i, ab_fx_q, ab_fx_l, ab_sh_si, ab_gr_si, ab_gl_si, cs_n, ↓reduceIte, true_or, or_true, false_or, or_false, and_true, true_and, and_false, false_and, not_true_eq_false, not_false_eq_true, eq_self, Int.reduceEq, Int.reduceLT, Int.reduceLE, Int.reduceAdd, Int.reduceMul, Int.reduceNeg, if_pos, if_neg, hs, n103n i.1 m r1 r2 c, n102_1 hs]
theorem n127_2 {dd : Nat} {d s v : Int} {g h : ab_H} {b : Nat} (i : ci g) (m : mm g h b) (d1 : 0 ≤ d) (d2 : d < ab_gi g 1 0) (s1 : 0 ≤ s) (s2 : s < ab_gi g 1 1) (v1 : -2147483648 ≤ v) (v2 : v < 2147483648) (hn : ¬ (1 ≤ v ∧ v ≤ 255)) : mR B (dd + 2) 127 [some (.inr (.inr (.inl (some 18)))), some (.inl d), some (.inl s), some (.inl v)] h g 2 0 0 0 := by
  have hs := m.1.1.1
  have hs0 : (ab_sh (mt h 0))[18]? = some (8, 22) := hs
  have e1 := n101_r (B := B) (dd := dd + 1) (w := 2) m (by omega) (by omega)
  have e := n100n (B := B) (dd := dd + 1) (h := mt h 0) v1 v2 (show -2147483648 ≤ 1 by omega) (show (1 : Int) < 2147483648 by omega) (show -2147483648 ≤ 255 by omega) (show (255 : Int) < 2147483648 by omega) hn
  refine mR_no m ?_
  simp (disch := omega) only [e127_0, e127_1, e127_2, e127_3, e127_6, e127_9, e127_10, e127_11, e127_14, e127_17, e127_18, e127_21, e127_22, e127_23, e127_26, e127_29, e127_30, e127_31, e127_32, e127_35, e127_38, e127_41, e127_42, e127_45, e127_46, e127_47, e127_50, e127_53, e127_54, e127_55, e127_58, e127_59, e127_60, e127_61, e127_64, e127_67, e127_68, e127_69, e127_70, e127_73, e127_74, e127_75, e127_76, e127_77, e127_78, e127_79, e127_80, e127_81, e127_82, e127_85, e127_86, e127_87, e127_88, e127_89, implies_true, Int.reduceSub, Option.isNone_some, Option.isNone_none, ab_bh_some, ab_bh_thr, ab_gs_3, ab_gl_2, ab_gl_3, ab_gt_some, ab_gc_0, ab_gk_0, Bool.false_eq_true, Bool.true_eq_false, false_implies, Nat.reduceEqDiff, ab_ge, ab_lt, ab_le, ab_gt, ab_eq, ab_ne, decide_eq_true_eq, ab_w_id, ab_w0, ab_gd_some, ab_gs_0, ab_gs_1, ab_gl_0, ab_gl_1, ab_bv_some, ab_bu_some, ab_bv_thr, ab_bu_thr, ab_fx_n, ab_fx_i, ab_fx_q, ab_fx_l, ab_sh_si, ab_gr_si, ab_gl_si, cs_n, ↓reduceIte, true_or, or_true, false_or, or_false, and_true, true_and, and_false, false_and, not_true_eq_false, not_false_eq_true, eq_self, Int.reduceEq, Int.reduceLT, Int.reduceLE, Int.reduceAdd, Int.reduceMul, Int.reduceNeg, if_pos, if_neg, hs, hs0, n103y i.1 m d1 d2, n104y i.1 m s1 s2, n102_0 hs, e, e1]
theorem n127_3 {dd : Nat} {d s v : Int} {g h : ab_H} {b : Nat} (i : ci g) (m : mm g h b) (d1 : 0 ≤ d) (d2 : d < ab_gi g 1 0) (s1 : 0 ≤ s) (s2 : s < ab_gi g 1 1) (v1 : 1 ≤ v) (v2 : v ≤ 255) (hn : ab_gi g 5 d = 1) : mR B (dd + 2) 127 [some (.inr (.inr (.inl (some 18)))), some (.inl d), some (.inl s), some (.inl v)] h g 3 0 0 0 := by
  have hs := m.1.1.1
  have m0 : mm g (mt h 0) b := mm_thr m
  have hm0 := m0.1
  have e1 := n101_r (B := B) (dd := dd + 1) (w := 3) m (by omega) (by omega)
  have e := n100y (B := B) (dd := dd + 1) (h := mt h 0) (show -2147483648 ≤ 1 by omega) (show (255 : Int) < 2147483648 by omega) v1 v2
  have f := (m0.2.2.1.2.1 d d1 d2).1
  refine mR_no m ?_
  simp (disch := omega) only [e127_0, e127_1, e127_2, e127_3, e127_6, e127_9, e127_10, e127_11, e127_14, e127_17, e127_18, e127_21, e127_22, e127_23, e127_26, e127_29, e127_30, e127_31, e127_32, e127_35, e127_38, e127_41, e127_42, e127_45, e127_46, e127_47, e127_50, e127_53, e127_54, e127_55, e127_58, e127_59, e127_60, e127_61, e127_64, e127_67, e127_68, e127_69, e127_70, e127_73, e127_74, e127_75, e127_76, e127_77, e127_78, e127_79, e127_80, e127_81, e127_82, e127_85, e127_86, e127_87, e127_88, e127_89, implies_true, Int.reduceSub, Option.isNone_some, Option.isNone_none, ab_bh_some, ab_bh_thr, ab_gs_3, ab_gl_2, ab_gl_3, ab_gt_some, ab_gc_0, ab_gk_0, Bool.false_eq_true, Bool.true_eq_false, false_implies, Nat.reduceEqDiff, ab_ge, ab_lt, ab_le, ab_gt, ab_eq, ab_ne, decide_eq_true_eq, ab_w_id, ab_w0, ab_gd_some, ab_gs_0, ab_gs_1, ab_gl_0, ab_gl_1, ab_bv_some, ab_bu_some, ab_bv_thr, ab_bu_thr, ab_fx_n, ab_fx_i, ab_fx_q, ab_fx_l, ab_sh_si, ab_gr_si, ab_gl_si, cs_n, ↓reduceIte, true_or, or_true, false_or, or_false, and_true, true_and, and_false, false_and, not_true_eq_false, not_false_eq_true, eq_self, Int.reduceEq, Int.reduceLT, Int.reduceLE, Int.reduceAdd, Int.reduceMul, Int.reduceNeg, if_pos, if_neg, hs, hm0.1, hm0.2.1, n103y i.1 m d1 d2, n104y i.1 m s1 s2, n102_0 hs, n101_0 hm0.1.1 (mt_t h 0), e, f, hn, e1]
theorem n127 {dd : Nat} {d s v : Int} {g h : ab_H} {b : Nat} (i : ci g) (m : mm g h b) (d1 : 0 ≤ d) (d2 : d < ab_gi g 1 0) (s1 : 0 ≤ s) (s2 : s < ab_gi g 1 1) (v1 : 1 ≤ v) (v2 : v ≤ 255) (hn : ab_gi g 5 d = 0) : mR B (dd + 2) 127 [some (.inr (.inr (.inl (some 18)))), some (.inl d), some (.inl s), some (.inl v)] h (ab_si g 2 (d * 8 + s) (ab_ixor (ab_gi g 2 (d * 8 + s)) v)) 0 (ab_ixor (ab_gi g 2 (d * 8 + s)) v) 0 0 := by
  have hs := m.1.1.1
  have m0 : mm g (mt h 0) b := mm_thr m
  have hm0 := m0.1
  have t0 := mt_t h 0
  have hD := i.1.2.1
  have hb := hm0.2.2.2.2
  have x0 : mE h (mt h 0) 0 0 := mE.si (by omega)
  have e := n100y (B := B) (dd := dd + 1) (h := mt h 0) (show -2147483648 ≤ 1 by omega) (show (255 : Int) < 2147483648 by omega) v1 v2
  have f := (m0.2.2.1.2.1 d d1 d2).1
  have vv := (m0.2.2.1.1 d s d1 d2 s1 s2).1
  have hrow := hm0.2.2.1 d d1 d2
  have m1 := mm_v (v := ab_ixor (ab_gi g 2 (d * 8 + s)) v) i.1 m0 d1 d2 s1 s2
  have f2 : ab_gi (ab_si (mt h 0) (b + 1 + d.toNat) s (ab_ixor (ab_gi g 2 (d * 8 + s)) v)) (b + 1 + d.toNat) s = ab_ixor (ab_gi g 2 (d * 8 + s)) v := by rw [ab_gi_si, if_pos ⟨rfl, rfl⟩]
  refine ⟨_, b, ?_, m1, x0.trans (mE.si (by omega)), by rw [ab_gi_si, if_neg (by omega)]; exact t0⟩
  simp (disch := omega) only [e127_0, e127_1, e127_2, e127_3, e127_6, e127_9, e127_10, e127_11, e127_14, e127_17, e127_18, e127_21, e127_22, e127_23, e127_26, e127_29, e127_30, e127_31, e127_32, e127_35, e127_38, e127_41, e127_42, e127_45, e127_46, e127_47, e127_50, e127_53, e127_54, e127_55, e127_58, e127_59, e127_60, e127_61, e127_64, e127_67, e127_68, e127_69, e127_70, e127_73, e127_74, e127_75, e127_76, e127_77, e127_78, e127_79, e127_80, e127_81, e127_82, e127_85, e127_86, e127_87, e127_88, e127_89, implies_true, Int.reduceSub, Option.isNone_some, Option.isNone_none, ab_bh_some, ab_bh_thr, ab_gs_3, ab_gl_2, ab_gl_3, ab_gt_some, ab_gc_0, ab_gk_0, Bool.false_eq_true, Bool.true_eq_false, false_implies, Nat.reduceEqDiff, ab_ge, ab_lt, ab_le, ab_gt, ab_eq, ab_ne, decide_eq_true_eq, ab_w_id, ab_w0, ab_gd_some, ab_gs_0, ab_gs_1, ab_gl_0, ab_gl_1, ab_bv_some, ab_bu_some, ab_bv_thr, ab_bu_thr, ab_fx_n, ab_fx_i, ab_fx_q, ab_fx_l, ab_sh_si, ab_gr_si, ab_gl_si, cs_n, ↓reduceIte, true_or, or_true, false_or, or_false, and_true, true_and, and_false, false_and, not_true_eq_false, not_false_eq_true, eq_self, Int.reduceEq, Int.reduceLT, Int.reduceLE, Int.reduceAdd, Int.reduceMul, Int.reduceNeg, if_pos, if_neg, hs, hm0.1, hm0.2.1, hrow, n103y i.1 m d1 d2, n104y i.1 m s1 s2, n102_0 hs, n101_0 hm0.1.1 t0, e, f, hn, vv, f2]
/-! rounds -/
def cq (g q : ab_H) : Prop := ∀ c x, ¬ (c = 0 ∧ x = 10) → ab_gi g c x = ab_gi q c x
theorem cq.b {g q : ab_H} (e : cq g q) (d s : Int) : cs_b g d s = cs_b q d s := by
  unfold cs_b
  rw [e 5 _ (by omega), e 3 _ (by omega), e 2 _ (by omega)]
theorem cq.bc {g q : ab_H} (e : cq g q) (s : Int) : cs_bc g s = cs_bc q s := by
  unfold cs_bc
  rw [e 1 0 (by omega)]
  exact cs_sf_congr _ _ (fun j _ _ => e.b j s)
theorem cq.xo {g q : ab_H} (e : cq g q) (d s : Int) : cs_xo g d s = cs_xo q d s := by
  unfold cs_xo
  rw [e 1 0 (by omega), show (fun o => if o = d then 0 else ab_gi g 2 (o * 8 + s)) = (fun o => if o = d then 0 else ab_gi q 2 (o * 8 + s)) from funext fun o => by rw [e 2 _ (by omega)]]
theorem cq.lay {g q : ab_H} (e : cq g q) (d s v : Int) : cq (cs_lay g d s v) (cs_lay q d s v) := by
  unfold cs_lay
  rw [e 5 d (by omega)]
  split
  · exact e
  · intro c x hc
    rw [ab_gi_si, ab_gi_si, ab_gi_si, ab_gi_si, e c x hc]
theorem cq.mf {g q : ab_H} (e : cq g q) (s : Int) : ∀ (k : Nat) (i : Int), (cs_mf g s i k).1 = (cs_mf q s i k).1 ∧ cq (cs_mf g s i k).2 (cs_mf q s i k).2
  | 0, _ => ⟨rfl, e⟩
  | k + 1, i => by
    unfold cs_mf
    rw [e.b, e 5 i (by omega), e.xo]
    split
    · exact ⟨rfl, e.lay _ _ _⟩
    · exact cq.mf e s k (i + 1)
theorem cq.mend {g q : ab_H} (e : cq g q) (s : Int) : (cs_mend g s).1 = (cs_mend q s).1 ∧ cq (cs_mend g s).2 (cs_mend q s).2 := by
  unfold cs_mend
  rw [e.bc, e 1 0 (by omega)]
  split
  · exact e.mf _ _ _
  · exact ⟨rfl, e⟩
theorem n128_loop {dd : Nat} {f n S : Int} {b : Nat} (f1 : 0 ≤ f) (f2 : f < 8) (n8 : n ≤ 8) (S1 : 1 ≤ S) (S8 : S ≤ 8) : ∀ (k : Nat) (h g q : ab_H) (i c : Int), cs_R g → mm g h b → cq g q → ab_gi g 1 1 = S → 0 ≤ i → i + k = n → 0 ≤ c → c ≤ i →
    ∃ h', ab_E B (dd + 3) 128 5 [some (.inr (.inr (.inl (some 18)))), some (.inl f), some (.inl n), some (.inl c), some (.inl i)] [] h = some (.inl (some (.inl (c + (cs_rd f q i k).1))), h') ∧ mm (ab_si (cs_rd f q i k).2 0 10 (ab_gi g 0 10 + (cs_rd f q i k).1)) h' b ∧ mE h h' 0 0 ∧ ab_gi h' 18 0 = ab_gi h 18 0
  | 0, h, g, q, i, c, hR, m, e, eS, q1, q2, c1, c2 => by
    have hm := m.1
    refine ⟨h, ?_, mm_gc m (fun c x _ => ?_), mE.rf, rfl⟩
    · rw [e128_5]
      simp (disch := omega) only [e128_0, e128_1, e128_2, e128_3, e128_7, e128_8, e128_11, e128_12, e128_13, e128_14, e128_16, e128_17, e128_18, e128_21, e128_22, e128_25, e128_26, e128_27, e128_30, e128_33, e128_34, implies_true, Int.reduceSub, Option.isNone_some, Option.isNone_none, ab_bh_some, ab_bh_thr, ab_gs_3, ab_gl_2, ab_gl_3, ab_gt_some, ab_gc_0, ab_gk_0, Bool.false_eq_true, Bool.true_eq_false, false_implies, Nat.reduceEqDiff, ab_ge, ab_lt, ab_le, ab_gt, ab_eq, ab_ne, decide_eq_true_eq, ab_w_id, ab_w0, ab_gd_some, ab_gs_0, ab_gs_1, ab_gl_0, ab_gl_1, ab_bv_some, ab_bu_some, ab_bv_thr, ab_bu_thr, ab_fx_n, ab_fx_i, ab_fx_q, ab_fx_l, ab_sh_si, ab_gr_si, ab_gl_si, cs_n, ↓reduceIte, true_or, or_true, false_or, or_false, and_true, true_and, and_false, false_and, not_true_eq_false, not_false_eq_true, eq_self, Int.reduceEq, Int.reduceLT, Int.reduceLE, Int.reduceAdd, Int.reduceMul, Int.reduceNeg, if_pos, if_neg, hm.1, cs_rd, Int.add_zero]
    · show ab_gi (ab_si q 0 10 (ab_gi g 0 10 + 0)) c x = ab_gi g c x
      rw [ab_gi_si]
      by_cases z : c = 0 ∧ x = 10
      · rw [if_pos z, z.1, z.2]; omega
      · rw [if_neg z, e c x z]
  | k + 1, h, g, q, i, c, hR, m, e, eS, q1, q2, c1, c2 => by
    have hm := m.1
    have e2 := m.2.1.2.1
    have s1 : 0 ≤ (f + i) % ab_gi g 1 1 := Int.emod_nonneg _ (by omega)
    have s2 : (f + i) % ab_gi g 1 1 < ab_gi g 1 1 := Int.emod_lt_of_pos _ (by omega)
    have er : ab_irem (f + i) (ab_gi g 1 1) = (f + i) % ab_gi g 1 1 := ab_irem_id (by omega) (by omega) (by omega) (by omega)
    obtain ⟨p1, a1, m1, x1, t1⟩ := n116 (B := B) (dd := dd) hR m s1 s2
    obtain ⟨w1, w2, w3, w4, w5⟩ := cs_mend_ok hR s1 s2
    have em := e.mend ((f + i) % ab_gi g 1 1)
    have eq11 : ab_gi q 1 1 = ab_gi g 1 1 := (e 1 1 (by omega)).symm
    have gm : ∀ c x, ¬ (c = 0 ∧ x = 10) → ab_gi (cs_me g ((f + i) % ab_gi g 1 1)) c x = ab_gi (cs_mend g ((f + i) % ab_gi g 1 1)).2 c x := fun c x hc => by unfold cs_me; rw [ab_gi_si, if_neg hc]
    have g10 : ab_gi (cs_me g ((f + i) % ab_gi g 1 1)) 0 10 = ab_gi g 0 10 + (cs_mend g ((f + i) % ab_gi g 1 1)).1 := by unfold cs_me; rw [ab_gi_si, if_pos ⟨rfl, rfl⟩]
    have hRm : cs_R (cs_me g ((f + i) % ab_gi g 1 1)) := cs_R_six w1 (by decide) (by decide) (by decide) (by decide) (by decide)
    obtain ⟨h', a, m3, x3, t3⟩ := n128_loop (dd := dd) f1 f2 n8 S1 S8 k p1 (cs_me g ((f + i) % ab_gi g 1 1)) (cs_mend q ((f + i) % ab_gi g 1 1)).2 (i + 1) (c + (cs_mend g ((f + i) % ab_gi g 1 1)).1) hRm m1 (fun c x hc => (gm c x hc).trans (em.2 c x hc)) (by rw [gm 1 1 (by omega), w3 1 1 (by decide) (by decide)]; exact eS) (by omega) (by omega) (by omega) (by omega)
    rw [g10, em.1, Int.add_assoc] at m3
    rw [Int.add_assoc, em.1] at a
    unfold cs_rd
    rw [eq11]
    refine ⟨h', ?_, m3, x1.trans x3, t3.trans t1⟩
    rw [e128_5]
    simp (disch := omega) only [e128_0, e128_1, e128_2, e128_3, e128_7, e128_8, e128_11, e128_12, e128_13, e128_14, e128_16, e128_17, e128_18, e128_21, e128_22, e128_25, e128_26, e128_27, e128_30, e128_33, e128_34, implies_true, Int.reduceSub, Option.isNone_some, Option.isNone_none, ab_bh_some, ab_bh_thr, ab_gs_3, ab_gl_2, ab_gl_3, ab_gt_some, ab_gc_0, ab_gk_0, Bool.false_eq_true, Bool.true_eq_false, false_implies, Nat.reduceEqDiff, ab_ge, ab_lt, ab_le, ab_gt, ab_eq, ab_ne, decide_eq_true_eq, ab_w_id, ab_w0, ab_gd_some, ab_gs_0, ab_gs_1, ab_gl_0, ab_gl_1, ab_bv_some, ab_bu_some, ab_bv_thr, ab_bu_thr, ab_fx_n, ab_fx_i, ab_fx_q, ab_fx_l, ab_sh_si, ab_gr_si, ab_gl_si, cs_n, ↓reduceIte, true_or, or_true, false_or, or_false, and_true, true_and, and_false, false_and, not_true_eq_false, not_false_eq_true, eq_self, Int.reduceEq, Int.reduceLT, Int.reduceLE, Int.reduceAdd, Int.reduceMul, Int.reduceNeg, if_pos, if_neg, hm.1, e2, er, a1, em.1]
    exact a
theorem n128 {dd : Nat} {f n : Int} {g h : ab_H} {b : Nat} (hR : cs_R g) (m : mm g h b) (f1 : 0 ≤ f) (f2 : f < 8) (n1 : 1 ≤ n) (n8 : n ≤ 8) (S1 : 1 ≤ ab_gi g 1 1) :
    ∃ h', ab_E B (dd + 3) 128 0 [some (.inr (.inr (.inl (some 18)))), some (.inl f), some (.inl n), none, none] [] h = some (.inl (some (.inl (cs_rd f g 0 n.toNat).1)), h') ∧ mm (ab_si (cs_rd f g 0 n.toNat).2 0 10 (ab_gi g 0 10 + (cs_rd f g 0 n.toNat).1)) h' b ∧ mE h h' 0 0 ∧ ab_gi h' 18 0 = ab_gi h 18 0 := by
  have hD := hR.2.1
  obtain ⟨h', a, r⟩ := n128_loop (B := B) (dd := dd) (b := b) f1 f2 n8 S1 (by omega) n.toNat h g g 0 0 hR m (fun _ _ _ => rfl) rfl (by omega) (by omega) (by omega) (by omega)
  rw [Int.zero_add] at a
  refine ⟨h', ?_, r⟩
  rw [← a]
  simp (disch := omega) only [e128_0, e128_1, e128_2, e128_3, e128_7, e128_8, e128_11, e128_12, e128_13, e128_14, e128_16, e128_17, e128_18, e128_21, e128_22, e128_25, e128_26, e128_27, e128_30, e128_33, e128_34, implies_true, Int.reduceSub, Option.isNone_some, Option.isNone_none, ab_bh_some, ab_bh_thr, ab_gs_3, ab_gl_2, ab_gl_3, ab_gt_some, ab_gc_0, ab_gk_0, Bool.false_eq_true, Bool.true_eq_false, false_implies, Nat.reduceEqDiff, ab_ge, ab_lt, ab_le, ab_gt, ab_eq, ab_ne, decide_eq_true_eq, ab_w_id, ab_w0, ab_gd_some, ab_gs_0, ab_gs_1, ab_gl_0, ab_gl_1, ab_bv_some, ab_bu_some, ab_bv_thr, ab_bu_thr, ab_fx_n, ab_fx_i, ab_fx_q, ab_fx_l, ab_sh_si, ab_gr_si, ab_gl_si, cs_n, ↓reduceIte, true_or, or_true, false_or, or_false, and_true, true_and, and_false, false_and, not_true_eq_false, not_false_eq_true, eq_self, Int.reduceEq, Int.reduceLT, Int.reduceLE, Int.reduceAdd, Int.reduceMul, Int.reduceNeg, if_pos, if_neg]
theorem n129_1 {dd : Nat} {n : Int} {g h : ab_H} {b : Nat} (m : mm g h b) (r1 : -2147483648 ≤ n) (r2 : n < 2147483648) (hn : ¬ (1 ≤ n ∧ n ≤ 8)) : mR B (dd + 2) 129 [some (.inr (.inr (.inl (some 18)))), some (.inl n), none] h g 1 0 0 0 := by
  have hs := m.1.1.1
  have e := n100n (B := B) (dd := dd + 1) (h := h) r1 r2 (show -2147483648 ≤ 1 by omega) (show (1 : Int) < 2147483648 by omega) (show -2147483648 ≤ 8 by omega) (show (8 : Int) < 2147483648 by omega) hn
  refine mR_no m ?_
  simp (disch := omega) only [e129_0, e129_1, e129_2, e129_3, e129_5, e129_8, e129_11, e129_12, e129_15, e129_16, e129_17, e129_20, e129_23, e129_24, e129_25, e129_28, e129_31, e129_32, e129_35, e129_36, e129_37, e129_40, e129_43, e129_44, e129_45, e129_46, e129_47, e129_50, e129_51, e129_54, e129_55, e129_56, e129_57, e129_60, e129_61, e129_62, e129_63, e129_66, e129_67, e129_70, e129_71, implies_true, Int.reduceSub, Option.isNone_some, Option.isNone_none, ab_bh_some, ab_bh_thr, ab_gs_3, ab_gl_2, ab_gl_3, ab_gt_some, ab_gc_0, ab_gk_0, Bool.false_eq_true, Bool.true_eq_false, false_implies, Nat.reduceEqDiff, ab_ge, ab_lt, ab_le, ab_gt, ab_eq, ab_ne, decide_eq_true_eq, ab_w_id, ab_w0, ab_gd_some, ab_gs_0, ab_gs_1, ab_gl_0, ab_gl_1, ab_bv_some, ab_bu_some, ab_bv_thr, ab_bu_thr, ab_fx_n, ab_fx_i, ab_fx_q, ab_fx_l, ab_sh_si, ab_gr_si, ab_gl_si, cs_n, ↓reduceIte, true_or, or_true, false_or, or_false, and_true, true_and, and_false, false_and, not_true_eq_false, not_false_eq_true, eq_self, Int.reduceEq, Int.reduceLT, Int.reduceLE, Int.reduceAdd, Int.reduceMul, Int.reduceNeg, if_pos, if_neg, hs, e, n102_1 hs]
theorem n129_2 {dd : Nat} {n : Int} {g h : ab_H} {b : Nat} (m : mm g h b) (n1 : 1 ≤ n) (n2 : n ≤ 8) (hn : ab_gi g 0 2 = 0) : mR B (dd + 2) 129 [some (.inr (.inr (.inl (some 18)))), some (.inl n), none] h g 2 0 0 0 := by
  have hs := m.1.1.1
  have m0 : mm g (mt h 0) b := mm_thr m
  have hs0 : (ab_sh (mt h 0))[18]? = some (8, 22) := hs
  have e := n100y (B := B) (dd := dd + 1) (h := h) (show -2147483648 ≤ 1 by omega) (show (8 : Int) < 2147483648 by omega) n1 n2
  have e1 := n101_r (B := B) (dd := dd + 1) (w := 2) m (by omega) (by omega)
  have e3 := m0.2.1.2.2.1
  refine mR_no m ?_
  simp (disch := omega) only [e129_0, e129_1, e129_2, e129_3, e129_5, e129_8, e129_11, e129_12, e129_15, e129_16, e129_17, e129_20, e129_23, e129_24, e129_25, e129_28, e129_31, e129_32, e129_35, e129_36, e129_37, e129_40, e129_43, e129_44, e129_45, e129_46, e129_47, e129_50, e129_51, e129_54, e129_55, e129_56, e129_57, e129_60, e129_61, e129_62, e129_63, e129_66, e129_67, e129_70, e129_71, implies_true, Int.reduceSub, Option.isNone_some, Option.isNone_none, ab_bh_some, ab_bh_thr, ab_gs_3, ab_gl_2, ab_gl_3, ab_gt_some, ab_gc_0, ab_gk_0, Bool.false_eq_true, Bool.true_eq_false, false_implies, Nat.reduceEqDiff, ab_ge, ab_lt, ab_le, ab_gt, ab_eq, ab_ne, decide_eq_true_eq, ab_w_id, ab_w0, ab_gd_some, ab_gs_0, ab_gs_1, ab_gl_0, ab_gl_1, ab_bv_some, ab_bu_some, ab_bv_thr, ab_bu_thr, ab_fx_n, ab_fx_i, ab_fx_q, ab_fx_l, ab_sh_si, ab_gr_si, ab_gl_si, cs_n, ↓reduceIte, true_or, or_true, false_or, or_false, and_true, true_and, and_false, false_and, not_true_eq_false, not_false_eq_true, eq_self, Int.reduceEq, Int.reduceLT, Int.reduceLE, Int.reduceAdd, Int.reduceMul, Int.reduceNeg, if_pos, if_neg, hs, hs0, e, n102_0 hs, e3, hn, e1]
theorem n129 {dd : Nat} {n : Int} {g h : ab_H} {b : Nat} (i : ci g) (m : mm g h b) (n1 : 1 ≤ n) (n2 : n ≤ 8) (hon : ab_gi g 0 2 = 1) : mR B (dd + 5) 129 [some (.inr (.inr (.inl (some 18)))), some (.inl n), none] h (cs_ro g 6 n) 0 (cs_rd (ab_gi g 0 6) g 0 n.toNat).1 0 0 := by
  have hs := m.1.1.1
  have m0 : mm g (mt h 0) b := mm_thr m
  have hs0 : (ab_sh (mt h 0))[18]? = some (8, 22) := hs
  have t0 := mt_t h 0
  have x0 : mE h (mt h 0) 0 0 := mE.si (by omega)
  have hDS := i.1.2.1
  have c : ab_gi g 1 0 ≠ 0 := fun c => by have := i.2.2.1.2 c; omega
  have hp := i.2.2.2.2.1
  have e := n100y (B := B) (dd := dd + 4) (h := h) (show -2147483648 ≤ 1 by omega) (show (8 : Int) < 2147483648 by omega) n1 n2
  have e3 := m0.2.1.2.2.1
  have e12 : ab_gi (mt h 0) 18 12 = ab_gi g 0 6 := m0.2.1.2.2.2.1
  obtain ⟨p1, a1, m1, x1, q1⟩ := n128 (B := B) (dd := dd + 1) i.1 m0 hp.1 hp.2 n1 n2 (by omega)
  obtain ⟨w1, w2, w3, w4, w5⟩ := cs_rd_ok (f := ab_gi g 0 6) n.toNat g 0 i.1 (by omega)
  have hm1 := m1.1
  have f12 : ab_gi p1 18 12 = ab_gi g 0 6 := m1.2.1.2.2.2.1.trans (by rw [ab_gi_si, if_neg (by omega), w3 0 6 (by decide) (by decide)])
  have f2 : ab_gi p1 18 2 = ab_gi g 1 1 := m1.2.1.2.1.trans (by rw [ab_gi_si, if_neg (by omega), w3 1 1 (by decide) (by decide)])
  have er : ab_irem (ab_gi g 0 6 + n) (ab_gi g 1 1) = (ab_gi g 0 6 + n) % ab_gi g 1 1 := ab_irem_id (by omega) (by omega) (by omega) (by omega)
  have m2 := mm_f (k := 6) (j := 12) (v := (ab_gi g 0 6 + n) % ab_gi g 1 1) m1 (by omega)
  refine ⟨_, b, ?_, m2, (x0.trans x1).trans (mE.si (by omega)), by rw [ab_gi_si, if_neg (by omega), q1]; exact t0⟩
  simp (disch := omega) only [e129_0, e129_1, e129_2, e129_3, e129_5, e129_8, e129_11, e129_12, e129_15, e129_16, e129_17, e129_20, e129_23, e129_24, e129_25, e129_28, e129_31, e129_32, e129_35, e129_36, e129_37, e129_40, e129_43, e129_44, e129_45, e129_46, e129_47, e129_50, e129_51, e129_54, e129_55, e129_56, e129_57, e129_60, e129_61, e129_62, e129_63, e129_66, e129_67, e129_70, e129_71, implies_true, Int.reduceSub, Option.isNone_some, Option.isNone_none, ab_bh_some, ab_bh_thr, ab_gs_3, ab_gl_2, ab_gl_3, ab_gt_some, ab_gc_0, ab_gk_0, Bool.false_eq_true, Bool.true_eq_false, false_implies, Nat.reduceEqDiff, ab_ge, ab_lt, ab_le, ab_gt, ab_eq, ab_ne, decide_eq_true_eq, ab_w_id, ab_w0, ab_gd_some, ab_gs_0, ab_gs_1, ab_gl_0, ab_gl_1, ab_bv_some, ab_bu_some, ab_bv_thr, ab_bu_thr, ab_fx_n, ab_fx_i, ab_fx_q, ab_fx_l, ab_sh_si, ab_gr_si, ab_gl_si, cs_n, ↓reduceIte, true_or, or_true, false_or, or_false, and_true, true_and, and_false, false_and, not_true_eq_false, not_false_eq_true, eq_self, Int.reduceEq, Int.reduceLT, Int.reduceLE, Int.reduceAdd, Int.reduceMul, Int.reduceNeg, if_pos, if_neg, hs, hs0, e, n102_0 hs, n101_0 hs0 t0, e3, hon, e12, a1, hm1.1, f12, f2, er]
theorem n130_1 {dd : Nat} {n : Int} {g h : ab_H} {b : Nat} (m : mm g h b) (r1 : -2147483648 ≤ n) (r2 : n < 2147483648) (hn : ¬ (1 ≤ n ∧ n ≤ 8)) : mR B (dd + 2) 130 [some (.inr (.inr (.inl (some 18)))), some (.inl n), none] h g 1 0 0 0 := by
  have hs := m.1.1.1
  have e := n100n (B := B) (dd := dd + 1) (h := h) r1 r2 (show -2147483648 ≤ 1 by omega) (show (1 : Int) < 2147483648 by omega) (show -2147483648 ≤ 8 by omega) (show (8 : Int) < 2147483648 by omega) hn
  refine mR_no m ?_
  simp (disch := omega) only [e130_0, e130_1, e130_2, e130_3, e130_5, e130_8, e130_11, e130_12, e130_15, e130_16, e130_17, e130_20, e130_23, e130_24, e130_25, e130_28, e130_31, e130_32, e130_35, e130_36, e130_37, e130_40, e130_43, e130_44, e130_45, e130_46, e130_47, e130_50, e130_51, e130_54, e130_55, e130_56, e130_57, e130_60, e130_61, e130_62, e130_63, e130_66, e130_67, e130_70, e130_71, implies_true, Int.reduceSub, Option.isNone_some, Option.isNone_none, ab_bh_some, ab_bh_thr, ab_gs_3, ab_gl_2, ab_gl_3, ab_gt_some, ab_gc_0, ab_gk_0, Bool.false_eq_true, Bool.true_eq_false, false_implies, Nat.reduceEqDiff, ab_ge, ab_lt, ab_le, ab_gt, ab_eq, ab_ne, decide_eq_true_eq, ab_w_id, ab_w0, ab_gd_some, ab_gs_0, ab_gs_1, ab_gl_0, ab_gl_1, ab_bv_some, ab_bu_some, ab_bv_thr, ab_bu_thr, ab_fx_n, ab_fx_i, ab_fx_q, ab_fx_l, ab_sh_si, ab_gr_si, ab_gl_si, cs_n, ↓reduceIte, true_or, or_true, false_or, or_false, and_true, true_and, and_false, false_and, not_true_eq_false, not_false_eq_true, eq_self, Int.reduceEq, Int.reduceLT, Int.reduceLE, Int.reduceAdd, Int.reduceMul, Int.reduceNeg, if_pos, if_neg, hs, e, n102_1 hs]
theorem n130_2 {dd : Nat} {n : Int} {g h : ab_H} {b : Nat} (m : mm g h b) (n1 : 1 ≤ n) (n2 : n ≤ 8) (hn : ab_gi g 0 2 = 0) : mR B (dd + 2) 130 [some (.inr (.inr (.inl (some 18)))), some (.inl n), none] h g 2 0 0 0 := by
  have hs := m.1.1.1
  have m0 : mm g (mt h 0) b := mm_thr m
  have hs0 : (ab_sh (mt h 0))[18]? = some (8, 22) := hs
  have e := n100y (B := B) (dd := dd + 1) (h := h) (show -2147483648 ≤ 1 by omega) (show (8 : Int) < 2147483648 by omega) n1 n2
  have e1 := n101_r (B := B) (dd := dd + 1) (w := 2) m (by omega) (by omega)
  have e3 := m0.2.1.2.2.1
  refine mR_no m ?_
  simp (disch := omega) only [e130_0, e130_1, e130_2, e130_3, e130_5, e130_8, e130_11, e130_12, e130_15, e130_16, e130_17, e130_20, e130_23, e130_24, e130_25, e130_28, e130_31, e130_32, e130_35, e130_36, e130_37, e130_40, e130_43, e130_44, e130_45, e130_46, e130_47, e130_50, e130_51, e130_54, e130_55, e130_56, e130_57, e130_60, e130_61, e130_62, e130_63, e130_66, e130_67, e130_70, e130_71, implies_true, Int.reduceSub, Option.isNone_some, Option.isNone_none, ab_bh_some, ab_bh_thr, ab_gs_3, ab_gl_2, ab_gl_3, ab_gt_some, ab_gc_0, ab_gk_0, Bool.false_eq_true, Bool.true_eq_false, false_implies, Nat.reduceEqDiff, ab_ge, ab_lt, ab_le, ab_gt, ab_eq, ab_ne, decide_eq_true_eq, ab_w_id, ab_w0, ab_gd_some, ab_gs_0, ab_gs_1, ab_gl_0, ab_gl_1, ab_bv_some, ab_bu_some, ab_bv_thr, ab_bu_thr, ab_fx_n, ab_fx_i, ab_fx_q, ab_fx_l, ab_sh_si, ab_gr_si, ab_gl_si, cs_n, ↓reduceIte, true_or, or_true, false_or, or_false, and_true, true_and, and_false, false_and, not_true_eq_false, not_false_eq_true, eq_self, Int.reduceEq, Int.reduceLT, Int.reduceLE, Int.reduceAdd, Int.reduceMul, Int.reduceNeg, if_pos, if_neg, hs, hs0, e, n102_0 hs, e3, hn, e1]
theorem n130 {dd : Nat} {n : Int} {g h : ab_H} {b : Nat} (i : ci g) (m : mm g h b) (n1 : 1 ≤ n) (n2 : n ≤ 8) (hon : ab_gi g 0 2 = 1) : mR B (dd + 5) 130 [some (.inr (.inr (.inl (some 18)))), some (.inl n), none] h (cs_ro g 7 n) 0 (cs_rd (ab_gi g 0 7) g 0 n.toNat).1 0 0 := by
  have hs := m.1.1.1
  have m0 : mm g (mt h 0) b := mm_thr m
  have hs0 : (ab_sh (mt h 0))[18]? = some (8, 22) := hs
  have t0 := mt_t h 0
  have x0 : mE h (mt h 0) 0 0 := mE.si (by omega)
  have hDS := i.1.2.1
  have c : ab_gi g 1 0 ≠ 0 := fun c => by have := i.2.2.1.2 c; omega
  have hp := i.2.2.2.2.2
  have e := n100y (B := B) (dd := dd + 4) (h := h) (show -2147483648 ≤ 1 by omega) (show (8 : Int) < 2147483648 by omega) n1 n2
  have e3 := m0.2.1.2.2.1
  have e12 : ab_gi (mt h 0) 18 13 = ab_gi g 0 7 := m0.2.1.2.2.2.2.1
  obtain ⟨p1, a1, m1, x1, q1⟩ := n128 (B := B) (dd := dd + 1) i.1 m0 hp.1 hp.2 n1 n2 (by omega)
  obtain ⟨w1, w2, w3, w4, w5⟩ := cs_rd_ok (f := ab_gi g 0 7) n.toNat g 0 i.1 (by omega)
  have hm1 := m1.1
  have f12 : ab_gi p1 18 13 = ab_gi g 0 7 := m1.2.1.2.2.2.2.1.trans (by rw [ab_gi_si, if_neg (by omega), w3 0 7 (by decide) (by decide)])
  have f2 : ab_gi p1 18 2 = ab_gi g 1 1 := m1.2.1.2.1.trans (by rw [ab_gi_si, if_neg (by omega), w3 1 1 (by decide) (by decide)])
  have er : ab_irem (ab_gi g 0 7 + n) (ab_gi g 1 1) = (ab_gi g 0 7 + n) % ab_gi g 1 1 := ab_irem_id (by omega) (by omega) (by omega) (by omega)
  have m2 := mm_f (k := 7) (j := 13) (v := (ab_gi g 0 7 + n) % ab_gi g 1 1) m1 (by omega)
  refine ⟨_, b, ?_, m2, (x0.trans x1).trans (mE.si (by omega)), by rw [ab_gi_si, if_neg (by omega), q1]; exact t0⟩
  simp (disch := omega) only [e130_0, e130_1, e130_2, e130_3, e130_5, e130_8, e130_11, e130_12, e130_15, e130_16, e130_17, e130_20, e130_23, e130_24, e130_25, e130_28, e130_31, e130_32, e130_35, e130_36, e130_37, e130_40, e130_43, e130_44, e130_45, e130_46, e130_47, e130_50, e130_51, e130_54, e130_55, e130_56, e130_57, e130_60, e130_61, e130_62, e130_63, e130_66, e130_67, e130_70, e130_71, implies_true, Int.reduceSub, Option.isNone_some, Option.isNone_none, ab_bh_some, ab_bh_thr, ab_gs_3, ab_gl_2, ab_gl_3, ab_gt_some, ab_gc_0, ab_gk_0, Bool.false_eq_true, Bool.true_eq_false, false_implies, Nat.reduceEqDiff, ab_ge, ab_lt, ab_le, ab_gt, ab_eq, ab_ne, decide_eq_true_eq, ab_w_id, ab_w0, ab_gd_some, ab_gs_0, ab_gs_1, ab_gl_0, ab_gl_1, ab_bv_some, ab_bu_some, ab_bv_thr, ab_bu_thr, ab_fx_n, ab_fx_i, ab_fx_q, ab_fx_l, ab_sh_si, ab_gr_si, ab_gl_si, cs_n, ↓reduceIte, true_or, or_true, false_or, or_false, and_true, true_and, and_false, false_and, not_true_eq_false, not_false_eq_true, eq_self, Int.reduceEq, Int.reduceLT, Int.reduceLE, Int.reduceAdd, Int.reduceMul, Int.reduceNeg, if_pos, if_neg, hs, hs0, e, n102_0 hs, n101_0 hs0 t0, e3, hon, e12, a1, hm1.1, f12, f2, er]
/-! a stripe is given up -/
theorem ab_ixor_0 {x : Int} (x1 : 0 ≤ x) (x2 : x ≤ 255) : ab_ixor x 0 = x := by
  rw [(ab_ixor_eq x1 x2 (show (0 : Int) ≤ 0 by omega) (show (0 : Int) ≤ 255 by omega)).1, show (0 : Int).toNat = 0 from rfl, Nat.xor_zero]
  omega
theorem cs_bi_B {D S d s : Int} (hD : 3 ≤ D) (hD5 : D ≤ 5) (h1 : 0 ≤ d) (h2 : d < D) (h3 : 0 ≤ s) (h4 : s < S) (hne : d ≠ s % D) : 0 ≤ cs_bi D d s ∧ cs_bi D d s < (D - 1) * S ∧ cs_bi D d s / (D - 1) = s ∧ cs_dk D (cs_bi D d s) = d := by
  obtain ⟨b1, b2, b3, b4⟩ := cs_bi_dk hD h1 h2 h3 hne
  refine ⟨b1, ?_, b3, b4⟩
  rw [b2]
  have q5 : 0 ≤ s % D := Int.emod_nonneg _ (by omega)
  have q6 : s % D < D := Int.emod_lt_of_pos _ (by omega)
  have : D = 3 ∨ D = 4 ∨ D = 5 := by omega
  rcases this with q | q | q <;> subst q <;> split <;> omega
theorem n131_loop {dd : Nat} {D S s : Int} {b : Nat} (hD : 3 ≤ D) (hD5 : D ≤ 5) (hS8 : S ≤ 8) (h3 : 0 ≤ s) (h4 : s < S) : ∀ (k : Nat) (g h : ab_H) (i l x : Int), cs_R g → mm g h b → ab_gi g 1 0 = D → ab_gi g 1 1 = S → 0 ≤ i → i + k = D → 0 ≤ x → x ≤ 255 →
    ∃ h', ab_E B (dd + 3) 131 51 [some (.inr (.inr (.inl (some 18)))), some (.inl s), some (.inl l), some (.inl x), some (.inl i)] [] h = some (.inl (some (.inl (cs_ga D s g i l x k).1)), h') ∧ mm (cs_lay (cs_ga D s g i l x k).2.2 (s % D) s (cs_ga D s g i l x k).2.1) h' b ∧ mE h h' 0 0 ∧ ab_gi h' 18 0 = ab_gi h 18 0
  | 0, g, h, i, l, x, hR, m, eD, eS, q1, q2, x1, x2 => by
    have hm := m.1
    rw [eD, eS] at hm
    have e1 := m.2.1.1
    have q5 : 0 ≤ s % D := Int.emod_nonneg _ (by omega)
    have q6 : s % D < D := Int.emod_lt_of_pos _ (by omega)
    have f := (m.2.2.1.2.1 (s % D) q5 (by omega)).1
    rw [eD] at f
    have e8 := n108 (B := B) (dd := dd + 2) hR m (by omega) h3 (show s < 40 by omega)
    rw [eD] at e8
    have hk : i = D := by omega
    rcases hR.2.2.2 (s % D) with hf | hf
    · obtain ⟨p1, a1, m1, x1', t1⟩ := n112 (B := B) (dd := dd + 2) hR m q5 (show s % D < ab_gi g 1 0 by omega) h3 (show s < ab_gi g 1 1 by omega) x1 x2 hf
      refine ⟨p1, ?_, m1, x1', t1⟩
      rw [e131_51]
      simp (disch := omega) only [e131_0, e131_1, e131_2, e131_3, e131_6, e131_7, e131_10, e131_13, e131_14, e131_15, e131_18, e131_21, e131_22, e131_23, e131_26, e131_27, e131_30, e131_31, e131_34, e131_35, e131_36, e131_39, e131_42, e131_43, e131_44, e131_45, e131_46, e131_47, e131_48, e131_49, e131_53, e131_54, e131_57, e131_60, e131_62, e131_63, e131_64, e131_67, e131_70, e131_73, e131_74, e131_76, e131_77, e131_80, e131_83, e131_84, e131_85, e131_87, e131_88, e131_89, e131_90, e131_91, e131_94, e131_95, e131_97, e131_98, e131_101, e131_102, e131_103, e131_104, e131_107, e131_109, e131_110, e131_113, e131_114, e131_116, e131_117, e131_118, e131_121, e131_122, e131_123, e131_126, e131_128, e131_129, e131_132, e131_133, e131_136, e131_137, e131_140, e131_142, e131_143, e131_144, e131_145, e131_146, e131_147, e131_150, e131_153, e131_154, e131_157, e131_158, e131_159, e131_162, e131_163, e131_166, e131_167, e131_168, e131_169, e131_172, e131_173, e131_174, e131_177, e131_178, implies_true, Int.reduceSub, Option.isNone_some, Option.isNone_none, ab_bh_some, ab_bh_thr, ab_gs_3, ab_gl_2, ab_gl_3, ab_gt_some, ab_gc_0, ab_gk_0, Bool.false_eq_true, Bool.true_eq_false, false_implies, Nat.reduceEqDiff, ab_ge, ab_lt, ab_le, ab_gt, ab_eq, ab_ne, decide_eq_true_eq, ab_w_id, ab_w0, ab_gd_some, ab_gs_0, ab_gs_1, ab_gl_0, ab_gl_1, ab_bv_some, ab_bu_some, ab_bv_thr, ab_bu_thr, ab_fx_n, ab_fx_i, ab_fx_q, ab_fx_l, ab_sh_si, ab_gr_si, ab_gl_si, cs_n, ↓reduceIte, true_or, or_true, false_or, or_false, and_true, true_and, and_false, false_and, not_true_eq_false, not_false_eq_true, eq_self, Int.reduceEq, Int.reduceLT, Int.reduceLE, Int.reduceAdd, Int.reduceMul, Int.reduceNeg, if_pos, if_neg, hm.1, hm.2.1, e1, eD, e8, f, hf, a1]
      rfl
    · refine ⟨h, ?_, ?_, mE.rf, rfl⟩
      · rw [e131_51]
        simp (disch := omega) only [e131_0, e131_1, e131_2, e131_3, e131_6, e131_7, e131_10, e131_13, e131_14, e131_15, e131_18, e131_21, e131_22, e131_23, e131_26, e131_27, e131_30, e131_31, e131_34, e131_35, e131_36, e131_39, e131_42, e131_43, e131_44, e131_45, e131_46, e131_47, e131_48, e131_49, e131_53, e131_54, e131_57, e131_60, e131_62, e131_63, e131_64, e131_67, e131_70, e131_73, e131_74, e131_76, e131_77, e131_80, e131_83, e131_84, e131_85, e131_87, e131_88, e131_89, e131_90, e131_91, e131_94, e131_95, e131_97, e131_98, e131_101, e131_102, e131_103, e131_104, e131_107, e131_109, e131_110, e131_113, e131_114, e131_116, e131_117, e131_118, e131_121, e131_122, e131_123, e131_126, e131_128, e131_129, e131_132, e131_133, e131_136, e131_137, e131_140, e131_142, e131_143, e131_144, e131_145, e131_146, e131_147, e131_150, e131_153, e131_154, e131_157, e131_158, e131_159, e131_162, e131_163, e131_166, e131_167, e131_168, e131_169, e131_172, e131_173, e131_174, e131_177, e131_178, implies_true, Int.reduceSub, Option.isNone_some, Option.isNone_none, ab_bh_some, ab_bh_thr, ab_gs_3, ab_gl_2, ab_gl_3, ab_gt_some, ab_gc_0, ab_gk_0, Bool.false_eq_true, Bool.true_eq_false, false_implies, Nat.reduceEqDiff, ab_ge, ab_lt, ab_le, ab_gt, ab_eq, ab_ne, decide_eq_true_eq, ab_w_id, ab_w0, ab_gd_some, ab_gs_0, ab_gs_1, ab_gl_0, ab_gl_1, ab_bv_some, ab_bu_some, ab_bv_thr, ab_bu_thr, ab_fx_n, ab_fx_i, ab_fx_q, ab_fx_l, ab_sh_si, ab_gr_si, ab_gl_si, cs_n, ↓reduceIte, true_or, or_true, false_or, or_false, and_true, true_and, and_false, false_and, not_true_eq_false, not_false_eq_true, eq_self, Int.reduceEq, Int.reduceLT, Int.reduceLE, Int.reduceAdd, Int.reduceMul, Int.reduceNeg, if_pos, if_neg, hm.1, hm.2.1, e1, eD, e8, f, hf]
        rfl
      · have el : cs_lay g (s % D) s x = g := if_pos hf
        show mm (cs_lay g (s % D) s x) h b
        rw [el]; exact m
  | k + 1, g, h, i, l, x, hR, m, eD, eS, q1, q2, x1, x2 => by
    have hm := m.1
    rw [eD, eS] at hm
    have e1 := m.2.1.1
    have hb : 18 < b := by have := hm.2.2.2.2; omega
    have e8 := n108 (B := B) (dd := dd + 2) hR m (by omega) h3 (show s < 40 by omega)
    rw [eD] at e8
    have q5 : 0 ≤ s % D := Int.emod_nonneg _ (by omega)
    have q6 : s % D < D := Int.emod_lt_of_pos _ (by omega)
    have e11 := n111 (B := B) (dd := dd + 2) hR m q1 (show i < ab_gi g 1 0 by omega) h3 (show s < ab_gi g 1 1 by omega)
    have f := (m.2.2.1.2.1 i q1 (by omega)).1
    rw [eD] at f
    have hrow := hm.2.2.1 i q1 (by omega)
    have vv := (m.2.2.1.1 i s q1 (by omega) h3 (by omega)).1
    unfold cs_ga
    by_cases c0 : i = s % D
    · rw [if_pos c0]
      obtain ⟨h', a, r⟩ := n131_loop (dd := dd) hD hD5 hS8 h3 h4 k g h (i + 1) l x hR m eD eS (by omega) (by omega) x1 x2
      refine ⟨h', ?_, r⟩
      rw [← a, e131_51]
      simp (disch := omega) only [e131_0, e131_1, e131_2, e131_3, e131_6, e131_7, e131_10, e131_13, e131_14, e131_15, e131_18, e131_21, e131_22, e131_23, e131_26, e131_27, e131_30, e131_31, e131_34, e131_35, e131_36, e131_39, e131_42, e131_43, e131_44, e131_45, e131_46, e131_47, e131_48, e131_49, e131_53, e131_54, e131_57, e131_60, e131_62, e131_63, e131_64, e131_67, e131_70, e131_73, e131_74, e131_76, e131_77, e131_80, e131_83, e131_84, e131_85, e131_87, e131_88, e131_89, e131_90, e131_91, e131_94, e131_95, e131_97, e131_98, e131_101, e131_102, e131_103, e131_104, e131_107, e131_109, e131_110, e131_113, e131_114, e131_116, e131_117, e131_118, e131_121, e131_122, e131_123, e131_126, e131_128, e131_129, e131_132, e131_133, e131_136, e131_137, e131_140, e131_142, e131_143, e131_144, e131_145, e131_146, e131_147, e131_150, e131_153, e131_154, e131_157, e131_158, e131_159, e131_162, e131_163, e131_166, e131_167, e131_168, e131_169, e131_172, e131_173, e131_174, e131_177, e131_178, implies_true, Int.reduceSub, Option.isNone_some, Option.isNone_none, ab_bh_some, ab_bh_thr, ab_gs_3, ab_gl_2, ab_gl_3, ab_gt_some, ab_gc_0, ab_gk_0, Bool.false_eq_true, Bool.true_eq_false, false_implies, Nat.reduceEqDiff, ab_ge, ab_lt, ab_le, ab_gt, ab_eq, ab_ne, decide_eq_true_eq, ab_w_id, ab_w0, ab_gd_some, ab_gs_0, ab_gs_1, ab_gl_0, ab_gl_1, ab_bv_some, ab_bu_some, ab_bv_thr, ab_bu_thr, ab_fx_n, ab_fx_i, ab_fx_q, ab_fx_l, ab_sh_si, ab_gr_si, ab_gl_si, cs_n, ↓reduceIte, true_or, or_true, false_or, or_false, and_true, true_and, and_false, false_and, not_true_eq_false, not_false_eq_true, eq_self, Int.reduceEq, Int.reduceLT, Int.reduceLE, Int.reduceAdd, Int.reduceMul, Int.reduceNeg, if_pos, if_neg, hm.1, hm.2.1, e1, eD, e8, eq_true c0]
    · rw [if_neg c0]
      rcases cs_b01 g i s with hbd | hbd
      · rw [if_neg (by omega)]
        have hf : ab_gi g 5 i = 0 := by
          rcases hR.2.2.2 i with z | z
          · exact z
          · unfold cs_b at hbd; rw [if_pos (Or.inl z)] at hbd; omega
        have hv := hR.2.2.1 (i * 8 + s) (by omega) (by omega)
        have hx := ab_ixor_rng x1 x2 hv.1 hv.2.1
        obtain ⟨h', a, r⟩ := n131_loop (dd := dd) hD hD5 hS8 h3 h4 k g h (i + 1) l (ab_ixor x (ab_gi g 2 (i * 8 + s))) hR m eD eS (by omega) (by omega) hx.1 hx.2
        refine ⟨h', ?_, r⟩
        rw [← a, e131_51]
        simp (disch := omega) only [e131_0, e131_1, e131_2, e131_3, e131_6, e131_7, e131_10, e131_13, e131_14, e131_15, e131_18, e131_21, e131_22, e131_23, e131_26, e131_27, e131_30, e131_31, e131_34, e131_35, e131_36, e131_39, e131_42, e131_43, e131_44, e131_45, e131_46, e131_47, e131_48, e131_49, e131_53, e131_54, e131_57, e131_60, e131_62, e131_63, e131_64, e131_67, e131_70, e131_73, e131_74, e131_76, e131_77, e131_80, e131_83, e131_84, e131_85, e131_87, e131_88, e131_89, e131_90, e131_91, e131_94, e131_95, e131_97, e131_98, e131_101, e131_102, e131_103, e131_104, e131_107, e131_109, e131_110, e131_113, e131_114, e131_116, e131_117, e131_118, e131_121, e131_122, e131_123, e131_126, e131_128, e131_129, e131_132, e131_133, e131_136, e131_137, e131_140, e131_142, e131_143, e131_144, e131_145, e131_146, e131_147, e131_150, e131_153, e131_154, e131_157, e131_158, e131_159, e131_162, e131_163, e131_166, e131_167, e131_168, e131_169, e131_172, e131_173, e131_174, e131_177, e131_178, implies_true, Int.reduceSub, Option.isNone_some, Option.isNone_none, ab_bh_some, ab_bh_thr, ab_gs_3, ab_gl_2, ab_gl_3, ab_gt_some, ab_gc_0, ab_gk_0, Bool.false_eq_true, Bool.true_eq_false, false_implies, Nat.reduceEqDiff, ab_ge, ab_lt, ab_le, ab_gt, ab_eq, ab_ne, decide_eq_true_eq, ab_w_id, ab_w0, ab_gd_some, ab_gs_0, ab_gs_1, ab_gl_0, ab_gl_1, ab_bv_some, ab_bu_some, ab_bv_thr, ab_bu_thr, ab_fx_n, ab_fx_i, ab_fx_q, ab_fx_l, ab_sh_si, ab_gr_si, ab_gl_si, cs_n, ↓reduceIte, true_or, or_true, false_or, or_false, and_true, true_and, and_false, false_and, not_true_eq_false, not_false_eq_true, eq_self, Int.reduceEq, Int.reduceLT, Int.reduceLE, Int.reduceAdd, Int.reduceMul, Int.reduceNeg, if_pos, if_neg, hm.1, hm.2.1, hrow, e1, eD, e8, eq_false c0, e11, hbd, f, hf, vv]
      · rw [if_pos hbd]
        have e10 := n110 (B := B) (dd := dd + 1) hR m q1 (show i < ab_gi g 1 0 by omega) h3 (show s < ab_gi g 1 1 by omega)
        rw [eD] at e10
        obtain ⟨y1, y2, y3, y4⟩ := cs_bi_B (S := S) hD hD5 q1 (show i < D by omega) h3 h4 c0
        have y5 : cs_bi D i s < cs_B g := by unfold cs_B; rw [if_pos (by omega), eD, eS]; exact y2
        have m1 := mm_wb (v := 0) hR m y1 y5
        rw [eD, y3, y4] at m1
        have hR1 : cs_R (ab_si g 4 (i * 8 + s) 0) := cs_R_si4 hR (by omega) (by omega)
        have g0 : ∀ c y, c ≠ 4 → ab_gi (ab_si g 4 (i * 8 + s) 0) c y = ab_gi g c y := fun c y hc => by rw [ab_gi_si, if_neg (fun z => hc z.1)]
        have hm1 := m1.1
        rw [g0 1 0 (by decide), g0 1 1 (by decide), eD, eS] at hm1
        have f1 : ab_gi (ab_si h (b + 4 + 2 * D.toNat) (cs_bi D i s) 0) (b + 2 + 2 * D.toNat) i = ab_gi g 5 i := by rw [ab_gi_si, if_neg (by omega)]; exact f
        rcases hR.2.2.2 i with hf | hf
        · obtain ⟨p2, a2, m2, x2', t2⟩ := n112 (B := B) (dd := dd + 2) (v := 0) hR1 m1 q1 (by rw [g0 1 0 (by decide)]; omega) h3 (by rw [g0 1 1 (by decide)]; omega) (by omega) (by omega) (by rw [g0 5 i (by decide)]; exact hf)
          have hR2 : cs_R (cs_lay (ab_si g 4 (i * 8 + s) 0) i s 0) := cs_R_lay hR1 (by omega) (by omega)
          have l2 : ∀ c y, c ≠ 2 → c ≠ 3 → ab_gi (cs_lay (ab_si g 4 (i * 8 + s) 0) i s 0) c y = ab_gi (ab_si g 4 (i * 8 + s) 0) c y := fun c y c2 c3 => cs_lay_gi c2 c3
          have D2 : ab_gi (cs_lay (ab_si g 4 (i * 8 + s) 0) i s 0) 1 0 = D := by rw [l2 1 0 (by decide) (by decide), g0 1 0 (by decide)]; exact eD
          have S2 : ab_gi (cs_lay (ab_si g 4 (i * 8 + s) 0) i s 0) 1 1 = S := by rw [l2 1 1 (by decide) (by decide), g0 1 1 (by decide)]; exact eS
          have F2 : ab_gi (cs_lay (ab_si g 4 (i * 8 + s) 0) i s 0) 5 i = 0 := by rw [l2 5 i (by decide) (by decide), g0 5 i (by decide)]; exact hf
          have V2 : ab_gi (cs_lay (ab_si g 4 (i * 8 + s) 0) i s 0) 2 (i * 8 + s) = 0 := by
            unfold cs_lay
            rw [if_neg (by rw [g0 5 i (by decide)]; omega), ab_gi_si, if_neg (by omega), ab_gi_si, if_pos ⟨rfl, rfl⟩]
          have hm2 := m2.1
          have fv2 := (m2.2.2.1.1 i s q1 (by omega) h3 (by omega)).1
          have ff2 := (m2.2.2.1.2.1 i q1 (by omega)).1
          rw [V2] at fv2
          rw [F2, D2] at ff2
          rw [D2, S2] at hm2
          have hrow2 := hm2.2.2.1 i q1 (by omega)
          have e12 := m2.2.1.1
          rw [D2] at e12
          obtain ⟨h', a, m3, x3, t3⟩ := n131_loop (dd := dd) hD hD5 hS8 h3 h4 k _ p2 (i + 1) (ab_ior l (ab_ishl 1 i)) x hR2 m2 D2 S2 (by omega) (by omega) x1 x2
          refine ⟨h', ?_, m3, ((mE.si (by omega)).trans x2').trans x3, by rw [t3, t2, ab_gi_si, if_neg (by omega)]⟩
          rw [← a, e131_51]
          simp (disch := omega) only [e131_0, e131_1, e131_2, e131_3, e131_6, e131_7, e131_10, e131_13, e131_14, e131_15, e131_18, e131_21, e131_22, e131_23, e131_26, e131_27, e131_30, e131_31, e131_34, e131_35, e131_36, e131_39, e131_42, e131_43, e131_44, e131_45, e131_46, e131_47, e131_48, e131_49, e131_53, e131_54, e131_57, e131_60, e131_62, e131_63, e131_64, e131_67, e131_70, e131_73, e131_74, e131_76, e131_77, e131_80, e131_83, e131_84, e131_85, e131_87, e131_88, e131_89, e131_90, e131_91, e131_94, e131_95, e131_97, e131_98, e131_101, e131_102, e131_103, e131_104, e131_107, e131_109, e131_110, e131_113, e131_114, e131_116, e131_117, e131_118, e131_121, e131_122, e131_123, e131_126, e131_128, e131_129, e131_132, e131_133, e131_136, e131_137, e131_140, e131_142, e131_143, e131_144, e131_145, e131_146, e131_147, e131_150, e131_153, e131_154, e131_157, e131_158, e131_159, e131_162, e131_163, e131_166, e131_167, e131_168, e131_169, e131_172, e131_173, e131_174, e131_177, e131_178, implies_true, Int.reduceSub, Option.isNone_some, Option.isNone_none, ab_bh_some, ab_bh_thr, ab_gs_3, ab_gl_2, ab_gl_3, ab_gt_some, ab_gc_0, ab_gk_0, Bool.false_eq_true, Bool.true_eq_false, false_implies, Nat.reduceEqDiff, ab_ge, ab_lt, ab_le, ab_gt, ab_eq, ab_ne, decide_eq_true_eq, ab_w_id, ab_w0, ab_gd_some, ab_gs_0, ab_gs_1, ab_gl_0, ab_gl_1, ab_bv_some, ab_bu_some, ab_bv_thr, ab_bu_thr, ab_fx_n, ab_fx_i, ab_fx_q, ab_fx_l, ab_sh_si, ab_gr_si, ab_gl_si, cs_n, ↓reduceIte, true_or, or_true, false_or, or_false, and_true, true_and, and_false, false_and, not_true_eq_false, not_false_eq_true, eq_self, Int.reduceEq, Int.reduceLT, Int.reduceLE, Int.reduceAdd, Int.reduceMul, Int.reduceNeg, if_pos, if_neg, hm.1, hm.2.1, hrow, e1, eD, e8, eq_false c0, e11, hbd, f, hf, e10, f1, a2, hm2.1, hm2.2.1, hrow2, fv2, ff2, ab_ixor_0 x1 x2]
        · have el : cs_lay (ab_si g 4 (i * 8 + s) 0) i s 0 = ab_si g 4 (i * 8 + s) 0 := if_pos (by rw [g0 5 i (by decide)]; exact hf)
          rw [el]
          obtain ⟨h', a, m3, x3, t3⟩ := n131_loop (dd := dd) hD hD5 hS8 h3 h4 k _ _ (i + 1) (ab_ior l (ab_ishl 1 i)) x hR1 m1 (by rw [g0 1 0 (by decide)]; exact eD) (by rw [g0 1 1 (by decide)]; exact eS) (by omega) (by omega) x1 x2
          refine ⟨h', ?_, m3, (mE.si (by omega)).trans x3, by rw [t3, ab_gi_si, if_neg (by omega)]⟩
          rw [← a, e131_51]
          simp (disch := omega) only [e131_0, e131_1, e131_2, e131_3, e131_6, e131_7, e131_10, e131_13, e131_14, e131_15, e131_18, e131_21, e131_22, e131_23, e131_26, e131_27, e131_30, e131_31, e131_34, e131_35, e131_36, e131_39, e131_42, e131_43, e131_44, e131_45, e131_46, e131_47, e131_48, e131_49, e131_53, e131_54, e131_57, e131_60, e131_62, e131_63, e131_64, e131_67, e131_70, e131_73, e131_74, e131_76, e131_77, e131_80, e131_83, e131_84, e131_85, e131_87, e131_88, e131_89, e131_90, e131_91, e131_94, e131_95, e131_97, e131_98, e131_101, e131_102, e131_103, e131_104, e131_107, e131_109, e131_110, e131_113, e131_114, e131_116, e131_117, e131_118, e131_121, e131_122, e131_123, e131_126, e131_128, e131_129, e131_132, e131_133, e131_136, e131_137, e131_140, e131_142, e131_143, e131_144, e131_145, e131_146, e131_147, e131_150, e131_153, e131_154, e131_157, e131_158, e131_159, e131_162, e131_163, e131_166, e131_167, e131_168, e131_169, e131_172, e131_173, e131_174, e131_177, e131_178, implies_true, Int.reduceSub, Option.isNone_some, Option.isNone_none, ab_bh_some, ab_bh_thr, ab_gs_3, ab_gl_2, ab_gl_3, ab_gt_some, ab_gc_0, ab_gk_0, Bool.false_eq_true, Bool.true_eq_false, false_implies, Nat.reduceEqDiff, ab_ge, ab_lt, ab_le, ab_gt, ab_eq, ab_ne, decide_eq_true_eq, ab_w_id, ab_w0, ab_gd_some, ab_gs_0, ab_gs_1, ab_gl_0, ab_gl_1, ab_bv_some, ab_bu_some, ab_bv_thr, ab_bu_thr, ab_fx_n, ab_fx_i, ab_fx_q, ab_fx_l, ab_sh_si, ab_gr_si, ab_gl_si, cs_n, ↓reduceIte, true_or, or_true, false_or, or_false, and_true, true_and, and_false, false_and, not_true_eq_false, not_false_eq_true, eq_self, Int.reduceEq, Int.reduceLT, Int.reduceLE, Int.reduceAdd, Int.reduceMul, Int.reduceNeg, if_pos, if_neg, hm.1, hm.2.1, hrow, e1, eD, e8, eq_false c0, e11, hbd, f, hf, e10, f1, ab_ixor_0 x1 x2]
theorem n131_1 {dd : Nat} {s : Int} {g h : ab_H} {b : Nat} (i : ci g) (m : mm g h b) (r1 : -2147483648 ≤ s) (r2 : s < 2147483648) (hn : ¬ (0 ≤ s ∧ s < ab_gi g 1 1)) : mR B (dd + 2) 131 [some (.inr (.inr (.inl (some 18)))), some (.inl s), none, none, none] h g 1 0 0 0 := by
  have hs := m.1.1.1
  refine mR_no m ?_
  simp (disch := omega) only [e131_0, e131_1, e131_2, e131_3, e131_6, e131_7, e131_10, e131_13, e131_14, e131_15, e131_18, e131_21, e131_22, e131_23, e131_26, e131_27, e131_30, e131_31, e131_34, e131_35, e131_36, e131_39, e131_42, e131_43, e131_44, e131_45, e131_46, e131_47, e131_48, e131_49, e131_51, e131_53, e131_54, e131_57, e131_60, e131_62, e131_63, e131_64, e131_67, e131_70, e131_73, e131_74, e131_76, e131_77, e131_80, e131_83, e131_84, e131_85, e131_87, e131_88, e131_89, e131_90, e131_91, e131_94, e131_95, e131_97, e131_98, e131_101, e131_102, e131_103, e131_104, e131_107, e131_109, e131_110, e131_113, e131_114, e131_116, e131_117, e131_118, e131_121, e131_122, e131_123, e131_126, e131_128, e131_129, e131_132, e131_133, e131_136, e131_137, e131_140, e131_142, e131_143, e131_144, e131_145, e131_146, e131_147, e131_150, e131_153, e131_154, e131_157, e131_158, e131_159, e131_162, e131_163, e131_166, e131_167, e131_168, e131_169, e131_172, e131_173, e131_174, e131_177, e131_178, implies_true, Int.reduceSub, Option.isNone_some, Option.isNone_none, ab_bh_some, ab_bh_thr, ab_gs_3, ab_gl_2, ab_gl_3, ab_gt_some, ab_gc_0, ab_gk_0, Bool.false_eq_true, Bool.true_eq_false, false_implies, Nat.reduceEqDiff, ab_ge, ab_lt, ab_le, ab_gt, ab_eq, ab_ne, decide_eq_true_eq, ab_w_id, ab_w0, ab_gd_some, ab_gs_0, ab_gs_1, ab_gl_0, ab_gl_1, ab_bv_some, ab_bu_some, ab_bv_thr, ab_bu_thr, ab_fx_n, ab_fx_i, ab_fx_q, ab_fx_l, ab_sh_si, ab_gr_si, ab_gl_si, cs_n, ↓reduceIte, true_or, or_true, false_or, or_false, and_true, true_and, and_false, false_and, not_true_eq_false, not_false_eq_true, eq_self, Int.reduceEq, Int.reduceLT, Int.reduceLE, Int.reduceAdd, Int.reduceMul, Int.reduceNeg, if_pos, if_neg, hs, n104n i.1 m r1 r2 hn, n102_1 hs]
theorem n131_2 {dd : Nat} {s : Int} {g h : ab_H} {b : Nat} (i : ci g) (m : mm g h b) (h3 : 0 ≤ s) (h4 : s < ab_gi g 1 1) (hn : ab_gi g 0 2 = 0 ∨ cs_bc g s < 2) : mR B (dd + 3) 131 [some (.inr (.inr (.inl (some 18)))), some (.inl s), none, none, none] h g 2 0 0 0 := by
  have hs := m.1.1.1
  have m0 : mm g (mt h 0) b := mm_thr m
  have hs0 : (ab_sh (mt h 0))[18]? = some (8, 22) := hs
  have e1 := n101_r (B := B) (dd := dd + 2) (w := 2) m (by omega) (by omega)
  have e3 := m0.2.1.2.2.1
  have hbc := cs_bc_le i.1 s
  have e13 := n113 (B := B) (dd := dd + 1) i.1 m0 h3 h4
  refine mR_no m ?_
  rcases i.2.2.1.1 with c | c
  · simp (disch := omega) only [e131_0, e131_1, e131_2, e131_3, e131_6, e131_7, e131_10, e131_13, e131_14, e131_15, e131_18, e131_21, e131_22, e131_23, e131_26, e131_27, e131_30, e131_31, e131_34, e131_35, e131_36, e131_39, e131_42, e131_43, e131_44, e131_45, e131_46, e131_47, e131_48, e131_49, e131_53, e131_54, e131_57, e131_60, e131_62, e131_63, e131_64, e131_67, e131_70, e131_73, e131_74, e131_76, e131_77, e131_80, e131_83, e131_84, e131_85, e131_87, e131_88, e131_89, e131_90, e131_91, e131_94, e131_95, e131_97, e131_98, e131_101, e131_102, e131_103, e131_104, e131_107, e131_109, e131_110, e131_113, e131_114, e131_116, e131_117, e131_118, e131_121, e131_122, e131_123, e131_126, e131_128, e131_129, e131_132, e131_133, e131_136, e131_137, e131_140, e131_142, e131_143, e131_144, e131_145, e131_146, e131_147, e131_150, e131_153, e131_154, e131_157, e131_158, e131_159, e131_162, e131_163, e131_166, e131_167, e131_168, e131_169, e131_172, e131_173, e131_174, e131_177, e131_178, implies_true, Int.reduceSub, Option.isNone_some, Option.isNone_none, ab_bh_some, ab_bh_thr, ab_gs_3, ab_gl_2, ab_gl_3, ab_gt_some, ab_gc_0, ab_gk_0, Bool.false_eq_true, Bool.true_eq_false, false_implies, Nat.reduceEqDiff, ab_ge, ab_lt, ab_le, ab_gt, ab_eq, ab_ne, decide_eq_true_eq, ab_w_id, ab_w0, ab_gd_some, ab_gs_0, ab_gs_1, ab_gl_0, ab_gl_1, ab_bv_some, ab_bu_some, ab_bv_thr, ab_bu_thr, ab_fx_n, ab_fx_i, ab_fx_q, ab_fx_l, ab_sh_si, ab_gr_si, ab_gl_si, cs_n, ↓reduceIte, true_or, or_true, false_or, or_false, and_true, true_and, and_false, false_and, not_true_eq_false, not_false_eq_true, eq_self, Int.reduceEq, Int.reduceLT, Int.reduceLE, Int.reduceAdd, Int.reduceMul, Int.reduceNeg, if_pos, if_neg, hs, hs0, n104y i.1 m h3 h4, n102_0 hs, e3, c, e1]
  · simp (disch := omega) only [e131_0, e131_1, e131_2, e131_3, e131_6, e131_7, e131_10, e131_13, e131_14, e131_15, e131_18, e131_21, e131_22, e131_23, e131_26, e131_27, e131_30, e131_31, e131_34, e131_35, e131_36, e131_39, e131_42, e131_43, e131_44, e131_45, e131_46, e131_47, e131_48, e131_49, e131_53, e131_54, e131_57, e131_60, e131_62, e131_63, e131_64, e131_67, e131_70, e131_73, e131_74, e131_76, e131_77, e131_80, e131_83, e131_84, e131_85, e131_87, e131_88, e131_89, e131_90, e131_91, e131_94, e131_95, e131_97, e131_98, e131_101, e131_102, e131_103, e131_104, e131_107, e131_109, e131_110, e131_113, e131_114, e131_116, e131_117, e131_118, e131_121, e131_122, e131_123, e131_126, e131_128, e131_129, e131_132, e131_133, e131_136, e131_137, e131_140, e131_142, e131_143, e131_144, e131_145, e131_146, e131_147, e131_150, e131_153, e131_154, e131_157, e131_158, e131_159, e131_162, e131_163, e131_166, e131_167, e131_168, e131_169, e131_172, e131_173, e131_174, e131_177, e131_178, implies_true, Int.reduceSub, Option.isNone_some, Option.isNone_none, ab_bh_some, ab_bh_thr, ab_gs_3, ab_gl_2, ab_gl_3, ab_gt_some, ab_gc_0, ab_gk_0, Bool.false_eq_true, Bool.true_eq_false, false_implies, Nat.reduceEqDiff, ab_ge, ab_lt, ab_le, ab_gt, ab_eq, ab_ne, decide_eq_true_eq, ab_w_id, ab_w0, ab_gd_some, ab_gs_0, ab_gs_1, ab_gl_0, ab_gl_1, ab_bv_some, ab_bu_some, ab_bv_thr, ab_bu_thr, ab_fx_n, ab_fx_i, ab_fx_q, ab_fx_l, ab_sh_si, ab_gr_si, ab_gl_si, cs_n, ↓reduceIte, true_or, or_true, false_or, or_false, and_true, true_and, and_false, false_and, not_true_eq_false, not_false_eq_true, eq_self, Int.reduceEq, Int.reduceLT, Int.reduceLE, Int.reduceAdd, Int.reduceMul, Int.reduceNeg, if_pos, if_neg, hs, hs0, n104y i.1 m h3 h4, n102_0 hs, e3, c, e13, e1]
theorem n131 {dd : Nat} {s : Int} {g h : ab_H} {b : Nat} (i : ci g) (m : mm g h b) (h3 : 0 ≤ s) (h4 : s < ab_gi g 1 1) (hon : ab_gi g 0 2 = 1) (hb : 2 ≤ cs_bc g s) : mR B (dd + 3) 131 [some (.inr (.inr (.inl (some 18)))), some (.inl s), none, none, none] h (cs_gu g s) 0 (cs_ga (ab_gi g 1 0) s g 0 0 0 (ab_gi g 1 0).toNat).1 0 0 := by
  have hs := m.1.1.1
  have m0 : mm g (mt h 0) b := mm_thr m
  have hs0 : (ab_sh (mt h 0))[18]? = some (8, 22) := hs
  have t0 := mt_t h 0
  have x0 : mE h (mt h 0) 0 0 := mE.si (by omega)
  have e3 := m0.2.1.2.2.1
  have hbc := cs_bc_le i.1 s
  have hD := i.1.2.1
  have e13 := n113 (B := B) (dd := dd + 1) i.1 m0 h3 h4
  obtain ⟨p1, a1, m1, x1, q1⟩ := n131_loop (B := B) (dd := dd) (D := ab_gi g 1 0) (S := ab_gi g 1 1) (by omega) (by omega) (by omega) h3 h4 (ab_gi g 1 0).toNat g _ 0 0 0 i.1 m0 rfl rfl (by omega) (by omega) (by omega) (by omega)
  refine ⟨p1, b, ?_, m1, x0.trans x1, q1.trans t0⟩
  rw [← a1]
  simp (disch := omega) only [e131_0, e131_1, e131_2, e131_3, e131_6, e131_7, e131_10, e131_13, e131_14, e131_15, e131_18, e131_21, e131_22, e131_23, e131_26, e131_27, e131_30, e131_31, e131_34, e131_35, e131_36, e131_39, e131_42, e131_43, e131_44, e131_45, e131_46, e131_47, e131_48, e131_49, e131_53, e131_54, e131_57, e131_60, e131_62, e131_63, e131_64, e131_67, e131_70, e131_73, e131_74, e131_76, e131_77, e131_80, e131_83, e131_84, e131_85, e131_87, e131_88, e131_89, e131_90, e131_91, e131_94, e131_95, e131_97, e131_98, e131_101, e131_102, e131_103, e131_104, e131_107, e131_109, e131_110, e131_113, e131_114, e131_116, e131_117, e131_118, e131_121, e131_122, e131_123, e131_126, e131_128, e131_129, e131_132, e131_133, e131_136, e131_137, e131_140, e131_142, e131_143, e131_144, e131_145, e131_146, e131_147, e131_150, e131_153, e131_154, e131_157, e131_158, e131_159, e131_162, e131_163, e131_166, e131_167, e131_168, e131_169, e131_172, e131_173, e131_174, e131_177, e131_178, implies_true, Int.reduceSub, Option.isNone_some, Option.isNone_none, ab_bh_some, ab_bh_thr, ab_gs_3, ab_gl_2, ab_gl_3, ab_gt_some, ab_gc_0, ab_gk_0, Bool.false_eq_true, Bool.true_eq_false, false_implies, Nat.reduceEqDiff, ab_ge, ab_lt, ab_le, ab_gt, ab_eq, ab_ne, decide_eq_true_eq, ab_w_id, ab_w0, ab_gd_some, ab_gs_0, ab_gs_1, ab_gl_0, ab_gl_1, ab_bv_some, ab_bu_some, ab_bv_thr, ab_bu_thr, ab_fx_n, ab_fx_i, ab_fx_q, ab_fx_l, ab_sh_si, ab_gr_si, ab_gl_si, cs_n, ↓reduceIte, true_or, or_true, false_or, or_false, and_true, true_and, and_false, false_and, not_true_eq_false, not_false_eq_true, eq_self, Int.reduceEq, Int.reduceLT, Int.reduceLE, Int.reduceAdd, Int.reduceMul, Int.reduceNeg, if_pos, if_neg, hs, hs0, n104y i.1 m h3 h4, n102_0 hs, n101_0 hs0 t0, e3, hon, e13]
end
