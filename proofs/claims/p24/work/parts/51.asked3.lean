set_option linter.all false
/-! WHAT IS ASKED OF THE REFERENCE: cells, disks, blocks, the note -/
section
variable {B : ab_B}
theorem mW_ans {d M : Nat} {loc : ab_M} {g h h' : ab_H} {b : Nat} {v : Int} {kk ss : Nat} (a : ab_E B d M 0 loc [] h = some (.inl (some (.inl v)), h')) (m : mm g h' b) (x : mW (mt h 0) h' kk ss) : mR B d M loc h g 0 v (kk + 362) (ss + 1810) := mR_W a m x
theorem n145_1 {dd : Nat} {d s w : Int} {g h : ab_H} {b : Nat} (i : ci g) (m : mm g h b) (r1 : -2147483648 ≤ d) (r2 : d < 2147483648) (t1 : -2147483648 ≤ s) (t2 : s < 2147483648) (hn : ¬ ((0 ≤ d ∧ d < ab_gi g 1 0) ∧ (0 ≤ s ∧ s < ab_gi g 1 1))) : mR B (dd + 2) 145 [some (.inr (.inr (.inl (some 18)))), some (.inl d), some (.inl s), some (.inl w)] h g 1 0 0 0 := by
  have hs := m.1.1.1
  refine mR_no m ?_
  by_cases c : 0 ≤ d ∧ d < ab_gi g 1 0
  · simp (disch := omega) only [e145_0, e145_1, e145_2, e145_3, e145_6, e145_9, e145_10, e145_11, e145_14, e145_17, e145_18, e145_21, e145_22, e145_23, e145_26, e145_29, e145_30, e145_31, e145_32, e145_33, e145_36, e145_39, e145_40, e145_43, e145_44, e145_45, e145_48, e145_51, e145_52, e145_55, e145_56, e145_57, e145_58, e145_59, e145_62, implies_true, Int.reduceSub, Option.isNone_some, Option.isNone_none, ab_bh_some, ab_bh_thr, ab_gs_3, ab_gl_2, ab_gl_3, ab_gt_some, ab_gc_0, ab_gk_0, Bool.false_eq_true, Bool.true_eq_false, false_implies, Nat.reduceEqDiff, ab_ge, ab_lt, ab_le, ab_gt, ab_eq, ab_ne, decide_eq_true_eq, ab_w_id, ab_w0, ab_gd_some, ab_gs_0, ab_gs_1, ab_gl_0, ab_gl_1, ab_bv_some, ab_bu_some, ab_bv_thr, ab_bu_thr, ab_fx_n, ab_fx_i, ab_fx_q, ab_fx_l, ab_sh_si, ab_gr_si, ab_gl_si, cs_n, ↓reduceIte, true_or, or_true, false_or, or_false, and_true, true_and, and_false, false_and, not_true_eq_false, not_false_eq_true, eq_self, Int.reduceEq, Int.reduceLT, Int.reduceLE, Int.reduceAdd, Int.reduceMul, Int.reduceNeg, if_pos, if_neg, hs, n103y i.1 m c.1 c.2, n104n i.1 m t1 t2 (fun q => hn ⟨c, q⟩), n102_1 hs]
  · simp (disch := omega) only [e145_0, e145_1, e145_2, e145_3, e145_6, e145_9, e145_10, e145_11, e145_14, e145_17, e145_18, e145_21, e145_22, e145_23, e145_26, e145_29, e145_30, e145_31, e145_32, e145_33, e145_36, e145_39, e145_40, e145_43, e145_44, e145_45, e145_48, e145_51, e145_52, e145_55, e145_56, e145_57, e145_58, e145_59, e145_62, implies_true, Int.reduceSub, Option.isNone_some, Option.isNone_none, ab_bh_some, ab_bh_thr, ab_gs_3, ab_gl_2, ab_gl_3, ab_gt_some, ab_gc_0, ab_gk_0, Bool.false_eq_true, Bool.true_eq_false, false_implies, Nat.reduceEqDiff, ab_ge, ab_lt, ab_le, ab_gt, ab_eq, ab_ne, decide_eq_true_eq, ab_w_id, ab_w0, ab_gd_some, ab_gs_0, ab_gs_1, ab_gl_0, ab_gl_1, ab_bv_some, ab_bu_some, ab_bv_thr, ab_bu_thr, ab_fx_n, ab_fx_i, ab_fx_q, ab_fx_l, ab_sh_si, ab_gr_si, ab_gl_si, cs_n, ↓reduceIte, true_or, or_true, false_or, or_false, and_true, true_and, and_false, false_and, not_true_eq_false, not_false_eq_true, eq_self, Int.reduceEq, Int.reduceLT, Int.reduceLE, Int.reduceAdd, Int.reduceMul, Int.reduceNeg, if_pos, if_neg, hs, n103n i.1 m r1 r2 c, n102_1 hs]
theorem n145_2 {dd : Nat} {d s w : Int} {g h : ab_H} {b : Nat} (i : ci g) (m : mm g h b) (d1 : 0 ≤ d) (d2 : d < ab_gi g 1 0) (s1 : 0 ≤ s) (s2 : s < ab_gi g 1 1) (w1 : -2147483648 ≤ w) (w2 : w < 2147483648) (hn : ¬ (0 ≤ w ∧ w < 5)) : mR B (dd + 2) 145 [some (.inr (.inr (.inl (some 18)))), some (.inl d), some (.inl s), some (.inl w)] h g 2 0 0 0 := by
  have hs := m.1.1.1
  have hs0 : (ab_sh (mt h 0))[18]? = some (8, 22) := hs
  have e1 := n101_r (B := B) (dd := dd + 1) (w := 2) m (by omega) (by omega)
  have e := n100n (B := B) (dd := dd + 1) (h := mt h 0) w1 w2 (show -2147483648 ≤ 0 by omega) (show (0 : Int) < 2147483648 by omega) (show -2147483648 ≤ 4 by omega) (show (4 : Int) < 2147483648 by omega) (show ¬ (0 ≤ w ∧ w ≤ 4) by omega)
  refine mR_no m ?_
  simp (disch := omega) only [e145_0, e145_1, e145_2, e145_3, e145_6, e145_9, e145_10, e145_11, e145_14, e145_17, e145_18, e145_21, e145_22, e145_23, e145_26, e145_29, e145_30, e145_31, e145_32, e145_33, e145_36, e145_39, e145_40, e145_43, e145_44, e145_45, e145_48, e145_51, e145_52, e145_55, e145_56, e145_57, e145_58, e145_59, e145_62, implies_true, Int.reduceSub, Option.isNone_some, Option.isNone_none, ab_bh_some, ab_bh_thr, ab_gs_3, ab_gl_2, ab_gl_3, ab_gt_some, ab_gc_0, ab_gk_0, Bool.false_eq_true, Bool.true_eq_false, false_implies, Nat.reduceEqDiff, ab_ge, ab_lt, ab_le, ab_gt, ab_eq, ab_ne, decide_eq_true_eq, ab_w_id, ab_w0, ab_gd_some, ab_gs_0, ab_gs_1, ab_gl_0, ab_gl_1, ab_bv_some, ab_bu_some, ab_bv_thr, ab_bu_thr, ab_fx_n, ab_fx_i, ab_fx_q, ab_fx_l, ab_sh_si, ab_gr_si, ab_gl_si, cs_n, ↓reduceIte, true_or, or_true, false_or, or_false, and_true, true_and, and_false, false_and, not_true_eq_false, not_false_eq_true, eq_self, Int.reduceEq, Int.reduceLT, Int.reduceLE, Int.reduceAdd, Int.reduceMul, Int.reduceNeg, if_pos, if_neg, hs, hs0, n103y i.1 m d1 d2, n104y i.1 m s1 s2, n102_0 hs, e, e1]
theorem n145 {dd : Nat} {d s w : Int} {g h : ab_H} {b : Nat} (i : ci g) (m : mm g h b) (d1 : 0 ≤ d) (d2 : d < ab_gi g 1 0) (s1 : 0 ≤ s) (s2 : s < ab_gi g 1 1) (w1 : 0 ≤ w) (w2 : w < 5) : mR B (dd + 4) 145 [some (.inr (.inr (.inl (some 18)))), some (.inl d), some (.inl s), some (.inl w)] h g 0 (cs_vc g d s w) 363 1815 := by
  have hs := m.1.1.1
  have hs0 : (ab_sh (mt h 0))[18]? = some (8, 22) := hs
  have m0 : mm g (mt h 0) b := mm_thr m
  have t0 := mt_t h 0
  have e := n100y (B := B) (dd := dd + 3) (h := mt h 0) (show -2147483648 ≤ 0 by omega) (show (4 : Int) < 2147483648 by omega) w1 (show w ≤ 4 by omega)
  obtain ⟨h1, a1, m1, x1⟩ := n144 (B := B) (dd := dd) i.1 m0 d1 d2 s1 s2 w1 w2
  refine mW_ans ?_ m1 x1
  simp (disch := omega) only [e145_0, e145_1, e145_2, e145_3, e145_6, e145_9, e145_10, e145_11, e145_14, e145_17, e145_18, e145_21, e145_22, e145_23, e145_26, e145_29, e145_30, e145_31, e145_32, e145_33, e145_36, e145_39, e145_40, e145_43, e145_44, e145_45, e145_48, e145_51, e145_52, e145_55, e145_56, e145_57, e145_58, e145_59, e145_62, implies_true, Int.reduceSub, Option.isNone_some, Option.isNone_none, ab_bh_some, ab_bh_thr, ab_gs_3, ab_gl_2, ab_gl_3, ab_gt_some, ab_gc_0, ab_gk_0, Bool.false_eq_true, Bool.true_eq_false, false_implies, Nat.reduceEqDiff, ab_ge, ab_lt, ab_le, ab_gt, ab_eq, ab_ne, decide_eq_true_eq, ab_w_id, ab_w0, ab_gd_some, ab_gs_0, ab_gs_1, ab_gl_0, ab_gl_1, ab_bv_some, ab_bu_some, ab_bv_thr, ab_bu_thr, ab_fx_n, ab_fx_i, ab_fx_q, ab_fx_l, ab_sh_si, ab_gr_si, ab_gl_si, cs_n, ↓reduceIte, true_or, or_true, false_or, or_false, and_true, true_and, and_false, false_and, not_true_eq_false, not_false_eq_true, eq_self, Int.reduceEq, Int.reduceLT, Int.reduceLE, Int.reduceAdd, Int.reduceMul, Int.reduceNeg, if_pos, if_neg, hs, hs0, n103y i.1 m d1 d2, n104y i.1 m s1 s2, n102_0 hs, n101_0 hs0 t0, e, a1]
/-! blocks -/
theorem cs_sh_no {g : ab_H} {d s : Int} (hR : cs_R g) (d1 : 0 ≤ d) (d2 : d < ab_gi g 1 0) (s1 : 0 ≤ s) (s2 : s < ab_gi g 1 1) : (if cs_sh g d s = -1 then (1 : Int) else 0) = if cs_b g d s = 1 ∧ 1 < cs_bc g s then 1 else 0 := by
  have hx := cs_xo_rng (d := d) hR s1 s2
  have hDS := hR.2.1
  have hv := hR.2.2.1 (d * 8 + s) (by omega) (by omega)
  unfold cs_sh
  rcases cs_b01 g d s with q | q
  · rw [if_pos q, if_neg (by omega), if_neg (by omega)]
  · rw [if_neg (show ¬ cs_b g d s = 0 by omega)]
    by_cases c : 1 < cs_bc g s
    · rw [if_pos c, if_pos rfl, if_pos ⟨q, c⟩]
    · rw [if_neg c, if_neg (by omega), if_neg (fun z => c z.2)]
theorem n148 {dd : Nat} {k w : Int} {g h : ab_H} {b : Nat} (hR : cs_R g) (m : mm g h b) (k1 : 0 ≤ k) (k2 : k < cs_B g) (w1 : 0 ≤ w) (w2 : w < 4) :
    ∃ h', ab_E B (dd + 4) 148 0 [some (.inr (.inr (.inl (some 18)))), some (.inl k), some (.inl w), none] [] h = some (.inl (some (.inl (cs_vb g k w))), h') ∧ mm g h' b ∧ mW h h' 1 4 := by
  obtain ⟨hD, h3, b1, b2, b3, b4, b5, b6⟩ := cs_B_D hR k1 k2
  have hN := mm_N m (by omega)
  obtain ⟨L, hL⟩ : ∃ L : List Int, L = [cs_dk (ab_gi g 1 0) k, k / (ab_gi g 1 0 - 1), if cs_sh g (cs_dk (ab_gi g 1 0) k) (k / (ab_gi g 1 0 - 1)) = -1 then 1 else 0, cs_sh g (cs_dk (ab_gi g 1 0) k) (k / (ab_gi g 1 0 - 1))] := ⟨_, rfl⟩
  obtain ⟨m', x'⟩ := ab_nw_mm m hN L
  have eL : L.length = 4 := by rw [hL]; rfl
  have ev := ab_nw_gi h L w1 (by rw [eL]; exact w2)
  have ew : L.getD w.toNat 0 = cs_vb g k w := by
    rw [hL]
    have hw : w = 0 ∨ w = 1 ∨ w = 2 ∨ w = 3 := by omega
    rcases hw with c | c | c | c <;> subst c
    · rfl
    · rfl
    · exact cs_sh_no hR b4 b5 b2 b3
    · rfl
  rw [ew] at ev
  rw [eL] at x'
  refine ⟨_, ?_, m', x'⟩
  have hm := m.1
  have mch : ∀ l, mm g (ab_ch (ab_n h) (ab_new h 0 4) 0 l) b := fun l => mm_of m (fun i x q => by
    have : ab_sh (ab_ch (ab_n h) (ab_new h 0 4) 0 l) = ab_sh (ab_new h 0 4) := by unfold ab_sh; rw [ab_ch_2]
    rw [this]; exact ab_sh_new_lt q) (fun c x _ q => by
    have : ab_gr (ab_ch (ab_n h) (ab_new h 0 4) 0 l) = ab_gr (ab_new h 0 4) := by unfold ab_gr; rw [ab_ch_2]
    rw [this, ab_gr_new, if_neg (by omega)]) (fun c x _ q _ => by rw [ab_ch_gi, if_neg (by omega), ab_gi_new, if_neg (by omega)])
  have e9 : ab_E B (dd + 3) 109 0 [some (.inr (.inr (.inl (some 18)))), some (.inl k), none] [] (ab_new h 0 4) = _ := n109 (B := B) (dd := dd + 2) hR (mch []) hD k1 b1
  have e7 : ∀ x, ab_E B (dd + 3) 107 0 [some (.inr (.inr (.inl (some 18)))), some (.inl k)] [] (ab_si (ab_new h 0 4) (ab_n h) 0 x) = some (.inl (some (.inl (k / (ab_gi g 1 0 - 1)))), ab_si (ab_new h 0 4) (ab_n h) 0 x) := fun x => n107 (B := B) (dd := dd + 3) hR (mch [x]) hD k1 b1
  have e17 : ∀ x y, ab_E B (dd + 3) 117 0 [some (.inr (.inr (.inl (some 18)))), some (.inl k)] [] (ab_si (ab_si (ab_new h 0 4) (ab_n h) 0 x) (ab_n h) 1 y) = some (.inl (some (.inl (cs_sh g (cs_dk (ab_gi g 1 0) k) (k / (ab_gi g 1 0 - 1))))), ab_si (ab_si (ab_new h 0 4) (ab_n h) 0 x) (ab_n h) 1 y) := fun x y => n117 (B := B) (dd := dd) hR (mch [x, y]) k1 k2
  have e17' : ∀ x y z, ab_E B (dd + 3) 117 0 [some (.inr (.inr (.inl (some 18)))), some (.inl k)] [] (ab_si (ab_si (ab_si (ab_new h 0 4) (ab_n h) 0 x) (ab_n h) 1 y) (ab_n h) 2 z) = some (.inl (some (.inl (cs_sh g (cs_dk (ab_gi g 1 0) k) (k / (ab_gi g 1 0 - 1))))), ab_si (ab_si (ab_si (ab_new h 0 4) (ab_n h) 0 x) (ab_n h) 1 y) (ab_n h) 2 z) := fun x y z => n117 (B := B) (dd := dd) hR (mch [x, y, z]) k1 k2
  have sn : (ab_sh (ab_new h 0 4))[ab_n h]? = some (0, 4) := ab_sh_new_at h 0 4
  have s18 : (ab_sh (ab_new h 0 4))[18]? = some (8, 22) := ab_sh_new_lt hm.1.1
  have hr := cs_sh_rng hR b4 b5 b2 b3
  have shown : ab_nw h [cs_dk (ab_gi g 1 0) k, k / (ab_gi g 1 0 - 1), if cs_sh g (cs_dk (ab_gi g 1 0) k) (k / (ab_gi g 1 0 - 1)) = -1 then 1 else 0, cs_sh g (cs_dk (ab_gi g 1 0) k) (k / (ab_gi g 1 0 - 1))] = ab_si (ab_si (ab_si (ab_si (ab_new h 0 4) (ab_n h) 0 (cs_dk (ab_gi g 1 0) k)) (ab_n h) 1 (k / (ab_gi g 1 0 - 1))) (ab_n h) 2 (if cs_sh g (cs_dk (ab_gi g 1 0) k) (k / (ab_gi g 1 0 - 1)) = -1 then 1 else 0)) (ab_n h) 3 (cs_sh g (cs_dk (ab_gi g 1 0) k) (k / (ab_gi g 1 0 - 1))) := rfl
  rw [hL, shown] at ev ⊢
  by_cases q : cs_sh g (cs_dk (ab_gi g 1 0) k) (k / (ab_gi g 1 0 - 1)) = -1
  · rw [if_pos q] at ev ⊢
    simp (disch := omega) only [e148_0, e148_1, e148_3, e148_4, e148_5, e148_6, e148_7, e148_10, e148_11, e148_12, e148_13, e148_14, e148_15, e148_18, e148_19, e148_20, e148_21, e148_22, e148_23, e148_26, e148_27, e148_30, e148_31, e148_34, e148_35, e148_36, e148_37, e148_38, e148_39, e148_40, e148_43, e148_44, e148_45, e148_46, e148_47, e148_48, implies_true, Int.reduceSub, Option.isNone_some, Option.isNone_none, ab_bh_some, ab_bh_thr, ab_gs_3, ab_gl_2, ab_gl_3, ab_gt_some, ab_gc_0, ab_gk_0, Bool.false_eq_true, Bool.true_eq_false, false_implies, Nat.reduceEqDiff, ab_ge, ab_lt, ab_le, ab_gt, ab_eq, ab_ne, decide_eq_true_eq, ab_w_id, ab_w0, ab_gd_some, ab_gs_0, ab_gs_1, ab_gl_0, ab_gl_1, ab_bv_some, ab_bu_some, ab_bv_thr, ab_bu_thr, ab_fx_n, ab_fx_i, ab_fx_q, ab_fx_l, ab_sh_si, ab_gr_si, ab_gl_si, cs_n, ↓reduceIte, true_or, or_true, false_or, or_false, and_true, true_and, and_false, false_and, not_true_eq_false, not_false_eq_true, eq_self, Int.reduceEq, Int.reduceLT, Int.reduceLE, Int.reduceAdd, Int.reduceMul, Int.reduceNeg, if_pos, if_neg, Int.reduceToNat, sn, s18, e9, e7, e17, e17', eq_true q, ev]
  · rw [if_neg q] at ev ⊢
    simp (disch := omega) only [e148_0, e148_1, e148_3, e148_4, e148_5, e148_6, e148_7, e148_10, e148_11, e148_12, e148_13, e148_14, e148_15, e148_18, e148_19, e148_20, e148_21, e148_22, e148_23, e148_26, e148_27, e148_30, e148_31, e148_34, e148_35, e148_36, e148_37, e148_38, e148_39, e148_40, e148_43, e148_44, e148_45, e148_46, e148_47, e148_48, implies_true, Int.reduceSub, Option.isNone_some, Option.isNone_none, ab_bh_some, ab_bh_thr, ab_gs_3, ab_gl_2, ab_gl_3, ab_gt_some, ab_gc_0, ab_gk_0, Bool.false_eq_true, Bool.true_eq_false, false_implies, Nat.reduceEqDiff, ab_ge, ab_lt, ab_le, ab_gt, ab_eq, ab_ne, decide_eq_true_eq, ab_w_id, ab_w0, ab_gd_some, ab_gs_0, ab_gs_1, ab_gl_0, ab_gl_1, ab_bv_some, ab_bu_some, ab_bv_thr, ab_bu_thr, ab_fx_n, ab_fx_i, ab_fx_q, ab_fx_l, ab_sh_si, ab_gr_si, ab_gl_si, cs_n, ↓reduceIte, true_or, or_true, false_or, or_false, and_true, true_and, and_false, false_and, not_true_eq_false, not_false_eq_true, eq_self, Int.reduceEq, Int.reduceLT, Int.reduceLE, Int.reduceAdd, Int.reduceMul, Int.reduceNeg, if_pos, if_neg, Int.reduceToNat, sn, s18, e9, e7, e17, e17', eq_false q, ev]
theorem n149_1 {dd : Nat} {k w : Int} {g h : ab_H} {b : Nat} (i : ci g) (m : mm g h b) (r1 : -2147483648 ≤ k) (r2 : k < 2147483648) (hn : ¬ (0 ≤ k ∧ k < cs_B g)) : mR B (dd + 2) 149 [some (.inr (.inr (.inl (some 18)))), some (.inl k), some (.inl w)] h g 1 0 0 0 := by
  have hs := m.1.1.1
  refine mR_no m ?_
  simp (disch := omega) only [e149_0, e149_1, e149_2, e149_3, e149_6, e149_7, e149_10, e149_13, e149_14, e149_15, e149_16, e149_17, e149_20, e149_23, e149_24, e149_27, e149_28, e149_29, e149_32, e149_35, e149_36, e149_39, e149_40, e149_41, e149_42, e149_45, implies_true, Int.reduceSub, Option.isNone_some, Option.isNone_none, ab_bh_some, ab_bh_thr, ab_gs_3, ab_gl_2, ab_gl_3, ab_gt_some, ab_gc_0, ab_gk_0, Bool.false_eq_true, Bool.true_eq_false, false_implies, Nat.reduceEqDiff, ab_ge, ab_lt, ab_le, ab_gt, ab_eq, ab_ne, decide_eq_true_eq, ab_w_id, ab_w0, ab_gd_some, ab_gs_0, ab_gs_1, ab_gl_0, ab_gl_1, ab_bv_some, ab_bu_some, ab_bv_thr, ab_bu_thr, ab_fx_n, ab_fx_i, ab_fx_q, ab_fx_l, ab_sh_si, ab_gr_si, ab_gl_si, cs_n, ↓reduceIte, true_or, or_true, false_or, or_false, and_true, true_and, and_false, false_and, not_true_eq_false, not_false_eq_true, eq_self, Int.reduceEq, Int.reduceLT, Int.reduceLE, Int.reduceAdd, Int.reduceMul, Int.reduceNeg, if_pos, if_neg, hs, n105n i.1 m r1 r2 hn, n102_1 hs]
theorem n149_2 {dd : Nat} {k w : Int} {g h : ab_H} {b : Nat} (i : ci g) (m : mm g h b) (k1 : 0 ≤ k) (k2 : k < cs_B g) (w1 : -2147483648 ≤ w) (w2 : w < 2147483648) (hn : ¬ (0 ≤ w ∧ w < 4)) : mR B (dd + 2) 149 [some (.inr (.inr (.inl (some 18)))), some (.inl k), some (.inl w)] h g 2 0 0 0 := by
  have hs := m.1.1.1
  have hs0 : (ab_sh (mt h 0))[18]? = some (8, 22) := hs
  have e1 := n101_r (B := B) (dd := dd + 1) (w := 2) m (by omega) (by omega)
  have e := n100n (B := B) (dd := dd + 1) (h := mt h 0) w1 w2 (show -2147483648 ≤ 0 by omega) (show (0 : Int) < 2147483648 by omega) (show -2147483648 ≤ 3 by omega) (show (3 : Int) < 2147483648 by omega) (show ¬ (0 ≤ w ∧ w ≤ 3) by omega)
  refine mR_no m ?_
  simp (disch := omega) only [e149_0, e149_1, e149_2, e149_3, e149_6, e149_7, e149_10, e149_13, e149_14, e149_15, e149_16, e149_17, e149_20, e149_23, e149_24, e149_27, e149_28, e149_29, e149_32, e149_35, e149_36, e149_39, e149_40, e149_41, e149_42, e149_45, implies_true, Int.reduceSub, Option.isNone_some, Option.isNone_none, ab_bh_some, ab_bh_thr, ab_gs_3, ab_gl_2, ab_gl_3, ab_gt_some, ab_gc_0, ab_gk_0, Bool.false_eq_true, Bool.true_eq_false, false_implies, Nat.reduceEqDiff, ab_ge, ab_lt, ab_le, ab_gt, ab_eq, ab_ne, decide_eq_true_eq, ab_w_id, ab_w0, ab_gd_some, ab_gs_0, ab_gs_1, ab_gl_0, ab_gl_1, ab_bv_some, ab_bu_some, ab_bv_thr, ab_bu_thr, ab_fx_n, ab_fx_i, ab_fx_q, ab_fx_l, ab_sh_si, ab_gr_si, ab_gl_si, cs_n, ↓reduceIte, true_or, or_true, false_or, or_false, and_true, true_and, and_false, false_and, not_true_eq_false, not_false_eq_true, eq_self, Int.reduceEq, Int.reduceLT, Int.reduceLE, Int.reduceAdd, Int.reduceMul, Int.reduceNeg, if_pos, if_neg, hs, hs0, n105y i.1 m k1 k2, n102_0 hs, e, e1]
theorem n149 {dd : Nat} {k w : Int} {g h : ab_H} {b : Nat} (i : ci g) (m : mm g h b) (k1 : 0 ≤ k) (k2 : k < cs_B g) (w1 : 0 ≤ w) (w2 : w < 4) : mR B (dd + 5) 149 [some (.inr (.inr (.inl (some 18)))), some (.inl k), some (.inl w)] h g 0 (cs_vb g k w) 363 1814 := by
  have hs := m.1.1.1
  have hs0 : (ab_sh (mt h 0))[18]? = some (8, 22) := hs
  have m0 : mm g (mt h 0) b := mm_thr m
  have t0 := mt_t h 0
  have e := n100y (B := B) (dd := dd + 4) (h := mt h 0) (show -2147483648 ≤ 0 by omega) (show (3 : Int) < 2147483648 by omega) w1 (show w ≤ 3 by omega)
  obtain ⟨h1, a1, m1, x1⟩ := n148 (B := B) (dd := dd) i.1 m0 k1 k2 w1 w2
  refine mW_ans ?_ m1 x1
  simp (disch := omega) only [e149_0, e149_1, e149_2, e149_3, e149_6, e149_7, e149_10, e149_13, e149_14, e149_15, e149_16, e149_17, e149_20, e149_23, e149_24, e149_27, e149_28, e149_29, e149_32, e149_35, e149_36, e149_39, e149_40, e149_41, e149_42, e149_45, implies_true, Int.reduceSub, Option.isNone_some, Option.isNone_none, ab_bh_some, ab_bh_thr, ab_gs_3, ab_gl_2, ab_gl_3, ab_gt_some, ab_gc_0, ab_gk_0, Bool.false_eq_true, Bool.true_eq_false, false_implies, Nat.reduceEqDiff, ab_ge, ab_lt, ab_le, ab_gt, ab_eq, ab_ne, decide_eq_true_eq, ab_w_id, ab_w0, ab_gd_some, ab_gs_0, ab_gs_1, ab_gl_0, ab_gl_1, ab_bv_some, ab_bu_some, ab_bv_thr, ab_bu_thr, ab_fx_n, ab_fx_i, ab_fx_q, ab_fx_l, ab_sh_si, ab_gr_si, ab_gl_si, cs_n, ↓reduceIte, true_or, or_true, false_or, or_false, and_true, true_and, and_false, false_and, not_true_eq_false, not_false_eq_true, eq_self, Int.reduceEq, Int.reduceLT, Int.reduceLE, Int.reduceAdd, Int.reduceMul, Int.reduceNeg, if_pos, if_neg, hs, hs0, n105y i.1 m k1 k2, n102_0 hs, n101_0 hs0 t0, e, a1]
/-! the note -/
theorem n150 {dd : Nat} {w : Int} {g h : ab_H} {b : Nat} (m : mm g h b) (w1 : 0 ≤ w) (w2 : w < 3) :
    ab_E B dd 150 0 [some (.inr (.inr (.inl (some 18)))), some (.inl w)] [] h = some (.inl (some (.inl (cs_vn g w))), h) := by
  have hs := m.1.1.1
  have hw : w = 0 ∨ w = 1 ∨ w = 2 := by omega
  rcases m.2.2.2.2.1 with ⟨n1, n2, n3, n4⟩ | ⟨c, n1, n2, n3, n4, n5, n6, n7⟩
  · have e : cs_vn g w = -1 := by
      unfold cs_vn
      rcases hw with z | z | z <;> subst z
      · exact n2
      · exact n3
      · exact n4
    rw [e]
    simp (disch := omega) only [e150_0, e150_1, e150_4, e150_7, e150_8, e150_11, e150_12, e150_15, e150_16, e150_17, implies_true, Int.reduceSub, Option.isNone_some, Option.isNone_none, ab_bh_some, ab_bh_thr, ab_gs_3, ab_gl_2, ab_gl_3, ab_gt_some, ab_gc_0, ab_gk_0, Bool.false_eq_true, Bool.true_eq_false, false_implies, Nat.reduceEqDiff, ab_ge, ab_lt, ab_le, ab_gt, ab_eq, ab_ne, decide_eq_true_eq, ab_w_id, ab_w0, ab_gd_some, ab_gs_0, ab_gs_1, ab_gl_0, ab_gl_1, ab_bv_some, ab_bu_some, ab_bv_thr, ab_bu_thr, ab_fx_n, ab_fx_i, ab_fx_q, ab_fx_l, ab_sh_si, ab_gr_si, ab_gl_si, cs_n, ↓reduceIte, true_or, or_true, false_or, or_false, and_true, true_and, and_false, false_and, not_true_eq_false, not_false_eq_true, eq_self, Int.reduceEq, Int.reduceLT, Int.reduceLE, Int.reduceAdd, Int.reduceMul, Int.reduceNeg, if_pos, if_neg, hs, n1]
  · have e : ab_gi h c w = cs_vn g w := by
      unfold cs_vn
      rcases hw with z | z | z <;> subst z
      · exact n4
      · exact n5
      · exact n6
    simp (disch := omega) only [e150_0, e150_1, e150_4, e150_7, e150_8, e150_11, e150_12, e150_15, e150_16, e150_17, implies_true, Int.reduceSub, Option.isNone_some, Option.isNone_none, ab_bh_some, ab_bh_thr, ab_gs_3, ab_gl_2, ab_gl_3, ab_gt_some, ab_gc_0, ab_gk_0, Bool.false_eq_true, Bool.true_eq_false, false_implies, Nat.reduceEqDiff, ab_ge, ab_lt, ab_le, ab_gt, ab_eq, ab_ne, decide_eq_true_eq, ab_w_id, ab_w0, ab_gd_some, ab_gs_0, ab_gs_1, ab_gl_0, ab_gl_1, ab_bv_some, ab_bu_some, ab_bv_thr, ab_bu_thr, ab_fx_n, ab_fx_i, ab_fx_q, ab_fx_l, ab_sh_si, ab_gr_si, ab_gl_si, cs_n, ↓reduceIte, true_or, or_true, false_or, or_false, and_true, true_and, and_false, false_and, not_true_eq_false, not_false_eq_true, eq_self, Int.reduceEq, Int.reduceLT, Int.reduceLE, Int.reduceAdd, Int.reduceMul, Int.reduceNeg, if_pos, if_neg, hs, n1, n3, e]
theorem n151_1 {dd : Nat} {w : Int} {g h : ab_H} {b : Nat} (m : mm g h b) (w1 : -2147483648 ≤ w) (w2 : w < 2147483648) (hn : ¬ (0 ≤ w ∧ w < 3)) : mR B (dd + 2) 151 [some (.inr (.inr (.inl (some 18)))), some (.inl w)] h g 1 0 0 0 := by
  have hs := m.1.1.1
  have e := n100n (B := B) (dd := dd + 1) (h := h) w1 w2 (show -2147483648 ≤ 0 by omega) (show (0 : Int) < 2147483648 by omega) (show -2147483648 ≤ 2 by omega) (show (2 : Int) < 2147483648 by omega) (show ¬ (0 ≤ w ∧ w ≤ 2) by omega)
  refine mR_no m ?_
  simp (disch := omega) only [e151_0, e151_1, e151_2, e151_3, e151_4, e151_7, e151_10, e151_11, e151_14, e151_15, e151_16, e151_19, e151_22, e151_23, e151_26, e151_27, e151_28, e151_31, implies_true, Int.reduceSub, Option.isNone_some, Option.isNone_none, ab_bh_some, ab_bh_thr, ab_gs_3, ab_gl_2, ab_gl_3, ab_gt_some, ab_gc_0, ab_gk_0, Bool.false_eq_true, Bool.true_eq_false, false_implies, Nat.reduceEqDiff, ab_ge, ab_lt, ab_le, ab_gt, ab_eq, ab_ne, decide_eq_true_eq, ab_w_id, ab_w0, ab_gd_some, ab_gs_0, ab_gs_1, ab_gl_0, ab_gl_1, ab_bv_some, ab_bu_some, ab_bv_thr, ab_bu_thr, ab_fx_n, ab_fx_i, ab_fx_q, ab_fx_l, ab_sh_si, ab_gr_si, ab_gl_si, cs_n, ↓reduceIte, true_or, or_true, false_or, or_false, and_true, true_and, and_false, false_and, not_true_eq_false, not_false_eq_true, eq_self, Int.reduceEq, Int.reduceLT, Int.reduceLE, Int.reduceAdd, Int.reduceMul, Int.reduceNeg, if_pos, if_neg, hs, e, n102_1 hs]
theorem n151 {dd : Nat} {w : Int} {g h : ab_H} {b : Nat} (m : mm g h b) (w1 : 0 ≤ w) (w2 : w < 3) : mR B (dd + 2) 151 [some (.inr (.inr (.inl (some 18)))), some (.inl w)] h g 0 (cs_vn g w) 0 0 := by
  have hs := m.1.1.1
  have hs0 : (ab_sh (mt h 0))[18]? = some (8, 22) := hs
  have m0 : mm g (mt h 0) b := mm_thr m
  have t0 := mt_t h 0
  have e := n100y (B := B) (dd := dd + 1) (h := h) (show -2147483648 ≤ 0 by omega) (show (2 : Int) < 2147483648 by omega) w1 (show w ≤ 2 by omega)
  have e50 := n150 (B := B) (dd := dd + 1) m0 w1 w2
  refine ⟨mt h 0, b, ?_, m0, mE.si (by omega), t0⟩
  simp (disch := omega) only [e151_0, e151_1, e151_2, e151_3, e151_4, e151_7, e151_10, e151_11, e151_14, e151_15, e151_16, e151_19, e151_22, e151_23, e151_26, e151_27, e151_28, e151_31, implies_true, Int.reduceSub, Option.isNone_some, Option.isNone_none, ab_bh_some, ab_bh_thr, ab_gs_3, ab_gl_2, ab_gl_3, ab_gt_some, ab_gc_0, ab_gk_0, Bool.false_eq_true, Bool.true_eq_false, false_implies, Nat.reduceEqDiff, ab_ge, ab_lt, ab_le, ab_gt, ab_eq, ab_ne, decide_eq_true_eq, ab_w_id, ab_w0, ab_gd_some, ab_gs_0, ab_gs_1, ab_gl_0, ab_gl_1, ab_bv_some, ab_bu_some, ab_bv_thr, ab_bu_thr, ab_fx_n, ab_fx_i, ab_fx_q, ab_fx_l, ab_sh_si, ab_gr_si, ab_gl_si, cs_n, ↓reduceIte, true_or, or_true, false_or, or_false, and_true, true_and, and_false, false_and, not_true_eq_false, not_false_eq_true, eq_self, Int.reduceEq, Int.reduceLT, Int.reduceLE, Int.reduceAdd, Int.reduceMul, Int.reduceNeg, if_pos, if_neg, hs, hs0, e, n102_0 hs, n101_0 hs0 t0, e50]
end
