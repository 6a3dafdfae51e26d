set_option linter.all false
/-! THE REFERENCE'S PLAN: draws, trips, ends -/
section
variable {B : ab_B}
theorem mKK_1 (h : ab_H) {d : Int} (h1 : 0 ≤ d) (h2 : d < 5) : (mKK h).1 d = ab_gi h (25 + d.toNat) 0 := if_pos ⟨h1, h2⟩
theorem mKK_2 (h : ab_H) {d : Int} (h1 : 0 ≤ d) (h2 : d < 5) : (mKK h).2.1 d = ab_gi h (25 + d.toNat) 1 := if_pos ⟨h1, h2⟩
theorem mKK_3 (h : ab_H) {d : Int} (h1 : 0 ≤ d) (h2 : d < 5) : (mKK h).2.2.1 d = ab_gi h (25 + d.toNat) 2 := if_pos ⟨h1, h2⟩
theorem n132 {dd : Nat} {d st t D S : Int} {h : ab_H} {b : Nat} (hm : mL h b D S) (hK : pk_ok (mKK h)) (d1 : 0 ≤ d) (d2 : d < 5) (s1 : 0 ≤ st) (s2 : st ≤ 1000) (t1 : 0 ≤ t) (t2 : t ≤ 1000) :
    ab_E B dd 132 0 [some (.inr (.inr (.inl (some 18)))), some (.inl d), some (.inl st), some (.inl t)] [] h = some (.inl (some (.inl (if t < st then 0 else if t < st + (mKK h).2.1 d then (mKK h).1 d else (mKK h).2.2.1 d))), h) := by
  have hk := hm.2.2.2.1 d d1 d2
  have hs := (hK.1 d d1 d2).2.1
  rw [mKK_1 h d1 d2, mKK_2 h d1 d2, mKK_3 h d1 d2]
  rw [mKK_2 h d1 d2] at hs
  by_cases c : t < st
  · rw [if_pos c]
    simp (disch := omega) only [e132_0, e132_1, e132_2, e132_5, e132_6, e132_9, e132_10, e132_11, e132_12, e132_15, e132_16, e132_17, e132_18, e132_19, e132_20, e132_23, e132_24, e132_27, e132_28, e132_29, e132_30, e132_31, e132_34, e132_35, e132_38, e132_39, e132_40, e132_41, e132_42, implies_true, Int.reduceSub, Option.isNone_some, Option.isNone_none, ab_bh_some, ab_bh_thr, ab_gs_3, ab_gl_2, ab_gl_3, ab_gt_some, ab_gc_0, ab_gk_0, Bool.false_eq_true, Bool.true_eq_false, false_implies, Nat.reduceEqDiff, ab_ge, ab_lt, ab_le, ab_gt, ab_eq, ab_ne, decide_eq_true_eq, ab_w_id, ab_w0, ab_gd_some, ab_gs_0, ab_gs_1, ab_gl_0, ab_gl_1, ab_bv_some, ab_bu_some, ab_bv_thr, ab_bu_thr, ab_fx_n, ab_fx_i, ab_fx_q, ab_fx_l, ab_sh_si, ab_gr_si, ab_gl_si, cs_n, ↓reduceIte, true_or, or_true, false_or, or_false, and_true, true_and, and_false, false_and, not_true_eq_false, not_false_eq_true, eq_self, Int.reduceEq, Int.reduceLT, Int.reduceLE, Int.reduceAdd, Int.reduceMul, Int.reduceNeg, if_pos, if_neg]
  · rw [if_neg c]
    by_cases c2 : t < st + ab_gi h (25 + d.toNat) 1
    · rw [if_pos c2]
      simp (disch := omega) only [e132_0, e132_1, e132_2, e132_5, e132_6, e132_9, e132_10, e132_11, e132_12, e132_15, e132_16, e132_17, e132_18, e132_19, e132_20, e132_23, e132_24, e132_27, e132_28, e132_29, e132_30, e132_31, e132_34, e132_35, e132_38, e132_39, e132_40, e132_41, e132_42, implies_true, Int.reduceSub, Option.isNone_some, Option.isNone_none, ab_bh_some, ab_bh_thr, ab_gs_3, ab_gl_2, ab_gl_3, ab_gt_some, ab_gc_0, ab_gk_0, Bool.false_eq_true, Bool.true_eq_false, false_implies, Nat.reduceEqDiff, ab_ge, ab_lt, ab_le, ab_gt, ab_eq, ab_ne, decide_eq_true_eq, ab_w_id, ab_w0, ab_gd_some, ab_gs_0, ab_gs_1, ab_gl_0, ab_gl_1, ab_bv_some, ab_bu_some, ab_bv_thr, ab_bu_thr, ab_fx_n, ab_fx_i, ab_fx_q, ab_fx_l, ab_sh_si, ab_gr_si, ab_gl_si, cs_n, ↓reduceIte, true_or, or_true, false_or, or_false, and_true, true_and, and_false, false_and, not_true_eq_false, not_false_eq_true, eq_self, Int.reduceEq, Int.reduceLT, Int.reduceLE, Int.reduceAdd, Int.reduceMul, Int.reduceNeg, if_pos, if_neg, hm.1, hm.2.1, hk]
    · rw [if_neg c2]
      simp (disch := omega) only [e132_0, e132_1, e132_2, e132_5, e132_6, e132_9, e132_10, e132_11, e132_12, e132_15, e132_16, e132_17, e132_18, e132_19, e132_20, e132_23, e132_24, e132_27, e132_28, e132_29, e132_30, e132_31, e132_34, e132_35, e132_38, e132_39, e132_40, e132_41, e132_42, implies_true, Int.reduceSub, Option.isNone_some, Option.isNone_none, ab_bh_some, ab_bh_thr, ab_gs_3, ab_gl_2, ab_gl_3, ab_gt_some, ab_gc_0, ab_gk_0, Bool.false_eq_true, Bool.true_eq_false, false_implies, Nat.reduceEqDiff, ab_ge, ab_lt, ab_le, ab_gt, ab_eq, ab_ne, decide_eq_true_eq, ab_w_id, ab_w0, ab_gd_some, ab_gs_0, ab_gs_1, ab_gl_0, ab_gl_1, ab_bv_some, ab_bu_some, ab_bv_thr, ab_bu_thr, ab_fx_n, ab_fx_i, ab_fx_q, ab_fx_l, ab_sh_si, ab_gr_si, ab_gl_si, cs_n, ↓reduceIte, true_or, or_true, false_or, or_false, and_true, true_and, and_false, false_and, not_true_eq_false, not_false_eq_true, eq_self, Int.reduceEq, Int.reduceLT, Int.reduceLE, Int.reduceAdd, Int.reduceMul, Int.reduceNeg, if_pos, if_neg, hm.1, hm.2.1, hk]
/-- the row a has the starts st -/
def mS (h : ab_H) (a : Nat) (D : Int) (st : Int → Int) : Prop := (ab_sh h)[a]? = some (0, D.toNat) ∧ ∀ d, 0 ≤ d → d < D → ab_gi h a d = st d ∧ -1 ≤ st d ∧ st d ≤ 200
theorem n133_in {dd : Nat} {D S t run : Int} {h : ab_H} {b a : Nat} {st : Int → Int} (hm : mL h b D S) (hK : pk_ok (mKK h)) (e1 : ab_gi h 18 1 = D) (hD5 : D ≤ 5) (ha : mS h a D st) (t1 : 0 ≤ t) (t2 : t ≤ 200) : ∀ (k : Nat) (i c : Int), 0 ≤ i → i + k = D →
    ab_E B (dd + 1) 133 17 [some (.inr (.inr (.inl (some 18)))), some (.inr (.inr (.inl (some a)))), some (.inl run), some (.inl t), some (.inl c), some (.inl i)] [] h = ab_E B (dd + 1) 133 60 [some (.inr (.inr (.inl (some 18)))), some (.inr (.inr (.inl (some a)))), some (.inl run), some (.inl t), some (.inl (c + cs_sf (pk_d1 (mKK h) st t) i k)), some (.inl D)] [] h
  | 0, i, c, q1, q2 => by
    have e : i = D := by omega
    subst e
    rw [e133_17]
    simp (disch := omega) only [e133_0, e133_1, e133_2, e133_3, e133_4, e133_5, e133_8, e133_11, e133_12, e133_14, e133_15, e133_19, e133_20, e133_23, e133_26, e133_28, e133_29, e133_31, e133_32, e133_33, e133_36, e133_37, e133_40, e133_41, e133_43, e133_44, e133_46, e133_47, e133_48, e133_51, e133_52, e133_54, e133_57, e133_62, e133_63, e133_66, e133_69, e133_70, e133_71, e133_72, e133_75, e133_76, e133_77, e133_78, e133_79, e133_82, e133_85, e133_86, e133_87, e133_90, e133_93, e133_94, implies_true, Int.reduceSub, Option.isNone_some, Option.isNone_none, ab_bh_some, ab_bh_thr, ab_gs_3, ab_gl_2, ab_gl_3, ab_gt_some, ab_gc_0, ab_gk_0, Bool.false_eq_true, Bool.true_eq_false, false_implies, Nat.reduceEqDiff, ab_ge, ab_lt, ab_le, ab_gt, ab_eq, ab_ne, decide_eq_true_eq, ab_w_id, ab_w0, ab_gd_some, ab_gs_0, ab_gs_1, ab_gl_0, ab_gl_1, ab_bv_some, ab_bu_some, ab_bv_thr, ab_bu_thr, ab_fx_n, ab_fx_i, ab_fx_q, ab_fx_l, ab_sh_si, ab_gr_si, ab_gl_si, cs_n, ↓reduceIte, true_or, or_true, false_or, or_false, and_true, true_and, and_false, false_and, not_true_eq_false, not_false_eq_true, eq_self, Int.reduceEq, Int.reduceLT, Int.reduceLE, Int.reduceAdd, Int.reduceMul, Int.reduceNeg, if_pos, if_neg, hm.1, e1, cs_sf, Int.add_zero]
  | k + 1, i, c, q1, q2 => by
    obtain ⟨v, v1, v2⟩ := ha.2 i q1 (by omega)
    have ih := n133_in (dd := dd) (run := run) hm hK e1 hD5 ha t1 t2 k (i + 1) (c + pk_d1 (mKK h) st t i) (by omega) (by omega)
    unfold cs_sf
    rw [← Int.add_assoc, ← ih, e133_17]
    unfold pk_d1
    by_cases c0 : st i = -1
    · rw [if_pos c0]
      simp (disch := omega) only [e133_0, e133_1, e133_2, e133_3, e133_4, e133_5, e133_8, e133_11, e133_12, e133_14, e133_15, e133_19, e133_20, e133_23, e133_26, e133_28, e133_29, e133_31, e133_32, e133_33, e133_36, e133_37, e133_40, e133_41, e133_43, e133_44, e133_46, e133_47, e133_48, e133_51, e133_52, e133_54, e133_57, e133_62, e133_63, e133_66, e133_69, e133_70, e133_71, e133_72, e133_75, e133_76, e133_77, e133_78, e133_79, e133_82, e133_85, e133_86, e133_87, e133_90, e133_93, e133_94, implies_true, Int.reduceSub, Option.isNone_some, Option.isNone_none, ab_bh_some, ab_bh_thr, ab_gs_3, ab_gl_2, ab_gl_3, ab_gt_some, ab_gc_0, ab_gk_0, Bool.false_eq_true, Bool.true_eq_false, false_implies, Nat.reduceEqDiff, ab_ge, ab_lt, ab_le, ab_gt, ab_eq, ab_ne, decide_eq_true_eq, ab_w_id, ab_w0, ab_gd_some, ab_gs_0, ab_gs_1, ab_gl_0, ab_gl_1, ab_bv_some, ab_bu_some, ab_bv_thr, ab_bu_thr, ab_fx_n, ab_fx_i, ab_fx_q, ab_fx_l, ab_sh_si, ab_gr_si, ab_gl_si, cs_n, ↓reduceIte, true_or, or_true, false_or, or_false, and_true, true_and, and_false, false_and, not_true_eq_false, not_false_eq_true, eq_self, Int.reduceEq, Int.reduceLT, Int.reduceLE, Int.reduceAdd, Int.reduceMul, Int.reduceNeg, if_pos, if_neg, hm.1, e1, ha.1, v, c0]
    · rw [if_neg c0]
      have e := n132 (B := B) (dd := dd) (st := st i) hm hK q1 (show i < 5 by omega) (by omega) (by omega) t1 (by omega)
      simp (disch := omega) only [e133_0, e133_1, e133_2, e133_3, e133_4, e133_5, e133_8, e133_11, e133_12, e133_14, e133_15, e133_19, e133_20, e133_23, e133_26, e133_28, e133_29, e133_31, e133_32, e133_33, e133_36, e133_37, e133_40, e133_41, e133_43, e133_44, e133_46, e133_47, e133_48, e133_51, e133_52, e133_54, e133_57, e133_62, e133_63, e133_66, e133_69, e133_70, e133_71, e133_72, e133_75, e133_76, e133_77, e133_78, e133_79, e133_82, e133_85, e133_86, e133_87, e133_90, e133_93, e133_94, implies_true, Int.reduceSub, Option.isNone_some, Option.isNone_none, ab_bh_some, ab_bh_thr, ab_gs_3, ab_gl_2, ab_gl_3, ab_gt_some, ab_gc_0, ab_gk_0, Bool.false_eq_true, Bool.true_eq_false, false_implies, Nat.reduceEqDiff, ab_ge, ab_lt, ab_le, ab_gt, ab_eq, ab_ne, decide_eq_true_eq, ab_w_id, ab_w0, ab_gd_some, ab_gs_0, ab_gs_1, ab_gl_0, ab_gl_1, ab_bv_some, ab_bu_some, ab_bv_thr, ab_bu_thr, ab_fx_n, ab_fx_i, ab_fx_q, ab_fx_l, ab_sh_si, ab_gr_si, ab_gl_si, cs_n, ↓reduceIte, true_or, or_true, false_or, or_false, and_true, true_and, and_false, false_and, not_true_eq_false, not_false_eq_true, eq_self, Int.reduceEq, Int.reduceLT, Int.reduceLE, Int.reduceAdd, Int.reduceMul, Int.reduceNeg, if_pos, if_neg, hm.1, e1, ha.1, v, eq_false c0, e]
theorem pk_dr_rng {K : pk_K} {D t : Int} {st : Int → Int} (hK : pk_ok K) (hD5 : D ≤ 5) : 0 ≤ pk_dr K D st t ∧ pk_dr K D st t ≤ 150 := by
  have := cs_sf_rng (f := pk_d1 K st t) (B := 30) D.toNat 0 (fun j q1 q2 => by
    have := hK.1 j q1 (by omega)
    unfold pk_d1
    split
    · omega
    · split
      · omega
      · split <;> omega)
  unfold pk_dr
  omega
theorem n133_loop {dd : Nat} {D S : Int} {h : ab_H} {b a : Nat} {st : Int → Int} (hm : mL h b D S) (hK : pk_ok (mKK h)) (e1 : ab_gi h 18 1 = D) (hD : 0 ≤ D) (hD5 : D ≤ 5) (ha : mS h a D st) : ∀ (k : Nat) (t run : Int) (o4 o5 : Option ab_V), 0 ≤ t → t + k = 161 → 0 ≤ run → run ≤ 9 →
    ab_E B (dd + 1) 133 4 [some (.inr (.inr (.inl (some 18)))), some (.inr (.inr (.inl (some a)))), some (.inl run), some (.inl t), o4, o5] [] h = some (.inl (some (.inl (if pk_g (mKK h).2.2.2.2 (pk_ov (mKK h) D st) run t k = true then 1 else 0))), h)
  | 0, t, run, o4, o5, t1, t2, r1, r2 => by
    have e : t = 161 := by omega
    subst e
    rw [e133_4]
    simp (disch := omega) only [e133_0, e133_1, e133_2, e133_3, e133_5, e133_8, e133_11, e133_12, e133_14, e133_15, e133_19, e133_20, e133_23, e133_26, e133_28, e133_29, e133_31, e133_32, e133_33, e133_36, e133_37, e133_40, e133_41, e133_43, e133_44, e133_46, e133_47, e133_48, e133_51, e133_52, e133_54, e133_57, e133_60, e133_62, e133_63, e133_66, e133_69, e133_70, e133_71, e133_72, e133_75, e133_76, e133_77, e133_78, e133_79, e133_82, e133_85, e133_86, e133_87, e133_90, e133_93, e133_94, implies_true, Int.reduceSub, Option.isNone_some, Option.isNone_none, ab_bh_some, ab_bh_thr, ab_gs_3, ab_gl_2, ab_gl_3, ab_gt_some, ab_gc_0, ab_gk_0, Bool.false_eq_true, Bool.true_eq_false, false_implies, Nat.reduceEqDiff, ab_ge, ab_lt, ab_le, ab_gt, ab_eq, ab_ne, decide_eq_true_eq, ab_w_id, ab_w0, ab_gd_some, ab_gs_0, ab_gs_1, ab_gl_0, ab_gl_1, ab_bv_some, ab_bu_some, ab_bv_thr, ab_bu_thr, ab_fx_n, ab_fx_i, ab_fx_q, ab_fx_l, ab_sh_si, ab_gr_si, ab_gl_si, cs_n, ↓reduceIte, true_or, or_true, false_or, or_false, and_true, true_and, and_false, false_and, not_true_eq_false, not_false_eq_true, eq_self, Int.reduceEq, Int.reduceLT, Int.reduceLE, Int.reduceAdd, Int.reduceMul, Int.reduceNeg, if_pos, if_neg]
    rfl
  | k + 1, t, run, o4, o5, t1, t2, r1, r2 => by
    have ein := n133_in (B := B) (dd := dd) (run := run) hm hK e1 hD5 ha t1 (show t ≤ 200 by omega) D.toNat 0 0 (by omega) (by omega)
    have hd := pk_dr_rng (t := t) (st := st) hK hD5
    have e19 : ab_gi h 18 19 = (mKK h).2.2.2.1 := rfl
    have e20 : ab_gi h 18 20 = (mKK h).2.2.2.2 := rfl
    have hl := hK.2.1
    have hp := hK.2.2
    have ed : 0 + cs_sf (pk_d1 (mKK h) st t) 0 D.toNat = pk_dr (mKK h) D st t := Int.zero_add _
    rw [ed] at ein
    have eo : (pk_ov (mKK h) D st t = true) = ((mKK h).2.2.2.1 < pk_dr (mKK h) D st t) := by unfold pk_ov; rw [decide_eq_true_eq]
    have ih := fun run o4 o5 => n133_loop (dd := dd) hm hK e1 hD hD5 ha k (t + 1) run o4 o5 (by omega) (by omega)
    rw [pk_g_s, e133_4]
    simp (disch := omega) only [e133_0, e133_1, e133_2, e133_3, e133_5, e133_8, e133_11, e133_12, e133_14, e133_15, e133_19, e133_20, e133_23, e133_26, e133_28, e133_29, e133_31, e133_32, e133_33, e133_36, e133_37, e133_40, e133_41, e133_43, e133_44, e133_46, e133_47, e133_48, e133_51, e133_52, e133_54, e133_57, e133_62, e133_63, e133_66, e133_69, e133_70, e133_71, e133_72, e133_75, e133_76, e133_77, e133_78, e133_79, e133_82, e133_85, e133_86, e133_87, e133_90, e133_93, e133_94, implies_true, Int.reduceSub, Option.isNone_some, Option.isNone_none, ab_bh_some, ab_bh_thr, ab_gs_3, ab_gl_2, ab_gl_3, ab_gt_some, ab_gc_0, ab_gk_0, Bool.false_eq_true, Bool.true_eq_false, false_implies, Nat.reduceEqDiff, ab_ge, ab_lt, ab_le, ab_gt, ab_eq, ab_ne, decide_eq_true_eq, ab_w_id, ab_w0, ab_gd_some, ab_gs_0, ab_gs_1, ab_gl_0, ab_gl_1, ab_bv_some, ab_bu_some, ab_bv_thr, ab_bu_thr, ab_fx_n, ab_fx_i, ab_fx_q, ab_fx_l, ab_sh_si, ab_gr_si, ab_gl_si, cs_n, ↓reduceIte, true_or, or_true, false_or, or_false, and_true, true_and, and_false, false_and, not_true_eq_false, not_false_eq_true, eq_self, Int.reduceEq, Int.reduceLT, Int.reduceLE, Int.reduceAdd, Int.reduceMul, Int.reduceNeg, if_pos, if_neg, hm.1]
    rw [ein]
    simp only [eo]
    by_cases c : (mKK h).2.2.2.1 < pk_dr (mKK h) D st t
    · simp only [if_pos c]
      by_cases c2 : (mKK h).2.2.2.2 < run + 1
      · simp only [if_pos c2]
        simp (disch := omega) only [e133_0, e133_1, e133_2, e133_3, e133_5, e133_8, e133_11, e133_12, e133_14, e133_15, e133_19, e133_20, e133_23, e133_26, e133_28, e133_29, e133_31, e133_32, e133_33, e133_36, e133_37, e133_40, e133_41, e133_43, e133_44, e133_46, e133_47, e133_48, e133_51, e133_52, e133_54, e133_57, e133_60, e133_62, e133_63, e133_66, e133_69, e133_70, e133_71, e133_72, e133_75, e133_76, e133_77, e133_78, e133_79, e133_82, e133_85, e133_86, e133_87, e133_90, e133_93, e133_94, implies_true, Int.reduceSub, Option.isNone_some, Option.isNone_none, ab_bh_some, ab_bh_thr, ab_gs_3, ab_gl_2, ab_gl_3, ab_gt_some, ab_gc_0, ab_gk_0, Bool.false_eq_true, Bool.true_eq_false, false_implies, Nat.reduceEqDiff, ab_ge, ab_lt, ab_le, ab_gt, ab_eq, ab_ne, decide_eq_true_eq, ab_w_id, ab_w0, ab_gd_some, ab_gs_0, ab_gs_1, ab_gl_0, ab_gl_1, ab_bv_some, ab_bu_some, ab_bv_thr, ab_bu_thr, ab_fx_n, ab_fx_i, ab_fx_q, ab_fx_l, ab_sh_si, ab_gr_si, ab_gl_si, cs_n, ↓reduceIte, true_or, or_true, false_or, or_false, and_true, true_and, and_false, false_and, not_true_eq_false, not_false_eq_true, eq_self, Int.reduceEq, Int.reduceLT, Int.reduceLE, Int.reduceAdd, Int.reduceMul, Int.reduceNeg, if_pos, if_neg, hm.1, e19, e20]
      · simp only [if_neg c2]
        rw [← ih (run + 1) (some (.inl (pk_dr (mKK h) D st t))) (some (.inl D)) (by omega) (by omega)]
        simp (disch := omega) only [e133_0, e133_1, e133_2, e133_3, e133_5, e133_8, e133_11, e133_12, e133_14, e133_15, e133_19, e133_20, e133_23, e133_26, e133_28, e133_29, e133_31, e133_32, e133_33, e133_36, e133_37, e133_40, e133_41, e133_43, e133_44, e133_46, e133_47, e133_48, e133_51, e133_52, e133_54, e133_57, e133_60, e133_62, e133_63, e133_66, e133_69, e133_70, e133_71, e133_72, e133_75, e133_76, e133_77, e133_78, e133_79, e133_82, e133_85, e133_86, e133_87, e133_90, e133_93, e133_94, implies_true, Int.reduceSub, Option.isNone_some, Option.isNone_none, ab_bh_some, ab_bh_thr, ab_gs_3, ab_gl_2, ab_gl_3, ab_gt_some, ab_gc_0, ab_gk_0, Bool.false_eq_true, Bool.true_eq_false, false_implies, Nat.reduceEqDiff, ab_ge, ab_lt, ab_le, ab_gt, ab_eq, ab_ne, decide_eq_true_eq, ab_w_id, ab_w0, ab_gd_some, ab_gs_0, ab_gs_1, ab_gl_0, ab_gl_1, ab_bv_some, ab_bu_some, ab_bv_thr, ab_bu_thr, ab_fx_n, ab_fx_i, ab_fx_q, ab_fx_l, ab_sh_si, ab_gr_si, ab_gl_si, cs_n, ↓reduceIte, true_or, or_true, false_or, or_false, and_true, true_and, and_false, false_and, not_true_eq_false, not_false_eq_true, eq_self, Int.reduceEq, Int.reduceLT, Int.reduceLE, Int.reduceAdd, Int.reduceMul, Int.reduceNeg, if_pos, if_neg, hm.1, e19, e20]
    · simp only [if_neg c]
      rw [if_neg (show ¬ (mKK h).2.2.2.2 < 0 by omega)]
      rw [← ih 0 (some (.inl (pk_dr (mKK h) D st t))) (some (.inl D)) (by omega) (by omega)]
      simp (disch := omega) only [e133_0, e133_1, e133_2, e133_3, e133_5, e133_8, e133_11, e133_12, e133_14, e133_15, e133_19, e133_20, e133_23, e133_26, e133_28, e133_29, e133_31, e133_32, e133_33, e133_36, e133_37, e133_40, e133_41, e133_43, e133_44, e133_46, e133_47, e133_48, e133_51, e133_52, e133_54, e133_57, e133_60, e133_62, e133_63, e133_66, e133_69, e133_70, e133_71, e133_72, e133_75, e133_76, e133_77, e133_78, e133_79, e133_82, e133_85, e133_86, e133_87, e133_90, e133_93, e133_94, implies_true, Int.reduceSub, Option.isNone_some, Option.isNone_none, ab_bh_some, ab_bh_thr, ab_gs_3, ab_gl_2, ab_gl_3, ab_gt_some, ab_gc_0, ab_gk_0, Bool.false_eq_true, Bool.true_eq_false, false_implies, Nat.reduceEqDiff, ab_ge, ab_lt, ab_le, ab_gt, ab_eq, ab_ne, decide_eq_true_eq, ab_w_id, ab_w0, ab_gd_some, ab_gs_0, ab_gs_1, ab_gl_0, ab_gl_1, ab_bv_some, ab_bu_some, ab_bv_thr, ab_bu_thr, ab_fx_n, ab_fx_i, ab_fx_q, ab_fx_l, ab_sh_si, ab_gr_si, ab_gl_si, cs_n, ↓reduceIte, true_or, or_true, false_or, or_false, and_true, true_and, and_false, false_and, not_true_eq_false, not_false_eq_true, eq_self, Int.reduceEq, Int.reduceLT, Int.reduceLE, Int.reduceAdd, Int.reduceMul, Int.reduceNeg, if_pos, if_neg, hm.1, e19, e20]
theorem n133 {dd : Nat} {D S : Int} {h : ab_H} {b a : Nat} {st : Int → Int} (hm : mL h b D S) (hK : pk_ok (mKK h)) (e1 : ab_gi h 18 1 = D) (hD : 0 ≤ D) (hD5 : D ≤ 5) (ha : mS h a D st) :
    ab_E B (dd + 1) 133 0 [some (.inr (.inr (.inl (some 18)))), some (.inr (.inr (.inl (some a)))), none, none, none, none] [] h = some (.inl (some (.inl (if pk_trips (mKK h) D st = true then 1 else 0))), h) := by
  unfold pk_trips
  rw [← n133_loop (B := B) (dd := dd) hm hK e1 hD hD5 ha 161 0 0 none none (by omega) (by omega) (by omega) (by omega)]
  simp (disch := omega) only [e133_0, e133_1, e133_2, e133_3, e133_5, e133_8, e133_11, e133_12, e133_14, e133_15, e133_17, e133_19, e133_20, e133_23, e133_26, e133_28, e133_29, e133_31, e133_32, e133_33, e133_36, e133_37, e133_40, e133_41, e133_43, e133_44, e133_46, e133_47, e133_48, e133_51, e133_52, e133_54, e133_57, e133_60, e133_62, e133_63, e133_66, e133_69, e133_70, e133_71, e133_72, e133_75, e133_76, e133_77, e133_78, e133_79, e133_82, e133_85, e133_86, e133_87, e133_90, e133_93, e133_94, implies_true, Int.reduceSub, Option.isNone_some, Option.isNone_none, ab_bh_some, ab_bh_thr, ab_gs_3, ab_gl_2, ab_gl_3, ab_gt_some, ab_gc_0, ab_gk_0, Bool.false_eq_true, Bool.true_eq_false, false_implies, Nat.reduceEqDiff, ab_ge, ab_lt, ab_le, ab_gt, ab_eq, ab_ne, decide_eq_true_eq, ab_w_id, ab_w0, ab_gd_some, ab_gs_0, ab_gs_1, ab_gl_0, ab_gl_1, ab_bv_some, ab_bu_some, ab_bv_thr, ab_bu_thr, ab_fx_n, ab_fx_i, ab_fx_q, ab_fx_l, ab_sh_si, ab_gr_si, ab_gl_si, cs_n, ↓reduceIte, true_or, or_true, false_or, or_false, and_true, true_and, and_false, false_and, not_true_eq_false, not_false_eq_true, eq_self, Int.reduceEq, Int.reduceLT, Int.reduceLE, Int.reduceAdd, Int.reduceMul, Int.reduceNeg, if_pos, if_neg]
theorem n134_loop {dd : Nat} {D S : Int} {h : ab_H} {b a : Nat} {st : Int → Int} (hm : mL h b D S) (hK : pk_ok (mKK h)) (e1 : ab_gi h 18 1 = D) (hD5 : D ≤ 5) (ha : (ab_sh h)[a]? = some (0, D.toNat)) (hst : ∀ d, 0 ≤ d → d < D → ab_gi h a d = st d ∧ 0 ≤ st d ∧ st d ≤ 200) : ∀ (k : Nat) (i c : Int), 0 ≤ i → i + k = D → 0 ≤ c → c ≤ 300 →
    ab_E B dd 134 4 [some (.inr (.inr (.inl (some 18)))), some (.inr (.inr (.inl (some a)))), some (.inl c), some (.inl i)] [] h = some (.inl (some (.inl (pk_mx (fun d => if st d = -1 then 0 else st d + (mKK h).2.1 d) c i k))), h)
  | 0, i, c, q1, q2, c1, c2 => by
    rw [e134_4]
    simp (disch := omega) only [e134_0, e134_1, e134_2, e134_3, e134_5, e134_6, e134_9, e134_12, e134_13, e134_14, e134_15, e134_16, e134_17, e134_20, e134_21, e134_22, e134_23, e134_24, e134_25, e134_28, e134_29, e134_32, e134_35, e134_36, implies_true, Int.reduceSub, Option.isNone_some, Option.isNone_none, ab_bh_some, ab_bh_thr, ab_gs_3, ab_gl_2, ab_gl_3, ab_gt_some, ab_gc_0, ab_gk_0, Bool.false_eq_true, Bool.true_eq_false, false_implies, Nat.reduceEqDiff, ab_ge, ab_lt, ab_le, ab_gt, ab_eq, ab_ne, decide_eq_true_eq, ab_w_id, ab_w0, ab_gd_some, ab_gs_0, ab_gs_1, ab_gl_0, ab_gl_1, ab_bv_some, ab_bu_some, ab_bv_thr, ab_bu_thr, ab_fx_n, ab_fx_i, ab_fx_q, ab_fx_l, ab_sh_si, ab_gr_si, ab_gl_si, cs_n, ↓reduceIte, true_or, or_true, false_or, or_false, and_true, true_and, and_false, false_and, not_true_eq_false, not_false_eq_true, eq_self, Int.reduceEq, Int.reduceLT, Int.reduceLE, Int.reduceAdd, Int.reduceMul, Int.reduceNeg, if_pos, if_neg, hm.1, e1]
    rfl
  | k + 1, i, c, q1, q2, c1, c2 => by
    obtain ⟨v, v1, v2⟩ := hst i q1 (by omega)
    have hk := hm.2.2.2.1 i q1 (by omega)
    have hs := (hK.1 i q1 (by omega)).2.1
    rw [mKK_2 h q1 (by omega)] at hs
    unfold pk_mx
    rw [if_neg (show ¬ st i = -1 by omega), mKK_2 h q1 (by omega)]
    rw [← n134_loop (dd := dd) hm hK e1 hD5 ha hst k (i + 1) _ (by omega) (by omega) (by split <;> omega) (by split <;> omega), e134_4]
    by_cases c3 : c < st i + ab_gi h (25 + i.toNat) 1
    · simp (disch := omega) only [e134_0, e134_1, e134_2, e134_3, e134_5, e134_6, e134_9, e134_12, e134_13, e134_14, e134_15, e134_16, e134_17, e134_20, e134_21, e134_22, e134_23, e134_24, e134_25, e134_28, e134_29, e134_32, e134_35, e134_36, implies_true, Int.reduceSub, Option.isNone_some, Option.isNone_none, ab_bh_some, ab_bh_thr, ab_gs_3, ab_gl_2, ab_gl_3, ab_gt_some, ab_gc_0, ab_gk_0, Bool.false_eq_true, Bool.true_eq_false, false_implies, Nat.reduceEqDiff, ab_ge, ab_lt, ab_le, ab_gt, ab_eq, ab_ne, decide_eq_true_eq, ab_w_id, ab_w0, ab_gd_some, ab_gs_0, ab_gs_1, ab_gl_0, ab_gl_1, ab_bv_some, ab_bu_some, ab_bv_thr, ab_bu_thr, ab_fx_n, ab_fx_i, ab_fx_q, ab_fx_l, ab_sh_si, ab_gr_si, ab_gl_si, cs_n, ↓reduceIte, true_or, or_true, false_or, or_false, and_true, true_and, and_false, false_and, not_true_eq_false, not_false_eq_true, eq_self, Int.reduceEq, Int.reduceLT, Int.reduceLE, Int.reduceAdd, Int.reduceMul, Int.reduceNeg, if_pos, if_neg, hm.1, hm.2.1, hk, e1, ha, v]
    · simp (disch := omega) only [e134_0, e134_1, e134_2, e134_3, e134_5, e134_6, e134_9, e134_12, e134_13, e134_14, e134_15, e134_16, e134_17, e134_20, e134_21, e134_22, e134_23, e134_24, e134_25, e134_28, e134_29, e134_32, e134_35, e134_36, implies_true, Int.reduceSub, Option.isNone_some, Option.isNone_none, ab_bh_some, ab_bh_thr, ab_gs_3, ab_gl_2, ab_gl_3, ab_gt_some, ab_gc_0, ab_gk_0, Bool.false_eq_true, Bool.true_eq_false, false_implies, Nat.reduceEqDiff, ab_ge, ab_lt, ab_le, ab_gt, ab_eq, ab_ne, decide_eq_true_eq, ab_w_id, ab_w0, ab_gd_some, ab_gs_0, ab_gs_1, ab_gl_0, ab_gl_1, ab_bv_some, ab_bu_some, ab_bv_thr, ab_bu_thr, ab_fx_n, ab_fx_i, ab_fx_q, ab_fx_l, ab_sh_si, ab_gr_si, ab_gl_si, cs_n, ↓reduceIte, true_or, or_true, false_or, or_false, and_true, true_and, and_false, false_and, not_true_eq_false, not_false_eq_true, eq_self, Int.reduceEq, Int.reduceLT, Int.reduceLE, Int.reduceAdd, Int.reduceMul, Int.reduceNeg, if_pos, if_neg, hm.1, hm.2.1, hk, e1, ha, v]
theorem n134 {dd : Nat} {D S : Int} {h : ab_H} {b a : Nat} {st : Int → Int} (hm : mL h b D S) (hK : pk_ok (mKK h)) (e1 : ab_gi h 18 1 = D) (hD : 0 ≤ D) (hD5 : D ≤ 5) (ha : (ab_sh h)[a]? = some (0, D.toNat)) (hst : ∀ d, 0 ≤ d → d < D → ab_gi h a d = st d ∧ 0 ≤ st d ∧ st d ≤ 200) :
    ab_E B dd 134 0 [some (.inr (.inr (.inl (some 18)))), some (.inr (.inr (.inl (some a)))), none, none] [] h = some (.inl (some (.inl (pk_end (mKK h) D st))), h) := by
  unfold pk_end
  rw [← n134_loop (B := B) (dd := dd) hm hK e1 hD5 ha hst D.toNat 0 0 (by omega) (by omega) (by omega) (by omega)]
  simp (disch := omega) only [e134_0, e134_1, e134_2, e134_3, e134_5, e134_6, e134_9, e134_12, e134_13, e134_14, e134_15, e134_16, e134_17, e134_20, e134_21, e134_22, e134_23, e134_24, e134_25, e134_28, e134_29, e134_32, e134_35, e134_36, implies_true, Int.reduceSub, Option.isNone_some, Option.isNone_none, ab_bh_some, ab_bh_thr, ab_gs_3, ab_gl_2, ab_gl_3, ab_gt_some, ab_gc_0, ab_gk_0, Bool.false_eq_true, Bool.true_eq_false, false_implies, Nat.reduceEqDiff, ab_ge, ab_lt, ab_le, ab_gt, ab_eq, ab_ne, decide_eq_true_eq, ab_w_id, ab_w0, ab_gd_some, ab_gs_0, ab_gs_1, ab_gl_0, ab_gl_1, ab_bv_some, ab_bu_some, ab_bv_thr, ab_bu_thr, ab_fx_n, ab_fx_i, ab_fx_q, ab_fx_l, ab_sh_si, ab_gr_si, ab_gl_si, cs_n, ↓reduceIte, true_or, or_true, false_or, or_false, and_true, true_and, and_false, false_and, not_true_eq_false, not_false_eq_true, eq_self, Int.reduceEq, Int.reduceLT, Int.reduceLE, Int.reduceAdd, Int.reduceMul, Int.reduceNeg, if_pos, if_neg]
/-! what is made new -/
theorem ab_n_fil (h : ab_H) (c : Nat) (f : Int → Int) : ab_n (ab_fil h c f) = ab_n h := rfl
theorem ab_si_si (h : ab_H) (c : Nat) (k v w : Int) : ab_si (ab_si h c k v) c k w = ab_si h c k w := by
  unfold ab_si
  refine Prod.ext (funext fun c' => funext fun x => ?_) rfl
  by_cases q : c' = c ∧ x = k
  · simp only [if_pos q]
  · simp only [if_neg q]
/-- what was there of the cells below N stays, but for the rows sa and so -/
def qF (N sa so : Nat) (h h' : ab_H) (k s : Nat) : Prop := (∃ l, ab_sh h' = ab_sh h ++ l) ∧ (∀ c x, c < N → c ≠ sa → c ≠ so → ab_gi h' c x = ab_gi h c x) ∧ (∀ c x, c < N → ab_gr h' c x = ab_gr h c x) ∧ ab_gl h' 30 0 = ab_gl h 30 0 ∧ ab_kc h' ≤ ab_kc h + k ∧ ab_ks h' ≤ ab_ks h + s
theorem qF.rf {N sa so : Nat} {h : ab_H} {k s : Nat} : qF N sa so h h k s := ⟨⟨[], by simp⟩, fun _ _ _ _ _ => rfl, fun _ _ _ => rfl, rfl, Nat.le_add_right _ _, Nat.le_add_right _ _⟩
theorem qF.trans {N sa so : Nat} {h h' h2 : ab_H} {k s k' s' : Nat} (a : qF N sa so h h' k s) (b : qF N sa so h' h2 k' s') : qF N sa so h h2 (k + k') (s + s') := by
  obtain ⟨⟨l, a1⟩, a2, a3, a4, a5, a6⟩ := a
  obtain ⟨⟨l', b1⟩, b2, b3, b4, b5, b6⟩ := b
  exact ⟨⟨l ++ l', by rw [b1, a1, List.append_assoc]⟩, fun c x h1 h2 h3 => (b2 c x h1 h2 h3).trans (a2 c x h1 h2 h3), fun c x h1 => (b3 c x h1).trans (a3 c x h1), b4.trans a4, by omega, by omega⟩
theorem qF.weak {N N' sa so : Nat} {h h' : ab_H} {k s : Nat} (a : qF N sa so h h' k s) (hN : N' ≤ N) : qF N' sa so h h' k s := ⟨a.1, fun c x q => a.2.1 c x (by omega), fun c x q => a.2.2.1 c x (by omega), a.2.2.2⟩
theorem qF.mono {N sa so : Nat} {h h' : ab_H} {k s k' s' : Nat} (a : qF N sa so h h' k s) (hk : k ≤ k') (hs : s ≤ s') : qF N sa so h h' k' s' := ⟨a.1, a.2.1, a.2.2.1, a.2.2.2.1, by have := a.2.2.2.2.1; omega, by have := a.2.2.2.2.2; omega⟩
theorem qF.sh {N sa so : Nat} {h h' : ab_H} {k s : Nat} (a : qF N sa so h h' k s) : ∀ (i : Nat) (x : Nat × Nat), (ab_sh h)[i]? = some x → (ab_sh h')[i]? = some x := fun _ _ q => by
  obtain ⟨l, e⟩ := a.1
  exact ab_sh_pre e q
theorem qF.n {N sa so : Nat} {h h' : ab_H} {k s : Nat} (a : qF N sa so h h' k s) : ab_n h ≤ ab_n h' := by
  obtain ⟨l, e⟩ := a.1
  unfold ab_n
  rw [e, List.length_append]
  omega
theorem qF.sa {N sa so : Nat} {h : ab_H} {x v : Int} : qF N sa so h (ab_si h sa x v) 0 0 := ⟨⟨[], by simp [ab_sh_si]⟩, fun c y _ h2 _ => by rw [ab_gi_si, if_neg (fun q => h2 q.1)], fun _ _ _ => rfl, rfl, Nat.le_refl _, Nat.le_refl _⟩
theorem qF.so {N sa so : Nat} {h : ab_H} {x v : Int} : qF N sa so h (ab_si h so x v) 0 0 := ⟨⟨[], by simp [ab_sh_si]⟩, fun c y _ _ h3 => by rw [ab_gi_si, if_neg (fun q => h3 q.1)], fun _ _ _ => rfl, rfl, Nat.le_refl _, Nat.le_refl _⟩
/-- a plan that lies in new cells -/
def qX (h : ab_H) (N : Nat) (D : Int) (r : Option Nat) (c : pk_X) : Prop := match c with
  | none => r = none
  | some y => ∃ kc k0 k1, r = some kc ∧ (N ≤ kc ∧ N ≤ k0 ∧ N ≤ k1) ∧ ((ab_sh h)[kc]? = some (2, 2) ∧ (ab_sh h)[k0]? = some (0, D.toNat) ∧ (ab_sh h)[k1]? = some (0, D.toNat)) ∧ (ab_gr h kc 0 = some k0 ∧ ab_gr h kc 1 = some k1) ∧ (∀ d, 0 ≤ d → d < D → ab_gi h k0 d = y.1 d ∧ ab_gi h k1 (y.2 d) = d) ∧ (∀ k, 0 ≤ k → k < D → 0 ≤ ab_gi h k1 k ∧ ab_gi h k1 k < D ∧ y.2 (ab_gi h k1 k) = k)
theorem qX.keep {h h' : ab_H} {N sa so : Nat} {D : Int} {r : Option Nat} {c : pk_X} {k s : Nat} (m : qX h N D r c) (f : qF (ab_n h) sa so h h' k s) (h1 : sa < N) (h2 : so < N) : qX h' N D r c := by
  cases c with
  | none => exact m
  | some y =>
    obtain ⟨kc, k0, k1, m1, ⟨a1, a2, a3⟩, ⟨s1, s2, s3⟩, ⟨r1, r2⟩, m5, m6⟩ := m
    have f0 := fun x => f.2.1 k0 x (ab_sh_lt s2) (by omega) (by omega)
    have f1 := fun x => f.2.1 k1 x (ab_sh_lt s3) (by omega) (by omega)
    refine ⟨kc, k0, k1, m1, ⟨a1, a2, a3⟩, ⟨f.sh _ _ s1, f.sh _ _ s2, f.sh _ _ s3⟩, ⟨?_, ?_⟩, fun d d1 d2 => ?_, fun k k1 k2 => ?_⟩
    · rw [f.2.2.1 kc 0 (ab_sh_lt s1)]; exact r1
    · rw [f.2.2.1 kc 1 (ab_sh_lt s1)]; exact r2
    · rw [f0, f1]; exact m5 d d1 d2
    · rw [f1]; exact m6 k k1 k2
theorem qX.weak {h : ab_H} {N N' : Nat} {D : Int} {r : Option Nat} {c : pk_X} (m : qX h N D r c) (hN : N' ≤ N) : qX h N' D r c := by
  cases c with
  | none => exact m
  | some y =>
    obtain ⟨kc, k0, k1, m1, ⟨a1, a2, a3⟩, m3⟩ := m
    exact ⟨kc, k0, k1, m1, ⟨by omega, by omega, by omega⟩, m3⟩
theorem qX.mX {h : ab_H} {N b : Nat} {D : Int} {r : Option Nat} {c : pk_X} (m : qX h N D r c) (h1 : b + 4 + 2 * D.toNat < N) (h2 : 31 ≤ N) : mX h b D r c := by
  cases c with
  | none => exact m
  | some y =>
    obtain ⟨kc, k0, k1, m1, ⟨a1, a2, a3⟩, m3⟩ := m
    exact ⟨kc, k0, k1, m1, ⟨⟨by omega, by omega⟩, ⟨by omega, by omega⟩, by omega, by omega⟩, m3⟩
end
