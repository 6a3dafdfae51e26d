set_option linter.all false
/-! THE RACK: what changes it -/
section
variable {B : ab_B}
theorem cs_lay_gi {h : ab_H} {d s v : Int} {c : Nat} {k : Int} (h2 : c ≠ 2) (h3 : c ≠ 3) : ab_gi (cs_lay h d s v) c k = ab_gi h c k := by
  unfold cs_lay
  split
  · rfl
  · rw [ab_gi_si, if_neg (fun q => h3 q.1), ab_gi_si, if_neg (fun q => h2 q.1)]
theorem cs_lay_L {h : ab_H} {d s v : Int} (hL : cs_L h) : cs_L (cs_lay h d s v) := by
  unfold cs_lay
  split
  · exact hL
  · exact hL
theorem cs_R_si2 {h : ab_H} {k v : Int} (hR : cs_R h) (v1 : 0 ≤ v) (v2 : v ≤ 255) : cs_R (ab_si h 2 k v) := by
  obtain ⟨hL, hDS, hV, hF⟩ := hR
  refine ⟨hL, ?_, fun i h1 h2 => ?_, fun d => ?_⟩
  · simp only [ab_gi_si, Nat.reduceEqDiff, false_and, ↓reduceIte]; exact hDS
  · have := hV i h1 h2
    simp only [ab_gi_si, Nat.reduceEqDiff, false_and, true_and, ↓reduceIte]
    split <;> omega
  · simp only [ab_gi_si, Nat.reduceEqDiff, false_and, ↓reduceIte]; exact hF d
theorem cs_R_si3 {h : ab_H} {k v : Int} (hR : cs_R h) (v1 : -1 ≤ v) (v2 : v ≤ 255) : cs_R (ab_si h 3 k v) := by
  obtain ⟨hL, hDS, hV, hF⟩ := hR
  refine ⟨hL, ?_, fun i h1 h2 => ?_, fun d => ?_⟩
  · simp only [ab_gi_si, Nat.reduceEqDiff, false_and, ↓reduceIte]; exact hDS
  · have := hV i h1 h2
    simp only [ab_gi_si, Nat.reduceEqDiff, false_and, true_and, ↓reduceIte]
    split <;> omega
  · simp only [ab_gi_si, Nat.reduceEqDiff, false_and, ↓reduceIte]; exact hF d
theorem cs_R_si4 {h : ab_H} {k v : Int} (hR : cs_R h) (v1 : 0 ≤ v) (v2 : v ≤ 255) : cs_R (ab_si h 4 k v) := by
  obtain ⟨hL, hDS, hV, hF⟩ := hR
  refine ⟨hL, ?_, fun i h1 h2 => ?_, fun d => ?_⟩
  · simp only [ab_gi_si, Nat.reduceEqDiff, false_and, ↓reduceIte]; exact hDS
  · have := hV i h1 h2
    simp only [ab_gi_si, Nat.reduceEqDiff, false_and, true_and, ↓reduceIte]
    split <;> omega
  · simp only [ab_gi_si, Nat.reduceEqDiff, false_and, ↓reduceIte]; exact hF d
theorem cs_R_si5 {h : ab_H} {k v : Int} (hR : cs_R h) (v1 : v = 0 ∨ v = 1) : cs_R (ab_si h 5 k v) := by
  obtain ⟨hL, hDS, hV, hF⟩ := hR
  refine ⟨hL, ?_, fun i h1 h2 => ?_, fun d => ?_⟩
  · simp only [ab_gi_si, Nat.reduceEqDiff, false_and, ↓reduceIte]; exact hDS
  · have := hV i h1 h2
    simp only [ab_gi_si, Nat.reduceEqDiff, false_and, ↓reduceIte]
    exact this
  · have := hF d
    simp only [ab_gi_si, true_and]
    split <;> omega
theorem cs_R_six {h : ab_H} {c : Nat} {k v : Int} (hR : cs_R h) (h1 : c ≠ 1) (h2 : c ≠ 2) (h3 : c ≠ 3) (h4 : c ≠ 4) (h5 : c ≠ 5) : cs_R (ab_si h c k v) := by
  obtain ⟨hL, hDS, hV, hF⟩ := hR
  have e : ∀ c' k', c' ≠ c → ab_gi (ab_si h c k v) c' k' = ab_gi h c' k' := fun c' k' hc => by rw [ab_gi_si, if_neg (fun q => hc q.1)]
  refine ⟨hL, ?_, fun i q1 q2 => ?_, fun d => ?_⟩
  · rw [e 1 0 (Ne.symm h1), e 1 1 (Ne.symm h1)]; exact hDS
  · rw [e 2 i (Ne.symm h2), e 3 i (Ne.symm h3), e 4 i (Ne.symm h4)]; exact hV i q1 q2
  · rw [e 5 d (Ne.symm h5)]; exact hF d
theorem cs_R_lay {h : ab_H} {d s v : Int} (hR : cs_R h) (v1 : 0 ≤ v) (v2 : v ≤ 255) : cs_R (cs_lay h d s v) := by
  unfold cs_lay
  split
  · exact hR
  · exact cs_R_si3 (cs_R_si2 hR v1 v2) (by omega) (by omega)
theorem cs_xo_rng {h : ab_H} {d s : Int} (hR : cs_R h) (h3 : 0 ≤ s) (h4 : s < ab_gi h 1 1) : 0 ≤ cs_xo h d s ∧ cs_xo h d s ≤ 255 := by
  unfold cs_xo
  have key : ∀ (k : Nat) (acc i : Int), 0 ≤ acc → acc ≤ 255 → 0 ≤ i → i + k ≤ 5 → 0 ≤ cs_xf (fun o => if o = d then 0 else ab_gi h 2 (o * 8 + s)) acc i k ∧ cs_xf (fun o => if o = d then 0 else ab_gi h 2 (o * 8 + s)) acc i k ≤ 255 := by
    intro k
    induction k with
    | zero => intro acc i q1 q2 _ _; exact ⟨q1, q2⟩
    | succ k ih =>
      intro acc i q1 q2 q3 q4
      have hS := hR.2.1
      have hv := hR.2.2.1 (i * 8 + s) (by omega) (by omega)
      have hr : 0 ≤ (if i = d then 0 else ab_gi h 2 (i * 8 + s)) ∧ (if i = d then 0 else ab_gi h 2 (i * 8 + s)) ≤ 255 := by split <;> omega
      have hx := ab_ixor_rng q1 q2 hr.1 hr.2
      exact ih _ _ hx.1 hx.2 (by omega) (by omega)
  have hD := hR.2.1
  exact key _ 0 0 (by omega) (by omega) (by omega) (by omega)
/-- the first bad cell from disk i on that can be mended is -/
def cs_mf (h : ab_H) (s : Int) : Int → Nat → Int × ab_H
  | _, 0 => (0, h)
  | i, k + 1 => if cs_b h i s = 1 ∧ ab_gi h 5 i = 0 then (1, cs_lay h i s (cs_xo h i s)) else cs_mf h s (i + 1) k
def cs_mend (h : ab_H) (s : Int) : Int × ab_H := if cs_bc h s = 1 then cs_mf h s 0 (ab_gi h 1 0).toNat else (0, h)
theorem m27_loop {dd : Nat} {h : ab_H} {s : Int} (hR : cs_R h) (h3 : 0 ≤ s) (h4 : s < ab_gi h 1 1) : ∀ (k : Nat) (i : Int), 0 ≤ i → i + k = ab_gi h 1 0 →
    ab_E B (dd + 3) 27 13 [some (.inr (.inr (.inl (some 1)))), some (.inl s), some (.inl i)] [] h = some (.inl (some (.inl (cs_mf h s i k).1)), (cs_mf h s i k).2)
  | 0, i, q1, q2 => by
    have hL := hR.1
    have hDS := hR.2.1
    rw [e27_13]
    simp (disch := omega) only [e27_0, e27_1, e27_2, e27_5, e27_6, e27_9, e27_10, e27_11, e27_12, e27_14, e27_15, e27_18, e27_21, e27_22, e27_23, e27_24, e27_27, e27_30, e27_31, e27_32, e27_35, e27_38, e27_39, e27_40, e27_41, e27_42, e27_43, e27_44, e27_47, e27_50, e27_51, e27_52, e27_55, e27_58, e27_59, implies_true, Int.reduceSub, Option.isNone_some, Option.isNone_none, ab_bh_some, ab_bh_thr, ab_gs_3, ab_gl_2, ab_gl_3, ab_gt_some, ab_gc_0, ab_gk_0, Bool.false_eq_true, Bool.true_eq_false, false_implies, Nat.reduceEqDiff, ab_ge, ab_lt, ab_le, ab_gt, ab_eq, ab_ne, decide_eq_true_eq, ab_w_id, ab_w0, ab_gd_some, ab_gs_0, ab_gs_1, ab_gl_0, ab_gl_1, ab_bv_some, ab_bu_some, ab_bv_thr, ab_bu_thr, ab_fx_n, ab_fx_i, ab_fx_q, ab_fx_l, ab_sh_si, ab_gr_si, ab_gl_si, cs_n, ↓reduceIte, true_or, or_true, false_or, or_false, and_true, true_and, and_false, false_and, not_true_eq_false, not_false_eq_true, eq_self, Int.reduceEq, Int.reduceLT, Int.reduceLE, Int.reduceAdd, Int.reduceMul, Int.reduceNeg, if_pos, if_neg, hL.1, hL.2]
    rfl
  | k + 1, i, q1, q2 => by
    have hL := hR.1
    have hDS := hR.2.1
    have hF := hR.2.2.2 i
    have hx := cs_xo_rng (d := i) hR h3 h4
    rw [e27_13]
    unfold cs_mf
    rcases cs_b01 h i s with hb | hb
    · simp (disch := omega) only [e27_0, e27_1, e27_2, e27_5, e27_6, e27_9, e27_10, e27_11, e27_12, e27_14, e27_15, e27_18, e27_21, e27_22, e27_23, e27_24, e27_27, e27_30, e27_31, e27_32, e27_35, e27_38, e27_39, e27_40, e27_41, e27_42, e27_43, e27_44, e27_47, e27_50, e27_51, e27_52, e27_55, e27_58, e27_59, implies_true, Int.reduceSub, Option.isNone_some, Option.isNone_none, ab_bh_some, ab_bh_thr, ab_gs_3, ab_gl_2, ab_gl_3, ab_gt_some, ab_gc_0, ab_gk_0, Bool.false_eq_true, Bool.true_eq_false, false_implies, Nat.reduceEqDiff, ab_ge, ab_lt, ab_le, ab_gt, ab_eq, ab_ne, decide_eq_true_eq, ab_w_id, ab_w0, ab_gd_some, ab_gs_0, ab_gs_1, ab_gl_0, ab_gl_1, ab_bv_some, ab_bu_some, ab_bv_thr, ab_bu_thr, ab_fx_n, ab_fx_i, ab_fx_q, ab_fx_l, ab_sh_si, ab_gr_si, ab_gl_si, cs_n, ↓reduceIte, true_or, or_true, false_or, or_false, and_true, true_and, and_false, false_and, not_true_eq_false, not_false_eq_true, eq_self, Int.reduceEq, Int.reduceLT, Int.reduceLE, Int.reduceAdd, Int.reduceMul, Int.reduceNeg, if_pos, if_neg, hL.1, hL.2, m15 hR q1 (show i < ab_gi h 1 0 by omega) h3 h4, hb]
      exact m27_loop hR h3 h4 k (i + 1) (by omega) (by omega)
    · rcases hF with hf | hf
      · simp (disch := omega) only [e27_0, e27_1, e27_2, e27_5, e27_6, e27_9, e27_10, e27_11, e27_12, e27_14, e27_15, e27_18, e27_21, e27_22, e27_23, e27_24, e27_27, e27_30, e27_31, e27_32, e27_35, e27_38, e27_39, e27_40, e27_41, e27_42, e27_43, e27_44, e27_47, e27_50, e27_51, e27_52, e27_55, e27_58, e27_59, implies_true, Int.reduceSub, Option.isNone_some, Option.isNone_none, ab_bh_some, ab_bh_thr, ab_gs_3, ab_gl_2, ab_gl_3, ab_gt_some, ab_gc_0, ab_gk_0, Bool.false_eq_true, Bool.true_eq_false, false_implies, Nat.reduceEqDiff, ab_ge, ab_lt, ab_le, ab_gt, ab_eq, ab_ne, decide_eq_true_eq, ab_w_id, ab_w0, ab_gd_some, ab_gs_0, ab_gs_1, ab_gl_0, ab_gl_1, ab_bv_some, ab_bu_some, ab_bv_thr, ab_bu_thr, ab_fx_n, ab_fx_i, ab_fx_q, ab_fx_l, ab_sh_si, ab_gr_si, ab_gl_si, cs_n, ↓reduceIte, true_or, or_true, false_or, or_false, and_true, true_and, and_false, false_and, not_true_eq_false, not_false_eq_true, eq_self, Int.reduceEq, Int.reduceLT, Int.reduceLE, Int.reduceAdd, Int.reduceMul, Int.reduceNeg, if_pos, if_neg, hL.1, hL.2, m15 hR q1 (show i < ab_gi h 1 0 by omega) h3 h4, hb, m13 hL q1 (show i < 5 by omega) (Or.inl hf), hf, m25 hR q1 (show i < ab_gi h 1 0 by omega) h3 h4, m26 hL (show ab_gi h 1 0 ≤ 5 by omega) (show ab_gi h 1 1 ≤ 8 by omega) (Or.inl hf) q1 (show i < ab_gi h 1 0 by omega) h3 h4 hx.1 hx.2]
      · simp (disch := omega) only [e27_0, e27_1, e27_2, e27_5, e27_6, e27_9, e27_10, e27_11, e27_12, e27_14, e27_15, e27_18, e27_21, e27_22, e27_23, e27_24, e27_27, e27_30, e27_31, e27_32, e27_35, e27_38, e27_39, e27_40, e27_41, e27_42, e27_43, e27_44, e27_47, e27_50, e27_51, e27_52, e27_55, e27_58, e27_59, implies_true, Int.reduceSub, Option.isNone_some, Option.isNone_none, ab_bh_some, ab_bh_thr, ab_gs_3, ab_gl_2, ab_gl_3, ab_gt_some, ab_gc_0, ab_gk_0, Bool.false_eq_true, Bool.true_eq_false, false_implies, Nat.reduceEqDiff, ab_ge, ab_lt, ab_le, ab_gt, ab_eq, ab_ne, decide_eq_true_eq, ab_w_id, ab_w0, ab_gd_some, ab_gs_0, ab_gs_1, ab_gl_0, ab_gl_1, ab_bv_some, ab_bu_some, ab_bv_thr, ab_bu_thr, ab_fx_n, ab_fx_i, ab_fx_q, ab_fx_l, ab_sh_si, ab_gr_si, ab_gl_si, cs_n, ↓reduceIte, true_or, or_true, false_or, or_false, and_true, true_and, and_false, false_and, not_true_eq_false, not_false_eq_true, eq_self, Int.reduceEq, Int.reduceLT, Int.reduceLE, Int.reduceAdd, Int.reduceMul, Int.reduceNeg, if_pos, if_neg, hL.1, hL.2, m15 hR q1 (show i < ab_gi h 1 0 by omega) h3 h4, hb, m13 hL q1 (show i < 5 by omega) (Or.inr hf), hf]
        exact m27_loop hR h3 h4 k (i + 1) (by omega) (by omega)
theorem m27 {dd : Nat} {h : ab_H} {s : Int} (hR : cs_R h) (h3 : 0 ≤ s) (h4 : s < ab_gi h 1 1) :
    ab_E B (dd + 3) 27 0 [some (.inr (.inr (.inl (some 1)))), some (.inl s), none] [] h = some (.inl (some (.inl (cs_mend h s).1)), (cs_mend h s).2) := by
  have hL := hR.1
  have hDS := hR.2.1
  have hbc := cs_bc_le hR s
  unfold cs_mend
  by_cases c : cs_bc h s = 1
  · simp (disch := omega) only [e27_0, e27_1, e27_2, e27_5, e27_6, e27_9, e27_10, e27_11, e27_12, e27_14, e27_15, e27_18, e27_21, e27_22, e27_23, e27_24, e27_27, e27_30, e27_31, e27_32, e27_35, e27_38, e27_39, e27_40, e27_41, e27_42, e27_43, e27_44, e27_47, e27_50, e27_51, e27_52, e27_55, e27_58, e27_59, implies_true, Int.reduceSub, Option.isNone_some, Option.isNone_none, ab_bh_some, ab_bh_thr, ab_gs_3, ab_gl_2, ab_gl_3, ab_gt_some, ab_gc_0, ab_gk_0, Bool.false_eq_true, Bool.true_eq_false, false_implies, Nat.reduceEqDiff, ab_ge, ab_lt, ab_le, ab_gt, ab_eq, ab_ne, decide_eq_true_eq, ab_w_id, ab_w0, ab_gd_some, ab_gs_0, ab_gs_1, ab_gl_0, ab_gl_1, ab_bv_some, ab_bu_some, ab_bv_thr, ab_bu_thr, ab_fx_n, ab_fx_i, ab_fx_q, ab_fx_l, ab_sh_si, ab_gr_si, ab_gl_si, cs_n, ↓reduceIte, true_or, or_true, false_or, or_false, and_true, true_and, and_false, false_and, not_true_eq_false, not_false_eq_true, eq_self, Int.reduceEq, Int.reduceLT, Int.reduceLE, Int.reduceAdd, Int.reduceMul, Int.reduceNeg, if_pos, if_neg, hL.1, hL.2, m17 hR h3 h4, c]
    rw [m27_loop hR h3 h4 (ab_gi h 1 0).toNat 0 (by omega) (by omega)]
  · simp (disch := omega) only [e27_0, e27_1, e27_2, e27_5, e27_6, e27_9, e27_10, e27_11, e27_12, e27_14, e27_15, e27_18, e27_21, e27_22, e27_23, e27_24, e27_27, e27_30, e27_31, e27_32, e27_35, e27_38, e27_39, e27_40, e27_41, e27_42, e27_43, e27_44, e27_47, e27_50, e27_51, e27_52, e27_55, e27_58, e27_59, implies_true, Int.reduceSub, Option.isNone_some, Option.isNone_none, ab_bh_some, ab_bh_thr, ab_gs_3, ab_gl_2, ab_gl_3, ab_gt_some, ab_gc_0, ab_gk_0, Bool.false_eq_true, Bool.true_eq_false, false_implies, Nat.reduceEqDiff, ab_ge, ab_lt, ab_le, ab_gt, ab_eq, ab_ne, decide_eq_true_eq, ab_w_id, ab_w0, ab_gd_some, ab_gs_0, ab_gs_1, ab_gl_0, ab_gl_1, ab_bv_some, ab_bu_some, ab_bv_thr, ab_bu_thr, ab_fx_n, ab_fx_i, ab_fx_q, ab_fx_l, ab_sh_si, ab_gr_si, ab_gl_si, cs_n, ↓reduceIte, true_or, or_true, false_or, or_false, and_true, true_and, and_false, false_and, not_true_eq_false, not_false_eq_true, eq_self, Int.reduceEq, Int.reduceLT, Int.reduceLE, Int.reduceAdd, Int.reduceMul, Int.reduceNeg, if_pos, if_neg, hL.1, hL.2, m17 hR h3 h4, c]
theorem m28 {dd : Nat} {h : ab_H} {d : Int} (hR : cs_R h) (h1 : 0 ≤ d) (h2 : d < ab_gi h 1 0) :
    ab_E B (dd + 1) 28 0 [some (.inr (.inr (.inl (some 1)))), some (.inl d)] [] h = some (.inl none, ab_si h 5 d 1) := by
  have hL := hR.1
  have hDS := hR.2.1
  simp (disch := omega) only [e28_0, e28_1, e28_2, e28_5, e28_8, e28_9, e28_12, e28_13, e28_14, e28_15, implies_true, Int.reduceSub, Option.isNone_some, Option.isNone_none, ab_bh_some, ab_bh_thr, ab_gs_3, ab_gl_2, ab_gl_3, ab_gt_some, ab_gc_0, ab_gk_0, Bool.false_eq_true, Bool.true_eq_false, false_implies, Nat.reduceEqDiff, ab_ge, ab_lt, ab_le, ab_gt, ab_eq, ab_ne, decide_eq_true_eq, ab_w_id, ab_w0, ab_gd_some, ab_gs_0, ab_gs_1, ab_gl_0, ab_gl_1, ab_bv_some, ab_bu_some, ab_bv_thr, ab_bu_thr, ab_fx_n, ab_fx_i, ab_fx_q, ab_fx_l, ab_sh_si, ab_gr_si, ab_gl_si, cs_n, ↓reduceIte, true_or, or_true, false_or, or_false, and_true, true_and, and_false, false_and, not_true_eq_false, not_false_eq_true, eq_self, Int.reduceEq, Int.reduceLT, Int.reduceLE, Int.reduceAdd, Int.reduceMul, Int.reduceNeg, if_pos, if_neg, hL.1, hL.2, m2 hR (show -2147483648 ≤ d by omega) (show d < 2147483648 by omega)]
/-- a disk's cells from the stripe i on hold 0 and no mark -/
def cs_wipe (d : Int) : ab_H → Int → Nat → ab_H
  | h, _, 0 => h
  | h, i, k + 1 => cs_wipe d (ab_si (ab_si h 2 (d * 8 + i) 0) 3 (d * 8 + i) (-1)) (i + 1) k
theorem m29_loop {dd : Nat} {d D S : Int} (h1 : 0 ≤ d) (h2 : d < D) (hD5 : D ≤ 5) (hS8 : S ≤ 8) {o3 : Option ab_V} : ∀ (k : Nat) (h : ab_H) (i : Int) (o3 : Option ab_V), cs_L h → ab_gi h 1 0 = D → ab_gi h 1 1 = S → 0 ≤ i → i + k = S →
    ab_E B (dd + 1) 29 28 [some (.inr (.inr (.inl (some 1)))), some (.inl d), some (.inl i), o3] [] h = some (.inl none, cs_wipe d h i k)
  | 0, h, i, o3, hL, eD, eS, q1, q2 => by
    rw [e29_28]
    simp (disch := omega) only [e29_0, e29_1, e29_2, e29_5, e29_8, e29_9, e29_10, e29_13, e29_14, e29_15, e29_16, e29_17, e29_20, e29_21, e29_22, e29_23, e29_24, e29_25, e29_26, e29_27, e29_29, e29_30, e29_33, e29_36, e29_37, e29_38, e29_39, e29_42, e29_43, e29_44, e29_45, e29_48, e29_49, e29_52, e29_53, e29_54, e29_55, e29_56, e29_59, e29_60, e29_61, e29_62, e29_65, e29_68, implies_true, Int.reduceSub, Option.isNone_some, Option.isNone_none, ab_bh_some, ab_bh_thr, ab_gs_3, ab_gl_2, ab_gl_3, ab_gt_some, ab_gc_0, ab_gk_0, Bool.false_eq_true, Bool.true_eq_false, false_implies, Nat.reduceEqDiff, ab_ge, ab_lt, ab_le, ab_gt, ab_eq, ab_ne, decide_eq_true_eq, ab_w_id, ab_w0, ab_gd_some, ab_gs_0, ab_gs_1, ab_gl_0, ab_gl_1, ab_bv_some, ab_bu_some, ab_bv_thr, ab_bu_thr, ab_fx_n, ab_fx_i, ab_fx_q, ab_fx_l, ab_sh_si, ab_gr_si, ab_gl_si, cs_n, ↓reduceIte, true_or, or_true, false_or, or_false, and_true, true_and, and_false, false_and, not_true_eq_false, not_false_eq_true, eq_self, Int.reduceEq, Int.reduceLT, Int.reduceLE, Int.reduceAdd, Int.reduceMul, Int.reduceNeg, if_pos, if_neg, hL.1, hL.2]
    rfl
  | k + 1, h, i, o3, hL, eD, eS, q1, q2 => by
    rw [e29_28]
    simp (disch := omega) only [e29_0, e29_1, e29_2, e29_5, e29_8, e29_9, e29_10, e29_13, e29_14, e29_15, e29_16, e29_17, e29_20, e29_21, e29_22, e29_23, e29_24, e29_25, e29_26, e29_27, e29_29, e29_30, e29_33, e29_36, e29_37, e29_38, e29_39, e29_42, e29_43, e29_44, e29_45, e29_48, e29_49, e29_52, e29_53, e29_54, e29_55, e29_56, e29_59, e29_60, e29_61, e29_62, e29_65, e29_68, implies_true, Int.reduceSub, Option.isNone_some, Option.isNone_none, ab_bh_some, ab_bh_thr, ab_gs_3, ab_gl_2, ab_gl_3, ab_gt_some, ab_gc_0, ab_gk_0, Bool.false_eq_true, Bool.true_eq_false, false_implies, Nat.reduceEqDiff, ab_ge, ab_lt, ab_le, ab_gt, ab_eq, ab_ne, decide_eq_true_eq, ab_w_id, ab_w0, ab_gd_some, ab_gs_0, ab_gs_1, ab_gl_0, ab_gl_1, ab_bv_some, ab_bu_some, ab_bv_thr, ab_bu_thr, ab_fx_n, ab_fx_i, ab_fx_q, ab_fx_l, ab_sh_si, ab_gr_si, ab_gl_si, cs_n, ↓reduceIte, true_or, or_true, false_or, or_false, and_true, true_and, and_false, false_and, not_true_eq_false, not_false_eq_true, eq_self, Int.reduceEq, Int.reduceLT, Int.reduceLE, Int.reduceAdd, Int.reduceMul, Int.reduceNeg, if_pos, if_neg, hL.1, hL.2, m35 hL (show ab_gi h 1 0 ≤ 5 by omega) (show ab_gi h 1 1 ≤ 8 by omega) h1 (show d < ab_gi h 1 0 by omega) q1 (show i < ab_gi h 1 1 by omega)]
    exact m29_loop h1 h2 hD5 hS8 (o3 := none) k _ (i + 1) _ hL (by simp only [ab_gi_si, Nat.reduceEqDiff, false_and, ↓reduceIte]; exact eD) (by simp only [ab_gi_si, Nat.reduceEqDiff, false_and, ↓reduceIte]; exact eS) (by omega) (by omega)
/-- a new disk -/
def cs_put (h : ab_H) (d : Int) : ab_H := cs_wipe d (ab_si (ab_si h 5 d 0) 6 d (ab_gi h 6 d + 1)) 0 (ab_gi h 1 1).toNat
theorem m29 {dd : Nat} {h : ab_H} {d : Int} (hR : cs_R h) (h1 : 0 ≤ d) (h2 : d < ab_gi h 1 0) :
    ab_E B (dd + 1) 29 0 [some (.inr (.inr (.inl (some 1)))), some (.inl d), none, none] [] h = some (.inl none, cs_put h d) := by
  have hL := hR.1
  have hDS := hR.2.1
  unfold cs_put
  simp (disch := omega) only [e29_0, e29_1, e29_2, e29_5, e29_8, e29_9, e29_10, e29_13, e29_14, e29_15, e29_16, e29_17, e29_20, e29_21, e29_22, e29_23, e29_24, e29_25, e29_26, e29_27, e29_29, e29_30, e29_33, e29_36, e29_37, e29_38, e29_39, e29_42, e29_43, e29_44, e29_45, e29_48, e29_49, e29_52, e29_53, e29_54, e29_55, e29_56, e29_59, e29_60, e29_61, e29_62, e29_65, e29_68, implies_true, Int.reduceSub, Option.isNone_some, Option.isNone_none, ab_bh_some, ab_bh_thr, ab_gs_3, ab_gl_2, ab_gl_3, ab_gt_some, ab_gc_0, ab_gk_0, Bool.false_eq_true, Bool.true_eq_false, false_implies, Nat.reduceEqDiff, ab_ge, ab_lt, ab_le, ab_gt, ab_eq, ab_ne, decide_eq_true_eq, ab_w_id, ab_w0, ab_gd_some, ab_gs_0, ab_gs_1, ab_gl_0, ab_gl_1, ab_bv_some, ab_bu_some, ab_bv_thr, ab_bu_thr, ab_fx_n, ab_fx_i, ab_fx_q, ab_fx_l, ab_sh_si, ab_gr_si, ab_gl_si, cs_n, ↓reduceIte, true_or, or_true, false_or, or_false, and_true, true_and, and_false, false_and, not_true_eq_false, not_false_eq_true, eq_self, Int.reduceEq, Int.reduceLT, Int.reduceLE, Int.reduceAdd, Int.reduceMul, Int.reduceNeg, if_pos, if_neg, hL.1, hL.2, m2 hR (show -2147483648 ≤ d by omega) (show d < 2147483648 by omega), ab_gi_si, Nat.reduceEqDiff]
  exact m29_loop (D := ab_gi h 1 0) (S := ab_gi h 1 1) h1 h2 (by omega) (by omega) (o3 := none) (ab_gi h 1 1).toNat (ab_si (ab_si h 5 d 0) 6 d (ab_gi h 6 d + 1)) 0 none hL (by simp only [ab_gi_si, Nat.reduceEqDiff, false_and, ↓reduceIte]) (by simp only [ab_gi_si, Nat.reduceEqDiff, false_and, ↓reduceIte]) (by omega) (by omega)
theorem m30 {dd : Nat} {h : ab_H} {d s b : Int} (hR : cs_R h) (h1 : 0 ≤ d) (h2 : d < ab_gi h 1 0) (h3 : 0 ≤ s) (h4 : s < ab_gi h 1 1) :
    ab_E B (dd + 1) 30 0 [some (.inr (.inr (.inl (some 1)))), some (.inl d), some (.inl s), some (.inl b), none] [] h = some (.inl none, ab_si h 2 (d * 8 + s) (ab_ixor (ab_gi h 2 (d * 8 + s)) b)) := by
  have hL := hR.1
  have hDS := hR.2.1
  simp (disch := omega) only [e30_0, e30_1, e30_2, e30_3, e30_6, e30_8, e30_10, e30_11, e30_14, e30_15, e30_18, e30_20, e30_21, e30_22, e30_23, e30_24, e30_25, implies_true, Int.reduceSub, Option.isNone_some, Option.isNone_none, ab_bh_some, ab_bh_thr, ab_gs_3, ab_gl_2, ab_gl_3, ab_gt_some, ab_gc_0, ab_gk_0, Bool.false_eq_true, Bool.true_eq_false, false_implies, Nat.reduceEqDiff, ab_ge, ab_lt, ab_le, ab_gt, ab_eq, ab_ne, decide_eq_true_eq, ab_w_id, ab_w0, ab_gd_some, ab_gs_0, ab_gs_1, ab_gl_0, ab_gl_1, ab_bv_some, ab_bu_some, ab_bv_thr, ab_bu_thr, ab_fx_n, ab_fx_i, ab_fx_q, ab_fx_l, ab_sh_si, ab_gr_si, ab_gl_si, cs_n, ↓reduceIte, true_or, or_true, false_or, or_false, and_true, true_and, and_false, false_and, not_true_eq_false, not_false_eq_true, eq_self, Int.reduceEq, Int.reduceLT, Int.reduceLE, Int.reduceAdd, Int.reduceMul, Int.reduceNeg, if_pos, if_neg, hL.1, hL.2, m35 hL (show ab_gi h 1 0 ≤ 5 by omega) (show ab_gi h 1 1 ≤ 8 by omega) h1 h2 h3 h4]
theorem cs_dk_rng {D b : Int} (hD : 3 ≤ D) (h1 : 0 ≤ b) : 0 ≤ cs_dk D b ∧ cs_dk D b < D := by
  have q1 : 0 ≤ b % (D - 1) := Int.emod_nonneg b (by omega)
  have q2 : b % (D - 1) < D - 1 := Int.emod_lt_of_pos b (by omega)
  unfold cs_dk
  split <;> omega
theorem m31 {dd : Nat} {h : ab_H} {b v : Int} (hR : cs_R h) (hD : 3 ≤ ab_gi h 1 0) (h1 : 0 ≤ b) (h2 : b < 32) (h3 : b / (ab_gi h 1 0 - 1) < ab_gi h 1 1) :
    ab_E B (dd + 2) 31 0 [some (.inr (.inr (.inl (some 1)))), some (.inl b), some (.inl v), none] [] h = some (.inl none, ab_si h 4 (cs_dk (ab_gi h 1 0) b * 8 + b / (ab_gi h 1 0 - 1)) v) := by
  have hL := hR.1
  have hDS := hR.2.1
  have hk := cs_dk_rng hD h1
  have q3 : 0 ≤ b / (ab_gi h 1 0 - 1) := Int.ediv_nonneg h1 (by omega)
  simp (disch := omega) only [e31_0, e31_1, e31_2, e31_3, e31_6, e31_7, e31_8, e31_11, e31_14, e31_15, e31_16, e31_17, e31_20, e31_21, e31_24, e31_25, e31_26, e31_27, implies_true, Int.reduceSub, Option.isNone_some, Option.isNone_none, ab_bh_some, ab_bh_thr, ab_gs_3, ab_gl_2, ab_gl_3, ab_gt_some, ab_gc_0, ab_gk_0, Bool.false_eq_true, Bool.true_eq_false, false_implies, Nat.reduceEqDiff, ab_ge, ab_lt, ab_le, ab_gt, ab_eq, ab_ne, decide_eq_true_eq, ab_w_id, ab_w0, ab_gd_some, ab_gs_0, ab_gs_1, ab_gl_0, ab_gl_1, ab_bv_some, ab_bu_some, ab_bv_thr, ab_bu_thr, ab_fx_n, ab_fx_i, ab_fx_q, ab_fx_l, ab_sh_si, ab_gr_si, ab_gl_si, cs_n, ↓reduceIte, true_or, or_true, false_or, or_false, and_true, true_and, and_false, false_and, not_true_eq_false, not_false_eq_true, eq_self, Int.reduceEq, Int.reduceLT, Int.reduceLE, Int.reduceAdd, Int.reduceMul, Int.reduceNeg, if_pos, if_neg, hL.1, hL.2, m7 hR hD h1 h2, m6 hR hD h1 h2, m35 hL (show ab_gi h 1 0 ≤ 5 by omega) (show ab_gi h 1 1 ≤ 8 by omega) hk.1 hk.2 q3 h3]
end
