set_option linter.all false
/-! THE RACK: counts -/
section
variable {B : ab_B}
/-- f i + f (i + 1) + .., k of them -/
def cs_sf (f : Int → Int) : Int → Nat → Int
  | _, 0 => 0
  | i, k + 1 => f i + cs_sf f (i + 1) k
theorem cs_sf_le {f : Int → Int} (hf : ∀ i, 0 ≤ f i ∧ f i ≤ 5) : ∀ (k : Nat) (i : Int), 0 ≤ cs_sf f i k ∧ cs_sf f i k ≤ 5 * k
  | 0, i => by simp [cs_sf]
  | k + 1, i => by
    have h1 := cs_sf_le hf k (i + 1)
    have h2 := hf i
    simp only [cs_sf]
    omega
theorem cs_sf_1 {f : Int → Int} (hf : ∀ i, 0 ≤ f i ∧ f i ≤ 1) : ∀ (k : Nat) (i : Int), 0 ≤ cs_sf f i k ∧ cs_sf f i k ≤ k
  | 0, i => by simp [cs_sf]
  | k + 1, i => by
    have h1 := cs_sf_1 hf k (i + 1)
    have h2 := hf i
    simp only [cs_sf]
    omega
theorem cs_b01 (h : ab_H) (d s : Int) : cs_b h d s = 0 ∨ cs_b h d s = 1 := by
  unfold cs_b
  split
  · exact Or.inr rfl
  · exact Or.inl rfl
theorem cs_b_le (h : ab_H) (d s : Int) : 0 ≤ cs_b h d s ∧ cs_b h d s ≤ 1 := by rcases cs_b01 h d s with q | q <;> omega
/-- how many cells of a stripe are bad -/
def cs_bc (h : ab_H) (s : Int) : Int := cs_sf (fun d => cs_b h d s) 0 (ab_gi h 1 0).toNat
theorem cs_bc_le {h : ab_H} (hR : cs_R h) (s : Int) : 0 ≤ cs_bc h s ∧ cs_bc h s ≤ 5 := by
  have h1 := cs_sf_1 (fun d => cs_b_le h d s) (ab_gi h 1 0).toNat 0
  have h2 := hR.2.1
  unfold cs_bc
  omega
theorem m17_loop {dd : Nat} {h : ab_H} {s : Int} (hR : cs_R h) (h3 : 0 ≤ s) (h4 : s < ab_gi h 1 1) : ∀ (k : Nat) (i c : Int), 0 ≤ i → i + k = ab_gi h 1 0 →
    ab_E B (dd + 2) 17 4 [some (.inr (.inr (.inl (some 1)))), some (.inl s), some (.inl c), some (.inl i)] [] h = some (.inl (some (.inl (c + cs_sf (fun i => cs_b h i s) i k))), h)
  | 0, i, c, h1, h2 => by
    have hL := hR.1
    have hDS := hR.2.1
    simp (disch := omega) only [e17_0, e17_1, e17_2, e17_3, e17_4, e17_5, e17_6, e17_9, e17_12, e17_13, e17_14, e17_15, e17_16, e17_19, e17_22, e17_23, e17_26, e17_27, e17_28, e17_29, e17_32, e17_35, e17_36, implies_true, Int.reduceSub, Option.isNone_some, Option.isNone_none, ab_bh_some, ab_bh_thr, ab_gs_3, ab_gl_2, ab_gl_3, ab_gt_some, ab_gc_0, ab_gk_0, Bool.false_eq_true, Bool.true_eq_false, false_implies, Nat.reduceEqDiff, ab_ge, ab_lt, ab_le, ab_gt, ab_eq, ab_ne, decide_eq_true_eq, ab_w_id, ab_w0, ab_gd_some, ab_gs_0, ab_gs_1, ab_gl_0, ab_gl_1, ab_bv_some, ab_bu_some, ab_bv_thr, ab_bu_thr, ab_fx_n, ab_fx_i, ab_fx_q, ab_fx_l, ab_sh_si, ab_gr_si, ab_gl_si, cs_n, ↓reduceIte, true_or, or_true, false_or, or_false, and_true, true_and, and_false, false_and, not_true_eq_false, not_false_eq_true, eq_self, Int.reduceEq, Int.reduceLT, Int.reduceLE, Int.reduceAdd, Int.reduceMul, Int.reduceNeg, if_pos, if_neg, hL.1, hL.2, cs_sf, Int.add_zero]
  | k + 1, i, c, h1, h2 => by
    have hL := hR.1
    have hDS := hR.2.1
    rw [e17_4]
    rcases cs_b01 h i s with hb | hb <;>
    · simp (disch := omega) only [e17_0, e17_1, e17_2, e17_3, e17_5, e17_6, e17_9, e17_12, e17_13, e17_14, e17_15, e17_16, e17_19, e17_22, e17_23, e17_26, e17_27, e17_28, e17_29, e17_32, e17_35, e17_36, implies_true, Int.reduceSub, Option.isNone_some, Option.isNone_none, ab_bh_some, ab_bh_thr, ab_gs_3, ab_gl_2, ab_gl_3, ab_gt_some, ab_gc_0, ab_gk_0, Bool.false_eq_true, Bool.true_eq_false, false_implies, Nat.reduceEqDiff, ab_ge, ab_lt, ab_le, ab_gt, ab_eq, ab_ne, decide_eq_true_eq, ab_w_id, ab_w0, ab_gd_some, ab_gs_0, ab_gs_1, ab_gl_0, ab_gl_1, ab_bv_some, ab_bu_some, ab_bv_thr, ab_bu_thr, ab_fx_n, ab_fx_i, ab_fx_q, ab_fx_l, ab_sh_si, ab_gr_si, ab_gl_si, cs_n, ↓reduceIte, true_or, or_true, false_or, or_false, and_true, true_and, and_false, false_and, not_true_eq_false, not_false_eq_true, eq_self, Int.reduceEq, Int.reduceLT, Int.reduceLE, Int.reduceAdd, Int.reduceMul, Int.reduceNeg, if_pos, if_neg, hL.1, hL.2, m15 hR h1 (show i < ab_gi h 1 0 by omega) h3 h4, hb]
      rw [m17_loop hR h3 h4 k (i + 1) _ (by omega) (by omega)]
      simp only [cs_sf, hb, Int.add_assoc]
theorem m17 {dd : Nat} {h : ab_H} {s : Int} (hR : cs_R h) (h3 : 0 ≤ s) (h4 : s < ab_gi h 1 1) :
    ab_E B (dd + 2) 17 0 [some (.inr (.inr (.inl (some 1)))), some (.inl s), none, none] [] h = some (.inl (some (.inl (cs_bc h s))), h) := by
  have hDS := hR.2.1
  simp (disch := omega) only [e17_0, e17_1, e17_2, e17_3, e17_5, e17_6, e17_9, e17_12, e17_13, e17_14, e17_15, e17_16, e17_19, e17_22, e17_23, e17_26, e17_27, e17_28, e17_29, e17_32, e17_35, e17_36, implies_true, Int.reduceSub, Option.isNone_some, Option.isNone_none, ab_bh_some, ab_bh_thr, ab_gs_3, ab_gl_2, ab_gl_3, ab_gt_some, ab_gc_0, ab_gk_0, Bool.false_eq_true, Bool.true_eq_false, false_implies, Nat.reduceEqDiff, ab_ge, ab_lt, ab_le, ab_gt, ab_eq, ab_ne, decide_eq_true_eq, ab_w_id, ab_w0, ab_gd_some, ab_gs_0, ab_gs_1, ab_gl_0, ab_gl_1, ab_bv_some, ab_bu_some, ab_bv_thr, ab_bu_thr, ab_fx_n, ab_fx_i, ab_fx_q, ab_fx_l, ab_sh_si, ab_gr_si, ab_gl_si, cs_n, ↓reduceIte, true_or, or_true, false_or, or_false, and_true, true_and, and_false, false_and, not_true_eq_false, not_false_eq_true, eq_self, Int.reduceEq, Int.reduceLT, Int.reduceLE, Int.reduceAdd, Int.reduceMul, Int.reduceNeg, if_pos, if_neg]
  rw [m17_loop hR h3 h4 (ab_gi h 1 0).toNat 0 0 (by omega) (by omega)]
  simp only [Int.zero_add, cs_bc]
theorem m18_loop {dd : Nat} {h : ab_H} {d : Int} (hR : cs_R h) (h3 : 0 ≤ d) (h4 : d < ab_gi h 1 0) : ∀ (k : Nat) (i c : Int), 0 ≤ i → i + k = ab_gi h 1 1 →
    ab_E B (dd + 2) 18 4 [some (.inr (.inr (.inl (some 1)))), some (.inl d), some (.inl c), some (.inl i)] [] h = some (.inl (some (.inl (c + cs_sf (fun i => cs_b h d i) i k))), h)
  | 0, i, c, h1, h2 => by
    have hL := hR.1
    have hDS := hR.2.1
    simp (disch := omega) only [e18_0, e18_1, e18_2, e18_3, e18_4, e18_5, e18_6, e18_9, e18_12, e18_13, e18_14, e18_15, e18_16, e18_19, e18_22, e18_23, e18_26, e18_27, e18_28, e18_29, e18_32, e18_35, e18_36, implies_true, Int.reduceSub, Option.isNone_some, Option.isNone_none, ab_bh_some, ab_bh_thr, ab_gs_3, ab_gl_2, ab_gl_3, ab_gt_some, ab_gc_0, ab_gk_0, Bool.false_eq_true, Bool.true_eq_false, false_implies, Nat.reduceEqDiff, ab_ge, ab_lt, ab_le, ab_gt, ab_eq, ab_ne, decide_eq_true_eq, ab_w_id, ab_w0, ab_gd_some, ab_gs_0, ab_gs_1, ab_gl_0, ab_gl_1, ab_bv_some, ab_bu_some, ab_bv_thr, ab_bu_thr, ab_fx_n, ab_fx_i, ab_fx_q, ab_fx_l, ab_sh_si, ab_gr_si, ab_gl_si, cs_n, ↓reduceIte, true_or, or_true, false_or, or_false, and_true, true_and, and_false, false_and, not_true_eq_false, not_false_eq_true, eq_self, Int.reduceEq, Int.reduceLT, Int.reduceLE, Int.reduceAdd, Int.reduceMul, Int.reduceNeg, if_pos, if_neg, hL.1, hL.2, cs_sf, Int.add_zero]
  | k + 1, i, c, h1, h2 => by
    have hL := hR.1
    have hDS := hR.2.1
    rw [e18_4]
    rcases cs_b01 h d i with hb | hb <;>
    · simp (disch := omega) only [e18_0, e18_1, e18_2, e18_3, e18_5, e18_6, e18_9, e18_12, e18_13, e18_14, e18_15, e18_16, e18_19, e18_22, e18_23, e18_26, e18_27, e18_28, e18_29, e18_32, e18_35, e18_36, implies_true, Int.reduceSub, Option.isNone_some, Option.isNone_none, ab_bh_some, ab_bh_thr, ab_gs_3, ab_gl_2, ab_gl_3, ab_gt_some, ab_gc_0, ab_gk_0, Bool.false_eq_true, Bool.true_eq_false, false_implies, Nat.reduceEqDiff, ab_ge, ab_lt, ab_le, ab_gt, ab_eq, ab_ne, decide_eq_true_eq, ab_w_id, ab_w0, ab_gd_some, ab_gs_0, ab_gs_1, ab_gl_0, ab_gl_1, ab_bv_some, ab_bu_some, ab_bv_thr, ab_bu_thr, ab_fx_n, ab_fx_i, ab_fx_q, ab_fx_l, ab_sh_si, ab_gr_si, ab_gl_si, cs_n, ↓reduceIte, true_or, or_true, false_or, or_false, and_true, true_and, and_false, false_and, not_true_eq_false, not_false_eq_true, eq_self, Int.reduceEq, Int.reduceLT, Int.reduceLE, Int.reduceAdd, Int.reduceMul, Int.reduceNeg, if_pos, if_neg, hL.1, hL.2, m15 hR h3 h4 h1 (show i < ab_gi h 1 1 by omega), hb]
      rw [m18_loop hR h3 h4 k (i + 1) _ (by omega) (by omega)]
      simp only [cs_sf, hb, Int.add_assoc]
theorem m18 {dd : Nat} {h : ab_H} {d : Int} (hR : cs_R h) (h3 : 0 ≤ d) (h4 : d < ab_gi h 1 0) :
    ab_E B (dd + 2) 18 0 [some (.inr (.inr (.inl (some 1)))), some (.inl d), none, none] [] h = some (.inl (some (.inl (cs_sf (fun i => cs_b h d i) 0 (ab_gi h 1 1).toNat))), h) := by
  have hDS := hR.2.1
  simp (disch := omega) only [e18_0, e18_1, e18_2, e18_3, e18_5, e18_6, e18_9, e18_12, e18_13, e18_14, e18_15, e18_16, e18_19, e18_22, e18_23, e18_26, e18_27, e18_28, e18_29, e18_32, e18_35, e18_36, implies_true, Int.reduceSub, Option.isNone_some, Option.isNone_none, ab_bh_some, ab_bh_thr, ab_gs_3, ab_gl_2, ab_gl_3, ab_gt_some, ab_gc_0, ab_gk_0, Bool.false_eq_true, Bool.true_eq_false, false_implies, Nat.reduceEqDiff, ab_ge, ab_lt, ab_le, ab_gt, ab_eq, ab_ne, decide_eq_true_eq, ab_w_id, ab_w0, ab_gd_some, ab_gs_0, ab_gs_1, ab_gl_0, ab_gl_1, ab_bv_some, ab_bu_some, ab_bv_thr, ab_bu_thr, ab_fx_n, ab_fx_i, ab_fx_q, ab_fx_l, ab_sh_si, ab_gr_si, ab_gl_si, cs_n, ↓reduceIte, true_or, or_true, false_or, or_false, and_true, true_and, and_false, false_and, not_true_eq_false, not_false_eq_true, eq_self, Int.reduceEq, Int.reduceLT, Int.reduceLE, Int.reduceAdd, Int.reduceMul, Int.reduceNeg, if_pos, if_neg]
  rw [m18_loop hR h3 h4 (ab_gi h 1 1).toNat 0 0 (by omega) (by omega)]
  simp only [Int.zero_add]
theorem m19_loop {dd : Nat} {h : ab_H}  (hR : cs_R h)  : ∀ (k : Nat) (i c : Int), 0 ≤ i → i + k = ab_gi h 1 1 →
    ab_E B (dd + 3) 19 4 [some (.inr (.inr (.inl (some 1)))), some (.inl c), some (.inl i)] [] h = some (.inl (some (.inl (c + cs_sf (fun i => cs_bc h i) i k))), h)
  | 0, i, c, h1, h2 => by
    have hL := hR.1
    have hDS := hR.2.1
    simp (disch := omega) only [e19_0, e19_1, e19_2, e19_3, e19_4, e19_5, e19_6, e19_9, e19_12, e19_13, e19_14, e19_15, e19_18, e19_19, e19_20, e19_23, e19_26, e19_27, implies_true, Int.reduceSub, Option.isNone_some, Option.isNone_none, ab_bh_some, ab_bh_thr, ab_gs_3, ab_gl_2, ab_gl_3, ab_gt_some, ab_gc_0, ab_gk_0, Bool.false_eq_true, Bool.true_eq_false, false_implies, Nat.reduceEqDiff, ab_ge, ab_lt, ab_le, ab_gt, ab_eq, ab_ne, decide_eq_true_eq, ab_w_id, ab_w0, ab_gd_some, ab_gs_0, ab_gs_1, ab_gl_0, ab_gl_1, ab_bv_some, ab_bu_some, ab_bv_thr, ab_bu_thr, ab_fx_n, ab_fx_i, ab_fx_q, ab_fx_l, ab_sh_si, ab_gr_si, ab_gl_si, cs_n, ↓reduceIte, true_or, or_true, false_or, or_false, and_true, true_and, and_false, false_and, not_true_eq_false, not_false_eq_true, eq_self, Int.reduceEq, Int.reduceLT, Int.reduceLE, Int.reduceAdd, Int.reduceMul, Int.reduceNeg, if_pos, if_neg, hL.1, hL.2, cs_sf, Int.add_zero]
  | k + 1, i, c, h1, h2 => by
    have hL := hR.1
    have hDS := hR.2.1
    rw [e19_4]
    simp (disch := omega) only [e19_0, e19_1, e19_2, e19_3, e19_5, e19_6, e19_9, e19_12, e19_13, e19_14, e19_15, e19_18, e19_19, e19_20, e19_23, e19_26, e19_27, implies_true, Int.reduceSub, Option.isNone_some, Option.isNone_none, ab_bh_some, ab_bh_thr, ab_gs_3, ab_gl_2, ab_gl_3, ab_gt_some, ab_gc_0, ab_gk_0, Bool.false_eq_true, Bool.true_eq_false, false_implies, Nat.reduceEqDiff, ab_ge, ab_lt, ab_le, ab_gt, ab_eq, ab_ne, decide_eq_true_eq, ab_w_id, ab_w0, ab_gd_some, ab_gs_0, ab_gs_1, ab_gl_0, ab_gl_1, ab_bv_some, ab_bu_some, ab_bv_thr, ab_bu_thr, ab_fx_n, ab_fx_i, ab_fx_q, ab_fx_l, ab_sh_si, ab_gr_si, ab_gl_si, cs_n, ↓reduceIte, true_or, or_true, false_or, or_false, and_true, true_and, and_false, false_and, not_true_eq_false, not_false_eq_true, eq_self, Int.reduceEq, Int.reduceLT, Int.reduceLE, Int.reduceAdd, Int.reduceMul, Int.reduceNeg, if_pos, if_neg, hL.1, hL.2, m17 hR h1 (show i < ab_gi h 1 1 by omega)]
    rw [m19_loop hR k (i + 1) _ (by omega) (by omega)]
    simp only [cs_sf, Int.add_assoc]
theorem m19 {dd : Nat} {h : ab_H}  (hR : cs_R h)  :
    ab_E B (dd + 3) 19 0 [some (.inr (.inr (.inl (some 1)))), none, none] [] h = some (.inl (some (.inl (cs_sf (fun i => cs_bc h i) 0 (ab_gi h 1 1).toNat))), h) := by
  have hDS := hR.2.1
  simp (disch := omega) only [e19_0, e19_1, e19_2, e19_3, e19_5, e19_6, e19_9, e19_12, e19_13, e19_14, e19_15, e19_18, e19_19, e19_20, e19_23, e19_26, e19_27, implies_true, Int.reduceSub, Option.isNone_some, Option.isNone_none, ab_bh_some, ab_bh_thr, ab_gs_3, ab_gl_2, ab_gl_3, ab_gt_some, ab_gc_0, ab_gk_0, Bool.false_eq_true, Bool.true_eq_false, false_implies, Nat.reduceEqDiff, ab_ge, ab_lt, ab_le, ab_gt, ab_eq, ab_ne, decide_eq_true_eq, ab_w_id, ab_w0, ab_gd_some, ab_gs_0, ab_gs_1, ab_gl_0, ab_gl_1, ab_bv_some, ab_bu_some, ab_bv_thr, ab_bu_thr, ab_fx_n, ab_fx_i, ab_fx_q, ab_fx_l, ab_sh_si, ab_gr_si, ab_gl_si, cs_n, ↓reduceIte, true_or, or_true, false_or, or_false, and_true, true_and, and_false, false_and, not_true_eq_false, not_false_eq_true, eq_self, Int.reduceEq, Int.reduceLT, Int.reduceLE, Int.reduceAdd, Int.reduceMul, Int.reduceNeg, if_pos, if_neg]
  rw [m19_loop hR  (ab_gi h 1 1).toNat 0 0 (by omega) (by omega)]
  simp only [Int.zero_add]
theorem m20_loop {dd : Nat} {h : ab_H}  (hR : cs_R h)  : ∀ (k : Nat) (i c : Int), 0 ≤ i → i + k = ab_gi h 1 1 →
    ab_E B (dd + 3) 20 4 [some (.inr (.inr (.inl (some 1)))), some (.inl c), some (.inl i)] [] h = some (.inl (some (.inl (c + cs_sf (fun i => (if cs_bc h i = 1 then 1 else 0)) i k))), h)
  | 0, i, c, h1, h2 => by
    have hL := hR.1
    have hDS := hR.2.1
    simp (disch := omega) only [e20_0, e20_1, e20_2, e20_3, e20_4, e20_5, e20_6, e20_9, e20_12, e20_13, e20_14, e20_15, e20_18, e20_19, e20_22, e20_23, e20_26, e20_27, e20_28, e20_29, e20_32, e20_35, e20_36, implies_true, Int.reduceSub, Option.isNone_some, Option.isNone_none, ab_bh_some, ab_bh_thr, ab_gs_3, ab_gl_2, ab_gl_3, ab_gt_some, ab_gc_0, ab_gk_0, Bool.false_eq_true, Bool.true_eq_false, false_implies, Nat.reduceEqDiff, ab_ge, ab_lt, ab_le, ab_gt, ab_eq, ab_ne, decide_eq_true_eq, ab_w_id, ab_w0, ab_gd_some, ab_gs_0, ab_gs_1, ab_gl_0, ab_gl_1, ab_bv_some, ab_bu_some, ab_bv_thr, ab_bu_thr, ab_fx_n, ab_fx_i, ab_fx_q, ab_fx_l, ab_sh_si, ab_gr_si, ab_gl_si, cs_n, ↓reduceIte, true_or, or_true, false_or, or_false, and_true, true_and, and_false, false_and, not_true_eq_false, not_false_eq_true, eq_self, Int.reduceEq, Int.reduceLT, Int.reduceLE, Int.reduceAdd, Int.reduceMul, Int.reduceNeg, if_pos, if_neg, hL.1, hL.2, cs_sf, Int.add_zero]
  | k + 1, i, c, h1, h2 => by
    have hL := hR.1
    have hDS := hR.2.1
    rw [e20_4]
    have hbl := cs_bc_le hR i
    by_cases hb : cs_bc h i = 1 <;>
    · simp (disch := omega) only [e20_0, e20_1, e20_2, e20_3, e20_5, e20_6, e20_9, e20_12, e20_13, e20_14, e20_15, e20_18, e20_19, e20_22, e20_23, e20_26, e20_27, e20_28, e20_29, e20_32, e20_35, e20_36, implies_true, Int.reduceSub, Option.isNone_some, Option.isNone_none, ab_bh_some, ab_bh_thr, ab_gs_3, ab_gl_2, ab_gl_3, ab_gt_some, ab_gc_0, ab_gk_0, Bool.false_eq_true, Bool.true_eq_false, false_implies, Nat.reduceEqDiff, ab_ge, ab_lt, ab_le, ab_gt, ab_eq, ab_ne, decide_eq_true_eq, ab_w_id, ab_w0, ab_gd_some, ab_gs_0, ab_gs_1, ab_gl_0, ab_gl_1, ab_bv_some, ab_bu_some, ab_bv_thr, ab_bu_thr, ab_fx_n, ab_fx_i, ab_fx_q, ab_fx_l, ab_sh_si, ab_gr_si, ab_gl_si, cs_n, ↓reduceIte, true_or, or_true, false_or, or_false, and_true, true_and, and_false, false_and, not_true_eq_false, not_false_eq_true, eq_self, Int.reduceEq, Int.reduceLT, Int.reduceLE, Int.reduceAdd, Int.reduceMul, Int.reduceNeg, if_pos, if_neg, hL.1, hL.2, m17 hR h1 (show i < ab_gi h 1 1 by omega), hb]
      rw [m20_loop hR k (i + 1) _ (by omega) (by omega)]
      simp only [cs_sf, hb, Int.add_assoc, ↓reduceIte]
theorem m20 {dd : Nat} {h : ab_H}  (hR : cs_R h)  :
    ab_E B (dd + 3) 20 0 [some (.inr (.inr (.inl (some 1)))), none, none] [] h = some (.inl (some (.inl (cs_sf (fun i => if cs_bc h i = 1 then 1 else 0) 0 (ab_gi h 1 1).toNat))), h) := by
  have hDS := hR.2.1
  simp (disch := omega) only [e20_0, e20_1, e20_2, e20_3, e20_5, e20_6, e20_9, e20_12, e20_13, e20_14, e20_15, e20_18, e20_19, e20_22, e20_23, e20_26, e20_27, e20_28, e20_29, e20_32, e20_35, e20_36, implies_true, Int.reduceSub, Option.isNone_some, Option.isNone_none, ab_bh_some, ab_bh_thr, ab_gs_3, ab_gl_2, ab_gl_3, ab_gt_some, ab_gc_0, ab_gk_0, Bool.false_eq_true, Bool.true_eq_false, false_implies, Nat.reduceEqDiff, ab_ge, ab_lt, ab_le, ab_gt, ab_eq, ab_ne, decide_eq_true_eq, ab_w_id, ab_w0, ab_gd_some, ab_gs_0, ab_gs_1, ab_gl_0, ab_gl_1, ab_bv_some, ab_bu_some, ab_bv_thr, ab_bu_thr, ab_fx_n, ab_fx_i, ab_fx_q, ab_fx_l, ab_sh_si, ab_gr_si, ab_gl_si, cs_n, ↓reduceIte, true_or, or_true, false_or, or_false, and_true, true_and, and_false, false_and, not_true_eq_false, not_false_eq_true, eq_self, Int.reduceEq, Int.reduceLT, Int.reduceLE, Int.reduceAdd, Int.reduceMul, Int.reduceNeg, if_pos, if_neg]
  rw [m20_loop hR  (ab_gi h 1 1).toNat 0 0 (by omega) (by omega)]
  simp only [Int.zero_add]
theorem m21_loop {dd : Nat} {h : ab_H}  (hR : cs_R h)  : ∀ (k : Nat) (i c : Int), 0 ≤ i → i + k = ab_gi h 1 1 →
    ab_E B (dd + 3) 21 4 [some (.inr (.inr (.inl (some 1)))), some (.inl c), some (.inl i)] [] h = some (.inl (some (.inl (c + cs_sf (fun i => (if 1 < cs_bc h i then 1 else 0)) i k))), h)
  | 0, i, c, h1, h2 => by
    have hL := hR.1
    have hDS := hR.2.1
    simp (disch := omega) only [e21_0, e21_1, e21_2, e21_3, e21_4, e21_5, e21_6, e21_9, e21_12, e21_13, e21_14, e21_15, e21_18, e21_19, e21_22, e21_23, e21_26, e21_27, e21_28, e21_29, e21_32, e21_35, e21_36, implies_true, Int.reduceSub, Option.isNone_some, Option.isNone_none, ab_bh_some, ab_bh_thr, ab_gs_3, ab_gl_2, ab_gl_3, ab_gt_some, ab_gc_0, ab_gk_0, Bool.false_eq_true, Bool.true_eq_false, false_implies, Nat.reduceEqDiff, ab_ge, ab_lt, ab_le, ab_gt, ab_eq, ab_ne, decide_eq_true_eq, ab_w_id, ab_w0, ab_gd_some, ab_gs_0, ab_gs_1, ab_gl_0, ab_gl_1, ab_bv_some, ab_bu_some, ab_bv_thr, ab_bu_thr, ab_fx_n, ab_fx_i, ab_fx_q, ab_fx_l, ab_sh_si, ab_gr_si, ab_gl_si, cs_n, ↓reduceIte, true_or, or_true, false_or, or_false, and_true, true_and, and_false, false_and, not_true_eq_false, not_false_eq_true, eq_self, Int.reduceEq, Int.reduceLT, Int.reduceLE, Int.reduceAdd, Int.reduceMul, Int.reduceNeg, if_pos, if_neg, hL.1, hL.2, cs_sf, Int.add_zero]
  | k + 1, i, c, h1, h2 => by
    have hL := hR.1
    have hDS := hR.2.1
    rw [e21_4]
    have hbl := cs_bc_le hR i
    by_cases hb : 1 < cs_bc h i
    · simp (disch := omega) only [e21_0, e21_1, e21_2, e21_3, e21_5, e21_6, e21_9, e21_12, e21_13, e21_14, e21_15, e21_18, e21_19, e21_22, e21_23, e21_26, e21_27, e21_28, e21_29, e21_32, e21_35, e21_36, implies_true, Int.reduceSub, Option.isNone_some, Option.isNone_none, ab_bh_some, ab_bh_thr, ab_gs_3, ab_gl_2, ab_gl_3, ab_gt_some, ab_gc_0, ab_gk_0, Bool.false_eq_true, Bool.true_eq_false, false_implies, Nat.reduceEqDiff, ab_ge, ab_lt, ab_le, ab_gt, ab_eq, ab_ne, decide_eq_true_eq, ab_w_id, ab_w0, ab_gd_some, ab_gs_0, ab_gs_1, ab_gl_0, ab_gl_1, ab_bv_some, ab_bu_some, ab_bv_thr, ab_bu_thr, ab_fx_n, ab_fx_i, ab_fx_q, ab_fx_l, ab_sh_si, ab_gr_si, ab_gl_si, cs_n, ↓reduceIte, true_or, or_true, false_or, or_false, and_true, true_and, and_false, false_and, not_true_eq_false, not_false_eq_true, eq_self, Int.reduceEq, Int.reduceLT, Int.reduceLE, Int.reduceAdd, Int.reduceMul, Int.reduceNeg, if_pos, if_neg, hL.1, hL.2, m17 hR h1 (show i < ab_gi h 1 1 by omega), hb]
      rw [m21_loop hR k (i + 1) _ (by omega) (by omega)]
      simp only [cs_sf, hb, Int.add_assoc, ↓reduceIte]
    · have hb' : cs_bc h i ≤ 1 := by omega
      simp (disch := omega) only [e21_0, e21_1, e21_2, e21_3, e21_5, e21_6, e21_9, e21_12, e21_13, e21_14, e21_15, e21_18, e21_19, e21_22, e21_23, e21_26, e21_27, e21_28, e21_29, e21_32, e21_35, e21_36, implies_true, Int.reduceSub, Option.isNone_some, Option.isNone_none, ab_bh_some, ab_bh_thr, ab_gs_3, ab_gl_2, ab_gl_3, ab_gt_some, ab_gc_0, ab_gk_0, Bool.false_eq_true, Bool.true_eq_false, false_implies, Nat.reduceEqDiff, ab_ge, ab_lt, ab_le, ab_gt, ab_eq, ab_ne, decide_eq_true_eq, ab_w_id, ab_w0, ab_gd_some, ab_gs_0, ab_gs_1, ab_gl_0, ab_gl_1, ab_bv_some, ab_bu_some, ab_bv_thr, ab_bu_thr, ab_fx_n, ab_fx_i, ab_fx_q, ab_fx_l, ab_sh_si, ab_gr_si, ab_gl_si, cs_n, ↓reduceIte, true_or, or_true, false_or, or_false, and_true, true_and, and_false, false_and, not_true_eq_false, not_false_eq_true, eq_self, Int.reduceEq, Int.reduceLT, Int.reduceLE, Int.reduceAdd, Int.reduceMul, Int.reduceNeg, if_pos, if_neg, hL.1, hL.2, m17 hR h1 (show i < ab_gi h 1 1 by omega), hb']
      rw [m21_loop hR k (i + 1) _ (by omega) (by omega)]
      simp only [cs_sf, hb, Int.add_assoc, ↓reduceIte]
theorem m21 {dd : Nat} {h : ab_H}  (hR : cs_R h)  :
    ab_E B (dd + 3) 21 0 [some (.inr (.inr (.inl (some 1)))), none, none] [] h = some (.inl (some (.inl (cs_sf (fun i => if 1 < cs_bc h i then 1 else 0) 0 (ab_gi h 1 1).toNat))), h) := by
  have hDS := hR.2.1
  simp (disch := omega) only [e21_0, e21_1, e21_2, e21_3, e21_5, e21_6, e21_9, e21_12, e21_13, e21_14, e21_15, e21_18, e21_19, e21_22, e21_23, e21_26, e21_27, e21_28, e21_29, e21_32, e21_35, e21_36, implies_true, Int.reduceSub, Option.isNone_some, Option.isNone_none, ab_bh_some, ab_bh_thr, ab_gs_3, ab_gl_2, ab_gl_3, ab_gt_some, ab_gc_0, ab_gk_0, Bool.false_eq_true, Bool.true_eq_false, false_implies, Nat.reduceEqDiff, ab_ge, ab_lt, ab_le, ab_gt, ab_eq, ab_ne, decide_eq_true_eq, ab_w_id, ab_w0, ab_gd_some, ab_gs_0, ab_gs_1, ab_gl_0, ab_gl_1, ab_bv_some, ab_bu_some, ab_bv_thr, ab_bu_thr, ab_fx_n, ab_fx_i, ab_fx_q, ab_fx_l, ab_sh_si, ab_gr_si, ab_gl_si, cs_n, ↓reduceIte, true_or, or_true, false_or, or_false, and_true, true_and, and_false, false_and, not_true_eq_false, not_false_eq_true, eq_self, Int.reduceEq, Int.reduceLT, Int.reduceLE, Int.reduceAdd, Int.reduceMul, Int.reduceNeg, if_pos, if_neg]
  rw [m21_loop hR  (ab_gi h 1 1).toNat 0 0 (by omega) (by omega)]
  simp only [Int.zero_add]
theorem m22_loop {dd : Nat} {h : ab_H}  (hR : cs_R h)  : ∀ (k : Nat) (i c : Int), 0 ≤ i → i + k = ab_gi h 1 0 →
    ab_E B (dd + 1) 22 4 [some (.inr (.inr (.inl (some 1)))), some (.inl c), some (.inl i)] [] h = some (.inl (some (.inl (c + cs_sf (fun i => ab_gi h 5 i) i k))), h)
  | 0, i, c, h1, h2 => by
    have hL := hR.1
    have hDS := hR.2.1
    simp (disch := omega) only [e22_0, e22_1, e22_2, e22_3, e22_4, e22_5, e22_6, e22_9, e22_12, e22_13, e22_14, e22_15, e22_18, e22_21, e22_22, e22_25, e22_26, e22_27, e22_28, e22_31, e22_34, e22_35, implies_true, Int.reduceSub, Option.isNone_some, Option.isNone_none, ab_bh_some, ab_bh_thr, ab_gs_3, ab_gl_2, ab_gl_3, ab_gt_some, ab_gc_0, ab_gk_0, Bool.false_eq_true, Bool.true_eq_false, false_implies, Nat.reduceEqDiff, ab_ge, ab_lt, ab_le, ab_gt, ab_eq, ab_ne, decide_eq_true_eq, ab_w_id, ab_w0, ab_gd_some, ab_gs_0, ab_gs_1, ab_gl_0, ab_gl_1, ab_bv_some, ab_bu_some, ab_bv_thr, ab_bu_thr, ab_fx_n, ab_fx_i, ab_fx_q, ab_fx_l, ab_sh_si, ab_gr_si, ab_gl_si, cs_n, ↓reduceIte, true_or, or_true, false_or, or_false, and_true, true_and, and_false, false_and, not_true_eq_false, not_false_eq_true, eq_self, Int.reduceEq, Int.reduceLT, Int.reduceLE, Int.reduceAdd, Int.reduceMul, Int.reduceNeg, if_pos, if_neg, hL.1, hL.2, cs_sf, Int.add_zero]
  | k + 1, i, c, h1, h2 => by
    have hL := hR.1
    have hDS := hR.2.1
    rw [e22_4]
    rcases hR.2.2.2 i with hb | hb <;>
    · simp (disch := omega) only [e22_0, e22_1, e22_2, e22_3, e22_5, e22_6, e22_9, e22_12, e22_13, e22_14, e22_15, e22_18, e22_21, e22_22, e22_25, e22_26, e22_27, e22_28, e22_31, e22_34, e22_35, implies_true, Int.reduceSub, Option.isNone_some, Option.isNone_none, ab_bh_some, ab_bh_thr, ab_gs_3, ab_gl_2, ab_gl_3, ab_gt_some, ab_gc_0, ab_gk_0, Bool.false_eq_true, Bool.true_eq_false, false_implies, Nat.reduceEqDiff, ab_ge, ab_lt, ab_le, ab_gt, ab_eq, ab_ne, decide_eq_true_eq, ab_w_id, ab_w0, ab_gd_some, ab_gs_0, ab_gs_1, ab_gl_0, ab_gl_1, ab_bv_some, ab_bu_some, ab_bv_thr, ab_bu_thr, ab_fx_n, ab_fx_i, ab_fx_q, ab_fx_l, ab_sh_si, ab_gr_si, ab_gl_si, cs_n, ↓reduceIte, true_or, or_true, false_or, or_false, and_true, true_and, and_false, false_and, not_true_eq_false, not_false_eq_true, eq_self, Int.reduceEq, Int.reduceLT, Int.reduceLE, Int.reduceAdd, Int.reduceMul, Int.reduceNeg, if_pos, if_neg, hL.1, hL.2, m13 hL h1 (show i < 5 by omega) (hR.2.2.2 i), hb]
      rw [m22_loop hR k (i + 1) _ (by omega) (by omega)]
      simp only [cs_sf, hb, Int.add_assoc]
theorem m22 {dd : Nat} {h : ab_H}  (hR : cs_R h)  :
    ab_E B (dd + 1) 22 0 [some (.inr (.inr (.inl (some 1)))), none, none] [] h = some (.inl (some (.inl (cs_sf (fun i => ab_gi h 5 i) 0 (ab_gi h 1 0).toNat))), h) := by
  have hDS := hR.2.1
  simp (disch := omega) only [e22_0, e22_1, e22_2, e22_3, e22_5, e22_6, e22_9, e22_12, e22_13, e22_14, e22_15, e22_18, e22_21, e22_22, e22_25, e22_26, e22_27, e22_28, e22_31, e22_34, e22_35, implies_true, Int.reduceSub, Option.isNone_some, Option.isNone_none, ab_bh_some, ab_bh_thr, ab_gs_3, ab_gl_2, ab_gl_3, ab_gt_some, ab_gc_0, ab_gk_0, Bool.false_eq_true, Bool.true_eq_false, false_implies, Nat.reduceEqDiff, ab_ge, ab_lt, ab_le, ab_gt, ab_eq, ab_ne, decide_eq_true_eq, ab_w_id, ab_w0, ab_gd_some, ab_gs_0, ab_gs_1, ab_gl_0, ab_gl_1, ab_bv_some, ab_bu_some, ab_bv_thr, ab_bu_thr, ab_fx_n, ab_fx_i, ab_fx_q, ab_fx_l, ab_sh_si, ab_gr_si, ab_gl_si, cs_n, ↓reduceIte, true_or, or_true, false_or, or_false, and_true, true_and, and_false, false_and, not_true_eq_false, not_false_eq_true, eq_self, Int.reduceEq, Int.reduceLT, Int.reduceLE, Int.reduceAdd, Int.reduceMul, Int.reduceNeg, if_pos, if_neg]
  rw [m22_loop hR  (ab_gi h 1 0).toNat 0 0 (by omega) (by omega)]
  simp only [Int.zero_add]
end
