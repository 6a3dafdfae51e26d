/-! THE RACK: numbers of blocks and disks, values -/
section
variable {B : ab_B}
theorem ab_xor_nat (a b : Nat) : Int32.ofNat a ^^^ Int32.ofNat b = Int32.ofNat (a ^^^ b) := by
  apply Int32.toBitVec_inj.1
  simp [BitVec.ofNat_xor]
theorem ab_ixor_eq {a b : Int} (h1 : 0 ≤ a) (h2 : a ≤ 255) (h3 : 0 ≤ b) (h4 : b ≤ 255) : ab_ixor a b = ((a.toNat ^^^ b.toNat : Nat) : Int) ∧ a.toNat ^^^ b.toNat < 256 := by
  have e1 : Int32.ofInt a = Int32.ofNat a.toNat := by rw [← Int32.ofInt_eq_ofNat, Int.toNat_of_nonneg h1]
  have e2 : Int32.ofInt b = Int32.ofNat b.toNat := by rw [← Int32.ofInt_eq_ofNat, Int.toNat_of_nonneg h3]
  have hl : a.toNat ^^^ b.toNat < 2 ^ 8 := Nat.xor_lt_two_pow (by omega) (by omega)
  refine ⟨?_, hl⟩
  unfold ab_ixor
  rw [e1, e2, ab_xor_nat, ← Int32.ofInt_eq_ofNat]
  exact Int32.toInt_ofInt_of_le (by omega) (by omega)
theorem ab_ixor_rng {a b : Int} (h1 : 0 ≤ a) (h2 : a ≤ 255) (h3 : 0 ≤ b) (h4 : b ≤ 255) : 0 ≤ ab_ixor a b ∧ ab_ixor a b ≤ 255 := by
  obtain ⟨e1, e2⟩ := ab_ixor_eq h1 h2 h3 h4
  omega
def cs_B (h : ab_H) : Int := if 0 < ab_gi h 1 0 then (ab_gi h 1 0 - 1) * ab_gi h 1 1 else 0
theorem cs_B_le {h : ab_H} (hR : cs_R h) : 0 ≤ cs_B h ∧ cs_B h ≤ 32 := by
  unfold cs_B
  rcases hR.2.1 with ⟨h1, h2⟩ | ⟨h1, h2, h3, h4⟩
  · rw [h1]; simp
  · have : ab_gi h 1 0 = 3 ∨ ab_gi h 1 0 = 4 ∨ ab_gi h 1 0 = 5 := by omega
    rcases this with q | q | q <;> rw [q] <;> simp <;> omega
theorem m2 {dd : Nat} {h : ab_H} {d : Int} (hR : cs_R h) (h1 : -2147483648 ≤ d) (h2 : d < 2147483648) :
    ab_E B dd 2 0 [some (.inr (.inr (.inl (some 1)))), some (.inl d)] [] h = some (.inl (some (.inl (if 0 ≤ d ∧ d < ab_gi h 1 0 then 1 else 0))), h) := by
  obtain ⟨hL, hDS, -, -⟩ := hR
  by_cases c1 : 0 ≤ d <;> by_cases c2 : d < ab_gi h 1 0 <;> simp (disch := omega) only [e2_0, e2_1, e2_4, e2_5, e2_6, e2_9, e2_12, e2_13, e2_16, e2_17, Option.isNone_some, Option.isNone_none, ab_bh_some, ab_bh_thr, ab_gs_3, ab_gl_2, ab_gl_3, ab_gt_some, ab_gc_0, ab_gk_0, Bool.false_eq_true, Nat.reduceEqDiff, ab_ge, ab_lt, ab_le, ab_gt, ab_eq, ab_ne, decide_eq_true_eq, ab_w_id, ab_w0, ab_gd_some, ab_gs_0, ab_gs_1, ab_gl_0, ab_gl_1, ab_bv_some, ab_bu_some, ab_bv_thr, ab_bu_thr, ab_fx_n, ab_fx_i, ab_fx_q, ab_fx_l, ab_sh_si, ab_gr_si, ab_gl_si, cs_n, ↓reduceIte, true_or, or_true, false_or, or_false, and_true, true_and, and_false, false_and, not_true_eq_false, not_false_eq_true, eq_self, Int.reduceEq, Int.reduceLT, Int.reduceLE, Int.reduceAdd, Int.reduceMul, Int.reduceNeg, if_pos, if_neg, hL.1, hL.2, c1, c2]
theorem m3 {dd : Nat} {h : ab_H} {d : Int} (hR : cs_R h) (h1 : -2147483648 ≤ d) (h2 : d < 2147483648) :
    ab_E B dd 3 0 [some (.inr (.inr (.inl (some 1)))), some (.inl d)] [] h = some (.inl (some (.inl (if 0 ≤ d ∧ d < ab_gi h 1 1 then 1 else 0))), h) := by
  obtain ⟨hL, hDS, -, -⟩ := hR
  by_cases c1 : 0 ≤ d <;> by_cases c2 : d < ab_gi h 1 1 <;> simp (disch := omega) only [e3_0, e3_1, e3_4, e3_5, e3_6, e3_9, e3_12, e3_13, e3_16, e3_17, Option.isNone_some, Option.isNone_none, ab_bh_some, ab_bh_thr, ab_gs_3, ab_gl_2, ab_gl_3, ab_gt_some, ab_gc_0, ab_gk_0, Bool.false_eq_true, Nat.reduceEqDiff, ab_ge, ab_lt, ab_le, ab_gt, ab_eq, ab_ne, decide_eq_true_eq, ab_w_id, ab_w0, ab_gd_some, ab_gs_0, ab_gs_1, ab_gl_0, ab_gl_1, ab_bv_some, ab_bu_some, ab_bv_thr, ab_bu_thr, ab_fx_n, ab_fx_i, ab_fx_q, ab_fx_l, ab_sh_si, ab_gr_si, ab_gl_si, cs_n, ↓reduceIte, true_or, or_true, false_or, or_false, and_true, true_and, and_false, false_and, not_true_eq_false, not_false_eq_true, eq_self, Int.reduceEq, Int.reduceLT, Int.reduceLE, Int.reduceAdd, Int.reduceMul, Int.reduceNeg, if_pos, if_neg, hL.1, hL.2, c1, c2]
theorem m5 {dd : Nat} {h : ab_H} (hR : cs_R h) :
    ab_E B dd 5 0 [some (.inr (.inr (.inl (some 1))))] [] h = some (.inl (some (.inl (cs_B h))), h) := by
  obtain ⟨hL, hDS, -, -⟩ := hR
  unfold cs_B
  by_cases c1 : 0 < ab_gi h 1 0
  · simp (disch := omega) only [e5_0, e5_1, e5_4, e5_7, e5_8, e5_11, e5_12, e5_13, e5_14, e5_17, e5_18, e5_21, e5_22, Option.isNone_some, Option.isNone_none, ab_bh_some, ab_bh_thr, ab_gs_3, ab_gl_2, ab_gl_3, ab_gt_some, ab_gc_0, ab_gk_0, Bool.false_eq_true, Nat.reduceEqDiff, ab_ge, ab_lt, ab_le, ab_gt, ab_eq, ab_ne, decide_eq_true_eq, ab_w_id, ab_w0, ab_gd_some, ab_gs_0, ab_gs_1, ab_gl_0, ab_gl_1, ab_bv_some, ab_bu_some, ab_bv_thr, ab_bu_thr, ab_fx_n, ab_fx_i, ab_fx_q, ab_fx_l, ab_sh_si, ab_gr_si, ab_gl_si, cs_n, ↓reduceIte, true_or, or_true, false_or, or_false, and_true, true_and, and_false, false_and, not_true_eq_false, not_false_eq_true, eq_self, Int.reduceEq, Int.reduceLT, Int.reduceLE, Int.reduceAdd, Int.reduceMul, Int.reduceNeg, if_pos, if_neg, hL.1, hL.2, c1]
  · simp (disch := omega) only [e5_0, e5_1, e5_4, e5_7, e5_8, e5_11, e5_12, e5_13, e5_14, e5_17, e5_18, e5_21, e5_22, Option.isNone_some, Option.isNone_none, ab_bh_some, ab_bh_thr, ab_gs_3, ab_gl_2, ab_gl_3, ab_gt_some, ab_gc_0, ab_gk_0, Bool.false_eq_true, Nat.reduceEqDiff, ab_ge, ab_lt, ab_le, ab_gt, ab_eq, ab_ne, decide_eq_true_eq, ab_w_id, ab_w0, ab_gd_some, ab_gs_0, ab_gs_1, ab_gl_0, ab_gl_1, ab_bv_some, ab_bu_some, ab_bv_thr, ab_bu_thr, ab_fx_n, ab_fx_i, ab_fx_q, ab_fx_l, ab_sh_si, ab_gr_si, ab_gl_si, cs_n, ↓reduceIte, true_or, or_true, false_or, or_false, and_true, true_and, and_false, false_and, not_true_eq_false, not_false_eq_true, eq_self, Int.reduceEq, Int.reduceLT, Int.reduceLE, Int.reduceAdd, Int.reduceMul, Int.reduceNeg, if_pos, if_neg, hL.1, hL.2]
theorem m4 {dd : Nat} {h : ab_H} {b : Int} (hR : cs_R h) (h1 : -2147483648 ≤ b) (h2 : b < 2147483648) :
    ab_E B (dd + 1) 4 0 [some (.inr (.inr (.inl (some 1)))), some (.inl b)] [] h = some (.inl (some (.inl (if 0 ≤ b ∧ b < cs_B h then 1 else 0))), h) := by
  have hL := hR.1
  have hB := cs_B_le hR
  by_cases c1 : 0 ≤ b <;> by_cases c2 : b < cs_B h <;> simp (disch := omega) only [e4_0, e4_1, e4_4, e4_5, e4_6, e4_9, e4_12, e4_13, e4_16, e4_17, Option.isNone_some, Option.isNone_none, ab_bh_some, ab_bh_thr, ab_gs_3, ab_gl_2, ab_gl_3, ab_gt_some, ab_gc_0, ab_gk_0, Bool.false_eq_true, Nat.reduceEqDiff, ab_ge, ab_lt, ab_le, ab_gt, ab_eq, ab_ne, decide_eq_true_eq, ab_w_id, ab_w0, ab_gd_some, ab_gs_0, ab_gs_1, ab_gl_0, ab_gl_1, ab_bv_some, ab_bu_some, ab_bv_thr, ab_bu_thr, ab_fx_n, ab_fx_i, ab_fx_q, ab_fx_l, ab_sh_si, ab_gr_si, ab_gl_si, cs_n, ↓reduceIte, true_or, or_true, false_or, or_false, and_true, true_and, and_false, false_and, not_true_eq_false, not_false_eq_true, eq_self, Int.reduceEq, Int.reduceLT, Int.reduceLE, Int.reduceAdd, Int.reduceMul, Int.reduceNeg, if_pos, if_neg, hL.1, hL.2, m5 hR, c1, c2]
theorem m6 {dd : Nat} {h : ab_H} {b : Int} (hR : cs_R h) (hD : 3 ≤ ab_gi h 1 0) (h1 : 0 ≤ b) (h2 : b < 32) :
    ab_E B dd 6 0 [some (.inr (.inr (.inl (some 1)))), some (.inl b)] [] h = some (.inl (some (.inl (b / (ab_gi h 1 0 - 1)))), h) := by
  obtain ⟨hL, hDS, -, -⟩ := hR
  have e : ab_idiv b (ab_gi h 1 0 - 1) = b / (ab_gi h 1 0 - 1) := ab_idiv_id h1 (by omega) (by omega) (by omega)
  simp (disch := omega) only [e6_0, e6_1, e6_4, e6_5, e6_8, e6_9, e6_10, e6_13, e6_14, e6_15, e6_16, e6_19, e6_20, Option.isNone_some, Option.isNone_none, ab_bh_some, ab_bh_thr, ab_gs_3, ab_gl_2, ab_gl_3, ab_gt_some, ab_gc_0, ab_gk_0, Bool.false_eq_true, Nat.reduceEqDiff, ab_ge, ab_lt, ab_le, ab_gt, ab_eq, ab_ne, decide_eq_true_eq, ab_w_id, ab_w0, ab_gd_some, ab_gs_0, ab_gs_1, ab_gl_0, ab_gl_1, ab_bv_some, ab_bu_some, ab_bv_thr, ab_bu_thr, ab_fx_n, ab_fx_i, ab_fx_q, ab_fx_l, ab_sh_si, ab_gr_si, ab_gl_si, cs_n, ↓reduceIte, true_or, or_true, false_or, or_false, and_true, true_and, and_false, false_and, not_true_eq_false, not_false_eq_true, eq_self, Int.reduceEq, Int.reduceLT, Int.reduceLE, Int.reduceAdd, Int.reduceMul, Int.reduceNeg, if_pos, if_neg, hL.1, hL.2, e]
theorem m9 {dd : Nat} {h : ab_H} {s : Int} (hR : cs_R h) (hD : 3 ≤ ab_gi h 1 0) (h1 : 0 ≤ s) (h2 : s < 40) :
    ab_E B dd 9 0 [some (.inr (.inr (.inl (some 1)))), some (.inl s)] [] h = some (.inl (some (.inl (s % ab_gi h 1 0))), h) := by
  obtain ⟨hL, hDS, -, -⟩ := hR
  have e : ab_irem s (ab_gi h 1 0) = s % ab_gi h 1 0 := ab_irem_id h1 (by omega) (by omega) (by omega)
  simp (disch := omega) only [e9_0, e9_1, e9_4, e9_7, e9_8, e9_9, e9_12, e9_13, e9_16, e9_17, Option.isNone_some, Option.isNone_none, ab_bh_some, ab_bh_thr, ab_gs_3, ab_gl_2, ab_gl_3, ab_gt_some, ab_gc_0, ab_gk_0, Bool.false_eq_true, Nat.reduceEqDiff, ab_ge, ab_lt, ab_le, ab_gt, ab_eq, ab_ne, decide_eq_true_eq, ab_w_id, ab_w0, ab_gd_some, ab_gs_0, ab_gs_1, ab_gl_0, ab_gl_1, ab_bv_some, ab_bu_some, ab_bv_thr, ab_bu_thr, ab_fx_n, ab_fx_i, ab_fx_q, ab_fx_l, ab_sh_si, ab_gr_si, ab_gl_si, cs_n, ↓reduceIte, true_or, or_true, false_or, or_false, and_true, true_and, and_false, false_and, not_true_eq_false, not_false_eq_true, eq_self, Int.reduceEq, Int.reduceLT, Int.reduceLE, Int.reduceAdd, Int.reduceMul, Int.reduceNeg, if_pos, if_neg, hL.1, hL.2, e]
/-- the disk of a block -/
def cs_dk (D b : Int) : Int := if b % (D - 1) < (b / (D - 1)) % D then b % (D - 1) else b % (D - 1) + 1
theorem m7 {dd : Nat} {h : ab_H} {b : Int} (hR : cs_R h) (hD : 3 ≤ ab_gi h 1 0) (h1 : 0 ≤ b) (h2 : b < 32) :
    ab_E B (dd + 1) 7 0 [some (.inr (.inr (.inl (some 1)))), some (.inl b), none] [] h = some (.inl (some (.inl (cs_dk (ab_gi h 1 0) b))), h) := by
  have hL := hR.1
  have hDS := hR.2.1
  have e : ab_irem b (ab_gi h 1 0 - 1) = b % (ab_gi h 1 0 - 1) := ab_irem_id h1 (by omega) (by omega) (by omega)
  have q1 : 0 ≤ b % (ab_gi h 1 0 - 1) := Int.emod_nonneg b (by omega)
  have q2 : b % (ab_gi h 1 0 - 1) < ab_gi h 1 0 - 1 := Int.emod_lt_of_pos b (by omega)
  have q3 : 0 ≤ b / (ab_gi h 1 0 - 1) := Int.ediv_nonneg h1 (by omega)
  have q4 : b / (ab_gi h 1 0 - 1) ≤ b := Int.ediv_le_self _ h1
  have q5 : 0 ≤ b / (ab_gi h 1 0 - 1) % ab_gi h 1 0 := Int.emod_nonneg _ (by omega)
  have q6 : b / (ab_gi h 1 0 - 1) % ab_gi h 1 0 < ab_gi h 1 0 := Int.emod_lt_of_pos _ (by omega)
  unfold cs_dk
  by_cases c : b % (ab_gi h 1 0 - 1) < b / (ab_gi h 1 0 - 1) % ab_gi h 1 0
  · simp (disch := omega) only [e7_0, e7_1, e7_4, e7_5, e7_8, e7_9, e7_10, e7_13, e7_14, e7_15, e7_16, e7_19, e7_20, e7_21, e7_22, e7_23, e7_24, e7_25, e7_28, e7_31, e7_34, e7_35, e7_38, e7_39, e7_40, e7_41, Option.isNone_some, Option.isNone_none, ab_bh_some, ab_bh_thr, ab_gs_3, ab_gl_2, ab_gl_3, ab_gt_some, ab_gc_0, ab_gk_0, Bool.false_eq_true, Nat.reduceEqDiff, ab_ge, ab_lt, ab_le, ab_gt, ab_eq, ab_ne, decide_eq_true_eq, ab_w_id, ab_w0, ab_gd_some, ab_gs_0, ab_gs_1, ab_gl_0, ab_gl_1, ab_bv_some, ab_bu_some, ab_bv_thr, ab_bu_thr, ab_fx_n, ab_fx_i, ab_fx_q, ab_fx_l, ab_sh_si, ab_gr_si, ab_gl_si, cs_n, ↓reduceIte, true_or, or_true, false_or, or_false, and_true, true_and, and_false, false_and, not_true_eq_false, not_false_eq_true, eq_self, Int.reduceEq, Int.reduceLT, Int.reduceLE, Int.reduceAdd, Int.reduceMul, Int.reduceNeg, if_pos, if_neg, hL.1, hL.2, e, m6 hR hD h1 h2, m9 hR hD q3 (show b / (ab_gi h 1 0 - 1) < 40 by omega), c]
  · have c' : b / (ab_gi h 1 0 - 1) % ab_gi h 1 0 ≤ b % (ab_gi h 1 0 - 1) := by omega
    simp (disch := omega) only [e7_0, e7_1, e7_4, e7_5, e7_8, e7_9, e7_10, e7_13, e7_14, e7_15, e7_16, e7_19, e7_20, e7_21, e7_22, e7_23, e7_24, e7_25, e7_28, e7_31, e7_34, e7_35, e7_38, e7_39, e7_40, e7_41, Option.isNone_some, Option.isNone_none, ab_bh_some, ab_bh_thr, ab_gs_3, ab_gl_2, ab_gl_3, ab_gt_some, ab_gc_0, ab_gk_0, Bool.false_eq_true, Nat.reduceEqDiff, ab_ge, ab_lt, ab_le, ab_gt, ab_eq, ab_ne, decide_eq_true_eq, ab_w_id, ab_w0, ab_gd_some, ab_gs_0, ab_gs_1, ab_gl_0, ab_gl_1, ab_bv_some, ab_bu_some, ab_bv_thr, ab_bu_thr, ab_fx_n, ab_fx_i, ab_fx_q, ab_fx_l, ab_sh_si, ab_gr_si, ab_gl_si, cs_n, ↓reduceIte, true_or, or_true, false_or, or_false, and_true, true_and, and_false, false_and, not_true_eq_false, not_false_eq_true, eq_self, Int.reduceEq, Int.reduceLT, Int.reduceLE, Int.reduceAdd, Int.reduceMul, Int.reduceNeg, if_pos, if_neg, hL.1, hL.2, e, m6 hR hD h1 h2, m9 hR hD q3 (show b / (ab_gi h 1 0 - 1) < 40 by omega), c, c']
/-- the block in a cell -/
def cs_bi (D d s : Int) : Int := if d = s % D then -1 else s * (D - 1) + (if d < s % D then d else d - 1)
theorem m8 {dd : Nat} {h : ab_H} {d s : Int} (hR : cs_R h) (h1 : 0 ≤ d) (h2 : d < ab_gi h 1 0) (h3 : 0 ≤ s) (h4 : s < ab_gi h 1 1) :
    ab_E B (dd + 1) 8 0 [some (.inr (.inr (.inl (some 1)))), some (.inl d), some (.inl s), none] [] h = some (.inl (some (.inl (cs_bi (ab_gi h 1 0) d s))), h) := by
  have hL := hR.1
  have hDS := hR.2.1
  have q5 : 0 ≤ s % ab_gi h 1 0 := Int.emod_nonneg _ (by omega)
  have q6 : s % ab_gi h 1 0 < ab_gi h 1 0 := Int.emod_lt_of_pos _ (by omega)
  unfold cs_bi
  by_cases c0 : d = s % ab_gi h 1 0
  · simp (disch := omega) only [e8_0, e8_1, e8_2, e8_5, e8_6, e8_7, e8_8, e8_11, e8_12, e8_13, e8_14, e8_15, e8_18, e8_19, e8_20, e8_21, e8_22, e8_23, e8_26, e8_27, e8_30, e8_31, e8_32, e8_33, e8_34, Option.isNone_some, Option.isNone_none, ab_bh_some, ab_bh_thr, ab_gs_3, ab_gl_2, ab_gl_3, ab_gt_some, ab_gc_0, ab_gk_0, Bool.false_eq_true, Nat.reduceEqDiff, ab_ge, ab_lt, ab_le, ab_gt, ab_eq, ab_ne, decide_eq_true_eq, ab_w_id, ab_w0, ab_gd_some, ab_gs_0, ab_gs_1, ab_gl_0, ab_gl_1, ab_bv_some, ab_bu_some, ab_bv_thr, ab_bu_thr, ab_fx_n, ab_fx_i, ab_fx_q, ab_fx_l, ab_sh_si, ab_gr_si, ab_gl_si, cs_n, ↓reduceIte, true_or, or_true, false_or, or_false, and_true, true_and, and_false, false_and, not_true_eq_false, not_false_eq_true, eq_self, Int.reduceEq, Int.reduceLT, Int.reduceLE, Int.reduceAdd, Int.reduceMul, Int.reduceNeg, if_pos, if_neg, hL.1, hL.2, m9 hR (show 3 ≤ ab_gi h 1 0 by omega) h3 (show s < 40 by omega), ← c0]
  · by_cases c : d < s % ab_gi h 1 0
    · simp (disch := omega) only [e8_0, e8_1, e8_2, e8_5, e8_6, e8_7, e8_8, e8_11, e8_12, e8_13, e8_14, e8_15, e8_18, e8_19, e8_20, e8_21, e8_22, e8_23, e8_26, e8_27, e8_30, e8_31, e8_32, e8_33, e8_34, Option.isNone_some, Option.isNone_none, ab_bh_some, ab_bh_thr, ab_gs_3, ab_gl_2, ab_gl_3, ab_gt_some, ab_gc_0, ab_gk_0, Bool.false_eq_true, Nat.reduceEqDiff, ab_ge, ab_lt, ab_le, ab_gt, ab_eq, ab_ne, decide_eq_true_eq, ab_w_id, ab_w0, ab_gd_some, ab_gs_0, ab_gs_1, ab_gl_0, ab_gl_1, ab_bv_some, ab_bu_some, ab_bv_thr, ab_bu_thr, ab_fx_n, ab_fx_i, ab_fx_q, ab_fx_l, ab_sh_si, ab_gr_si, ab_gl_si, cs_n, ↓reduceIte, true_or, or_true, false_or, or_false, and_true, true_and, and_false, false_and, not_true_eq_false, not_false_eq_true, eq_self, Int.reduceEq, Int.reduceLT, Int.reduceLE, Int.reduceAdd, Int.reduceMul, Int.reduceNeg, if_pos, if_neg, hL.1, hL.2, m9 hR (show 3 ≤ ab_gi h 1 0 by omega) h3 (show s < 40 by omega), c, c0]
    · have c' : s % ab_gi h 1 0 ≤ d := by omega
      simp (disch := omega) only [e8_0, e8_1, e8_2, e8_5, e8_6, e8_7, e8_8, e8_11, e8_12, e8_13, e8_14, e8_15, e8_18, e8_19, e8_20, e8_21, e8_22, e8_23, e8_26, e8_27, e8_30, e8_31, e8_32, e8_33, e8_34, Option.isNone_some, Option.isNone_none, ab_bh_some, ab_bh_thr, ab_gs_3, ab_gl_2, ab_gl_3, ab_gt_some, ab_gc_0, ab_gk_0, Bool.false_eq_true, Nat.reduceEqDiff, ab_ge, ab_lt, ab_le, ab_gt, ab_eq, ab_ne, decide_eq_true_eq, ab_w_id, ab_w0, ab_gd_some, ab_gs_0, ab_gs_1, ab_gl_0, ab_gl_1, ab_bv_some, ab_bu_some, ab_bv_thr, ab_bu_thr, ab_fx_n, ab_fx_i, ab_fx_q, ab_fx_l, ab_sh_si, ab_gr_si, ab_gl_si, cs_n, ↓reduceIte, true_or, or_true, false_or, or_false, and_true, true_and, and_false, false_and, not_true_eq_false, not_false_eq_true, eq_self, Int.reduceEq, Int.reduceLT, Int.reduceLE, Int.reduceAdd, Int.reduceMul, Int.reduceNeg, if_pos, if_neg, hL.1, hL.2, m9 hR (show 3 ≤ ab_gi h 1 0 by omega) h3 (show s < 40 by omega), c, c', c0]
theorem m10 {dd : Nat} {h : ab_H} {f c : Int} (hR : cs_R h) (hS : 1 ≤ ab_gi h 1 1) (h1 : 0 ≤ f) (h2 : f < 8) (h3 : 0 ≤ c) (h4 : c ≤ 8) :
    ab_E B dd 10 0 [some (.inr (.inr (.inl (some 1)))), some (.inl f), some (.inl c)] [] h = some (.inl (some (.inl ((f + c) % ab_gi h 1 1))), h) := by
  obtain ⟨hL, hDS, -, -⟩ := hR
  have e : ab_irem (f + c) (ab_gi h 1 1) = (f + c) % ab_gi h 1 1 := ab_irem_id (by omega) (by omega) (by omega) (by omega)
  simp (disch := omega) only [e10_0, e10_1, e10_4, e10_7, e10_8, e10_9, e10_10, e10_11, e10_14, e10_15, e10_18, e10_19, Option.isNone_some, Option.isNone_none, ab_bh_some, ab_bh_thr, ab_gs_3, ab_gl_2, ab_gl_3, ab_gt_some, ab_gc_0, ab_gk_0, Bool.false_eq_true, Nat.reduceEqDiff, ab_ge, ab_lt, ab_le, ab_gt, ab_eq, ab_ne, decide_eq_true_eq, ab_w_id, ab_w0, ab_gd_some, ab_gs_0, ab_gs_1, ab_gl_0, ab_gl_1, ab_bv_some, ab_bu_some, ab_bv_thr, ab_bu_thr, ab_fx_n, ab_fx_i, ab_fx_q, ab_fx_l, ab_sh_si, ab_gr_si, ab_gl_si, cs_n, ↓reduceIte, true_or, or_true, false_or, or_false, and_true, true_and, and_false, false_and, not_true_eq_false, not_false_eq_true, eq_self, Int.reduceEq, Int.reduceLT, Int.reduceLE, Int.reduceAdd, Int.reduceMul, Int.reduceNeg, if_pos, if_neg, hL.1, hL.2, e]
theorem m12 {dd : Nat} {h : ab_H} {d s : Int} (hR : cs_R h) (h1 : 0 ≤ d) (h2 : d < ab_gi h 1 0) (h3 : 0 ≤ s) (h4 : s < ab_gi h 1 1) :
    ab_E B (dd + 1) 12 0 [some (.inr (.inr (.inl (some 1)))), some (.inl d), some (.inl s), none] [] h = some (.inl (some (.inl (ab_gi h 3 (d * 8 + s)))), h) := by
  obtain ⟨hL, hDS, -, -⟩ := hR
  simp (disch := omega) only [e12_0, e12_1, e12_2, e12_3, e12_6, e12_7, e12_8, e12_9, e12_12, e12_13, e12_16, e12_17, e12_20, e12_21, e12_22, Option.isNone_some, Option.isNone_none, ab_bh_some, ab_bh_thr, ab_gs_3, ab_gl_2, ab_gl_3, ab_gt_some, ab_gc_0, ab_gk_0, Bool.false_eq_true, Nat.reduceEqDiff, ab_ge, ab_lt, ab_le, ab_gt, ab_eq, ab_ne, decide_eq_true_eq, ab_w_id, ab_w0, ab_gd_some, ab_gs_0, ab_gs_1, ab_gl_0, ab_gl_1, ab_bv_some, ab_bu_some, ab_bv_thr, ab_bu_thr, ab_fx_n, ab_fx_i, ab_fx_q, ab_fx_l, ab_sh_si, ab_gr_si, ab_gl_si, cs_n, ↓reduceIte, true_or, or_true, false_or, or_false, and_true, true_and, and_false, false_and, not_true_eq_false, not_false_eq_true, eq_self, Int.reduceEq, Int.reduceLT, Int.reduceLE, Int.reduceAdd, Int.reduceMul, Int.reduceNeg, if_pos, if_neg, hL.1, hL.2, m35 hL (show ab_gi h 1 0 ≤ 5 by omega) (show ab_gi h 1 1 ≤ 8 by omega) h1 h2 h3 h4]
theorem m14 {dd : Nat} {h : ab_H} {d : Int} (hR : cs_R h) (h1 : 0 ≤ d) (h2 : d < 5) :
    ab_E B dd 14 0 [some (.inr (.inr (.inl (some 1)))), some (.inl d)] [] h = some (.inl (some (.inl (ab_gi h 6 d))), h) := by
  obtain ⟨hL, hDS, -, -⟩ := hR
  simp (disch := omega) only [e14_0, e14_1, e14_4, e14_5, e14_6, e14_9, e14_10, e14_13, e14_14, e14_15, e14_18, e14_19, Option.isNone_some, Option.isNone_none, ab_bh_some, ab_bh_thr, ab_gs_3, ab_gl_2, ab_gl_3, ab_gt_some, ab_gc_0, ab_gk_0, Bool.false_eq_true, Nat.reduceEqDiff, ab_ge, ab_lt, ab_le, ab_gt, ab_eq, ab_ne, decide_eq_true_eq, ab_w_id, ab_w0, ab_gd_some, ab_gs_0, ab_gs_1, ab_gl_0, ab_gl_1, ab_bv_some, ab_bu_some, ab_bv_thr, ab_bu_thr, ab_fx_n, ab_fx_i, ab_fx_q, ab_fx_l, ab_sh_si, ab_gr_si, ab_gl_si, cs_n, ↓reduceIte, true_or, or_true, false_or, or_false, and_true, true_and, and_false, false_and, not_true_eq_false, not_false_eq_true, eq_self, Int.reduceEq, Int.reduceLT, Int.reduceLE, Int.reduceAdd, Int.reduceMul, Int.reduceNeg, if_pos, if_neg, hL.1, hL.2]
theorem m16 {dd : Nat} {h : ab_H} {d s : Int} (hR : cs_R h) (h1 : 0 ≤ d) (h2 : d < ab_gi h 1 0) (h3 : 0 ≤ s) (h4 : s < ab_gi h 1 1) :
    ab_E B (dd + 3) 16 0 [some (.inr (.inr (.inl (some 1)))), some (.inl d), some (.inl s)] [] h = some (.inl (some (.inl (if cs_b h d s = 1 ∧ 1 < cs_bc h s then 1 else 0))), h) := by
  have hL := hR.1
  have hbc := cs_bc_le hR s
  rcases cs_b01 h d s with hb | hb
  · simp (disch := omega) only [e16_0, e16_1, e16_2, e16_3, e16_6, e16_9, e16_10, e16_11, e16_14, e16_15, e16_18, e16_19, e16_22, e16_23, Option.isNone_some, Option.isNone_none, ab_bh_some, ab_bh_thr, ab_gs_3, ab_gl_2, ab_gl_3, ab_gt_some, ab_gc_0, ab_gk_0, Bool.false_eq_true, Nat.reduceEqDiff, ab_ge, ab_lt, ab_le, ab_gt, ab_eq, ab_ne, decide_eq_true_eq, ab_w_id, ab_w0, ab_gd_some, ab_gs_0, ab_gs_1, ab_gl_0, ab_gl_1, ab_bv_some, ab_bu_some, ab_bv_thr, ab_bu_thr, ab_fx_n, ab_fx_i, ab_fx_q, ab_fx_l, ab_sh_si, ab_gr_si, ab_gl_si, cs_n, ↓reduceIte, true_or, or_true, false_or, or_false, and_true, true_and, and_false, false_and, not_true_eq_false, not_false_eq_true, eq_self, Int.reduceEq, Int.reduceLT, Int.reduceLE, Int.reduceAdd, Int.reduceMul, Int.reduceNeg, if_pos, if_neg, hL.1, hL.2, m15 hR h1 h2 h3 h4, hb]
  · by_cases c : 1 < cs_bc h s
    · simp (disch := omega) only [e16_0, e16_1, e16_2, e16_3, e16_6, e16_9, e16_10, e16_11, e16_14, e16_15, e16_18, e16_19, e16_22, e16_23, Option.isNone_some, Option.isNone_none, ab_bh_some, ab_bh_thr, ab_gs_3, ab_gl_2, ab_gl_3, ab_gt_some, ab_gc_0, ab_gk_0, Bool.false_eq_true, Nat.reduceEqDiff, ab_ge, ab_lt, ab_le, ab_gt, ab_eq, ab_ne, decide_eq_true_eq, ab_w_id, ab_w0, ab_gd_some, ab_gs_0, ab_gs_1, ab_gl_0, ab_gl_1, ab_bv_some, ab_bu_some, ab_bv_thr, ab_bu_thr, ab_fx_n, ab_fx_i, ab_fx_q, ab_fx_l, ab_sh_si, ab_gr_si, ab_gl_si, cs_n, ↓reduceIte, true_or, or_true, false_or, or_false, and_true, true_and, and_false, false_and, not_true_eq_false, not_false_eq_true, eq_self, Int.reduceEq, Int.reduceLT, Int.reduceLE, Int.reduceAdd, Int.reduceMul, Int.reduceNeg, if_pos, if_neg, hL.1, hL.2, m15 hR h1 h2 h3 h4, hb, m17 hR h3 h4, c]
    · have c' : cs_bc h s ≤ 1 := by omega
      simp (disch := omega) only [e16_0, e16_1, e16_2, e16_3, e16_6, e16_9, e16_10, e16_11, e16_14, e16_15, e16_18, e16_19, e16_22, e16_23, Option.isNone_some, Option.isNone_none, ab_bh_some, ab_bh_thr, ab_gs_3, ab_gl_2, ab_gl_3, ab_gt_some, ab_gc_0, ab_gk_0, Bool.false_eq_true, Nat.reduceEqDiff, ab_ge, ab_lt, ab_le, ab_gt, ab_eq, ab_ne, decide_eq_true_eq, ab_w_id, ab_w0, ab_gd_some, ab_gs_0, ab_gs_1, ab_gl_0, ab_gl_1, ab_bv_some, ab_bu_some, ab_bv_thr, ab_bu_thr, ab_fx_n, ab_fx_i, ab_fx_q, ab_fx_l, ab_sh_si, ab_gr_si, ab_gl_si, cs_n, ↓reduceIte, true_or, or_true, false_or, or_false, and_true, true_and, and_false, false_and, not_true_eq_false, not_false_eq_true, eq_self, Int.reduceEq, Int.reduceLT, Int.reduceLE, Int.reduceAdd, Int.reduceMul, Int.reduceNeg, if_pos, if_neg, hL.1, hL.2, m15 hR h1 h2 h3 h4, hb, m17 hR h3 h4, c, c']
/-- acc XOR f i XOR f (i + 1) .., k of them -/
def cs_xf (f : Int → Int) : Int → Int → Nat → Int
  | acc, _, 0 => acc
  | acc, i, k + 1 => cs_xf f (ab_ixor acc (f i)) (i + 1) k
theorem cs_xf_rng {f : Int → Int} (hf : ∀ i, 0 ≤ f i ∧ f i ≤ 255) : ∀ (k : Nat) (acc i : Int), 0 ≤ acc → acc ≤ 255 → 0 ≤ cs_xf f acc i k ∧ cs_xf f acc i k ≤ 255
  | 0, acc, i, h1, h2 => ⟨h1, h2⟩
  | k + 1, acc, i, h1, h2 => by
    have h3 := ab_ixor_rng h1 h2 (hf i).1 (hf i).2
    exact cs_xf_rng hf k _ _ h3.1 h3.2
/-- XOR of all others of the stripe -/
def cs_xo (h : ab_H) (d s : Int) : Int := cs_xf (fun o => if o = d then 0 else ab_gi h 2 (o * 8 + s)) 0 0 (ab_gi h 1 0).toNat
theorem m25_loop {dd : Nat} {h : ab_H} {d s : Int} (hR : cs_R h) (h1 : 0 ≤ d) (h2 : d < ab_gi h 1 0) (h3 : 0 ≤ s) (h4 : s < ab_gi h 1 1) : ∀ (k : Nat) (i c : Int), 0 ≤ i → i + k = ab_gi h 1 0 →
    ab_E B (dd + 2) 25 5 [some (.inr (.inr (.inl (some 1)))), some (.inl d), some (.inl s), some (.inl c), some (.inl i)] [] h = some (.inl (some (.inl (cs_xf (fun o => if o = d then 0 else ab_gi h 2 (o * 8 + s)) c i k))), h)
  | 0, i, c, q1, q2 => by
    have hL := hR.1
    have hDS := hR.2.1
    rw [e25_5]
    simp (disch := omega) only [e25_0, e25_1, e25_2, e25_3, e25_7, e25_8, e25_11, e25_14, e25_15, e25_17, e25_18, e25_21, e25_22, e25_25, e25_26, e25_28, e25_29, e25_32, e25_33, e25_34, e25_37, e25_40, e25_41, Option.isNone_some, Option.isNone_none, ab_bh_some, ab_bh_thr, ab_gs_3, ab_gl_2, ab_gl_3, ab_gt_some, ab_gc_0, ab_gk_0, Bool.false_eq_true, Nat.reduceEqDiff, ab_ge, ab_lt, ab_le, ab_gt, ab_eq, ab_ne, decide_eq_true_eq, ab_w_id, ab_w0, ab_gd_some, ab_gs_0, ab_gs_1, ab_gl_0, ab_gl_1, ab_bv_some, ab_bu_some, ab_bv_thr, ab_bu_thr, ab_fx_n, ab_fx_i, ab_fx_q, ab_fx_l, ab_sh_si, ab_gr_si, ab_gl_si, cs_n, ↓reduceIte, true_or, or_true, false_or, or_false, and_true, true_and, and_false, false_and, not_true_eq_false, not_false_eq_true, eq_self, Int.reduceEq, Int.reduceLT, Int.reduceLE, Int.reduceAdd, Int.reduceMul, Int.reduceNeg, if_pos, if_neg, hL.1, hL.2]
    rfl
  | k + 1, i, c, q1, q2 => by
    have hL := hR.1
    have hDS := hR.2.1
    rw [e25_5]
    by_cases c0 : i = d
    · subst c0
      simp (disch := omega) only [e25_0, e25_1, e25_2, e25_3, e25_7, e25_8, e25_11, e25_14, e25_15, e25_17, e25_18, e25_21, e25_22, e25_25, e25_26, e25_28, e25_29, e25_32, e25_33, e25_34, e25_37, e25_40, e25_41, Option.isNone_some, Option.isNone_none, ab_bh_some, ab_bh_thr, ab_gs_3, ab_gl_2, ab_gl_3, ab_gt_some, ab_gc_0, ab_gk_0, Bool.false_eq_true, Nat.reduceEqDiff, ab_ge, ab_lt, ab_le, ab_gt, ab_eq, ab_ne, decide_eq_true_eq, ab_w_id, ab_w0, ab_gd_some, ab_gs_0, ab_gs_1, ab_gl_0, ab_gl_1, ab_bv_some, ab_bu_some, ab_bv_thr, ab_bu_thr, ab_fx_n, ab_fx_i, ab_fx_q, ab_fx_l, ab_sh_si, ab_gr_si, ab_gl_si, cs_n, ↓reduceIte, true_or, or_true, false_or, or_false, and_true, true_and, and_false, false_and, not_true_eq_false, not_false_eq_true, eq_self, Int.reduceEq, Int.reduceLT, Int.reduceLE, Int.reduceAdd, Int.reduceMul, Int.reduceNeg, if_pos, if_neg, hL.1, hL.2]
      rw [m25_loop hR h1 h2 h3 h4 k (i + 1) _ (by omega) (by omega)]
      simp only [cs_xf, ↓reduceIte]
    · simp (disch := omega) only [e25_0, e25_1, e25_2, e25_3, e25_7, e25_8, e25_11, e25_14, e25_15, e25_17, e25_18, e25_21, e25_22, e25_25, e25_26, e25_28, e25_29, e25_32, e25_33, e25_34, e25_37, e25_40, e25_41, Option.isNone_some, Option.isNone_none, ab_bh_some, ab_bh_thr, ab_gs_3, ab_gl_2, ab_gl_3, ab_gt_some, ab_gc_0, ab_gk_0, Bool.false_eq_true, Nat.reduceEqDiff, ab_ge, ab_lt, ab_le, ab_gt, ab_eq, ab_ne, decide_eq_true_eq, ab_w_id, ab_w0, ab_gd_some, ab_gs_0, ab_gs_1, ab_gl_0, ab_gl_1, ab_bv_some, ab_bu_some, ab_bv_thr, ab_bu_thr, ab_fx_n, ab_fx_i, ab_fx_q, ab_fx_l, ab_sh_si, ab_gr_si, ab_gl_si, cs_n, ↓reduceIte, true_or, or_true, false_or, or_false, and_true, true_and, and_false, false_and, not_true_eq_false, not_false_eq_true, eq_self, Int.reduceEq, Int.reduceLT, Int.reduceLE, Int.reduceAdd, Int.reduceMul, Int.reduceNeg, if_pos, if_neg, hL.1, hL.2, m11 hL (show ab_gi h 1 0 ≤ 5 by omega) (show ab_gi h 1 1 ≤ 8 by omega) q1 (show i < ab_gi h 1 0 by omega) h3 h4, c0]
      rw [m25_loop hR h1 h2 h3 h4 k (i + 1) _ (by omega) (by omega)]
      simp only [cs_xf, c0, ↓reduceIte]
theorem m25 {dd : Nat} {h : ab_H} {d s : Int} (hR : cs_R h) (h1 : 0 ≤ d) (h2 : d < ab_gi h 1 0) (h3 : 0 ≤ s) (h4 : s < ab_gi h 1 1) :
    ab_E B (dd + 2) 25 0 [some (.inr (.inr (.inl (some 1)))), some (.inl d), some (.inl s), none, none] [] h = some (.inl (some (.inl (cs_xo h d s))), h) := by
  have hDS := hR.2.1
  simp (disch := omega) only [e25_0, e25_1, e25_2, e25_3, e25_7, e25_8, e25_11, e25_14, e25_15, e25_17, e25_18, e25_21, e25_22, e25_25, e25_26, e25_28, e25_29, e25_32, e25_33, e25_34, e25_37, e25_40, e25_41, Option.isNone_some, Option.isNone_none, ab_bh_some, ab_bh_thr, ab_gs_3, ab_gl_2, ab_gl_3, ab_gt_some, ab_gc_0, ab_gk_0, Bool.false_eq_true, Nat.reduceEqDiff, ab_ge, ab_lt, ab_le, ab_gt, ab_eq, ab_ne, decide_eq_true_eq, ab_w_id, ab_w0, ab_gd_some, ab_gs_0, ab_gs_1, ab_gl_0, ab_gl_1, ab_bv_some, ab_bu_some, ab_bv_thr, ab_bu_thr, ab_fx_n, ab_fx_i, ab_fx_q, ab_fx_l, ab_sh_si, ab_gr_si, ab_gl_si, cs_n, ↓reduceIte, true_or, or_true, false_or, or_false, and_true, true_and, and_false, false_and, not_true_eq_false, not_false_eq_true, eq_self, Int.reduceEq, Int.reduceLT, Int.reduceLE, Int.reduceAdd, Int.reduceMul, Int.reduceNeg, if_pos, if_neg]
  rw [m25_loop hR h1 h2 h3 h4 (ab_gi h 1 0).toNat 0 0 (by omega) (by omega)]
  rfl
/-- what a cell has, or should have; NONE of a lost one -/
def cs_sh (h : ab_H) (d s : Int) : Int := if cs_b h d s = 0 then ab_gi h 2 (d * 8 + s) else if 1 < cs_bc h s then -1 else cs_xo h d s
theorem m24 {dd : Nat} {h : ab_H} {d s : Int} (hR : cs_R h) (h1 : 0 ≤ d) (h2 : d < ab_gi h 1 0) (h3 : 0 ≤ s) (h4 : s < ab_gi h 1 1) :
    ab_E B (dd + 3) 24 0 [some (.inr (.inr (.inl (some 1)))), some (.inl d), some (.inl s)] [] h = some (.inl (some (.inl (cs_sh h d s))), h) := by
  have hL := hR.1
  have hDS := hR.2.1
  have hbc := cs_bc_le hR s
  unfold cs_sh
  rcases cs_b01 h d s with hb | hb
  · simp (disch := omega) only [e24_0, e24_1, e24_2, e24_3, e24_6, e24_9, e24_10, e24_11, e24_12, e24_15, e24_16, e24_17, e24_18, e24_21, e24_22, e24_25, e24_26, e24_29, e24_30, e24_31, e24_32, e24_35, Option.isNone_some, Option.isNone_none, ab_bh_some, ab_bh_thr, ab_gs_3, ab_gl_2, ab_gl_3, ab_gt_some, ab_gc_0, ab_gk_0, Bool.false_eq_true, Nat.reduceEqDiff, ab_ge, ab_lt, ab_le, ab_gt, ab_eq, ab_ne, decide_eq_true_eq, ab_w_id, ab_w0, ab_gd_some, ab_gs_0, ab_gs_1, ab_gl_0, ab_gl_1, ab_bv_some, ab_bu_some, ab_bv_thr, ab_bu_thr, ab_fx_n, ab_fx_i, ab_fx_q, ab_fx_l, ab_sh_si, ab_gr_si, ab_gl_si, cs_n, ↓reduceIte, true_or, or_true, false_or, or_false, and_true, true_and, and_false, false_and, not_true_eq_false, not_false_eq_true, eq_self, Int.reduceEq, Int.reduceLT, Int.reduceLE, Int.reduceAdd, Int.reduceMul, Int.reduceNeg, if_pos, if_neg, hL.1, hL.2, m15 hR h1 h2 h3 h4, hb, m11 hL (show ab_gi h 1 0 ≤ 5 by omega) (show ab_gi h 1 1 ≤ 8 by omega) h1 h2 h3 h4]
  · by_cases c : 1 < cs_bc h s
    · simp (disch := omega) only [e24_0, e24_1, e24_2, e24_3, e24_6, e24_9, e24_10, e24_11, e24_12, e24_15, e24_16, e24_17, e24_18, e24_21, e24_22, e24_25, e24_26, e24_29, e24_30, e24_31, e24_32, e24_35, Option.isNone_some, Option.isNone_none, ab_bh_some, ab_bh_thr, ab_gs_3, ab_gl_2, ab_gl_3, ab_gt_some, ab_gc_0, ab_gk_0, Bool.false_eq_true, Nat.reduceEqDiff, ab_ge, ab_lt, ab_le, ab_gt, ab_eq, ab_ne, decide_eq_true_eq, ab_w_id, ab_w0, ab_gd_some, ab_gs_0, ab_gs_1, ab_gl_0, ab_gl_1, ab_bv_some, ab_bu_some, ab_bv_thr, ab_bu_thr, ab_fx_n, ab_fx_i, ab_fx_q, ab_fx_l, ab_sh_si, ab_gr_si, ab_gl_si, cs_n, ↓reduceIte, true_or, or_true, false_or, or_false, and_true, true_and, and_false, false_and, not_true_eq_false, not_false_eq_true, eq_self, Int.reduceEq, Int.reduceLT, Int.reduceLE, Int.reduceAdd, Int.reduceMul, Int.reduceNeg, if_pos, if_neg, hL.1, hL.2, m15 hR h1 h2 h3 h4, hb, m17 hR h3 h4, c]
    · have c' : cs_bc h s ≤ 1 := by omega
      simp (disch := omega) only [e24_0, e24_1, e24_2, e24_3, e24_6, e24_9, e24_10, e24_11, e24_12, e24_15, e24_16, e24_17, e24_18, e24_21, e24_22, e24_25, e24_26, e24_29, e24_30, e24_31, e24_32, e24_35, Option.isNone_some, Option.isNone_none, ab_bh_some, ab_bh_thr, ab_gs_3, ab_gl_2, ab_gl_3, ab_gt_some, ab_gc_0, ab_gk_0, Bool.false_eq_true, Nat.reduceEqDiff, ab_ge, ab_lt, ab_le, ab_gt, ab_eq, ab_ne, decide_eq_true_eq, ab_w_id, ab_w0, ab_gd_some, ab_gs_0, ab_gs_1, ab_gl_0, ab_gl_1, ab_bv_some, ab_bu_some, ab_bv_thr, ab_bu_thr, ab_fx_n, ab_fx_i, ab_fx_q, ab_fx_l, ab_sh_si, ab_gr_si, ab_gl_si, cs_n, ↓reduceIte, true_or, or_true, false_or, or_false, and_true, true_and, and_false, false_and, not_true_eq_false, not_false_eq_true, eq_self, Int.reduceEq, Int.reduceLT, Int.reduceLE, Int.reduceAdd, Int.reduceMul, Int.reduceNeg, if_pos, if_neg, hL.1, hL.2, m15 hR h1 h2 h3 h4, hb, m17 hR h3 h4, c, c', m25 hR h1 h2 h3 h4]
/-- v is laid into the cell -/
def cs_lay (h : ab_H) (d s v : Int) : ab_H := if ab_gi h 5 d = 1 then h else ab_si (ab_si h 2 (d * 8 + s) v) 3 (d * 8 + s) ((7 * v + s) % 256)
theorem m26 {dd : Nat} {h : ab_H} {d s v : Int} (hL : cs_L h) (hD : ab_gi h 1 0 ≤ 5) (hS : ab_gi h 1 1 ≤ 8) (hF : ab_gi h 5 d = 0 ∨ ab_gi h 5 d = 1) (h1 : 0 ≤ d) (h2 : d < ab_gi h 1 0) (h3 : 0 ≤ s) (h4 : s < ab_gi h 1 1) (v1 : 0 ≤ v) (v2 : v ≤ 255) :
    ab_E B (dd + 1) 26 0 [some (.inr (.inr (.inl (some 1)))), some (.inl d), some (.inl s), some (.inl v), none] [] h = some (.inl none, cs_lay h d s v) := by
  unfold cs_lay
  rcases hF with hb | hb
  · simp (disch := omega) only [e26_0, e26_1, e26_2, e26_3, e26_6, e26_8, e26_10, e26_11, e26_14, e26_15, e26_16, e26_19, e26_22, e26_23, e26_26, e26_28, e26_29, e26_30, e26_31, e26_34, e26_36, e26_37, e26_38, e26_39, e26_42, e26_43, Option.isNone_some, Option.isNone_none, ab_bh_some, ab_bh_thr, ab_gs_3, ab_gl_2, ab_gl_3, ab_gt_some, ab_gc_0, ab_gk_0, Bool.false_eq_true, Nat.reduceEqDiff, ab_ge, ab_lt, ab_le, ab_gt, ab_eq, ab_ne, decide_eq_true_eq, ab_w_id, ab_w0, ab_gd_some, ab_gs_0, ab_gs_1, ab_gl_0, ab_gl_1, ab_bv_some, ab_bu_some, ab_bv_thr, ab_bu_thr, ab_fx_n, ab_fx_i, ab_fx_q, ab_fx_l, ab_sh_si, ab_gr_si, ab_gl_si, cs_n, ↓reduceIte, true_or, or_true, false_or, or_false, and_true, true_and, and_false, false_and, not_true_eq_false, not_false_eq_true, eq_self, Int.reduceEq, Int.reduceLT, Int.reduceLE, Int.reduceAdd, Int.reduceMul, Int.reduceNeg, if_pos, if_neg, hL.1, hL.2, m35 hL hD hS h1 h2 h3 h4, m13 hL h1 (show d < 5 by omega) (Or.inl hb), hb, m34 v1 v2 h3 (show s ≤ 8 by omega)]
  · simp (disch := omega) only [e26_0, e26_1, e26_2, e26_3, e26_6, e26_8, e26_10, e26_11, e26_14, e26_15, e26_16, e26_19, e26_22, e26_23, e26_26, e26_28, e26_29, e26_30, e26_31, e26_34, e26_36, e26_37, e26_38, e26_39, e26_42, e26_43, Option.isNone_some, Option.isNone_none, ab_bh_some, ab_bh_thr, ab_gs_3, ab_gl_2, ab_gl_3, ab_gt_some, ab_gc_0, ab_gk_0, Bool.false_eq_true, Nat.reduceEqDiff, ab_ge, ab_lt, ab_le, ab_gt, ab_eq, ab_ne, decide_eq_true_eq, ab_w_id, ab_w0, ab_gd_some, ab_gs_0, ab_gs_1, ab_gl_0, ab_gl_1, ab_bv_some, ab_bu_some, ab_bv_thr, ab_bu_thr, ab_fx_n, ab_fx_i, ab_fx_q, ab_fx_l, ab_sh_si, ab_gr_si, ab_gl_si, cs_n, ↓reduceIte, true_or, or_true, false_or, or_false, and_true, true_and, and_false, false_and, not_true_eq_false, not_false_eq_true, eq_self, Int.reduceEq, Int.reduceLT, Int.reduceLE, Int.reduceAdd, Int.reduceMul, Int.reduceNeg, if_pos, if_neg, hL.1, hL.2, m35 hL hD hS h1 h2 h3 h4, m13 hL h1 (show d < 5 by omega) (Or.inr hb), hb]
end
