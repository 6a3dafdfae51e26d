set_option linter.all false
/-! THE CONSTRUCTORS -/
section
variable {B : ab_B}
theorem ab_n_sr (h : ab_H) (c : Nat) (k : Int) (v : Option Nat) : ab_n (ab_sr h c k v) = ab_n h := rfl
theorem ab_n_si (h : ab_H) (c : Nat) (k v : Int) : ab_n (ab_si h c k v) = ab_n h := rfl
theorem cs_at0 {α : Type} (x : α) (l : List α) : (x :: l)[0]? = some x := rfl
theorem cs_atS {α : Type} (x : α) (l : List α) (n : Nat) : (x :: l)[n + 1]? = l[n]? := rfl
def cs_k0 (h : ab_H) : ab_H := (ab_sr (ab_new (ab_sr (ab_new (ab_sr (ab_new (ab_sr (ab_new (ab_sr (ab_new h 0 40) 1 2 (some 2)) 0 40) 1 3 (some 3)) 0 40) 1 4 (some 4)) 1 5) 1 5 (some 5)) 0 5) 1 6 (some 6))
def cs_k1 (h : ab_H) : ab_H := (ab_sr (ab_new (ab_sr (ab_new (ab_sr (ab_new (ab_sr (ab_new (ab_sr (ab_new (ab_sr (ab_new (ab_sr (ab_new (ab_si (ab_sr (ab_si (ab_si (ab_si (ab_si (ab_si (ab_new (ab_sr (ab_si (ab_si (ab_si (ab_si (ab_si (ab_new (ab_sr (ab_si (ab_si (ab_si (ab_si (ab_si (ab_new (ab_si h 7 0 (30)) 0 5) 8 0 (10)) 8 1 (10)) 8 2 (10)) 8 3 (10)) 8 4 (10)) 7 3 (some 8)) 0 5) 9 0 (3)) 9 1 (3)) 9 2 (3)) 9 3 (3)) 9 4 (3)) 7 4 (some 9)) 0 5) 10 0 (2)) 10 1 (2)) 10 2 (2)) 10 3 (2)) 10 4 (2)) 7 5 (some 10)) 7 6 (-1)) 0 5) 7 7 (some 11)) 0 5) 7 8 (some 12)) 0 5) 7 9 (some 13)) 0 5) 7 10 (some 14)) 0 5) 7 11 (some 15)) 0 100) 7 13 (some 16)) 0 5) 7 14 (some 17))
theorem m0 {dd : Nat} {h : ab_H} (hs : ab_sh h = [(6, 13), (4, 7)]) (hn : ab_n h = 2) :
    ab_E B dd 0 0 [some (.inr (.inr (.inl (some 1))))] [] h = some (.inl none, cs_k0 h) := by
  unfold cs_k0
  simp (disch := omega) only [e0_0, e0_1, e0_4, e0_5, e0_7, e0_9, e0_12, e0_13, e0_15, e0_17, e0_20, e0_21, e0_23, e0_25, e0_28, e0_29, e0_30, e0_32, e0_35, e0_36, e0_37, e0_39, e0_42, implies_true, Int.reduceSub, Option.isNone_some, Option.isNone_none, ab_bh_some, ab_bh_thr, ab_gs_3, ab_gl_2, ab_gl_3, ab_gt_some, ab_gc_0, ab_gk_0, Bool.false_eq_true, Bool.true_eq_false, false_implies, Nat.reduceEqDiff, ab_ge, ab_lt, ab_le, ab_gt, ab_eq, ab_ne, decide_eq_true_eq, ab_w_id, ab_w0, ab_gd_some, ab_gs_0, ab_gs_1, ab_gl_0, ab_gl_1, ab_bv_some, ab_bu_some, ab_bv_thr, ab_bu_thr, ab_fx_n, ab_fx_i, ab_fx_q, ab_fx_l, ab_sh_si, ab_gr_si, ab_gl_si, cs_n, ↓reduceIte, true_or, or_true, false_or, or_false, and_true, true_and, and_false, false_and, not_true_eq_false, not_false_eq_true, eq_self, Int.reduceEq, Int.reduceLT, Int.reduceLE, Int.reduceAdd, Int.reduceMul, Int.reduceNeg, if_pos, if_neg, ab_sh_new, ab_sh_sr, ab_sh_si, ab_new_n, ab_n_sr, ab_n_si, List.nil_append, List.cons_append, Nat.reduceAdd, Nat.reduceMul, Int.reduceToNat, hs, hn, cs_at0, cs_atS]

theorem m36 {dd : Nat} {h : ab_H} (hs : ab_sh h = [(6, 13), (4, 7), (0, 40), (0, 40), (0, 40), (1, 5), (0, 5), (5, 15)]) (hn : ab_n h = 8) :
    ab_E B dd 36 0 [some (.inr (.inr (.inl (some 7))))] [] h = some (.inl none, cs_k1 h) := by
  unfold cs_k1
  simp (disch := omega) only [e36_0, e36_1, e36_4, e36_5, e36_7, e36_10, e36_11, e36_12, e36_14, e36_15, e36_16, e36_18, e36_19, e36_20, e36_21, e36_23, e36_24, e36_25, e36_26, e36_28, e36_29, e36_30, e36_31, e36_33, e36_34, e36_35, e36_36, e36_38, e36_39, e36_42, e36_43, e36_44, e36_46, e36_47, e36_48, e36_49, e36_50, e36_51, e36_52, e36_53, e36_54, e36_55, e36_56, e36_57, e36_58, e36_59, e36_60, e36_61, e36_62, e36_63, e36_64, e36_65, e36_66, e36_69, e36_70, e36_71, e36_73, e36_74, e36_75, e36_76, e36_77, e36_78, e36_79, e36_80, e36_81, e36_82, e36_83, e36_84, e36_85, e36_86, e36_87, e36_88, e36_89, e36_90, e36_91, e36_92, e36_93, e36_96, e36_97, e36_98, e36_101, e36_102, e36_103, e36_105, e36_108, e36_109, e36_110, e36_112, e36_115, e36_116, e36_117, e36_119, e36_122, e36_123, e36_124, e36_126, e36_129, e36_130, e36_131, e36_133, e36_136, e36_137, e36_139, e36_141, e36_144, e36_145, e36_146, e36_148, e36_151, implies_true, Int.reduceSub, Option.isNone_some, Option.isNone_none, ab_bh_some, ab_bh_thr, ab_gs_3, ab_gl_2, ab_gl_3, ab_gt_some, ab_gc_0, ab_gk_0, Bool.false_eq_true, Bool.true_eq_false, false_implies, Nat.reduceEqDiff, ab_ge, ab_lt, ab_le, ab_gt, ab_eq, ab_ne, decide_eq_true_eq, ab_w_id, ab_w0, ab_gd_some, ab_gs_0, ab_gs_1, ab_gl_0, ab_gl_1, ab_bv_some, ab_bu_some, ab_bv_thr, ab_bu_thr, ab_fx_n, ab_fx_i, ab_fx_q, ab_fx_l, ab_sh_si, ab_gr_si, ab_gl_si, cs_n, ↓reduceIte, true_or, or_true, false_or, or_false, and_true, true_and, and_false, false_and, not_true_eq_false, not_false_eq_true, eq_self, Int.reduceEq, Int.reduceLT, Int.reduceLE, Int.reduceAdd, Int.reduceMul, Int.reduceNeg, if_pos, if_neg, ab_sh_new, ab_sh_sr, ab_sh_si, ab_new_n, ab_n_sr, ab_n_si, List.nil_append, List.cons_append, Nat.reduceAdd, Nat.reduceMul, Int.reduceToNat, hs, hn, cs_at0, cs_atS]

def cs_k2 (h : ab_H) : ab_H := ab_si (ab_si (ab_si (ab_sr (cs_k1 (ab_new (ab_sr (cs_k0 (ab_new h 4 7)) 0 0 (some 1)) 5 15)) 0 1 (some 7)) 0 3 (-1)) 0 4 (-1)) 0 5 (-1)
theorem m60 {dd : Nat} {h : ab_H} (hs : ab_sh h = [(6, 13)]) (hn : ab_n h = 1) :
    ab_E B (dd + 1) 60 0 [some (.inr (.inr (.inl (some 0))))] [] h = some (.inl none, cs_k2 h) := by
  have hs1 : ab_sh (ab_new h 4 7) = [(6, 13), (4, 7)] := by rw [ab_sh_new, hs]; rfl
  have hn1 : ab_n (ab_new h 4 7) = 2 := by rw [ab_new_n, hn]
  have hs2 : ab_sh (cs_k0 (ab_new h 4 7)) = [(6, 13), (4, 7), (0, 40), (0, 40), (0, 40), (1, 5), (0, 5)] := by
    unfold cs_k0
    simp only [ab_sh_new, ab_sh_sr, ab_sh_si, ab_new_n, ab_n_sr, ab_n_si, List.nil_append, List.cons_append, Nat.reduceAdd, Nat.reduceMul, Int.reduceToNat, hs1]
  have hn2 : ab_n (cs_k0 (ab_new h 4 7)) = 7 := by unfold ab_n; rw [hs2]; rfl
  have hs3 : ab_sh (ab_new (ab_sr (cs_k0 (ab_new h 4 7)) 0 0 (some 1)) 5 15) = [(6, 13), (4, 7), (0, 40), (0, 40), (0, 40), (1, 5), (0, 5), (5, 15)] := by rw [ab_sh_new, ab_sh_sr, hs2]; rfl
  have hn3 : ab_n (ab_new (ab_sr (cs_k0 (ab_new h 4 7)) 0 0 (some 1)) 5 15) = 8 := by rw [ab_new_n, ab_n_sr, hn2]
  have hs4 : ab_sh (cs_k1 (ab_new (ab_sr (cs_k0 (ab_new h 4 7)) 0 0 (some 1)) 5 15)) = [(6, 13), (4, 7), (0, 40), (0, 40), (0, 40), (1, 5), (0, 5), (5, 15), (0, 5), (0, 5), (0, 5), (0, 5), (0, 5), (0, 5), (0, 5), (0, 5), (0, 100), (0, 5)] := by
    unfold cs_k1
    simp only [ab_sh_new, ab_sh_sr, ab_sh_si, ab_new_n, ab_n_sr, ab_n_si, List.nil_append, List.cons_append, Nat.reduceAdd, Nat.reduceMul, Int.reduceToNat, hs3]
  unfold cs_k2
  simp (disch := omega) only [e60_0, e60_1, e60_4, e60_5, e60_8, e60_9, e60_12, e60_15, e60_16, e60_19, e60_20, e60_23, e60_26, e60_27, e60_28, e60_31, e60_32, e60_33, e60_36, e60_37, e60_38, e60_41, implies_true, Int.reduceSub, Option.isNone_some, Option.isNone_none, ab_bh_some, ab_bh_thr, ab_gs_3, ab_gl_2, ab_gl_3, ab_gt_some, ab_gc_0, ab_gk_0, Bool.false_eq_true, Bool.true_eq_false, false_implies, Nat.reduceEqDiff, ab_ge, ab_lt, ab_le, ab_gt, ab_eq, ab_ne, decide_eq_true_eq, ab_w_id, ab_w0, ab_gd_some, ab_gs_0, ab_gs_1, ab_gl_0, ab_gl_1, ab_bv_some, ab_bu_some, ab_bv_thr, ab_bu_thr, ab_fx_n, ab_fx_i, ab_fx_q, ab_fx_l, ab_sh_si, ab_gr_si, ab_gl_si, cs_n, ↓reduceIte, true_or, or_true, false_or, or_false, and_true, true_and, and_false, false_and, not_true_eq_false, not_false_eq_true, eq_self, Int.reduceEq, Int.reduceLT, Int.reduceLE, Int.reduceAdd, Int.reduceMul, Int.reduceNeg, if_pos, if_neg, ab_sh_new, ab_sh_sr, ab_sh_si, ab_new_n, ab_n_sr, ab_n_si, List.nil_append, List.cons_append, Nat.reduceAdd, Nat.reduceMul, Int.reduceToNat, hs, hn, hn2, hs2, hs4, m0 hs1 hn1, m36 hs3 hn3, cs_at0, cs_atS]
end
