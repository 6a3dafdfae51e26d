set_option linter.all false
/-! THE CLASS'S DEEDS: shelf, kind, fuse, off, power, boot, knock -/
section
variable {B : ab_B}
theorem m61_1 {dd : Nat} {D S : Int} {h : ab_H} (d1 : -2147483648 ≤ D) (d2 : D < 2147483648) (s1 : -2147483648 ≤ S) (s2 : S < 2147483648) (hn : ¬ ((3 ≤ D ∧ D ≤ 5) ∧ (1 ≤ S ∧ S ≤ 8))) :
    ab_E B dd 61 0 [some (.inr (.inr (.inl (some 0)))), some (.inl D), some (.inl S)] [] h = some (.inr 1, ab_cost h 1 6) := by
  by_cases c1 : D < 3
  · simp (disch := omega) only [e61_0, e61_1, e61_2, e61_5, e61_6, e61_7, e61_10, e61_20, e61_21, e61_22, e61_25, e61_26, e61_28, e61_31, e61_41, e61_42, e61_45, e61_46, e61_47, e61_50, e61_51, e61_54, e61_55, e61_58, e61_59, e61_60, e61_63, e61_64, e61_67, e61_68, e61_69, e61_72, e61_73, e61_74, e61_77, e61_78, e61_79, e61_82, e61_83, e61_84, e61_87, e61_88, e61_89, e61_92, e61_93, e61_94, e61_97, e61_98, e61_101, e61_104, implies_true, Int.reduceSub, Option.isNone_some, Option.isNone_none, ab_bh_some, ab_bh_thr, ab_gs_3, ab_gl_2, ab_gl_3, ab_gt_some, ab_gc_0, ab_gk_0, Bool.false_eq_true, Bool.true_eq_false, false_implies, Nat.reduceEqDiff, ab_ge, ab_lt, ab_le, ab_gt, ab_eq, ab_ne, decide_eq_true_eq, ab_w_id, ab_w0, ab_gd_some, ab_gs_0, ab_gs_1, ab_gl_0, ab_gl_1, ab_bv_some, ab_bu_some, ab_bv_thr, ab_bu_thr, ab_fx_n, ab_fx_i, ab_fx_q, ab_fx_l, ab_sh_si, ab_gr_si, ab_gl_si, cs_n, ↓reduceIte, true_or, or_true, false_or, or_false, and_true, true_and, and_false, false_and, not_true_eq_false, not_false_eq_true, eq_self, Int.reduceEq, Int.reduceLT, Int.reduceLE, Int.reduceAdd, Int.reduceMul, Int.reduceNeg, if_pos, if_neg]
  · by_cases c2 : 5 < D
    · simp (disch := omega) only [e61_0, e61_1, e61_2, e61_5, e61_6, e61_7, e61_10, e61_20, e61_21, e61_22, e61_25, e61_26, e61_28, e61_31, e61_41, e61_42, e61_45, e61_46, e61_47, e61_50, e61_51, e61_54, e61_55, e61_58, e61_59, e61_60, e61_63, e61_64, e61_67, e61_68, e61_69, e61_72, e61_73, e61_74, e61_77, e61_78, e61_79, e61_82, e61_83, e61_84, e61_87, e61_88, e61_89, e61_92, e61_93, e61_94, e61_97, e61_98, e61_101, e61_104, implies_true, Int.reduceSub, Option.isNone_some, Option.isNone_none, ab_bh_some, ab_bh_thr, ab_gs_3, ab_gl_2, ab_gl_3, ab_gt_some, ab_gc_0, ab_gk_0, Bool.false_eq_true, Bool.true_eq_false, false_implies, Nat.reduceEqDiff, ab_ge, ab_lt, ab_le, ab_gt, ab_eq, ab_ne, decide_eq_true_eq, ab_w_id, ab_w0, ab_gd_some, ab_gs_0, ab_gs_1, ab_gl_0, ab_gl_1, ab_bv_some, ab_bu_some, ab_bv_thr, ab_bu_thr, ab_fx_n, ab_fx_i, ab_fx_q, ab_fx_l, ab_sh_si, ab_gr_si, ab_gl_si, cs_n, ↓reduceIte, true_or, or_true, false_or, or_false, and_true, true_and, and_false, false_and, not_true_eq_false, not_false_eq_true, eq_self, Int.reduceEq, Int.reduceLT, Int.reduceLE, Int.reduceAdd, Int.reduceMul, Int.reduceNeg, if_pos, if_neg]
    · by_cases c3 : S < 1
      · simp (disch := omega) only [e61_0, e61_1, e61_2, e61_5, e61_6, e61_7, e61_10, e61_20, e61_21, e61_22, e61_25, e61_26, e61_28, e61_31, e61_41, e61_42, e61_45, e61_46, e61_47, e61_50, e61_51, e61_54, e61_55, e61_58, e61_59, e61_60, e61_63, e61_64, e61_67, e61_68, e61_69, e61_72, e61_73, e61_74, e61_77, e61_78, e61_79, e61_82, e61_83, e61_84, e61_87, e61_88, e61_89, e61_92, e61_93, e61_94, e61_97, e61_98, e61_101, e61_104, implies_true, Int.reduceSub, Option.isNone_some, Option.isNone_none, ab_bh_some, ab_bh_thr, ab_gs_3, ab_gl_2, ab_gl_3, ab_gt_some, ab_gc_0, ab_gk_0, Bool.false_eq_true, Bool.true_eq_false, false_implies, Nat.reduceEqDiff, ab_ge, ab_lt, ab_le, ab_gt, ab_eq, ab_ne, decide_eq_true_eq, ab_w_id, ab_w0, ab_gd_some, ab_gs_0, ab_gs_1, ab_gl_0, ab_gl_1, ab_bv_some, ab_bu_some, ab_bv_thr, ab_bu_thr, ab_fx_n, ab_fx_i, ab_fx_q, ab_fx_l, ab_sh_si, ab_gr_si, ab_gl_si, cs_n, ↓reduceIte, true_or, or_true, false_or, or_false, and_true, true_and, and_false, false_and, not_true_eq_false, not_false_eq_true, eq_self, Int.reduceEq, Int.reduceLT, Int.reduceLE, Int.reduceAdd, Int.reduceMul, Int.reduceNeg, if_pos, if_neg]
      · simp (disch := omega) only [e61_0, e61_1, e61_2, e61_5, e61_6, e61_7, e61_10, e61_20, e61_21, e61_22, e61_25, e61_26, e61_28, e61_31, e61_41, e61_42, e61_45, e61_46, e61_47, e61_50, e61_51, e61_54, e61_55, e61_58, e61_59, e61_60, e61_63, e61_64, e61_67, e61_68, e61_69, e61_72, e61_73, e61_74, e61_77, e61_78, e61_79, e61_82, e61_83, e61_84, e61_87, e61_88, e61_89, e61_92, e61_93, e61_94, e61_97, e61_98, e61_101, e61_104, implies_true, Int.reduceSub, Option.isNone_some, Option.isNone_none, ab_bh_some, ab_bh_thr, ab_gs_3, ab_gl_2, ab_gl_3, ab_gt_some, ab_gc_0, ab_gk_0, Bool.false_eq_true, Bool.true_eq_false, false_implies, Nat.reduceEqDiff, ab_ge, ab_lt, ab_le, ab_gt, ab_eq, ab_ne, decide_eq_true_eq, ab_w_id, ab_w0, ab_gd_some, ab_gs_0, ab_gs_1, ab_gl_0, ab_gl_1, ab_bv_some, ab_bu_some, ab_bv_thr, ab_bu_thr, ab_fx_n, ab_fx_i, ab_fx_q, ab_fx_l, ab_sh_si, ab_gr_si, ab_gl_si, cs_n, ↓reduceIte, true_or, or_true, false_or, or_false, and_true, true_and, and_false, false_and, not_true_eq_false, not_false_eq_true, eq_self, Int.reduceEq, Int.reduceLT, Int.reduceLE, Int.reduceAdd, Int.reduceMul, Int.reduceNeg, if_pos, if_neg]
/-- a shelf as it is at first -/
def cs_New (h h' : ab_H) (D S : Int) : Prop := (ab_gi h' 1 0 = D ∧ ab_gi h' 1 1 = S) ∧ (∀ d s, 0 ≤ d → d < D → 0 ≤ s → s < S → ab_gi h' 2 (d * 8 + s) = 0 ∧ ab_gi h' 3 (d * 8 + s) = s ∧ ab_gi h' 4 (d * 8 + s) = 0) ∧ (∀ d, 0 ≤ d → d < D → ab_gi h' 5 d = 0 ∧ ab_gi h' 6 d = 0) ∧ (ab_gi h' 0 2 = 1 ∧ ab_gi h' 0 3 = -1 ∧ ab_gi h' 0 4 = -1 ∧ ab_gi h' 0 5 = -1) ∧ (∀ k, 6 ≤ k → k ≤ 11 → ab_gi h' 0 k = 0) ∧ ab_gi h' 0 12 = ab_gi h 0 12 ∧ ck_K h' = ck_K h
theorem m61 {e : Nat} {D S : Int} {h : ab_H} (i : ci h) (hD : 3 ≤ D) (hD5 : D ≤ 5) (hS : 1 ≤ S) (hS8 : S ≤ 8) :
    ∃ h', ab_E B (e + 16) 61 0 [some (.inr (.inr (.inl (some 0)))), some (.inl D), some (.inl S)] [] h = some (.inl (some (.inl ((D - 1) * S))), h') ∧ ci h' ∧ h'.2 = h.2 ∧ (∀ c x, 17 < c → ab_gi h' c x = ab_gi h c x) ∧ cs_New h h' D S := by
  have hL := i.1.1
  obtain ⟨h1, a1, b1, b2, b3, b4, b5⟩ := m1 (B := B) (dd := e + 13) hL hD hD5 hS hS8
  have w1 : h1.2 = h.2 := b1
  have hL1 : cs_L h1 := cs_L_2 hL w1
  have g1 : ∀ c x, c ≠ 1 → c ≠ 2 → c ≠ 3 → c ≠ 4 → c ≠ 5 → c ≠ 6 → ab_gi h1 c x = ab_gi h c x := fun c x n1 n2 n3 n4 n5 n6 => by
    rw [b2 c x n2 n3 n4 n5 n6, ab_gi_si, if_neg (fun q => n1 q.1), ab_gi_si, if_neg (fun q => n1 q.1)]
  have s0 : ∀ c x, c ≠ 1 → ab_gi (ab_si (ab_si h 1 0 D) 1 1 S) c x = ab_gi h c x := fun c x n1 => by rw [ab_gi_si, if_neg (fun q => n1 q.1), ab_gi_si, if_neg (fun q => n1 q.1)]
  have d10 : ab_gi h1 1 0 = D := by rw [b2 1 0 (by decide) (by decide) (by decide) (by decide) (by decide)]; simp [ab_gi_si]
  have d11 : ab_gi h1 1 1 = S := by rw [b2 1 1 (by decide) (by decide) (by decide) (by decide) (by decide)]; simp [ab_gi_si]
  have hR1 : cs_R h1 := by
    refine ⟨hL1, Or.inr (by rw [d10, d11]; omega), fun x x1 x2 => ?_, fun d => ?_⟩
    · obtain ⟨y1, y2, y3⟩ := b5 (x / 8) (by omega) (by omega)
      have ex : x / 8 * 8 + x % 8 = x := by omega
      have h4 := y1 (x % 8) (by omega) (by omega)
      rw [ex] at h4
      have old := i.1.2.2.1 x x1 x2
      by_cases c : x / 8 < D ∧ x % 8 < S
      · have := y2 c.1 (x % 8) (by omega) c.2
        rw [ex] at this
        omega
      · have := y3 (x % 8) (by omega) (by omega) c
        rw [ex, s0 2 _ (by decide), s0 3 _ (by decide)] at this
        omega
    · rw [b4 5 d (Or.inl rfl)]
      split
      · exact Or.inl rfl
      · rw [s0 5 _ (by decide)]; exact i.1.2.2.2 d
  obtain ⟨S1, k1⟩ := ck_S_fr i.2.1 hL1 (fun c x c1 c2 => g1 c x (by omega) (by omega) (by omega) (by omega) (by omega) (by omega))
  obtain ⟨h2, a2, S2, k2, f2⟩ := m37 (B := B) (e := e) (D := D) (by omega) hD5 S1
  have w2 : h2.2 = h.2 := f2.1.trans w1
  have hL2 : cs_L h2 := cs_L_2 hL w2
  have hf : ∃ h9, h9 = ab_si (ab_si (ab_si (ab_si (ab_si (ab_si (ab_si (ab_si (ab_si (ab_si h2 0 2 1) 0 3 (-1)) 0 4 (-1)) 0 5 (-1)) 0 6 0) 0 7 0) 0 8 0) 0 9 0) 0 10 0) 0 11 0 := ⟨_, rfl⟩
  obtain ⟨h9, hh⟩ := hf
  have g9 : ∀ c x, c ≠ 0 → ab_gi h9 c x = ab_gi h2 c x := fun c x hc => by
    rw [hh]
    simp only [ab_gi_si, if_neg (fun q : c = 0 ∧ _ => hc q.1)]
  have w9 : h9.2 = h.2 := by rw [hh]; exact w2
  have hL9 : cs_L h9 := cs_L_2 hL w9
  have o9 : ab_gi h9 0 2 = 1 ∧ ab_gi h9 0 3 = -1 ∧ ab_gi h9 0 4 = -1 ∧ ab_gi h9 0 5 = -1 := by
    rw [hh]; exact ⟨by simp [ab_gi_si], by simp [ab_gi_si], by simp [ab_gi_si], by simp [ab_gi_si]⟩
  have p9 : ∀ k, 6 ≤ k → k ≤ 11 → ab_gi h9 0 k = 0 := fun k k1 k2 => by
    have : k = 6 ∨ k = 7 ∨ k = 8 ∨ k = 9 ∨ k = 10 ∨ k = 11 := by omega
    rw [hh]
    rcases this with q | q | q | q | q | q <;> subst q <;> simp [ab_gi_si]
  have r9 : ab_gi h9 0 12 = ab_gi h 0 12 := by
    rw [hh]
    simp [ab_gi_si]
    rw [f2.2 0 12 (by omega), g1 0 12 (by decide) (by decide) (by decide) (by decide) (by decide) (by decide)]
  have t9 : ∀ c x, 1 ≤ c → c ≤ 6 → ab_gi h9 c x = ab_gi h1 c x := fun c x c1 c2 => by rw [g9 c x (by omega), f2.2 c x (by omega)]
  have hR9 : cs_R h9 := cs_R_of hR1 hL9 (fun c x c1 c2 => t9 c x c1 (by omega))
  have S9 := ck_S_fr S2 hL9 (fun c x c1 c2 => g9 c x (by omega))
  have e0 : ab_gi h9 1 0 = D := (t9 1 0 (by omega) (by omega)).trans d10
  have e1 : ab_gi h9 1 1 = S := (t9 1 1 (by omega) (by omega)).trans d11
  have eB : cs_B h9 = (D - 1) * S := by unfold cs_B; rw [e0, e1, if_pos (by omega)]
  have e5 := fun d9 => m5 (B := B) (dd := d9) hR9
  rw [hh] at e5
  rw [eB.symm.trans (congrArg cs_B hh)]
  refine ⟨h9, ?_, ⟨hR9, by rw [e0]; exact S9.1, ⟨Or.inr o9.1, fun q => by omega⟩, Or.inl o9.2, by rw [p9 6 (by omega) (by omega)]; omega, by rw [p9 7 (by omega) (by omega)]; omega⟩, w9, fun c x hc => ?_, ⟨e0, e1⟩, fun d s d1 d2 s1 s2 => ?_, fun d d1 d2 => ?_, o9, p9, r9, ?_⟩
  · rw [hh]
    simp (disch := omega) only [e61_0, e61_1, e61_2, e61_5, e61_6, e61_7, e61_10, e61_20, e61_21, e61_22, e61_25, e61_26, e61_28, e61_31, e61_41, e61_42, e61_45, e61_46, e61_47, e61_50, e61_51, e61_54, e61_55, e61_58, e61_59, e61_60, e61_63, e61_64, e61_67, e61_68, e61_69, e61_72, e61_73, e61_74, e61_77, e61_78, e61_79, e61_82, e61_83, e61_84, e61_87, e61_88, e61_89, e61_92, e61_93, e61_94, e61_97, e61_98, e61_101, e61_104, implies_true, Int.reduceSub, Option.isNone_some, Option.isNone_none, ab_bh_some, ab_bh_thr, ab_gs_3, ab_gl_2, ab_gl_3, ab_gt_some, ab_gc_0, ab_gk_0, Bool.false_eq_true, Bool.true_eq_false, false_implies, Nat.reduceEqDiff, ab_ge, ab_lt, ab_le, ab_gt, ab_eq, ab_ne, decide_eq_true_eq, ab_w_id, ab_w0, ab_gd_some, ab_gs_0, ab_gs_1, ab_gl_0, ab_gl_1, ab_bv_some, ab_bu_some, ab_bv_thr, ab_bu_thr, ab_fx_n, ab_fx_i, ab_fx_q, ab_fx_l, ab_sh_si, ab_gr_si, ab_gl_si, cs_n, ↓reduceIte, true_or, or_true, false_or, or_false, and_true, true_and, and_false, false_and, not_true_eq_false, not_false_eq_true, eq_self, Int.reduceEq, Int.reduceLT, Int.reduceLE, Int.reduceAdd, Int.reduceMul, Int.reduceNeg, if_pos, if_neg, hL.1, hL.2, hL1.1, hL1.2, hL2.1, hL2.2, a1, a2, m92 (h := ab_si h2 0 2 1) hL2, e5]
  · rw [g9 c x (by omega), f2.2 c x (by omega), g1 c x (by omega) (by omega) (by omega) (by omega) (by omega) (by omega)]
  · rw [t9 2 _ (by omega) (by omega), t9 3 _ (by omega) (by omega), t9 4 _ (by omega) (by omega)]
    obtain ⟨y1, y2, y3⟩ := b5 d d1 (by omega)
    have := y2 d2 s s1 s2
    exact ⟨this.1, this.2, y1 s s1 (by omega)⟩
  · rw [t9 5 _ (by omega) (by omega), t9 6 _ (by omega) (by omega), b4 5 d (Or.inl rfl), b4 6 d (Or.inr rfl), if_pos (by omega), if_pos (by omega)]
    exact ⟨rfl, rfl⟩
  · exact S9.2.trans (k2.trans k1)
theorem m70_2 {dd : Nat} {d p s j : Int} {h : ab_H} (d1 : -2147483648 ≤ d) (d2 : d < 2147483648) (hn : ¬ (0 ≤ d ∧ d < 5)) :
    ab_E B dd 70 0 [some (.inr (.inr (.inl (some 0)))), some (.inl d), some (.inl p), some (.inl s), some (.inl j), none] [] h = some (.inr 2, ab_cost h 1 6) := by
  by_cases c1 : d < 0 <;> simp (disch := omega) only [e70_0, e70_1, e70_4, e70_5, e70_6, e70_9, e70_19, e70_20, e70_21, e70_24, e70_25, e70_27, e70_30, e70_31, e70_32, e70_35, e70_36, e70_38, e70_41, e70_43, e70_46, e70_48, e70_50, e70_53, e70_63, e70_64, e70_67, e70_68, e70_71, e70_73, e70_74, e70_77, e70_78, e70_79, e70_80, e70_82, e70_85, e70_87, implies_true, Int.reduceSub, Option.isNone_some, Option.isNone_none, ab_bh_some, ab_bh_thr, ab_gs_3, ab_gl_2, ab_gl_3, ab_gt_some, ab_gc_0, ab_gk_0, Bool.false_eq_true, Bool.true_eq_false, false_implies, Nat.reduceEqDiff, ab_ge, ab_lt, ab_le, ab_gt, ab_eq, ab_ne, decide_eq_true_eq, ab_w_id, ab_w0, ab_gd_some, ab_gs_0, ab_gs_1, ab_gl_0, ab_gl_1, ab_bv_some, ab_bu_some, ab_bv_thr, ab_bu_thr, ab_fx_n, ab_fx_i, ab_fx_q, ab_fx_l, ab_sh_si, ab_gr_si, ab_gl_si, cs_n, ↓reduceIte, true_or, or_true, false_or, or_false, and_true, true_and, and_false, false_and, not_true_eq_false, not_false_eq_true, eq_self, Int.reduceEq, Int.reduceLT, Int.reduceLE, Int.reduceAdd, Int.reduceMul, Int.reduceNeg, if_pos, if_neg]
theorem m70_1 {dd : Nat} {d p s j : Int} {h : ab_H} (d1 : 0 ≤ d) (d2 : d < 5) (p1 : -2147483648 ≤ p) (p2 : p < 2147483648) (s1 : -2147483648 ≤ s) (s2 : s < 2147483648) (j1 : -2147483648 ≤ j) (j2 : j < 2147483648) (hn : ¬ ((1 ≤ p ∧ p ≤ 30) ∧ (1 ≤ s ∧ s ≤ 9) ∧ (0 ≤ j ∧ j ≤ 9))) :
    ab_E B dd 70 0 [some (.inr (.inr (.inl (some 0)))), some (.inl d), some (.inl p), some (.inl s), some (.inl j), none] [] h = some (.inr 1, ab_cost h 1 6) := by
  by_cases c1 : p < 1
  · simp (disch := omega) only [e70_0, e70_1, e70_4, e70_5, e70_6, e70_9, e70_19, e70_20, e70_21, e70_24, e70_25, e70_27, e70_30, e70_31, e70_32, e70_35, e70_36, e70_38, e70_41, e70_43, e70_46, e70_48, e70_50, e70_53, e70_63, e70_64, e70_67, e70_68, e70_71, e70_73, e70_74, e70_77, e70_78, e70_79, e70_80, e70_82, e70_85, e70_87, implies_true, Int.reduceSub, Option.isNone_some, Option.isNone_none, ab_bh_some, ab_bh_thr, ab_gs_3, ab_gl_2, ab_gl_3, ab_gt_some, ab_gc_0, ab_gk_0, Bool.false_eq_true, Bool.true_eq_false, false_implies, Nat.reduceEqDiff, ab_ge, ab_lt, ab_le, ab_gt, ab_eq, ab_ne, decide_eq_true_eq, ab_w_id, ab_w0, ab_gd_some, ab_gs_0, ab_gs_1, ab_gl_0, ab_gl_1, ab_bv_some, ab_bu_some, ab_bv_thr, ab_bu_thr, ab_fx_n, ab_fx_i, ab_fx_q, ab_fx_l, ab_sh_si, ab_gr_si, ab_gl_si, cs_n, ↓reduceIte, true_or, or_true, false_or, or_false, and_true, true_and, and_false, false_and, not_true_eq_false, not_false_eq_true, eq_self, Int.reduceEq, Int.reduceLT, Int.reduceLE, Int.reduceAdd, Int.reduceMul, Int.reduceNeg, if_pos, if_neg]
  by_cases c2 : 30 < p
  · simp (disch := omega) only [e70_0, e70_1, e70_4, e70_5, e70_6, e70_9, e70_19, e70_20, e70_21, e70_24, e70_25, e70_27, e70_30, e70_31, e70_32, e70_35, e70_36, e70_38, e70_41, e70_43, e70_46, e70_48, e70_50, e70_53, e70_63, e70_64, e70_67, e70_68, e70_71, e70_73, e70_74, e70_77, e70_78, e70_79, e70_80, e70_82, e70_85, e70_87, implies_true, Int.reduceSub, Option.isNone_some, Option.isNone_none, ab_bh_some, ab_bh_thr, ab_gs_3, ab_gl_2, ab_gl_3, ab_gt_some, ab_gc_0, ab_gk_0, Bool.false_eq_true, Bool.true_eq_false, false_implies, Nat.reduceEqDiff, ab_ge, ab_lt, ab_le, ab_gt, ab_eq, ab_ne, decide_eq_true_eq, ab_w_id, ab_w0, ab_gd_some, ab_gs_0, ab_gs_1, ab_gl_0, ab_gl_1, ab_bv_some, ab_bu_some, ab_bv_thr, ab_bu_thr, ab_fx_n, ab_fx_i, ab_fx_q, ab_fx_l, ab_sh_si, ab_gr_si, ab_gl_si, cs_n, ↓reduceIte, true_or, or_true, false_or, or_false, and_true, true_and, and_false, false_and, not_true_eq_false, not_false_eq_true, eq_self, Int.reduceEq, Int.reduceLT, Int.reduceLE, Int.reduceAdd, Int.reduceMul, Int.reduceNeg, if_pos, if_neg]
  by_cases c3 : s < 1
  · simp (disch := omega) only [e70_0, e70_1, e70_4, e70_5, e70_6, e70_9, e70_19, e70_20, e70_21, e70_24, e70_25, e70_27, e70_30, e70_31, e70_32, e70_35, e70_36, e70_38, e70_41, e70_43, e70_46, e70_48, e70_50, e70_53, e70_63, e70_64, e70_67, e70_68, e70_71, e70_73, e70_74, e70_77, e70_78, e70_79, e70_80, e70_82, e70_85, e70_87, implies_true, Int.reduceSub, Option.isNone_some, Option.isNone_none, ab_bh_some, ab_bh_thr, ab_gs_3, ab_gl_2, ab_gl_3, ab_gt_some, ab_gc_0, ab_gk_0, Bool.false_eq_true, Bool.true_eq_false, false_implies, Nat.reduceEqDiff, ab_ge, ab_lt, ab_le, ab_gt, ab_eq, ab_ne, decide_eq_true_eq, ab_w_id, ab_w0, ab_gd_some, ab_gs_0, ab_gs_1, ab_gl_0, ab_gl_1, ab_bv_some, ab_bu_some, ab_bv_thr, ab_bu_thr, ab_fx_n, ab_fx_i, ab_fx_q, ab_fx_l, ab_sh_si, ab_gr_si, ab_gl_si, cs_n, ↓reduceIte, true_or, or_true, false_or, or_false, and_true, true_and, and_false, false_and, not_true_eq_false, not_false_eq_true, eq_self, Int.reduceEq, Int.reduceLT, Int.reduceLE, Int.reduceAdd, Int.reduceMul, Int.reduceNeg, if_pos, if_neg]
  by_cases c4 : 9 < s
  · simp (disch := omega) only [e70_0, e70_1, e70_4, e70_5, e70_6, e70_9, e70_19, e70_20, e70_21, e70_24, e70_25, e70_27, e70_30, e70_31, e70_32, e70_35, e70_36, e70_38, e70_41, e70_43, e70_46, e70_48, e70_50, e70_53, e70_63, e70_64, e70_67, e70_68, e70_71, e70_73, e70_74, e70_77, e70_78, e70_79, e70_80, e70_82, e70_85, e70_87, implies_true, Int.reduceSub, Option.isNone_some, Option.isNone_none, ab_bh_some, ab_bh_thr, ab_gs_3, ab_gl_2, ab_gl_3, ab_gt_some, ab_gc_0, ab_gk_0, Bool.false_eq_true, Bool.true_eq_false, false_implies, Nat.reduceEqDiff, ab_ge, ab_lt, ab_le, ab_gt, ab_eq, ab_ne, decide_eq_true_eq, ab_w_id, ab_w0, ab_gd_some, ab_gs_0, ab_gs_1, ab_gl_0, ab_gl_1, ab_bv_some, ab_bu_some, ab_bv_thr, ab_bu_thr, ab_fx_n, ab_fx_i, ab_fx_q, ab_fx_l, ab_sh_si, ab_gr_si, ab_gl_si, cs_n, ↓reduceIte, true_or, or_true, false_or, or_false, and_true, true_and, and_false, false_and, not_true_eq_false, not_false_eq_true, eq_self, Int.reduceEq, Int.reduceLT, Int.reduceLE, Int.reduceAdd, Int.reduceMul, Int.reduceNeg, if_pos, if_neg]
  by_cases c5 : j < 0
  · simp (disch := omega) only [e70_0, e70_1, e70_4, e70_5, e70_6, e70_9, e70_19, e70_20, e70_21, e70_24, e70_25, e70_27, e70_30, e70_31, e70_32, e70_35, e70_36, e70_38, e70_41, e70_43, e70_46, e70_48, e70_50, e70_53, e70_63, e70_64, e70_67, e70_68, e70_71, e70_73, e70_74, e70_77, e70_78, e70_79, e70_80, e70_82, e70_85, e70_87, implies_true, Int.reduceSub, Option.isNone_some, Option.isNone_none, ab_bh_some, ab_bh_thr, ab_gs_3, ab_gl_2, ab_gl_3, ab_gt_some, ab_gc_0, ab_gk_0, Bool.false_eq_true, Bool.true_eq_false, false_implies, Nat.reduceEqDiff, ab_ge, ab_lt, ab_le, ab_gt, ab_eq, ab_ne, decide_eq_true_eq, ab_w_id, ab_w0, ab_gd_some, ab_gs_0, ab_gs_1, ab_gl_0, ab_gl_1, ab_bv_some, ab_bu_some, ab_bv_thr, ab_bu_thr, ab_fx_n, ab_fx_i, ab_fx_q, ab_fx_l, ab_sh_si, ab_gr_si, ab_gl_si, cs_n, ↓reduceIte, true_or, or_true, false_or, or_false, and_true, true_and, and_false, false_and, not_true_eq_false, not_false_eq_true, eq_self, Int.reduceEq, Int.reduceLT, Int.reduceLE, Int.reduceAdd, Int.reduceMul, Int.reduceNeg, if_pos, if_neg]
  · simp (disch := omega) only [e70_0, e70_1, e70_4, e70_5, e70_6, e70_9, e70_19, e70_20, e70_21, e70_24, e70_25, e70_27, e70_30, e70_31, e70_32, e70_35, e70_36, e70_38, e70_41, e70_43, e70_46, e70_48, e70_50, e70_53, e70_63, e70_64, e70_67, e70_68, e70_71, e70_73, e70_74, e70_77, e70_78, e70_79, e70_80, e70_82, e70_85, e70_87, implies_true, Int.reduceSub, Option.isNone_some, Option.isNone_none, ab_bh_some, ab_bh_thr, ab_gs_3, ab_gl_2, ab_gl_3, ab_gt_some, ab_gc_0, ab_gk_0, Bool.false_eq_true, Bool.true_eq_false, false_implies, Nat.reduceEqDiff, ab_ge, ab_lt, ab_le, ab_gt, ab_eq, ab_ne, decide_eq_true_eq, ab_w_id, ab_w0, ab_gd_some, ab_gs_0, ab_gs_1, ab_gl_0, ab_gl_1, ab_bv_some, ab_bu_some, ab_bv_thr, ab_bu_thr, ab_fx_n, ab_fx_i, ab_fx_q, ab_fx_l, ab_sh_si, ab_gr_si, ab_gl_si, cs_n, ↓reduceIte, true_or, or_true, false_or, or_false, and_true, true_and, and_false, false_and, not_true_eq_false, not_false_eq_true, eq_self, Int.reduceEq, Int.reduceLT, Int.reduceLE, Int.reduceAdd, Int.reduceMul, Int.reduceNeg, if_pos, if_neg]
theorem m70 {e : Nat} {d p s j : Int} {h : ab_H} (i : ci h) (d1 : 0 ≤ d) (d2 : d < 5) (p1 : 1 ≤ p) (p2 : p ≤ 30) (s1 : 1 ≤ s) (s2 : s ≤ 9) (j1 : 0 ≤ j) (j2 : j ≤ 9) :
    ∃ h', ab_E B (e + 16) 70 0 [some (.inr (.inr (.inl (some 0)))), some (.inl d), some (.inl p), some (.inl s), some (.inl j), none] [] h = some (.inl (some (.inl ((ck_K h).1 d))), h') ∧ ci h' ∧ ck_G h h' ∧ ck_K h' = (pk_up (ck_K h).1 d p, pk_up (ck_K h).2.1 d s, pk_up (ck_K h).2.2.1 d j, (ck_K h).2.2.2) := by
  have hL := i.1.1
  obtain ⟨h', a, S', k', f'⟩ := m38 (B := B) (e := e) i.2.1 d1 d2 p1 p2 s1 s2 j1 j2
  have hL' : cs_L h' := cs_L_2 hL f'.1
  have g0 := fun c x (hc : c < 7) => f'.2 c x (Or.inl hc)
  refine ⟨h', ?_, ⟨cs_R_of i.1 hL' (fun c x _ c2 => g0 c x (by omega)), by rw [g0 1 0 (by omega)]; exact S', by rw [g0 0 2 (by omega), g0 1 0 (by omega)]; exact i.2.2.1, cn_of i.2.2.2.1 (cs_B_of (g0 1 0 (by omega)) (g0 1 1 (by omega))) (fun x _ _ => g0 0 x (by omega)), by rw [g0 0 6 (by omega), g0 0 7 (by omega)]; exact i.2.2.2.2⟩, f', k'⟩
  rw [ck_K_1 h d1 d2]
  simp (disch := omega) only [e70_0, e70_1, e70_4, e70_5, e70_6, e70_9, e70_19, e70_20, e70_21, e70_24, e70_25, e70_27, e70_30, e70_31, e70_32, e70_35, e70_36, e70_38, e70_41, e70_43, e70_46, e70_48, e70_50, e70_53, e70_63, e70_64, e70_67, e70_68, e70_71, e70_73, e70_74, e70_77, e70_78, e70_79, e70_80, e70_82, e70_85, e70_87, implies_true, Int.reduceSub, Option.isNone_some, Option.isNone_none, ab_bh_some, ab_bh_thr, ab_gs_3, ab_gl_2, ab_gl_3, ab_gt_some, ab_gc_0, ab_gk_0, Bool.false_eq_true, Bool.true_eq_false, false_implies, Nat.reduceEqDiff, ab_ge, ab_lt, ab_le, ab_gt, ab_eq, ab_ne, decide_eq_true_eq, ab_w_id, ab_w0, ab_gd_some, ab_gs_0, ab_gs_1, ab_gl_0, ab_gl_1, ab_bv_some, ab_bu_some, ab_bv_thr, ab_bu_thr, ab_fx_n, ab_fx_i, ab_fx_q, ab_fx_l, ab_sh_si, ab_gr_si, ab_gl_si, cs_n, ↓reduceIte, true_or, or_true, false_or, or_false, and_true, true_and, and_false, false_and, not_true_eq_false, not_false_eq_true, eq_self, Int.reduceEq, Int.reduceLT, Int.reduceLE, Int.reduceAdd, Int.reduceMul, Int.reduceNeg, if_pos, if_neg, hL.1, hL.2, m40 i.2.1.1.1 d1 d2, a]
theorem m71_1 {dd : Nat} {l p : Int} {h : ab_H} (l1 : -2147483648 ≤ l) (l2 : l < 2147483648) (p1 : -2147483648 ≤ p) (p2 : p < 2147483648) (hn : ¬ ((1 ≤ l ∧ l ≤ 90) ∧ (0 ≤ p ∧ p ≤ 9))) :
    ab_E B dd 71 0 [some (.inr (.inr (.inl (some 0)))), some (.inl l), some (.inl p), none] [] h = some (.inr 1, ab_cost h 1 6) := by
  by_cases c1 : l < 1
  · simp (disch := omega) only [e71_0, e71_1, e71_2, e71_5, e71_6, e71_8, e71_11, e71_12, e71_15, e71_16, e71_18, e71_21, e71_31, e71_32, e71_35, e71_38, e71_39, e71_40, e71_43, e71_44, e71_45, e71_48, e71_49, implies_true, Int.reduceSub, Option.isNone_some, Option.isNone_none, ab_bh_some, ab_bh_thr, ab_gs_3, ab_gl_2, ab_gl_3, ab_gt_some, ab_gc_0, ab_gk_0, Bool.false_eq_true, Bool.true_eq_false, false_implies, Nat.reduceEqDiff, ab_ge, ab_lt, ab_le, ab_gt, ab_eq, ab_ne, decide_eq_true_eq, ab_w_id, ab_w0, ab_gd_some, ab_gs_0, ab_gs_1, ab_gl_0, ab_gl_1, ab_bv_some, ab_bu_some, ab_bv_thr, ab_bu_thr, ab_fx_n, ab_fx_i, ab_fx_q, ab_fx_l, ab_sh_si, ab_gr_si, ab_gl_si, cs_n, ↓reduceIte, true_or, or_true, false_or, or_false, and_true, true_and, and_false, false_and, not_true_eq_false, not_false_eq_true, eq_self, Int.reduceEq, Int.reduceLT, Int.reduceLE, Int.reduceAdd, Int.reduceMul, Int.reduceNeg, if_pos, if_neg]
  by_cases c2 : 90 < l
  · simp (disch := omega) only [e71_0, e71_1, e71_2, e71_5, e71_6, e71_8, e71_11, e71_12, e71_15, e71_16, e71_18, e71_21, e71_31, e71_32, e71_35, e71_38, e71_39, e71_40, e71_43, e71_44, e71_45, e71_48, e71_49, implies_true, Int.reduceSub, Option.isNone_some, Option.isNone_none, ab_bh_some, ab_bh_thr, ab_gs_3, ab_gl_2, ab_gl_3, ab_gt_some, ab_gc_0, ab_gk_0, Bool.false_eq_true, Bool.true_eq_false, false_implies, Nat.reduceEqDiff, ab_ge, ab_lt, ab_le, ab_gt, ab_eq, ab_ne, decide_eq_true_eq, ab_w_id, ab_w0, ab_gd_some, ab_gs_0, ab_gs_1, ab_gl_0, ab_gl_1, ab_bv_some, ab_bu_some, ab_bv_thr, ab_bu_thr, ab_fx_n, ab_fx_i, ab_fx_q, ab_fx_l, ab_sh_si, ab_gr_si, ab_gl_si, cs_n, ↓reduceIte, true_or, or_true, false_or, or_false, and_true, true_and, and_false, false_and, not_true_eq_false, not_false_eq_true, eq_self, Int.reduceEq, Int.reduceLT, Int.reduceLE, Int.reduceAdd, Int.reduceMul, Int.reduceNeg, if_pos, if_neg]
  by_cases c3 : p < 0
  · simp (disch := omega) only [e71_0, e71_1, e71_2, e71_5, e71_6, e71_8, e71_11, e71_12, e71_15, e71_16, e71_18, e71_21, e71_31, e71_32, e71_35, e71_38, e71_39, e71_40, e71_43, e71_44, e71_45, e71_48, e71_49, implies_true, Int.reduceSub, Option.isNone_some, Option.isNone_none, ab_bh_some, ab_bh_thr, ab_gs_3, ab_gl_2, ab_gl_3, ab_gt_some, ab_gc_0, ab_gk_0, Bool.false_eq_true, Bool.true_eq_false, false_implies, Nat.reduceEqDiff, ab_ge, ab_lt, ab_le, ab_gt, ab_eq, ab_ne, decide_eq_true_eq, ab_w_id, ab_w0, ab_gd_some, ab_gs_0, ab_gs_1, ab_gl_0, ab_gl_1, ab_bv_some, ab_bu_some, ab_bv_thr, ab_bu_thr, ab_fx_n, ab_fx_i, ab_fx_q, ab_fx_l, ab_sh_si, ab_gr_si, ab_gl_si, cs_n, ↓reduceIte, true_or, or_true, false_or, or_false, and_true, true_and, and_false, false_and, not_true_eq_false, not_false_eq_true, eq_self, Int.reduceEq, Int.reduceLT, Int.reduceLE, Int.reduceAdd, Int.reduceMul, Int.reduceNeg, if_pos, if_neg]
  · simp (disch := omega) only [e71_0, e71_1, e71_2, e71_5, e71_6, e71_8, e71_11, e71_12, e71_15, e71_16, e71_18, e71_21, e71_31, e71_32, e71_35, e71_38, e71_39, e71_40, e71_43, e71_44, e71_45, e71_48, e71_49, implies_true, Int.reduceSub, Option.isNone_some, Option.isNone_none, ab_bh_some, ab_bh_thr, ab_gs_3, ab_gl_2, ab_gl_3, ab_gt_some, ab_gc_0, ab_gk_0, Bool.false_eq_true, Bool.true_eq_false, false_implies, Nat.reduceEqDiff, ab_ge, ab_lt, ab_le, ab_gt, ab_eq, ab_ne, decide_eq_true_eq, ab_w_id, ab_w0, ab_gd_some, ab_gs_0, ab_gs_1, ab_gl_0, ab_gl_1, ab_bv_some, ab_bu_some, ab_bv_thr, ab_bu_thr, ab_fx_n, ab_fx_i, ab_fx_q, ab_fx_l, ab_sh_si, ab_gr_si, ab_gl_si, cs_n, ↓reduceIte, true_or, or_true, false_or, or_false, and_true, true_and, and_false, false_and, not_true_eq_false, not_false_eq_true, eq_self, Int.reduceEq, Int.reduceLT, Int.reduceLE, Int.reduceAdd, Int.reduceMul, Int.reduceNeg, if_pos, if_neg]
theorem m71 {e : Nat} {l p : Int} {h : ab_H} (i : ci h) (l1 : 1 ≤ l) (l2 : l ≤ 90) (p1 : 0 ≤ p) (p2 : p ≤ 9) :
    ∃ h', ab_E B (e + 16) 71 0 [some (.inr (.inr (.inl (some 0)))), some (.inl l), some (.inl p), none] [] h = some (.inl (some (.inl (ck_K h).2.2.2.1)), h') ∧ ci h' ∧ ck_G h h' ∧ ck_K h' = ((ck_K h).1, (ck_K h).2.1, (ck_K h).2.2.1, l, p) := by
  have hL := i.1.1
  obtain ⟨h', a, S', k', f'⟩ := m39 (B := B) (e := e) i.2.1 l1 l2 p1 p2
  have hL' : cs_L h' := cs_L_2 hL f'.1
  have g0 := fun c x (hc : c < 7) => f'.2 c x (Or.inl hc)
  refine ⟨h', ?_, ⟨cs_R_of i.1 hL' (fun c x _ c2 => g0 c x (by omega)), by rw [g0 1 0 (by omega)]; exact S', by rw [g0 0 2 (by omega), g0 1 0 (by omega)]; exact i.2.2.1, cn_of i.2.2.2.1 (cs_B_of (g0 1 0 (by omega)) (g0 1 1 (by omega))) (fun x _ _ => g0 0 x (by omega)), by rw [g0 0 6 (by omega), g0 0 7 (by omega)]; exact i.2.2.2.2⟩, f', k'⟩
  simp (disch := omega) only [e71_0, e71_1, e71_2, e71_5, e71_6, e71_8, e71_11, e71_12, e71_15, e71_16, e71_18, e71_21, e71_31, e71_32, e71_35, e71_38, e71_39, e71_40, e71_43, e71_44, e71_45, e71_48, e71_49, implies_true, Int.reduceSub, Option.isNone_some, Option.isNone_none, ab_bh_some, ab_bh_thr, ab_gs_3, ab_gl_2, ab_gl_3, ab_gt_some, ab_gc_0, ab_gk_0, Bool.false_eq_true, Bool.true_eq_false, false_implies, Nat.reduceEqDiff, ab_ge, ab_lt, ab_le, ab_gt, ab_eq, ab_ne, decide_eq_true_eq, ab_w_id, ab_w0, ab_gd_some, ab_gs_0, ab_gs_1, ab_gl_0, ab_gl_1, ab_bv_some, ab_bu_some, ab_bv_thr, ab_bu_thr, ab_fx_n, ab_fx_i, ab_fx_q, ab_fx_l, ab_sh_si, ab_gr_si, ab_gl_si, cs_n, ↓reduceIte, true_or, or_true, false_or, or_false, and_true, true_and, and_false, false_and, not_true_eq_false, not_false_eq_true, eq_self, Int.reduceEq, Int.reduceLT, Int.reduceLE, Int.reduceAdd, Int.reduceMul, Int.reduceNeg, if_pos, if_neg, hL.1, hL.2, a]
  rfl
/-- the power goes off -/
def cs_off (h : ab_H) : ab_H := ab_si (ab_si h 0 2 0) 0 11 (ab_gi h 0 11 + 1)
theorem m93' {dd : Nat} {h : ab_H} (hL : cs_L h) : ab_E B dd 93 0 [some (.inr (.inr (.inl (some 0))))] [] h = some (.inl none, cs_off h) := m93 hL
theorem cs_off_gi {h : ab_H} (c : Nat) (x : Int) : ab_gi (cs_off h) c x = if c = 0 ∧ x = 11 then ab_gi h 0 11 + 1 else if c = 0 ∧ x = 2 then 0 else ab_gi h c x := by unfold cs_off; rw [ab_gi_si, ab_gi_si]
theorem cs_off_ci {h : ab_H} (i : ci h) : ci (cs_off h) := by
  have g : ∀ c x, c ≠ 0 → ab_gi (cs_off h) c x = ab_gi h c x := fun c x hc => by rw [cs_off_gi, if_neg (by omega), if_neg (by omega)]
  have g0 : ∀ x, x ≠ 2 → x ≠ 11 → ab_gi (cs_off h) 0 x = ab_gi h 0 x := fun x x1 x2 => by rw [cs_off_gi, if_neg (by omega), if_neg (by omega)]
  refine ci_of i (cs_R_of i.1 (cs_L_2 i.1.1 rfl) (fun c x c1 _ => g c x (by omega))) (fun x => g 1 x (by decide)) (fun c x c1 _ => g c x (by omega)) ?_ (cn_of i.2.2.2.1 (cs_B_of (g 1 0 (by decide)) (g 1 1 (by decide))) (fun x x1 x2 => g0 x (by omega) (by omega))) ?_ ?_
  · rw [cs_off_gi, if_neg (by omega), if_pos ⟨rfl, rfl⟩]; exact ⟨Or.inl rfl, fun _ => rfl⟩
  · rw [g0 6 (by decide) (by decide)]; exact i.2.2.2.2.1
  · rw [g0 7 (by decide) (by decide)]; exact i.2.2.2.2.2
theorem m72_3 {dd : Nat} {h : ab_H} (i : ci h) (hn : ab_gi h 1 0 = 0) : ab_E B dd 72 0 [some (.inr (.inr (.inl (some 0)))), none] [] h = some (.inr 3, ab_cost h 1 6) := by
  have hL := i.1.1
  simp (disch := omega) only [e72_0, e72_1, e72_4, e72_7, e72_10, e72_20, e72_21, e72_24, e72_25, e72_26, e72_29, e72_30, e72_33, e72_34, implies_true, Int.reduceSub, Option.isNone_some, Option.isNone_none, ab_bh_some, ab_bh_thr, ab_gs_3, ab_gl_2, ab_gl_3, ab_gt_some, ab_gc_0, ab_gk_0, Bool.false_eq_true, Bool.true_eq_false, false_implies, Nat.reduceEqDiff, ab_ge, ab_lt, ab_le, ab_gt, ab_eq, ab_ne, decide_eq_true_eq, ab_w_id, ab_w0, ab_gd_some, ab_gs_0, ab_gs_1, ab_gl_0, ab_gl_1, ab_bv_some, ab_bu_some, ab_bv_thr, ab_bu_thr, ab_fx_n, ab_fx_i, ab_fx_q, ab_fx_l, ab_sh_si, ab_gr_si, ab_gl_si, cs_n, ↓reduceIte, true_or, or_true, false_or, or_false, and_true, true_and, and_false, false_and, not_true_eq_false, not_false_eq_true, eq_self, Int.reduceEq, Int.reduceLT, Int.reduceLE, Int.reduceAdd, Int.reduceMul, Int.reduceNeg, if_pos, if_neg, hL.1, hL.2, hn]
theorem m72 {dd : Nat} {h : ab_H} (i : ci h) (hn : ab_gi h 1 0 ≠ 0) : ab_E B (dd + 1) 72 0 [some (.inr (.inr (.inl (some 0)))), none] [] h = some (.inl (some (.inl (ab_gi h 0 2))), if ab_gi h 0 2 = 1 then cs_off h else h) := by
  have hL := i.1.1
  have hD := i.1.2.1
  rcases i.2.2.1.1 with c | c
  · simp (disch := omega) only [e72_0, e72_1, e72_4, e72_7, e72_10, e72_20, e72_21, e72_24, e72_25, e72_26, e72_29, e72_30, e72_33, e72_34, implies_true, Int.reduceSub, Option.isNone_some, Option.isNone_none, ab_bh_some, ab_bh_thr, ab_gs_3, ab_gl_2, ab_gl_3, ab_gt_some, ab_gc_0, ab_gk_0, Bool.false_eq_true, Bool.true_eq_false, false_implies, Nat.reduceEqDiff, ab_ge, ab_lt, ab_le, ab_gt, ab_eq, ab_ne, decide_eq_true_eq, ab_w_id, ab_w0, ab_gd_some, ab_gs_0, ab_gs_1, ab_gl_0, ab_gl_1, ab_bv_some, ab_bu_some, ab_bv_thr, ab_bu_thr, ab_fx_n, ab_fx_i, ab_fx_q, ab_fx_l, ab_sh_si, ab_gr_si, ab_gl_si, cs_n, ↓reduceIte, true_or, or_true, false_or, or_false, and_true, true_and, and_false, false_and, not_true_eq_false, not_false_eq_true, eq_self, Int.reduceEq, Int.reduceLT, Int.reduceLE, Int.reduceAdd, Int.reduceMul, Int.reduceNeg, if_pos, if_neg, hL.1, hL.2, eq_false hn, c]
  · simp (disch := omega) only [e72_0, e72_1, e72_4, e72_7, e72_10, e72_20, e72_21, e72_24, e72_25, e72_26, e72_29, e72_30, e72_33, e72_34, implies_true, Int.reduceSub, Option.isNone_some, Option.isNone_none, ab_bh_some, ab_bh_thr, ab_gs_3, ab_gl_2, ab_gl_3, ab_gt_some, ab_gc_0, ab_gk_0, Bool.false_eq_true, Bool.true_eq_false, false_implies, Nat.reduceEqDiff, ab_ge, ab_lt, ab_le, ab_gt, ab_eq, ab_ne, decide_eq_true_eq, ab_w_id, ab_w0, ab_gd_some, ab_gs_0, ab_gs_1, ab_gl_0, ab_gl_1, ab_bv_some, ab_bu_some, ab_bv_thr, ab_bu_thr, ab_fx_n, ab_fx_i, ab_fx_q, ab_fx_l, ab_sh_si, ab_gr_si, ab_gl_si, cs_n, ↓reduceIte, true_or, or_true, false_or, or_false, and_true, true_and, and_false, false_and, not_true_eq_false, not_false_eq_true, eq_self, Int.reduceEq, Int.reduceLT, Int.reduceLE, Int.reduceAdd, Int.reduceMul, Int.reduceNeg, if_pos, if_neg, hL.1, hL.2, eq_false hn, c, m93' hL]
/-- whether there is a plan -/
theorem ck_C_no {h : ab_H} {K : pk_K} {D : Int} {c : pk_X} (C : ck_C h K D c) : ab_gi h 7 6 = -1 ↔ c = none := by
  cases c with
  | none => exact ⟨fun _ => rfl, fun _ => C.1⟩
  | some y =>
    have := pk_end_0 K D y.1
    have := C.1.1
    exact ⟨fun q => by omega, fun q => by cases q⟩
/-- the plan's end, or none -/
def pk_en (K : pk_K) (D : Int) (c : pk_X) : Int := match c with
  | none => -1
  | some y => pk_end K D y.1
theorem ck_C_en {h : ab_H} {K : pk_K} {D : Int} {c : pk_X} (C : ck_C h K D c) : ab_gi h 7 6 = pk_en K D c := by
  cases c with
  | none => exact C.1
  | some y => exact C.1.1
theorem m73_3 {dd : Nat} {h : ab_H} (i : ci h) (hn : ab_gi h 1 0 = 0 ∨ ab_gi h 0 2 = 1 ∨ pk_plan (ck_K h) (ab_gi h 1 0) = none) : ab_E B (dd + 1) 73 0 [some (.inr (.inr (.inl (some 0))))] [] h = some (.inr 3, ab_cost h 1 6) := by
  have hL := i.1.1
  have hD := i.1.2.1
  have hC := i.2.1.2.2.1
  by_cases c0 : ab_gi h 1 0 = 0
  · simp (disch := omega) only [e73_0, e73_1, e73_4, e73_7, e73_10, e73_11, e73_14, e73_17, e73_18, e73_21, e73_24, e73_25, e73_28, e73_38, e73_39, e73_42, e73_43, e73_46, e73_49, implies_true, Int.reduceSub, Option.isNone_some, Option.isNone_none, ab_bh_some, ab_bh_thr, ab_gs_3, ab_gl_2, ab_gl_3, ab_gt_some, ab_gc_0, ab_gk_0, Bool.false_eq_true, Bool.true_eq_false, false_implies, Nat.reduceEqDiff, ab_ge, ab_lt, ab_le, ab_gt, ab_eq, ab_ne, decide_eq_true_eq, ab_w_id, ab_w0, ab_gd_some, ab_gs_0, ab_gs_1, ab_gl_0, ab_gl_1, ab_bv_some, ab_bu_some, ab_bv_thr, ab_bu_thr, ab_fx_n, ab_fx_i, ab_fx_q, ab_fx_l, ab_sh_si, ab_gr_si, ab_gl_si, cs_n, ↓reduceIte, true_or, or_true, false_or, or_false, and_true, true_and, and_false, false_and, not_true_eq_false, not_false_eq_true, eq_self, Int.reduceEq, Int.reduceLT, Int.reduceLE, Int.reduceAdd, Int.reduceMul, Int.reduceNeg, if_pos, if_neg, hL.1, hL.2, eq_true c0]
  rcases i.2.2.1.1 with c | c
  · have c6 : ab_gi h 7 6 = -1 := (ck_C_no hC).mpr (by
      rcases hn with q | q | q
      · exact absurd q c0
      · omega
      · exact q)
    simp (disch := omega) only [e73_0, e73_1, e73_4, e73_7, e73_10, e73_11, e73_14, e73_17, e73_18, e73_21, e73_24, e73_25, e73_28, e73_38, e73_39, e73_42, e73_43, e73_46, e73_49, implies_true, Int.reduceSub, Option.isNone_some, Option.isNone_none, ab_bh_some, ab_bh_thr, ab_gs_3, ab_gl_2, ab_gl_3, ab_gt_some, ab_gc_0, ab_gk_0, Bool.false_eq_true, Bool.true_eq_false, false_implies, Nat.reduceEqDiff, ab_ge, ab_lt, ab_le, ab_gt, ab_eq, ab_ne, decide_eq_true_eq, ab_w_id, ab_w0, ab_gd_some, ab_gs_0, ab_gs_1, ab_gl_0, ab_gl_1, ab_bv_some, ab_bu_some, ab_bv_thr, ab_bu_thr, ab_fx_n, ab_fx_i, ab_fx_q, ab_fx_l, ab_sh_si, ab_gr_si, ab_gl_si, cs_n, ↓reduceIte, true_or, or_true, false_or, or_false, and_true, true_and, and_false, false_and, not_true_eq_false, not_false_eq_true, eq_self, Int.reduceEq, Int.reduceLT, Int.reduceLE, Int.reduceAdd, Int.reduceMul, Int.reduceNeg, if_pos, if_neg, hL.1, hL.2, eq_false c0, c, m43 hL, c6]
  · simp (disch := omega) only [e73_0, e73_1, e73_4, e73_7, e73_10, e73_11, e73_14, e73_17, e73_18, e73_21, e73_24, e73_25, e73_28, e73_38, e73_39, e73_42, e73_43, e73_46, e73_49, implies_true, Int.reduceSub, Option.isNone_some, Option.isNone_none, ab_bh_some, ab_bh_thr, ab_gs_3, ab_gl_2, ab_gl_3, ab_gt_some, ab_gc_0, ab_gk_0, Bool.false_eq_true, Bool.true_eq_false, false_implies, Nat.reduceEqDiff, ab_ge, ab_lt, ab_le, ab_gt, ab_eq, ab_ne, decide_eq_true_eq, ab_w_id, ab_w0, ab_gd_some, ab_gs_0, ab_gs_1, ab_gl_0, ab_gl_1, ab_bv_some, ab_bu_some, ab_bv_thr, ab_bu_thr, ab_fx_n, ab_fx_i, ab_fx_q, ab_fx_l, ab_sh_si, ab_gr_si, ab_gl_si, cs_n, ↓reduceIte, true_or, or_true, false_or, or_false, and_true, true_and, and_false, false_and, not_true_eq_false, not_false_eq_true, eq_self, Int.reduceEq, Int.reduceLT, Int.reduceLE, Int.reduceAdd, Int.reduceMul, Int.reduceNeg, if_pos, if_neg, hL.1, hL.2, eq_false c0, c]
theorem m73 {dd : Nat} {h : ab_H} (i : ci h) (hD : ab_gi h 1 0 ≠ 0) (h2 : ab_gi h 0 2 = 0) (hp : pk_plan (ck_K h) (ab_gi h 1 0) ≠ none) : ab_E B (dd + 4) 73 0 [some (.inr (.inr (.inl (some 0))))] [] h = some (.inl (some (.inl (pk_en (ck_K h) (ab_gi h 1 0) (pk_plan (ck_K h) (ab_gi h 1 0))))), cs_on h) := by
  have hL := i.1.1
  have hDS := i.1.2.1
  have hC := i.2.1.2.2.1
  have c6 : ¬ ab_gi h 7 6 = -1 := fun q => hp ((ck_C_no hC).mp q)
  have hb := hC.2.1
  obtain ⟨a, i', w, g⟩ := m94 (B := B) (dd := dd) i hD
  have e6 : ab_gi (cs_on h) 7 6 = ab_gi h 7 6 := g 7 6 (by omega)
  have m43' := fun d9 => m43 (B := B) (dd := d9) i'.1.1
  rw [e6] at m43'
  have hL' := i'.1.1
  rw [← ck_C_en hC]
  simp (disch := omega) only [e73_0, e73_1, e73_4, e73_7, e73_10, e73_11, e73_14, e73_17, e73_18, e73_21, e73_24, e73_25, e73_28, e73_38, e73_39, e73_42, e73_43, e73_46, e73_49, implies_true, Int.reduceSub, Option.isNone_some, Option.isNone_none, ab_bh_some, ab_bh_thr, ab_gs_3, ab_gl_2, ab_gl_3, ab_gt_some, ab_gc_0, ab_gk_0, Bool.false_eq_true, Bool.true_eq_false, false_implies, Nat.reduceEqDiff, ab_ge, ab_lt, ab_le, ab_gt, ab_eq, ab_ne, decide_eq_true_eq, ab_w_id, ab_w0, ab_gd_some, ab_gs_0, ab_gs_1, ab_gl_0, ab_gl_1, ab_bv_some, ab_bu_some, ab_bv_thr, ab_bu_thr, ab_fx_n, ab_fx_i, ab_fx_q, ab_fx_l, ab_sh_si, ab_gr_si, ab_gl_si, cs_n, ↓reduceIte, true_or, or_true, false_or, or_false, and_true, true_and, and_false, false_and, not_true_eq_false, not_false_eq_true, eq_self, Int.reduceEq, Int.reduceLT, Int.reduceLE, Int.reduceAdd, Int.reduceMul, Int.reduceNeg, if_pos, if_neg, hL.1, hL.2, eq_false hD, h2, m43 hL, eq_false c6, a, hL'.1, hL'.2, m43']
theorem m74_1 {dd : Nat} {g : Int} {h : ab_H} (g1 : -2147483648 ≤ g) (g2 : g < 2147483648) (hn : ¬ (0 ≤ g ∧ g ≤ 20)) : ab_E B dd 74 0 [some (.inr (.inr (.inl (some 0)))), some (.inl g), none] [] h = some (.inr 1, ab_cost h 1 6) := by
  by_cases c1 : g < 0 <;> simp (disch := omega) only [e74_0, e74_1, e74_4, e74_5, e74_7, e74_10, e74_20, e74_21, e74_24, e74_27, e74_30, e74_31, e74_34, e74_37, e74_47, e74_48, e74_51, e74_52, e74_55, e74_56, e74_57, e74_58, e74_61, e74_62, e74_65, e74_66, implies_true, Int.reduceSub, Option.isNone_some, Option.isNone_none, ab_bh_some, ab_bh_thr, ab_gs_3, ab_gl_2, ab_gl_3, ab_gt_some, ab_gc_0, ab_gk_0, Bool.false_eq_true, Bool.true_eq_false, false_implies, Nat.reduceEqDiff, ab_ge, ab_lt, ab_le, ab_gt, ab_eq, ab_ne, decide_eq_true_eq, ab_w_id, ab_w0, ab_gd_some, ab_gs_0, ab_gs_1, ab_gl_0, ab_gl_1, ab_bv_some, ab_bu_some, ab_bv_thr, ab_bu_thr, ab_fx_n, ab_fx_i, ab_fx_q, ab_fx_l, ab_sh_si, ab_gr_si, ab_gl_si, cs_n, ↓reduceIte, true_or, or_true, false_or, or_false, and_true, true_and, and_false, false_and, not_true_eq_false, not_false_eq_true, eq_self, Int.reduceEq, Int.reduceLT, Int.reduceLE, Int.reduceAdd, Int.reduceMul, Int.reduceNeg, if_pos, if_neg]
theorem m74_3 {dd : Nat} {g : Int} {h : ab_H} (i : ci h) (g1 : 0 ≤ g) (g2 : g ≤ 20) (hn : ab_gi h 1 0 = 0 ∨ ab_gi h 0 2 = 1) : ab_E B dd 74 0 [some (.inr (.inr (.inl (some 0)))), some (.inl g), none] [] h = some (.inr 3, ab_cost h 1 6) := by
  have hL := i.1.1
  have hD := i.1.2.1
  by_cases c0 : ab_gi h 1 0 = 0
  · simp (disch := omega) only [e74_0, e74_1, e74_4, e74_5, e74_7, e74_10, e74_20, e74_21, e74_24, e74_27, e74_30, e74_31, e74_34, e74_37, e74_47, e74_48, e74_51, e74_52, e74_55, e74_56, e74_57, e74_58, e74_61, e74_62, e74_65, e74_66, implies_true, Int.reduceSub, Option.isNone_some, Option.isNone_none, ab_bh_some, ab_bh_thr, ab_gs_3, ab_gl_2, ab_gl_3, ab_gt_some, ab_gc_0, ab_gk_0, Bool.false_eq_true, Bool.true_eq_false, false_implies, Nat.reduceEqDiff, ab_ge, ab_lt, ab_le, ab_gt, ab_eq, ab_ne, decide_eq_true_eq, ab_w_id, ab_w0, ab_gd_some, ab_gs_0, ab_gs_1, ab_gl_0, ab_gl_1, ab_bv_some, ab_bu_some, ab_bv_thr, ab_bu_thr, ab_fx_n, ab_fx_i, ab_fx_q, ab_fx_l, ab_sh_si, ab_gr_si, ab_gl_si, cs_n, ↓reduceIte, true_or, or_true, false_or, or_false, and_true, true_and, and_false, false_and, not_true_eq_false, not_false_eq_true, eq_self, Int.reduceEq, Int.reduceLT, Int.reduceLE, Int.reduceAdd, Int.reduceMul, Int.reduceNeg, if_pos, if_neg, hL.1, hL.2, eq_true c0]
  rcases i.2.2.1.1 with c | c
  · omega
  · simp (disch := omega) only [e74_0, e74_1, e74_4, e74_5, e74_7, e74_10, e74_20, e74_21, e74_24, e74_27, e74_30, e74_31, e74_34, e74_37, e74_47, e74_48, e74_51, e74_52, e74_55, e74_56, e74_57, e74_58, e74_61, e74_62, e74_65, e74_66, implies_true, Int.reduceSub, Option.isNone_some, Option.isNone_none, ab_bh_some, ab_bh_thr, ab_gs_3, ab_gl_2, ab_gl_3, ab_gt_some, ab_gc_0, ab_gk_0, Bool.false_eq_true, Bool.true_eq_false, false_implies, Nat.reduceEqDiff, ab_ge, ab_lt, ab_le, ab_gt, ab_eq, ab_ne, decide_eq_true_eq, ab_w_id, ab_w0, ab_gd_some, ab_gs_0, ab_gs_1, ab_gl_0, ab_gl_1, ab_bv_some, ab_bu_some, ab_bv_thr, ab_bu_thr, ab_fx_n, ab_fx_i, ab_fx_q, ab_fx_l, ab_sh_si, ab_gr_si, ab_gl_si, cs_n, ↓reduceIte, true_or, or_true, false_or, or_false, and_true, true_and, and_false, false_and, not_true_eq_false, not_false_eq_true, eq_self, Int.reduceEq, Int.reduceLT, Int.reduceLE, Int.reduceAdd, Int.reduceMul, Int.reduceNeg, if_pos, if_neg, hL.1, hL.2, eq_false c0, c]
/-- starts by a gap -/
def pk_gs (gap : Int) : Int → Int := fun d => gap * d
/-- what a start by gaps answers -/
def pk_gap (K : pk_K) (D gap : Int) : Int := if pk_trips K D (pk_gs gap) = true then -1 else gap * (D - 1)
theorem cs_gw_17 {gap : Int} : ∀ (k : Nat) (h : ab_H) (st i x : Int), ab_gi (cs_gw gap h st i k) 17 x = if i ≤ x ∧ x < i + k then st + gap * (x - i) else ab_gi h 17 x
  | 0, h, st, i, x => by rw [if_neg (by omega)]; rfl
  | k + 1, h, st, i, x => by
    unfold cs_gw
    rw [cs_gw_17 k, ab_gi_si]
    by_cases e : x = i
    · subst e
      rw [if_neg (by omega), if_pos ⟨rfl, rfl⟩, if_pos (by omega), Int.sub_self, Int.mul_zero, Int.add_zero]
    · by_cases c : i + 1 ≤ x ∧ x < i + 1 + k
      · rw [if_pos c, if_pos (by omega), show x - i = (x - (i + 1)) + 1 from by omega, Int.mul_add, Int.mul_one]; omega
      · rw [if_neg c, if_neg (fun q => e q.2), if_neg (by omega)]
theorem cs_gw_2 {gap : Int} : ∀ (k : Nat) (h : ab_H) (st i : Int), (cs_gw gap h st i k).2 = h.2
  | 0, h, st, i => rfl
  | k + 1, h, st, i => (cs_gw_2 k _ _ _).trans rfl
theorem cs_tp_g {h : ab_H} {D : Int} {a : Nat} {st : Int → Int} (hn : ab_gi h 7 2 = D) (hD5 : D ≤ 5) (ha : ∀ d, 0 ≤ d → d < D → ab_gi h a d = st d ∧ 0 ≤ st d) : ∀ (k : Nat) (run t : Int), cs_tp h a run t k = if pk_g (ab_gi h 7 1) (pk_ov (ck_K h) D st) run t k = true then 1 else 0
  | 0, run, t => by simp [cs_tp, pk_g]
  | k + 1, run, t => by
    have e : cs_dr h a t = pk_dr (ck_K h) D st t := by
      unfold cs_dr pk_dr
      rw [hn]
      refine cs_sf_congr _ _ (fun j j1 j2 => ?_)
      obtain ⟨q1, q2⟩ := ha j j1 (by omega)
      unfold cs_d1 pk_d1 cs_ds
      rw [q1, if_neg (show ¬ st j = -1 by omega), ck_K_1 h j1 (by omega), ck_K_2 h j1 (by omega), ck_K_3 h j1 (by omega)]
      by_cases c : t < st j
      · rw [if_pos c, if_pos c]
      · rw [if_neg c, if_neg c]
        by_cases c2 : t - st j < ab_gi h 9 j
        · rw [if_pos c2, if_pos (by omega)]
        · rw [if_neg c2, if_neg (by omega)]
    have e2 : (pk_ov (ck_K h) D st t = true) = (ab_gi h 7 0 < pk_dr (ck_K h) D st t) := by
      unfold pk_ov; rw [decide_eq_true_eq]; rfl
    rw [pk_g_s]
    unfold cs_tp
    rw [e]
    simp only [e2]
    by_cases c : ab_gi h 7 1 < (if ab_gi h 7 0 < pk_dr (ck_K h) D st t then run + 1 else 0)
    · rw [if_pos c, if_pos c]; rfl
    · rw [if_neg c, if_neg c]
      exact cs_tp_g hn hD5 ha k _ (t + 1)
/-- the row of gaps alone changes -/
def cs_A (h g : ab_H) : Prop := g.2 = h.2 ∧ ∀ c x, c ≠ 17 → ab_gi g c x = ab_gi h c x
theorem m48' {dd : Nat} {h : ab_H} {gap : Int} (i : ci h) (hD : ab_gi h 1 0 ≠ 0) (g1 : 0 ≤ gap) (g2 : gap ≤ 20) :
    ∃ h', ab_E B (dd + 3) 48 0 [some (.inr (.inr (.inl (some 7)))), some (.inl gap), none, none, none] [] h = some (.inl (some (.inl (pk_gap (ck_K h) (ab_gi h 1 0) gap))), h') ∧ ci h' ∧ cs_A h h' ∧ ck_K h' = ck_K h := by
  have hL := i.1.1
  have hDS := i.1.2.1
  obtain ⟨⟨hT, hn, -, -⟩, hZ, hC, h17⟩ := i.2.1
  have hK := ck_K_ok hT
  have e48 := m48 (B := B) (dd := dd) hT h17 g1 g2
  rw [hn] at e48
  have ga : ∀ c x, c ≠ 17 → ab_gi (cs_gw gap h 0 0 (ab_gi h 1 0).toNat) c x = ab_gi h c x := fun c x hc => cs_gw_gi hc _ _ _ _ _
  have hb := cs_gw_b g1 g2 (ab_gi h 1 0).toNat h 0 0 (by omega) (by
    have : gap * ((ab_gi h 1 0).toNat : Int) ≤ 20 * 5 := Int.mul_le_mul g2 (by omega) (by omega) (by omega)
    omega) h17
  have eK : ck_K (cs_gw gap h 0 0 (ab_gi h 1 0).toNat) = ck_K h := ck_K_congr (ga 7 0 (by decide)) (ga 7 1 (by decide)) (fun c d q => ga c d (by omega))
  have hL' : cs_L (cs_gw gap h 0 0 (ab_gi h 1 0).toNat) := cs_L_2 hL (cs_gw_2 _ _ _ _)
  have hmul : ∀ d, 0 ≤ d → d < ab_gi h 1 0 → 0 ≤ gap * d ∧ gap * d ≤ 80 := fun d d1 d2 => by
    have a := Int.mul_nonneg g1 d1
    have b : gap * d ≤ 20 * 4 := Int.mul_le_mul g2 (by omega) d1 (by omega)
    omega
  have et : cs_tp (cs_gw gap h 0 0 (ab_gi h 1 0).toNat) 17 0 0 100 = if pk_trips (ck_K h) (ab_gi h 1 0) (pk_gs gap) = true then 1 else 0 := by
    rw [cs_tp_g (D := ab_gi h 1 0) (st := pk_gs gap) (by rw [ga 7 2 (by decide)]; exact hn) (by omega) (fun d d1 d2 => by
      rw [cs_gw_17, if_pos (by omega), Int.sub_zero, Int.zero_add]
      exact ⟨rfl, (hmul d d1 d2).1⟩), eK]
    have h100 := pk_100 hK (show ab_gi h 1 0 ≤ 5 by omega) (st := pk_gs gap) hmul
    rw [← h100, ga 7 1 (by decide)]
    rfl
  have eg : cs_gap h gap = pk_gap (ck_K h) (ab_gi h 1 0) gap := by
    unfold cs_gap pk_gap
    rw [hn, et]
    by_cases c : pk_trips (ck_K h) (ab_gi h 1 0) (pk_gs gap) = true
    · rw [if_pos c, if_pos c, if_pos rfl]
    · rw [if_neg c, if_neg c, if_neg (by omega), if_neg (by omega), show (((ab_gi h 1 0).toNat : Nat) : Int) = ab_gi h 1 0 from by omega]; omega
  rw [eg] at e48
  refine ⟨_, e48, ⟨cs_R_of i.1 hL' (fun c x _ q => ga c x (by omega)), ?_, by rw [ga 0 2 (by decide), ga 1 0 (by decide)]; exact i.2.2.1, cn_of i.2.2.2.1 (cs_B_of (ga 1 0 (by decide)) (ga 1 1 (by decide))) (fun x _ _ => ga 0 x (by decide)), by rw [ga 0 6 (by decide), ga 0 7 (by decide)]; exact i.2.2.2.2⟩, ⟨cs_gw_2 _ _ _ _, ga⟩, eK⟩
  rw [ga 1 0 (by decide)]
  refine ⟨⟨⟨hL', ?_, ?_, ?_, fun d d1 d2 => ?_⟩, by rw [ga 7 2 (by decide)]; exact hn, by omega, by omega⟩, ⟨?_, fun t q1 q2 => ?_, fun x q1 q2 => ?_, fun x q1 q2 => ?_⟩, ?_, hb⟩
  · rw [ga 7 2 (by decide)]; exact hT.2.1
  · rw [ga 7 0 (by decide)]; exact hT.2.2.1
  · rw [ga 7 1 (by decide)]; exact hT.2.2.2.1
  · rw [ga 8 d (by decide), ga 9 d (by decide), ga 10 d (by decide)]; exact hT.2.2.2.2 d d1 d2
  · rw [ga 7 12 (by decide)]; exact hZ.1
  · rw [ga 16 t (by decide)]; exact hZ.2.1 t q1 q2
  · rw [ga 13 x (by decide)]; exact hZ.2.2.1 x q1 q2
  · rw [ga 11 x (by decide)]; exact hZ.2.2.2 x q1 q2
  · rw [eK]; exact hC.of (ga 7 6 (by decide)) (fun c x q => ga c x (by omega))
theorem m74 {dd : Nat} {g : Int} {h : ab_H} (i : ci h) (g1 : 0 ≤ g) (g2 : g ≤ 20) (hD : ab_gi h 1 0 ≠ 0) (h2 : ab_gi h 0 2 = 0) : ∃ h', ab_E B (dd + 4) 74 0 [some (.inr (.inr (.inl (some 0)))), some (.inl g), none] [] h = some (.inl (some (.inl (pk_gap (ck_K h) (ab_gi h 1 0) g))), if pk_gap (ck_K h) (ab_gi h 1 0) g = -1 then h' else cs_on h') ∧ ci h' ∧ cs_A h h' ∧ ck_K h' = ck_K h := by
  have hL := i.1.1
  have hDS := i.1.2.1
  obtain ⟨h', a, i', A, eK⟩ := m48' (B := B) (dd := dd) i hD g1 g2
  have hL' := i'.1.1
  have e0 : ab_gi h' 1 0 = ab_gi h 1 0 := A.2 1 0 (by decide)
  refine ⟨h', ?_, i', A, eK⟩
  have hr : -1 ≤ pk_gap (ck_K h) (ab_gi h 1 0) g ∧ pk_gap (ck_K h) (ab_gi h 1 0) g ≤ 100 := by
    have a := Int.mul_nonneg g1 (show 0 ≤ ab_gi h 1 0 - 1 by omega)
    have b : g * (ab_gi h 1 0 - 1) ≤ 20 * 4 := Int.mul_le_mul g2 (by omega) (by omega) (by omega)
    unfold pk_gap
    split <;> omega
  obtain ⟨a94, i94, -, -⟩ := m94 (B := B) (dd := dd) i' (by rw [e0]; exact hD)
  by_cases c : pk_gap (ck_K h) (ab_gi h 1 0) g = -1
  · rw [if_pos c]
    simp (disch := omega) only [e74_0, e74_1, e74_4, e74_5, e74_7, e74_10, e74_20, e74_21, e74_24, e74_27, e74_30, e74_31, e74_34, e74_37, e74_47, e74_48, e74_51, e74_52, e74_55, e74_56, e74_57, e74_58, e74_61, e74_62, e74_65, e74_66, implies_true, Int.reduceSub, Option.isNone_some, Option.isNone_none, ab_bh_some, ab_bh_thr, ab_gs_3, ab_gl_2, ab_gl_3, ab_gt_some, ab_gc_0, ab_gk_0, Bool.false_eq_true, Bool.true_eq_false, false_implies, Nat.reduceEqDiff, ab_ge, ab_lt, ab_le, ab_gt, ab_eq, ab_ne, decide_eq_true_eq, ab_w_id, ab_w0, ab_gd_some, ab_gs_0, ab_gs_1, ab_gl_0, ab_gl_1, ab_bv_some, ab_bu_some, ab_bv_thr, ab_bu_thr, ab_fx_n, ab_fx_i, ab_fx_q, ab_fx_l, ab_sh_si, ab_gr_si, ab_gl_si, cs_n, ↓reduceIte, true_or, or_true, false_or, or_false, and_true, true_and, and_false, false_and, not_true_eq_false, not_false_eq_true, eq_self, Int.reduceEq, Int.reduceLT, Int.reduceLE, Int.reduceAdd, Int.reduceMul, Int.reduceNeg, if_pos, if_neg, hL.1, hL.2, eq_false hD, h2, a, hL'.1, hL'.2, c]
  · rw [if_neg c]
    simp (disch := omega) only [e74_0, e74_1, e74_4, e74_5, e74_7, e74_10, e74_20, e74_21, e74_24, e74_27, e74_30, e74_31, e74_34, e74_37, e74_47, e74_48, e74_51, e74_52, e74_55, e74_56, e74_57, e74_58, e74_61, e74_62, e74_65, e74_66, implies_true, Int.reduceSub, Option.isNone_some, Option.isNone_none, ab_bh_some, ab_bh_thr, ab_gs_3, ab_gl_2, ab_gl_3, ab_gt_some, ab_gc_0, ab_gk_0, Bool.false_eq_true, Bool.true_eq_false, false_implies, Nat.reduceEqDiff, ab_ge, ab_lt, ab_le, ab_gt, ab_eq, ab_ne, decide_eq_true_eq, ab_w_id, ab_w0, ab_gd_some, ab_gs_0, ab_gs_1, ab_gl_0, ab_gl_1, ab_bv_some, ab_bu_some, ab_bv_thr, ab_bu_thr, ab_fx_n, ab_fx_i, ab_fx_q, ab_fx_l, ab_sh_si, ab_gr_si, ab_gl_si, cs_n, ↓reduceIte, true_or, or_true, false_or, or_false, and_true, true_and, and_false, false_and, not_true_eq_false, not_false_eq_true, eq_self, Int.reduceEq, Int.reduceLT, Int.reduceLE, Int.reduceAdd, Int.reduceMul, Int.reduceNeg, if_pos, if_neg, hL.1, hL.2, eq_false hD, h2, a, hL'.1, hL'.2, eq_false c, a94]
theorem m85 {dd : Nat} {h : ab_H} (hL : cs_L h) : ab_E B dd 85 0 [some (.inr (.inr (.inl (some 0))))] [] h = some (.inl (some (.inl (ab_gi h 0 12 + 1))), ab_si h 0 12 (ab_gi h 0 12 + 1)) := by
  have e : ab_gi (ab_si h 0 12 (ab_gi h 0 12 + 1)) 0 12 = ab_gi h 0 12 + 1 := by simp [ab_gi_si]
  simp (disch := omega) only [e85_0, e85_1, e85_2, e85_5, e85_6, e85_7, e85_10, e85_11, e85_14, implies_true, Int.reduceSub, Option.isNone_some, Option.isNone_none, ab_bh_some, ab_bh_thr, ab_gs_3, ab_gl_2, ab_gl_3, ab_gt_some, ab_gc_0, ab_gk_0, Bool.false_eq_true, Bool.true_eq_false, false_implies, Nat.reduceEqDiff, ab_ge, ab_lt, ab_le, ab_gt, ab_eq, ab_ne, decide_eq_true_eq, ab_w_id, ab_w0, ab_gd_some, ab_gs_0, ab_gs_1, ab_gl_0, ab_gl_1, ab_bv_some, ab_bu_some, ab_bv_thr, ab_bu_thr, ab_fx_n, ab_fx_i, ab_fx_q, ab_fx_l, ab_sh_si, ab_gr_si, ab_gl_si, cs_n, ↓reduceIte, true_or, or_true, false_or, or_false, and_true, true_and, and_false, false_and, not_true_eq_false, not_false_eq_true, eq_self, Int.reduceEq, Int.reduceLT, Int.reduceLE, Int.reduceAdd, Int.reduceMul, Int.reduceNeg, if_pos, if_neg, hL.1, hL.2, e]
end
