/-! THE PLAN: the search is the mirror's -/
section
variable {B : ab_B}
theorem cz_ls_b {z : cz_Z} {en la : Int} : ∀ (k : Nat) (st run : Int) (x : Int × Int), cz_ls z en la k st run = some x → x.1 = -1 ∨ (0 ≤ x.1 ∧ x.1 ≤ 60)
  | 0, st, run, x, hx => by cases hx
  | k + 1, st, run, x, hx => by
    unfold cz_ls at hx
    by_cases c1 : st ≤ la ∧ st < 100
    · rw [if_pos c1] at hx
      by_cases c2 : 0 ≤ st ∧ st ≤ 60 ∧ 0 ≤ en ∧ en ≤ 90 ∧ 0 ≤ run ∧ run ≤ 900
      · rw [if_pos c2] at hx
        by_cases c3 : cz_tw z st run st ((if en < st + 3 then st + 3 else en) - st).toNat = true
        · rw [if_pos c3] at hx; exact cz_ls_b k _ _ x hx
        · rw [if_neg c3] at hx; cases hx; exact Or.inr ⟨c2.1, c2.2.1⟩
      · rw [if_neg c2] at hx; cases hx
    · rw [if_neg c1] at hx; cases hx; exact Or.inl rfl
theorem m38 {e n : Nat} {D d pl ea en : Int} {h : ab_H} {z z' : cz_Z} (rec : cz_Z → Int → Int → Int → Option cz_Z)
    (hrec : ∀ (h : ab_H) (z z' : cz_Z) (pl ea en : Int), cz_K h D → cz_R h z → 0 ≤ pl → pl ≤ 5 → rec z pl ea en = some z' → ∃ h', ab_E B (e + 2) 54 0 [some (.inr (.inr (some 7))), some (.inl pl), some (.inl ea), some (.inl en), none] [] h = some (.inl none, h') ∧ cz_R h' z' ∧ cz_F h h')
    (hK : cz_K h D) (r : cz_R h z) (h1 : 0 ≤ d) (h2 : d < 5) (hz : cz_td rec z d pl ea en = some z') :
    ∃ h', ab_E B (e + 3) 38 0 [some (.inr (.inr (some 7))), some (.inl d), some (.inl pl), some (.inl ea), some (.inl en), none, none, none] [] h = some (.inl none, h') ∧ cz_R h' z' ∧ cz_F h h' := by
  have hT := hK.1
  have hL := hT.1
  have hs : ab_gi h 9 d = 3 := (hK.2.2.2.2 d h1 h2).2.1
  unfold cz_td at hz
  by_cases c1 : cz_ok z = true ∧ 0 ≤ pl ∧ pl < 5 ∧ -1 ≤ z.2.2.2.2.2.2 ∧ z.2.2.2.2.2.2 ≤ 1000
  rotate_left
  · rw [if_neg c1] at hz; cases hz
  rw [if_pos c1] at hz
  obtain ⟨ho, p1, p2, p3, p4⟩ := c1
  cases hx : cz_lsa z pl ea en with
  | none => rw [hx] at hz; cases hz
  | some x =>
    rw [hx] at hz
    simp only [Option.bind_some] at hz
    have hls := m57 (B := B) (dd := e) hK r ho h1 h2 p1 p2 hx
    have hen : 0 ≤ en ∧ en ≤ 90 := by
      unfold cz_lsa at hx
      by_cases c : 0 ≤ ea ∧ ea ≤ 60 ∧ 0 ≤ en ∧ en ≤ 90
      · exact ⟨c.2.2.1, c.2.2.2⟩
      · rw [if_neg c] at hx; cases hx
    by_cases c2 : x.1 = -1
    · rw [if_pos c2] at hz hls
      cases hz
      have em : (if ab_w en < ab_w (-1 + 3) then ab_w (-1 + 3) else ab_w en) = if en < 2 then 2 else en := by simp (disch := omega) only [Option.isSome_some, ab_bvh_some, ab_bvh_thr, ab_ge, ab_lt, ab_le, ab_gt, ab_eq, ab_ne, decide_eq_true_eq, ab_w_id, ab_w0, ab_gd_some, ab_gs_0, ab_gs_1, ab_gl_0, ab_gl_1, ab_bv_some, ab_bu_some, ab_bv_thr, ab_bu_thr, ab_fx_n, ab_fx_i, ab_fx_q, ab_fx_l, ab_sh_si, ab_gr_si, ab_gl_si, cs_n, ↓reduceIte, true_or, or_true, false_or, or_false, and_true, true_and, and_false, false_and, not_true_eq_false, not_false_eq_true, eq_self, Int.reduceEq, Int.reduceLT, Int.reduceLE, Int.reduceAdd, Int.reduceMul, Int.reduceNeg, if_pos, if_neg]
      have em2 : -1 ≤ (if en < 2 then 2 else en) ∧ (if en < 2 then (2 : Int) else en) ≤ 1000 := by split <;> omega
      have ep := r.2.2.2.2.2.2.2
      rw [c2] at hls
      refine ⟨h, ?_, r, cz_F.rfl' h⟩
      by_cases c3 : ab_gi h 7 6 = -1
      · simp (disch := omega) only [e38_0, e38_1, e38_2, e38_3, e38_4, e38_6, e38_9, e38_11, e38_13, e38_15, e38_16, e38_17, e38_20, e38_21, e38_24, e38_26, e38_27, e38_30, e38_31, e38_34, e38_36, e38_37, e38_40, e38_43, e38_44, e38_47, e38_48, e38_50, e38_52, e38_53, e38_56, e38_58, e38_61, e38_62, e38_65, e38_66, e38_67, e38_70, e38_71, e38_72, e38_75, e38_76, e38_77, e38_78, e38_79, e38_82, e38_83, e38_85, e38_86, e38_87, e38_88, e38_90, e38_91, e38_94, e38_95, e38_96, e38_97, e38_98, e38_100, e38_102, e38_105, e38_106, e38_107, e38_109, e38_110, e38_113, e38_114, e38_117, e38_118, e38_119, e38_120, Option.isSome_some, ab_bvh_some, ab_bvh_thr, ab_ge, ab_lt, ab_le, ab_gt, ab_eq, ab_ne, decide_eq_true_eq, ab_w_id, ab_w0, ab_gd_some, ab_gs_0, ab_gs_1, ab_gl_0, ab_gl_1, ab_bv_some, ab_bu_some, ab_bv_thr, ab_bu_thr, ab_fx_n, ab_fx_i, ab_fx_q, ab_fx_l, ab_sh_si, ab_gr_si, ab_gl_si, cs_n, ↓reduceIte, true_or, or_true, false_or, or_false, and_true, true_and, and_false, false_and, not_true_eq_false, not_false_eq_true, eq_self, Int.reduceEq, Int.reduceLT, Int.reduceLE, Int.reduceAdd, Int.reduceMul, Int.reduceNeg, if_pos, if_neg, hL.1, hL.2, hls, m41 hT h1 h2, hs, em, eq_true c3]
      · by_cases c4 : (if en < 2 then 2 else en) < ab_gi h 7 6
        · simp (disch := omega) only [e38_0, e38_1, e38_2, e38_3, e38_4, e38_6, e38_9, e38_11, e38_13, e38_15, e38_16, e38_17, e38_20, e38_21, e38_24, e38_26, e38_27, e38_30, e38_31, e38_34, e38_36, e38_37, e38_40, e38_43, e38_44, e38_47, e38_48, e38_50, e38_52, e38_53, e38_56, e38_58, e38_61, e38_62, e38_65, e38_66, e38_67, e38_70, e38_71, e38_72, e38_75, e38_76, e38_77, e38_78, e38_79, e38_82, e38_83, e38_85, e38_86, e38_87, e38_88, e38_90, e38_91, e38_94, e38_95, e38_96, e38_97, e38_98, e38_100, e38_102, e38_105, e38_106, e38_107, e38_109, e38_110, e38_113, e38_114, e38_117, e38_118, e38_119, e38_120, Option.isSome_some, ab_bvh_some, ab_bvh_thr, ab_ge, ab_lt, ab_le, ab_gt, ab_eq, ab_ne, decide_eq_true_eq, ab_w_id, ab_w0, ab_gd_some, ab_gs_0, ab_gs_1, ab_gl_0, ab_gl_1, ab_bv_some, ab_bu_some, ab_bv_thr, ab_bu_thr, ab_fx_n, ab_fx_i, ab_fx_q, ab_fx_l, ab_sh_si, ab_gr_si, ab_gl_si, cs_n, ↓reduceIte, true_or, or_true, false_or, or_false, and_true, true_and, and_false, false_and, not_true_eq_false, not_false_eq_true, eq_self, Int.reduceEq, Int.reduceLT, Int.reduceLE, Int.reduceAdd, Int.reduceMul, Int.reduceNeg, if_pos, if_neg, hL.1, hL.2, hls, m41 hT h1 h2, hs, em, eq_false c3, eq_true c4]
        · simp (disch := omega) only [e38_0, e38_1, e38_2, e38_3, e38_4, e38_6, e38_9, e38_11, e38_13, e38_15, e38_16, e38_17, e38_20, e38_21, e38_24, e38_26, e38_27, e38_30, e38_31, e38_34, e38_36, e38_37, e38_40, e38_43, e38_44, e38_47, e38_48, e38_50, e38_52, e38_53, e38_56, e38_58, e38_61, e38_62, e38_65, e38_66, e38_67, e38_70, e38_71, e38_72, e38_75, e38_76, e38_77, e38_78, e38_79, e38_82, e38_83, e38_85, e38_86, e38_87, e38_88, e38_90, e38_91, e38_94, e38_95, e38_96, e38_97, e38_98, e38_100, e38_102, e38_105, e38_106, e38_107, e38_109, e38_110, e38_113, e38_114, e38_117, e38_118, e38_119, e38_120, Option.isSome_some, ab_bvh_some, ab_bvh_thr, ab_ge, ab_lt, ab_le, ab_gt, ab_eq, ab_ne, decide_eq_true_eq, ab_w_id, ab_w0, ab_gd_some, ab_gs_0, ab_gs_1, ab_gl_0, ab_gl_1, ab_bv_some, ab_bu_some, ab_bv_thr, ab_bu_thr, ab_fx_n, ab_fx_i, ab_fx_q, ab_fx_l, ab_sh_si, ab_gr_si, ab_gl_si, cs_n, ↓reduceIte, true_or, or_true, false_or, or_false, and_true, true_and, and_false, false_and, not_true_eq_false, not_false_eq_true, eq_self, Int.reduceEq, Int.reduceLT, Int.reduceLE, Int.reduceAdd, Int.reduceMul, Int.reduceNeg, if_pos, if_neg, hL.1, hL.2, hls, m41 hT h1 h2, hs, em, eq_false c3, eq_false c4]
    · rw [if_neg c2] at hz hls
      have hxb : 0 ≤ x.1 ∧ x.1 ≤ 60 := by
        unfold cz_lsa at hx
        by_cases c : 0 ≤ ea ∧ ea ≤ 60 ∧ 0 ≤ en ∧ en ≤ 90
        · rw [if_pos c] at hx
          rcases cz_ls_b _ _ _ _ hx with q | q
          · exact absurd q c2
          · exact q
        · rw [if_neg c] at hx; cases hx
      have em : (if ab_w en < ab_w (x.1 + 3) then ab_w (x.1 + 3) else ab_w en) = if en < x.1 + 3 then x.1 + 3 else en := by simp (disch := omega) only [Option.isSome_some, ab_bvh_some, ab_bvh_thr, ab_ge, ab_lt, ab_le, ab_gt, ab_eq, ab_ne, decide_eq_true_eq, ab_w_id, ab_w0, ab_gd_some, ab_gs_0, ab_gs_1, ab_gl_0, ab_gl_1, ab_bv_some, ab_bu_some, ab_bv_thr, ab_bu_thr, ab_fx_n, ab_fx_i, ab_fx_q, ab_fx_l, ab_sh_si, ab_gr_si, ab_gl_si, cs_n, ↓reduceIte, true_or, or_true, false_or, or_false, and_true, true_and, and_false, false_and, not_true_eq_false, not_false_eq_true, eq_self, Int.reduceEq, Int.reduceLT, Int.reduceLE, Int.reduceAdd, Int.reduceMul, Int.reduceNeg, if_pos, if_neg]
      have em2 : -1 ≤ (if en < x.1 + 3 then x.1 + 3 else en) ∧ (if en < x.1 + 3 then x.1 + 3 else en) ≤ 1000 := by split <;> omega
      have ep := r.2.2.2.2.2.2.2
      have hK1 := (cz_F.si (h := h) (c := 15) (k := pl) (v := x.2) (Or.inl (by omega))).K hK
      have r1 := r.tr (v := x.2) p1 p2
      have hL1 := hK1.1.1
      have ep1 : ab_gi (ab_si h 15 pl x.2) 7 6 = ab_gi h 7 6 := by rw [ab_gi_si, if_neg (by simp)]
      have hs1 : ab_gi (ab_si h 15 pl x.2) 9 d = 3 := (hK1.2.2.2.2 d h1 h2).2.1
      by_cases c3 : z.2.2.2.2.2.2 ≠ -1 ∧ z.2.2.2.2.2.2 ≤ (if en < x.1 + 3 then x.1 + 3 else en)
      · rw [if_pos c3] at hz
        cases hz
        rw [← ep] at c3
        have c4 : ¬ (if en < x.1 + 3 then x.1 + 3 else en) < ab_gi h 7 6 := by omega
        refine ⟨ab_si h 15 pl x.2, ?_, r1, cz_F.si (Or.inl (by omega))⟩
        simp (disch := omega) only [e38_0, e38_1, e38_2, e38_3, e38_4, e38_6, e38_9, e38_11, e38_13, e38_15, e38_16, e38_17, e38_20, e38_21, e38_24, e38_26, e38_27, e38_30, e38_31, e38_34, e38_36, e38_37, e38_40, e38_43, e38_44, e38_47, e38_48, e38_50, e38_52, e38_53, e38_56, e38_58, e38_61, e38_62, e38_65, e38_66, e38_67, e38_70, e38_71, e38_72, e38_75, e38_76, e38_77, e38_78, e38_79, e38_82, e38_83, e38_85, e38_86, e38_87, e38_88, e38_90, e38_91, e38_94, e38_95, e38_96, e38_97, e38_98, e38_100, e38_102, e38_105, e38_106, e38_107, e38_109, e38_110, e38_113, e38_114, e38_117, e38_118, e38_119, e38_120, Option.isSome_some, ab_bvh_some, ab_bvh_thr, ab_ge, ab_lt, ab_le, ab_gt, ab_eq, ab_ne, decide_eq_true_eq, ab_w_id, ab_w0, ab_gd_some, ab_gs_0, ab_gs_1, ab_gl_0, ab_gl_1, ab_bv_some, ab_bu_some, ab_bv_thr, ab_bu_thr, ab_fx_n, ab_fx_i, ab_fx_q, ab_fx_l, ab_sh_si, ab_gr_si, ab_gl_si, cs_n, ↓reduceIte, true_or, or_true, false_or, or_false, and_true, true_and, and_false, false_and, not_true_eq_false, not_false_eq_true, eq_self, Int.reduceEq, Int.reduceLT, Int.reduceLE, Int.reduceAdd, Int.reduceMul, Int.reduceNeg, if_pos, if_neg, hL.1, hL.2, hL1.1, hL1.2, hls, m41 hK1.1 h1 h2, hs1, em, ep1, eq_false c3.1, eq_false c4, eq_false c2]
      · rw [if_neg c3] at hz
        rw [← ep] at c3
        by_cases c5 : 0 ≤ x.1 ∧ x.1 ≤ 60 ∧ 0 ≤ en ∧ en ≤ 90
        rotate_left
        · rw [if_neg c5] at hz; cases hz
        rw [if_pos c5] at hz
        have r2 := (r1.tp (v := pl) h1 h2).ts (v := x.1) h1 h2
        have f2 : cz_F h (ab_si (ab_si (ab_si h 15 pl x.2) 14 d pl) 13 d x.1) := ((cz_F.si (Or.inl (by omega))).trans (cz_F.si (Or.inl (by omega)))).trans (cz_F.si (Or.inl (by omega)))
        have hK2 := f2.K hK
        have hL2 := hK2.1.1
        obtain ⟨r3, f3⟩ := cz_ad_R (ti := 1) hK2 r2 h1 h2 c5.1 c5.2.1
        have hK3 := f3.K hK2
        have a3 := m56 (B := B) (dd := e + 1) (ti := 1) hK2.1 h1 h2 c5.1 c5.2.1
        cases hy : rec (cz_ad (z.1, z.2.1, cz_s z.2.2.1 d x.1, cz_s z.2.2.2.1 d pl, cz_s z.2.2.2.2.1 pl x.2, z.2.2.2.2.2) x.1 1) (pl + 1) x.1 (if en < x.1 + 3 then x.1 + 3 else en) with
        | none => rw [hy] at hz; cases hz
        | some z3 =>
          rw [hy] at hz
          simp only [Option.bind_some] at hz
          cases hz
          obtain ⟨h4, a4, r4, f4⟩ := hrec _ _ _ _ _ _ hK3 r3 (by omega) (by omega) hy
          have hK4 := f4.K hK3
          obtain ⟨r5, f5⟩ := cz_ad_R (ti := -1) hK4 r4 h1 h2 c5.1 c5.2.1
          have hK5 := f5.K hK4
          have hL5 := hK5.1.1
          have hL3 := hK3.1.1
          have hL4 := hK4.1.1
          have a5 := m56 (B := B) (dd := e + 1) (ti := -1) hK4.1 h1 h2 c5.1 c5.2.1
          refine ⟨_, ?_, r5.tp (v := -1) h1 h2, (((f2.trans f3).trans f4).trans f5).trans (cz_F.si (Or.inl (by omega)))⟩
          by_cases c4 : ab_gi h 7 6 = -1
          · simp (disch := omega) only [e38_0, e38_1, e38_2, e38_3, e38_4, e38_6, e38_9, e38_11, e38_13, e38_15, e38_16, e38_17, e38_20, e38_21, e38_24, e38_26, e38_27, e38_30, e38_31, e38_34, e38_36, e38_37, e38_40, e38_43, e38_44, e38_47, e38_48, e38_50, e38_52, e38_53, e38_56, e38_58, e38_61, e38_62, e38_65, e38_66, e38_67, e38_70, e38_71, e38_72, e38_75, e38_76, e38_77, e38_78, e38_79, e38_82, e38_83, e38_85, e38_86, e38_87, e38_88, e38_90, e38_91, e38_94, e38_95, e38_96, e38_97, e38_98, e38_100, e38_102, e38_105, e38_106, e38_107, e38_109, e38_110, e38_113, e38_114, e38_117, e38_118, e38_119, e38_120, Option.isSome_some, ab_bvh_some, ab_bvh_thr, ab_ge, ab_lt, ab_le, ab_gt, ab_eq, ab_ne, decide_eq_true_eq, ab_w_id, ab_w0, ab_gd_some, ab_gs_0, ab_gs_1, ab_gl_0, ab_gl_1, ab_bv_some, ab_bu_some, ab_bv_thr, ab_bu_thr, ab_fx_n, ab_fx_i, ab_fx_q, ab_fx_l, ab_sh_si, ab_gr_si, ab_gl_si, cs_n, ↓reduceIte, true_or, or_true, false_or, or_false, and_true, true_and, and_false, false_and, not_true_eq_false, not_false_eq_true, eq_self, Int.reduceEq, Int.reduceLT, Int.reduceLE, Int.reduceAdd, Int.reduceMul, Int.reduceNeg, if_pos, if_neg, hL.1, hL.2, hL1.1, hL1.2, hL2.1, hL2.2, hL3.1, hL3.2, hL4.1, hL4.2, hL5.1, hL5.2, hls, m41 hK1.1 h1 h2, hs1, em, ep1, eq_true c4, eq_false c2, a3, a4, a5]
          · have c6 : (if en < x.1 + 3 then x.1 + 3 else en) < ab_gi h 7 6 := by omega
            simp (disch := omega) only [e38_0, e38_1, e38_2, e38_3, e38_4, e38_6, e38_9, e38_11, e38_13, e38_15, e38_16, e38_17, e38_20, e38_21, e38_24, e38_26, e38_27, e38_30, e38_31, e38_34, e38_36, e38_37, e38_40, e38_43, e38_44, e38_47, e38_48, e38_50, e38_52, e38_53, e38_56, e38_58, e38_61, e38_62, e38_65, e38_66, e38_67, e38_70, e38_71, e38_72, e38_75, e38_76, e38_77, e38_78, e38_79, e38_82, e38_83, e38_85, e38_86, e38_87, e38_88, e38_90, e38_91, e38_94, e38_95, e38_96, e38_97, e38_98, e38_100, e38_102, e38_105, e38_106, e38_107, e38_109, e38_110, e38_113, e38_114, e38_117, e38_118, e38_119, e38_120, Option.isSome_some, ab_bvh_some, ab_bvh_thr, ab_ge, ab_lt, ab_le, ab_gt, ab_eq, ab_ne, decide_eq_true_eq, ab_w_id, ab_w0, ab_gd_some, ab_gs_0, ab_gs_1, ab_gl_0, ab_gl_1, ab_bv_some, ab_bu_some, ab_bv_thr, ab_bu_thr, ab_fx_n, ab_fx_i, ab_fx_q, ab_fx_l, ab_sh_si, ab_gr_si, ab_gl_si, cs_n, ↓reduceIte, true_or, or_true, false_or, or_false, and_true, true_and, and_false, false_and, not_true_eq_false, not_false_eq_true, eq_self, Int.reduceEq, Int.reduceLT, Int.reduceLE, Int.reduceAdd, Int.reduceMul, Int.reduceNeg, if_pos, if_neg, hL.1, hL.2, hL1.1, hL1.2, hL2.1, hL2.2, hL3.1, hL3.2, hL4.1, hL4.2, hL5.1, hL5.2, hls, m41 hK1.1 h1 h2, hs1, em, ep1, eq_false c4, eq_true c6, eq_false c2, a3, a4, a5]
theorem m54_loop {e : Nat} {D pl ea en : Int} (hD : D ≤ 5) (rec : cz_Z → Int → Int → Int → Option cz_Z)
    (hrec : ∀ (h : ab_H) (z z' : cz_Z) (pl ea en : Int), cz_K h D → cz_R h z → 0 ≤ pl → pl ≤ 5 → rec z pl ea en = some z' → ∃ h', ab_E B (e + 2) 54 0 [some (.inr (.inr (some 7))), some (.inl pl), some (.inl ea), some (.inl en), none] [] h = some (.inl none, h') ∧ cz_R h' z' ∧ cz_F h h') : ∀ (k : Nat) (i : Int) (h : ab_H) (z z' : cz_Z), cz_K h D → cz_R h z → 0 ≤ i → i + k = D → cz_lp (cz_f rec pl ea en) k i z = some z' →
    ∃ h', ab_E B (e + 4) 54 22 [some (.inr (.inr (some 7))), some (.inl pl), some (.inl ea), some (.inl en), some (.inl i)] [] h = some (.inl none, h') ∧ cz_R h' z' ∧ cz_F h h'
  | 0, i, h, z, z', hK, r, q1, q2, hz => by
    have hL := hK.1.1
    have hn := hK.2.1
    cases hz
    refine ⟨h, ?_, r, cz_F.rfl' h⟩
    rw [e54_22]
    simp (disch := omega) only [e54_0, e54_1, e54_2, e54_5, e54_8, e54_9, e54_10, e54_13, e54_14, e54_15, e54_18, e54_19, e54_20, e54_24, e54_25, e54_28, e54_31, e54_33, e54_34, e54_37, e54_38, e54_41, e54_43, e54_44, e54_45, e54_48, e54_49, e54_51, e54_52, e54_53, e54_54, e54_57, e54_60, e54_63, Option.isSome_some, ab_bvh_some, ab_bvh_thr, ab_ge, ab_lt, ab_le, ab_gt, ab_eq, ab_ne, decide_eq_true_eq, ab_w_id, ab_w0, ab_gd_some, ab_gs_0, ab_gs_1, ab_gl_0, ab_gl_1, ab_bv_some, ab_bu_some, ab_bv_thr, ab_bu_thr, ab_fx_n, ab_fx_i, ab_fx_q, ab_fx_l, ab_sh_si, ab_gr_si, ab_gl_si, cs_n, ↓reduceIte, true_or, or_true, false_or, or_false, and_true, true_and, and_false, false_and, not_true_eq_false, not_false_eq_true, eq_self, Int.reduceEq, Int.reduceLT, Int.reduceLE, Int.reduceAdd, Int.reduceMul, Int.reduceNeg, if_pos, if_neg, hL.1, hL.2]
  | k + 1, i, h, z, z', hK, r, q1, q2, hz => by
    have hL := hK.1.1
    have hn := hK.2.1
    unfold cz_lp at hz
    have e14 := r.2.2.2.2.1 i q1 (by omega)
    cases hy : cz_f rec pl ea en z i with
    | none => rw [hy] at hz; cases hz
    | some z1 =>
      rw [hy] at hz
      simp only [Option.bind_some] at hz
      unfold cz_f at hy
      by_cases c0 : -1 ≤ cz_g z.2.2.2.1 i ∧ cz_g z.2.2.2.1 i ≤ 5
      rotate_left
      · rw [if_neg c0] at hy; cases hy
      rw [if_pos c0] at hy
      rw [← e14] at c0
      by_cases c1 : cz_g z.2.2.2.1 i = -1
      · rw [if_pos c1] at hy
        obtain ⟨h1, a1, r1, f1⟩ := m38 (e := e) (n := 0) rec hrec hK r q1 (show i < 5 by omega) hy
        obtain ⟨h2, a2, r2, f2⟩ := m54_loop hD rec hrec k (i + 1) h1 z1 z' (f1.K hK) r1 (by omega) (by omega) hz
        refine ⟨h2, ?_, r2, f1.trans f2⟩
        rw [e54_22, ← a2]
        simp (disch := omega) only [e54_0, e54_1, e54_2, e54_5, e54_8, e54_9, e54_10, e54_13, e54_14, e54_15, e54_18, e54_19, e54_20, e54_24, e54_25, e54_28, e54_31, e54_33, e54_34, e54_37, e54_38, e54_41, e54_43, e54_44, e54_45, e54_48, e54_49, e54_51, e54_52, e54_53, e54_54, e54_57, e54_60, e54_63, Option.isSome_some, ab_bvh_some, ab_bvh_thr, ab_ge, ab_lt, ab_le, ab_gt, ab_eq, ab_ne, decide_eq_true_eq, ab_w_id, ab_w0, ab_gd_some, ab_gs_0, ab_gs_1, ab_gl_0, ab_gl_1, ab_bv_some, ab_bu_some, ab_bv_thr, ab_bu_thr, ab_fx_n, ab_fx_i, ab_fx_q, ab_fx_l, ab_sh_si, ab_gr_si, ab_gl_si, cs_n, ↓reduceIte, true_or, or_true, false_or, or_false, and_true, true_and, and_false, false_and, not_true_eq_false, not_false_eq_true, eq_self, Int.reduceEq, Int.reduceLT, Int.reduceLE, Int.reduceAdd, Int.reduceMul, Int.reduceNeg, if_pos, if_neg, hL.1, hL.2, e14, c1, a1]
      · rw [if_neg c1] at hy
        cases hy
        obtain ⟨h2, a2, r2, f2⟩ := m54_loop hD rec hrec k (i + 1) h z z' hK r (by omega) (by omega) hz
        refine ⟨h2, ?_, r2, f2⟩
        rw [← e14] at c1
        rw [e54_22, ← a2]
        simp (disch := omega) only [e54_0, e54_1, e54_2, e54_5, e54_8, e54_9, e54_10, e54_13, e54_14, e54_15, e54_18, e54_19, e54_20, e54_24, e54_25, e54_28, e54_31, e54_33, e54_34, e54_37, e54_38, e54_41, e54_43, e54_44, e54_45, e54_48, e54_49, e54_51, e54_52, e54_53, e54_54, e54_57, e54_60, e54_63, Option.isSome_some, ab_bvh_some, ab_bvh_thr, ab_ge, ab_lt, ab_le, ab_gt, ab_eq, ab_ne, decide_eq_true_eq, ab_w_id, ab_w0, ab_gd_some, ab_gs_0, ab_gs_1, ab_gl_0, ab_gl_1, ab_bv_some, ab_bu_some, ab_bv_thr, ab_bu_thr, ab_fx_n, ab_fx_i, ab_fx_q, ab_fx_l, ab_sh_si, ab_gr_si, ab_gl_si, cs_n, ↓reduceIte, true_or, or_true, false_or, or_false, and_true, true_and, and_false, false_and, not_true_eq_false, not_false_eq_true, eq_self, Int.reduceEq, Int.reduceLT, Int.reduceLE, Int.reduceAdd, Int.reduceMul, Int.reduceNeg, if_pos, if_neg, hL.1, hL.2, eq_false c1]
theorem m54 {e : Nat} {D : Int} (hD : D ≤ 5) (hD0 : 0 ≤ D) : ∀ (n : Nat) (h : ab_H) (z z' : cz_Z) (pl ea en : Int), cz_K h D → cz_R h z → 0 ≤ pl → pl ≤ 5 → cz_tp D n z pl ea en = some z' →
    ∃ h', ab_E B (e + 2 * n + 2) 54 0 [some (.inr (.inr (some 7))), some (.inl pl), some (.inl ea), some (.inl en), none] [] h = some (.inl none, h') ∧ cz_R h' z' ∧ cz_F h h'
  | 0, h, z, z', pl, ea, en, hK, r, q1, q2, hz => by cases hz
  | n + 1, h, z, z', pl, ea, en, hK, r, q1, q2, hz => by
    have hL := hK.1.1
    have hn := hK.2.1
    unfold cz_tp at hz
    by_cases c : D ≤ pl
    · rw [if_pos c] at hz
      cases hz
      obtain ⟨h1, a1, r1, f1⟩ := m55z (B := B) (dd := e + 2 * n + 3) (e := en) hL r
      refine ⟨h1, ?_, r1, f1⟩
      rw [show e + 2 * (n + 1) + 2 = e + 2 * n + 3 + 1 from by omega]
      simp (disch := omega) only [e54_0, e54_1, e54_2, e54_5, e54_8, e54_9, e54_10, e54_13, e54_14, e54_15, e54_18, e54_19, e54_20, e54_24, e54_25, e54_28, e54_31, e54_33, e54_34, e54_37, e54_38, e54_41, e54_43, e54_44, e54_45, e54_48, e54_49, e54_51, e54_52, e54_53, e54_54, e54_57, e54_60, e54_63, Option.isSome_some, ab_bvh_some, ab_bvh_thr, ab_ge, ab_lt, ab_le, ab_gt, ab_eq, ab_ne, decide_eq_true_eq, ab_w_id, ab_w0, ab_gd_some, ab_gs_0, ab_gs_1, ab_gl_0, ab_gl_1, ab_bv_some, ab_bu_some, ab_bv_thr, ab_bu_thr, ab_fx_n, ab_fx_i, ab_fx_q, ab_fx_l, ab_sh_si, ab_gr_si, ab_gl_si, cs_n, ↓reduceIte, true_or, or_true, false_or, or_false, and_true, true_and, and_false, false_and, not_true_eq_false, not_false_eq_true, eq_self, Int.reduceEq, Int.reduceLT, Int.reduceLE, Int.reduceAdd, Int.reduceMul, Int.reduceNeg, if_pos, if_neg, hL.1, hL.2, a1]
    · rw [if_neg c] at hz
      obtain ⟨h1, a1, r1, f1⟩ := m54_loop (B := B) (e := e + 2 * n) hD (cz_tp D n) (fun h z z' pl ea en => m54 hD hD0 n h z z' pl ea en) D.toNat 0 h z z' hK r (by omega) (by omega) hz
      refine ⟨h1, ?_, r1, f1⟩
      rw [← a1, show e + 2 * (n + 1) + 2 = e + 2 * n + 4 from by omega]
      simp (disch := omega) only [e54_0, e54_1, e54_2, e54_5, e54_8, e54_9, e54_10, e54_13, e54_14, e54_15, e54_18, e54_19, e54_20, e54_24, e54_25, e54_28, e54_31, e54_33, e54_34, e54_37, e54_38, e54_41, e54_43, e54_44, e54_45, e54_48, e54_49, e54_51, e54_52, e54_53, e54_54, e54_57, e54_60, e54_63, Option.isSome_some, ab_bvh_some, ab_bvh_thr, ab_ge, ab_lt, ab_le, ab_gt, ab_eq, ab_ne, decide_eq_true_eq, ab_w_id, ab_w0, ab_gd_some, ab_gs_0, ab_gs_1, ab_gl_0, ab_gl_1, ab_bv_some, ab_bu_some, ab_bv_thr, ab_bu_thr, ab_fx_n, ab_fx_i, ab_fx_q, ab_fx_l, ab_sh_si, ab_gr_si, ab_gl_si, cs_n, ↓reduceIte, true_or, or_true, false_or, or_false, and_true, true_and, and_false, false_and, not_true_eq_false, not_false_eq_true, eq_self, Int.reduceEq, Int.reduceLT, Int.reduceLE, Int.reduceAdd, Int.reduceMul, Int.reduceNeg, if_pos, if_neg, hL.1, hL.2]
/-- the tried places are emptied -/
def cz_em : cz_Z → Int → Nat → cz_Z
  | z, _, 0 => z
  | z, i, k + 1 => cz_em (z.1, z.2.1, z.2.2.1, cz_s z.2.2.2.1 i (-1), z.2.2.2.2) (i + 1) k
theorem m52_loop {e : Nat} {D : Int} {x : cz_Z} (hD : 3 ≤ D) (hD5 : D ≤ 5) : ∀ (k : Nat) (i : Int) (h : ab_H) (z : cz_Z), cz_K h D → cz_R h z → 0 ≤ i → i + k = 5 → cz_tp D 6 (cz_em z i k) 0 0 0 = some x →
    ∃ h', ab_E B (e + 15) 52 7 [some (.inr (.inr (some 7))), some (.inl i)] [] h = some (.inl none, h') ∧ cz_R h' x ∧ cz_F h h'
  | 0, i, h, z, hK, r, q1, q2, hx => by
    have hL := hK.1.1
    have hn := hK.2.1
    have hl := hK.2.2.1
    obtain ⟨h1, a1, r1, f1⟩ := m54 (B := B) (e := e) hD5 (by omega) 6 h z x 0 0 0 hK r (by omega) (by omega) hx
    refine ⟨h1, ?_, r1, f1⟩
    have es : cs_sf (fun d => ab_gi h 10 d) 0 (ab_gi h 7 2).toNat = 2 * D := by
      have q := fun d p1 p2 => (hK.2.2.2.2 d p1 p2).2.2
      have q0 := q 0 (by omega) (by omega)
      have q1 := q 1 (by omega) (by omega)
      have q2 := q 2 (by omega) (by omega)
      have q3 := q 3 (by omega) (by omega)
      have q4 := q 4 (by omega) (by omega)
      rw [hn]
      have hc : D = 3 ∨ D = 4 ∨ D = 5 := by omega
      rcases hc with c | c | c <;> subst c <;> simp [cs_sf, q0, q1, q2, q3, q4]
    have a2 := m53 (B := B) (dd := e + 13) hK.1
    rw [es] at a2
    rw [e52_7]
    simp (disch := omega) only [e52_0, e52_1, e52_2, e52_5, e52_6, e52_8, e52_9, e52_12, e52_13, e52_16, e52_17, e52_18, e52_19, e52_22, e52_25, e52_26, e52_29, e52_32, e52_33, e52_36, e52_37, e52_40, e52_43, e52_44, e52_45, e52_46, e52_47, e52_50, Option.isSome_some, ab_bvh_some, ab_bvh_thr, ab_ge, ab_lt, ab_le, ab_gt, ab_eq, ab_ne, decide_eq_true_eq, ab_w_id, ab_w0, ab_gd_some, ab_gs_0, ab_gs_1, ab_gl_0, ab_gl_1, ab_bv_some, ab_bu_some, ab_bv_thr, ab_bu_thr, ab_fx_n, ab_fx_i, ab_fx_q, ab_fx_l, ab_sh_si, ab_gr_si, ab_gl_si, cs_n, ↓reduceIte, true_or, or_true, false_or, or_false, and_true, true_and, and_false, false_and, not_true_eq_false, not_false_eq_true, eq_self, Int.reduceEq, Int.reduceLT, Int.reduceLE, Int.reduceAdd, Int.reduceMul, Int.reduceNeg, if_pos, if_neg, hL.1, hL.2, hl, a2, a1]
  | k + 1, i, h, z, hK, r, q1, q2, hx => by
    have hL := hK.1.1
    have r1 := r.tp (v := -1) q1 (by omega)
    obtain ⟨h2, a2, r2, f2⟩ := m52_loop (e := e) hD hD5 k (i + 1) (ab_si h 14 i (-1)) _ ((cz_F.si (Or.inl (by omega))).K hK) r1 (by omega) (by omega) hx
    refine ⟨h2, ?_, r2, (cz_F.si (Or.inl (by omega))).trans f2⟩
    rw [e52_7, ← a2]
    simp (disch := omega) only [e52_0, e52_1, e52_2, e52_5, e52_6, e52_8, e52_9, e52_12, e52_13, e52_16, e52_17, e52_18, e52_19, e52_22, e52_25, e52_26, e52_29, e52_32, e52_33, e52_36, e52_37, e52_40, e52_43, e52_44, e52_45, e52_46, e52_47, e52_50, Option.isSome_some, ab_bvh_some, ab_bvh_thr, ab_ge, ab_lt, ab_le, ab_gt, ab_eq, ab_ne, decide_eq_true_eq, ab_w_id, ab_w0, ab_gd_some, ab_gs_0, ab_gs_1, ab_gl_0, ab_gl_1, ab_bv_some, ab_bu_some, ab_bv_thr, ab_bu_thr, ab_fx_n, ab_fx_i, ab_fx_q, ab_fx_l, ab_sh_si, ab_gr_si, ab_gl_si, cs_n, ↓reduceIte, true_or, or_true, false_or, or_false, and_true, true_and, and_false, false_and, not_true_eq_false, not_false_eq_true, eq_self, Int.reduceEq, Int.reduceLT, Int.reduceLE, Int.reduceAdd, Int.reduceMul, Int.reduceNeg, if_pos, if_neg, hL.1, hL.2]
def cz_mk (D : Int) (z : cz_Z) : Option cz_Z := cz_tp D 6 (cz_em (z.1, z.2.1, z.2.2.1, z.2.2.2.1, z.2.2.2.2.1, z.2.2.2.2.2.1, -1) 0 5) 0 0 0
theorem m52 {e : Nat} {D : Int} {h : ab_H} {z x : cz_Z} (hD : 3 ≤ D) (hD5 : D ≤ 5) (hK : cz_K h D) (r : cz_R h z) (hx : cz_mk D z = some x) :
    ∃ h', ab_E B (e + 15) 52 0 [some (.inr (.inr (some 7))), none] [] h = some (.inl none, h') ∧ cz_R h' x ∧ cz_F h h' := by
  have hL := hK.1.1
  obtain ⟨h2, a2, r2, f2⟩ := m52_loop (B := B) (e := e) hD hD5 5 0 (ab_si h 7 6 (-1)) _ ((cz_F.si (Or.inr ⟨rfl, Or.inl rfl⟩)).K hK) (r.pe (v := -1)) (by omega) (by omega) hx
  refine ⟨h2, ?_, r2, (cz_F.si (Or.inr ⟨rfl, Or.inl rfl⟩)).trans f2⟩
  rw [← a2]
  simp (disch := omega) only [e52_0, e52_1, e52_2, e52_5, e52_6, e52_8, e52_9, e52_12, e52_13, e52_16, e52_17, e52_18, e52_19, e52_22, e52_25, e52_26, e52_29, e52_32, e52_33, e52_36, e52_37, e52_40, e52_43, e52_44, e52_45, e52_46, e52_47, e52_50, Option.isSome_some, ab_bvh_some, ab_bvh_thr, ab_ge, ab_lt, ab_le, ab_gt, ab_eq, ab_ne, decide_eq_true_eq, ab_w_id, ab_w0, ab_gd_some, ab_gs_0, ab_gs_1, ab_gl_0, ab_gl_1, ab_bv_some, ab_bu_some, ab_bv_thr, ab_bu_thr, ab_fx_n, ab_fx_i, ab_fx_q, ab_fx_l, ab_sh_si, ab_gr_si, ab_gl_si, cs_n, ↓reduceIte, true_or, or_true, false_or, or_false, and_true, true_and, and_false, false_and, not_true_eq_false, not_false_eq_true, eq_self, Int.reduceEq, Int.reduceLT, Int.reduceLE, Int.reduceAdd, Int.reduceMul, Int.reduceNeg, if_pos, if_neg, hL.1, hL.2]
/-- a fresh row of plans -/
def cz_z0 : cz_Z := (List.replicate 100 0, 0, List.replicate 5 0, List.replicate 5 0, List.replicate 5 0, List.replicate 5 0, -1)
theorem cz_ev3 : (cz_mk 3 cz_z0).map (fun x => (x.2.2.2.2.2.1, x.2.2.2.2.2.2)) = some ([0, 0, 0, 0, 0], 3) := by decide +kernel
theorem cz_ev4 : (cz_mk 4 cz_z0).map (fun x => (x.2.2.2.2.2.1, x.2.2.2.2.2.2)) = some ([0, 0, 0, 3, 0], 6) := by decide +kernel
theorem cz_ev5 : (cz_mk 5 cz_z0).map (fun x => (x.2.2.2.2.2.1, x.2.2.2.2.2.2)) = some ([0, 0, 0, 3, 3], 6) := by decide +kernel
end
