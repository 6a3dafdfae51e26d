/-! THE RACK: lost blocks, giving up, soundness, building -/
/-- bad cells of a stripe, as if the disks a and b had failed; and the data cells among them -/
def cs_lb (h : ab_H) (a b s d : Int) : Int := if d = a ∨ d = b ∨ cs_b h d s = 1 then 1 else 0
def cs_ld (h : ab_H) (a b s d : Int) : Int := if (d = a ∨ d = b ∨ cs_b h d s = 1) ∧ d ≠ s % ab_gi h 1 0 then 1 else 0
theorem cs_lb_le (h : ab_H) (a b s d : Int) : 0 ≤ cs_lb h a b s d ∧ cs_lb h a b s d ≤ 1 := by unfold cs_lb; split <;> omega
theorem cs_ld_le (h : ab_H) (a b s d : Int) : 0 ≤ cs_ld h a b s d ∧ cs_ld h a b s d ≤ 1 := by unfold cs_ld; split <;> omega
theorem m23_in {dd : Nat} {h : ab_H} {a b s cnt : Int} (hR : cs_R h) (ha : -1 ≤ a) (ha2 : a < 8) (hb : -1 ≤ b) (hb2 : b < 8) (h3 : 0 ≤ s) (h4 : s < ab_gi h 1 1) : ∀ (k : Nat) (i x y : Int), 0 ≤ i → i + k = ab_gi h 1 0 →
    ab_E (dd + 2) 23 23 [some (.inr (.inr (some 1))), some (.inl a), some (.inl b), some (.inl cnt), some (.inl s), some (.inl x), some (.inl y), some (.inl i)] [] h = ab_E (dd + 2) 23 85 [some (.inr (.inr (some 1))), some (.inl a), some (.inl b), some (.inl cnt), some (.inl s), some (.inl (x + cs_sf (cs_lb h a b s) i k)), some (.inl (y + cs_sf (cs_ld h a b s) i k)), some (.inl (ab_gi h 1 0))] [] h
  | 0, i, x, y, q1, q2 => by
    have hL := hR.1
    have hDS := hR.2.1
    have e : i = ab_gi h 1 0 := by omega
    rw [e23_23]
    simp (disch := omega) only [e23_0, e23_1, e23_2, e23_3, e23_5, e23_7, e23_8, e23_11, e23_14, e23_15, e23_17, e23_18, e23_20, e23_21, e23_25, e23_26, e23_29, e23_32, e23_34, e23_35, e23_38, e23_40, e23_41, e23_44, e23_45, e23_47, e23_49, e23_52, e23_55, e23_58, e23_60, e23_62, e23_63, e23_65, e23_68, e23_71, e23_72, e23_75, e23_76, e23_77, e23_79, e23_82, e23_86, e23_88, e23_89, e23_92, e23_94, e23_97, e23_98, e23_99, e23_100, e23_103, e23_106, e23_107, ab_ge, ab_lt, ab_le, ab_gt, ab_eq, ab_ne, decide_eq_true_eq, ab_w_id, ab_w0, ab_gd_some, ab_gs_0, ab_gs_1, ab_gl_0, ab_gl_1, ab_bv_some, ab_bu_some, ab_bv_thr, ab_bu_thr, ab_fx_n, ab_fx_i, ab_fx_q, ab_fx_l, ab_sh_si, ab_gr_si, ab_gl_si, cs_n, ↓reduceIte, true_or, or_true, false_or, or_false, and_true, true_and, and_false, false_and, not_true_eq_false, not_false_eq_true, eq_self, Int.reduceEq, Int.reduceLT, Int.reduceLE, Int.reduceAdd, Int.reduceMul, Int.reduceNeg, if_pos, if_neg, hL.1, hL.2, cs_sf, Int.add_zero]
    rw [e]
  | k + 1, i, x, y, q1, q2 => by
    have hL := hR.1
    have hDS := hR.2.1
    have q5 : 0 ≤ s % ab_gi h 1 0 := Int.emod_nonneg _ (by omega)
    have q6 : s % ab_gi h 1 0 < ab_gi h 1 0 := Int.emod_lt_of_pos _ (by omega)
    have ih := fun x y => m23_in (dd := dd) (cnt := cnt) hR ha ha2 hb hb2 h3 h4 k (i + 1) x y (by omega) (by omega)
    rw [e23_23]
    by_cases c : i = a ∨ i = b ∨ cs_b h i s = 1
    · have e1 : cs_lb h a b s i = 1 := if_pos c
      by_cases c0 : i = s % ab_gi h 1 0
      · have e2 : cs_ld h a b s i = 0 := if_neg (fun z => z.2 c0)
        by_cases c1 : i = a
        · simp (disch := omega) only [e23_0, e23_1, e23_2, e23_3, e23_5, e23_7, e23_8, e23_11, e23_14, e23_15, e23_17, e23_18, e23_20, e23_21, e23_25, e23_26, e23_29, e23_32, e23_34, e23_35, e23_38, e23_40, e23_41, e23_44, e23_45, e23_47, e23_49, e23_52, e23_55, e23_58, e23_60, e23_62, e23_63, e23_65, e23_68, e23_71, e23_72, e23_75, e23_76, e23_77, e23_79, e23_82, e23_86, e23_88, e23_89, e23_92, e23_94, e23_97, e23_98, e23_99, e23_100, e23_103, e23_106, e23_107, ab_ge, ab_lt, ab_le, ab_gt, ab_eq, ab_ne, decide_eq_true_eq, ab_w_id, ab_w0, ab_gd_some, ab_gs_0, ab_gs_1, ab_gl_0, ab_gl_1, ab_bv_some, ab_bu_some, ab_bv_thr, ab_bu_thr, ab_fx_n, ab_fx_i, ab_fx_q, ab_fx_l, ab_sh_si, ab_gr_si, ab_gl_si, cs_n, ↓reduceIte, true_or, or_true, false_or, or_false, and_true, true_and, and_false, false_and, not_true_eq_false, not_false_eq_true, eq_self, Int.reduceEq, Int.reduceLT, Int.reduceLE, Int.reduceAdd, Int.reduceMul, Int.reduceNeg, if_pos, if_neg, hL.1, hL.2, eq_true c1, m9 hR (show 3 ≤ ab_gi h 1 0 by omega) h3 (show s < 40 by omega), eq_true c0]
          rw [ih]; simp only [cs_sf, e1, e2, Int.add_assoc]
        · by_cases c2 : i = b
          · simp (disch := omega) only [e23_0, e23_1, e23_2, e23_3, e23_5, e23_7, e23_8, e23_11, e23_14, e23_15, e23_17, e23_18, e23_20, e23_21, e23_25, e23_26, e23_29, e23_32, e23_34, e23_35, e23_38, e23_40, e23_41, e23_44, e23_45, e23_47, e23_49, e23_52, e23_55, e23_58, e23_60, e23_62, e23_63, e23_65, e23_68, e23_71, e23_72, e23_75, e23_76, e23_77, e23_79, e23_82, e23_86, e23_88, e23_89, e23_92, e23_94, e23_97, e23_98, e23_99, e23_100, e23_103, e23_106, e23_107, ab_ge, ab_lt, ab_le, ab_gt, ab_eq, ab_ne, decide_eq_true_eq, ab_w_id, ab_w0, ab_gd_some, ab_gs_0, ab_gs_1, ab_gl_0, ab_gl_1, ab_bv_some, ab_bu_some, ab_bv_thr, ab_bu_thr, ab_fx_n, ab_fx_i, ab_fx_q, ab_fx_l, ab_sh_si, ab_gr_si, ab_gl_si, cs_n, ↓reduceIte, true_or, or_true, false_or, or_false, and_true, true_and, and_false, false_and, not_true_eq_false, not_false_eq_true, eq_self, Int.reduceEq, Int.reduceLT, Int.reduceLE, Int.reduceAdd, Int.reduceMul, Int.reduceNeg, if_pos, if_neg, hL.1, hL.2, eq_false c1, eq_true c2, m9 hR (show 3 ≤ ab_gi h 1 0 by omega) h3 (show s < 40 by omega), eq_true c0]
            rw [ih]; simp only [cs_sf, e1, e2, Int.add_assoc]
          · have c3 : cs_b h i s = 1 := by rcases c with z | z | z <;> first | exact absurd z c1 | exact absurd z c2 | exact z
            simp (disch := omega) only [e23_0, e23_1, e23_2, e23_3, e23_5, e23_7, e23_8, e23_11, e23_14, e23_15, e23_17, e23_18, e23_20, e23_21, e23_25, e23_26, e23_29, e23_32, e23_34, e23_35, e23_38, e23_40, e23_41, e23_44, e23_45, e23_47, e23_49, e23_52, e23_55, e23_58, e23_60, e23_62, e23_63, e23_65, e23_68, e23_71, e23_72, e23_75, e23_76, e23_77, e23_79, e23_82, e23_86, e23_88, e23_89, e23_92, e23_94, e23_97, e23_98, e23_99, e23_100, e23_103, e23_106, e23_107, ab_ge, ab_lt, ab_le, ab_gt, ab_eq, ab_ne, decide_eq_true_eq, ab_w_id, ab_w0, ab_gd_some, ab_gs_0, ab_gs_1, ab_gl_0, ab_gl_1, ab_bv_some, ab_bu_some, ab_bv_thr, ab_bu_thr, ab_fx_n, ab_fx_i, ab_fx_q, ab_fx_l, ab_sh_si, ab_gr_si, ab_gl_si, cs_n, ↓reduceIte, true_or, or_true, false_or, or_false, and_true, true_and, and_false, false_and, not_true_eq_false, not_false_eq_true, eq_self, Int.reduceEq, Int.reduceLT, Int.reduceLE, Int.reduceAdd, Int.reduceMul, Int.reduceNeg, if_pos, if_neg, hL.1, hL.2, eq_false c1, eq_false c2, m15 hR q1 (show i < ab_gi h 1 0 by omega) h3 h4, c3, m9 hR (show 3 ≤ ab_gi h 1 0 by omega) h3 (show s < 40 by omega), eq_true c0]
            rw [ih]; simp only [cs_sf, e1, e2, Int.add_assoc]
      · have e2 : cs_ld h a b s i = 1 := if_pos ⟨c, c0⟩
        by_cases c1 : i = a
        · simp (disch := omega) only [e23_0, e23_1, e23_2, e23_3, e23_5, e23_7, e23_8, e23_11, e23_14, e23_15, e23_17, e23_18, e23_20, e23_21, e23_25, e23_26, e23_29, e23_32, e23_34, e23_35, e23_38, e23_40, e23_41, e23_44, e23_45, e23_47, e23_49, e23_52, e23_55, e23_58, e23_60, e23_62, e23_63, e23_65, e23_68, e23_71, e23_72, e23_75, e23_76, e23_77, e23_79, e23_82, e23_86, e23_88, e23_89, e23_92, e23_94, e23_97, e23_98, e23_99, e23_100, e23_103, e23_106, e23_107, ab_ge, ab_lt, ab_le, ab_gt, ab_eq, ab_ne, decide_eq_true_eq, ab_w_id, ab_w0, ab_gd_some, ab_gs_0, ab_gs_1, ab_gl_0, ab_gl_1, ab_bv_some, ab_bu_some, ab_bv_thr, ab_bu_thr, ab_fx_n, ab_fx_i, ab_fx_q, ab_fx_l, ab_sh_si, ab_gr_si, ab_gl_si, cs_n, ↓reduceIte, true_or, or_true, false_or, or_false, and_true, true_and, and_false, false_and, not_true_eq_false, not_false_eq_true, eq_self, Int.reduceEq, Int.reduceLT, Int.reduceLE, Int.reduceAdd, Int.reduceMul, Int.reduceNeg, if_pos, if_neg, hL.1, hL.2, eq_true c1, m9 hR (show 3 ≤ ab_gi h 1 0 by omega) h3 (show s < 40 by omega), eq_false c0]
          rw [ih]; simp only [cs_sf, e1, e2, Int.add_assoc]
        · by_cases c2 : i = b
          · simp (disch := omega) only [e23_0, e23_1, e23_2, e23_3, e23_5, e23_7, e23_8, e23_11, e23_14, e23_15, e23_17, e23_18, e23_20, e23_21, e23_25, e23_26, e23_29, e23_32, e23_34, e23_35, e23_38, e23_40, e23_41, e23_44, e23_45, e23_47, e23_49, e23_52, e23_55, e23_58, e23_60, e23_62, e23_63, e23_65, e23_68, e23_71, e23_72, e23_75, e23_76, e23_77, e23_79, e23_82, e23_86, e23_88, e23_89, e23_92, e23_94, e23_97, e23_98, e23_99, e23_100, e23_103, e23_106, e23_107, ab_ge, ab_lt, ab_le, ab_gt, ab_eq, ab_ne, decide_eq_true_eq, ab_w_id, ab_w0, ab_gd_some, ab_gs_0, ab_gs_1, ab_gl_0, ab_gl_1, ab_bv_some, ab_bu_some, ab_bv_thr, ab_bu_thr, ab_fx_n, ab_fx_i, ab_fx_q, ab_fx_l, ab_sh_si, ab_gr_si, ab_gl_si, cs_n, ↓reduceIte, true_or, or_true, false_or, or_false, and_true, true_and, and_false, false_and, not_true_eq_false, not_false_eq_true, eq_self, Int.reduceEq, Int.reduceLT, Int.reduceLE, Int.reduceAdd, Int.reduceMul, Int.reduceNeg, if_pos, if_neg, hL.1, hL.2, eq_false c1, eq_true c2, m9 hR (show 3 ≤ ab_gi h 1 0 by omega) h3 (show s < 40 by omega), eq_false c0]
            rw [ih]; simp only [cs_sf, e1, e2, Int.add_assoc]
          · have c3 : cs_b h i s = 1 := by rcases c with z | z | z <;> first | exact absurd z c1 | exact absurd z c2 | exact z
            simp (disch := omega) only [e23_0, e23_1, e23_2, e23_3, e23_5, e23_7, e23_8, e23_11, e23_14, e23_15, e23_17, e23_18, e23_20, e23_21, e23_25, e23_26, e23_29, e23_32, e23_34, e23_35, e23_38, e23_40, e23_41, e23_44, e23_45, e23_47, e23_49, e23_52, e23_55, e23_58, e23_60, e23_62, e23_63, e23_65, e23_68, e23_71, e23_72, e23_75, e23_76, e23_77, e23_79, e23_82, e23_86, e23_88, e23_89, e23_92, e23_94, e23_97, e23_98, e23_99, e23_100, e23_103, e23_106, e23_107, ab_ge, ab_lt, ab_le, ab_gt, ab_eq, ab_ne, decide_eq_true_eq, ab_w_id, ab_w0, ab_gd_some, ab_gs_0, ab_gs_1, ab_gl_0, ab_gl_1, ab_bv_some, ab_bu_some, ab_bv_thr, ab_bu_thr, ab_fx_n, ab_fx_i, ab_fx_q, ab_fx_l, ab_sh_si, ab_gr_si, ab_gl_si, cs_n, ↓reduceIte, true_or, or_true, false_or, or_false, and_true, true_and, and_false, false_and, not_true_eq_false, not_false_eq_true, eq_self, Int.reduceEq, Int.reduceLT, Int.reduceLE, Int.reduceAdd, Int.reduceMul, Int.reduceNeg, if_pos, if_neg, hL.1, hL.2, eq_false c1, eq_false c2, m15 hR q1 (show i < ab_gi h 1 0 by omega) h3 h4, c3, m9 hR (show 3 ≤ ab_gi h 1 0 by omega) h3 (show s < 40 by omega), eq_false c0]
            rw [ih]; simp only [cs_sf, e1, e2, Int.add_assoc]
    · have e1 : cs_lb h a b s i = 0 := if_neg c
      have e2 : cs_ld h a b s i = 0 := if_neg (fun z => c z.1)
      have c1 : ¬ i = a := fun z => c (Or.inl z)
      have c2 : ¬ i = b := fun z => c (Or.inr (Or.inl z))
      have c3 : cs_b h i s = 0 := (cs_b01 h i s).resolve_right (fun z => c (Or.inr (Or.inr z)))
      simp (disch := omega) only [e23_0, e23_1, e23_2, e23_3, e23_5, e23_7, e23_8, e23_11, e23_14, e23_15, e23_17, e23_18, e23_20, e23_21, e23_25, e23_26, e23_29, e23_32, e23_34, e23_35, e23_38, e23_40, e23_41, e23_44, e23_45, e23_47, e23_49, e23_52, e23_55, e23_58, e23_60, e23_62, e23_63, e23_65, e23_68, e23_71, e23_72, e23_75, e23_76, e23_77, e23_79, e23_82, e23_86, e23_88, e23_89, e23_92, e23_94, e23_97, e23_98, e23_99, e23_100, e23_103, e23_106, e23_107, ab_ge, ab_lt, ab_le, ab_gt, ab_eq, ab_ne, decide_eq_true_eq, ab_w_id, ab_w0, ab_gd_some, ab_gs_0, ab_gs_1, ab_gl_0, ab_gl_1, ab_bv_some, ab_bu_some, ab_bv_thr, ab_bu_thr, ab_fx_n, ab_fx_i, ab_fx_q, ab_fx_l, ab_sh_si, ab_gr_si, ab_gl_si, cs_n, ↓reduceIte, true_or, or_true, false_or, or_false, and_true, true_and, and_false, false_and, not_true_eq_false, not_false_eq_true, eq_self, Int.reduceEq, Int.reduceLT, Int.reduceLE, Int.reduceAdd, Int.reduceMul, Int.reduceNeg, if_pos, if_neg, hL.1, hL.2, eq_false c1, eq_false c2, m15 hR q1 (show i < ab_gi h 1 0 by omega) h3 h4, c3]
      rw [ih]; simp only [cs_sf, e1, e2, Int.zero_add]
/-- lost blocks of a stripe -/
def cs_l1 (h : ab_H) (a b s : Int) : Int := if 1 < cs_sf (cs_lb h a b s) 0 (ab_gi h 1 0).toNat then cs_sf (cs_ld h a b s) 0 (ab_gi h 1 0).toNat else 0
def cs_lost (h : ab_H) (a b : Int) : Int := cs_sf (cs_l1 h a b) 0 (ab_gi h 1 1).toNat
theorem m23_loop {dd : Nat} {h : ab_H} {a b : Int} (hR : cs_R h) (ha : -1 ≤ a) (ha2 : a < 8) (hb : -1 ≤ b) (hb2 : b < 8) : ∀ (k : Nat) (i c : Int) (o5 o6 o7 : Option ab_V), 0 ≤ i → i + k = ab_gi h 1 1 →
    ab_E (dd + 2) 23 5 [some (.inr (.inr (some 1))), some (.inl a), some (.inl b), some (.inl c), some (.inl i), o5, o6, o7] [] h = some (.inl (some (.inl (c + cs_sf (cs_l1 h a b) i k))), h)
  | 0, i, c, o5, o6, o7, q1, q2 => by
    have hL := hR.1
    have hDS := hR.2.1
    rw [e23_5]
    simp (disch := omega) only [e23_0, e23_1, e23_2, e23_3, e23_7, e23_8, e23_11, e23_14, e23_15, e23_17, e23_18, e23_20, e23_21, e23_23, e23_25, e23_26, e23_29, e23_32, e23_34, e23_35, e23_38, e23_40, e23_41, e23_44, e23_45, e23_47, e23_49, e23_52, e23_55, e23_58, e23_60, e23_62, e23_63, e23_65, e23_68, e23_71, e23_72, e23_75, e23_76, e23_77, e23_79, e23_82, e23_85, e23_86, e23_88, e23_89, e23_92, e23_94, e23_97, e23_98, e23_99, e23_100, e23_103, e23_106, e23_107, ab_ge, ab_lt, ab_le, ab_gt, ab_eq, ab_ne, decide_eq_true_eq, ab_w_id, ab_w0, ab_gd_some, ab_gs_0, ab_gs_1, ab_gl_0, ab_gl_1, ab_bv_some, ab_bu_some, ab_bv_thr, ab_bu_thr, ab_fx_n, ab_fx_i, ab_fx_q, ab_fx_l, ab_sh_si, ab_gr_si, ab_gl_si, cs_n, ↓reduceIte, true_or, or_true, false_or, or_false, and_true, true_and, and_false, false_and, not_true_eq_false, not_false_eq_true, eq_self, Int.reduceEq, Int.reduceLT, Int.reduceLE, Int.reduceAdd, Int.reduceMul, Int.reduceNeg, if_pos, if_neg, hL.1, hL.2, cs_sf, Int.add_zero]
  | k + 1, i, c, o5, o6, o7, q1, q2 => by
    have hL := hR.1
    have hDS := hR.2.1
    have ih := fun c o5 o6 o7 => m23_loop (dd := dd) hR ha ha2 hb hb2 k (i + 1) c o5 o6 o7 (by omega) (by omega)
    have hl := cs_sf_1 (cs_lb_le h a b i) (ab_gi h 1 0).toNat 0
    rw [e23_5]
    simp (disch := omega) only [e23_0, e23_1, e23_2, e23_3, e23_7, e23_8, e23_11, e23_14, e23_15, e23_17, e23_18, e23_20, e23_21, e23_25, e23_26, e23_29, e23_32, e23_34, e23_35, e23_38, e23_40, e23_41, e23_44, e23_45, e23_47, e23_49, e23_52, e23_55, e23_58, e23_60, e23_62, e23_63, e23_65, e23_68, e23_71, e23_72, e23_75, e23_76, e23_77, e23_79, e23_82, e23_86, e23_88, e23_89, e23_92, e23_94, e23_97, e23_98, e23_99, e23_100, e23_103, e23_106, e23_107, ab_ge, ab_lt, ab_le, ab_gt, ab_eq, ab_ne, decide_eq_true_eq, ab_w_id, ab_w0, ab_gd_some, ab_gs_0, ab_gs_1, ab_gl_0, ab_gl_1, ab_bv_some, ab_bu_some, ab_bv_thr, ab_bu_thr, ab_fx_n, ab_fx_i, ab_fx_q, ab_fx_l, ab_sh_si, ab_gr_si, ab_gl_si, cs_n, ↓reduceIte, true_or, or_true, false_or, or_false, and_true, true_and, and_false, false_and, not_true_eq_false, not_false_eq_true, eq_self, Int.reduceEq, Int.reduceLT, Int.reduceLE, Int.reduceAdd, Int.reduceMul, Int.reduceNeg, if_pos, if_neg, hL.1, hL.2]
    rw [m23_in hR ha ha2 hb hb2 q1 (by omega) (ab_gi h 1 0).toNat 0 0 0 (by omega) (by omega)]
    simp only [Int.zero_add]
    by_cases c1 : 1 < cs_sf (cs_lb h a b i) 0 (ab_gi h 1 0).toNat
    · simp (disch := omega) only [e23_0, e23_1, e23_2, e23_3, e23_7, e23_8, e23_11, e23_14, e23_15, e23_17, e23_18, e23_20, e23_21, e23_23, e23_25, e23_26, e23_29, e23_32, e23_34, e23_35, e23_38, e23_40, e23_41, e23_44, e23_45, e23_47, e23_49, e23_52, e23_55, e23_58, e23_60, e23_62, e23_63, e23_65, e23_68, e23_71, e23_72, e23_75, e23_76, e23_77, e23_79, e23_82, e23_85, e23_86, e23_88, e23_89, e23_92, e23_94, e23_97, e23_98, e23_99, e23_100, e23_103, e23_106, e23_107, ab_ge, ab_lt, ab_le, ab_gt, ab_eq, ab_ne, decide_eq_true_eq, ab_w_id, ab_w0, ab_gd_some, ab_gs_0, ab_gs_1, ab_gl_0, ab_gl_1, ab_bv_some, ab_bu_some, ab_bv_thr, ab_bu_thr, ab_fx_n, ab_fx_i, ab_fx_q, ab_fx_l, ab_sh_si, ab_gr_si, ab_gl_si, cs_n, ↓reduceIte, true_or, or_true, false_or, or_false, and_true, true_and, and_false, false_and, not_true_eq_false, not_false_eq_true, eq_self, Int.reduceEq, Int.reduceLT, Int.reduceLE, Int.reduceAdd, Int.reduceMul, Int.reduceNeg, if_pos, if_neg, hL.1, hL.2]
      rw [ih]; simp only [cs_sf, cs_l1, c1, ↓reduceIte, Int.add_assoc]
    · simp (disch := omega) only [e23_0, e23_1, e23_2, e23_3, e23_7, e23_8, e23_11, e23_14, e23_15, e23_17, e23_18, e23_20, e23_21, e23_23, e23_25, e23_26, e23_29, e23_32, e23_34, e23_35, e23_38, e23_40, e23_41, e23_44, e23_45, e23_47, e23_49, e23_52, e23_55, e23_58, e23_60, e23_62, e23_63, e23_65, e23_68, e23_71, e23_72, e23_75, e23_76, e23_77, e23_79, e23_82, e23_85, e23_86, e23_88, e23_89, e23_92, e23_94, e23_97, e23_98, e23_99, e23_100, e23_103, e23_106, e23_107, ab_ge, ab_lt, ab_le, ab_gt, ab_eq, ab_ne, decide_eq_true_eq, ab_w_id, ab_w0, ab_gd_some, ab_gs_0, ab_gs_1, ab_gl_0, ab_gl_1, ab_bv_some, ab_bu_some, ab_bv_thr, ab_bu_thr, ab_fx_n, ab_fx_i, ab_fx_q, ab_fx_l, ab_sh_si, ab_gr_si, ab_gl_si, cs_n, ↓reduceIte, true_or, or_true, false_or, or_false, and_true, true_and, and_false, false_and, not_true_eq_false, not_false_eq_true, eq_self, Int.reduceEq, Int.reduceLT, Int.reduceLE, Int.reduceAdd, Int.reduceMul, Int.reduceNeg, if_pos, if_neg, hL.1, hL.2]
      rw [ih]; simp only [cs_sf, cs_l1, c1, ↓reduceIte, Int.add_assoc]
theorem m23 {dd : Nat} {h : ab_H} {a b : Int} (hR : cs_R h) (ha : -1 ≤ a) (ha2 : a < 8) (hb : -1 ≤ b) (hb2 : b < 8) :
    ab_E (dd + 2) 23 0 [some (.inr (.inr (some 1))), some (.inl a), some (.inl b), none, none, none, none, none] [] h = some (.inl (some (.inl (cs_lost h a b))), h) := by
  have hDS := hR.2.1
  simp (disch := omega) only [e23_0, e23_1, e23_2, e23_3, e23_7, e23_8, e23_11, e23_14, e23_15, e23_17, e23_18, e23_20, e23_21, e23_23, e23_25, e23_26, e23_29, e23_32, e23_34, e23_35, e23_38, e23_40, e23_41, e23_44, e23_45, e23_47, e23_49, e23_52, e23_55, e23_58, e23_60, e23_62, e23_63, e23_65, e23_68, e23_71, e23_72, e23_75, e23_76, e23_77, e23_79, e23_82, e23_85, e23_86, e23_88, e23_89, e23_92, e23_94, e23_97, e23_98, e23_99, e23_100, e23_103, e23_106, e23_107, ab_ge, ab_lt, ab_le, ab_gt, ab_eq, ab_ne, decide_eq_true_eq, ab_w_id, ab_w0, ab_gd_some, ab_gs_0, ab_gs_1, ab_gl_0, ab_gl_1, ab_bv_some, ab_bu_some, ab_bv_thr, ab_bu_thr, ab_fx_n, ab_fx_i, ab_fx_q, ab_fx_l, ab_sh_si, ab_gr_si, ab_gl_si, cs_n, ↓reduceIte, true_or, or_true, false_or, or_false, and_true, true_and, and_false, false_and, not_true_eq_false, not_false_eq_true, eq_self, Int.reduceEq, Int.reduceLT, Int.reduceLE, Int.reduceAdd, Int.reduceMul, Int.reduceNeg, if_pos, if_neg]
  rw [m23_loop hR ha ha2 hb hb2 (ab_gi h 1 1).toNat 0 0 _ _ _ (by omega) (by omega)]
  simp only [Int.zero_add, cs_lost]
/-- a stripe is given up: the set of lost disks, the XOR, the heap -/
def cs_ga (D s : Int) : ab_H → Int → Int → Int → Nat → Int × Int × ab_H
  | h, _, l, x, 0 => (l, x, h)
  | h, i, l, x, k + 1 =>
    if i = s % D then cs_ga D s h (i + 1) l x k
    else if cs_b h i s = 1 then cs_ga D s (cs_lay (ab_si h 4 (i * 8 + s) 0) i s 0) (i + 1) (ab_ior l (ab_ishl 1 i)) x k
    else cs_ga D s h (i + 1) l (ab_ixor x (ab_gi h 2 (i * 8 + s))) k
theorem cs_bi_dk {D d s : Int} (hD : 3 ≤ D) (h1 : 0 ≤ d) (h2 : d < D) (h3 : 0 ≤ s) (hne : d ≠ s % D) : 0 ≤ cs_bi D d s ∧ cs_bi D d s = s * (D - 1) + (if d < s % D then d else d - 1) ∧ cs_bi D d s / (D - 1) = s ∧ cs_dk D (cs_bi D d s) = d := by
  have q5 : 0 ≤ s % D := Int.emod_nonneg _ (by omega)
  have q6 : s % D < D := Int.emod_lt_of_pos _ (by omega)
  have e0 : cs_bi D d s = s * (D - 1) + (if d < s % D then d else d - 1) := by unfold cs_bi; rw [if_neg hne]
  have hp : 0 ≤ (if d < s % D then d else d - 1) ∧ (if d < s % D then d else d - 1) < D - 1 := by split <;> omega
  have hsm : 0 ≤ s * (D - 1) := Int.mul_nonneg h3 (by omega)
  have e1 : cs_bi D d s / (D - 1) = s := by
    rw [e0, Int.add_comm, Int.add_mul_ediv_right _ _ (by omega), Int.ediv_eq_zero_of_lt hp.1 hp.2, Int.zero_add]
  have e2 : cs_bi D d s % (D - 1) = (if d < s % D then d else d - 1) := by
    rw [e0, Int.add_comm, Int.add_mul_emod_self_right, Int.emod_eq_of_lt hp.1 hp.2]
  refine ⟨by omega, e0, e1, ?_⟩
  unfold cs_dk
  rw [e1, e2]
  split
  · rfl
  · split <;> omega
theorem cs_bi_lt {D d s : Int} (hD : 3 ≤ D) (hD5 : D ≤ 5) (h1 : 0 ≤ d) (h2 : d < D) (h3 : 0 ≤ s) (h4 : s < 8) : cs_bi D d s < 32 := by
  have q5 : 0 ≤ s % D := Int.emod_nonneg _ (by omega)
  have : D = 3 ∨ D = 4 ∨ D = 5 := by omega
  unfold cs_bi
  rcases this with q | q | q <;> subst q <;> (repeat' split) <;> omega
theorem m32_loop {dd : Nat} {D S s : Int} (hD : 3 ≤ D) (hD5 : D ≤ 5) (hS8 : S ≤ 8) (h3 : 0 ≤ s) (h4 : s < S) : ∀ (k : Nat) (h : ab_H) (i l x : Int), cs_R h → ab_gi h 1 0 = D → ab_gi h 1 1 = S → 0 ≤ i → i + k = D → 0 ≤ x → x ≤ 255 →
    ab_E (dd + 3) 32 14 [some (.inr (.inr (some 1))), some (.inl s), some (.inl (s % D)), some (.inl l), some (.inl x), some (.inl i)] [] h = some (.inl (some (.inl (cs_ga D s h i l x k).1)), cs_lay (cs_ga D s h i l x k).2.2 (s % D) s (cs_ga D s h i l x k).2.1)
  | 0, h, i, l, x, hR, eD, eS, q1, q2, x1, x2 => by
    have hL := hR.1
    have q5 : 0 ≤ s % D := Int.emod_nonneg _ (by omega)
    have q6 : s % D < D := Int.emod_lt_of_pos _ (by omega)
    rw [e32_14]
    simp (disch := omega) only [e32_0, e32_1, e32_2, e32_5, e32_6, e32_7, e32_8, e32_9, e32_11, e32_12, e32_16, e32_17, e32_20, e32_23, e32_25, e32_26, e32_29, e32_32, e32_33, e32_35, e32_36, e32_39, e32_42, e32_43, e32_44, e32_46, e32_47, e32_48, e32_49, e32_50, e32_51, e32_53, e32_54, e32_57, e32_58, e32_61, e32_62, e32_64, e32_65, e32_66, e32_69, e32_72, e32_74, e32_75, e32_77, e32_78, e32_81, e32_82, e32_84, e32_87, e32_90, e32_91, e32_92, e32_93, e32_95, e32_98, e32_99, ab_ge, ab_lt, ab_le, ab_gt, ab_eq, ab_ne, decide_eq_true_eq, ab_w_id, ab_w0, ab_gd_some, ab_gs_0, ab_gs_1, ab_gl_0, ab_gl_1, ab_bv_some, ab_bu_some, ab_bv_thr, ab_bu_thr, ab_fx_n, ab_fx_i, ab_fx_q, ab_fx_l, ab_sh_si, ab_gr_si, ab_gl_si, cs_n, ↓reduceIte, true_or, or_true, false_or, or_false, and_true, true_and, and_false, false_and, not_true_eq_false, not_false_eq_true, eq_self, Int.reduceEq, Int.reduceLT, Int.reduceLE, Int.reduceAdd, Int.reduceMul, Int.reduceNeg, if_pos, if_neg, hL.1, hL.2, m26 hL (show ab_gi h 1 0 ≤ 5 by omega) (show ab_gi h 1 1 ≤ 8 by omega) (hR.2.2.2 (s % D)) q5 (show s % D < ab_gi h 1 0 by omega) h3 (show s < ab_gi h 1 1 by omega) x1 x2]
    rfl
  | k + 1, h, i, l, x, hR, eD, eS, q1, q2, x1, x2 => by
    have hL := hR.1
    have q5 : 0 ≤ s % D := Int.emod_nonneg _ (by omega)
    have q6 : s % D < D := Int.emod_lt_of_pos _ (by omega)
    rw [e32_14]
    unfold cs_ga
    by_cases c0 : i = s % D
    · simp (disch := omega) only [e32_0, e32_1, e32_2, e32_5, e32_6, e32_7, e32_8, e32_9, e32_11, e32_12, e32_16, e32_17, e32_20, e32_23, e32_25, e32_26, e32_29, e32_32, e32_33, e32_35, e32_36, e32_39, e32_42, e32_43, e32_44, e32_46, e32_47, e32_48, e32_49, e32_50, e32_51, e32_53, e32_54, e32_57, e32_58, e32_61, e32_62, e32_64, e32_65, e32_66, e32_69, e32_72, e32_74, e32_75, e32_77, e32_78, e32_81, e32_82, e32_84, e32_87, e32_90, e32_91, e32_92, e32_93, e32_95, e32_98, e32_99, ab_ge, ab_lt, ab_le, ab_gt, ab_eq, ab_ne, decide_eq_true_eq, ab_w_id, ab_w0, ab_gd_some, ab_gs_0, ab_gs_1, ab_gl_0, ab_gl_1, ab_bv_some, ab_bu_some, ab_bv_thr, ab_bu_thr, ab_fx_n, ab_fx_i, ab_fx_q, ab_fx_l, ab_sh_si, ab_gr_si, ab_gl_si, cs_n, ↓reduceIte, true_or, or_true, false_or, or_false, and_true, true_and, and_false, false_and, not_true_eq_false, not_false_eq_true, eq_self, Int.reduceEq, Int.reduceLT, Int.reduceLE, Int.reduceAdd, Int.reduceMul, Int.reduceNeg, if_pos, if_neg, hL.1, hL.2, eq_true c0]
      exact m32_loop hD hD5 hS8 h3 h4 k h (i + 1) l x hR eD eS (by omega) (by omega) x1 x2
    · rcases cs_b01 h i s with hb | hb
      · have hv := hR.2.2.1 (i * 8 + s) (by omega) (by omega)
        have hx := ab_ixor_rng x1 x2 hv.1 hv.2.1
        simp (disch := omega) only [e32_0, e32_1, e32_2, e32_5, e32_6, e32_7, e32_8, e32_9, e32_11, e32_12, e32_16, e32_17, e32_20, e32_23, e32_25, e32_26, e32_29, e32_32, e32_33, e32_35, e32_36, e32_39, e32_42, e32_43, e32_44, e32_46, e32_47, e32_48, e32_49, e32_50, e32_51, e32_53, e32_54, e32_57, e32_58, e32_61, e32_62, e32_64, e32_65, e32_66, e32_69, e32_72, e32_74, e32_75, e32_77, e32_78, e32_81, e32_82, e32_84, e32_87, e32_90, e32_91, e32_92, e32_93, e32_95, e32_98, e32_99, ab_ge, ab_lt, ab_le, ab_gt, ab_eq, ab_ne, decide_eq_true_eq, ab_w_id, ab_w0, ab_gd_some, ab_gs_0, ab_gs_1, ab_gl_0, ab_gl_1, ab_bv_some, ab_bu_some, ab_bv_thr, ab_bu_thr, ab_fx_n, ab_fx_i, ab_fx_q, ab_fx_l, ab_sh_si, ab_gr_si, ab_gl_si, cs_n, ↓reduceIte, true_or, or_true, false_or, or_false, and_true, true_and, and_false, false_and, not_true_eq_false, not_false_eq_true, eq_self, Int.reduceEq, Int.reduceLT, Int.reduceLE, Int.reduceAdd, Int.reduceMul, Int.reduceNeg, if_pos, if_neg, hL.1, hL.2, eq_false c0, m15 hR q1 (show i < ab_gi h 1 0 by omega) h3 (show s < ab_gi h 1 1 by omega), hb, m11 hL (show ab_gi h 1 0 ≤ 5 by omega) (show ab_gi h 1 1 ≤ 8 by omega) q1 (show i < ab_gi h 1 0 by omega) h3 (show s < ab_gi h 1 1 by omega)]
        exact m32_loop hD hD5 hS8 h3 h4 k h (i + 1) l _ hR eD eS (by omega) (by omega) hx.1 hx.2
      · obtain ⟨b1, b2, b3, b4⟩ := cs_bi_dk hD q1 (show i < D by omega) h3 c0
        have b5 := cs_bi_lt hD hD5 q1 (show i < D by omega) h3 (show s < 8 by omega)
        have hR2 : cs_R (ab_si h 4 (i * 8 + s) 0) := cs_R_si4 hR (by omega) (by omega)
        have hR3 : cs_R (cs_lay (ab_si h 4 (i * 8 + s) 0) i s 0) := cs_R_lay hR2 (by omega) (by omega)
        have eD2 : ab_gi (ab_si h 4 (i * 8 + s) 0) 1 0 = D := by rw [ab_gi_si, if_neg (by simp)]; exact eD
        have eS2 : ab_gi (ab_si h 4 (i * 8 + s) 0) 1 1 = S := by rw [ab_gi_si, if_neg (by simp)]; exact eS
        have e8 : ab_E (dd + 2) 8 0 [some (.inr (.inr (some 1))), some (.inl i), some (.inl s), none] [] h = some (.inl (some (.inl (cs_bi D i s))), h) := by
          rw [m8 hR q1 (show i < ab_gi h 1 0 by omega) h3 (show s < ab_gi h 1 1 by omega), eD]
        have e31 : ab_E (dd + 2) 31 0 [some (.inr (.inr (some 1))), some (.inl (cs_bi D i s)), some (.inl 0), none] [] h = some (.inl none, ab_si h 4 (i * 8 + s) 0) := by
          rw [m31 hR (by omega) b1 b5 (by rw [eD, b3]; omega), eD, b3, b4]
        simp (disch := omega) only [e32_0, e32_1, e32_2, e32_5, e32_6, e32_7, e32_8, e32_9, e32_11, e32_12, e32_16, e32_17, e32_20, e32_23, e32_25, e32_26, e32_29, e32_32, e32_33, e32_35, e32_36, e32_39, e32_42, e32_43, e32_44, e32_46, e32_47, e32_48, e32_49, e32_50, e32_51, e32_53, e32_54, e32_57, e32_58, e32_61, e32_62, e32_64, e32_65, e32_66, e32_69, e32_72, e32_74, e32_75, e32_77, e32_78, e32_81, e32_82, e32_84, e32_87, e32_90, e32_91, e32_92, e32_93, e32_95, e32_98, e32_99, ab_ge, ab_lt, ab_le, ab_gt, ab_eq, ab_ne, decide_eq_true_eq, ab_w_id, ab_w0, ab_gd_some, ab_gs_0, ab_gs_1, ab_gl_0, ab_gl_1, ab_bv_some, ab_bu_some, ab_bv_thr, ab_bu_thr, ab_fx_n, ab_fx_i, ab_fx_q, ab_fx_l, ab_sh_si, ab_gr_si, ab_gl_si, cs_n, ↓reduceIte, true_or, or_true, false_or, or_false, and_true, true_and, and_false, false_and, not_true_eq_false, not_false_eq_true, eq_self, Int.reduceEq, Int.reduceLT, Int.reduceLE, Int.reduceAdd, Int.reduceMul, Int.reduceNeg, if_pos, if_neg, hL.1, hL.2, eq_false c0, m15 hR q1 (show i < ab_gi h 1 0 by omega) h3 (show s < ab_gi h 1 1 by omega), hb, e8, e31, m26 hR2.1 (show ab_gi (ab_si h 4 (i * 8 + s) 0) 1 0 ≤ 5 by omega) (show ab_gi (ab_si h 4 (i * 8 + s) 0) 1 1 ≤ 8 by omega) (hR2.2.2.2 i) q1 (show i < ab_gi (ab_si h 4 (i * 8 + s) 0) 1 0 by omega) h3 (show s < ab_gi (ab_si h 4 (i * 8 + s) 0) 1 1 by omega) (show (0 : Int) ≤ 0 by omega) (show (0 : Int) ≤ 255 by omega)]
        exact m32_loop hD hD5 hS8 h3 h4 k _ (i + 1) _ x hR3 (by rw [cs_lay_gi (by decide) (by decide)]; exact eD2) (by rw [cs_lay_gi (by decide) (by decide)]; exact eS2) (by omega) (by omega) x1 x2
theorem m32 {dd : Nat} {h : ab_H} {s : Int} (hR : cs_R h) (h3 : 0 ≤ s) (h4 : s < ab_gi h 1 1) :
    ab_E (dd + 3) 32 0 [some (.inr (.inr (some 1))), some (.inl s), none, none, none, none] [] h = some (.inl (some (.inl (cs_ga (ab_gi h 1 0) s h 0 0 0 (ab_gi h 1 0).toNat).1)), cs_lay (cs_ga (ab_gi h 1 0) s h 0 0 0 (ab_gi h 1 0).toNat).2.2 (s % ab_gi h 1 0) s (cs_ga (ab_gi h 1 0) s h 0 0 0 (ab_gi h 1 0).toNat).2.1) := by
  have hL := hR.1
  have hDS := hR.2.1
  simp (disch := omega) only [e32_0, e32_1, e32_2, e32_5, e32_6, e32_7, e32_8, e32_9, e32_11, e32_12, e32_16, e32_17, e32_20, e32_23, e32_25, e32_26, e32_29, e32_32, e32_33, e32_35, e32_36, e32_39, e32_42, e32_43, e32_44, e32_46, e32_47, e32_48, e32_49, e32_50, e32_51, e32_53, e32_54, e32_57, e32_58, e32_61, e32_62, e32_64, e32_65, e32_66, e32_69, e32_72, e32_74, e32_75, e32_77, e32_78, e32_81, e32_82, e32_84, e32_87, e32_90, e32_91, e32_92, e32_93, e32_95, e32_98, e32_99, ab_ge, ab_lt, ab_le, ab_gt, ab_eq, ab_ne, decide_eq_true_eq, ab_w_id, ab_w0, ab_gd_some, ab_gs_0, ab_gs_1, ab_gl_0, ab_gl_1, ab_bv_some, ab_bu_some, ab_bv_thr, ab_bu_thr, ab_fx_n, ab_fx_i, ab_fx_q, ab_fx_l, ab_sh_si, ab_gr_si, ab_gl_si, cs_n, ↓reduceIte, true_or, or_true, false_or, or_false, and_true, true_and, and_false, false_and, not_true_eq_false, not_false_eq_true, eq_self, Int.reduceEq, Int.reduceLT, Int.reduceLE, Int.reduceAdd, Int.reduceMul, Int.reduceNeg, if_pos, if_neg, hL.1, hL.2, m9 hR (show 3 ≤ ab_gi h 1 0 by omega) h3 (show s < 40 by omega)]
  exact m32_loop (by omega) (by omega) (by omega) h3 h4 (ab_gi h 1 0).toNat h 0 0 0 hR rfl rfl (by omega) (by omega) (by omega) (by omega)
theorem cs_sh_rng {h : ab_H} {d s : Int} (hR : cs_R h) (h1 : 0 ≤ d) (h2 : d < ab_gi h 1 0) (h3 : 0 ≤ s) (h4 : s < ab_gi h 1 1) : -1 ≤ cs_sh h d s ∧ cs_sh h d s ≤ 255 := by
  have hx := cs_xo_rng (d := d) hR h3 h4
  have hDS := hR.2.1
  have hv := hR.2.2.1 (d * 8 + s) (by omega) (by omega)
  unfold cs_sh
  repeat' split
  all_goals omega
/-- every block of the stripe that is not lost reads as it was written, from disk i on -/
def cs_sl (h : ab_H) (s : Int) : Int → Nat → Int
  | _, 0 => 1
  | i, k + 1 => if i ≠ s % ab_gi h 1 0 ∧ ¬ (1 < cs_bc h s ∧ cs_b h i s = 1) ∧ cs_sh h i s ≠ ab_gi h 4 (i * 8 + s) then 0 else cs_sl h s (i + 1) k
def cs_ss (h : ab_H) (s : Int) : Int := if cs_bc h s = 0 ∧ ab_gi h 2 (s % ab_gi h 1 0 * 8 + s) ≠ cs_xo h (s % ab_gi h 1 0) s then 0 else cs_sl h s 0 (ab_gi h 1 0).toNat
theorem m33_loop {dd : Nat} {h : ab_H} {s : Int} (hR : cs_R h) (h3 : 0 ≤ s) (h4 : s < ab_gi h 1 1) : ∀ (k : Nat) (i : Int) (o5 o6 : Option ab_V), 0 ≤ i → i + k = ab_gi h 1 0 →
    ab_E (dd + 4) 33 36 [some (.inr (.inr (some 1))), some (.inl s), some (.inl (s % ab_gi h 1 0)), some (.inl (cs_bc h s)), some (.inl i), o5, o6] [] h = some (.inl (some (.inl (cs_sl h s i k))), h)
  | 0, i, o5, o6, q1, q2 => by
    have hL := hR.1
    have hDS := hR.2.1
    rw [e33_36]
    simp (disch := omega) only [e33_0, e33_1, e33_2, e33_5, e33_6, e33_7, e33_8, e33_11, e33_12, e33_13, e33_16, e33_17, e33_18, e33_19, e33_22, e33_23, e33_24, e33_25, e33_28, e33_31, e33_32, e33_33, e33_34, e33_38, e33_39, e33_42, e33_45, e33_46, e33_48, e33_49, e33_52, e33_54, e33_55, e33_56, e33_59, e33_60, e33_62, e33_63, e33_66, e33_69, e33_70, e33_73, e33_74, e33_76, e33_78, e33_79, e33_82, e33_84, e33_85, e33_88, e33_90, e33_93, e33_94, e33_96, e33_97, e33_100, e33_101, e33_104, e33_106, e33_107, e33_110, e33_111, e33_112, e33_115, e33_118, e33_119, ab_ge, ab_lt, ab_le, ab_gt, ab_eq, ab_ne, decide_eq_true_eq, ab_w_id, ab_w0, ab_gd_some, ab_gs_0, ab_gs_1, ab_gl_0, ab_gl_1, ab_bv_some, ab_bu_some, ab_bv_thr, ab_bu_thr, ab_fx_n, ab_fx_i, ab_fx_q, ab_fx_l, ab_sh_si, ab_gr_si, ab_gl_si, cs_n, ↓reduceIte, true_or, or_true, false_or, or_false, and_true, true_and, and_false, false_and, not_true_eq_false, not_false_eq_true, eq_self, Int.reduceEq, Int.reduceLT, Int.reduceLE, Int.reduceAdd, Int.reduceMul, Int.reduceNeg, if_pos, if_neg, hL.1, hL.2]
    rfl
  | k + 1, i, o5, o6, q1, q2 => by
    have hL := hR.1
    have hDS := hR.2.1
    have hbc := cs_bc_le hR s
    have q5 : 0 ≤ s % ab_gi h 1 0 := Int.emod_nonneg _ (by omega)
    have q6 : s % ab_gi h 1 0 < ab_gi h 1 0 := Int.emod_lt_of_pos _ (by omega)
    have hsh := cs_sh_rng hR q1 (show i < ab_gi h 1 0 by omega) h3 h4
    have hw := hR.2.2.1 (i * 8 + s) (by omega) (by omega)
    have ih := fun o5 o6 => m33_loop (dd := dd) hR h3 h4 k (i + 1) o5 o6 (by omega) (by omega)
    have e35 := fun (d9 : Nat) => m35 (dd := d9) hL (show ab_gi h 1 0 ≤ 5 by omega) (show ab_gi h 1 1 ≤ 8 by omega) q1 (show i < ab_gi h 1 0 by omega) h3 h4
    have hb := cs_b01 h i s
    rw [e33_36]
    unfold cs_sl
    by_cases c0 : i = s % ab_gi h 1 0
    · rw [if_neg (fun z => z.1 c0)]
      by_cases c1 : 1 < cs_bc h s
      · rcases hb with hb | hb <;>
        · simp (disch := omega) only [e33_0, e33_1, e33_2, e33_5, e33_6, e33_7, e33_8, e33_11, e33_12, e33_13, e33_16, e33_17, e33_18, e33_19, e33_22, e33_23, e33_24, e33_25, e33_28, e33_31, e33_32, e33_33, e33_34, e33_38, e33_39, e33_42, e33_45, e33_46, e33_48, e33_49, e33_52, e33_54, e33_55, e33_56, e33_59, e33_60, e33_62, e33_63, e33_66, e33_69, e33_70, e33_73, e33_74, e33_76, e33_78, e33_79, e33_82, e33_84, e33_85, e33_88, e33_90, e33_93, e33_94, e33_96, e33_97, e33_100, e33_101, e33_104, e33_106, e33_107, e33_110, e33_111, e33_112, e33_115, e33_118, e33_119, ab_ge, ab_lt, ab_le, ab_gt, ab_eq, ab_ne, decide_eq_true_eq, ab_w_id, ab_w0, ab_gd_some, ab_gs_0, ab_gs_1, ab_gl_0, ab_gl_1, ab_bv_some, ab_bu_some, ab_bv_thr, ab_bu_thr, ab_fx_n, ab_fx_i, ab_fx_q, ab_fx_l, ab_sh_si, ab_gr_si, ab_gl_si, cs_n, ↓reduceIte, true_or, or_true, false_or, or_false, and_true, true_and, and_false, false_and, not_true_eq_false, not_false_eq_true, eq_self, Int.reduceEq, Int.reduceLT, Int.reduceLE, Int.reduceAdd, Int.reduceMul, Int.reduceNeg, if_pos, if_neg, hL.1, hL.2, e35, m15 hR q1 (show i < ab_gi h 1 0 by omega) h3 h4, hb, eq_true c0]
          exact ih _ _
      · simp (disch := omega) only [e33_0, e33_1, e33_2, e33_5, e33_6, e33_7, e33_8, e33_11, e33_12, e33_13, e33_16, e33_17, e33_18, e33_19, e33_22, e33_23, e33_24, e33_25, e33_28, e33_31, e33_32, e33_33, e33_34, e33_38, e33_39, e33_42, e33_45, e33_46, e33_48, e33_49, e33_52, e33_54, e33_55, e33_56, e33_59, e33_60, e33_62, e33_63, e33_66, e33_69, e33_70, e33_73, e33_74, e33_76, e33_78, e33_79, e33_82, e33_84, e33_85, e33_88, e33_90, e33_93, e33_94, e33_96, e33_97, e33_100, e33_101, e33_104, e33_106, e33_107, e33_110, e33_111, e33_112, e33_115, e33_118, e33_119, ab_ge, ab_lt, ab_le, ab_gt, ab_eq, ab_ne, decide_eq_true_eq, ab_w_id, ab_w0, ab_gd_some, ab_gs_0, ab_gs_1, ab_gl_0, ab_gl_1, ab_bv_some, ab_bu_some, ab_bv_thr, ab_bu_thr, ab_fx_n, ab_fx_i, ab_fx_q, ab_fx_l, ab_sh_si, ab_gr_si, ab_gl_si, cs_n, ↓reduceIte, true_or, or_true, false_or, or_false, and_true, true_and, and_false, false_and, not_true_eq_false, not_false_eq_true, eq_self, Int.reduceEq, Int.reduceLT, Int.reduceLE, Int.reduceAdd, Int.reduceMul, Int.reduceNeg, if_pos, if_neg, hL.1, hL.2, e35, eq_true c0]
        exact ih _ _
    · by_cases c1 : 1 < cs_bc h s
      · rcases hb with hb | hb
        · by_cases c2 : cs_sh h i s = ab_gi h 4 (i * 8 + s)
          · rw [if_neg (fun z => z.2.2 c2)]
            simp (disch := omega) only [e33_0, e33_1, e33_2, e33_5, e33_6, e33_7, e33_8, e33_11, e33_12, e33_13, e33_16, e33_17, e33_18, e33_19, e33_22, e33_23, e33_24, e33_25, e33_28, e33_31, e33_32, e33_33, e33_34, e33_38, e33_39, e33_42, e33_45, e33_46, e33_48, e33_49, e33_52, e33_54, e33_55, e33_56, e33_59, e33_60, e33_62, e33_63, e33_66, e33_69, e33_70, e33_73, e33_74, e33_76, e33_78, e33_79, e33_82, e33_84, e33_85, e33_88, e33_90, e33_93, e33_94, e33_96, e33_97, e33_100, e33_101, e33_104, e33_106, e33_107, e33_110, e33_111, e33_112, e33_115, e33_118, e33_119, ab_ge, ab_lt, ab_le, ab_gt, ab_eq, ab_ne, decide_eq_true_eq, ab_w_id, ab_w0, ab_gd_some, ab_gs_0, ab_gs_1, ab_gl_0, ab_gl_1, ab_bv_some, ab_bu_some, ab_bv_thr, ab_bu_thr, ab_fx_n, ab_fx_i, ab_fx_q, ab_fx_l, ab_sh_si, ab_gr_si, ab_gl_si, cs_n, ↓reduceIte, true_or, or_true, false_or, or_false, and_true, true_and, and_false, false_and, not_true_eq_false, not_false_eq_true, eq_self, Int.reduceEq, Int.reduceLT, Int.reduceLE, Int.reduceAdd, Int.reduceMul, Int.reduceNeg, if_pos, if_neg, hL.1, hL.2, e35, m15 hR q1 (show i < ab_gi h 1 0 by omega) h3 h4, hb, eq_false c0, m24 hR q1 (show i < ab_gi h 1 0 by omega) h3 h4, eq_true c2]
            exact ih _ _
          · rw [if_pos ⟨c0, fun z => by omega, c2⟩]
            simp (disch := omega) only [e33_0, e33_1, e33_2, e33_5, e33_6, e33_7, e33_8, e33_11, e33_12, e33_13, e33_16, e33_17, e33_18, e33_19, e33_22, e33_23, e33_24, e33_25, e33_28, e33_31, e33_32, e33_33, e33_34, e33_38, e33_39, e33_42, e33_45, e33_46, e33_48, e33_49, e33_52, e33_54, e33_55, e33_56, e33_59, e33_60, e33_62, e33_63, e33_66, e33_69, e33_70, e33_73, e33_74, e33_76, e33_78, e33_79, e33_82, e33_84, e33_85, e33_88, e33_90, e33_93, e33_94, e33_96, e33_97, e33_100, e33_101, e33_104, e33_106, e33_107, e33_110, e33_111, e33_112, e33_115, e33_118, e33_119, ab_ge, ab_lt, ab_le, ab_gt, ab_eq, ab_ne, decide_eq_true_eq, ab_w_id, ab_w0, ab_gd_some, ab_gs_0, ab_gs_1, ab_gl_0, ab_gl_1, ab_bv_some, ab_bu_some, ab_bv_thr, ab_bu_thr, ab_fx_n, ab_fx_i, ab_fx_q, ab_fx_l, ab_sh_si, ab_gr_si, ab_gl_si, cs_n, ↓reduceIte, true_or, or_true, false_or, or_false, and_true, true_and, and_false, false_and, not_true_eq_false, not_false_eq_true, eq_self, Int.reduceEq, Int.reduceLT, Int.reduceLE, Int.reduceAdd, Int.reduceMul, Int.reduceNeg, if_pos, if_neg, hL.1, hL.2, e35, m15 hR q1 (show i < ab_gi h 1 0 by omega) h3 h4, hb, eq_false c0, m24 hR q1 (show i < ab_gi h 1 0 by omega) h3 h4, eq_false c2]
        · rw [if_neg (fun z => z.2.1 ⟨c1, hb⟩)]
          simp (disch := omega) only [e33_0, e33_1, e33_2, e33_5, e33_6, e33_7, e33_8, e33_11, e33_12, e33_13, e33_16, e33_17, e33_18, e33_19, e33_22, e33_23, e33_24, e33_25, e33_28, e33_31, e33_32, e33_33, e33_34, e33_38, e33_39, e33_42, e33_45, e33_46, e33_48, e33_49, e33_52, e33_54, e33_55, e33_56, e33_59, e33_60, e33_62, e33_63, e33_66, e33_69, e33_70, e33_73, e33_74, e33_76, e33_78, e33_79, e33_82, e33_84, e33_85, e33_88, e33_90, e33_93, e33_94, e33_96, e33_97, e33_100, e33_101, e33_104, e33_106, e33_107, e33_110, e33_111, e33_112, e33_115, e33_118, e33_119, ab_ge, ab_lt, ab_le, ab_gt, ab_eq, ab_ne, decide_eq_true_eq, ab_w_id, ab_w0, ab_gd_some, ab_gs_0, ab_gs_1, ab_gl_0, ab_gl_1, ab_bv_some, ab_bu_some, ab_bv_thr, ab_bu_thr, ab_fx_n, ab_fx_i, ab_fx_q, ab_fx_l, ab_sh_si, ab_gr_si, ab_gl_si, cs_n, ↓reduceIte, true_or, or_true, false_or, or_false, and_true, true_and, and_false, false_and, not_true_eq_false, not_false_eq_true, eq_self, Int.reduceEq, Int.reduceLT, Int.reduceLE, Int.reduceAdd, Int.reduceMul, Int.reduceNeg, if_pos, if_neg, hL.1, hL.2, e35, m15 hR q1 (show i < ab_gi h 1 0 by omega) h3 h4, hb, eq_false c0]
          exact ih _ _
      · by_cases c2 : cs_sh h i s = ab_gi h 4 (i * 8 + s)
        · rw [if_neg (fun z => z.2.2 c2)]
          simp (disch := omega) only [e33_0, e33_1, e33_2, e33_5, e33_6, e33_7, e33_8, e33_11, e33_12, e33_13, e33_16, e33_17, e33_18, e33_19, e33_22, e33_23, e33_24, e33_25, e33_28, e33_31, e33_32, e33_33, e33_34, e33_38, e33_39, e33_42, e33_45, e33_46, e33_48, e33_49, e33_52, e33_54, e33_55, e33_56, e33_59, e33_60, e33_62, e33_63, e33_66, e33_69, e33_70, e33_73, e33_74, e33_76, e33_78, e33_79, e33_82, e33_84, e33_85, e33_88, e33_90, e33_93, e33_94, e33_96, e33_97, e33_100, e33_101, e33_104, e33_106, e33_107, e33_110, e33_111, e33_112, e33_115, e33_118, e33_119, ab_ge, ab_lt, ab_le, ab_gt, ab_eq, ab_ne, decide_eq_true_eq, ab_w_id, ab_w0, ab_gd_some, ab_gs_0, ab_gs_1, ab_gl_0, ab_gl_1, ab_bv_some, ab_bu_some, ab_bv_thr, ab_bu_thr, ab_fx_n, ab_fx_i, ab_fx_q, ab_fx_l, ab_sh_si, ab_gr_si, ab_gl_si, cs_n, ↓reduceIte, true_or, or_true, false_or, or_false, and_true, true_and, and_false, false_and, not_true_eq_false, not_false_eq_true, eq_self, Int.reduceEq, Int.reduceLT, Int.reduceLE, Int.reduceAdd, Int.reduceMul, Int.reduceNeg, if_pos, if_neg, hL.1, hL.2, e35, eq_false c0, m24 hR q1 (show i < ab_gi h 1 0 by omega) h3 h4, eq_true c2]
          exact ih _ _
        · rw [if_pos ⟨c0, fun z => c1 z.1, c2⟩]
          simp (disch := omega) only [e33_0, e33_1, e33_2, e33_5, e33_6, e33_7, e33_8, e33_11, e33_12, e33_13, e33_16, e33_17, e33_18, e33_19, e33_22, e33_23, e33_24, e33_25, e33_28, e33_31, e33_32, e33_33, e33_34, e33_38, e33_39, e33_42, e33_45, e33_46, e33_48, e33_49, e33_52, e33_54, e33_55, e33_56, e33_59, e33_60, e33_62, e33_63, e33_66, e33_69, e33_70, e33_73, e33_74, e33_76, e33_78, e33_79, e33_82, e33_84, e33_85, e33_88, e33_90, e33_93, e33_94, e33_96, e33_97, e33_100, e33_101, e33_104, e33_106, e33_107, e33_110, e33_111, e33_112, e33_115, e33_118, e33_119, ab_ge, ab_lt, ab_le, ab_gt, ab_eq, ab_ne, decide_eq_true_eq, ab_w_id, ab_w0, ab_gd_some, ab_gs_0, ab_gs_1, ab_gl_0, ab_gl_1, ab_bv_some, ab_bu_some, ab_bv_thr, ab_bu_thr, ab_fx_n, ab_fx_i, ab_fx_q, ab_fx_l, ab_sh_si, ab_gr_si, ab_gl_si, cs_n, ↓reduceIte, true_or, or_true, false_or, or_false, and_true, true_and, and_false, false_and, not_true_eq_false, not_false_eq_true, eq_self, Int.reduceEq, Int.reduceLT, Int.reduceLE, Int.reduceAdd, Int.reduceMul, Int.reduceNeg, if_pos, if_neg, hL.1, hL.2, e35, eq_false c0, m24 hR q1 (show i < ab_gi h 1 0 by omega) h3 h4, eq_false c2]
theorem m33 {dd : Nat} {h : ab_H} {s : Int} (hR : cs_R h) (h3 : 0 ≤ s) (h4 : s < ab_gi h 1 1) :
    ab_E (dd + 4) 33 0 [some (.inr (.inr (some 1))), some (.inl s), none, none, none, none, none] [] h = some (.inl (some (.inl (cs_ss h s))), h) := by
  have hL := hR.1
  have hDS := hR.2.1
  have hbc := cs_bc_le hR s
  have q5 : 0 ≤ s % ab_gi h 1 0 := Int.emod_nonneg _ (by omega)
  have q6 : s % ab_gi h 1 0 < ab_gi h 1 0 := Int.emod_lt_of_pos _ (by omega)
  have hv := hR.2.2.1 (s % ab_gi h 1 0 * 8 + s) (by omega) (by omega)
  have hx := cs_xo_rng (d := s % ab_gi h 1 0) hR h3 h4
  have lp := fun o5 o6 => m33_loop (dd := dd) hR h3 h4 (ab_gi h 1 0).toNat 0 o5 o6 (by omega) (by omega)
  unfold cs_ss
  by_cases c1 : cs_bc h s = 0
  · by_cases c2 : ab_gi h 2 (s % ab_gi h 1 0 * 8 + s) = cs_xo h (s % ab_gi h 1 0) s
    · rw [if_neg (fun z => z.2 c2)]
      simp (disch := omega) only [e33_0, e33_1, e33_2, e33_5, e33_6, e33_7, e33_8, e33_11, e33_12, e33_13, e33_16, e33_17, e33_18, e33_19, e33_22, e33_23, e33_24, e33_25, e33_28, e33_31, e33_32, e33_33, e33_34, e33_38, e33_39, e33_42, e33_45, e33_46, e33_48, e33_49, e33_52, e33_54, e33_55, e33_56, e33_59, e33_60, e33_62, e33_63, e33_66, e33_69, e33_70, e33_73, e33_74, e33_76, e33_78, e33_79, e33_82, e33_84, e33_85, e33_88, e33_90, e33_93, e33_94, e33_96, e33_97, e33_100, e33_101, e33_104, e33_106, e33_107, e33_110, e33_111, e33_112, e33_115, e33_118, e33_119, ab_ge, ab_lt, ab_le, ab_gt, ab_eq, ab_ne, decide_eq_true_eq, ab_w_id, ab_w0, ab_gd_some, ab_gs_0, ab_gs_1, ab_gl_0, ab_gl_1, ab_bv_some, ab_bu_some, ab_bv_thr, ab_bu_thr, ab_fx_n, ab_fx_i, ab_fx_q, ab_fx_l, ab_sh_si, ab_gr_si, ab_gl_si, cs_n, ↓reduceIte, true_or, or_true, false_or, or_false, and_true, true_and, and_false, false_and, not_true_eq_false, not_false_eq_true, eq_self, Int.reduceEq, Int.reduceLT, Int.reduceLE, Int.reduceAdd, Int.reduceMul, Int.reduceNeg, if_pos, if_neg, hL.1, hL.2, m9 hR (show 3 ≤ ab_gi h 1 0 by omega) h3 (show s < 40 by omega), m17 hR h3 h4, eq_true c1, m11 hL (show ab_gi h 1 0 ≤ 5 by omega) (show ab_gi h 1 1 ≤ 8 by omega) q5 q6 h3 h4, m25 hR q5 q6 h3 h4, eq_true c2]
      exact lp _ _
    · rw [if_pos ⟨c1, c2⟩]
      simp (disch := omega) only [e33_0, e33_1, e33_2, e33_5, e33_6, e33_7, e33_8, e33_11, e33_12, e33_13, e33_16, e33_17, e33_18, e33_19, e33_22, e33_23, e33_24, e33_25, e33_28, e33_31, e33_32, e33_33, e33_34, e33_38, e33_39, e33_42, e33_45, e33_46, e33_48, e33_49, e33_52, e33_54, e33_55, e33_56, e33_59, e33_60, e33_62, e33_63, e33_66, e33_69, e33_70, e33_73, e33_74, e33_76, e33_78, e33_79, e33_82, e33_84, e33_85, e33_88, e33_90, e33_93, e33_94, e33_96, e33_97, e33_100, e33_101, e33_104, e33_106, e33_107, e33_110, e33_111, e33_112, e33_115, e33_118, e33_119, ab_ge, ab_lt, ab_le, ab_gt, ab_eq, ab_ne, decide_eq_true_eq, ab_w_id, ab_w0, ab_gd_some, ab_gs_0, ab_gs_1, ab_gl_0, ab_gl_1, ab_bv_some, ab_bu_some, ab_bv_thr, ab_bu_thr, ab_fx_n, ab_fx_i, ab_fx_q, ab_fx_l, ab_sh_si, ab_gr_si, ab_gl_si, cs_n, ↓reduceIte, true_or, or_true, false_or, or_false, and_true, true_and, and_false, false_and, not_true_eq_false, not_false_eq_true, eq_self, Int.reduceEq, Int.reduceLT, Int.reduceLE, Int.reduceAdd, Int.reduceMul, Int.reduceNeg, if_pos, if_neg, hL.1, hL.2, m9 hR (show 3 ≤ ab_gi h 1 0 by omega) h3 (show s < 40 by omega), m17 hR h3 h4, eq_true c1, m11 hL (show ab_gi h 1 0 ≤ 5 by omega) (show ab_gi h 1 1 ≤ 8 by omega) q5 q6 h3 h4, m25 hR q5 q6 h3 h4, eq_false c2]
  · rw [if_neg (fun z => c1 z.1)]
    simp (disch := omega) only [e33_0, e33_1, e33_2, e33_5, e33_6, e33_7, e33_8, e33_11, e33_12, e33_13, e33_16, e33_17, e33_18, e33_19, e33_22, e33_23, e33_24, e33_25, e33_28, e33_31, e33_32, e33_33, e33_34, e33_38, e33_39, e33_42, e33_45, e33_46, e33_48, e33_49, e33_52, e33_54, e33_55, e33_56, e33_59, e33_60, e33_62, e33_63, e33_66, e33_69, e33_70, e33_73, e33_74, e33_76, e33_78, e33_79, e33_82, e33_84, e33_85, e33_88, e33_90, e33_93, e33_94, e33_96, e33_97, e33_100, e33_101, e33_104, e33_106, e33_107, e33_110, e33_111, e33_112, e33_115, e33_118, e33_119, ab_ge, ab_lt, ab_le, ab_gt, ab_eq, ab_ne, decide_eq_true_eq, ab_w_id, ab_w0, ab_gd_some, ab_gs_0, ab_gs_1, ab_gl_0, ab_gl_1, ab_bv_some, ab_bu_some, ab_bv_thr, ab_bu_thr, ab_fx_n, ab_fx_i, ab_fx_q, ab_fx_l, ab_sh_si, ab_gr_si, ab_gl_si, cs_n, ↓reduceIte, true_or, or_true, false_or, or_false, and_true, true_and, and_false, false_and, not_true_eq_false, not_false_eq_true, eq_self, Int.reduceEq, Int.reduceLT, Int.reduceLE, Int.reduceAdd, Int.reduceMul, Int.reduceNeg, if_pos, if_neg, hL.1, hL.2, m9 hR (show 3 ≤ ab_gi h 1 0 by omega) h3 (show s < 40 by omega), m17 hR h3 h4, eq_false c1]
    exact lp _ _
