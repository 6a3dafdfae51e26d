/-! THE LAW: GIVING UP; ANY DEED -/
section
variable {B : ab_B}
def cs_cd (D st : Int) (N : Nat) (b : Int) : Prop := b / (D - 1) = st ∧ N.testBit (cs_dk D b).toNat = true
theorem m71_gl {dd : Nat} {D S x1 x2 x3 bl st : Int} {N : Nat} (hN : N < 32) (st1 : 0 ≤ st) (st2 : st < S) : ∀ (k : Nat) (n : Int) (h : ab_H), cs_I D S h → (ab_sh h)[18]? = some (0, ((D - 1) * S).toNat) → 0 ≤ n → n + k = (D - 1) * S →
    (∀ b, 0 ≤ b → b < (D - 1) * S → (b < n → ab_gi h 18 b = ab_gi h 4 (cs_px D b)) ∧ (n ≤ b → (cs_cd D st N b → ab_gi h 4 (cs_px D b) = 0) ∧ (¬ cs_cd D st N b → ab_gi h 18 b = ab_gi h 4 (cs_px D b)))) →
    ∃ h', ab_E B (dd + 6) 71 277 [some (.inr (.inr (some 0))), some (.inl x1), some (.inl x2), some (.inl x3), some (.inr (.inr (some 18))), some (.inl D), some (.inl S), some (.inl bl), none, none, some (.inl st), some (.inl (N : Int)), some (.inl n)] [] h = some (.inl (some (.inl 1)), h') ∧ cs_I D S h' ∧ h'.2 = h.2 ∧ (∀ b, 0 ≤ b → b < (D - 1) * S → ab_gi h' 18 b = ab_gi h' 4 (cs_px D b)) ∧ ∀ s, ab_gi h' 19 s = ab_gi h 19 s
  | 0, n, h, i, s18, n1, n2, hb => by
    have D1 := i.1.2.2.2.1
    have D2 := i.1.2.2.2.2.1
    have S1 := i.1.2.2.2.2.2.1
    have S2 := i.1.2.2.2.2.2.2
    have hBS := cs_BS D1 D2 S1 S2
    have eBS : ((((D - 1) * S).toNat : Nat) : Int) = (D - 1) * S := by omega
    have en : n = (D - 1) * S := by omega
    refine ⟨h, ?_, i, rfl, fun b b1 b2 => (hb b b1 b2).1 (by omega), fun _ => rfl⟩
    rw [en, e71_277]
    generalize (D - 1) * S = BS at s18 hBS eBS ⊢
    simp (disch := omega) only [e71_279, e71_281, e71_282, e71_325, e71_326, Option.isSome_some, ab_bvh_some, ab_bvh_thr, ab_ge, ab_lt, ab_le, ab_gt, ab_eq, ab_ne, decide_eq_true_eq, ab_w_id, ab_w0, ab_gd_some, ab_gs_0, ab_gs_1, ab_gl_0, ab_gl_1, ab_bv_some, ab_bu_some, ab_bv_thr, ab_bu_thr, ab_fx_n, ab_fx_i, ab_fx_q, ab_fx_l, ab_sh_si, ab_gr_si, ab_gl_si, cs_n, ↓reduceIte, true_or, or_true, false_or, or_false, and_true, true_and, and_false, false_and, not_true_eq_false, not_false_eq_true, eq_self, Int.reduceEq, Int.reduceLT, Int.reduceLE, Int.reduceAdd, Int.reduceMul, Int.reduceNeg, if_pos, if_neg, s18, eBS]
  | k + 1, n, h, i, s18, n1, n2, hb => by
    have hL := i.1.1.1
    obtain ⟨hR, eD, eS, D1, D2, S1, S2⟩ := i.1
    have hBS := cs_BS D1 D2 S1 S2
    have eBS : ((((D - 1) * S).toNat : Nat) : Int) = (D - 1) * S := by omega
    have nB : n < (D - 1) * S := by omega
    obtain ⟨y1, y2, y3, y4, y5, y6⟩ := cs_blk D1 D2 S2 n1 nB
    have e1 := m77 (B := B) (dd := dd) (w := 1) i n1 nB (by omega) (by omega)
    have ev1 : cs_vb h D n 1 = n / (D - 1) := rfl
    rw [ev1] at e1
    have e0 := m77 (B := B) (dd := dd) (w := 0) i n1 nB (by omega) (by omega)
    have ev0 : cs_vb h D n 0 = cs_dk D n := rfl
    rw [ev0] at e0
    have hbit : ab_iand (ab_ishr (N : Int) (cs_dk D n)) 1 = if N.testBit (cs_dk D n).toNat = true then 1 else 0 := by
      have := ab_bit_and ⟨N, hN⟩ ⟨(cs_dk D n).toNat, by omega⟩
      simp only [show (((cs_dk D n).toNat : Nat) : Int) = cs_dk D n from by omega] at this
      exact this
    have ih := m71_gl (dd := dd) (D := D) (S := S) (x1 := x1) (x2 := x2) (x3 := x3) (bl := bl) (N := N) hN st1 st2 k (n + 1)
    by_cases c1 : n / (D - 1) = st
    · by_cases c2 : N.testBit (cs_dk D n).toNat = true
      · rw [if_pos c2] at hbit
        have g4 : ∀ x, ab_gi (ab_si h 18 n 0) 4 x = ab_gi h 4 x := fun x => by rw [ab_gi_si, if_neg (by simp)]
        obtain ⟨h', a, a1, a2, a3, a4⟩ := ih (ab_si h 18 n 0) (cs_I_si18 (by omega) i) s18 (by omega) (by omega) (fun b b1 b2 => by
          rw [g4]
          obtain ⟨z1, z2⟩ := hb b b1 b2
          by_cases e : b = n
          · refine ⟨fun _ => ?_, fun z => by omega⟩
            rw [ab_gi_si, if_pos ⟨rfl, e⟩]
            rw [e]
            rw [e] at z2
            exact ((z2 (by omega)).1 ⟨c1, c2⟩).symm
          · rw [ab_gi_si, if_neg (fun z => e z.2)]
            exact ⟨fun z => z1 (by omega), fun z => z2 (by omega)⟩)
        refine ⟨h', ?_, a1, a2, a3, fun s => by rw [a4, ab_gi_si, if_neg (by simp)]⟩
        rw [← a, e71_277]
        generalize (D - 1) * S = BS at s18 hBS eBS nB ⊢
        simp (disch := omega) only [e71_0, e71_1, e71_3, e71_4, e71_7, e71_9, e71_10, e71_64, e71_65, e71_67, e71_70, e71_72, e71_73, e71_75, e71_76, e71_78, e71_79, e71_82, e71_85, e71_86, e71_88, e71_91, e71_94, e71_97, e71_99, e71_101, e71_102, e71_104, e71_105, e71_108, e71_111, e71_112, e71_113, e71_114, e71_115, e71_117, e71_118, e71_121, e71_123, e71_124, e71_126, e71_129, e71_131, e71_134, e71_135, e71_138, e71_139, e71_140, e71_141, e71_142, e71_144, e71_147, e71_148, e71_150, e71_153, e71_154, e71_155, e71_156, e71_157, e71_160, e71_163, e71_164, e71_167, e71_170, e71_171, e71_174, e71_175, e71_176, e71_177, e71_178, e71_181, e71_184, e71_185, e71_186, e71_188, e71_191, e71_194, e71_197, e71_198, e71_201, e71_202, e71_203, e71_204, e71_205, e71_207, e71_210, e71_213, e71_216, e71_217, e71_220, e71_221, e71_222, e71_223, e71_224, e71_225, e71_227, e71_230, e71_231, e71_234, e71_237, e71_238, e71_239, e71_240, e71_242, e71_245, e71_246, e71_249, e71_252, e71_253, e71_256, e71_257, e71_258, e71_259, e71_261, e71_264, e71_266, e71_267, e71_269, e71_272, e71_274, e71_275, e71_279, e71_281, e71_282, e71_285, e71_286, e71_288, e71_289, e71_292, e71_294, e71_297, e71_299, e71_300, e71_302, e71_303, e71_306, e71_307, e71_308, e71_309, e71_310, e71_313, e71_315, e71_317, e71_318, e71_319, e71_322, e71_325, e71_326, e71_327, e71_328, e71_331, e71_334, e71_335, e71_338, e71_339, Option.isSome_some, ab_bvh_some, ab_bvh_thr, ab_ge, ab_lt, ab_le, ab_gt, ab_eq, ab_ne, decide_eq_true_eq, ab_w_id, ab_w0, ab_gd_some, ab_gs_0, ab_gs_1, ab_gl_0, ab_gl_1, ab_bv_some, ab_bu_some, ab_bv_thr, ab_bu_thr, ab_fx_n, ab_fx_i, ab_fx_q, ab_fx_l, ab_sh_si, ab_gr_si, ab_gl_si, cs_n, ↓reduceIte, true_or, or_true, false_or, or_false, and_true, true_and, and_false, false_and, not_true_eq_false, not_false_eq_true, eq_self, Int.reduceEq, Int.reduceLT, Int.reduceLE, Int.reduceAdd, Int.reduceMul, Int.reduceNeg, if_pos, if_neg, hL.1, s18, eBS, e1, e0, hbit, eq_true c1]
      · rw [if_neg c2] at hbit
        obtain ⟨h', a, a1, a2, a3, a4⟩ := ih h i s18 (by omega) (by omega) (fun b b1 b2 => by
          obtain ⟨z1, z2⟩ := hb b b1 b2
          refine ⟨fun z => ?_, fun z => z2 (by omega)⟩
          by_cases e : b = n
          · exact (z2 (by omega)).2 (fun w => c2 (by rw [← e]; exact w.2))
          · exact z1 (by omega))
        refine ⟨h', ?_, a1, a2, a3, a4⟩
        rw [← a, e71_277]
        generalize (D - 1) * S = BS at s18 hBS eBS nB ⊢
        simp (disch := omega) only [e71_0, e71_1, e71_3, e71_4, e71_7, e71_9, e71_10, e71_64, e71_65, e71_67, e71_70, e71_72, e71_73, e71_75, e71_76, e71_78, e71_79, e71_82, e71_85, e71_86, e71_88, e71_91, e71_94, e71_97, e71_99, e71_101, e71_102, e71_104, e71_105, e71_108, e71_111, e71_112, e71_113, e71_114, e71_115, e71_117, e71_118, e71_121, e71_123, e71_124, e71_126, e71_129, e71_131, e71_134, e71_135, e71_138, e71_139, e71_140, e71_141, e71_142, e71_144, e71_147, e71_148, e71_150, e71_153, e71_154, e71_155, e71_156, e71_157, e71_160, e71_163, e71_164, e71_167, e71_170, e71_171, e71_174, e71_175, e71_176, e71_177, e71_178, e71_181, e71_184, e71_185, e71_186, e71_188, e71_191, e71_194, e71_197, e71_198, e71_201, e71_202, e71_203, e71_204, e71_205, e71_207, e71_210, e71_213, e71_216, e71_217, e71_220, e71_221, e71_222, e71_223, e71_224, e71_225, e71_227, e71_230, e71_231, e71_234, e71_237, e71_238, e71_239, e71_240, e71_242, e71_245, e71_246, e71_249, e71_252, e71_253, e71_256, e71_257, e71_258, e71_259, e71_261, e71_264, e71_266, e71_267, e71_269, e71_272, e71_274, e71_275, e71_279, e71_281, e71_282, e71_285, e71_286, e71_288, e71_289, e71_292, e71_294, e71_297, e71_299, e71_300, e71_302, e71_303, e71_306, e71_307, e71_308, e71_309, e71_310, e71_313, e71_315, e71_317, e71_318, e71_319, e71_322, e71_325, e71_326, e71_327, e71_328, e71_331, e71_334, e71_335, e71_338, e71_339, Option.isSome_some, ab_bvh_some, ab_bvh_thr, ab_ge, ab_lt, ab_le, ab_gt, ab_eq, ab_ne, decide_eq_true_eq, ab_w_id, ab_w0, ab_gd_some, ab_gs_0, ab_gs_1, ab_gl_0, ab_gl_1, ab_bv_some, ab_bu_some, ab_bv_thr, ab_bu_thr, ab_fx_n, ab_fx_i, ab_fx_q, ab_fx_l, ab_sh_si, ab_gr_si, ab_gl_si, cs_n, ↓reduceIte, true_or, or_true, false_or, or_false, and_true, true_and, and_false, false_and, not_true_eq_false, not_false_eq_true, eq_self, Int.reduceEq, Int.reduceLT, Int.reduceLE, Int.reduceAdd, Int.reduceMul, Int.reduceNeg, if_pos, if_neg, hL.1, s18, eBS, e1, e0, hbit, eq_true c1]
    · obtain ⟨h', a, a1, a2, a3, a4⟩ := ih h i s18 (by omega) (by omega) (fun b b1 b2 => by
        obtain ⟨z1, z2⟩ := hb b b1 b2
        refine ⟨fun z => ?_, fun z => z2 (by omega)⟩
        by_cases e : b = n
        · exact (z2 (by omega)).2 (fun w => c1 (by rw [← e]; exact w.1))
        · exact z1 (by omega))
      refine ⟨h', ?_, a1, a2, a3, a4⟩
      rw [← a, e71_277]
      generalize (D - 1) * S = BS at s18 hBS eBS nB ⊢
      simp (disch := omega) only [e71_0, e71_1, e71_3, e71_4, e71_7, e71_9, e71_10, e71_64, e71_65, e71_67, e71_70, e71_72, e71_73, e71_75, e71_76, e71_78, e71_79, e71_82, e71_85, e71_86, e71_88, e71_91, e71_94, e71_97, e71_99, e71_101, e71_102, e71_104, e71_105, e71_108, e71_111, e71_112, e71_113, e71_114, e71_115, e71_117, e71_118, e71_121, e71_123, e71_124, e71_126, e71_129, e71_131, e71_134, e71_135, e71_138, e71_139, e71_140, e71_141, e71_142, e71_144, e71_147, e71_148, e71_150, e71_153, e71_154, e71_155, e71_156, e71_157, e71_160, e71_163, e71_164, e71_167, e71_170, e71_171, e71_174, e71_175, e71_176, e71_177, e71_178, e71_181, e71_184, e71_185, e71_186, e71_188, e71_191, e71_194, e71_197, e71_198, e71_201, e71_202, e71_203, e71_204, e71_205, e71_207, e71_210, e71_213, e71_216, e71_217, e71_220, e71_221, e71_222, e71_223, e71_224, e71_225, e71_227, e71_230, e71_231, e71_234, e71_237, e71_238, e71_239, e71_240, e71_242, e71_245, e71_246, e71_249, e71_252, e71_253, e71_256, e71_257, e71_258, e71_259, e71_261, e71_264, e71_266, e71_267, e71_269, e71_272, e71_274, e71_275, e71_279, e71_281, e71_282, e71_285, e71_286, e71_288, e71_289, e71_292, e71_294, e71_297, e71_299, e71_300, e71_302, e71_303, e71_306, e71_307, e71_308, e71_309, e71_310, e71_313, e71_315, e71_317, e71_318, e71_319, e71_322, e71_325, e71_326, e71_327, e71_328, e71_331, e71_334, e71_335, e71_338, e71_339, Option.isSome_some, ab_bvh_some, ab_bvh_thr, ab_ge, ab_lt, ab_le, ab_gt, ab_eq, ab_ne, decide_eq_true_eq, ab_w_id, ab_w0, ab_gd_some, ab_gs_0, ab_gs_1, ab_gl_0, ab_gl_1, ab_bv_some, ab_bu_some, ab_bv_thr, ab_bu_thr, ab_fx_n, ab_fx_i, ab_fx_q, ab_fx_l, ab_sh_si, ab_gr_si, ab_gl_si, cs_n, ↓reduceIte, true_or, or_true, false_or, or_false, and_true, true_and, and_false, false_and, not_true_eq_false, not_false_eq_true, eq_self, Int.reduceEq, Int.reduceLT, Int.reduceLE, Int.reduceAdd, Int.reduceMul, Int.reduceNeg, if_pos, if_neg, hL.1, s18, eBS, e1, e0, hbit, eq_false c1]
theorem m71_g {dd : Nat} {D S x1 x2 x3 bl : Int} {h : ab_H} (v : cs_V D S h) :
    ∃ h', ab_E B (dd + 6) 71 258 [some (.inr (.inr (some 0))), some (.inl x1), some (.inl x2), some (.inl x3), some (.inr (.inr (some 18))), some (.inl D), some (.inl S), some (.inl bl), none, none, none, none, none] [] h = some (.inl (some (.inl 1)), h') ∧ cs_D D S h h' := by
  have hL := v.1.1.1.1
  obtain ⟨hR, eD, eS, D1, D2, S1, S2⟩ := v.1.1
  have hx := fun (x1 x2 x3 x5 x6 x7 : Int) (q4 : Option Nat) (o8 o9 o10 o11 o12 : Option ab_V) => m71_x (B := B) (dd := dd) (cs_I_cost (a := 1) (b := 6) v.1) x1 x2 x3 x5 x6 x7 q4 o8 o9 o10 o11 o12
  have ry := cs_bel_rng (v := x3) (n := S) (by omega) (by omega)
  have my := m39 (B := B) (dd := dd + 5) (h := h) (v := x3) (n := S) (by omega) (by omega)
  rcases m69 (B := B) (dd := dd) v.1 ry.1 ry.2 with e | ⟨h1, N, e, hN, i1, f1, w1⟩
  · refine ⟨ab_cost h 1 6, ?_, cs_V_cost v⟩
    simp (disch := omega) only [e71_0, e71_1, e71_3, e71_4, e71_7, e71_9, e71_10, e71_64, e71_65, e71_67, e71_70, e71_72, e71_73, e71_75, e71_76, e71_78, e71_79, e71_82, e71_85, e71_86, e71_88, e71_91, e71_94, e71_97, e71_99, e71_101, e71_102, e71_104, e71_105, e71_108, e71_111, e71_112, e71_113, e71_114, e71_115, e71_117, e71_118, e71_121, e71_123, e71_124, e71_126, e71_129, e71_131, e71_134, e71_135, e71_138, e71_139, e71_140, e71_141, e71_142, e71_144, e71_147, e71_148, e71_150, e71_153, e71_154, e71_155, e71_156, e71_157, e71_160, e71_163, e71_164, e71_167, e71_170, e71_171, e71_174, e71_175, e71_176, e71_177, e71_178, e71_181, e71_184, e71_185, e71_186, e71_188, e71_191, e71_194, e71_197, e71_198, e71_201, e71_202, e71_203, e71_204, e71_205, e71_207, e71_210, e71_213, e71_216, e71_217, e71_220, e71_221, e71_222, e71_223, e71_224, e71_225, e71_227, e71_230, e71_231, e71_234, e71_237, e71_238, e71_239, e71_240, e71_242, e71_245, e71_246, e71_249, e71_252, e71_253, e71_256, e71_257, e71_258, e71_259, e71_261, e71_264, e71_266, e71_267, e71_269, e71_272, e71_274, e71_275, e71_279, e71_281, e71_282, e71_285, e71_286, e71_288, e71_289, e71_292, e71_294, e71_297, e71_299, e71_300, e71_302, e71_303, e71_306, e71_307, e71_308, e71_309, e71_310, e71_313, e71_315, e71_317, e71_318, e71_319, e71_322, e71_325, e71_326, e71_327, e71_328, e71_331, e71_334, e71_335, e71_338, e71_339, Option.isSome_some, ab_bvh_some, ab_bvh_thr, ab_ge, ab_lt, ab_le, ab_gt, ab_eq, ab_ne, decide_eq_true_eq, ab_w_id, ab_w0, ab_gd_some, ab_gs_0, ab_gs_1, ab_gl_0, ab_gl_1, ab_bv_some, ab_bu_some, ab_bv_thr, ab_bu_thr, ab_fx_n, ab_fx_i, ab_fx_q, ab_fx_l, ab_sh_si, ab_gr_si, ab_gl_si, cs_n, ↓reduceIte, true_or, or_true, false_or, or_false, and_true, true_and, and_false, false_and, not_true_eq_false, not_false_eq_true, eq_self, Int.reduceEq, Int.reduceLT, Int.reduceLE, Int.reduceAdd, Int.reduceMul, Int.reduceNeg, if_pos, if_neg, hL.1, my, e, hx]
  · have sh1 : ab_sh h1 = ab_sh h := by unfold ab_sh; rw [f1.1]
    have key : ∀ b, 0 ≤ b → b < (D - 1) * S → (cs_cd D (cs_bel x3 S) N b → ab_gi h1 4 (cs_px D b) = 0) ∧ (¬ cs_cd D (cs_bel x3 S) N b → ab_gi h1 18 b = ab_gi h1 4 (cs_px D b)) := fun b b1 b2 => by
      obtain ⟨y1, y2, y3, y4, y5, y6⟩ := cs_blk D1 D2 S2 b1 b2
      have w := w1 (cs_dk D b) (b / (D - 1)) y4 y5 y2 (by omega)
      have ep : cs_px D b = cs_dk D b * 8 + b / (D - 1) := rfl
      refine ⟨fun c => ?_, fun c => ?_⟩
      · rw [ep, w, if_pos ⟨c.1, by rw [← c.1]; exact y6, c.2⟩]
      · rw [f1.2 18 b (by omega), ep, w, if_neg (fun z => c ⟨z.1, z.2.2⟩)]
        exact v.2.2.1 b b1 b2
    obtain ⟨h', a, a1, a2, a3, a4⟩ := m71_gl (B := B) (dd := dd) (x1 := x1) (x2 := x2) (x3 := x3) (bl := bl) hN ry.1 ry.2 ((D - 1) * S).toNat 0 h1 i1 (by rw [sh1]; exact v.2.1.1) (by omega) (by have := cs_BS D1 D2 S1 S2; omega) (fun b b1 b2 => ⟨fun z => by omega, fun _ => key b b1 b2⟩)
    have e2 := a2.trans f1.1
    have shh : ab_sh h' = ab_sh h := by unfold ab_sh; rw [e2]
    refine ⟨h', ?_, ⟨a1, by rw [shh]; exact v.2.1, a3, fun s s1 s2 => by rw [a4, f1.2 19 s (by omega)]; exact v.2.2.2 s s1 s2⟩, shh, fun s => by rw [a4, f1.2 19 s (by omega)], ?_, ?_⟩
    · simp (disch := omega) only [e71_0, e71_1, e71_3, e71_4, e71_7, e71_9, e71_10, e71_64, e71_65, e71_67, e71_70, e71_72, e71_73, e71_75, e71_76, e71_78, e71_79, e71_82, e71_85, e71_86, e71_88, e71_91, e71_94, e71_97, e71_99, e71_101, e71_102, e71_104, e71_105, e71_108, e71_111, e71_112, e71_113, e71_114, e71_115, e71_117, e71_118, e71_121, e71_123, e71_124, e71_126, e71_129, e71_131, e71_134, e71_135, e71_138, e71_139, e71_140, e71_141, e71_142, e71_144, e71_147, e71_148, e71_150, e71_153, e71_154, e71_155, e71_156, e71_157, e71_160, e71_163, e71_164, e71_167, e71_170, e71_171, e71_174, e71_175, e71_176, e71_177, e71_178, e71_181, e71_184, e71_185, e71_186, e71_188, e71_191, e71_194, e71_197, e71_198, e71_201, e71_202, e71_203, e71_204, e71_205, e71_207, e71_210, e71_213, e71_216, e71_217, e71_220, e71_221, e71_222, e71_223, e71_224, e71_225, e71_227, e71_230, e71_231, e71_234, e71_237, e71_238, e71_239, e71_240, e71_242, e71_245, e71_246, e71_249, e71_252, e71_253, e71_256, e71_257, e71_258, e71_259, e71_261, e71_264, e71_266, e71_267, e71_269, e71_272, e71_274, e71_275, e71_279, e71_281, e71_282, e71_285, e71_286, e71_288, e71_289, e71_292, e71_294, e71_297, e71_299, e71_300, e71_302, e71_303, e71_306, e71_307, e71_308, e71_309, e71_310, e71_313, e71_315, e71_317, e71_318, e71_319, e71_322, e71_325, e71_326, e71_327, e71_328, e71_331, e71_334, e71_335, e71_338, e71_339, Option.isSome_some, ab_bvh_some, ab_bvh_thr, ab_ge, ab_lt, ab_le, ab_gt, ab_eq, ab_ne, decide_eq_true_eq, ab_w_id, ab_w0, ab_gd_some, ab_gs_0, ab_gs_1, ab_gl_0, ab_gl_1, ab_bv_some, ab_bu_some, ab_bv_thr, ab_bu_thr, ab_fx_n, ab_fx_i, ab_fx_q, ab_fx_l, ab_sh_si, ab_gr_si, ab_gl_si, cs_n, ↓reduceIte, true_or, or_true, false_or, or_false, and_true, true_and, and_false, false_and, not_true_eq_false, not_false_eq_true, eq_self, Int.reduceEq, Int.reduceLT, Int.reduceLE, Int.reduceAdd, Int.reduceMul, Int.reduceNeg, if_pos, if_neg, hL.1, my, e]
      exact a
    · have : ab_kc h' = ab_kc h := by unfold ab_kc; rw [e2]
      omega
    · have : ab_ks h' = ab_ks h := by unfold ab_ks; rw [e2]
      omega
theorem m71 {dd : Nat} {D S x1 x2 x3 : Int} {h : ab_H} (v : cs_V D S h) (a1 : 0 ≤ x1) (a2 : x1 < 12) :
    ∃ h', ab_E B (dd + 6) 71 0 [some (.inr (.inr (some 0))), some (.inl x1), some (.inl x2), some (.inl x3), some (.inr (.inr (some 18))), some (.inl D), some (.inl S), none, none, none, none, none, none] [] h = some (.inl (some (.inl 1)), h') ∧ cs_D D S h h' := by
  obtain ⟨hR, eD, eS, D1, D2, S1, S2⟩ := v.1.1
  have hBS := cs_BS D1 D2 S1 S2
  have eBS : ((((D - 1) * S).toNat : Nat) : Int) = (D - 1) * S := by omega
  have s18 := v.2.1.1
  have rb := cs_bel_rng (v := x3) (n := (D - 1) * S) (by omega) (by omega)
  have mb := m39 (B := B) (dd := dd + 5) (h := h) (v := x3) (n := (D - 1) * S) (by omega) (by omega)
  have hc : (x1 = 0 ∨ x1 = 1 ∨ x1 = 2 ∨ x1 = 3) ∨ x1 = 4 ∨ x1 = 5 ∨ x1 = 6 ∨ x1 = 7 ∨ x1 = 8 ∨ x1 = 9 ∨ x1 = 10 ∨ x1 = 11 := by omega
  rcases hc with hc | c | c | c | c | c | c | c | c
  · obtain ⟨h', a, d⟩ := m71_w (B := B) (dd := dd) (x1 := x1) (x2 := x2) (x3 := x3) v rb.1 rb.2
    refine ⟨h', ?_, d⟩
    rw [← a]
    rcases hc with c | c | c | c <;> subst c <;> simp (disch := omega) only [e71_0, e71_1, e71_3, e71_4, e71_7, e71_9, e71_10, Option.isSome_some, ab_bvh_some, ab_bvh_thr, ab_ge, ab_lt, ab_le, ab_gt, ab_eq, ab_ne, decide_eq_true_eq, ab_w_id, ab_w0, ab_gd_some, ab_gs_0, ab_gs_1, ab_gl_0, ab_gl_1, ab_bv_some, ab_bu_some, ab_bv_thr, ab_bu_thr, ab_fx_n, ab_fx_i, ab_fx_q, ab_fx_l, ab_sh_si, ab_gr_si, ab_gl_si, cs_n, ↓reduceIte, true_or, or_true, false_or, or_false, and_true, true_and, and_false, false_and, not_true_eq_false, not_false_eq_true, eq_self, Int.reduceEq, Int.reduceLT, Int.reduceLE, Int.reduceAdd, Int.reduceMul, Int.reduceNeg, if_pos, if_neg, List.getD_cons_zero, List.getD_cons_succ, Int.sub_zero, Int.reduceToNat, Int.reduceSub, s18, eBS, mb]
  · obtain ⟨h', a, d⟩ := m71_r (B := B) (dd := dd) (x1 := x1) (x2 := x2) (x3 := x3) v rb.1 rb.2
    refine ⟨h', ?_, d⟩
    rw [← a]
    subst c; simp (disch := omega) only [e71_0, e71_1, e71_3, e71_4, e71_7, e71_9, e71_10, Option.isSome_some, ab_bvh_some, ab_bvh_thr, ab_ge, ab_lt, ab_le, ab_gt, ab_eq, ab_ne, decide_eq_true_eq, ab_w_id, ab_w0, ab_gd_some, ab_gs_0, ab_gs_1, ab_gl_0, ab_gl_1, ab_bv_some, ab_bu_some, ab_bv_thr, ab_bu_thr, ab_fx_n, ab_fx_i, ab_fx_q, ab_fx_l, ab_sh_si, ab_gr_si, ab_gl_si, cs_n, ↓reduceIte, true_or, or_true, false_or, or_false, and_true, true_and, and_false, false_and, not_true_eq_false, not_false_eq_true, eq_self, Int.reduceEq, Int.reduceLT, Int.reduceLE, Int.reduceAdd, Int.reduceMul, Int.reduceNeg, if_pos, if_neg, List.getD_cons_zero, List.getD_cons_succ, Int.sub_zero, Int.reduceToNat, Int.reduceSub, s18, eBS, mb]
  · obtain ⟨h', a, d⟩ := m71_f (B := B) (dd := dd) (x1 := x1) (x2 := x2) (x3 := x3) v rb.1 rb.2
    refine ⟨h', ?_, d⟩
    rw [← a]
    subst c; simp (disch := omega) only [e71_0, e71_1, e71_3, e71_4, e71_7, e71_9, e71_10, Option.isSome_some, ab_bvh_some, ab_bvh_thr, ab_ge, ab_lt, ab_le, ab_gt, ab_eq, ab_ne, decide_eq_true_eq, ab_w_id, ab_w0, ab_gd_some, ab_gs_0, ab_gs_1, ab_gl_0, ab_gl_1, ab_bv_some, ab_bu_some, ab_bv_thr, ab_bu_thr, ab_fx_n, ab_fx_i, ab_fx_q, ab_fx_l, ab_sh_si, ab_gr_si, ab_gl_si, cs_n, ↓reduceIte, true_or, or_true, false_or, or_false, and_true, true_and, and_false, false_and, not_true_eq_false, not_false_eq_true, eq_self, Int.reduceEq, Int.reduceLT, Int.reduceLE, Int.reduceAdd, Int.reduceMul, Int.reduceNeg, if_pos, if_neg, List.getD_cons_zero, List.getD_cons_succ, Int.sub_zero, Int.reduceToNat, Int.reduceSub, s18, eBS, mb]
  · obtain ⟨h', a, d⟩ := m71_l (B := B) (dd := dd) (x1 := x1) (x2 := x2) (x3 := x3) v rb.1 rb.2
    refine ⟨h', ?_, d⟩
    rw [← a]
    subst c; simp (disch := omega) only [e71_0, e71_1, e71_3, e71_4, e71_7, e71_9, e71_10, Option.isSome_some, ab_bvh_some, ab_bvh_thr, ab_ge, ab_lt, ab_le, ab_gt, ab_eq, ab_ne, decide_eq_true_eq, ab_w_id, ab_w0, ab_gd_some, ab_gs_0, ab_gs_1, ab_gl_0, ab_gl_1, ab_bv_some, ab_bu_some, ab_bv_thr, ab_bu_thr, ab_fx_n, ab_fx_i, ab_fx_q, ab_fx_l, ab_sh_si, ab_gr_si, ab_gl_si, cs_n, ↓reduceIte, true_or, or_true, false_or, or_false, and_true, true_and, and_false, false_and, not_true_eq_false, not_false_eq_true, eq_self, Int.reduceEq, Int.reduceLT, Int.reduceLE, Int.reduceAdd, Int.reduceMul, Int.reduceNeg, if_pos, if_neg, List.getD_cons_zero, List.getD_cons_succ, Int.sub_zero, Int.reduceToNat, Int.reduceSub, s18, eBS, mb]
  · obtain ⟨h', a, d⟩ := m71_s (B := B) (dd := dd) (x1 := x1) (x2 := x2) (x3 := x3) v rb.1 rb.2
    refine ⟨h', ?_, d⟩
    rw [← a]
    subst c; simp (disch := omega) only [e71_0, e71_1, e71_3, e71_4, e71_7, e71_9, e71_10, Option.isSome_some, ab_bvh_some, ab_bvh_thr, ab_ge, ab_lt, ab_le, ab_gt, ab_eq, ab_ne, decide_eq_true_eq, ab_w_id, ab_w0, ab_gd_some, ab_gs_0, ab_gs_1, ab_gl_0, ab_gl_1, ab_bv_some, ab_bu_some, ab_bv_thr, ab_bu_thr, ab_fx_n, ab_fx_i, ab_fx_q, ab_fx_l, ab_sh_si, ab_gr_si, ab_gl_si, cs_n, ↓reduceIte, true_or, or_true, false_or, or_false, and_true, true_and, and_false, false_and, not_true_eq_false, not_false_eq_true, eq_self, Int.reduceEq, Int.reduceLT, Int.reduceLE, Int.reduceAdd, Int.reduceMul, Int.reduceNeg, if_pos, if_neg, List.getD_cons_zero, List.getD_cons_succ, Int.sub_zero, Int.reduceToNat, Int.reduceSub, s18, eBS, mb]
  · obtain ⟨h', a, d⟩ := m71_b (B := B) (dd := dd) (x1 := x1) (x2 := x2) (x3 := x3) v rb.1 rb.2
    refine ⟨h', ?_, d⟩
    rw [← a]
    subst c; simp (disch := omega) only [e71_0, e71_1, e71_3, e71_4, e71_7, e71_9, e71_10, Option.isSome_some, ab_bvh_some, ab_bvh_thr, ab_ge, ab_lt, ab_le, ab_gt, ab_eq, ab_ne, decide_eq_true_eq, ab_w_id, ab_w0, ab_gd_some, ab_gs_0, ab_gs_1, ab_gl_0, ab_gl_1, ab_bv_some, ab_bu_some, ab_bv_thr, ab_bu_thr, ab_fx_n, ab_fx_i, ab_fx_q, ab_fx_l, ab_sh_si, ab_gr_si, ab_gl_si, cs_n, ↓reduceIte, true_or, or_true, false_or, or_false, and_true, true_and, and_false, false_and, not_true_eq_false, not_false_eq_true, eq_self, Int.reduceEq, Int.reduceLT, Int.reduceLE, Int.reduceAdd, Int.reduceMul, Int.reduceNeg, if_pos, if_neg, List.getD_cons_zero, List.getD_cons_succ, Int.sub_zero, Int.reduceToNat, Int.reduceSub, s18, eBS, mb]
  · obtain ⟨h', a, d⟩ := m71_g (B := B) (dd := dd) (x1 := x1) (x2 := x2) (x3 := x3) (bl := cs_bel x3 ((D - 1) * S)) v
    refine ⟨h', ?_, d⟩
    rw [← a]
    subst c; simp (disch := omega) only [e71_0, e71_1, e71_3, e71_4, e71_7, e71_9, e71_10, Option.isSome_some, ab_bvh_some, ab_bvh_thr, ab_ge, ab_lt, ab_le, ab_gt, ab_eq, ab_ne, decide_eq_true_eq, ab_w_id, ab_w0, ab_gd_some, ab_gs_0, ab_gs_1, ab_gl_0, ab_gl_1, ab_bv_some, ab_bu_some, ab_bv_thr, ab_bu_thr, ab_fx_n, ab_fx_i, ab_fx_q, ab_fx_l, ab_sh_si, ab_gr_si, ab_gl_si, cs_n, ↓reduceIte, true_or, or_true, false_or, or_false, and_true, true_and, and_false, false_and, not_true_eq_false, not_false_eq_true, eq_self, Int.reduceEq, Int.reduceLT, Int.reduceLE, Int.reduceAdd, Int.reduceMul, Int.reduceNeg, if_pos, if_neg, List.getD_cons_zero, List.getD_cons_succ, Int.sub_zero, Int.reduceToNat, Int.reduceSub, s18, eBS, mb]
  · obtain ⟨h', a, d⟩ := m71_p (B := B) (dd := dd) (x1 := x1) (x2 := x2) (x3 := x3) v rb.1 rb.2
    refine ⟨h', ?_, d⟩
    rw [← a]
    subst c; simp (disch := omega) only [e71_0, e71_1, e71_3, e71_4, e71_7, e71_9, e71_10, Option.isSome_some, ab_bvh_some, ab_bvh_thr, ab_ge, ab_lt, ab_le, ab_gt, ab_eq, ab_ne, decide_eq_true_eq, ab_w_id, ab_w0, ab_gd_some, ab_gs_0, ab_gs_1, ab_gl_0, ab_gl_1, ab_bv_some, ab_bu_some, ab_bv_thr, ab_bu_thr, ab_fx_n, ab_fx_i, ab_fx_q, ab_fx_l, ab_sh_si, ab_gr_si, ab_gl_si, cs_n, ↓reduceIte, true_or, or_true, false_or, or_false, and_true, true_and, and_false, false_and, not_true_eq_false, not_false_eq_true, eq_self, Int.reduceEq, Int.reduceLT, Int.reduceLE, Int.reduceAdd, Int.reduceMul, Int.reduceNeg, if_pos, if_neg, List.getD_cons_zero, List.getD_cons_succ, Int.sub_zero, Int.reduceToNat, Int.reduceSub, s18, eBS, mb]
  · obtain ⟨h', a, d⟩ := m71_p (B := B) (dd := dd) (x1 := x1) (x2 := x2) (x3 := x3) v rb.1 rb.2
    refine ⟨h', ?_, d⟩
    rw [← a]
    subst c; simp (disch := omega) only [e71_0, e71_1, e71_3, e71_4, e71_7, e71_9, e71_10, Option.isSome_some, ab_bvh_some, ab_bvh_thr, ab_ge, ab_lt, ab_le, ab_gt, ab_eq, ab_ne, decide_eq_true_eq, ab_w_id, ab_w0, ab_gd_some, ab_gs_0, ab_gs_1, ab_gl_0, ab_gl_1, ab_bv_some, ab_bu_some, ab_bv_thr, ab_bu_thr, ab_fx_n, ab_fx_i, ab_fx_q, ab_fx_l, ab_sh_si, ab_gr_si, ab_gl_si, cs_n, ↓reduceIte, true_or, or_true, false_or, or_false, and_true, true_and, and_false, false_and, not_true_eq_false, not_false_eq_true, eq_self, Int.reduceEq, Int.reduceLT, Int.reduceLE, Int.reduceAdd, Int.reduceMul, Int.reduceNeg, if_pos, if_neg, List.getD_cons_zero, List.getD_cons_succ, Int.sub_zero, Int.reduceToNat, Int.reduceSub, s18, eBS, mb]
end
