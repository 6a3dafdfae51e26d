set_option linter.all false
/-! THE LAW: ONE CALL AT A TIME -/
section
variable {B : ab_B}
theorem ab_rl (z : Int32) : -2147483648 ≤ z.toInt := z.le_toInt
theorem ab_rh (z : Int32) : z.toInt < 2147483648 := z.toInt_lt
theorem ab_cmp_self (a : Int64) : ab_cmp a a = 0 := by unfold ab_cmp; rw [if_neg (Int64.lt_irrefl), if_pos rfl]
/-- a call by call of the script: from its case to its end -/
def lw_s (B : ab_B) (d pc : Nat) (x : Int) (h : ab_H) : Prop := ∀ o5 o6 : Option ab_V, ∃ (h' : ab_H) (b' : Nat) (p5 p6 : Option ab_V), ab_E B d 186 pc [some (.inr (.inr (.inr 0))), some (.inr (.inr (.inl (some 0)))), some (.inr (.inr (.inl (some 18)))), some (.inr (.inr (.inl (some 30)))), some (.inl x), o5, o6] [] h = ab_E B d 186 1016 [some (.inr (.inr (.inr 0))), some (.inr (.inr (.inl (some 0)))), some (.inr (.inr (.inl (some 18)))), some (.inr (.inr (.inl (some 30)))), some (.inl x), p5, p6] [] h' ∧ li h' b' ∧ ab_kc h' ≤ ab_kc h + 760 ∧ ab_ks h' ≤ ab_ks h + 4000
theorem lw_0 {dd : Nat} {x : Int} {h : ab_H} {b : Nat} (L : li h b) (x0 : 0 ≤ x) (x1 : x + 5 ≤ (B.2.1 : Int)) (hB : B.2.1 ≤ 2560) : lw_s B (dd + 18) 160 x h := by
  intro o5 o6
  have hL := L.1.1.1
  obtain ⟨k, h1, v, h2, b2, a, r, L2, ek, k12, hv, s18, kc, ks, hb⟩ := op_shelf (B := B) (dd := dd) (p := (B.2.2.1 (x + 1).toNat).toInt) (q := (B.2.2.1 (x + 2).toNat).toInt) L (ab_rl _) (ab_rh _) (ab_rl _) (ab_rh _)
  refine ⟨h2, b2, some (.inl k), some (.inl v), ?_, L2, kc, ks⟩
  simp (disch := omega) only [e186_160, e186_161, e186_162, e186_164, e186_165, e186_166, e186_167, e186_168, e186_170, e186_171, e186_172, e186_173, e186_174, e186_177, e186_179, e186_180, e186_181, e186_183, e186_184, e186_185, e186_186, e186_187, e186_189, e186_190, e186_191, e186_192, e186_195, e186_197, implies_true, Int.reduceSub, Option.isNone_some, Option.isNone_none, ab_bh_some, ab_bh_thr, ab_gs_3, ab_gl_2, ab_gl_3, ab_gt_some, ab_gc_0, ab_gk_0, Bool.false_eq_true, Bool.true_eq_false, false_implies, Nat.reduceEqDiff, ab_ge, ab_lt, ab_le, ab_gt, ab_eq, ab_ne, decide_eq_true_eq, ab_w_id, ab_w0, ab_gd_some, ab_gs_0, ab_gs_1, ab_gl_0, ab_gl_1, ab_bv_some, ab_bu_some, ab_bv_thr, ab_bu_thr, ab_fx_n, ab_fx_i, ab_fx_q, ab_fx_l, ab_sh_si, ab_gr_si, ab_gl_si, cs_n, ↓reduceIte, true_or, or_true, false_or, or_false, and_true, true_and, and_false, false_and, not_true_eq_false, not_false_eq_true, eq_self, Int.reduceEq, Int.reduceLT, Int.reduceLE, Int.reduceAdd, Int.reduceMul, Int.reduceNeg, if_pos, if_neg, hL.1, a, r, s18]
theorem lw_1 {dd : Nat} {x : Int} {h : ab_H} {b : Nat} (L : li h b) (x0 : 0 ≤ x) (x1 : x + 5 ≤ (B.2.1 : Int)) (hB : B.2.1 ≤ 2560) : lw_s B (dd + 18) 200 x h := by
  intro o5 o6
  have hL := L.1.1.1
  obtain ⟨k, h1, v, h2, b2, a, r, L2, ek, k12, hv, s18, kc, ks, hb⟩ := op_write (B := B) (dd := dd) (p := (B.2.2.1 (x + 1).toNat).toInt) (q := (B.2.2.1 (x + 2).toNat).toInt) (t := (B.2.2.1 (x + 3).toNat).toInt) L (ab_rl _) (ab_rh _) (ab_rl _) (ab_rh _) (ab_rl _) (ab_rh _)
  refine ⟨h2, b2, some (.inl k), some (.inl v), ?_, L2, kc, ks⟩
  simp (disch := omega) only [e186_200, e186_201, e186_202, e186_204, e186_205, e186_206, e186_207, e186_208, e186_210, e186_211, e186_212, e186_213, e186_214, e186_216, e186_217, e186_218, e186_219, e186_220, e186_223, e186_225, e186_226, e186_227, e186_229, e186_230, e186_231, e186_232, e186_233, e186_235, e186_236, e186_237, e186_238, e186_239, e186_241, e186_242, e186_243, e186_244, e186_247, e186_249, implies_true, Int.reduceSub, Option.isNone_some, Option.isNone_none, ab_bh_some, ab_bh_thr, ab_gs_3, ab_gl_2, ab_gl_3, ab_gt_some, ab_gc_0, ab_gk_0, Bool.false_eq_true, Bool.true_eq_false, false_implies, Nat.reduceEqDiff, ab_ge, ab_lt, ab_le, ab_gt, ab_eq, ab_ne, decide_eq_true_eq, ab_w_id, ab_w0, ab_gd_some, ab_gs_0, ab_gs_1, ab_gl_0, ab_gl_1, ab_bv_some, ab_bu_some, ab_bv_thr, ab_bu_thr, ab_fx_n, ab_fx_i, ab_fx_q, ab_fx_l, ab_sh_si, ab_gr_si, ab_gl_si, cs_n, ↓reduceIte, true_or, or_true, false_or, or_false, and_true, true_and, and_false, false_and, not_true_eq_false, not_false_eq_true, eq_self, Int.reduceEq, Int.reduceLT, Int.reduceLE, Int.reduceAdd, Int.reduceMul, Int.reduceNeg, if_pos, if_neg, hL.1, a, r, s18]
theorem lw_2 {dd : Nat} {x : Int} {h : ab_H} {b : Nat} (L : li h b) (x0 : 0 ≤ x) (x1 : x + 5 ≤ (B.2.1 : Int)) (hB : B.2.1 ≤ 2560) : lw_s B (dd + 18) 252 x h := by
  intro o5 o6
  have hL := L.1.1.1
  obtain ⟨k, h1, v, h2, b2, a, r, L2, ek, k12, hv, s18, kc, ks, hb⟩ := op_read (B := B) (dd := dd) (p := (B.2.2.1 (x + 1).toNat).toInt) L (ab_rl _) (ab_rh _)
  refine ⟨h2, b2, some (.inl k), some (.inl v), ?_, L2, kc, ks⟩
  simp (disch := omega) only [e186_252, e186_253, e186_254, e186_256, e186_257, e186_258, e186_259, e186_260, e186_263, e186_265, e186_266, e186_267, e186_269, e186_270, e186_271, e186_272, e186_275, e186_277, implies_true, Int.reduceSub, Option.isNone_some, Option.isNone_none, ab_bh_some, ab_bh_thr, ab_gs_3, ab_gl_2, ab_gl_3, ab_gt_some, ab_gc_0, ab_gk_0, Bool.false_eq_true, Bool.true_eq_false, false_implies, Nat.reduceEqDiff, ab_ge, ab_lt, ab_le, ab_gt, ab_eq, ab_ne, decide_eq_true_eq, ab_w_id, ab_w0, ab_gd_some, ab_gs_0, ab_gs_1, ab_gl_0, ab_gl_1, ab_bv_some, ab_bu_some, ab_bv_thr, ab_bu_thr, ab_fx_n, ab_fx_i, ab_fx_q, ab_fx_l, ab_sh_si, ab_gr_si, ab_gl_si, cs_n, ↓reduceIte, true_or, or_true, false_or, or_false, and_true, true_and, and_false, false_and, not_true_eq_false, not_false_eq_true, eq_self, Int.reduceEq, Int.reduceLT, Int.reduceLE, Int.reduceAdd, Int.reduceMul, Int.reduceNeg, if_pos, if_neg, hL.1, a, r, s18]
theorem lw_3 {dd : Nat} {x : Int} {h : ab_H} {b : Nat} (L : li h b) (x0 : 0 ≤ x) (x1 : x + 5 ≤ (B.2.1 : Int)) (hB : B.2.1 ≤ 2560) : lw_s B (dd + 18) 280 x h := by
  intro o5 o6
  have hL := L.1.1.1
  obtain ⟨k, h1, v, h2, b2, a, r, L2, ek, k12, hv, s18, kc, ks, hb⟩ := op_fail (B := B) (dd := dd) (p := (B.2.2.1 (x + 1).toNat).toInt) L (ab_rl _) (ab_rh _)
  refine ⟨h2, b2, some (.inl k), some (.inl v), ?_, L2, kc, ks⟩
  simp (disch := omega) only [e186_280, e186_281, e186_282, e186_284, e186_285, e186_286, e186_287, e186_288, e186_291, e186_293, e186_294, e186_295, e186_297, e186_298, e186_299, e186_300, e186_303, e186_305, implies_true, Int.reduceSub, Option.isNone_some, Option.isNone_none, ab_bh_some, ab_bh_thr, ab_gs_3, ab_gl_2, ab_gl_3, ab_gt_some, ab_gc_0, ab_gk_0, Bool.false_eq_true, Bool.true_eq_false, false_implies, Nat.reduceEqDiff, ab_ge, ab_lt, ab_le, ab_gt, ab_eq, ab_ne, decide_eq_true_eq, ab_w_id, ab_w0, ab_gd_some, ab_gs_0, ab_gs_1, ab_gl_0, ab_gl_1, ab_bv_some, ab_bu_some, ab_bv_thr, ab_bu_thr, ab_fx_n, ab_fx_i, ab_fx_q, ab_fx_l, ab_sh_si, ab_gr_si, ab_gl_si, cs_n, ↓reduceIte, true_or, or_true, false_or, or_false, and_true, true_and, and_false, false_and, not_true_eq_false, not_false_eq_true, eq_self, Int.reduceEq, Int.reduceLT, Int.reduceLE, Int.reduceAdd, Int.reduceMul, Int.reduceNeg, if_pos, if_neg, hL.1, a, r, s18]
theorem lw_4 {dd : Nat} {x : Int} {h : ab_H} {b : Nat} (L : li h b) (x0 : 0 ≤ x) (x1 : x + 5 ≤ (B.2.1 : Int)) (hB : B.2.1 ≤ 2560) : lw_s B (dd + 18) 308 x h := by
  intro o5 o6
  have hL := L.1.1.1
  obtain ⟨k, h1, v, h2, b2, a, r, L2, ek, k12, hv, s18, kc, ks, hb⟩ := op_swap (B := B) (dd := dd) (p := (B.2.2.1 (x + 1).toNat).toInt) L (ab_rl _) (ab_rh _)
  refine ⟨h2, b2, some (.inl k), some (.inl v), ?_, L2, kc, ks⟩
  simp (disch := omega) only [e186_308, e186_309, e186_310, e186_312, e186_313, e186_314, e186_315, e186_316, e186_319, e186_321, e186_322, e186_323, e186_325, e186_326, e186_327, e186_328, e186_331, e186_333, implies_true, Int.reduceSub, Option.isNone_some, Option.isNone_none, ab_bh_some, ab_bh_thr, ab_gs_3, ab_gl_2, ab_gl_3, ab_gt_some, ab_gc_0, ab_gk_0, Bool.false_eq_true, Bool.true_eq_false, false_implies, Nat.reduceEqDiff, ab_ge, ab_lt, ab_le, ab_gt, ab_eq, ab_ne, decide_eq_true_eq, ab_w_id, ab_w0, ab_gd_some, ab_gs_0, ab_gs_1, ab_gl_0, ab_gl_1, ab_bv_some, ab_bu_some, ab_bv_thr, ab_bu_thr, ab_fx_n, ab_fx_i, ab_fx_q, ab_fx_l, ab_sh_si, ab_gr_si, ab_gl_si, cs_n, ↓reduceIte, true_or, or_true, false_or, or_false, and_true, true_and, and_false, false_and, not_true_eq_false, not_false_eq_true, eq_self, Int.reduceEq, Int.reduceLT, Int.reduceLE, Int.reduceAdd, Int.reduceMul, Int.reduceNeg, if_pos, if_neg, hL.1, a, r, s18]
theorem lw_5 {dd : Nat} {x : Int} {h : ab_H} {b : Nat} (L : li h b) (x0 : 0 ≤ x) (x1 : x + 5 ≤ (B.2.1 : Int)) (hB : B.2.1 ≤ 2560) : lw_s B (dd + 18) 336 x h := by
  intro o5 o6
  have hL := L.1.1.1
  obtain ⟨k, h1, v, h2, b2, a, r, L2, ek, k12, hv, s18, kc, ks, hb⟩ := op_flip (B := B) (dd := dd) (p := (B.2.2.1 (x + 1).toNat).toInt) (q := (B.2.2.1 (x + 2).toNat).toInt) (t := (B.2.2.1 (x + 3).toNat).toInt) L (ab_rl _) (ab_rh _) (ab_rl _) (ab_rh _) (ab_rl _) (ab_rh _)
  refine ⟨h2, b2, some (.inl k), some (.inl v), ?_, L2, kc, ks⟩
  simp (disch := omega) only [e186_336, e186_337, e186_338, e186_340, e186_341, e186_342, e186_343, e186_344, e186_346, e186_347, e186_348, e186_349, e186_350, e186_352, e186_353, e186_354, e186_355, e186_356, e186_359, e186_361, e186_362, e186_363, e186_365, e186_366, e186_367, e186_368, e186_369, e186_371, e186_372, e186_373, e186_374, e186_375, e186_377, e186_378, e186_379, e186_380, e186_383, e186_385, implies_true, Int.reduceSub, Option.isNone_some, Option.isNone_none, ab_bh_some, ab_bh_thr, ab_gs_3, ab_gl_2, ab_gl_3, ab_gt_some, ab_gc_0, ab_gk_0, Bool.false_eq_true, Bool.true_eq_false, false_implies, Nat.reduceEqDiff, ab_ge, ab_lt, ab_le, ab_gt, ab_eq, ab_ne, decide_eq_true_eq, ab_w_id, ab_w0, ab_gd_some, ab_gs_0, ab_gs_1, ab_gl_0, ab_gl_1, ab_bv_some, ab_bu_some, ab_bv_thr, ab_bu_thr, ab_fx_n, ab_fx_i, ab_fx_q, ab_fx_l, ab_sh_si, ab_gr_si, ab_gl_si, cs_n, ↓reduceIte, true_or, or_true, false_or, or_false, and_true, true_and, and_false, false_and, not_true_eq_false, not_false_eq_true, eq_self, Int.reduceEq, Int.reduceLT, Int.reduceLE, Int.reduceAdd, Int.reduceMul, Int.reduceNeg, if_pos, if_neg, hL.1, a, r, s18]
theorem lw_6 {dd : Nat} {x : Int} {h : ab_H} {b : Nat} (L : li h b) (x0 : 0 ≤ x) (x1 : x + 5 ≤ (B.2.1 : Int)) (hB : B.2.1 ≤ 2560) : lw_s B (dd + 18) 388 x h := by
  intro o5 o6
  have hL := L.1.1.1
  obtain ⟨k, h1, v, h2, b2, a, r, L2, ek, k12, hv, s18, kc, ks, hb⟩ := op_rebuild (B := B) (dd := dd) (p := (B.2.2.1 (x + 1).toNat).toInt) L (ab_rl _) (ab_rh _)
  refine ⟨h2, b2, some (.inl k), some (.inl v), ?_, L2, kc, ks⟩
  simp (disch := omega) only [e186_388, e186_389, e186_390, e186_392, e186_393, e186_394, e186_395, e186_396, e186_399, e186_401, e186_402, e186_403, e186_405, e186_406, e186_407, e186_408, e186_411, e186_413, implies_true, Int.reduceSub, Option.isNone_some, Option.isNone_none, ab_bh_some, ab_bh_thr, ab_gs_3, ab_gl_2, ab_gl_3, ab_gt_some, ab_gc_0, ab_gk_0, Bool.false_eq_true, Bool.true_eq_false, false_implies, Nat.reduceEqDiff, ab_ge, ab_lt, ab_le, ab_gt, ab_eq, ab_ne, decide_eq_true_eq, ab_w_id, ab_w0, ab_gd_some, ab_gs_0, ab_gs_1, ab_gl_0, ab_gl_1, ab_bv_some, ab_bu_some, ab_bv_thr, ab_bu_thr, ab_fx_n, ab_fx_i, ab_fx_q, ab_fx_l, ab_sh_si, ab_gr_si, ab_gl_si, cs_n, ↓reduceIte, true_or, or_true, false_or, or_false, and_true, true_and, and_false, false_and, not_true_eq_false, not_false_eq_true, eq_self, Int.reduceEq, Int.reduceLT, Int.reduceLE, Int.reduceAdd, Int.reduceMul, Int.reduceNeg, if_pos, if_neg, hL.1, a, r, s18]
theorem lw_7 {dd : Nat} {x : Int} {h : ab_H} {b : Nat} (L : li h b) (x0 : 0 ≤ x) (x1 : x + 5 ≤ (B.2.1 : Int)) (hB : B.2.1 ≤ 2560) : lw_s B (dd + 18) 416 x h := by
  intro o5 o6
  have hL := L.1.1.1
  obtain ⟨k, h1, v, h2, b2, a, r, L2, ek, k12, hv, s18, kc, ks, hb⟩ := op_patrol (B := B) (dd := dd) (p := (B.2.2.1 (x + 1).toNat).toInt) L (ab_rl _) (ab_rh _)
  refine ⟨h2, b2, some (.inl k), some (.inl v), ?_, L2, kc, ks⟩
  simp (disch := omega) only [e186_416, e186_417, e186_418, e186_420, e186_421, e186_422, e186_423, e186_424, e186_427, e186_429, e186_430, e186_431, e186_433, e186_434, e186_435, e186_436, e186_439, e186_441, implies_true, Int.reduceSub, Option.isNone_some, Option.isNone_none, ab_bh_some, ab_bh_thr, ab_gs_3, ab_gl_2, ab_gl_3, ab_gt_some, ab_gc_0, ab_gk_0, Bool.false_eq_true, Bool.true_eq_false, false_implies, Nat.reduceEqDiff, ab_ge, ab_lt, ab_le, ab_gt, ab_eq, ab_ne, decide_eq_true_eq, ab_w_id, ab_w0, ab_gd_some, ab_gs_0, ab_gs_1, ab_gl_0, ab_gl_1, ab_bv_some, ab_bu_some, ab_bv_thr, ab_bu_thr, ab_fx_n, ab_fx_i, ab_fx_q, ab_fx_l, ab_sh_si, ab_gr_si, ab_gl_si, cs_n, ↓reduceIte, true_or, or_true, false_or, or_false, and_true, true_and, and_false, false_and, not_true_eq_false, not_false_eq_true, eq_self, Int.reduceEq, Int.reduceLT, Int.reduceLE, Int.reduceAdd, Int.reduceMul, Int.reduceNeg, if_pos, if_neg, hL.1, a, r, s18]
theorem lw_8 {dd : Nat} {x : Int} {h : ab_H} {b : Nat} (L : li h b) (x0 : 0 ≤ x) (x1 : x + 5 ≤ (B.2.1 : Int)) (hB : B.2.1 ≤ 2560) : lw_s B (dd + 18) 444 x h := by
  intro o5 o6
  have hL := L.1.1.1
  obtain ⟨k, h1, v, h2, b2, a, r, L2, ek, k12, hv, s18, kc, ks, hb⟩ := op_giveUp (B := B) (dd := dd) (p := (B.2.2.1 (x + 1).toNat).toInt) L (ab_rl _) (ab_rh _)
  refine ⟨h2, b2, some (.inl k), some (.inl v), ?_, L2, kc, ks⟩
  simp (disch := omega) only [e186_444, e186_445, e186_446, e186_448, e186_449, e186_450, e186_451, e186_452, e186_455, e186_457, e186_458, e186_459, e186_461, e186_462, e186_463, e186_464, e186_467, e186_469, implies_true, Int.reduceSub, Option.isNone_some, Option.isNone_none, ab_bh_some, ab_bh_thr, ab_gs_3, ab_gl_2, ab_gl_3, ab_gt_some, ab_gc_0, ab_gk_0, Bool.false_eq_true, Bool.true_eq_false, false_implies, Nat.reduceEqDiff, ab_ge, ab_lt, ab_le, ab_gt, ab_eq, ab_ne, decide_eq_true_eq, ab_w_id, ab_w0, ab_gd_some, ab_gs_0, ab_gs_1, ab_gl_0, ab_gl_1, ab_bv_some, ab_bu_some, ab_bv_thr, ab_bu_thr, ab_fx_n, ab_fx_i, ab_fx_q, ab_fx_l, ab_sh_si, ab_gr_si, ab_gl_si, cs_n, ↓reduceIte, true_or, or_true, false_or, or_false, and_true, true_and, and_false, false_and, not_true_eq_false, not_false_eq_true, eq_self, Int.reduceEq, Int.reduceLT, Int.reduceLE, Int.reduceAdd, Int.reduceMul, Int.reduceNeg, if_pos, if_neg, hL.1, a, r, s18]
theorem lw_9 {dd : Nat} {x : Int} {h : ab_H} {b : Nat} (L : li h b) (x0 : 0 ≤ x) (x1 : x + 5 ≤ (B.2.1 : Int)) (hB : B.2.1 ≤ 2560) : lw_s B (dd + 18) 472 x h := by
  intro o5 o6
  have hL := L.1.1.1
  obtain ⟨k, h1, v, h2, b2, a, r, L2, ek, k12, hv, s18, kc, ks, hb⟩ := op_kind (B := B) (dd := dd) (p := (B.2.2.1 (x + 1).toNat).toInt) (q := (B.2.2.1 (x + 2).toNat).toInt) (t := (B.2.2.1 (x + 3).toNat).toInt) (u := (B.2.2.1 (x + 4).toNat).toInt) L (ab_rl _) (ab_rh _) (ab_rl _) (ab_rh _) (ab_rl _) (ab_rh _) (ab_rl _) (ab_rh _)
  refine ⟨h2, b2, some (.inl k), some (.inl v), ?_, L2, kc, ks⟩
  simp (disch := omega) only [e186_472, e186_473, e186_474, e186_476, e186_477, e186_478, e186_479, e186_480, e186_482, e186_483, e186_484, e186_485, e186_486, e186_488, e186_489, e186_490, e186_491, e186_492, e186_494, e186_495, e186_496, e186_497, e186_498, e186_501, e186_503, e186_504, e186_505, e186_507, e186_508, e186_509, e186_510, e186_511, e186_513, e186_514, e186_515, e186_516, e186_517, e186_519, e186_520, e186_521, e186_522, e186_523, e186_525, e186_526, e186_527, e186_528, e186_531, e186_533, implies_true, Int.reduceSub, Option.isNone_some, Option.isNone_none, ab_bh_some, ab_bh_thr, ab_gs_3, ab_gl_2, ab_gl_3, ab_gt_some, ab_gc_0, ab_gk_0, Bool.false_eq_true, Bool.true_eq_false, false_implies, Nat.reduceEqDiff, ab_ge, ab_lt, ab_le, ab_gt, ab_eq, ab_ne, decide_eq_true_eq, ab_w_id, ab_w0, ab_gd_some, ab_gs_0, ab_gs_1, ab_gl_0, ab_gl_1, ab_bv_some, ab_bu_some, ab_bv_thr, ab_bu_thr, ab_fx_n, ab_fx_i, ab_fx_q, ab_fx_l, ab_sh_si, ab_gr_si, ab_gl_si, cs_n, ↓reduceIte, true_or, or_true, false_or, or_false, and_true, true_and, and_false, false_and, not_true_eq_false, not_false_eq_true, eq_self, Int.reduceEq, Int.reduceLT, Int.reduceLE, Int.reduceAdd, Int.reduceMul, Int.reduceNeg, if_pos, if_neg, hL.1, a, r, s18]
theorem lw_10 {dd : Nat} {x : Int} {h : ab_H} {b : Nat} (L : li h b) (x0 : 0 ≤ x) (x1 : x + 5 ≤ (B.2.1 : Int)) (hB : B.2.1 ≤ 2560) : lw_s B (dd + 18) 536 x h := by
  intro o5 o6
  have hL := L.1.1.1
  obtain ⟨k, h1, v, h2, b2, a, r, L2, ek, k12, hv, s18, kc, ks, hb⟩ := op_fuse (B := B) (dd := dd) (p := (B.2.2.1 (x + 1).toNat).toInt) (q := (B.2.2.1 (x + 2).toNat).toInt) L (ab_rl _) (ab_rh _) (ab_rl _) (ab_rh _)
  refine ⟨h2, b2, some (.inl k), some (.inl v), ?_, L2, kc, ks⟩
  simp (disch := omega) only [e186_536, e186_537, e186_538, e186_540, e186_541, e186_542, e186_543, e186_544, e186_546, e186_547, e186_548, e186_549, e186_550, e186_553, e186_555, e186_556, e186_557, e186_559, e186_560, e186_561, e186_562, e186_563, e186_565, e186_566, e186_567, e186_568, e186_571, e186_573, implies_true, Int.reduceSub, Option.isNone_some, Option.isNone_none, ab_bh_some, ab_bh_thr, ab_gs_3, ab_gl_2, ab_gl_3, ab_gt_some, ab_gc_0, ab_gk_0, Bool.false_eq_true, Bool.true_eq_false, false_implies, Nat.reduceEqDiff, ab_ge, ab_lt, ab_le, ab_gt, ab_eq, ab_ne, decide_eq_true_eq, ab_w_id, ab_w0, ab_gd_some, ab_gs_0, ab_gs_1, ab_gl_0, ab_gl_1, ab_bv_some, ab_bu_some, ab_bv_thr, ab_bu_thr, ab_fx_n, ab_fx_i, ab_fx_q, ab_fx_l, ab_sh_si, ab_gr_si, ab_gl_si, cs_n, ↓reduceIte, true_or, or_true, false_or, or_false, and_true, true_and, and_false, false_and, not_true_eq_false, not_false_eq_true, eq_self, Int.reduceEq, Int.reduceLT, Int.reduceLE, Int.reduceAdd, Int.reduceMul, Int.reduceNeg, if_pos, if_neg, hL.1, a, r, s18]
theorem lw_11 {dd : Nat} {x : Int} {h : ab_H} {b : Nat} (L : li h b) (x0 : 0 ≤ x) (x1 : x + 5 ≤ (B.2.1 : Int)) (hB : B.2.1 ≤ 2560) : lw_s B (dd + 18) 576 x h := by
  intro o5 o6
  have hL := L.1.1.1
  obtain ⟨k, h1, v, h2, b2, a, r, L2, ek, k12, hv, s18, kc, ks, hb⟩ := op_off (B := B) (dd := dd) L
  refine ⟨h2, b2, some (.inl k), some (.inl v), ?_, L2, kc, ks⟩
  simp (disch := omega) only [e186_576, e186_577, e186_578, e186_581, e186_583, e186_584, e186_587, e186_589, implies_true, Int.reduceSub, Option.isNone_some, Option.isNone_none, ab_bh_some, ab_bh_thr, ab_gs_3, ab_gl_2, ab_gl_3, ab_gt_some, ab_gc_0, ab_gk_0, Bool.false_eq_true, Bool.true_eq_false, false_implies, Nat.reduceEqDiff, ab_ge, ab_lt, ab_le, ab_gt, ab_eq, ab_ne, decide_eq_true_eq, ab_w_id, ab_w0, ab_gd_some, ab_gs_0, ab_gs_1, ab_gl_0, ab_gl_1, ab_bv_some, ab_bu_some, ab_bv_thr, ab_bu_thr, ab_fx_n, ab_fx_i, ab_fx_q, ab_fx_l, ab_sh_si, ab_gr_si, ab_gl_si, cs_n, ↓reduceIte, true_or, or_true, false_or, or_false, and_true, true_and, and_false, false_and, not_true_eq_false, not_false_eq_true, eq_self, Int.reduceEq, Int.reduceLT, Int.reduceLE, Int.reduceAdd, Int.reduceMul, Int.reduceNeg, if_pos, if_neg, hL.1, a, r, s18]
theorem lw_12 {dd : Nat} {x : Int} {h : ab_H} {b : Nat} (L : li h b) (x0 : 0 ≤ x) (x1 : x + 5 ≤ (B.2.1 : Int)) (hB : B.2.1 ≤ 2560) : lw_s B (dd + 18) 592 x h := by
  intro o5 o6
  have hL := L.1.1.1
  obtain ⟨k, h1, v, h2, b2, a, r, L2, ek, k12, hv, s18, kc, ks, hb⟩ := op_power (B := B) (dd := dd) L
  refine ⟨h2, b2, some (.inl k), some (.inl v), ?_, L2, kc, ks⟩
  simp (disch := omega) only [e186_592, e186_593, e186_594, e186_597, e186_599, e186_600, e186_603, e186_605, implies_true, Int.reduceSub, Option.isNone_some, Option.isNone_none, ab_bh_some, ab_bh_thr, ab_gs_3, ab_gl_2, ab_gl_3, ab_gt_some, ab_gc_0, ab_gk_0, Bool.false_eq_true, Bool.true_eq_false, false_implies, Nat.reduceEqDiff, ab_ge, ab_lt, ab_le, ab_gt, ab_eq, ab_ne, decide_eq_true_eq, ab_w_id, ab_w0, ab_gd_some, ab_gs_0, ab_gs_1, ab_gl_0, ab_gl_1, ab_bv_some, ab_bu_some, ab_bv_thr, ab_bu_thr, ab_fx_n, ab_fx_i, ab_fx_q, ab_fx_l, ab_sh_si, ab_gr_si, ab_gl_si, cs_n, ↓reduceIte, true_or, or_true, false_or, or_false, and_true, true_and, and_false, false_and, not_true_eq_false, not_false_eq_true, eq_self, Int.reduceEq, Int.reduceLT, Int.reduceLE, Int.reduceAdd, Int.reduceMul, Int.reduceNeg, if_pos, if_neg, hL.1, a, r, s18]
theorem lw_13 {dd : Nat} {x : Int} {h : ab_H} {b : Nat} (L : li h b) (x0 : 0 ≤ x) (x1 : x + 5 ≤ (B.2.1 : Int)) (hB : B.2.1 ≤ 2560) : lw_s B (dd + 18) 608 x h := by
  intro o5 o6
  have hL := L.1.1.1
  obtain ⟨k, h1, v, h2, b2, a, r, L2, ek, k12, hv, s18, kc, ks, hb⟩ := op_boot (B := B) (dd := dd) (p := (B.2.2.1 (x + 1).toNat).toInt) L (ab_rl _) (ab_rh _)
  refine ⟨h2, b2, some (.inl k), some (.inl v), ?_, L2, kc, ks⟩
  simp (disch := omega) only [e186_608, e186_609, e186_610, e186_612, e186_613, e186_614, e186_615, e186_616, e186_619, e186_621, e186_622, e186_623, e186_625, e186_626, e186_627, e186_628, e186_631, e186_633, implies_true, Int.reduceSub, Option.isNone_some, Option.isNone_none, ab_bh_some, ab_bh_thr, ab_gs_3, ab_gl_2, ab_gl_3, ab_gt_some, ab_gc_0, ab_gk_0, Bool.false_eq_true, Bool.true_eq_false, false_implies, Nat.reduceEqDiff, ab_ge, ab_lt, ab_le, ab_gt, ab_eq, ab_ne, decide_eq_true_eq, ab_w_id, ab_w0, ab_gd_some, ab_gs_0, ab_gs_1, ab_gl_0, ab_gl_1, ab_bv_some, ab_bu_some, ab_bv_thr, ab_bu_thr, ab_fx_n, ab_fx_i, ab_fx_q, ab_fx_l, ab_sh_si, ab_gr_si, ab_gl_si, cs_n, ↓reduceIte, true_or, or_true, false_or, or_false, and_true, true_and, and_false, false_and, not_true_eq_false, not_false_eq_true, eq_self, Int.reduceEq, Int.reduceLT, Int.reduceLE, Int.reduceAdd, Int.reduceMul, Int.reduceNeg, if_pos, if_neg, hL.1, a, r, s18]
theorem lw_14 {dd : Nat} {x : Int} {h : ab_H} {b : Nat} (L : li h b) (x0 : 0 ≤ x) (x1 : x + 5 ≤ (B.2.1 : Int)) (hB : B.2.1 ≤ 2560) : lw_s B (dd + 18) 636 x h := by
  intro o5 o6
  have hL := L.1.1.1
  obtain ⟨k, h1, v, h2, b2, a, r, L2, ek, k12, hv, s18, kc, ks, hb⟩ := op_cell (B := B) (dd := dd) (p := (B.2.2.1 (x + 1).toNat).toInt) (q := (B.2.2.1 (x + 2).toNat).toInt) (t := (B.2.2.1 (x + 3).toNat).toInt) L (ab_rl _) (ab_rh _) (ab_rl _) (ab_rh _) (ab_rl _) (ab_rh _)
  refine ⟨h2, b2, some (.inl k), some (.inl v), ?_, L2, kc, ks⟩
  simp (disch := omega) only [e186_636, e186_637, e186_638, e186_640, e186_641, e186_642, e186_643, e186_644, e186_646, e186_647, e186_648, e186_649, e186_650, e186_652, e186_653, e186_654, e186_655, e186_656, e186_659, e186_661, e186_662, e186_663, e186_665, e186_666, e186_667, e186_668, e186_669, e186_671, e186_672, e186_673, e186_674, e186_675, e186_677, e186_678, e186_679, e186_680, e186_683, e186_685, implies_true, Int.reduceSub, Option.isNone_some, Option.isNone_none, ab_bh_some, ab_bh_thr, ab_gs_3, ab_gl_2, ab_gl_3, ab_gt_some, ab_gc_0, ab_gk_0, Bool.false_eq_true, Bool.true_eq_false, false_implies, Nat.reduceEqDiff, ab_ge, ab_lt, ab_le, ab_gt, ab_eq, ab_ne, decide_eq_true_eq, ab_w_id, ab_w0, ab_gd_some, ab_gs_0, ab_gs_1, ab_gl_0, ab_gl_1, ab_bv_some, ab_bu_some, ab_bv_thr, ab_bu_thr, ab_fx_n, ab_fx_i, ab_fx_q, ab_fx_l, ab_sh_si, ab_gr_si, ab_gl_si, cs_n, ↓reduceIte, true_or, or_true, false_or, or_false, and_true, true_and, and_false, false_and, not_true_eq_false, not_false_eq_true, eq_self, Int.reduceEq, Int.reduceLT, Int.reduceLE, Int.reduceAdd, Int.reduceMul, Int.reduceNeg, if_pos, if_neg, hL.1, a, r, s18]
theorem lw_15 {dd : Nat} {x : Int} {h : ab_H} {b : Nat} (L : li h b) (x0 : 0 ≤ x) (x1 : x + 5 ≤ (B.2.1 : Int)) (hB : B.2.1 ≤ 2560) : lw_s B (dd + 18) 688 x h := by
  intro o5 o6
  have hL := L.1.1.1
  obtain ⟨k, h1, v, h2, b2, a, r, L2, ek, k12, hv, s18, kc, ks, hb⟩ := op_ofDisk (B := B) (dd := dd) (p := (B.2.2.1 (x + 1).toNat).toInt) (t := (B.2.2.1 (x + 2).toNat).toInt) L (ab_rl _) (ab_rh _) (ab_rl _) (ab_rh _)
  refine ⟨h2, b2, some (.inl k), some (.inl v), ?_, L2, kc, ks⟩
  simp (disch := omega) only [e186_688, e186_689, e186_690, e186_692, e186_693, e186_694, e186_695, e186_696, e186_698, e186_699, e186_700, e186_701, e186_702, e186_705, e186_707, e186_708, e186_709, e186_711, e186_712, e186_713, e186_714, e186_715, e186_717, e186_718, e186_719, e186_720, e186_723, e186_725, implies_true, Int.reduceSub, Option.isNone_some, Option.isNone_none, ab_bh_some, ab_bh_thr, ab_gs_3, ab_gl_2, ab_gl_3, ab_gt_some, ab_gc_0, ab_gk_0, Bool.false_eq_true, Bool.true_eq_false, false_implies, Nat.reduceEqDiff, ab_ge, ab_lt, ab_le, ab_gt, ab_eq, ab_ne, decide_eq_true_eq, ab_w_id, ab_w0, ab_gd_some, ab_gs_0, ab_gs_1, ab_gl_0, ab_gl_1, ab_bv_some, ab_bu_some, ab_bv_thr, ab_bu_thr, ab_fx_n, ab_fx_i, ab_fx_q, ab_fx_l, ab_sh_si, ab_gr_si, ab_gl_si, cs_n, ↓reduceIte, true_or, or_true, false_or, or_false, and_true, true_and, and_false, false_and, not_true_eq_false, not_false_eq_true, eq_self, Int.reduceEq, Int.reduceLT, Int.reduceLE, Int.reduceAdd, Int.reduceMul, Int.reduceNeg, if_pos, if_neg, hL.1, a, r, s18]
theorem lw_16 {dd : Nat} {x : Int} {h : ab_H} {b : Nat} (L : li h b) (x0 : 0 ≤ x) (x1 : x + 5 ≤ (B.2.1 : Int)) (hB : B.2.1 ≤ 2560) : lw_s B (dd + 18) 728 x h := by
  intro o5 o6
  have hL := L.1.1.1
  obtain ⟨k, h1, v, h2, b2, a, r, L2, ek, k12, hv, s18, kc, ks, hb⟩ := op_ofBlock (B := B) (dd := dd) (p := (B.2.2.1 (x + 1).toNat).toInt) (t := (B.2.2.1 (x + 2).toNat).toInt) L (ab_rl _) (ab_rh _) (ab_rl _) (ab_rh _)
  refine ⟨h2, b2, some (.inl k), some (.inl v), ?_, L2, kc, ks⟩
  simp (disch := omega) only [e186_728, e186_729, e186_730, e186_732, e186_733, e186_734, e186_735, e186_736, e186_738, e186_739, e186_740, e186_741, e186_742, e186_745, e186_747, e186_748, e186_749, e186_751, e186_752, e186_753, e186_754, e186_755, e186_757, e186_758, e186_759, e186_760, e186_763, e186_765, implies_true, Int.reduceSub, Option.isNone_some, Option.isNone_none, ab_bh_some, ab_bh_thr, ab_gs_3, ab_gl_2, ab_gl_3, ab_gt_some, ab_gc_0, ab_gk_0, Bool.false_eq_true, Bool.true_eq_false, false_implies, Nat.reduceEqDiff, ab_ge, ab_lt, ab_le, ab_gt, ab_eq, ab_ne, decide_eq_true_eq, ab_w_id, ab_w0, ab_gd_some, ab_gs_0, ab_gs_1, ab_gl_0, ab_gl_1, ab_bv_some, ab_bu_some, ab_bv_thr, ab_bu_thr, ab_fx_n, ab_fx_i, ab_fx_q, ab_fx_l, ab_sh_si, ab_gr_si, ab_gl_si, cs_n, ↓reduceIte, true_or, or_true, false_or, or_false, and_true, true_and, and_false, false_and, not_true_eq_false, not_false_eq_true, eq_self, Int.reduceEq, Int.reduceLT, Int.reduceLE, Int.reduceAdd, Int.reduceMul, Int.reduceNeg, if_pos, if_neg, hL.1, a, r, s18]
theorem lw_17 {dd : Nat} {x : Int} {h : ab_H} {b : Nat} (L : li h b) (x0 : 0 ≤ x) (x1 : x + 5 ≤ (B.2.1 : Int)) (hB : B.2.1 ≤ 2560) : lw_s B (dd + 18) 768 x h := by
  intro o5 o6
  have hL := L.1.1.1
  obtain ⟨k, h1, v, h2, b2, a, r, L2, ek, k12, hv, s18, kc, ks, hb⟩ := op_note (B := B) (dd := dd) (t := (B.2.2.1 (x + 1).toNat).toInt) L (ab_rl _) (ab_rh _)
  refine ⟨h2, b2, some (.inl k), some (.inl v), ?_, L2, kc, ks⟩
  simp (disch := omega) only [e186_768, e186_769, e186_770, e186_772, e186_773, e186_774, e186_775, e186_776, e186_779, e186_781, e186_782, e186_783, e186_785, e186_786, e186_787, e186_788, e186_791, e186_793, implies_true, Int.reduceSub, Option.isNone_some, Option.isNone_none, ab_bh_some, ab_bh_thr, ab_gs_3, ab_gl_2, ab_gl_3, ab_gt_some, ab_gc_0, ab_gk_0, Bool.false_eq_true, Bool.true_eq_false, false_implies, Nat.reduceEqDiff, ab_ge, ab_lt, ab_le, ab_gt, ab_eq, ab_ne, decide_eq_true_eq, ab_w_id, ab_w0, ab_gd_some, ab_gs_0, ab_gs_1, ab_gl_0, ab_gl_1, ab_bv_some, ab_bu_some, ab_bv_thr, ab_bu_thr, ab_fx_n, ab_fx_i, ab_fx_q, ab_fx_l, ab_sh_si, ab_gr_si, ab_gl_si, cs_n, ↓reduceIte, true_or, or_true, false_or, or_false, and_true, true_and, and_false, false_and, not_true_eq_false, not_false_eq_true, eq_self, Int.reduceEq, Int.reduceLT, Int.reduceLE, Int.reduceAdd, Int.reduceMul, Int.reduceNeg, if_pos, if_neg, hL.1, a, r, s18]
theorem lw_18 {dd : Nat} {x : Int} {h : ab_H} {b : Nat} (L : li h b) (x0 : 0 ≤ x) (x1 : x + 5 ≤ (B.2.1 : Int)) (hB : B.2.1 ≤ 2560) : lw_s B (dd + 18) 796 x h := by
  intro o5 o6
  have hL := L.1.1.1
  obtain ⟨k, h1, v, h2, b2, a, r, L2, ek, k12, hv, s18, kc, ks, hb⟩ := op_house (B := B) (dd := dd) (t := (B.2.2.1 (x + 1).toNat).toInt) L (ab_rl _) (ab_rh _)
  refine ⟨h2, b2, some (.inl k), some (.inl v), ?_, L2, kc, ks⟩
  simp (disch := omega) only [e186_796, e186_797, e186_798, e186_800, e186_801, e186_802, e186_803, e186_804, e186_807, e186_809, e186_810, e186_811, e186_813, e186_814, e186_815, e186_816, e186_819, e186_821, implies_true, Int.reduceSub, Option.isNone_some, Option.isNone_none, ab_bh_some, ab_bh_thr, ab_gs_3, ab_gl_2, ab_gl_3, ab_gt_some, ab_gc_0, ab_gk_0, Bool.false_eq_true, Bool.true_eq_false, false_implies, Nat.reduceEqDiff, ab_ge, ab_lt, ab_le, ab_gt, ab_eq, ab_ne, decide_eq_true_eq, ab_w_id, ab_w0, ab_gd_some, ab_gs_0, ab_gs_1, ab_gl_0, ab_gl_1, ab_bv_some, ab_bu_some, ab_bv_thr, ab_bu_thr, ab_fx_n, ab_fx_i, ab_fx_q, ab_fx_l, ab_sh_si, ab_gr_si, ab_gl_si, cs_n, ↓reduceIte, true_or, or_true, false_or, or_false, and_true, true_and, and_false, false_and, not_true_eq_false, not_false_eq_true, eq_self, Int.reduceEq, Int.reduceLT, Int.reduceLE, Int.reduceAdd, Int.reduceMul, Int.reduceNeg, if_pos, if_neg, hL.1, a, r, s18]
theorem lw_19 {dd : Nat} {x : Int} {h : ab_H} {b : Nat} (L : li h b) (x0 : 0 ≤ x) (x1 : x + 5 ≤ (B.2.1 : Int)) (hB : B.2.1 ≤ 2560) : lw_s B (dd + 18) 824 x h := by
  intro o5 o6
  have hL := L.1.1.1
  obtain ⟨k, h1, v, h2, b2, a, r, L2, ek, k12, s18, kc, ks⟩ := op_row (B := B) (dd := dd) (t := (B.2.2.1 (x + 1).toNat).toInt) L (ab_rl _) (ab_rh _)
  refine ⟨h2, b2, some (.inl k), some (.inr (.inr v)), ?_, L2, kc, ks⟩
  simp (disch := omega) only [e186_824, e186_825, e186_826, e186_828, e186_829, e186_830, e186_831, e186_832, e186_835, e186_837, e186_838, e186_839, e186_841, e186_842, e186_843, e186_844, e186_847, e186_849, implies_true, Int.reduceSub, Option.isNone_some, Option.isNone_none, ab_bh_some, ab_bh_thr, ab_gs_3, ab_gl_2, ab_gl_3, ab_gt_some, ab_gc_0, ab_gk_0, Bool.false_eq_true, Bool.true_eq_false, false_implies, Nat.reduceEqDiff, ab_ge, ab_lt, ab_le, ab_gt, ab_eq, ab_ne, decide_eq_true_eq, ab_w_id, ab_w0, ab_gd_some, ab_gs_0, ab_gs_1, ab_gl_0, ab_gl_1, ab_bv_some, ab_bu_some, ab_bv_thr, ab_bu_thr, ab_fx_n, ab_fx_i, ab_fx_q, ab_fx_l, ab_sh_si, ab_gr_si, ab_gl_si, cs_n, ↓reduceIte, true_or, or_true, false_or, or_false, and_true, true_and, and_false, false_and, not_true_eq_false, not_false_eq_true, eq_self, Int.reduceEq, Int.reduceLT, Int.reduceLE, Int.reduceAdd, Int.reduceMul, Int.reduceNeg, if_pos, if_neg, hL.1, a, r, s18]
theorem lw_20 {dd : Nat} {x : Int} {h : ab_H} {b : Nat} (L : li h b) (x0 : 0 ≤ x) (x1 : x + 5 ≤ (B.2.1 : Int)) (hB : B.2.1 ≤ 2560) : lw_s B (dd + 18) 852 x h := by
  intro o5 o6
  have hL := L.1.1.1
  obtain ⟨k, h1, v, h2, b2, a, r, L2, ek, k12, hv, s18, kc, ks, hb⟩ := op_draw (B := B) (dd := dd) (t := (B.2.2.1 (x + 1).toNat).toInt) L (ab_rl _) (ab_rh _)
  refine ⟨h2, b2, some (.inl k), some (.inl v), ?_, L2, kc, ks⟩
  simp (disch := omega) only [e186_852, e186_853, e186_854, e186_856, e186_857, e186_858, e186_859, e186_860, e186_863, e186_865, e186_866, e186_867, e186_869, e186_870, e186_871, e186_872, e186_875, e186_877, implies_true, Int.reduceSub, Option.isNone_some, Option.isNone_none, ab_bh_some, ab_bh_thr, ab_gs_3, ab_gl_2, ab_gl_3, ab_gt_some, ab_gc_0, ab_gk_0, Bool.false_eq_true, Bool.true_eq_false, false_implies, Nat.reduceEqDiff, ab_ge, ab_lt, ab_le, ab_gt, ab_eq, ab_ne, decide_eq_true_eq, ab_w_id, ab_w0, ab_gd_some, ab_gs_0, ab_gs_1, ab_gl_0, ab_gl_1, ab_bv_some, ab_bu_some, ab_bv_thr, ab_bu_thr, ab_fx_n, ab_fx_i, ab_fx_q, ab_fx_l, ab_sh_si, ab_gr_si, ab_gl_si, cs_n, ↓reduceIte, true_or, or_true, false_or, or_false, and_true, true_and, and_false, false_and, not_true_eq_false, not_false_eq_true, eq_self, Int.reduceEq, Int.reduceLT, Int.reduceLE, Int.reduceAdd, Int.reduceMul, Int.reduceNeg, if_pos, if_neg, hL.1, a, r, s18]
theorem lw_21 {dd : Nat} {x : Int} {h : ab_H} {b : Nat} (L : li h b) (x0 : 0 ≤ x) (x1 : x + 5 ≤ (B.2.1 : Int)) (hB : B.2.1 ≤ 2560) : lw_s B (dd + 18) 880 x h := by
  intro o5 o6
  have hL := L.1.1.1
  obtain ⟨k, h1, v, h2, b2, a, r, L2, ek, k12, hv, s18, kc, ks, hb⟩ := op_wouldBoot (B := B) (dd := dd) (p := (B.2.2.1 (x + 1).toNat).toInt) L (ab_rl _) (ab_rh _)
  refine ⟨h2, b2, some (.inl k), some (.inl v), ?_, L2, kc, ks⟩
  simp (disch := omega) only [e186_880, e186_881, e186_882, e186_884, e186_885, e186_886, e186_887, e186_888, e186_891, e186_893, e186_894, e186_895, e186_897, e186_898, e186_899, e186_900, e186_903, e186_905, implies_true, Int.reduceSub, Option.isNone_some, Option.isNone_none, ab_bh_some, ab_bh_thr, ab_gs_3, ab_gl_2, ab_gl_3, ab_gt_some, ab_gc_0, ab_gk_0, Bool.false_eq_true, Bool.true_eq_false, false_implies, Nat.reduceEqDiff, ab_ge, ab_lt, ab_le, ab_gt, ab_eq, ab_ne, decide_eq_true_eq, ab_w_id, ab_w0, ab_gd_some, ab_gs_0, ab_gs_1, ab_gl_0, ab_gl_1, ab_bv_some, ab_bu_some, ab_bv_thr, ab_bu_thr, ab_fx_n, ab_fx_i, ab_fx_q, ab_fx_l, ab_sh_si, ab_gr_si, ab_gl_si, cs_n, ↓reduceIte, true_or, or_true, false_or, or_false, and_true, true_and, and_false, false_and, not_true_eq_false, not_false_eq_true, eq_self, Int.reduceEq, Int.reduceLT, Int.reduceLE, Int.reduceAdd, Int.reduceMul, Int.reduceNeg, if_pos, if_neg, hL.1, a, r, s18]
theorem lw_22 {dd : Nat} {x : Int} {h : ab_H} {b : Nat} (L : li h b) (x0 : 0 ≤ x) (x1 : x + 5 ≤ (B.2.1 : Int)) (hB : B.2.1 ≤ 2560) : lw_s B (dd + 18) 908 x h := by
  intro o5 o6
  have hL := L.1.1.1
  obtain ⟨k, h1, v, h2, b2, a, r, L2, ek, k12, hv, s18, kc, ks, hb⟩ := op_wouldLose (B := B) (dd := dd) (p := (B.2.2.1 (x + 1).toNat).toInt) (q := (B.2.2.1 (x + 2).toNat).toInt) L (ab_rl _) (ab_rh _) (ab_rl _) (ab_rh _)
  refine ⟨h2, b2, some (.inl k), some (.inl v), ?_, L2, kc, ks⟩
  have s2 := L2.2.1.1.1.1
  have s30 := L2.2.2
  by_cases z : k = 0
  · subst z
    have hv := hv rfl
    simp (disch := omega) only [e186_908, e186_909, e186_910, e186_912, e186_913, e186_914, e186_915, e186_916, e186_918, e186_919, e186_920, e186_921, e186_922, e186_925, e186_927, e186_928, e186_929, e186_931, e186_932, e186_933, e186_934, e186_935, e186_937, e186_938, e186_939, e186_940, e186_943, e186_945, e186_946, e186_949, e186_951, e186_954, e186_955, e186_956, e186_958, e186_961, e186_962, e186_965, e186_967, e186_968, e186_969, e186_972, e186_973, e186_974, e99_0, e99_1, e99_4, implies_true, Int.reduceSub, Option.isNone_some, Option.isNone_none, ab_bh_some, ab_bh_thr, ab_gs_3, ab_gl_2, ab_gl_3, ab_gt_some, ab_gc_0, ab_gk_0, Bool.false_eq_true, Bool.true_eq_false, false_implies, Nat.reduceEqDiff, ab_ge, ab_lt, ab_le, ab_gt, ab_eq, ab_ne, decide_eq_true_eq, ab_w_id, ab_w0, ab_gd_some, ab_gs_0, ab_gs_1, ab_gl_0, ab_gl_1, ab_bv_some, ab_bu_some, ab_bv_thr, ab_bu_thr, ab_fx_n, ab_fx_i, ab_fx_q, ab_fx_l, ab_sh_si, ab_gr_si, ab_gl_si, cs_n, ↓reduceIte, true_or, or_true, false_or, or_false, and_true, true_and, and_false, false_and, not_true_eq_false, not_false_eq_true, eq_self, Int.reduceEq, Int.reduceLT, Int.reduceLE, Int.reduceAdd, Int.reduceMul, Int.reduceNeg, if_pos, if_neg, hL.1, a, r, s18, s2, s30, ek, hv, ab_cmp_self]
  · simp (disch := omega) only [e186_908, e186_909, e186_910, e186_912, e186_913, e186_914, e186_915, e186_916, e186_918, e186_919, e186_920, e186_921, e186_922, e186_925, e186_927, e186_928, e186_929, e186_931, e186_932, e186_933, e186_934, e186_935, e186_937, e186_938, e186_939, e186_940, e186_943, e186_945, e186_946, e186_949, e186_951, e186_954, e186_955, e186_956, e186_958, e186_961, e186_962, e186_965, e186_967, e186_968, e186_969, e186_972, e186_973, e186_974, e99_0, e99_1, e99_4, implies_true, Int.reduceSub, Option.isNone_some, Option.isNone_none, ab_bh_some, ab_bh_thr, ab_gs_3, ab_gl_2, ab_gl_3, ab_gt_some, ab_gc_0, ab_gk_0, Bool.false_eq_true, Bool.true_eq_false, false_implies, Nat.reduceEqDiff, ab_ge, ab_lt, ab_le, ab_gt, ab_eq, ab_ne, decide_eq_true_eq, ab_w_id, ab_w0, ab_gd_some, ab_gs_0, ab_gs_1, ab_gl_0, ab_gl_1, ab_bv_some, ab_bu_some, ab_bv_thr, ab_bu_thr, ab_fx_n, ab_fx_i, ab_fx_q, ab_fx_l, ab_sh_si, ab_gr_si, ab_gl_si, cs_n, ↓reduceIte, true_or, or_true, false_or, or_false, and_true, true_and, and_false, false_and, not_true_eq_false, not_false_eq_true, eq_self, Int.reduceEq, Int.reduceLT, Int.reduceLE, Int.reduceAdd, Int.reduceMul, Int.reduceNeg, if_pos, if_neg, hL.1, a, r, s18, s2, s30, ek, eq_false z]
theorem lw_23 {dd : Nat} {x : Int} {h : ab_H} {b : Nat} (L : li h b) (x0 : 0 ≤ x) (x1 : x + 5 ≤ (B.2.1 : Int)) (hB : B.2.1 ≤ 2560) : lw_s B (dd + 18) 977 x h := by
  intro o5 o6
  have hL := L.1.1.1
  obtain ⟨v, h1, h2, b2, a, r, L2, s18, kc, ks⟩ := op_isSound (B := B) (dd := dd) L
  refine ⟨h2, b2, o5, o6, ?_, L2, kc, ks⟩
  simp (disch := omega) only [e186_977, e186_978, e186_981, e186_982, e186_983, e186_986, e186_987, implies_true, Int.reduceSub, Option.isNone_some, Option.isNone_none, ab_bh_some, ab_bh_thr, ab_gs_3, ab_gl_2, ab_gl_3, ab_gt_some, ab_gc_0, ab_gk_0, Bool.false_eq_true, Bool.true_eq_false, false_implies, Nat.reduceEqDiff, ab_ge, ab_lt, ab_le, ab_gt, ab_eq, ab_ne, decide_eq_true_eq, ab_w_id, ab_w0, ab_gd_some, ab_gs_0, ab_gs_1, ab_gl_0, ab_gl_1, ab_bv_some, ab_bu_some, ab_bv_thr, ab_bu_thr, ab_fx_n, ab_fx_i, ab_fx_q, ab_fx_l, ab_sh_si, ab_gr_si, ab_gl_si, cs_n, ↓reduceIte, true_or, or_true, false_or, or_false, and_true, true_and, and_false, false_and, not_true_eq_false, not_false_eq_true, eq_self, Int.reduceEq, Int.reduceLT, Int.reduceLE, Int.reduceAdd, Int.reduceMul, Int.reduceNeg, if_pos, if_neg, hL.1, a, r, s18]
theorem lw_24 {dd : Nat} {x : Int} {h : ab_H} {b : Nat} (L : li h b) (x0 : 0 ≤ x) (x1 : x + 5 ≤ (B.2.1 : Int)) (hB : B.2.1 ≤ 2560) : lw_s B (dd + 18) 990 x h := by
  intro o5 o6
  have hL := L.1.1.1
  obtain ⟨v, h1, h2, b2, a, r, L2, s18, kc, ks⟩ := op_knock (B := B) (dd := dd) L
  refine ⟨h2, b2, o5, o6, ?_, L2, kc, ks⟩
  simp (disch := omega) only [e186_990, e186_991, e186_994, e186_995, e186_996, e186_999, e186_1000, implies_true, Int.reduceSub, Option.isNone_some, Option.isNone_none, ab_bh_some, ab_bh_thr, ab_gs_3, ab_gl_2, ab_gl_3, ab_gt_some, ab_gc_0, ab_gk_0, Bool.false_eq_true, Bool.true_eq_false, false_implies, Nat.reduceEqDiff, ab_ge, ab_lt, ab_le, ab_gt, ab_eq, ab_ne, decide_eq_true_eq, ab_w_id, ab_w0, ab_gd_some, ab_gs_0, ab_gs_1, ab_gl_0, ab_gl_1, ab_bv_some, ab_bu_some, ab_bv_thr, ab_bu_thr, ab_fx_n, ab_fx_i, ab_fx_q, ab_fx_l, ab_sh_si, ab_gr_si, ab_gl_si, cs_n, ↓reduceIte, true_or, or_true, false_or, or_false, and_true, true_and, and_false, false_and, not_true_eq_false, not_false_eq_true, eq_self, Int.reduceEq, Int.reduceLT, Int.reduceLE, Int.reduceAdd, Int.reduceMul, Int.reduceNeg, if_pos, if_neg, hL.1, a, r, s18]
theorem lw_25 {dd : Nat} {x : Int} {h : ab_H} {b : Nat} (L : li h b) (x0 : 0 ≤ x) (x1 : x + 5 ≤ (B.2.1 : Int)) (hB : B.2.1 ≤ 2560) : lw_s B (dd + 18) 1003 x h := by
  intro o5 o6
  have hL := L.1.1.1
  obtain ⟨v, h1, h2, b2, a, r, L2, s18, kc, ks⟩ := op_digest (B := B) (dd := dd) L
  refine ⟨h2, b2, o5, o6, ?_, L2, kc, ks⟩
  simp (disch := omega) only [e186_1003, e186_1004, e186_1007, e186_1008, e186_1009, e186_1012, e186_1013, implies_true, Int.reduceSub, Option.isNone_some, Option.isNone_none, ab_bh_some, ab_bh_thr, ab_gs_3, ab_gl_2, ab_gl_3, ab_gt_some, ab_gc_0, ab_gk_0, Bool.false_eq_true, Bool.true_eq_false, false_implies, Nat.reduceEqDiff, ab_ge, ab_lt, ab_le, ab_gt, ab_eq, ab_ne, decide_eq_true_eq, ab_w_id, ab_w0, ab_gd_some, ab_gs_0, ab_gs_1, ab_gl_0, ab_gl_1, ab_bv_some, ab_bu_some, ab_bv_thr, ab_bu_thr, ab_fx_n, ab_fx_i, ab_fx_q, ab_fx_l, ab_sh_si, ab_gr_si, ab_gl_si, cs_n, ↓reduceIte, true_or, or_true, false_or, or_false, and_true, true_and, and_false, false_and, not_true_eq_false, not_false_eq_true, eq_self, Int.reduceEq, Int.reduceLT, Int.reduceLE, Int.reduceAdd, Int.reduceMul, Int.reduceNeg, if_pos, if_neg, hL.1, a, r, s18]
theorem ab_i31 (v : Int) : 0 ≤ ab_iand v 31 ∧ ab_iand v 31 ≤ 31 := by
  unfold ab_iand
  generalize Int32.ofInt v = a
  have e : (Int32.ofInt 31) = 31 := rfl
  rw [e]
  have m : ((31 : Int32).toBitVec).msb = false := by decide
  have h1 : (a &&& 31).toBitVec.msb = false := by rw [Int32.toBitVec_and, BitVec.msb_and, m, Bool.and_false]
  have h2 : (a &&& 31).toInt = ((a &&& 31).toBitVec.toNat : Int) := BitVec.toInt_eq_toNat_of_msb h1
  have h3 : (a &&& 31).toBitVec.toNat ≤ 31 := by
    rw [Int32.toBitVec_and, BitVec.toNat_and]
    exact Nat.le_trans Nat.and_le_right (by decide)
  omega
theorem lw_any {dd : Nat} {x y : Int} {h : ab_H} {b : Nat} (L : li h b) (x0 : 0 ≤ x) (x1 : x + 5 ≤ (B.2.1 : Int)) (hB : B.2.1 ≤ 2560) (y0 : 0 ≤ y) (y1 : y ≤ 31) : lw_s B (dd + 18) (if 0 ≤ ab_w y ∧ ab_w y < 0 + 26 then ([160, 200, 252, 280, 308, 336, 388, 416, 444, 472, 536, 576, 592, 608, 636, 688, 728, 768, 796, 824, 852, 880, 908, 977, 990, 1003] : List Nat).getD (ab_w y - 0).toNat 1016 else 1016) x h := by
  have hy : y = 0 ∨ y = 1 ∨ y = 2 ∨ y = 3 ∨ y = 4 ∨ y = 5 ∨ y = 6 ∨ y = 7 ∨ y = 8 ∨ y = 9 ∨ y = 10 ∨ y = 11 ∨ y = 12 ∨ y = 13 ∨ y = 14 ∨ y = 15 ∨ y = 16 ∨ y = 17 ∨ y = 18 ∨ y = 19 ∨ y = 20 ∨ y = 21 ∨ y = 22 ∨ y = 23 ∨ y = 24 ∨ y = 25 ∨ y = 26 ∨ y = 27 ∨ y = 28 ∨ y = 29 ∨ y = 30 ∨ y = 31 := by omega
  rcases hy with q | q | q | q | q | q | q | q | q | q | q | q | q | q | q | q | q | q | q | q | q | q | q | q | q | q | q | q | q | q | q | q
  · subst q
    rw [show (if 0 ≤ ab_w 0 ∧ ab_w 0 < 0 + 26 then ([160, 200, 252, 280, 308, 336, 388, 416, 444, 472, 536, 576, 592, 608, 636, 688, 728, 768, 796, 824, 852, 880, 908, 977, 990, 1003] : List Nat).getD (ab_w 0 - 0).toNat 1016 else 1016) = 160 from by decide]
    exact lw_0 L x0 x1 hB
  · subst q
    rw [show (if 0 ≤ ab_w 1 ∧ ab_w 1 < 0 + 26 then ([160, 200, 252, 280, 308, 336, 388, 416, 444, 472, 536, 576, 592, 608, 636, 688, 728, 768, 796, 824, 852, 880, 908, 977, 990, 1003] : List Nat).getD (ab_w 1 - 0).toNat 1016 else 1016) = 200 from by decide]
    exact lw_1 L x0 x1 hB
  · subst q
    rw [show (if 0 ≤ ab_w 2 ∧ ab_w 2 < 0 + 26 then ([160, 200, 252, 280, 308, 336, 388, 416, 444, 472, 536, 576, 592, 608, 636, 688, 728, 768, 796, 824, 852, 880, 908, 977, 990, 1003] : List Nat).getD (ab_w 2 - 0).toNat 1016 else 1016) = 252 from by decide]
    exact lw_2 L x0 x1 hB
  · subst q
    rw [show (if 0 ≤ ab_w 3 ∧ ab_w 3 < 0 + 26 then ([160, 200, 252, 280, 308, 336, 388, 416, 444, 472, 536, 576, 592, 608, 636, 688, 728, 768, 796, 824, 852, 880, 908, 977, 990, 1003] : List Nat).getD (ab_w 3 - 0).toNat 1016 else 1016) = 280 from by decide]
    exact lw_3 L x0 x1 hB
  · subst q
    rw [show (if 0 ≤ ab_w 4 ∧ ab_w 4 < 0 + 26 then ([160, 200, 252, 280, 308, 336, 388, 416, 444, 472, 536, 576, 592, 608, 636, 688, 728, 768, 796, 824, 852, 880, 908, 977, 990, 1003] : List Nat).getD (ab_w 4 - 0).toNat 1016 else 1016) = 308 from by decide]
    exact lw_4 L x0 x1 hB
  · subst q
    rw [show (if 0 ≤ ab_w 5 ∧ ab_w 5 < 0 + 26 then ([160, 200, 252, 280, 308, 336, 388, 416, 444, 472, 536, 576, 592, 608, 636, 688, 728, 768, 796, 824, 852, 880, 908, 977, 990, 1003] : List Nat).getD (ab_w 5 - 0).toNat 1016 else 1016) = 336 from by decide]
    exact lw_5 L x0 x1 hB
  · subst q
    rw [show (if 0 ≤ ab_w 6 ∧ ab_w 6 < 0 + 26 then ([160, 200, 252, 280, 308, 336, 388, 416, 444, 472, 536, 576, 592, 608, 636, 688, 728, 768, 796, 824, 852, 880, 908, 977, 990, 1003] : List Nat).getD (ab_w 6 - 0).toNat 1016 else 1016) = 388 from by decide]
    exact lw_6 L x0 x1 hB
  · subst q
    rw [show (if 0 ≤ ab_w 7 ∧ ab_w 7 < 0 + 26 then ([160, 200, 252, 280, 308, 336, 388, 416, 444, 472, 536, 576, 592, 608, 636, 688, 728, 768, 796, 824, 852, 880, 908, 977, 990, 1003] : List Nat).getD (ab_w 7 - 0).toNat 1016 else 1016) = 416 from by decide]
    exact lw_7 L x0 x1 hB
  · subst q
    rw [show (if 0 ≤ ab_w 8 ∧ ab_w 8 < 0 + 26 then ([160, 200, 252, 280, 308, 336, 388, 416, 444, 472, 536, 576, 592, 608, 636, 688, 728, 768, 796, 824, 852, 880, 908, 977, 990, 1003] : List Nat).getD (ab_w 8 - 0).toNat 1016 else 1016) = 444 from by decide]
    exact lw_8 L x0 x1 hB
  · subst q
    rw [show (if 0 ≤ ab_w 9 ∧ ab_w 9 < 0 + 26 then ([160, 200, 252, 280, 308, 336, 388, 416, 444, 472, 536, 576, 592, 608, 636, 688, 728, 768, 796, 824, 852, 880, 908, 977, 990, 1003] : List Nat).getD (ab_w 9 - 0).toNat 1016 else 1016) = 472 from by decide]
    exact lw_9 L x0 x1 hB
  · subst q
    rw [show (if 0 ≤ ab_w 10 ∧ ab_w 10 < 0 + 26 then ([160, 200, 252, 280, 308, 336, 388, 416, 444, 472, 536, 576, 592, 608, 636, 688, 728, 768, 796, 824, 852, 880, 908, 977, 990, 1003] : List Nat).getD (ab_w 10 - 0).toNat 1016 else 1016) = 536 from by decide]
    exact lw_10 L x0 x1 hB
  · subst q
    rw [show (if 0 ≤ ab_w 11 ∧ ab_w 11 < 0 + 26 then ([160, 200, 252, 280, 308, 336, 388, 416, 444, 472, 536, 576, 592, 608, 636, 688, 728, 768, 796, 824, 852, 880, 908, 977, 990, 1003] : List Nat).getD (ab_w 11 - 0).toNat 1016 else 1016) = 576 from by decide]
    exact lw_11 L x0 x1 hB
  · subst q
    rw [show (if 0 ≤ ab_w 12 ∧ ab_w 12 < 0 + 26 then ([160, 200, 252, 280, 308, 336, 388, 416, 444, 472, 536, 576, 592, 608, 636, 688, 728, 768, 796, 824, 852, 880, 908, 977, 990, 1003] : List Nat).getD (ab_w 12 - 0).toNat 1016 else 1016) = 592 from by decide]
    exact lw_12 L x0 x1 hB
  · subst q
    rw [show (if 0 ≤ ab_w 13 ∧ ab_w 13 < 0 + 26 then ([160, 200, 252, 280, 308, 336, 388, 416, 444, 472, 536, 576, 592, 608, 636, 688, 728, 768, 796, 824, 852, 880, 908, 977, 990, 1003] : List Nat).getD (ab_w 13 - 0).toNat 1016 else 1016) = 608 from by decide]
    exact lw_13 L x0 x1 hB
  · subst q
    rw [show (if 0 ≤ ab_w 14 ∧ ab_w 14 < 0 + 26 then ([160, 200, 252, 280, 308, 336, 388, 416, 444, 472, 536, 576, 592, 608, 636, 688, 728, 768, 796, 824, 852, 880, 908, 977, 990, 1003] : List Nat).getD (ab_w 14 - 0).toNat 1016 else 1016) = 636 from by decide]
    exact lw_14 L x0 x1 hB
  · subst q
    rw [show (if 0 ≤ ab_w 15 ∧ ab_w 15 < 0 + 26 then ([160, 200, 252, 280, 308, 336, 388, 416, 444, 472, 536, 576, 592, 608, 636, 688, 728, 768, 796, 824, 852, 880, 908, 977, 990, 1003] : List Nat).getD (ab_w 15 - 0).toNat 1016 else 1016) = 688 from by decide]
    exact lw_15 L x0 x1 hB
  · subst q
    rw [show (if 0 ≤ ab_w 16 ∧ ab_w 16 < 0 + 26 then ([160, 200, 252, 280, 308, 336, 388, 416, 444, 472, 536, 576, 592, 608, 636, 688, 728, 768, 796, 824, 852, 880, 908, 977, 990, 1003] : List Nat).getD (ab_w 16 - 0).toNat 1016 else 1016) = 728 from by decide]
    exact lw_16 L x0 x1 hB
  · subst q
    rw [show (if 0 ≤ ab_w 17 ∧ ab_w 17 < 0 + 26 then ([160, 200, 252, 280, 308, 336, 388, 416, 444, 472, 536, 576, 592, 608, 636, 688, 728, 768, 796, 824, 852, 880, 908, 977, 990, 1003] : List Nat).getD (ab_w 17 - 0).toNat 1016 else 1016) = 768 from by decide]
    exact lw_17 L x0 x1 hB
  · subst q
    rw [show (if 0 ≤ ab_w 18 ∧ ab_w 18 < 0 + 26 then ([160, 200, 252, 280, 308, 336, 388, 416, 444, 472, 536, 576, 592, 608, 636, 688, 728, 768, 796, 824, 852, 880, 908, 977, 990, 1003] : List Nat).getD (ab_w 18 - 0).toNat 1016 else 1016) = 796 from by decide]
    exact lw_18 L x0 x1 hB
  · subst q
    rw [show (if 0 ≤ ab_w 19 ∧ ab_w 19 < 0 + 26 then ([160, 200, 252, 280, 308, 336, 388, 416, 444, 472, 536, 576, 592, 608, 636, 688, 728, 768, 796, 824, 852, 880, 908, 977, 990, 1003] : List Nat).getD (ab_w 19 - 0).toNat 1016 else 1016) = 824 from by decide]
    exact lw_19 L x0 x1 hB
  · subst q
    rw [show (if 0 ≤ ab_w 20 ∧ ab_w 20 < 0 + 26 then ([160, 200, 252, 280, 308, 336, 388, 416, 444, 472, 536, 576, 592, 608, 636, 688, 728, 768, 796, 824, 852, 880, 908, 977, 990, 1003] : List Nat).getD (ab_w 20 - 0).toNat 1016 else 1016) = 852 from by decide]
    exact lw_20 L x0 x1 hB
  · subst q
    rw [show (if 0 ≤ ab_w 21 ∧ ab_w 21 < 0 + 26 then ([160, 200, 252, 280, 308, 336, 388, 416, 444, 472, 536, 576, 592, 608, 636, 688, 728, 768, 796, 824, 852, 880, 908, 977, 990, 1003] : List Nat).getD (ab_w 21 - 0).toNat 1016 else 1016) = 880 from by decide]
    exact lw_21 L x0 x1 hB
  · subst q
    rw [show (if 0 ≤ ab_w 22 ∧ ab_w 22 < 0 + 26 then ([160, 200, 252, 280, 308, 336, 388, 416, 444, 472, 536, 576, 592, 608, 636, 688, 728, 768, 796, 824, 852, 880, 908, 977, 990, 1003] : List Nat).getD (ab_w 22 - 0).toNat 1016 else 1016) = 908 from by decide]
    exact lw_22 L x0 x1 hB
  · subst q
    rw [show (if 0 ≤ ab_w 23 ∧ ab_w 23 < 0 + 26 then ([160, 200, 252, 280, 308, 336, 388, 416, 444, 472, 536, 576, 592, 608, 636, 688, 728, 768, 796, 824, 852, 880, 908, 977, 990, 1003] : List Nat).getD (ab_w 23 - 0).toNat 1016 else 1016) = 977 from by decide]
    exact lw_23 L x0 x1 hB
  · subst q
    rw [show (if 0 ≤ ab_w 24 ∧ ab_w 24 < 0 + 26 then ([160, 200, 252, 280, 308, 336, 388, 416, 444, 472, 536, 576, 592, 608, 636, 688, 728, 768, 796, 824, 852, 880, 908, 977, 990, 1003] : List Nat).getD (ab_w 24 - 0).toNat 1016 else 1016) = 990 from by decide]
    exact lw_24 L x0 x1 hB
  · subst q
    rw [show (if 0 ≤ ab_w 25 ∧ ab_w 25 < 0 + 26 then ([160, 200, 252, 280, 308, 336, 388, 416, 444, 472, 536, 576, 592, 608, 636, 688, 728, 768, 796, 824, 852, 880, 908, 977, 990, 1003] : List Nat).getD (ab_w 25 - 0).toNat 1016 else 1016) = 1003 from by decide]
    exact lw_25 L x0 x1 hB
  · subst q
    rw [show (if 0 ≤ ab_w 26 ∧ ab_w 26 < 0 + 26 then ([160, 200, 252, 280, 308, 336, 388, 416, 444, 472, 536, 576, 592, 608, 636, 688, 728, 768, 796, 824, 852, 880, 908, 977, 990, 1003] : List Nat).getD (ab_w 26 - 0).toNat 1016 else 1016) = 1016 from by decide]
    exact fun o5 o6 => ⟨h, b, o5, o6, rfl, L, by omega, by omega⟩
  · subst q
    rw [show (if 0 ≤ ab_w 27 ∧ ab_w 27 < 0 + 26 then ([160, 200, 252, 280, 308, 336, 388, 416, 444, 472, 536, 576, 592, 608, 636, 688, 728, 768, 796, 824, 852, 880, 908, 977, 990, 1003] : List Nat).getD (ab_w 27 - 0).toNat 1016 else 1016) = 1016 from by decide]
    exact fun o5 o6 => ⟨h, b, o5, o6, rfl, L, by omega, by omega⟩
  · subst q
    rw [show (if 0 ≤ ab_w 28 ∧ ab_w 28 < 0 + 26 then ([160, 200, 252, 280, 308, 336, 388, 416, 444, 472, 536, 576, 592, 608, 636, 688, 728, 768, 796, 824, 852, 880, 908, 977, 990, 1003] : List Nat).getD (ab_w 28 - 0).toNat 1016 else 1016) = 1016 from by decide]
    exact fun o5 o6 => ⟨h, b, o5, o6, rfl, L, by omega, by omega⟩
  · subst q
    rw [show (if 0 ≤ ab_w 29 ∧ ab_w 29 < 0 + 26 then ([160, 200, 252, 280, 308, 336, 388, 416, 444, 472, 536, 576, 592, 608, 636, 688, 728, 768, 796, 824, 852, 880, 908, 977, 990, 1003] : List Nat).getD (ab_w 29 - 0).toNat 1016 else 1016) = 1016 from by decide]
    exact fun o5 o6 => ⟨h, b, o5, o6, rfl, L, by omega, by omega⟩
  · subst q
    rw [show (if 0 ≤ ab_w 30 ∧ ab_w 30 < 0 + 26 then ([160, 200, 252, 280, 308, 336, 388, 416, 444, 472, 536, 576, 592, 608, 636, 688, 728, 768, 796, 824, 852, 880, 908, 977, 990, 1003] : List Nat).getD (ab_w 30 - 0).toNat 1016 else 1016) = 1016 from by decide]
    exact fun o5 o6 => ⟨h, b, o5, o6, rfl, L, by omega, by omega⟩
  · subst q
    rw [show (if 0 ≤ ab_w 31 ∧ ab_w 31 < 0 + 26 then ([160, 200, 252, 280, 308, 336, 388, 416, 444, 472, 536, 576, 592, 608, 636, 688, 728, 768, 796, 824, 852, 880, 908, 977, 990, 1003] : List Nat).getD (ab_w 31 - 0).toNat 1016 else 1016) = 1016 from by decide]
    exact fun o5 o6 => ⟨h, b, o5, o6, rfl, L, by omega, by omega⟩
theorem lw_loop {dd : Nat} (hB : B.2.1 ≤ 2560) : ∀ (n : Nat) (x : Int) (h : ab_H) (b : Nat) (o5 o6 : Option ab_V), li h b → 0 ≤ x → x ≤ (B.2.1 : Int) → (B.2.1 : Int) - x < 5 * n + 5 →
    ∃ h', ab_E B (dd + 18) 186 27 [some (.inr (.inr (.inr 0))), some (.inr (.inr (.inl (some 0)))), some (.inr (.inr (.inl (some 18)))), some (.inr (.inr (.inl (some 30)))), some (.inl x), o5, o6] [] h = some (.inl (some (.inl 1)), h') ∧ ab_kc h' ≤ ab_kc h + 760 * n ∧ ab_ks h' ≤ ab_ks h + 4000 * n
  | 0, x, h, b, o5, o6, L, x0, x2, x1 => by
    have c : (B.2.1 : Int) - 5 < x := by omega
    refine ⟨h, ?_, by omega, by omega⟩
    simp (disch := omega) only [e186_27, e186_29, e186_30, e186_31, e186_32, e186_33, e186_36, e186_37, e186_39, e186_40, e186_42, e186_1022, e186_1023, implies_true, Int.reduceSub, Option.isNone_some, Option.isNone_none, ab_bh_some, ab_bh_thr, ab_gs_3, ab_gl_2, ab_gl_3, ab_gt_some, ab_gc_0, ab_gk_0, Bool.false_eq_true, Bool.true_eq_false, false_implies, Nat.reduceEqDiff, ab_ge, ab_lt, ab_le, ab_gt, ab_eq, ab_ne, decide_eq_true_eq, ab_w_id, ab_w0, ab_gd_some, ab_gs_0, ab_gs_1, ab_gl_0, ab_gl_1, ab_bv_some, ab_bu_some, ab_bv_thr, ab_bu_thr, ab_fx_n, ab_fx_i, ab_fx_q, ab_fx_l, ab_sh_si, ab_gr_si, ab_gl_si, cs_n, ↓reduceIte, true_or, or_true, false_or, or_false, and_true, true_and, and_false, false_and, not_true_eq_false, not_false_eq_true, eq_self, Int.reduceEq, Int.reduceLT, Int.reduceLE, Int.reduceAdd, Int.reduceMul, Int.reduceNeg, if_pos, if_neg, eq_true c]
  | n + 1, x, h, b, o5, o6, L, x0, x2, x1 => by
    by_cases c : x ≤ (B.2.1 : Int) - 5
    · have hs := L.2.1
      obtain ⟨y0, y1⟩ := ab_i31 ((B.2.2.1 x.toNat).toInt)
      obtain ⟨h1, b1, p5, p6, a1, L1, kc1, ks1⟩ := lw_any (B := B) (dd := dd) L x0 (by omega) hB y0 y1 o5 o6
      obtain ⟨h2, a2, kc2, ks2⟩ := lw_loop (dd := dd) hB n (x + 5) h1 b1 p5 p6 L1 (by omega) (by omega) (by omega)
      refine ⟨h2, ?_, by omega, by omega⟩
      have pre : ab_E B (dd + 18) 186 27 [some (.inr (.inr (.inr 0))), some (.inr (.inr (.inl (some 0)))), some (.inr (.inr (.inl (some 18)))), some (.inr (.inr (.inl (some 30)))), some (.inl x), o5, o6] [] h = ab_E B (dd + 18) 186 43 [some (.inr (.inr (.inr 0))), some (.inr (.inr (.inl (some 0)))), some (.inr (.inr (.inl (some 18)))), some (.inr (.inr (.inl (some 30)))), some (.inl x), o5, o6] [.inl (ab_iand ((B.2.2.1 x.toNat).toInt) 31)] h := by
        have c' : ¬ ((B.2.1 : Int) - 5 < x) := by omega
        simp (disch := omega) only [e186_27, e186_29, e186_30, e186_31, e186_32, e186_33, e186_36, e186_37, e186_39, e186_40, e186_42, implies_true, Int.reduceSub, Option.isNone_some, Option.isNone_none, ab_bh_some, ab_bh_thr, ab_gs_3, ab_gl_2, ab_gl_3, ab_gt_some, ab_gc_0, ab_gk_0, Bool.false_eq_true, Bool.true_eq_false, false_implies, Nat.reduceEqDiff, ab_ge, ab_lt, ab_le, ab_gt, ab_eq, ab_ne, decide_eq_true_eq, ab_w_id, ab_w0, ab_gd_some, ab_gs_0, ab_gs_1, ab_gl_0, ab_gl_1, ab_bv_some, ab_bu_some, ab_bv_thr, ab_bu_thr, ab_fx_n, ab_fx_i, ab_fx_q, ab_fx_l, ab_sh_si, ab_gr_si, ab_gl_si, cs_n, ↓reduceIte, true_or, or_true, false_or, or_false, and_true, true_and, and_false, false_and, not_true_eq_false, not_false_eq_true, eq_self, Int.reduceEq, Int.reduceLT, Int.reduceLE, Int.reduceAdd, Int.reduceMul, Int.reduceNeg, if_pos, if_neg, eq_false c']
      rw [pre, e186_43, a1, ← a2]
      simp (disch := omega) only [e186_1016, e186_1019, implies_true, Int.reduceSub, Option.isNone_some, Option.isNone_none, ab_bh_some, ab_bh_thr, ab_gs_3, ab_gl_2, ab_gl_3, ab_gt_some, ab_gc_0, ab_gk_0, Bool.false_eq_true, Bool.true_eq_false, false_implies, Nat.reduceEqDiff, ab_ge, ab_lt, ab_le, ab_gt, ab_eq, ab_ne, decide_eq_true_eq, ab_w_id, ab_w0, ab_gd_some, ab_gs_0, ab_gs_1, ab_gl_0, ab_gl_1, ab_bv_some, ab_bu_some, ab_bv_thr, ab_bu_thr, ab_fx_n, ab_fx_i, ab_fx_q, ab_fx_l, ab_sh_si, ab_gr_si, ab_gl_si, cs_n, ↓reduceIte, true_or, or_true, false_or, or_false, and_true, true_and, and_false, false_and, not_true_eq_false, not_false_eq_true, eq_self, Int.reduceEq, Int.reduceLT, Int.reduceLE, Int.reduceAdd, Int.reduceMul, Int.reduceNeg, if_pos, if_neg]
    · have c' : (B.2.1 : Int) - 5 < x := by omega
      refine ⟨h, ?_, by omega, by omega⟩
      simp (disch := omega) only [e186_27, e186_29, e186_30, e186_31, e186_32, e186_33, e186_36, e186_37, e186_39, e186_40, e186_42, e186_1022, e186_1023, implies_true, Int.reduceSub, Option.isNone_some, Option.isNone_none, ab_bh_some, ab_bh_thr, ab_gs_3, ab_gl_2, ab_gl_3, ab_gt_some, ab_gc_0, ab_gk_0, Bool.false_eq_true, Bool.true_eq_false, false_implies, Nat.reduceEqDiff, ab_ge, ab_lt, ab_le, ab_gt, ab_eq, ab_ne, decide_eq_true_eq, ab_w_id, ab_w0, ab_gd_some, ab_gs_0, ab_gs_1, ab_gl_0, ab_gl_1, ab_bv_some, ab_bu_some, ab_bv_thr, ab_bu_thr, ab_fx_n, ab_fx_i, ab_fx_q, ab_fx_l, ab_sh_si, ab_gr_si, ab_gl_si, cs_n, ↓reduceIte, true_or, or_true, false_or, or_false, and_true, true_and, and_false, false_and, not_true_eq_false, not_false_eq_true, eq_self, Int.reduceEq, Int.reduceLT, Int.reduceLE, Int.reduceAdd, Int.reduceMul, Int.reduceNeg, if_pos, if_neg, eq_true c']
theorem mlaw {dd : Nat} (hB : B.2.1 ≤ 2560) : ∃ h', ab_E B (dd + 18) 186 0 [some (.inr (.inr (.inr 0))), none, none, none, none, none, none] [] cs_h0 = some (.inl (some (.inl 1)), h') ∧ ab_kc h' ≤ 390000 ∧ ab_ks h' ≤ 2060000 := by
  obtain ⟨h', a, kc, ks⟩ := lw_loop (B := B) (dd := dd) hB 512 0 cs_hB 19 none none cs_hB_li (by omega) (by omega) (by omega)
  have c := cs_hB_c
  refine ⟨h', ?_, by omega, by omega⟩
  have n0 : ab_n cs_h0 = 0 := rfl
  have s0 : ab_sh (ab_new cs_h0 6 13) = [(6, 13)] := rfl
  have m60' := m60 (B := B) (dd := dd + 16) (h := ab_new cs_h0 6 13) s0 rfl
  have hA : cs_k2 (ab_new cs_h0 6 13) = cs_hA := rfl
  rw [hA] at m60'
  have nA : ab_n cs_hA = 18 := by decide +kernel
  have sM : ab_sh cs_hM = [(6, 13), (4, 7), (0, 40), (0, 40), (0, 40), (1, 5), (0, 5), (5, 15), (0, 5), (0, 5), (0, 5), (0, 5), (0, 5), (0, 5), (0, 5), (0, 5), (0, 100), (0, 5), (8, 22)] := by decide +kernel
  have hM : ab_new cs_hA 8 22 = cs_hM := rfl
  have m98' := m98 (B := B) (dd := dd + 17) (h := cs_hM) sM (by unfold ab_n; rw [sM]; rfl)
  have n2 : ab_n (cs_m2 cs_hM) = 30 := by decide +kernel
  have hBe : ab_new (cs_m2 cs_hM) 7 2 = cs_hB := rfl
  have sB := cs_hB_sh
  rw [← a]
  simp (disch := omega) only [e186_0, e186_3, e186_4, e186_7, e186_8, e186_11, e186_12, e186_15, e186_16, e186_19, e186_20, e186_23, e186_24, e186_25, e97_0, e97_1, e97_4, implies_true, Int.reduceSub, Option.isNone_some, Option.isNone_none, ab_bh_some, ab_bh_thr, ab_gs_3, ab_gl_2, ab_gl_3, ab_gt_some, ab_gc_0, ab_gk_0, Bool.false_eq_true, Bool.true_eq_false, false_implies, Nat.reduceEqDiff, ab_ge, ab_lt, ab_le, ab_gt, ab_eq, ab_ne, decide_eq_true_eq, ab_w_id, ab_w0, ab_gd_some, ab_gs_0, ab_gs_1, ab_gl_0, ab_gl_1, ab_bv_some, ab_bu_some, ab_bv_thr, ab_bu_thr, ab_fx_n, ab_fx_i, ab_fx_q, ab_fx_l, ab_sh_si, ab_gr_si, ab_gl_si, cs_n, ↓reduceIte, true_or, or_true, false_or, or_false, and_true, true_and, and_false, false_and, not_true_eq_false, not_false_eq_true, eq_self, Int.reduceEq, Int.reduceLT, Int.reduceLE, Int.reduceAdd, Int.reduceMul, Int.reduceNeg, if_pos, if_neg, n0, s0, m60', nA, hM, sM, m98', n2, hBe, sB, cs_at0, cs_atS]
end
