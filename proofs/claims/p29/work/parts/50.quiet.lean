/-! THE LAW: ALL IS QUIET -/
section
variable {B : ab_B}
theorem cs_lost_mono {h : ab_H} {D S : Int} (q : cs_Q h D S) : cs_lost h (-1) (-1) ≤ cs_lost h 0 1 := by
  obtain ⟨hR, eD, eS, D1, D2, S1, S2⟩ := q
  unfold cs_lost
  refine cs_sf_mono _ _ (fun s s1 s2 => ?_)
  have m1 : cs_sf (cs_lb h (-1) (-1) s) 0 (ab_gi h 1 0).toNat ≤ cs_sf (cs_lb h 0 1 s) 0 (ab_gi h 1 0).toNat := cs_sf_mono _ _ (fun d d1 d2 => by
    unfold cs_lb
    by_cases c : d = -1 ∨ d = -1 ∨ cs_b h d s = 1
    · rw [if_pos c, if_pos (by omega)]; omega
    · rw [if_neg c]; split <;> omega)
  have m2 : cs_sf (cs_ld h (-1) (-1) s) 0 (ab_gi h 1 0).toNat ≤ cs_sf (cs_ld h 0 1 s) 0 (ab_gi h 1 0).toNat := cs_sf_mono _ _ (fun d d1 d2 => by
    unfold cs_ld
    by_cases c : (d = -1 ∨ d = -1 ∨ cs_b h d s = 1) ∧ d ≠ s % ab_gi h 1 0
    · rw [if_pos c, if_pos ⟨by omega, c.2⟩]; omega
    · rw [if_neg c]; split <;> omega)
  have m3 : 0 ≤ cs_sf (cs_ld h 0 1 s) 0 (ab_gi h 1 0).toNat := (cs_sf_1 (fun i => cs_ld_le h 0 1 s i) _ _).1
  unfold cs_l1
  by_cases c : 1 < cs_sf (cs_lb h (-1) (-1) s) 0 (ab_gi h 1 0).toNat
  · rw [if_pos c, if_pos (by omega)]; exact m2
  · rw [if_neg c]; split <;> omega
theorem m72_t {dd : Nat} {D S : Int} {h : ab_H} {l : Int64} (i : cs_I D S h) : ∀ (k : Nat) (t : Int), 0 ≤ t → t + k = 90 →
    ab_E B (dd + 8) 72 11 [some (.inr (.inr (some 0))), some (.inl D), some (.inr (.inl l)), none, some (.inl 0), some (.inl t)] [] h = ab_E B (dd + 8) 72 61 [some (.inr (.inr (some 0))), some (.inl D), some (.inr (.inl l)), none, some (.inl 0), some (.inl 90)] [] h
  | 0, t, t1, t2 => by
    have e : t = 90 := by omega
    subst e
    rw [e72_11]
    simp (disch := omega) only [e72_0, e72_1, e72_4, e72_5, e72_6, e72_8, e72_9, e72_13, e72_15, e72_18, e72_19, e72_21, e72_24, e72_26, e72_29, e72_31, e72_32, e72_33, e72_36, e72_37, e72_39, e72_41, e72_44, e72_45, e72_47, e72_50, e72_53, e72_54, e72_55, e72_58, e72_62, e72_64, e72_66, e72_67, e72_70, e72_71, e72_73, e72_76, e72_78, e72_79, e72_80, e72_81, e72_82, e72_85, e72_86, e72_87, e72_90, e72_93, e72_94, e72_95, e72_96, e72_99, e72_100, e72_102, e72_105, e72_108, e72_109, e72_112, e72_113, e72_114, e72_117, e72_118, e72_120, e72_123, e72_124, e72_127, e72_128, e72_131, e72_132, Option.isSome_some, ab_bvh_some, ab_bvh_thr, ab_ge, ab_lt, ab_le, ab_gt, ab_eq, ab_ne, decide_eq_true_eq, ab_w_id, ab_w0, ab_gd_some, ab_gs_0, ab_gs_1, ab_gl_0, ab_gl_1, ab_bv_some, ab_bu_some, ab_bv_thr, ab_bu_thr, ab_fx_n, ab_fx_i, ab_fx_q, ab_fx_l, ab_sh_si, ab_gr_si, ab_gl_si, cs_n, ↓reduceIte, true_or, or_true, false_or, or_false, and_true, true_and, and_false, false_and, not_true_eq_false, not_false_eq_true, eq_self, Int.reduceEq, Int.reduceLT, Int.reduceLE, Int.reduceAdd, Int.reduceMul, Int.reduceNeg, if_pos, if_neg]
  | k + 1, t, t1, t2 => by
    have hL := i.1.1.1
    have D1 := i.1.2.2.2.1
    have D2 := i.1.2.2.2.2.1
    have hd := cs_Y_dr D1 D2 i.2.1 t1
    have e := m81 (B := B) (dd := dd + 2) i t1 (show t ≤ 999 by omega)
    rw [← m72_t (dd := dd) (l := l) i k (t + 1) (by omega) (by omega), e72_11]
    simp (disch := omega) only [e72_0, e72_1, e72_4, e72_5, e72_6, e72_8, e72_9, e72_13, e72_15, e72_18, e72_19, e72_21, e72_24, e72_26, e72_29, e72_31, e72_32, e72_33, e72_36, e72_37, e72_39, e72_41, e72_44, e72_45, e72_47, e72_50, e72_53, e72_54, e72_55, e72_58, e72_62, e72_64, e72_66, e72_67, e72_70, e72_71, e72_73, e72_76, e72_78, e72_79, e72_80, e72_81, e72_82, e72_85, e72_86, e72_87, e72_90, e72_93, e72_94, e72_95, e72_96, e72_99, e72_100, e72_102, e72_105, e72_108, e72_109, e72_112, e72_113, e72_114, e72_117, e72_118, e72_120, e72_123, e72_124, e72_127, e72_128, e72_131, e72_132, Option.isSome_some, ab_bvh_some, ab_bvh_thr, ab_ge, ab_lt, ab_le, ab_gt, ab_eq, ab_ne, decide_eq_true_eq, ab_w_id, ab_w0, ab_gd_some, ab_gs_0, ab_gs_1, ab_gl_0, ab_gl_1, ab_bv_some, ab_bu_some, ab_bv_thr, ab_bu_thr, ab_fx_n, ab_fx_i, ab_fx_q, ab_fx_l, ab_sh_si, ab_gr_si, ab_gl_si, cs_n, ↓reduceIte, true_or, or_true, false_or, or_false, and_true, true_and, and_false, false_and, not_true_eq_false, not_false_eq_true, eq_self, Int.reduceEq, Int.reduceLT, Int.reduceLE, Int.reduceAdd, Int.reduceMul, Int.reduceNeg, if_pos, if_neg, hL.1, e]
theorem m72_g {dd : Nat} {D S : Int} {h : ab_H} {l : Int64} : ∀ (k : Nat) (g : Int) (h1 : ab_H), cs_I D S h1 → h1.2 = h.2 → cs_A h h1 → 0 ≤ g → g + k = 5 →
    ∃ h', ab_E B (dd + 8) 72 64 [some (.inr (.inr (some 0))), some (.inl D), some (.inr (.inl l)), none, some (.inl 0), some (.inl g)] [] h1 = ab_E B (dd + 8) 72 93 [some (.inr (.inr (some 0))), some (.inl D), some (.inr (.inl l)), none, some (.inl 0), some (.inl 5)] [] h' ∧ cs_I D S h' ∧ h'.2 = h.2 ∧ cs_A h h'
  | 0, g, h1, i, e2, a, g1, g2 => by
    have e : g = 5 := by omega
    subst e
    refine ⟨h1, ?_, i, e2, a⟩
    rw [e72_64]
    simp (disch := omega) only [e72_0, e72_1, e72_4, e72_5, e72_6, e72_8, e72_9, e72_11, e72_13, e72_15, e72_18, e72_19, e72_21, e72_24, e72_26, e72_29, e72_31, e72_32, e72_33, e72_36, e72_37, e72_39, e72_41, e72_44, e72_45, e72_47, e72_50, e72_53, e72_54, e72_55, e72_58, e72_61, e72_62, e72_66, e72_67, e72_70, e72_71, e72_73, e72_76, e72_78, e72_79, e72_80, e72_81, e72_82, e72_85, e72_86, e72_87, e72_90, e72_94, e72_95, e72_96, e72_99, e72_100, e72_102, e72_105, e72_108, e72_109, e72_112, e72_113, e72_114, e72_117, e72_118, e72_120, e72_123, e72_124, e72_127, e72_128, e72_131, e72_132, Option.isSome_some, ab_bvh_some, ab_bvh_thr, ab_ge, ab_lt, ab_le, ab_gt, ab_eq, ab_ne, decide_eq_true_eq, ab_w_id, ab_w0, ab_gd_some, ab_gs_0, ab_gs_1, ab_gl_0, ab_gl_1, ab_bv_some, ab_bu_some, ab_bv_thr, ab_bu_thr, ab_fx_n, ab_fx_i, ab_fx_q, ab_fx_l, ab_sh_si, ab_gr_si, ab_gl_si, cs_n, ↓reduceIte, true_or, or_true, false_or, or_false, and_true, true_and, and_false, false_and, not_true_eq_false, not_false_eq_true, eq_self, Int.reduceEq, Int.reduceLT, Int.reduceLE, Int.reduceAdd, Int.reduceMul, Int.reduceNeg, if_pos, if_neg]
  | k + 1, g, h1, i, e2, a, g1, g2 => by
    have hL := i.1.1.1
    have D1 := i.1.2.2.2.1
    have D2 := i.1.2.2.2.2.1
    obtain ⟨h2, r, e, r1, i2, e22, a2⟩ := m82 (B := B) (dd := dd + 2) (gap := g) i g1 (by omega)
    obtain ⟨h', x, y1, y2, y3⟩ := m72_g (dd := dd) (D := D) (S := S) (h := h) (l := l) k (g + 1) h2 i2 (e22.trans e2) (fun c x hc => (a2 c x hc).trans (a c x hc)) (by omega) (by omega)
    have hm : 0 ≤ g * (D - 1) ∧ g * (D - 1) ≤ 20 := ⟨Int.mul_nonneg g1 (by omega), by
      have : g * (D - 1) ≤ 4 * 4 := Int.mul_le_mul (by omega) (by omega) (by omega) (by omega)
      omega⟩
    refine ⟨h', ?_, y1, y2, y3⟩
    rw [← x, e72_64]
    generalize hgm : g * (D - 1) = gm at r1 hm
    simp (disch := omega) only [e72_0, e72_1, e72_4, e72_5, e72_6, e72_8, e72_9, e72_11, e72_13, e72_15, e72_18, e72_19, e72_21, e72_24, e72_26, e72_29, e72_31, e72_32, e72_33, e72_36, e72_37, e72_39, e72_41, e72_44, e72_45, e72_47, e72_50, e72_53, e72_54, e72_55, e72_58, e72_61, e72_62, e72_66, e72_67, e72_70, e72_71, e72_73, e72_76, e72_78, e72_79, e72_80, e72_81, e72_82, e72_85, e72_86, e72_87, e72_90, e72_94, e72_95, e72_96, e72_99, e72_100, e72_102, e72_105, e72_108, e72_109, e72_112, e72_113, e72_114, e72_117, e72_118, e72_120, e72_123, e72_124, e72_127, e72_128, e72_131, e72_132, Option.isSome_some, ab_bvh_some, ab_bvh_thr, ab_ge, ab_lt, ab_le, ab_gt, ab_eq, ab_ne, decide_eq_true_eq, ab_w_id, ab_w0, ab_gd_some, ab_gs_0, ab_gs_1, ab_gl_0, ab_gl_1, ab_bv_some, ab_bu_some, ab_bv_thr, ab_bu_thr, ab_fx_n, ab_fx_i, ab_fx_q, ab_fx_l, ab_sh_si, ab_gr_si, ab_gl_si, cs_n, ↓reduceIte, true_or, or_true, false_or, or_false, and_true, true_and, and_false, false_and, not_true_eq_false, not_false_eq_true, eq_self, Int.reduceEq, Int.reduceLT, Int.reduceLE, Int.reduceAdd, Int.reduceMul, Int.reduceNeg, if_pos, if_neg, hL.1, e, hgm]
theorem m72 {dd : Nat} {D S : Int} {h : ab_H} (i : cs_I D S h) :
    ∃ h', ab_E B (dd + 8) 72 0 [some (.inr (.inr (some 0))), some (.inl D), none, none, none, none] [] h = some (.inl (some (.inl 1)), h') ∧ cs_I D S h' ∧ h'.2 = h.2 := by
  have hL := i.1.1.1
  obtain ⟨hR, eD, eS, D1, D2, S1, S2⟩ := i.1
  have hBS := cs_BS D1 D2 S1 S2
  obtain ⟨x, hx⟩ := m86 (B := B) (dd := dd) (D := D) (S := S) (h := h) (by omega) (by omega) (by omega)
  have x0 := hx h (fun _ _ _ => rfl) i
  have lt := m72_t (B := B) (dd := dd) (l := x) i 90 0 (by omega) (by omega)
  obtain ⟨h', lg, i', e2, a⟩ := m72_g (B := B) (dd := dd) (D := D) (S := S) (h := h) (l := x) 5 0 h i rfl (fun _ _ _ => rfl) (by omega) (by omega)
  have x1 := hx h' a i'
  have hL' := i'.1.1.1
  have e83 := m83 (B := B) (dd := dd + 2) (a := 0) (b := 1) i' (by omega) (by omega) (by omega) (by omega) (by omega)
  have e8 := m79 (B := B) (dd := dd + 2) (w := 8) i' (by omega) (by omega)
  have ev8 : cs_vh h' 8 = cs_lost h' (-1) (-1) := rfl
  rw [ev8] at e8
  have e13 := m79 (B := B) (dd := dd + 2) (w := 13) i' (by omega) (by omega)
  have ev13 : cs_vh h' 13 = ab_gi h' 7 6 := rfl
  rw [ev13] at e13
  have hy := cs_Y_e i'.2.1
  have l1 := cs_lost_rng (a := 0) (b := 1) i'.1.1
  have l2 := cs_lost_rng (a := -1) (b := -1) i'.1.1
  have l3 := cs_lost_mono i'.1
  have ec : ab_cmp x x = 0 := by unfold ab_cmp; rw [if_neg (Int64.lt_irrefl), if_pos rfl]
  refine ⟨h', ?_, i', e2⟩
  simp (disch := omega) only [e72_0, e72_1, e72_4, e72_5, e72_6, e72_8, e72_9, Option.isSome_some, ab_bvh_some, ab_bvh_thr, ab_ge, ab_lt, ab_le, ab_gt, ab_eq, ab_ne, decide_eq_true_eq, ab_w_id, ab_w0, ab_gd_some, ab_gs_0, ab_gs_1, ab_gl_0, ab_gl_1, ab_bv_some, ab_bu_some, ab_bv_thr, ab_bu_thr, ab_fx_n, ab_fx_i, ab_fx_q, ab_fx_l, ab_sh_si, ab_gr_si, ab_gl_si, cs_n, ↓reduceIte, true_or, or_true, false_or, or_false, and_true, true_and, and_false, false_and, not_true_eq_false, not_false_eq_true, eq_self, Int.reduceEq, Int.reduceLT, Int.reduceLE, Int.reduceAdd, Int.reduceMul, Int.reduceNeg, if_pos, if_neg, hL.1, x0]
  rw [lt]
  simp (disch := omega) only [e72_61, e72_62, Option.isSome_some, ab_bvh_some, ab_bvh_thr, ab_ge, ab_lt, ab_le, ab_gt, ab_eq, ab_ne, decide_eq_true_eq, ab_w_id, ab_w0, ab_gd_some, ab_gs_0, ab_gs_1, ab_gl_0, ab_gl_1, ab_bv_some, ab_bu_some, ab_bv_thr, ab_bu_thr, ab_fx_n, ab_fx_i, ab_fx_q, ab_fx_l, ab_sh_si, ab_gr_si, ab_gl_si, cs_n, ↓reduceIte, true_or, or_true, false_or, or_false, and_true, true_and, and_false, false_and, not_true_eq_false, not_false_eq_true, eq_self, Int.reduceEq, Int.reduceLT, Int.reduceLE, Int.reduceAdd, Int.reduceMul, Int.reduceNeg, if_pos, if_neg]
  rw [lg]
  simp (disch := omega) only [e72_13, e72_15, e72_18, e72_19, e72_21, e72_24, e72_26, e72_29, e72_31, e72_32, e72_33, e72_36, e72_37, e72_39, e72_41, e72_44, e72_45, e72_47, e72_50, e72_53, e72_54, e72_55, e72_58, e72_66, e72_67, e72_70, e72_71, e72_73, e72_76, e72_78, e72_79, e72_80, e72_81, e72_82, e72_85, e72_86, e72_87, e72_90, e72_93, e72_94, e72_95, e72_96, e72_99, e72_100, e72_102, e72_105, e72_108, e72_109, e72_112, e72_113, e72_114, e72_117, e72_118, e72_120, e72_123, e72_124, e72_127, e72_128, e72_131, e72_132, Option.isSome_some, ab_bvh_some, ab_bvh_thr, ab_ge, ab_lt, ab_le, ab_gt, ab_eq, ab_ne, decide_eq_true_eq, ab_w_id, ab_w0, ab_gd_some, ab_gs_0, ab_gs_1, ab_gl_0, ab_gl_1, ab_bv_some, ab_bu_some, ab_bv_thr, ab_bu_thr, ab_fx_n, ab_fx_i, ab_fx_q, ab_fx_l, ab_sh_si, ab_gr_si, ab_gl_si, cs_n, ↓reduceIte, true_or, or_true, false_or, or_false, and_true, true_and, and_false, false_and, not_true_eq_false, not_false_eq_true, eq_self, Int.reduceEq, Int.reduceLT, Int.reduceLE, Int.reduceAdd, Int.reduceMul, Int.reduceNeg, if_pos, if_neg, hL'.1, e83, e8, e13, x1, ec]
end
