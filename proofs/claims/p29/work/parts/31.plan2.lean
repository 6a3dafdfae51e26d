/-! THE PLAN: the search -/
section
variable {B : ab_B}
/-- the least start from st on, with the run ahead of it; NONE; 'none': more than what is allowed for -/
def cz_ls (z : cz_Z) (en la : Int) : Nat → Int → Int → Option (Int × Int)
  | 0, _, _ => none
  | k + 1, st, run => if st ≤ la ∧ st < 100 then
      (if 0 ≤ st ∧ st ≤ 60 ∧ 0 ≤ en ∧ en ≤ 90 ∧ 0 ≤ run ∧ run ≤ 900 then
        (if cz_tw z st run st ((if en < st + 3 then st + 3 else en) - st).toNat = true then cz_ls z en la k (st + 1) (if 30 < z.2.1 + cz_g z.1 st then run + 1 else 0) else some (st, run))
      else none) else some (-1, run)
theorem m57_loop {dd : Nat} {D d pl ea en la : Int} {h : ab_H} {z : cz_Z} (hK : cz_K h D) (r : cz_R h z) (ho : cz_ok z = true) (h1 : 0 ≤ d) (h2 : d < 5) (p1 : 0 ≤ pl) (p2 : pl < 5) (la1 : la ≤ 60) (la2 : 0 ≤ la) : ∀ (k : Nat) (st run : Int) (x : Int × Int), 0 ≤ st → st ≤ 61 → cz_ls z en la k st run = some x →
    ab_E B (dd + 2) 57 41 [some (.inr (.inr (some 7))), some (.inl d), some (.inl pl), some (.inl ea), some (.inl en), some (.inl run), some (.inl la), some (.inl st)] [] h = some (.inl (some (.inl x.1)), if x.1 = -1 then h else ab_si h 15 pl x.2)
  | 0, st, run, x, _, _, hx => by cases hx
  | k + 1, st, run, x, q1, q2, hx => by
    have hT := hK.1
    have hL := hT.1
    have hU := cz_ok_U r ho
    have hs : ab_gi h 9 d = 3 := (hK.2.2.2.2 d h1 h2).2.1
    have e30 := hK.2.2.1
    unfold cz_ls at hx
    rw [e57_41]
    by_cases c1 : st ≤ la ∧ st < 100
    · rw [if_pos c1] at hx
      by_cases c2 : 0 ≤ st ∧ st ≤ 60 ∧ 0 ≤ en ∧ en ≤ 90 ∧ 0 ≤ run ∧ run ≤ 900
      · rw [if_pos c2] at hx
        have hu1 := hU.1
        have hu2 := hU.2 st q1 (by omega)
        have em : (if ab_w en < ab_w (st + 3) then ab_w (st + 3) else ab_w en) = if en < st + 3 then st + 3 else en := by simp (disch := omega) only [Option.isSome_some, ab_bvh_some, ab_bvh_thr, ab_ge, ab_lt, ab_le, ab_gt, ab_eq, ab_ne, decide_eq_true_eq, ab_w_id, ab_w0, ab_gd_some, ab_gs_0, ab_gs_1, ab_gl_0, ab_gl_1, ab_bv_some, ab_bu_some, ab_bv_thr, ab_bu_thr, ab_fx_n, ab_fx_i, ab_fx_q, ab_fx_l, ab_sh_si, ab_gr_si, ab_gl_si, cs_n, ↓reduceIte, true_or, or_true, false_or, or_false, and_true, true_and, and_false, false_and, not_true_eq_false, not_false_eq_true, eq_self, Int.reduceEq, Int.reduceLT, Int.reduceLE, Int.reduceAdd, Int.reduceMul, Int.reduceNeg, if_pos, if_neg]
        have hr1 : 0 ≤ (if en < st + 3 then st + 3 else en) - st := by split <;> omega
        have hr2 : (if en < st + 3 then st + 3 else en) ≤ 100 := by split <;> omega
        have hr3 : st ≤ (if en < st + 3 then st + 3 else en) := by split <;> omega
        have ht := cz_tw_eq (st := st) hK r h1 h2 ((if en < st + 3 then st + 3 else en) - st).toNat run st q1 (by omega)
        have hc := m59 (B := B) (dd := dd) (h := h) (d := d) (st := st) (en := if en < st + 3 then st + 3 else en) (ra := run) hT hU h1 h2 q1 (by omega) hr2 hr3 (by omega) (by omega)
        rw [ht] at hc
        by_cases c3 : cz_tw z st run st ((if en < st + 3 then st + 3 else en) - st).toNat = true
        · rw [if_pos c3] at hx hc
          rw [← r.2.2.1, ← r.2.1 st q1 (by omega)] at hx
          have ih := fun run => m57_loop (dd := dd) (ea := ea) (en := en) hK r ho h1 h2 p1 p2 la1 la2 k (st + 1) run x (by omega) (by omega)
          by_cases c4 : 30 < ab_gi h 7 12 + ab_gi h 16 st
          · rw [if_pos c4] at hx
            simp (disch := omega) only [e57_0, e57_1, e57_4, e57_5, e57_6, e57_9, e57_10, e57_13, e57_14, e57_15, e57_16, e57_17, e57_20, e57_21, e57_23, e57_25, e57_27, e57_28, e57_29, e57_32, e57_34, e57_35, e57_36, e57_39, e57_43, e57_45, e57_48, e57_50, e57_51, e57_54, e57_55, e57_58, e57_59, e57_60, e57_62, e57_64, e57_66, e57_67, e57_68, e57_71, e57_72, e57_75, e57_77, e57_80, e57_83, e57_84, e57_85, e57_87, e57_90, e57_92, e57_93, e57_94, e57_97, e57_98, e57_101, e57_103, e57_104, e57_105, e57_106, e57_109, e57_112, e57_114, e57_115, e57_116, e57_119, e57_120, e57_122, e57_125, e57_128, e57_129, Option.isSome_some, ab_bvh_some, ab_bvh_thr, ab_ge, ab_lt, ab_le, ab_gt, ab_eq, ab_ne, decide_eq_true_eq, ab_w_id, ab_w0, ab_gd_some, ab_gs_0, ab_gs_1, ab_gl_0, ab_gl_1, ab_bv_some, ab_bu_some, ab_bv_thr, ab_bu_thr, ab_fx_n, ab_fx_i, ab_fx_q, ab_fx_l, ab_sh_si, ab_gr_si, ab_gl_si, cs_n, ↓reduceIte, true_or, or_true, false_or, or_false, and_true, true_and, and_false, false_and, not_true_eq_false, not_false_eq_true, eq_self, Int.reduceEq, Int.reduceLT, Int.reduceLE, Int.reduceAdd, Int.reduceMul, Int.reduceNeg, if_pos, if_neg, hL.1, hL.2, m41 hT h1 h2, hs, em, hc, e30]
            exact ih _ hx
          · rw [if_neg c4] at hx
            simp (disch := omega) only [e57_0, e57_1, e57_4, e57_5, e57_6, e57_9, e57_10, e57_13, e57_14, e57_15, e57_16, e57_17, e57_20, e57_21, e57_23, e57_25, e57_27, e57_28, e57_29, e57_32, e57_34, e57_35, e57_36, e57_39, e57_43, e57_45, e57_48, e57_50, e57_51, e57_54, e57_55, e57_58, e57_59, e57_60, e57_62, e57_64, e57_66, e57_67, e57_68, e57_71, e57_72, e57_75, e57_77, e57_80, e57_83, e57_84, e57_85, e57_87, e57_90, e57_92, e57_93, e57_94, e57_97, e57_98, e57_101, e57_103, e57_104, e57_105, e57_106, e57_109, e57_112, e57_114, e57_115, e57_116, e57_119, e57_120, e57_122, e57_125, e57_128, e57_129, Option.isSome_some, ab_bvh_some, ab_bvh_thr, ab_ge, ab_lt, ab_le, ab_gt, ab_eq, ab_ne, decide_eq_true_eq, ab_w_id, ab_w0, ab_gd_some, ab_gs_0, ab_gs_1, ab_gl_0, ab_gl_1, ab_bv_some, ab_bu_some, ab_bv_thr, ab_bu_thr, ab_fx_n, ab_fx_i, ab_fx_q, ab_fx_l, ab_sh_si, ab_gr_si, ab_gl_si, cs_n, ↓reduceIte, true_or, or_true, false_or, or_false, and_true, true_and, and_false, false_and, not_true_eq_false, not_false_eq_true, eq_self, Int.reduceEq, Int.reduceLT, Int.reduceLE, Int.reduceAdd, Int.reduceMul, Int.reduceNeg, if_pos, if_neg, hL.1, hL.2, m41 hT h1 h2, hs, em, hc, e30]
            exact ih _ hx
        · rw [if_neg c3] at hx hc
          cases hx
          have e9 : ¬ st = -1 := by omega
          simp (disch := omega) only [e57_0, e57_1, e57_4, e57_5, e57_6, e57_9, e57_10, e57_13, e57_14, e57_15, e57_16, e57_17, e57_20, e57_21, e57_23, e57_25, e57_27, e57_28, e57_29, e57_32, e57_34, e57_35, e57_36, e57_39, e57_43, e57_45, e57_48, e57_50, e57_51, e57_54, e57_55, e57_58, e57_59, e57_60, e57_62, e57_64, e57_66, e57_67, e57_68, e57_71, e57_72, e57_75, e57_77, e57_80, e57_83, e57_84, e57_85, e57_87, e57_90, e57_92, e57_93, e57_94, e57_97, e57_98, e57_101, e57_103, e57_104, e57_105, e57_106, e57_109, e57_112, e57_114, e57_115, e57_116, e57_119, e57_120, e57_122, e57_125, e57_128, e57_129, Option.isSome_some, ab_bvh_some, ab_bvh_thr, ab_ge, ab_lt, ab_le, ab_gt, ab_eq, ab_ne, decide_eq_true_eq, ab_w_id, ab_w0, ab_gd_some, ab_gs_0, ab_gs_1, ab_gl_0, ab_gl_1, ab_bv_some, ab_bu_some, ab_bv_thr, ab_bu_thr, ab_fx_n, ab_fx_i, ab_fx_q, ab_fx_l, ab_sh_si, ab_gr_si, ab_gl_si, cs_n, ↓reduceIte, true_or, or_true, false_or, or_false, and_true, true_and, and_false, false_and, not_true_eq_false, not_false_eq_true, eq_self, Int.reduceEq, Int.reduceLT, Int.reduceLE, Int.reduceAdd, Int.reduceMul, Int.reduceNeg, if_pos, if_neg, hL.1, hL.2, m41 hT h1 h2, hs, em, hc, m58 hL p1 p2, eq_false e9]
      · rw [if_neg c2] at hx; cases hx
    · rw [if_neg c1] at hx
      cases hx
      by_cases c5 : st ≤ la
      · omega
      · simp (disch := omega) only [e57_0, e57_1, e57_4, e57_5, e57_6, e57_9, e57_10, e57_13, e57_14, e57_15, e57_16, e57_17, e57_20, e57_21, e57_23, e57_25, e57_27, e57_28, e57_29, e57_32, e57_34, e57_35, e57_36, e57_39, e57_43, e57_45, e57_48, e57_50, e57_51, e57_54, e57_55, e57_58, e57_59, e57_60, e57_62, e57_64, e57_66, e57_67, e57_68, e57_71, e57_72, e57_75, e57_77, e57_80, e57_83, e57_84, e57_85, e57_87, e57_90, e57_92, e57_93, e57_94, e57_97, e57_98, e57_101, e57_103, e57_104, e57_105, e57_106, e57_109, e57_112, e57_114, e57_115, e57_116, e57_119, e57_120, e57_122, e57_125, e57_128, e57_129, Option.isSome_some, ab_bvh_some, ab_bvh_thr, ab_ge, ab_lt, ab_le, ab_gt, ab_eq, ab_ne, decide_eq_true_eq, ab_w_id, ab_w0, ab_gd_some, ab_gs_0, ab_gs_1, ab_gl_0, ab_gl_1, ab_bv_some, ab_bu_some, ab_bv_thr, ab_bu_thr, ab_fx_n, ab_fx_i, ab_fx_q, ab_fx_l, ab_sh_si, ab_gr_si, ab_gl_si, cs_n, ↓reduceIte, true_or, or_true, false_or, or_false, and_true, true_and, and_false, false_and, not_true_eq_false, not_false_eq_true, eq_self, Int.reduceEq, Int.reduceLT, Int.reduceLE, Int.reduceAdd, Int.reduceMul, Int.reduceNeg, if_pos, if_neg, hL.1, hL.2]
def cz_lsa (z : cz_Z) (pl ea en : Int) : Option (Int × Int) :=
  if 0 ≤ ea ∧ ea ≤ 60 ∧ 0 ≤ en ∧ en ≤ 90 then cz_ls z en (if en + 1 < 60 then en + 1 else 60) 70 ea (if 0 < pl then cz_g z.2.2.2.2.1 (pl - 1) else 0) else none
theorem m57 {dd : Nat} {D d pl ea en : Int} {h : ab_H} {z : cz_Z} {x : Int × Int} (hK : cz_K h D) (r : cz_R h z) (ho : cz_ok z = true) (h1 : 0 ≤ d) (h2 : d < 5) (p1 : 0 ≤ pl) (p2 : pl < 5) (hx : cz_lsa z pl ea en = some x) :
    ab_E B (dd + 2) 57 0 [some (.inr (.inr (some 7))), some (.inl d), some (.inl pl), some (.inl ea), some (.inl en), none, none, none] [] h = some (.inl (some (.inl x.1)), if x.1 = -1 then h else ab_si h 15 pl x.2) := by
  have hT := hK.1
  have hL := hT.1
  unfold cz_lsa at hx
  by_cases c : 0 ≤ ea ∧ ea ≤ 60 ∧ 0 ≤ en ∧ en ≤ 90
  · rw [if_pos c] at hx
    have e1 : (if ab_w ea < ab_w 0 then ab_w 0 else ab_w ea) = ea := by simp (disch := omega) only [Option.isSome_some, ab_bvh_some, ab_bvh_thr, ab_ge, ab_lt, ab_le, ab_gt, ab_eq, ab_ne, decide_eq_true_eq, ab_w_id, ab_w0, ab_gd_some, ab_gs_0, ab_gs_1, ab_gl_0, ab_gl_1, ab_bv_some, ab_bu_some, ab_bv_thr, ab_bu_thr, ab_fx_n, ab_fx_i, ab_fx_q, ab_fx_l, ab_sh_si, ab_gr_si, ab_gl_si, cs_n, ↓reduceIte, true_or, or_true, false_or, or_false, and_true, true_and, and_false, false_and, not_true_eq_false, not_false_eq_true, eq_self, Int.reduceEq, Int.reduceLT, Int.reduceLE, Int.reduceAdd, Int.reduceMul, Int.reduceNeg, if_pos, if_neg]
    have e2 : (if ab_w (en + 1) < ab_w 60 then ab_w (en + 1) else ab_w 60) = if en + 1 < 60 then en + 1 else 60 := by simp (disch := omega) only [Option.isSome_some, ab_bvh_some, ab_bvh_thr, ab_ge, ab_lt, ab_le, ab_gt, ab_eq, ab_ne, decide_eq_true_eq, ab_w_id, ab_w0, ab_gd_some, ab_gs_0, ab_gs_1, ab_gl_0, ab_gl_1, ab_bv_some, ab_bu_some, ab_bv_thr, ab_bu_thr, ab_fx_n, ab_fx_i, ab_fx_q, ab_fx_l, ab_sh_si, ab_gr_si, ab_gl_si, cs_n, ↓reduceIte, true_or, or_true, false_or, or_false, and_true, true_and, and_false, false_and, not_true_eq_false, not_false_eq_true, eq_self, Int.reduceEq, Int.reduceLT, Int.reduceLE, Int.reduceAdd, Int.reduceMul, Int.reduceNeg, if_pos, if_neg]
    have l1 : (if en + 1 < 60 then en + 1 else 60) ≤ 60 := by split <;> omega
    have l2 : 0 ≤ (if en + 1 < 60 then en + 1 else 60) := by split <;> omega
    by_cases c2 : 0 < pl
    · rw [if_pos c2, ← r.2.2.2.2.2.1 (pl - 1) (by omega) (by omega)] at hx
      simp (disch := omega) only [e57_0, e57_1, e57_4, e57_5, e57_6, e57_9, e57_10, e57_13, e57_14, e57_15, e57_16, e57_17, e57_20, e57_21, e57_23, e57_25, e57_27, e57_28, e57_29, e57_32, e57_34, e57_35, e57_36, e57_39, e57_43, e57_45, e57_48, e57_50, e57_51, e57_54, e57_55, e57_58, e57_59, e57_60, e57_62, e57_64, e57_66, e57_67, e57_68, e57_71, e57_72, e57_75, e57_77, e57_80, e57_83, e57_84, e57_85, e57_87, e57_90, e57_92, e57_93, e57_94, e57_97, e57_98, e57_101, e57_103, e57_104, e57_105, e57_106, e57_109, e57_112, e57_114, e57_115, e57_116, e57_119, e57_120, e57_122, e57_125, e57_128, e57_129, Option.isSome_some, ab_bvh_some, ab_bvh_thr, ab_ge, ab_lt, ab_le, ab_gt, ab_eq, ab_ne, decide_eq_true_eq, ab_w_id, ab_w0, ab_gd_some, ab_gs_0, ab_gs_1, ab_gl_0, ab_gl_1, ab_bv_some, ab_bu_some, ab_bv_thr, ab_bu_thr, ab_fx_n, ab_fx_i, ab_fx_q, ab_fx_l, ab_sh_si, ab_gr_si, ab_gl_si, cs_n, ↓reduceIte, true_or, or_true, false_or, or_false, and_true, true_and, and_false, false_and, not_true_eq_false, not_false_eq_true, eq_self, Int.reduceEq, Int.reduceLT, Int.reduceLE, Int.reduceAdd, Int.reduceMul, Int.reduceNeg, if_pos, if_neg, hL.1, hL.2, e1, e2]
      exact m57_loop hK r ho h1 h2 p1 p2 l1 l2 _ _ _ x c.1 (by omega) hx
    · rw [if_neg c2] at hx
      simp (disch := omega) only [e57_0, e57_1, e57_4, e57_5, e57_6, e57_9, e57_10, e57_13, e57_14, e57_15, e57_16, e57_17, e57_20, e57_21, e57_23, e57_25, e57_27, e57_28, e57_29, e57_32, e57_34, e57_35, e57_36, e57_39, e57_43, e57_45, e57_48, e57_50, e57_51, e57_54, e57_55, e57_58, e57_59, e57_60, e57_62, e57_64, e57_66, e57_67, e57_68, e57_71, e57_72, e57_75, e57_77, e57_80, e57_83, e57_84, e57_85, e57_87, e57_90, e57_92, e57_93, e57_94, e57_97, e57_98, e57_101, e57_103, e57_104, e57_105, e57_106, e57_109, e57_112, e57_114, e57_115, e57_116, e57_119, e57_120, e57_122, e57_125, e57_128, e57_129, Option.isSome_some, ab_bvh_some, ab_bvh_thr, ab_ge, ab_lt, ab_le, ab_gt, ab_eq, ab_ne, decide_eq_true_eq, ab_w_id, ab_w0, ab_gd_some, ab_gs_0, ab_gs_1, ab_gl_0, ab_gl_1, ab_bv_some, ab_bu_some, ab_bv_thr, ab_bu_thr, ab_fx_n, ab_fx_i, ab_fx_q, ab_fx_l, ab_sh_si, ab_gr_si, ab_gl_si, cs_n, ↓reduceIte, true_or, or_true, false_or, or_false, and_true, true_and, and_false, false_and, not_true_eq_false, not_false_eq_true, eq_self, Int.reduceEq, Int.reduceLT, Int.reduceLE, Int.reduceAdd, Int.reduceMul, Int.reduceNeg, if_pos, if_neg, hL.1, hL.2, e1, e2]
      exact m57_loop hK r ho h1 h2 p1 p2 l1 l2 _ _ _ x c.1 (by omega) hx
  · rw [if_neg c] at hx; cases hx
/-- a disk's draw is added -/
def cz_as (v : Int) : List Int → Int → Nat → List Int
  | l, _, 0 => l
  | l, t, k + 1 => cz_as v (cz_s l t (cz_g l t + v)) (t + 1) k
def cz_ad (z : cz_Z) (st ti : Int) : cz_Z := (cz_as (ti * 8) z.1 st 3, z.2.1 + ti * 2, z.2.2)
theorem cz_as_R {v : Int} : ∀ (k : Nat) (h : ab_H) (z : cz_Z) (t : Int), cz_R h z → 0 ≤ t → t + k ≤ 100 → cz_R (cs_as v h t k) (cz_as v z.1 t k, z.2) ∧ cz_F h (cs_as v h t k)
  | 0, h, z, t, r, q1, q2 => ⟨r, cz_F.rfl' h⟩
  | k + 1, h, z, t, r, q1, q2 => by
    have r1 := r.su (v := ab_gi h 16 t + v) q1 (by omega)
    obtain ⟨r2, f2⟩ := cz_as_R (v := v) k _ _ (t + 1) r1 (by omega) (by omega)
    refine ⟨?_, (cz_F.si (Or.inl (by omega))).trans f2⟩
    unfold cs_as cz_as
    rw [← r.2.1 t q1 (by omega)]
    exact r2
theorem cz_ad_R {h : ab_H} {z : cz_Z} {D d st ti : Int} (hK : cz_K h D) (r : cz_R h z) (h1 : 0 ≤ d) (h2 : d < 5) (q1 : 0 ≤ st) (q2 : st ≤ 60) : cz_R (cs_ad h d st ti) (cz_ad z st ti) ∧ cz_F h (cs_ad h d st ti) := by
  obtain ⟨e1, e2, e3⟩ := hK.2.2.2.2 d h1 h2
  unfold cs_ad cz_ad
  rw [e1, e2, e3]
  have r1 := r.id (v := ab_gi h 7 12 + ti * 2)
  obtain ⟨r2, f2⟩ := cz_as_R (v := ti * (10 - 2)) 3 _ _ st r1 q1 (by omega)
  rw [r.2.2.1] at r2 f2
  rw [r.2.2.1]
  exact ⟨r2, (cz_F.si (Or.inr ⟨rfl, Or.inr rfl⟩)).trans f2⟩
/-- the tried order is kept -/
def cz_kt : cz_Z → Int → Nat → cz_Z
  | z, _, 0 => z
  | z, i, k + 1 => cz_kt (z.1, z.2.1, z.2.2.1, z.2.2.2.1, z.2.2.2.2.1, cz_s z.2.2.2.2.2.1 i (cz_g z.2.2.1 i), z.2.2.2.2.2.2) (i + 1) k
theorem cz_kt_R : ∀ (k : Nat) (h : ab_H) (z : cz_Z) (i : Int), cz_R h z → 0 ≤ i → i + k ≤ 5 → cz_R (cs_kt h i k) (cz_kt z i k) ∧ cz_F h (cs_kt h i k)
  | 0, h, z, i, r, q1, q2 => ⟨r, cz_F.rfl' h⟩
  | k + 1, h, z, i, r, q1, q2 => by
    have r1 := (r.ps (v := ab_gi h 13 i) q1 (by omega)).pp (t := i) (v := ab_gi h 14 i)
    obtain ⟨r2, f2⟩ := cz_kt_R k _ _ (i + 1) r1 (by omega) (by omega)
    unfold cs_kt cz_kt
    rw [← r.2.2.2.1 i q1 (by omega)]
    exact ⟨r2, ((cz_F.si (Or.inl (by omega))).trans (cz_F.si (Or.inl (by omega)))).trans f2⟩
def cz_keep (z : cz_Z) (e : Int) : cz_Z := cz_kt (z.1, z.2.1, z.2.2.1, z.2.2.2.1, z.2.2.2.2.1, z.2.2.2.2.2.1, e) 0 5
theorem m55z {dd : Nat} {h : ab_H} {z : cz_Z} {e : Int} (hL : cs_L h) (r : cz_R h z) : ∃ h', ab_E B dd 55 0 [some (.inr (.inr (some 7))), some (.inl e), none] [] h = some (.inl none, h') ∧ cz_R h' (cz_keep z e) ∧ cz_F h h' := by
  obtain ⟨r2, f2⟩ := cz_kt_R 5 _ _ 0 (r.pe (v := e)) (by omega) (by omega)
  exact ⟨_, m55 hL, r2, (cz_F.si (Or.inr ⟨rfl, Or.inl rfl⟩)).trans f2⟩
/-- each number from i on, k of them -/
def cz_lp (f : cz_Z → Int → Option cz_Z) : Nat → Int → cz_Z → Option cz_Z
  | 0, _, z => some z
  | k + 1, i, z => (f z i).bind (cz_lp f k (i + 1))
def cz_td (rec : cz_Z → Int → Int → Int → Option cz_Z) (z : cz_Z) (d pl ea en : Int) : Option cz_Z :=
  if cz_ok z = true ∧ 0 ≤ pl ∧ pl < 5 ∧ -1 ≤ z.2.2.2.2.2.2 ∧ z.2.2.2.2.2.2 ≤ 1000 then
    (cz_lsa z pl ea en).bind (fun x =>
      if x.1 = -1 then some z else
      if z.2.2.2.2.2.2 ≠ -1 ∧ z.2.2.2.2.2.2 ≤ (if en < x.1 + 3 then x.1 + 3 else en) then some (z.1, z.2.1, z.2.2.1, z.2.2.2.1, cz_s z.2.2.2.2.1 pl x.2, z.2.2.2.2.2) else
      if 0 ≤ x.1 ∧ x.1 ≤ 60 ∧ 0 ≤ en ∧ en ≤ 90 then
      (rec (cz_ad (z.1, z.2.1, cz_s z.2.2.1 d x.1, cz_s z.2.2.2.1 d pl, cz_s z.2.2.2.2.1 pl x.2, z.2.2.2.2.2) x.1 1) (pl + 1) x.1 (if en < x.1 + 3 then x.1 + 3 else en)).bind (fun z3 =>
        some ((cz_ad z3 x.1 (-1)).1, (cz_ad z3 x.1 (-1)).2.1, (cz_ad z3 x.1 (-1)).2.2.1, cz_s (cz_ad z3 x.1 (-1)).2.2.2.1 d (-1), (cz_ad z3 x.1 (-1)).2.2.2.2)) else none)
  else none
def cz_f (rec : cz_Z → Int → Int → Int → Option cz_Z) (pl ea en : Int) (z : cz_Z) (d : Int) : Option cz_Z := if -1 ≤ cz_g z.2.2.2.1 d ∧ cz_g z.2.2.2.1 d ≤ 5 then (if cz_g z.2.2.2.1 d = -1 then cz_td rec z d pl ea en else some z) else none
def cz_tp (D : Int) : Nat → cz_Z → Int → Int → Int → Option cz_Z
  | 0, _, _, _, _ => none
  | n + 1, z, pl, ea, en => if D ≤ pl then some (cz_keep z en) else
      cz_lp (cz_f (cz_tp D n) pl ea en) D.toNat 0 z
end
