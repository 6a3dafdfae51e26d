set_option linter.all false
/-! THE CLASS'S SEARCH of the plan: the orders -/
section
variable {B : ab_B}
/-- what the search leaves as it was -/
def cz_F (h h' : ab_H) : Prop := h'.2 = h.2 ∧ ∀ c k, (c < 11 ∨ 16 < c) → ¬ (c = 7 ∧ (k = 6 ∨ k = 12)) → ab_gi h' c k = ab_gi h c k
theorem cz_F.rfl' (h : ab_H) : cz_F h h := ⟨rfl, fun _ _ _ _ => rfl⟩
theorem cz_F.trans {h h' h2 : ab_H} (a : cz_F h h') (b : cz_F h' h2) : cz_F h h2 := ⟨b.1.trans a.1, fun c k q1 q2 => (b.2 c k q1 q2).trans (a.2 c k q1 q2)⟩
theorem cz_F.si {h : ab_H} {c : Nat} {k v : Int} (hc : (11 ≤ c ∧ c ≤ 16) ∨ (c = 7 ∧ (k = 6 ∨ k = 12))) : cz_F h (ab_si h c k v) := ⟨rfl, fun c' k' q1 q2 => by
  rw [ab_gi_si, if_neg]
  rintro ⟨rfl, rfl⟩
  rcases hc with q | q
  · omega
  · exact q2 q⟩
theorem cz_F.L {h h' : ab_H} (f : cz_F h h') (hL : cs_L h) : cs_L h' := by
  have e1 : ab_sh h' = ab_sh h := by unfold ab_sh; rw [f.1]
  have e2 : ab_gr h' = ab_gr h := by unfold ab_gr; rw [f.1]
  unfold cs_L
  rw [e1, e2]
  exact hL
theorem cz_F.T {h h' : ab_H} (f : cz_F h h') (hT : cs_T h) : cs_T h' := by
  obtain ⟨hL, hn, hl, hp, hk⟩ := hT
  refine ⟨f.L hL, ?_, ?_, ?_, fun d q1 q2 => ?_⟩
  · rw [f.2 7 2 (by omega) (by simp)]; exact hn
  · rw [f.2 7 0 (by omega) (by simp)]; exact hl
  · rw [f.2 7 1 (by omega) (by simp)]; exact hp
  · rw [f.2 8 d (by omega) (by simp), f.2 9 d (by omega) (by simp), f.2 10 d (by omega) (by simp)]; exact hk d q1 q2
theorem cz_F.KK {h h' : ab_H} (f : cz_F h h') : ck_K h' = ck_K h := ck_K_congr (f.2 7 0 (by omega) (by simp)) (f.2 7 1 (by omega) (by simp)) (fun c d q => f.2 c d (by omega) (by omega))
theorem cz_F.n {h h' : ab_H} (f : cz_F h h') : ab_gi h' 7 2 = ab_gi h 7 2 := f.2 7 2 (by omega) (by simp)
theorem cs_as_gi {v : Int} : ∀ (k : Nat) (h : ab_H) (t : Int) (c : Nat) (x : Int), ab_gi (cs_as v h t k) c x = if c = 16 ∧ t ≤ x ∧ x < t + k then ab_gi h c x + v else ab_gi h c x
  | 0, h, t, c, x => by rw [if_neg (by omega)]; rfl
  | k + 1, h, t, c, x => by
    unfold cs_as
    rw [cs_as_gi k, ab_gi_si]
    by_cases e : c = 16
    · subst e
      by_cases e2 : x = t
      · subst e2; rw [if_neg (by omega), if_pos ⟨rfl, rfl⟩, if_pos (by omega)]
      · by_cases e3 : t + 1 ≤ x ∧ x < t + 1 + k
        · rw [if_pos ⟨rfl, e3⟩, if_neg (fun q => e2 q.2), if_pos (by omega)]
        · rw [if_neg (fun q => e3 q.2), if_neg (fun q => e2 q.2), if_neg (by omega)]
    · rw [if_neg (fun q => e q.1), if_neg (fun q => e q.1), if_neg (fun q => e q.1)]
theorem cs_as_2 {v : Int} : ∀ (k : Nat) (h : ab_H) (t : Int), (cs_as v h t k).2 = h.2
  | 0, h, t => rfl
  | k + 1, h, t => by unfold cs_as; rw [cs_as_2 k]; rfl
theorem cs_ad_gi {h : ab_H} {d st ti : Int} (c : Nat) (x : Int) : ab_gi (cs_ad h d st ti) c x = if c = 16 ∧ st ≤ x ∧ x < st + ((ab_gi h 9 d).toNat : Int) then ab_gi h c x + ti * (ab_gi h 8 d - ab_gi h 10 d) else if c = 7 ∧ x = 12 then ab_gi h 7 12 + ti * ab_gi h 10 d else ab_gi h c x := by
  unfold cs_ad
  rw [cs_as_gi, ab_gi_si]
  by_cases e : c = 16 ∧ st ≤ x ∧ x < st + ((ab_gi h 9 d).toNat : Int)
  · rw [if_pos e, if_pos e, if_neg (by omega)]
  · rw [if_neg e, if_neg e]
theorem cs_ad_F {h : ab_H} {d st ti : Int} : cz_F h (cs_ad h d st ti) := ⟨by unfold cs_ad; rw [cs_as_2]; rfl, fun c k q1 q2 => by rw [cs_ad_gi, if_neg (by omega), if_neg (fun q => q2 ⟨q.1, Or.inr q.2⟩)]⟩
theorem cs_kt_gi : ∀ (k : Nat) (h : ab_H) (i : Int) (c : Nat) (x : Int), ab_gi (cs_kt h i k) c x = if c = 11 ∧ i ≤ x ∧ x < i + k then ab_gi h 13 x else if c = 12 ∧ i ≤ x ∧ x < i + k then ab_gi h 14 x else ab_gi h c x
  | 0, h, i, c, x => by rw [if_neg (by omega), if_neg (by omega)]; rfl
  | k + 1, h, i, c, x => by
    have e : ∀ (c : Nat) (x : Int), ab_gi (ab_si (ab_si h 11 i (ab_gi h 13 i)) 12 i (ab_gi h 14 i)) c x = if c = 12 ∧ x = i then ab_gi h 14 i else if c = 11 ∧ x = i then ab_gi h 13 i else ab_gi h c x := fun c x => by rw [ab_gi_si, ab_gi_si]
    unfold cs_kt
    rw [cs_kt_gi k, e, e, e]
    repeat' split
    all_goals first | rfl | (exfalso; omega) | (have q : x = i := by omega
                                                subst q; rfl)
theorem cs_kt_2 : ∀ (k : Nat) (h : ab_H) (i : Int), (cs_kt h i k).2 = h.2
  | 0, h, i => rfl
  | k + 1, h, i => by unfold cs_kt; rw [cs_kt_2 k]; rfl
/-- the heap holds a part of a plan -/
def ck_R (h : ab_H) (K : pk_K) (D : Int) (st po : Int → Int) (pl fr : Int) : Prop := (cs_T h ∧ ab_gi h 7 2 = D ∧ ck_K h = K) ∧ ck_D h D st ∧ (∀ x, 0 ≤ x → x < D → (st x = -1 → ab_gi h 14 x = -1) ∧ (st x ≠ -1 → ab_gi h 13 x = st x ∧ ab_gi h 14 x = po x)) ∧ ((if 0 < pl then ab_gi h 15 (pl - 1) else 0) = pk_rf (pk_ov K D st) 0 0 fr.toNat) ∧ (fr ≤ pk_end K D st) ∧ ∀ x, 0 ≤ x → x < 5 → -1 ≤ ab_gi h 13 x ∧ ab_gi h 13 x ≤ 60
/-- the heap holds the best plan so far -/
def ck_C (h : ab_H) (K : pk_K) (D : Int) (c : pk_X) : Prop := (match c with
  | none => ab_gi h 7 6 = -1
  | some y => ab_gi h 7 6 = pk_end K D y.1 ∧ ∀ x, 0 ≤ x → x < D → ab_gi h 11 x = y.1 x ∧ ab_gi h 12 x = y.2 x) ∧ (-1 ≤ ab_gi h 7 6 ∧ ab_gi h 7 6 ≤ 100) ∧ ∀ x, 0 ≤ x → x < 5 → -1 ≤ ab_gi h 11 x ∧ ab_gi h 11 x ≤ 60
theorem ck_C.of {h h' : ab_H} {K : pk_K} {D : Int} {c : pk_X} (hc : ck_C h K D c) (e : ab_gi h' 7 6 = ab_gi h 7 6) (e2 : ∀ c x, c = 11 ∨ c = 12 → ab_gi h' c x = ab_gi h c x) : ck_C h' K D c := by
  obtain ⟨a, b, d⟩ := hc
  refine ⟨?_, by rw [e]; exact b, fun x q1 q2 => by rw [e2 11 x (Or.inl rfl)]; exact d x q1 q2⟩
  cases c with
  | none => exact e.trans a
  | some y => exact ⟨e.trans a.1, fun x q1 q2 => by rw [e2 11 x (Or.inl rfl), e2 12 x (Or.inr rfl)]; exact a.2 x q1 q2⟩
/-- what the search of the places from pl on does -/
def ck_P (B : ab_B) (K : pk_K) (D : Int) (e : Nat) (n : Nat) : Prop := ∀ (h : ab_H) (st po : Int → Int) (pl fr en : Int) (c : pk_X), ck_R h K D st po pl fr → pk_I K D st po pl fr → 0 ≤ pl → pl + n = D → pk_end K D st = en → ck_C h K D c → (∀ y, c = some y → pk_end K D st < pk_end K D y.1) →
    ∃ h', ab_E B e 54 0 [some (.inr (.inr (.inl (some 7)))), some (.inl pl), some (.inl fr), some (.inl en), none] [] h = some (.inl none, h') ∧ ck_R h' K D st po pl fr ∧ ck_C h' K D (pk_mg K D c (pk_pl K D n st po pl fr)) ∧ cz_F h h' ∧ ∀ j, j < pl → ab_gi h' 15 j = ab_gi h 15 j
theorem m187 {e n : Nat} {K : pk_K} {D d pl fr en : Int} {h : ab_H} {st po : Int → Int} {c : pk_X} (hrec : ck_P B K D (e + 3) n) (hD5 : D ≤ 5) (hId : cs_sf K.2.2.1 0 D.toNat ≤ K.2.2.2.1)
    (hR : ck_R h K D st po pl fr) (hI : pk_I K D st po pl fr) (p1 : 0 ≤ pl) (p2 : pl + n + 1 = D) (hen : pk_end K D st = en) (hC : ck_C h K D c) (h1 : 0 ≤ d) (h2 : d < D) (h3 : st d = -1) :
    ∃ h', ab_E B (e + 4) 187 0 [some (.inr (.inr (.inl (some 7)))), some (.inl d), some (.inl pl), some (.inl fr), some (.inl en), none, none, none] [] h = some (.inl none, h') ∧ ck_R h' K D st po pl fr ∧ ck_C h' K D (pk_mg K D c (pk_x K D n st po pl fr d)) ∧ cz_F h h' ∧ ∀ j, j < pl → ab_gi h' 15 j = ab_gi h 15 j := by
  obtain ⟨⟨hT, hn, hKK⟩, hd, hpl, hrun, hfe, hrg⟩ := hR
  subst hKK
  have hL := hT.1
  have hK := ck_K_ok hT
  have hfr := hI.1
  have he0 := pk_end_0 (ck_K h) D st
  have he5 : en ≤ 69 := by
    rw [← hen]
    exact pk_end_le (by omega) (fun x x1 x2 x3 => by have := (hI.2.1 x x1 x2 x3).1; have := hK.1 x x1 (by omega); omega)
  have hls := m57 (B := B) (dd := e + 1) hT hd hD5 hId h1 h2 h3 hI hen (by omega) p1 (by omega) hrun
  have hsp := (hK.1 d h1 (by omega)).2.1
  rw [ck_K_2 h h1 (by omega)] at hsp
  have hpe := hC.2.1
  cases hu : pk_ls (ck_K h) D st d (61 - fr).toNat fr with
  | none =>
    have hx : pk_x (ck_K h) D n st po pl fr d = none := by unfold pk_x; rw [if_neg (by simp [h3]), hu]
    rw [hx, pk_mg_none]
    rw [hu] at hls
    simp only [pk_va, pk_ha] at hls
    have em : (if ab_w en < ab_w (-1 + ab_gi h 9 d) then ab_w (-1 + ab_gi h 9 d) else ab_w en) = if en < -1 + ab_gi h 9 d then -1 + ab_gi h 9 d else en := by simp (disch := omega) only [implies_true, Int.reduceSub, Option.isNone_some, Option.isNone_none, ab_bh_some, ab_bh_thr, ab_gs_3, ab_gl_2, ab_gl_3, ab_gt_some, ab_gc_0, ab_gk_0, Bool.false_eq_true, Bool.true_eq_false, false_implies, Nat.reduceEqDiff, ab_ge, ab_lt, ab_le, ab_gt, ab_eq, ab_ne, decide_eq_true_eq, ab_w_id, ab_w0, ab_gd_some, ab_gs_0, ab_gs_1, ab_gl_0, ab_gl_1, ab_bv_some, ab_bu_some, ab_bv_thr, ab_bu_thr, ab_fx_n, ab_fx_i, ab_fx_q, ab_fx_l, ab_sh_si, ab_gr_si, ab_gl_si, cs_n, ↓reduceIte, true_or, or_true, false_or, or_false, and_true, true_and, and_false, false_and, not_true_eq_false, not_false_eq_true, eq_self, Int.reduceEq, Int.reduceLT, Int.reduceLE, Int.reduceAdd, Int.reduceMul, Int.reduceNeg, if_pos, if_neg]
    have em2 : -1 ≤ (if en < -1 + ab_gi h 9 d then -1 + ab_gi h 9 d else en) ∧ (if en < -1 + ab_gi h 9 d then -1 + ab_gi h 9 d else en) ≤ 1000 := by split <;> omega
    refine ⟨h, ?_, ⟨⟨hT, hn, rfl⟩, hd, hpl, hrun, hfe, hrg⟩, hC, cz_F.rfl' h, fun _ _ => rfl⟩
    by_cases c3 : ab_gi h 7 6 = -1
    · simp (disch := omega) only [e187_0, e187_1, e187_2, e187_3, e187_4, e187_6, e187_9, e187_11, e187_13, e187_15, e187_16, e187_17, e187_20, e187_21, e187_24, e187_26, e187_27, e187_30, e187_31, e187_34, e187_36, e187_37, e187_40, e187_43, e187_44, e187_47, e187_48, e187_50, e187_52, e187_53, e187_56, e187_58, e187_61, e187_62, e187_65, e187_66, e187_67, e187_70, e187_71, e187_72, e187_75, e187_76, e187_77, e187_78, e187_79, e187_82, e187_83, e187_85, e187_86, e187_87, e187_88, e187_90, e187_91, e187_94, e187_95, e187_96, e187_97, e187_98, e187_100, e187_102, e187_105, e187_106, e187_107, e187_109, e187_110, e187_113, e187_114, e187_117, e187_118, e187_119, e187_120, implies_true, Int.reduceSub, Option.isNone_some, Option.isNone_none, ab_bh_some, ab_bh_thr, ab_gs_3, ab_gl_2, ab_gl_3, ab_gt_some, ab_gc_0, ab_gk_0, Bool.false_eq_true, Bool.true_eq_false, false_implies, Nat.reduceEqDiff, ab_ge, ab_lt, ab_le, ab_gt, ab_eq, ab_ne, decide_eq_true_eq, ab_w_id, ab_w0, ab_gd_some, ab_gs_0, ab_gs_1, ab_gl_0, ab_gl_1, ab_bv_some, ab_bu_some, ab_bv_thr, ab_bu_thr, ab_fx_n, ab_fx_i, ab_fx_q, ab_fx_l, ab_sh_si, ab_gr_si, ab_gl_si, cs_n, ↓reduceIte, true_or, or_true, false_or, or_false, and_true, true_and, and_false, false_and, not_true_eq_false, not_false_eq_true, eq_self, Int.reduceEq, Int.reduceLT, Int.reduceLE, Int.reduceAdd, Int.reduceMul, Int.reduceNeg, if_pos, if_neg, hL.1, hL.2, hls, m41 hT h1 (show d < 5 by omega), em, eq_true c3]
    · by_cases c4 : (if en < -1 + ab_gi h 9 d then -1 + ab_gi h 9 d else en) < ab_gi h 7 6
      · simp (disch := omega) only [e187_0, e187_1, e187_2, e187_3, e187_4, e187_6, e187_9, e187_11, e187_13, e187_15, e187_16, e187_17, e187_20, e187_21, e187_24, e187_26, e187_27, e187_30, e187_31, e187_34, e187_36, e187_37, e187_40, e187_43, e187_44, e187_47, e187_48, e187_50, e187_52, e187_53, e187_56, e187_58, e187_61, e187_62, e187_65, e187_66, e187_67, e187_70, e187_71, e187_72, e187_75, e187_76, e187_77, e187_78, e187_79, e187_82, e187_83, e187_85, e187_86, e187_87, e187_88, e187_90, e187_91, e187_94, e187_95, e187_96, e187_97, e187_98, e187_100, e187_102, e187_105, e187_106, e187_107, e187_109, e187_110, e187_113, e187_114, e187_117, e187_118, e187_119, e187_120, implies_true, Int.reduceSub, Option.isNone_some, Option.isNone_none, ab_bh_some, ab_bh_thr, ab_gs_3, ab_gl_2, ab_gl_3, ab_gt_some, ab_gc_0, ab_gk_0, Bool.false_eq_true, Bool.true_eq_false, false_implies, Nat.reduceEqDiff, ab_ge, ab_lt, ab_le, ab_gt, ab_eq, ab_ne, decide_eq_true_eq, ab_w_id, ab_w0, ab_gd_some, ab_gs_0, ab_gs_1, ab_gl_0, ab_gl_1, ab_bv_some, ab_bu_some, ab_bv_thr, ab_bu_thr, ab_fx_n, ab_fx_i, ab_fx_q, ab_fx_l, ab_sh_si, ab_gr_si, ab_gl_si, cs_n, ↓reduceIte, true_or, or_true, false_or, or_false, and_true, true_and, and_false, false_and, not_true_eq_false, not_false_eq_true, eq_self, Int.reduceEq, Int.reduceLT, Int.reduceLE, Int.reduceAdd, Int.reduceMul, Int.reduceNeg, if_pos, if_neg, hL.1, hL.2, hls, m41 hT h1 (show d < 5 by omega), em, eq_false c3, eq_true c4]
      · simp (disch := omega) only [e187_0, e187_1, e187_2, e187_3, e187_4, e187_6, e187_9, e187_11, e187_13, e187_15, e187_16, e187_17, e187_20, e187_21, e187_24, e187_26, e187_27, e187_30, e187_31, e187_34, e187_36, e187_37, e187_40, e187_43, e187_44, e187_47, e187_48, e187_50, e187_52, e187_53, e187_56, e187_58, e187_61, e187_62, e187_65, e187_66, e187_67, e187_70, e187_71, e187_72, e187_75, e187_76, e187_77, e187_78, e187_79, e187_82, e187_83, e187_85, e187_86, e187_87, e187_88, e187_90, e187_91, e187_94, e187_95, e187_96, e187_97, e187_98, e187_100, e187_102, e187_105, e187_106, e187_107, e187_109, e187_110, e187_113, e187_114, e187_117, e187_118, e187_119, e187_120, implies_true, Int.reduceSub, Option.isNone_some, Option.isNone_none, ab_bh_some, ab_bh_thr, ab_gs_3, ab_gl_2, ab_gl_3, ab_gt_some, ab_gc_0, ab_gk_0, Bool.false_eq_true, Bool.true_eq_false, false_implies, Nat.reduceEqDiff, ab_ge, ab_lt, ab_le, ab_gt, ab_eq, ab_ne, decide_eq_true_eq, ab_w_id, ab_w0, ab_gd_some, ab_gs_0, ab_gs_1, ab_gl_0, ab_gl_1, ab_bv_some, ab_bu_some, ab_bv_thr, ab_bu_thr, ab_fx_n, ab_fx_i, ab_fx_q, ab_fx_l, ab_sh_si, ab_gr_si, ab_gl_si, cs_n, ↓reduceIte, true_or, or_true, false_or, or_false, and_true, true_and, and_false, false_and, not_true_eq_false, not_false_eq_true, eq_self, Int.reduceEq, Int.reduceLT, Int.reduceLE, Int.reduceAdd, Int.reduceMul, Int.reduceNeg, if_pos, if_neg, hL.1, hL.2, hls, m41 hT h1 (show d < 5 by omega), em, eq_false c3, eq_false c4]
  | some u =>
    obtain ⟨u1, u2, u3⟩ := pk_ls_some _ _ hu
    have hx : pk_x (ck_K h) D n st po pl fr d = pk_pl (ck_K h) D n (pk_up st d u) (pk_up po d pl) (pl + 1) u := by unfold pk_x; rw [if_neg (by simp [h3]), hu]
    rw [hu] at hls
    simp only [pk_va, pk_ha] at hls
    have hup := pk_end_up (K := ck_K h) h1 h2 h3 (show 0 ≤ u by omega) (by rw [ck_K_2 h h1 (by omega)]; omega)
    rw [hen, ck_K_2 h h1 (by omega)] at hup
    have em : (if ab_w en < ab_w (u + ab_gi h 9 d) then ab_w (u + ab_gi h 9 d) else ab_w en) = if en < u + ab_gi h 9 d then u + ab_gi h 9 d else en := by simp (disch := omega) only [implies_true, Int.reduceSub, Option.isNone_some, Option.isNone_none, ab_bh_some, ab_bh_thr, ab_gs_3, ab_gl_2, ab_gl_3, ab_gt_some, ab_gc_0, ab_gk_0, Bool.false_eq_true, Bool.true_eq_false, false_implies, Nat.reduceEqDiff, ab_ge, ab_lt, ab_le, ab_gt, ab_eq, ab_ne, decide_eq_true_eq, ab_w_id, ab_w0, ab_gd_some, ab_gs_0, ab_gs_1, ab_gl_0, ab_gl_1, ab_bv_some, ab_bu_some, ab_bv_thr, ab_bu_thr, ab_fx_n, ab_fx_i, ab_fx_q, ab_fx_l, ab_sh_si, ab_gr_si, ab_gl_si, cs_n, ↓reduceIte, true_or, or_true, false_or, or_false, and_true, true_and, and_false, false_and, not_true_eq_false, not_false_eq_true, eq_self, Int.reduceEq, Int.reduceLT, Int.reduceLE, Int.reduceAdd, Int.reduceMul, Int.reduceNeg, if_pos, if_neg]
    have em2 : -1 ≤ (if en < u + ab_gi h 9 d then u + ab_gi h 9 d else en) ∧ (if en < u + ab_gi h 9 d then u + ab_gi h 9 d else en) ≤ 1000 := by split <;> omega
    have f1 : cz_F h (ab_si h 15 pl (pk_rf (pk_ov (ck_K h) D st) 0 0 u.toNat)) := cz_F.si (Or.inl (by omega))
    have hT1 := f1.T hT
    have hL1 := hT1.1
    have ep1 : ab_gi (ab_si h 15 pl (pk_rf (pk_ov (ck_K h) D st) 0 0 u.toNat)) 7 6 = ab_gi h 7 6 := by rw [ab_gi_si, if_neg (by simp)]
    have es1 : ab_gi (ab_si h 15 pl (pk_rf (pk_ov (ck_K h) D st) 0 0 u.toNat)) 9 d = ab_gi h 9 d := by rw [ab_gi_si, if_neg (by simp)]
    have m41' := m41 (B := B) (dd := e + 3) hT1 h1 (show d < 5 by omega)
    rw [es1] at m41'
    have eu : ¬ u = -1 := by omega
    have hI2 := hI.up p1 h1 h2 h3 hu
    by_cases c3 : ab_gi h 7 6 ≠ -1 ∧ ab_gi h 7 6 ≤ (if en < u + ab_gi h 9 d then u + ab_gi h 9 d else en)
    · have hmg : pk_mg (ck_K h) D c (pk_x (ck_K h) D n st po pl fr d) = c := by
        rw [hx]
        cases hy : pk_pl (ck_K h) D n (pk_up st d u) (pk_up po d pl) (pl + 1) u with
        | none => rfl
        | some y =>
          have hF := (pk_pl_F (by omega) n _ _ _ _ hI2 (by omega) (by omega) y hy).en
          rw [hup] at hF
          cases c with
          | none => exact absurd hC.1 c3.1
          | some z =>
            have := hC.1.1
            unfold pk_mg
            simp only
            rw [if_neg (by omega)]
      rw [hmg]
      have c4 : ¬ (if en < u + ab_gi h 9 d then u + ab_gi h 9 d else en) < ab_gi h 7 6 := by omega
      refine ⟨_, ?_, ⟨⟨hT1, by rw [f1.n]; exact hn, f1.KK⟩, ⟨by rw [f1.KK, ab_gi_si, if_neg (by simp)]; exact hd.1, fun t q1 q2 => by rw [f1.KK, ab_gi_si, if_neg (by simp)]; exact hd.2 t q1 q2⟩, fun x q1 q2 => by rw [ab_gi_si, if_neg (by simp), ab_gi_si, if_neg (by simp)]; exact hpl x q1 q2, ?_, hfe, fun x q1 q2 => by rw [ab_gi_si, if_neg (by simp)]; exact hrg x q1 q2⟩, hC.of ep1 (fun c x q => by rw [ab_gi_si, if_neg (by omega)]), f1, fun j hj => by rw [ab_gi_si, if_neg (by omega)]⟩
      · simp (disch := omega) only [e187_0, e187_1, e187_2, e187_3, e187_4, e187_6, e187_9, e187_11, e187_13, e187_15, e187_16, e187_17, e187_20, e187_21, e187_24, e187_26, e187_27, e187_30, e187_31, e187_34, e187_36, e187_37, e187_40, e187_43, e187_44, e187_47, e187_48, e187_50, e187_52, e187_53, e187_56, e187_58, e187_61, e187_62, e187_65, e187_66, e187_67, e187_70, e187_71, e187_72, e187_75, e187_76, e187_77, e187_78, e187_79, e187_82, e187_83, e187_85, e187_86, e187_87, e187_88, e187_90, e187_91, e187_94, e187_95, e187_96, e187_97, e187_98, e187_100, e187_102, e187_105, e187_106, e187_107, e187_109, e187_110, e187_113, e187_114, e187_117, e187_118, e187_119, e187_120, implies_true, Int.reduceSub, Option.isNone_some, Option.isNone_none, ab_bh_some, ab_bh_thr, ab_gs_3, ab_gl_2, ab_gl_3, ab_gt_some, ab_gc_0, ab_gk_0, Bool.false_eq_true, Bool.true_eq_false, false_implies, Nat.reduceEqDiff, ab_ge, ab_lt, ab_le, ab_gt, ab_eq, ab_ne, decide_eq_true_eq, ab_w_id, ab_w0, ab_gd_some, ab_gs_0, ab_gs_1, ab_gl_0, ab_gl_1, ab_bv_some, ab_bu_some, ab_bv_thr, ab_bu_thr, ab_fx_n, ab_fx_i, ab_fx_q, ab_fx_l, ab_sh_si, ab_gr_si, ab_gl_si, cs_n, ↓reduceIte, true_or, or_true, false_or, or_false, and_true, true_and, and_false, false_and, not_true_eq_false, not_false_eq_true, eq_self, Int.reduceEq, Int.reduceLT, Int.reduceLE, Int.reduceAdd, Int.reduceMul, Int.reduceNeg, if_pos, if_neg, hL.1, hL.2, hL1.1, hL1.2, hls, m41', em, ep1, eq_false c3.1, eq_false c4, eq_false eu]
      · rw [← hrun]
        by_cases q : 0 < pl
        · rw [if_pos q, if_pos q, ab_gi_si, if_neg (by omega)]
        · rw [if_neg q, if_neg q]
    · have f2 : cz_F h (ab_si (ab_si (ab_si h 15 pl (pk_rf (pk_ov (ck_K h) D st) 0 0 u.toNat)) 14 d pl) 13 d u) := (f1.trans (cz_F.si (Or.inl (by omega)))).trans (cz_F.si (Or.inl (by omega)))
      have hg2 : ∀ c x, ab_gi (ab_si (ab_si (ab_si h 15 pl (pk_rf (pk_ov (ck_K h) D st) 0 0 u.toNat)) 14 d pl) 13 d u) c x = if c = 13 ∧ x = d then u else if c = 14 ∧ x = d then pl else if c = 15 ∧ x = pl then pk_rf (pk_ov (ck_K h) D st) 0 0 u.toNat else ab_gi h c x := fun c x => by rw [ab_gi_si, ab_gi_si, ab_gi_si]
      generalize eh2 : ab_si (ab_si (ab_si h 15 pl (pk_rf (pk_ov (ck_K h) D st) 0 0 u.toNat)) 14 d pl) 13 d u = g2 at f2 hg2
      have hT2 := f2.T hT
      have hL2 := hT2.1
      have a3 := m56 (B := B) (dd := e + 2) (ti := 1) hT2 h1 (show d < 5 by omega) (show 0 ≤ u by omega) (show u ≤ 60 by omega)
      have f3 : cz_F g2 (cs_ad g2 d u 1) := cs_ad_F
      have hg3 := cs_ad_gi (h := g2) (d := d) (st := u) (ti := 1)
      generalize cs_ad g2 d u 1 = g3 at a3 f3 hg3
      have f23 := f2.trans f3
      have hT3 := f23.T hT
      have hL3 := hT3.1
      have e9 : ab_gi g2 9 d = ab_gi h 9 d := f2.2 9 d (by omega) (by simp)
      have e8 : ab_gi g2 8 d = ab_gi h 8 d := f2.2 8 d (by omega) (by simp)
      have e10 : ab_gi g2 10 d = ab_gi h 10 d := f2.2 10 d (by omega) (by simp)
      rw [e8, e9, e10] at hg3
      have q13 : ∀ x, ab_gi g3 13 x = if x = d then u else ab_gi h 13 x := fun x => by
        rw [hg3, if_neg (by omega), if_neg (by omega), hg2]
        by_cases q : x = d
        · rw [if_pos ⟨rfl, q⟩, if_pos q]
        · rw [if_neg (fun z => q z.2), if_neg q, if_neg (by omega), if_neg (by omega)]
      have q14 : ∀ x, ab_gi g3 14 x = if x = d then pl else ab_gi h 14 x := fun x => by
        rw [hg3, if_neg (by omega), if_neg (by omega), hg2, if_neg (by omega)]
        by_cases q : x = d
        · rw [if_pos ⟨rfl, q⟩, if_pos q]
        · rw [if_neg (fun z => q z.2), if_neg q, if_neg (by omega)]
      have hR3 : ck_R g3 (ck_K h) D (pk_up st d u) (pk_up po d pl) (pl + 1) u := by
        refine ⟨⟨hT3, by rw [f23.n]; exact hn, f23.KK⟩, ⟨?_, fun t q1 q2 => ?_⟩, fun x q1 q2 => ?_, ?_, ?_, fun x q1 q2 => ?_⟩
        · rw [f23.KK, pk_id_up h1 h2 h3 (by omega), ck_K_3 h h1 (by omega), ← hd.1, hg3, if_neg (by omega), if_pos ⟨rfl, rfl⟩, hg2, if_neg (by omega), if_neg (by omega), if_neg (by omega)]; omega
        · rw [f23.KK, pk_su_up h1 h2 h3 (by omega), ck_K_1 h h1 (by omega), ck_K_2 h h1 (by omega), ck_K_3 h h1 (by omega), ← hd.2 t q1 q2, hg3, hg2, if_neg (show ¬ (16 = 13 ∧ t = d) by omega), if_neg (show ¬ (16 = 14 ∧ t = d) by omega), if_neg (show ¬ (16 = 15 ∧ t = pl) by omega)]
          by_cases q : u ≤ t ∧ t < u + ab_gi h 9 d
          · rw [if_pos q, if_pos ⟨rfl, q.1, by omega⟩]; omega
          · rw [if_neg q, if_neg (by omega), if_neg (by omega)]; omega
        · rw [q13, q14]
          by_cases q : x = d
          · rw [if_pos q, if_pos q, q, pk_up_s, pk_up_s]
            exact ⟨fun q => absurd q eu, fun _ => ⟨rfl, rfl⟩⟩
          · rw [pk_up_n q, pk_up_n q, if_neg q, if_neg q]
            exact hpl x q1 q2
        · rw [if_pos (by omega), hg3, if_neg (by omega), if_neg (by omega), hg2, if_neg (by omega), if_neg (by omega), if_pos ⟨rfl, by omega⟩]
          refine pk_rf_congr _ _ _ _ (fun j q1 q2 => ?_)
          unfold pk_ov
          rw [pk_dr_before h3 (by omega) (by omega)]
        · rw [hup]; split <;> omega
        · rw [q13]
          by_cases q : x = d
          · rw [if_pos q]; omega
          · rw [if_neg q]; exact hrg x q1 q2
      have hC3 : ck_C g3 (ck_K h) D c := hC.of (by rw [hg3, if_neg (by omega), if_neg (by omega), hg2, if_neg (by omega), if_neg (by omega), if_neg (by omega)]) (fun c x q => by rw [hg3, if_neg (by omega), if_neg (by omega), hg2, if_neg (by omega), if_neg (by omega), if_neg (by omega)])
      obtain ⟨h4, a4, ⟨⟨hT4, hn4, hK4⟩, hd4, hpl4, -, -, hrg4⟩, hC4, f4, r4⟩ := hrec g3 (pk_up st d u) (pk_up po d pl) (pl + 1) u _ c hR3 hI2 (by omega) (by omega) hup hC3 (fun y hy => by
        subst hy
        have q1 := hC.1.1
        have q2 := pk_end_0 (ck_K h) D y.1
        rw [hup]
        omega)
      have hL4 := hT4.1
      have a5 := m56 (B := B) (dd := e + 2) (ti := -1) hT4 h1 (show d < 5 by omega) (show 0 ≤ u by omega) (show u ≤ 60 by omega)
      have f5 : cz_F h4 (cs_ad h4 d u (-1)) := cs_ad_F
      have hg5 := cs_ad_gi (h := h4) (d := d) (st := u) (ti := -1)
      generalize cs_ad h4 d u (-1) = h5 at a5 f5 hg5
      have f24 := f23.trans f4
      rw [f24.2 8 d (by omega) (by simp), f24.2 9 d (by omega) (by simp), f24.2 10 d (by omega) (by simp)] at hg5
      have hT5 := f5.T hT4
      have hL5 := hT5.1
      have f6 : cz_F h (ab_si h5 14 d (-1)) := (f24.trans f5).trans (cz_F.si (Or.inl (by omega)))
      have hg6 : ∀ c x, ab_gi (ab_si h5 14 d (-1)) c x = if c = 14 ∧ x = d then -1 else ab_gi h5 c x := fun c x => by rw [ab_gi_si]
      unfold ck_D at hd4
      rw [hK4] at hd4
      refine ⟨ab_si h5 14 d (-1), ?_, ⟨⟨f6.T hT, by rw [f6.n]; exact hn, f6.KK⟩, ⟨?_, fun t q1 q2 => ?_⟩, fun x q1 q2 => ?_, ?_, hfe, fun x q1 q2 => ?_⟩, hx ▸ hC4.of ?_ (fun c x q => ?_), f6, fun j hj => ?_⟩
      · by_cases c4 : ab_gi h 7 6 = -1
        · simp (disch := omega) only [e187_0, e187_1, e187_2, e187_3, e187_4, e187_6, e187_9, e187_11, e187_13, e187_15, e187_16, e187_17, e187_20, e187_21, e187_24, e187_26, e187_27, e187_30, e187_31, e187_34, e187_36, e187_37, e187_40, e187_43, e187_44, e187_47, e187_48, e187_50, e187_52, e187_53, e187_56, e187_58, e187_61, e187_62, e187_65, e187_66, e187_67, e187_70, e187_71, e187_72, e187_75, e187_76, e187_77, e187_78, e187_79, e187_82, e187_83, e187_85, e187_86, e187_87, e187_88, e187_90, e187_91, e187_94, e187_95, e187_96, e187_97, e187_98, e187_100, e187_102, e187_105, e187_106, e187_107, e187_109, e187_110, e187_113, e187_114, e187_117, e187_118, e187_119, e187_120, implies_true, Int.reduceSub, Option.isNone_some, Option.isNone_none, ab_bh_some, ab_bh_thr, ab_gs_3, ab_gl_2, ab_gl_3, ab_gt_some, ab_gc_0, ab_gk_0, Bool.false_eq_true, Bool.true_eq_false, false_implies, Nat.reduceEqDiff, ab_ge, ab_lt, ab_le, ab_gt, ab_eq, ab_ne, decide_eq_true_eq, ab_w_id, ab_w0, ab_gd_some, ab_gs_0, ab_gs_1, ab_gl_0, ab_gl_1, ab_bv_some, ab_bu_some, ab_bv_thr, ab_bu_thr, ab_fx_n, ab_fx_i, ab_fx_q, ab_fx_l, ab_sh_si, ab_gr_si, ab_gl_si, cs_n, ↓reduceIte, true_or, or_true, false_or, or_false, and_true, true_and, and_false, false_and, not_true_eq_false, not_false_eq_true, eq_self, Int.reduceEq, Int.reduceLT, Int.reduceLE, Int.reduceAdd, Int.reduceMul, Int.reduceNeg, if_pos, if_neg, hL.1, hL.2, hL1.1, hL1.2, eh2, hL2.1, hL2.2, hL3.1, hL3.2, hL4.1, hL4.2, hL5.1, hL5.2, hls, m41', em, ep1, eq_true c4, eq_false eu, a3, a4, a5]
        · have c6 : (if en < u + ab_gi h 9 d then u + ab_gi h 9 d else en) < ab_gi h 7 6 := by omega
          simp (disch := omega) only [e187_0, e187_1, e187_2, e187_3, e187_4, e187_6, e187_9, e187_11, e187_13, e187_15, e187_16, e187_17, e187_20, e187_21, e187_24, e187_26, e187_27, e187_30, e187_31, e187_34, e187_36, e187_37, e187_40, e187_43, e187_44, e187_47, e187_48, e187_50, e187_52, e187_53, e187_56, e187_58, e187_61, e187_62, e187_65, e187_66, e187_67, e187_70, e187_71, e187_72, e187_75, e187_76, e187_77, e187_78, e187_79, e187_82, e187_83, e187_85, e187_86, e187_87, e187_88, e187_90, e187_91, e187_94, e187_95, e187_96, e187_97, e187_98, e187_100, e187_102, e187_105, e187_106, e187_107, e187_109, e187_110, e187_113, e187_114, e187_117, e187_118, e187_119, e187_120, implies_true, Int.reduceSub, Option.isNone_some, Option.isNone_none, ab_bh_some, ab_bh_thr, ab_gs_3, ab_gl_2, ab_gl_3, ab_gt_some, ab_gc_0, ab_gk_0, Bool.false_eq_true, Bool.true_eq_false, false_implies, Nat.reduceEqDiff, ab_ge, ab_lt, ab_le, ab_gt, ab_eq, ab_ne, decide_eq_true_eq, ab_w_id, ab_w0, ab_gd_some, ab_gs_0, ab_gs_1, ab_gl_0, ab_gl_1, ab_bv_some, ab_bu_some, ab_bv_thr, ab_bu_thr, ab_fx_n, ab_fx_i, ab_fx_q, ab_fx_l, ab_sh_si, ab_gr_si, ab_gl_si, cs_n, ↓reduceIte, true_or, or_true, false_or, or_false, and_true, true_and, and_false, false_and, not_true_eq_false, not_false_eq_true, eq_self, Int.reduceEq, Int.reduceLT, Int.reduceLE, Int.reduceAdd, Int.reduceMul, Int.reduceNeg, if_pos, if_neg, hL.1, hL.2, hL1.1, hL1.2, eh2, hL2.1, hL2.2, hL3.1, hL3.2, hL4.1, hL4.2, hL5.1, hL5.2, hls, m41', em, ep1, eq_false c4, eq_true c6, eq_false eu, a3, a4, a5]
      · have q := hd4.1
        rw [pk_id_up h1 h2 h3 (by omega), ck_K_3 h h1 (by omega)] at q
        rw [f6.KK, hg6, if_neg (by omega), hg5, if_neg (by omega), if_pos ⟨rfl, rfl⟩]; omega
      · have q := hd4.2 t q1 q2
        rw [pk_su_up h1 h2 h3 (by omega), ck_K_1 h h1 (by omega), ck_K_2 h h1 (by omega), ck_K_3 h h1 (by omega)] at q
        rw [f6.KK, hg6, if_neg (by omega), hg5]
        by_cases z : u ≤ t ∧ t < u + ab_gi h 9 d
        · rw [if_pos z] at q; rw [if_pos ⟨rfl, z.1, by omega⟩]; omega
        · rw [if_neg z] at q; rw [if_neg (by omega), if_neg (by omega)]; omega
      · have s13 : ab_gi (ab_si h5 14 d (-1)) 13 x = ab_gi h4 13 x := by rw [hg6, if_neg (by omega), hg5, if_neg (by omega), if_neg (by omega)]
        have s14 : ab_gi (ab_si h5 14 d (-1)) 14 x = if x = d then -1 else ab_gi h4 14 x := by
          rw [hg6]
          by_cases q : x = d
          · rw [if_pos ⟨rfl, q⟩, if_pos q]
          · rw [if_neg (fun z => q z.2), if_neg q, hg5, if_neg (by omega), if_neg (by omega)]
        rw [s13, s14]
        by_cases q : x = d
        · rw [if_pos q, q]
          exact ⟨fun _ => rfl, fun q => absurd h3 q⟩
        · rw [if_neg q]
          have := hpl4 x q1 q2
          rw [pk_up_n q, pk_up_n q] at this
          exact this
      · rw [← hrun]
        by_cases q : 0 < pl
        · rw [if_pos q, if_pos q, hg6, if_neg (by omega), hg5, if_neg (by omega), if_neg (by omega), r4 _ (by omega), hg3, if_neg (by omega), if_neg (by omega), hg2, if_neg (by omega), if_neg (by omega), if_neg (by omega)]
        · rw [if_neg q, if_neg q]
      · rw [hg6, if_neg (by omega), hg5, if_neg (by omega), if_neg (by omega)]; exact hrg4 x q1 q2
      · rw [hg6, if_neg (by omega), hg5, if_neg (by omega), if_neg (by omega)]
      · rw [hg6, if_neg (by omega), hg5, if_neg (by omega), if_neg (by omega)]
      · rw [hg6, if_neg (by omega), hg5, if_neg (by omega), if_neg (by omega), r4 _ (by omega), hg3, if_neg (by omega), if_neg (by omega), hg2, if_neg (by omega), if_neg (by omega), if_neg (by omega)]
end
