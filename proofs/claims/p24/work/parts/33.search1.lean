set_option linter.all false
/-! THE CLASS'S SEARCH of the plan: the least start -/
section
variable {B : ab_B}
def ck_K (h : ab_H) : pk_K := (fun d => if 0 ≤ d ∧ d < 5 then ab_gi h 8 d else 0, fun d => if 0 ≤ d ∧ d < 5 then ab_gi h 9 d else 0, fun d => if 0 ≤ d ∧ d < 5 then ab_gi h 10 d else 0, ab_gi h 7 0, ab_gi h 7 1)
theorem ck_K_1 (h : ab_H) {d : Int} (h1 : 0 ≤ d) (h2 : d < 5) : (ck_K h).1 d = ab_gi h 8 d := if_pos ⟨h1, h2⟩
theorem ck_K_2 (h : ab_H) {d : Int} (h1 : 0 ≤ d) (h2 : d < 5) : (ck_K h).2.1 d = ab_gi h 9 d := if_pos ⟨h1, h2⟩
theorem ck_K_3 (h : ab_H) {d : Int} (h1 : 0 ≤ d) (h2 : d < 5) : (ck_K h).2.2.1 d = ab_gi h 10 d := if_pos ⟨h1, h2⟩
theorem ck_K_ok {h : ab_H} (hT : cs_T h) : pk_ok (ck_K h) := by
  refine ⟨fun d h1 h2 => ?_, hT.2.2.1, hT.2.2.2.1⟩
  rw [ck_K_1 h h1 h2, ck_K_2 h h1 h2, ck_K_3 h h1 h2]
  exact hT.2.2.2.2 d h1 h2
theorem ck_K_congr {h h' : ab_H} (e0 : ab_gi h' 7 0 = ab_gi h 7 0) (e1 : ab_gi h' 7 1 = ab_gi h 7 1) (e : ∀ c d, c = 8 ∨ c = 9 ∨ c = 10 → ab_gi h' c d = ab_gi h c d) : ck_K h' = ck_K h := by
  unfold ck_K
  rw [e0, e1, show (fun d => if 0 ≤ d ∧ d < 5 then ab_gi h' 8 d else 0) = (fun d => if 0 ≤ d ∧ d < 5 then ab_gi h 8 d else 0) from funext (fun d => by rw [e 8 d (by simp)]), show (fun d => if 0 ≤ d ∧ d < 5 then ab_gi h' 9 d else 0) = (fun d => if 0 ≤ d ∧ d < 5 then ab_gi h 9 d else 0) from funext (fun d => by rw [e 9 d (by simp)]), show (fun d => if 0 ≤ d ∧ d < 5 then ab_gi h' 10 d else 0) = (fun d => if 0 ≤ d ∧ d < 5 then ab_gi h 10 d else 0) from funext (fun d => by rw [e 10 d (by simp)])]
theorem cs_ds_si {h : ab_H} {d t : Int} (h1 : 0 ≤ d) (h2 : d < 5) : cs_ds h d t = pk_si (ck_K h) d t := by
  unfold cs_ds pk_si
  rw [ck_K_1 h h1 h2, ck_K_2 h h1 h2, ck_K_3 h h1 h2]
/-- what the placed ones draw, as the heap has it -/
def ck_D (h : ab_H) (D : Int) (st : Int → Int) : Prop := ab_gi h 7 12 = pk_id (ck_K h) D st ∧ ∀ t, 0 ≤ t → t < 100 → ab_gi h 16 t = pk_su (ck_K h) D st t
theorem ck_D.U {h : ab_H} {D : Int} {st : Int → Int} (hd : ck_D h D st) (hT : cs_T h) (hD5 : D ≤ 5) : cs_U h := by
  obtain ⟨a, b⟩ := hd
  have hK := ck_K_ok hT
  refine ⟨?_, fun t q1 q2 => ?_⟩
  · rw [a]; have := pk_id_rng (D := D) (st := st) hK hD5; omega
  · rw [b t q1 q2]; have := pk_su_rng (D := D) (t := t) (st := st) hK hD5; omega
theorem cs_tw_g {h : ab_H} {D d u : Int} {st : Int → Int} (hd : ck_D h D st) (h1 : 0 ≤ d) (h2 : d < D) (hD5 : D ≤ 5) (h3 : st d = -1) (h4 : 0 ≤ u) (hs : ∀ x, 0 ≤ x → x < D → st x ≠ -1 → st x ≤ u) : ∀ (k : Nat) (run t : Int), u ≤ t → t + k ≤ 100 → cs_tw h d u run t k = if pk_g (ab_gi h 7 1) (pk_ov (ck_K h) D (pk_up st d u)) run t k = true then 1 else 0
  | 0, run, t, _, _ => by simp [cs_tw, pk_g]
  | k + 1, run, t, q1, q2 => by
    have e : ab_gi h 7 12 + ab_gi h 16 t + cs_ds h d (t - u) = pk_dr (ck_K h) D (pk_up st d u) t := by
      rw [pk_dr_with h1 h2 h3 h4 q1, pk_dr_su (fun x x1 x2 x3 => by have := hs x x1 x2 x3; omega), hd.1, hd.2 t (by omega) (by omega), cs_ds_si h1 (by omega)]
    have e2 : (pk_ov (ck_K h) D (pk_up st d u) t = true) = (ab_gi h 7 0 < pk_dr (ck_K h) D (pk_up st d u) t) := by
      unfold pk_ov; rw [decide_eq_true_eq]; rfl
    rw [pk_g_s]
    unfold cs_tw
    rw [e]
    simp only [e2]
    by_cases c : ab_gi h 7 1 < (if ab_gi h 7 0 < pk_dr (ck_K h) D (pk_up st d u) t then run + 1 else 0)
    · rw [if_pos c, if_pos c]; rfl
    · rw [if_neg c, if_neg c]
      exact cs_tw_g hd h1 h2 hD5 h3 h4 hs k _ (t + 1) (by omega) (by omega)
def pk_va (o : Option Int) : Int := match o with
  | none => -1
  | some v => v
def pk_ha (h : ab_H) (pl : Int) (ov : Int → Bool) (o : Option Int) : ab_H := match o with
  | none => h
  | some v => ab_si h 15 pl (pk_rf ov 0 0 v.toNat)
theorem m57_loop {dd : Nat} {D d pl fr ea en la : Int} {h : ab_H} {st po : Int → Int} (hT : cs_T h) (hd : ck_D h D st) (hD5 : D ≤ 5) (hId : cs_sf (ck_K h).2.2.1 0 D.toNat ≤ ab_gi h 7 0) (h1 : 0 ≤ d) (h2 : d < D) (h3 : st d = -1) (hI : pk_I (ck_K h) D st po pl fr) (hen : pk_end (ck_K h) D st = en) (hfe : fr ≤ en) (p1 : 0 ≤ pl) (p2 : pl < 5) (hla : la = if en + 1 < 60 then en + 1 else 60) : ∀ (k : Nat) (u run : Int), fr ≤ u → u + k = 61 → (∀ v, fr ≤ v → v < u → pk_trips (ck_K h) D (pk_up st d v) = true) → run = pk_rf (pk_ov (ck_K h) D st) 0 0 u.toNat →
    ab_E B (dd + 2) 57 41 [some (.inr (.inr (.inl (some 7)))), some (.inl d), some (.inl pl), some (.inl ea), some (.inl en), some (.inl run), some (.inl la), some (.inl u)] [] h = some (.inl (some (.inl (pk_va (pk_ls (ck_K h) D st d k u)))), pk_ha h pl (pk_ov (ck_K h) D st) (pk_ls (ck_K h) D st d k u))
  | 0, u, run, q1, q2, hb, hr => by
    have hL := hT.1
    have : ¬ u ≤ la := by subst hla; split <;> omega
    rw [e57_41]
    have hla2 : -1 ≤ la ∧ la ≤ 60 := by
      have := pk_end_0 (ck_K h) D st
      subst hla; split <;> omega
    simp (disch := omega) only [e57_0, e57_1, e57_4, e57_5, e57_6, e57_9, e57_10, e57_13, e57_14, e57_15, e57_16, e57_17, e57_20, e57_21, e57_23, e57_25, e57_27, e57_28, e57_29, e57_32, e57_34, e57_35, e57_36, e57_39, e57_43, e57_45, e57_48, e57_50, e57_51, e57_54, e57_55, e57_58, e57_59, e57_60, e57_62, e57_64, e57_66, e57_67, e57_68, e57_71, e57_72, e57_75, e57_77, e57_80, e57_83, e57_84, e57_85, e57_87, e57_90, e57_92, e57_93, e57_94, e57_97, e57_98, e57_101, e57_103, e57_104, e57_105, e57_106, e57_109, e57_112, e57_114, e57_115, e57_116, e57_119, e57_120, e57_122, e57_125, e57_128, e57_129, implies_true, Int.reduceSub, Option.isNone_some, Option.isNone_none, ab_bh_some, ab_bh_thr, ab_gs_3, ab_gl_2, ab_gl_3, ab_gt_some, ab_gc_0, ab_gk_0, Bool.false_eq_true, Bool.true_eq_false, false_implies, Nat.reduceEqDiff, ab_ge, ab_lt, ab_le, ab_gt, ab_eq, ab_ne, decide_eq_true_eq, ab_w_id, ab_w0, ab_gd_some, ab_gs_0, ab_gs_1, ab_gl_0, ab_gl_1, ab_bv_some, ab_bu_some, ab_bv_thr, ab_bu_thr, ab_fx_n, ab_fx_i, ab_fx_q, ab_fx_l, ab_sh_si, ab_gr_si, ab_gl_si, cs_n, ↓reduceIte, true_or, or_true, false_or, or_false, and_true, true_and, and_false, false_and, not_true_eq_false, not_false_eq_true, eq_self, Int.reduceEq, Int.reduceLT, Int.reduceLE, Int.reduceAdd, Int.reduceMul, Int.reduceNeg, if_pos, if_neg, hL.1, hL.2]
    rfl
  | k + 1, u, run, q1, q2, hb, hr => by
    have hL := hT.1
    have hK := ck_K_ok hT
    have hU := hd.U hT hD5
    have hfr := hI.1
    have he0 := pk_end_0 (ck_K h) D st
    have hst : ∀ x, 0 ≤ x → x < D → st x ≠ -1 → st x ≤ u := fun x x1 x2 x3 => by have := (hI.2.1 x x1 x2 x3).1; omega
    have hrb := pk_rf_b (ov := pk_ov (ck_K h) D st) u.toNat 0 0 (by omega)
    rw [← hr] at hrb
    have hla2 : 0 ≤ la ∧ la ≤ 60 := by subst hla; split <;> omega
    have he5 : en ≤ 69 := by
      rw [← hen]
      exact pk_end_le (by omega) (fun x x1 x2 x3 => by have := (hI.2.1 x x1 x2 x3).1; have := hK.1 x x1 (by omega); omega)
    rw [e57_41]
    by_cases c1 : u ≤ la
    · have hsp := (hK.1 d h1 (by omega)).2.1
      rw [ck_K_2 h h1 (by omega)] at hsp
      have hup := pk_end_up (K := ck_K h) h1 h2 h3 (show 0 ≤ u by omega) (by rw [ck_K_2 h h1 (by omega)]; omega)
      rw [hen, ck_K_2 h h1 (by omega)] at hup
      have em : (if ab_w en < ab_w (u + ab_gi h 9 d) then ab_w (u + ab_gi h 9 d) else ab_w en) = if en < u + ab_gi h 9 d then u + ab_gi h 9 d else en := by simp (disch := omega) only [implies_true, Int.reduceSub, Option.isNone_some, Option.isNone_none, ab_bh_some, ab_bh_thr, ab_gs_3, ab_gl_2, ab_gl_3, ab_gt_some, ab_gc_0, ab_gk_0, Bool.false_eq_true, Bool.true_eq_false, false_implies, Nat.reduceEqDiff, ab_ge, ab_lt, ab_le, ab_gt, ab_eq, ab_ne, decide_eq_true_eq, ab_w_id, ab_w0, ab_gd_some, ab_gs_0, ab_gs_1, ab_gl_0, ab_gl_1, ab_bv_some, ab_bu_some, ab_bv_thr, ab_bu_thr, ab_fx_n, ab_fx_i, ab_fx_q, ab_fx_l, ab_sh_si, ab_gr_si, ab_gl_si, cs_n, ↓reduceIte, true_or, or_true, false_or, or_false, and_true, true_and, and_false, false_and, not_true_eq_false, not_false_eq_true, eq_self, Int.reduceEq, Int.reduceLT, Int.reduceLE, Int.reduceAdd, Int.reduceMul, Int.reduceNeg, if_pos, if_neg]
      have hr1 : u ≤ (if en < u + ab_gi h 9 d then u + ab_gi h 9 d else en) := by split <;> omega
      have hr2 : (if en < u + ab_gi h 9 d then u + ab_gi h 9 d else en) ≤ 100 := by split <;> omega
      have hA := pk_A hK hD5 hId h3 (show 0 ≤ u by omega) (by omega) hI.2.2.2 (by rw [hup]; exact hr1) (by rw [hup]; omega)
      rw [hup, ← hr] at hA
      have hc := m59 (B := B) (dd := dd) (h := h) (d := d) (st := u) (en := if en < u + ab_gi h 9 d then u + ab_gi h 9 d else en) (ra := run) hT hU h1 (by omega) (by omega) (by omega) hr2 hr1 (by omega) (by omega)
      rw [cs_tw_g hd h1 h2 hD5 h3 (by omega) hst _ run u (by omega) (by omega)] at hc
      have hA' : pk_trips (ck_K h) D (pk_up st d u) = pk_g (ab_gi h 7 1) (pk_ov (ck_K h) D (pk_up st d u)) run u ((if en < u + ab_gi h 9 d then u + ab_gi h 9 d else en) - u).toNat := hA
      rw [← hA'] at hc
      have hu1 := hU.1
      have hu2 := hU.2 u (by omega) (by omega)
      unfold pk_ls
      by_cases c3 : pk_trips (ck_K h) D (pk_up st d u) = true
      · rw [if_pos c3] at hc ⊢
        have eov : (pk_ov (ck_K h) D st u = true) = (ab_gi h 7 0 < ab_gi h 7 12 + ab_gi h 16 u) := by
          unfold pk_ov
          rw [decide_eq_true_eq, pk_dr_su hst, hd.1, hd.2 u (by omega) (by omega)]
          rfl
        have ih := fun run' hr' => m57_loop (dd := dd) (ea := ea) hT hd hD5 hId h1 h2 h3 hI hen hfe p1 p2 hla k (u + 1) run' (by omega) (by omega) (fun v v1 v2 => by
          by_cases c : v = u
          · rw [c]; exact c3
          · exact hb v v1 (by omega)) hr'
        have er : pk_rf (pk_ov (ck_K h) D st) 0 0 (u + 1).toNat = if ab_gi h 7 0 < ab_gi h 7 12 + ab_gi h 16 u then run + 1 else 0 := by
          rw [show (u + 1).toNat = u.toNat + 1 from by omega, pk_rf_succ, ← hr, show (0 : Int) + (u.toNat : Int) = u from by omega]
          simp only [eov]
        have hl0 := hT.2.2.1
        by_cases c4 : ab_gi h 7 0 < ab_gi h 7 12 + ab_gi h 16 u
        · rw [if_pos c4] at er
          simp (disch := omega) only [e57_0, e57_1, e57_4, e57_5, e57_6, e57_9, e57_10, e57_13, e57_14, e57_15, e57_16, e57_17, e57_20, e57_21, e57_23, e57_25, e57_27, e57_28, e57_29, e57_32, e57_34, e57_35, e57_36, e57_39, e57_43, e57_45, e57_48, e57_50, e57_51, e57_54, e57_55, e57_58, e57_59, e57_60, e57_62, e57_64, e57_66, e57_67, e57_68, e57_71, e57_72, e57_75, e57_77, e57_80, e57_83, e57_84, e57_85, e57_87, e57_90, e57_92, e57_93, e57_94, e57_97, e57_98, e57_101, e57_103, e57_104, e57_105, e57_106, e57_109, e57_112, e57_114, e57_115, e57_116, e57_119, e57_120, e57_122, e57_125, e57_128, e57_129, implies_true, Int.reduceSub, Option.isNone_some, Option.isNone_none, ab_bh_some, ab_bh_thr, ab_gs_3, ab_gl_2, ab_gl_3, ab_gt_some, ab_gc_0, ab_gk_0, Bool.false_eq_true, Bool.true_eq_false, false_implies, Nat.reduceEqDiff, ab_ge, ab_lt, ab_le, ab_gt, ab_eq, ab_ne, decide_eq_true_eq, ab_w_id, ab_w0, ab_gd_some, ab_gs_0, ab_gs_1, ab_gl_0, ab_gl_1, ab_bv_some, ab_bu_some, ab_bv_thr, ab_bu_thr, ab_fx_n, ab_fx_i, ab_fx_q, ab_fx_l, ab_sh_si, ab_gr_si, ab_gl_si, cs_n, ↓reduceIte, true_or, or_true, false_or, or_false, and_true, true_and, and_false, false_and, not_true_eq_false, not_false_eq_true, eq_self, Int.reduceEq, Int.reduceLT, Int.reduceLE, Int.reduceAdd, Int.reduceMul, Int.reduceNeg, if_pos, if_neg, hL.1, hL.2, m41 hT h1 (show d < 5 by omega), em, hc]
          exact ih _ er.symm
        · rw [if_neg c4] at er
          simp (disch := omega) only [e57_0, e57_1, e57_4, e57_5, e57_6, e57_9, e57_10, e57_13, e57_14, e57_15, e57_16, e57_17, e57_20, e57_21, e57_23, e57_25, e57_27, e57_28, e57_29, e57_32, e57_34, e57_35, e57_36, e57_39, e57_43, e57_45, e57_48, e57_50, e57_51, e57_54, e57_55, e57_58, e57_59, e57_60, e57_62, e57_64, e57_66, e57_67, e57_68, e57_71, e57_72, e57_75, e57_77, e57_80, e57_83, e57_84, e57_85, e57_87, e57_90, e57_92, e57_93, e57_94, e57_97, e57_98, e57_101, e57_103, e57_104, e57_105, e57_106, e57_109, e57_112, e57_114, e57_115, e57_116, e57_119, e57_120, e57_122, e57_125, e57_128, e57_129, implies_true, Int.reduceSub, Option.isNone_some, Option.isNone_none, ab_bh_some, ab_bh_thr, ab_gs_3, ab_gl_2, ab_gl_3, ab_gt_some, ab_gc_0, ab_gk_0, Bool.false_eq_true, Bool.true_eq_false, false_implies, Nat.reduceEqDiff, ab_ge, ab_lt, ab_le, ab_gt, ab_eq, ab_ne, decide_eq_true_eq, ab_w_id, ab_w0, ab_gd_some, ab_gs_0, ab_gs_1, ab_gl_0, ab_gl_1, ab_bv_some, ab_bu_some, ab_bv_thr, ab_bu_thr, ab_fx_n, ab_fx_i, ab_fx_q, ab_fx_l, ab_sh_si, ab_gr_si, ab_gl_si, cs_n, ↓reduceIte, true_or, or_true, false_or, or_false, and_true, true_and, and_false, false_and, not_true_eq_false, not_false_eq_true, eq_self, Int.reduceEq, Int.reduceLT, Int.reduceLE, Int.reduceAdd, Int.reduceMul, Int.reduceNeg, if_pos, if_neg, hL.1, hL.2, m41 hT h1 (show d < 5 by omega), em, hc]
          exact ih _ er.symm
      · rw [if_neg c3] at hc ⊢
        simp (disch := omega) only [e57_0, e57_1, e57_4, e57_5, e57_6, e57_9, e57_10, e57_13, e57_14, e57_15, e57_16, e57_17, e57_20, e57_21, e57_23, e57_25, e57_27, e57_28, e57_29, e57_32, e57_34, e57_35, e57_36, e57_39, e57_43, e57_45, e57_48, e57_50, e57_51, e57_54, e57_55, e57_58, e57_59, e57_60, e57_62, e57_64, e57_66, e57_67, e57_68, e57_71, e57_72, e57_75, e57_77, e57_80, e57_83, e57_84, e57_85, e57_87, e57_90, e57_92, e57_93, e57_94, e57_97, e57_98, e57_101, e57_103, e57_104, e57_105, e57_106, e57_109, e57_112, e57_114, e57_115, e57_116, e57_119, e57_120, e57_122, e57_125, e57_128, e57_129, implies_true, Int.reduceSub, Option.isNone_some, Option.isNone_none, ab_bh_some, ab_bh_thr, ab_gs_3, ab_gl_2, ab_gl_3, ab_gt_some, ab_gc_0, ab_gk_0, Bool.false_eq_true, Bool.true_eq_false, false_implies, Nat.reduceEqDiff, ab_ge, ab_lt, ab_le, ab_gt, ab_eq, ab_ne, decide_eq_true_eq, ab_w_id, ab_w0, ab_gd_some, ab_gs_0, ab_gs_1, ab_gl_0, ab_gl_1, ab_bv_some, ab_bu_some, ab_bv_thr, ab_bu_thr, ab_fx_n, ab_fx_i, ab_fx_q, ab_fx_l, ab_sh_si, ab_gr_si, ab_gl_si, cs_n, ↓reduceIte, true_or, or_true, false_or, or_false, and_true, true_and, and_false, false_and, not_true_eq_false, not_false_eq_true, eq_self, Int.reduceEq, Int.reduceLT, Int.reduceLE, Int.reduceAdd, Int.reduceMul, Int.reduceNeg, if_pos, if_neg, hL.1, hL.2, m41 hT h1 (show d < 5 by omega), em, hc, m58 hL p1 p2]
        rw [hr]
        rfl
    · have hle : en + 1 < u ∧ en + 1 < 60 := by
        subst hla
        by_cases c : en + 1 < 60
        · rw [if_pos c] at c1; omega
        · rw [if_neg c] at c1; omega
      have hn : pk_ls (ck_K h) D st d (k + 1) u = none := pk_ls_none _ _ (fun v v1 v2 => by
        rw [pk_B hK hD5 hId h1 h2 h3 hI.2.2.2 (show pk_end (ck_K h) D st + 1 ≤ v by omega) (show pk_end (ck_K h) D st + 1 ≤ en + 1 by omega) (by omega) (by omega)]
        exact hb _ (by omega) (by omega))
      rw [hn]
      simp (disch := omega) only [e57_0, e57_1, e57_4, e57_5, e57_6, e57_9, e57_10, e57_13, e57_14, e57_15, e57_16, e57_17, e57_20, e57_21, e57_23, e57_25, e57_27, e57_28, e57_29, e57_32, e57_34, e57_35, e57_36, e57_39, e57_43, e57_45, e57_48, e57_50, e57_51, e57_54, e57_55, e57_58, e57_59, e57_60, e57_62, e57_64, e57_66, e57_67, e57_68, e57_71, e57_72, e57_75, e57_77, e57_80, e57_83, e57_84, e57_85, e57_87, e57_90, e57_92, e57_93, e57_94, e57_97, e57_98, e57_101, e57_103, e57_104, e57_105, e57_106, e57_109, e57_112, e57_114, e57_115, e57_116, e57_119, e57_120, e57_122, e57_125, e57_128, e57_129, implies_true, Int.reduceSub, Option.isNone_some, Option.isNone_none, ab_bh_some, ab_bh_thr, ab_gs_3, ab_gl_2, ab_gl_3, ab_gt_some, ab_gc_0, ab_gk_0, Bool.false_eq_true, Bool.true_eq_false, false_implies, Nat.reduceEqDiff, ab_ge, ab_lt, ab_le, ab_gt, ab_eq, ab_ne, decide_eq_true_eq, ab_w_id, ab_w0, ab_gd_some, ab_gs_0, ab_gs_1, ab_gl_0, ab_gl_1, ab_bv_some, ab_bu_some, ab_bv_thr, ab_bu_thr, ab_fx_n, ab_fx_i, ab_fx_q, ab_fx_l, ab_sh_si, ab_gr_si, ab_gl_si, cs_n, ↓reduceIte, true_or, or_true, false_or, or_false, and_true, true_and, and_false, false_and, not_true_eq_false, not_false_eq_true, eq_self, Int.reduceEq, Int.reduceLT, Int.reduceLE, Int.reduceAdd, Int.reduceMul, Int.reduceNeg, if_pos, if_neg, hL.1, hL.2]
      rfl
theorem m57 {dd : Nat} {D d pl fr en : Int} {h : ab_H} {st po : Int → Int} (hT : cs_T h) (hd : ck_D h D st) (hD5 : D ≤ 5) (hId : cs_sf (ck_K h).2.2.1 0 D.toNat ≤ ab_gi h 7 0) (h1 : 0 ≤ d) (h2 : d < D) (h3 : st d = -1) (hI : pk_I (ck_K h) D st po pl fr) (hen : pk_end (ck_K h) D st = en) (hfe : fr ≤ en) (p1 : 0 ≤ pl) (p2 : pl < 5) (hr : (if 0 < pl then ab_gi h 15 (pl - 1) else 0) = pk_rf (pk_ov (ck_K h) D st) 0 0 fr.toNat) :
    ab_E B (dd + 2) 57 0 [some (.inr (.inr (.inl (some 7)))), some (.inl d), some (.inl pl), some (.inl fr), some (.inl en), none, none, none] [] h = some (.inl (some (.inl (pk_va (pk_ls (ck_K h) D st d (61 - fr).toNat fr)))), pk_ha h pl (pk_ov (ck_K h) D st) (pk_ls (ck_K h) D st d (61 - fr).toNat fr)) := by
  have hL := hT.1
  have hK := ck_K_ok hT
  have hfr := hI.1
  have he5 : en ≤ 69 := by
    rw [← hen]
    exact pk_end_le (by omega) (fun x x1 x2 x3 => by have := (hI.2.1 x x1 x2 x3).1; have := hK.1 x x1 (by omega); omega)
  have he0 := pk_end_0 (ck_K h) D st
  have e1 : (if ab_w fr < ab_w 0 then ab_w 0 else ab_w fr) = fr := by simp (disch := omega) only [implies_true, Int.reduceSub, Option.isNone_some, Option.isNone_none, ab_bh_some, ab_bh_thr, ab_gs_3, ab_gl_2, ab_gl_3, ab_gt_some, ab_gc_0, ab_gk_0, Bool.false_eq_true, Bool.true_eq_false, false_implies, Nat.reduceEqDiff, ab_ge, ab_lt, ab_le, ab_gt, ab_eq, ab_ne, decide_eq_true_eq, ab_w_id, ab_w0, ab_gd_some, ab_gs_0, ab_gs_1, ab_gl_0, ab_gl_1, ab_bv_some, ab_bu_some, ab_bv_thr, ab_bu_thr, ab_fx_n, ab_fx_i, ab_fx_q, ab_fx_l, ab_sh_si, ab_gr_si, ab_gl_si, cs_n, ↓reduceIte, true_or, or_true, false_or, or_false, and_true, true_and, and_false, false_and, not_true_eq_false, not_false_eq_true, eq_self, Int.reduceEq, Int.reduceLT, Int.reduceLE, Int.reduceAdd, Int.reduceMul, Int.reduceNeg, if_pos, if_neg]
  have e2 : (if ab_w (en + 1) < ab_w 60 then ab_w (en + 1) else ab_w 60) = if en + 1 < 60 then en + 1 else 60 := by simp (disch := omega) only [implies_true, Int.reduceSub, Option.isNone_some, Option.isNone_none, ab_bh_some, ab_bh_thr, ab_gs_3, ab_gl_2, ab_gl_3, ab_gt_some, ab_gc_0, ab_gk_0, Bool.false_eq_true, Bool.true_eq_false, false_implies, Nat.reduceEqDiff, ab_ge, ab_lt, ab_le, ab_gt, ab_eq, ab_ne, decide_eq_true_eq, ab_w_id, ab_w0, ab_gd_some, ab_gs_0, ab_gs_1, ab_gl_0, ab_gl_1, ab_bv_some, ab_bu_some, ab_bv_thr, ab_bu_thr, ab_fx_n, ab_fx_i, ab_fx_q, ab_fx_l, ab_sh_si, ab_gr_si, ab_gl_si, cs_n, ↓reduceIte, true_or, or_true, false_or, or_false, and_true, true_and, and_false, false_and, not_true_eq_false, not_false_eq_true, eq_self, Int.reduceEq, Int.reduceLT, Int.reduceLE, Int.reduceAdd, Int.reduceMul, Int.reduceNeg, if_pos, if_neg]
  have ih := fun run hr' => m57_loop (B := B) (dd := dd) (ea := fr) hT hd hD5 hId h1 h2 h3 hI hen hfe p1 p2 rfl (61 - fr).toNat fr run (Int.le_refl _) (by omega) (fun v v1 v2 => by omega) hr'
  by_cases c2 : 0 < pl
  · rw [if_pos c2] at hr
    simp (disch := omega) only [e57_0, e57_1, e57_4, e57_5, e57_6, e57_9, e57_10, e57_13, e57_14, e57_15, e57_16, e57_17, e57_20, e57_21, e57_23, e57_25, e57_27, e57_28, e57_29, e57_32, e57_34, e57_35, e57_36, e57_39, e57_43, e57_45, e57_48, e57_50, e57_51, e57_54, e57_55, e57_58, e57_59, e57_60, e57_62, e57_64, e57_66, e57_67, e57_68, e57_71, e57_72, e57_75, e57_77, e57_80, e57_83, e57_84, e57_85, e57_87, e57_90, e57_92, e57_93, e57_94, e57_97, e57_98, e57_101, e57_103, e57_104, e57_105, e57_106, e57_109, e57_112, e57_114, e57_115, e57_116, e57_119, e57_120, e57_122, e57_125, e57_128, e57_129, implies_true, Int.reduceSub, Option.isNone_some, Option.isNone_none, ab_bh_some, ab_bh_thr, ab_gs_3, ab_gl_2, ab_gl_3, ab_gt_some, ab_gc_0, ab_gk_0, Bool.false_eq_true, Bool.true_eq_false, false_implies, Nat.reduceEqDiff, ab_ge, ab_lt, ab_le, ab_gt, ab_eq, ab_ne, decide_eq_true_eq, ab_w_id, ab_w0, ab_gd_some, ab_gs_0, ab_gs_1, ab_gl_0, ab_gl_1, ab_bv_some, ab_bu_some, ab_bv_thr, ab_bu_thr, ab_fx_n, ab_fx_i, ab_fx_q, ab_fx_l, ab_sh_si, ab_gr_si, ab_gl_si, cs_n, ↓reduceIte, true_or, or_true, false_or, or_false, and_true, true_and, and_false, false_and, not_true_eq_false, not_false_eq_true, eq_self, Int.reduceEq, Int.reduceLT, Int.reduceLE, Int.reduceAdd, Int.reduceMul, Int.reduceNeg, if_pos, if_neg, hL.1, hL.2, e1, e2]
    exact ih _ hr
  · rw [if_neg c2] at hr
    simp (disch := omega) only [e57_0, e57_1, e57_4, e57_5, e57_6, e57_9, e57_10, e57_13, e57_14, e57_15, e57_16, e57_17, e57_20, e57_21, e57_23, e57_25, e57_27, e57_28, e57_29, e57_32, e57_34, e57_35, e57_36, e57_39, e57_43, e57_45, e57_48, e57_50, e57_51, e57_54, e57_55, e57_58, e57_59, e57_60, e57_62, e57_64, e57_66, e57_67, e57_68, e57_71, e57_72, e57_75, e57_77, e57_80, e57_83, e57_84, e57_85, e57_87, e57_90, e57_92, e57_93, e57_94, e57_97, e57_98, e57_101, e57_103, e57_104, e57_105, e57_106, e57_109, e57_112, e57_114, e57_115, e57_116, e57_119, e57_120, e57_122, e57_125, e57_128, e57_129, implies_true, Int.reduceSub, Option.isNone_some, Option.isNone_none, ab_bh_some, ab_bh_thr, ab_gs_3, ab_gl_2, ab_gl_3, ab_gt_some, ab_gc_0, ab_gk_0, Bool.false_eq_true, Bool.true_eq_false, false_implies, Nat.reduceEqDiff, ab_ge, ab_lt, ab_le, ab_gt, ab_eq, ab_ne, decide_eq_true_eq, ab_w_id, ab_w0, ab_gd_some, ab_gs_0, ab_gs_1, ab_gl_0, ab_gl_1, ab_bv_some, ab_bu_some, ab_bv_thr, ab_bu_thr, ab_fx_n, ab_fx_i, ab_fx_q, ab_fx_l, ab_sh_si, ab_gr_si, ab_gl_si, cs_n, ↓reduceIte, true_or, or_true, false_or, or_false, and_true, true_and, and_false, false_and, not_true_eq_false, not_false_eq_true, eq_self, Int.reduceEq, Int.reduceLT, Int.reduceLE, Int.reduceAdd, Int.reduceMul, Int.reduceNeg, if_pos, if_neg, hL.1, hL.2, e1, e2]
    exact ih _ hr
end
