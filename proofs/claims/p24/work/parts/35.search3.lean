set_option linter.all false
/-! THE CLASS'S SEARCH of the plan: it finds the reference's plan -/
section
variable {B : ab_B}
theorem m54_loop {e n : Nat} {K : pk_K} {D pl fr en : Int} {st po : Int → Int} (hrec : ck_P B K D (e + 3) n) (hD5 : D ≤ 5) (hId : cs_sf K.2.2.1 0 D.toNat ≤ K.2.2.2.1) (hI : pk_I K D st po pl fr) (p1 : 0 ≤ pl) (p2 : pl + n + 1 = D) (hen : pk_end K D st = en) : ∀ (k : Nat) (i : Int) (h : ab_H) (c : pk_X), ck_R h K D st po pl fr → ck_C h K D c → 0 ≤ i → i + k = D →
    ∃ h', ab_E B (e + 5) 54 22 [some (.inr (.inr (.inl (some 7)))), some (.inl pl), some (.inl fr), some (.inl en), some (.inl i)] [] h = some (.inl none, h') ∧ ck_R h' K D st po pl fr ∧ ck_C h' K D (pk_lp (fun best d => pk_mg K D best (pk_x K D n st po pl fr d)) k i c) ∧ cz_F h h' ∧ ∀ j, j < pl → ab_gi h' 15 j = ab_gi h 15 j
  | 0, i, h, c, hR, hC, q1, q2 => by
    have hL := hR.1.1.1
    have hn := hR.1.2.1
    refine ⟨h, ?_, hR, hC, cz_F.rfl' h, fun _ _ => rfl⟩
    rw [e54_22]
    simp (disch := omega) only [e54_0, e54_1, e54_2, e54_5, e54_8, e54_9, e54_10, e54_13, e54_14, e54_15, e54_18, e54_19, e54_20, e54_24, e54_25, e54_28, e54_31, e54_33, e54_34, e54_37, e54_38, e54_41, e54_43, e54_44, e54_45, e54_48, e54_49, e54_51, e54_52, e54_53, e54_54, e54_57, e54_60, e54_63, implies_true, Int.reduceSub, Option.isNone_some, Option.isNone_none, ab_bh_some, ab_bh_thr, ab_gs_3, ab_gl_2, ab_gl_3, ab_gt_some, ab_gc_0, ab_gk_0, Bool.false_eq_true, Bool.true_eq_false, false_implies, Nat.reduceEqDiff, ab_ge, ab_lt, ab_le, ab_gt, ab_eq, ab_ne, decide_eq_true_eq, ab_w_id, ab_w0, ab_gd_some, ab_gs_0, ab_gs_1, ab_gl_0, ab_gl_1, ab_bv_some, ab_bu_some, ab_bv_thr, ab_bu_thr, ab_fx_n, ab_fx_i, ab_fx_q, ab_fx_l, ab_sh_si, ab_gr_si, ab_gl_si, cs_n, ↓reduceIte, true_or, or_true, false_or, or_false, and_true, true_and, and_false, false_and, not_true_eq_false, not_false_eq_true, eq_self, Int.reduceEq, Int.reduceLT, Int.reduceLE, Int.reduceAdd, Int.reduceMul, Int.reduceNeg, if_pos, if_neg, hL.1, hL.2]
  | k + 1, i, h, c, hR, hC, q1, q2 => by
    have hL := hR.1.1.1
    have hn := hR.1.2.1
    have hpl := hR.2.2.1 i q1 (by omega)
    by_cases c1 : st i = -1
    · have e14 := hpl.1 c1
      obtain ⟨h1, a1, R1, C1, f1, r1⟩ := m187 (B := B) (e := e) hrec hD5 hId hR hI p1 p2 hen hC q1 (show i < D by omega) c1
      obtain ⟨h2, a2, R2, C2, f2, r2⟩ := m54_loop hrec hD5 hId hI p1 p2 hen k (i + 1) h1 _ R1 C1 (by omega) (by omega)
      refine ⟨h2, ?_, R2, C2, f1.trans f2, fun j hj => (r2 j hj).trans (r1 j hj)⟩
      rw [e54_22, ← a2]
      simp (disch := omega) only [e54_0, e54_1, e54_2, e54_5, e54_8, e54_9, e54_10, e54_13, e54_14, e54_15, e54_18, e54_19, e54_20, e54_24, e54_25, e54_28, e54_31, e54_33, e54_34, e54_37, e54_38, e54_41, e54_43, e54_44, e54_45, e54_48, e54_49, e54_51, e54_52, e54_53, e54_54, e54_57, e54_60, e54_63, implies_true, Int.reduceSub, Option.isNone_some, Option.isNone_none, ab_bh_some, ab_bh_thr, ab_gs_3, ab_gl_2, ab_gl_3, ab_gt_some, ab_gc_0, ab_gk_0, Bool.false_eq_true, Bool.true_eq_false, false_implies, Nat.reduceEqDiff, ab_ge, ab_lt, ab_le, ab_gt, ab_eq, ab_ne, decide_eq_true_eq, ab_w_id, ab_w0, ab_gd_some, ab_gs_0, ab_gs_1, ab_gl_0, ab_gl_1, ab_bv_some, ab_bu_some, ab_bv_thr, ab_bu_thr, ab_fx_n, ab_fx_i, ab_fx_q, ab_fx_l, ab_sh_si, ab_gr_si, ab_gl_si, cs_n, ↓reduceIte, true_or, or_true, false_or, or_false, and_true, true_and, and_false, false_and, not_true_eq_false, not_false_eq_true, eq_self, Int.reduceEq, Int.reduceLT, Int.reduceLE, Int.reduceAdd, Int.reduceMul, Int.reduceNeg, if_pos, if_neg, hL.1, hL.2, e14, a1]
    · have e14 := (hpl.2 c1).2
      have hp := (hI.2.1 i q1 (by omega) c1).2
      have hx : pk_x K D n st po pl fr i = none := by unfold pk_x; rw [if_pos c1]
      obtain ⟨h2, a2, R2, C2, f2, r2⟩ := m54_loop hrec hD5 hId hI p1 p2 hen k (i + 1) h c hR hC (by omega) (by omega)
      refine ⟨h2, ?_, R2, ?_, f2, r2⟩
      · rw [e54_22, ← a2]
        simp (disch := omega) only [e54_0, e54_1, e54_2, e54_5, e54_8, e54_9, e54_10, e54_13, e54_14, e54_15, e54_18, e54_19, e54_20, e54_24, e54_25, e54_28, e54_31, e54_33, e54_34, e54_37, e54_38, e54_41, e54_43, e54_44, e54_45, e54_48, e54_49, e54_51, e54_52, e54_53, e54_54, e54_57, e54_60, e54_63, implies_true, Int.reduceSub, Option.isNone_some, Option.isNone_none, ab_bh_some, ab_bh_thr, ab_gs_3, ab_gl_2, ab_gl_3, ab_gt_some, ab_gc_0, ab_gk_0, Bool.false_eq_true, Bool.true_eq_false, false_implies, Nat.reduceEqDiff, ab_ge, ab_lt, ab_le, ab_gt, ab_eq, ab_ne, decide_eq_true_eq, ab_w_id, ab_w0, ab_gd_some, ab_gs_0, ab_gs_1, ab_gl_0, ab_gl_1, ab_bv_some, ab_bu_some, ab_bv_thr, ab_bu_thr, ab_fx_n, ab_fx_i, ab_fx_q, ab_fx_l, ab_sh_si, ab_gr_si, ab_gl_si, cs_n, ↓reduceIte, true_or, or_true, false_or, or_false, and_true, true_and, and_false, false_and, not_true_eq_false, not_false_eq_true, eq_self, Int.reduceEq, Int.reduceLT, Int.reduceLE, Int.reduceAdd, Int.reduceMul, Int.reduceNeg, if_pos, if_neg, hL.1, hL.2, e14]
      · unfold pk_lp
        rw [hx, pk_mg_none]
        exact C2
theorem m54 {e : Nat} {K : pk_K} {D : Int} (hD5 : D ≤ 5) (hId : cs_sf K.2.2.1 0 D.toNat ≤ K.2.2.2.1) : ∀ n : Nat, ck_P B K D (e + 2 * n + 3) n
  | 0, h, st, po, pl, fr, en, c, hR, hI, p1, p2, hen, hC, hc => by
    obtain ⟨⟨hT, hn, hKK⟩, hd, hpl, hrun, hfe, hrg⟩ := hR
    have hL := hT.1
    have hK := ck_K_ok hT
    rw [hKK] at hK
    have hf := cs_sf_full D.toNat 0 (f := fun x => if st x = -1 then 0 else 1) (fun j q1 q2 => by split <;> omega) (by have := hI.2.2.1; omega)
    have hst : ∀ x, 0 ≤ x → x < D → st x ≠ -1 := fun x q1 q2 z => by
      have h1 := hf x q1 (by omega)
      simp only [if_pos z] at h1
      omega
    have he5 : en ≤ 69 := by
      rw [← hen]
      exact pk_end_le (by omega) (fun x x1 x2 x3 => by have := (hI.2.1 x x1 x2 x3).1; have := hI.1; have := hK.1 x x1 (by omega); omega)
    have he0 := pk_end_0 K D st
    have hm : pk_mg K D c (pk_pl K D 0 st po pl fr) = some (st, po) := by
      show pk_mg K D c (some (st, po)) = some (st, po)
      cases c with
      | none => rfl
      | some y => unfold pk_mg; simp only; rw [if_pos (hc y rfl)]
    rw [hm]
    have g := fun c x => cs_kt_gi 5 (ab_si h 7 6 en) 0 c x
    have f : cz_F h (cs_kt (ab_si h 7 6 en) 0 5) := ⟨by rw [cs_kt_2]; rfl, fun c k q1 q2 => by rw [g, if_neg (by omega), if_neg (by omega), ab_gi_si, if_neg (fun z => q2 ⟨z.1, Or.inl z.2⟩)]⟩
    have a1 := m55 (B := B) (dd := e + 2) (e := en) hL
    have g9 : ∀ c x, c ≠ 11 → c ≠ 12 → ¬ (c = 7 ∧ x = 6) → ab_gi (cs_kt (ab_si h 7 6 en) 0 5) c x = ab_gi h c x := fun c x z1 z2 z3 => by rw [g, if_neg (by omega), if_neg (by omega), ab_gi_si, if_neg z3]
    refine ⟨cs_kt (ab_si h 7 6 en) 0 5, ?_, ⟨⟨f.T hT, by rw [f.n]; exact hn, by rw [f.KK]; exact hKK⟩, ⟨by rw [f.KK, g9 7 12 (by omega) (by omega) (by omega)]; exact hd.1, fun t q1 q2 => by rw [f.KK, g9 16 t (by omega) (by omega) (by omega)]; exact hd.2 t q1 q2⟩, fun x q1 q2 => by rw [g9 13 x (by omega) (by omega) (by omega), g9 14 x (by omega) (by omega) (by omega)]; exact hpl x q1 q2, by rw [g9 15 _ (by omega) (by omega) (by omega)]; exact hrun, hfe, fun x q1 q2 => by rw [g9 13 x (by omega) (by omega) (by omega)]; exact hrg x q1 q2⟩, ⟨⟨?_, fun x q1 q2 => ⟨?_, ?_⟩⟩, ?_, fun x q1 q2 => ?_⟩, f, fun j _ => g9 15 j (by omega) (by omega) (by omega)⟩
    · simp (disch := omega) only [e54_0, e54_1, e54_2, e54_5, e54_8, e54_9, e54_10, e54_13, e54_14, e54_15, e54_18, e54_19, e54_20, e54_24, e54_25, e54_28, e54_31, e54_33, e54_34, e54_37, e54_38, e54_41, e54_43, e54_44, e54_45, e54_48, e54_49, e54_51, e54_52, e54_53, e54_54, e54_57, e54_60, e54_63, implies_true, Int.reduceSub, Option.isNone_some, Option.isNone_none, ab_bh_some, ab_bh_thr, ab_gs_3, ab_gl_2, ab_gl_3, ab_gt_some, ab_gc_0, ab_gk_0, Bool.false_eq_true, Bool.true_eq_false, false_implies, Nat.reduceEqDiff, ab_ge, ab_lt, ab_le, ab_gt, ab_eq, ab_ne, decide_eq_true_eq, ab_w_id, ab_w0, ab_gd_some, ab_gs_0, ab_gs_1, ab_gl_0, ab_gl_1, ab_bv_some, ab_bu_some, ab_bv_thr, ab_bu_thr, ab_fx_n, ab_fx_i, ab_fx_q, ab_fx_l, ab_sh_si, ab_gr_si, ab_gl_si, cs_n, ↓reduceIte, true_or, or_true, false_or, or_false, and_true, true_and, and_false, false_and, not_true_eq_false, not_false_eq_true, eq_self, Int.reduceEq, Int.reduceLT, Int.reduceLE, Int.reduceAdd, Int.reduceMul, Int.reduceNeg, if_pos, if_neg, hL.1, hL.2, a1]
    · rw [g, if_neg (by omega), if_neg (by omega), ab_gi_si, if_pos ⟨rfl, rfl⟩]; exact hen.symm
    · rw [g, if_pos (by omega), ab_gi_si, if_neg (by omega)]; exact ((hpl x q1 q2).2 (hst x q1 q2)).1
    · rw [g, if_neg (by omega), if_pos (by omega), ab_gi_si, if_neg (by omega)]; exact ((hpl x q1 q2).2 (hst x q1 q2)).2
    · rw [g, if_neg (by omega), if_neg (by omega), ab_gi_si, if_pos ⟨rfl, rfl⟩]; omega
    · rw [g, if_pos (by omega), ab_gi_si, if_neg (by omega)]; exact hrg x q1 q2
  | n + 1, h, st, po, pl, fr, en, c, hR, hI, p1, p2, hen, hC, hc => by
    have hL := hR.1.1.1
    have hn := hR.1.2.1
    obtain ⟨h2, a2, R2, C2, f2, r2⟩ := m54_loop (B := B) (e := e + 2 * n) (m54 hD5 hId n) hD5 hId hI p1 (by omega) hen D.toNat 0 h c hR hC (by omega) (by omega)
    refine ⟨h2, ?_, R2, ?_, f2, r2⟩
    · rw [← a2, show e + 2 * (n + 1) + 3 = e + 2 * n + 5 from by omega]
      simp (disch := omega) only [e54_0, e54_1, e54_2, e54_5, e54_8, e54_9, e54_10, e54_13, e54_14, e54_15, e54_18, e54_19, e54_20, e54_24, e54_25, e54_28, e54_31, e54_33, e54_34, e54_37, e54_38, e54_41, e54_43, e54_44, e54_45, e54_48, e54_49, e54_51, e54_52, e54_53, e54_54, e54_57, e54_60, e54_63, implies_true, Int.reduceSub, Option.isNone_some, Option.isNone_none, ab_bh_some, ab_bh_thr, ab_gs_3, ab_gl_2, ab_gl_3, ab_gt_some, ab_gc_0, ab_gk_0, Bool.false_eq_true, Bool.true_eq_false, false_implies, Nat.reduceEqDiff, ab_ge, ab_lt, ab_le, ab_gt, ab_eq, ab_ne, decide_eq_true_eq, ab_w_id, ab_w0, ab_gd_some, ab_gs_0, ab_gs_1, ab_gl_0, ab_gl_1, ab_bv_some, ab_bu_some, ab_bv_thr, ab_bu_thr, ab_fx_n, ab_fx_i, ab_fx_q, ab_fx_l, ab_sh_si, ab_gr_si, ab_gl_si, cs_n, ↓reduceIte, true_or, or_true, false_or, or_false, and_true, true_and, and_false, false_and, not_true_eq_false, not_false_eq_true, eq_self, Int.reduceEq, Int.reduceLT, Int.reduceLE, Int.reduceAdd, Int.reduceMul, Int.reduceNeg, if_pos, if_neg, hL.1, hL.2]
    · rw [pk_pl_s, ← pk_lp_mg, pk_mg_none]
      exact C2
/-- between calls nothing is placed -/
def ck_Z (h : ab_H) : Prop := ab_gi h 7 12 = 0 ∧ (∀ t, 0 ≤ t → t < 100 → ab_gi h 16 t = 0) ∧ (∀ x, 0 ≤ x → x < 5 → -1 ≤ ab_gi h 13 x ∧ ab_gi h 13 x ≤ 60) ∧ ∀ x, 0 ≤ x → x < 5 → -1 ≤ ab_gi h 11 x ∧ ab_gi h 11 x ≤ 60
theorem pk_id_0 (K : pk_K) (D : Int) : pk_id K D (fun _ => -1) = 0 := cs_sf_zero _ _
theorem pk_su_0 (K : pk_K) (D t : Int) : pk_su K D (fun _ => -1) t = 0 := cs_sf_zero _ _
theorem m52_loop {e : Nat} {D : Int} (hD : 0 ≤ D) (hD5 : D ≤ 5) : ∀ (k : Nat) (i : Int) (h : ab_H), cs_T h → ab_gi h 7 2 = D → ck_Z h → ab_gi h 7 6 = -1 → 0 ≤ i → i + k = 5 → (∀ x, 0 ≤ x → x < i → ab_gi h 14 x = -1) →
    ∃ h', ab_E B (e + 14) 52 7 [some (.inr (.inr (.inl (some 7)))), some (.inl i)] [] h = some (.inl none, h') ∧ ck_C h' (ck_K h) D (pk_plan (ck_K h) D) ∧ ck_Z h' ∧ cz_F h h'
  | 0, i, h, hT, hn, hZ, h6, q1, q2, hp => by
    have hL := hT.1
    have hK := ck_K_ok hT
    have hl := hT.2.2.1
    have e5 : i = 5 := by omega
    subst e5
    have a2 := m53 (B := B) (dd := e + 12) hT
    have es : cs_sf (fun d => ab_gi h 10 d) 0 (ab_gi h 7 2).toNat = cs_sf (ck_K h).2.2.1 0 D.toNat := by
      rw [hn]
      exact cs_sf_congr _ _ (fun j j1 j2 => (ck_K_3 h j1 (by omega)).symm)
    have es2 : 0 ≤ cs_sf (ck_K h).2.2.1 0 D.toNat ∧ cs_sf (ck_K h).2.2.1 0 D.toNat ≤ 45 := by
      have := cs_sf_rng (f := (ck_K h).2.2.1) (B := 9) D.toNat 0 (fun j j1 j2 => by have := hK.1 j j1 (by omega); omega)
      omega
    rw [es] at a2
    rw [e52_7]
    have no : pk_plan (ck_K h) D = none → ck_C h (ck_K h) D (pk_plan (ck_K h) D) := fun q => by
      rw [q]; exact ⟨h6, by omega, hZ.2.2.2⟩
    by_cases c0 : 0 < D
    · by_cases c1 : cs_sf (ck_K h).2.2.1 0 D.toNat ≤ ab_gi h 7 0
      · have hd : ck_D h D (fun _ => -1) := ⟨by rw [pk_id_0]; exact hZ.1, fun t t1 t2 => by rw [pk_su_0]; exact hZ.2.1 t t1 t2⟩
        have hR : ck_R h (ck_K h) D (fun _ => -1) (fun _ => -1) 0 0 := ⟨⟨hT, hn, rfl⟩, hd, fun x x1 x2 => ⟨fun _ => hp x x1 (by omega), fun q => absurd rfl q⟩, rfl, pk_end_0 _ _ _, hZ.2.2.1⟩
        have he : pk_end (ck_K h) D (fun _ => -1) = 0 := Int.le_antisymm (pk_end_le (by omega) (fun x x1 x2 x3 => absurd rfl x3)) (pk_end_0 _ _ _)
        have hP := m54 (B := B) (e := e + 2 * (5 - D.toNat)) (K := ck_K h) hD5 c1 D.toNat
        rw [show e + 2 * (5 - D.toNat) + 2 * D.toNat + 3 = e + 13 from by omega] at hP
        obtain ⟨h1, a1, R1, C1, f1, -⟩ := hP h _ _ 0 0 0 none hR (pk_I_0 hK) (by omega) (by omega) he ⟨h6, by omega, hZ.2.2.2⟩ (fun y q => by cases q)
        obtain ⟨⟨-, -, k1⟩, d1, -, -, -, g1⟩ := R1
        refine ⟨h1, ?_, ?_, ⟨by rw [d1.1, pk_id_0], fun t t1 t2 => by rw [d1.2 t t1 t2, pk_su_0], g1, C1.2.2⟩, f1⟩
        · simp (disch := omega) only [e52_0, e52_1, e52_2, e52_5, e52_6, e52_8, e52_9, e52_12, e52_13, e52_16, e52_17, e52_18, e52_19, e52_22, e52_25, e52_26, e52_29, e52_32, e52_33, e52_36, e52_37, e52_40, e52_43, e52_44, e52_45, e52_46, e52_47, e52_50, implies_true, Int.reduceSub, Option.isNone_some, Option.isNone_none, ab_bh_some, ab_bh_thr, ab_gs_3, ab_gl_2, ab_gl_3, ab_gt_some, ab_gc_0, ab_gk_0, Bool.false_eq_true, Bool.true_eq_false, false_implies, Nat.reduceEqDiff, ab_ge, ab_lt, ab_le, ab_gt, ab_eq, ab_ne, decide_eq_true_eq, ab_w_id, ab_w0, ab_gd_some, ab_gs_0, ab_gs_1, ab_gl_0, ab_gl_1, ab_bv_some, ab_bu_some, ab_bv_thr, ab_bu_thr, ab_fx_n, ab_fx_i, ab_fx_q, ab_fx_l, ab_sh_si, ab_gr_si, ab_gl_si, cs_n, ↓reduceIte, true_or, or_true, false_or, or_false, and_true, true_and, and_false, false_and, not_true_eq_false, not_false_eq_true, eq_self, Int.reduceEq, Int.reduceLT, Int.reduceLE, Int.reduceAdd, Int.reduceMul, Int.reduceNeg, if_pos, if_neg, hL.1, hL.2, a2, a1]
        · unfold pk_plan
          rw [if_neg (by omega)]
          rw [pk_mg_n] at C1
          exact C1
      · refine ⟨h, ?_, no (pk_plan_no hK hD hD5 c1), hZ, cz_F.rfl' h⟩
        simp (disch := omega) only [e52_0, e52_1, e52_2, e52_5, e52_6, e52_8, e52_9, e52_12, e52_13, e52_16, e52_17, e52_18, e52_19, e52_22, e52_25, e52_26, e52_29, e52_32, e52_33, e52_36, e52_37, e52_40, e52_43, e52_44, e52_45, e52_46, e52_47, e52_50, implies_true, Int.reduceSub, Option.isNone_some, Option.isNone_none, ab_bh_some, ab_bh_thr, ab_gs_3, ab_gl_2, ab_gl_3, ab_gt_some, ab_gc_0, ab_gk_0, Bool.false_eq_true, Bool.true_eq_false, false_implies, Nat.reduceEqDiff, ab_ge, ab_lt, ab_le, ab_gt, ab_eq, ab_ne, decide_eq_true_eq, ab_w_id, ab_w0, ab_gd_some, ab_gs_0, ab_gs_1, ab_gl_0, ab_gl_1, ab_bv_some, ab_bu_some, ab_bv_thr, ab_bu_thr, ab_fx_n, ab_fx_i, ab_fx_q, ab_fx_l, ab_sh_si, ab_gr_si, ab_gl_si, cs_n, ↓reduceIte, true_or, or_true, false_or, or_false, and_true, true_and, and_false, false_and, not_true_eq_false, not_false_eq_true, eq_self, Int.reduceEq, Int.reduceLT, Int.reduceLE, Int.reduceAdd, Int.reduceMul, Int.reduceNeg, if_pos, if_neg, hL.1, hL.2, a2]
    · refine ⟨h, ?_, no (by unfold pk_plan; rw [if_pos (by omega)]), hZ, cz_F.rfl' h⟩
      simp (disch := omega) only [e52_0, e52_1, e52_2, e52_5, e52_6, e52_8, e52_9, e52_12, e52_13, e52_16, e52_17, e52_18, e52_19, e52_22, e52_25, e52_26, e52_29, e52_32, e52_33, e52_36, e52_37, e52_40, e52_43, e52_44, e52_45, e52_46, e52_47, e52_50, implies_true, Int.reduceSub, Option.isNone_some, Option.isNone_none, ab_bh_some, ab_bh_thr, ab_gs_3, ab_gl_2, ab_gl_3, ab_gt_some, ab_gc_0, ab_gk_0, Bool.false_eq_true, Bool.true_eq_false, false_implies, Nat.reduceEqDiff, ab_ge, ab_lt, ab_le, ab_gt, ab_eq, ab_ne, decide_eq_true_eq, ab_w_id, ab_w0, ab_gd_some, ab_gs_0, ab_gs_1, ab_gl_0, ab_gl_1, ab_bv_some, ab_bu_some, ab_bv_thr, ab_bu_thr, ab_fx_n, ab_fx_i, ab_fx_q, ab_fx_l, ab_sh_si, ab_gr_si, ab_gl_si, cs_n, ↓reduceIte, true_or, or_true, false_or, or_false, and_true, true_and, and_false, false_and, not_true_eq_false, not_false_eq_true, eq_self, Int.reduceEq, Int.reduceLT, Int.reduceLE, Int.reduceAdd, Int.reduceMul, Int.reduceNeg, if_pos, if_neg, hL.1, hL.2]
  | k + 1, i, h, hT, hn, hZ, h6, q1, q2, hp => by
    have hL := hT.1
    have f : cz_F h (ab_si h 14 i (-1)) := cz_F.si (Or.inl (by omega))
    have g : ∀ c x, c ≠ 14 → ab_gi (ab_si h 14 i (-1)) c x = ab_gi h c x := fun c x q => by rw [ab_gi_si, if_neg (fun z => q z.1)]
    obtain ⟨h2, a2, C2, Z2, f2⟩ := m52_loop (e := e) hD hD5 k (i + 1) (ab_si h 14 i (-1)) (f.T hT) (by rw [f.n]; exact hn) ⟨by rw [g 7 12 (by omega)]; exact hZ.1, fun t t1 t2 => by rw [g 16 t (by omega)]; exact hZ.2.1 t t1 t2, fun x x1 x2 => by rw [g 13 x (by omega)]; exact hZ.2.2.1 x x1 x2, fun x x1 x2 => by rw [g 11 x (by omega)]; exact hZ.2.2.2 x x1 x2⟩ (by rw [g 7 6 (by omega)]; exact h6) (by omega) (by omega) (fun x x1 x2 => by
      rw [ab_gi_si]
      by_cases z : x = i
      · rw [if_pos ⟨rfl, z⟩]
      · rw [if_neg (fun y => z y.2)]; exact hp x x1 (by omega))
    rw [f.KK] at C2
    refine ⟨h2, ?_, C2, Z2, f.trans f2⟩
    rw [e52_7, ← a2]
    simp (disch := omega) only [e52_0, e52_1, e52_2, e52_5, e52_6, e52_8, e52_9, e52_12, e52_13, e52_16, e52_17, e52_18, e52_19, e52_22, e52_25, e52_26, e52_29, e52_32, e52_33, e52_36, e52_37, e52_40, e52_43, e52_44, e52_45, e52_46, e52_47, e52_50, implies_true, Int.reduceSub, Option.isNone_some, Option.isNone_none, ab_bh_some, ab_bh_thr, ab_gs_3, ab_gl_2, ab_gl_3, ab_gt_some, ab_gc_0, ab_gk_0, Bool.false_eq_true, Bool.true_eq_false, false_implies, Nat.reduceEqDiff, ab_ge, ab_lt, ab_le, ab_gt, ab_eq, ab_ne, decide_eq_true_eq, ab_w_id, ab_w0, ab_gd_some, ab_gs_0, ab_gs_1, ab_gl_0, ab_gl_1, ab_bv_some, ab_bu_some, ab_bv_thr, ab_bu_thr, ab_fx_n, ab_fx_i, ab_fx_q, ab_fx_l, ab_sh_si, ab_gr_si, ab_gl_si, cs_n, ↓reduceIte, true_or, or_true, false_or, or_false, and_true, true_and, and_false, false_and, not_true_eq_false, not_false_eq_true, eq_self, Int.reduceEq, Int.reduceLT, Int.reduceLE, Int.reduceAdd, Int.reduceMul, Int.reduceNeg, if_pos, if_neg, hL.1, hL.2]
theorem m52 {e : Nat} {D : Int} {h : ab_H} (hD : 0 ≤ D) (hD5 : D ≤ 5) (hT : cs_T h) (hn : ab_gi h 7 2 = D) (hZ : ck_Z h) :
    ∃ h', ab_E B (e + 14) 52 0 [some (.inr (.inr (.inl (some 7)))), none] [] h = some (.inl none, h') ∧ ck_C h' (ck_K h) D (pk_plan (ck_K h) D) ∧ ck_Z h' ∧ cz_F h h' := by
  have hL := hT.1
  have f : cz_F h (ab_si h 7 6 (-1)) := cz_F.si (Or.inr ⟨rfl, Or.inl rfl⟩)
  have g : ∀ c x, ¬ (c = 7 ∧ x = 6) → ab_gi (ab_si h 7 6 (-1)) c x = ab_gi h c x := fun c x q => by rw [ab_gi_si, if_neg q]
  obtain ⟨h2, a2, C2, Z2, f2⟩ := m52_loop (B := B) (e := e) hD hD5 5 0 (ab_si h 7 6 (-1)) (f.T hT) (by rw [f.n]; exact hn) ⟨by rw [g 7 12 (by omega)]; exact hZ.1, fun t t1 t2 => by rw [g 16 t (by omega)]; exact hZ.2.1 t t1 t2, fun x x1 x2 => by rw [g 13 x (by omega)]; exact hZ.2.2.1 x x1 x2, fun x x1 x2 => by rw [g 11 x (by omega)]; exact hZ.2.2.2 x x1 x2⟩ (by rw [ab_gi_si, if_pos ⟨rfl, rfl⟩]) (by omega) (by omega) (fun x x1 x2 => by omega)
  rw [f.KK] at C2
  refine ⟨h2, ?_, C2, Z2, f.trans f2⟩
  rw [← a2]
  simp (disch := omega) only [e52_0, e52_1, e52_2, e52_5, e52_6, e52_8, e52_9, e52_12, e52_13, e52_16, e52_17, e52_18, e52_19, e52_22, e52_25, e52_26, e52_29, e52_32, e52_33, e52_36, e52_37, e52_40, e52_43, e52_44, e52_45, e52_46, e52_47, e52_50, implies_true, Int.reduceSub, Option.isNone_some, Option.isNone_none, ab_bh_some, ab_bh_thr, ab_gs_3, ab_gl_2, ab_gl_3, ab_gt_some, ab_gc_0, ab_gk_0, Bool.false_eq_true, Bool.true_eq_false, false_implies, Nat.reduceEqDiff, ab_ge, ab_lt, ab_le, ab_gt, ab_eq, ab_ne, decide_eq_true_eq, ab_w_id, ab_w0, ab_gd_some, ab_gs_0, ab_gs_1, ab_gl_0, ab_gl_1, ab_bv_some, ab_bu_some, ab_bv_thr, ab_bu_thr, ab_fx_n, ab_fx_i, ab_fx_q, ab_fx_l, ab_sh_si, ab_gr_si, ab_gl_si, cs_n, ↓reduceIte, true_or, or_true, false_or, or_false, and_true, true_and, and_false, false_and, not_true_eq_false, not_false_eq_true, eq_self, Int.reduceEq, Int.reduceLT, Int.reduceLE, Int.reduceAdd, Int.reduceMul, Int.reduceNeg, if_pos, if_neg, hL.1, hL.2]
/-- what holds between calls, of the starts -/
def ck_S (h : ab_H) (D : Int) : Prop := (cs_T h ∧ ab_gi h 7 2 = D ∧ 0 ≤ D ∧ D ≤ 5) ∧ ck_Z h ∧ ck_C h (ck_K h) D (pk_plan (ck_K h) D) ∧ ∀ d, 0 ≤ d → d < 5 → -1 ≤ ab_gi h 17 d ∧ ab_gi h 17 d ≤ 1000
theorem ck_S_of {h h' : ab_H} {D : Int} (f : cz_F h h') (hT : cs_T h) (hn : ab_gi h 7 2 = D) (hD : 0 ≤ D) (hD5 : D ≤ 5) (h17 : ∀ d, 0 ≤ d → d < 5 → -1 ≤ ab_gi h 17 d ∧ ab_gi h 17 d ≤ 1000) (C : ck_C h' (ck_K h) D (pk_plan (ck_K h) D)) (Z : ck_Z h') : ck_S h' D :=
  ⟨⟨f.T hT, f.n.trans hn, hD, hD5⟩, Z, by rw [f.KK]; exact C, fun d q1 q2 => by rw [f.2 17 d (by omega) (by simp)]; exact h17 d q1 q2⟩
theorem ck_Z_si {h : ab_H} {c : Nat} {k v : Int} (hZ : ck_Z h) (hc : c < 11 ∨ 16 < c) (hk : ¬ (c = 7 ∧ k = 12)) : ck_Z (ab_si h c k v) := by
  have g : ∀ c' x, c' ≠ c ∨ x ≠ k → ab_gi (ab_si h c k v) c' x = ab_gi h c' x := fun c' x q => by rw [ab_gi_si, if_neg (by omega)]
  exact ⟨by rw [g 7 12 (by omega)]; exact hZ.1, fun t t1 t2 => by rw [g 16 t (by omega)]; exact hZ.2.1 t t1 t2, fun x x1 x2 => by rw [g 13 x (by omega)]; exact hZ.2.2.1 x x1 x2, fun x x1 x2 => by rw [g 11 x (by omega)]; exact hZ.2.2.2 x x1 x2⟩
/-- what the calls that make a plan change -/
def ck_G (h h' : ab_H) : Prop := h'.2 = h.2 ∧ ∀ c k, c < 7 ∨ 17 < c → ab_gi h' c k = ab_gi h c k
theorem m37 {e : Nat} {D D' : Int} {h : ab_H} (hD : 0 ≤ D) (hD5 : D ≤ 5) (hS : ck_S h D') :
    ∃ h', ab_E B (e + 15) 37 0 [some (.inr (.inr (.inl (some 7)))), some (.inl D)] [] h = some (.inl none, h') ∧ ck_S h' D ∧ ck_K h' = ck_K h ∧ ck_G h h' := by
  obtain ⟨⟨hT, hn, -, -⟩, hZ, hC, h17⟩ := hS
  have hL : cs_L h := hT.1
  have g : ∀ c x, ¬ (c = 7 ∧ x = 2) → ab_gi (ab_si h 7 2 D) c x = ab_gi h c x := fun c x q => by rw [ab_gi_si, if_neg q]
  have hn1 : ab_gi (ab_si h 7 2 D) 7 2 = D := by rw [ab_gi_si, if_pos ⟨rfl, rfl⟩]
  have hT1 : cs_T (ab_si h 7 2 D) := ⟨hL, by rw [hn1]; omega, by rw [g 7 0 (by omega)]; exact hT.2.2.1, by rw [g 7 1 (by omega)]; exact hT.2.2.2.1, fun d q1 q2 => by rw [g 8 d (by omega), g 9 d (by omega), g 10 d (by omega)]; exact hT.2.2.2.2 d q1 q2⟩
  obtain ⟨h', a, C, Z, f⟩ := m52 (B := B) (e := e) hD hD5 hT1 hn1 (ck_Z_si hZ (by omega) (by omega))
  refine ⟨h', ?_, ck_S_of f hT1 hn1 hD hD5 (fun d q1 q2 => by rw [g 17 d (by omega)]; exact h17 d q1 q2) C Z, f.KK.trans (ck_K_congr (g 7 0 (by omega)) (g 7 1 (by omega)) (fun c d q => g c d (by omega))), f.1.trans rfl, fun c k q => ?_⟩
  · simp (disch := omega) only [e37_0, e37_1, e37_2, e37_5, e37_6, e37_9, implies_true, Int.reduceSub, Option.isNone_some, Option.isNone_none, ab_bh_some, ab_bh_thr, ab_gs_3, ab_gl_2, ab_gl_3, ab_gt_some, ab_gc_0, ab_gk_0, Bool.false_eq_true, Bool.true_eq_false, false_implies, Nat.reduceEqDiff, ab_ge, ab_lt, ab_le, ab_gt, ab_eq, ab_ne, decide_eq_true_eq, ab_w_id, ab_w0, ab_gd_some, ab_gs_0, ab_gs_1, ab_gl_0, ab_gl_1, ab_bv_some, ab_bu_some, ab_bv_thr, ab_bu_thr, ab_fx_n, ab_fx_i, ab_fx_q, ab_fx_l, ab_sh_si, ab_gr_si, ab_gl_si, cs_n, ↓reduceIte, true_or, or_true, false_or, or_false, and_true, true_and, and_false, false_and, not_true_eq_false, not_false_eq_true, eq_self, Int.reduceEq, Int.reduceLT, Int.reduceLE, Int.reduceAdd, Int.reduceMul, Int.reduceNeg, if_pos, if_neg, hL.1, hL.2, a]
  · rw [f.2 c k (by omega) (by omega), g c k (by omega)]
theorem m38 {e : Nat} {D d pe sp id : Int} {h : ab_H} (hS : ck_S h D) (h1 : 0 ≤ d) (h2 : d < 5) (p1 : 1 ≤ pe) (p2 : pe ≤ 30) (s1 : 1 ≤ sp) (s2 : sp ≤ 9) (i1 : 0 ≤ id) (i2 : id ≤ 9) :
    ∃ h', ab_E B (e + 15) 38 0 [some (.inr (.inr (.inl (some 7)))), some (.inl d), some (.inl pe), some (.inl sp), some (.inl id)] [] h = some (.inl none, h') ∧ ck_S h' D ∧ ck_K h' = (pk_up (ck_K h).1 d pe, pk_up (ck_K h).2.1 d sp, pk_up (ck_K h).2.2.1 d id, (ck_K h).2.2.2) ∧ ck_G h h' := by
  obtain ⟨⟨hT, hn, hD, hD5⟩, hZ, hC, h17⟩ := hS
  have hL : cs_L h := hT.1
  have g : ∀ c x, ab_gi (ab_si (ab_si (ab_si h 8 d pe) 9 d sp) 10 d id) c x = if c = 10 ∧ x = d then id else if c = 9 ∧ x = d then sp else if c = 8 ∧ x = d then pe else ab_gi h c x := fun c x => by rw [ab_gi_si, ab_gi_si, ab_gi_si]
  have g0 : ∀ c x, c ≠ 8 → c ≠ 9 → c ≠ 10 → ab_gi (ab_si (ab_si (ab_si h 8 d pe) 9 d sp) 10 d id) c x = ab_gi h c x := fun c x z1 z2 z3 => by rw [g, if_neg (by omega), if_neg (by omega), if_neg (by omega)]
  have hn1 : ab_gi (ab_si (ab_si (ab_si h 8 d pe) 9 d sp) 10 d id) 7 2 = D := by rw [g0 7 2 (by omega) (by omega) (by omega)]; exact hn
  have hT1 : cs_T (ab_si (ab_si (ab_si h 8 d pe) 9 d sp) 10 d id) := ⟨hL, by rw [hn1]; omega, by rw [g0 7 0 (by omega) (by omega) (by omega)]; exact hT.2.2.1, by rw [g0 7 1 (by omega) (by omega) (by omega)]; exact hT.2.2.2.1, fun x q1 q2 => by
    have := hT.2.2.2.2 x q1 q2
    rw [g, g, g]
    by_cases z : x = d
    · simp [z]; omega
    · simp [z]; omega⟩
  obtain ⟨h', a, C, Z, f⟩ := m52 (B := B) (e := e) hD hD5 hT1 hn1 (ck_Z_si (ck_Z_si (ck_Z_si hZ (by omega) (by omega)) (by omega) (by omega)) (by omega) (by omega))
  refine ⟨h', ?_, ck_S_of f hT1 hn1 hD hD5 (fun d q1 q2 => by rw [g0 17 d (by omega) (by omega) (by omega)]; exact h17 d q1 q2) C Z, f.KK.trans ?_, f.1.trans rfl, fun c k q => ?_⟩
  · simp (disch := omega) only [e38_0, e38_1, e38_4, e38_5, e38_6, e38_9, e38_10, e38_13, e38_14, e38_15, e38_16, e38_17, e38_20, e38_21, e38_22, e38_23, e38_24, e38_27, e38_28, e38_30, e38_31, e38_32, e38_35, implies_true, Int.reduceSub, Option.isNone_some, Option.isNone_none, ab_bh_some, ab_bh_thr, ab_gs_3, ab_gl_2, ab_gl_3, ab_gt_some, ab_gc_0, ab_gk_0, Bool.false_eq_true, Bool.true_eq_false, false_implies, Nat.reduceEqDiff, ab_ge, ab_lt, ab_le, ab_gt, ab_eq, ab_ne, decide_eq_true_eq, ab_w_id, ab_w0, ab_gd_some, ab_gs_0, ab_gs_1, ab_gl_0, ab_gl_1, ab_bv_some, ab_bu_some, ab_bv_thr, ab_bu_thr, ab_fx_n, ab_fx_i, ab_fx_q, ab_fx_l, ab_sh_si, ab_gr_si, ab_gl_si, cs_n, ↓reduceIte, true_or, or_true, false_or, or_false, and_true, true_and, and_false, false_and, not_true_eq_false, not_false_eq_true, eq_self, Int.reduceEq, Int.reduceLT, Int.reduceLE, Int.reduceAdd, Int.reduceMul, Int.reduceNeg, if_pos, if_neg, hL.1, hL.2, a]
  · unfold ck_K pk_up
    simp only [g]
    refine Prod.ext (funext fun x => ?_) (Prod.ext (funext fun x => ?_) (Prod.ext (funext fun x => ?_) rfl))
    all_goals by_cases z : x = d
    all_goals simp [z]
    all_goals omega
  · rw [f.2 c k (by omega) (by omega), g0 c k (by omega) (by omega) (by omega)]
theorem m39 {e : Nat} {D l p : Int} {h : ab_H} (hS : ck_S h D) (l1 : 1 ≤ l) (l2 : l ≤ 90) (p1 : 0 ≤ p) (p2 : p ≤ 9) :
    ∃ h', ab_E B (e + 15) 39 0 [some (.inr (.inr (.inl (some 7)))), some (.inl l), some (.inl p)] [] h = some (.inl none, h') ∧ ck_S h' D ∧ ck_K h' = ((ck_K h).1, (ck_K h).2.1, (ck_K h).2.2.1, l, p) ∧ ck_G h h' := by
  obtain ⟨⟨hT, hn, hD, hD5⟩, hZ, hC, h17⟩ := hS
  have hL : cs_L h := hT.1
  have g : ∀ c x, ab_gi (ab_si (ab_si h 7 0 l) 7 1 p) c x = if c = 7 ∧ x = 1 then p else if c = 7 ∧ x = 0 then l else ab_gi h c x := fun c x => by rw [ab_gi_si, ab_gi_si]
  have g0 : ∀ c x, (c ≠ 7 ∨ x ≠ 0 ∧ x ≠ 1) → ab_gi (ab_si (ab_si h 7 0 l) 7 1 p) c x = ab_gi h c x := fun c x z => by rw [g, if_neg (by omega), if_neg (by omega)]
  have hn1 : ab_gi (ab_si (ab_si h 7 0 l) 7 1 p) 7 2 = D := by rw [g0 7 2 (by omega)]; exact hn
  have hT1 : cs_T (ab_si (ab_si h 7 0 l) 7 1 p) := ⟨hL, by rw [hn1]; omega, by rw [g, if_neg (by omega), if_pos ⟨rfl, rfl⟩]; omega, by rw [g, if_pos ⟨rfl, rfl⟩]; omega, fun x q1 q2 => by rw [g0 8 x (by omega), g0 9 x (by omega), g0 10 x (by omega)]; exact hT.2.2.2.2 x q1 q2⟩
  obtain ⟨h', a, C, Z, f⟩ := m52 (B := B) (e := e) hD hD5 hT1 hn1 (ck_Z_si (ck_Z_si hZ (by omega) (by omega)) (by omega) (by omega))
  refine ⟨h', ?_, ck_S_of f hT1 hn1 hD hD5 (fun d q1 q2 => by rw [g0 17 d (by omega)]; exact h17 d q1 q2) C Z, f.KK.trans ?_, f.1.trans rfl, fun c k q => ?_⟩
  · simp (disch := omega) only [e39_0, e39_1, e39_2, e39_5, e39_6, e39_7, e39_10, e39_11, e39_14, implies_true, Int.reduceSub, Option.isNone_some, Option.isNone_none, ab_bh_some, ab_bh_thr, ab_gs_3, ab_gl_2, ab_gl_3, ab_gt_some, ab_gc_0, ab_gk_0, Bool.false_eq_true, Bool.true_eq_false, false_implies, Nat.reduceEqDiff, ab_ge, ab_lt, ab_le, ab_gt, ab_eq, ab_ne, decide_eq_true_eq, ab_w_id, ab_w0, ab_gd_some, ab_gs_0, ab_gs_1, ab_gl_0, ab_gl_1, ab_bv_some, ab_bu_some, ab_bv_thr, ab_bu_thr, ab_fx_n, ab_fx_i, ab_fx_q, ab_fx_l, ab_sh_si, ab_gr_si, ab_gl_si, cs_n, ↓reduceIte, true_or, or_true, false_or, or_false, and_true, true_and, and_false, false_and, not_true_eq_false, not_false_eq_true, eq_self, Int.reduceEq, Int.reduceLT, Int.reduceLE, Int.reduceAdd, Int.reduceMul, Int.reduceNeg, if_pos, if_neg, hL.1, hL.2, a]
  · unfold ck_K
    simp only [g]
    simp
  · rw [f.2 c k (by omega) (by omega), g0 c k (by omega)]
end
