set_option linter.all false
/-! THE REFERENCE: off, power, boot, wouldBoot, knock -/
section
variable {B : ab_B}
theorem n140_1 {dd : Nat} {g h : ab_H} {b : Nat} (m : mm g h b) (hn : ab_gi g 1 0 = 0) : mR B (dd + 2) 140 [some (.inr (.inr (.inl (some 18)))), none] h g 1 0 0 0 := by
  have hs := m.1.1.1
  have e1 := m.2.1.1
  refine mR_no m ?_
  simp (disch := omega) only [e140_0, e140_1, e140_2, e140_5, e140_8, e140_9, e140_12, e140_13, e140_14, e140_17, e140_20, e140_21, e140_22, e140_23, e140_26, e140_27, e140_28, e140_31, e140_32, e140_35, e140_36, implies_true, Int.reduceSub, Option.isNone_some, Option.isNone_none, ab_bh_some, ab_bh_thr, ab_gs_3, ab_gl_2, ab_gl_3, ab_gt_some, ab_gc_0, ab_gk_0, Bool.false_eq_true, Bool.true_eq_false, false_implies, Nat.reduceEqDiff, ab_ge, ab_lt, ab_le, ab_gt, ab_eq, ab_ne, decide_eq_true_eq, ab_w_id, ab_w0, ab_gd_some, ab_gs_0, ab_gs_1, ab_gl_0, ab_gl_1, ab_bv_some, ab_bu_some, ab_bv_thr, ab_bu_thr, ab_fx_n, ab_fx_i, ab_fx_q, ab_fx_l, ab_sh_si, ab_gr_si, ab_gl_si, cs_n, ↓reduceIte, true_or, or_true, false_or, or_false, and_true, true_and, and_false, false_and, not_true_eq_false, not_false_eq_true, eq_self, Int.reduceEq, Int.reduceLT, Int.reduceLE, Int.reduceAdd, Int.reduceMul, Int.reduceNeg, if_pos, if_neg, hs, e1, hn, n102_1 hs]
theorem n140 {dd : Nat} {g h : ab_H} {b : Nat} (i : ci g) (m : mm g h b) (hn : ab_gi g 1 0 ≠ 0) : mR B (dd + 2) 140 [some (.inr (.inr (.inl (some 18)))), none] h (if ab_gi g 0 2 = 1 then cs_off g else g) 0 (ab_gi g 0 2) 0 0 := by
  have hs := m.1.1.1
  have hs0 : (ab_sh (mt h 0))[18]? = some (8, 22) := hs
  have m0 : mm g (mt h 0) b := mm_thr m
  have t0 := mt_t h 0
  have x0 : mE h (mt h 0) 0 0 := mE.si (by omega)
  have e1 := m.2.1.1
  have e3 := m0.2.1.2.2.1
  have hD := i.1.2.1
  rcases i.2.2.1.1 with c | c
  · rw [if_neg (by omega)]
    refine ⟨mt h 0, b, ?_, m0, x0, t0⟩
    simp (disch := omega) only [e140_0, e140_1, e140_2, e140_5, e140_8, e140_9, e140_12, e140_13, e140_14, e140_17, e140_20, e140_21, e140_22, e140_23, e140_26, e140_27, e140_28, e140_31, e140_32, e140_35, e140_36, implies_true, Int.reduceSub, Option.isNone_some, Option.isNone_none, ab_bh_some, ab_bh_thr, ab_gs_3, ab_gl_2, ab_gl_3, ab_gt_some, ab_gc_0, ab_gk_0, Bool.false_eq_true, Bool.true_eq_false, false_implies, Nat.reduceEqDiff, ab_ge, ab_lt, ab_le, ab_gt, ab_eq, ab_ne, decide_eq_true_eq, ab_w_id, ab_w0, ab_gd_some, ab_gs_0, ab_gs_1, ab_gl_0, ab_gl_1, ab_bv_some, ab_bu_some, ab_bv_thr, ab_bu_thr, ab_fx_n, ab_fx_i, ab_fx_q, ab_fx_l, ab_sh_si, ab_gr_si, ab_gl_si, cs_n, ↓reduceIte, true_or, or_true, false_or, or_false, and_true, true_and, and_false, false_and, not_true_eq_false, not_false_eq_true, eq_self, Int.reduceEq, Int.reduceLT, Int.reduceLE, Int.reduceAdd, Int.reduceMul, Int.reduceNeg, if_pos, if_neg, hs, hs0, e1, eq_false hn, n102_0 hs, e3, c]
  · rw [if_pos c]
    obtain ⟨p1, a1, m1, x1, q1⟩ := n119 (B := B) (dd := dd + 1) m0
    refine ⟨p1, b, ?_, m1, x0.trans x1, q1.trans t0⟩
    simp (disch := omega) only [e140_0, e140_1, e140_2, e140_5, e140_8, e140_9, e140_12, e140_13, e140_14, e140_17, e140_20, e140_21, e140_22, e140_23, e140_26, e140_27, e140_28, e140_31, e140_32, e140_35, e140_36, implies_true, Int.reduceSub, Option.isNone_some, Option.isNone_none, ab_bh_some, ab_bh_thr, ab_gs_3, ab_gl_2, ab_gl_3, ab_gt_some, ab_gc_0, ab_gk_0, Bool.false_eq_true, Bool.true_eq_false, false_implies, Nat.reduceEqDiff, ab_ge, ab_lt, ab_le, ab_gt, ab_eq, ab_ne, decide_eq_true_eq, ab_w_id, ab_w0, ab_gd_some, ab_gs_0, ab_gs_1, ab_gl_0, ab_gl_1, ab_bv_some, ab_bu_some, ab_bv_thr, ab_bu_thr, ab_fx_n, ab_fx_i, ab_fx_q, ab_fx_l, ab_sh_si, ab_gr_si, ab_gl_si, cs_n, ↓reduceIte, true_or, or_true, false_or, or_false, and_true, true_and, and_false, false_and, not_true_eq_false, not_false_eq_true, eq_self, Int.reduceEq, Int.reduceLT, Int.reduceLE, Int.reduceAdd, Int.reduceMul, Int.reduceNeg, if_pos, if_neg, hs, hs0, e1, eq_false hn, n102_0 hs, e3, c, a1]
/-- what is asked leaves the reference as it is -/
theorem mR_W {d M : Nat} {loc : ab_M} {g h h' : ab_H} {b : Nat} {k v : Int} {kk ss : Nat} (a : ab_E B d M 0 loc [] h = some (.inl (some (.inl v)), h')) (m : mm g h' b) (x : mW (mt h k) h' kk ss) : mR B d M loc h g k v (kk + 362) (ss + 1810) := ⟨h', b, a, m, ((mE.si (by omega)).trans x.E).mono (by omega) (by omega), x.2.2.2.2.2.trans (mt_t h k)⟩
theorem mR.mono {d M : Nat} {loc : ab_M} {g h : ab_H} {k v : Int} {kk ss kk' ss' : Nat} (a : mR B d M loc h g k v kk ss) (h1 : kk ≤ kk') (h2 : ss ≤ ss') : mR B d M loc h g k v kk' ss' := by
  obtain ⟨h', b', a1, a2, a3, a4⟩ := a
  exact ⟨h', b', a1, a2, a3.mono h1 h2, a4⟩
theorem n141_1 {dd : Nat} {g h : ab_H} {b : Nat} (i : ci g) (m : mm g h b) (hn : ab_gi g 1 0 = 0 ∨ ab_gi g 0 2 = 1 ∨ pk_plan (ck_K g) (ab_gi g 1 0) = none) : mR B (dd + 9) 141 [some (.inr (.inr (.inl (some 18))))] h g 1 0 362 1810 := by
  have hs := m.1.1.1
  have e1 := m.2.1.1
  have e3 := m.2.1.2.2.1
  have hD := i.1.2.1
  by_cases c0 : ab_gi g 1 0 = 0
  · refine (mR_no m ?_).mono (by omega) (by omega)
    simp (disch := omega) only [e141_0, e141_1, e141_2, e141_5, e141_8, e141_9, e141_12, e141_15, e141_16, e141_19, e141_22, e141_23, e141_26, e141_27, e141_28, e141_31, e141_34, e141_35, e141_36, e141_37, e141_40, e141_41, e141_42, e141_45, e141_46, e141_47, e141_50, implies_true, Int.reduceSub, Option.isNone_some, Option.isNone_none, ab_bh_some, ab_bh_thr, ab_gs_3, ab_gl_2, ab_gl_3, ab_gt_some, ab_gc_0, ab_gk_0, Bool.false_eq_true, Bool.true_eq_false, false_implies, Nat.reduceEqDiff, ab_ge, ab_lt, ab_le, ab_gt, ab_eq, ab_ne, decide_eq_true_eq, ab_w_id, ab_w0, ab_gd_some, ab_gs_0, ab_gs_1, ab_gl_0, ab_gl_1, ab_bv_some, ab_bu_some, ab_bv_thr, ab_bu_thr, ab_fx_n, ab_fx_i, ab_fx_q, ab_fx_l, ab_sh_si, ab_gr_si, ab_gl_si, cs_n, ↓reduceIte, true_or, or_true, false_or, or_false, and_true, true_and, and_false, false_and, not_true_eq_false, not_false_eq_true, eq_self, Int.reduceEq, Int.reduceLT, Int.reduceLE, Int.reduceAdd, Int.reduceMul, Int.reduceNeg, if_pos, if_neg, hs, e1, eq_true c0, n102_1 hs]
  · rcases i.2.2.1.1 with c | c
    · obtain ⟨h1, r, a1, m1, x1, X, k1⟩ := n137 (B := B) (dd := dd) i m
      have hs1 := m1.1.1.1
      have ep : pk_plan (ck_K g) (ab_gi g 1 0) = none := by
        rcases hn with q | q | q
        · exact absurd q c0
        · omega
        · exact q
      rw [ep] at X
      have er : r = none := X
      subst er
      refine ⟨mt h1 1, b, ?_, mm_thr m1, (x1.E.trans (mE.si (by omega))).mono (by omega) (by omega), mt_t h1 1⟩
      simp (disch := omega) only [e141_0, e141_1, e141_2, e141_5, e141_8, e141_9, e141_12, e141_15, e141_16, e141_19, e141_22, e141_23, e141_26, e141_27, e141_28, e141_31, e141_34, e141_35, e141_36, e141_37, e141_40, e141_41, e141_42, e141_45, e141_46, e141_47, e141_50, implies_true, Int.reduceSub, Option.isNone_some, Option.isNone_none, ab_bh_some, ab_bh_thr, ab_gs_3, ab_gl_2, ab_gl_3, ab_gt_some, ab_gc_0, ab_gk_0, Bool.false_eq_true, Bool.true_eq_false, false_implies, Nat.reduceEqDiff, ab_ge, ab_lt, ab_le, ab_gt, ab_eq, ab_ne, decide_eq_true_eq, ab_w_id, ab_w0, ab_gd_some, ab_gs_0, ab_gs_1, ab_gl_0, ab_gl_1, ab_bv_some, ab_bu_some, ab_bv_thr, ab_bu_thr, ab_fx_n, ab_fx_i, ab_fx_q, ab_fx_l, ab_sh_si, ab_gr_si, ab_gl_si, cs_n, ↓reduceIte, true_or, or_true, false_or, or_false, and_true, true_and, and_false, false_and, not_true_eq_false, not_false_eq_true, eq_self, Int.reduceEq, Int.reduceLT, Int.reduceLE, Int.reduceAdd, Int.reduceMul, Int.reduceNeg, if_pos, if_neg, hs, e1, eq_false c0, e3, c, a1, hs1, n102_1 hs1]
    · refine (mR_no m ?_).mono (by omega) (by omega)
      simp (disch := omega) only [e141_0, e141_1, e141_2, e141_5, e141_8, e141_9, e141_12, e141_15, e141_16, e141_19, e141_22, e141_23, e141_26, e141_27, e141_28, e141_31, e141_34, e141_35, e141_36, e141_37, e141_40, e141_41, e141_42, e141_45, e141_46, e141_47, e141_50, implies_true, Int.reduceSub, Option.isNone_some, Option.isNone_none, ab_bh_some, ab_bh_thr, ab_gs_3, ab_gl_2, ab_gl_3, ab_gt_some, ab_gc_0, ab_gk_0, Bool.false_eq_true, Bool.true_eq_false, false_implies, Nat.reduceEqDiff, ab_ge, ab_lt, ab_le, ab_gt, ab_eq, ab_ne, decide_eq_true_eq, ab_w_id, ab_w0, ab_gd_some, ab_gs_0, ab_gs_1, ab_gl_0, ab_gl_1, ab_bv_some, ab_bu_some, ab_bv_thr, ab_bu_thr, ab_fx_n, ab_fx_i, ab_fx_q, ab_fx_l, ab_sh_si, ab_gr_si, ab_gl_si, cs_n, ↓reduceIte, true_or, or_true, false_or, or_false, and_true, true_and, and_false, false_and, not_true_eq_false, not_false_eq_true, eq_self, Int.reduceEq, Int.reduceLT, Int.reduceLE, Int.reduceAdd, Int.reduceMul, Int.reduceNeg, if_pos, if_neg, hs, e1, eq_false c0, e3, c, n102_1 hs]
theorem mR_of {d M : Nat} {loc : ab_M} {g h : ab_H} {k v v' : Int} {kk ss : Nat} (a : mR B d M loc h g k v kk ss) (e : v = v') : mR B d M loc h g k v' kk ss := by rw [← e]; exact a
theorem n141 {dd : Nat} {g h : ab_H} {b : Nat} (i : ci g) (m : mm g h b) (hD : ab_gi g 1 0 ≠ 0) (h2 : ab_gi g 0 2 = 0) (hp : pk_plan (ck_K g) (ab_gi g 1 0) ≠ none) (ion : ci (cs_on g)) (gon : ∀ c x, 4 ≤ c → ab_gi (cs_on g) c x = ab_gi g c x) (gon1 : ab_gi (cs_on g) 1 0 = ab_gi g 1 0) : mR B (dd + 9) 141 [some (.inr (.inr (.inl (some 18))))] h (cs_on g) 0 (pk_en (ck_K g) (ab_gi g 1 0) (pk_plan (ck_K g) (ab_gi g 1 0))) 724 3620 := by
  have hs := m.1.1.1
  have e1 := m.2.1.1
  have e3 := m.2.1.2.2.1
  have hDS := i.1.2.1
  have hK : pk_ok (ck_K g) := ck_K_ok i.2.1.1.1
  obtain ⟨h1, r, a1, m1, x1, X, k1⟩ := n137 (B := B) (dd := dd) i m
  have hs1 := m1.1.1.1
  have m1' : mm g (mt h1 0) b := mm_thr m1
  obtain ⟨h2', a2, m2, x2, q2⟩ := n120 (B := B) (dd := dd + 5) i m1' hD
  have hs2 := m2.1.1.1
  obtain ⟨h3, r3, a3, m3, x3, X3, k3⟩ := n137 (B := B) (dd := dd) ion m2
  have eK : ck_K (cs_on g) = ck_K g := ck_K_congr (gon 7 0 (by omega)) (gon 7 1 (by omega)) (fun c d q => gon c d (by omega))
  rw [eK, gon1] at X3
  cases hy : pk_plan (ck_K g) (ab_gi g 1 0) with
  | none => exact absurd hy hp
  | some y =>
    rw [hy] at X X3
    obtain ⟨kc0, -, -, er, -⟩ := X
    obtain ⟨kc, k0, k1', er3, -, ⟨t1, t2, t3⟩, ⟨r1, r2⟩, m5, m6⟩ := X3
    have hF := pk_plan_F hK (by omega) y hy
    have hm3 := m3.1
    have eM := m3.2.2.2.1
    rw [eK] at eM
    have eD3 : ab_gi h3 18 1 = ab_gi g 1 0 := m3.2.1.1.trans gon1
    rw [gon1] at hm3
    have E := n134 (B := B) (dd := dd + 8) (st := y.1) hm3 (by rw [eM]; exact hK) eD3 (by omega) (by omega) t2 (fun d d1 d2 => ⟨(m5 d d1 d2).1, by have := (hF.1 d d1 d2).1; omega⟩)
    rw [eM] at E
    refine ⟨h3, b, ?_, m3, ?_, ?_⟩
    · subst er er3
      have hs1' : (ab_sh (mt h1 0))[18]? = some (8, 22) := hs1
      simp (disch := omega) only [e141_0, e141_1, e141_2, e141_5, e141_8, e141_9, e141_12, e141_15, e141_16, e141_19, e141_22, e141_23, e141_26, e141_27, e141_28, e141_31, e141_34, e141_35, e141_36, e141_37, e141_40, e141_41, e141_42, e141_45, e141_46, e141_47, e141_50, implies_true, Int.reduceSub, Option.isNone_some, Option.isNone_none, ab_bh_some, ab_bh_thr, ab_gs_3, ab_gl_2, ab_gl_3, ab_gt_some, ab_gc_0, ab_gk_0, Bool.false_eq_true, Bool.true_eq_false, false_implies, Nat.reduceEqDiff, ab_ge, ab_lt, ab_le, ab_gt, ab_eq, ab_ne, decide_eq_true_eq, ab_w_id, ab_w0, ab_gd_some, ab_gs_0, ab_gs_1, ab_gl_0, ab_gl_1, ab_bv_some, ab_bu_some, ab_bv_thr, ab_bu_thr, ab_fx_n, ab_fx_i, ab_fx_q, ab_fx_l, ab_sh_si, ab_gr_si, ab_gl_si, cs_n, ↓reduceIte, true_or, or_true, false_or, or_false, and_true, true_and, and_false, false_and, not_true_eq_false, not_false_eq_true, eq_self, Int.reduceEq, Int.reduceLT, Int.reduceLE, Int.reduceAdd, Int.reduceMul, Int.reduceNeg, if_pos, if_neg, hs, e1, eq_false hD, e3, h2, a1, hs1, hs1', n102_0 hs1, a2, hs2, a3, hm3.1, t1, r1, E]
      rfl
    · exact (((x1.E.trans (mE.si (by omega))).trans x2).trans x3.E).mono (by omega) (by omega)
    · rw [x3.2.2.2.2.2, q2]; exact mt_t h1 0
/-! by a gap -/
theorem n142_loop {dd : Nat} {gap D : Int} {n : Nat} (hD5 : D ≤ 5) (g1 : 0 ≤ gap) (g2 : gap ≤ 20) : ∀ (k : Nat) (i : Int) (h : ab_H), (ab_sh h)[18]? = some (8, 22) → (ab_sh h)[n]? = some (0, D.toNat) → n ≠ 18 → ab_gi h 18 1 = D → (∀ x, 0 ≤ x → x < i → ab_gi h n x = gap * x) → 0 ≤ i → i + k = D →
    ∃ h', ab_E B dd 142 9 [some (.inr (.inr (.inl (some 18)))), some (.inl gap), some (.inr (.inr (.inl (some n)))), some (.inl i)] [] h = ab_E B dd 142 29 [some (.inr (.inr (.inl (some 18)))), some (.inl gap), some (.inr (.inr (.inl (some n)))), some (.inl D)] [] h' ∧ h'.2 = h.2 ∧ (∀ c x, c ≠ n → ab_gi h' c x = ab_gi h c x) ∧ ∀ x, 0 ≤ x → x < D → ab_gi h' n x = gap * x
  | 0, i, h, s18, sn, hn, e1, hx, q1, q2 => by
    have e : i = D := by omega
    subst e
    refine ⟨h, ?_, rfl, fun _ _ _ => rfl, hx⟩
    rw [e142_9]
    simp (disch := omega) only [e142_0, e142_1, e142_4, e142_6, e142_7, e142_8, e142_10, e142_11, e142_14, e142_17, e142_18, e142_19, e142_20, e142_21, e142_22, e142_23, e142_26, e142_30, e142_31, e142_34, e142_37, e142_38, e142_41, e142_42, e142_45, e142_46, e142_47, e142_48, e142_49, implies_true, Int.reduceSub, Option.isNone_some, Option.isNone_none, ab_bh_some, ab_bh_thr, ab_gs_3, ab_gl_2, ab_gl_3, ab_gt_some, ab_gc_0, ab_gk_0, Bool.false_eq_true, Bool.true_eq_false, false_implies, Nat.reduceEqDiff, ab_ge, ab_lt, ab_le, ab_gt, ab_eq, ab_ne, decide_eq_true_eq, ab_w_id, ab_w0, ab_gd_some, ab_gs_0, ab_gs_1, ab_gl_0, ab_gl_1, ab_bv_some, ab_bu_some, ab_bv_thr, ab_bu_thr, ab_fx_n, ab_fx_i, ab_fx_q, ab_fx_l, ab_sh_si, ab_gr_si, ab_gl_si, cs_n, ↓reduceIte, true_or, or_true, false_or, or_false, and_true, true_and, and_false, false_and, not_true_eq_false, not_false_eq_true, eq_self, Int.reduceEq, Int.reduceLT, Int.reduceLE, Int.reduceAdd, Int.reduceMul, Int.reduceNeg, if_pos, if_neg, s18, e1]
  | k + 1, i, h, s18, sn, hn, e1, hx, q1, q2 => by
    obtain ⟨h', a, r1, r2, r3⟩ := n142_loop (dd := dd) hD5 g1 g2 k (i + 1) (ab_si h n i (gap * i)) s18 sn hn (by rw [ab_gi_si, if_neg (fun q => hn q.1.symm)]; exact e1) (fun x x1 x2 => by
      rw [ab_gi_si]
      by_cases z : x = i
      · rw [if_pos ⟨rfl, z⟩, z]
      · rw [if_neg (fun q => z q.2)]; exact hx x x1 (by omega)) (by omega) (by omega)
    refine ⟨h', ?_, r1, fun c x hc => by rw [r2 c x hc, ab_gi_si, if_neg (fun q => hc q.1)], r3⟩
    rw [← a, e142_9]
    simp (disch := omega) only [e142_0, e142_1, e142_4, e142_6, e142_7, e142_8, e142_10, e142_11, e142_14, e142_17, e142_18, e142_19, e142_20, e142_21, e142_22, e142_23, e142_26, e142_30, e142_31, e142_34, e142_37, e142_38, e142_41, e142_42, e142_45, e142_46, e142_47, e142_48, e142_49, implies_true, Int.reduceSub, Option.isNone_some, Option.isNone_none, ab_bh_some, ab_bh_thr, ab_gs_3, ab_gl_2, ab_gl_3, ab_gt_some, ab_gc_0, ab_gk_0, Bool.false_eq_true, Bool.true_eq_false, false_implies, Nat.reduceEqDiff, ab_ge, ab_lt, ab_le, ab_gt, ab_eq, ab_ne, decide_eq_true_eq, ab_w_id, ab_w0, ab_gd_some, ab_gs_0, ab_gs_1, ab_gl_0, ab_gl_1, ab_bv_some, ab_bu_some, ab_bv_thr, ab_bu_thr, ab_fx_n, ab_fx_i, ab_fx_q, ab_fx_l, ab_sh_si, ab_gr_si, ab_gl_si, cs_n, ↓reduceIte, true_or, or_true, false_or, or_false, and_true, true_and, and_false, false_and, not_true_eq_false, not_false_eq_true, eq_self, Int.reduceEq, Int.reduceLT, Int.reduceLE, Int.reduceAdd, Int.reduceMul, Int.reduceNeg, if_pos, if_neg, s18, sn, e1, Int.mul_comm i gap]
theorem n142 {dd : Nat} {gap : Int} {g h : ab_H} {b : Nat} (i : ci g) (m : mm g h b) (hD : ab_gi g 1 0 ≠ 0) (g1 : 0 ≤ gap) (g2 : gap ≤ 20) :
    ∃ h', ab_E B (dd + 2) 142 0 [some (.inr (.inr (.inl (some 18)))), some (.inl gap), none, none] [] h = some (.inl (some (.inl (pk_gap (ck_K g) (ab_gi g 1 0) gap))), h') ∧ mm g h' b ∧ mE h h' 1 5 ∧ ab_gi h' 18 0 = ab_gi h 18 0 := by
  have hm := m.1
  have hDS := i.1.2.1
  have eD := m.2.1.1
  have hK : pk_ok (ck_K g) := ck_K_ok i.2.1.1.1
  have l18 := ab_sh_lt hm.1.1
  have l24 := ab_sh_lt (hm.2.2.2.1 4 (by omega) (by omega)).2
  have lb := ab_sh_lt hm.1.2.2.2.2.2.2
  have b31 : 31 ≤ b := by have := hm.2.2.2.2; omega
  have s18 : (ab_sh (ab_new h 0 (ab_gi g 1 0).toNat))[18]? = some (8, 22) := ab_sh_new_lt hm.1.1
  have e1' : ab_gi (ab_new h 0 (ab_gi g 1 0).toNat) 18 1 = ab_gi g 1 0 := by rw [ab_gi_new, if_neg (by omega)]; exact eD
  obtain ⟨h1, a1, w1, w2, w3⟩ := n142_loop (B := B) (dd := dd + 2) (show ab_gi g 1 0 ≤ 5 by omega) g1 g2 (ab_gi g 1 0).toNat 0 (ab_new h 0 (ab_gi g 1 0).toNat) s18 (ab_sh_new_at h 0 (ab_gi g 1 0).toNat) (by omega) e1' (fun x x1 x2 => by omega) (by omega) (by omega)
  have sh1 : ab_sh h1 = ab_sh (ab_new h 0 (ab_gi g 1 0).toNat) := by unfold ab_sh; rw [w1]
  have gr1 : ab_gr h1 = ab_gr (ab_new h 0 (ab_gi g 1 0).toNat) := by unfold ab_gr; rw [w1]
  have gl1 : ab_gl h1 = ab_gl (ab_new h 0 (ab_gi g 1 0).toNat) := by unfold ab_gl; rw [w1]
  have gi1 : ∀ c x, c < ab_n h → ab_gi h1 c x = ab_gi h c x := fun c x q => by rw [w2 c x (by omega), ab_gi_new, if_neg (by omega)]
  have m1 : mm g h1 b := mm_of m (fun j x q => by rw [sh1]; exact ab_sh_new_lt q) (fun c x _ q => by rw [gr1, ab_gr_new, if_neg (by omega)]) (fun c x _ q _ => gi1 c x q)
  have x1 : mE h h1 1 5 := by
    refine ⟨⟨[(0, (ab_gi g 1 0).toNat)], by rw [sh1, ab_sh_new]⟩, fun c x hc => ⟨gi1 c x (by omega), by rw [gr1, ab_gr_new, if_neg (by omega)]⟩, by rw [gl1, ab_gl_new, if_neg (by omega)], ?_, ?_⟩
    · have : ab_kc h1 = ab_kc h + 1 := by unfold ab_kc; rw [w1]; rfl
      omega
    · have : ab_ks h1 = ab_ks h + (ab_gi g 1 0).toNat := by unfold ab_ks; rw [w1]; rfl
      omega
  have hmul : ∀ d, 0 ≤ d → d < ab_gi g 1 0 → 0 ≤ gap * d ∧ gap * d ≤ 80 := fun d d1 d2 => by
    have a := Int.mul_nonneg g1 d1
    have b : gap * d ≤ 20 * 4 := Int.mul_le_mul g2 (by omega) d1 (by omega)
    omega
  have hm1 := m1.1
  have eM := m1.2.2.2.1
  have eD1 := m1.2.1.1
  have hS : mS h1 (ab_n h) (ab_gi g 1 0) (pk_gs gap) := ⟨by rw [sh1]; exact ab_sh_new_at h 0 _, fun d d1 d2 => by
    have := hmul d d1 d2
    refine ⟨w3 d d1 d2, ?_⟩
    unfold pk_gs
    omega⟩
  have e33 := n133 (B := B) (dd := dd) hm1 (by rw [eM]; exact hK) eD1 (by omega) (by omega) hS
  rw [eM] at e33
  refine ⟨h1, ?_, m1, x1, gi1 18 0 l18⟩
  unfold pk_gap
  by_cases c : pk_trips (ck_K g) (ab_gi g 1 0) (pk_gs gap) = true
  · rw [if_pos c] at e33 ⊢
    have pre : ab_E B (dd + 2) 142 0 [some (.inr (.inr (.inl (some 18)))), some (.inl gap), none, none] [] h = ab_E B (dd + 2) 142 9 [some (.inr (.inr (.inl (some 18)))), some (.inl gap), some (.inr (.inr (.inl (some (ab_n h))))), some (.inl 0)] [] (ab_new h 0 (ab_gi g 1 0).toNat) := by
      simp (disch := omega) only [e142_0, e142_1, e142_4, e142_6, e142_7, e142_8, e142_10, e142_11, e142_14, e142_17, e142_18, e142_19, e142_20, e142_21, e142_22, e142_23, e142_26, e142_30, e142_31, e142_34, e142_37, e142_38, e142_41, e142_42, e142_45, e142_46, e142_47, e142_48, e142_49, implies_true, Int.reduceSub, Option.isNone_some, Option.isNone_none, ab_bh_some, ab_bh_thr, ab_gs_3, ab_gl_2, ab_gl_3, ab_gt_some, ab_gc_0, ab_gk_0, Bool.false_eq_true, Bool.true_eq_false, false_implies, Nat.reduceEqDiff, ab_ge, ab_lt, ab_le, ab_gt, ab_eq, ab_ne, decide_eq_true_eq, ab_w_id, ab_w0, ab_gd_some, ab_gs_0, ab_gs_1, ab_gl_0, ab_gl_1, ab_bv_some, ab_bu_some, ab_bv_thr, ab_bu_thr, ab_fx_n, ab_fx_i, ab_fx_q, ab_fx_l, ab_sh_si, ab_gr_si, ab_gl_si, cs_n, ↓reduceIte, true_or, or_true, false_or, or_false, and_true, true_and, and_false, false_and, not_true_eq_false, not_false_eq_true, eq_self, Int.reduceEq, Int.reduceLT, Int.reduceLE, Int.reduceAdd, Int.reduceMul, Int.reduceNeg, if_pos, if_neg, hm.1, eD]
    rw [pre, a1]
    simp (disch := omega) only [e142_0, e142_1, e142_4, e142_6, e142_7, e142_8, e142_10, e142_11, e142_14, e142_17, e142_18, e142_19, e142_20, e142_21, e142_22, e142_23, e142_26, e142_29, e142_30, e142_31, e142_34, e142_37, e142_38, e142_41, e142_42, e142_45, e142_46, e142_47, e142_48, e142_49, implies_true, Int.reduceSub, Option.isNone_some, Option.isNone_none, ab_bh_some, ab_bh_thr, ab_gs_3, ab_gl_2, ab_gl_3, ab_gt_some, ab_gc_0, ab_gk_0, Bool.false_eq_true, Bool.true_eq_false, false_implies, Nat.reduceEqDiff, ab_ge, ab_lt, ab_le, ab_gt, ab_eq, ab_ne, decide_eq_true_eq, ab_w_id, ab_w0, ab_gd_some, ab_gs_0, ab_gs_1, ab_gl_0, ab_gl_1, ab_bv_some, ab_bu_some, ab_bv_thr, ab_bu_thr, ab_fx_n, ab_fx_i, ab_fx_q, ab_fx_l, ab_sh_si, ab_gr_si, ab_gl_si, cs_n, ↓reduceIte, true_or, or_true, false_or, or_false, and_true, true_and, and_false, false_and, not_true_eq_false, not_false_eq_true, eq_self, Int.reduceEq, Int.reduceLT, Int.reduceLE, Int.reduceAdd, Int.reduceMul, Int.reduceNeg, if_pos, if_neg, hm1.1, eD1, e33]
  · rw [if_neg c] at e33 ⊢
    have pre : ab_E B (dd + 2) 142 0 [some (.inr (.inr (.inl (some 18)))), some (.inl gap), none, none] [] h = ab_E B (dd + 2) 142 9 [some (.inr (.inr (.inl (some 18)))), some (.inl gap), some (.inr (.inr (.inl (some (ab_n h))))), some (.inl 0)] [] (ab_new h 0 (ab_gi g 1 0).toNat) := by
      simp (disch := omega) only [e142_0, e142_1, e142_4, e142_6, e142_7, e142_8, e142_10, e142_11, e142_14, e142_17, e142_18, e142_19, e142_20, e142_21, e142_22, e142_23, e142_26, e142_30, e142_31, e142_34, e142_37, e142_38, e142_41, e142_42, e142_45, e142_46, e142_47, e142_48, e142_49, implies_true, Int.reduceSub, Option.isNone_some, Option.isNone_none, ab_bh_some, ab_bh_thr, ab_gs_3, ab_gl_2, ab_gl_3, ab_gt_some, ab_gc_0, ab_gk_0, Bool.false_eq_true, Bool.true_eq_false, false_implies, Nat.reduceEqDiff, ab_ge, ab_lt, ab_le, ab_gt, ab_eq, ab_ne, decide_eq_true_eq, ab_w_id, ab_w0, ab_gd_some, ab_gs_0, ab_gs_1, ab_gl_0, ab_gl_1, ab_bv_some, ab_bu_some, ab_bv_thr, ab_bu_thr, ab_fx_n, ab_fx_i, ab_fx_q, ab_fx_l, ab_sh_si, ab_gr_si, ab_gl_si, cs_n, ↓reduceIte, true_or, or_true, false_or, or_false, and_true, true_and, and_false, false_and, not_true_eq_false, not_false_eq_true, eq_self, Int.reduceEq, Int.reduceLT, Int.reduceLE, Int.reduceAdd, Int.reduceMul, Int.reduceNeg, if_pos, if_neg, hm.1, eD]
    rw [pre, a1]
    simp (disch := omega) only [e142_0, e142_1, e142_4, e142_6, e142_7, e142_8, e142_10, e142_11, e142_14, e142_17, e142_18, e142_19, e142_20, e142_21, e142_22, e142_23, e142_26, e142_29, e142_30, e142_31, e142_34, e142_37, e142_38, e142_41, e142_42, e142_45, e142_46, e142_47, e142_48, e142_49, implies_true, Int.reduceSub, Option.isNone_some, Option.isNone_none, ab_bh_some, ab_bh_thr, ab_gs_3, ab_gl_2, ab_gl_3, ab_gt_some, ab_gc_0, ab_gk_0, Bool.false_eq_true, Bool.true_eq_false, false_implies, Nat.reduceEqDiff, ab_ge, ab_lt, ab_le, ab_gt, ab_eq, ab_ne, decide_eq_true_eq, ab_w_id, ab_w0, ab_gd_some, ab_gs_0, ab_gs_1, ab_gl_0, ab_gl_1, ab_bv_some, ab_bu_some, ab_bv_thr, ab_bu_thr, ab_fx_n, ab_fx_i, ab_fx_q, ab_fx_l, ab_sh_si, ab_gr_si, ab_gl_si, cs_n, ↓reduceIte, true_or, or_true, false_or, or_false, and_true, true_and, and_false, false_and, not_true_eq_false, not_false_eq_true, eq_self, Int.reduceEq, Int.reduceLT, Int.reduceLE, Int.reduceAdd, Int.reduceMul, Int.reduceNeg, if_pos, if_neg, hm1.1, eD1, e33, Int.mul_comm gap]
theorem pk_gap_rng {K : pk_K} {D gap : Int} (g1 : 0 ≤ gap) (g2 : gap ≤ 20) (D1 : 1 ≤ D) (D5 : D ≤ 5) : -1 ≤ pk_gap K D gap ∧ pk_gap K D gap ≤ 100 := by
  have a := Int.mul_nonneg g1 (show 0 ≤ D - 1 by omega)
  have b : gap * (D - 1) ≤ 20 * 4 := Int.mul_le_mul g2 (by omega) (by omega) (by omega)
  unfold pk_gap
  split <;> omega
theorem n143_1 {dd : Nat} {gap : Int} {g h : ab_H} {b : Nat} (m : mm g h b) (r1 : -2147483648 ≤ gap) (r2 : gap < 2147483648) (hn : ¬ (0 ≤ gap ∧ gap ≤ 20)) : mR B (dd + 2) 143 [some (.inr (.inr (.inl (some 18)))), some (.inl gap), none] h g 1 0 0 0 := by
  have hs := m.1.1.1
  have e := n100n (B := B) (dd := dd + 1) (h := h) r1 r2 (show -2147483648 ≤ 0 by omega) (show (0 : Int) < 2147483648 by omega) (show -2147483648 ≤ 20 by omega) (show (20 : Int) < 2147483648 by omega) hn
  refine mR_no m ?_
  simp (disch := omega) only [e143_0, e143_1, e143_2, e143_3, e143_5, e143_8, e143_11, e143_12, e143_15, e143_16, e143_17, e143_20, e143_23, e143_24, e143_25, e143_28, e143_31, e143_32, e143_35, e143_38, e143_39, e143_42, e143_43, e143_44, e143_47, e143_50, e143_51, e143_52, e143_53, e143_54, e143_57, e143_58, e143_59, e143_60, e143_63, e143_64, e143_67, e143_68, implies_true, Int.reduceSub, Option.isNone_some, Option.isNone_none, ab_bh_some, ab_bh_thr, ab_gs_3, ab_gl_2, ab_gl_3, ab_gt_some, ab_gc_0, ab_gk_0, Bool.false_eq_true, Bool.true_eq_false, false_implies, Nat.reduceEqDiff, ab_ge, ab_lt, ab_le, ab_gt, ab_eq, ab_ne, decide_eq_true_eq, ab_w_id, ab_w0, ab_gd_some, ab_gs_0, ab_gs_1, ab_gl_0, ab_gl_1, ab_bv_some, ab_bu_some, ab_bv_thr, ab_bu_thr, ab_fx_n, ab_fx_i, ab_fx_q, ab_fx_l, ab_sh_si, ab_gr_si, ab_gl_si, cs_n, ↓reduceIte, true_or, or_true, false_or, or_false, and_true, true_and, and_false, false_and, not_true_eq_false, not_false_eq_true, eq_self, Int.reduceEq, Int.reduceLT, Int.reduceLE, Int.reduceAdd, Int.reduceMul, Int.reduceNeg, if_pos, if_neg, hs, e, n102_1 hs]
theorem n143_2 {dd : Nat} {gap : Int} {g h : ab_H} {b : Nat} (i : ci g) (m : mm g h b) (g1 : 0 ≤ gap) (g2 : gap ≤ 20) (hn : ab_gi g 1 0 = 0 ∨ ab_gi g 0 2 = 1) : mR B (dd + 2) 143 [some (.inr (.inr (.inl (some 18)))), some (.inl gap), none] h g 2 0 0 0 := by
  have hs := m.1.1.1
  have hs0 : (ab_sh (mt h 0))[18]? = some (8, 22) := hs
  have m0 : mm g (mt h 0) b := mm_thr m
  have hD := i.1.2.1
  have e := n100y (B := B) (dd := dd + 1) (h := h) (show -2147483648 ≤ 0 by omega) (show (20 : Int) < 2147483648 by omega) g1 g2
  have e1 := n101_r (B := B) (dd := dd + 1) (w := 2) m (by omega) (by omega)
  have eD := m0.2.1.1
  have e3 := m0.2.1.2.2.1
  refine mR_no m ?_
  by_cases c0 : ab_gi g 1 0 = 0
  · simp (disch := omega) only [e143_0, e143_1, e143_2, e143_3, e143_5, e143_8, e143_11, e143_12, e143_15, e143_16, e143_17, e143_20, e143_23, e143_24, e143_25, e143_28, e143_31, e143_32, e143_35, e143_38, e143_39, e143_42, e143_43, e143_44, e143_47, e143_50, e143_51, e143_52, e143_53, e143_54, e143_57, e143_58, e143_59, e143_60, e143_63, e143_64, e143_67, e143_68, implies_true, Int.reduceSub, Option.isNone_some, Option.isNone_none, ab_bh_some, ab_bh_thr, ab_gs_3, ab_gl_2, ab_gl_3, ab_gt_some, ab_gc_0, ab_gk_0, Bool.false_eq_true, Bool.true_eq_false, false_implies, Nat.reduceEqDiff, ab_ge, ab_lt, ab_le, ab_gt, ab_eq, ab_ne, decide_eq_true_eq, ab_w_id, ab_w0, ab_gd_some, ab_gs_0, ab_gs_1, ab_gl_0, ab_gl_1, ab_bv_some, ab_bu_some, ab_bv_thr, ab_bu_thr, ab_fx_n, ab_fx_i, ab_fx_q, ab_fx_l, ab_sh_si, ab_gr_si, ab_gl_si, cs_n, ↓reduceIte, true_or, or_true, false_or, or_false, and_true, true_and, and_false, false_and, not_true_eq_false, not_false_eq_true, eq_self, Int.reduceEq, Int.reduceLT, Int.reduceLE, Int.reduceAdd, Int.reduceMul, Int.reduceNeg, if_pos, if_neg, hs, hs0, e, n102_0 hs, eD, eq_true c0, e1]
  · have c : ab_gi g 0 2 = 1 := by rcases hn with q | q; exact absurd q c0; exact q
    simp (disch := omega) only [e143_0, e143_1, e143_2, e143_3, e143_5, e143_8, e143_11, e143_12, e143_15, e143_16, e143_17, e143_20, e143_23, e143_24, e143_25, e143_28, e143_31, e143_32, e143_35, e143_38, e143_39, e143_42, e143_43, e143_44, e143_47, e143_50, e143_51, e143_52, e143_53, e143_54, e143_57, e143_58, e143_59, e143_60, e143_63, e143_64, e143_67, e143_68, implies_true, Int.reduceSub, Option.isNone_some, Option.isNone_none, ab_bh_some, ab_bh_thr, ab_gs_3, ab_gl_2, ab_gl_3, ab_gt_some, ab_gc_0, ab_gk_0, Bool.false_eq_true, Bool.true_eq_false, false_implies, Nat.reduceEqDiff, ab_ge, ab_lt, ab_le, ab_gt, ab_eq, ab_ne, decide_eq_true_eq, ab_w_id, ab_w0, ab_gd_some, ab_gs_0, ab_gs_1, ab_gl_0, ab_gl_1, ab_bv_some, ab_bu_some, ab_bv_thr, ab_bu_thr, ab_fx_n, ab_fx_i, ab_fx_q, ab_fx_l, ab_sh_si, ab_gr_si, ab_gl_si, cs_n, ↓reduceIte, true_or, or_true, false_or, or_false, and_true, true_and, and_false, false_and, not_true_eq_false, not_false_eq_true, eq_self, Int.reduceEq, Int.reduceLT, Int.reduceLE, Int.reduceAdd, Int.reduceMul, Int.reduceNeg, if_pos, if_neg, hs, hs0, e, n102_0 hs, eD, eq_false c0, e3, c, e1]
theorem n143 {dd : Nat} {gap : Int} {g h : ab_H} {b : Nat} (i : ci g) (m : mm g h b) (hD : ab_gi g 1 0 ≠ 0) (h2 : ab_gi g 0 2 = 0) (g1 : 0 ≤ gap) (g2 : gap ≤ 20) : mR B (dd + 4) 143 [some (.inr (.inr (.inl (some 18)))), some (.inl gap), none] h (if pk_gap (ck_K g) (ab_gi g 1 0) gap = -1 then g else cs_on g) 0 (pk_gap (ck_K g) (ab_gi g 1 0) gap) 1 5 := by
  have hs := m.1.1.1
  have hs0 : (ab_sh (mt h 0))[18]? = some (8, 22) := hs
  have m0 : mm g (mt h 0) b := mm_thr m
  have t0 := mt_t h 0
  have x0 : mE h (mt h 0) 0 0 := mE.si (by omega)
  have hDS := i.1.2.1
  have e := n100y (B := B) (dd := dd + 3) (h := h) (show -2147483648 ≤ 0 by omega) (show (20 : Int) < 2147483648 by omega) g1 g2
  have eD := m0.2.1.1
  have e3 := m0.2.1.2.2.1
  obtain ⟨h1, a1, m1, x1, q1⟩ := n142 (B := B) (dd := dd + 1) i m0 hD g1 g2
  have hs1 := m1.1.1.1
  have hr := pk_gap_rng (K := ck_K g) (D := ab_gi g 1 0) g1 g2 (by omega) (by omega)
  by_cases c : pk_gap (ck_K g) (ab_gi g 1 0) gap = -1
  · rw [if_pos c]
    refine ⟨h1, b, ?_, m1, (x0.trans x1).mono (by omega) (by omega), q1.trans t0⟩
    simp (disch := omega) only [e143_0, e143_1, e143_2, e143_3, e143_5, e143_8, e143_11, e143_12, e143_15, e143_16, e143_17, e143_20, e143_23, e143_24, e143_25, e143_28, e143_31, e143_32, e143_35, e143_38, e143_39, e143_42, e143_43, e143_44, e143_47, e143_50, e143_51, e143_52, e143_53, e143_54, e143_57, e143_58, e143_59, e143_60, e143_63, e143_64, e143_67, e143_68, implies_true, Int.reduceSub, Option.isNone_some, Option.isNone_none, ab_bh_some, ab_bh_thr, ab_gs_3, ab_gl_2, ab_gl_3, ab_gt_some, ab_gc_0, ab_gk_0, Bool.false_eq_true, Bool.true_eq_false, false_implies, Nat.reduceEqDiff, ab_ge, ab_lt, ab_le, ab_gt, ab_eq, ab_ne, decide_eq_true_eq, ab_w_id, ab_w0, ab_gd_some, ab_gs_0, ab_gs_1, ab_gl_0, ab_gl_1, ab_bv_some, ab_bu_some, ab_bv_thr, ab_bu_thr, ab_fx_n, ab_fx_i, ab_fx_q, ab_fx_l, ab_sh_si, ab_gr_si, ab_gl_si, cs_n, ↓reduceIte, true_or, or_true, false_or, or_false, and_true, true_and, and_false, false_and, not_true_eq_false, not_false_eq_true, eq_self, Int.reduceEq, Int.reduceLT, Int.reduceLE, Int.reduceAdd, Int.reduceMul, Int.reduceNeg, if_pos, if_neg, hs, hs0, e, n102_0 hs, n101_0 hs0 t0, eD, eq_false hD, e3, h2, a1, eq_true c]
  · rw [if_neg c]
    obtain ⟨h2', a2, m2, x2, q2⟩ := n120 (B := B) (dd := dd) i m1 hD
    refine ⟨h2', b, ?_, m2, ((x0.trans x1).trans x2).mono (by omega) (by omega), (q2.trans q1).trans t0⟩
    simp (disch := omega) only [e143_0, e143_1, e143_2, e143_3, e143_5, e143_8, e143_11, e143_12, e143_15, e143_16, e143_17, e143_20, e143_23, e143_24, e143_25, e143_28, e143_31, e143_32, e143_35, e143_38, e143_39, e143_42, e143_43, e143_44, e143_47, e143_50, e143_51, e143_52, e143_53, e143_54, e143_57, e143_58, e143_59, e143_60, e143_63, e143_64, e143_67, e143_68, implies_true, Int.reduceSub, Option.isNone_some, Option.isNone_none, ab_bh_some, ab_bh_thr, ab_gs_3, ab_gl_2, ab_gl_3, ab_gt_some, ab_gc_0, ab_gk_0, Bool.false_eq_true, Bool.true_eq_false, false_implies, Nat.reduceEqDiff, ab_ge, ab_lt, ab_le, ab_gt, ab_eq, ab_ne, decide_eq_true_eq, ab_w_id, ab_w0, ab_gd_some, ab_gs_0, ab_gs_1, ab_gl_0, ab_gl_1, ab_bv_some, ab_bu_some, ab_bv_thr, ab_bu_thr, ab_fx_n, ab_fx_i, ab_fx_q, ab_fx_l, ab_sh_si, ab_gr_si, ab_gl_si, cs_n, ↓reduceIte, true_or, or_true, false_or, or_false, and_true, true_and, and_false, false_and, not_true_eq_false, not_false_eq_true, eq_self, Int.reduceEq, Int.reduceLT, Int.reduceLE, Int.reduceAdd, Int.reduceMul, Int.reduceNeg, if_pos, if_neg, hs, hs0, e, n102_0 hs, n101_0 hs0 t0, eD, eq_false hD, e3, h2, a1, eq_false c, hs1, a2]
theorem n157_1 {dd : Nat} {gap : Int} {g h : ab_H} {b : Nat} (m : mm g h b) (r1 : -2147483648 ≤ gap) (r2 : gap < 2147483648) (hn : ¬ (0 ≤ gap ∧ gap ≤ 20)) : mR B (dd + 2) 157 [some (.inr (.inr (.inl (some 18)))), some (.inl gap)] h g 1 0 0 0 := by
  have hs := m.1.1.1
  have e := n100n (B := B) (dd := dd + 1) (h := h) r1 r2 (show -2147483648 ≤ 0 by omega) (show (0 : Int) < 2147483648 by omega) (show -2147483648 ≤ 20 by omega) (show (20 : Int) < 2147483648 by omega) hn
  refine mR_no m ?_
  simp (disch := omega) only [e157_0, e157_1, e157_2, e157_3, e157_5, e157_8, e157_11, e157_12, e157_15, e157_16, e157_17, e157_20, e157_23, e157_24, e157_25, e157_28, e157_31, e157_32, e157_35, e157_36, e157_37, e157_40, e157_43, e157_44, e157_47, e157_48, e157_49, e157_52, implies_true, Int.reduceSub, Option.isNone_some, Option.isNone_none, ab_bh_some, ab_bh_thr, ab_gs_3, ab_gl_2, ab_gl_3, ab_gt_some, ab_gc_0, ab_gk_0, Bool.false_eq_true, Bool.true_eq_false, false_implies, Nat.reduceEqDiff, ab_ge, ab_lt, ab_le, ab_gt, ab_eq, ab_ne, decide_eq_true_eq, ab_w_id, ab_w0, ab_gd_some, ab_gs_0, ab_gs_1, ab_gl_0, ab_gl_1, ab_bv_some, ab_bu_some, ab_bv_thr, ab_bu_thr, ab_fx_n, ab_fx_i, ab_fx_q, ab_fx_l, ab_sh_si, ab_gr_si, ab_gl_si, cs_n, ↓reduceIte, true_or, or_true, false_or, or_false, and_true, true_and, and_false, false_and, not_true_eq_false, not_false_eq_true, eq_self, Int.reduceEq, Int.reduceLT, Int.reduceLE, Int.reduceAdd, Int.reduceMul, Int.reduceNeg, if_pos, if_neg, hs, e, n102_1 hs]
theorem n157_2 {dd : Nat} {gap : Int} {g h : ab_H} {b : Nat} (m : mm g h b) (g1 : 0 ≤ gap) (g2 : gap ≤ 20) (hn : ab_gi g 1 0 = 0) : mR B (dd + 2) 157 [some (.inr (.inr (.inl (some 18)))), some (.inl gap)] h g 2 0 0 0 := by
  have hs := m.1.1.1
  have hs0 : (ab_sh (mt h 0))[18]? = some (8, 22) := hs
  have m0 : mm g (mt h 0) b := mm_thr m
  have e := n100y (B := B) (dd := dd + 1) (h := h) (show -2147483648 ≤ 0 by omega) (show (20 : Int) < 2147483648 by omega) g1 g2
  have e1 := n101_r (B := B) (dd := dd + 1) (w := 2) m (by omega) (by omega)
  have eD := m0.2.1.1
  refine mR_no m ?_
  simp (disch := omega) only [e157_0, e157_1, e157_2, e157_3, e157_5, e157_8, e157_11, e157_12, e157_15, e157_16, e157_17, e157_20, e157_23, e157_24, e157_25, e157_28, e157_31, e157_32, e157_35, e157_36, e157_37, e157_40, e157_43, e157_44, e157_47, e157_48, e157_49, e157_52, implies_true, Int.reduceSub, Option.isNone_some, Option.isNone_none, ab_bh_some, ab_bh_thr, ab_gs_3, ab_gl_2, ab_gl_3, ab_gt_some, ab_gc_0, ab_gk_0, Bool.false_eq_true, Bool.true_eq_false, false_implies, Nat.reduceEqDiff, ab_ge, ab_lt, ab_le, ab_gt, ab_eq, ab_ne, decide_eq_true_eq, ab_w_id, ab_w0, ab_gd_some, ab_gs_0, ab_gs_1, ab_gl_0, ab_gl_1, ab_bv_some, ab_bu_some, ab_bv_thr, ab_bu_thr, ab_fx_n, ab_fx_i, ab_fx_q, ab_fx_l, ab_sh_si, ab_gr_si, ab_gl_si, cs_n, ↓reduceIte, true_or, or_true, false_or, or_false, and_true, true_and, and_false, false_and, not_true_eq_false, not_false_eq_true, eq_self, Int.reduceEq, Int.reduceLT, Int.reduceLE, Int.reduceAdd, Int.reduceMul, Int.reduceNeg, if_pos, if_neg, hs, hs0, e, n102_0 hs, eD, hn, e1]
theorem n157 {dd : Nat} {gap : Int} {g h : ab_H} {b : Nat} (i : ci g) (m : mm g h b) (hD : ab_gi g 1 0 ≠ 0) (g1 : 0 ≤ gap) (g2 : gap ≤ 20) : mR B (dd + 4) 157 [some (.inr (.inr (.inl (some 18)))), some (.inl gap)] h g 0 (pk_gap (ck_K g) (ab_gi g 1 0) gap) 1 5 := by
  have hs := m.1.1.1
  have hs0 : (ab_sh (mt h 0))[18]? = some (8, 22) := hs
  have m0 : mm g (mt h 0) b := mm_thr m
  have t0 := mt_t h 0
  have x0 : mE h (mt h 0) 0 0 := mE.si (by omega)
  have hDS := i.1.2.1
  have e := n100y (B := B) (dd := dd + 3) (h := h) (show -2147483648 ≤ 0 by omega) (show (20 : Int) < 2147483648 by omega) g1 g2
  have eD := m0.2.1.1
  obtain ⟨h1, a1, m1, x1, q1⟩ := n142 (B := B) (dd := dd + 1) i m0 hD g1 g2
  refine ⟨h1, b, ?_, m1, (x0.trans x1).mono (by omega) (by omega), q1.trans t0⟩
  simp (disch := omega) only [e157_0, e157_1, e157_2, e157_3, e157_5, e157_8, e157_11, e157_12, e157_15, e157_16, e157_17, e157_20, e157_23, e157_24, e157_25, e157_28, e157_31, e157_32, e157_35, e157_36, e157_37, e157_40, e157_43, e157_44, e157_47, e157_48, e157_49, e157_52, implies_true, Int.reduceSub, Option.isNone_some, Option.isNone_none, ab_bh_some, ab_bh_thr, ab_gs_3, ab_gl_2, ab_gl_3, ab_gt_some, ab_gc_0, ab_gk_0, Bool.false_eq_true, Bool.true_eq_false, false_implies, Nat.reduceEqDiff, ab_ge, ab_lt, ab_le, ab_gt, ab_eq, ab_ne, decide_eq_true_eq, ab_w_id, ab_w0, ab_gd_some, ab_gs_0, ab_gs_1, ab_gl_0, ab_gl_1, ab_bv_some, ab_bu_some, ab_bv_thr, ab_bu_thr, ab_fx_n, ab_fx_i, ab_fx_q, ab_fx_l, ab_sh_si, ab_gr_si, ab_gl_si, cs_n, ↓reduceIte, true_or, or_true, false_or, or_false, and_true, true_and, and_false, false_and, not_true_eq_false, not_false_eq_true, eq_self, Int.reduceEq, Int.reduceLT, Int.reduceLE, Int.reduceAdd, Int.reduceMul, Int.reduceNeg, if_pos, if_neg, hs, hs0, e, n102_0 hs, n101_0 hs0 t0, eD, eq_false hD, a1]
theorem n161 {dd : Nat} {g h : ab_H} {b : Nat} (m : mm g h b) : mR B dd 161 [some (.inr (.inr (.inl (some 18))))] h (ab_si g 0 12 (ab_gi g 0 12 + 1)) 0 (ab_gi g 0 12 + 1) 0 0 := by
  have hs := m.1.1.1
  have hs0 : (ab_sh (mt h 0))[18]? = some (8, 22) := hs
  have m0 : mm g (mt h 0) b := mm_thr m
  have t0 := mt_t h 0
  have x0 : mE h (mt h 0) 0 0 := mE.si (by omega)
  have e18 : ab_gi (mt h 0) 18 18 = ab_gi g 0 12 := m0.2.1.2.2.2.2.2.2.2.2.2
  have emt : ab_si h 18 0 0 = mt h 0 := rfl
  refine ⟨_, b, ?_, mm_f (k := 12) (j := 18) (v := ab_gi g 0 12 + 1) m0 (by omega), x0.trans (mE.si (by omega)), by rw [ab_gi_si, if_neg (by omega)]; exact t0⟩
  simp (disch := omega) only [e161_0, e161_1, e161_2, e161_5, e161_6, e161_7, e161_10, e161_11, e161_12, e161_13, e161_16, implies_true, Int.reduceSub, Option.isNone_some, Option.isNone_none, ab_bh_some, ab_bh_thr, ab_gs_3, ab_gl_2, ab_gl_3, ab_gt_some, ab_gc_0, ab_gk_0, Bool.false_eq_true, Bool.true_eq_false, false_implies, Nat.reduceEqDiff, ab_ge, ab_lt, ab_le, ab_gt, ab_eq, ab_ne, decide_eq_true_eq, ab_w_id, ab_w0, ab_gd_some, ab_gs_0, ab_gs_1, ab_gl_0, ab_gl_1, ab_bv_some, ab_bu_some, ab_bv_thr, ab_bu_thr, ab_fx_n, ab_fx_i, ab_fx_q, ab_fx_l, ab_sh_si, ab_gr_si, ab_gl_si, cs_n, ↓reduceIte, true_or, or_true, false_or, or_false, and_true, true_and, and_false, false_and, not_true_eq_false, not_false_eq_true, eq_self, Int.reduceEq, Int.reduceLT, Int.reduceLE, Int.reduceAdd, Int.reduceMul, Int.reduceNeg, if_pos, if_neg, hs, emt, hs0, e18]
end
