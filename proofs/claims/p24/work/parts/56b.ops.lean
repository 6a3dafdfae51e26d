set_option linter.all false
/-! CLASS AND REFERENCE, CALL BY CALL -/
section
variable {B : ab_B}
/-- what holds between calls -/
def li (h : ab_H) (b : Nat) : Prop := ci h ∧ mm h h b ∧ (ab_sh h)[30]? = some (7, 2)
theorem li.N {h : ab_H} {b : Nat} (L : li h b) : 31 ≤ ab_n h := ab_sh_lt L.2.2
theorem li_step {h1 g' h2 : ab_H} {b2 kk ss : Nat} (i1 : ci h1) (n1 : 18 ≤ ab_n h1) (e1 : ∀ c x, c ≤ 10 → ab_gi h1 c x = ab_gi g' c x) (s30 : (ab_sh h1)[30]? = some (7, 2)) (M : mm g' h2 b2) (x : mE h1 h2 kk ss) : li h2 b2 := by
  refine ⟨ci_fr i1 (cs_L_of i1.1.1 (fun j hj => ?_) (fun c y hc => (x.2.1 c y hc).2)) (fun c y hc => (x.2.1 c y (by omega)).1), mm_gc M (fun c y hc => ((x.2.1 c y (by omega)).1).trans (e1 c y hc)), x.sh _ _ s30⟩
  obtain ⟨l, e⟩ := x.1
  rw [e, List.getElem?_append_left (by unfold ab_n at n1; omega)]
/-- a call of both: the class by way of the law's own method, the reference; they answer alike -/
def oP (B : ab_B) (d Mw Mr : Nat) (lw lr : ab_M) (h : ab_H) : Prop := ∃ k h1 v h2 b2, ab_E B d Mw 0 lw [] h = some (.inl (some (.inl k)), h1) ∧ ab_E B d Mr 0 lr [] h1 = some (.inl (some (.inl v)), h2) ∧ li h2 b2 ∧ ab_gi h2 18 0 = k ∧ (0 ≤ k ∧ k ≤ 3) ∧ (k = 0 → ab_gl h2 30 0 = (Int32.ofInt v).toInt64) ∧ (ab_sh h1)[18]? = some (8, 22) ∧ ab_kc h2 ≤ ab_kc h + 760 ∧ ab_ks h2 ≤ ab_ks h + 4000 ∧ (Mw = 164 ∨ Mw = 174 → v = 0 ∨ v = 1)
theorem oP_mk {d Mw Mr : Nat} {lw lr : ab_M} {h h1 g' : ab_H} {k v : Int} {kk ss : Nat} (a : ab_E B d Mw 0 lw [] h = some (.inl (some (.inl k)), h1)) (k1 : 0 ≤ k) (k2 : k ≤ 3) (i1 : ci h1) (e1 : ∀ c x, c ≤ 10 → ab_gi h1 c x = ab_gi g' c x) (s18 : (ab_sh h1)[18]? = some (8, 22)) (s30 : (ab_sh h1)[30]? = some (7, 2)) (R : mR B d Mr lr h1 g' k v kk ss) (hv : k = 0 → ab_gl h1 30 0 = (Int32.ofInt v).toInt64) (hk : ab_kc h1 + kk ≤ ab_kc h + 760) (hs : ab_ks h1 + ss ≤ ab_ks h + 4000) (hb : Mw = 164 ∨ Mw = 174 → v = 0 ∨ v = 1) : oP B d Mw Mr lw lr h := by
  obtain ⟨h2, b2, r1, r2, r3, r4⟩ := R
  have n1 := ab_sh_lt s30
  exact ⟨k, h1, v, h2, b2, a, r1, li_step i1 (by omega) e1 s30 r2 r3, r4, ⟨k1, k2⟩, fun q => by rw [r3.2.2.1]; exact hv q, s18, by have := r3.2.2.2.1; omega, by have := r3.2.2.2.2; omega, hb⟩
theorem mm_cost {g h : ab_H} {b c s : Nat} (m : mm g h b) : mm g (ab_cost h c s) b := mm_of m (fun _ _ q => q) (fun _ _ _ _ => rfl) (fun _ _ _ _ _ => rfl)
theorem ci_cost {h : ab_H} {c s : Nat} (i : ci h) : ci (ab_cost h c s) := ci_fr i (show cs_L h from i.1.1) (fun _ _ _ => rfl)
theorem oP_thr {d Mw Mr : Nat} {lw lr : ab_M} {h : ab_H} {k : Int} {b kk ss : Nat} (L : li h b) (a : ab_E B d Mw 0 lw [] h = some (.inl (some (.inl k)), ab_cost h 1 6)) (k1 : 1 ≤ k) (k2 : k ≤ 3) (R : mR B d Mr lr (ab_cost h 1 6) h k 0 kk ss) (hk : kk ≤ 700) (hs : ss ≤ 3900) : oP B d Mw Mr lw lr h :=
  oP_mk a (by omega) k2 (ci_cost L.1) (fun _ _ _ => rfl) L.2.1.1.1.1 L.2.2 R (fun q => by omega) (by show ab_kc h + 1 + kk ≤ _; omega) (by show ab_ks h + 6 + ss ≤ _; omega) (fun _ => Or.inl rfl)
/-- what the class alone has changed -/
theorem mm_cls {h hc : ab_H} {b : Nat} {x : Int64} (m : mm h h b) (w : hc.2 = h.2) (g : ∀ c x, 18 ≤ c → ab_gi hc c x = ab_gi h c x) : mm h (ab_sl hc 30 0 x) b := by
  have es : ab_sh hc = ab_sh h := by unfold ab_sh; rw [w]
  have er : ab_gr hc = ab_gr h := by unfold ab_gr; rw [w]
  exact mm_of m (fun i y q => by rw [ab_sh_sl, es]; exact q) (fun c y _ _ => by rw [ab_gr_sl, er]) (fun c y q _ _ => by rw [ab_gi_sl]; exact g c y q)
theorem ci_sl {h : ab_H} {x : Int64} (i : ci h) : ci (ab_sl h 30 0 x) := ci_fr i (show cs_L h from i.1.1) (fun _ _ _ => rfl)
theorem oP_ok {d Mw Mr : Nat} {lw lr : ab_M} {h hc g' : ab_H} {v : Int} {b kk ss : Nat} (L : li h b) (ic : ci hc) (w : hc.2 = h.2) (a : ab_E B d Mw 0 lw [] h = some (.inl (some (.inl 0)), ab_sl hc 30 0 (Int32.ofInt v).toInt64)) (e1 : ∀ c x, c ≤ 10 → ab_gi hc c x = ab_gi g' c x) (R : mR B d Mr lr (ab_sl hc 30 0 (Int32.ofInt v).toInt64) g' 0 v kk ss) (hk : kk ≤ 760) (hs : ss ≤ 4000) (hb : Mw = 164 ∨ Mw = 174 → v = 0 ∨ v = 1 := by omega) : oP B d Mw Mr lw lr h := by
  have es : ab_sh hc = ab_sh h := by unfold ab_sh; rw [w]
  have ek : ab_kc hc = ab_kc h := by unfold ab_kc; rw [w]
  have eks : ab_ks hc = ab_ks h := by unfold ab_ks; rw [w]
  exact oP_mk a (by omega) (by omega) (ci_sl ic) (fun c x hc => e1 c x hc) (by rw [ab_sh_sl, es]; exact L.2.1.1.1.1) (by rw [ab_sh_sl, es]; exact L.2.2) R (fun _ => by rw [ab_gl_sl, if_pos ⟨rfl, rfl⟩]) (by show ab_kc hc + kk ≤ _; omega) (by show ab_ks hc + ss ≤ _; omega) hb
theorem ab_01 : (Int32.ofInt 1).toInt64 = 1 ∧ (Int32.ofInt 0).toInt64 = 0 := by decide
theorem cs_on_A {h g : ab_H} (A : cs_A h g) : ∀ c x, c ≤ 10 → ab_gi (cs_on g) c x = ab_gi (cs_on h) c x := fun c x hc => by
  have e := fun c x (q : c ≠ 17) => A.2 c x q
  unfold cs_on
  rw [e 0 3 (by omega), e 1 0 (by omega), e 0 4 (by omega), e 0 5 (by omega)]
  by_cases z : 0 ≤ ab_gi h 0 3
  · rw [if_pos z, if_pos z]
    have s0 : ∀ c x, c ≠ 17 → ab_gi (ab_si g 0 2 1) c x = ab_gi (ab_si h 0 2 1) c x := fun c x q => by rw [ab_gi_si, ab_gi_si, e c x q]
    have lay : ∀ (p q : ab_H) (d s v : Int), (∀ c x, c ≠ 17 → ab_gi p c x = ab_gi q c x) → ∀ c x, c ≠ 17 → ab_gi (cs_lay p d s v) c x = ab_gi (cs_lay q d s v) c x := fun p q d s v hpq c x hc => by
      unfold cs_lay
      rw [hpq 5 d (by omega)]
      split
      · exact hpq c x hc
      · rw [ab_gi_si, ab_gi_si, ab_gi_si, ab_gi_si, hpq c x hc]
    have l2 := lay _ _ (ab_gi h 0 3 / (ab_gi h 1 0 - 1) % ab_gi h 1 0) (ab_gi h 0 3 / (ab_gi h 1 0 - 1)) (ab_gi h 0 5) (lay _ _ (cs_dk (ab_gi h 1 0) (ab_gi h 0 3)) (ab_gi h 0 3 / (ab_gi h 1 0 - 1)) (ab_gi h 0 4) s0)
    rw [ab_gi_si, ab_gi_si, ab_gi_si, ab_gi_si, ab_gi_si, ab_gi_si, l2 c x (by omega)]
  · rw [if_neg z, if_neg z, ab_gi_si, ab_gi_si, e c x (by omega)]
theorem op_shelf {dd : Nat} {p q : Int} {h : ab_H} {b : Nat} (L : li h b) (rp1 : -2147483648 ≤ p) (rp2 : p < 2147483648) (rq1 : -2147483648 ≤ q) (rq2 : q < 2147483648) : oP B (dd + 17) 163 122 [some (.inr (.inr (.inl (some 0)))), some (.inl p), some (.inl q), some (.inr (.inr (.inl (some 30)))), none] [some (.inr (.inr (.inl (some 18)))), some (.inl p), some (.inl q), none, none] h := by
  have i := L.1
  have m := L.2.1
  have hL := i.1.1
  have hDS := i.1.2.1
  have mc := mm_cost (c := 1) (s := 6) m
  have s30 := L.2.2
  have hN := L.N
  by_cases c : (3 ≤ p ∧ p ≤ 5) ∧ (1 ≤ q ∧ q ≤ 8)
  · obtain ⟨hc, a, ic, w, g17, N⟩ := m61 (B := B) (e := dd) i c.1.1 c.1.2 c.2.1 c.2.2
    have es : ab_sh hc = ab_sh h := by unfold ab_sh; rw [w]
    have m1 := mm_cls (x := (Int32.ofInt ((p - 1) * q)).toInt64) m w (fun c x hc => g17 c x (by omega))
    refine oP_ok L ic w ?_ (fun _ _ _ => rfl) (n122 (B := B) (dd := dd + 15) m1 N c.1.1 c.1.2 c.2.1 c.2.2 (by show 31 ≤ (ab_sh hc).length; rw [es]; exact hN)) (by omega) (by omega)
    simp (disch := omega) only [e163_0, e163_1, e163_2, e163_3, e163_4, e163_7, e163_8, e163_11, e163_16, e163_17, e163_18, e163_19, implies_true, Int.reduceSub, Option.isNone_some, Option.isNone_none, ab_bh_some, ab_bh_thr, ab_gs_3, ab_gl_2, ab_gl_3, ab_gt_some, ab_gc_0, ab_gk_0, Bool.false_eq_true, Bool.true_eq_false, false_implies, Nat.reduceEqDiff, ab_ge, ab_lt, ab_le, ab_gt, ab_eq, ab_ne, decide_eq_true_eq, ab_w_id, ab_w0, ab_gd_some, ab_gs_0, ab_gs_1, ab_gl_0, ab_gl_1, ab_bv_some, ab_bu_some, ab_bv_thr, ab_bu_thr, ab_fx_n, ab_fx_i, ab_fx_q, ab_fx_l, ab_sh_si, ab_gr_si, ab_gl_si, cs_n, ↓reduceIte, true_or, or_true, false_or, or_false, and_true, true_and, and_false, false_and, not_true_eq_false, not_false_eq_true, eq_self, Int.reduceEq, Int.reduceLT, Int.reduceLE, Int.reduceAdd, Int.reduceMul, Int.reduceNeg, if_pos, if_neg, hL.1, a, es, s30]
  · refine oP_thr L (k := 1) ?_ (by omega) (by omega) (n122_1 (B := B) (dd := dd + 15) mc rp1 rp2 rq1 rq2 c) (by omega) (by omega)
    have ec := m61_1 (B := B) (dd := dd + 16) (h := h) rp1 rp2 rq1 rq2 c
    simp (disch := omega) only [e163_0, e163_1, e163_2, e163_3, e163_4, e163_7, e163_8, e163_11, e163_16, e163_17, e163_18, e163_19, implies_true, Int.reduceSub, Option.isNone_some, Option.isNone_none, ab_bh_some, ab_bh_thr, ab_gs_3, ab_gl_2, ab_gl_3, ab_gt_some, ab_gc_0, ab_gk_0, Bool.false_eq_true, Bool.true_eq_false, false_implies, Nat.reduceEqDiff, ab_ge, ab_lt, ab_le, ab_gt, ab_eq, ab_ne, decide_eq_true_eq, ab_w_id, ab_w0, ab_gd_some, ab_gs_0, ab_gs_1, ab_gl_0, ab_gl_1, ab_bv_some, ab_bu_some, ab_bv_thr, ab_bu_thr, ab_fx_n, ab_fx_i, ab_fx_q, ab_fx_l, ab_sh_si, ab_gr_si, ab_gl_si, cs_n, ↓reduceIte, true_or, or_true, false_or, or_false, and_true, true_and, and_false, false_and, not_true_eq_false, not_false_eq_true, eq_self, Int.reduceEq, Int.reduceLT, Int.reduceLE, Int.reduceAdd, Int.reduceMul, Int.reduceNeg, if_pos, if_neg, hL.1, ec]
theorem op_write {dd : Nat} {p q t : Int} {h : ab_H} {b : Nat} (L : li h b) (rp1 : -2147483648 ≤ p) (rp2 : p < 2147483648) (rq1 : -2147483648 ≤ q) (rq2 : q < 2147483648) (rt1 : -2147483648 ≤ t) (rt2 : t < 2147483648) : oP B (dd + 17) 164 123 [some (.inr (.inr (.inl (some 0)))), some (.inl p), some (.inl q), some (.inl t), some (.inr (.inr (.inl (some 30)))), none] [some (.inr (.inr (.inl (some 18)))), some (.inl p), some (.inl q), some (.inl t), none] h := by
  have i := L.1
  have m := L.2.1
  have hL := i.1.1
  have hDS := i.1.2.1
  have mc := mm_cost (c := 1) (s := 6) m
  have s30 := L.2.2
  have hN := L.N
  by_cases c1 : 0 ≤ p ∧ p < cs_B h
  · by_cases c2 : (0 ≤ q ∧ q ≤ 255) ∧ (0 ≤ t ∧ t ≤ 4)
    · by_cases c3 : ab_gi h 0 2 = 0 ∨ 1 < cs_bc h (p / (ab_gi h 1 0 - 1))
      · refine oP_thr L (k := 3) ?_ (by omega) (by omega) (n123_3 (B := B) (dd := dd + 14) i mc c1.1 c1.2 c2.1.1 c2.1.2 c2.2.1 c2.2.2 c3) (by omega) (by omega)
        have ec := m62_3 (B := B) (dd := dd + 11) i c1.1 c1.2 c2.1.1 c2.1.2 c2.2.1 c2.2.2 c3
        simp (disch := omega) only [e164_0, e164_2, e164_3, e164_4, e164_5, e164_6, e164_9, e164_12, e164_13, e164_16, e164_17, e164_20, e164_25, e164_26, e164_29, e164_30, e164_33, e164_34, e164_35, e164_36, implies_true, Int.reduceSub, Option.isNone_some, Option.isNone_none, ab_bh_some, ab_bh_thr, ab_gs_3, ab_gl_2, ab_gl_3, ab_gt_some, ab_gc_0, ab_gk_0, Bool.false_eq_true, Bool.true_eq_false, false_implies, Nat.reduceEqDiff, ab_ge, ab_lt, ab_le, ab_gt, ab_eq, ab_ne, decide_eq_true_eq, ab_w_id, ab_w0, ab_gd_some, ab_gs_0, ab_gs_1, ab_gl_0, ab_gl_1, ab_bv_some, ab_bu_some, ab_bv_thr, ab_bu_thr, ab_fx_n, ab_fx_i, ab_fx_q, ab_fx_l, ab_sh_si, ab_gr_si, ab_gl_si, cs_n, ↓reduceIte, true_or, or_true, false_or, or_false, and_true, true_and, and_false, false_and, not_true_eq_false, not_false_eq_true, eq_self, Int.reduceEq, Int.reduceLT, Int.reduceLE, Int.reduceAdd, Int.reduceMul, Int.reduceNeg, if_pos, if_neg, hL.1, ec]
      · have on : ab_gi h 0 2 = 1 := by
          rcases i.2.2.1.1 with z | z
          · exact absurd (Or.inl z) c3
          · exact z
        obtain ⟨a, ic, w, g5⟩ := m62 (B := B) (dd := dd + 11) i c1.1 c1.2 c2.1.1 c2.1.2 c2.2.1 c2.2.2 on (fun z => c3 (Or.inr z))
        have es : ab_sh (cs_wr h p q t) = ab_sh h := by unfold ab_sh; rw [w]
        have m1 := mm_cls (x := (Int32.ofInt (if 1 ≤ t then 1 else 0)).toInt64) m w (fun c x hc => g5 c x (by omega))
        refine oP_ok (hb := fun _ => by split <;> omega) L ic w ?_ (fun _ _ _ => rfl) (n123 (B := B) (dd := dd + 12) i m1 c1.1 c1.2 c2.1.1 c2.1.2 c2.2.1 c2.2.2 on (fun z => c3 (Or.inr z))) (by omega) (by omega)
        by_cases z : 1 ≤ t
        · rw [if_pos z] at a ⊢
          rw [ab_01.1]
          simp (disch := omega) only [e164_0, e164_2, e164_3, e164_4, e164_5, e164_6, e164_9, e164_12, e164_13, e164_16, e164_17, e164_20, e164_25, e164_26, e164_29, e164_30, e164_33, e164_34, e164_35, e164_36, implies_true, Int.reduceSub, Option.isNone_some, Option.isNone_none, ab_bh_some, ab_bh_thr, ab_gs_3, ab_gl_2, ab_gl_3, ab_gt_some, ab_gc_0, ab_gk_0, Bool.false_eq_true, Bool.true_eq_false, false_implies, Nat.reduceEqDiff, ab_ge, ab_lt, ab_le, ab_gt, ab_eq, ab_ne, decide_eq_true_eq, ab_w_id, ab_w0, ab_gd_some, ab_gs_0, ab_gs_1, ab_gl_0, ab_gl_1, ab_bv_some, ab_bu_some, ab_bv_thr, ab_bu_thr, ab_fx_n, ab_fx_i, ab_fx_q, ab_fx_l, ab_sh_si, ab_gr_si, ab_gl_si, cs_n, ↓reduceIte, true_or, or_true, false_or, or_false, and_true, true_and, and_false, false_and, not_true_eq_false, not_false_eq_true, eq_self, Int.reduceEq, Int.reduceLT, Int.reduceLE, Int.reduceAdd, Int.reduceMul, Int.reduceNeg, if_pos, if_neg, hL.1, a, es, s30]
        · rw [if_neg z] at a ⊢
          rw [ab_01.2]
          simp (disch := omega) only [e164_0, e164_2, e164_3, e164_4, e164_5, e164_6, e164_9, e164_12, e164_13, e164_16, e164_17, e164_20, e164_25, e164_26, e164_29, e164_30, e164_33, e164_34, e164_35, e164_36, implies_true, Int.reduceSub, Option.isNone_some, Option.isNone_none, ab_bh_some, ab_bh_thr, ab_gs_3, ab_gl_2, ab_gl_3, ab_gt_some, ab_gc_0, ab_gk_0, Bool.false_eq_true, Bool.true_eq_false, false_implies, Nat.reduceEqDiff, ab_ge, ab_lt, ab_le, ab_gt, ab_eq, ab_ne, decide_eq_true_eq, ab_w_id, ab_w0, ab_gd_some, ab_gs_0, ab_gs_1, ab_gl_0, ab_gl_1, ab_bv_some, ab_bu_some, ab_bv_thr, ab_bu_thr, ab_fx_n, ab_fx_i, ab_fx_q, ab_fx_l, ab_sh_si, ab_gr_si, ab_gl_si, cs_n, ↓reduceIte, true_or, or_true, false_or, or_false, and_true, true_and, and_false, false_and, not_true_eq_false, not_false_eq_true, eq_self, Int.reduceEq, Int.reduceLT, Int.reduceLE, Int.reduceAdd, Int.reduceMul, Int.reduceNeg, if_pos, if_neg, hL.1, a, es, s30]
    · refine oP_thr L (k := 2) ?_ (by omega) (by omega) (n123_2 (B := B) (dd := dd + 15) i mc c1.1 c1.2 rq1 rq2 rt1 rt2 c2) (by omega) (by omega)
      have ec := m62_1 (B := B) (dd := dd + 14) i c1.1 c1.2 rq1 rq2 rt1 rt2 c2
      simp (disch := omega) only [e164_0, e164_2, e164_3, e164_4, e164_5, e164_6, e164_9, e164_12, e164_13, e164_16, e164_17, e164_20, e164_25, e164_26, e164_29, e164_30, e164_33, e164_34, e164_35, e164_36, implies_true, Int.reduceSub, Option.isNone_some, Option.isNone_none, ab_bh_some, ab_bh_thr, ab_gs_3, ab_gl_2, ab_gl_3, ab_gt_some, ab_gc_0, ab_gk_0, Bool.false_eq_true, Bool.true_eq_false, false_implies, Nat.reduceEqDiff, ab_ge, ab_lt, ab_le, ab_gt, ab_eq, ab_ne, decide_eq_true_eq, ab_w_id, ab_w0, ab_gd_some, ab_gs_0, ab_gs_1, ab_gl_0, ab_gl_1, ab_bv_some, ab_bu_some, ab_bv_thr, ab_bu_thr, ab_fx_n, ab_fx_i, ab_fx_q, ab_fx_l, ab_sh_si, ab_gr_si, ab_gl_si, cs_n, ↓reduceIte, true_or, or_true, false_or, or_false, and_true, true_and, and_false, false_and, not_true_eq_false, not_false_eq_true, eq_self, Int.reduceEq, Int.reduceLT, Int.reduceLE, Int.reduceAdd, Int.reduceMul, Int.reduceNeg, if_pos, if_neg, hL.1, ec]
  · refine oP_thr L (k := 1) ?_ (by omega) (by omega) (n123_1 (B := B) (dd := dd + 15) i mc rp1 rp2 c1) (by omega) (by omega)
    have ec := m62_2 (B := B) (dd := dd + 14) (v := q) (st := t) i rp1 rp2 c1
    simp (disch := omega) only [e164_0, e164_2, e164_3, e164_4, e164_5, e164_6, e164_9, e164_12, e164_13, e164_16, e164_17, e164_20, e164_25, e164_26, e164_29, e164_30, e164_33, e164_34, e164_35, e164_36, implies_true, Int.reduceSub, Option.isNone_some, Option.isNone_none, ab_bh_some, ab_bh_thr, ab_gs_3, ab_gl_2, ab_gl_3, ab_gt_some, ab_gc_0, ab_gk_0, Bool.false_eq_true, Bool.true_eq_false, false_implies, Nat.reduceEqDiff, ab_ge, ab_lt, ab_le, ab_gt, ab_eq, ab_ne, decide_eq_true_eq, ab_w_id, ab_w0, ab_gd_some, ab_gs_0, ab_gs_1, ab_gl_0, ab_gl_1, ab_bv_some, ab_bu_some, ab_bv_thr, ab_bu_thr, ab_fx_n, ab_fx_i, ab_fx_q, ab_fx_l, ab_sh_si, ab_gr_si, ab_gl_si, cs_n, ↓reduceIte, true_or, or_true, false_or, or_false, and_true, true_and, and_false, false_and, not_true_eq_false, not_false_eq_true, eq_self, Int.reduceEq, Int.reduceLT, Int.reduceLE, Int.reduceAdd, Int.reduceMul, Int.reduceNeg, if_pos, if_neg, hL.1, ec]
theorem op_read {dd : Nat} {p : Int} {h : ab_H} {b : Nat} (L : li h b) (rp1 : -2147483648 ≤ p) (rp2 : p < 2147483648) : oP B (dd + 17) 165 124 [some (.inr (.inr (.inl (some 0)))), some (.inl p), some (.inr (.inr (.inl (some 30)))), none] [some (.inr (.inr (.inl (some 18)))), some (.inl p), none] h := by
  have i := L.1
  have m := L.2.1
  have hL := i.1.1
  have hDS := i.1.2.1
  have mc := mm_cost (c := 1) (s := 6) m
  have s30 := L.2.2
  have hN := L.N
  by_cases c1 : 0 ≤ p ∧ p < cs_B h
  · rcases i.2.2.1.1 with on | on
    · refine oP_thr L (k := 2) ?_ (by omega) (by omega) (n124_2 (B := B) (dd := dd + 15) i mc c1.1 c1.2 on) (by omega) (by omega)
      have ec := m63_3 (B := B) (dd := dd + 14) i c1.1 c1.2 on
      simp (disch := omega) only [e165_0, e165_1, e165_2, e165_3, e165_6, e165_7, e165_10, e165_14, e165_15, e165_17, e165_18, e165_19, e165_20, implies_true, Int.reduceSub, Option.isNone_some, Option.isNone_none, ab_bh_some, ab_bh_thr, ab_gs_3, ab_gl_2, ab_gl_3, ab_gt_some, ab_gc_0, ab_gk_0, Bool.false_eq_true, Bool.true_eq_false, false_implies, Nat.reduceEqDiff, ab_ge, ab_lt, ab_le, ab_gt, ab_eq, ab_ne, decide_eq_true_eq, ab_w_id, ab_w0, ab_gd_some, ab_gs_0, ab_gs_1, ab_gl_0, ab_gl_1, ab_bv_some, ab_bu_some, ab_bv_thr, ab_bu_thr, ab_fx_n, ab_fx_i, ab_fx_q, ab_fx_l, ab_sh_si, ab_gr_si, ab_gl_si, cs_n, ↓reduceIte, true_or, or_true, false_or, or_false, and_true, true_and, and_false, false_and, not_true_eq_false, not_false_eq_true, eq_self, Int.reduceEq, Int.reduceLT, Int.reduceLE, Int.reduceAdd, Int.reduceMul, Int.reduceNeg, if_pos, if_neg, hL.1, ec]
    · obtain ⟨a, ic, w, g5⟩ := m63 (B := B) (dd := dd + 11) i c1.1 c1.2 on
      have es : ab_sh (cs_re h p) = ab_sh h := by unfold ab_sh; rw [w]
      have m1 := mm_cls (x := (Int32.ofInt (cs_sh h (cs_dk (ab_gi h 1 0) p) (p / (ab_gi h 1 0 - 1)))).toInt64) m w (fun c x hc => g5 c x (by omega))
      refine oP_ok L ic w ?_ (fun _ _ _ => rfl) (n124 (B := B) (dd := dd + 12) i m1 c1.1 c1.2 on) (by omega) (by omega)
      simp (disch := omega) only [e165_0, e165_1, e165_2, e165_3, e165_6, e165_7, e165_10, e165_14, e165_15, e165_17, e165_18, e165_19, e165_20, implies_true, Int.reduceSub, Option.isNone_some, Option.isNone_none, ab_bh_some, ab_bh_thr, ab_gs_3, ab_gl_2, ab_gl_3, ab_gt_some, ab_gc_0, ab_gk_0, Bool.false_eq_true, Bool.true_eq_false, false_implies, Nat.reduceEqDiff, ab_ge, ab_lt, ab_le, ab_gt, ab_eq, ab_ne, decide_eq_true_eq, ab_w_id, ab_w0, ab_gd_some, ab_gs_0, ab_gs_1, ab_gl_0, ab_gl_1, ab_bv_some, ab_bu_some, ab_bv_thr, ab_bu_thr, ab_fx_n, ab_fx_i, ab_fx_q, ab_fx_l, ab_sh_si, ab_gr_si, ab_gl_si, cs_n, ↓reduceIte, true_or, or_true, false_or, or_false, and_true, true_and, and_false, false_and, not_true_eq_false, not_false_eq_true, eq_self, Int.reduceEq, Int.reduceLT, Int.reduceLE, Int.reduceAdd, Int.reduceMul, Int.reduceNeg, if_pos, if_neg, hL.1, a, es, s30]
  · refine oP_thr L (k := 1) ?_ (by omega) (by omega) (n124_1 (B := B) (dd := dd + 15) i mc rp1 rp2 c1) (by omega) (by omega)
    have ec := m63_2 (B := B) (dd := dd + 14) i rp1 rp2 c1
    simp (disch := omega) only [e165_0, e165_1, e165_2, e165_3, e165_6, e165_7, e165_10, e165_14, e165_15, e165_17, e165_18, e165_19, e165_20, implies_true, Int.reduceSub, Option.isNone_some, Option.isNone_none, ab_bh_some, ab_bh_thr, ab_gs_3, ab_gl_2, ab_gl_3, ab_gt_some, ab_gc_0, ab_gk_0, Bool.false_eq_true, Bool.true_eq_false, false_implies, Nat.reduceEqDiff, ab_ge, ab_lt, ab_le, ab_gt, ab_eq, ab_ne, decide_eq_true_eq, ab_w_id, ab_w0, ab_gd_some, ab_gs_0, ab_gs_1, ab_gl_0, ab_gl_1, ab_bv_some, ab_bu_some, ab_bv_thr, ab_bu_thr, ab_fx_n, ab_fx_i, ab_fx_q, ab_fx_l, ab_sh_si, ab_gr_si, ab_gl_si, cs_n, ↓reduceIte, true_or, or_true, false_or, or_false, and_true, true_and, and_false, false_and, not_true_eq_false, not_false_eq_true, eq_self, Int.reduceEq, Int.reduceLT, Int.reduceLE, Int.reduceAdd, Int.reduceMul, Int.reduceNeg, if_pos, if_neg, hL.1, ec]
theorem op_fail {dd : Nat} {p : Int} {h : ab_H} {b : Nat} (L : li h b) (rp1 : -2147483648 ≤ p) (rp2 : p < 2147483648) : oP B (dd + 17) 166 125 [some (.inr (.inr (.inl (some 0)))), some (.inl p), some (.inr (.inr (.inl (some 30)))), none] [some (.inr (.inr (.inl (some 18)))), some (.inl p)] h := by
  have i := L.1
  have m := L.2.1
  have hL := i.1.1
  have hDS := i.1.2.1
  have mc := mm_cost (c := 1) (s := 6) m
  have s30 := L.2.2
  have hN := L.N
  by_cases c1 : 0 ≤ p ∧ p < ab_gi h 1 0
  · rcases i.1.2.2.2 p with F | F
    · obtain ⟨a, ic⟩ := m64 (B := B) (dd := dd + 11) i c1.1 c1.2 F
      have m1 := mm_cls (x := (Int32.ofInt (mlost (ab_si h 5 p 1))).toInt64) (hc := ab_si h 5 p 1) m rfl (fun c x hc => by rw [ab_gi_si, if_neg (by omega)])
      rw [← cs_lost_m ic.1] at a
      refine oP_ok L ic rfl ?_ (fun _ _ _ => rfl) (n125 (B := B) (dd := dd + 12) i m1 c1.1 c1.2 F) (by omega) (by omega)
      simp (disch := omega) only [e166_0, e166_1, e166_2, e166_3, e166_6, e166_7, e166_10, e166_14, e166_15, e166_17, e166_18, e166_19, e166_20, implies_true, Int.reduceSub, Option.isNone_some, Option.isNone_none, ab_bh_some, ab_bh_thr, ab_gs_3, ab_gl_2, ab_gl_3, ab_gt_some, ab_gc_0, ab_gk_0, Bool.false_eq_true, Bool.true_eq_false, false_implies, Nat.reduceEqDiff, ab_ge, ab_lt, ab_le, ab_gt, ab_eq, ab_ne, decide_eq_true_eq, ab_w_id, ab_w0, ab_gd_some, ab_gs_0, ab_gs_1, ab_gl_0, ab_gl_1, ab_bv_some, ab_bu_some, ab_bv_thr, ab_bu_thr, ab_fx_n, ab_fx_i, ab_fx_q, ab_fx_l, ab_sh_si, ab_gr_si, ab_gl_si, cs_n, ↓reduceIte, true_or, or_true, false_or, or_false, and_true, true_and, and_false, false_and, not_true_eq_false, not_false_eq_true, eq_self, Int.reduceEq, Int.reduceLT, Int.reduceLE, Int.reduceAdd, Int.reduceMul, Int.reduceNeg, if_pos, if_neg, hL.1, a, s30]
    · refine oP_thr L (k := 2) ?_ (by omega) (by omega) (n125_2 (B := B) (dd := dd + 15) i mc c1.1 c1.2 F) (by omega) (by omega)
      have ec := m64_3 (B := B) (dd := dd + 15) i c1.1 c1.2 F
      simp (disch := omega) only [e166_0, e166_1, e166_2, e166_3, e166_6, e166_7, e166_10, e166_14, e166_15, e166_17, e166_18, e166_19, e166_20, implies_true, Int.reduceSub, Option.isNone_some, Option.isNone_none, ab_bh_some, ab_bh_thr, ab_gs_3, ab_gl_2, ab_gl_3, ab_gt_some, ab_gc_0, ab_gk_0, Bool.false_eq_true, Bool.true_eq_false, false_implies, Nat.reduceEqDiff, ab_ge, ab_lt, ab_le, ab_gt, ab_eq, ab_ne, decide_eq_true_eq, ab_w_id, ab_w0, ab_gd_some, ab_gs_0, ab_gs_1, ab_gl_0, ab_gl_1, ab_bv_some, ab_bu_some, ab_bv_thr, ab_bu_thr, ab_fx_n, ab_fx_i, ab_fx_q, ab_fx_l, ab_sh_si, ab_gr_si, ab_gl_si, cs_n, ↓reduceIte, true_or, or_true, false_or, or_false, and_true, true_and, and_false, false_and, not_true_eq_false, not_false_eq_true, eq_self, Int.reduceEq, Int.reduceLT, Int.reduceLE, Int.reduceAdd, Int.reduceMul, Int.reduceNeg, if_pos, if_neg, hL.1, ec]
  · refine oP_thr L (k := 1) ?_ (by omega) (by omega) (n125_1 (B := B) (dd := dd + 15) i mc rp1 rp2 c1) (by omega) (by omega)
    have ec := m64_2 (B := B) (dd := dd + 15) i rp1 rp2 c1
    simp (disch := omega) only [e166_0, e166_1, e166_2, e166_3, e166_6, e166_7, e166_10, e166_14, e166_15, e166_17, e166_18, e166_19, e166_20, implies_true, Int.reduceSub, Option.isNone_some, Option.isNone_none, ab_bh_some, ab_bh_thr, ab_gs_3, ab_gl_2, ab_gl_3, ab_gt_some, ab_gc_0, ab_gk_0, Bool.false_eq_true, Bool.true_eq_false, false_implies, Nat.reduceEqDiff, ab_ge, ab_lt, ab_le, ab_gt, ab_eq, ab_ne, decide_eq_true_eq, ab_w_id, ab_w0, ab_gd_some, ab_gs_0, ab_gs_1, ab_gl_0, ab_gl_1, ab_bv_some, ab_bu_some, ab_bv_thr, ab_bu_thr, ab_fx_n, ab_fx_i, ab_fx_q, ab_fx_l, ab_sh_si, ab_gr_si, ab_gl_si, cs_n, ↓reduceIte, true_or, or_true, false_or, or_false, and_true, true_and, and_false, false_and, not_true_eq_false, not_false_eq_true, eq_self, Int.reduceEq, Int.reduceLT, Int.reduceLE, Int.reduceAdd, Int.reduceMul, Int.reduceNeg, if_pos, if_neg, hL.1, ec]
theorem op_swap {dd : Nat} {p : Int} {h : ab_H} {b : Nat} (L : li h b) (rp1 : -2147483648 ≤ p) (rp2 : p < 2147483648) : oP B (dd + 17) 167 126 [some (.inr (.inr (.inl (some 0)))), some (.inl p), some (.inr (.inr (.inl (some 30)))), none] [some (.inr (.inr (.inl (some 18)))), some (.inl p), none] h := by
  have i := L.1
  have m := L.2.1
  have hL := i.1.1
  have hDS := i.1.2.1
  have mc := mm_cost (c := 1) (s := 6) m
  have s30 := L.2.2
  have hN := L.N
  by_cases c1 : 0 ≤ p ∧ p < ab_gi h 1 0
  · obtain ⟨a, ic⟩ := m65 (B := B) (dd := dd + 11) i c1.1 c1.2
    obtain ⟨p1, p2, p3⟩ := cs_put_ok i.1 c1.1 c1.2
    have w : (ab_si (cs_put h p) 0 6 0).2 = h.2 := p2
    have es : ab_sh (cs_put h p) = ab_sh h := by unfold ab_sh; rw [p2]
    have m1 := mm_cls (x := (Int32.ofInt (mlost (ab_si (cs_put h p) 0 6 0))).toInt64) (hc := ab_si (cs_put h p) 0 6 0) m w (fun c x hc => by rw [ab_gi_si, if_neg (by omega), p3, if_neg (by omega), if_neg (by omega), if_neg (by omega), if_neg (by omega)])
    rw [← cs_lost_m ic.1] at a
    refine oP_ok L ic w ?_ (fun _ _ _ => rfl) (n126 (B := B) (dd := dd + 12) i m1 c1.1 c1.2) (by omega) (by omega)
    simp (disch := omega) only [e167_0, e167_1, e167_2, e167_3, e167_6, e167_7, e167_10, e167_14, e167_15, e167_16, e167_17, implies_true, Int.reduceSub, Option.isNone_some, Option.isNone_none, ab_bh_some, ab_bh_thr, ab_gs_3, ab_gl_2, ab_gl_3, ab_gt_some, ab_gc_0, ab_gk_0, Bool.false_eq_true, Bool.true_eq_false, false_implies, Nat.reduceEqDiff, ab_ge, ab_lt, ab_le, ab_gt, ab_eq, ab_ne, decide_eq_true_eq, ab_w_id, ab_w0, ab_gd_some, ab_gs_0, ab_gs_1, ab_gl_0, ab_gl_1, ab_bv_some, ab_bu_some, ab_bv_thr, ab_bu_thr, ab_fx_n, ab_fx_i, ab_fx_q, ab_fx_l, ab_sh_si, ab_gr_si, ab_gl_si, cs_n, ↓reduceIte, true_or, or_true, false_or, or_false, and_true, true_and, and_false, false_and, not_true_eq_false, not_false_eq_true, eq_self, Int.reduceEq, Int.reduceLT, Int.reduceLE, Int.reduceAdd, Int.reduceMul, Int.reduceNeg, if_pos, if_neg, hL.1, a, es, s30]
  · refine oP_thr L (k := 1) ?_ (by omega) (by omega) (n126_1 (B := B) (dd := dd + 15) i mc rp1 rp2 c1) (by omega) (by omega)
    have ec := m65_2 (B := B) (dd := dd + 15) i rp1 rp2 c1
    simp (disch := omega) only [e167_0, e167_1, e167_2, e167_3, e167_6, e167_7, e167_10, e167_14, e167_15, e167_16, e167_17, implies_true, Int.reduceSub, Option.isNone_some, Option.isNone_none, ab_bh_some, ab_bh_thr, ab_gs_3, ab_gl_2, ab_gl_3, ab_gt_some, ab_gc_0, ab_gk_0, Bool.false_eq_true, Bool.true_eq_false, false_implies, Nat.reduceEqDiff, ab_ge, ab_lt, ab_le, ab_gt, ab_eq, ab_ne, decide_eq_true_eq, ab_w_id, ab_w0, ab_gd_some, ab_gs_0, ab_gs_1, ab_gl_0, ab_gl_1, ab_bv_some, ab_bu_some, ab_bv_thr, ab_bu_thr, ab_fx_n, ab_fx_i, ab_fx_q, ab_fx_l, ab_sh_si, ab_gr_si, ab_gl_si, cs_n, ↓reduceIte, true_or, or_true, false_or, or_false, and_true, true_and, and_false, false_and, not_true_eq_false, not_false_eq_true, eq_self, Int.reduceEq, Int.reduceLT, Int.reduceLE, Int.reduceAdd, Int.reduceMul, Int.reduceNeg, if_pos, if_neg, hL.1, ec]
theorem op_flip {dd : Nat} {p q t : Int} {h : ab_H} {b : Nat} (L : li h b) (rp1 : -2147483648 ≤ p) (rp2 : p < 2147483648) (rq1 : -2147483648 ≤ q) (rq2 : q < 2147483648) (rt1 : -2147483648 ≤ t) (rt2 : t < 2147483648) : oP B (dd + 17) 168 127 [some (.inr (.inr (.inl (some 0)))), some (.inl p), some (.inl q), some (.inl t), some (.inr (.inr (.inl (some 30)))), none] [some (.inr (.inr (.inl (some 18)))), some (.inl p), some (.inl q), some (.inl t)] h := by
  have i := L.1
  have m := L.2.1
  have hL := i.1.1
  have hDS := i.1.2.1
  have mc := mm_cost (c := 1) (s := 6) m
  have s30 := L.2.2
  have hN := L.N
  by_cases c1 : (0 ≤ p ∧ p < ab_gi h 1 0) ∧ (0 ≤ q ∧ q < ab_gi h 1 1)
  · by_cases c2 : 1 ≤ t ∧ t ≤ 255
    · rcases i.1.2.2.2 p with F | F
      · obtain ⟨a, ic⟩ := m66 (B := B) (dd := dd + 11) i c1.1.1 c1.1.2 c1.2.1 c1.2.2 c2.1 c2.2 F
        have m1 := mm_cls (x := (Int32.ofInt (ab_ixor (ab_gi h 2 (p * 8 + q)) t)).toInt64) (hc := ab_si h 2 (p * 8 + q) (ab_ixor (ab_gi h 2 (p * 8 + q)) t)) m rfl (fun c x hc => by rw [ab_gi_si, if_neg (by omega)])
        refine oP_ok L ic rfl ?_ (fun _ _ _ => rfl) (n127 (B := B) (dd := dd + 15) i m1 c1.1.1 c1.1.2 c1.2.1 c1.2.2 c2.1 c2.2 F) (by omega) (by omega)
        simp (disch := omega) only [e168_0, e168_2, e168_3, e168_4, e168_5, e168_6, e168_9, e168_10, e168_13, e168_18, e168_19, e168_22, e168_23, e168_26, e168_27, e168_28, e168_29, implies_true, Int.reduceSub, Option.isNone_some, Option.isNone_none, ab_bh_some, ab_bh_thr, ab_gs_3, ab_gl_2, ab_gl_3, ab_gt_some, ab_gc_0, ab_gk_0, Bool.false_eq_true, Bool.true_eq_false, false_implies, Nat.reduceEqDiff, ab_ge, ab_lt, ab_le, ab_gt, ab_eq, ab_ne, decide_eq_true_eq, ab_w_id, ab_w0, ab_gd_some, ab_gs_0, ab_gs_1, ab_gl_0, ab_gl_1, ab_bv_some, ab_bu_some, ab_bv_thr, ab_bu_thr, ab_fx_n, ab_fx_i, ab_fx_q, ab_fx_l, ab_sh_si, ab_gr_si, ab_gl_si, cs_n, ↓reduceIte, true_or, or_true, false_or, or_false, and_true, true_and, and_false, false_and, not_true_eq_false, not_false_eq_true, eq_self, Int.reduceEq, Int.reduceLT, Int.reduceLE, Int.reduceAdd, Int.reduceMul, Int.reduceNeg, if_pos, if_neg, hL.1, a, s30]
      · refine oP_thr L (k := 3) ?_ (by omega) (by omega) (n127_3 (B := B) (dd := dd + 15) i mc c1.1.1 c1.1.2 c1.2.1 c1.2.2 c2.1 c2.2 F) (by omega) (by omega)
        have ec := m66_3 (B := B) (dd := dd + 15) i c1.1.1 c1.1.2 c1.2.1 c1.2.2 c2.1 c2.2 F
        simp (disch := omega) only [e168_0, e168_2, e168_3, e168_4, e168_5, e168_6, e168_9, e168_10, e168_13, e168_18, e168_19, e168_22, e168_23, e168_26, e168_27, e168_28, e168_29, implies_true, Int.reduceSub, Option.isNone_some, Option.isNone_none, ab_bh_some, ab_bh_thr, ab_gs_3, ab_gl_2, ab_gl_3, ab_gt_some, ab_gc_0, ab_gk_0, Bool.false_eq_true, Bool.true_eq_false, false_implies, Nat.reduceEqDiff, ab_ge, ab_lt, ab_le, ab_gt, ab_eq, ab_ne, decide_eq_true_eq, ab_w_id, ab_w0, ab_gd_some, ab_gs_0, ab_gs_1, ab_gl_0, ab_gl_1, ab_bv_some, ab_bu_some, ab_bv_thr, ab_bu_thr, ab_fx_n, ab_fx_i, ab_fx_q, ab_fx_l, ab_sh_si, ab_gr_si, ab_gl_si, cs_n, ↓reduceIte, true_or, or_true, false_or, or_false, and_true, true_and, and_false, false_and, not_true_eq_false, not_false_eq_true, eq_self, Int.reduceEq, Int.reduceLT, Int.reduceLE, Int.reduceAdd, Int.reduceMul, Int.reduceNeg, if_pos, if_neg, hL.1, ec]
    · refine oP_thr L (k := 2) ?_ (by omega) (by omega) (n127_2 (B := B) (dd := dd + 15) i mc c1.1.1 c1.1.2 c1.2.1 c1.2.2 rt1 rt2 c2) (by omega) (by omega)
      have ec := m66_1 (B := B) (dd := dd + 15) i c1.1.1 c1.1.2 c1.2.1 c1.2.2 rt1 rt2 c2
      simp (disch := omega) only [e168_0, e168_2, e168_3, e168_4, e168_5, e168_6, e168_9, e168_10, e168_13, e168_18, e168_19, e168_22, e168_23, e168_26, e168_27, e168_28, e168_29, implies_true, Int.reduceSub, Option.isNone_some, Option.isNone_none, ab_bh_some, ab_bh_thr, ab_gs_3, ab_gl_2, ab_gl_3, ab_gt_some, ab_gc_0, ab_gk_0, Bool.false_eq_true, Bool.true_eq_false, false_implies, Nat.reduceEqDiff, ab_ge, ab_lt, ab_le, ab_gt, ab_eq, ab_ne, decide_eq_true_eq, ab_w_id, ab_w0, ab_gd_some, ab_gs_0, ab_gs_1, ab_gl_0, ab_gl_1, ab_bv_some, ab_bu_some, ab_bv_thr, ab_bu_thr, ab_fx_n, ab_fx_i, ab_fx_q, ab_fx_l, ab_sh_si, ab_gr_si, ab_gl_si, cs_n, ↓reduceIte, true_or, or_true, false_or, or_false, and_true, true_and, and_false, false_and, not_true_eq_false, not_false_eq_true, eq_self, Int.reduceEq, Int.reduceLT, Int.reduceLE, Int.reduceAdd, Int.reduceMul, Int.reduceNeg, if_pos, if_neg, hL.1, ec]
  · refine oP_thr L (k := 1) ?_ (by omega) (by omega) (n127_1 (B := B) (dd := dd + 15) i mc rp1 rp2 rq1 rq2 c1) (by omega) (by omega)
    have ec := m66_2 (B := B) (dd := dd + 15) (b := t) i rp1 rp2 rq1 rq2 c1
    simp (disch := omega) only [e168_0, e168_2, e168_3, e168_4, e168_5, e168_6, e168_9, e168_10, e168_13, e168_18, e168_19, e168_22, e168_23, e168_26, e168_27, e168_28, e168_29, implies_true, Int.reduceSub, Option.isNone_some, Option.isNone_none, ab_bh_some, ab_bh_thr, ab_gs_3, ab_gl_2, ab_gl_3, ab_gt_some, ab_gc_0, ab_gk_0, Bool.false_eq_true, Bool.true_eq_false, false_implies, Nat.reduceEqDiff, ab_ge, ab_lt, ab_le, ab_gt, ab_eq, ab_ne, decide_eq_true_eq, ab_w_id, ab_w0, ab_gd_some, ab_gs_0, ab_gs_1, ab_gl_0, ab_gl_1, ab_bv_some, ab_bu_some, ab_bv_thr, ab_bu_thr, ab_fx_n, ab_fx_i, ab_fx_q, ab_fx_l, ab_sh_si, ab_gr_si, ab_gl_si, cs_n, ↓reduceIte, true_or, or_true, false_or, or_false, and_true, true_and, and_false, false_and, not_true_eq_false, not_false_eq_true, eq_self, Int.reduceEq, Int.reduceLT, Int.reduceLE, Int.reduceAdd, Int.reduceMul, Int.reduceNeg, if_pos, if_neg, hL.1, ec]
theorem op_rebuild {dd : Nat} {p : Int} {h : ab_H} {b : Nat} (L : li h b) (rp1 : -2147483648 ≤ p) (rp2 : p < 2147483648) : oP B (dd + 17) 169 129 [some (.inr (.inr (.inl (some 0)))), some (.inl p), some (.inr (.inr (.inl (some 30)))), none] [some (.inr (.inr (.inl (some 18)))), some (.inl p), none] h := by
  have i := L.1
  have m := L.2.1
  have hL := i.1.1
  have hDS := i.1.2.1
  have mc := mm_cost (c := 1) (s := 6) m
  have s30 := L.2.2
  have hN := L.N
  by_cases c1 : 1 ≤ p ∧ p ≤ 8
  · rcases i.2.2.1.1 with on | on
    · refine oP_thr L (k := 2) ?_ (by omega) (by omega) (n129_2 (B := B) (dd := dd + 15) mc c1.1 c1.2 on) (by omega) (by omega)
      have ec := m67_3 (B := B) (dd := dd + 15) i c1.1 c1.2 on
      simp (disch := omega) only [e169_0, e169_1, e169_2, e169_3, e169_6, e169_7, e169_10, e169_14, e169_15, e169_17, e169_18, e169_19, e169_20, implies_true, Int.reduceSub, Option.isNone_some, Option.isNone_none, ab_bh_some, ab_bh_thr, ab_gs_3, ab_gl_2, ab_gl_3, ab_gt_some, ab_gc_0, ab_gk_0, Bool.false_eq_true, Bool.true_eq_false, false_implies, Nat.reduceEqDiff, ab_ge, ab_lt, ab_le, ab_gt, ab_eq, ab_ne, decide_eq_true_eq, ab_w_id, ab_w0, ab_gd_some, ab_gs_0, ab_gs_1, ab_gl_0, ab_gl_1, ab_bv_some, ab_bu_some, ab_bv_thr, ab_bu_thr, ab_fx_n, ab_fx_i, ab_fx_q, ab_fx_l, ab_sh_si, ab_gr_si, ab_gl_si, cs_n, ↓reduceIte, true_or, or_true, false_or, or_false, and_true, true_and, and_false, false_and, not_true_eq_false, not_false_eq_true, eq_self, Int.reduceEq, Int.reduceLT, Int.reduceLE, Int.reduceAdd, Int.reduceMul, Int.reduceNeg, if_pos, if_neg, hL.1, ec]
    · have a := m67 (B := B) (dd := dd + 11) i c1.1 c1.2 on
      have hD : ab_gi h 1 0 ≠ 0 := fun z => by have := i.2.2.1.2 z; omega
      obtain ⟨ic, w, g4, -⟩ := cs_ro_ok (k := 6) (n := p) i (by omega) c1.1 c1.2 hD
      have es : ab_sh (cs_ro h 6 p) = ab_sh h := by unfold ab_sh; rw [w]
      have m1 := mm_cls (x := (Int32.ofInt (cs_rd (ab_gi h 0 6) h 0 p.toNat).1).toInt64) m w (fun c x hc => g4 c x (by omega))
      refine oP_ok L ic w ?_ (fun _ _ _ => rfl) (n129 (B := B) (dd := dd + 12) i m1 c1.1 c1.2 on) (by omega) (by omega)
      simp (disch := omega) only [e169_0, e169_1, e169_2, e169_3, e169_6, e169_7, e169_10, e169_14, e169_15, e169_17, e169_18, e169_19, e169_20, implies_true, Int.reduceSub, Option.isNone_some, Option.isNone_none, ab_bh_some, ab_bh_thr, ab_gs_3, ab_gl_2, ab_gl_3, ab_gt_some, ab_gc_0, ab_gk_0, Bool.false_eq_true, Bool.true_eq_false, false_implies, Nat.reduceEqDiff, ab_ge, ab_lt, ab_le, ab_gt, ab_eq, ab_ne, decide_eq_true_eq, ab_w_id, ab_w0, ab_gd_some, ab_gs_0, ab_gs_1, ab_gl_0, ab_gl_1, ab_bv_some, ab_bu_some, ab_bv_thr, ab_bu_thr, ab_fx_n, ab_fx_i, ab_fx_q, ab_fx_l, ab_sh_si, ab_gr_si, ab_gl_si, cs_n, ↓reduceIte, true_or, or_true, false_or, or_false, and_true, true_and, and_false, false_and, not_true_eq_false, not_false_eq_true, eq_self, Int.reduceEq, Int.reduceLT, Int.reduceLE, Int.reduceAdd, Int.reduceMul, Int.reduceNeg, if_pos, if_neg, hL.1, a, es, s30]
  · refine oP_thr L (k := 1) ?_ (by omega) (by omega) (n129_1 (B := B) (dd := dd + 15) mc rp1 rp2 c1) (by omega) (by omega)
    have ec := m67_1 (B := B) (dd := dd + 15) rp1 rp2 c1 hL
    simp (disch := omega) only [e169_0, e169_1, e169_2, e169_3, e169_6, e169_7, e169_10, e169_14, e169_15, e169_17, e169_18, e169_19, e169_20, implies_true, Int.reduceSub, Option.isNone_some, Option.isNone_none, ab_bh_some, ab_bh_thr, ab_gs_3, ab_gl_2, ab_gl_3, ab_gt_some, ab_gc_0, ab_gk_0, Bool.false_eq_true, Bool.true_eq_false, false_implies, Nat.reduceEqDiff, ab_ge, ab_lt, ab_le, ab_gt, ab_eq, ab_ne, decide_eq_true_eq, ab_w_id, ab_w0, ab_gd_some, ab_gs_0, ab_gs_1, ab_gl_0, ab_gl_1, ab_bv_some, ab_bu_some, ab_bv_thr, ab_bu_thr, ab_fx_n, ab_fx_i, ab_fx_q, ab_fx_l, ab_sh_si, ab_gr_si, ab_gl_si, cs_n, ↓reduceIte, true_or, or_true, false_or, or_false, and_true, true_and, and_false, false_and, not_true_eq_false, not_false_eq_true, eq_self, Int.reduceEq, Int.reduceLT, Int.reduceLE, Int.reduceAdd, Int.reduceMul, Int.reduceNeg, if_pos, if_neg, hL.1, ec]
theorem op_patrol {dd : Nat} {p : Int} {h : ab_H} {b : Nat} (L : li h b) (rp1 : -2147483648 ≤ p) (rp2 : p < 2147483648) : oP B (dd + 17) 170 130 [some (.inr (.inr (.inl (some 0)))), some (.inl p), some (.inr (.inr (.inl (some 30)))), none] [some (.inr (.inr (.inl (some 18)))), some (.inl p), none] h := by
  have i := L.1
  have m := L.2.1
  have hL := i.1.1
  have hDS := i.1.2.1
  have mc := mm_cost (c := 1) (s := 6) m
  have s30 := L.2.2
  have hN := L.N
  by_cases c1 : 1 ≤ p ∧ p ≤ 8
  · rcases i.2.2.1.1 with on | on
    · refine oP_thr L (k := 2) ?_ (by omega) (by omega) (n130_2 (B := B) (dd := dd + 15) mc c1.1 c1.2 on) (by omega) (by omega)
      have ec := m68_3 (B := B) (dd := dd + 15) i c1.1 c1.2 on
      simp (disch := omega) only [e170_0, e170_1, e170_2, e170_3, e170_6, e170_7, e170_10, e170_14, e170_15, e170_17, e170_18, e170_19, e170_20, implies_true, Int.reduceSub, Option.isNone_some, Option.isNone_none, ab_bh_some, ab_bh_thr, ab_gs_3, ab_gl_2, ab_gl_3, ab_gt_some, ab_gc_0, ab_gk_0, Bool.false_eq_true, Bool.true_eq_false, false_implies, Nat.reduceEqDiff, ab_ge, ab_lt, ab_le, ab_gt, ab_eq, ab_ne, decide_eq_true_eq, ab_w_id, ab_w0, ab_gd_some, ab_gs_0, ab_gs_1, ab_gl_0, ab_gl_1, ab_bv_some, ab_bu_some, ab_bv_thr, ab_bu_thr, ab_fx_n, ab_fx_i, ab_fx_q, ab_fx_l, ab_sh_si, ab_gr_si, ab_gl_si, cs_n, ↓reduceIte, true_or, or_true, false_or, or_false, and_true, true_and, and_false, false_and, not_true_eq_false, not_false_eq_true, eq_self, Int.reduceEq, Int.reduceLT, Int.reduceLE, Int.reduceAdd, Int.reduceMul, Int.reduceNeg, if_pos, if_neg, hL.1, ec]
    · have a := m68 (B := B) (dd := dd + 11) i c1.1 c1.2 on
      have hD : ab_gi h 1 0 ≠ 0 := fun z => by have := i.2.2.1.2 z; omega
      obtain ⟨ic, w, g4, -⟩ := cs_ro_ok (k := 7) (n := p) i (by omega) c1.1 c1.2 hD
      have es : ab_sh (cs_ro h 7 p) = ab_sh h := by unfold ab_sh; rw [w]
      have m1 := mm_cls (x := (Int32.ofInt (cs_rd (ab_gi h 0 7) h 0 p.toNat).1).toInt64) m w (fun c x hc => g4 c x (by omega))
      refine oP_ok L ic w ?_ (fun _ _ _ => rfl) (n130 (B := B) (dd := dd + 12) i m1 c1.1 c1.2 on) (by omega) (by omega)
      simp (disch := omega) only [e170_0, e170_1, e170_2, e170_3, e170_6, e170_7, e170_10, e170_14, e170_15, e170_17, e170_18, e170_19, e170_20, implies_true, Int.reduceSub, Option.isNone_some, Option.isNone_none, ab_bh_some, ab_bh_thr, ab_gs_3, ab_gl_2, ab_gl_3, ab_gt_some, ab_gc_0, ab_gk_0, Bool.false_eq_true, Bool.true_eq_false, false_implies, Nat.reduceEqDiff, ab_ge, ab_lt, ab_le, ab_gt, ab_eq, ab_ne, decide_eq_true_eq, ab_w_id, ab_w0, ab_gd_some, ab_gs_0, ab_gs_1, ab_gl_0, ab_gl_1, ab_bv_some, ab_bu_some, ab_bv_thr, ab_bu_thr, ab_fx_n, ab_fx_i, ab_fx_q, ab_fx_l, ab_sh_si, ab_gr_si, ab_gl_si, cs_n, ↓reduceIte, true_or, or_true, false_or, or_false, and_true, true_and, and_false, false_and, not_true_eq_false, not_false_eq_true, eq_self, Int.reduceEq, Int.reduceLT, Int.reduceLE, Int.reduceAdd, Int.reduceMul, Int.reduceNeg, if_pos, if_neg, hL.1, a, es, s30]
  · refine oP_thr L (k := 1) ?_ (by omega) (by omega) (n130_1 (B := B) (dd := dd + 15) mc rp1 rp2 c1) (by omega) (by omega)
    have ec := m68_1 (B := B) (dd := dd + 15) rp1 rp2 c1 hL
    simp (disch := omega) only [e170_0, e170_1, e170_2, e170_3, e170_6, e170_7, e170_10, e170_14, e170_15, e170_17, e170_18, e170_19, e170_20, implies_true, Int.reduceSub, Option.isNone_some, Option.isNone_none, ab_bh_some, ab_bh_thr, ab_gs_3, ab_gl_2, ab_gl_3, ab_gt_some, ab_gc_0, ab_gk_0, Bool.false_eq_true, Bool.true_eq_false, false_implies, Nat.reduceEqDiff, ab_ge, ab_lt, ab_le, ab_gt, ab_eq, ab_ne, decide_eq_true_eq, ab_w_id, ab_w0, ab_gd_some, ab_gs_0, ab_gs_1, ab_gl_0, ab_gl_1, ab_bv_some, ab_bu_some, ab_bv_thr, ab_bu_thr, ab_fx_n, ab_fx_i, ab_fx_q, ab_fx_l, ab_sh_si, ab_gr_si, ab_gl_si, cs_n, ↓reduceIte, true_or, or_true, false_or, or_false, and_true, true_and, and_false, false_and, not_true_eq_false, not_false_eq_true, eq_self, Int.reduceEq, Int.reduceLT, Int.reduceLE, Int.reduceAdd, Int.reduceMul, Int.reduceNeg, if_pos, if_neg, hL.1, ec]
theorem op_giveUp {dd : Nat} {p : Int} {h : ab_H} {b : Nat} (L : li h b) (rp1 : -2147483648 ≤ p) (rp2 : p < 2147483648) : oP B (dd + 17) 171 131 [some (.inr (.inr (.inl (some 0)))), some (.inl p), some (.inr (.inr (.inl (some 30)))), none] [some (.inr (.inr (.inl (some 18)))), some (.inl p), none, none, none] h := by
  have i := L.1
  have m := L.2.1
  have hL := i.1.1
  have hDS := i.1.2.1
  have mc := mm_cost (c := 1) (s := 6) m
  have s30 := L.2.2
  have hN := L.N
  by_cases c1 : 0 ≤ p ∧ p < ab_gi h 1 1
  · by_cases c2 : ab_gi h 0 2 = 0 ∨ cs_bc h p < 2
    · refine oP_thr L (k := 2) ?_ (by omega) (by omega) (n131_2 (B := B) (dd := dd + 14) i mc c1.1 c1.2 c2) (by omega) (by omega)
      have ec := m69_3 (B := B) (dd := dd + 12) i c1.1 c1.2 c2
      simp (disch := omega) only [e171_0, e171_1, e171_2, e171_3, e171_6, e171_7, e171_10, e171_14, e171_15, e171_17, e171_18, e171_19, e171_20, implies_true, Int.reduceSub, Option.isNone_some, Option.isNone_none, ab_bh_some, ab_bh_thr, ab_gs_3, ab_gl_2, ab_gl_3, ab_gt_some, ab_gc_0, ab_gk_0, Bool.false_eq_true, Bool.true_eq_false, false_implies, Nat.reduceEqDiff, ab_ge, ab_lt, ab_le, ab_gt, ab_eq, ab_ne, decide_eq_true_eq, ab_w_id, ab_w0, ab_gd_some, ab_gs_0, ab_gs_1, ab_gl_0, ab_gl_1, ab_bv_some, ab_bu_some, ab_bv_thr, ab_bu_thr, ab_fx_n, ab_fx_i, ab_fx_q, ab_fx_l, ab_sh_si, ab_gr_si, ab_gl_si, cs_n, ↓reduceIte, true_or, or_true, false_or, or_false, and_true, true_and, and_false, false_and, not_true_eq_false, not_false_eq_true, eq_self, Int.reduceEq, Int.reduceLT, Int.reduceLE, Int.reduceAdd, Int.reduceMul, Int.reduceNeg, if_pos, if_neg, hL.1, ec]
    · have on : ab_gi h 0 2 = 1 := by
        rcases i.2.2.1.1 with z | z
        · exact absurd (Or.inl z) c2
        · exact z
      have c3 : 2 ≤ cs_bc h p := by
        by_cases z : cs_bc h p < 2
        · exact absurd (Or.inr z) c2
        · omega
      have a := m69 (B := B) (dd := dd + 11) i c1.1 c1.2 on c3
      obtain ⟨ic, w, g⟩ := cs_gu_ok i c1.1 c1.2
      have es : ab_sh (cs_gu h p) = ab_sh h := by unfold ab_sh; rw [w]
      have m1 := mm_cls (x := (Int32.ofInt (cs_ga (ab_gi h 1 0) p h 0 0 0 (ab_gi h 1 0).toNat).1).toInt64) m w (fun c x hc => g c x (by omega) (by omega) (by omega))
      refine oP_ok L ic w ?_ (fun _ _ _ => rfl) (n131 (B := B) (dd := dd + 14) i m1 c1.1 c1.2 on c3) (by omega) (by omega)
      simp (disch := omega) only [e171_0, e171_1, e171_2, e171_3, e171_6, e171_7, e171_10, e171_14, e171_15, e171_17, e171_18, e171_19, e171_20, implies_true, Int.reduceSub, Option.isNone_some, Option.isNone_none, ab_bh_some, ab_bh_thr, ab_gs_3, ab_gl_2, ab_gl_3, ab_gt_some, ab_gc_0, ab_gk_0, Bool.false_eq_true, Bool.true_eq_false, false_implies, Nat.reduceEqDiff, ab_ge, ab_lt, ab_le, ab_gt, ab_eq, ab_ne, decide_eq_true_eq, ab_w_id, ab_w0, ab_gd_some, ab_gs_0, ab_gs_1, ab_gl_0, ab_gl_1, ab_bv_some, ab_bu_some, ab_bv_thr, ab_bu_thr, ab_fx_n, ab_fx_i, ab_fx_q, ab_fx_l, ab_sh_si, ab_gr_si, ab_gl_si, cs_n, ↓reduceIte, true_or, or_true, false_or, or_false, and_true, true_and, and_false, false_and, not_true_eq_false, not_false_eq_true, eq_self, Int.reduceEq, Int.reduceLT, Int.reduceLE, Int.reduceAdd, Int.reduceMul, Int.reduceNeg, if_pos, if_neg, hL.1, a, es, s30]
  · refine oP_thr L (k := 1) ?_ (by omega) (by omega) (n131_1 (B := B) (dd := dd + 15) i mc rp1 rp2 c1) (by omega) (by omega)
    have ec := m69_2 (B := B) (dd := dd + 15) i rp1 rp2 c1
    simp (disch := omega) only [e171_0, e171_1, e171_2, e171_3, e171_6, e171_7, e171_10, e171_14, e171_15, e171_17, e171_18, e171_19, e171_20, implies_true, Int.reduceSub, Option.isNone_some, Option.isNone_none, ab_bh_some, ab_bh_thr, ab_gs_3, ab_gl_2, ab_gl_3, ab_gt_some, ab_gc_0, ab_gk_0, Bool.false_eq_true, Bool.true_eq_false, false_implies, Nat.reduceEqDiff, ab_ge, ab_lt, ab_le, ab_gt, ab_eq, ab_ne, decide_eq_true_eq, ab_w_id, ab_w0, ab_gd_some, ab_gs_0, ab_gs_1, ab_gl_0, ab_gl_1, ab_bv_some, ab_bu_some, ab_bv_thr, ab_bu_thr, ab_fx_n, ab_fx_i, ab_fx_q, ab_fx_l, ab_sh_si, ab_gr_si, ab_gl_si, cs_n, ↓reduceIte, true_or, or_true, false_or, or_false, and_true, true_and, and_false, false_and, not_true_eq_false, not_false_eq_true, eq_self, Int.reduceEq, Int.reduceLT, Int.reduceLE, Int.reduceAdd, Int.reduceMul, Int.reduceNeg, if_pos, if_neg, hL.1, ec]
theorem op_kind {dd : Nat} {p q t u : Int} {h : ab_H} {b : Nat} (L : li h b) (rp1 : -2147483648 ≤ p) (rp2 : p < 2147483648) (rq1 : -2147483648 ≤ q) (rq2 : q < 2147483648) (rt1 : -2147483648 ≤ t) (rt2 : t < 2147483648) (ru1 : -2147483648 ≤ u) (ru2 : u < 2147483648) : oP B (dd + 17) 172 138 [some (.inr (.inr (.inl (some 0)))), some (.inl p), some (.inl q), some (.inl t), some (.inl u), some (.inr (.inr (.inl (some 30)))), none] [some (.inr (.inr (.inl (some 18)))), some (.inl p), some (.inl q), some (.inl t), some (.inl u), none] h := by
  have i := L.1
  have m := L.2.1
  have hL := i.1.1
  have hDS := i.1.2.1
  have mc := mm_cost (c := 1) (s := 6) m
  have s30 := L.2.2
  have hN := L.N
  by_cases c1 : 0 ≤ p ∧ p < 5
  · by_cases c2 : (1 ≤ q ∧ q ≤ 30) ∧ (1 ≤ t ∧ t ≤ 9) ∧ (0 ≤ u ∧ u ≤ 9)
    · obtain ⟨hc, a, ic, G, eK⟩ := m70 (B := B) (e := dd) i c1.1 c1.2 c2.1.1 c2.1.2 c2.2.1.1 c2.2.1.2 c2.2.2.1 c2.2.2.2
      have es : ab_sh hc = ab_sh h := by unfold ab_sh; rw [G.1]
      have m1 := mm_cls (x := (Int32.ofInt ((ck_K h).1 p)).toInt64) m G.1 (fun c x hc => G.2 c x (by omega))
      refine oP_ok L ic G.1 ?_ (fun _ _ _ => rfl) (n138 (B := B) (dd := dd + 15) m1 c1.1 c1.2 c2.1.1 c2.1.2 c2.2.1.1 c2.2.1.2 c2.2.2.1 c2.2.2.2 G eK) (by omega) (by omega)
      simp (disch := omega) only [e172_0, e172_2, e172_3, e172_4, e172_5, e172_6, e172_8, e172_11, e172_12, e172_15, e172_20, e172_21, e172_24, e172_25, e172_26, e172_27, implies_true, Int.reduceSub, Option.isNone_some, Option.isNone_none, ab_bh_some, ab_bh_thr, ab_gs_3, ab_gl_2, ab_gl_3, ab_gt_some, ab_gc_0, ab_gk_0, Bool.false_eq_true, Bool.true_eq_false, false_implies, Nat.reduceEqDiff, ab_ge, ab_lt, ab_le, ab_gt, ab_eq, ab_ne, decide_eq_true_eq, ab_w_id, ab_w0, ab_gd_some, ab_gs_0, ab_gs_1, ab_gl_0, ab_gl_1, ab_bv_some, ab_bu_some, ab_bv_thr, ab_bu_thr, ab_fx_n, ab_fx_i, ab_fx_q, ab_fx_l, ab_sh_si, ab_gr_si, ab_gl_si, cs_n, ↓reduceIte, true_or, or_true, false_or, or_false, and_true, true_and, and_false, false_and, not_true_eq_false, not_false_eq_true, eq_self, Int.reduceEq, Int.reduceLT, Int.reduceLE, Int.reduceAdd, Int.reduceMul, Int.reduceNeg, if_pos, if_neg, hL.1, a, es, s30]
    · refine oP_thr L (k := 2) ?_ (by omega) (by omega) (n138_2 (B := B) (dd := dd + 15) mc c1.1 c1.2 rq1 rq2 rt1 rt2 ru1 ru2 c2) (by omega) (by omega)
      have ec := m70_1 (B := B) (dd := dd + 16) (h := h) c1.1 c1.2 rq1 rq2 rt1 rt2 ru1 ru2 c2
      simp (disch := omega) only [e172_0, e172_2, e172_3, e172_4, e172_5, e172_6, e172_8, e172_11, e172_12, e172_15, e172_20, e172_21, e172_24, e172_25, e172_26, e172_27, implies_true, Int.reduceSub, Option.isNone_some, Option.isNone_none, ab_bh_some, ab_bh_thr, ab_gs_3, ab_gl_2, ab_gl_3, ab_gt_some, ab_gc_0, ab_gk_0, Bool.false_eq_true, Bool.true_eq_false, false_implies, Nat.reduceEqDiff, ab_ge, ab_lt, ab_le, ab_gt, ab_eq, ab_ne, decide_eq_true_eq, ab_w_id, ab_w0, ab_gd_some, ab_gs_0, ab_gs_1, ab_gl_0, ab_gl_1, ab_bv_some, ab_bu_some, ab_bv_thr, ab_bu_thr, ab_fx_n, ab_fx_i, ab_fx_q, ab_fx_l, ab_sh_si, ab_gr_si, ab_gl_si, cs_n, ↓reduceIte, true_or, or_true, false_or, or_false, and_true, true_and, and_false, false_and, not_true_eq_false, not_false_eq_true, eq_self, Int.reduceEq, Int.reduceLT, Int.reduceLE, Int.reduceAdd, Int.reduceMul, Int.reduceNeg, if_pos, if_neg, hL.1, ec]
  · refine oP_thr L (k := 1) ?_ (by omega) (by omega) (n138_1 (B := B) (dd := dd + 15) mc rp1 rp2 c1) (by omega) (by omega)
    have ec := m70_2 (B := B) (dd := dd + 16) (h := h) (p := q) (s := t) (j := u) rp1 rp2 c1
    simp (disch := omega) only [e172_0, e172_2, e172_3, e172_4, e172_5, e172_6, e172_8, e172_11, e172_12, e172_15, e172_20, e172_21, e172_24, e172_25, e172_26, e172_27, implies_true, Int.reduceSub, Option.isNone_some, Option.isNone_none, ab_bh_some, ab_bh_thr, ab_gs_3, ab_gl_2, ab_gl_3, ab_gt_some, ab_gc_0, ab_gk_0, Bool.false_eq_true, Bool.true_eq_false, false_implies, Nat.reduceEqDiff, ab_ge, ab_lt, ab_le, ab_gt, ab_eq, ab_ne, decide_eq_true_eq, ab_w_id, ab_w0, ab_gd_some, ab_gs_0, ab_gs_1, ab_gl_0, ab_gl_1, ab_bv_some, ab_bu_some, ab_bv_thr, ab_bu_thr, ab_fx_n, ab_fx_i, ab_fx_q, ab_fx_l, ab_sh_si, ab_gr_si, ab_gl_si, cs_n, ↓reduceIte, true_or, or_true, false_or, or_false, and_true, true_and, and_false, false_and, not_true_eq_false, not_false_eq_true, eq_self, Int.reduceEq, Int.reduceLT, Int.reduceLE, Int.reduceAdd, Int.reduceMul, Int.reduceNeg, if_pos, if_neg, hL.1, ec]
theorem op_fuse {dd : Nat} {p q : Int} {h : ab_H} {b : Nat} (L : li h b) (rp1 : -2147483648 ≤ p) (rp2 : p < 2147483648) (rq1 : -2147483648 ≤ q) (rq2 : q < 2147483648) : oP B (dd + 17) 173 139 [some (.inr (.inr (.inl (some 0)))), some (.inl p), some (.inl q), some (.inr (.inr (.inl (some 30)))), none] [some (.inr (.inr (.inl (some 18)))), some (.inl p), some (.inl q), none] h := by
  have i := L.1
  have m := L.2.1
  have hL := i.1.1
  have hDS := i.1.2.1
  have mc := mm_cost (c := 1) (s := 6) m
  have s30 := L.2.2
  have hN := L.N
  by_cases c : (1 ≤ p ∧ p ≤ 90) ∧ (0 ≤ q ∧ q ≤ 9)
  · obtain ⟨hc, a, ic, G, eK⟩ := m71 (B := B) (e := dd) i c.1.1 c.1.2 c.2.1 c.2.2
    have es : ab_sh hc = ab_sh h := by unfold ab_sh; rw [G.1]
    have m1 := mm_cls (x := (Int32.ofInt ((ck_K h).2.2.2.1)).toInt64) m G.1 (fun c x hc => G.2 c x (by omega))
    refine oP_ok L ic G.1 ?_ (fun _ _ _ => rfl) (n139 (B := B) (dd := dd + 15) m1 c.1.1 c.1.2 c.2.1 c.2.2 G eK) (by omega) (by omega)
    simp (disch := omega) only [e173_0, e173_1, e173_2, e173_3, e173_4, e173_7, e173_8, e173_11, e173_16, e173_17, e173_18, e173_19, implies_true, Int.reduceSub, Option.isNone_some, Option.isNone_none, ab_bh_some, ab_bh_thr, ab_gs_3, ab_gl_2, ab_gl_3, ab_gt_some, ab_gc_0, ab_gk_0, Bool.false_eq_true, Bool.true_eq_false, false_implies, Nat.reduceEqDiff, ab_ge, ab_lt, ab_le, ab_gt, ab_eq, ab_ne, decide_eq_true_eq, ab_w_id, ab_w0, ab_gd_some, ab_gs_0, ab_gs_1, ab_gl_0, ab_gl_1, ab_bv_some, ab_bu_some, ab_bv_thr, ab_bu_thr, ab_fx_n, ab_fx_i, ab_fx_q, ab_fx_l, ab_sh_si, ab_gr_si, ab_gl_si, cs_n, ↓reduceIte, true_or, or_true, false_or, or_false, and_true, true_and, and_false, false_and, not_true_eq_false, not_false_eq_true, eq_self, Int.reduceEq, Int.reduceLT, Int.reduceLE, Int.reduceAdd, Int.reduceMul, Int.reduceNeg, if_pos, if_neg, hL.1, a, es, s30]
  · refine oP_thr L (k := 1) ?_ (by omega) (by omega) (n139_1 (B := B) (dd := dd + 15) mc rp1 rp2 rq1 rq2 c) (by omega) (by omega)
    have ec := m71_1 (B := B) (dd := dd + 16) (h := h) rp1 rp2 rq1 rq2 c
    simp (disch := omega) only [e173_0, e173_1, e173_2, e173_3, e173_4, e173_7, e173_8, e173_11, e173_16, e173_17, e173_18, e173_19, implies_true, Int.reduceSub, Option.isNone_some, Option.isNone_none, ab_bh_some, ab_bh_thr, ab_gs_3, ab_gl_2, ab_gl_3, ab_gt_some, ab_gc_0, ab_gk_0, Bool.false_eq_true, Bool.true_eq_false, false_implies, Nat.reduceEqDiff, ab_ge, ab_lt, ab_le, ab_gt, ab_eq, ab_ne, decide_eq_true_eq, ab_w_id, ab_w0, ab_gd_some, ab_gs_0, ab_gs_1, ab_gl_0, ab_gl_1, ab_bv_some, ab_bu_some, ab_bv_thr, ab_bu_thr, ab_fx_n, ab_fx_i, ab_fx_q, ab_fx_l, ab_sh_si, ab_gr_si, ab_gl_si, cs_n, ↓reduceIte, true_or, or_true, false_or, or_false, and_true, true_and, and_false, false_and, not_true_eq_false, not_false_eq_true, eq_self, Int.reduceEq, Int.reduceLT, Int.reduceLE, Int.reduceAdd, Int.reduceMul, Int.reduceNeg, if_pos, if_neg, hL.1, ec]
theorem op_off {dd : Nat} {h : ab_H} {b : Nat} (L : li h b) : oP B (dd + 17) 174 140 [some (.inr (.inr (.inl (some 0)))), some (.inr (.inr (.inl (some 30)))), none] [some (.inr (.inr (.inl (some 18)))), none] h := by
  have i := L.1
  have m := L.2.1
  have hL := i.1.1
  have hDS := i.1.2.1
  have mc := mm_cost (c := 1) (s := 6) m
  have s30 := L.2.2
  have hN := L.N
  by_cases c : ab_gi h 1 0 = 0
  · refine oP_thr L (k := 1) ?_ (by omega) (by omega) (n140_1 (B := B) (dd := dd + 15) mc c) (by omega) (by omega)
    have ec := m72_3 (B := B) (dd := dd + 16) i c
    simp (disch := omega) only [e174_0, e174_1, e174_2, e174_5, e174_8, e174_9, e174_12, e174_13, e174_16, e174_20, e174_21, e174_22, e174_23, implies_true, Int.reduceSub, Option.isNone_some, Option.isNone_none, ab_bh_some, ab_bh_thr, ab_gs_3, ab_gl_2, ab_gl_3, ab_gt_some, ab_gc_0, ab_gk_0, Bool.false_eq_true, Bool.true_eq_false, false_implies, Nat.reduceEqDiff, ab_ge, ab_lt, ab_le, ab_gt, ab_eq, ab_ne, decide_eq_true_eq, ab_w_id, ab_w0, ab_gd_some, ab_gs_0, ab_gs_1, ab_gl_0, ab_gl_1, ab_bv_some, ab_bu_some, ab_bv_thr, ab_bu_thr, ab_fx_n, ab_fx_i, ab_fx_q, ab_fx_l, ab_sh_si, ab_gr_si, ab_gl_si, cs_n, ↓reduceIte, true_or, or_true, false_or, or_false, and_true, true_and, and_false, false_and, not_true_eq_false, not_false_eq_true, eq_self, Int.reduceEq, Int.reduceLT, Int.reduceLE, Int.reduceAdd, Int.reduceMul, Int.reduceNeg, if_pos, if_neg, hL.1, ec]
  · have a := m72 (B := B) (dd := dd + 15) i c
    rcases i.2.2.1.1 with on | on
    · rw [if_neg (by omega)] at a
      have m1 := mm_cls (x := (Int32.ofInt (ab_gi h 0 2)).toInt64) (hc := h) m rfl (fun c x hc => rfl)
      have R := n140 (B := B) (dd := dd + 15) i m1 c
      rw [if_neg (by omega)] at R
      refine oP_ok L i rfl ?_ (fun _ _ _ => rfl) R (by omega) (by omega)
      rw [on] at a ⊢
      rw [ab_01.2]
      simp (disch := omega) only [e174_0, e174_1, e174_2, e174_5, e174_8, e174_9, e174_12, e174_13, e174_16, e174_20, e174_21, e174_22, e174_23, implies_true, Int.reduceSub, Option.isNone_some, Option.isNone_none, ab_bh_some, ab_bh_thr, ab_gs_3, ab_gl_2, ab_gl_3, ab_gt_some, ab_gc_0, ab_gk_0, Bool.false_eq_true, Bool.true_eq_false, false_implies, Nat.reduceEqDiff, ab_ge, ab_lt, ab_le, ab_gt, ab_eq, ab_ne, decide_eq_true_eq, ab_w_id, ab_w0, ab_gd_some, ab_gs_0, ab_gs_1, ab_gl_0, ab_gl_1, ab_bv_some, ab_bu_some, ab_bv_thr, ab_bu_thr, ab_fx_n, ab_fx_i, ab_fx_q, ab_fx_l, ab_sh_si, ab_gr_si, ab_gl_si, cs_n, ↓reduceIte, true_or, or_true, false_or, or_false, and_true, true_and, and_false, false_and, not_true_eq_false, not_false_eq_true, eq_self, Int.reduceEq, Int.reduceLT, Int.reduceLE, Int.reduceAdd, Int.reduceMul, Int.reduceNeg, if_pos, if_neg, hL.1, a, s30]
    · rw [if_pos on] at a
      have m1 := mm_cls (x := (Int32.ofInt (ab_gi h 0 2)).toInt64) (hc := cs_off h) m rfl (fun c x hc => by rw [cs_off_gi, if_neg (by omega), if_neg (by omega)])
      have R := n140 (B := B) (dd := dd + 15) i m1 c
      rw [if_pos on] at R
      have es : ab_sh (cs_off h) = ab_sh h := rfl
      refine oP_ok L (cs_off_ci i) rfl ?_ (fun _ _ _ => rfl) R (by omega) (by omega)
      rw [on] at a ⊢
      rw [ab_01.1]
      simp (disch := omega) only [e174_0, e174_1, e174_2, e174_5, e174_8, e174_9, e174_12, e174_13, e174_16, e174_20, e174_21, e174_22, e174_23, implies_true, Int.reduceSub, Option.isNone_some, Option.isNone_none, ab_bh_some, ab_bh_thr, ab_gs_3, ab_gl_2, ab_gl_3, ab_gt_some, ab_gc_0, ab_gk_0, Bool.false_eq_true, Bool.true_eq_false, false_implies, Nat.reduceEqDiff, ab_ge, ab_lt, ab_le, ab_gt, ab_eq, ab_ne, decide_eq_true_eq, ab_w_id, ab_w0, ab_gd_some, ab_gs_0, ab_gs_1, ab_gl_0, ab_gl_1, ab_bv_some, ab_bu_some, ab_bv_thr, ab_bu_thr, ab_fx_n, ab_fx_i, ab_fx_q, ab_fx_l, ab_sh_si, ab_gr_si, ab_gl_si, cs_n, ↓reduceIte, true_or, or_true, false_or, or_false, and_true, true_and, and_false, false_and, not_true_eq_false, not_false_eq_true, eq_self, Int.reduceEq, Int.reduceLT, Int.reduceLE, Int.reduceAdd, Int.reduceMul, Int.reduceNeg, if_pos, if_neg, hL.1, a, es, s30]
theorem op_power {dd : Nat} {h : ab_H} {b : Nat} (L : li h b) : oP B (dd + 17) 175 141 [some (.inr (.inr (.inl (some 0)))), some (.inr (.inr (.inl (some 30)))), none] [some (.inr (.inr (.inl (some 18))))] h := by
  have i := L.1
  have m := L.2.1
  have hL := i.1.1
  have hDS := i.1.2.1
  have mc := mm_cost (c := 1) (s := 6) m
  have s30 := L.2.2
  have hN := L.N
  by_cases c : ab_gi h 1 0 = 0 ∨ ab_gi h 0 2 = 1 ∨ pk_plan (ck_K h) (ab_gi h 1 0) = none
  · refine oP_thr L (k := 1) ?_ (by omega) (by omega) (n141_1 (B := B) (dd := dd + 8) i mc c) (by omega) (by omega)
    have ec := m73_3 (B := B) (dd := dd + 15) i c
    simp (disch := omega) only [e175_0, e175_1, e175_2, e175_5, e175_6, e175_9, e175_13, e175_14, e175_15, e175_16, implies_true, Int.reduceSub, Option.isNone_some, Option.isNone_none, ab_bh_some, ab_bh_thr, ab_gs_3, ab_gl_2, ab_gl_3, ab_gt_some, ab_gc_0, ab_gk_0, Bool.false_eq_true, Bool.true_eq_false, false_implies, Nat.reduceEqDiff, ab_ge, ab_lt, ab_le, ab_gt, ab_eq, ab_ne, decide_eq_true_eq, ab_w_id, ab_w0, ab_gd_some, ab_gs_0, ab_gs_1, ab_gl_0, ab_gl_1, ab_bv_some, ab_bu_some, ab_bv_thr, ab_bu_thr, ab_fx_n, ab_fx_i, ab_fx_q, ab_fx_l, ab_sh_si, ab_gr_si, ab_gl_si, cs_n, ↓reduceIte, true_or, or_true, false_or, or_false, and_true, true_and, and_false, false_and, not_true_eq_false, not_false_eq_true, eq_self, Int.reduceEq, Int.reduceLT, Int.reduceLE, Int.reduceAdd, Int.reduceMul, Int.reduceNeg, if_pos, if_neg, hL.1, ec]
  · have hD : ab_gi h 1 0 ≠ 0 := fun z => c (Or.inl z)
    have on : ab_gi h 0 2 = 0 := by
      rcases i.2.2.1.1 with z | z
      · exact z
      · exact absurd (Or.inr (Or.inl z)) c
    have hp : pk_plan (ck_K h) (ab_gi h 1 0) ≠ none := fun z => c (Or.inr (Or.inr z))
    have a := m73 (B := B) (dd := dd + 12) i hD on hp
    obtain ⟨-, ic, w, g4⟩ := m94 (B := B) (dd := dd) i hD
    have es : ab_sh (cs_on h) = ab_sh h := by unfold ab_sh; rw [w]
    have g1 : ab_gi (cs_on h) 1 0 = ab_gi h 1 0 := by
      unfold cs_on
      split
      · rw [ab_gi_si, if_neg (by omega), ab_gi_si, if_neg (by omega), ab_gi_si, if_neg (by omega), cs_lay_gi (by decide) (by decide), cs_lay_gi (by decide) (by decide), ab_gi_si, if_neg (by omega)]
      · rw [ab_gi_si, if_neg (by omega)]
    have m1 := mm_cls (x := (Int32.ofInt (pk_en (ck_K h) (ab_gi h 1 0) (pk_plan (ck_K h) (ab_gi h 1 0)))).toInt64) m w (fun c x hc => g4 c x (by omega))
    refine oP_ok L ic w ?_ (fun _ _ _ => rfl) (n141 (B := B) (dd := dd + 8) i m1 hD on hp ic g4 g1) (by omega) (by omega)
    simp (disch := omega) only [e175_0, e175_1, e175_2, e175_5, e175_6, e175_9, e175_13, e175_14, e175_15, e175_16, implies_true, Int.reduceSub, Option.isNone_some, Option.isNone_none, ab_bh_some, ab_bh_thr, ab_gs_3, ab_gl_2, ab_gl_3, ab_gt_some, ab_gc_0, ab_gk_0, Bool.false_eq_true, Bool.true_eq_false, false_implies, Nat.reduceEqDiff, ab_ge, ab_lt, ab_le, ab_gt, ab_eq, ab_ne, decide_eq_true_eq, ab_w_id, ab_w0, ab_gd_some, ab_gs_0, ab_gs_1, ab_gl_0, ab_gl_1, ab_bv_some, ab_bu_some, ab_bv_thr, ab_bu_thr, ab_fx_n, ab_fx_i, ab_fx_q, ab_fx_l, ab_sh_si, ab_gr_si, ab_gl_si, cs_n, ↓reduceIte, true_or, or_true, false_or, or_false, and_true, true_and, and_false, false_and, not_true_eq_false, not_false_eq_true, eq_self, Int.reduceEq, Int.reduceLT, Int.reduceLE, Int.reduceAdd, Int.reduceMul, Int.reduceNeg, if_pos, if_neg, hL.1, a, es, s30]
theorem op_boot {dd : Nat} {p : Int} {h : ab_H} {b : Nat} (L : li h b) (rp1 : -2147483648 ≤ p) (rp2 : p < 2147483648) : oP B (dd + 17) 176 143 [some (.inr (.inr (.inl (some 0)))), some (.inl p), some (.inr (.inr (.inl (some 30)))), none] [some (.inr (.inr (.inl (some 18)))), some (.inl p), none] h := by
  have i := L.1
  have m := L.2.1
  have hL := i.1.1
  have hDS := i.1.2.1
  have mc := mm_cost (c := 1) (s := 6) m
  have s30 := L.2.2
  have hN := L.N
  by_cases c1 : 0 ≤ p ∧ p ≤ 20
  · by_cases c2 : ab_gi h 1 0 = 0 ∨ ab_gi h 0 2 = 1
    · refine oP_thr L (k := 2) ?_ (by omega) (by omega) (n143_2 (B := B) (dd := dd + 15) i mc c1.1 c1.2 c2) (by omega) (by omega)
      have ec := m74_3 (B := B) (dd := dd + 16) i c1.1 c1.2 c2
      simp (disch := omega) only [e176_0, e176_1, e176_2, e176_3, e176_6, e176_7, e176_10, e176_14, e176_15, e176_17, e176_18, e176_19, e176_20, implies_true, Int.reduceSub, Option.isNone_some, Option.isNone_none, ab_bh_some, ab_bh_thr, ab_gs_3, ab_gl_2, ab_gl_3, ab_gt_some, ab_gc_0, ab_gk_0, Bool.false_eq_true, Bool.true_eq_false, false_implies, Nat.reduceEqDiff, ab_ge, ab_lt, ab_le, ab_gt, ab_eq, ab_ne, decide_eq_true_eq, ab_w_id, ab_w0, ab_gd_some, ab_gs_0, ab_gs_1, ab_gl_0, ab_gl_1, ab_bv_some, ab_bu_some, ab_bv_thr, ab_bu_thr, ab_fx_n, ab_fx_i, ab_fx_q, ab_fx_l, ab_sh_si, ab_gr_si, ab_gl_si, cs_n, ↓reduceIte, true_or, or_true, false_or, or_false, and_true, true_and, and_false, false_and, not_true_eq_false, not_false_eq_true, eq_self, Int.reduceEq, Int.reduceLT, Int.reduceLE, Int.reduceAdd, Int.reduceMul, Int.reduceNeg, if_pos, if_neg, hL.1, ec]
    · have hD : ab_gi h 1 0 ≠ 0 := fun z => c2 (Or.inl z)
      have on : ab_gi h 0 2 = 0 := by
        rcases i.2.2.1.1 with z | z
        · exact z
        · exact absurd (Or.inr z) c2
      obtain ⟨hc, a, ic, A, eK⟩ := m74 (B := B) (dd := dd + 12) i c1.1 c1.2 hD on
      by_cases c3 : pk_gap (ck_K h) (ab_gi h 1 0) p = -1
      · rw [if_pos c3] at a
        have es : ab_sh hc = ab_sh h := by unfold ab_sh; rw [A.1]
        have m1 := mm_cls (x := (Int32.ofInt (pk_gap (ck_K h) (ab_gi h 1 0) p)).toInt64) m A.1 (fun c x hc => A.2 c x (by omega))
        have R := n143 (B := B) (dd := dd + 13) i m1 hD on c1.1 c1.2
        rw [if_pos c3] at R
        refine oP_ok L ic A.1 ?_ (fun c x hc => A.2 c x (by omega)) R (by omega) (by omega)
        simp (disch := omega) only [e176_0, e176_1, e176_2, e176_3, e176_6, e176_7, e176_10, e176_14, e176_15, e176_17, e176_18, e176_19, e176_20, implies_true, Int.reduceSub, Option.isNone_some, Option.isNone_none, ab_bh_some, ab_bh_thr, ab_gs_3, ab_gl_2, ab_gl_3, ab_gt_some, ab_gc_0, ab_gk_0, Bool.false_eq_true, Bool.true_eq_false, false_implies, Nat.reduceEqDiff, ab_ge, ab_lt, ab_le, ab_gt, ab_eq, ab_ne, decide_eq_true_eq, ab_w_id, ab_w0, ab_gd_some, ab_gs_0, ab_gs_1, ab_gl_0, ab_gl_1, ab_bv_some, ab_bu_some, ab_bv_thr, ab_bu_thr, ab_fx_n, ab_fx_i, ab_fx_q, ab_fx_l, ab_sh_si, ab_gr_si, ab_gl_si, cs_n, ↓reduceIte, true_or, or_true, false_or, or_false, and_true, true_and, and_false, false_and, not_true_eq_false, not_false_eq_true, eq_self, Int.reduceEq, Int.reduceLT, Int.reduceLE, Int.reduceAdd, Int.reduceMul, Int.reduceNeg, if_pos, if_neg, hL.1, a, es, s30]
      · rw [if_neg c3] at a
        have hD' : ab_gi hc 1 0 ≠ 0 := by rw [A.2 1 0 (by decide)]; exact hD
        obtain ⟨-, ico, w, g4⟩ := m94 (B := B) (dd := dd) ic hD'
        have w' := w.trans A.1
        have es : ab_sh (cs_on hc) = ab_sh h := by unfold ab_sh; rw [w']
        have m1 := mm_cls (x := (Int32.ofInt (pk_gap (ck_K h) (ab_gi h 1 0) p)).toInt64) m w' (fun c x hc => (g4 c x (by omega)).trans (A.2 c x (by omega)))
        have R := n143 (B := B) (dd := dd + 13) i m1 hD on c1.1 c1.2
        rw [if_neg c3] at R
        refine oP_ok L ico w' ?_ (cs_on_A A) R (by omega) (by omega)
        simp (disch := omega) only [e176_0, e176_1, e176_2, e176_3, e176_6, e176_7, e176_10, e176_14, e176_15, e176_17, e176_18, e176_19, e176_20, implies_true, Int.reduceSub, Option.isNone_some, Option.isNone_none, ab_bh_some, ab_bh_thr, ab_gs_3, ab_gl_2, ab_gl_3, ab_gt_some, ab_gc_0, ab_gk_0, Bool.false_eq_true, Bool.true_eq_false, false_implies, Nat.reduceEqDiff, ab_ge, ab_lt, ab_le, ab_gt, ab_eq, ab_ne, decide_eq_true_eq, ab_w_id, ab_w0, ab_gd_some, ab_gs_0, ab_gs_1, ab_gl_0, ab_gl_1, ab_bv_some, ab_bu_some, ab_bv_thr, ab_bu_thr, ab_fx_n, ab_fx_i, ab_fx_q, ab_fx_l, ab_sh_si, ab_gr_si, ab_gl_si, cs_n, ↓reduceIte, true_or, or_true, false_or, or_false, and_true, true_and, and_false, false_and, not_true_eq_false, not_false_eq_true, eq_self, Int.reduceEq, Int.reduceLT, Int.reduceLE, Int.reduceAdd, Int.reduceMul, Int.reduceNeg, if_pos, if_neg, hL.1, a, es, s30]
  · refine oP_thr L (k := 1) ?_ (by omega) (by omega) (n143_1 (B := B) (dd := dd + 15) mc rp1 rp2 c1) (by omega) (by omega)
    have ec := m74_1 (B := B) (dd := dd + 16) (h := h) rp1 rp2 c1
    simp (disch := omega) only [e176_0, e176_1, e176_2, e176_3, e176_6, e176_7, e176_10, e176_14, e176_15, e176_17, e176_18, e176_19, e176_20, implies_true, Int.reduceSub, Option.isNone_some, Option.isNone_none, ab_bh_some, ab_bh_thr, ab_gs_3, ab_gl_2, ab_gl_3, ab_gt_some, ab_gc_0, ab_gk_0, Bool.false_eq_true, Bool.true_eq_false, false_implies, Nat.reduceEqDiff, ab_ge, ab_lt, ab_le, ab_gt, ab_eq, ab_ne, decide_eq_true_eq, ab_w_id, ab_w0, ab_gd_some, ab_gs_0, ab_gs_1, ab_gl_0, ab_gl_1, ab_bv_some, ab_bu_some, ab_bv_thr, ab_bu_thr, ab_fx_n, ab_fx_i, ab_fx_q, ab_fx_l, ab_sh_si, ab_gr_si, ab_gl_si, cs_n, ↓reduceIte, true_or, or_true, false_or, or_false, and_true, true_and, and_false, false_and, not_true_eq_false, not_false_eq_true, eq_self, Int.reduceEq, Int.reduceLT, Int.reduceLE, Int.reduceAdd, Int.reduceMul, Int.reduceNeg, if_pos, if_neg, hL.1, ec]
theorem op_cell {dd : Nat} {p q t : Int} {h : ab_H} {b : Nat} (L : li h b) (rp1 : -2147483648 ≤ p) (rp2 : p < 2147483648) (rq1 : -2147483648 ≤ q) (rq2 : q < 2147483648) (rt1 : -2147483648 ≤ t) (rt2 : t < 2147483648) : oP B (dd + 17) 177 145 [some (.inr (.inr (.inl (some 0)))), some (.inl p), some (.inl q), some (.inl t), some (.inr (.inr (.inl (some 30)))), none] [some (.inr (.inr (.inl (some 18)))), some (.inl p), some (.inl q), some (.inl t)] h := by
  have i := L.1
  have m := L.2.1
  have hL := i.1.1
  have hDS := i.1.2.1
  have mc := mm_cost (c := 1) (s := 6) m
  have s30 := L.2.2
  have hN := L.N
  by_cases c1 : (0 ≤ p ∧ p < ab_gi h 1 0) ∧ (0 ≤ q ∧ q < ab_gi h 1 1)
  · by_cases c2 : 0 ≤ t ∧ t < 5
    · have a := m75 (B := B) (dd := dd + 11) i c1.1.1 c1.1.2 c1.2.1 c1.2.2 c2.1 c2.2
      have m1 := mm_cls (x := (Int32.ofInt (cs_vc h p q t)).toInt64) (hc := h) m rfl (fun c x hc => rfl)
      refine oP_ok L i rfl ?_ (fun _ _ _ => rfl) (n145 (B := B) (dd := dd + 13) i m1 c1.1.1 c1.1.2 c1.2.1 c1.2.2 c2.1 c2.2) (by omega) (by omega)
      simp (disch := omega) only [e177_0, e177_2, e177_3, e177_4, e177_5, e177_6, e177_9, e177_10, e177_13, e177_18, e177_19, e177_22, e177_23, e177_24, e177_25, implies_true, Int.reduceSub, Option.isNone_some, Option.isNone_none, ab_bh_some, ab_bh_thr, ab_gs_3, ab_gl_2, ab_gl_3, ab_gt_some, ab_gc_0, ab_gk_0, Bool.false_eq_true, Bool.true_eq_false, false_implies, Nat.reduceEqDiff, ab_ge, ab_lt, ab_le, ab_gt, ab_eq, ab_ne, decide_eq_true_eq, ab_w_id, ab_w0, ab_gd_some, ab_gs_0, ab_gs_1, ab_gl_0, ab_gl_1, ab_bv_some, ab_bu_some, ab_bv_thr, ab_bu_thr, ab_fx_n, ab_fx_i, ab_fx_q, ab_fx_l, ab_sh_si, ab_gr_si, ab_gl_si, cs_n, ↓reduceIte, true_or, or_true, false_or, or_false, and_true, true_and, and_false, false_and, not_true_eq_false, not_false_eq_true, eq_self, Int.reduceEq, Int.reduceLT, Int.reduceLE, Int.reduceAdd, Int.reduceMul, Int.reduceNeg, if_pos, if_neg, hL.1, a, s30]
    · refine oP_thr L (k := 2) ?_ (by omega) (by omega) (n145_2 (B := B) (dd := dd + 15) i mc c1.1.1 c1.1.2 c1.2.1 c1.2.2 rt1 rt2 c2) (by omega) (by omega)
      have ec := m75_1 (B := B) (dd := dd + 15) i c1.1.1 c1.1.2 c1.2.1 c1.2.2 rt1 rt2 c2
      simp (disch := omega) only [e177_0, e177_2, e177_3, e177_4, e177_5, e177_6, e177_9, e177_10, e177_13, e177_18, e177_19, e177_22, e177_23, e177_24, e177_25, implies_true, Int.reduceSub, Option.isNone_some, Option.isNone_none, ab_bh_some, ab_bh_thr, ab_gs_3, ab_gl_2, ab_gl_3, ab_gt_some, ab_gc_0, ab_gk_0, Bool.false_eq_true, Bool.true_eq_false, false_implies, Nat.reduceEqDiff, ab_ge, ab_lt, ab_le, ab_gt, ab_eq, ab_ne, decide_eq_true_eq, ab_w_id, ab_w0, ab_gd_some, ab_gs_0, ab_gs_1, ab_gl_0, ab_gl_1, ab_bv_some, ab_bu_some, ab_bv_thr, ab_bu_thr, ab_fx_n, ab_fx_i, ab_fx_q, ab_fx_l, ab_sh_si, ab_gr_si, ab_gl_si, cs_n, ↓reduceIte, true_or, or_true, false_or, or_false, and_true, true_and, and_false, false_and, not_true_eq_false, not_false_eq_true, eq_self, Int.reduceEq, Int.reduceLT, Int.reduceLE, Int.reduceAdd, Int.reduceMul, Int.reduceNeg, if_pos, if_neg, hL.1, ec]
  · refine oP_thr L (k := 1) ?_ (by omega) (by omega) (n145_1 (B := B) (dd := dd + 15) i mc rp1 rp2 rq1 rq2 c1) (by omega) (by omega)
    have ec := m75_2 (B := B) (dd := dd + 15) (w := t) i rp1 rp2 rq1 rq2 c1
    simp (disch := omega) only [e177_0, e177_2, e177_3, e177_4, e177_5, e177_6, e177_9, e177_10, e177_13, e177_18, e177_19, e177_22, e177_23, e177_24, e177_25, implies_true, Int.reduceSub, Option.isNone_some, Option.isNone_none, ab_bh_some, ab_bh_thr, ab_gs_3, ab_gl_2, ab_gl_3, ab_gt_some, ab_gc_0, ab_gk_0, Bool.false_eq_true, Bool.true_eq_false, false_implies, Nat.reduceEqDiff, ab_ge, ab_lt, ab_le, ab_gt, ab_eq, ab_ne, decide_eq_true_eq, ab_w_id, ab_w0, ab_gd_some, ab_gs_0, ab_gs_1, ab_gl_0, ab_gl_1, ab_bv_some, ab_bu_some, ab_bv_thr, ab_bu_thr, ab_fx_n, ab_fx_i, ab_fx_q, ab_fx_l, ab_sh_si, ab_gr_si, ab_gl_si, cs_n, ↓reduceIte, true_or, or_true, false_or, or_false, and_true, true_and, and_false, false_and, not_true_eq_false, not_false_eq_true, eq_self, Int.reduceEq, Int.reduceLT, Int.reduceLE, Int.reduceAdd, Int.reduceMul, Int.reduceNeg, if_pos, if_neg, hL.1, ec]
theorem op_ofDisk {dd : Nat} {p t : Int} {h : ab_H} {b : Nat} (L : li h b) (rp1 : -2147483648 ≤ p) (rp2 : p < 2147483648) (rt1 : -2147483648 ≤ t) (rt2 : t < 2147483648) : oP B (dd + 17) 178 147 [some (.inr (.inr (.inl (some 0)))), some (.inl p), some (.inl t), some (.inr (.inr (.inl (some 30)))), none] [some (.inr (.inr (.inl (some 18)))), some (.inl p), some (.inl t)] h := by
  have i := L.1
  have m := L.2.1
  have hL := i.1.1
  have hDS := i.1.2.1
  have mc := mm_cost (c := 1) (s := 6) m
  have s30 := L.2.2
  have hN := L.N
  by_cases c1 : 0 ≤ p ∧ p < ab_gi h 1 0
  · by_cases c2 : 0 ≤ t ∧ t < 8
    · have a := m76 (B := B) (dd := dd + 11) i c1.1 c1.2 c2.1 c2.2
      have m1 := mm_cls (x := (Int32.ofInt (cs_vd h p t)).toInt64) (hc := h) m rfl (fun c x hc => rfl)
      refine oP_ok L i rfl ?_ (fun _ _ _ => rfl) (n147 (B := B) (dd := dd + 7) i m1 c1.1 c1.2 c2.1 c2.2) (by omega) (by omega)
      simp (disch := omega) only [e178_0, e178_1, e178_2, e178_3, e178_4, e178_7, e178_8, e178_11, e178_16, e178_17, e178_20, e178_21, e178_22, e178_23, implies_true, Int.reduceSub, Option.isNone_some, Option.isNone_none, ab_bh_some, ab_bh_thr, ab_gs_3, ab_gl_2, ab_gl_3, ab_gt_some, ab_gc_0, ab_gk_0, Bool.false_eq_true, Bool.true_eq_false, false_implies, Nat.reduceEqDiff, ab_ge, ab_lt, ab_le, ab_gt, ab_eq, ab_ne, decide_eq_true_eq, ab_w_id, ab_w0, ab_gd_some, ab_gs_0, ab_gs_1, ab_gl_0, ab_gl_1, ab_bv_some, ab_bu_some, ab_bv_thr, ab_bu_thr, ab_fx_n, ab_fx_i, ab_fx_q, ab_fx_l, ab_sh_si, ab_gr_si, ab_gl_si, cs_n, ↓reduceIte, true_or, or_true, false_or, or_false, and_true, true_and, and_false, false_and, not_true_eq_false, not_false_eq_true, eq_self, Int.reduceEq, Int.reduceLT, Int.reduceLE, Int.reduceAdd, Int.reduceMul, Int.reduceNeg, if_pos, if_neg, hL.1, a, s30]
    · refine oP_thr L (k := 2) ?_ (by omega) (by omega) (n147_2 (B := B) (dd := dd + 15) i mc c1.1 c1.2 rt1 rt2 c2) (by omega) (by omega)
      have ec := m76_1 (B := B) (dd := dd + 15) i c1.1 c1.2 rt1 rt2 c2
      simp (disch := omega) only [e178_0, e178_1, e178_2, e178_3, e178_4, e178_7, e178_8, e178_11, e178_16, e178_17, e178_20, e178_21, e178_22, e178_23, implies_true, Int.reduceSub, Option.isNone_some, Option.isNone_none, ab_bh_some, ab_bh_thr, ab_gs_3, ab_gl_2, ab_gl_3, ab_gt_some, ab_gc_0, ab_gk_0, Bool.false_eq_true, Bool.true_eq_false, false_implies, Nat.reduceEqDiff, ab_ge, ab_lt, ab_le, ab_gt, ab_eq, ab_ne, decide_eq_true_eq, ab_w_id, ab_w0, ab_gd_some, ab_gs_0, ab_gs_1, ab_gl_0, ab_gl_1, ab_bv_some, ab_bu_some, ab_bv_thr, ab_bu_thr, ab_fx_n, ab_fx_i, ab_fx_q, ab_fx_l, ab_sh_si, ab_gr_si, ab_gl_si, cs_n, ↓reduceIte, true_or, or_true, false_or, or_false, and_true, true_and, and_false, false_and, not_true_eq_false, not_false_eq_true, eq_self, Int.reduceEq, Int.reduceLT, Int.reduceLE, Int.reduceAdd, Int.reduceMul, Int.reduceNeg, if_pos, if_neg, hL.1, ec]
  · refine oP_thr L (k := 1) ?_ (by omega) (by omega) (n147_1 (B := B) (dd := dd + 15) i mc rp1 rp2 c1) (by omega) (by omega)
    have ec := m76_2 (B := B) (dd := dd + 15) (w := t) i rp1 rp2 c1
    simp (disch := omega) only [e178_0, e178_1, e178_2, e178_3, e178_4, e178_7, e178_8, e178_11, e178_16, e178_17, e178_20, e178_21, e178_22, e178_23, implies_true, Int.reduceSub, Option.isNone_some, Option.isNone_none, ab_bh_some, ab_bh_thr, ab_gs_3, ab_gl_2, ab_gl_3, ab_gt_some, ab_gc_0, ab_gk_0, Bool.false_eq_true, Bool.true_eq_false, false_implies, Nat.reduceEqDiff, ab_ge, ab_lt, ab_le, ab_gt, ab_eq, ab_ne, decide_eq_true_eq, ab_w_id, ab_w0, ab_gd_some, ab_gs_0, ab_gs_1, ab_gl_0, ab_gl_1, ab_bv_some, ab_bu_some, ab_bv_thr, ab_bu_thr, ab_fx_n, ab_fx_i, ab_fx_q, ab_fx_l, ab_sh_si, ab_gr_si, ab_gl_si, cs_n, ↓reduceIte, true_or, or_true, false_or, or_false, and_true, true_and, and_false, false_and, not_true_eq_false, not_false_eq_true, eq_self, Int.reduceEq, Int.reduceLT, Int.reduceLE, Int.reduceAdd, Int.reduceMul, Int.reduceNeg, if_pos, if_neg, hL.1, ec]
theorem op_ofBlock {dd : Nat} {p t : Int} {h : ab_H} {b : Nat} (L : li h b) (rp1 : -2147483648 ≤ p) (rp2 : p < 2147483648) (rt1 : -2147483648 ≤ t) (rt2 : t < 2147483648) : oP B (dd + 17) 179 149 [some (.inr (.inr (.inl (some 0)))), some (.inl p), some (.inl t), some (.inr (.inr (.inl (some 30)))), none] [some (.inr (.inr (.inl (some 18)))), some (.inl p), some (.inl t)] h := by
  have i := L.1
  have m := L.2.1
  have hL := i.1.1
  have hDS := i.1.2.1
  have mc := mm_cost (c := 1) (s := 6) m
  have s30 := L.2.2
  have hN := L.N
  by_cases c1 : 0 ≤ p ∧ p < cs_B h
  · by_cases c2 : 0 ≤ t ∧ t < 4
    · have a := m77 (B := B) (dd := dd + 11) i c1.1 c1.2 c2.1 c2.2
      have m1 := mm_cls (x := (Int32.ofInt (cs_vb h p t)).toInt64) (hc := h) m rfl (fun c x hc => rfl)
      refine oP_ok L i rfl ?_ (fun _ _ _ => rfl) (n149 (B := B) (dd := dd + 12) i m1 c1.1 c1.2 c2.1 c2.2) (by omega) (by omega)
      simp (disch := omega) only [e179_0, e179_1, e179_2, e179_3, e179_4, e179_7, e179_8, e179_11, e179_16, e179_17, e179_20, e179_21, e179_22, e179_23, implies_true, Int.reduceSub, Option.isNone_some, Option.isNone_none, ab_bh_some, ab_bh_thr, ab_gs_3, ab_gl_2, ab_gl_3, ab_gt_some, ab_gc_0, ab_gk_0, Bool.false_eq_true, Bool.true_eq_false, false_implies, Nat.reduceEqDiff, ab_ge, ab_lt, ab_le, ab_gt, ab_eq, ab_ne, decide_eq_true_eq, ab_w_id, ab_w0, ab_gd_some, ab_gs_0, ab_gs_1, ab_gl_0, ab_gl_1, ab_bv_some, ab_bu_some, ab_bv_thr, ab_bu_thr, ab_fx_n, ab_fx_i, ab_fx_q, ab_fx_l, ab_sh_si, ab_gr_si, ab_gl_si, cs_n, ↓reduceIte, true_or, or_true, false_or, or_false, and_true, true_and, and_false, false_and, not_true_eq_false, not_false_eq_true, eq_self, Int.reduceEq, Int.reduceLT, Int.reduceLE, Int.reduceAdd, Int.reduceMul, Int.reduceNeg, if_pos, if_neg, hL.1, a, s30]
    · refine oP_thr L (k := 2) ?_ (by omega) (by omega) (n149_2 (B := B) (dd := dd + 15) i mc c1.1 c1.2 rt1 rt2 c2) (by omega) (by omega)
      have ec := m77_1 (B := B) (dd := dd + 14) i c1.1 c1.2 rt1 rt2 c2
      simp (disch := omega) only [e179_0, e179_1, e179_2, e179_3, e179_4, e179_7, e179_8, e179_11, e179_16, e179_17, e179_20, e179_21, e179_22, e179_23, implies_true, Int.reduceSub, Option.isNone_some, Option.isNone_none, ab_bh_some, ab_bh_thr, ab_gs_3, ab_gl_2, ab_gl_3, ab_gt_some, ab_gc_0, ab_gk_0, Bool.false_eq_true, Bool.true_eq_false, false_implies, Nat.reduceEqDiff, ab_ge, ab_lt, ab_le, ab_gt, ab_eq, ab_ne, decide_eq_true_eq, ab_w_id, ab_w0, ab_gd_some, ab_gs_0, ab_gs_1, ab_gl_0, ab_gl_1, ab_bv_some, ab_bu_some, ab_bv_thr, ab_bu_thr, ab_fx_n, ab_fx_i, ab_fx_q, ab_fx_l, ab_sh_si, ab_gr_si, ab_gl_si, cs_n, ↓reduceIte, true_or, or_true, false_or, or_false, and_true, true_and, and_false, false_and, not_true_eq_false, not_false_eq_true, eq_self, Int.reduceEq, Int.reduceLT, Int.reduceLE, Int.reduceAdd, Int.reduceMul, Int.reduceNeg, if_pos, if_neg, hL.1, ec]
  · refine oP_thr L (k := 1) ?_ (by omega) (by omega) (n149_1 (B := B) (dd := dd + 15) i mc rp1 rp2 c1) (by omega) (by omega)
    have ec := m77_2 (B := B) (dd := dd + 14) (w := t) i rp1 rp2 c1
    simp (disch := omega) only [e179_0, e179_1, e179_2, e179_3, e179_4, e179_7, e179_8, e179_11, e179_16, e179_17, e179_20, e179_21, e179_22, e179_23, implies_true, Int.reduceSub, Option.isNone_some, Option.isNone_none, ab_bh_some, ab_bh_thr, ab_gs_3, ab_gl_2, ab_gl_3, ab_gt_some, ab_gc_0, ab_gk_0, Bool.false_eq_true, Bool.true_eq_false, false_implies, Nat.reduceEqDiff, ab_ge, ab_lt, ab_le, ab_gt, ab_eq, ab_ne, decide_eq_true_eq, ab_w_id, ab_w0, ab_gd_some, ab_gs_0, ab_gs_1, ab_gl_0, ab_gl_1, ab_bv_some, ab_bu_some, ab_bv_thr, ab_bu_thr, ab_fx_n, ab_fx_i, ab_fx_q, ab_fx_l, ab_sh_si, ab_gr_si, ab_gl_si, cs_n, ↓reduceIte, true_or, or_true, false_or, or_false, and_true, true_and, and_false, false_and, not_true_eq_false, not_false_eq_true, eq_self, Int.reduceEq, Int.reduceLT, Int.reduceLE, Int.reduceAdd, Int.reduceMul, Int.reduceNeg, if_pos, if_neg, hL.1, ec]
theorem op_note {dd : Nat} {t : Int} {h : ab_H} {b : Nat} (L : li h b) (rt1 : -2147483648 ≤ t) (rt2 : t < 2147483648) : oP B (dd + 17) 180 151 [some (.inr (.inr (.inl (some 0)))), some (.inl t), some (.inr (.inr (.inl (some 30)))), none] [some (.inr (.inr (.inl (some 18)))), some (.inl t)] h := by
  have i := L.1
  have m := L.2.1
  have hL := i.1.1
  have hDS := i.1.2.1
  have mc := mm_cost (c := 1) (s := 6) m
  have s30 := L.2.2
  have hN := L.N
  by_cases c2 : 0 ≤ t ∧ t < 3
  · have a := m78 (B := B) (dd := dd + 16) (h := h) hL c2.1 c2.2
    have m1 := mm_cls (x := (Int32.ofInt (cs_vn h t)).toInt64) (hc := h) m rfl (fun c x hc => rfl)
    refine oP_ok L i rfl ?_ (fun _ _ _ => rfl) (n151 (B := B) (dd := dd + 15) m1 c2.1 c2.2) (by omega) (by omega)
    simp (disch := omega) only [e180_0, e180_1, e180_2, e180_3, e180_6, e180_7, e180_10, e180_14, e180_15, e180_16, e180_17, implies_true, Int.reduceSub, Option.isNone_some, Option.isNone_none, ab_bh_some, ab_bh_thr, ab_gs_3, ab_gl_2, ab_gl_3, ab_gt_some, ab_gc_0, ab_gk_0, Bool.false_eq_true, Bool.true_eq_false, false_implies, Nat.reduceEqDiff, ab_ge, ab_lt, ab_le, ab_gt, ab_eq, ab_ne, decide_eq_true_eq, ab_w_id, ab_w0, ab_gd_some, ab_gs_0, ab_gs_1, ab_gl_0, ab_gl_1, ab_bv_some, ab_bu_some, ab_bv_thr, ab_bu_thr, ab_fx_n, ab_fx_i, ab_fx_q, ab_fx_l, ab_sh_si, ab_gr_si, ab_gl_si, cs_n, ↓reduceIte, true_or, or_true, false_or, or_false, and_true, true_and, and_false, false_and, not_true_eq_false, not_false_eq_true, eq_self, Int.reduceEq, Int.reduceLT, Int.reduceLE, Int.reduceAdd, Int.reduceMul, Int.reduceNeg, if_pos, if_neg, hL.1, a, s30]
  · refine oP_thr L (k := 1) ?_ (by omega) (by omega) (n151_1 (B := B) (dd := dd + 15) mc rt1 rt2 c2) (by omega) (by omega)
    have ec := m78_1 (B := B) (dd := dd + 16) (h := h) rt1 rt2 c2
    simp (disch := omega) only [e180_0, e180_1, e180_2, e180_3, e180_6, e180_7, e180_10, e180_14, e180_15, e180_16, e180_17, implies_true, Int.reduceSub, Option.isNone_some, Option.isNone_none, ab_bh_some, ab_bh_thr, ab_gs_3, ab_gl_2, ab_gl_3, ab_gt_some, ab_gc_0, ab_gk_0, Bool.false_eq_true, Bool.true_eq_false, false_implies, Nat.reduceEqDiff, ab_ge, ab_lt, ab_le, ab_gt, ab_eq, ab_ne, decide_eq_true_eq, ab_w_id, ab_w0, ab_gd_some, ab_gs_0, ab_gs_1, ab_gl_0, ab_gl_1, ab_bv_some, ab_bu_some, ab_bv_thr, ab_bu_thr, ab_fx_n, ab_fx_i, ab_fx_q, ab_fx_l, ab_sh_si, ab_gr_si, ab_gl_si, cs_n, ↓reduceIte, true_or, or_true, false_or, or_false, and_true, true_and, and_false, false_and, not_true_eq_false, not_false_eq_true, eq_self, Int.reduceEq, Int.reduceLT, Int.reduceLE, Int.reduceAdd, Int.reduceMul, Int.reduceNeg, if_pos, if_neg, hL.1, ec]
theorem op_house {dd : Nat} {t : Int} {h : ab_H} {b : Nat} (L : li h b) (rt1 : -2147483648 ≤ t) (rt2 : t < 2147483648) : oP B (dd + 17) 181 153 [some (.inr (.inr (.inl (some 0)))), some (.inl t), some (.inr (.inr (.inl (some 30)))), none] [some (.inr (.inr (.inl (some 18)))), some (.inl t)] h := by
  have i := L.1
  have m := L.2.1
  have hL := i.1.1
  have hDS := i.1.2.1
  have mc := mm_cost (c := 1) (s := 6) m
  have s30 := L.2.2
  have hN := L.N
  by_cases c2 : 0 ≤ t ∧ t < 17
  · have a := m79 (B := B) (dd := dd + 11) i c2.1 c2.2
    rw [← mvh_eq i.1] at a
    have m1 := mm_cls (x := (Int32.ofInt (mvh h t)).toInt64) (hc := h) m rfl (fun c x hc => rfl)
    refine oP_ok L i rfl ?_ (fun _ _ _ => rfl) (n153 (B := B) (dd := dd + 7) i m1 hN c2.1 c2.2) (by omega) (by omega)
    simp (disch := omega) only [e181_0, e181_1, e181_2, e181_3, e181_6, e181_7, e181_10, e181_14, e181_15, e181_16, e181_17, implies_true, Int.reduceSub, Option.isNone_some, Option.isNone_none, ab_bh_some, ab_bh_thr, ab_gs_3, ab_gl_2, ab_gl_3, ab_gt_some, ab_gc_0, ab_gk_0, Bool.false_eq_true, Bool.true_eq_false, false_implies, Nat.reduceEqDiff, ab_ge, ab_lt, ab_le, ab_gt, ab_eq, ab_ne, decide_eq_true_eq, ab_w_id, ab_w0, ab_gd_some, ab_gs_0, ab_gs_1, ab_gl_0, ab_gl_1, ab_bv_some, ab_bu_some, ab_bv_thr, ab_bu_thr, ab_fx_n, ab_fx_i, ab_fx_q, ab_fx_l, ab_sh_si, ab_gr_si, ab_gl_si, cs_n, ↓reduceIte, true_or, or_true, false_or, or_false, and_true, true_and, and_false, false_and, not_true_eq_false, not_false_eq_true, eq_self, Int.reduceEq, Int.reduceLT, Int.reduceLE, Int.reduceAdd, Int.reduceMul, Int.reduceNeg, if_pos, if_neg, hL.1, a, s30]
  · refine oP_thr L (k := 1) ?_ (by omega) (by omega) (n153_1 (B := B) (dd := dd + 15) mc rt1 rt2 c2) (by omega) (by omega)
    have ec := m79_1 (B := B) (dd := dd + 16) (h := h) rt1 rt2 c2
    simp (disch := omega) only [e181_0, e181_1, e181_2, e181_3, e181_6, e181_7, e181_10, e181_14, e181_15, e181_16, e181_17, implies_true, Int.reduceSub, Option.isNone_some, Option.isNone_none, ab_bh_some, ab_bh_thr, ab_gs_3, ab_gl_2, ab_gl_3, ab_gt_some, ab_gc_0, ab_gk_0, Bool.false_eq_true, Bool.true_eq_false, false_implies, Nat.reduceEqDiff, ab_ge, ab_lt, ab_le, ab_gt, ab_eq, ab_ne, decide_eq_true_eq, ab_w_id, ab_w0, ab_gd_some, ab_gs_0, ab_gs_1, ab_gl_0, ab_gl_1, ab_bv_some, ab_bu_some, ab_bv_thr, ab_bu_thr, ab_fx_n, ab_fx_i, ab_fx_q, ab_fx_l, ab_sh_si, ab_gr_si, ab_gl_si, cs_n, ↓reduceIte, true_or, or_true, false_or, or_false, and_true, true_and, and_false, false_and, not_true_eq_false, not_false_eq_true, eq_self, Int.reduceEq, Int.reduceLT, Int.reduceLE, Int.reduceAdd, Int.reduceMul, Int.reduceNeg, if_pos, if_neg, hL.1, ec]
theorem op_draw {dd : Nat} {t : Int} {h : ab_H} {b : Nat} (L : li h b) (rt1 : -2147483648 ≤ t) (rt2 : t < 2147483648) : oP B (dd + 17) 183 156 [some (.inr (.inr (.inl (some 0)))), some (.inl t), some (.inr (.inr (.inl (some 30)))), none] [some (.inr (.inr (.inl (some 18)))), some (.inl t)] h := by
  have i := L.1
  have m := L.2.1
  have hL := i.1.1
  have hDS := i.1.2.1
  have mc := mm_cost (c := 1) (s := 6) m
  have s30 := L.2.2
  have hN := L.N
  by_cases c2 : 0 ≤ t ∧ t ≤ 999
  · have a := m81 (B := B) (dd := dd + 11) i c2.1 c2.2
    have m1 := mm_cls (x := (Int32.ofInt (pk_t (ck_K h) (ab_gi h 1 0) (pk_plan (ck_K h) (ab_gi h 1 0)) t)).toInt64) (hc := h) m rfl (fun c x hc => rfl)
    refine oP_ok L i rfl ?_ (fun _ _ _ => rfl) (n156 (B := B) (dd := dd + 7) i m1 c2.1 c2.2) (by omega) (by omega)
    simp (disch := omega) only [e183_0, e183_1, e183_2, e183_3, e183_6, e183_7, e183_10, e183_14, e183_15, e183_16, e183_17, implies_true, Int.reduceSub, Option.isNone_some, Option.isNone_none, ab_bh_some, ab_bh_thr, ab_gs_3, ab_gl_2, ab_gl_3, ab_gt_some, ab_gc_0, ab_gk_0, Bool.false_eq_true, Bool.true_eq_false, false_implies, Nat.reduceEqDiff, ab_ge, ab_lt, ab_le, ab_gt, ab_eq, ab_ne, decide_eq_true_eq, ab_w_id, ab_w0, ab_gd_some, ab_gs_0, ab_gs_1, ab_gl_0, ab_gl_1, ab_bv_some, ab_bu_some, ab_bv_thr, ab_bu_thr, ab_fx_n, ab_fx_i, ab_fx_q, ab_fx_l, ab_sh_si, ab_gr_si, ab_gl_si, cs_n, ↓reduceIte, true_or, or_true, false_or, or_false, and_true, true_and, and_false, false_and, not_true_eq_false, not_false_eq_true, eq_self, Int.reduceEq, Int.reduceLT, Int.reduceLE, Int.reduceAdd, Int.reduceMul, Int.reduceNeg, if_pos, if_neg, hL.1, a, s30]
  · refine oP_thr L (k := 1) ?_ (by omega) (by omega) (n156_1 (B := B) (dd := dd + 15) mc rt1 rt2 c2) (by omega) (by omega)
    have ec := m81_1 (B := B) (dd := dd + 16) (h := h) rt1 rt2 c2
    simp (disch := omega) only [e183_0, e183_1, e183_2, e183_3, e183_6, e183_7, e183_10, e183_14, e183_15, e183_16, e183_17, implies_true, Int.reduceSub, Option.isNone_some, Option.isNone_none, ab_bh_some, ab_bh_thr, ab_gs_3, ab_gl_2, ab_gl_3, ab_gt_some, ab_gc_0, ab_gk_0, Bool.false_eq_true, Bool.true_eq_false, false_implies, Nat.reduceEqDiff, ab_ge, ab_lt, ab_le, ab_gt, ab_eq, ab_ne, decide_eq_true_eq, ab_w_id, ab_w0, ab_gd_some, ab_gs_0, ab_gs_1, ab_gl_0, ab_gl_1, ab_bv_some, ab_bu_some, ab_bv_thr, ab_bu_thr, ab_fx_n, ab_fx_i, ab_fx_q, ab_fx_l, ab_sh_si, ab_gr_si, ab_gl_si, cs_n, ↓reduceIte, true_or, or_true, false_or, or_false, and_true, true_and, and_false, false_and, not_true_eq_false, not_false_eq_true, eq_self, Int.reduceEq, Int.reduceLT, Int.reduceLE, Int.reduceAdd, Int.reduceMul, Int.reduceNeg, if_pos, if_neg, hL.1, ec]
theorem op_wouldBoot {dd : Nat} {p : Int} {h : ab_H} {b : Nat} (L : li h b) (rp1 : -2147483648 ≤ p) (rp2 : p < 2147483648) : oP B (dd + 17) 184 157 [some (.inr (.inr (.inl (some 0)))), some (.inl p), some (.inr (.inr (.inl (some 30)))), none] [some (.inr (.inr (.inl (some 18)))), some (.inl p)] h := by
  have i := L.1
  have m := L.2.1
  have hL := i.1.1
  have hDS := i.1.2.1
  have mc := mm_cost (c := 1) (s := 6) m
  have s30 := L.2.2
  have hN := L.N
  by_cases c1 : 0 ≤ p ∧ p ≤ 20
  · by_cases c2 : ab_gi h 1 0 = 0
    · refine oP_thr L (k := 2) ?_ (by omega) (by omega) (n157_2 (B := B) (dd := dd + 15) mc c1.1 c1.2 c2) (by omega) (by omega)
      have ec := m82_3 (B := B) (dd := dd + 16) i c1.1 c1.2 c2
      simp (disch := omega) only [e184_0, e184_1, e184_2, e184_3, e184_6, e184_7, e184_10, e184_14, e184_15, e184_17, e184_18, e184_19, e184_20, implies_true, Int.reduceSub, Option.isNone_some, Option.isNone_none, ab_bh_some, ab_bh_thr, ab_gs_3, ab_gl_2, ab_gl_3, ab_gt_some, ab_gc_0, ab_gk_0, Bool.false_eq_true, Bool.true_eq_false, false_implies, Nat.reduceEqDiff, ab_ge, ab_lt, ab_le, ab_gt, ab_eq, ab_ne, decide_eq_true_eq, ab_w_id, ab_w0, ab_gd_some, ab_gs_0, ab_gs_1, ab_gl_0, ab_gl_1, ab_bv_some, ab_bu_some, ab_bv_thr, ab_bu_thr, ab_fx_n, ab_fx_i, ab_fx_q, ab_fx_l, ab_sh_si, ab_gr_si, ab_gl_si, cs_n, ↓reduceIte, true_or, or_true, false_or, or_false, and_true, true_and, and_false, false_and, not_true_eq_false, not_false_eq_true, eq_self, Int.reduceEq, Int.reduceLT, Int.reduceLE, Int.reduceAdd, Int.reduceMul, Int.reduceNeg, if_pos, if_neg, hL.1, ec]
    · obtain ⟨hc, a, ic, A, eK⟩ := m82 (B := B) (dd := dd + 12) i c1.1 c1.2 c2
      have es : ab_sh hc = ab_sh h := by unfold ab_sh; rw [A.1]
      have m1 := mm_cls (x := (Int32.ofInt (pk_gap (ck_K h) (ab_gi h 1 0) p)).toInt64) m A.1 (fun c x hc => A.2 c x (by omega))
      refine oP_ok L ic A.1 ?_ (fun c x hc => A.2 c x (by omega)) (n157 (B := B) (dd := dd + 13) i m1 c2 c1.1 c1.2) (by omega) (by omega)
      simp (disch := omega) only [e184_0, e184_1, e184_2, e184_3, e184_6, e184_7, e184_10, e184_14, e184_15, e184_17, e184_18, e184_19, e184_20, implies_true, Int.reduceSub, Option.isNone_some, Option.isNone_none, ab_bh_some, ab_bh_thr, ab_gs_3, ab_gl_2, ab_gl_3, ab_gt_some, ab_gc_0, ab_gk_0, Bool.false_eq_true, Bool.true_eq_false, false_implies, Nat.reduceEqDiff, ab_ge, ab_lt, ab_le, ab_gt, ab_eq, ab_ne, decide_eq_true_eq, ab_w_id, ab_w0, ab_gd_some, ab_gs_0, ab_gs_1, ab_gl_0, ab_gl_1, ab_bv_some, ab_bu_some, ab_bv_thr, ab_bu_thr, ab_fx_n, ab_fx_i, ab_fx_q, ab_fx_l, ab_sh_si, ab_gr_si, ab_gl_si, cs_n, ↓reduceIte, true_or, or_true, false_or, or_false, and_true, true_and, and_false, false_and, not_true_eq_false, not_false_eq_true, eq_self, Int.reduceEq, Int.reduceLT, Int.reduceLE, Int.reduceAdd, Int.reduceMul, Int.reduceNeg, if_pos, if_neg, hL.1, a, es, s30]
  · refine oP_thr L (k := 1) ?_ (by omega) (by omega) (n157_1 (B := B) (dd := dd + 15) mc rp1 rp2 c1) (by omega) (by omega)
    have ec := m82_1 (B := B) (dd := dd + 16) (h := h) rp1 rp2 c1
    simp (disch := omega) only [e184_0, e184_1, e184_2, e184_3, e184_6, e184_7, e184_10, e184_14, e184_15, e184_17, e184_18, e184_19, e184_20, implies_true, Int.reduceSub, Option.isNone_some, Option.isNone_none, ab_bh_some, ab_bh_thr, ab_gs_3, ab_gl_2, ab_gl_3, ab_gt_some, ab_gc_0, ab_gk_0, Bool.false_eq_true, Bool.true_eq_false, false_implies, Nat.reduceEqDiff, ab_ge, ab_lt, ab_le, ab_gt, ab_eq, ab_ne, decide_eq_true_eq, ab_w_id, ab_w0, ab_gd_some, ab_gs_0, ab_gs_1, ab_gl_0, ab_gl_1, ab_bv_some, ab_bu_some, ab_bv_thr, ab_bu_thr, ab_fx_n, ab_fx_i, ab_fx_q, ab_fx_l, ab_sh_si, ab_gr_si, ab_gl_si, cs_n, ↓reduceIte, true_or, or_true, false_or, or_false, and_true, true_and, and_false, false_and, not_true_eq_false, not_false_eq_true, eq_self, Int.reduceEq, Int.reduceLT, Int.reduceLE, Int.reduceAdd, Int.reduceMul, Int.reduceNeg, if_pos, if_neg, hL.1, ec]
theorem op_wouldLose {dd : Nat} {p q : Int} {h : ab_H} {b : Nat} (L : li h b) (rp1 : -2147483648 ≤ p) (rp2 : p < 2147483648) (rq1 : -2147483648 ≤ q) (rq2 : q < 2147483648) : oP B (dd + 17) 185 158 [some (.inr (.inr (.inl (some 0)))), some (.inl p), some (.inl q), some (.inr (.inr (.inl (some 30)))), none] [some (.inr (.inr (.inl (some 18)))), some (.inl p), some (.inl q), none, none, none] h := by
  have i := L.1
  have m := L.2.1
  have hL := i.1.1
  have hDS := i.1.2.1
  have mc := mm_cost (c := 1) (s := 6) m
  have s30 := L.2.2
  have hN := L.N
  by_cases c1 : (0 ≤ p ∧ p < ab_gi h 1 0) ∧ (0 ≤ q ∧ q < ab_gi h 1 0)
  · by_cases c2 : p = q
    · subst c2
      refine oP_thr L (k := 2) ?_ (by omega) (by omega) (n158_2 (B := B) (dd := dd + 15) i mc c1.1.1 c1.1.2) (by omega) (by omega)
      have ec := m83_1 (B := B) (dd := dd + 15) i c1.1.1 c1.1.2
      simp (disch := omega) only [e185_0, e185_1, e185_2, e185_3, e185_4, e185_7, e185_8, e185_11, e185_16, e185_17, e185_20, e185_21, e185_22, e185_23, implies_true, Int.reduceSub, Option.isNone_some, Option.isNone_none, ab_bh_some, ab_bh_thr, ab_gs_3, ab_gl_2, ab_gl_3, ab_gt_some, ab_gc_0, ab_gk_0, Bool.false_eq_true, Bool.true_eq_false, false_implies, Nat.reduceEqDiff, ab_ge, ab_lt, ab_le, ab_gt, ab_eq, ab_ne, decide_eq_true_eq, ab_w_id, ab_w0, ab_gd_some, ab_gs_0, ab_gs_1, ab_gl_0, ab_gl_1, ab_bv_some, ab_bu_some, ab_bv_thr, ab_bu_thr, ab_fx_n, ab_fx_i, ab_fx_q, ab_fx_l, ab_sh_si, ab_gr_si, ab_gl_si, cs_n, ↓reduceIte, true_or, or_true, false_or, or_false, and_true, true_and, and_false, false_and, not_true_eq_false, not_false_eq_true, eq_self, Int.reduceEq, Int.reduceLT, Int.reduceLE, Int.reduceAdd, Int.reduceMul, Int.reduceNeg, if_pos, if_neg, hL.1, ec]
    · have a := m83 (B := B) (dd := dd + 11) i c1.1.1 c1.1.2 c1.2.1 c1.2.2 c2
      have hR2 : cs_R (ab_si (ab_si h 5 p 1) 5 q 1) := cs_R_si5 (cs_R_si5 i.1 (Or.inr rfl)) (Or.inr rfl)
      rw [← cs_lost_2 (g := h) (a := p) (b := q), ← cs_lost_m hR2] at a
      have m1 := mm_cls (x := (Int32.ofInt (mlost (ab_si (ab_si h 5 p 1) 5 q 1))).toInt64) (hc := h) m rfl (fun c x hc => rfl)
      refine oP_ok L i rfl ?_ (fun _ _ _ => rfl) (n158 (B := B) (dd := dd + 12) i m1 c1.1.1 c1.1.2 c1.2.1 c1.2.2 c2) (by omega) (by omega)
      simp (disch := omega) only [e185_0, e185_1, e185_2, e185_3, e185_4, e185_7, e185_8, e185_11, e185_16, e185_17, e185_20, e185_21, e185_22, e185_23, implies_true, Int.reduceSub, Option.isNone_some, Option.isNone_none, ab_bh_some, ab_bh_thr, ab_gs_3, ab_gl_2, ab_gl_3, ab_gt_some, ab_gc_0, ab_gk_0, Bool.false_eq_true, Bool.true_eq_false, false_implies, Nat.reduceEqDiff, ab_ge, ab_lt, ab_le, ab_gt, ab_eq, ab_ne, decide_eq_true_eq, ab_w_id, ab_w0, ab_gd_some, ab_gs_0, ab_gs_1, ab_gl_0, ab_gl_1, ab_bv_some, ab_bu_some, ab_bv_thr, ab_bu_thr, ab_fx_n, ab_fx_i, ab_fx_q, ab_fx_l, ab_sh_si, ab_gr_si, ab_gl_si, cs_n, ↓reduceIte, true_or, or_true, false_or, or_false, and_true, true_and, and_false, false_and, not_true_eq_false, not_false_eq_true, eq_self, Int.reduceEq, Int.reduceLT, Int.reduceLE, Int.reduceAdd, Int.reduceMul, Int.reduceNeg, if_pos, if_neg, hL.1, a, s30]
  · refine oP_thr L (k := 1) ?_ (by omega) (by omega) (n158_1 (B := B) (dd := dd + 15) i mc rp1 rp2 rq1 rq2 c1) (by omega) (by omega)
    have ec := m83_2 (B := B) (dd := dd + 15) i rp1 rp2 rq1 rq2 c1
    simp (disch := omega) only [e185_0, e185_1, e185_2, e185_3, e185_4, e185_7, e185_8, e185_11, e185_16, e185_17, e185_20, e185_21, e185_22, e185_23, implies_true, Int.reduceSub, Option.isNone_some, Option.isNone_none, ab_bh_some, ab_bh_thr, ab_gs_3, ab_gl_2, ab_gl_3, ab_gt_some, ab_gc_0, ab_gk_0, Bool.false_eq_true, Bool.true_eq_false, false_implies, Nat.reduceEqDiff, ab_ge, ab_lt, ab_le, ab_gt, ab_eq, ab_ne, decide_eq_true_eq, ab_w_id, ab_w0, ab_gd_some, ab_gs_0, ab_gs_1, ab_gl_0, ab_gl_1, ab_bv_some, ab_bu_some, ab_bv_thr, ab_bu_thr, ab_fx_n, ab_fx_i, ab_fx_q, ab_fx_l, ab_sh_si, ab_gr_si, ab_gl_si, cs_n, ↓reduceIte, true_or, or_true, false_or, or_false, and_true, true_and, and_false, false_and, not_true_eq_false, not_false_eq_true, eq_self, Int.reduceEq, Int.reduceLT, Int.reduceLE, Int.reduceAdd, Int.reduceMul, Int.reduceNeg, if_pos, if_neg, hL.1, ec]
end
