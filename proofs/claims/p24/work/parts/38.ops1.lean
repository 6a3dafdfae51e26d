set_option linter.all false
/-! THE CLASS'S DEEDS: what they stand on -/
section
variable {B : ab_B}
/-- the numbers that hold -/
def cs_Q (h : ab_H) (D S : Int) : Prop := cs_R h ∧ ab_gi h 1 0 = D ∧ ab_gi h 1 1 = S ∧ 3 ≤ D ∧ D ≤ 5 ∧ 1 ≤ S ∧ S ≤ 8
theorem cs_blk {D S b : Int} (hD : 3 ≤ D) (hD5 : D ≤ 5) (hS8 : S ≤ 8) (h1 : 0 ≤ b) (h2 : b < (D - 1) * S) : b < 32 ∧ 0 ≤ b / (D - 1) ∧ b / (D - 1) < S ∧ 0 ≤ cs_dk D b ∧ cs_dk D b < D ∧ cs_dk D b ≠ b / (D - 1) % D := by
  have k := cs_dk_rng hD h1
  have q0 : 0 ≤ b / (D - 1) := Int.ediv_nonneg h1 (by omega)
  have q1 : b / (D - 1) < S := Int.ediv_lt_of_lt_mul (by omega) (by rw [Int.mul_comm]; exact h2)
  have q2 : b < 32 := by
    have hc : D = 3 ∨ D = 4 ∨ D = 5 := by omega
    rcases hc with c | c | c <;> subst c <;> omega
  refine ⟨q2, q0, q1, k.1, k.2, ?_⟩
  unfold cs_dk
  split <;> omega
theorem cs_B_eq {h : ab_H} {D S : Int} (q : cs_Q h D S) : cs_B h = (D - 1) * S := by
  obtain ⟨hR, eD, eS, D1, -⟩ := q
  unfold cs_B
  rw [if_pos (by omega), eD, eS]
theorem cs_BS {D S : Int} (hD : 3 ≤ D) (hD5 : D ≤ 5) (hS : 1 ≤ S) (hS8 : S ≤ 8) : 0 < (D - 1) * S ∧ (D - 1) * S ≤ 32 := by
  have hc : D = 3 ∨ D = 4 ∨ D = 5 := by omega
  rcases hc with c | c | c <;> subst c <;> omega
/-- a note is kept -/
def cs_kn (h : ab_H) (D b v : Int) : ab_H := ab_si (ab_si (ab_si (ab_si (ab_si h 0 3 b) 0 4 v) 0 5 (ab_ixor (ab_ixor (cs_sh h (b / (D - 1) % D) (b / (D - 1))) (cs_sh h (cs_dk D b) (b / (D - 1)))) v)) 4 (cs_dk D b * 8 + b / (D - 1)) v) 0 8 (ab_gi h 0 8 + 1)
theorem m89 {dd : Nat} {h : ab_H} {D S b v : Int} (q : cs_Q h D S) (h1 : 0 ≤ b) (h2 : b < (D - 1) * S) :
    ab_E B (dd + 4) 89 0 [some (.inr (.inr (.inl (some 0)))), some (.inl b), some (.inl v), none, none, none] [] h = some (.inl none, cs_kn h D b v) := by
  obtain ⟨hR, eD, eS, D1, D2, S1, S2⟩ := q
  obtain ⟨b1, b2, b3, b4, b5, b6⟩ := cs_blk D1 D2 S2 h1 h2
  have hL := hR.1
  have sd1 : 0 ≤ b / (D - 1) % D := Int.emod_nonneg _ (by omega)
  have sd2 : b / (D - 1) % D < D := Int.emod_lt_of_pos _ (by omega)
  have e6 : ∀ d9, ab_E B d9 6 0 [some (.inr (.inr (.inl (some 1)))), some (.inl b)] [] h = some (.inl (some (.inl (b / (D - 1)))), h) := fun d9 => by rw [m6 hR (by omega) h1 b1, eD]
  have e9 : ∀ d9, ab_E B d9 9 0 [some (.inr (.inr (.inl (some 1)))), some (.inl (b / (D - 1)))] [] h = some (.inl (some (.inl (b / (D - 1) % D))), h) := fun d9 => by rw [m9 hR (by omega) b2 (by omega), eD]
  have e7 : ∀ d9, ab_E B (d9 + 1) 7 0 [some (.inr (.inr (.inl (some 1)))), some (.inl b), none] [] h = some (.inl (some (.inl (cs_dk D b))), h) := fun d9 => by rw [m7 hR (by omega) h1 b1, eD]
  have e24 : ∀ d9 d, 0 ≤ d → d < D → ab_E B (d9 + 3) 24 0 [some (.inr (.inr (.inl (some 1)))), some (.inl d), some (.inl (b / (D - 1)))] [] h = some (.inl (some (.inl (cs_sh h d (b / (D - 1))))), h) := fun d9 d d1 d2 => m24 hR d1 (by omega) b2 (by omega)
  have hR1 : ∀ x y z, cs_R (ab_si (ab_si (ab_si h 0 3 x) 0 4 y) 0 5 z) := fun x y z => cs_R_six (cs_R_six (cs_R_six hR (by decide) (by decide) (by decide) (by decide) (by decide)) (by decide) (by decide) (by decide) (by decide) (by decide)) (by decide) (by decide) (by decide) (by decide) (by decide)
  have e31 : ∀ d9 x y z, ab_E B (d9 + 2) 31 0 [some (.inr (.inr (.inl (some 1)))), some (.inl b), some (.inl v), none] [] (ab_si (ab_si (ab_si h 0 3 x) 0 4 y) 0 5 z) = some (.inl none, ab_si (ab_si (ab_si (ab_si h 0 3 x) 0 4 y) 0 5 z) 4 (cs_dk D b * 8 + b / (D - 1)) v) := fun d9 x y z => by
    have f0 : ab_gi (ab_si (ab_si (ab_si h 0 3 x) 0 4 y) 0 5 z) 1 0 = D := by simp [ab_gi_si]; exact eD
    have f1 : ab_gi (ab_si (ab_si (ab_si h 0 3 x) 0 4 y) 0 5 z) 1 1 = S := by simp [ab_gi_si]; exact eS
    rw [m31 (hR1 x y z) (by omega) h1 b1 (by rw [f0, f1]; exact b3), f0]
  have f8 : ∀ x y z u w, ab_gi (ab_si (ab_si (ab_si (ab_si h 0 3 x) 0 4 y) 0 5 z) 4 u w) 0 8 = ab_gi h 0 8 := fun x y z u w => by simp [ab_gi_si]
  unfold cs_kn
  simp (disch := omega) only [e89_0, e89_1, e89_4, e89_5, e89_8, e89_9, e89_10, e89_13, e89_14, e89_17, e89_18, e89_21, e89_22, e89_25, e89_27, e89_28, e89_31, e89_32, e89_35, e89_36, e89_39, e89_40, e89_43, e89_45, e89_46, e89_47, e89_50, e89_51, e89_52, e89_55, e89_56, e89_58, e89_60, e89_61, e89_62, e89_63, e89_66, e89_67, e89_70, e89_71, e89_72, e89_75, e89_76, e89_77, e89_80, e89_81, e89_82, e89_85, implies_true, Int.reduceSub, Option.isNone_some, Option.isNone_none, ab_bh_some, ab_bh_thr, ab_gs_3, ab_gl_2, ab_gl_3, ab_gt_some, ab_gc_0, ab_gk_0, Bool.false_eq_true, Bool.true_eq_false, false_implies, Nat.reduceEqDiff, ab_ge, ab_lt, ab_le, ab_gt, ab_eq, ab_ne, decide_eq_true_eq, ab_w_id, ab_w0, ab_gd_some, ab_gs_0, ab_gs_1, ab_gl_0, ab_gl_1, ab_bv_some, ab_bu_some, ab_bv_thr, ab_bu_thr, ab_fx_n, ab_fx_i, ab_fx_q, ab_fx_l, ab_sh_si, ab_gr_si, ab_gl_si, cs_n, ↓reduceIte, true_or, or_true, false_or, or_false, and_true, true_and, and_false, false_and, not_true_eq_false, not_false_eq_true, eq_self, Int.reduceEq, Int.reduceLT, Int.reduceLE, Int.reduceAdd, Int.reduceMul, Int.reduceNeg, if_pos, if_neg, hL.1, hL.2, e6, e9, e7, e24, e31, f8]
theorem m90 {dd : Nat} {h : ab_H} {D S : Int} (q : cs_Q h D S) (h1 : 0 ≤ ab_gi h 0 3) (h2 : ab_gi h 0 3 < (D - 1) * S) (v1 : 0 ≤ ab_gi h 0 4) (v2 : ab_gi h 0 4 ≤ 255) :
    ab_E B (dd + 2) 90 0 [some (.inr (.inr (.inl (some 0))))] [] h = some (.inl none, cs_lay h (cs_dk D (ab_gi h 0 3)) (ab_gi h 0 3 / (D - 1)) (ab_gi h 0 4)) := by
  obtain ⟨hR, eD, eS, D1, D2, S1, S2⟩ := q
  obtain ⟨b1, b2, b3, b4, b5, b6⟩ := cs_blk D1 D2 S2 h1 h2
  have hL := hR.1
  have e6 : ∀ d9, ab_E B d9 6 0 [some (.inr (.inr (.inl (some 1)))), some (.inl (ab_gi h 0 3))] [] h = some (.inl (some (.inl (ab_gi h 0 3 / (D - 1)))), h) := fun d9 => by rw [m6 hR (by omega) h1 b1, eD]
  have e7 : ∀ d9, ab_E B (d9 + 1) 7 0 [some (.inr (.inr (.inl (some 1)))), some (.inl (ab_gi h 0 3)), none] [] h = some (.inl (some (.inl (cs_dk D (ab_gi h 0 3)))), h) := fun d9 => by rw [m7 hR (by omega) h1 b1, eD]
  simp (disch := omega) only [e90_0, e90_1, e90_4, e90_5, e90_8, e90_9, e90_12, e90_15, e90_16, e90_19, e90_20, e90_23, e90_26, e90_27, e90_30, e90_33, implies_true, Int.reduceSub, Option.isNone_some, Option.isNone_none, ab_bh_some, ab_bh_thr, ab_gs_3, ab_gl_2, ab_gl_3, ab_gt_some, ab_gc_0, ab_gk_0, Bool.false_eq_true, Bool.true_eq_false, false_implies, Nat.reduceEqDiff, ab_ge, ab_lt, ab_le, ab_gt, ab_eq, ab_ne, decide_eq_true_eq, ab_w_id, ab_w0, ab_gd_some, ab_gs_0, ab_gs_1, ab_gl_0, ab_gl_1, ab_bv_some, ab_bu_some, ab_bv_thr, ab_bu_thr, ab_fx_n, ab_fx_i, ab_fx_q, ab_fx_l, ab_sh_si, ab_gr_si, ab_gl_si, cs_n, ↓reduceIte, true_or, or_true, false_or, or_false, and_true, true_and, and_false, false_and, not_true_eq_false, not_false_eq_true, eq_self, Int.reduceEq, Int.reduceLT, Int.reduceLE, Int.reduceAdd, Int.reduceMul, Int.reduceNeg, if_pos, if_neg, hL.1, hL.2, e6, e7, m26 hL (show ab_gi h 1 0 ≤ 5 by omega) (show ab_gi h 1 1 ≤ 8 by omega) (hR.2.2.2 (cs_dk D (ab_gi h 0 3))) b4 (show cs_dk D (ab_gi h 0 3) < ab_gi h 1 0 by omega) b2 (show ab_gi h 0 3 / (D - 1) < ab_gi h 1 1 by omega) v1 v2]
theorem m91 {dd : Nat} {h : ab_H} {D S : Int} (q : cs_Q h D S) (h1 : 0 ≤ ab_gi h 0 3) (h2 : ab_gi h 0 3 < (D - 1) * S) (v1 : 0 ≤ ab_gi h 0 5) (v2 : ab_gi h 0 5 ≤ 255) :
    ab_E B (dd + 2) 91 0 [some (.inr (.inr (.inl (some 0)))), none] [] h = some (.inl none, cs_lay h (ab_gi h 0 3 / (D - 1) % D) (ab_gi h 0 3 / (D - 1)) (ab_gi h 0 5)) := by
  obtain ⟨hR, eD, eS, D1, D2, S1, S2⟩ := q
  obtain ⟨b1, b2, b3, b4, b5, b6⟩ := cs_blk D1 D2 S2 h1 h2
  have hL := hR.1
  have sd1 : 0 ≤ ab_gi h 0 3 / (D - 1) % D := Int.emod_nonneg _ (by omega)
  have sd2 : ab_gi h 0 3 / (D - 1) % D < D := Int.emod_lt_of_pos _ (by omega)
  have e6 : ∀ d9, ab_E B d9 6 0 [some (.inr (.inr (.inl (some 1)))), some (.inl (ab_gi h 0 3))] [] h = some (.inl (some (.inl (ab_gi h 0 3 / (D - 1)))), h) := fun d9 => by rw [m6 hR (by omega) h1 b1, eD]
  have e9 : ∀ d9, ab_E B d9 9 0 [some (.inr (.inr (.inl (some 1)))), some (.inl (ab_gi h 0 3 / (D - 1)))] [] h = some (.inl (some (.inl (ab_gi h 0 3 / (D - 1) % D))), h) := fun d9 => by rw [m9 hR (by omega) b2 (by omega), eD]
  simp (disch := omega) only [e91_0, e91_1, e91_4, e91_5, e91_8, e91_11, e91_12, e91_13, e91_16, e91_17, e91_20, e91_21, e91_24, e91_25, e91_26, e91_29, e91_32, implies_true, Int.reduceSub, Option.isNone_some, Option.isNone_none, ab_bh_some, ab_bh_thr, ab_gs_3, ab_gl_2, ab_gl_3, ab_gt_some, ab_gc_0, ab_gk_0, Bool.false_eq_true, Bool.true_eq_false, false_implies, Nat.reduceEqDiff, ab_ge, ab_lt, ab_le, ab_gt, ab_eq, ab_ne, decide_eq_true_eq, ab_w_id, ab_w0, ab_gd_some, ab_gs_0, ab_gs_1, ab_gl_0, ab_gl_1, ab_bv_some, ab_bu_some, ab_bv_thr, ab_bu_thr, ab_fx_n, ab_fx_i, ab_fx_q, ab_fx_l, ab_sh_si, ab_gr_si, ab_gl_si, cs_n, ↓reduceIte, true_or, or_true, false_or, or_false, and_true, true_and, and_false, false_and, not_true_eq_false, not_false_eq_true, eq_self, Int.reduceEq, Int.reduceLT, Int.reduceLE, Int.reduceAdd, Int.reduceMul, Int.reduceNeg, if_pos, if_neg, hL.1, hL.2, e6, e9, m26 hL (show ab_gi h 1 0 ≤ 5 by omega) (show ab_gi h 1 1 ≤ 8 by omega) (hR.2.2.2 (ab_gi h 0 3 / (D - 1) % D)) sd1 (show ab_gi h 0 3 / (D - 1) % D < ab_gi h 1 0 by omega) b2 (show ab_gi h 0 3 / (D - 1) < ab_gi h 1 1 by omega) v1 v2]
theorem m93 {dd : Nat} {h : ab_H} (hL : cs_L h) : ab_E B dd 93 0 [some (.inr (.inr (.inl (some 0))))] [] h = some (.inl none, ab_si (ab_si h 0 2 0) 0 11 (ab_gi h 0 11 + 1)) := by
  have f : ab_gi (ab_si h 0 2 0) 0 11 = ab_gi h 0 11 := by simp [ab_gi_si]
  simp (disch := omega) only [e93_0, e93_1, e93_2, e93_5, e93_6, e93_7, e93_10, e93_11, e93_12, e93_15, implies_true, Int.reduceSub, Option.isNone_some, Option.isNone_none, ab_bh_some, ab_bh_thr, ab_gs_3, ab_gl_2, ab_gl_3, ab_gt_some, ab_gc_0, ab_gk_0, Bool.false_eq_true, Bool.true_eq_false, false_implies, Nat.reduceEqDiff, ab_ge, ab_lt, ab_le, ab_gt, ab_eq, ab_ne, decide_eq_true_eq, ab_w_id, ab_w0, ab_gd_some, ab_gs_0, ab_gs_1, ab_gl_0, ab_gl_1, ab_bv_some, ab_bu_some, ab_bv_thr, ab_bu_thr, ab_fx_n, ab_fx_i, ab_fx_q, ab_fx_l, ab_sh_si, ab_gr_si, ab_gl_si, cs_n, ↓reduceIte, true_or, or_true, false_or, or_false, and_true, true_and, and_false, false_and, not_true_eq_false, not_false_eq_true, eq_self, Int.reduceEq, Int.reduceLT, Int.reduceLE, Int.reduceAdd, Int.reduceMul, Int.reduceNeg, if_pos, if_neg, hL.1, hL.2, f, implies_true]

theorem m92 {dd : Nat} {h : ab_H} (hL : cs_L h) : ab_E B dd 92 0 [some (.inr (.inr (.inl (some 0))))] [] h = some (.inl none, ab_si (ab_si (ab_si h 0 3 (-1)) 0 4 (-1)) 0 5 (-1)) := by
  simp (disch := omega) only [e92_0, e92_1, e92_2, e92_5, e92_6, e92_7, e92_10, e92_11, e92_12, e92_15, implies_true, Int.reduceSub, Option.isNone_some, Option.isNone_none, ab_bh_some, ab_bh_thr, ab_gs_3, ab_gl_2, ab_gl_3, ab_gt_some, ab_gc_0, ab_gk_0, Bool.false_eq_true, Bool.true_eq_false, false_implies, Nat.reduceEqDiff, ab_ge, ab_lt, ab_le, ab_gt, ab_eq, ab_ne, decide_eq_true_eq, ab_w_id, ab_w0, ab_gd_some, ab_gs_0, ab_gs_1, ab_gl_0, ab_gl_1, ab_bv_some, ab_bu_some, ab_bv_thr, ab_bu_thr, ab_fx_n, ab_fx_i, ab_fx_q, ab_fx_l, ab_sh_si, ab_gr_si, ab_gl_si, cs_n, ↓reduceIte, true_or, or_true, false_or, or_false, and_true, true_and, and_false, false_and, not_true_eq_false, not_false_eq_true, eq_self, Int.reduceEq, Int.reduceLT, Int.reduceLE, Int.reduceAdd, Int.reduceMul, Int.reduceNeg, if_pos, if_neg, hL.1, hL.2]
theorem cs_L_of {h h' : ab_H} (hL : cs_L h) (e1 : ∀ i, i < 18 → (ab_sh h')[i]? = (ab_sh h)[i]?) (e2 : ∀ c x, c < 18 → ab_gr h' c x = ab_gr h c x) : cs_L h' := by
  unfold cs_L at hL ⊢
  rw [e1 0 (by omega), e1 1 (by omega), e1 2 (by omega), e1 3 (by omega), e1 4 (by omega), e1 5 (by omega), e1 6 (by omega), e1 7 (by omega), e1 8 (by omega), e1 9 (by omega), e1 10 (by omega), e1 11 (by omega), e1 12 (by omega), e1 13 (by omega), e1 14 (by omega), e1 15 (by omega), e1 16 (by omega), e1 17 (by omega)]
  rw [e2 0 0 (by omega), e2 0 1 (by omega), e2 1 2 (by omega), e2 1 3 (by omega), e2 1 4 (by omega), e2 1 5 (by omega), e2 1 6 (by omega), e2 7 3 (by omega), e2 7 4 (by omega), e2 7 5 (by omega), e2 7 7 (by omega), e2 7 8 (by omega), e2 7 9 (by omega), e2 7 10 (by omega), e2 7 11 (by omega), e2 7 13 (by omega), e2 7 14 (by omega)]
  exact hL
theorem cs_L_2 {h h' : ab_H} (hL : cs_L h) (e : h'.2 = h.2) : cs_L h' := cs_L_of hL (fun i _ => by unfold ab_sh; rw [e]) (fun c x _ => by unfold ab_gr; rw [e])
theorem cs_R_of {h h' : ab_H} (hR : cs_R h) (hL : cs_L h') (e : ∀ c x, 1 ≤ c → c ≤ 5 → ab_gi h' c x = ab_gi h c x) : cs_R h' := by
  obtain ⟨-, h1, h2, h3⟩ := hR
  refine ⟨hL, ?_, fun i i1 i2 => ?_, fun d => ?_⟩
  · rw [e 1 0 (by omega) (by omega), e 1 1 (by omega) (by omega)]; exact h1
  · rw [e 2 i (by omega) (by omega), e 3 i (by omega) (by omega), e 4 i (by omega) (by omega)]; exact h2 i i1 i2
  · rw [e 5 d (by omega) (by omega)]; exact h3 d
theorem ck_S_fr {h h' : ab_H} {D : Int} (hS : ck_S h D) (hL : cs_L h') (e : ∀ c x, 7 ≤ c → c ≤ 17 → ab_gi h' c x = ab_gi h c x) : ck_S h' D ∧ ck_K h' = ck_K h := by
  obtain ⟨⟨⟨-, t1, t2, t3, t4⟩, hn, hD, hD5⟩, hZ, hC, h17⟩ := hS
  have eK : ck_K h' = ck_K h := ck_K_congr (e 7 0 (by omega) (by omega)) (e 7 1 (by omega) (by omega)) (fun c d q => e c d (by omega) (by omega))
  refine ⟨⟨⟨⟨hL, ?_, ?_, ?_, fun d d1 d2 => ?_⟩, ?_, hD, hD5⟩, ⟨?_, fun t q1 q2 => ?_, fun x q1 q2 => ?_, fun x q1 q2 => ?_⟩, ?_, fun d d1 d2 => ?_⟩, eK⟩
  · rw [e 7 2 (by omega) (by omega)]; exact t1
  · rw [e 7 0 (by omega) (by omega)]; exact t2
  · rw [e 7 1 (by omega) (by omega)]; exact t3
  · rw [e 8 d (by omega) (by omega), e 9 d (by omega) (by omega), e 10 d (by omega) (by omega)]; exact t4 d d1 d2
  · rw [e 7 2 (by omega) (by omega)]; exact hn
  · rw [e 7 12 (by omega) (by omega)]; exact hZ.1
  · rw [e 16 t (by omega) (by omega)]; exact hZ.2.1 t q1 q2
  · rw [e 13 x (by omega) (by omega)]; exact hZ.2.2.1 x q1 q2
  · rw [e 11 x (by omega) (by omega)]; exact hZ.2.2.2 x q1 q2
  · rw [eK]; exact hC.of (e 7 6 (by omega) (by omega)) (fun c x q => e c x (by omega) (by omega))
  · rw [e 17 d (by omega) (by omega)]; exact h17 d d1 d2
/-- a note, or none -/
def cn (h : ab_H) : Prop := (ab_gi h 0 3 = -1 ∧ ab_gi h 0 4 = -1 ∧ ab_gi h 0 5 = -1) ∨ ((0 ≤ ab_gi h 0 3 ∧ ab_gi h 0 3 < cs_B h) ∧ (0 ≤ ab_gi h 0 4 ∧ ab_gi h 0 4 ≤ 255) ∧ (0 ≤ ab_gi h 0 5 ∧ ab_gi h 0 5 ≤ 255))
/-- what holds between calls, of the class -/
def ci (h : ab_H) : Prop := cs_R h ∧ ck_S h (ab_gi h 1 0) ∧ ((ab_gi h 0 2 = 0 ∨ ab_gi h 0 2 = 1) ∧ (ab_gi h 1 0 = 0 → ab_gi h 0 2 = 0)) ∧ cn h ∧ ((0 ≤ ab_gi h 0 6 ∧ ab_gi h 0 6 < 8) ∧ (0 ≤ ab_gi h 0 7 ∧ ab_gi h 0 7 < 8))
theorem cs_B_of {h h' : ab_H} (e0 : ab_gi h' 1 0 = ab_gi h 1 0) (e1 : ab_gi h' 1 1 = ab_gi h 1 1) : cs_B h' = cs_B h := by unfold cs_B; rw [e0, e1]
theorem cn_of {h h' : ab_H} (hn : cn h) (eB : cs_B h' = cs_B h) (e : ∀ x, 3 ≤ x → x ≤ 5 → ab_gi h' 0 x = ab_gi h 0 x) : cn h' := by
  unfold cn at hn ⊢
  rw [eB, e 3 (by omega) (by omega), e 4 (by omega) (by omega), e 5 (by omega) (by omega)]
  exact hn
/-- the rack and the note may change, and the counts -/
theorem ci_of {h h' : ab_H} (i : ci h) (hR : cs_R h') (e1 : ∀ x, ab_gi h' 1 x = ab_gi h 1 x) (e7 : ∀ c x, 7 ≤ c → c ≤ 17 → ab_gi h' c x = ab_gi h c x) (hon : (ab_gi h' 0 2 = 0 ∨ ab_gi h' 0 2 = 1) ∧ (ab_gi h 1 0 = 0 → ab_gi h' 0 2 = 0)) (hn : cn h') (h6 : 0 ≤ ab_gi h' 0 6 ∧ ab_gi h' 0 6 < 8) (h7 : 0 ≤ ab_gi h' 0 7 ∧ ab_gi h' 0 7 < 8) : ci h' := by
  obtain ⟨-, i2, -⟩ := i
  refine ⟨hR, ?_, ?_, hn, h6, h7⟩
  · rw [e1 0]; exact (ck_S_fr i2 hR.1 e7).1
  · rw [e1 0]; exact hon
theorem ci_fr {h h' : ab_H} (i : ci h) (hL : cs_L h') (e : ∀ c x, c ≤ 17 → ab_gi h' c x = ab_gi h c x) : ci h' := by
  have e0 := fun x => e 0 x (by omega)
  have e1 := fun x => e 1 x (by omega)
  refine ci_of i (cs_R_of i.1 hL (fun c x _ q => e c x (by omega))) e1 (fun c x _ q => e c x q) ?_ (cn_of i.2.2.2.1 (cs_B_of (e1 0) (e1 1)) (fun x _ _ => e0 x)) ?_ ?_
  · rw [e0]; exact i.2.2.1
  · rw [e0]; exact i.2.2.2.2.1
  · rw [e0]; exact i.2.2.2.2.2
theorem ci_Q {h : ab_H} (i : ci h) (hD : ab_gi h 1 0 ≠ 0) : cs_Q h (ab_gi h 1 0) (ab_gi h 1 1) := by
  have := i.1.2.1
  exact ⟨i.1, rfl, rfl, by omega, by omega, by omega, by omega⟩
theorem ci_blk {h : ab_H} {b : Int} (i : ci h) (h1 : 0 ≤ b) (h2 : b < cs_B h) : cs_Q h (ab_gi h 1 0) (ab_gi h 1 1) ∧ b < (ab_gi h 1 0 - 1) * ab_gi h 1 1 ∧ b < 32 ∧ 0 ≤ b / (ab_gi h 1 0 - 1) ∧ b / (ab_gi h 1 0 - 1) < ab_gi h 1 1 ∧ 0 ≤ cs_dk (ab_gi h 1 0) b ∧ cs_dk (ab_gi h 1 0) b < ab_gi h 1 0 ∧ cs_dk (ab_gi h 1 0) b ≠ b / (ab_gi h 1 0 - 1) % ab_gi h 1 0 := by
  have hD : ab_gi h 1 0 ≠ 0 := fun q => by unfold cs_B at h2; rw [if_neg (by omega)] at h2; omega
  have q := ci_Q i hD
  have h3 : b < (ab_gi h 1 0 - 1) * ab_gi h 1 1 := by unfold cs_B at h2; rw [if_pos (by have := q.2.2.2; omega)] at h2; exact h2
  obtain ⟨b1, b2, b3, b4, b5, b6⟩ := cs_blk q.2.2.2.1 q.2.2.2.2.1 q.2.2.2.2.2.2 h1 h3
  exact ⟨q, h3, b1, b2, b3, b4, b5, b6⟩
/-! mending -/
theorem cs_lay_2 {h : ab_H} {d s v : Int} : (cs_lay h d s v).2 = h.2 := by unfold cs_lay; split <;> rfl
theorem cs_mf_ok {h : ab_H} {s : Int} (hR : cs_R h) (h3 : 0 ≤ s) (h4 : s < ab_gi h 1 1) : ∀ (k : Nat) (i : Int), cs_R (cs_mf h s i k).2 ∧ (cs_mf h s i k).2.2 = h.2 ∧ (∀ c x, c ≠ 2 → c ≠ 3 → ab_gi (cs_mf h s i k).2 c x = ab_gi h c x) ∧ 0 ≤ (cs_mf h s i k).1 ∧ (cs_mf h s i k).1 ≤ 1
  | 0, i => ⟨hR, rfl, fun _ _ _ _ => rfl, Int.le_refl _, by show (0 : Int) ≤ 1; omega⟩
  | k + 1, i => by
    have hx := cs_xo_rng (d := i) hR h3 h4
    unfold cs_mf
    by_cases c : cs_b h i s = 1 ∧ ab_gi h 5 i = 0
    · rw [if_pos c]
      exact ⟨cs_R_lay hR hx.1 hx.2, cs_lay_2, fun c x c2 c3 => cs_lay_gi c2 c3, by show (0 : Int) ≤ 1; omega, Int.le_refl _⟩
    · rw [if_neg c]; exact cs_mf_ok hR h3 h4 k (i + 1)
theorem cs_mend_ok {h : ab_H} {s : Int} (hR : cs_R h) (h3 : 0 ≤ s) (h4 : s < ab_gi h 1 1) : cs_R (cs_mend h s).2 ∧ (cs_mend h s).2.2 = h.2 ∧ (∀ c x, c ≠ 2 → c ≠ 3 → ab_gi (cs_mend h s).2 c x = ab_gi h c x) ∧ 0 ≤ (cs_mend h s).1 ∧ (cs_mend h s).1 ≤ 1 := by
  unfold cs_mend
  split
  · exact cs_mf_ok hR h3 h4 _ _
  · exact ⟨hR, rfl, fun _ _ _ _ => rfl, Int.le_refl _, by show (0 : Int) ≤ 1; omega⟩
/-- stripes are mended one behind the other -/
def cs_rd (f : Int) : ab_H → Int → Nat → Int × ab_H
  | h, _, 0 => (0, h)
  | h, i, k + 1 => ((cs_mend h ((f + i) % ab_gi h 1 1)).1 + (cs_rd f (cs_mend h ((f + i) % ab_gi h 1 1)).2 (i + 1) k).1, (cs_rd f (cs_mend h ((f + i) % ab_gi h 1 1)).2 (i + 1) k).2)
theorem cs_rd_ok {f : Int} : ∀ (k : Nat) (h : ab_H) (i : Int), cs_R h → 1 ≤ ab_gi h 1 1 → cs_R (cs_rd f h i k).2 ∧ (cs_rd f h i k).2.2 = h.2 ∧ (∀ c x, c ≠ 2 → c ≠ 3 → ab_gi (cs_rd f h i k).2 c x = ab_gi h c x) ∧ 0 ≤ (cs_rd f h i k).1 ∧ (cs_rd f h i k).1 ≤ k
  | 0, h, i, hR, _ => ⟨hR, rfl, fun _ _ _ _ => rfl, by simp [cs_rd], by simp [cs_rd]⟩
  | k + 1, h, i, hR, S1 => by
    have s1 : 0 ≤ (f + i) % ab_gi h 1 1 := Int.emod_nonneg _ (by omega)
    have s2 : (f + i) % ab_gi h 1 1 < ab_gi h 1 1 := Int.emod_lt_of_pos _ (by omega)
    obtain ⟨q1, q2, q3, q4, q5⟩ := cs_mend_ok hR s1 s2
    obtain ⟨a1, a2, a3, a4, a5⟩ := cs_rd_ok (f := f) k (cs_mend h ((f + i) % ab_gi h 1 1)).2 (i + 1) q1 (by rw [q3 1 1 (by decide) (by decide)]; exact S1)
    unfold cs_rd
    refine ⟨a1, a2.trans q2, fun c x h2 h3 => (a3 c x h2 h3).trans (q3 c x h2 h3), ?_, ?_⟩
    · show 0 ≤ _ + _
      omega
    · show _ + _ ≤ _
      omega
theorem m96_loop {dd : Nat} {S f n : Int} (f1 : 0 ≤ f) (f2 : f < 8) (n8 : n ≤ 8) : ∀ (k : Nat) (h : ab_H) (i c : Int), cs_R h → 1 ≤ ab_gi h 1 1 → ab_gi h 1 1 = S → 0 ≤ i → i + k = n → 0 ≤ c → c ≤ i →
    ab_E B (dd + 4) 96 5 [some (.inr (.inr (.inl (some 0)))), some (.inl f), some (.inl n), some (.inl c), some (.inl i)] [] h = some (.inl (some (.inl (c + (cs_rd f h i k).1))), ab_si (cs_rd f h i k).2 0 10 (ab_gi h 0 10 + (c + (cs_rd f h i k).1)))
  | 0, h, i, c, q, S1, eS, q1, q2, c1, c2 => by
    have hL := q.1
    rw [e96_5]
    simp (disch := omega) only [e96_0, e96_1, e96_2, e96_3, e96_7, e96_8, e96_11, e96_12, e96_13, e96_16, e96_17, e96_20, e96_21, e96_23, e96_26, e96_29, e96_30, e96_31, e96_34, e96_37, e96_38, e96_39, e96_42, e96_43, e96_44, e96_47, e96_48, implies_true, Int.reduceSub, Option.isNone_some, Option.isNone_none, ab_bh_some, ab_bh_thr, ab_gs_3, ab_gl_2, ab_gl_3, ab_gt_some, ab_gc_0, ab_gk_0, Bool.false_eq_true, Bool.true_eq_false, false_implies, Nat.reduceEqDiff, ab_ge, ab_lt, ab_le, ab_gt, ab_eq, ab_ne, decide_eq_true_eq, ab_w_id, ab_w0, ab_gd_some, ab_gs_0, ab_gs_1, ab_gl_0, ab_gl_1, ab_bv_some, ab_bu_some, ab_bv_thr, ab_bu_thr, ab_fx_n, ab_fx_i, ab_fx_q, ab_fx_l, ab_sh_si, ab_gr_si, ab_gl_si, cs_n, ↓reduceIte, true_or, or_true, false_or, or_false, and_true, true_and, and_false, false_and, not_true_eq_false, not_false_eq_true, eq_self, Int.reduceEq, Int.reduceLT, Int.reduceLE, Int.reduceAdd, Int.reduceMul, Int.reduceNeg, if_pos, if_neg, hL.1, hL.2, cs_rd, Int.add_zero]
  | k + 1, h, i, c, q, S1, eS, q1, q2, c1, c2 => by
    have hL := q.1
    have s1 : 0 ≤ (f + i) % ab_gi h 1 1 := Int.emod_nonneg _ (by omega)
    have s2 : (f + i) % ab_gi h 1 1 < ab_gi h 1 1 := Int.emod_lt_of_pos _ (by omega)
    obtain ⟨p1, p2, p3, p4, p5⟩ := cs_mend_ok q s1 s2
    have hDS := q.2.1
    have e10 : ∀ d9, ab_E B d9 10 0 [some (.inr (.inr (.inl (some 1)))), some (.inl f), some (.inl i)] [] h = some (.inl (some (.inl ((f + i) % ab_gi h 1 1))), h) := fun d9 => by rw [m10 q S1 f1 f2 q1 (by omega)]
    have e27 := m27 (B := B) (dd := dd) q s1 s2
    have ih := m96_loop (dd := dd) f1 f2 n8 k (cs_mend h ((f + i) % ab_gi h 1 1)).2 (i + 1) (c + (cs_mend h ((f + i) % ab_gi h 1 1)).1) p1 (by rw [p3 1 1 (by decide) (by decide)]; exact S1) ((p3 1 1 (by decide) (by decide)).trans eS) (by omega) (by omega) (by omega) (by omega)
    rw [p3 0 10 (by decide) (by decide), Int.add_assoc] at ih
    rw [e96_5]
    simp (disch := omega) only [e96_0, e96_1, e96_2, e96_3, e96_7, e96_8, e96_11, e96_12, e96_13, e96_16, e96_17, e96_20, e96_21, e96_23, e96_26, e96_29, e96_30, e96_31, e96_34, e96_37, e96_38, e96_39, e96_42, e96_43, e96_44, e96_47, e96_48, implies_true, Int.reduceSub, Option.isNone_some, Option.isNone_none, ab_bh_some, ab_bh_thr, ab_gs_3, ab_gl_2, ab_gl_3, ab_gt_some, ab_gc_0, ab_gk_0, Bool.false_eq_true, Bool.true_eq_false, false_implies, Nat.reduceEqDiff, ab_ge, ab_lt, ab_le, ab_gt, ab_eq, ab_ne, decide_eq_true_eq, ab_w_id, ab_w0, ab_gd_some, ab_gs_0, ab_gs_1, ab_gl_0, ab_gl_1, ab_bv_some, ab_bu_some, ab_bv_thr, ab_bu_thr, ab_fx_n, ab_fx_i, ab_fx_q, ab_fx_l, ab_sh_si, ab_gr_si, ab_gl_si, cs_n, ↓reduceIte, true_or, or_true, false_or, or_false, and_true, true_and, and_false, false_and, not_true_eq_false, not_false_eq_true, eq_self, Int.reduceEq, Int.reduceLT, Int.reduceLE, Int.reduceAdd, Int.reduceMul, Int.reduceNeg, if_pos, if_neg, hL.1, hL.2, e10, e27]
    exact ih
theorem m96 {dd : Nat} {f n : Int} {h : ab_H} (q : cs_R h) (S1 : 1 ≤ ab_gi h 1 1) (f1 : 0 ≤ f) (f2 : f < 8) (n1 : 1 ≤ n) (n8 : n ≤ 8) :
    ab_E B (dd + 4) 96 0 [some (.inr (.inr (.inl (some 0)))), some (.inl f), some (.inl n), none, none] [] h = some (.inl (some (.inl (cs_rd f h 0 n.toNat).1)), ab_si (cs_rd f h 0 n.toNat).2 0 10 (ab_gi h 0 10 + (cs_rd f h 0 n.toNat).1)) := by
  have lp := m96_loop (B := B) (dd := dd) f1 f2 n8 n.toNat h 0 0 q S1 rfl (by omega) (by omega) (by omega) (by omega)
  rw [Int.zero_add] at lp
  rw [← lp]
  simp (disch := omega) only [e96_0, e96_1, e96_2, e96_3, e96_7, e96_8, e96_11, e96_12, e96_13, e96_16, e96_17, e96_20, e96_21, e96_23, e96_26, e96_29, e96_30, e96_31, e96_34, e96_37, e96_38, e96_39, e96_42, e96_43, e96_44, e96_47, e96_48, implies_true, Int.reduceSub, Option.isNone_some, Option.isNone_none, ab_bh_some, ab_bh_thr, ab_gs_3, ab_gl_2, ab_gl_3, ab_gt_some, ab_gc_0, ab_gk_0, Bool.false_eq_true, Bool.true_eq_false, false_implies, Nat.reduceEqDiff, ab_ge, ab_lt, ab_le, ab_gt, ab_eq, ab_ne, decide_eq_true_eq, ab_w_id, ab_w0, ab_gd_some, ab_gs_0, ab_gs_1, ab_gl_0, ab_gl_1, ab_bv_some, ab_bu_some, ab_bv_thr, ab_bu_thr, ab_fx_n, ab_fx_i, ab_fx_q, ab_fx_l, ab_sh_si, ab_gr_si, ab_gl_si, cs_n, ↓reduceIte, true_or, or_true, false_or, or_false, and_true, true_and, and_false, false_and, not_true_eq_false, not_false_eq_true, eq_self, Int.reduceEq, Int.reduceLT, Int.reduceLE, Int.reduceAdd, Int.reduceMul, Int.reduceNeg, if_pos, if_neg]
/-- the power comes on -/
def cs_on (h : ab_H) : ab_H := if 0 ≤ ab_gi h 0 3 then ab_si (ab_si (ab_si (cs_lay (cs_lay (ab_si h 0 2 1) (cs_dk (ab_gi h 1 0) (ab_gi h 0 3)) (ab_gi h 0 3 / (ab_gi h 1 0 - 1)) (ab_gi h 0 4)) (ab_gi h 0 3 / (ab_gi h 1 0 - 1) % ab_gi h 1 0) (ab_gi h 0 3 / (ab_gi h 1 0 - 1)) (ab_gi h 0 5)) 0 3 (-1)) 0 4 (-1)) 0 5 (-1) else ab_si h 0 2 1
theorem m94 {dd : Nat} {h : ab_H} (i : ci h) (hD : ab_gi h 1 0 ≠ 0) : ab_E B (dd + 3) 94 0 [some (.inr (.inr (.inl (some 0))))] [] h = some (.inl none, cs_on h) ∧ ci (cs_on h) ∧ (cs_on h).2 = h.2 ∧ (∀ c x, 4 ≤ c → ab_gi (cs_on h) c x = ab_gi h c x) := by
  have hL := i.1.1
  have g : ∀ c k, c ≠ 0 → ab_gi (ab_si h 0 2 1) c k = ab_gi h c k := fun c k hc => by rw [ab_gi_si, if_neg (fun q => hc q.1)]
  have g0 : ∀ k, k ≠ 2 → ab_gi (ab_si h 0 2 1) 0 k = ab_gi h 0 k := fun k k1 => by rw [ab_gi_si, if_neg (fun q => k1 q.2)]
  have g2 : ab_gi (ab_si h 0 2 1) 0 2 = 1 := by simp [ab_gi_si]
  have hR0 : cs_R (ab_si h 0 2 1) := cs_R_of i.1 hL (fun c x c1 _ => g c x (by omega))
  have i0 : ci (ab_si h 0 2 1) := ci_of i hR0 (fun x => g 1 x (by decide)) (fun c x c1 _ => g c x (by omega)) ⟨Or.inr g2, fun q => absurd q hD⟩ (cn_of i.2.2.2.1 (cs_B_of (g 1 0 (by decide)) (g 1 1 (by decide))) (fun x x1 x2 => g0 x (by omega))) (by rw [g0 6 (by decide)]; exact i.2.2.2.2.1) (by rw [g0 7 (by decide)]; exact i.2.2.2.2.2)
  have eB : cs_B (ab_si h 0 2 1) = cs_B h := cs_B_of (g 1 0 (by decide)) (g 1 1 (by decide))
  unfold cs_on
  rcases i.2.2.2.1 with ⟨n, -, -⟩ | ⟨⟨n1, n2⟩, n3, n4⟩
  · have e4 := m4 (B := B) (dd := dd + 1) (b := -1) hR0 (by omega) (by omega)
    rw [if_neg (by omega)] at e4
    rw [if_neg (by omega)]
    refine ⟨?_, i0, rfl, fun c x c4 => g c x (by omega)⟩
    simp (disch := omega) only [e94_0, e94_1, e94_2, e94_5, e94_6, e94_9, e94_10, e94_13, e94_16, e94_19, e94_20, e94_23, e94_24, e94_27, e94_28, e94_31, implies_true, Int.reduceSub, Option.isNone_some, Option.isNone_none, ab_bh_some, ab_bh_thr, ab_gs_3, ab_gl_2, ab_gl_3, ab_gt_some, ab_gc_0, ab_gk_0, Bool.false_eq_true, Bool.true_eq_false, false_implies, Nat.reduceEqDiff, ab_ge, ab_lt, ab_le, ab_gt, ab_eq, ab_ne, decide_eq_true_eq, ab_w_id, ab_w0, ab_gd_some, ab_gs_0, ab_gs_1, ab_gl_0, ab_gl_1, ab_bv_some, ab_bu_some, ab_bv_thr, ab_bu_thr, ab_fx_n, ab_fx_i, ab_fx_q, ab_fx_l, ab_sh_si, ab_gr_si, ab_gl_si, cs_n, ↓reduceIte, true_or, or_true, false_or, or_false, and_true, true_and, and_false, false_and, not_true_eq_false, not_false_eq_true, eq_self, Int.reduceEq, Int.reduceLT, Int.reduceLE, Int.reduceAdd, Int.reduceMul, Int.reduceNeg, if_pos, if_neg, hL.1, hL.2, g0 3 (by decide), n, e4, implies_true]
  · obtain ⟨q, -, b1, b2, b3, b4, b5, b6⟩ := ci_blk i n1 n2
    have hB := cs_B_le i.1
    have e4 := m4 (B := B) (dd := dd + 1) (b := ab_gi h 0 3) hR0 (by omega) (by omega)
    rw [if_pos ⟨n1, by rw [eB]; exact n2⟩] at e4
    rw [if_pos n1]
    have q0 : cs_Q (ab_si h 0 2 1) (ab_gi h 1 0) (ab_gi h 1 1) := ⟨hR0, g 1 0 (by decide), g 1 1 (by decide), q.2.2.2⟩
    have hlt : ab_gi h 0 3 < (ab_gi h 1 0 - 1) * ab_gi h 1 1 := by rw [← cs_B_eq q]; exact n2
    have e90 := m90 (B := B) (dd := dd) q0 (by rw [g0 3 (by decide)]; exact n1) (by rw [g0 3 (by decide)]; exact hlt) (by rw [g0 4 (by decide)]; omega) (by rw [g0 4 (by decide)]; omega)
    rw [g0 3 (by decide), g0 4 (by decide)] at e90
    have hR1 : cs_R (cs_lay (ab_si h 0 2 1) (cs_dk (ab_gi h 1 0) (ab_gi h 0 3)) (ab_gi h 0 3 / (ab_gi h 1 0 - 1)) (ab_gi h 0 4)) := cs_R_lay hR0 n3.1 n3.2
    have l1 : ∀ c x, c ≠ 2 → c ≠ 3 → ab_gi (cs_lay (ab_si h 0 2 1) (cs_dk (ab_gi h 1 0) (ab_gi h 0 3)) (ab_gi h 0 3 / (ab_gi h 1 0 - 1)) (ab_gi h 0 4)) c x = ab_gi (ab_si h 0 2 1) c x := fun c x c2 c3 => cs_lay_gi c2 c3
    have w1 : (cs_lay (ab_si h 0 2 1) (cs_dk (ab_gi h 1 0) (ab_gi h 0 3)) (ab_gi h 0 3 / (ab_gi h 1 0 - 1)) (ab_gi h 0 4)).2 = h.2 := cs_lay_2.trans rfl
    generalize cs_lay (ab_si h 0 2 1) (cs_dk (ab_gi h 1 0) (ab_gi h 0 3)) (ab_gi h 0 3 / (ab_gi h 1 0 - 1)) (ab_gi h 0 4) = k1 at *
    have l10 : ∀ x, x ≠ 2 → ab_gi k1 0 x = ab_gi h 0 x := fun x hx => (l1 0 x (by decide) (by decide)).trans (g0 x hx)
    have l1c : ∀ c x, c ≠ 0 → c ≠ 2 → c ≠ 3 → ab_gi k1 c x = ab_gi h c x := fun c x c0 c2 c3 => (l1 c x c2 c3).trans (g c x c0)
    have q1 : cs_Q k1 (ab_gi h 1 0) (ab_gi h 1 1) := ⟨hR1, l1c 1 0 (by decide) (by decide) (by decide), l1c 1 1 (by decide) (by decide) (by decide), q.2.2.2⟩
    have e91 := m91 (B := B) (dd := dd) q1 (by rw [l10 3 (by decide)]; exact n1) (by rw [l10 3 (by decide)]; exact hlt) (by rw [l10 5 (by decide)]; omega) (by rw [l10 5 (by decide)]; omega)
    rw [l10 3 (by decide), l10 5 (by decide)] at e91
    have hR2 : cs_R (cs_lay k1 (ab_gi h 0 3 / (ab_gi h 1 0 - 1) % ab_gi h 1 0) (ab_gi h 0 3 / (ab_gi h 1 0 - 1)) (ab_gi h 0 5)) := cs_R_lay hR1 n4.1 n4.2
    have l2 : ∀ c x, c ≠ 2 → c ≠ 3 → ab_gi (cs_lay k1 (ab_gi h 0 3 / (ab_gi h 1 0 - 1) % ab_gi h 1 0) (ab_gi h 0 3 / (ab_gi h 1 0 - 1)) (ab_gi h 0 5)) c x = ab_gi k1 c x := fun c x c2 c3 => cs_lay_gi c2 c3
    have w2 : (cs_lay k1 (ab_gi h 0 3 / (ab_gi h 1 0 - 1) % ab_gi h 1 0) (ab_gi h 0 3 / (ab_gi h 1 0 - 1)) (ab_gi h 0 5)).2 = h.2 := cs_lay_2.trans w1
    generalize cs_lay k1 (ab_gi h 0 3 / (ab_gi h 1 0 - 1) % ab_gi h 1 0) (ab_gi h 0 3 / (ab_gi h 1 0 - 1)) (ab_gi h 0 5) = k2 at *
    have hL1 := hR1.1
    have hL2 := hR2.1
    have z : ∀ c x, ab_gi (ab_si (ab_si (ab_si k2 0 3 (-1)) 0 4 (-1)) 0 5 (-1)) c x = if c = 0 ∧ x = 5 then -1 else if c = 0 ∧ x = 4 then -1 else if c = 0 ∧ x = 3 then -1 else ab_gi k2 c x := fun c x => by rw [ab_gi_si, ab_gi_si, ab_gi_si]
    have zc : ∀ c x, c ≠ 0 → ab_gi (ab_si (ab_si (ab_si k2 0 3 (-1)) 0 4 (-1)) 0 5 (-1)) c x = ab_gi k2 c x := fun c x hc => by rw [z, if_neg (by omega), if_neg (by omega), if_neg (by omega)]
    have z0 : ∀ x, x ≠ 3 → x ≠ 4 → x ≠ 5 → ab_gi (ab_si (ab_si (ab_si k2 0 3 (-1)) 0 4 (-1)) 0 5 (-1)) 0 x = ab_gi k1 0 x := fun x x3 x4 x5 => by rw [z, if_neg (by omega), if_neg (by omega), if_neg (by omega), l2 0 x (by decide) (by decide)]
    have zz : ∀ c x, c ≠ 0 → c ≠ 2 → c ≠ 3 → ab_gi (ab_si (ab_si (ab_si k2 0 3 (-1)) 0 4 (-1)) 0 5 (-1)) c x = ab_gi h c x := fun c x c0 c2 c3 => by rw [zc c x c0, l2 c x c2 c3, l1c c x c0 c2 c3]
    refine ⟨?_, ci_of i (cs_R_of hR2 hR2.1 (fun c x c1 _ => zc c x (by omega))) (fun x => zz 1 x (by decide) (by decide) (by decide)) (fun c x c1 _ => zz c x (by omega) (by omega) (by omega)) ⟨Or.inr ?_, fun q => absurd q hD⟩ (Or.inl ⟨?_, ?_, ?_⟩) ?_ ?_, w2, fun c x c4 => zz c x (by omega) (by omega) (by omega)⟩
    · simp (disch := omega) only [e94_0, e94_1, e94_2, e94_5, e94_6, e94_9, e94_10, e94_13, e94_16, e94_19, e94_20, e94_23, e94_24, e94_27, e94_28, e94_31, implies_true, Int.reduceSub, Option.isNone_some, Option.isNone_none, ab_bh_some, ab_bh_thr, ab_gs_3, ab_gl_2, ab_gl_3, ab_gt_some, ab_gc_0, ab_gk_0, Bool.false_eq_true, Bool.true_eq_false, false_implies, Nat.reduceEqDiff, ab_ge, ab_lt, ab_le, ab_gt, ab_eq, ab_ne, decide_eq_true_eq, ab_w_id, ab_w0, ab_gd_some, ab_gs_0, ab_gs_1, ab_gl_0, ab_gl_1, ab_bv_some, ab_bu_some, ab_bv_thr, ab_bu_thr, ab_fx_n, ab_fx_i, ab_fx_q, ab_fx_l, ab_sh_si, ab_gr_si, ab_gl_si, cs_n, ↓reduceIte, true_or, or_true, false_or, or_false, and_true, true_and, and_false, false_and, not_true_eq_false, not_false_eq_true, eq_self, Int.reduceEq, Int.reduceLT, Int.reduceLE, Int.reduceAdd, Int.reduceMul, Int.reduceNeg, if_pos, if_neg, hL.1, hL.2, hL1.1, hL1.2, hL2.1, hL2.2, g0 3 (by decide), e4, e90, e91, m92 hL2, implies_true]
    · rw [z0 2 (by decide) (by decide) (by decide), l1 0 2 (by decide) (by decide)]; exact g2
    · rw [z, if_neg (by omega), if_neg (by omega), if_pos ⟨rfl, rfl⟩]
    · rw [z, if_neg (by omega), if_pos ⟨rfl, rfl⟩]
    · rw [z, if_pos ⟨rfl, rfl⟩]
    · rw [z0 6 (by decide) (by decide) (by decide), l10 6 (by decide)]; exact i.2.2.2.2.1
    · rw [z0 7 (by decide) (by decide) (by decide), l10 7 (by decide)]; exact i.2.2.2.2.2
end
