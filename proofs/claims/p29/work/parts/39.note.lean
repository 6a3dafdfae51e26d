/-! NOTES, ROUNDS, THE POWER -/
section
variable {B : ab_B}
/-- a note is kept -/
def cs_kn (h : ab_H) (D b v : Int) : ab_H := ab_si (ab_si (ab_si (ab_si (ab_si h 0 3 b) 0 4 v) 0 5 (ab_ixor (ab_ixor (cs_sh h (b / (D - 1) % D) (b / (D - 1))) (cs_sh h (cs_dk D b) (b / (D - 1)))) v)) 4 (cs_dk D b * 8 + b / (D - 1)) v) 0 8 (ab_gi h 0 8 + 1)
theorem m89 {dd : Nat} {h : ab_H} {D S b v : Int} (q : cs_Q h D S) (h1 : 0 ≤ b) (h2 : b < (D - 1) * S) :
    ab_E B (dd + 4) 89 0 [some (.inr (.inr (some 0))), some (.inl b), some (.inl v), none, none, none] [] h = some (.inl none, cs_kn h D b v) := by
  obtain ⟨hR, eD, eS, D1, D2, S1, S2⟩ := q
  obtain ⟨b1, b2, b3, b4, b5, b6⟩ := cs_blk D1 D2 S2 h1 h2
  have hL := hR.1
  have sd1 : 0 ≤ b / (D - 1) % D := Int.emod_nonneg _ (by omega)
  have sd2 : b / (D - 1) % D < D := Int.emod_lt_of_pos _ (by omega)
  have e6 : ∀ d9, ab_E B d9 6 0 [some (.inr (.inr (some 1))), some (.inl b)] [] h = some (.inl (some (.inl (b / (D - 1)))), h) := fun d9 => by rw [m6 hR (by omega) h1 b1, eD]
  have e9 : ∀ d9, ab_E B d9 9 0 [some (.inr (.inr (some 1))), some (.inl (b / (D - 1)))] [] h = some (.inl (some (.inl (b / (D - 1) % D))), h) := fun d9 => by rw [m9 hR (by omega) b2 (by omega), eD]
  have e7 : ∀ d9, ab_E B (d9 + 1) 7 0 [some (.inr (.inr (some 1))), some (.inl b), none] [] h = some (.inl (some (.inl (cs_dk D b))), h) := fun d9 => by rw [m7 hR (by omega) h1 b1, eD]
  have e24 : ∀ d9 d, 0 ≤ d → d < D → ab_E B (d9 + 3) 24 0 [some (.inr (.inr (some 1))), some (.inl d), some (.inl (b / (D - 1)))] [] h = some (.inl (some (.inl (cs_sh h d (b / (D - 1))))), h) := fun d9 d d1 d2 => m24 hR d1 (by omega) b2 (by omega)
  have hR1 : ∀ x y z, cs_R (ab_si (ab_si (ab_si h 0 3 x) 0 4 y) 0 5 z) := fun x y z => cs_R_six (cs_R_six (cs_R_six hR (by decide) (by decide) (by decide) (by decide) (by decide)) (by decide) (by decide) (by decide) (by decide) (by decide)) (by decide) (by decide) (by decide) (by decide) (by decide)
  have e31 : ∀ d9 x y z, ab_E B (d9 + 2) 31 0 [some (.inr (.inr (some 1))), some (.inl b), some (.inl v), none] [] (ab_si (ab_si (ab_si h 0 3 x) 0 4 y) 0 5 z) = some (.inl none, ab_si (ab_si (ab_si (ab_si h 0 3 x) 0 4 y) 0 5 z) 4 (cs_dk D b * 8 + b / (D - 1)) v) := fun d9 x y z => by
    have f0 : ab_gi (ab_si (ab_si (ab_si h 0 3 x) 0 4 y) 0 5 z) 1 0 = D := by simp [ab_gi_si]; exact eD
    have f1 : ab_gi (ab_si (ab_si (ab_si h 0 3 x) 0 4 y) 0 5 z) 1 1 = S := by simp [ab_gi_si]; exact eS
    rw [m31 (hR1 x y z) (by omega) h1 b1 (by rw [f0, f1]; exact b3), f0]
  have f8 : ∀ x y z u w, ab_gi (ab_si (ab_si (ab_si (ab_si h 0 3 x) 0 4 y) 0 5 z) 4 u w) 0 8 = ab_gi h 0 8 := fun x y z u w => by simp [ab_gi_si]
  unfold cs_kn
  simp (disch := omega) only [e89_0, e89_1, e89_4, e89_5, e89_8, e89_9, e89_10, e89_13, e89_14, e89_17, e89_18, e89_21, e89_22, e89_25, e89_27, e89_28, e89_31, e89_32, e89_35, e89_36, e89_39, e89_40, e89_43, e89_45, e89_46, e89_47, e89_50, e89_51, e89_52, e89_55, e89_56, e89_58, e89_60, e89_61, e89_62, e89_63, e89_66, e89_67, e89_70, e89_71, e89_72, e89_75, e89_76, e89_77, e89_80, e89_81, e89_82, e89_85, Option.isSome_some, ab_bvh_some, ab_bvh_thr, ab_ge, ab_lt, ab_le, ab_gt, ab_eq, ab_ne, decide_eq_true_eq, ab_w_id, ab_w0, ab_gd_some, ab_gs_0, ab_gs_1, ab_gl_0, ab_gl_1, ab_bv_some, ab_bu_some, ab_bv_thr, ab_bu_thr, ab_fx_n, ab_fx_i, ab_fx_q, ab_fx_l, ab_sh_si, ab_gr_si, ab_gl_si, cs_n, ↓reduceIte, true_or, or_true, false_or, or_false, and_true, true_and, and_false, false_and, not_true_eq_false, not_false_eq_true, eq_self, Int.reduceEq, Int.reduceLT, Int.reduceLE, Int.reduceAdd, Int.reduceMul, Int.reduceNeg, if_pos, if_neg, hL.1, hL.2, e6, e9, e7, e24, e31, f8]
theorem m90 {dd : Nat} {h : ab_H} {D S : Int} (q : cs_Q h D S) (h1 : 0 ≤ ab_gi h 0 3) (h2 : ab_gi h 0 3 < (D - 1) * S) (v1 : 0 ≤ ab_gi h 0 4) (v2 : ab_gi h 0 4 ≤ 255) :
    ab_E B (dd + 2) 90 0 [some (.inr (.inr (some 0)))] [] h = some (.inl none, cs_lay h (cs_dk D (ab_gi h 0 3)) (ab_gi h 0 3 / (D - 1)) (ab_gi h 0 4)) := by
  obtain ⟨hR, eD, eS, D1, D2, S1, S2⟩ := q
  obtain ⟨b1, b2, b3, b4, b5, b6⟩ := cs_blk D1 D2 S2 h1 h2
  have hL := hR.1
  have e6 : ∀ d9, ab_E B d9 6 0 [some (.inr (.inr (some 1))), some (.inl (ab_gi h 0 3))] [] h = some (.inl (some (.inl (ab_gi h 0 3 / (D - 1)))), h) := fun d9 => by rw [m6 hR (by omega) h1 b1, eD]
  have e7 : ∀ d9, ab_E B (d9 + 1) 7 0 [some (.inr (.inr (some 1))), some (.inl (ab_gi h 0 3)), none] [] h = some (.inl (some (.inl (cs_dk D (ab_gi h 0 3)))), h) := fun d9 => by rw [m7 hR (by omega) h1 b1, eD]
  simp (disch := omega) only [e90_0, e90_1, e90_4, e90_5, e90_8, e90_9, e90_12, e90_15, e90_16, e90_19, e90_20, e90_23, e90_26, e90_27, e90_30, e90_33, Option.isSome_some, ab_bvh_some, ab_bvh_thr, ab_ge, ab_lt, ab_le, ab_gt, ab_eq, ab_ne, decide_eq_true_eq, ab_w_id, ab_w0, ab_gd_some, ab_gs_0, ab_gs_1, ab_gl_0, ab_gl_1, ab_bv_some, ab_bu_some, ab_bv_thr, ab_bu_thr, ab_fx_n, ab_fx_i, ab_fx_q, ab_fx_l, ab_sh_si, ab_gr_si, ab_gl_si, cs_n, ↓reduceIte, true_or, or_true, false_or, or_false, and_true, true_and, and_false, false_and, not_true_eq_false, not_false_eq_true, eq_self, Int.reduceEq, Int.reduceLT, Int.reduceLE, Int.reduceAdd, Int.reduceMul, Int.reduceNeg, if_pos, if_neg, hL.1, hL.2, e6, e7, m26 hL (show ab_gi h 1 0 ≤ 5 by omega) (show ab_gi h 1 1 ≤ 8 by omega) (hR.2.2.2 (cs_dk D (ab_gi h 0 3))) b4 (show cs_dk D (ab_gi h 0 3) < ab_gi h 1 0 by omega) b2 (show ab_gi h 0 3 / (D - 1) < ab_gi h 1 1 by omega) v1 v2]
theorem m91 {dd : Nat} {h : ab_H} {D S : Int} (q : cs_Q h D S) (h1 : 0 ≤ ab_gi h 0 3) (h2 : ab_gi h 0 3 < (D - 1) * S) (v1 : 0 ≤ ab_gi h 0 5) (v2 : ab_gi h 0 5 ≤ 255) :
    ab_E B (dd + 2) 91 0 [some (.inr (.inr (some 0))), none] [] h = some (.inl none, cs_lay h (ab_gi h 0 3 / (D - 1) % D) (ab_gi h 0 3 / (D - 1)) (ab_gi h 0 5)) := by
  obtain ⟨hR, eD, eS, D1, D2, S1, S2⟩ := q
  obtain ⟨b1, b2, b3, b4, b5, b6⟩ := cs_blk D1 D2 S2 h1 h2
  have hL := hR.1
  have sd1 : 0 ≤ ab_gi h 0 3 / (D - 1) % D := Int.emod_nonneg _ (by omega)
  have sd2 : ab_gi h 0 3 / (D - 1) % D < D := Int.emod_lt_of_pos _ (by omega)
  have e6 : ∀ d9, ab_E B d9 6 0 [some (.inr (.inr (some 1))), some (.inl (ab_gi h 0 3))] [] h = some (.inl (some (.inl (ab_gi h 0 3 / (D - 1)))), h) := fun d9 => by rw [m6 hR (by omega) h1 b1, eD]
  have e9 : ∀ d9, ab_E B d9 9 0 [some (.inr (.inr (some 1))), some (.inl (ab_gi h 0 3 / (D - 1)))] [] h = some (.inl (some (.inl (ab_gi h 0 3 / (D - 1) % D))), h) := fun d9 => by rw [m9 hR (by omega) b2 (by omega), eD]
  simp (disch := omega) only [e91_0, e91_1, e91_4, e91_5, e91_8, e91_11, e91_12, e91_13, e91_16, e91_17, e91_20, e91_21, e91_24, e91_25, e91_26, e91_29, e91_32, Option.isSome_some, ab_bvh_some, ab_bvh_thr, ab_ge, ab_lt, ab_le, ab_gt, ab_eq, ab_ne, decide_eq_true_eq, ab_w_id, ab_w0, ab_gd_some, ab_gs_0, ab_gs_1, ab_gl_0, ab_gl_1, ab_bv_some, ab_bu_some, ab_bv_thr, ab_bu_thr, ab_fx_n, ab_fx_i, ab_fx_q, ab_fx_l, ab_sh_si, ab_gr_si, ab_gl_si, cs_n, ↓reduceIte, true_or, or_true, false_or, or_false, and_true, true_and, and_false, false_and, not_true_eq_false, not_false_eq_true, eq_self, Int.reduceEq, Int.reduceLT, Int.reduceLE, Int.reduceAdd, Int.reduceMul, Int.reduceNeg, if_pos, if_neg, hL.1, hL.2, e6, e9, m26 hL (show ab_gi h 1 0 ≤ 5 by omega) (show ab_gi h 1 1 ≤ 8 by omega) (hR.2.2.2 (ab_gi h 0 3 / (D - 1) % D)) sd1 (show ab_gi h 0 3 / (D - 1) % D < ab_gi h 1 0 by omega) b2 (show ab_gi h 0 3 / (D - 1) < ab_gi h 1 1 by omega) v1 v2]
theorem m93 {dd : Nat} {h : ab_H} (hL : cs_L h) : ab_E B dd 93 0 [some (.inr (.inr (some 0)))] [] h = some (.inl none, ab_si (ab_si h 0 2 0) 0 11 (ab_gi h 0 11 + 1)) := by
  have f : ab_gi (ab_si h 0 2 0) 0 11 = ab_gi h 0 11 := by simp [ab_gi_si]
  simp (disch := omega) only [e93_0, e93_1, e93_2, e93_5, e93_6, e93_7, e93_10, e93_11, e93_12, e93_15, Option.isSome_some, ab_bvh_some, ab_bvh_thr, ab_ge, ab_lt, ab_le, ab_gt, ab_eq, ab_ne, decide_eq_true_eq, ab_w_id, ab_w0, ab_gd_some, ab_gs_0, ab_gs_1, ab_gl_0, ab_gl_1, ab_bv_some, ab_bu_some, ab_bv_thr, ab_bu_thr, ab_fx_n, ab_fx_i, ab_fx_q, ab_fx_l, ab_sh_si, ab_gr_si, ab_gl_si, cs_n, ↓reduceIte, true_or, or_true, false_or, or_false, and_true, true_and, and_false, false_and, not_true_eq_false, not_false_eq_true, eq_self, Int.reduceEq, Int.reduceLT, Int.reduceLE, Int.reduceAdd, Int.reduceMul, Int.reduceNeg, if_pos, if_neg, hL.1, hL.2, f, implies_true]
theorem m95 {dd : Nat} {h : ab_H} {D S k : Int} (q : cs_Q h D S) (hon : ab_gi h 0 2 = 0 ∨ ab_gi h 0 2 = 1) (k1 : 1 ≤ k) (k2 : k ≤ 8) :
    ab_E B dd 95 0 [some (.inr (.inr (some 0))), some (.inl k)] [] h = if ab_gi h 0 2 = 1 then some (.inl none, h) else some (.inr 3, ab_cost h 1 6) := by
  obtain ⟨hR, eD, eS, D1, D2, S1, S2⟩ := q
  have hL := hR.1
  have hd : ¬ ab_gi h 1 0 = 0 := by omega
  rcases hon with c | c <;> simp (disch := omega) only [e95_0, e95_1, e95_2, e95_5, e95_6, e95_8, e95_11, e95_21, e95_22, e95_25, e95_28, e95_31, e95_32, e95_35, e95_38, e95_49, Option.isSome_some, ab_bvh_some, ab_bvh_thr, ab_ge, ab_lt, ab_le, ab_gt, ab_eq, ab_ne, decide_eq_true_eq, ab_w_id, ab_w0, ab_gd_some, ab_gs_0, ab_gs_1, ab_gl_0, ab_gl_1, ab_bv_some, ab_bu_some, ab_bv_thr, ab_bu_thr, ab_fx_n, ab_fx_i, ab_fx_q, ab_fx_l, ab_sh_si, ab_gr_si, ab_gl_si, cs_n, ↓reduceIte, true_or, or_true, false_or, or_false, and_true, true_and, and_false, false_and, not_true_eq_false, not_false_eq_true, eq_self, Int.reduceEq, Int.reduceLT, Int.reduceLE, Int.reduceAdd, Int.reduceMul, Int.reduceNeg, if_pos, if_neg, hL.1, hL.2, c, eD]
/-- stripes are mended one behind the other -/
def cs_rd (S f : Int) : ab_H → Int → Nat → Int × ab_H
  | h, _, 0 => (0, h)
  | h, i, k + 1 => ((cs_mend h ((f + i) % S)).1 + (cs_rd S f (cs_mend h ((f + i) % S)).2 (i + 1) k).1, (cs_rd S f (cs_mend h ((f + i) % S)).2 (i + 1) k).2)
theorem cs_rd_ok {D S f : Int} : ∀ (k : Nat) (h : ab_H) (i : Int), cs_Q h D S → cs_G h → ab_gi h 0 3 = -1 → cs_Q (cs_rd S f h i k).2 D S ∧ cs_G (cs_rd S f h i k).2 ∧ (cs_rd S f h i k).2.2 = h.2 ∧ (∀ c x, c ≠ 2 → c ≠ 3 → ab_gi (cs_rd S f h i k).2 c x = ab_gi h c x) ∧ 0 ≤ (cs_rd S f h i k).1 ∧ (cs_rd S f h i k).1 ≤ k
  | 0, h, i, q, g, n => ⟨q, g, rfl, fun _ _ _ _ => rfl, by simp [cs_rd], by simp [cs_rd]⟩
  | k + 1, h, i, q, g, n => by
    have eS := q.2.2.1
    have S1 := q.2.2.2.2.2.1
    have s1 : 0 ≤ (f + i) % S := Int.emod_nonneg _ (by omega)
    have s2 : (f + i) % S < S := Int.emod_lt_of_pos _ (by omega)
    have hJ := cs_G_J g n _ s1 (show (f + i) % S < ab_gi h 1 1 by omega)
    obtain ⟨q1, g1, -, r1⟩ := cs_mend_ok q g s1 s2 hJ
    obtain ⟨a1, a2, a3, a4, a5, a6⟩ := cs_rd_ok (f := f) k (cs_mend h ((f + i) % S)).2 (i + 1) q1 g1 (by rw [cs_mend_gi q s1 s2 hJ (by decide) (by decide)]; exact n)
    unfold cs_rd
    refine ⟨a1, a2, a3.trans (cs_mend_snd q s1 s2 hJ), fun c x h2 h3 => (a4 c x h2 h3).trans (cs_mend_gi q s1 s2 hJ h2 h3), ?_, ?_⟩
    · show 0 ≤ _ + _
      rcases r1 with r | r <;> omega
    · show _ + _ ≤ _
      rcases r1 with r | r <;> omega
theorem m96_loop {dd : Nat} {D S f n : Int} (f1 : 0 ≤ f) (f2 : f < S) (n8 : n ≤ 8) : ∀ (k : Nat) (h : ab_H) (i c : Int), cs_Q h D S → cs_G h → ab_gi h 0 3 = -1 → 0 ≤ i → i + k = n → 0 ≤ c → c ≤ i →
    ab_E B (dd + 4) 96 5 [some (.inr (.inr (some 0))), some (.inl f), some (.inl n), some (.inl c), some (.inl i)] [] h = some (.inl (some (.inl (c + (cs_rd S f h i k).1))), ab_si (cs_rd S f h i k).2 0 10 (ab_gi h 0 10 + (c + (cs_rd S f h i k).1)))
  | 0, h, i, c, q, g, hn, q1, q2, c1, c2 => by
    have hL := q.1.1
    rw [e96_5]
    simp (disch := omega) only [e96_0, e96_1, e96_2, e96_3, e96_7, e96_8, e96_11, e96_12, e96_13, e96_16, e96_17, e96_20, e96_21, e96_23, e96_26, e96_29, e96_30, e96_31, e96_34, e96_37, e96_38, e96_39, e96_42, e96_43, e96_44, e96_47, e96_48, Option.isSome_some, ab_bvh_some, ab_bvh_thr, ab_ge, ab_lt, ab_le, ab_gt, ab_eq, ab_ne, decide_eq_true_eq, ab_w_id, ab_w0, ab_gd_some, ab_gs_0, ab_gs_1, ab_gl_0, ab_gl_1, ab_bv_some, ab_bu_some, ab_bv_thr, ab_bu_thr, ab_fx_n, ab_fx_i, ab_fx_q, ab_fx_l, ab_sh_si, ab_gr_si, ab_gl_si, cs_n, ↓reduceIte, true_or, or_true, false_or, or_false, and_true, true_and, and_false, false_and, not_true_eq_false, not_false_eq_true, eq_self, Int.reduceEq, Int.reduceLT, Int.reduceLE, Int.reduceAdd, Int.reduceMul, Int.reduceNeg, if_pos, if_neg, hL.1, hL.2, cs_rd, Int.add_zero]
  | k + 1, h, i, c, q, g, hn, q1, q2, c1, c2 => by
    have hL := q.1.1
    have eS := q.2.2.1
    have S1 := q.2.2.2.2.2.1
    have S2 := q.2.2.2.2.2.2
    have s1 : 0 ≤ (f + i) % S := Int.emod_nonneg _ (by omega)
    have s2 : (f + i) % S < S := Int.emod_lt_of_pos _ (by omega)
    have hJ := cs_G_J g hn _ s1 (show (f + i) % S < ab_gi h 1 1 by omega)
    obtain ⟨p1, g1, -, r1⟩ := cs_mend_ok q g s1 s2 hJ
    have e10 : ∀ d9, ab_E B d9 10 0 [some (.inr (.inr (some 1))), some (.inl f), some (.inl i)] [] h = some (.inl (some (.inl ((f + i) % S))), h) := fun d9 => by rw [m10 q.1 (by omega) f1 (by omega) q1 (by omega), eS]
    have e27 := m27 (B := B) (dd := dd) q.1 s1 (show (f + i) % S < ab_gi h 1 1 by omega)
    have ih := m96_loop (dd := dd) f1 f2 n8 k (cs_mend h ((f + i) % S)).2 (i + 1) (c + (cs_mend h ((f + i) % S)).1) p1 g1 (by rw [cs_mend_gi q s1 s2 hJ (by decide) (by decide)]; exact hn) (by omega) (by omega) (by omega) (by omega)
    rw [cs_mend_gi q s1 s2 hJ (by decide) (by decide), Int.add_assoc] at ih
    rw [e96_5]
    simp (disch := omega) only [e96_0, e96_1, e96_2, e96_3, e96_7, e96_8, e96_11, e96_12, e96_13, e96_16, e96_17, e96_20, e96_21, e96_23, e96_26, e96_29, e96_30, e96_31, e96_34, e96_37, e96_38, e96_39, e96_42, e96_43, e96_44, e96_47, e96_48, Option.isSome_some, ab_bvh_some, ab_bvh_thr, ab_ge, ab_lt, ab_le, ab_gt, ab_eq, ab_ne, decide_eq_true_eq, ab_w_id, ab_w0, ab_gd_some, ab_gs_0, ab_gs_1, ab_gl_0, ab_gl_1, ab_bv_some, ab_bu_some, ab_bv_thr, ab_bu_thr, ab_fx_n, ab_fx_i, ab_fx_q, ab_fx_l, ab_sh_si, ab_gr_si, ab_gl_si, cs_n, ↓reduceIte, true_or, or_true, false_or, or_false, and_true, true_and, and_false, false_and, not_true_eq_false, not_false_eq_true, eq_self, Int.reduceEq, Int.reduceLT, Int.reduceLE, Int.reduceAdd, Int.reduceMul, Int.reduceNeg, if_pos, if_neg, hL.1, hL.2, e10, e27]
    exact ih
theorem m96 {dd : Nat} {D S f n : Int} {h : ab_H} (q : cs_Q h D S) (g : cs_G h) (hn : ab_gi h 0 3 = -1) (f1 : 0 ≤ f) (f2 : f < S) (n1 : 1 ≤ n) (n8 : n ≤ 8) :
    ab_E B (dd + 4) 96 0 [some (.inr (.inr (some 0))), some (.inl f), some (.inl n), none, none] [] h = some (.inl (some (.inl (cs_rd S f h 0 n.toNat).1)), ab_si (cs_rd S f h 0 n.toNat).2 0 10 (ab_gi h 0 10 + (cs_rd S f h 0 n.toNat).1)) := by
  have lp := m96_loop (B := B) (dd := dd) f1 f2 n8 n.toNat h 0 0 q g hn (by omega) (by omega) (by omega) (by omega)
  rw [Int.zero_add] at lp
  rw [← lp]
  simp (disch := omega) only [e96_0, e96_1, e96_2, e96_3, e96_7, e96_8, e96_11, e96_12, e96_13, e96_16, e96_17, e96_20, e96_21, e96_23, e96_26, e96_29, e96_30, e96_31, e96_34, e96_37, e96_38, e96_39, e96_42, e96_43, e96_44, e96_47, e96_48, Option.isSome_some, ab_bvh_some, ab_bvh_thr, ab_ge, ab_lt, ab_le, ab_gt, ab_eq, ab_ne, decide_eq_true_eq, ab_w_id, ab_w0, ab_gd_some, ab_gs_0, ab_gs_1, ab_gl_0, ab_gl_1, ab_bv_some, ab_bu_some, ab_bv_thr, ab_bu_thr, ab_fx_n, ab_fx_i, ab_fx_q, ab_fx_l, ab_sh_si, ab_gr_si, ab_gl_si, cs_n, ↓reduceIte, true_or, or_true, false_or, or_false, and_true, true_and, and_false, false_and, not_true_eq_false, not_false_eq_true, eq_self, Int.reduceEq, Int.reduceLT, Int.reduceLE, Int.reduceAdd, Int.reduceMul, Int.reduceNeg, if_pos, if_neg]
end
