set_option linter.all false
/-! THE RACK IS BUILT -/
section
variable {B : ab_B}
theorem m35n {dd : Nat} {h : ab_H} {d s : Int} (hL : cs_L h) (hD : ab_gi h 1 0 ≤ 5) (hS : ab_gi h 1 1 ≤ 8) (hD0 : 0 ≤ ab_gi h 1 0) (hS0 : 0 ≤ ab_gi h 1 1) (h1 : 0 ≤ d) (h2 : d < 5) (h3 : 0 ≤ s) (h4 : s < 8) (hn : ¬ (d < ab_gi h 1 0 ∧ s < ab_gi h 1 1)) :
    ab_E B dd 35 0 [some (.inr (.inr (.inl (some 1)))), some (.inl d), some (.inl s), none] [] h = some (.inl (some (.inl (-1))), h) := by
  by_cases c : d < ab_gi h 1 0
  · simp (disch := omega) only [e35_0, e35_1, e35_4, e35_5, e35_6, e35_9, e35_12, e35_13, e35_16, e35_17, e35_18, e35_21, e35_24, e35_25, e35_28, e35_29, e35_30, e35_31, e35_34, e35_35, e35_37, e35_38, e35_39, e35_40, e35_43, e35_44, implies_true, Int.reduceSub, Option.isNone_some, Option.isNone_none, ab_bh_some, ab_bh_thr, ab_gs_3, ab_gl_2, ab_gl_3, ab_gt_some, ab_gc_0, ab_gk_0, Bool.false_eq_true, Bool.true_eq_false, false_implies, Nat.reduceEqDiff, ab_ge, ab_lt, ab_le, ab_gt, ab_eq, ab_ne, decide_eq_true_eq, ab_w_id, ab_w0, ab_gd_some, ab_gs_0, ab_gs_1, ab_gl_0, ab_gl_1, ab_bv_some, ab_bu_some, ab_bv_thr, ab_bu_thr, ab_fx_n, ab_fx_i, ab_fx_q, ab_fx_l, ab_sh_si, ab_gr_si, ab_gl_si, cs_n, ↓reduceIte, true_or, or_true, false_or, or_false, and_true, true_and, and_false, false_and, not_true_eq_false, not_false_eq_true, eq_self, Int.reduceEq, Int.reduceLT, Int.reduceLE, Int.reduceAdd, Int.reduceMul, Int.reduceNeg, if_pos, if_neg, hL.1, hL.2]
  · simp (disch := omega) only [e35_0, e35_1, e35_4, e35_5, e35_6, e35_9, e35_12, e35_13, e35_16, e35_17, e35_18, e35_21, e35_24, e35_25, e35_28, e35_29, e35_30, e35_31, e35_34, e35_35, e35_37, e35_38, e35_39, e35_40, e35_43, e35_44, implies_true, Int.reduceSub, Option.isNone_some, Option.isNone_none, ab_bh_some, ab_bh_thr, ab_gs_3, ab_gl_2, ab_gl_3, ab_gt_some, ab_gc_0, ab_gk_0, Bool.false_eq_true, Bool.true_eq_false, false_implies, Nat.reduceEqDiff, ab_ge, ab_lt, ab_le, ab_gt, ab_eq, ab_ne, decide_eq_true_eq, ab_w_id, ab_w0, ab_gd_some, ab_gs_0, ab_gs_1, ab_gl_0, ab_gl_1, ab_bv_some, ab_bu_some, ab_bv_thr, ab_bu_thr, ab_fx_n, ab_fx_i, ab_fx_q, ab_fx_l, ab_sh_si, ab_gr_si, ab_gl_si, cs_n, ↓reduceIte, true_or, or_true, false_or, or_false, and_true, true_and, and_false, false_and, not_true_eq_false, not_false_eq_true, eq_self, Int.reduceEq, Int.reduceLT, Int.reduceLE, Int.reduceAdd, Int.reduceMul, Int.reduceNeg, if_pos, if_neg, hL.1, hL.2]
theorem m26n {dd : Nat} {h : ab_H} {d s v : Int} (hL : cs_L h) (hD : ab_gi h 1 0 ≤ 5) (hS : ab_gi h 1 1 ≤ 8) (hD0 : 0 ≤ ab_gi h 1 0) (hS0 : 0 ≤ ab_gi h 1 1) (h1 : 0 ≤ d) (h2 : d < 5) (h3 : 0 ≤ s) (h4 : s < 8) (hn : ¬ (d < ab_gi h 1 0 ∧ s < ab_gi h 1 1)) :
    ab_E B (dd + 1) 26 0 [some (.inr (.inr (.inl (some 1)))), some (.inl d), some (.inl s), some (.inl v), none] [] h = some (.inl none, h) := by
  simp (disch := omega) only [e26_0, e26_1, e26_2, e26_3, e26_6, e26_8, e26_10, e26_11, e26_14, e26_15, e26_16, e26_19, e26_22, e26_23, e26_26, e26_28, e26_29, e26_30, e26_31, e26_34, e26_36, e26_37, e26_38, e26_39, e26_42, e26_43, implies_true, Int.reduceSub, Option.isNone_some, Option.isNone_none, ab_bh_some, ab_bh_thr, ab_gs_3, ab_gl_2, ab_gl_3, ab_gt_some, ab_gc_0, ab_gk_0, Bool.false_eq_true, Bool.true_eq_false, false_implies, Nat.reduceEqDiff, ab_ge, ab_lt, ab_le, ab_gt, ab_eq, ab_ne, decide_eq_true_eq, ab_w_id, ab_w0, ab_gd_some, ab_gs_0, ab_gs_1, ab_gl_0, ab_gl_1, ab_bv_some, ab_bu_some, ab_bv_thr, ab_bu_thr, ab_fx_n, ab_fx_i, ab_fx_q, ab_fx_l, ab_sh_si, ab_gr_si, ab_gl_si, cs_n, ↓reduceIte, true_or, or_true, false_or, or_false, and_true, true_and, and_false, false_and, not_true_eq_false, not_false_eq_true, eq_self, Int.reduceEq, Int.reduceLT, Int.reduceLE, Int.reduceAdd, Int.reduceMul, Int.reduceNeg, if_pos, if_neg, hL.1, hL.2, m35n hL hD hS hD0 hS0 h1 h2 h3 h4 hn]
/-- the cells of the disk d from the stripe s on are new -/
def cs_Bq (D S d s : Int) (h h' : ab_H) : Prop := h'.2 = h.2 ∧ (∀ c x, c ≠ 2 → c ≠ 3 → c ≠ 4 → ab_gi h' c x = ab_gi h c x) ∧ (∀ c x, (x < d * 8 + s ∨ d * 8 + 8 ≤ x) → ab_gi h' c x = ab_gi h c x) ∧ (∀ j, s ≤ j → j < 8 → ab_gi h' 4 (d * 8 + j) = 0) ∧ (d < D → ∀ j, s ≤ j → j < S → ab_gi h' 2 (d * 8 + j) = 0 ∧ ab_gi h' 3 (d * 8 + j) = j) ∧ (∀ j, s ≤ j → j < 8 → ¬ (d < D ∧ j < S) → ab_gi h' 2 (d * 8 + j) = ab_gi h 2 (d * 8 + j) ∧ ab_gi h' 3 (d * 8 + j) = ab_gi h 3 (d * 8 + j))
theorem m1_in {dd : Nat} {D S d : Int} (hD : 3 ≤ D) (hD5 : D ≤ 5) (hS : 1 ≤ S) (hS8 : S ≤ 8) (d1 : 0 ≤ d) (d2 : d < 5) : ∀ (k : Nat) (h : ab_H) (s : Int), cs_L h → ab_gi h 1 0 = D → ab_gi h 1 1 = S → ab_gi h 5 d = 0 → 0 ≤ s → s + k = 8 →
    ∃ h', ab_E B (dd + 2) 1 34 [some (.inr (.inr (.inl (some 1)))), some (.inl D), some (.inl S), some (.inl d), some (.inl s)] [] h = ab_E B (dd + 2) 1 68 [some (.inr (.inr (.inl (some 1)))), some (.inl D), some (.inl S), some (.inl d), some (.inl 8)] [] h' ∧ cs_Bq D S d s h h'
  | 0, h, s, hL, eD, eS, e5, q1, q2 => by
    have e : s = 8 := by omega
    subst e
    refine ⟨h, ?_, rfl, fun _ _ _ _ _ => rfl, fun _ _ _ => rfl, fun j _ _ => by omega, fun _ j _ _ => by omega, fun j _ _ => by omega⟩
    rw [e1_34]
    simp (disch := omega) only [e1_0, e1_1, e1_2, e1_5, e1_6, e1_7, e1_10, e1_11, e1_12, e1_13, e1_14, e1_17, e1_18, e1_21, e1_22, e1_23, e1_24, e1_25, e1_28, e1_29, e1_30, e1_31, e1_32, e1_36, e1_38, e1_41, e1_42, e1_45, e1_46, e1_48, e1_49, e1_51, e1_52, e1_53, e1_54, e1_55, e1_56, e1_58, e1_59, e1_62, e1_65, e1_71, e1_74, implies_true, Int.reduceSub, Option.isNone_some, Option.isNone_none, ab_bh_some, ab_bh_thr, ab_gs_3, ab_gl_2, ab_gl_3, ab_gt_some, ab_gc_0, ab_gk_0, Bool.false_eq_true, Bool.true_eq_false, false_implies, Nat.reduceEqDiff, ab_ge, ab_lt, ab_le, ab_gt, ab_eq, ab_ne, decide_eq_true_eq, ab_w_id, ab_w0, ab_gd_some, ab_gs_0, ab_gs_1, ab_gl_0, ab_gl_1, ab_bv_some, ab_bu_some, ab_bv_thr, ab_bu_thr, ab_fx_n, ab_fx_i, ab_fx_q, ab_fx_l, ab_sh_si, ab_gr_si, ab_gl_si, cs_n, ↓reduceIte, true_or, or_true, false_or, or_false, and_true, true_and, and_false, false_and, not_true_eq_false, not_false_eq_true, eq_self, Int.reduceEq, Int.reduceLT, Int.reduceLE, Int.reduceAdd, Int.reduceMul, Int.reduceNeg, if_pos, if_neg, hL.1, hL.2]
  | k + 1, h, s, hL, eD, eS, e5, q1, q2 => by
    have hL4 : cs_L (ab_si h 4 (d * 8 + s) 0) := hL
    have f4 : ∀ c x, c ≠ 4 → ab_gi (ab_si h 4 (d * 8 + s) 0) c x = ab_gi h c x := fun c x hc => by rw [ab_gi_si, if_neg (fun q => hc q.1)]
    have eD4 := (f4 1 0 (by decide)).trans eD
    have eS4 := (f4 1 1 (by decide)).trans eS
    have e54 := (f4 5 d (by decide)).trans e5
    by_cases c : d < D ∧ s < S
    · have hlay := m26 (B := B) (dd := dd) (v := 0) hL4 (by omega) (by omega) (Or.inl e54) d1 (by omega) q1 (by omega) (by omega) (by omega)
      have el : cs_lay (ab_si h 4 (d * 8 + s) 0) d s 0 = ab_si (ab_si (ab_si h 4 (d * 8 + s) 0) 2 (d * 8 + s) 0) 3 (d * 8 + s) s := by
        unfold cs_lay
        rw [if_neg (by omega), show (7 * 0 + s) % 256 = s from by omega]
      rw [el] at hlay
      obtain ⟨h', a, b1, b2, b3, b4, b5, b6⟩ := m1_in hD hD5 hS hS8 d1 d2 k (ab_si (ab_si (ab_si h 4 (d * 8 + s) 0) 2 (d * 8 + s) 0) 3 (d * 8 + s) s) (s + 1) hL (by simp only [ab_gi_si]; simp; exact eD) (by simp only [ab_gi_si]; simp; exact eS) (by simp only [ab_gi_si]; simp; exact e5) (by omega) (by omega)
      refine ⟨h', ?_, b1, fun c x n2 n3 n4 => ?_, fun c x hx => ?_, fun j j1 j2 => ?_, fun hd j j1 j2 => ?_, fun j j1 j2 hn => ?_⟩
      · rw [e1_34, ← a]
        simp (disch := omega) only [e1_0, e1_1, e1_2, e1_5, e1_6, e1_7, e1_10, e1_11, e1_12, e1_13, e1_14, e1_17, e1_18, e1_21, e1_22, e1_23, e1_24, e1_25, e1_28, e1_29, e1_30, e1_31, e1_32, e1_36, e1_38, e1_41, e1_42, e1_45, e1_46, e1_48, e1_49, e1_51, e1_52, e1_53, e1_54, e1_55, e1_56, e1_58, e1_59, e1_62, e1_65, e1_71, e1_74, implies_true, Int.reduceSub, Option.isNone_some, Option.isNone_none, ab_bh_some, ab_bh_thr, ab_gs_3, ab_gl_2, ab_gl_3, ab_gt_some, ab_gc_0, ab_gk_0, Bool.false_eq_true, Bool.true_eq_false, false_implies, Nat.reduceEqDiff, ab_ge, ab_lt, ab_le, ab_gt, ab_eq, ab_ne, decide_eq_true_eq, ab_w_id, ab_w0, ab_gd_some, ab_gs_0, ab_gs_1, ab_gl_0, ab_gl_1, ab_bv_some, ab_bu_some, ab_bv_thr, ab_bu_thr, ab_fx_n, ab_fx_i, ab_fx_q, ab_fx_l, ab_sh_si, ab_gr_si, ab_gl_si, cs_n, ↓reduceIte, true_or, or_true, false_or, or_false, and_true, true_and, and_false, false_and, not_true_eq_false, not_false_eq_true, eq_self, Int.reduceEq, Int.reduceLT, Int.reduceLE, Int.reduceAdd, Int.reduceMul, Int.reduceNeg, if_pos, if_neg, hL.1, hL.2, hlay]
      · rw [b2 c x n2 n3 n4]; simp only [ab_gi_si, if_neg (fun q : c = 3 ∧ _ => n3 q.1), if_neg (fun q : c = 2 ∧ _ => n2 q.1), if_neg (fun q : c = 4 ∧ _ => n4 q.1)]
      · rw [b3 c x (by omega)]
        have hne : x ≠ d * 8 + s := by omega
        simp only [ab_gi_si, if_neg (fun q : _ ∧ x = d * 8 + s => hne q.2)]
      · by_cases e : j = s
        · subst e; rw [b3 4 _ (by omega)]; simp [ab_gi_si]
        · exact b4 j (by omega) j2
      · by_cases e : j = s
        · subst e; rw [b3 2 _ (by omega), b3 3 _ (by omega)]; simp [ab_gi_si]
        · exact b5 hd j (by omega) j2
      · have e : j ≠ s := fun e => hn (by rw [e]; exact c)
        obtain ⟨y1, y2⟩ := b6 j (by omega) j2 hn
        have hne : d * 8 + j ≠ d * 8 + s := by omega
        rw [y1, y2]
        constructor <;> simp only [ab_gi_si, if_neg (fun q : _ ∧ d * 8 + j = d * 8 + s => hne q.2)]
    · have hlay := m26n (B := B) (dd := dd) (v := 0) hL4 (by omega) (by omega) (by omega) (by omega) d1 d2 q1 (show s < 8 by omega) (by rw [eD4, eS4]; exact c)
      obtain ⟨h', a, b1, b2, b3, b4, b5, b6⟩ := m1_in hD hD5 hS hS8 d1 d2 k (ab_si h 4 (d * 8 + s) 0) (s + 1) hL eD4 eS4 e54 (by omega) (by omega)
      refine ⟨h', ?_, b1, fun c x n2 n3 n4 => ?_, fun c x hx => ?_, fun j j1 j2 => ?_, fun hd j j1 j2 => ?_, fun j j1 j2 hn => ?_⟩
      · rw [e1_34, ← a]
        simp (disch := omega) only [e1_0, e1_1, e1_2, e1_5, e1_6, e1_7, e1_10, e1_11, e1_12, e1_13, e1_14, e1_17, e1_18, e1_21, e1_22, e1_23, e1_24, e1_25, e1_28, e1_29, e1_30, e1_31, e1_32, e1_36, e1_38, e1_41, e1_42, e1_45, e1_46, e1_48, e1_49, e1_51, e1_52, e1_53, e1_54, e1_55, e1_56, e1_58, e1_59, e1_62, e1_65, e1_71, e1_74, implies_true, Int.reduceSub, Option.isNone_some, Option.isNone_none, ab_bh_some, ab_bh_thr, ab_gs_3, ab_gl_2, ab_gl_3, ab_gt_some, ab_gc_0, ab_gk_0, Bool.false_eq_true, Bool.true_eq_false, false_implies, Nat.reduceEqDiff, ab_ge, ab_lt, ab_le, ab_gt, ab_eq, ab_ne, decide_eq_true_eq, ab_w_id, ab_w0, ab_gd_some, ab_gs_0, ab_gs_1, ab_gl_0, ab_gl_1, ab_bv_some, ab_bu_some, ab_bv_thr, ab_bu_thr, ab_fx_n, ab_fx_i, ab_fx_q, ab_fx_l, ab_sh_si, ab_gr_si, ab_gl_si, cs_n, ↓reduceIte, true_or, or_true, false_or, or_false, and_true, true_and, and_false, false_and, not_true_eq_false, not_false_eq_true, eq_self, Int.reduceEq, Int.reduceLT, Int.reduceLE, Int.reduceAdd, Int.reduceMul, Int.reduceNeg, if_pos, if_neg, hL.1, hL.2, hlay]
      · rw [b2 c x n2 n3 n4, f4 c x n4]
      · rw [b3 c x (by omega)]
        have hne : x ≠ d * 8 + s := by omega
        simp only [ab_gi_si, if_neg (fun q : _ ∧ x = d * 8 + s => hne q.2)]
      · by_cases e : j = s
        · subst e; rw [b3 4 _ (by omega)]; simp [ab_gi_si]
        · exact b4 j (by omega) j2
      · have e : j ≠ s := fun e => c (by rw [← e]; exact ⟨hd, j2⟩)
        exact b5 hd j (by omega) j2
      · by_cases e : j = s
        · subst e
          rw [b3 2 _ (by omega), b3 3 _ (by omega), f4 2 _ (by decide), f4 3 _ (by decide)]
          exact ⟨rfl, rfl⟩
        · obtain ⟨y1, y2⟩ := b6 j (by omega) j2 hn
          rw [y1, y2, f4 2 _ (by decide), f4 3 _ (by decide)]
          exact ⟨rfl, rfl⟩
/-- the disks from i on are new -/
def cs_Bo (D S i : Int) (h h' : ab_H) : Prop := h'.2 = h.2 ∧ (∀ c x, c ≠ 2 → c ≠ 3 → c ≠ 4 → c ≠ 5 → c ≠ 6 → ab_gi h' c x = ab_gi h c x) ∧ (∀ c x, c = 2 ∨ c = 3 ∨ c = 4 → x < i * 8 → ab_gi h' c x = ab_gi h c x) ∧ (∀ c x, c = 5 ∨ c = 6 → ab_gi h' c x = if i ≤ x ∧ x < 5 then 0 else ab_gi h c x) ∧
  (∀ d, i ≤ d → d < 5 → (∀ j, 0 ≤ j → j < 8 → ab_gi h' 4 (d * 8 + j) = 0) ∧ (d < D → ∀ j, 0 ≤ j → j < S → ab_gi h' 2 (d * 8 + j) = 0 ∧ ab_gi h' 3 (d * 8 + j) = j) ∧ (∀ j, 0 ≤ j → j < 8 → ¬ (d < D ∧ j < S) → ab_gi h' 2 (d * 8 + j) = ab_gi h 2 (d * 8 + j) ∧ ab_gi h' 3 (d * 8 + j) = ab_gi h 3 (d * 8 + j)))
theorem m1_out {dd : Nat} {D S : Int} (hD : 3 ≤ D) (hD5 : D ≤ 5) (hS : 1 ≤ S) (hS8 : S ≤ 8) : ∀ (k : Nat) (h : ab_H) (i : Int) (o4 : Option ab_V), cs_L h → ab_gi h 1 0 = D → ab_gi h 1 1 = S → 0 ≤ i → i + k = 5 →
    ∃ h', ab_E B (dd + 2) 1 12 [some (.inr (.inr (.inl (some 1)))), some (.inl D), some (.inl S), some (.inl i), o4] [] h = some (.inl none, h') ∧ cs_Bo D S i h h'
  | 0, h, i, o4, hL, eD, eS, q1, q2 => by
    have e : i = 5 := by omega
    subst e
    refine ⟨h, ?_, rfl, fun _ _ _ _ _ _ _ => rfl, fun _ _ _ _ => rfl, fun c x _ => by rw [if_neg (by omega)], fun d _ _ => by omega⟩
    rw [e1_12]
    simp (disch := omega) only [e1_0, e1_1, e1_2, e1_5, e1_6, e1_7, e1_10, e1_11, e1_13, e1_14, e1_17, e1_18, e1_21, e1_22, e1_23, e1_24, e1_25, e1_28, e1_29, e1_30, e1_31, e1_32, e1_34, e1_36, e1_38, e1_41, e1_42, e1_45, e1_46, e1_48, e1_49, e1_51, e1_52, e1_53, e1_54, e1_55, e1_56, e1_58, e1_59, e1_62, e1_65, e1_68, e1_71, e1_74, implies_true, Int.reduceSub, Option.isNone_some, Option.isNone_none, ab_bh_some, ab_bh_thr, ab_gs_3, ab_gl_2, ab_gl_3, ab_gt_some, ab_gc_0, ab_gk_0, Bool.false_eq_true, Bool.true_eq_false, false_implies, Nat.reduceEqDiff, ab_ge, ab_lt, ab_le, ab_gt, ab_eq, ab_ne, decide_eq_true_eq, ab_w_id, ab_w0, ab_gd_some, ab_gs_0, ab_gs_1, ab_gl_0, ab_gl_1, ab_bv_some, ab_bu_some, ab_bv_thr, ab_bu_thr, ab_fx_n, ab_fx_i, ab_fx_q, ab_fx_l, ab_sh_si, ab_gr_si, ab_gl_si, cs_n, ↓reduceIte, true_or, or_true, false_or, or_false, and_true, true_and, and_false, false_and, not_true_eq_false, not_false_eq_true, eq_self, Int.reduceEq, Int.reduceLT, Int.reduceLE, Int.reduceAdd, Int.reduceMul, Int.reduceNeg, if_pos, if_neg, hL.1, hL.2]
  | k + 1, h, i, o4, hL, eD, eS, q1, q2 => by
    have g : ∀ c x, c ≠ 5 → c ≠ 6 → ab_gi (ab_si (ab_si h 5 i 0) 6 i 0) c x = ab_gi h c x := fun c x n5 n6 => by
      rw [ab_gi_si, if_neg (fun q => n6 q.1), ab_gi_si, if_neg (fun q => n5 q.1)]
    obtain ⟨h1, a1, b1, b2, b3, b4, b5, b6⟩ := m1_in (B := B) (dd := dd) hD hD5 hS hS8 q1 (show i < 5 by omega) 8 (ab_si (ab_si h 5 i 0) 6 i 0) 0 hL (by rw [g 1 0 (by decide) (by decide)]; exact eD) (by rw [g 1 1 (by decide) (by decide)]; exact eS) (by simp [ab_gi_si]) (by omega) (by omega)
    have hL1 : cs_L h1 := by
      have e1 : ab_sh h1 = ab_sh h := by unfold ab_sh; rw [b1]; rfl
      have e2 : ab_gr h1 = ab_gr h := by unfold ab_gr; rw [b1]; rfl
      unfold cs_L; rw [e1, e2]; exact hL
    obtain ⟨h2, a2, c1, c2, c3, c4, c5⟩ := m1_out (dd := dd) hD hD5 hS hS8 k h1 (i + 1) (some (.inl 8)) hL1 (by rw [b2 1 0 (by decide) (by decide) (by decide), g 1 0 (by decide) (by decide)]; exact eD) (by rw [b2 1 1 (by decide) (by decide) (by decide), g 1 1 (by decide) (by decide)]; exact eS) (by omega) (by omega)
    refine ⟨h2, ?_, c1.trans b1, fun c x n2 n3 n4 n5 n6 => by rw [c2 c x n2 n3 n4 n5 n6, b2 c x n2 n3 n4, g c x n5 n6], fun c x hc hx => ?_, fun c x hc => ?_, fun d d1 d2 => ?_⟩
    · rw [e1_12]
      simp (disch := omega) only [e1_0, e1_1, e1_2, e1_5, e1_6, e1_7, e1_10, e1_11, e1_13, e1_14, e1_17, e1_18, e1_21, e1_22, e1_23, e1_24, e1_25, e1_28, e1_29, e1_30, e1_31, e1_32, e1_36, e1_38, e1_41, e1_42, e1_45, e1_46, e1_48, e1_49, e1_51, e1_52, e1_53, e1_54, e1_55, e1_56, e1_58, e1_59, e1_62, e1_65, e1_74, implies_true, Int.reduceSub, Option.isNone_some, Option.isNone_none, ab_bh_some, ab_bh_thr, ab_gs_3, ab_gl_2, ab_gl_3, ab_gt_some, ab_gc_0, ab_gk_0, Bool.false_eq_true, Bool.true_eq_false, false_implies, Nat.reduceEqDiff, ab_ge, ab_lt, ab_le, ab_gt, ab_eq, ab_ne, decide_eq_true_eq, ab_w_id, ab_w0, ab_gd_some, ab_gs_0, ab_gs_1, ab_gl_0, ab_gl_1, ab_bv_some, ab_bu_some, ab_bv_thr, ab_bu_thr, ab_fx_n, ab_fx_i, ab_fx_q, ab_fx_l, ab_sh_si, ab_gr_si, ab_gl_si, cs_n, ↓reduceIte, true_or, or_true, false_or, or_false, and_true, true_and, and_false, false_and, not_true_eq_false, not_false_eq_true, eq_self, Int.reduceEq, Int.reduceLT, Int.reduceLE, Int.reduceAdd, Int.reduceMul, Int.reduceNeg, if_pos, if_neg, hL.1, hL.2]
      rw [a1, e1_68, e1_71, a2]
    · rw [c3 c x hc (by omega), b3 c x (by omega), g c x (by omega) (by omega)]
    · rw [c4 c x hc, b2 c x (by omega) (by omega) (by omega)]
      by_cases e : i + 1 ≤ x ∧ x < 5
      · rw [if_pos e, if_pos (by omega)]
      · rw [if_neg e]
        rcases hc with q | q <;> subst q
        · rw [ab_gi_si, if_neg (by simp), ab_gi_si]
          by_cases e2 : x = i
          · rw [if_pos ⟨rfl, e2⟩, if_pos (by omega)]
          · rw [if_neg (fun q => e2 q.2), if_neg (by omega)]
        · rw [ab_gi_si]
          by_cases e2 : x = i
          · rw [if_pos ⟨rfl, e2⟩, if_pos (by omega)]
          · rw [if_neg (fun q => e2 q.2), if_neg (by omega), ab_gi_si, if_neg (by simp)]
    · by_cases e : d = i
      · subst e
        refine ⟨fun j j1 j2 => by rw [c3 4 _ (by simp) (by omega)]; exact b4 j j1 j2, fun hd j j1 j2 => ?_, fun j j1 j2 hn => ?_⟩
        · rw [c3 2 _ (by simp) (by omega), c3 3 _ (by simp) (by omega)]; exact b5 hd j j1 j2
        · rw [c3 2 _ (by simp) (by omega), c3 3 _ (by simp) (by omega)]
          obtain ⟨y1, y2⟩ := b6 j j1 j2 hn
          rw [y1, y2, g 2 _ (by decide) (by decide), g 3 _ (by decide) (by decide)]; exact ⟨rfl, rfl⟩
      · obtain ⟨y1, y2, y3⟩ := c5 d (by omega) d2
        refine ⟨y1, y2, fun j j1 j2 hn => ?_⟩
        obtain ⟨z1, z2⟩ := y3 j j1 j2 hn
        rw [z1, z2, b3 2 _ (by omega), b3 3 _ (by omega), g 2 _ (by decide) (by decide), g 3 _ (by decide) (by decide)]; exact ⟨rfl, rfl⟩
theorem m1 {dd : Nat} {D S : Int} {h : ab_H} (hL : cs_L h) (hD : 3 ≤ D) (hD5 : D ≤ 5) (hS : 1 ≤ S) (hS8 : S ≤ 8) :
    ∃ h', ab_E B (dd + 2) 1 0 [some (.inr (.inr (.inl (some 1)))), some (.inl D), some (.inl S), none, none] [] h = some (.inl none, h') ∧ cs_Bo D S 0 (ab_si (ab_si h 1 0 D) 1 1 S) h' := by
  obtain ⟨h', a, b⟩ := m1_out (B := B) (dd := dd) hD hD5 hS hS8 5 (ab_si (ab_si h 1 0 D) 1 1 S) 0 none hL (by simp [ab_gi_si]) (by simp [ab_gi_si]) (by omega) (by omega)
  refine ⟨h', ?_, b⟩
  rw [← a]
  simp (disch := omega) only [e1_0, e1_1, e1_2, e1_5, e1_6, e1_7, e1_10, e1_11, e1_13, e1_14, e1_17, e1_18, e1_21, e1_22, e1_23, e1_24, e1_25, e1_28, e1_29, e1_30, e1_31, e1_32, e1_34, e1_36, e1_38, e1_41, e1_42, e1_45, e1_46, e1_48, e1_49, e1_51, e1_52, e1_53, e1_54, e1_55, e1_56, e1_58, e1_59, e1_62, e1_65, e1_68, e1_71, e1_74, implies_true, Int.reduceSub, Option.isNone_some, Option.isNone_none, ab_bh_some, ab_bh_thr, ab_gs_3, ab_gl_2, ab_gl_3, ab_gt_some, ab_gc_0, ab_gk_0, Bool.false_eq_true, Bool.true_eq_false, false_implies, Nat.reduceEqDiff, ab_ge, ab_lt, ab_le, ab_gt, ab_eq, ab_ne, decide_eq_true_eq, ab_w_id, ab_w0, ab_gd_some, ab_gs_0, ab_gs_1, ab_gl_0, ab_gl_1, ab_bv_some, ab_bu_some, ab_bv_thr, ab_bu_thr, ab_fx_n, ab_fx_i, ab_fx_q, ab_fx_l, ab_sh_si, ab_gr_si, ab_gl_si, cs_n, ↓reduceIte, true_or, or_true, false_or, or_false, and_true, true_and, and_false, false_and, not_true_eq_false, not_false_eq_true, eq_self, Int.reduceEq, Int.reduceLT, Int.reduceLE, Int.reduceAdd, Int.reduceMul, Int.reduceNeg, if_pos, if_neg, hL.1, hL.2]
end
