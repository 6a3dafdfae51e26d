set_option linter.all false
/-! THE REFERENCE: a new shelf -/
section
variable {B : ab_B}
/-- something new is made and kept in the field x -/
def sG (A A' : ab_H) (x : Int) (k s : Nat) : Prop := (∃ l, ab_sh A' = ab_sh A ++ l ∧ l.length = k) ∧ (∀ c y, c < ab_n A → ab_gr A' c y = if c = 18 ∧ y = x then some (ab_n A) else ab_gr A c y) ∧ (∀ c y, ab_gi A' c y = if ab_n A ≤ c ∧ c < ab_n A + k then 0 else ab_gi A c y) ∧ (∀ c y, c < ab_n A → ab_gl A' c y = ab_gl A c y) ∧ ab_kc A' = ab_kc A + k ∧ ab_ks A' = ab_ks A + s
theorem sG.n {A A' : ab_H} {x : Int} {k s : Nat} (a : sG A A' x k s) : ab_n A' = ab_n A + k := by
  obtain ⟨l, e, el⟩ := a.1
  unfold ab_n
  rw [e, List.length_append, el]
theorem sG.sh {A A' : ab_H} {x : Int} {k s : Nat} (a : sG A A' x k s) : ∀ (i : Nat) (y : Nat × Nat), (ab_sh A)[i]? = some y → (ab_sh A')[i]? = some y := fun _ _ q => by
  obtain ⟨l, e, -⟩ := a.1
  exact ab_sh_pre e q
theorem sG_new {A : ab_H} {x : Int} {t n : Nat} (h18 : 18 < ab_n A) : sG A (ab_sr (ab_new A t n) 18 x (some (ab_n A))) x 1 n := by
  refine ⟨⟨[(t, n)], by rw [ab_sh_sr, ab_sh_new], rfl⟩, fun c y hc => ?_, fun c y => ?_, fun c y hc => ?_, rfl, rfl⟩
  · rw [ab_gr_sr, ab_gr_new, if_neg (show ¬ c = ab_n A by omega)]
  · rw [ab_gi_sr, ab_gi_new]
    by_cases z : c = ab_n A
    · rw [if_pos z, if_pos (by omega)]
    · rw [if_neg z, if_neg (by omega)]
  · rw [ab_gl_sr, ab_gl_new, if_neg (by omega)]
theorem sG_mna {A : ab_H} {x : Int} {n k : Nat} (h18 : 18 < ab_n A) : sG A (ab_sr (ab_mna A n k) 18 x (some (ab_n A))) x (n + 1) (n + n * k) ∧ (ab_sh (ab_sr (ab_mna A n k) 18 x (some (ab_n A))))[ab_n A]? = some (2, n) ∧ ∀ d, 0 ≤ d → d < (n : Int) → ab_gr (ab_sr (ab_mna A n k) 18 x (some (ab_n A))) (ab_n A) d = some (ab_n A + 1 + d.toNat) ∧ (ab_sh (ab_sr (ab_mna A n k) 18 x (some (ab_n A))))[ab_n A + 1 + d.toNat]? = some (0, k) := by
  refine ⟨⟨⟨(2, n) :: List.replicate n (0, k), by rw [ab_sh_sr, ab_mna_sh], by simp⟩, fun c y hc => ?_, fun c y => ?_, fun c y hc => ?_, ?_, ?_⟩, ?_, fun d d1 d2 => ⟨?_, ?_⟩⟩
  · rw [ab_gr_sr]
    by_cases z : c = 18 ∧ y = x
    · rw [if_pos z, if_pos z]
    · rw [if_neg z, if_neg z]
      show (if c = ab_n A then _ else if ab_n A < c ∧ c ≤ ab_n A + n then none else ab_gr A c y) = _
      rw [if_neg (by omega), if_neg (by omega)]
  · rw [ab_gi_sr]
    show (if ab_n A ≤ c ∧ c ≤ ab_n A + n then 0 else ab_gi A c y) = _
    by_cases z : ab_n A ≤ c ∧ c ≤ ab_n A + n
    · rw [if_pos z, if_pos (by omega)]
    · rw [if_neg z, if_neg (by omega)]
  · rw [ab_gl_sr]
    show (if ab_n A ≤ c ∧ c ≤ ab_n A + n then 0 else ab_gl A c y) = _
    rw [if_neg (by omega)]
  · show ab_kc A + 1 + n = _
    omega
  · show ab_ks A + n + n * k = _
    omega
  · rw [ab_sh_sr, ab_mna_sh]
    unfold ab_n
    rw [List.getElem?_append_right (Nat.le_refl _), Nat.sub_self]
    rfl
  · rw [ab_gr_sr, if_neg (by omega)]
    show (if ab_n A = ab_n A then (if 0 ≤ d ∧ d < (n : Int) then some (ab_n A + 1 + d.toNat) else none) else _) = _
    rw [if_pos rfl, if_pos ⟨d1, d2⟩]
  · rw [ab_sh_sr, ab_mna_sh]
    unfold ab_n
    rw [List.getElem?_append_right (by omega), show (ab_sh A).length + 1 + d.toNat - (ab_sh A).length = d.toNat + 1 from by omega, List.getElem?_cons_succ, List.getElem?_replicate, if_pos (by omega)]
/-- all cells are laid -/
theorem n122_lay {dd : Nat} {d s D S : Int} {h : ab_H} {b : Nat} (hm : mL h b D S) (hD5 : D ≤ 5) (hS8 : S ≤ 8) (d1 : 0 ≤ d) (d2 : d < D) (s1 : 0 ≤ s) (s2 : s < S) :
    ab_E B dd 112 0 [some (.inr (.inr (.inl (some 18)))), some (.inl d), some (.inl s), some (.inl 0)] [] h = some (.inl none, ab_si (ab_si h (b + 1 + d.toNat) s 0) (b + 2 + D.toNat + d.toNat) s s) := by
  have hrow := hm.2.2.1 d d1 d2
  have e : ab_irem (7 * 0 + s) 256 = s := by rw [ab_irem_id (by omega) (by omega) (by omega) (by omega)]; omega
  rw [Int.mul_zero] at e
  simp (disch := omega) only [e112_0, e112_1, e112_4, e112_5, e112_6, e112_7, e112_8, e112_9, e112_10, e112_13, e112_14, e112_15, e112_16, e112_18, e112_19, e112_20, e112_21, e112_22, e112_25, e112_26, e112_27, implies_true, Int.reduceSub, Option.isNone_some, Option.isNone_none, ab_bh_some, ab_bh_thr, ab_gs_3, ab_gl_2, ab_gl_3, ab_gt_some, ab_gc_0, ab_gk_0, Bool.false_eq_true, Bool.true_eq_false, false_implies, Nat.reduceEqDiff, ab_ge, ab_lt, ab_le, ab_gt, ab_eq, ab_ne, decide_eq_true_eq, ab_w_id, ab_w0, ab_gd_some, ab_gs_0, ab_gs_1, ab_gl_0, ab_gl_1, ab_bv_some, ab_bu_some, ab_bv_thr, ab_bu_thr, ab_fx_n, ab_fx_i, ab_fx_q, ab_fx_l, ab_sh_si, ab_gr_si, ab_gl_si, cs_n, ↓reduceIte, true_or, or_true, false_or, or_false, and_true, true_and, and_false, false_and, not_true_eq_false, not_false_eq_true, eq_self, Int.reduceEq, Int.reduceLT, Int.reduceLE, Int.reduceAdd, Int.reduceMul, Int.reduceNeg, if_pos, if_neg, hm.1, hm.2.1, hrow, Int.mul_zero, e]
def sJ (h h' : ab_H) (b : Nat) (D S k n : Int) : Prop := h'.2 = h.2 ∧ ∀ c x, ab_gi h' c x = if (b + 2 + D.toNat ≤ c ∧ c < b + 2 + 2 * D.toNat) ∧ (0 ≤ x ∧ x < S) ∧ (c < b + 2 + D.toNat + k.toNat ∨ (c = b + 2 + D.toNat + k.toNat ∧ x < n)) then x else ab_gi h c x
theorem n122_in {dd : Nat} {d D S : Int} {h : ab_H} {b : Nat} (hm : mL h b D S) (hz : ∀ d s, 0 ≤ d → d < D → 0 ≤ s → s < S → ab_gi h (b + 1 + d.toNat) s = 0) (hD5 : D ≤ 5) (hS8 : S ≤ 8) (d1 : 0 ≤ d) (d2 : d < D) : ∀ (k : Nat) (s : Int) (h1 : ab_H), sJ h h1 b D S d s → 0 ≤ s → s + k = S →
    ∃ h', ab_E B (dd + 1) 122 143 [some (.inr (.inr (.inl (some 18)))), some (.inl D), some (.inl S), some (.inl d), some (.inl s)] [] h1 = ab_E B (dd + 1) 122 163 [some (.inr (.inr (.inl (some 18)))), some (.inl D), some (.inl S), some (.inl d), some (.inl S)] [] h' ∧ sJ h h' b D S d S
  | 0, s, h1, J, q1, q2 => by
    have e : s = S := by omega
    subst e
    refine ⟨h1, ?_, J⟩
    rw [e122_143]
    simp (disch := omega) only [e122_0, e122_1, e122_2, e122_3, e122_4, e122_7, e122_10, e122_11, e122_12, e122_14, e122_17, e122_20, e122_21, e122_24, e122_25, e122_26, e122_29, e122_32, e122_33, e122_34, e122_35, e122_36, e122_39, e122_40, e122_41, e122_44, e122_45, e122_46, e122_49, e122_50, e122_51, e122_54, e122_55, e122_56, e122_57, e122_61, e122_64, e122_65, e122_66, e122_67, e122_71, e122_74, e122_75, e122_76, e122_78, e122_81, e122_82, e122_83, e122_85, e122_88, e122_89, e122_90, e122_93, e122_95, e122_98, e122_99, e122_100, e122_103, e122_104, e122_105, e122_108, e122_109, e122_110, e122_113, e122_114, e122_115, e122_118, e122_119, e122_120, e122_123, e122_124, e122_125, e122_128, e122_129, e122_130, e122_133, e122_134, e122_136, e122_137, e122_140, e122_141, e122_145, e122_146, e122_149, e122_150, e122_151, e122_153, e122_154, e122_157, e122_160, e122_166, e122_170, e122_173, implies_true, Int.reduceSub, Option.isNone_some, Option.isNone_none, ab_bh_some, ab_bh_thr, ab_gs_3, ab_gl_2, ab_gl_3, ab_gt_some, ab_gc_0, ab_gk_0, Bool.false_eq_true, Bool.true_eq_false, false_implies, Nat.reduceEqDiff, ab_ge, ab_lt, ab_le, ab_gt, ab_eq, ab_ne, decide_eq_true_eq, ab_w_id, ab_w0, ab_gd_some, ab_gs_0, ab_gs_1, ab_gl_0, ab_gl_1, ab_bv_some, ab_bu_some, ab_bv_thr, ab_bu_thr, ab_fx_n, ab_fx_i, ab_fx_q, ab_fx_l, ab_sh_si, ab_gr_si, ab_gl_si, cs_n, ↓reduceIte, true_or, or_true, false_or, or_false, and_true, true_and, and_false, false_and, not_true_eq_false, not_false_eq_true, eq_self, Int.reduceEq, Int.reduceLT, Int.reduceLE, Int.reduceAdd, Int.reduceMul, Int.reduceNeg, if_pos, if_neg]
  | k + 1, s, h1, J, q1, q2 => by
    have es : ab_sh h1 = ab_sh h := by unfold ab_sh; rw [J.1]
    have er : ab_gr h1 = ab_gr h := by unfold ab_gr; rw [J.1]
    have hm1 : mL h1 b D S := mL_of hm (fun i x q => by rw [es]; exact q) (fun c x _ _ _ => by rw [er])
    have el := n122_lay (B := B) (dd := dd) hm1 hD5 hS8 d1 d2 q1 (show s < S by omega)
    obtain ⟨h', a, J'⟩ := n122_in (dd := dd) hm hz hD5 hS8 d1 d2 k (s + 1) (ab_si (ab_si h1 (b + 1 + d.toNat) s 0) (b + 2 + D.toNat + d.toNat) s s) ⟨J.1, fun c x => by
      rw [ab_gi_si, ab_gi_si, J.2]
      by_cases z1 : c = b + 2 + D.toNat + d.toNat ∧ x = s
      · rw [if_pos z1, if_pos (by omega)]; exact z1.2.symm
      · rw [if_neg z1]
        by_cases z2 : c = b + 1 + d.toNat ∧ x = s
        · rw [if_pos z2, if_neg (by omega), z2.1, z2.2]; exact (hz d s d1 d2 q1 (by omega)).symm
        · rw [if_neg z2]
          by_cases z3 : (b + 2 + D.toNat ≤ c ∧ c < b + 2 + 2 * D.toNat) ∧ (0 ≤ x ∧ x < S) ∧ (c < b + 2 + D.toNat + d.toNat ∨ (c = b + 2 + D.toNat + d.toNat ∧ x < s))
          · rw [if_pos z3, if_pos (by omega)]
          · rw [if_neg z3, if_neg (by omega)]⟩ (by omega) (by omega)
    refine ⟨h', ?_, J'⟩
    rw [← a, e122_143]
    simp (disch := omega) only [e122_0, e122_1, e122_2, e122_3, e122_4, e122_7, e122_10, e122_11, e122_12, e122_14, e122_17, e122_20, e122_21, e122_24, e122_25, e122_26, e122_29, e122_32, e122_33, e122_34, e122_35, e122_36, e122_39, e122_40, e122_41, e122_44, e122_45, e122_46, e122_49, e122_50, e122_51, e122_54, e122_55, e122_56, e122_57, e122_61, e122_64, e122_65, e122_66, e122_67, e122_71, e122_74, e122_75, e122_76, e122_78, e122_81, e122_82, e122_83, e122_85, e122_88, e122_89, e122_90, e122_93, e122_95, e122_98, e122_99, e122_100, e122_103, e122_104, e122_105, e122_108, e122_109, e122_110, e122_113, e122_114, e122_115, e122_118, e122_119, e122_120, e122_123, e122_124, e122_125, e122_128, e122_129, e122_130, e122_133, e122_134, e122_136, e122_137, e122_140, e122_141, e122_145, e122_146, e122_149, e122_150, e122_151, e122_153, e122_154, e122_157, e122_160, e122_166, e122_170, e122_173, implies_true, Int.reduceSub, Option.isNone_some, Option.isNone_none, ab_bh_some, ab_bh_thr, ab_gs_3, ab_gl_2, ab_gl_3, ab_gt_some, ab_gc_0, ab_gk_0, Bool.false_eq_true, Bool.true_eq_false, false_implies, Nat.reduceEqDiff, ab_ge, ab_lt, ab_le, ab_gt, ab_eq, ab_ne, decide_eq_true_eq, ab_w_id, ab_w0, ab_gd_some, ab_gs_0, ab_gs_1, ab_gl_0, ab_gl_1, ab_bv_some, ab_bu_some, ab_bv_thr, ab_bu_thr, ab_fx_n, ab_fx_i, ab_fx_q, ab_fx_l, ab_sh_si, ab_gr_si, ab_gl_si, cs_n, ↓reduceIte, true_or, or_true, false_or, or_false, and_true, true_and, and_false, false_and, not_true_eq_false, not_false_eq_true, eq_self, Int.reduceEq, Int.reduceLT, Int.reduceLE, Int.reduceAdd, Int.reduceMul, Int.reduceNeg, if_pos, if_neg, hm1.1, el]
theorem n122_out {dd : Nat} {D S : Int} {h : ab_H} {b : Nat} (hm : mL h b D S) (hz : ∀ d s, 0 ≤ d → d < D → 0 ≤ s → s < S → ab_gi h (b + 1 + d.toNat) s = 0) (hD5 : D ≤ 5) (hS : 0 ≤ S) (hS8 : S ≤ 8) : ∀ (k : Nat) (d : Int) (o4 : Option ab_V) (h1 : ab_H), sJ h h1 b D S d 0 → 0 ≤ d → d + k = D →
    ∃ h' o4', ab_E B (dd + 1) 122 135 [some (.inr (.inr (.inl (some 18)))), some (.inl D), some (.inl S), some (.inl d), o4] [] h1 = ab_E B (dd + 1) 122 169 [some (.inr (.inr (.inl (some 18)))), some (.inl D), some (.inl S), some (.inl D), o4'] [] h' ∧ sJ h h' b D S D 0
  | 0, d, o4, h1, J, q1, q2 => by
    have e : d = D := by omega
    subst e
    refine ⟨h1, o4, ?_, J⟩
    rw [e122_135]
    simp (disch := omega) only [e122_0, e122_1, e122_2, e122_3, e122_4, e122_7, e122_10, e122_11, e122_12, e122_14, e122_17, e122_20, e122_21, e122_24, e122_25, e122_26, e122_29, e122_32, e122_33, e122_34, e122_35, e122_36, e122_39, e122_40, e122_41, e122_44, e122_45, e122_46, e122_49, e122_50, e122_51, e122_54, e122_55, e122_56, e122_57, e122_61, e122_64, e122_65, e122_66, e122_67, e122_71, e122_74, e122_75, e122_76, e122_78, e122_81, e122_82, e122_83, e122_85, e122_88, e122_89, e122_90, e122_93, e122_95, e122_98, e122_99, e122_100, e122_103, e122_104, e122_105, e122_108, e122_109, e122_110, e122_113, e122_114, e122_115, e122_118, e122_119, e122_120, e122_123, e122_124, e122_125, e122_128, e122_129, e122_130, e122_133, e122_134, e122_136, e122_137, e122_140, e122_141, e122_145, e122_146, e122_149, e122_150, e122_151, e122_153, e122_154, e122_157, e122_160, e122_166, e122_170, e122_173, implies_true, Int.reduceSub, Option.isNone_some, Option.isNone_none, ab_bh_some, ab_bh_thr, ab_gs_3, ab_gl_2, ab_gl_3, ab_gt_some, ab_gc_0, ab_gk_0, Bool.false_eq_true, Bool.true_eq_false, false_implies, Nat.reduceEqDiff, ab_ge, ab_lt, ab_le, ab_gt, ab_eq, ab_ne, decide_eq_true_eq, ab_w_id, ab_w0, ab_gd_some, ab_gs_0, ab_gs_1, ab_gl_0, ab_gl_1, ab_bv_some, ab_bu_some, ab_bv_thr, ab_bu_thr, ab_fx_n, ab_fx_i, ab_fx_q, ab_fx_l, ab_sh_si, ab_gr_si, ab_gl_si, cs_n, ↓reduceIte, true_or, or_true, false_or, or_false, and_true, true_and, and_false, false_and, not_true_eq_false, not_false_eq_true, eq_self, Int.reduceEq, Int.reduceLT, Int.reduceLE, Int.reduceAdd, Int.reduceMul, Int.reduceNeg, if_pos, if_neg]
  | k + 1, d, o4, h1, J, q1, q2 => by
    obtain ⟨h2, a2, J2⟩ := n122_in (B := B) (dd := dd) hm hz hD5 hS8 q1 (show d < D by omega) S.toNat 0 h1 J (by omega) (by omega)
    obtain ⟨h3, o4', a3, J3⟩ := n122_out (dd := dd) hm hz hD5 hS hS8 k (d + 1) (some (.inl S)) h2 ⟨J2.1, fun c x => by
      rw [J2.2]
      by_cases z : (b + 2 + D.toNat ≤ c ∧ c < b + 2 + 2 * D.toNat) ∧ (0 ≤ x ∧ x < S) ∧ (c < b + 2 + D.toNat + d.toNat ∨ (c = b + 2 + D.toNat + d.toNat ∧ x < S))
      · rw [if_pos z, if_pos (by omega)]
      · rw [if_neg z, if_neg (by omega)]⟩ (by omega) (by omega)
    refine ⟨h3, o4', ?_, J3⟩
    rw [← a3, e122_135]
    simp (disch := omega) only [e122_0, e122_1, e122_2, e122_3, e122_4, e122_7, e122_10, e122_11, e122_12, e122_14, e122_17, e122_20, e122_21, e122_24, e122_25, e122_26, e122_29, e122_32, e122_33, e122_34, e122_35, e122_36, e122_39, e122_40, e122_41, e122_44, e122_45, e122_46, e122_49, e122_50, e122_51, e122_54, e122_55, e122_56, e122_57, e122_61, e122_64, e122_65, e122_66, e122_67, e122_71, e122_74, e122_75, e122_76, e122_78, e122_81, e122_82, e122_83, e122_85, e122_88, e122_89, e122_90, e122_93, e122_95, e122_98, e122_99, e122_100, e122_103, e122_104, e122_105, e122_108, e122_109, e122_110, e122_113, e122_114, e122_115, e122_118, e122_119, e122_120, e122_123, e122_124, e122_125, e122_128, e122_129, e122_130, e122_133, e122_134, e122_136, e122_137, e122_140, e122_141, e122_145, e122_146, e122_149, e122_150, e122_151, e122_153, e122_154, e122_157, e122_160, e122_166, e122_170, e122_173, implies_true, Int.reduceSub, Option.isNone_some, Option.isNone_none, ab_bh_some, ab_bh_thr, ab_gs_3, ab_gl_2, ab_gl_3, ab_gt_some, ab_gc_0, ab_gk_0, Bool.false_eq_true, Bool.true_eq_false, false_implies, Nat.reduceEqDiff, ab_ge, ab_lt, ab_le, ab_gt, ab_eq, ab_ne, decide_eq_true_eq, ab_w_id, ab_w0, ab_gd_some, ab_gs_0, ab_gs_1, ab_gl_0, ab_gl_1, ab_bv_some, ab_bu_some, ab_bv_thr, ab_bu_thr, ab_fx_n, ab_fx_i, ab_fx_q, ab_fx_l, ab_sh_si, ab_gr_si, ab_gl_si, cs_n, ↓reduceIte, true_or, or_true, false_or, or_false, and_true, true_and, and_false, false_and, not_true_eq_false, not_false_eq_true, eq_self, Int.reduceEq, Int.reduceLT, Int.reduceLE, Int.reduceAdd, Int.reduceMul, Int.reduceNeg, if_pos, if_neg]
    rw [a2, e122_163, e122_166]
/-- a new shelf in the reference -/
theorem mm_new_shelf {g g' h h' : ab_H} {b : Nat} {D S : Int} (m : mm g h b) (N : cs_New g g' D S) (hD : 3 ≤ D) (hD5 : D ≤ 5) (hS : 1 ≤ S) (hS8 : S ≤ 8) (hb : 31 ≤ ab_n h) (hm : mL h' (ab_n h) D S)
    (f1 : ab_gi h' 18 1 = D) (f2 : ab_gi h' 18 2 = S) (f3 : ab_gi h' 18 3 = 1) (f11 : ab_gi h' 18 11 = 0) (fz : ∀ x, 12 ≤ x → x ≤ 17 → ab_gi h' 18 x = 0) (f18 : ∀ x, 18 ≤ x → ab_gi h' 18 x = ab_gi h 18 x) (fk : ∀ c x, 25 ≤ c → c < 30 → ab_gi h' c x = ab_gi h c x) (r9 : ab_gr h' 18 9 = none)
    (v : ∀ d s, 0 ≤ d → d < D → 0 ≤ s → s < S → ab_gi h' (ab_n h + 1 + d.toNat) s = 0 ∧ ab_gi h' (ab_n h + 2 + D.toNat + d.toNat) s = s) (w : ∀ c x, ab_n h + 2 + 2 * D.toNat ≤ c → c ≤ ab_n h + 4 + 2 * D.toNat → ab_gi h' c x = 0) : mm g' h' (ab_n h) := by
  obtain ⟨⟨N1, N2⟩, N3, N4, ⟨N5, N6, N7, N8⟩, N9, N10, N11⟩ := N
  have eK : mKK h' = mKK h := mKK_of fk (f18 19 (by omega)) (f18 20 (by omega))
  unfold mm
  rw [N1, N2]
  refine ⟨hm, ⟨by rw [f1, N1], by rw [f2, N2], by rw [f3, N5], ?_, ?_, ?_, ?_, ?_, ?_, ?_⟩, ⟨fun d s d1 d2 s1 s2 => ?_, fun d d1 d2 => ?_, fun k k1 k2 => ?_⟩, by rw [eK, m.2.2.2.1, N11], Or.inl ⟨r9, N6, N7, N8⟩, Or.inl f11, fun q => by omega⟩
  · rw [fz 12 (by omega) (by omega), N9 6 (by omega) (by omega)]
  · rw [fz 13 (by omega) (by omega), N9 7 (by omega) (by omega)]
  · rw [fz 14 (by omega) (by omega), N9 8 (by omega) (by omega)]
  · rw [fz 15 (by omega) (by omega), N9 9 (by omega) (by omega)]
  · rw [fz 16 (by omega) (by omega), N9 10 (by omega) (by omega)]
  · rw [fz 17 (by omega) (by omega), N9 11 (by omega) (by omega)]
  · rw [f18 18 (by omega), N10]; exact m.2.1.2.2.2.2.2.2.2.2.2
  · obtain ⟨v1, v2⟩ := v d s d1 d2 s1 s2
    obtain ⟨n1, n2, -⟩ := N3 d s d1 d2 s1 s2
    rw [v1, v2, n1, n2]; exact ⟨rfl, rfl⟩
  · obtain ⟨n1, n2⟩ := N4 d d1 d2
    rw [w _ _ (by omega) (by omega), w _ _ (by omega) (by omega), n1, n2]; exact ⟨rfl, rfl⟩
  · obtain ⟨b1, b2, b3, b4, b5, -⟩ := cs_blk hD hD5 hS8 k1 k2
    rw [w _ _ (by omega) (by omega), (N3 _ _ b4 b5 b2 b3).2.2]
theorem n122_1 {dd : Nat} {D S : Int} {g h : ab_H} {b : Nat} (m : mm g h b) (d1 : -2147483648 ≤ D) (d2 : D < 2147483648) (s1 : -2147483648 ≤ S) (s2 : S < 2147483648) (hn : ¬ ((3 ≤ D ∧ D ≤ 5) ∧ (1 ≤ S ∧ S ≤ 8))) : mR B (dd + 2) 122 [some (.inr (.inr (.inl (some 18)))), some (.inl D), some (.inl S), none, none] h g 1 0 0 0 := by
  have hs := m.1.1.1
  refine mR_no m ?_
  by_cases c1 : 3 ≤ D ∧ D ≤ 5
  · have f1 := n100y (B := B) (dd := dd + 1) (h := h) (show -2147483648 ≤ 3 by omega) (show (5 : Int) < 2147483648 by omega) c1.1 c1.2
    have f2 := n100n (B := B) (dd := dd + 1) (h := h) s1 s2 (show -2147483648 ≤ 1 by omega) (show (1 : Int) < 2147483648 by omega) (show -2147483648 ≤ 8 by omega) (show (8 : Int) < 2147483648 by omega) (fun q => hn ⟨c1, q⟩)
    simp (disch := omega) only [e122_0, e122_1, e122_2, e122_3, e122_4, e122_7, e122_10, e122_11, e122_12, e122_14, e122_17, e122_20, e122_21, e122_24, e122_25, e122_26, e122_29, e122_32, e122_33, e122_34, e122_35, e122_36, e122_39, e122_40, e122_41, e122_44, e122_45, e122_46, e122_49, e122_50, e122_51, e122_54, e122_55, e122_56, e122_61, e122_64, e122_65, e122_66, e122_71, e122_74, e122_75, e122_78, e122_81, e122_82, e122_85, e122_88, e122_89, e122_90, e122_95, e122_98, e122_99, e122_100, e122_103, e122_104, e122_105, e122_108, e122_109, e122_110, e122_113, e122_114, e122_115, e122_118, e122_119, e122_120, e122_123, e122_124, e122_125, e122_128, e122_129, e122_130, e122_133, e122_134, e122_136, e122_137, e122_140, e122_141, e122_145, e122_146, e122_149, e122_150, e122_151, e122_153, e122_154, e122_157, e122_160, e122_166, e122_170, e122_173, implies_true, Int.reduceSub, Option.isNone_some, Option.isNone_none, ab_bh_some, ab_bh_thr, ab_gs_3, ab_gl_2, ab_gl_3, ab_gt_some, ab_gc_0, ab_gk_0, Bool.false_eq_true, Bool.true_eq_false, false_implies, Nat.reduceEqDiff, ab_ge, ab_lt, ab_le, ab_gt, ab_eq, ab_ne, decide_eq_true_eq, ab_w_id, ab_w0, ab_gd_some, ab_gs_0, ab_gs_1, ab_gl_0, ab_gl_1, ab_bv_some, ab_bu_some, ab_bv_thr, ab_bu_thr, ab_fx_n, ab_fx_i, ab_fx_q, ab_fx_l, ab_sh_si, ab_gr_si, ab_gl_si, cs_n, ↓reduceIte, true_or, or_true, false_or, or_false, and_true, true_and, and_false, false_and, not_true_eq_false, not_false_eq_true, eq_self, Int.reduceEq, Int.reduceLT, Int.reduceLE, Int.reduceAdd, Int.reduceMul, Int.reduceNeg, if_pos, if_neg, hs, f1, f2, n102_1 hs]
  · have f1 := n100n (B := B) (dd := dd + 1) (h := h) d1 d2 (show -2147483648 ≤ 3 by omega) (show (3 : Int) < 2147483648 by omega) (show -2147483648 ≤ 5 by omega) (show (5 : Int) < 2147483648 by omega) c1
    simp (disch := omega) only [e122_0, e122_1, e122_2, e122_3, e122_4, e122_7, e122_10, e122_11, e122_12, e122_14, e122_17, e122_20, e122_21, e122_24, e122_25, e122_26, e122_29, e122_32, e122_33, e122_34, e122_35, e122_36, e122_39, e122_40, e122_41, e122_44, e122_45, e122_46, e122_49, e122_50, e122_51, e122_54, e122_55, e122_56, e122_61, e122_64, e122_65, e122_66, e122_71, e122_74, e122_75, e122_78, e122_81, e122_82, e122_85, e122_88, e122_89, e122_90, e122_95, e122_98, e122_99, e122_100, e122_103, e122_104, e122_105, e122_108, e122_109, e122_110, e122_113, e122_114, e122_115, e122_118, e122_119, e122_120, e122_123, e122_124, e122_125, e122_128, e122_129, e122_130, e122_133, e122_134, e122_136, e122_137, e122_140, e122_141, e122_145, e122_146, e122_149, e122_150, e122_151, e122_153, e122_154, e122_157, e122_160, e122_166, e122_170, e122_173, implies_true, Int.reduceSub, Option.isNone_some, Option.isNone_none, ab_bh_some, ab_bh_thr, ab_gs_3, ab_gl_2, ab_gl_3, ab_gt_some, ab_gc_0, ab_gk_0, Bool.false_eq_true, Bool.true_eq_false, false_implies, Nat.reduceEqDiff, ab_ge, ab_lt, ab_le, ab_gt, ab_eq, ab_ne, decide_eq_true_eq, ab_w_id, ab_w0, ab_gd_some, ab_gs_0, ab_gs_1, ab_gl_0, ab_gl_1, ab_bv_some, ab_bu_some, ab_bv_thr, ab_bu_thr, ab_fx_n, ab_fx_i, ab_fx_q, ab_fx_l, ab_sh_si, ab_gr_si, ab_gl_si, cs_n, ↓reduceIte, true_or, or_true, false_or, or_false, and_true, true_and, and_false, false_and, not_true_eq_false, not_false_eq_true, eq_self, Int.reduceEq, Int.reduceLT, Int.reduceLE, Int.reduceAdd, Int.reduceMul, Int.reduceNeg, if_pos, if_neg, hs, f1, n102_1 hs]
theorem n122 {dd : Nat} {D S : Int} {g g' h : ab_H} {b : Nat} (m : mm g h b) (N : cs_New g g' D S) (hD : 3 ≤ D) (hD5 : D ≤ 5) (hS : 1 ≤ S) (hS8 : S ≤ 8) (hN : 31 ≤ ab_n h) : mR B (dd + 2) 122 [some (.inr (.inr (.inl (some 18)))), some (.inl D), some (.inl S), none, none] h g' 0 ((D - 1) * S) 15 132 := by
  have hs := m.1.1.1
  have m0 : mm g (mt h 0) b := mm_thr m
  have hm0 := m0.1
  have x0 : mE h (mt h 0) 0 0 := mE.si (by omega)
  have f1 := n100y (B := B) (dd := dd + 1) (h := h) (show -2147483648 ≤ 3 by omega) (show (5 : Int) < 2147483648 by omega) hD hD5
  have f2 := n100y (B := B) (dd := dd + 1) (h := h) (show -2147483648 ≤ 1 by omega) (show (8 : Int) < 2147483648 by omega) hS hS8
  have hB : 0 ≤ (D - 1) * S ∧ (D - 1) * S ≤ 32 := by
    have : D = 3 ∨ D = 4 ∨ D = 5 := by omega
    rcases this with q | q | q <;> subst q <;> omega
  have hDS : D.toNat * S.toNat ≤ 40 := Nat.mul_le_mul (show D.toNat ≤ 5 by omega) (show S.toNat ≤ 8 by omega)
  obtain ⟨A0, eA0⟩ : ∃ A0, A0 = ab_si (ab_si (ab_si (ab_si (mt h 0) 18 1 D) 18 2 S) 18 11 0) 18 3 1 := ⟨_, rfl⟩
  have sh0 : ab_sh A0 = ab_sh h := by rw [eA0]; rfl
  have n0 : ab_n A0 = ab_n h := by rw [eA0]; rfl
  have gr0 : ab_gr A0 = ab_gr h := by rw [eA0]; rfl
  have gl0 : ab_gl A0 = ab_gl h := by rw [eA0]; rfl
  have gi0 : ∀ c x, ab_gi A0 c x = if c = 18 ∧ x = 3 then 1 else if c = 18 ∧ x = 11 then 0 else if c = 18 ∧ x = 2 then S else if c = 18 ∧ x = 1 then D else if c = 18 ∧ x = 0 then 0 else ab_gi h c x := fun c x => by
    rw [eA0, ab_gi_si, ab_gi_si, ab_gi_si, ab_gi_si]
    unfold mt
    rw [ab_gi_si]
  have s0 : (ab_sh A0)[18]? = some (8, 22) := by rw [sh0]; exact hs
  have p0 : ab_E B (dd + 2) 122 0 [some (.inr (.inr (.inl (some 18)))), some (.inl D), some (.inl S), none, none] [] h = ab_E B (dd + 2) 122 57 [some (.inr (.inr (.inl (some 18)))), some (.inl D), some (.inl S), none, none] [.inl S, .inl D, .inr (.inr (.inl (some 18)))] A0 := by
    rw [eA0]
    simp (disch := omega) only [e122_0, e122_1, e122_2, e122_3, e122_4, e122_7, e122_10, e122_11, e122_12, e122_14, e122_17, e122_20, e122_21, e122_24, e122_25, e122_26, e122_29, e122_32, e122_33, e122_34, e122_35, e122_36, e122_39, e122_40, e122_41, e122_44, e122_45, e122_46, e122_49, e122_50, e122_51, e122_54, e122_55, e122_56, e122_61, e122_64, e122_65, e122_66, e122_71, e122_74, e122_75, e122_78, e122_81, e122_82, e122_85, e122_88, e122_89, e122_90, e122_95, e122_98, e122_99, e122_100, e122_103, e122_104, e122_105, e122_108, e122_109, e122_110, e122_113, e122_114, e122_115, e122_118, e122_119, e122_120, e122_123, e122_124, e122_125, e122_128, e122_129, e122_130, e122_133, e122_134, e122_136, e122_137, e122_140, e122_141, e122_145, e122_146, e122_149, e122_150, e122_151, e122_153, e122_154, e122_157, e122_160, e122_166, e122_170, e122_173, implies_true, Int.reduceSub, Option.isNone_some, Option.isNone_none, ab_bh_some, ab_bh_thr, ab_gs_3, ab_gl_2, ab_gl_3, ab_gt_some, ab_gc_0, ab_gk_0, Bool.false_eq_true, Bool.true_eq_false, false_implies, Nat.reduceEqDiff, ab_ge, ab_lt, ab_le, ab_gt, ab_eq, ab_ne, decide_eq_true_eq, ab_w_id, ab_w0, ab_gd_some, ab_gs_0, ab_gs_1, ab_gl_0, ab_gl_1, ab_bv_some, ab_bu_some, ab_bv_thr, ab_bu_thr, ab_fx_n, ab_fx_i, ab_fx_q, ab_fx_l, ab_sh_si, ab_gr_si, ab_gl_si, cs_n, ↓reduceIte, true_or, or_true, false_or, or_false, and_true, true_and, and_false, false_and, not_true_eq_false, not_false_eq_true, eq_self, Int.reduceEq, Int.reduceLT, Int.reduceLE, Int.reduceAdd, Int.reduceMul, Int.reduceNeg, if_pos, if_neg, hs, hm0.1, f1, f2, n102_0 hs]
  obtain ⟨A1, eA1⟩ : ∃ A1, A1 = ab_sr (ab_mna A0 D.toNat S.toNat) 18 4 (some (ab_n A0)) := ⟨_, rfl⟩
  obtain ⟨G1, K1, L1⟩ := sG_mna (A := A0) (x := 4) (n := D.toNat) (k := S.toNat) (by omega)
  rw [← eA1] at G1 K1 L1
  have n1 := G1.n
  have s1 := G1.sh _ _ s0
  have t1 : (ab_sh (ab_mna A0 D.toNat S.toNat))[18]? = some (8, 22) := ab_sh_pre (ab_mna_sh _ _ _) s0
  have p1 : ab_E B (dd + 2) 122 57 [some (.inr (.inr (.inl (some 18)))), some (.inl D), some (.inl S), none, none] [.inl S, .inl D, .inr (.inr (.inl (some 18)))] A0 = ab_E B (dd + 2) 122 67 [some (.inr (.inr (.inl (some 18)))), some (.inl D), some (.inl S), none, none] [.inl S, .inl D, .inr (.inr (.inl (some 18)))] A1 := by
    rw [eA1, e122_57]
    simp (disch := omega) only [e122_0, e122_1, e122_2, e122_3, e122_4, e122_7, e122_10, e122_11, e122_12, e122_14, e122_17, e122_20, e122_21, e122_24, e122_25, e122_26, e122_29, e122_32, e122_33, e122_34, e122_35, e122_36, e122_39, e122_40, e122_41, e122_44, e122_45, e122_46, e122_49, e122_50, e122_51, e122_54, e122_55, e122_56, e122_61, e122_64, e122_65, e122_66, e122_71, e122_74, e122_75, e122_78, e122_81, e122_82, e122_85, e122_88, e122_89, e122_90, e122_95, e122_98, e122_99, e122_100, e122_103, e122_104, e122_105, e122_108, e122_109, e122_110, e122_113, e122_114, e122_115, e122_118, e122_119, e122_120, e122_123, e122_124, e122_125, e122_128, e122_129, e122_130, e122_133, e122_134, e122_136, e122_137, e122_140, e122_141, e122_145, e122_146, e122_149, e122_150, e122_151, e122_153, e122_154, e122_157, e122_160, e122_166, e122_170, e122_173, implies_true, Int.reduceSub, Option.isNone_some, Option.isNone_none, ab_bh_some, ab_bh_thr, ab_gs_3, ab_gl_2, ab_gl_3, ab_gt_some, ab_gc_0, ab_gk_0, Bool.false_eq_true, Bool.true_eq_false, false_implies, Nat.reduceEqDiff, ab_ge, ab_lt, ab_le, ab_gt, ab_eq, ab_ne, decide_eq_true_eq, ab_w_id, ab_w0, ab_gd_some, ab_gs_0, ab_gs_1, ab_gl_0, ab_gl_1, ab_bv_some, ab_bu_some, ab_bv_thr, ab_bu_thr, ab_fx_n, ab_fx_i, ab_fx_q, ab_fx_l, ab_sh_si, ab_gr_si, ab_gl_si, cs_n, ↓reduceIte, true_or, or_true, false_or, or_false, and_true, true_and, and_false, false_and, not_true_eq_false, not_false_eq_true, eq_self, Int.reduceEq, Int.reduceLT, Int.reduceLE, Int.reduceAdd, Int.reduceMul, Int.reduceNeg, if_pos, if_neg, t1]
  obtain ⟨A2, eA2⟩ : ∃ A2, A2 = ab_sr (ab_mna A1 D.toNat S.toNat) 18 5 (some (ab_n A1)) := ⟨_, rfl⟩
  obtain ⟨G2, K2, L2⟩ := sG_mna (A := A1) (x := 5) (n := D.toNat) (k := S.toNat) (by omega)
  rw [← eA2] at G2 K2 L2
  have n2 := G2.n
  have s2 := G2.sh _ _ s1
  have t2 : (ab_sh (ab_mna A1 D.toNat S.toNat))[18]? = some (8, 22) := ab_sh_pre (ab_mna_sh _ _ _) s1
  have p2 : ab_E B (dd + 2) 122 67 [some (.inr (.inr (.inl (some 18)))), some (.inl D), some (.inl S), none, none] [.inl S, .inl D, .inr (.inr (.inl (some 18)))] A1 = ab_E B (dd + 2) 122 76 [some (.inr (.inr (.inl (some 18)))), some (.inl D), some (.inl S), none, none] [.inl D, .inr (.inr (.inl (some 18)))] A2 := by
    rw [eA2, e122_67]
    simp (disch := omega) only [e122_0, e122_1, e122_2, e122_3, e122_4, e122_7, e122_10, e122_11, e122_12, e122_14, e122_17, e122_20, e122_21, e122_24, e122_25, e122_26, e122_29, e122_32, e122_33, e122_34, e122_35, e122_36, e122_39, e122_40, e122_41, e122_44, e122_45, e122_46, e122_49, e122_50, e122_51, e122_54, e122_55, e122_56, e122_61, e122_64, e122_65, e122_66, e122_71, e122_74, e122_75, e122_78, e122_81, e122_82, e122_85, e122_88, e122_89, e122_90, e122_95, e122_98, e122_99, e122_100, e122_103, e122_104, e122_105, e122_108, e122_109, e122_110, e122_113, e122_114, e122_115, e122_118, e122_119, e122_120, e122_123, e122_124, e122_125, e122_128, e122_129, e122_130, e122_133, e122_134, e122_136, e122_137, e122_140, e122_141, e122_145, e122_146, e122_149, e122_150, e122_151, e122_153, e122_154, e122_157, e122_160, e122_166, e122_170, e122_173, implies_true, Int.reduceSub, Option.isNone_some, Option.isNone_none, ab_bh_some, ab_bh_thr, ab_gs_3, ab_gl_2, ab_gl_3, ab_gt_some, ab_gc_0, ab_gk_0, Bool.false_eq_true, Bool.true_eq_false, false_implies, Nat.reduceEqDiff, ab_ge, ab_lt, ab_le, ab_gt, ab_eq, ab_ne, decide_eq_true_eq, ab_w_id, ab_w0, ab_gd_some, ab_gs_0, ab_gs_1, ab_gl_0, ab_gl_1, ab_bv_some, ab_bu_some, ab_bv_thr, ab_bu_thr, ab_fx_n, ab_fx_i, ab_fx_q, ab_fx_l, ab_sh_si, ab_gr_si, ab_gl_si, cs_n, ↓reduceIte, true_or, or_true, false_or, or_false, and_true, true_and, and_false, false_and, not_true_eq_false, not_false_eq_true, eq_self, Int.reduceEq, Int.reduceLT, Int.reduceLE, Int.reduceAdd, Int.reduceMul, Int.reduceNeg, if_pos, if_neg, t2]
  obtain ⟨A3, eA3⟩ : ∃ A3, A3 = ab_sr (ab_new A2 1 D.toNat) 18 6 (some (ab_n A2)) := ⟨_, rfl⟩
  have G3 := sG_new (A := A2) (x := 6) (t := 1) (n := D.toNat) (by omega)
  have K3 : (ab_sh (ab_sr (ab_new A2 1 D.toNat) 18 6 (some (ab_n A2))))[ab_n A2]? = some (1, D.toNat) := ab_sh_new_at _ _ _
  rw [← eA3] at G3 K3
  have n3 := G3.n
  have s3 := G3.sh _ _ s2
  have t3 : (ab_sh (ab_new A2 1 D.toNat))[18]? = some (8, 22) := ab_sh_new_lt s2
  have p3 : ab_E B (dd + 2) 122 76 [some (.inr (.inr (.inl (some 18)))), some (.inl D), some (.inl S), none, none] [.inl D, .inr (.inr (.inl (some 18)))] A2 = ab_E B (dd + 2) 122 83 [some (.inr (.inr (.inl (some 18)))), some (.inl D), some (.inl S), none, none] [.inl D, .inr (.inr (.inl (some 18)))] A3 := by
    rw [eA3, e122_76]
    simp (disch := omega) only [e122_0, e122_1, e122_2, e122_3, e122_4, e122_7, e122_10, e122_11, e122_12, e122_14, e122_17, e122_20, e122_21, e122_24, e122_25, e122_26, e122_29, e122_32, e122_33, e122_34, e122_35, e122_36, e122_39, e122_40, e122_41, e122_44, e122_45, e122_46, e122_49, e122_50, e122_51, e122_54, e122_55, e122_56, e122_61, e122_64, e122_65, e122_66, e122_71, e122_74, e122_75, e122_78, e122_81, e122_82, e122_85, e122_88, e122_89, e122_90, e122_95, e122_98, e122_99, e122_100, e122_103, e122_104, e122_105, e122_108, e122_109, e122_110, e122_113, e122_114, e122_115, e122_118, e122_119, e122_120, e122_123, e122_124, e122_125, e122_128, e122_129, e122_130, e122_133, e122_134, e122_136, e122_137, e122_140, e122_141, e122_145, e122_146, e122_149, e122_150, e122_151, e122_153, e122_154, e122_157, e122_160, e122_166, e122_170, e122_173, implies_true, Int.reduceSub, Option.isNone_some, Option.isNone_none, ab_bh_some, ab_bh_thr, ab_gs_3, ab_gl_2, ab_gl_3, ab_gt_some, ab_gc_0, ab_gk_0, Bool.false_eq_true, Bool.true_eq_false, false_implies, Nat.reduceEqDiff, ab_ge, ab_lt, ab_le, ab_gt, ab_eq, ab_ne, decide_eq_true_eq, ab_w_id, ab_w0, ab_gd_some, ab_gs_0, ab_gs_1, ab_gl_0, ab_gl_1, ab_bv_some, ab_bu_some, ab_bv_thr, ab_bu_thr, ab_fx_n, ab_fx_i, ab_fx_q, ab_fx_l, ab_sh_si, ab_gr_si, ab_gl_si, cs_n, ↓reduceIte, true_or, or_true, false_or, or_false, and_true, true_and, and_false, false_and, not_true_eq_false, not_false_eq_true, eq_self, Int.reduceEq, Int.reduceLT, Int.reduceLE, Int.reduceAdd, Int.reduceMul, Int.reduceNeg, if_pos, if_neg, t3]
  obtain ⟨A4, eA4⟩ : ∃ A4, A4 = ab_sr (ab_new A3 0 D.toNat) 18 7 (some (ab_n A3)) := ⟨_, rfl⟩
  have G4 := sG_new (A := A3) (x := 7) (t := 0) (n := D.toNat) (by omega)
  have K4 : (ab_sh (ab_sr (ab_new A3 0 D.toNat) 18 7 (some (ab_n A3))))[ab_n A3]? = some (0, D.toNat) := ab_sh_new_at _ _ _
  rw [← eA4] at G4 K4
  have n4 := G4.n
  have s4 := G4.sh _ _ s3
  have t4 : (ab_sh (ab_new A3 0 D.toNat))[18]? = some (8, 22) := ab_sh_new_lt s3
  have gi4 : ∀ c x, c < ab_n h → ab_gi A4 c x = ab_gi A0 c x := fun c x hc => by rw [G4.2.2.1, if_neg (by omega), G3.2.2.1, if_neg (by omega), G2.2.2.1, if_neg (by omega), G1.2.2.1, if_neg (by omega)]
  have u1 : ab_gi A4 18 1 = D := by rw [gi4 18 1 (by omega), gi0, if_neg (by omega), if_neg (by omega), if_neg (by omega), if_pos ⟨rfl, rfl⟩]
  have u2 : ab_gi A4 18 2 = S := by rw [gi4 18 2 (by omega), gi0, if_neg (by omega), if_neg (by omega), if_pos ⟨rfl, rfl⟩]
  have e106 : ab_E B (dd + 1) 106 0 [some (.inr (.inr (.inl (some 18))))] [] A4 = some (.inl (some (.inl ((D - 1) * S))), A4) := by
    rw [Int.mul_comm]
    simp (disch := omega) only [e106_0, e106_1, e106_4, e106_5, e106_8, e106_9, e106_12, e106_15, e106_16, e106_19, e106_20, e106_21, e106_22, implies_true, Int.reduceSub, Option.isNone_some, Option.isNone_none, ab_bh_some, ab_bh_thr, ab_gs_3, ab_gl_2, ab_gl_3, ab_gt_some, ab_gc_0, ab_gk_0, Bool.false_eq_true, Bool.true_eq_false, false_implies, Nat.reduceEqDiff, ab_ge, ab_lt, ab_le, ab_gt, ab_eq, ab_ne, decide_eq_true_eq, ab_w_id, ab_w0, ab_gd_some, ab_gs_0, ab_gs_1, ab_gl_0, ab_gl_1, ab_bv_some, ab_bu_some, ab_bv_thr, ab_bu_thr, ab_fx_n, ab_fx_i, ab_fx_q, ab_fx_l, ab_sh_si, ab_gr_si, ab_gl_si, cs_n, ↓reduceIte, true_or, or_true, false_or, or_false, and_true, true_and, and_false, false_and, not_true_eq_false, not_false_eq_true, eq_self, Int.reduceEq, Int.reduceLT, Int.reduceLE, Int.reduceAdd, Int.reduceMul, Int.reduceNeg, if_pos, if_neg, s4, u1, u2]
  have p4 : ab_E B (dd + 2) 122 83 [some (.inr (.inr (.inl (some 18)))), some (.inl D), some (.inl S), none, none] [.inl D, .inr (.inr (.inl (some 18)))] A3 = ab_E B (dd + 2) 122 93 [some (.inr (.inr (.inl (some 18)))), some (.inl D), some (.inl S), none, none] [.inl ((D - 1) * S), .inr (.inr (.inl (some 18)))] A4 := by
    rw [e122_83]
    rw [eA4] at s4 e106 ⊢
    simp (disch := omega) only [e122_0, e122_1, e122_2, e122_3, e122_4, e122_7, e122_10, e122_11, e122_12, e122_14, e122_17, e122_20, e122_21, e122_24, e122_25, e122_26, e122_29, e122_32, e122_33, e122_34, e122_35, e122_36, e122_39, e122_40, e122_41, e122_44, e122_45, e122_46, e122_49, e122_50, e122_51, e122_54, e122_55, e122_56, e122_61, e122_64, e122_65, e122_66, e122_71, e122_74, e122_75, e122_78, e122_81, e122_82, e122_85, e122_88, e122_89, e122_90, e122_95, e122_98, e122_99, e122_100, e122_103, e122_104, e122_105, e122_108, e122_109, e122_110, e122_113, e122_114, e122_115, e122_118, e122_119, e122_120, e122_123, e122_124, e122_125, e122_128, e122_129, e122_130, e122_133, e122_134, e122_136, e122_137, e122_140, e122_141, e122_145, e122_146, e122_149, e122_150, e122_151, e122_153, e122_154, e122_157, e122_160, e122_166, e122_170, e122_173, implies_true, Int.reduceSub, Option.isNone_some, Option.isNone_none, ab_bh_some, ab_bh_thr, ab_gs_3, ab_gl_2, ab_gl_3, ab_gt_some, ab_gc_0, ab_gk_0, Bool.false_eq_true, Bool.true_eq_false, false_implies, Nat.reduceEqDiff, ab_ge, ab_lt, ab_le, ab_gt, ab_eq, ab_ne, decide_eq_true_eq, ab_w_id, ab_w0, ab_gd_some, ab_gs_0, ab_gs_1, ab_gl_0, ab_gl_1, ab_bv_some, ab_bu_some, ab_bv_thr, ab_bu_thr, ab_fx_n, ab_fx_i, ab_fx_q, ab_fx_l, ab_sh_si, ab_gr_si, ab_gl_si, cs_n, ↓reduceIte, true_or, or_true, false_or, or_false, and_true, true_and, and_false, false_and, not_true_eq_false, not_false_eq_true, eq_self, Int.reduceEq, Int.reduceLT, Int.reduceLE, Int.reduceAdd, Int.reduceMul, Int.reduceNeg, if_pos, if_neg, t4, ab_sh_sr, e106]
  obtain ⟨A5, eA5⟩ : ∃ A5, A5 = ab_sr (ab_new A4 0 ((D - 1) * S).toNat) 18 8 (some (ab_n A4)) := ⟨_, rfl⟩
  have G5 := sG_new (A := A4) (x := 8) (t := 0) (n := ((D - 1) * S).toNat) (by omega)
  have K5 : (ab_sh (ab_sr (ab_new A4 0 ((D - 1) * S).toNat) 18 8 (some (ab_n A4))))[ab_n A4]? = some (0, ((D - 1) * S).toNat) := ab_sh_new_at _ _ _
  rw [← eA5] at G5 K5
  have n5 := G5.n
  have s5 := G5.sh _ _ s4
  have t5 : (ab_sh (ab_new A4 0 ((D - 1) * S).toNat))[18]? = some (8, 22) := ab_sh_new_lt s4
  obtain ⟨A6, eA6⟩ : ∃ A6, A6 = ab_si (ab_si (ab_si (ab_si (ab_si (ab_si (ab_sr A5 18 9 none) 18 12 0) 18 13 0) 18 14 0) 18 15 0) 18 16 0) 18 17 0 := ⟨_, rfl⟩
  have p5 : ab_E B (dd + 2) 122 93 [some (.inr (.inr (.inl (some 18)))), some (.inl D), some (.inl S), none, none] [.inl ((D - 1) * S), .inr (.inr (.inl (some 18)))] A4 = ab_E B (dd + 2) 122 135 [some (.inr (.inr (.inl (some 18)))), some (.inl D), some (.inl S), some (.inl 0), none] [] A6 := by
    rw [e122_93, eA6]
    rw [eA5]
    simp (disch := omega) only [e122_0, e122_1, e122_2, e122_3, e122_4, e122_7, e122_10, e122_11, e122_12, e122_14, e122_17, e122_20, e122_21, e122_24, e122_25, e122_26, e122_29, e122_32, e122_33, e122_34, e122_35, e122_36, e122_39, e122_40, e122_41, e122_44, e122_45, e122_46, e122_49, e122_50, e122_51, e122_54, e122_55, e122_56, e122_61, e122_64, e122_65, e122_66, e122_71, e122_74, e122_75, e122_78, e122_81, e122_82, e122_85, e122_88, e122_89, e122_90, e122_95, e122_98, e122_99, e122_100, e122_103, e122_104, e122_105, e122_108, e122_109, e122_110, e122_113, e122_114, e122_115, e122_118, e122_119, e122_120, e122_123, e122_124, e122_125, e122_128, e122_129, e122_130, e122_133, e122_134, e122_136, e122_137, e122_140, e122_141, e122_145, e122_146, e122_149, e122_150, e122_151, e122_153, e122_154, e122_157, e122_160, e122_166, e122_170, e122_173, implies_true, Int.reduceSub, Option.isNone_some, Option.isNone_none, ab_bh_some, ab_bh_thr, ab_gs_3, ab_gl_2, ab_gl_3, ab_gt_some, ab_gc_0, ab_gk_0, Bool.false_eq_true, Bool.true_eq_false, false_implies, Nat.reduceEqDiff, ab_ge, ab_lt, ab_le, ab_gt, ab_eq, ab_ne, decide_eq_true_eq, ab_w_id, ab_w0, ab_gd_some, ab_gs_0, ab_gs_1, ab_gl_0, ab_gl_1, ab_bv_some, ab_bu_some, ab_bv_thr, ab_bu_thr, ab_fx_n, ab_fx_i, ab_fx_q, ab_fx_l, ab_sh_si, ab_gr_si, ab_gl_si, cs_n, ↓reduceIte, true_or, or_true, false_or, or_false, and_true, true_and, and_false, false_and, not_true_eq_false, not_false_eq_true, eq_self, Int.reduceEq, Int.reduceLT, Int.reduceLE, Int.reduceAdd, Int.reduceMul, Int.reduceNeg, if_pos, if_neg, t5, ab_sh_sr]
  have sh6 : ab_sh A6 = ab_sh A5 := by rw [eA6]; rfl
  have gr6 : ∀ c x, ab_gr A6 c x = if c = 18 ∧ x = 9 then none else ab_gr A5 c x := fun c x => by rw [eA6]; exact ab_gr_sr _ _ _ _ _ _
  have gi6 : ∀ c x, ab_gi A6 c x = if c = 18 ∧ 12 ≤ x ∧ x ≤ 17 then 0 else ab_gi A5 c x := fun c x => by
    rw [eA6, ab_gi_si, ab_gi_si, ab_gi_si, ab_gi_si, ab_gi_si, ab_gi_si, ab_gi_sr]
    by_cases z : c = 18 ∧ 12 ≤ x ∧ x ≤ 17
    · rw [if_pos z]
      have : x = 12 ∨ x = 13 ∨ x = 14 ∨ x = 15 ∨ x = 16 ∨ x = 17 := by omega
      rcases this with q | q | q | q | q | q <;> subst q <;> simp [z.1]
    · rw [if_neg z, if_neg (by omega), if_neg (by omega), if_neg (by omega), if_neg (by omega), if_neg (by omega), if_neg (by omega)]
  have gr5 : ∀ c x, c < ab_n h → ab_gr A5 c x = if c = 18 ∧ x = 8 then some (ab_n A4) else if c = 18 ∧ x = 7 then some (ab_n A3) else if c = 18 ∧ x = 6 then some (ab_n A2) else if c = 18 ∧ x = 5 then some (ab_n A1) else if c = 18 ∧ x = 4 then some (ab_n A0) else ab_gr h c x := fun c x hc => by
    rw [G5.2.1 c x (by omega), G4.2.1 c x (by omega), G3.2.1 c x (by omega), G2.2.1 c x (by omega), G1.2.1 c x (by omega), gr0]
  have up : ∀ (i : Nat) (y : Nat × Nat), (ab_sh A0)[i]? = some y → (ab_sh A6)[i]? = some y := fun i y q => by
    rw [sh6]; exact G5.sh _ _ (G4.sh _ _ (G3.sh _ _ (G2.sh _ _ (G1.sh _ _ q))))
  have gi5 : ∀ c x, ab_gi A5 c x = if ab_n h ≤ c ∧ c < ab_n h + 5 + 2 * D.toNat then 0 else ab_gi A0 c x := fun c x => by
    rw [G5.2.2.1, G4.2.2.1, G3.2.2.1, G2.2.2.1, G1.2.2.1]
    by_cases z : ab_n h ≤ c ∧ c < ab_n h + 5 + 2 * D.toNat
    · rw [if_pos z]
      repeat' split
      all_goals first | rfl | (exfalso; omega)
    · rw [if_neg z, if_neg (by omega), if_neg (by omega), if_neg (by omega), if_neg (by omega), if_neg (by omega)]
  have hm6 : mL A6 (ab_n h) D S := by
    obtain ⟨⟨z1, z2, -⟩, ⟨-, -, -, -, -, z3⟩, -, z4, -⟩ := m.1
    refine ⟨⟨up _ _ (by rw [sh0]; exact z1), up _ _ (by rw [sh0]; exact z2), ?_, ?_, ?_, ?_, ?_⟩, ⟨?_, ?_, ?_, ?_, ?_, ?_⟩, fun d d1 d2 => ⟨?_, ?_, ?_, ?_⟩, fun d d1 d2 => ⟨?_, ?_⟩, Or.inr hN⟩
    · rw [sh6, ← n0]; exact G5.sh _ _ (G4.sh _ _ (G3.sh _ _ (G2.sh _ _ K1)))
    · rw [sh6, show ab_n h + 1 + D.toNat = ab_n A1 from by omega]; exact G5.sh _ _ (G4.sh _ _ (G3.sh _ _ K2))
    · rw [sh6, show ab_n h + 2 + 2 * D.toNat = ab_n A2 from by omega]; exact G5.sh _ _ (G4.sh _ _ K3)
    · rw [sh6, show ab_n h + 3 + 2 * D.toNat = ab_n A3 from by omega]; exact G5.sh _ _ K4
    · rw [sh6, show ab_n h + 4 + 2 * D.toNat = ab_n A4 from by omega]; exact K5
    · rw [gr6, if_neg (by omega), gr5 18 4 (by omega), if_neg (by omega), if_neg (by omega), if_neg (by omega), if_neg (by omega), if_pos ⟨rfl, rfl⟩, n0]
    · rw [gr6, if_neg (by omega), gr5 18 5 (by omega), if_neg (by omega), if_neg (by omega), if_neg (by omega), if_pos ⟨rfl, rfl⟩]; exact congrArg some (by omega)
    · rw [gr6, if_neg (by omega), gr5 18 6 (by omega), if_neg (by omega), if_neg (by omega), if_pos ⟨rfl, rfl⟩]; exact congrArg some (by omega)
    · rw [gr6, if_neg (by omega), gr5 18 7 (by omega), if_neg (by omega), if_pos ⟨rfl, rfl⟩]; exact congrArg some (by omega)
    · rw [gr6, if_neg (by omega), gr5 18 8 (by omega), if_pos ⟨rfl, rfl⟩]; exact congrArg some (by omega)
    · rw [gr6, if_neg (by omega), gr5 18 21 (by omega), if_neg (by omega), if_neg (by omega), if_neg (by omega), if_neg (by omega), if_neg (by omega)]; exact z3
    · rw [gr6, if_neg (by omega), G5.2.1 _ _ (by omega), if_neg (by omega), G4.2.1 _ _ (by omega), if_neg (by omega), G3.2.1 _ _ (by omega), if_neg (by omega), G2.2.1 _ _ (by omega), if_neg (by omega), ← n0]; exact (L1 d d1 (by omega)).1
    · rw [sh6, ← n0]; exact G5.sh _ _ (G4.sh _ _ (G3.sh _ _ (G2.sh _ _ (L1 d d1 (by omega)).2)))
    · rw [gr6, if_neg (by omega), G5.2.1 _ _ (by omega), if_neg (by omega), G4.2.1 _ _ (by omega), if_neg (by omega), G3.2.1 _ _ (by omega), if_neg (by omega), show ab_n h + 1 + D.toNat = ab_n A1 from by omega, (L2 d d1 (by omega)).1]; exact congrArg some (by omega)
    · rw [sh6, show ab_n h + 2 + D.toNat + d.toNat = ab_n A1 + 1 + d.toNat from by omega]; exact G5.sh _ _ (G4.sh _ _ (G3.sh _ _ (L2 d d1 (by omega)).2))
    · rw [gr6, if_neg (by omega), gr5 24 d (by omega), if_neg (by omega), if_neg (by omega), if_neg (by omega), if_neg (by omega), if_neg (by omega)]; exact (z4 d d1 d2).1
    · exact up _ _ (by rw [sh0]; exact (z4 d d1 d2).2)
  obtain ⟨A7, o4, p6, J1, J2⟩ := n122_out (B := B) (dd := dd + 1) hm6 (fun d s q1 q2 _ _ => by rw [gi6, if_neg (by omega), gi5, if_pos (by omega)]) hD5 (by omega) hS8 D.toNat 0 none A6 ⟨rfl, fun c x => by rw [if_neg (by omega)]⟩ (by omega) (by omega)
  have sh7 : ab_sh A7 = ab_sh A6 := by unfold ab_sh; rw [J1]
  have gr7 : ab_gr A7 = ab_gr A6 := by unfold ab_gr; rw [J1]
  have gl7 : ab_gl A7 = ab_gl A6 := by unfold ab_gl; rw [J1]
  have hm7 : mL A7 (ab_n h) D S := mL_of hm6 (fun i x q => by rw [sh7]; exact q) (fun c x _ _ _ => by rw [gr7])
  have gi7 : ∀ c x, c < ab_n h → ab_gi A7 c x = if c = 18 ∧ 12 ≤ x ∧ x ≤ 17 then 0 else ab_gi A0 c x := fun c x hc => by rw [J2, if_neg (by omega), gi6, gi5, if_neg (show ¬ (ab_n h ≤ c ∧ c < ab_n h + 5 + 2 * D.toNat) by omega)]
  have g18 : ∀ x, ¬ (12 ≤ x ∧ x ≤ 17) → ab_gi A7 18 x = ab_gi A0 18 x := fun x hx => by rw [gi7 18 x (by omega), if_neg (fun q => hx q.2)]
  have m7 : mm g' A7 (ab_n h) := mm_new_shelf m N hD hD5 hS hS8 hN hm7
    (by rw [g18 1 (by omega), gi0, if_neg (by omega), if_neg (by omega), if_neg (by omega), if_pos ⟨rfl, rfl⟩])
    (by rw [g18 2 (by omega), gi0, if_neg (by omega), if_neg (by omega), if_pos ⟨rfl, rfl⟩])
    (by rw [g18 3 (by omega), gi0, if_pos ⟨rfl, rfl⟩])
    (by rw [g18 11 (by omega), gi0, if_neg (by omega), if_pos ⟨rfl, rfl⟩])
    (fun x x1 x2 => by rw [gi7 18 x (by omega), if_pos ⟨rfl, x1, x2⟩])
    (fun x hx => by rw [g18 x (by omega), gi0, if_neg (by omega), if_neg (by omega), if_neg (by omega), if_neg (by omega), if_neg (by omega)])
    (fun c x c1 c2 => by rw [gi7 c x (by omega), if_neg (by omega), gi0, if_neg (by omega), if_neg (by omega), if_neg (by omega), if_neg (by omega), if_neg (by omega)])
    (by rw [gr7, gr6, if_pos ⟨rfl, rfl⟩])
    (fun d s q1 q2 r1 r2 => ⟨by rw [J2, if_neg (by omega), gi6, if_neg (by omega), gi5, if_pos (by omega)], by rw [J2, if_pos (by omega)]⟩)
    (fun c x c1 c2 => by rw [J2, if_neg (by omega), gi6, if_neg (by omega), gi5, if_pos (by omega)])
  have e106' : ab_E B (dd + 1) 106 0 [some (.inr (.inr (.inl (some 18))))] [] A7 = some (.inl (some (.inl ((D - 1) * S))), A7) := by
    have w1 := m7.2.1.1
    have w2 := m7.2.1.2.1
    rw [N.1.1] at w1
    rw [N.1.2] at w2
    have hs7 := hm7.1.1
    rw [Int.mul_comm]
    simp (disch := omega) only [e106_0, e106_1, e106_4, e106_5, e106_8, e106_9, e106_12, e106_15, e106_16, e106_19, e106_20, e106_21, e106_22, implies_true, Int.reduceSub, Option.isNone_some, Option.isNone_none, ab_bh_some, ab_bh_thr, ab_gs_3, ab_gl_2, ab_gl_3, ab_gt_some, ab_gc_0, ab_gk_0, Bool.false_eq_true, Bool.true_eq_false, false_implies, Nat.reduceEqDiff, ab_ge, ab_lt, ab_le, ab_gt, ab_eq, ab_ne, decide_eq_true_eq, ab_w_id, ab_w0, ab_gd_some, ab_gs_0, ab_gs_1, ab_gl_0, ab_gl_1, ab_bv_some, ab_bu_some, ab_bv_thr, ab_bu_thr, ab_fx_n, ab_fx_i, ab_fx_q, ab_fx_l, ab_sh_si, ab_gr_si, ab_gl_si, cs_n, ↓reduceIte, true_or, or_true, false_or, or_false, and_true, true_and, and_false, false_and, not_true_eq_false, not_false_eq_true, eq_self, Int.reduceEq, Int.reduceLT, Int.reduceLE, Int.reduceAdd, Int.reduceMul, Int.reduceNeg, if_pos, if_neg, hs7, w1, w2]
  have hs7 := hm7.1.1
  refine ⟨A7, ab_n h, ?_, m7, ⟨?_, fun c x hc => ⟨?_, ?_⟩, ?_, ?_, ?_⟩, by rw [g18 0 (by omega), gi0, if_neg (by omega), if_neg (by omega), if_neg (by omega), if_neg (by omega), if_pos ⟨rfl, rfl⟩]⟩
  · rw [p0, p1, p2, p3, p4, p5, p6]
    simp (disch := omega) only [e122_169, e122_170, e122_173, implies_true, Int.reduceSub, Option.isNone_some, Option.isNone_none, ab_bh_some, ab_bh_thr, ab_gs_3, ab_gl_2, ab_gl_3, ab_gt_some, ab_gc_0, ab_gk_0, Bool.false_eq_true, Bool.true_eq_false, false_implies, Nat.reduceEqDiff, ab_ge, ab_lt, ab_le, ab_gt, ab_eq, ab_ne, decide_eq_true_eq, ab_w_id, ab_w0, ab_gd_some, ab_gs_0, ab_gs_1, ab_gl_0, ab_gl_1, ab_bv_some, ab_bu_some, ab_bv_thr, ab_bu_thr, ab_fx_n, ab_fx_i, ab_fx_q, ab_fx_l, ab_sh_si, ab_gr_si, ab_gl_si, cs_n, ↓reduceIte, true_or, or_true, false_or, or_false, and_true, true_and, and_false, false_and, not_true_eq_false, not_false_eq_true, eq_self, Int.reduceEq, Int.reduceLT, Int.reduceLE, Int.reduceAdd, Int.reduceMul, Int.reduceNeg, if_pos, if_neg, hs7, e106']
  · obtain ⟨l1, q1, -⟩ := G1.1
    obtain ⟨l2, q2, -⟩ := G2.1
    obtain ⟨l3, q3, -⟩ := G3.1
    obtain ⟨l4, q4, -⟩ := G4.1
    obtain ⟨l5, q5, -⟩ := G5.1
    exact ⟨l1 ++ l2 ++ l3 ++ l4 ++ l5, by rw [sh7, sh6, q5, q4, q3, q2, q1, sh0]; simp⟩
  · rw [gi7 c x (by omega), if_neg (by omega), gi0, if_neg (by omega), if_neg (by omega), if_neg (by omega), if_neg (by omega), if_neg (by omega)]
  · rw [gr7, gr6, if_neg (by omega), gr5 c x (by omega), if_neg (by omega), if_neg (by omega), if_neg (by omega), if_neg (by omega), if_neg (by omega)]
  · have gl6 : ab_gl A6 = ab_gl A5 := by rw [eA6]; rfl
    rw [gl7, gl6, G5.2.2.2.1 _ _ (by omega), G4.2.2.2.1 _ _ (by omega), G3.2.2.2.1 _ _ (by omega), G2.2.2.2.1 _ _ (by omega), G1.2.2.2.1 _ _ (by omega), gl0]
  · have k7 : ab_kc A7 = ab_kc A5 := by
      have : ab_kc A7 = ab_kc A6 := by unfold ab_kc; rw [J1]
      rw [this, eA6]; rfl
    have k0 : ab_kc A0 = ab_kc h := by rw [eA0]; rfl
    have := G1.2.2.2.2.1
    have := G2.2.2.2.2.1
    have := G3.2.2.2.2.1
    have := G4.2.2.2.2.1
    have := G5.2.2.2.2.1
    omega
  · have k7 : ab_ks A7 = ab_ks A5 := by
      have : ab_ks A7 = ab_ks A6 := by unfold ab_ks; rw [J1]
      rw [this, eA6]; rfl
    have k0 : ab_ks A0 = ab_ks h := by rw [eA0]; rfl
    have := G1.2.2.2.2.2
    have := G2.2.2.2.2.2
    have := G3.2.2.2.2.2
    have := G4.2.2.2.2.2
    have := G5.2.2.2.2.2
    omega
end
