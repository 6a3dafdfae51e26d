set_option linter.all false
/-! A NEW REFERENCE, A NEW OBJECT -/
section
variable {B : ab_B}
def cs_h0 : ab_H := (fun _ _ => 0, fun _ _ => none, fun _ _ => 0, [], 0, 0)
def cs_hA : ab_H := cs_k2 (ab_new cs_h0 6 13)
def cs_hM : ab_H := ab_new cs_hA 8 22
def cs_m1 (h : ab_H) : ab_H := ab_si (ab_sr (ab_new (ab_sr (ab_new (ab_sr (ab_new (ab_sr (ab_mna (ab_sr (ab_mna h 0 0) 18 4 (some 19)) 0 0) 18 5 (some 20)) 1 0) 18 6 (some 21)) 0 0) 18 7 (some 22)) 0 0) 18 8 (some 23)) 18 19 30
def cs_mr (h : ab_H) (c : Nat) (i : Int) : ab_H := ab_sr (ab_si (ab_si (ab_si (ab_new h 0 3) c 0 10) c 1 3) c 2 2) 24 i (some c)
def cs_m2 (h : ab_H) : ab_H := ab_sr (cs_mr (cs_mr (cs_mr (cs_mr (cs_mr (ab_new (cs_m1 h) 2 5) 25 0) 26 1) 27 2) 28 3) 29 4) 18 21 (some 24)
theorem m98 {dd : Nat} {h : ab_H} (hs : ab_sh h = [(6, 13), (4, 7), (0, 40), (0, 40), (0, 40), (1, 5), (0, 5), (5, 15), (0, 5), (0, 5), (0, 5), (0, 5), (0, 5), (0, 5), (0, 5), (0, 5), (0, 100), (0, 5), (8, 22)]) (hn : ab_n h = 19) :
    ab_E B dd 98 0 [some (.inr (.inr (.inl (some 18))))] [] h = some (.inl none, cs_m2 h) := by
  unfold cs_m2 cs_mr cs_m1
  simp (disch := omega) only [e98_0, e98_1, e98_4, e98_5, e98_6, e98_7, e98_11, e98_14, e98_15, e98_16, e98_17, e98_21, e98_24, e98_25, e98_26, e98_28, e98_31, e98_32, e98_33, e98_35, e98_38, e98_39, e98_40, e98_42, e98_45, e98_46, e98_48, e98_51, e98_52, e98_53, e98_56, e98_57, e98_58, e98_59, e98_61, e98_62, e98_63, e98_65, e98_66, e98_67, e98_68, e98_69, e98_70, e98_71, e98_72, e98_73, e98_74, e98_75, e98_76, e98_77, e98_78, e98_80, e98_81, e98_82, e98_84, e98_85, e98_86, e98_87, e98_88, e98_89, e98_90, e98_91, e98_92, e98_93, e98_94, e98_95, e98_96, e98_97, e98_99, e98_100, e98_101, e98_103, e98_104, e98_105, e98_106, e98_107, e98_108, e98_109, e98_110, e98_111, e98_112, e98_113, e98_114, e98_115, e98_116, e98_118, e98_119, e98_120, e98_122, e98_123, e98_124, e98_125, e98_126, e98_127, e98_128, e98_129, e98_130, e98_131, e98_132, e98_133, e98_134, e98_135, e98_137, e98_138, e98_139, e98_141, e98_142, e98_143, e98_144, e98_145, e98_146, e98_147, e98_148, e98_149, e98_150, e98_151, e98_154, implies_true, Int.reduceSub, Option.isNone_some, Option.isNone_none, ab_bh_some, ab_bh_thr, ab_gs_3, ab_gl_2, ab_gl_3, ab_gt_some, ab_gc_0, ab_gk_0, Bool.false_eq_true, Bool.true_eq_false, false_implies, Nat.reduceEqDiff, ab_ge, ab_lt, ab_le, ab_gt, ab_eq, ab_ne, decide_eq_true_eq, ab_w_id, ab_w0, ab_gd_some, ab_gs_0, ab_gs_1, ab_gl_0, ab_gl_1, ab_bv_some, ab_bu_some, ab_bv_thr, ab_bu_thr, ab_fx_n, ab_fx_i, ab_fx_q, ab_fx_l, ab_sh_si, ab_gr_si, ab_gl_si, cs_n, ↓reduceIte, true_or, or_true, false_or, or_false, and_true, true_and, and_false, false_and, not_true_eq_false, not_false_eq_true, eq_self, Int.reduceEq, Int.reduceLT, Int.reduceLE, Int.reduceAdd, Int.reduceMul, Int.reduceNeg, if_pos, if_neg, ab_sh_new, ab_sh_sr, ab_sh_si, ab_new_n, ab_n_sr, ab_n_si, ab_mna_sh, ab_mna_n, List.replicate_zero, List.nil_append, List.cons_append, Nat.reduceAdd, Nat.reduceMul, Int.reduceToNat, hs, hn, cs_at0, cs_atS]
def cs_hB : ab_H := ab_new (cs_m2 cs_hM) 7 2
theorem cs_hB_sh : ab_sh cs_hB = [(6, 13), (4, 7), (0, 40), (0, 40), (0, 40), (1, 5), (0, 5), (5, 15), (0, 5), (0, 5), (0, 5), (0, 5), (0, 5), (0, 5), (0, 5), (0, 5), (0, 100), (0, 5), (8, 22), (2, 0), (2, 0), (1, 0), (0, 0), (0, 0), (2, 5), (0, 3), (0, 3), (0, 3), (0, 3), (0, 3), (7, 2)] := by decide +kernel
theorem cs_hB_z (c : Nat) (x : Int) (hc : (1 ≤ c ∧ c ≤ 6) ∨ (11 ≤ c ∧ c ≤ 17)) : ab_gi cs_hB c x = 0 := by
  have h : c = 1 ∨ c = 2 ∨ c = 3 ∨ c = 4 ∨ c = 5 ∨ c = 6 ∨ c = 11 ∨ c = 12 ∨ c = 13 ∨ c = 14 ∨ c = 15 ∨ c = 16 ∨ c = 17 := by omega
  rcases h with h | h | h | h | h | h | h | h | h | h | h | h | h <;> subst h <;> rfl
theorem cs_hB_L : cs_L cs_hB := by
  refine ⟨by rw [cs_hB_sh]; exact ⟨rfl, rfl, rfl, rfl, rfl, rfl, rfl, rfl, rfl, rfl, rfl, rfl, rfl, rfl, rfl, rfl, rfl, rfl⟩, ?_⟩
  decide +kernel
theorem cs_hB_k : ∀ d, 0 ≤ d → d < 5 → ab_gi cs_hB 8 d = 10 ∧ ab_gi cs_hB 9 d = 3 ∧ ab_gi cs_hB 10 d = 2 ∧ (ab_gi cs_hB (25 + d.toNat) 0 = 10 ∧ ab_gi cs_hB (25 + d.toNat) 1 = 3 ∧ ab_gi cs_hB (25 + d.toNat) 2 = 2) ∧ ab_gr cs_hB 24 d = some (25 + d.toNat) ∧ (ab_sh cs_hB)[25 + d.toNat]? = some (0, 3) := fun d d1 d2 => by
  have h : d = 0 ∨ d = 1 ∨ d = 2 ∨ d = 3 ∨ d = 4 := by omega
  rcases h with h | h | h | h | h <;> subst h <;> decide +kernel
theorem cs_hB_0 : (ab_gi cs_hB 0 2 = 0 ∧ ab_gi cs_hB 0 3 = -1 ∧ ab_gi cs_hB 0 4 = -1 ∧ ab_gi cs_hB 0 5 = -1 ∧ ab_gi cs_hB 0 6 = 0 ∧ ab_gi cs_hB 0 7 = 0) ∧ (ab_gi cs_hB 7 0 = 30 ∧ ab_gi cs_hB 7 1 = 0 ∧ ab_gi cs_hB 7 2 = 0 ∧ ab_gi cs_hB 7 6 = -1 ∧ ab_gi cs_hB 7 12 = 0) := by decide +kernel
theorem cs_hB_ci : ci cs_hB := by
  obtain ⟨⟨z2, z3, z4, z5, z6, z7⟩, y0, y1, y2, y6, y12⟩ := cs_hB_0
  have eD := cs_hB_z 1 0 (by omega)
  have eS := cs_hB_z 1 1 (by omega)
  have hT : cs_T cs_hB := ⟨cs_hB_L, by omega, by omega, by omega, fun d d1 d2 => by
    obtain ⟨k1, k2, k3, -⟩ := cs_hB_k d d1 d2
    omega⟩
  have hR : cs_R cs_hB := ⟨cs_hB_L, Or.inl ⟨eD, eS⟩, fun i i1 i2 => by rw [cs_hB_z 2 i (by omega), cs_hB_z 3 i (by omega), cs_hB_z 4 i (by omega)]; omega, fun d => Or.inl (cs_hB_z 5 d (by omega))⟩
  have h11 : ∀ c x, 11 ≤ c → c ≤ 17 → -1 ≤ ab_gi cs_hB c x ∧ ab_gi cs_hB c x ≤ 60 := fun c x c1 c2 => by rw [cs_hB_z c x (by omega)]; omega
  refine ⟨hR, ?_, ⟨Or.inl z2, fun _ => z2⟩, Or.inl ⟨z3, z4, z5⟩, by omega, by omega⟩
  rw [eD]
  refine ⟨⟨hT, y2, by omega, by omega⟩, ⟨y12, fun t _ _ => cs_hB_z 16 t (by omega), fun x _ _ => h11 13 x (by omega) (by omega), fun x _ _ => h11 11 x (by omega) (by omega)⟩, ?_, fun d _ _ => by have := h11 17 d (by omega) (by omega); omega⟩
  rw [show pk_plan (ck_K cs_hB) 0 = none from if_pos rfl]
  exact ⟨y6, by omega, fun x _ _ => h11 11 x (by omega) (by omega)⟩
theorem cs_hB_mm : mm cs_hB cs_hB 19 := by
  obtain ⟨⟨z2, z3, z4, z5, z6, z7⟩, y0, y1, y2, y6, y12⟩ := cs_hB_0
  have eD := cs_hB_z 1 0 (by omega)
  have eS := cs_hB_z 1 1 (by omega)
  refine ⟨?_, ?_, ?_, ?_, Or.inl ⟨by decide +kernel, z3, z4, z5⟩, ?_⟩
  · rw [eD, eS]
    refine ⟨by decide +kernel, by decide +kernel, fun d d1 d2 => by omega, fun d d1 d2 => ?_, Or.inl ⟨rfl, rfl⟩⟩
    exact (cs_hB_k d d1 d2).2.2.2.2
  · unfold mF
    decide +kernel
  · rw [eD, eS]
    exact ⟨fun d s d1 d2 => by omega, fun d d1 d2 => by omega, fun k k1 k2 => by omega⟩
  · unfold mKK ck_K
    refine Prod.ext (funext fun d => ?_) (Prod.ext (funext fun d => ?_) (Prod.ext (funext fun d => ?_) (Prod.ext ?_ ?_)))
    · dsimp only
      by_cases c : 0 ≤ d ∧ d < 5
      · obtain ⟨k1, k2, k3, ⟨k4, k5, k6⟩, -⟩ := cs_hB_k d c.1 c.2
        rw [if_pos c, if_pos c, k1, k4]
      · rw [if_neg c, if_neg c]
    · dsimp only
      by_cases c : 0 ≤ d ∧ d < 5
      · obtain ⟨k1, k2, k3, ⟨k4, k5, k6⟩, -⟩ := cs_hB_k d c.1 c.2
        rw [if_pos c, if_pos c, k2, k5]
      · rw [if_neg c, if_neg c]
    · dsimp only
      by_cases c : 0 ≤ d ∧ d < 5
      · obtain ⟨k1, k2, k3, ⟨k4, k5, k6⟩, -⟩ := cs_hB_k d c.1 c.2
        rw [if_pos c, if_pos c, k3, k6]
      · rw [if_neg c, if_neg c]
    · dsimp only
      decide +kernel
    · dsimp only
      decide +kernel
  · have e : ab_gi cs_hB 18 11 = 0 := by decide +kernel
    exact ⟨Or.inl e, fun q => by rw [e] at q; omega⟩
theorem cs_hB_li : li cs_hB 19 := ⟨cs_hB_ci, cs_hB_mm, by rw [cs_hB_sh]; rfl⟩
theorem cs_hB_c : ab_kc cs_hB ≤ 40 ∧ ab_ks cs_hB ≤ 500 := by decide +kernel
end
