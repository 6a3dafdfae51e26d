/-! A NEW OBJECT'S SHELF; THE LAW'S SMALL METHODS -/
section
variable {B : ab_B}
theorem cs_w_0 {h : ab_H} {D S s d : Int} (q : cs_Q h D S) (d1 : 0 ≤ d) (d2 : d < D) (h4 : ∀ o, 0 ≤ o → o < D → ab_gi h 4 (o * 8 + s) = 0) : cs_w h s d = 0 := by
  obtain ⟨hR, eD, eS, D1, D2, S1, S2⟩ := q
  unfold cs_w
  split
  · have key : ∀ (k : Nat) (j : Int), 0 ≤ j → j + k = D → cs_xf (fun o => if o = s % ab_gi h 1 0 then 0 else ab_gi h 4 (o * 8 + s)) 0 j k = 0 := by
      intro k
      induction k with
      | zero => intro j _ _; rfl
      | succ k ih =>
        intro j j1 j2
        unfold cs_xf
        rw [h4 j j1 (by omega)]
        have e : ab_ixor 0 (if j = s % ab_gi h 1 0 then 0 else 0) = 0 := by split <;> decide
        rw [e]
        exact ih (j + 1) (by omega) (by omega)
    exact key _ 0 (by omega) (by omega)
  · exact h4 d d1 d2
theorem m61 {dd : Nat} {D S : Int} (hD : 3 ≤ D) (hD5 : D ≤ 5) (hS : 1 ≤ S) (hS8 : S ≤ 8) :
    ∃ h', ab_E B (dd + 17) 61 0 [some (.inr (.inr (some 0))), some (.inl D), some (.inl S)] [] cs_hA = some (.inl (some (.inl ((D - 1) * S))), h') ∧ cs_I D S h' ∧ h'.2 = cs_hA.2 ∧ (∀ o t, 0 ≤ o → o < D → 0 ≤ t → t < 8 → ab_gi h' 4 (o * 8 + t) = 0) := by
  have hL := cs_hA_L
  obtain ⟨h1, a1, b1, b2, b3, b4, b5⟩ := m1 (B := B) (dd := dd + 14) hL hD hD5 hS hS8
  have e1 : ab_sh h1 = ab_sh cs_hA := by unfold ab_sh; rw [b1]; rfl
  have e2 : ab_gr h1 = ab_gr cs_hA := by unfold ab_gr; rw [b1]; rfl
  have hL1 : cs_L h1 := by unfold cs_L; rw [e1, e2]; exact hL
  have g1 : ∀ c x, c ≠ 1 → c ≠ 2 → c ≠ 3 → c ≠ 4 → c ≠ 5 → c ≠ 6 → ab_gi h1 c x = ab_gi cs_hA c x := fun c x n1 n2 n3 n4 n5 n6 => by
    rw [b2 c x n2 n3 n4 n5 n6, ab_gi_si, if_neg (fun q => n1 q.1), ab_gi_si, if_neg (fun q => n1 q.1)]
  have d10 : ab_gi h1 1 0 = D := by rw [b2 1 0 (by decide) (by decide) (by decide) (by decide) (by decide)]; simp [ab_gi_si]
  have d11 : ab_gi h1 1 1 = S := by rw [b2 1 1 (by decide) (by decide) (by decide) (by decide) (by decide)]; simp [ab_gi_si]
  have g7 : ∀ x, ab_gi h1 7 x = ab_gi cs_hA 7 x := fun x => g1 7 x (by decide) (by decide) (by decide) (by decide) (by decide) (by decide)
  have hK : cz_K (ab_si h1 7 2 D) D := by
    have f : ∀ c x, c ≠ 7 → ab_gi (ab_si h1 7 2 D) c x = ab_gi h1 c x := fun c x hc => by rw [ab_gi_si, if_neg (fun q => hc q.1)]
    have f7 : ∀ x, x ≠ 2 → ab_gi (ab_si h1 7 2 D) 7 x = ab_gi cs_hA 7 x := fun x hx => by rw [ab_gi_si, if_neg (fun q => hx q.2), g7]
    have f72 : ab_gi (ab_si h1 7 2 D) 7 2 = D := by simp [ab_gi_si]
    have k : ∀ d, 0 ≤ d → d < 5 → ab_gi (ab_si h1 7 2 D) 8 d = 10 ∧ ab_gi (ab_si h1 7 2 D) 9 d = 3 ∧ ab_gi (ab_si h1 7 2 D) 10 d = 2 := fun d d1 d2 => by
      rw [f 8 d (by decide), f 9 d (by decide), f 10 d (by decide), g1 8 d (by decide) (by decide) (by decide) (by decide) (by decide) (by decide), g1 9 d (by decide) (by decide) (by decide) (by decide) (by decide) (by decide), g1 10 d (by decide) (by decide) (by decide) (by decide) (by decide) (by decide)]
      exact cs_hA_k d d1 d2
    refine ⟨⟨hL1, ?_, ?_, ?_, fun d d1 d2 => ?_⟩, f72, by rw [f7 0 (by decide)]; exact cs_hA_7.1, by rw [f7 1 (by decide)]; exact cs_hA_7.2.1, k⟩
    · rw [f72]; omega
    · rw [f7 0 (by decide), cs_hA_7.1]; omega
    · rw [f7 1 (by decide), cs_hA_7.2.1]; omega
    · obtain ⟨k1, k2, k3⟩ := k d d1 d2
      rw [k1, k2, k3]; omega
  have r : cz_R h1 cz_z0 := cz_R_0 (fun c x hc => by rw [g1 c x (by omega) (by omega) (by omega) (by omega) (by omega) (by omega)]; exact cs_hA_z c x (by omega)) (by rw [g7]; exact cs_hA_7.2.2.1) (by rw [g7]; exact cs_hA_7.2.2.2)
  obtain ⟨h2, a2, y2, f2⟩ := m37 (B := B) (e := dd) hD hD5 hK r (fun d _ _ => by rw [g1 17 d (by decide) (by decide) (by decide) (by decide) (by decide) (by decide), cs_hA_z 17 d (by omega)]; omega)
  have hL2 := y2.1.1.1
  have g2 : ∀ c x, c ≠ 7 → (c < 11 ∨ 16 < c) → ab_gi h2 c x = ab_gi h1 c x := fun c x h7 hc => by
    rw [f2.2 c x hc (fun q => h7 q.1), ab_gi_si, if_neg (fun q => h7 q.1)]
  have s2 : h2.2 = cs_hA.2 := f2.1.trans b1
  have hf : ∃ h9, h9 = ab_si (ab_si (ab_si (ab_si (ab_si (ab_si (ab_si (ab_si (ab_si (ab_si h2 0 2 1) 0 3 (-1)) 0 4 (-1)) 0 5 (-1)) 0 6 0) 0 7 0) 0 8 0) 0 9 0) 0 10 0) 0 11 0 := ⟨_, rfl⟩
  obtain ⟨h9, hh⟩ := hf
  have g9 : ∀ c x, c ≠ 0 → ab_gi h9 c x = ab_gi h2 c x := fun c x hc => by
    rw [hh]
    simp only [ab_gi_si, if_neg (fun q : c = 0 ∧ _ => hc q.1)]
  have s9 : h9.2 = cs_hA.2 := by rw [hh]; exact s2
  have g90 : ab_gi h9 0 2 = 1 ∧ ab_gi h9 0 3 = -1 ∧ ab_gi h9 0 6 = 0 ∧ ab_gi h9 0 7 = 0 ∧ ab_gi h9 0 12 = 0 := by
    rw [hh]
    refine ⟨by simp [ab_gi_si], by simp [ab_gi_si], by simp [ab_gi_si], by simp [ab_gi_si], ?_⟩
    simp [ab_gi_si]
    rw [g2 0 12 (by decide) (by omega), g1 0 12 (by decide) (by decide) (by decide) (by decide) (by decide) (by decide)]
    rfl
  have k5 : ∀ d, ab_gi h9 5 d = 0 := fun d => by
    rw [g9 5 d (by decide), g2 5 d (by decide) (by omega), b4 5 d (by omega)]
    split
    · rfl
    · rw [ab_gi_si, if_neg (by simp), ab_gi_si, if_neg (by simp)]; exact cs_hA_z 5 d (by omega)
  have k4 : ∀ o t, 0 ≤ o → o < 5 → 0 ≤ t → t < 8 → ab_gi h9 4 (o * 8 + t) = 0 := fun o t o1 o2 t1 t2 => by
    rw [g9 4 _ (by decide), g2 4 _ (by decide) (by omega)]; exact (b5 o o1 o2).1 t t1 t2
  have z2 : ∀ c x, c = 2 ∨ c = 3 → ab_gi (ab_si (ab_si cs_hA 1 0 D) 1 1 S) c x = 0 := fun c x hc => by
    rw [ab_gi_si, if_neg (fun q => by have := q.1; omega), ab_gi_si, if_neg (fun q => by have := q.1; omega)]
    exact cs_hA_z c x (by omega)
  have k23 : ∀ o t, 0 ≤ o → o < 5 → 0 ≤ t → t < 8 → ab_gi h9 2 (o * 8 + t) = 0 ∧ ab_gi h9 3 (o * 8 + t) = if o < D ∧ t < S then t else 0 := fun o t o1 o2 t1 t2 => by
    rw [g9 2 _ (by decide), g9 3 _ (by decide), g2 2 _ (by decide) (by omega), g2 3 _ (by decide) (by omega)]
    by_cases c : o < D ∧ t < S
    · rw [if_pos c]; exact (b5 o o1 o2).2.1 c.1 t t1 c.2
    · obtain ⟨x1, x2⟩ := (b5 o o1 o2).2.2 t t1 t2 c
      rw [if_neg c, x1, x2]; exact ⟨z2 2 _ (by omega), z2 3 _ (by omega)⟩
  have eD : ab_gi h9 1 0 = D := by rw [g9 1 0 (by decide), g2 1 0 (by decide) (by omega)]; exact d10
  have eS : ab_gi h9 1 1 = S := by rw [g9 1 1 (by decide), g2 1 1 (by decide) (by omega)]; exact d11
  have hL9 : cs_L h9 := by
    have e1 : ab_sh h9 = ab_sh cs_hA := by unfold ab_sh; rw [s9]
    have e2 : ab_gr h9 = ab_gr cs_hA := by unfold ab_gr; rw [s9]
    unfold cs_L; rw [e1, e2]; exact hL
  have hR9 : cs_R h9 := by
    refine ⟨hL9, Or.inr ⟨by omega, by omega, by omega, by omega⟩, fun i i1 i2 => ?_, fun d => Or.inl (k5 d)⟩
    have ei : i = i / 8 * 8 + i % 8 := by omega
    obtain ⟨x1, x2⟩ := k23 (i / 8) (i % 8) (by omega) (by omega) (by omega) (by omega)
    have x3 := k4 (i / 8) (i % 8) (by omega) (by omega) (by omega) (by omega)
    rw [← ei] at x1 x2 x3
    rw [x1, x2, x3]
    split <;> omega
  have q9 : cs_Q h9 D S := ⟨hR9, eD, eS, hD, hD5, hS, hS8⟩
  refine ⟨h9, ?_, ⟨q9, cs_Y_fr (s9.trans s2.symm) (fun c x hc => g9 c x (by omega)) y2, Or.inr g90.1, Or.inl g90.2.1, ⟨by rw [g90.2.2.1]; omega, by rw [g90.2.2.2.1]; omega⟩, g90.2.2.2.2, ?_⟩, s9, fun o t o1 o2 t1 t2 => k4 o t o1 (by omega) t1 t2⟩
  · have e5 := m5 (B := B) (dd := dd + 16) hR9
    rw [cs_B_eq q9, hh] at e5
    rw [hh]
    have hL2' : cs_L (ab_si h2 0 2 1) := hL2
    simp (disch := omega) only [e61_0, e61_1, e61_2, e61_5, e61_6, e61_7, e61_10, e61_20, e61_21, e61_22, e61_25, e61_26, e61_28, e61_31, e61_41, e61_42, e61_45, e61_46, e61_47, e61_50, e61_51, e61_54, e61_55, e61_58, e61_59, e61_60, e61_63, e61_64, e61_67, e61_68, e61_69, e61_72, e61_73, e61_74, e61_77, e61_78, e61_79, e61_82, e61_83, e61_84, e61_87, e61_88, e61_89, e61_92, e61_93, e61_94, e61_97, e61_98, e61_101, e61_104, Option.isSome_some, ab_bvh_some, ab_bvh_thr, ab_ge, ab_lt, ab_le, ab_gt, ab_eq, ab_ne, decide_eq_true_eq, ab_w_id, ab_w0, ab_gd_some, ab_gs_0, ab_gs_1, ab_gl_0, ab_gl_1, ab_bv_some, ab_bu_some, ab_bv_thr, ab_bu_thr, ab_fx_n, ab_fx_i, ab_fx_q, ab_fx_l, ab_sh_si, ab_gr_si, ab_gl_si, cs_n, ↓reduceIte, true_or, or_true, false_or, or_false, and_true, true_and, and_false, false_and, not_true_eq_false, not_false_eq_true, eq_self, Int.reduceEq, Int.reduceLT, Int.reduceLE, Int.reduceAdd, Int.reduceMul, Int.reduceNeg, if_pos, if_neg, hL.1, hL.2, hL1.1, hL1.2, hL2.1, hL2.2, a1, a2, m92 hL2', implies_true, e5]
  · intro s d s1 s2' d1 d2 _
    rw [eS] at s2'
    rw [eD] at d2
    right; right
    rw [(k23 d s d1 (by omega) s1 (by omega)).2, if_pos ⟨d2, s2'⟩, cs_w_0 q9 d1 d2 (fun o o1 o2 => k4 o s o1 (by omega) s1 (by omega))]
    omega
/-- a number below n -/
def cs_bel (v n : Int) : Int := ab_irem (ab_iand v 2147483647) n
theorem ab_iand_nn (v : Int) : 0 ≤ ab_iand v 2147483647 ∧ ab_iand v 2147483647 < 2147483648 := by
  unfold ab_iand
  generalize Int32.ofInt v = a
  have e : (Int32.ofInt 2147483647) = 2147483647 := rfl
  rw [e]
  have h1 : (a &&& 2147483647).toBitVec.msb = false := by
    rw [Int32.toBitVec_and, BitVec.msb_and]
    have : (2147483647 : Int32).toBitVec.msb = false := by decide
    rw [this, Bool.and_false]
  have h2 : (a &&& 2147483647).toInt = ((a &&& 2147483647).toBitVec.toNat : Int) := BitVec.toInt_eq_toNat_of_msb h1
  have h3 := (a &&& 2147483647).toInt_lt
  constructor
  · rw [h2]; omega
  · exact h3
theorem cs_bel_rng {v n : Int} (h1 : 1 ≤ n) (h2 : n ≤ 1000) : 0 ≤ cs_bel v n ∧ cs_bel v n < n := by
  obtain ⟨a, b⟩ := ab_iand_nn v
  unfold cs_bel
  rw [ab_irem_id a b (by omega) (by omega)]
  exact ⟨Int.emod_nonneg _ (by omega), Int.emod_lt_of_pos _ (by omega)⟩
theorem m39 {dd : Nat} {h : ab_H} {v n : Int} (h1 : 1 ≤ n) (h2 : n ≤ 1000) : ab_E B dd 39 0 [some (.inl v), some (.inl n)] [] h = some (.inl (some (.inl (cs_bel v n))), h) := by
  have hn : ¬ n = 0 := by omega
  simp (disch := omega) only [e39_0, e39_1, e39_3, e39_4, e39_5, e39_6, Option.isSome_some, ab_bvh_some, ab_bvh_thr, ab_ge, ab_lt, ab_le, ab_gt, ab_eq, ab_ne, decide_eq_true_eq, ab_w_id, ab_w0, ab_gd_some, ab_gs_0, ab_gs_1, ab_gl_0, ab_gl_1, ab_bv_some, ab_bu_some, ab_bv_thr, ab_bu_thr, ab_fx_n, ab_fx_i, ab_fx_q, ab_fx_l, ab_sh_si, ab_gr_si, ab_gl_si, cs_n, ↓reduceIte, true_or, or_true, false_or, or_false, and_true, true_and, and_false, false_and, not_true_eq_false, not_false_eq_true, eq_self, Int.reduceEq, Int.reduceLT, Int.reduceLE, Int.reduceAdd, Int.reduceMul, Int.reduceNeg, if_pos, if_neg, eq_false hn, cs_bel]
theorem m70 {dd : Nat} {h : ab_H} {k : Int} (hB : B.2.1 ≤ 260) (h1 : 0 ≤ k) (h2 : k ≤ 15) : ∃ v, ab_E B dd 70 0 [some (.inr (.inr none)), some (.inl k)] [] h = some (.inl (some (.inl v)), h) := by
  by_cases c : k < (B.2.1 : Int)
  · exact ⟨_, by simp (disch := omega) only [e70_0, e70_1, e70_2, e70_3, e70_6, e70_7, e70_8, e70_9, e70_12, e70_14, e70_15, e70_16, e70_17, e70_18, Option.isSome_some, ab_bvh_some, ab_bvh_thr, ab_ge, ab_lt, ab_le, ab_gt, ab_eq, ab_ne, decide_eq_true_eq, ab_w_id, ab_w0, ab_gd_some, ab_gs_0, ab_gs_1, ab_gl_0, ab_gl_1, ab_bv_some, ab_bu_some, ab_bv_thr, ab_bu_thr, ab_fx_n, ab_fx_i, ab_fx_q, ab_fx_l, ab_sh_si, ab_gr_si, ab_gl_si, cs_n, ↓reduceIte, true_or, or_true, false_or, or_false, and_true, true_and, and_false, false_and, not_true_eq_false, not_false_eq_true, eq_self, Int.reduceEq, Int.reduceLT, Int.reduceLE, Int.reduceAdd, Int.reduceMul, Int.reduceNeg, if_pos, if_neg, c]; rfl⟩
  · exact ⟨_, by simp (disch := omega) only [e70_0, e70_1, e70_2, e70_3, e70_6, e70_7, e70_8, e70_9, e70_12, e70_14, e70_15, e70_16, e70_17, e70_18, Option.isSome_some, ab_bvh_some, ab_bvh_thr, ab_ge, ab_lt, ab_le, ab_gt, ab_eq, ab_ne, decide_eq_true_eq, ab_w_id, ab_w0, ab_gd_some, ab_gs_0, ab_gs_1, ab_gl_0, ab_gl_1, ab_bv_some, ab_bu_some, ab_bv_thr, ab_bu_thr, ab_fx_n, ab_fx_i, ab_fx_q, ab_fx_l, ab_sh_si, ab_gr_si, ab_gl_si, cs_n, ↓reduceIte, true_or, or_true, false_or, or_false, and_true, true_and, and_false, false_and, not_true_eq_false, not_false_eq_true, eq_self, Int.reduceEq, Int.reduceLT, Int.reduceLE, Int.reduceAdd, Int.reduceMul, Int.reduceNeg, if_pos, if_neg, c]; rfl⟩
end
