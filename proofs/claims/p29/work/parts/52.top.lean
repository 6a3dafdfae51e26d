/-! THE LAW, WHOLE, ON THE ABSTRACT MACHINE -/
section
variable {B : ab_B}
theorem m74_k {dd : Nat} {D S : Int} (hB : B.2.1 ≤ 260) : ∀ (k : Nat) (j : Int) (h : ab_H) (o8 o9 o10 o11 o12 : Option ab_V), cs_V D S h → 0 ≤ j → j + k = 50 →
    ∃ (h' : ab_H) (p8 p9 p10 p11 p12 : Option ab_V), ab_E B (dd + 18) 74 54 [some (.inr (.inr none)), some (.inr (.inr (some 0))), some (.inl D), some (.inl S), some (.inl ((D - 1) * S)), some (.inr (.inr (some 18))), some (.inr (.inr (some 19))), some (.inl j), o8, o9, o10, o11, o12] [] h = ab_E B (dd + 18) 74 308 [some (.inr (.inr none)), some (.inr (.inr (some 0))), some (.inl D), some (.inl S), some (.inl ((D - 1) * S)), some (.inr (.inr (some 18))), some (.inr (.inr (some 19))), some (.inl 50), p8, p9, p10, p11, p12] [] h' ∧ cs_V D S h' ∧ ab_kc h' ≤ ab_kc h + k ∧ ab_ks h' ≤ ab_ks h + 6 * k
  | 0, j, h, o8, o9, o10, o11, o12, v, j1, j2 => by
    have e : j = 50 := by omega
    subst e
    refine ⟨h, o8, o9, o10, o11, o12, ?_, v, by omega, by omega⟩
    rw [e74_54]
    simp (disch := omega) only [e74_56, e74_58, Option.isSome_some, ab_bvh_some, ab_bvh_thr, ab_ge, ab_lt, ab_le, ab_gt, ab_eq, ab_ne, decide_eq_true_eq, ab_w_id, ab_w0, ab_gd_some, ab_gs_0, ab_gs_1, ab_gl_0, ab_gl_1, ab_bv_some, ab_bu_some, ab_bv_thr, ab_bu_thr, ab_fx_n, ab_fx_i, ab_fx_q, ab_fx_l, ab_sh_si, ab_gr_si, ab_gl_si, cs_n, ↓reduceIte, true_or, or_true, false_or, or_false, and_true, true_and, and_false, false_and, not_true_eq_false, not_false_eq_true, eq_self, Int.reduceEq, Int.reduceLT, Int.reduceLE, Int.reduceAdd, Int.reduceMul, Int.reduceNeg, if_pos, if_neg]
  | k + 1, j, h, o8, o9, o10, o11, o12, v, j1, j2 => by
    have hL := v.1.1.1.1
    obtain ⟨hR, eD, eS, D1, D2, S1, S2⟩ := v.1.1
    have ei1 : ab_irem j 16 = j % 16 := ab_irem_id j1 (by omega) (by omega) (by omega)
    have ei2 : ab_irem (7 * j + 3) 16 = (7 * j + 3) % 16 := ab_irem_id (by omega) (by omega) (by omega) (by omega)
    obtain ⟨v1, c1⟩ := m70 (B := B) (dd := dd + 17) (h := h) (k := j % 16) hB (by omega) (by omega)
    obtain ⟨v2, c2⟩ := m70 (B := B) (dd := dd + 17) (h := h) (k := (7 * j + 3) % 16) hB (by omega) (by omega)
    have rx := cs_bel_rng (v := v1 + 31 * j) (n := 12) (by omega) (by omega)
    have mx := m39 (B := B) (dd := dd + 17) (h := h) (v := v1 + 31 * j) (n := 12) (by omega) (by omega)
    obtain ⟨h1, a1, ⟨v1', sh1, k19, kc1, ks1⟩⟩ := m71 (B := B) (dd := dd + 11) (x2 := ab_idiv (v1 + 31 * j) 12) (x3 := v2 + 5 * j) v rx.1 rx.2
    have hL1 := v1'.1.1.1.1
    obtain ⟨h2, q11, q12, a2, v2', e2, g2, w2⟩ := m74_b (B := B) (dd := dd) (D := D) (S := S) (x4 := (D - 1) * S) (x7 := j) (x8 := v1 + 31 * j) (x9 := v2 + 5 * j) (h := h1) S.toNat 0 h1 o11 o12 v1' rfl (fun _ _ _ => rfl) (fun s s1 s2 => by omega) (by omega) (by omega)
    have w2' : ∀ s, 0 ≤ s → s < S → 1 < cs_bc h2 s → ab_gi h2 19 s = 1 := fun s s1 s2 sb => w2 s s1 s2 (by
      have ebc : cs_bc h2 s = cs_bc h1 s := by
        unfold cs_bc cs_b
        simp only [g2 1 _ (by decide), g2 2 _ (by decide), g2 3 _ (by decide), g2 5 _ (by decide)]
      rw [← ebc]; exact sb)
    have hBS := cs_BS D1 D2 S1 S2
    obtain ⟨r11, r12, a3⟩ := m74_n (B := B) (dd := dd) (x7 := j) (x8 := v1 + 31 * j) (x9 := v2 + 5 * j) v2' w2' ((D - 1) * S).toNat 0 q11 q12 (by omega) (by omega)
    have kc2 : ab_kc h2 = ab_kc h1 := by unfold ab_kc; rw [e2]
    have ks2 : ab_ks h2 = ab_ks h1 := by unfold ab_ks; rw [e2]
    obtain ⟨h3, p8, p9, p10, p11, p12, a4, v3, kc3, ks3⟩ := m74_k (dd := dd) (D := D) (S := S) hB k (j + 1) h2 (some (.inl (v1 + 31 * j))) (some (.inl (v2 + 5 * j))) (some (.inl ((D - 1) * S))) r11 r12 v2' (by omega) (by omega)
    refine ⟨h3, p8, p9, p10, p11, p12, ?_, v3, by omega, by omega⟩
    rw [← a4, e74_54]
    simp (disch := omega) only [e74_56, e74_58, e74_61, e74_62, e74_64, e74_66, e74_67, e74_70, e74_72, e74_74, e74_75, e74_76, e74_78, e74_79, e74_81, e74_83, e74_84, e74_85, e74_86, e74_88, e74_89, e74_92, e74_93, e74_95, e74_96, e74_97, e74_99, e74_100, e74_102, e74_104, e74_107, e74_109, e74_111, e74_112, e74_114, e74_116, e74_117, e74_118, e74_121, e74_126, e74_127, Option.isSome_some, ab_bvh_some, ab_bvh_thr, ab_ge, ab_lt, ab_le, ab_gt, ab_eq, ab_ne, decide_eq_true_eq, ab_w_id, ab_w0, ab_gd_some, ab_gs_0, ab_gs_1, ab_gl_0, ab_gl_1, ab_bv_some, ab_bu_some, ab_bv_thr, ab_bu_thr, ab_fx_n, ab_fx_i, ab_fx_q, ab_fx_l, ab_sh_si, ab_gr_si, ab_gl_si, cs_n, ↓reduceIte, true_or, or_true, false_or, or_false, and_true, true_and, and_false, false_and, not_true_eq_false, not_false_eq_true, eq_self, Int.reduceEq, Int.reduceLT, Int.reduceLE, Int.reduceAdd, Int.reduceMul, Int.reduceNeg, if_pos, if_neg, hL.1, ei1, ei2, c1, c2, mx, a1]
    rw [a2, e74_192, e74_193, a3, e74_302, e74_305]
theorem cs_hA_sh : ab_sh cs_hA = [(5, 13), (3, 7), (0, 40), (0, 40), (0, 40), (1, 5), (0, 5), (4, 15), (0, 5), (0, 5), (0, 5), (0, 5), (0, 5), (0, 5), (0, 5), (0, 5), (0, 100), (0, 5)] := rfl
theorem m74 {dd : Nat} (hB : B.2.1 ≤ 260) :
    ∃ h', ab_E B (dd + 18) 74 0 [some (.inr (.inr none)), none, none, none, none, none, none, none, none, none, none, none, none] [] cs_h0 = some (.inl (some (.inl 1)), h') ∧ ab_kc h' ≤ 1000 ∧ ab_ks h' ≤ 2000 := by
  have m60' := m60 (B := B) (dd := dd + 16) (h := ab_new cs_h0 5 13) rfl rfl
  have hA : cs_k2 (ab_new cs_h0 5 13) = cs_hA := rfl
  rw [hA] at m60'
  have hn0 : ab_n cs_h0 = 0 := rfl
  have hs0 : (ab_sh (ab_new cs_h0 5 13))[0]? = some (5, 13) := rfl
  obtain ⟨v0, c0⟩ := m70 (B := B) (dd := dd + 17) (h := cs_hA) (k := 0) hB (by omega) (by omega)
  obtain ⟨v1, c1⟩ := m70 (B := B) (dd := dd + 17) (h := cs_hA) (k := 1) hB (by omega) (by omega)
  have r0 := cs_bel_rng (v := v0) (n := 3) (by omega) (by omega)
  have r1 := cs_bel_rng (v := v1) (n := 4) (by omega) (by omega)
  have b0 := m39 (B := B) (dd := dd + 17) (h := cs_hA) (v := v0) (n := 3) (by omega) (by omega)
  have b1 := m39 (B := B) (dd := dd + 17) (h := cs_hA) (v := v1) (n := 4) (by omega) (by omega)
  obtain ⟨h1, a1, i1, e1, z4⟩ := m61 (B := B) (dd := dd) (D := 3 + cs_bel v0 3) (S := 1 + cs_bel v1 4) (by omega) (by omega) (by omega) (by omega)
  generalize hD : 3 + cs_bel v0 3 = D at a1 i1 z4
  generalize hS : 1 + cs_bel v1 4 = S at a1 i1 z4
  obtain ⟨hR, eD, eS, D1, D2, S1, S2⟩ := i1.1
  have hBS := cs_BS D1 D2 S1 S2
  have eBS : ((((D - 1) * S).toNat : Nat) : Int) = (D - 1) * S := by omega
  have shA := cs_hA_sh
  have sh1 : ab_sh h1 = ab_sh cs_hA := by unfold ab_sh; rw [e1]
  rw [shA] at sh1
  have n1 : ab_n h1 = 18 := by unfold ab_n; rw [sh1]; rfl
  have n2 : ab_n (ab_new h1 0 ((D - 1) * S).toNat) = 19 := by rw [ab_new_n, n1]
  have hL1 := i1.1.1.1
  have gi2 : ∀ c x, c ≤ 17 → ab_gi (ab_new (ab_new h1 0 ((D - 1) * S).toNat) 1 S.toNat) c x = ab_gi h1 c x := fun c x hc => by
    rw [ab_gi_new, n2, if_neg (by omega), ab_gi_new, n1, if_neg (by omega)]
  have sh2 : ab_sh (ab_new (ab_new h1 0 ((D - 1) * S).toNat) 1 S.toNat) = [(5, 13), (3, 7), (0, 40), (0, 40), (0, 40), (1, 5), (0, 5), (4, 15), (0, 5), (0, 5), (0, 5), (0, 5), (0, 5), (0, 5), (0, 5), (0, 5), (0, 100), (0, 5), (0, ((D - 1) * S).toNat), (1, S.toNat)] := by
    rw [ab_sh_new, ab_sh_new, sh1]; rfl
  have gr2 : ∀ c x, c ≤ 17 → ab_gr (ab_new (ab_new h1 0 ((D - 1) * S).toNat) 1 S.toNat) c x = ab_gr h1 c x := fun c x hc => by
    rw [ab_gr_new, n2, if_neg (by omega), ab_gr_new, n1, if_neg (by omega)]
  have hL2 : cs_L (ab_new (ab_new h1 0 ((D - 1) * S).toNat) 1 S.toNat) := by
    refine ⟨by rw [sh2]; exact ⟨rfl, rfl, rfl, rfl, rfl, rfl, rfl, rfl, rfl, rfl, rfl, rfl, rfl, rfl, rfl, rfl, rfl, rfl⟩, ?_⟩
    simp only [gr2 0 _ (by omega), gr2 1 _ (by omega), gr2 7 _ (by omega)]
    exact hL1.2
  have v2 : cs_V D S (ab_new (ab_new h1 0 ((D - 1) * S).toNat) 1 S.toNat) := by
    refine ⟨cs_I_L hL2 gi2 i1, by rw [sh2]; exact ⟨rfl, rfl⟩, fun b b1 b2 => ?_, fun s s1 s2 => ?_⟩
    · obtain ⟨y1, y2, y3, y4, y5, y6⟩ := cs_blk D1 D2 S2 b1 b2
      rw [gi2 4 _ (by omega), ab_gi_new, n2, if_neg (by omega), ab_gi_new, n1, if_pos rfl]
      exact (z4 (cs_dk D b) (b / (D - 1)) y4 y5 y2 (by omega)).symm
    · left
      rw [ab_gi_new, n2, if_pos rfl]
  obtain ⟨h3, p8, p9, p10, p11, p12, a3, v3, kc3, ks3⟩ := m74_k (B := B) (dd := dd) (D := D) (S := S) hB 50 0 _ none none none none none v2 (by omega) (by omega)
  obtain ⟨h4, a4, i4, e4⟩ := m72 (B := B) (dd := dd + 9) v3.1
  have hL3 := v3.1.1.1.1
  have hL4 := i4.1.1.1
  have m85' := m85 (B := B) (dd := dd + 17) hL4
  rw [i4.2.2.2.2.2.1, Int.zero_add] at m85'
  have h0 : ∀ c x, c ≠ 0 → ab_gi (ab_si h4 0 12 1) c x = ab_gi h4 c x := fun c x hc => by rw [ab_gi_si, if_neg (fun z => hc z.1)]
  have h00 : ∀ k, k ≠ 12 → ab_gi (ab_si h4 0 12 1) 0 k = ab_gi h4 0 k := fun k hk => by rw [ab_gi_si, if_neg (fun z => hk z.2)]
  have m84' := m84g (B := B) (dd := dd + 12) (h := ab_si h4 0 12 1) (cs_Q_fr (h := h4) rfl (fun c x h1 h2 => h0 c x (by omega)) i4.1) (cs_Y_fr (h := h4) rfl (fun c x hc => h0 c x (by omega)) i4.2.1) (cs_N_fr (h0 1 0 (by decide)) (fun x => h0 4 x (by decide)) (fun k hk => h00 k (by omega)) i4.2.2.2.1) (cs_G_fr0 i4.2.2.2.2.2.2 (fun c x h1 h2 => h0 c x (by omega)) (h00 3 (by decide)))
  have kcA : ab_kc h1 = 18 := by
    have : ab_kc h1 = ab_kc cs_hA := by unfold ab_kc; rw [e1]
    rw [this]; rfl
  have ksA : ab_ks h1 ≤ 1000 := by
    have : ab_ks h1 = ab_ks cs_hA := by unfold ab_ks; rw [e1]
    rw [this]; decide
  have kc4 : ab_kc h4 = ab_kc h3 := by unfold ab_kc; rw [e4]
  have ks4 : ab_ks h4 = ab_ks h3 := by unfold ab_ks; rw [e4]
  rw [ab_kc_new, ab_kc_new] at kc3
  rw [ab_ks_new, ab_ks_new] at ks3
  refine ⟨ab_si h4 0 12 1, ?_, by show ab_kc h4 ≤ _; omega, by show ab_ks h4 ≤ _; omega⟩
  simp (disch := omega) only [e74_0, e74_3, e74_4, e74_7, e74_8, e74_9, e74_10, e74_11, e74_14, e74_15, e74_18, e74_19, e74_20, e74_21, e74_22, e74_23, e74_26, e74_27, e74_30, e74_31, e74_32, e74_33, e74_34, e74_35, e74_38, e74_40, e74_42, e74_44, e74_46, e74_47, e74_49, e74_51, e74_52, Option.isSome_some, ab_bvh_some, ab_bvh_thr, ab_ge, ab_lt, ab_le, ab_gt, ab_eq, ab_ne, decide_eq_true_eq, ab_w_id, ab_w0, ab_gd_some, ab_gs_0, ab_gs_1, ab_gl_0, ab_gl_1, ab_bv_some, ab_bu_some, ab_bv_thr, ab_bu_thr, ab_fx_n, ab_fx_i, ab_fx_q, ab_fx_l, ab_sh_si, ab_gr_si, ab_gl_si, cs_n, ↓reduceIte, true_or, or_true, false_or, or_false, and_true, true_and, and_false, false_and, not_true_eq_false, not_false_eq_true, eq_self, Int.reduceEq, Int.reduceLT, Int.reduceLE, Int.reduceAdd, Int.reduceMul, Int.reduceNeg, if_pos, if_neg, hn0, hs0, m60', c0, c1, b0, b1, hD, hS, cs_hA_L.1, a1, n1, n2]
  rw [a3]
  simp (disch := omega) only [e74_308, e74_309, e74_310, e74_313, e74_316, e74_317, e74_320, e74_321, e74_324, e74_325, e74_328, e74_331, e74_332, e74_336, Option.isSome_some, ab_bvh_some, ab_bvh_thr, ab_ge, ab_lt, ab_le, ab_gt, ab_eq, ab_ne, decide_eq_true_eq, ab_w_id, ab_w0, ab_gd_some, ab_gs_0, ab_gs_1, ab_gl_0, ab_gl_1, ab_bv_some, ab_bu_some, ab_bv_thr, ab_bu_thr, ab_fx_n, ab_fx_i, ab_fx_q, ab_fx_l, ab_sh_si, ab_gr_si, ab_gl_si, cs_n, ↓reduceIte, true_or, or_true, false_or, or_false, and_true, true_and, and_false, false_and, not_true_eq_false, not_false_eq_true, eq_self, Int.reduceEq, Int.reduceLT, Int.reduceLE, Int.reduceAdd, Int.reduceMul, Int.reduceNeg, if_pos, if_neg, hL3.1, hL4.1, a4, m85', m84']
end
