/-! A NOTE IS DONE -/
section
variable {B : ab_B}
/-- a block's note stands; all else is as it should be -/
def cs_H (D S b : Int) (h : ab_H) : Prop := (0 ≤ b ∧ b < (D - 1) * S) ∧ cs_Q h D S ∧ cs_Y D h ∧ (ab_gi h 0 3 = b ∧ ab_gi h 0 4 = cs_w h (b / (D - 1)) (cs_dk D b) ∧ ab_gi h 0 5 = cs_w h (b / (D - 1)) (b / (D - 1) % D)) ∧ ((0 ≤ ab_gi h 0 6 ∧ ab_gi h 0 6 < S) ∧ (0 ≤ ab_gi h 0 7 ∧ ab_gi h 0 7 < S)) ∧ ab_gi h 0 12 = 0 ∧ cs_G h
theorem cs_H_lay {D S b e : Int} {h : ab_H} (i : cs_H D S b h) (e1 : 0 ≤ e) (e2 : e < D) :
    cs_H D S b (cs_lay h e (b / (D - 1)) (cs_w h (b / (D - 1)) e)) ∧ cs_j (cs_lay h e (b / (D - 1)) (cs_w h (b / (D - 1)) e)) (b / (D - 1)) e ∧ (∀ o, cs_j h (b / (D - 1)) o → cs_j (cs_lay h e (b / (D - 1)) (cs_w h (b / (D - 1)) e)) (b / (D - 1)) o) := by
  obtain ⟨⟨hb1, hb2⟩, i1, i2, ⟨n1, n2, n3⟩, i5, i6, i7⟩ := i
  obtain ⟨hR, eD, eS, D1, D2, S1, S2⟩ := i1
  have q : cs_Q h D S := ⟨hR, eD, eS, D1, D2, S1, S2⟩
  obtain ⟨b1, b2, b3, b4, b5, b6⟩ := cs_blk D1 D2 S2 hb1 hb2
  have w := cs_w_rng q e1 e2 b2 b3
  have wf := fun s d => cs_w_fr (h := h) (h' := cs_lay h e (b / (D - 1)) (cs_w h (b / (D - 1)) e)) (fun x => cs_lay_gi (by decide) (by decide)) (cs_lay_gi (by decide) (by decide)) s d
  have g0 : ∀ k, ab_gi (cs_lay h e (b / (D - 1)) (cs_w h (b / (D - 1)) e)) 0 k = ab_gi h 0 k := fun k => cs_lay_gi (by decide) (by decide)
  refine ⟨⟨⟨hb1, hb2⟩, cs_lay_Q q w.1 w.2, cs_Y_fr (cs_lay_snd _ _ _ _) (fun c x hc => cs_lay_gi (by omega) (by omega)) i2, ⟨by rw [g0]; exact n1, by rw [g0, wf]; exact n2, by rw [g0, wf]; exact n3⟩, by rw [g0, g0]; exact i5, by rw [g0]; exact i6, cs_G_lay q i7 b2 b3⟩, cs_lay_j b2 (by omega) b2 (by omega) (Or.inr ⟨rfl, rfl⟩), fun o j => cs_lay_j b2 (by omega) b2 (by omega) (Or.inl j)⟩
/-- the power goes off over a note -/
theorem cs_H_off {D S b x : Int} {h : ab_H} (i : cs_H D S b h) : cs_I D S (ab_si (ab_si h 0 2 0) 0 11 x) := by
  obtain ⟨hb, i1, i2, ⟨n1, n2, n3⟩, i5, i6, i7⟩ := i
  have g : ∀ c k, c ≠ 0 → ab_gi (ab_si (ab_si h 0 2 0) 0 11 x) c k = ab_gi h c k := fun c k hc => by
    rw [ab_gi_si, if_neg (fun q => hc q.1), ab_gi_si, if_neg (fun q => hc q.1)]
  have g0 : ∀ k, k ≠ 2 → k ≠ 11 → ab_gi (ab_si (ab_si h 0 2 0) 0 11 x) 0 k = ab_gi h 0 k := fun k k1 k2 => by
    rw [ab_gi_si, if_neg (fun q => k2 q.2), ab_gi_si, if_neg (fun q => k1 q.2)]
  have g2 : ab_gi (ab_si (ab_si h 0 2 0) 0 11 x) 0 2 = 0 := by simp [ab_gi_si]
  have wf := fun s d => cs_w_fr (h := h) (h' := ab_si (ab_si h 0 2 0) 0 11 x) (fun x => g 4 x (by decide)) (g 1 0 (by decide)) s d
  refine ⟨cs_Q_fr (h := h) rfl (fun c x h1 h2 => g c x (by omega)) i1, cs_Y_fr (h := h) rfl (fun c x hc => g c x (by omega)) i2, Or.inl g2, Or.inr ?_, by rw [g0 6 (by decide) (by decide), g0 7 (by decide) (by decide)]; exact i5, by rw [g0 12 (by decide) (by decide)]; exact i6, cs_G_fr0 i7 (fun c x h1 h2 => g c x (by omega)) (g0 3 (by decide) (by decide))⟩
  rw [g0 3 (by decide) (by decide), g0 4 (by decide) (by decide), g0 5 (by decide) (by decide), g2, wf, wf, n1]
  exact ⟨hb.1, hb.2, rfl, n2, n3⟩
/-- no note, all is as it should be -/
theorem cs_H_drop {D S b : Int} {h : ab_H} (i : cs_H D S b h) (hon : ab_gi h 0 2 = 0 ∨ ab_gi h 0 2 = 1) (j1 : cs_j h (b / (D - 1)) (cs_dk D b)) (j2 : cs_j h (b / (D - 1)) (b / (D - 1) % D)) : cs_I D S (ab_si (ab_si (ab_si h 0 3 (-1)) 0 4 (-1)) 0 5 (-1)) := by
  obtain ⟨hb, i1, i2, ⟨n1, n2, n3⟩, i5, i6, i7⟩ := i
  have eD := i1.2.1
  have g : ∀ c k, c ≠ 0 → ab_gi (ab_si (ab_si (ab_si h 0 3 (-1)) 0 4 (-1)) 0 5 (-1)) c k = ab_gi h c k := fun c k hc => by
    rw [ab_gi_si, if_neg (fun q => hc q.1), ab_gi_si, if_neg (fun q => hc q.1), ab_gi_si, if_neg (fun q => hc q.1)]
  have g0 : ∀ k, k ≠ 3 → k ≠ 4 → k ≠ 5 → ab_gi (ab_si (ab_si (ab_si h 0 3 (-1)) 0 4 (-1)) 0 5 (-1)) 0 k = ab_gi h 0 k := fun k k1 k2 k3 => by
    rw [ab_gi_si, if_neg (fun q => k3 q.2), ab_gi_si, if_neg (fun q => k2 q.2), ab_gi_si, if_neg (fun q => k1 q.2)]
  refine ⟨cs_Q_fr (h := h) rfl (fun c x h1 h2 => g c x (by omega)) i1, cs_Y_fr (h := h) rfl (fun c x hc => g c x (by omega)) i2, by rw [g0 2 (by decide) (by decide) (by decide)]; exact hon, Or.inl (by simp [ab_gi_si]), by rw [g0 6 (by decide) (by decide) (by decide), g0 7 (by decide) (by decide) (by decide)]; exact i5, by rw [g0 12 (by decide) (by decide) (by decide)]; exact i6, ?_⟩
  intro s d s1 s2 d1 d2 _
  rw [g 1 1 (by decide)] at s2
  rw [g 1 0 (by decide)] at d2
  refine cs_j_fr (fun x => g 4 x (by decide)) (g 1 0 (by decide)) (g 5 d (by decide)) (g 3 _ (by decide)) ?_
  by_cases c : cs_nd h s d
  · obtain ⟨c1, c2, c3⟩ := c
    rw [eD, n1] at c2 c3
    subst c2
    rcases c3 with z | z
    · rw [z]; exact j1
    · rw [z]; exact j2
  · exact i7 s d s1 s2 d1 d2 c
theorem cs_Fr_drop (h : ab_H) : cs_Fr h (ab_si (ab_si (ab_si h 0 3 (-1)) 0 4 (-1)) 0 5 (-1)) := (cs_Fr.si (by omega)).t ((cs_Fr.si (by omega)).t (cs_Fr.si (by omega)))
theorem m94 {dd : Nat} {D S : Int} {h : ab_H} (i : cs_I D S h) :
    ∃ h', ab_E B (dd + 3) 94 0 [some (.inr (.inr (some 0)))] [] h = some (.inl none, h') ∧ cs_I D S h' ∧ cs_Fr h h' ∧ (∀ x, ab_gi h' 4 x = ab_gi h 4 x) := by
  obtain ⟨i1, i2, i3, i4, i5, i6, i7⟩ := i
  have hL := i1.1.1
  have g : ∀ c k, c ≠ 0 → ab_gi (ab_si h 0 2 1) c k = ab_gi h c k := fun c k hc => by rw [ab_gi_si, if_neg (fun q => hc q.1)]
  have g0 : ∀ k, k ≠ 2 → ab_gi (ab_si h 0 2 1) 0 k = ab_gi h 0 k := fun k k1 => by rw [ab_gi_si, if_neg (fun q => k1 q.2)]
  have g2 : ab_gi (ab_si h 0 2 1) 0 2 = 1 := by simp [ab_gi_si]
  have q0 : cs_Q (ab_si h 0 2 1) D S := cs_Q_fr (h := h) rfl (fun c x h1 h2 => g c x (by omega)) i1
  have y0 : cs_Y D (ab_si h 0 2 1) := cs_Y_fr (h := h) rfl (fun c x hc => g c x (by omega)) i2
  have G0 : cs_G (ab_si h 0 2 1) := cs_G_fr0 i7 (fun c x h1 h2 => g c x (by omega)) (g0 3 (by decide))
  have wf := fun s d => cs_w_fr (h := h) (h' := ab_si h 0 2 1) (fun x => g 4 x (by decide)) (g 1 0 (by decide)) s d
  have eB := cs_B_eq q0
  rcases i4 with n | ⟨n1, n2, n3, n4, n5⟩
  · have e4 := m4 (B := B) (dd := dd + 1) (b := -1) q0.1 (by omega) (by omega)
    rw [if_neg (by omega)] at e4
    refine ⟨ab_si h 0 2 1, ?_, ⟨q0, y0, Or.inr g2, Or.inl (by rw [g0 3 (by decide)]; exact n), by rw [g0 6 (by decide), g0 7 (by decide)]; exact i5, by rw [g0 12 (by decide)]; exact i6, G0⟩, cs_Fr.si (by omega), fun x => g 4 x (by decide)⟩
    simp (disch := omega) only [e94_0, e94_1, e94_2, e94_5, e94_6, e94_9, e94_10, e94_13, e94_16, e94_19, e94_20, e94_23, e94_24, e94_27, e94_28, e94_31, Option.isSome_some, ab_bvh_some, ab_bvh_thr, ab_ge, ab_lt, ab_le, ab_gt, ab_eq, ab_ne, decide_eq_true_eq, ab_w_id, ab_w0, ab_gd_some, ab_gs_0, ab_gs_1, ab_gl_0, ab_gl_1, ab_bv_some, ab_bu_some, ab_bv_thr, ab_bu_thr, ab_fx_n, ab_fx_i, ab_fx_q, ab_fx_l, ab_sh_si, ab_gr_si, ab_gl_si, cs_n, ↓reduceIte, true_or, or_true, false_or, or_false, and_true, true_and, and_false, false_and, not_true_eq_false, not_false_eq_true, eq_self, Int.reduceEq, Int.reduceLT, Int.reduceLE, Int.reduceAdd, Int.reduceMul, Int.reduceNeg, if_pos, if_neg, hL.1, hL.2, g0 3 (by decide), n, e4, implies_true]
  · have H0 : cs_H D S (ab_gi h 0 3) (ab_si h 0 2 1) := ⟨⟨n1, n2⟩, q0, y0, ⟨g0 3 (by decide), by rw [g0 4 (by decide), wf]; exact n4, by rw [g0 5 (by decide), wf]; exact n5⟩, by rw [g0 6 (by decide), g0 7 (by decide)]; exact i5, by rw [g0 12 (by decide)]; exact i6, G0⟩
    obtain ⟨hR, eD, eS, D1, D2, S1, S2⟩ := i1
    have q : cs_Q h D S := ⟨hR, eD, eS, D1, D2, S1, S2⟩
    obtain ⟨b1, b2, b3, b4, b5, b6⟩ := cs_blk D1 D2 S2 n1 n2
    have sd1 : 0 ≤ ab_gi h 0 3 / (D - 1) % D := Int.emod_nonneg _ (by omega)
    have sd2 : ab_gi h 0 3 / (D - 1) % D < D := Int.emod_lt_of_pos _ (by omega)
    have e4 := m4 (B := B) (dd := dd + 1) (b := ab_gi h 0 3) q0.1 (by omega) (by omega)
    rw [if_pos ⟨n1, by rw [eB]; exact n2⟩] at e4
    have w1 := cs_w_rng q b4 b5 b2 b3
    have w2 := cs_w_rng q sd1 sd2 b2 b3
    obtain ⟨H1, j1, k1⟩ := cs_H_lay H0 b4 b5
    obtain ⟨H2, j2, k2⟩ := cs_H_lay H1 sd1 sd2
    have e90 := m90 (B := B) (dd := dd) q0 (by rw [g0 3 (by decide)]; exact n1) (by rw [g0 3 (by decide)]; exact n2) (by rw [g0 4 (by decide)]; omega) (by rw [g0 4 (by decide)]; omega)
    rw [g0 3 (by decide), g0 4 (by decide), n4, ← wf] at e90
    have f3 := H1.2.2.2.1.1
    have f5 := H1.2.2.2.1.2.2
    have w3 := cs_w_rng H1.2.1 sd1 sd2 b2 b3
    have e91 := m91 (B := B) (dd := dd) H1.2.1 (by rw [f3]; exact n1) (by rw [f3]; exact n2) (by rw [f5]; exact w3.1) (by rw [f5]; exact w3.2)
    rw [f5, f3] at e91
    have hL2 := H2.2.1.1.1
    have hL1 := H1.2.1.1.1
    refine ⟨_, ?_, cs_H_drop H2 (by rw [cs_lay_gi (by decide) (by decide), cs_lay_gi (by decide) (by decide)]; exact Or.inr g2) (k2 _ j1) j2, ((cs_Fr.si (by omega)).t cs_Fr.lay).t (cs_Fr.lay.t (cs_Fr_drop _)), fun x => ?_⟩
    · simp (disch := omega) only [e94_0, e94_1, e94_2, e94_5, e94_6, e94_9, e94_10, e94_13, e94_16, e94_19, e94_20, e94_23, e94_24, e94_27, e94_28, e94_31, Option.isSome_some, ab_bvh_some, ab_bvh_thr, ab_ge, ab_lt, ab_le, ab_gt, ab_eq, ab_ne, decide_eq_true_eq, ab_w_id, ab_w0, ab_gd_some, ab_gs_0, ab_gs_1, ab_gl_0, ab_gl_1, ab_bv_some, ab_bu_some, ab_bv_thr, ab_bu_thr, ab_fx_n, ab_fx_i, ab_fx_q, ab_fx_l, ab_sh_si, ab_gr_si, ab_gl_si, cs_n, ↓reduceIte, true_or, or_true, false_or, or_false, and_true, true_and, and_false, false_and, not_true_eq_false, not_false_eq_true, eq_self, Int.reduceEq, Int.reduceLT, Int.reduceLE, Int.reduceAdd, Int.reduceMul, Int.reduceNeg, if_pos, if_neg, hL.1, hL.2, hL1.1, hL1.2, hL2.1, hL2.2, g0 3 (by decide), e4, e90, e91, m92 hL2, implies_true]
    · rw [ab_gi_si, if_neg (by simp), ab_gi_si, if_neg (by simp), ab_gi_si, if_neg (by simp), cs_lay_gi (by decide) (by decide), cs_lay_gi (by decide) (by decide), ab_gi_si, if_neg (by simp)]
theorem m73 {dd : Nat} {D S : Int} {h : ab_H} (i : cs_I D S h) :
    ab_E B (dd + 4) 73 0 [some (.inr (.inr (some 0)))] [] h = some (.inr 3, ab_cost h 1 6) ∨
    ∃ h' v, ab_E B (dd + 4) 73 0 [some (.inr (.inr (some 0)))] [] h = some (.inl (some (.inl v)), h') ∧ (0 ≤ v ∧ v ≤ 255) ∧ cs_I D S h' ∧ cs_Fr h h' ∧ (∀ x, ab_gi h' 4 x = ab_gi h 4 x) := by
  have hL := i.1.1.1
  have eD := i.1.2.1
  have D1 := i.1.2.2.2.1
  have D2 := i.1.2.2.2.2.1
  have hd : ¬ ab_gi h 1 0 = 0 := by omega
  have hp : ab_gi h 7 6 = 3 ∨ ab_gi h 7 6 = 6 := by
    have := i.2.1.2.1
    split at this <;> omega
  rcases i.2.2.1 with c | c
  · right
    obtain ⟨h', a, i', f, f4⟩ := m94 (B := B) (dd := dd) i
    have hL' := i'.1.1.1
    have hp' : ab_gi h' 7 6 = 3 ∨ ab_gi h' 7 6 = 6 := by
      have := i'.2.1.2.1
      split at this <;> omega
    refine ⟨h', ab_gi h' 7 6, ?_, by omega, i', f, f4⟩
    simp (disch := omega) only [e73_0, e73_1, e73_4, e73_7, e73_10, e73_11, e73_14, e73_17, e73_18, e73_21, e73_24, e73_25, e73_28, e73_38, e73_39, e73_42, e73_43, e73_46, e73_49, Option.isSome_some, ab_bvh_some, ab_bvh_thr, ab_ge, ab_lt, ab_le, ab_gt, ab_eq, ab_ne, decide_eq_true_eq, ab_w_id, ab_w0, ab_gd_some, ab_gs_0, ab_gs_1, ab_gl_0, ab_gl_1, ab_bv_some, ab_bu_some, ab_bv_thr, ab_bu_thr, ab_fx_n, ab_fx_i, ab_fx_q, ab_fx_l, ab_sh_si, ab_gr_si, ab_gl_si, cs_n, ↓reduceIte, true_or, or_true, false_or, or_false, and_true, true_and, and_false, false_and, not_true_eq_false, not_false_eq_true, eq_self, Int.reduceEq, Int.reduceLT, Int.reduceLE, Int.reduceAdd, Int.reduceMul, Int.reduceNeg, if_pos, if_neg, hL.1, hL.2, hL'.1, hL'.2, m43 hL, m43 hL', a, c, eq_false hd]
  · left
    simp (disch := omega) only [e73_0, e73_1, e73_4, e73_7, e73_10, e73_11, e73_14, e73_17, e73_18, e73_21, e73_24, e73_25, e73_28, e73_38, e73_39, e73_42, e73_43, e73_46, e73_49, Option.isSome_some, ab_bvh_some, ab_bvh_thr, ab_ge, ab_lt, ab_le, ab_gt, ab_eq, ab_ne, decide_eq_true_eq, ab_w_id, ab_w0, ab_gd_some, ab_gs_0, ab_gs_1, ab_gl_0, ab_gl_1, ab_bv_some, ab_bu_some, ab_bv_thr, ab_bu_thr, ab_fx_n, ab_fx_i, ab_fx_q, ab_fx_l, ab_sh_si, ab_gr_si, ab_gl_si, cs_n, ↓reduceIte, true_or, or_true, false_or, or_false, and_true, true_and, and_false, false_and, not_true_eq_false, not_false_eq_true, eq_self, Int.reduceEq, Int.reduceLT, Int.reduceLE, Int.reduceAdd, Int.reduceMul, Int.reduceNeg, if_pos, if_neg, hL.1, hL.2, c, eq_false hd]
end
