/-! READ, FAIL, SWAP, FLIP, ROUNDS -/
section
variable {B : ab_B}
theorem cs_lost_rng {h : ab_H} {a b : Int} (hR : cs_R h) : 0 ≤ cs_lost h a b ∧ cs_lost h a b ≤ 40 := by
  have hDS := hR.2.1
  have h1 : ∀ s, 0 ≤ cs_l1 h a b s ∧ cs_l1 h a b s ≤ 5 := fun s => by
    unfold cs_l1
    split
    · have := cs_sf_1 (f := cs_ld h a b s) (fun i => cs_ld_le h a b s i) (ab_gi h 1 0).toNat 0
      omega
    · omega
  have := cs_sf_le (f := cs_l1 h a b) h1 (ab_gi h 1 1).toNat 0
  unfold cs_lost
  omega
theorem m63 {dd : Nat} {D S b : Int} {h : ab_H} (i : cs_I D S h) (hb1 : 0 ≤ b) (hb2 : b < (D - 1) * S) :
    ab_E B (dd + 5) 63 0 [some (.inr (.inr (some 0))), some (.inl b), none, none, none] [] h = some (.inr 3, ab_cost h 1 6) ∨
    ∃ h', ab_E B (dd + 5) 63 0 [some (.inr (.inr (some 0))), some (.inl b), none, none, none] [] h = some (.inl (some (.inl (cs_sh h (cs_dk D b) (b / (D - 1))))), h') ∧ cs_I D S h' ∧ cs_Fr h h' ∧ (∀ x, ab_gi h' 4 x = ab_gi h 4 x) := by
  have hL := i.1.1.1
  have q := i.1
  obtain ⟨hR, eD, eS, D1, D2, S1, S2⟩ := i.1
  obtain ⟨b1, b2, b3, b4, b5, b6⟩ := cs_blk D1 D2 S2 hb1 hb2
  have eB := cs_B_eq q
  have e4 := m4 (B := B) (dd := dd + 3) (b := b) hR (by omega) (by omega)
  rw [if_pos ⟨hb1, by rw [eB]; exact hb2⟩] at e4
  have e6 : ∀ d9, ab_E B d9 6 0 [some (.inr (.inr (some 1))), some (.inl b)] [] h = some (.inl (some (.inl (b / (D - 1)))), h) := fun d9 => by rw [m6 hR (by omega) hb1 b1, eD]
  have e7 : ∀ d9, ab_E B (d9 + 1) 7 0 [some (.inr (.inr (some 1))), some (.inl b), none] [] h = some (.inl (some (.inl (cs_dk D b))), h) := fun d9 => by rw [m7 hR (by omega) hb1 b1, eD]
  have e24 := m24 (B := B) (dd := dd + 1) hR b4 (show cs_dk D b < ab_gi h 1 0 by omega) b2 (show b / (D - 1) < ab_gi h 1 1 by omega)
  have e15 := m15 (B := B) (dd := dd + 3) hR b4 (show cs_dk D b < ab_gi h 1 0 by omega) b2 (show b / (D - 1) < ab_gi h 1 1 by omega)
  have e27 := m27 (B := B) (dd := dd + 1) hR b2 (show b / (D - 1) < ab_gi h 1 1 by omega)
  rcases i.2.2.1 with con | con
  · left
    simp (disch := omega) only [e63_0, e63_1, e63_4, e63_5, e63_8, e63_11, e63_21, e63_22, e63_25, e63_28, e63_38, e63_39, e63_42, e63_43, e63_46, e63_47, e63_48, e63_51, e63_52, e63_55, e63_56, e63_57, e63_60, e63_61, e63_62, e63_65, e63_67, e63_68, e63_71, e63_72, e63_73, e63_76, e63_79, e63_80, e63_81, e63_84, e63_85, e63_88, e63_89, e63_92, e63_93, e63_96, e63_97, e63_98, e63_101, e63_102, e63_103, e63_106, e63_108, Option.isSome_some, ab_bvh_some, ab_bvh_thr, ab_ge, ab_lt, ab_le, ab_gt, ab_eq, ab_ne, decide_eq_true_eq, ab_w_id, ab_w0, ab_gd_some, ab_gs_0, ab_gs_1, ab_gl_0, ab_gl_1, ab_bv_some, ab_bu_some, ab_bv_thr, ab_bu_thr, ab_fx_n, ab_fx_i, ab_fx_q, ab_fx_l, ab_sh_si, ab_gr_si, ab_gl_si, cs_n, ↓reduceIte, true_or, or_true, false_or, or_false, and_true, true_and, and_false, false_and, not_true_eq_false, not_false_eq_true, eq_self, Int.reduceEq, Int.reduceLT, Int.reduceLE, Int.reduceAdd, Int.reduceMul, Int.reduceNeg, if_pos, if_neg, hL.1, hL.2, e4, con]
  right
  have hn : ab_gi h 0 3 = -1 := by
    rcases i.2.2.2.1 with n | n
    · exact n
    · have := n.2.2.1; omega
  rcases cs_b01 h (cs_dk D b) (b / (D - 1)) with hb | hb
  · refine ⟨ab_si h 0 9 (ab_gi h 0 9 + 1), ?_, cs_I_si0 (by omega) (by omega) i, cs_Fr.si (by omega), fun x => by rw [ab_gi_si, if_neg (by simp)]⟩
    simp (disch := omega) only [e63_0, e63_1, e63_4, e63_5, e63_8, e63_11, e63_21, e63_22, e63_25, e63_28, e63_38, e63_39, e63_42, e63_43, e63_46, e63_47, e63_48, e63_51, e63_52, e63_55, e63_56, e63_57, e63_60, e63_61, e63_62, e63_65, e63_67, e63_68, e63_71, e63_72, e63_73, e63_76, e63_79, e63_80, e63_81, e63_84, e63_85, e63_88, e63_89, e63_92, e63_93, e63_96, e63_97, e63_98, e63_101, e63_102, e63_103, e63_106, e63_108, Option.isSome_some, ab_bvh_some, ab_bvh_thr, ab_ge, ab_lt, ab_le, ab_gt, ab_eq, ab_ne, decide_eq_true_eq, ab_w_id, ab_w0, ab_gd_some, ab_gs_0, ab_gs_1, ab_gl_0, ab_gl_1, ab_bv_some, ab_bu_some, ab_bv_thr, ab_bu_thr, ab_fx_n, ab_fx_i, ab_fx_q, ab_fx_l, ab_sh_si, ab_gr_si, ab_gl_si, cs_n, ↓reduceIte, true_or, or_true, false_or, or_false, and_true, true_and, and_false, false_and, not_true_eq_false, not_false_eq_true, eq_self, Int.reduceEq, Int.reduceLT, Int.reduceLE, Int.reduceAdd, Int.reduceMul, Int.reduceNeg, if_pos, if_neg, hL.1, hL.2, e4, e6, e7, con, e24, e15, hb]
  · have hJ := cs_G_J i.2.2.2.2.2.2 hn (b / (D - 1)) b2 (show b / (D - 1) < ab_gi h 1 1 by omega)
    obtain ⟨q1, g1, bc1, r1⟩ := cs_mend_ok q i.2.2.2.2.2.2 b2 b3 hJ
    have mg := fun (c : Nat) (x : Int) (c2 : c ≠ 2) (c3 : c ≠ 3) => cs_mend_gi (c := c) (x := x) q b2 b3 hJ c2 c3
    have i1 : cs_I D S (cs_mend h (b / (D - 1))).2 := cs_I_rack q1 g1 (cs_mend_snd q b2 b3 hJ) (fun c x c2 c3 _ _ => mg c x c2 c3) i
    have i2 : cs_I D S (ab_si (cs_mend h (b / (D - 1))).2 0 10 (ab_gi h 0 10 + (cs_mend h (b / (D - 1))).1)) := cs_I_si0 (by omega) (by omega) i1
    have f1 : cs_Fr h (cs_mend h (b / (D - 1))).2 := ⟨cs_mend_snd q b2 b3 hJ, fun c x hc => mg c x (by omega) (by omega)⟩
    have f2 : cs_Fr h (ab_si (cs_mend h (b / (D - 1))).2 0 10 (ab_gi h 0 10 + (cs_mend h (b / (D - 1))).1)) := f1.t (cs_Fr.si (by omega))
    have hLm := i1.1.1.1
    have w4 : ∀ x, ab_gi (ab_si (cs_mend h (b / (D - 1))).2 0 10 (ab_gi h 0 10 + (cs_mend h (b / (D - 1))).1)) 4 x = ab_gi h 4 x := fun x => by rw [ab_gi_si, if_neg (by simp)]; exact mg 4 x (by decide) (by decide)
    generalize hh : ab_si (cs_mend h (b / (D - 1))).2 0 10 (ab_gi h 0 10 + (cs_mend h (b / (D - 1))).1) = h2 at i2 f2 w4
    have hL2 := i2.1.1.1
    refine ⟨ab_si h2 0 9 (ab_gi h2 0 9 + 1), ?_, cs_I_si0 (by omega) (by omega) i2, f2.t (cs_Fr.si (by omega)), fun x => by rw [ab_gi_si, if_neg (by simp)]; exact w4 x⟩
    simp (disch := omega) only [e63_0, e63_1, e63_4, e63_5, e63_8, e63_11, e63_21, e63_22, e63_25, e63_28, e63_38, e63_39, e63_42, e63_43, e63_46, e63_47, e63_48, e63_51, e63_52, e63_55, e63_56, e63_57, e63_60, e63_61, e63_62, e63_65, e63_67, e63_68, e63_71, e63_72, e63_73, e63_76, e63_79, e63_80, e63_81, e63_84, e63_85, e63_88, e63_89, e63_92, e63_93, e63_96, e63_97, e63_98, e63_101, e63_102, e63_103, e63_106, e63_108, Option.isSome_some, ab_bvh_some, ab_bvh_thr, ab_ge, ab_lt, ab_le, ab_gt, ab_eq, ab_ne, decide_eq_true_eq, ab_w_id, ab_w0, ab_gd_some, ab_gs_0, ab_gs_1, ab_gl_0, ab_gl_1, ab_bv_some, ab_bu_some, ab_bv_thr, ab_bu_thr, ab_fx_n, ab_fx_i, ab_fx_q, ab_fx_l, ab_sh_si, ab_gr_si, ab_gl_si, cs_n, ↓reduceIte, true_or, or_true, false_or, or_false, and_true, true_and, and_false, false_and, not_true_eq_false, not_false_eq_true, eq_self, Int.reduceEq, Int.reduceLT, Int.reduceLE, Int.reduceAdd, Int.reduceMul, Int.reduceNeg, if_pos, if_neg, hL.1, hL.2, e4, e6, e7, con, e24, e15, hb, e27, hLm.1, hLm.2, hh, hL2.1, hL2.2]
theorem m64 {dd : Nat} {D S d : Int} {h : ab_H} (i : cs_I D S h) (d1 : 0 ≤ d) (d2 : d < D) :
    ab_E B (dd + 5) 64 0 [some (.inr (.inr (some 0))), some (.inl d)] [] h = some (.inr 3, ab_cost h 1 6) ∨
    ∃ h' v, ab_E B (dd + 5) 64 0 [some (.inr (.inr (some 0))), some (.inl d)] [] h = some (.inl (some (.inl v)), h') ∧ (0 ≤ v ∧ v ≤ 255) ∧ cs_I D S h' ∧ cs_Fr h h' ∧ (∀ x, ab_gi h' 4 x = ab_gi h 4 x) := by
  have hL := i.1.1.1
  obtain ⟨hR, eD, eS, D1, D2, S1, S2⟩ := i.1
  have q : cs_Q h D S := i.1
  have e2 := m2 (B := B) (dd := dd + 4) (d := d) hR (by omega) (by omega)
  rw [if_pos ⟨d1, by omega⟩] at e2
  rcases hR.2.2.2 d with c | c
  · right
    have e13 := m13 (B := B) (dd := dd + 4) hL d1 (show d < 5 by omega) (Or.inl c)
    have e28 := m28 (B := B) (dd := dd + 3) hR d1 (show d < ab_gi h 1 0 by omega)
    have gc : ∀ c x, c ≠ 5 → ab_gi (ab_si h 5 d 1) c x = ab_gi h c x := fun c x hc => by rw [ab_gi_si, if_neg (fun z => hc z.1)]
    have hR' : cs_R (ab_si h 5 d 1) := cs_R_si5 hR (Or.inr rfl)
    have q' : cs_Q (ab_si h 5 d 1) D S := ⟨hR', (gc 1 0 (by decide)).trans eD, (gc 1 1 (by decide)).trans eS, D1, D2, S1, S2⟩
    have g' : cs_G (ab_si h 5 d 1) := cs_G_fr i.2.2.2.2.2.2 (fun x => gc 4 x (by decide)) (gc 1 0 (by decide)) (gc 1 1 (by decide)) (gc 0 3 (by decide)) (fun s o s1 s2 o1 o2 j => by
      by_cases e : o = d
      · subst e; exact Or.inl (by rw [ab_gi_si, if_pos ⟨rfl, rfl⟩])
      · exact cs_j_fr (fun x => gc 4 x (by decide)) (gc 1 0 (by decide)) (by rw [ab_gi_si, if_neg (fun z => e z.2)]) (gc 3 _ (by decide)) j)
    have i' : cs_I D S (ab_si h 5 d 1) := cs_I_rack (h := h) q' g' rfl (fun c x _ _ c5 _ => gc c x c5) i
    have lr := cs_lost_rng (a := -1) (b := -1) hR'
    refine ⟨_, _, ?_, ⟨lr.1, by omega⟩, i', cs_Fr.si (by omega), fun x => gc 4 x (by decide)⟩
    simp (disch := omega) only [e64_0, e64_1, e64_4, e64_5, e64_8, e64_11, e64_21, e64_22, e64_25, e64_26, e64_29, e64_32, e64_42, e64_43, e64_46, e64_47, e64_50, e64_51, e64_54, e64_55, e64_56, e64_59, Option.isSome_some, ab_bvh_some, ab_bvh_thr, ab_ge, ab_lt, ab_le, ab_gt, ab_eq, ab_ne, decide_eq_true_eq, ab_w_id, ab_w0, ab_gd_some, ab_gs_0, ab_gs_1, ab_gl_0, ab_gl_1, ab_bv_some, ab_bu_some, ab_bv_thr, ab_bu_thr, ab_fx_n, ab_fx_i, ab_fx_q, ab_fx_l, ab_sh_si, ab_gr_si, ab_gl_si, cs_n, ↓reduceIte, true_or, or_true, false_or, or_false, and_true, true_and, and_false, false_and, not_true_eq_false, not_false_eq_true, eq_self, Int.reduceEq, Int.reduceLT, Int.reduceLE, Int.reduceAdd, Int.reduceMul, Int.reduceNeg, if_pos, if_neg, hL.1, hL.2, e2, e13, c, e28, m23 hR' (show -1 ≤ (-1 : Int) by omega) (show (-1 : Int) < 8 by omega) (show -1 ≤ (-1 : Int) by omega) (show (-1 : Int) < 8 by omega)]
  · left
    have e13 := m13 (B := B) (dd := dd + 4) hL d1 (show d < 5 by omega) (Or.inr c)
    simp (disch := omega) only [e64_0, e64_1, e64_4, e64_5, e64_8, e64_11, e64_21, e64_22, e64_25, e64_26, e64_29, e64_32, e64_42, e64_43, e64_46, e64_47, e64_50, e64_51, e64_54, e64_55, e64_56, e64_59, Option.isSome_some, ab_bvh_some, ab_bvh_thr, ab_ge, ab_lt, ab_le, ab_gt, ab_eq, ab_ne, decide_eq_true_eq, ab_w_id, ab_w0, ab_gd_some, ab_gs_0, ab_gs_1, ab_gl_0, ab_gl_1, ab_bv_some, ab_bu_some, ab_bv_thr, ab_bu_thr, ab_fx_n, ab_fx_i, ab_fx_q, ab_fx_l, ab_sh_si, ab_gr_si, ab_gl_si, cs_n, ↓reduceIte, true_or, or_true, false_or, or_false, and_true, true_and, and_false, false_and, not_true_eq_false, not_false_eq_true, eq_self, Int.reduceEq, Int.reduceLT, Int.reduceLE, Int.reduceAdd, Int.reduceMul, Int.reduceNeg, if_pos, if_neg, hL.1, hL.2, e2, e13, c]
theorem cs_wipe_ok {d : Int} (d1 : 0 ≤ d) : ∀ (k : Nat) (h : ab_H) (t : Int), 0 ≤ t → t + k ≤ 8 → cs_R h → cs_R (cs_wipe d h t k) ∧ (cs_wipe d h t k).2 = h.2 ∧ (∀ c x, c ≠ 2 → c ≠ 3 → ab_gi (cs_wipe d h t k) c x = ab_gi h c x) ∧ (∀ x, ab_gi (cs_wipe d h t k) 3 x = if d * 8 + t ≤ x ∧ x < d * 8 + t + k then -1 else ab_gi h 3 x)
  | 0, h, t, t1, t2, hR => ⟨hR, rfl, fun _ _ _ _ => rfl, fun x => by rw [if_neg (by omega)]; rfl⟩
  | k + 1, h, t, t1, t2, hR => by
    obtain ⟨a1, a2, a3, a4⟩ := cs_wipe_ok (d := d) d1 k (ab_si (ab_si h 2 (d * 8 + t) 0) 3 (d * 8 + t) (-1)) (t + 1) (by omega) (by omega) (cs_R_si3 (cs_R_si2 hR (by omega) (by omega)) (by omega) (by omega))
    unfold cs_wipe
    refine ⟨a1, a2, fun c x c2 c3 => ?_, fun x => ?_⟩
    · rw [a3 c x c2 c3, ab_gi_si, if_neg (fun z => c3 z.1), ab_gi_si, if_neg (fun z => c2 z.1)]
    · have e9 : ab_gi (ab_si (ab_si h 2 (d * 8 + t) 0) 3 (d * 8 + t) (-1)) 3 x = if x = d * 8 + t then -1 else ab_gi h 3 x := by
        rw [ab_gi_si]
        by_cases e : x = d * 8 + t
        · rw [if_pos ⟨rfl, e⟩, if_pos e]
        · rw [if_neg (fun z => e z.2), if_neg e, ab_gi_si, if_neg (by simp)]
      rw [a4 x, e9]
      by_cases e : x = d * 8 + t
      · rw [if_neg (by omega), if_pos e, if_pos (by omega)]
      · rw [if_neg e]
        by_cases e2 : d * 8 + (t + 1) ≤ x ∧ x < d * 8 + (t + 1) + k
        · rw [if_pos e2, if_pos (by omega)]
        · rw [if_neg e2, if_neg (by omega)]
theorem m65 {dd : Nat} {D S d : Int} {h : ab_H} (i : cs_I D S h) (d1 : 0 ≤ d) (d2 : d < D) :
    ∃ h' v, ab_E B (dd + 5) 65 0 [some (.inr (.inr (some 0))), some (.inl d)] [] h = some (.inl (some (.inl v)), h') ∧ (0 ≤ v ∧ v ≤ 255) ∧ cs_I D S h' ∧ cs_Fr h h' ∧ (∀ x, ab_gi h' 4 x = ab_gi h 4 x) := by
  have hL := i.1.1.1
  obtain ⟨hR, eD, eS, D1, D2, S1, S2⟩ := i.1
  have q : cs_Q h D S := i.1
  have e2 := m2 (B := B) (dd := dd + 4) (d := d) hR (by omega) (by omega)
  rw [if_pos ⟨d1, by omega⟩] at e2
  have e29 := m29 (B := B) (dd := dd + 3) hR d1 (show d < ab_gi h 1 0 by omega)
  have hR0 : cs_R (ab_si (ab_si h 5 d 0) 6 d (ab_gi h 6 d + 1)) := cs_R_six (cs_R_si5 hR (Or.inl rfl)) (by decide) (by decide) (by decide) (by decide) (by decide)
  have hw : cs_R (cs_put h d) ∧ (cs_put h d).2 = h.2 ∧ (∀ c x, c ≠ 2 → c ≠ 3 → ab_gi (cs_put h d) c x = ab_gi (ab_si (ab_si h 5 d 0) 6 d (ab_gi h 6 d + 1)) c x) ∧ (∀ x, ab_gi (cs_put h d) 3 x = if d * 8 + 0 ≤ x ∧ x < d * 8 + 0 + ((ab_gi h 1 1).toNat : Int) then -1 else ab_gi (ab_si (ab_si h 5 d 0) 6 d (ab_gi h 6 d + 1)) 3 x) := cs_wipe_ok d1 (ab_gi h 1 1).toNat _ 0 (by omega) (by omega) hR0
  obtain ⟨p1, p2, p3, p4⟩ := hw
  have gc : ∀ c x, c ≠ 2 → c ≠ 3 → c ≠ 5 → c ≠ 6 → ab_gi (cs_put h d) c x = ab_gi h c x := fun c x c2 c3 c5 c6 => by
    rw [p3 c x c2 c3, ab_gi_si, if_neg (fun z => c6 z.1), ab_gi_si, if_neg (fun z => c5 z.1)]
  have q' : cs_Q (cs_put h d) D S := ⟨p1, (gc 1 0 (by decide) (by decide) (by decide) (by decide)).trans eD, (gc 1 1 (by decide) (by decide) (by decide) (by decide)).trans eS, D1, D2, S1, S2⟩
  have g' : cs_G (cs_put h d) := cs_G_fr i.2.2.2.2.2.2 (fun x => gc 4 x (by decide) (by decide) (by decide) (by decide)) (gc 1 0 (by decide) (by decide) (by decide) (by decide)) (gc 1 1 (by decide) (by decide) (by decide) (by decide)) (gc 0 3 (by decide) (by decide) (by decide) (by decide)) (fun s o s1 s2 o1 o2 j => by
    by_cases e : o = d
    · subst e
      exact Or.inr (Or.inl (by rw [p4, if_pos (by omega)]))
    · refine cs_j_fr (fun x => gc 4 x (by decide) (by decide) (by decide) (by decide)) (gc 1 0 (by decide) (by decide) (by decide) (by decide)) ?_ ?_ j
      · rw [p3 5 o (by decide) (by decide), ab_gi_si, if_neg (by simp), ab_gi_si, if_neg (fun z => e z.2)]
      · rw [p4, if_neg (by omega), ab_gi_si, if_neg (by simp), ab_gi_si, if_neg (by simp)])
  have i' : cs_I D S (cs_put h d) := cs_I_rack q' g' p2 (fun c x c2 c3 c5 c6 => gc c x c2 c3 c5 c6) i
  have hLp := p1.1
  have h0 : ∀ c x, c ≠ 0 → ab_gi (ab_si (cs_put h d) 0 6 0) c x = ab_gi (cs_put h d) c x := fun c x hc => by rw [ab_gi_si, if_neg (fun z => hc z.1)]
  have h00 : ∀ k, k ≠ 6 → ab_gi (ab_si (cs_put h d) 0 6 0) 0 k = ab_gi (cs_put h d) 0 k := fun k hk => by rw [ab_gi_si, if_neg (fun z => hk z.2)]
  have i2 : cs_I D S (ab_si (cs_put h d) 0 6 0) := by
    obtain ⟨x1, x2, x3, x4, x5, x6, x7⟩ := i'
    exact ⟨cs_Q_fr (h := cs_put h d) rfl (fun c x h1 h2 => h0 c x (by omega)) x1, cs_Y_fr (h := cs_put h d) rfl (fun c x hc => h0 c x (by omega)) x2, by rw [h00 2 (by decide)]; exact x3, cs_N_fr (h0 1 0 (by decide)) (fun x => h0 4 x (by decide)) (fun k hk => h00 k (by omega)) x4, ⟨by rw [ab_gi_si, if_pos ⟨rfl, rfl⟩]; omega, by rw [h00 7 (by decide)]; exact x5.2⟩, by rw [h00 12 (by decide)]; exact x6, cs_G_fr0 x7 (fun c x h1 h2 => h0 c x (by omega)) (h00 3 (by decide))⟩
  have lr := cs_lost_rng (a := -1) (b := -1) i2.1.1
  have hL2 := i2.1.1.1
  refine ⟨_, _, ?_, ⟨lr.1, by omega⟩, i2, ⟨p2, fun c x hc => by rw [h0 c x (by omega)]; exact gc c x (by omega) (by omega) (by omega) (by omega)⟩, fun x => by rw [h0 4 x (by decide)]; exact gc 4 x (by decide) (by decide) (by decide) (by decide)⟩
  simp (disch := omega) only [e65_0, e65_1, e65_4, e65_5, e65_8, e65_11, e65_21, e65_22, e65_25, e65_26, e65_29, e65_30, e65_31, e65_34, e65_35, e65_38, e65_39, e65_40, e65_43, Option.isSome_some, ab_bvh_some, ab_bvh_thr, ab_ge, ab_lt, ab_le, ab_gt, ab_eq, ab_ne, decide_eq_true_eq, ab_w_id, ab_w0, ab_gd_some, ab_gs_0, ab_gs_1, ab_gl_0, ab_gl_1, ab_bv_some, ab_bu_some, ab_bv_thr, ab_bu_thr, ab_fx_n, ab_fx_i, ab_fx_q, ab_fx_l, ab_sh_si, ab_gr_si, ab_gl_si, cs_n, ↓reduceIte, true_or, or_true, false_or, or_false, and_true, true_and, and_false, false_and, not_true_eq_false, not_false_eq_true, eq_self, Int.reduceEq, Int.reduceLT, Int.reduceLE, Int.reduceAdd, Int.reduceMul, Int.reduceNeg, if_pos, if_neg, hL.1, hL.2, e2, e29, hLp.1, hLp.2, hL2.1, hL2.2, m23 i2.1.1 (show -1 ≤ (-1 : Int) by omega) (show (-1 : Int) < 8 by omega) (show -1 ≤ (-1 : Int) by omega) (show (-1 : Int) < 8 by omega)]
theorem m66 {dd : Nat} {D S d s b : Int} {h : ab_H} (i : cs_I D S h) (d1 : 0 ≤ d) (d2 : d < D) (s1 : 0 ≤ s) (s2 : s < S) (b1 : 1 ≤ b) (b2 : b ≤ 255) :
    ab_E B (dd + 5) 66 0 [some (.inr (.inr (some 0))), some (.inl d), some (.inl s), some (.inl b)] [] h = some (.inr 3, ab_cost h 1 6) ∨
    ∃ h' v, ab_E B (dd + 5) 66 0 [some (.inr (.inr (some 0))), some (.inl d), some (.inl s), some (.inl b)] [] h = some (.inl (some (.inl v)), h') ∧ (0 ≤ v ∧ v ≤ 255) ∧ cs_I D S h' ∧ cs_Fr h h' ∧ (∀ x, ab_gi h' 4 x = ab_gi h 4 x) := by
  have hL := i.1.1.1
  obtain ⟨hR, eD, eS, D1, D2, S1, S2⟩ := i.1
  have q : cs_Q h D S := i.1
  have e2 := m2 (B := B) (dd := dd + 4) (d := d) hR (by omega) (by omega)
  rw [if_pos ⟨d1, by omega⟩] at e2
  have e3 := m3 (B := B) (dd := dd + 4) (d := s) hR (by omega) (by omega)
  rw [if_pos ⟨s1, by omega⟩] at e3
  rcases hR.2.2.2 d with c | c
  · right
    have hv := hR.2.2.1 (d * 8 + s) (by omega) (by omega)
    have hx := ab_ixor_rng hv.1 hv.2.1 (show 0 ≤ b by omega) b2
    have e13 := m13 (B := B) (dd := dd + 4) hL d1 (show d < 5 by omega) (Or.inl c)
    have e30 := m30 (B := B) (dd := dd + 3) (b := b) hR d1 (show d < ab_gi h 1 0 by omega) s1 (show s < ab_gi h 1 1 by omega)
    have gc : ∀ c x, c ≠ 2 → ab_gi (ab_si h 2 (d * 8 + s) (ab_ixor (ab_gi h 2 (d * 8 + s)) b)) c x = ab_gi h c x := fun c x hc => by rw [ab_gi_si, if_neg (fun z => hc z.1)]
    have hR' : cs_R (ab_si h 2 (d * 8 + s) (ab_ixor (ab_gi h 2 (d * 8 + s)) b)) := cs_R_si2 hR hx.1 hx.2
    have q' : cs_Q (ab_si h 2 (d * 8 + s) (ab_ixor (ab_gi h 2 (d * 8 + s)) b)) D S := ⟨hR', (gc 1 0 (by decide)).trans eD, (gc 1 1 (by decide)).trans eS, D1, D2, S1, S2⟩
    have g' : cs_G (ab_si h 2 (d * 8 + s) (ab_ixor (ab_gi h 2 (d * 8 + s)) b)) := cs_G_fr i.2.2.2.2.2.2 (fun x => gc 4 x (by decide)) (gc 1 0 (by decide)) (gc 1 1 (by decide)) (gc 0 3 (by decide)) (fun s o s1 s2 o1 o2 j => cs_j_fr (fun x => gc 4 x (by decide)) (gc 1 0 (by decide)) (gc 5 o (by decide)) (gc 3 _ (by decide)) j)
    have i' : cs_I D S (ab_si h 2 (d * 8 + s) (ab_ixor (ab_gi h 2 (d * 8 + s)) b)) := cs_I_rack (h := h) q' g' rfl (fun c x c2 _ _ _ => gc c x c2) i
    have e11 := m11 (B := B) (dd := dd + 3) (d := d) (s := s) hR'.1 (by rw [q'.2.1]; omega) (by rw [q'.2.2.1]; omega) d1 (by rw [q'.2.1]; omega) s1 (by rw [q'.2.2.1]; omega)
    rw [ab_gi_si, if_pos ⟨rfl, rfl⟩] at e11
    refine ⟨_, _, ?_, hx, i', cs_Fr.si (by omega), fun x => gc 4 x (by decide)⟩
    simp (disch := omega) only [e66_0, e66_1, e66_4, e66_5, e66_8, e66_11, e66_12, e66_15, e66_16, e66_19, e66_22, e66_32, e66_33, e66_34, e66_37, e66_38, e66_41, e66_44, e66_54, e66_55, e66_58, e66_59, e66_62, e66_65, e66_75, e66_76, e66_79, e66_80, e66_81, e66_82, e66_85, e66_86, e66_89, e66_90, e66_91, e66_94, Option.isSome_some, ab_bvh_some, ab_bvh_thr, ab_ge, ab_lt, ab_le, ab_gt, ab_eq, ab_ne, decide_eq_true_eq, ab_w_id, ab_w0, ab_gd_some, ab_gs_0, ab_gs_1, ab_gl_0, ab_gl_1, ab_bv_some, ab_bu_some, ab_bv_thr, ab_bu_thr, ab_fx_n, ab_fx_i, ab_fx_q, ab_fx_l, ab_sh_si, ab_gr_si, ab_gl_si, cs_n, ↓reduceIte, true_or, or_true, false_or, or_false, and_true, true_and, and_false, false_and, not_true_eq_false, not_false_eq_true, eq_self, Int.reduceEq, Int.reduceLT, Int.reduceLE, Int.reduceAdd, Int.reduceMul, Int.reduceNeg, if_pos, if_neg, hL.1, hL.2, e2, e3, e13, c, e30, e11]
  · left
    have e13 := m13 (B := B) (dd := dd + 4) hL d1 (show d < 5 by omega) (Or.inr c)
    simp (disch := omega) only [e66_0, e66_1, e66_4, e66_5, e66_8, e66_11, e66_12, e66_15, e66_16, e66_19, e66_22, e66_32, e66_33, e66_34, e66_37, e66_38, e66_41, e66_44, e66_54, e66_55, e66_58, e66_59, e66_62, e66_65, e66_75, e66_76, e66_79, e66_80, e66_81, e66_82, e66_85, e66_86, e66_89, e66_90, e66_91, e66_94, Option.isSome_some, ab_bvh_some, ab_bvh_thr, ab_ge, ab_lt, ab_le, ab_gt, ab_eq, ab_ne, decide_eq_true_eq, ab_w_id, ab_w0, ab_gd_some, ab_gs_0, ab_gs_1, ab_gl_0, ab_gl_1, ab_bv_some, ab_bu_some, ab_bv_thr, ab_bu_thr, ab_fx_n, ab_fx_i, ab_fx_q, ab_fx_l, ab_sh_si, ab_gr_si, ab_gl_si, cs_n, ↓reduceIte, true_or, or_true, false_or, or_false, and_true, true_and, and_false, false_and, not_true_eq_false, not_false_eq_true, eq_self, Int.reduceEq, Int.reduceLT, Int.reduceLE, Int.reduceAdd, Int.reduceMul, Int.reduceNeg, if_pos, if_neg, hL.1, hL.2, e2, e3, e13, c]
/-- a place of rounds moves -/
theorem cs_I_place {D S v : Int} {h : ab_H} {k : Int} (hk : k = 6 ∨ k = 7) (v1 : 0 ≤ v) (v2 : v < S) (i : cs_I D S h) : cs_I D S (ab_si h 0 k v) := by
  have h0 : ∀ c x, c ≠ 0 → ab_gi (ab_si h 0 k v) c x = ab_gi h c x := fun c x hc => by rw [ab_gi_si, if_neg (fun z => hc z.1)]
  have h00 : ∀ j, j ≠ 6 → j ≠ 7 → ab_gi (ab_si h 0 k v) 0 j = ab_gi h 0 j := fun j j6 j7 => by rw [ab_gi_si, if_neg (fun z => by have := z.2; omega)]
  obtain ⟨x1, x2, x3, x4, x5, x6, x7⟩ := i
  refine ⟨cs_Q_fr (h := h) rfl (fun c x h1 h2 => h0 c x (by omega)) x1, cs_Y_fr (h := h) rfl (fun c x hc => h0 c x (by omega)) x2, by rw [h00 2 (by decide) (by decide)]; exact x3, cs_N_fr (h0 1 0 (by decide)) (fun x => h0 4 x (by decide)) (fun j hj => h00 j (by omega) (by omega)) x4, ⟨?_, ?_⟩, by rw [h00 12 (by decide) (by decide)]; exact x6, cs_G_fr0 x7 (fun c x h1 h2 => h0 c x (by omega)) (h00 3 (by decide) (by decide))⟩
  · rw [ab_gi_si]
    split
    · omega
    · exact x5.1
  · rw [ab_gi_si]
    split
    · omega
    · exact x5.2
theorem m67 {dd : Nat} {D S n : Int} {h : ab_H} (i : cs_I D S h) (n1 : 1 ≤ n) (n2 : n ≤ 8) :
    ab_E B (dd + 5) 67 0 [some (.inr (.inr (some 0))), some (.inl n), none] [] h = some (.inr 3, ab_cost h 1 6) ∨
    ∃ h' v, ab_E B (dd + 5) 67 0 [some (.inr (.inr (some 0))), some (.inl n), none] [] h = some (.inl (some (.inl v)), h') ∧ (0 ≤ v ∧ v ≤ 255) ∧ cs_I D S h' ∧ cs_Fr h h' ∧ (∀ x, ab_gi h' 4 x = ab_gi h 4 x) := by
  have hL := i.1.1.1
  obtain ⟨hR, eD, eS, D1, D2, S1, S2⟩ := i.1
  have q : cs_Q h D S := i.1
  have e95 := m95 (B := B) (dd := dd + 4) q i.2.2.1 n1 n2
  rcases i.2.2.1 with con | con
  · left
    rw [if_neg (by omega)] at e95
    simp (disch := omega) only [e67_0, e67_1, e67_2, e67_5, e67_6, e67_7, e67_10, e67_11, e67_14, e67_15, e67_16, e67_17, e67_20, e67_21, e67_24, e67_25, e67_28, e67_31, e67_32, Option.isSome_some, ab_bvh_some, ab_bvh_thr, ab_ge, ab_lt, ab_le, ab_gt, ab_eq, ab_ne, decide_eq_true_eq, ab_w_id, ab_w0, ab_gd_some, ab_gs_0, ab_gs_1, ab_gl_0, ab_gl_1, ab_bv_some, ab_bu_some, ab_bv_thr, ab_bu_thr, ab_fx_n, ab_fx_i, ab_fx_q, ab_fx_l, ab_sh_si, ab_gr_si, ab_gl_si, cs_n, ↓reduceIte, true_or, or_true, false_or, or_false, and_true, true_and, and_false, false_and, not_true_eq_false, not_false_eq_true, eq_self, Int.reduceEq, Int.reduceLT, Int.reduceLE, Int.reduceAdd, Int.reduceMul, Int.reduceNeg, if_pos, if_neg, hL.1, hL.2, e95]
  · right
    rw [if_pos con] at e95
    have hn : ab_gi h 0 3 = -1 := by
      rcases i.2.2.2.1 with n | n
      · exact n
      · have := n.2.2.1; omega
    have hp := i.2.2.2.2.1.1
    obtain ⟨a1, a2, a3, a4, a5, a6⟩ := cs_rd_ok (f := ab_gi h 0 6) n.toNat h 0 q i.2.2.2.2.2.2 hn
    have e96 := m96 (B := B) (dd := dd) q i.2.2.2.2.2.2 hn hp.1 hp.2 n1 n2
    have i1 : cs_I D S (cs_rd S (ab_gi h 0 6) h 0 n.toNat).2 := cs_I_rack a1 a2 a3 (fun c x c2 c3 _ _ => a4 c x c2 c3) i
    have i2 : cs_I D S (ab_si (cs_rd S (ab_gi h 0 6) h 0 n.toNat).2 0 10 (ab_gi h 0 10 + (cs_rd S (ab_gi h 0 6) h 0 n.toNat).1)) := cs_I_si0 (by omega) (by omega) i1
    have g06 : ab_gi (ab_si (cs_rd S (ab_gi h 0 6) h 0 n.toNat).2 0 10 (ab_gi h 0 10 + (cs_rd S (ab_gi h 0 6) h 0 n.toNat).1)) 0 6 = ab_gi h 0 6 := by rw [ab_gi_si, if_neg (by simp), a4 0 6 (by decide) (by decide)]
    have f2 : cs_Fr h (ab_si (cs_rd S (ab_gi h 0 6) h 0 n.toNat).2 0 10 (ab_gi h 0 10 + (cs_rd S (ab_gi h 0 6) h 0 n.toNat).1)) := ⟨a3, fun c x hc => by rw [ab_gi_si, if_neg (fun z => by have := z.1; omega), a4 c x (by omega) (by omega)]⟩
    have w4 : ∀ x, ab_gi (ab_si (cs_rd S (ab_gi h 0 6) h 0 n.toNat).2 0 10 (ab_gi h 0 10 + (cs_rd S (ab_gi h 0 6) h 0 n.toNat).1)) 4 x = ab_gi h 4 x := fun x => by rw [ab_gi_si, if_neg (by simp), a4 4 x (by decide) (by decide)]
    generalize hh : ab_si (cs_rd S (ab_gi h 0 6) h 0 n.toNat).2 0 10 (ab_gi h 0 10 + (cs_rd S (ab_gi h 0 6) h 0 n.toNat).1) = h2 at i2 f2 w4 g06 e96
    have hL2 := i2.1.1.1
    have eS2 := i2.1.2.2.1
    have e10 := m10 (B := B) (dd := dd + 4) (f := ab_gi h 0 6) (c := n) i2.1.1 (by omega) hp.1 (by omega) (by omega) n2
    rw [eS2] at e10
    have s1 : 0 ≤ (ab_gi h 0 6 + n) % S := Int.emod_nonneg _ (by omega)
    have s2 : (ab_gi h 0 6 + n) % S < S := Int.emod_lt_of_pos _ (by omega)
    refine ⟨ab_si h2 0 6 ((ab_gi h 0 6 + n) % S), _, ?_, ⟨a5, by omega⟩, cs_I_place (Or.inl rfl) s1 s2 i2, f2.t (cs_Fr.si (by omega)), fun x => by rw [ab_gi_si, if_neg (by simp)]; exact w4 x⟩
    simp (disch := omega) only [e67_0, e67_1, e67_2, e67_5, e67_6, e67_7, e67_10, e67_11, e67_14, e67_15, e67_16, e67_17, e67_20, e67_21, e67_24, e67_25, e67_28, e67_31, e67_32, Option.isSome_some, ab_bvh_some, ab_bvh_thr, ab_ge, ab_lt, ab_le, ab_gt, ab_eq, ab_ne, decide_eq_true_eq, ab_w_id, ab_w0, ab_gd_some, ab_gs_0, ab_gs_1, ab_gl_0, ab_gl_1, ab_bv_some, ab_bu_some, ab_bv_thr, ab_bu_thr, ab_fx_n, ab_fx_i, ab_fx_q, ab_fx_l, ab_sh_si, ab_gr_si, ab_gl_si, cs_n, ↓reduceIte, true_or, or_true, false_or, or_false, and_true, true_and, and_false, false_and, not_true_eq_false, not_false_eq_true, eq_self, Int.reduceEq, Int.reduceLT, Int.reduceLE, Int.reduceAdd, Int.reduceMul, Int.reduceNeg, if_pos, if_neg, hL.1, hL.2, e95, e96, hL2.1, hL2.2, g06, e10]
theorem m68 {dd : Nat} {D S n : Int} {h : ab_H} (i : cs_I D S h) (n1 : 1 ≤ n) (n2 : n ≤ 8) :
    ab_E B (dd + 5) 68 0 [some (.inr (.inr (some 0))), some (.inl n), none] [] h = some (.inr 3, ab_cost h 1 6) ∨
    ∃ h' v, ab_E B (dd + 5) 68 0 [some (.inr (.inr (some 0))), some (.inl n), none] [] h = some (.inl (some (.inl v)), h') ∧ (0 ≤ v ∧ v ≤ 255) ∧ cs_I D S h' ∧ cs_Fr h h' ∧ (∀ x, ab_gi h' 4 x = ab_gi h 4 x) := by
  have hL := i.1.1.1
  obtain ⟨hR, eD, eS, D1, D2, S1, S2⟩ := i.1
  have q : cs_Q h D S := i.1
  have e95 := m95 (B := B) (dd := dd + 4) q i.2.2.1 n1 n2
  rcases i.2.2.1 with con | con
  · left
    rw [if_neg (by omega)] at e95
    simp (disch := omega) only [e68_0, e68_1, e68_2, e68_5, e68_6, e68_7, e68_10, e68_11, e68_14, e68_15, e68_16, e68_17, e68_20, e68_21, e68_24, e68_25, e68_28, e68_31, e68_32, Option.isSome_some, ab_bvh_some, ab_bvh_thr, ab_ge, ab_lt, ab_le, ab_gt, ab_eq, ab_ne, decide_eq_true_eq, ab_w_id, ab_w0, ab_gd_some, ab_gs_0, ab_gs_1, ab_gl_0, ab_gl_1, ab_bv_some, ab_bu_some, ab_bv_thr, ab_bu_thr, ab_fx_n, ab_fx_i, ab_fx_q, ab_fx_l, ab_sh_si, ab_gr_si, ab_gl_si, cs_n, ↓reduceIte, true_or, or_true, false_or, or_false, and_true, true_and, and_false, false_and, not_true_eq_false, not_false_eq_true, eq_self, Int.reduceEq, Int.reduceLT, Int.reduceLE, Int.reduceAdd, Int.reduceMul, Int.reduceNeg, if_pos, if_neg, hL.1, hL.2, e95]
  · right
    rw [if_pos con] at e95
    have hn : ab_gi h 0 3 = -1 := by
      rcases i.2.2.2.1 with n | n
      · exact n
      · have := n.2.2.1; omega
    have hp := i.2.2.2.2.1.2
    obtain ⟨a1, a2, a3, a4, a5, a6⟩ := cs_rd_ok (f := ab_gi h 0 7) n.toNat h 0 q i.2.2.2.2.2.2 hn
    have e96 := m96 (B := B) (dd := dd) q i.2.2.2.2.2.2 hn hp.1 hp.2 n1 n2
    have i1 : cs_I D S (cs_rd S (ab_gi h 0 7) h 0 n.toNat).2 := cs_I_rack a1 a2 a3 (fun c x c2 c3 _ _ => a4 c x c2 c3) i
    have i2 : cs_I D S (ab_si (cs_rd S (ab_gi h 0 7) h 0 n.toNat).2 0 10 (ab_gi h 0 10 + (cs_rd S (ab_gi h 0 7) h 0 n.toNat).1)) := cs_I_si0 (by omega) (by omega) i1
    have g07 : ab_gi (ab_si (cs_rd S (ab_gi h 0 7) h 0 n.toNat).2 0 10 (ab_gi h 0 10 + (cs_rd S (ab_gi h 0 7) h 0 n.toNat).1)) 0 7 = ab_gi h 0 7 := by rw [ab_gi_si, if_neg (by simp), a4 0 7 (by decide) (by decide)]
    have f2 : cs_Fr h (ab_si (cs_rd S (ab_gi h 0 7) h 0 n.toNat).2 0 10 (ab_gi h 0 10 + (cs_rd S (ab_gi h 0 7) h 0 n.toNat).1)) := ⟨a3, fun c x hc => by rw [ab_gi_si, if_neg (fun z => by have := z.1; omega), a4 c x (by omega) (by omega)]⟩
    have w4 : ∀ x, ab_gi (ab_si (cs_rd S (ab_gi h 0 7) h 0 n.toNat).2 0 10 (ab_gi h 0 10 + (cs_rd S (ab_gi h 0 7) h 0 n.toNat).1)) 4 x = ab_gi h 4 x := fun x => by rw [ab_gi_si, if_neg (by simp), a4 4 x (by decide) (by decide)]
    generalize hh : ab_si (cs_rd S (ab_gi h 0 7) h 0 n.toNat).2 0 10 (ab_gi h 0 10 + (cs_rd S (ab_gi h 0 7) h 0 n.toNat).1) = h2 at i2 f2 w4 g07 e96
    have hL2 := i2.1.1.1
    have eS2 := i2.1.2.2.1
    have e10 := m10 (B := B) (dd := dd + 4) (f := ab_gi h 0 7) (c := n) i2.1.1 (by omega) hp.1 (by omega) (by omega) n2
    rw [eS2] at e10
    have s1 : 0 ≤ (ab_gi h 0 7 + n) % S := Int.emod_nonneg _ (by omega)
    have s2 : (ab_gi h 0 7 + n) % S < S := Int.emod_lt_of_pos _ (by omega)
    refine ⟨ab_si h2 0 7 ((ab_gi h 0 7 + n) % S), _, ?_, ⟨a5, by omega⟩, cs_I_place (Or.inr rfl) s1 s2 i2, f2.t (cs_Fr.si (by omega)), fun x => by rw [ab_gi_si, if_neg (by simp)]; exact w4 x⟩
    simp (disch := omega) only [e68_0, e68_1, e68_2, e68_5, e68_6, e68_7, e68_10, e68_11, e68_14, e68_15, e68_16, e68_17, e68_20, e68_21, e68_24, e68_25, e68_28, e68_31, e68_32, Option.isSome_some, ab_bvh_some, ab_bvh_thr, ab_ge, ab_lt, ab_le, ab_gt, ab_eq, ab_ne, decide_eq_true_eq, ab_w_id, ab_w0, ab_gd_some, ab_gs_0, ab_gs_1, ab_gl_0, ab_gl_1, ab_bv_some, ab_bu_some, ab_bv_thr, ab_bu_thr, ab_fx_n, ab_fx_i, ab_fx_q, ab_fx_l, ab_sh_si, ab_gr_si, ab_gl_si, cs_n, ↓reduceIte, true_or, or_true, false_or, or_false, and_true, true_and, and_false, false_and, not_true_eq_false, not_false_eq_true, eq_self, Int.reduceEq, Int.reduceLT, Int.reduceLE, Int.reduceAdd, Int.reduceMul, Int.reduceNeg, if_pos, if_neg, hL.1, hL.2, e95, e96, hL2.1, hL2.2, g07, e10]
end
