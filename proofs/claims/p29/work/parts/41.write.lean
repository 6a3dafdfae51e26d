/-! A BLOCK IS WRITTEN, AND READ -/
section
variable {B : ab_B}
theorem cs_w_fx {h h' : ab_H} {D s d : Int} (eD : ab_gi h 1 0 = D) (h1 : ab_gi h' 1 0 = ab_gi h 1 0) (d1 : 0 ≤ d) (d2 : d < D) (h4 : ∀ o, 0 ≤ o → o < D → ab_gi h' 4 (o * 8 + s) = ab_gi h 4 (o * 8 + s)) : cs_w h' s d = cs_w h s d := by
  unfold cs_w
  rw [h1]
  by_cases c : d = s % ab_gi h 1 0
  · rw [if_pos c, if_pos c]
    have key : ∀ (k : Nat) (acc i : Int), 0 ≤ i → i + k = D → cs_xf (fun o => if o = s % ab_gi h 1 0 then 0 else ab_gi h' 4 (o * 8 + s)) acc i k = cs_xf (fun o => if o = s % ab_gi h 1 0 then 0 else ab_gi h 4 (o * 8 + s)) acc i k := by
      intro k
      induction k with
      | zero => intro acc i _ _; rfl
      | succ k ih =>
        intro acc i q1 q2
        unfold cs_xf
        rw [h4 i q1 (by omega), ih _ (i + 1) (by omega) (by omega)]
    exact key _ 0 0 (by omega) (by omega)
  · rw [if_neg c, if_neg c]
    exact h4 d d1 d2
/-- the sum that is to be -/
theorem cs_ns {h h' : ab_H} {D S s a v : Int} (q : cs_Q h D S) (e0 : ab_gi h' 1 0 = ab_gi h 1 0) (s1 : 0 ≤ s) (s2 : s < S) (a1 : 0 ≤ a) (a2 : a < D) (hne : a ≠ s % D) (v1 : 0 ≤ v) (v2 : v ≤ 255)
    (h4 : ∀ o, 0 ≤ o → o < D → ab_gi h' 4 (o * 8 + s) = if o = a then v else ab_gi h 4 (o * 8 + s)) : ab_ixor (ab_ixor (cs_w h s (s % D)) (cs_w h s a)) v = cs_w h' s (s % D) := by
  obtain ⟨hR, eD, eS, D1, D2, S1, S2⟩ := q
  have q : cs_Q h D S := ⟨hR, eD, eS, D1, D2, S1, S2⟩
  have sd1 : 0 ≤ s % D := Int.emod_nonneg _ (by omega)
  have sd2 : s % D < D := Int.emod_lt_of_pos _ (by omega)
  have hv : ∀ o, 0 ≤ o → o < D → 0 ≤ ab_gi h 4 (o * 8 + s) ∧ ab_gi h 4 (o * 8 + s) ≤ 255 := fun o q1 q2 => by
    have := hR.2.2.1 (o * 8 + s) (by omega) (by omega)
    omega
  have ws := cs_w_rng q sd1 sd2 s1 s2
  have wa := cs_w_rng q a1 a2 s1 s2
  have x1 := ab_ixor_eq ws.1 ws.2 wa.1 wa.2
  have x2 := ab_ixor_rng ws.1 ws.2 wa.1 wa.2
  have x3 := ab_ixor_eq x2.1 x2.2 v1 v2
  have ea : cs_w h s a = ab_gi h 4 (a * 8 + s) := by unfold cs_w; rw [eD, if_neg hne]
  have e1 : cs_w h s (s % D) = ((cx (fun o => if o = s % D then 0 else (ab_gi h 4 (o * 8 + s)).toNat) 0 (ab_gi h 1 0).toNat : Nat) : Int) := by
    unfold cs_w
    rw [eD, if_pos rfl, cs_xf_cx _ 0 0 (by omega) (by omega) (fun j q1 q2 => by
      split
      · omega
      · exact hv j q1 (by omega)), Int.toNat_zero, Nat.zero_xor]
    congr 1
    apply cx_congr
    intro j _ _
    split <;> rfl
  have e2 : cs_w h' s (s % D) = ((cx (fun o => if o = s % D then 0 else if o = a then v.toNat else (ab_gi h 4 (o * 8 + s)).toNat) 0 (ab_gi h 1 0).toNat : Nat) : Int) := by
    unfold cs_w
    rw [e0, eD, if_pos rfl, cs_xf_cx _ 0 0 (by omega) (by omega) (fun j q1 q2 => by
      split
      · omega
      · rw [h4 j q1 (by omega)]
        split
        · omega
        · exact hv j q1 (by omega)), Int.toNat_zero, Nat.zero_xor]
    congr 1
    apply cx_congr
    intro j q1 q2
    by_cases c : j = s % D
    · rw [if_pos c, if_pos c]; rfl
    · rw [if_neg c, if_neg c, h4 j q1 (by omega)]
      split <;> rfl
  have p1 := cx_hole (f := fun o => if o = s % D then 0 else (ab_gi h 4 (o * 8 + s)).toNat) (d := a) (ab_gi h 1 0).toNat 0 a1 (by omega)
  have p2 := cx_hole (f := fun o => if o = s % D then 0 else if o = a then v.toNat else (ab_gi h 4 (o * 8 + s)).toNat) (d := a) (ab_gi h 1 0).toNat 0 a1 (by omega)
  have p3 : cx (fun o => if o = a then 0 else (if o = s % D then 0 else if o = a then v.toNat else (ab_gi h 4 (o * 8 + s)).toNat)) 0 (ab_gi h 1 0).toNat = cx (fun o => if o = a then 0 else (if o = s % D then 0 else (ab_gi h 4 (o * 8 + s)).toNat)) 0 (ab_gi h 1 0).toNat := by
    apply cx_congr
    intro j _ _
    by_cases c : j = a
    · rw [if_pos c, if_pos c]
    · rw [if_neg c, if_neg c, if_neg c]
  rw [p3] at p2
  simp only [if_neg hne, if_true] at p1 p2
  rw [x3.1, x1.1, Int.toNat_natCast, e1, e2, p1, p2, ea, Int.toNat_natCast]
  congr 1
  rw [Nat.xor_assoc (cx _ _ _), Nat.xor_self, Nat.xor_zero]
theorem cs_kn_H {D S b v : Int} {h : ab_H} (i : cs_I D S h) (hn : ab_gi h 0 3 = -1) (hbc : cs_bc h (b / (D - 1)) ≤ 1) (hb1 : 0 ≤ b) (hb2 : b < (D - 1) * S) (v1 : 0 ≤ v) (v2 : v ≤ 255) : cs_H D S b (cs_kn h D b v) ∧ cs_Fr h (cs_kn h D b v) ∧ (∀ x, ab_gi (cs_kn h D b v) 4 x = if x = cs_dk D b * 8 + b / (D - 1) then v else ab_gi h 4 x) ∧ ab_gi (cs_kn h D b v) 0 2 = ab_gi h 0 2 := by
  obtain ⟨i1, i2, i3, i4, i5, i6, i7⟩ := i
  obtain ⟨hR, eD, eS, D1, D2, S1, S2⟩ := i1
  have q : cs_Q h D S := ⟨hR, eD, eS, D1, D2, S1, S2⟩
  obtain ⟨b1, b2, b3, b4, b5, b6⟩ := cs_blk D1 D2 S2 hb1 hb2
  have sd1 : 0 ≤ b / (D - 1) % D := Int.emod_nonneg _ (by omega)
  have sd2 : b / (D - 1) % D < D := Int.emod_lt_of_pos _ (by omega)
  have hJ := cs_G_J i7 hn (b / (D - 1)) b2 (show b / (D - 1) < ab_gi h 1 1 by omega)
  have h4 : ∀ x, ab_gi (cs_kn h D b v) 4 x = if x = cs_dk D b * 8 + b / (D - 1) then v else ab_gi h 4 x := fun x => by
    unfold cs_kn
    rw [ab_gi_si, if_neg (by simp), ab_gi_si]
    by_cases c : x = cs_dk D b * 8 + b / (D - 1)
    · rw [if_pos ⟨rfl, c⟩, if_pos c]
    · rw [if_neg (fun z => c z.2), if_neg c, ab_gi_si, if_neg (by simp), ab_gi_si, if_neg (by simp), ab_gi_si, if_neg (by simp)]
  have gc : ∀ c x, c ≠ 0 → c ≠ 4 → ab_gi (cs_kn h D b v) c x = ab_gi h c x := fun c x c0 c4 => by
    unfold cs_kn
    rw [ab_gi_si, if_neg (fun z => c0 z.1), ab_gi_si, if_neg (fun z => c4 z.1), ab_gi_si, if_neg (fun z => c0 z.1), ab_gi_si, if_neg (fun z => c0 z.1), ab_gi_si, if_neg (fun z => c0 z.1)]
  have g0 : ∀ k, k ≠ 3 → k ≠ 4 → k ≠ 5 → k ≠ 8 → ab_gi (cs_kn h D b v) 0 k = ab_gi h 0 k := fun k k3 k4 k5 k8 => by
    unfold cs_kn
    rw [ab_gi_si, if_neg (fun z => k8 z.2), ab_gi_si, if_neg (by simp), ab_gi_si, if_neg (fun z => k5 z.2), ab_gi_si, if_neg (fun z => k4 z.2), ab_gi_si, if_neg (fun z => k3 z.2)]
  have e3 : ab_gi (cs_kn h D b v) 0 3 = b := by unfold cs_kn; simp [ab_gi_si]
  have e4 : ab_gi (cs_kn h D b v) 0 4 = v := by unfold cs_kn; simp [ab_gi_si]
  have e5 : ab_gi (cs_kn h D b v) 0 5 = ab_ixor (ab_ixor (cs_sh h (b / (D - 1) % D) (b / (D - 1))) (cs_sh h (cs_dk D b) (b / (D - 1)))) v := by unfold cs_kn; simp [ab_gi_si]
  have h4' : ∀ o, 0 ≤ o → o < D → ab_gi (cs_kn h D b v) 4 (o * 8 + b / (D - 1)) = if o = cs_dk D b then v else ab_gi h 4 (o * 8 + b / (D - 1)) := fun o o1 o2 => by
    rw [h4]
    by_cases c : o = cs_dk D b
    · rw [if_pos (by rw [c]), if_pos c]
    · rw [if_neg (fun z => c (by omega)), if_neg c]
  have nl : ∀ d, ¬ (cs_b h d (b / (D - 1)) = 1 ∧ 1 < cs_bc h (b / (D - 1))) := fun d z => by have := z.2; omega
  have hsd := cs_J_sh q sd1 sd2 b2 b3 hJ
  have hda := cs_J_sh q b4 b5 b2 b3 hJ
  rw [if_neg (nl _)] at hsd hda
  have ens := cs_ns (h := h) (h' := cs_kn h D b v) q (gc 1 0 (by decide) (by decide)) b2 b3 b4 b5 b6 v1 v2 h4'
  have hR' : cs_R (cs_kn h D b v) := cs_R_six (cs_R_si4 (cs_R_six (cs_R_six (cs_R_six hR (by decide) (by decide) (by decide) (by decide) (by decide)) (by decide) (by decide) (by decide) (by decide) (by decide)) (by decide) (by decide) (by decide) (by decide) (by decide)) v1 v2) (by decide) (by decide) (by decide) (by decide) (by decide)
  refine ⟨⟨⟨hb1, hb2⟩, ⟨hR', (gc 1 0 (by decide) (by decide)).trans eD, (gc 1 1 (by decide) (by decide)).trans eS, D1, D2, S1, S2⟩, cs_Y_fr (h := h) rfl (fun c x hc => gc c x (by omega) (by omega)) i2, ⟨e3, ?_, ?_⟩, by rw [g0 6 (by decide) (by decide) (by decide) (by decide), g0 7 (by decide) (by decide) (by decide) (by decide)]; exact i5, by rw [g0 12 (by decide) (by decide) (by decide) (by decide)]; exact i6, ?_⟩, ⟨rfl, fun c x hc => gc c x (by omega) (by omega)⟩, h4, g0 2 (by decide) (by decide) (by decide) (by decide)⟩
  · rw [e4]
    unfold cs_w
    rw [gc 1 0 (by decide) (by decide), eD, if_neg b6, h4' _ b4 b5, if_pos rfl]
  · rw [e5, hsd, hda]; exact ens
  · intro s d s1 s2 d1 d2 hnd
    rw [gc 1 1 (by decide) (by decide)] at s2
    rw [gc 1 0 (by decide) (by decide)] at d2
    have j := cs_G_J i7 hn s s1 s2 d d1 d2
    unfold cs_j
    rw [gc 5 d (by decide) (by decide), gc 3 _ (by decide) (by decide)]
    have ew : cs_w (cs_kn h D b v) s d = cs_w h s d := by
      by_cases c : s = b / (D - 1)
      · have hn2 : d ≠ cs_dk D b ∧ d ≠ s % D := ⟨fun z => hnd ⟨by rw [e3]; exact hb1, by rw [e3, gc 1 0 (by decide) (by decide), eD]; exact c.symm, by rw [e3, gc 1 0 (by decide) (by decide), eD]; exact Or.inl z⟩, fun z => hnd ⟨by rw [e3]; exact hb1, by rw [e3, gc 1 0 (by decide) (by decide), eD]; exact c.symm, by rw [gc 1 0 (by decide) (by decide), eD]; exact Or.inr z⟩⟩
        unfold cs_w
        rw [gc 1 0 (by decide) (by decide), eD, if_neg hn2.2, if_neg hn2.2, c, h4' d d1 (by omega), if_neg hn2.1]
      · refine cs_w_fx eD (gc 1 0 (by decide) (by decide)) d1 (by omega) (fun o o1 o2 => ?_)
        rw [h4, if_neg (fun z => c (by omega))]
    rw [ew]
    exact j
theorem m62 {dd : Nat} {D S b v st : Int} {h : ab_H} (i : cs_I D S h) (hb1 : 0 ≤ b) (hb2 : b < (D - 1) * S) (v1 : 0 ≤ v) (v2 : v ≤ 255) (t1 : 0 ≤ st) (t2 : st ≤ 4) :
    ab_E B (dd + 5) 62 0 [some (.inr (.inr (some 0))), some (.inl b), some (.inl v), some (.inl st), none] [] h = some (.inr 3, ab_cost h 1 6) ∨
    ∃ h', ab_E B (dd + 5) 62 0 [some (.inr (.inr (some 0))), some (.inl b), some (.inl v), some (.inl st), none] [] h = some (.inl (some (.inl (if 1 ≤ st then 1 else 0))), h') ∧ cs_I D S h' ∧ cs_Fr h h' ∧ (∀ x, ab_gi h' 4 x = if 1 ≤ st ∧ x = cs_dk D b * 8 + b / (D - 1) then v else ab_gi h 4 x) := by
  have hL := i.1.1.1
  have q := i.1
  obtain ⟨hR, eD, eS, D1, D2, S1, S2⟩ := i.1
  obtain ⟨b1, b2, b3, b4, b5, b6⟩ := cs_blk D1 D2 S2 hb1 hb2
  have eB := cs_B_eq q
  have hbc := cs_bc_le hR (b / (D - 1))
  have e4 := m4 (B := B) (dd := dd + 3) (b := b) hR (by omega) (by omega)
  rw [if_pos ⟨hb1, by rw [eB]; exact hb2⟩] at e4
  have e6 : ∀ d9, ab_E B d9 6 0 [some (.inr (.inr (some 1))), some (.inl b)] [] h = some (.inl (some (.inl (b / (D - 1)))), h) := fun d9 => by rw [m6 hR (by omega) hb1 b1, eD]
  have e17 := m17 (B := B) (dd := dd + 2) hR b2 (show b / (D - 1) < ab_gi h 1 1 by omega)
  rcases i.2.2.1 with con | con
  · left
    simp (disch := omega) only [e62_0, e62_1, e62_4, e62_5, e62_8, e62_11, e62_21, e62_22, e62_25, e62_26, e62_29, e62_32, e62_33, e62_36, e62_37, e62_38, e62_41, e62_51, e62_52, e62_55, e62_56, e62_59, e62_61, e62_62, e62_65, e62_68, e62_69, e62_72, e62_74, e62_77, e62_78, e62_81, e62_91, e62_92, e62_93, e62_96, e62_97, e62_100, e62_102, e62_105, e62_106, e62_109, e62_110, e62_111, e62_114, e62_115, e62_116, e62_117, e62_120, e62_121, e62_122, e62_125, e62_126, e62_129, e62_130, e62_131, e62_134, e62_135, e62_138, e62_139, e62_140, e62_143, e62_144, e62_147, e62_150, e62_151, e62_154, e62_155, e62_156, e62_159, e62_160, e62_163, e62_164, Option.isSome_some, ab_bvh_some, ab_bvh_thr, ab_ge, ab_lt, ab_le, ab_gt, ab_eq, ab_ne, decide_eq_true_eq, ab_w_id, ab_w0, ab_gd_some, ab_gs_0, ab_gs_1, ab_gl_0, ab_gl_1, ab_bv_some, ab_bu_some, ab_bv_thr, ab_bu_thr, ab_fx_n, ab_fx_i, ab_fx_q, ab_fx_l, ab_sh_si, ab_gr_si, ab_gl_si, cs_n, ↓reduceIte, true_or, or_true, false_or, or_false, and_true, true_and, and_false, false_and, not_true_eq_false, not_false_eq_true, eq_self, Int.reduceEq, Int.reduceLT, Int.reduceLE, Int.reduceAdd, Int.reduceMul, Int.reduceNeg, if_pos, if_neg, hL.1, hL.2, e4, e6, con]
  by_cases cbc : 1 < cs_bc h (b / (D - 1))
  · left
    simp (disch := omega) only [e62_0, e62_1, e62_4, e62_5, e62_8, e62_11, e62_21, e62_22, e62_25, e62_26, e62_29, e62_32, e62_33, e62_36, e62_37, e62_38, e62_41, e62_51, e62_52, e62_55, e62_56, e62_59, e62_61, e62_62, e62_65, e62_68, e62_69, e62_72, e62_74, e62_77, e62_78, e62_81, e62_91, e62_92, e62_93, e62_96, e62_97, e62_100, e62_102, e62_105, e62_106, e62_109, e62_110, e62_111, e62_114, e62_115, e62_116, e62_117, e62_120, e62_121, e62_122, e62_125, e62_126, e62_129, e62_130, e62_131, e62_134, e62_135, e62_138, e62_139, e62_140, e62_143, e62_144, e62_147, e62_150, e62_151, e62_154, e62_155, e62_156, e62_159, e62_160, e62_163, e62_164, Option.isSome_some, ab_bvh_some, ab_bvh_thr, ab_ge, ab_lt, ab_le, ab_gt, ab_eq, ab_ne, decide_eq_true_eq, ab_w_id, ab_w0, ab_gd_some, ab_gs_0, ab_gs_1, ab_gl_0, ab_gl_1, ab_bv_some, ab_bu_some, ab_bv_thr, ab_bu_thr, ab_fx_n, ab_fx_i, ab_fx_q, ab_fx_l, ab_sh_si, ab_gr_si, ab_gl_si, cs_n, ↓reduceIte, true_or, or_true, false_or, or_false, and_true, true_and, and_false, false_and, not_true_eq_false, not_false_eq_true, eq_self, Int.reduceEq, Int.reduceLT, Int.reduceLE, Int.reduceAdd, Int.reduceMul, Int.reduceNeg, if_pos, if_neg, hL.1, hL.2, e4, e6, con, e17]
  right
  have hn : ab_gi h 0 3 = -1 := by
    rcases i.2.2.2.1 with n | n
    · exact n
    · have := n.2.2.1; omega
  have hJ := cs_G_J i.2.2.2.2.2.2 hn (b / (D - 1)) b2 (show b / (D - 1) < ab_gi h 1 1 by omega)
  obtain ⟨q1, g1, bc1, r1⟩ := cs_mend_ok q i.2.2.2.2.2.2 b2 b3 hJ
  have mg := fun (c : Nat) (x : Int) (c2 : c ≠ 2) (c3 : c ≠ 3) => cs_mend_gi (c := c) (x := x) q b2 b3 hJ c2 c3
  have i1 : cs_I D S (cs_mend h (b / (D - 1))).2 := cs_I_rack q1 g1 (cs_mend_snd q b2 b3 hJ) (fun c x c2 c3 _ _ => mg c x c2 c3) i
  have i2 : cs_I D S (ab_si (cs_mend h (b / (D - 1))).2 0 10 (ab_gi h 0 10 + (cs_mend h (b / (D - 1))).1)) := cs_I_si0 (by omega) (by omega) i1
  have f1 : cs_Fr h (cs_mend h (b / (D - 1))).2 := ⟨cs_mend_snd q b2 b3 hJ, fun c x hc => mg c x (by omega) (by omega)⟩
  have f2 : cs_Fr h (ab_si (cs_mend h (b / (D - 1))).2 0 10 (ab_gi h 0 10 + (cs_mend h (b / (D - 1))).1)) := f1.t (cs_Fr.si (by omega))
  have e27 := m27 (B := B) (dd := dd + 1) hR b2 (show b / (D - 1) < ab_gi h 1 1 by omega)
  have hLm := i1.1.1.1
  have w4 : ∀ x, ab_gi (ab_si (cs_mend h (b / (D - 1))).2 0 10 (ab_gi h 0 10 + (cs_mend h (b / (D - 1))).1)) 4 x = ab_gi h 4 x := fun x => by rw [ab_gi_si, if_neg (by simp)]; exact mg 4 x (by decide) (by decide)
  have w03 : ab_gi (ab_si (cs_mend h (b / (D - 1))).2 0 10 (ab_gi h 0 10 + (cs_mend h (b / (D - 1))).1)) 0 3 = -1 := by rw [ab_gi_si, if_neg (by simp), mg 0 3 (by decide) (by decide)]; exact hn
  have w02 : ab_gi (ab_si (cs_mend h (b / (D - 1))).2 0 10 (ab_gi h 0 10 + (cs_mend h (b / (D - 1))).1)) 0 2 = 1 := by rw [ab_gi_si, if_neg (by simp), mg 0 2 (by decide) (by decide)]; exact con
  have wbc : cs_bc (ab_si (cs_mend h (b / (D - 1))).2 0 10 (ab_gi h 0 10 + (cs_mend h (b / (D - 1))).1)) (b / (D - 1)) ≤ 1 := by
    have := bc1 _ b2 b3
    have e : cs_bc (ab_si (cs_mend h (b / (D - 1))).2 0 10 (ab_gi h 0 10 + (cs_mend h (b / (D - 1))).1)) (b / (D - 1)) = cs_bc (cs_mend h (b / (D - 1))).2 (b / (D - 1)) := by
      unfold cs_bc cs_b
      simp [ab_gi_si]
    omega
  generalize hh : ab_si (cs_mend h (b / (D - 1))).2 0 10 (ab_gi h 0 10 + (cs_mend h (b / (D - 1))).1) = h2 at i2 f2 w4 w03 w02 wbc
  have hL2 := i2.1.1.1
  obtain ⟨H3, f3, k4, k02⟩ := cs_kn_H i2 w03 wbc hb1 hb2 v1 v2
  have e89 := m89 (B := B) (dd := dd) (v := v) i2.1 hb1 hb2
  have hL3 := H3.2.1.1.1
  have sd1 : 0 ≤ b / (D - 1) % D := Int.emod_nonneg _ (by omega)
  have sd2 : b / (D - 1) % D < D := Int.emod_lt_of_pos _ (by omega)
  obtain ⟨H4, j4, kk4⟩ := cs_H_lay H3 b4 b5
  have n3 := H3.2.2.2.1
  have wr3 := cs_w_rng H3.2.1 b4 b5 b2 b3
  have e90 := m90 (B := B) (dd := dd + 2) H3.2.1 (by rw [n3.1]; exact hb1) (by rw [n3.1]; exact hb2) (by rw [n3.2.1]; exact wr3.1) (by rw [n3.2.1]; exact wr3.2)
  rw [n3.1, n3.2.1] at e90
  have hL4 := H4.2.1.1.1
  obtain ⟨H5, j5, kk5⟩ := cs_H_lay H4 sd1 sd2
  have n4 := H4.2.2.2.1
  have wr4 := cs_w_rng H4.2.1 sd1 sd2 b2 b3
  have e91 := m91 (B := B) (dd := dd + 2) H4.2.1 (by rw [n4.1]; exact hb1) (by rw [n4.1]; exact hb2) (by rw [n4.2.2]; exact wr4.1) (by rw [n4.2.2]; exact wr4.2)
  rw [n4.1, n4.2.2] at e91
  have hL5 := H5.2.1.1.1
  have k3 : ∀ x, ab_gi (cs_kn h2 D b v) 4 x = if x = cs_dk D b * 8 + b / (D - 1) then v else ab_gi h 4 x := fun x => by rw [k4, w4]
  have off4 : ∀ (g : ab_H) (x z : Int), ab_gi (ab_si (ab_si g 0 2 0) 0 11 z) 4 x = ab_gi g 4 x := fun g x z => by rw [ab_gi_si, if_neg (by simp), ab_gi_si, if_neg (by simp)]
  have offF : ∀ (g : ab_H) (z : Int), cs_Fr g (ab_si (ab_si g 0 2 0) 0 11 z) := fun g z => (cs_Fr.si (by omega)).t (cs_Fr.si (by omega))
  have hst : st = 0 ∨ st = 1 ∨ st = 2 ∨ st = 3 ∨ st = 4 := by omega
  rcases hst with c | c | c | c | c <;> subst c
  · refine ⟨ab_si (ab_si h2 0 2 0) 0 11 (ab_gi h2 0 11 + 1), ?_, ?_, f2.t (offF _ _), fun x => by rw [off4, w4, if_neg (by omega)]⟩
    · simp (disch := omega) only [e62_0, e62_1, e62_4, e62_5, e62_8, e62_11, e62_21, e62_22, e62_25, e62_26, e62_29, e62_32, e62_33, e62_36, e62_37, e62_38, e62_41, e62_51, e62_52, e62_55, e62_56, e62_59, e62_61, e62_62, e62_65, e62_68, e62_69, e62_72, e62_74, e62_77, e62_78, e62_81, e62_91, e62_92, e62_93, e62_96, e62_97, e62_100, e62_102, e62_105, e62_106, e62_109, e62_110, e62_111, e62_114, e62_115, e62_116, e62_117, e62_120, e62_121, e62_122, e62_125, e62_126, e62_129, e62_130, e62_131, e62_134, e62_135, e62_138, e62_139, e62_140, e62_143, e62_144, e62_147, e62_150, e62_151, e62_154, e62_155, e62_156, e62_159, e62_160, e62_163, e62_164, Option.isSome_some, ab_bvh_some, ab_bvh_thr, ab_ge, ab_lt, ab_le, ab_gt, ab_eq, ab_ne, decide_eq_true_eq, ab_w_id, ab_w0, ab_gd_some, ab_gs_0, ab_gs_1, ab_gl_0, ab_gl_1, ab_bv_some, ab_bu_some, ab_bv_thr, ab_bu_thr, ab_fx_n, ab_fx_i, ab_fx_q, ab_fx_l, ab_sh_si, ab_gr_si, ab_gl_si, cs_n, ↓reduceIte, true_or, or_true, false_or, or_false, and_true, true_and, and_false, false_and, not_true_eq_false, not_false_eq_true, eq_self, Int.reduceEq, Int.reduceLT, Int.reduceLE, Int.reduceAdd, Int.reduceMul, Int.reduceNeg, if_pos, if_neg, hL.1, hL.2, e4, e6, con, e17, e27, hLm.1, hLm.2, hh, hL2.1, hL2.2, m93 hL2]
    · obtain ⟨p1, p2, p3, p4, p5, p6, p7⟩ := i2
      have g : ∀ c k, c ≠ 0 → ab_gi (ab_si (ab_si h2 0 2 0) 0 11 (ab_gi h2 0 11 + 1)) c k = ab_gi h2 c k := fun c k hc => by
        rw [ab_gi_si, if_neg (fun q => hc q.1), ab_gi_si, if_neg (fun q => hc q.1)]
      have g0 : ∀ k, k ≠ 2 → k ≠ 11 → ab_gi (ab_si (ab_si h2 0 2 0) 0 11 (ab_gi h2 0 11 + 1)) 0 k = ab_gi h2 0 k := fun k k1 k2 => by
        rw [ab_gi_si, if_neg (fun q => k2 q.2), ab_gi_si, if_neg (fun q => k1 q.2)]
      exact ⟨cs_Q_fr (h := h2) rfl (fun c x h1 h2 => g c x (by omega)) p1, cs_Y_fr (h := h2) rfl (fun c x hc => g c x (by omega)) p2, Or.inl (by simp [ab_gi_si]), Or.inl (by rw [g0 3 (by decide) (by decide)]; exact w03), by rw [g0 6 (by decide) (by decide), g0 7 (by decide) (by decide)]; exact p5, by rw [g0 12 (by decide) (by decide)]; exact p6, cs_G_fr0 p7 (fun c x h1 h2 => g c x (by omega)) (g0 3 (by decide) (by decide))⟩
  · refine ⟨_, ?_, cs_H_off (x := ab_gi (cs_kn h2 D b v) 0 11 + 1) H3, (f2.t f3).t (offF _ _), fun x => ?_⟩
    · simp (disch := omega) only [e62_0, e62_1, e62_4, e62_5, e62_8, e62_11, e62_21, e62_22, e62_25, e62_26, e62_29, e62_32, e62_33, e62_36, e62_37, e62_38, e62_41, e62_51, e62_52, e62_55, e62_56, e62_59, e62_61, e62_62, e62_65, e62_68, e62_69, e62_72, e62_74, e62_77, e62_78, e62_81, e62_91, e62_92, e62_93, e62_96, e62_97, e62_100, e62_102, e62_105, e62_106, e62_109, e62_110, e62_111, e62_114, e62_115, e62_116, e62_117, e62_120, e62_121, e62_122, e62_125, e62_126, e62_129, e62_130, e62_131, e62_134, e62_135, e62_138, e62_139, e62_140, e62_143, e62_144, e62_147, e62_150, e62_151, e62_154, e62_155, e62_156, e62_159, e62_160, e62_163, e62_164, Option.isSome_some, ab_bvh_some, ab_bvh_thr, ab_ge, ab_lt, ab_le, ab_gt, ab_eq, ab_ne, decide_eq_true_eq, ab_w_id, ab_w0, ab_gd_some, ab_gs_0, ab_gs_1, ab_gl_0, ab_gl_1, ab_bv_some, ab_bu_some, ab_bv_thr, ab_bu_thr, ab_fx_n, ab_fx_i, ab_fx_q, ab_fx_l, ab_sh_si, ab_gr_si, ab_gl_si, cs_n, ↓reduceIte, true_or, or_true, false_or, or_false, and_true, true_and, and_false, false_and, not_true_eq_false, not_false_eq_true, eq_self, Int.reduceEq, Int.reduceLT, Int.reduceLE, Int.reduceAdd, Int.reduceMul, Int.reduceNeg, if_pos, if_neg, hL.1, hL.2, e4, e6, con, e17, e27, hLm.1, hLm.2, hh, hL2.1, hL2.2, hL3.1, hL3.2, hL4.1, hL4.2, hL5.1, hL5.2, e89, m93 hL3]
    · rw [off4, k3]
      by_cases c : x = cs_dk D b * 8 + b / (D - 1)
      · rw [if_pos c, if_pos ⟨by omega, c⟩]
      · rw [if_neg c, if_neg (fun z => c z.2)]
  · refine ⟨_, ?_, cs_H_off (x := ab_gi (cs_lay (cs_kn h2 D b v) (cs_dk D b) (b / (D - 1)) (cs_w (cs_kn h2 D b v) (b / (D - 1)) (cs_dk D b))) 0 11 + 1) H4, ((f2.t f3).t cs_Fr.lay).t (offF _ _), fun x => ?_⟩
    · simp (disch := omega) only [e62_0, e62_1, e62_4, e62_5, e62_8, e62_11, e62_21, e62_22, e62_25, e62_26, e62_29, e62_32, e62_33, e62_36, e62_37, e62_38, e62_41, e62_51, e62_52, e62_55, e62_56, e62_59, e62_61, e62_62, e62_65, e62_68, e62_69, e62_72, e62_74, e62_77, e62_78, e62_81, e62_91, e62_92, e62_93, e62_96, e62_97, e62_100, e62_102, e62_105, e62_106, e62_109, e62_110, e62_111, e62_114, e62_115, e62_116, e62_117, e62_120, e62_121, e62_122, e62_125, e62_126, e62_129, e62_130, e62_131, e62_134, e62_135, e62_138, e62_139, e62_140, e62_143, e62_144, e62_147, e62_150, e62_151, e62_154, e62_155, e62_156, e62_159, e62_160, e62_163, e62_164, Option.isSome_some, ab_bvh_some, ab_bvh_thr, ab_ge, ab_lt, ab_le, ab_gt, ab_eq, ab_ne, decide_eq_true_eq, ab_w_id, ab_w0, ab_gd_some, ab_gs_0, ab_gs_1, ab_gl_0, ab_gl_1, ab_bv_some, ab_bu_some, ab_bv_thr, ab_bu_thr, ab_fx_n, ab_fx_i, ab_fx_q, ab_fx_l, ab_sh_si, ab_gr_si, ab_gl_si, cs_n, ↓reduceIte, true_or, or_true, false_or, or_false, and_true, true_and, and_false, false_and, not_true_eq_false, not_false_eq_true, eq_self, Int.reduceEq, Int.reduceLT, Int.reduceLE, Int.reduceAdd, Int.reduceMul, Int.reduceNeg, if_pos, if_neg, hL.1, hL.2, e4, e6, con, e17, e27, hLm.1, hLm.2, hh, hL2.1, hL2.2, hL3.1, hL3.2, hL4.1, hL4.2, hL5.1, hL5.2, e89, e90, m93 hL4]
    · rw [off4, cs_lay_gi (by decide) (by decide), k3]
      by_cases c : x = cs_dk D b * 8 + b / (D - 1)
      · rw [if_pos c, if_pos ⟨by omega, c⟩]
      · rw [if_neg c, if_neg (fun z => c z.2)]
  · refine ⟨_, ?_, cs_H_off (x := ab_gi (cs_lay (cs_lay (cs_kn h2 D b v) (cs_dk D b) (b / (D - 1)) (cs_w (cs_kn h2 D b v) (b / (D - 1)) (cs_dk D b))) (b / (D - 1) % D) (b / (D - 1)) (cs_w (cs_lay (cs_kn h2 D b v) (cs_dk D b) (b / (D - 1)) (cs_w (cs_kn h2 D b v) (b / (D - 1)) (cs_dk D b))) (b / (D - 1)) (b / (D - 1) % D))) 0 11 + 1) H5, (((f2.t f3).t cs_Fr.lay).t cs_Fr.lay).t (offF _ _), fun x => ?_⟩
    · simp (disch := omega) only [e62_0, e62_1, e62_4, e62_5, e62_8, e62_11, e62_21, e62_22, e62_25, e62_26, e62_29, e62_32, e62_33, e62_36, e62_37, e62_38, e62_41, e62_51, e62_52, e62_55, e62_56, e62_59, e62_61, e62_62, e62_65, e62_68, e62_69, e62_72, e62_74, e62_77, e62_78, e62_81, e62_91, e62_92, e62_93, e62_96, e62_97, e62_100, e62_102, e62_105, e62_106, e62_109, e62_110, e62_111, e62_114, e62_115, e62_116, e62_117, e62_120, e62_121, e62_122, e62_125, e62_126, e62_129, e62_130, e62_131, e62_134, e62_135, e62_138, e62_139, e62_140, e62_143, e62_144, e62_147, e62_150, e62_151, e62_154, e62_155, e62_156, e62_159, e62_160, e62_163, e62_164, Option.isSome_some, ab_bvh_some, ab_bvh_thr, ab_ge, ab_lt, ab_le, ab_gt, ab_eq, ab_ne, decide_eq_true_eq, ab_w_id, ab_w0, ab_gd_some, ab_gs_0, ab_gs_1, ab_gl_0, ab_gl_1, ab_bv_some, ab_bu_some, ab_bv_thr, ab_bu_thr, ab_fx_n, ab_fx_i, ab_fx_q, ab_fx_l, ab_sh_si, ab_gr_si, ab_gl_si, cs_n, ↓reduceIte, true_or, or_true, false_or, or_false, and_true, true_and, and_false, false_and, not_true_eq_false, not_false_eq_true, eq_self, Int.reduceEq, Int.reduceLT, Int.reduceLE, Int.reduceAdd, Int.reduceMul, Int.reduceNeg, if_pos, if_neg, hL.1, hL.2, e4, e6, con, e17, e27, hLm.1, hLm.2, hh, hL2.1, hL2.2, hL3.1, hL3.2, hL4.1, hL4.2, hL5.1, hL5.2, e89, e90, e91, m93 hL5]
    · rw [off4, cs_lay_gi (by decide) (by decide), cs_lay_gi (by decide) (by decide), k3]
      by_cases c : x = cs_dk D b * 8 + b / (D - 1)
      · rw [if_pos c, if_pos ⟨by omega, c⟩]
      · rw [if_neg c, if_neg (fun z => c z.2)]
  · refine ⟨_, ?_, cs_H_drop H5 (by rw [cs_lay_gi (by decide) (by decide), cs_lay_gi (by decide) (by decide), k02]; exact Or.inr w02) (kk5 _ j4) j5, (((f2.t f3).t cs_Fr.lay).t cs_Fr.lay).t (cs_Fr_drop _), fun x => ?_⟩
    · simp (disch := omega) only [e62_0, e62_1, e62_4, e62_5, e62_8, e62_11, e62_21, e62_22, e62_25, e62_26, e62_29, e62_32, e62_33, e62_36, e62_37, e62_38, e62_41, e62_51, e62_52, e62_55, e62_56, e62_59, e62_61, e62_62, e62_65, e62_68, e62_69, e62_72, e62_74, e62_77, e62_78, e62_81, e62_91, e62_92, e62_93, e62_96, e62_97, e62_100, e62_102, e62_105, e62_106, e62_109, e62_110, e62_111, e62_114, e62_115, e62_116, e62_117, e62_120, e62_121, e62_122, e62_125, e62_126, e62_129, e62_130, e62_131, e62_134, e62_135, e62_138, e62_139, e62_140, e62_143, e62_144, e62_147, e62_150, e62_151, e62_154, e62_155, e62_156, e62_159, e62_160, e62_163, e62_164, Option.isSome_some, ab_bvh_some, ab_bvh_thr, ab_ge, ab_lt, ab_le, ab_gt, ab_eq, ab_ne, decide_eq_true_eq, ab_w_id, ab_w0, ab_gd_some, ab_gs_0, ab_gs_1, ab_gl_0, ab_gl_1, ab_bv_some, ab_bu_some, ab_bv_thr, ab_bu_thr, ab_fx_n, ab_fx_i, ab_fx_q, ab_fx_l, ab_sh_si, ab_gr_si, ab_gl_si, cs_n, ↓reduceIte, true_or, or_true, false_or, or_false, and_true, true_and, and_false, false_and, not_true_eq_false, not_false_eq_true, eq_self, Int.reduceEq, Int.reduceLT, Int.reduceLE, Int.reduceAdd, Int.reduceMul, Int.reduceNeg, if_pos, if_neg, hL.1, hL.2, e4, e6, con, e17, e27, hLm.1, hLm.2, hh, hL2.1, hL2.2, hL3.1, hL3.2, hL4.1, hL4.2, hL5.1, hL5.2, e89, e90, e91, m92 hL5]
    · rw [ab_gi_si, if_neg (by simp), ab_gi_si, if_neg (by simp), ab_gi_si, if_neg (by simp), cs_lay_gi (by decide) (by decide), cs_lay_gi (by decide) (by decide), k3]
      by_cases c : x = cs_dk D b * 8 + b / (D - 1)
      · rw [if_pos c, if_pos ⟨by omega, c⟩]
      · rw [if_neg c, if_neg (fun z => c z.2)]
end
