/-! SOUND, WOULD BOOT, THE DIGEST -/
section
variable {B : ab_B}
theorem m84_loop {dd : Nat} {D S n : Int} {h : ab_H} (q : cs_Q h D S) (y : cs_Y D h) (n1 : -1 ≤ n) (n2 : n < S) (hJ : ∀ s, 0 ≤ s → s < S → s ≠ n → cs_J h s) : ∀ (k : Nat) (t : Int), 0 ≤ t → t + k = S →
    ab_E B (dd + 5) 84 32 [some (.inr (.inr (some 0))), some (.inl n), some (.inl t)] [] h = some (.inl (some (.inl 1)), h)
  | 0, t, q1, q2 => by
    have hL := q.1.1
    have eS := q.2.2.1
    have S2 := q.2.2.2.2.2.2
    have he := cs_Y_e y
    have e47 := m47 (B := B) (dd := dd + 1) y.1.1 (cs_Y_P y)
    rw [if_neg (by omega), cs_Y_tp q.2.2.2.1 q.2.2.2.2.1 y 100 0 (by omega)] at e47
    rw [e84_32]
    simp (disch := omega) only [e84_0, e84_1, e84_4, e84_5, e84_8, e84_11, e84_14, e84_15, e84_18, e84_19, e84_22, e84_25, e84_28, e84_29, e84_30, e84_31, e84_33, e84_34, e84_37, e84_40, e84_43, e84_44, e84_45, e84_48, e84_49, e84_52, e84_53, e84_56, e84_59, e84_60, e84_61, e84_64, e84_67, e84_68, e84_71, e84_74, e84_77, e84_78, e84_81, e84_82, Option.isSome_some, ab_bvh_some, ab_bvh_thr, ab_ge, ab_lt, ab_le, ab_gt, ab_eq, ab_ne, decide_eq_true_eq, ab_w_id, ab_w0, ab_gd_some, ab_gs_0, ab_gs_1, ab_gl_0, ab_gl_1, ab_bv_some, ab_bu_some, ab_bv_thr, ab_bu_thr, ab_fx_n, ab_fx_i, ab_fx_q, ab_fx_l, ab_sh_si, ab_gr_si, ab_gl_si, cs_n, ↓reduceIte, true_or, or_true, false_or, or_false, and_true, true_and, and_false, false_and, not_true_eq_false, not_false_eq_true, eq_self, Int.reduceEq, Int.reduceLT, Int.reduceLE, Int.reduceAdd, Int.reduceMul, Int.reduceNeg, if_pos, if_neg, hL.1, hL.2, e47]
  | k + 1, t, q1, q2 => by
    have hL := q.1.1
    have eS := q.2.2.1
    have S2 := q.2.2.2.2.2.2
    have ih := m84_loop (dd := dd) q y n1 n2 hJ k (t + 1) (by omega) (by omega)
    rw [e84_32]
    by_cases c : t = n
    · simp (disch := omega) only [e84_0, e84_1, e84_4, e84_5, e84_8, e84_11, e84_14, e84_15, e84_18, e84_19, e84_22, e84_25, e84_28, e84_29, e84_30, e84_31, e84_33, e84_34, e84_37, e84_40, e84_43, e84_44, e84_45, e84_48, e84_49, e84_52, e84_53, e84_56, e84_59, e84_60, e84_61, e84_64, e84_67, e84_68, e84_71, e84_74, e84_77, e84_78, e84_81, e84_82, Option.isSome_some, ab_bvh_some, ab_bvh_thr, ab_ge, ab_lt, ab_le, ab_gt, ab_eq, ab_ne, decide_eq_true_eq, ab_w_id, ab_w0, ab_gd_some, ab_gs_0, ab_gs_1, ab_gl_0, ab_gl_1, ab_bv_some, ab_bu_some, ab_bv_thr, ab_bu_thr, ab_fx_n, ab_fx_i, ab_fx_q, ab_fx_l, ab_sh_si, ab_gr_si, ab_gl_si, cs_n, ↓reduceIte, true_or, or_true, false_or, or_false, and_true, true_and, and_false, false_and, not_true_eq_false, not_false_eq_true, eq_self, Int.reduceEq, Int.reduceLT, Int.reduceLE, Int.reduceAdd, Int.reduceMul, Int.reduceNeg, if_pos, if_neg, hL.1, hL.2, eq_true c]
      exact ih
    · have e33 := m33 (B := B) (dd := dd) q.1 q1 (show t < ab_gi h 1 1 by omega)
      rw [cs_J_ss q q1 (show t < S by omega) (hJ t q1 (by omega) c)] at e33
      simp (disch := omega) only [e84_0, e84_1, e84_4, e84_5, e84_8, e84_11, e84_14, e84_15, e84_18, e84_19, e84_22, e84_25, e84_28, e84_29, e84_30, e84_31, e84_33, e84_34, e84_37, e84_40, e84_43, e84_44, e84_45, e84_48, e84_49, e84_52, e84_53, e84_56, e84_59, e84_60, e84_61, e84_64, e84_67, e84_68, e84_71, e84_74, e84_77, e84_78, e84_81, e84_82, Option.isSome_some, ab_bvh_some, ab_bvh_thr, ab_ge, ab_lt, ab_le, ab_gt, ab_eq, ab_ne, decide_eq_true_eq, ab_w_id, ab_w0, ab_gd_some, ab_gs_0, ab_gs_1, ab_gl_0, ab_gl_1, ab_bv_some, ab_bu_some, ab_bv_thr, ab_bu_thr, ab_fx_n, ab_fx_i, ab_fx_q, ab_fx_l, ab_sh_si, ab_gr_si, ab_gl_si, cs_n, ↓reduceIte, true_or, or_true, false_or, or_false, and_true, true_and, and_false, false_and, not_true_eq_false, not_false_eq_true, eq_self, Int.reduceEq, Int.reduceLT, Int.reduceLE, Int.reduceAdd, Int.reduceMul, Int.reduceNeg, if_pos, if_neg, hL.1, hL.2, eq_false c, e33]
      exact ih
theorem m84g {dd : Nat} {D S : Int} {h : ab_H} (q : cs_Q h D S) (y : cs_Y D h) (nn : cs_N D S h) (g : cs_G h) :
    ab_E B (dd + 5) 84 0 [some (.inr (.inr (some 0))), none, none] [] h = some (.inl (some (.inl 1)), h) := by
  have hL := q.1.1
  obtain ⟨hR, eD, eS, D1, D2, S1, S2⟩ := q
  have q : cs_Q h D S := ⟨hR, eD, eS, D1, D2, S1, S2⟩
  have eB := cs_B_eq q
  rcases nn with n | ⟨n1, n2, n3, n4, n5⟩
  · have e4 := m4 (B := B) (dd := dd + 3) (b := -1) hR (by omega) (by omega)
    rw [if_neg (by omega)] at e4
    rw [← m84_loop (B := B) (dd := dd) (n := -1) q y (by omega) (by omega) (fun s s1 s2 _ => cs_G_J g n s s1 (by omega)) S.toNat 0 (by omega) (by omega)]
    simp (disch := omega) only [e84_0, e84_1, e84_4, e84_5, e84_8, e84_11, e84_14, e84_15, e84_18, e84_19, e84_22, e84_25, e84_28, e84_29, e84_30, e84_31, e84_33, e84_34, e84_37, e84_40, e84_43, e84_44, e84_45, e84_48, e84_49, e84_52, e84_53, e84_56, e84_59, e84_60, e84_61, e84_64, e84_67, e84_68, e84_71, e84_74, e84_77, e84_78, e84_81, e84_82, Option.isSome_some, ab_bvh_some, ab_bvh_thr, ab_ge, ab_lt, ab_le, ab_gt, ab_eq, ab_ne, decide_eq_true_eq, ab_w_id, ab_w0, ab_gd_some, ab_gs_0, ab_gs_1, ab_gl_0, ab_gl_1, ab_bv_some, ab_bu_some, ab_bv_thr, ab_bu_thr, ab_fx_n, ab_fx_i, ab_fx_q, ab_fx_l, ab_sh_si, ab_gr_si, ab_gl_si, cs_n, ↓reduceIte, true_or, or_true, false_or, or_false, and_true, true_and, and_false, false_and, not_true_eq_false, not_false_eq_true, eq_self, Int.reduceEq, Int.reduceLT, Int.reduceLE, Int.reduceAdd, Int.reduceMul, Int.reduceNeg, if_pos, if_neg, hL.1, hL.2, n, e4]
  · obtain ⟨b1, b2, b3, b4, b5, b6⟩ := cs_blk D1 D2 S2 n1 n2
    have e4 := m4 (B := B) (dd := dd + 3) (b := ab_gi h 0 3) hR (by omega) (by omega)
    rw [if_pos ⟨n1, by rw [eB]; exact n2⟩] at e4
    have e6 : ∀ d9, ab_E B d9 6 0 [some (.inr (.inr (some 1))), some (.inl (ab_gi h 0 3))] [] h = some (.inl (some (.inl (ab_gi h 0 3 / (D - 1)))), h) := fun d9 => by rw [m6 hR (by omega) n1 b1, eD]
    rw [← m84_loop (B := B) (dd := dd) (n := ab_gi h 0 3 / (D - 1)) q y (by omega) b3 (fun s s1 s2 hs => cs_G_Js g (Or.inr (by rw [eD]; exact Ne.symm hs)) s1 (by omega)) S.toNat 0 (by omega) (by omega)]
    simp (disch := omega) only [e84_0, e84_1, e84_4, e84_5, e84_8, e84_11, e84_14, e84_15, e84_18, e84_19, e84_22, e84_25, e84_28, e84_29, e84_30, e84_31, e84_33, e84_34, e84_37, e84_40, e84_43, e84_44, e84_45, e84_48, e84_49, e84_52, e84_53, e84_56, e84_59, e84_60, e84_61, e84_64, e84_67, e84_68, e84_71, e84_74, e84_77, e84_78, e84_81, e84_82, Option.isSome_some, ab_bvh_some, ab_bvh_thr, ab_ge, ab_lt, ab_le, ab_gt, ab_eq, ab_ne, decide_eq_true_eq, ab_w_id, ab_w0, ab_gd_some, ab_gs_0, ab_gs_1, ab_gl_0, ab_gl_1, ab_bv_some, ab_bu_some, ab_bv_thr, ab_bu_thr, ab_fx_n, ab_fx_i, ab_fx_q, ab_fx_l, ab_sh_si, ab_gr_si, ab_gl_si, cs_n, ↓reduceIte, true_or, or_true, false_or, or_false, and_true, true_and, and_false, false_and, not_true_eq_false, not_false_eq_true, eq_self, Int.reduceEq, Int.reduceLT, Int.reduceLE, Int.reduceAdd, Int.reduceMul, Int.reduceNeg, if_pos, if_neg, hL.1, hL.2, e4, e6]
theorem m84 {dd : Nat} {D S : Int} {h : ab_H} (i : cs_I D S h) :
    ab_E B (dd + 5) 84 0 [some (.inr (.inr (some 0))), none, none] [] h = some (.inl (some (.inl 1)), h) := m84g i.1 i.2.1 i.2.2.2.1 i.2.2.2.2.2.2
theorem cs_gw_snd {gap : Int} : ∀ (k : Nat) (h : ab_H) (st i : Int), (cs_gw gap h st i k).2 = h.2
  | 0, h, st, i => rfl
  | k + 1, h, st, i => (cs_gw_snd k _ _ _).trans rfl
theorem m82 {dd : Nat} {D S gap : Int} {h : ab_H} (i : cs_I D S h) (g1 : 0 ≤ gap) (g2 : gap ≤ 20) :
    ∃ h' v, ab_E B (dd + 5) 82 0 [some (.inr (.inr (some 0))), some (.inl gap)] [] h = some (.inl (some (.inl v)), h') ∧ (-1 ≤ v ∧ v ≤ gap * (D - 1)) ∧ cs_I D S h' ∧ h'.2 = h.2 ∧ ∀ c x, c ≠ 17 → ab_gi h' c x = ab_gi h c x := by
  have hL := i.1.1.1
  obtain ⟨hR, eD, eS, D1, D2, S1, S2⟩ := i.1
  have hK := i.2.1.1
  have hd : ¬ ab_gi h 1 0 = 0 := by omega
  have e48 := m48 (B := B) (dd := dd + 1) (gap := gap) hK.1 i.2.1.2.2.2 g1 g2
  rw [hK.2.1] at e48
  have hm : 0 ≤ gap * (D - 1) := Int.mul_nonneg g1 (by omega)
  have gi17 : ∀ c x, c ≠ 17 → ab_gi (cs_gw gap h 0 0 D.toNat) c x = ab_gi h c x := fun c x hc => cs_gw_gi hc _ _ _ _ _
  have e2 := cs_gw_snd (gap := gap) D.toNat h 0 0
  have hb := cs_gw_b g1 g2 D.toNat h 0 0 (by omega) (by
    have : gap * (D.toNat : Int) ≤ 20 * 5 := Int.mul_le_mul g2 (by omega) (by omega) (by omega)
    omega) i.2.1.2.2.2
  obtain ⟨x1, x2, x3, x4, x5, x6, x7⟩ := i
  refine ⟨cs_gw gap h 0 0 D.toNat, cs_gap h gap, ?_, ?_, ⟨cs_Q_fr e2 (fun c x h1 h2 => gi17 c x (by omega)) x1, ?_, by rw [gi17 0 2 (by decide)]; exact x3, cs_N_fr (gi17 1 0 (by decide)) (fun x => gi17 4 x (by decide)) (fun k _ => gi17 0 k (by decide)) x4, by rw [gi17 0 6 (by decide), gi17 0 7 (by decide)]; exact x5, by rw [gi17 0 12 (by decide)]; exact x6, cs_G_fr0 x7 (fun c x h1 h2 => gi17 c x (by omega)) (gi17 0 3 (by decide))⟩, e2, gi17⟩
  · simp (disch := omega) only [e82_0, e82_1, e82_4, e82_5, e82_7, e82_10, e82_20, e82_21, e82_24, e82_27, e82_30, e82_40, e82_41, e82_44, e82_45, e82_48, Option.isSome_some, ab_bvh_some, ab_bvh_thr, ab_ge, ab_lt, ab_le, ab_gt, ab_eq, ab_ne, decide_eq_true_eq, ab_w_id, ab_w0, ab_gd_some, ab_gs_0, ab_gs_1, ab_gl_0, ab_gl_1, ab_bv_some, ab_bu_some, ab_bv_thr, ab_bu_thr, ab_fx_n, ab_fx_i, ab_fx_q, ab_fx_l, ab_sh_si, ab_gr_si, ab_gl_si, cs_n, ↓reduceIte, true_or, or_true, false_or, or_false, and_true, true_and, and_false, false_and, not_true_eq_false, not_false_eq_true, eq_self, Int.reduceEq, Int.reduceLT, Int.reduceLE, Int.reduceAdd, Int.reduceMul, Int.reduceNeg, if_pos, if_neg, hL.1, hL.2, eq_false hd, e48]
  · unfold cs_gap
    rw [hK.2.1]
    split
    · omega
    · split
      · omega
      · have : ((D.toNat : Nat) : Int) = D := by omega
        rw [this, Int.zero_add]
        omega
  · obtain ⟨y1, y2, y3, y4⟩ := x2
    have e1 : ab_sh (cs_gw gap h 0 0 D.toNat) = ab_sh h := by unfold ab_sh; rw [e2]
    have e3 : ab_gr (cs_gw gap h 0 0 D.toNat) = ab_gr h := by unfold ab_gr; rw [e2]
    refine ⟨?_, by rw [gi17 7 6 (by decide)]; exact y2, fun d d1 d2 => by rw [gi17 11 d (by decide)]; exact y3 d d1 d2, hb⟩
    unfold cz_K cs_T cs_L at *
    simp only [e1, e3, gi17 _ _ (show (7 : Nat) ≠ 17 by decide), gi17 _ _ (show (8 : Nat) ≠ 17 by decide), gi17 _ _ (show (9 : Nat) ≠ 17 by decide), gi17 _ _ (show (10 : Nat) ≠ 17 by decide)]
    exact y1
/-- the same but for the row of gaps -/
def cs_A (h g : ab_H) : Prop := ∀ c x, c ≠ 17 → ab_gi g c x = ab_gi h c x
theorem cs_A_b {h g : ab_H} (a : cs_A h g) : cs_b g = cs_b h := by
  funext d s
  unfold cs_b
  rw [a 5 d (by decide), a 3 _ (by decide), a 2 _ (by decide)]
theorem cs_A_bc {h g : ab_H} (a : cs_A h g) : cs_bc g = cs_bc h := by
  funext s
  unfold cs_bc
  rw [cs_A_b a, a 1 0 (by decide)]
theorem cs_A_xo {h g : ab_H} (a : cs_A h g) (d s : Int) : cs_xo g d s = cs_xo h d s := by
  have e : (fun o => if o = d then 0 else ab_gi g 2 (o * 8 + s)) = (fun o => if o = d then 0 else ab_gi h 2 (o * 8 + s)) := by
    funext o
    rw [a 2 _ (by decide)]
  unfold cs_xo
  rw [e, a 1 0 (by decide)]
theorem cs_A_sh {h g : ab_H} (a : cs_A h g) (d s : Int) : cs_sh g d s = cs_sh h d s := by
  unfold cs_sh
  rw [cs_A_b a, cs_A_bc a, cs_A_xo a, a 2 _ (by decide)]
theorem cs_A_lost {h g : ab_H} (a : cs_A h g) (x y : Int) : cs_lost g x y = cs_lost h x y := by
  have e1 : cs_lb g = cs_lb h := by
    funext x y s d
    unfold cs_lb
    rw [cs_A_b a]
  have e2 : cs_ld g = cs_ld h := by
    funext x y s d
    unfold cs_ld
    rw [cs_A_b a, a 1 0 (by decide)]
  have e3 : cs_l1 g = cs_l1 h := by
    funext x y s
    unfold cs_l1
    rw [e1, e2, a 1 0 (by decide)]
  unfold cs_lost
  rw [e3, a 1 1 (by decide)]
theorem cs_A_vc {h g : ab_H} (a : cs_A h g) (d s w : Int) : cs_vc g d s w = cs_vc h d s w := by
  unfold cs_vc
  rw [cs_A_b a, cs_A_sh a, a 2 _ (by decide), a 3 _ (by decide), a 1 0 (by decide)]
theorem cs_A_vd {h g : ab_H} (a : cs_A h g) (d w : Int) : cs_vd g d w = cs_vd h d w := by
  unfold cs_vd
  rw [cs_A_b a, a 5 d (by decide), a 1 1 (by decide), a 6 d (by decide), a 8 d (by decide), a 9 d (by decide), a 10 d (by decide), a 7 6 (by decide), a 11 d (by decide), a 12 d (by decide)]
theorem cs_A_vb {h g : ab_H} (a : cs_A h g) (D b w : Int) : cs_vb g D b w = cs_vb h D b w := by
  unfold cs_vb
  rw [cs_A_b a, cs_A_bc a, cs_A_sh a]
theorem cs_A_vn {h g : ab_H} (a : cs_A h g) (w : Int) : cs_vn g w = cs_vn h w := by
  unfold cs_vn
  rw [a 0 3 (by decide), a 0 4 (by decide), a 0 5 (by decide)]
theorem cs_A_vh {h g : ab_H} (a : cs_A h g) (w : Int) : cs_vh g w = cs_vh h w := by
  have eB : cs_B g = cs_B h := by unfold cs_B; rw [a 1 0 (by decide), a 1 1 (by decide)]
  have e5 : (fun i => ab_gi g 5 i) = (fun i => ab_gi h 5 i) := by funext i; rw [a 5 i (by decide)]
  unfold cs_vh
  rw [eB, e5, cs_A_bc a, cs_A_lost a, a 1 0 (by decide), a 1 1 (by decide), a 0 2 (by decide), a 0 8 (by decide), a 0 9 (by decide), a 0 10 (by decide), a 0 11 (by decide), a 7 6 (by decide), a 0 6 (by decide), a 0 7 (by decide), a 0 12 (by decide)]
theorem cs_A_dr {h g : ab_H} (a : cs_A h g) (t : Int) : cs_dr g 11 t = cs_dr h 11 t := by
  have a7 := fun x => a 7 x (by decide)
  have a8 := fun x => a 8 x (by decide)
  have a9 := fun x => a 9 x (by decide)
  have a10 := fun x => a 10 x (by decide)
  have a11 := fun x => a 11 x (by decide)
  have e : cs_d1 g 11 t = cs_d1 h 11 t := by
    funext d
    simp only [cs_d1, cs_ds, a8, a9, a10, a11]
  unfold cs_dr
  rw [e, a7]
theorem m87_w {dd : Nat} {D S s d : Int} {h : ab_H} {l1 : Int64} (d1 : 0 ≤ d) (d2 : d < D) (s1 : 0 ≤ s) (s2 : s < S) : ∀ (k : Nat) (w : Int) (acc : Int64), 0 ≤ w → w + k = 5 →
    ∃ x : Int64, ∀ g, cs_A h g → cs_I D S g → ab_E B (dd + 6) 87 35 [some (.inr (.inr (some 0))), some (.inr (.inl l1)), none, some (.inr (.inl acc)), none, some (.inl s), some (.inl d), some (.inl w)] [] g = ab_E B (dd + 6) 87 65 [some (.inr (.inr (some 0))), some (.inr (.inl l1)), none, some (.inr (.inl x)), none, some (.inl s), some (.inl d), some (.inl 5)] [] g
  | 0, w, acc, w1, w2 => by
    have e : w = 5 := by omega
    subst e
    refine ⟨acc, fun g a i => ?_⟩
    rw [e87_35]
    simp (disch := omega) only [e87_0, e87_1, e87_2, e87_3, e87_5, e87_7, e87_8, e87_11, e87_14, e87_17, e87_18, e87_20, e87_22, e87_23, e87_26, e87_29, e87_32, e87_33, e87_37, e87_38, e87_41, e87_42, e87_45, e87_46, e87_47, e87_49, e87_51, e87_53, e87_56, e87_57, e87_58, e87_59, e87_62, e87_68, e87_71, e87_74, e87_77, e87_78, Option.isSome_some, ab_bvh_some, ab_bvh_thr, ab_ge, ab_lt, ab_le, ab_gt, ab_eq, ab_ne, decide_eq_true_eq, ab_w_id, ab_w0, ab_gd_some, ab_gs_0, ab_gs_1, ab_gl_0, ab_gl_1, ab_bv_some, ab_bu_some, ab_bv_thr, ab_bu_thr, ab_fx_n, ab_fx_i, ab_fx_q, ab_fx_l, ab_sh_si, ab_gr_si, ab_gl_si, cs_n, ↓reduceIte, true_or, or_true, false_or, or_false, and_true, true_and, and_false, false_and, not_true_eq_false, not_false_eq_true, eq_self, Int.reduceEq, Int.reduceLT, Int.reduceLE, Int.reduceAdd, Int.reduceMul, Int.reduceNeg, if_pos, if_neg]
  | k + 1, w, acc, w1, w2 => by
    obtain ⟨x, hx⟩ := m87_w (dd := dd) (D := D) (S := S) (h := h) (l1 := l1) d1 d2 s1 s2 k (w + 1) (acc * 31 + (Int32.ofInt (cs_vc h d s w)).toInt64) (by omega) (by omega)
    refine ⟨x, fun g a i => ?_⟩
    have hL := i.1.1.1
    have e := m75 (B := B) (dd := dd) i d1 d2 s1 s2 w1 (by omega)
    rw [cs_A_vc a] at e
    rw [← hx g a i, e87_35]
    simp (disch := omega) only [e87_0, e87_1, e87_2, e87_3, e87_5, e87_7, e87_8, e87_11, e87_14, e87_17, e87_18, e87_20, e87_22, e87_23, e87_26, e87_29, e87_32, e87_33, e87_37, e87_38, e87_41, e87_42, e87_45, e87_46, e87_47, e87_49, e87_51, e87_53, e87_56, e87_57, e87_58, e87_59, e87_62, e87_68, e87_71, e87_74, e87_77, e87_78, Option.isSome_some, ab_bvh_some, ab_bvh_thr, ab_ge, ab_lt, ab_le, ab_gt, ab_eq, ab_ne, decide_eq_true_eq, ab_w_id, ab_w0, ab_gd_some, ab_gs_0, ab_gs_1, ab_gl_0, ab_gl_1, ab_bv_some, ab_bu_some, ab_bv_thr, ab_bu_thr, ab_fx_n, ab_fx_i, ab_fx_q, ab_fx_l, ab_sh_si, ab_gr_si, ab_gl_si, cs_n, ↓reduceIte, true_or, or_true, false_or, or_false, and_true, true_and, and_false, false_and, not_true_eq_false, not_false_eq_true, eq_self, Int.reduceEq, Int.reduceLT, Int.reduceLE, Int.reduceAdd, Int.reduceMul, Int.reduceNeg, if_pos, if_neg, hL.1, hL.2, e]
theorem m87_d {dd : Nat} {D S s : Int} {h : ab_H} {l1 : Int64} (s1 : 0 ≤ s) (s2 : s < S) : ∀ (k : Nat) (d : Int) (acc : Int64), 0 ≤ d → d + k = D →
    ∃ x : Int64, ∀ g (o7 : Option ab_V), cs_A h g → cs_I D S g → ∃ o7', ab_E B (dd + 6) 87 20 [some (.inr (.inr (some 0))), some (.inr (.inl l1)), none, some (.inr (.inl acc)), none, some (.inl s), some (.inl d), o7] [] g = ab_E B (dd + 6) 87 71 [some (.inr (.inr (some 0))), some (.inr (.inl l1)), none, some (.inr (.inl x)), none, some (.inl s), some (.inl D), o7'] [] g
  | 0, d, acc, d1, d2 => by
    have e : d = D := by omega
    subst e
    refine ⟨acc, fun g o7 a i => ⟨o7, ?_⟩⟩
    have hL := i.1.1.1
    have eD := i.1.2.1
    have D2 := i.1.2.2.2.2.1
    rw [e87_20]
    simp (disch := omega) only [e87_0, e87_1, e87_2, e87_3, e87_5, e87_7, e87_8, e87_11, e87_14, e87_17, e87_18, e87_22, e87_23, e87_26, e87_29, e87_32, e87_33, e87_35, e87_37, e87_38, e87_41, e87_42, e87_45, e87_46, e87_47, e87_49, e87_51, e87_53, e87_56, e87_57, e87_58, e87_59, e87_62, e87_65, e87_68, e87_74, e87_77, e87_78, Option.isSome_some, ab_bvh_some, ab_bvh_thr, ab_ge, ab_lt, ab_le, ab_gt, ab_eq, ab_ne, decide_eq_true_eq, ab_w_id, ab_w0, ab_gd_some, ab_gs_0, ab_gs_1, ab_gl_0, ab_gl_1, ab_bv_some, ab_bu_some, ab_bv_thr, ab_bu_thr, ab_fx_n, ab_fx_i, ab_fx_q, ab_fx_l, ab_sh_si, ab_gr_si, ab_gl_si, cs_n, ↓reduceIte, true_or, or_true, false_or, or_false, and_true, true_and, and_false, false_and, not_true_eq_false, not_false_eq_true, eq_self, Int.reduceEq, Int.reduceLT, Int.reduceLE, Int.reduceAdd, Int.reduceMul, Int.reduceNeg, if_pos, if_neg, hL.1, hL.2]
  | k + 1, d, acc, d1, d2 => by
    obtain ⟨x, hx⟩ := m87_w (B := B) (dd := dd) (D := D) (S := S) (h := h) (l1 := l1) d1 (show d < D by omega) s1 s2 5 0 acc (by omega) (by omega)
    obtain ⟨y, hy⟩ := m87_d (dd := dd) (D := D) (S := S) (h := h) (l1 := l1) s1 s2 k (d + 1) x (by omega) (by omega)
    refine ⟨y, fun g o7 a i => ?_⟩
    obtain ⟨o7', z⟩ := hy g (some (.inl 5)) a i
    refine ⟨o7', ?_⟩
    have hL := i.1.1.1
    have eD := i.1.2.1
    have D2 := i.1.2.2.2.2.1
    rw [← z, e87_20]
    simp (disch := omega) only [e87_0, e87_1, e87_2, e87_3, e87_5, e87_7, e87_8, e87_11, e87_14, e87_17, e87_18, e87_22, e87_23, e87_26, e87_29, e87_32, e87_33, e87_37, e87_38, e87_41, e87_42, e87_45, e87_46, e87_47, e87_49, e87_51, e87_53, e87_56, e87_57, e87_58, e87_59, e87_62, e87_74, e87_77, e87_78, Option.isSome_some, ab_bvh_some, ab_bvh_thr, ab_ge, ab_lt, ab_le, ab_gt, ab_eq, ab_ne, decide_eq_true_eq, ab_w_id, ab_w0, ab_gd_some, ab_gs_0, ab_gs_1, ab_gl_0, ab_gl_1, ab_bv_some, ab_bu_some, ab_bv_thr, ab_bu_thr, ab_fx_n, ab_fx_i, ab_fx_q, ab_fx_l, ab_sh_si, ab_gr_si, ab_gl_si, cs_n, ↓reduceIte, true_or, or_true, false_or, or_false, and_true, true_and, and_false, false_and, not_true_eq_false, not_false_eq_true, eq_self, Int.reduceEq, Int.reduceLT, Int.reduceLE, Int.reduceAdd, Int.reduceMul, Int.reduceNeg, if_pos, if_neg, hL.1, hL.2]
    rw [hx g a i, e87_65, e87_68]
theorem m87_s {dd : Nat} {D S : Int} {h : ab_H} {l1 : Int64} : ∀ (k : Nat) (s : Int) (acc : Int64), 0 ≤ s → s + k = S →
    ∃ x : Int64, ∀ g (o6 o7 : Option ab_V), cs_A h g → cs_I D S g → ab_E B (dd + 6) 87 5 [some (.inr (.inr (some 0))), some (.inr (.inl l1)), none, some (.inr (.inl acc)), none, some (.inl s), o6, o7] [] g = some (.inl (some (.inr (.inl x))), g)
  | 0, s, acc, s1, s2 => by
    refine ⟨acc, fun g o6 o7 a i => ?_⟩
    have hL := i.1.1.1
    have eS := i.1.2.2.1
    have S2 := i.1.2.2.2.2.2.2
    rw [e87_5]
    simp (disch := omega) only [e87_0, e87_1, e87_2, e87_3, e87_7, e87_8, e87_11, e87_14, e87_17, e87_18, e87_20, e87_22, e87_23, e87_26, e87_29, e87_32, e87_33, e87_35, e87_37, e87_38, e87_41, e87_42, e87_45, e87_46, e87_47, e87_49, e87_51, e87_53, e87_56, e87_57, e87_58, e87_59, e87_62, e87_65, e87_68, e87_71, e87_74, e87_77, e87_78, Option.isSome_some, ab_bvh_some, ab_bvh_thr, ab_ge, ab_lt, ab_le, ab_gt, ab_eq, ab_ne, decide_eq_true_eq, ab_w_id, ab_w0, ab_gd_some, ab_gs_0, ab_gs_1, ab_gl_0, ab_gl_1, ab_bv_some, ab_bu_some, ab_bv_thr, ab_bu_thr, ab_fx_n, ab_fx_i, ab_fx_q, ab_fx_l, ab_sh_si, ab_gr_si, ab_gl_si, cs_n, ↓reduceIte, true_or, or_true, false_or, or_false, and_true, true_and, and_false, false_and, not_true_eq_false, not_false_eq_true, eq_self, Int.reduceEq, Int.reduceLT, Int.reduceLE, Int.reduceAdd, Int.reduceMul, Int.reduceNeg, if_pos, if_neg, hL.1, hL.2]
  | k + 1, s, acc, s1, s2 => by
    by_cases hD : 0 ≤ D
    rotate_left
    · exact ⟨acc, fun g o6 o7 a i => absurd i.1.2.2.2.1 (by omega)⟩
    obtain ⟨x, hx⟩ := m87_d (B := B) (dd := dd) (h := h) (l1 := l1) (D := D) (S := S) s1 (show s < S by omega) D.toNat 0 acc (by omega) (by omega)
    obtain ⟨y, hy⟩ := m87_s (dd := dd) (D := D) (S := S) (h := h) (l1 := l1) k (s + 1) x (by omega) (by omega)
    refine ⟨y, fun g o6 o7 a i => ?_⟩
    obtain ⟨o7', z⟩ := hx g o7 a i
    have hL := i.1.1.1
    have eS := i.1.2.2.1
    have S2 := i.1.2.2.2.2.2.2
    rw [← hy g (some (.inl D)) o7' a i, e87_5]
    simp (disch := omega) only [e87_0, e87_1, e87_2, e87_3, e87_7, e87_8, e87_11, e87_14, e87_17, e87_18, e87_22, e87_23, e87_26, e87_29, e87_32, e87_33, e87_35, e87_37, e87_38, e87_41, e87_42, e87_45, e87_46, e87_47, e87_49, e87_51, e87_53, e87_56, e87_57, e87_58, e87_59, e87_62, e87_65, e87_68, e87_77, e87_78, Option.isSome_some, ab_bvh_some, ab_bvh_thr, ab_ge, ab_lt, ab_le, ab_gt, ab_eq, ab_ne, decide_eq_true_eq, ab_w_id, ab_w0, ab_gd_some, ab_gs_0, ab_gs_1, ab_gl_0, ab_gl_1, ab_bv_some, ab_bu_some, ab_bv_thr, ab_bu_thr, ab_fx_n, ab_fx_i, ab_fx_q, ab_fx_l, ab_sh_si, ab_gr_si, ab_gl_si, cs_n, ↓reduceIte, true_or, or_true, false_or, or_false, and_true, true_and, and_false, false_and, not_true_eq_false, not_false_eq_true, eq_self, Int.reduceEq, Int.reduceLT, Int.reduceLE, Int.reduceAdd, Int.reduceMul, Int.reduceNeg, if_pos, if_neg, hL.1, hL.2]
    rw [z, e87_71, e87_74, ab_fx_n]
theorem m87 {dd : Nat} {D S : Int} {h : ab_H} {l1 : Int64} (hS : 0 ≤ S) : ∃ x : Int64, ∀ g, cs_A h g → cs_I D S g → ab_E B (dd + 6) 87 0 [some (.inr (.inr (some 0))), some (.inr (.inl l1)), none, none, none, none, none, none] [] g = some (.inl (some (.inr (.inl x))), g) := by
  obtain ⟨x, hx⟩ := m87_s (B := B) (dd := dd) (D := D) (S := S) (h := h) (l1 := l1) S.toNat 0 l1 (by omega) (by omega)
  refine ⟨x, fun g a i => ?_⟩
  rw [← hx g none none a i]
  simp (disch := omega) only [e87_0, e87_1, e87_2, e87_3, e87_7, e87_8, e87_11, e87_14, e87_17, e87_18, e87_20, e87_22, e87_23, e87_26, e87_29, e87_32, e87_33, e87_35, e87_37, e87_38, e87_41, e87_42, e87_45, e87_46, e87_47, e87_49, e87_51, e87_53, e87_56, e87_57, e87_58, e87_59, e87_62, e87_65, e87_68, e87_71, e87_74, e87_77, e87_78, Option.isSome_some, ab_bvh_some, ab_bvh_thr, ab_ge, ab_lt, ab_le, ab_gt, ab_eq, ab_ne, decide_eq_true_eq, ab_w_id, ab_w0, ab_gd_some, ab_gs_0, ab_gs_1, ab_gl_0, ab_gl_1, ab_bv_some, ab_bu_some, ab_bv_thr, ab_bu_thr, ab_fx_n, ab_fx_i, ab_fx_q, ab_fx_l, ab_sh_si, ab_gr_si, ab_gl_si, cs_n, ↓reduceIte, true_or, or_true, false_or, or_false, and_true, true_and, and_false, false_and, not_true_eq_false, not_false_eq_true, eq_self, Int.reduceEq, Int.reduceLT, Int.reduceLE, Int.reduceAdd, Int.reduceMul, Int.reduceNeg, if_pos, if_neg]
theorem m86_h {dd : Nat} {D S : Int} {h : ab_H} : ∀ (k : Nat) (w : Int) (acc : Int64), 0 ≤ w → w + k = 17 →
    ∃ x : Int64, ∀ g, cs_A h g → cs_I D S g → ab_E B (dd + 7) 86 6 [some (.inr (.inr (some 0))), some (.inr (.inl acc)), none, some (.inl w), none] [] g = ab_E B (dd + 7) 86 31 [some (.inr (.inr (some 0))), some (.inr (.inl x)), none, some (.inl 17), none] [] g
  | 0, w, acc, w1, w2 => by
    have e : w = 17 := by omega
    subst e
    refine ⟨acc, fun g a i => ?_⟩
    rw [e86_6]
    simp (disch := omega) only [e86_0, e86_3, e86_4, e86_5, e86_7, e86_9, e86_12, e86_13, e86_16, e86_17, e86_18, e86_19, e86_22, e86_23, e86_24, e86_25, e86_28, e86_32, e86_33, e86_34, e86_35, e86_38, e86_41, e86_44, e86_45, e86_47, e86_49, e86_51, e86_54, e86_55, e86_58, e86_59, e86_60, e86_61, e86_63, e86_66, e86_67, e86_68, e86_69, e86_72, e86_75, e86_78, e86_81, e86_82, e86_83, e86_86, e86_87, e86_88, e86_89, e86_90, e86_91, e86_94, e86_97, e86_100, e86_101, e86_103, e86_105, e86_106, e86_109, e86_110, e86_113, e86_114, e86_115, e86_116, e86_118, e86_121, e86_122, e86_123, e86_124, e86_127, e86_130, e86_133, e86_136, e86_137, e86_138, e86_139, e86_140, e86_143, e86_144, e86_147, e86_148, e86_149, e86_150, e86_153, e86_154, e86_155, e86_156, e86_159, e86_162, e86_163, e86_164, e86_165, e86_167, e86_170, e86_171, e86_174, e86_175, e86_176, e86_177, e86_180, e86_181, e86_182, e86_183, e86_186, e86_189, e86_190, e86_193, e86_194, e86_195, e86_198, e86_201, e86_202, e86_205, e86_206, e86_207, e86_208, Option.isSome_some, ab_bvh_some, ab_bvh_thr, ab_ge, ab_lt, ab_le, ab_gt, ab_eq, ab_ne, decide_eq_true_eq, ab_w_id, ab_w0, ab_gd_some, ab_gs_0, ab_gs_1, ab_gl_0, ab_gl_1, ab_bv_some, ab_bu_some, ab_bv_thr, ab_bu_thr, ab_fx_n, ab_fx_i, ab_fx_q, ab_fx_l, ab_sh_si, ab_gr_si, ab_gl_si, cs_n, ↓reduceIte, true_or, or_true, false_or, or_false, and_true, true_and, and_false, false_and, not_true_eq_false, not_false_eq_true, eq_self, Int.reduceEq, Int.reduceLT, Int.reduceLE, Int.reduceAdd, Int.reduceMul, Int.reduceNeg, if_pos, if_neg]
  | k + 1, w, acc, w1, w2 => by
    obtain ⟨x, hx⟩ := m86_h (dd := dd) (D := D) (S := S) (h := h) k (w + 1) (acc * 31 + (Int32.ofInt (cs_vh h w)).toInt64) (by omega) (by omega)
    refine ⟨x, fun g a i => ?_⟩
    have hL := i.1.1.1
    have e := m79 (B := B) (dd := dd + 1) i w1 (show w ≤ 16 by omega)
    rw [cs_A_vh a] at e
    rw [← hx g a i, e86_6]
    simp (disch := omega) only [e86_0, e86_3, e86_4, e86_5, e86_7, e86_9, e86_12, e86_13, e86_16, e86_17, e86_18, e86_19, e86_22, e86_23, e86_24, e86_25, e86_28, e86_32, e86_33, e86_34, e86_35, e86_38, e86_41, e86_44, e86_45, e86_47, e86_49, e86_51, e86_54, e86_55, e86_58, e86_59, e86_60, e86_61, e86_63, e86_66, e86_67, e86_68, e86_69, e86_72, e86_75, e86_78, e86_81, e86_82, e86_83, e86_86, e86_87, e86_88, e86_89, e86_90, e86_91, e86_94, e86_97, e86_100, e86_101, e86_103, e86_105, e86_106, e86_109, e86_110, e86_113, e86_114, e86_115, e86_116, e86_118, e86_121, e86_122, e86_123, e86_124, e86_127, e86_130, e86_133, e86_136, e86_137, e86_138, e86_139, e86_140, e86_143, e86_144, e86_147, e86_148, e86_149, e86_150, e86_153, e86_154, e86_155, e86_156, e86_159, e86_162, e86_163, e86_164, e86_165, e86_167, e86_170, e86_171, e86_174, e86_175, e86_176, e86_177, e86_180, e86_181, e86_182, e86_183, e86_186, e86_189, e86_190, e86_193, e86_194, e86_195, e86_198, e86_201, e86_202, e86_205, e86_206, e86_207, e86_208, Option.isSome_some, ab_bvh_some, ab_bvh_thr, ab_ge, ab_lt, ab_le, ab_gt, ab_eq, ab_ne, decide_eq_true_eq, ab_w_id, ab_w0, ab_gd_some, ab_gs_0, ab_gs_1, ab_gl_0, ab_gl_1, ab_bv_some, ab_bu_some, ab_bv_thr, ab_bu_thr, ab_fx_n, ab_fx_i, ab_fx_q, ab_fx_l, ab_sh_si, ab_gr_si, ab_gl_si, cs_n, ↓reduceIte, true_or, or_true, false_or, or_false, and_true, true_and, and_false, false_and, not_true_eq_false, not_false_eq_true, eq_self, Int.reduceEq, Int.reduceLT, Int.reduceLE, Int.reduceAdd, Int.reduceMul, Int.reduceNeg, if_pos, if_neg, hL.1, hL.2, e]
theorem m86_dw {dd : Nat} {D S d : Int} {h : ab_H} (d1 : 0 ≤ d) (d2 : d < D) : ∀ (k : Nat) (w : Int) (acc : Int64), 0 ≤ w → w + k = 8 →
    ∃ x : Int64, ∀ g, cs_A h g → cs_I D S g → ab_E B (dd + 7) 86 47 [some (.inr (.inr (some 0))), some (.inr (.inl acc)), none, some (.inl d), some (.inl w)] [] g = ab_E B (dd + 7) 86 75 [some (.inr (.inr (some 0))), some (.inr (.inl x)), none, some (.inl d), some (.inl 8)] [] g
  | 0, w, acc, w1, w2 => by
    have e : w = 8 := by omega
    subst e
    refine ⟨acc, fun g a i => ?_⟩
    rw [e86_47]
    simp (disch := omega) only [e86_0, e86_3, e86_4, e86_5, e86_6, e86_7, e86_9, e86_12, e86_13, e86_16, e86_17, e86_18, e86_19, e86_22, e86_23, e86_24, e86_25, e86_28, e86_31, e86_32, e86_33, e86_34, e86_35, e86_38, e86_41, e86_44, e86_45, e86_49, e86_51, e86_54, e86_55, e86_58, e86_59, e86_60, e86_61, e86_63, e86_66, e86_67, e86_68, e86_69, e86_72, e86_78, e86_81, e86_82, e86_83, e86_86, e86_87, e86_88, e86_89, e86_90, e86_91, e86_94, e86_97, e86_100, e86_101, e86_103, e86_105, e86_106, e86_109, e86_110, e86_113, e86_114, e86_115, e86_116, e86_118, e86_121, e86_122, e86_123, e86_124, e86_127, e86_130, e86_133, e86_136, e86_137, e86_138, e86_139, e86_140, e86_143, e86_144, e86_147, e86_148, e86_149, e86_150, e86_153, e86_154, e86_155, e86_156, e86_159, e86_162, e86_163, e86_164, e86_165, e86_167, e86_170, e86_171, e86_174, e86_175, e86_176, e86_177, e86_180, e86_181, e86_182, e86_183, e86_186, e86_189, e86_190, e86_193, e86_194, e86_195, e86_198, e86_201, e86_202, e86_205, e86_206, e86_207, e86_208, Option.isSome_some, ab_bvh_some, ab_bvh_thr, ab_ge, ab_lt, ab_le, ab_gt, ab_eq, ab_ne, decide_eq_true_eq, ab_w_id, ab_w0, ab_gd_some, ab_gs_0, ab_gs_1, ab_gl_0, ab_gl_1, ab_bv_some, ab_bu_some, ab_bv_thr, ab_bu_thr, ab_fx_n, ab_fx_i, ab_fx_q, ab_fx_l, ab_sh_si, ab_gr_si, ab_gl_si, cs_n, ↓reduceIte, true_or, or_true, false_or, or_false, and_true, true_and, and_false, false_and, not_true_eq_false, not_false_eq_true, eq_self, Int.reduceEq, Int.reduceLT, Int.reduceLE, Int.reduceAdd, Int.reduceMul, Int.reduceNeg, if_pos, if_neg]
  | k + 1, w, acc, w1, w2 => by
    obtain ⟨x, hx⟩ := m86_dw (dd := dd) (D := D) (S := S) (h := h) d1 d2 k (w + 1) (acc * 31 + (Int32.ofInt (cs_vd h d w)).toInt64) (by omega) (by omega)
    refine ⟨x, fun g a i => ?_⟩
    have hL := i.1.1.1
    have e := m76 (B := B) (dd := dd + 1) i d1 d2 w1 (show w ≤ 7 by omega)
    rw [cs_A_vd a] at e
    rw [← hx g a i, e86_47]
    simp (disch := omega) only [e86_0, e86_3, e86_4, e86_5, e86_6, e86_7, e86_9, e86_12, e86_13, e86_16, e86_17, e86_18, e86_19, e86_22, e86_23, e86_24, e86_25, e86_28, e86_31, e86_32, e86_33, e86_34, e86_35, e86_38, e86_41, e86_44, e86_45, e86_49, e86_51, e86_54, e86_55, e86_58, e86_59, e86_60, e86_61, e86_63, e86_66, e86_67, e86_68, e86_69, e86_72, e86_78, e86_81, e86_82, e86_83, e86_86, e86_87, e86_88, e86_89, e86_90, e86_91, e86_94, e86_97, e86_100, e86_101, e86_103, e86_105, e86_106, e86_109, e86_110, e86_113, e86_114, e86_115, e86_116, e86_118, e86_121, e86_122, e86_123, e86_124, e86_127, e86_130, e86_133, e86_136, e86_137, e86_138, e86_139, e86_140, e86_143, e86_144, e86_147, e86_148, e86_149, e86_150, e86_153, e86_154, e86_155, e86_156, e86_159, e86_162, e86_163, e86_164, e86_165, e86_167, e86_170, e86_171, e86_174, e86_175, e86_176, e86_177, e86_180, e86_181, e86_182, e86_183, e86_186, e86_189, e86_190, e86_193, e86_194, e86_195, e86_198, e86_201, e86_202, e86_205, e86_206, e86_207, e86_208, Option.isSome_some, ab_bvh_some, ab_bvh_thr, ab_ge, ab_lt, ab_le, ab_gt, ab_eq, ab_ne, decide_eq_true_eq, ab_w_id, ab_w0, ab_gd_some, ab_gs_0, ab_gs_1, ab_gl_0, ab_gl_1, ab_bv_some, ab_bu_some, ab_bv_thr, ab_bu_thr, ab_fx_n, ab_fx_i, ab_fx_q, ab_fx_l, ab_sh_si, ab_gr_si, ab_gl_si, cs_n, ↓reduceIte, true_or, or_true, false_or, or_false, and_true, true_and, and_false, false_and, not_true_eq_false, not_false_eq_true, eq_self, Int.reduceEq, Int.reduceLT, Int.reduceLE, Int.reduceAdd, Int.reduceMul, Int.reduceNeg, if_pos, if_neg, hL.1, hL.2, e]
theorem m86_d {dd : Nat} {D S : Int} {h : ab_H} : ∀ (k : Nat) (d : Int) (acc : Int64), 0 ≤ d → d + k = D →
    ∃ x : Int64, ∀ g (o4 : Option ab_V), cs_A h g → cs_I D S g → ∃ o4', ab_E B (dd + 7) 86 33 [some (.inr (.inr (some 0))), some (.inr (.inl acc)), none, some (.inl d), o4] [] g = ab_E B (dd + 7) 86 81 [some (.inr (.inr (some 0))), some (.inr (.inl x)), none, some (.inl D), o4'] [] g
  | 0, d, acc, d1, d2 => by
    have e : d = D := by omega
    subst e
    refine ⟨acc, fun g o4 a i => ⟨o4, ?_⟩⟩
    have hL := i.1.1.1
    have eD := i.1.2.1
    have D2 := i.1.2.2.2.2.1
    rw [e86_33]
    simp (disch := omega) only [e86_0, e86_3, e86_4, e86_5, e86_6, e86_7, e86_9, e86_12, e86_13, e86_16, e86_17, e86_18, e86_19, e86_22, e86_23, e86_24, e86_25, e86_28, e86_31, e86_32, e86_34, e86_35, e86_38, e86_41, e86_44, e86_45, e86_47, e86_49, e86_51, e86_54, e86_55, e86_58, e86_59, e86_60, e86_61, e86_63, e86_66, e86_67, e86_68, e86_69, e86_72, e86_75, e86_78, e86_82, e86_83, e86_86, e86_87, e86_88, e86_89, e86_90, e86_91, e86_94, e86_97, e86_100, e86_101, e86_103, e86_105, e86_106, e86_109, e86_110, e86_113, e86_114, e86_115, e86_116, e86_118, e86_121, e86_122, e86_123, e86_124, e86_127, e86_130, e86_133, e86_136, e86_137, e86_138, e86_139, e86_140, e86_143, e86_144, e86_147, e86_148, e86_149, e86_150, e86_153, e86_154, e86_155, e86_156, e86_159, e86_162, e86_163, e86_164, e86_165, e86_167, e86_170, e86_171, e86_174, e86_175, e86_176, e86_177, e86_180, e86_181, e86_182, e86_183, e86_186, e86_189, e86_190, e86_193, e86_194, e86_195, e86_198, e86_201, e86_202, e86_205, e86_206, e86_207, e86_208, Option.isSome_some, ab_bvh_some, ab_bvh_thr, ab_ge, ab_lt, ab_le, ab_gt, ab_eq, ab_ne, decide_eq_true_eq, ab_w_id, ab_w0, ab_gd_some, ab_gs_0, ab_gs_1, ab_gl_0, ab_gl_1, ab_bv_some, ab_bu_some, ab_bv_thr, ab_bu_thr, ab_fx_n, ab_fx_i, ab_fx_q, ab_fx_l, ab_sh_si, ab_gr_si, ab_gl_si, cs_n, ↓reduceIte, true_or, or_true, false_or, or_false, and_true, true_and, and_false, false_and, not_true_eq_false, not_false_eq_true, eq_self, Int.reduceEq, Int.reduceLT, Int.reduceLE, Int.reduceAdd, Int.reduceMul, Int.reduceNeg, if_pos, if_neg, hL.1, hL.2]
  | k + 1, d, acc, d1, d2 => by
    obtain ⟨x, hx⟩ := m86_dw (B := B) (dd := dd) (D := D) (S := S) (h := h) d1 (show d < D by omega) 8 0 acc (by omega) (by omega)
    obtain ⟨y, hy⟩ := m86_d (dd := dd) (D := D) (S := S) (h := h) k (d + 1) x (by omega) (by omega)
    refine ⟨y, fun g o4 a i => ?_⟩
    obtain ⟨o4', z⟩ := hy g (some (.inl 8)) a i
    refine ⟨o4', ?_⟩
    have hL := i.1.1.1
    have eD := i.1.2.1
    have D2 := i.1.2.2.2.2.1
    rw [← z, e86_33]
    simp (disch := omega) only [e86_0, e86_3, e86_4, e86_5, e86_6, e86_7, e86_9, e86_12, e86_13, e86_16, e86_17, e86_18, e86_19, e86_22, e86_23, e86_24, e86_25, e86_28, e86_31, e86_32, e86_34, e86_35, e86_38, e86_41, e86_44, e86_45, e86_49, e86_51, e86_54, e86_55, e86_58, e86_59, e86_60, e86_61, e86_63, e86_66, e86_67, e86_68, e86_69, e86_72, e86_82, e86_83, e86_86, e86_87, e86_88, e86_89, e86_90, e86_91, e86_94, e86_97, e86_100, e86_101, e86_103, e86_105, e86_106, e86_109, e86_110, e86_113, e86_114, e86_115, e86_116, e86_118, e86_121, e86_122, e86_123, e86_124, e86_127, e86_130, e86_133, e86_136, e86_137, e86_138, e86_139, e86_140, e86_143, e86_144, e86_147, e86_148, e86_149, e86_150, e86_153, e86_154, e86_155, e86_156, e86_159, e86_162, e86_163, e86_164, e86_165, e86_167, e86_170, e86_171, e86_174, e86_175, e86_176, e86_177, e86_180, e86_181, e86_182, e86_183, e86_186, e86_189, e86_190, e86_193, e86_194, e86_195, e86_198, e86_201, e86_202, e86_205, e86_206, e86_207, e86_208, Option.isSome_some, ab_bvh_some, ab_bvh_thr, ab_ge, ab_lt, ab_le, ab_gt, ab_eq, ab_ne, decide_eq_true_eq, ab_w_id, ab_w0, ab_gd_some, ab_gs_0, ab_gs_1, ab_gl_0, ab_gl_1, ab_bv_some, ab_bu_some, ab_bv_thr, ab_bu_thr, ab_fx_n, ab_fx_i, ab_fx_q, ab_fx_l, ab_sh_si, ab_gr_si, ab_gl_si, cs_n, ↓reduceIte, true_or, or_true, false_or, or_false, and_true, true_and, and_false, false_and, not_true_eq_false, not_false_eq_true, eq_self, Int.reduceEq, Int.reduceLT, Int.reduceLE, Int.reduceAdd, Int.reduceMul, Int.reduceNeg, if_pos, if_neg, hL.1, hL.2]
    rw [hx g a i, e86_75, e86_78, ab_fx_n]
theorem m86_bw {dd : Nat} {D S b : Int} {h : ab_H} (b1 : 0 ≤ b) (b2 : b < (D - 1) * S) : ∀ (k : Nat) (w : Int) (acc : Int64), 0 ≤ w → w + k = 4 →
    ∃ x : Int64, ∀ g, cs_A h g → cs_I D S g → ab_E B (dd + 7) 86 103 [some (.inr (.inr (some 0))), some (.inr (.inl acc)), none, some (.inl b), some (.inl w)] [] g = ab_E B (dd + 7) 86 130 [some (.inr (.inr (some 0))), some (.inr (.inl x)), none, some (.inl b), some (.inl 4)] [] g
  | 0, w, acc, w1, w2 => by
    have e : w = 4 := by omega
    subst e
    refine ⟨acc, fun g a i => ?_⟩
    rw [e86_103]
    simp (disch := omega) only [e86_0, e86_3, e86_4, e86_5, e86_6, e86_7, e86_9, e86_12, e86_13, e86_16, e86_17, e86_18, e86_19, e86_22, e86_23, e86_24, e86_25, e86_28, e86_31, e86_32, e86_33, e86_34, e86_35, e86_38, e86_41, e86_44, e86_45, e86_47, e86_49, e86_51, e86_54, e86_55, e86_58, e86_59, e86_60, e86_61, e86_63, e86_66, e86_67, e86_68, e86_69, e86_72, e86_75, e86_78, e86_81, e86_82, e86_83, e86_86, e86_87, e86_88, e86_89, e86_90, e86_91, e86_94, e86_97, e86_100, e86_101, e86_105, e86_106, e86_109, e86_110, e86_113, e86_114, e86_115, e86_116, e86_118, e86_121, e86_122, e86_123, e86_124, e86_127, e86_133, e86_136, e86_137, e86_138, e86_139, e86_140, e86_143, e86_144, e86_147, e86_148, e86_149, e86_150, e86_153, e86_154, e86_155, e86_156, e86_159, e86_162, e86_163, e86_164, e86_165, e86_167, e86_170, e86_171, e86_174, e86_175, e86_176, e86_177, e86_180, e86_181, e86_182, e86_183, e86_186, e86_189, e86_190, e86_193, e86_194, e86_195, e86_198, e86_201, e86_202, e86_205, e86_206, e86_207, e86_208, Option.isSome_some, ab_bvh_some, ab_bvh_thr, ab_ge, ab_lt, ab_le, ab_gt, ab_eq, ab_ne, decide_eq_true_eq, ab_w_id, ab_w0, ab_gd_some, ab_gs_0, ab_gs_1, ab_gl_0, ab_gl_1, ab_bv_some, ab_bu_some, ab_bv_thr, ab_bu_thr, ab_fx_n, ab_fx_i, ab_fx_q, ab_fx_l, ab_sh_si, ab_gr_si, ab_gl_si, cs_n, ↓reduceIte, true_or, or_true, false_or, or_false, and_true, true_and, and_false, false_and, not_true_eq_false, not_false_eq_true, eq_self, Int.reduceEq, Int.reduceLT, Int.reduceLE, Int.reduceAdd, Int.reduceMul, Int.reduceNeg, if_pos, if_neg]
  | k + 1, w, acc, w1, w2 => by
    obtain ⟨x, hx⟩ := m86_bw (dd := dd) (D := D) (S := S) (h := h) b1 b2 k (w + 1) (acc * 31 + (Int32.ofInt (cs_vb h D b w)).toInt64) (by omega) (by omega)
    refine ⟨x, fun g a i => ?_⟩
    have hL := i.1.1.1
    have e := m77 (B := B) (dd := dd + 1) i b1 b2 w1 (show w ≤ 3 by omega)
    rw [cs_A_vb a] at e
    rw [← hx g a i, e86_103]
    simp (disch := omega) only [e86_0, e86_3, e86_4, e86_5, e86_6, e86_7, e86_9, e86_12, e86_13, e86_16, e86_17, e86_18, e86_19, e86_22, e86_23, e86_24, e86_25, e86_28, e86_31, e86_32, e86_33, e86_34, e86_35, e86_38, e86_41, e86_44, e86_45, e86_47, e86_49, e86_51, e86_54, e86_55, e86_58, e86_59, e86_60, e86_61, e86_63, e86_66, e86_67, e86_68, e86_69, e86_72, e86_75, e86_78, e86_81, e86_82, e86_83, e86_86, e86_87, e86_88, e86_89, e86_90, e86_91, e86_94, e86_97, e86_100, e86_101, e86_105, e86_106, e86_109, e86_110, e86_113, e86_114, e86_115, e86_116, e86_118, e86_121, e86_122, e86_123, e86_124, e86_127, e86_133, e86_136, e86_137, e86_138, e86_139, e86_140, e86_143, e86_144, e86_147, e86_148, e86_149, e86_150, e86_153, e86_154, e86_155, e86_156, e86_159, e86_162, e86_163, e86_164, e86_165, e86_167, e86_170, e86_171, e86_174, e86_175, e86_176, e86_177, e86_180, e86_181, e86_182, e86_183, e86_186, e86_189, e86_190, e86_193, e86_194, e86_195, e86_198, e86_201, e86_202, e86_205, e86_206, e86_207, e86_208, Option.isSome_some, ab_bvh_some, ab_bvh_thr, ab_ge, ab_lt, ab_le, ab_gt, ab_eq, ab_ne, decide_eq_true_eq, ab_w_id, ab_w0, ab_gd_some, ab_gs_0, ab_gs_1, ab_gl_0, ab_gl_1, ab_bv_some, ab_bu_some, ab_bv_thr, ab_bu_thr, ab_fx_n, ab_fx_i, ab_fx_q, ab_fx_l, ab_sh_si, ab_gr_si, ab_gl_si, cs_n, ↓reduceIte, true_or, or_true, false_or, or_false, and_true, true_and, and_false, false_and, not_true_eq_false, not_false_eq_true, eq_self, Int.reduceEq, Int.reduceLT, Int.reduceLE, Int.reduceAdd, Int.reduceMul, Int.reduceNeg, if_pos, if_neg, hL.1, hL.2, e]
theorem m86_b {dd : Nat} {D S : Int} {h : ab_H} : ∀ (k : Nat) (b : Int) (acc : Int64), 0 ≤ b → b + k = (D - 1) * S →
    ∃ x : Int64, ∀ g (o4 : Option ab_V), cs_A h g → cs_I D S g → ∃ o4', ab_E B (dd + 7) 86 89 [some (.inr (.inr (some 0))), some (.inr (.inl acc)), none, some (.inl b), o4] [] g = ab_E B (dd + 7) 86 136 [some (.inr (.inr (some 0))), some (.inr (.inl x)), none, some (.inl ((D - 1) * S)), o4'] [] g
  | 0, b, acc, b1, b2 => by
    have e : b = (D - 1) * S := by omega
    refine ⟨acc, fun g o4 a i => ⟨o4, ?_⟩⟩
    have hL := i.1.1.1
    have eB := cs_B_eq i.1
    have hB := cs_BS i.1.2.2.2.1 i.1.2.2.2.2.1 i.1.2.2.2.2.2.1 i.1.2.2.2.2.2.2
    rw [← e] at eB hB ⊢
    rw [e86_89]
    simp (disch := omega) only [e86_0, e86_3, e86_4, e86_5, e86_6, e86_7, e86_9, e86_12, e86_13, e86_16, e86_17, e86_18, e86_19, e86_22, e86_23, e86_24, e86_25, e86_28, e86_31, e86_32, e86_33, e86_34, e86_35, e86_38, e86_41, e86_44, e86_45, e86_47, e86_49, e86_51, e86_54, e86_55, e86_58, e86_59, e86_60, e86_61, e86_63, e86_66, e86_67, e86_68, e86_69, e86_72, e86_75, e86_78, e86_81, e86_82, e86_83, e86_86, e86_87, e86_88, e86_90, e86_91, e86_94, e86_97, e86_100, e86_101, e86_103, e86_105, e86_106, e86_109, e86_110, e86_113, e86_114, e86_115, e86_116, e86_118, e86_121, e86_122, e86_123, e86_124, e86_127, e86_130, e86_133, e86_137, e86_138, e86_139, e86_140, e86_143, e86_144, e86_147, e86_148, e86_149, e86_150, e86_153, e86_154, e86_155, e86_156, e86_159, e86_162, e86_163, e86_164, e86_165, e86_167, e86_170, e86_171, e86_174, e86_175, e86_176, e86_177, e86_180, e86_181, e86_182, e86_183, e86_186, e86_189, e86_190, e86_193, e86_194, e86_195, e86_198, e86_201, e86_202, e86_205, e86_206, e86_207, e86_208, Option.isSome_some, ab_bvh_some, ab_bvh_thr, ab_ge, ab_lt, ab_le, ab_gt, ab_eq, ab_ne, decide_eq_true_eq, ab_w_id, ab_w0, ab_gd_some, ab_gs_0, ab_gs_1, ab_gl_0, ab_gl_1, ab_bv_some, ab_bu_some, ab_bv_thr, ab_bu_thr, ab_fx_n, ab_fx_i, ab_fx_q, ab_fx_l, ab_sh_si, ab_gr_si, ab_gl_si, cs_n, ↓reduceIte, true_or, or_true, false_or, or_false, and_true, true_and, and_false, false_and, not_true_eq_false, not_false_eq_true, eq_self, Int.reduceEq, Int.reduceLT, Int.reduceLE, Int.reduceAdd, Int.reduceMul, Int.reduceNeg, if_pos, if_neg, hL.1, hL.2, m5 i.1.1, eB]
  | k + 1, b, acc, b1, b2 => by
    obtain ⟨x, hx⟩ := m86_bw (B := B) (dd := dd) (D := D) (S := S) (h := h) b1 (show b < (D - 1) * S by omega) 4 0 acc (by omega) (by omega)
    obtain ⟨y, hy⟩ := m86_b (dd := dd) (D := D) (S := S) (h := h) k (b + 1) x (by omega) (by omega)
    refine ⟨y, fun g o4 a i => ?_⟩
    obtain ⟨o4', z⟩ := hy g (some (.inl 4)) a i
    refine ⟨o4', ?_⟩
    have hL := i.1.1.1
    have eB := cs_B_eq i.1
    have hB := cs_BS i.1.2.2.2.1 i.1.2.2.2.2.1 i.1.2.2.2.2.2.1 i.1.2.2.2.2.2.2
    rw [← z, e86_89]
    generalize (D - 1) * S = BS at eB hB b2 z hx hy ⊢
    simp (disch := omega) only [e86_0, e86_3, e86_4, e86_5, e86_6, e86_7, e86_9, e86_12, e86_13, e86_16, e86_17, e86_18, e86_19, e86_22, e86_23, e86_24, e86_25, e86_28, e86_31, e86_32, e86_33, e86_34, e86_35, e86_38, e86_41, e86_44, e86_45, e86_47, e86_49, e86_51, e86_54, e86_55, e86_58, e86_59, e86_60, e86_61, e86_63, e86_66, e86_67, e86_68, e86_69, e86_72, e86_75, e86_78, e86_81, e86_82, e86_83, e86_86, e86_87, e86_88, e86_90, e86_91, e86_94, e86_97, e86_100, e86_101, e86_105, e86_106, e86_109, e86_110, e86_113, e86_114, e86_115, e86_116, e86_118, e86_121, e86_122, e86_123, e86_124, e86_127, e86_137, e86_138, e86_139, e86_140, e86_143, e86_144, e86_147, e86_148, e86_149, e86_150, e86_153, e86_154, e86_155, e86_156, e86_159, e86_162, e86_163, e86_164, e86_165, e86_167, e86_170, e86_171, e86_174, e86_175, e86_176, e86_177, e86_180, e86_181, e86_182, e86_183, e86_186, e86_189, e86_190, e86_193, e86_194, e86_195, e86_198, e86_201, e86_202, e86_205, e86_206, e86_207, e86_208, Option.isSome_some, ab_bvh_some, ab_bvh_thr, ab_ge, ab_lt, ab_le, ab_gt, ab_eq, ab_ne, decide_eq_true_eq, ab_w_id, ab_w0, ab_gd_some, ab_gs_0, ab_gs_1, ab_gl_0, ab_gl_1, ab_bv_some, ab_bu_some, ab_bv_thr, ab_bu_thr, ab_fx_n, ab_fx_i, ab_fx_q, ab_fx_l, ab_sh_si, ab_gr_si, ab_gl_si, cs_n, ↓reduceIte, true_or, or_true, false_or, or_false, and_true, true_and, and_false, false_and, not_true_eq_false, not_false_eq_true, eq_self, Int.reduceEq, Int.reduceLT, Int.reduceLE, Int.reduceAdd, Int.reduceMul, Int.reduceNeg, if_pos, if_neg, hL.1, hL.2, m5 i.1.1, eB]
    rw [hx g a i, e86_130, e86_133, ab_fx_n]
theorem m86_n {dd : Nat} {D S : Int} {h : ab_H} : ∀ (k : Nat) (w : Int) (acc : Int64), 0 ≤ w → w + k = 3 →
    ∃ x : Int64, ∀ g (o4 : Option ab_V), cs_A h g → cs_I D S g → ab_E B (dd + 7) 86 138 [some (.inr (.inr (some 0))), some (.inr (.inl acc)), none, some (.inl w), o4] [] g = ab_E B (dd + 7) 86 162 [some (.inr (.inr (some 0))), some (.inr (.inl x)), none, some (.inl 3), o4] [] g
  | 0, w, acc, w1, w2 => by
    have e : w = 3 := by omega
    subst e
    refine ⟨acc, fun g o4 a i => ?_⟩
    rw [e86_138]
    simp (disch := omega) only [e86_0, e86_3, e86_4, e86_5, e86_6, e86_7, e86_9, e86_12, e86_13, e86_16, e86_17, e86_18, e86_19, e86_22, e86_23, e86_24, e86_25, e86_28, e86_31, e86_32, e86_33, e86_34, e86_35, e86_38, e86_41, e86_44, e86_45, e86_47, e86_49, e86_51, e86_54, e86_55, e86_58, e86_59, e86_60, e86_61, e86_63, e86_66, e86_67, e86_68, e86_69, e86_72, e86_75, e86_78, e86_81, e86_82, e86_83, e86_86, e86_87, e86_88, e86_89, e86_90, e86_91, e86_94, e86_97, e86_100, e86_101, e86_103, e86_105, e86_106, e86_109, e86_110, e86_113, e86_114, e86_115, e86_116, e86_118, e86_121, e86_122, e86_123, e86_124, e86_127, e86_130, e86_133, e86_136, e86_137, e86_139, e86_140, e86_143, e86_144, e86_147, e86_148, e86_149, e86_150, e86_153, e86_154, e86_155, e86_156, e86_159, e86_163, e86_164, e86_165, e86_167, e86_170, e86_171, e86_174, e86_175, e86_176, e86_177, e86_180, e86_181, e86_182, e86_183, e86_186, e86_189, e86_190, e86_193, e86_194, e86_195, e86_198, e86_201, e86_202, e86_205, e86_206, e86_207, e86_208, Option.isSome_some, ab_bvh_some, ab_bvh_thr, ab_ge, ab_lt, ab_le, ab_gt, ab_eq, ab_ne, decide_eq_true_eq, ab_w_id, ab_w0, ab_gd_some, ab_gs_0, ab_gs_1, ab_gl_0, ab_gl_1, ab_bv_some, ab_bu_some, ab_bv_thr, ab_bu_thr, ab_fx_n, ab_fx_i, ab_fx_q, ab_fx_l, ab_sh_si, ab_gr_si, ab_gl_si, cs_n, ↓reduceIte, true_or, or_true, false_or, or_false, and_true, true_and, and_false, false_and, not_true_eq_false, not_false_eq_true, eq_self, Int.reduceEq, Int.reduceLT, Int.reduceLE, Int.reduceAdd, Int.reduceMul, Int.reduceNeg, if_pos, if_neg]
  | k + 1, w, acc, w1, w2 => by
    obtain ⟨x, hx⟩ := m86_n (dd := dd) (D := D) (S := S) (h := h) k (w + 1) (acc * 31 + (Int32.ofInt (cs_vn h w)).toInt64) (by omega) (by omega)
    refine ⟨x, fun g o4 a i => ?_⟩
    have hL := i.1.1.1
    have e := m78 (B := B) (dd := dd + 6) hL w1 (show w ≤ 2 by omega)
    rw [cs_A_vn a] at e
    rw [← hx g o4 a i, e86_138]
    simp (disch := omega) only [e86_0, e86_3, e86_4, e86_5, e86_6, e86_7, e86_9, e86_12, e86_13, e86_16, e86_17, e86_18, e86_19, e86_22, e86_23, e86_24, e86_25, e86_28, e86_31, e86_32, e86_33, e86_34, e86_35, e86_38, e86_41, e86_44, e86_45, e86_47, e86_49, e86_51, e86_54, e86_55, e86_58, e86_59, e86_60, e86_61, e86_63, e86_66, e86_67, e86_68, e86_69, e86_72, e86_75, e86_78, e86_81, e86_82, e86_83, e86_86, e86_87, e86_88, e86_89, e86_90, e86_91, e86_94, e86_97, e86_100, e86_101, e86_103, e86_105, e86_106, e86_109, e86_110, e86_113, e86_114, e86_115, e86_116, e86_118, e86_121, e86_122, e86_123, e86_124, e86_127, e86_130, e86_133, e86_136, e86_137, e86_139, e86_140, e86_143, e86_144, e86_147, e86_148, e86_149, e86_150, e86_153, e86_154, e86_155, e86_156, e86_159, e86_163, e86_164, e86_165, e86_167, e86_170, e86_171, e86_174, e86_175, e86_176, e86_177, e86_180, e86_181, e86_182, e86_183, e86_186, e86_189, e86_190, e86_193, e86_194, e86_195, e86_198, e86_201, e86_202, e86_205, e86_206, e86_207, e86_208, Option.isSome_some, ab_bvh_some, ab_bvh_thr, ab_ge, ab_lt, ab_le, ab_gt, ab_eq, ab_ne, decide_eq_true_eq, ab_w_id, ab_w0, ab_gd_some, ab_gs_0, ab_gs_1, ab_gl_0, ab_gl_1, ab_bv_some, ab_bu_some, ab_bv_thr, ab_bu_thr, ab_fx_n, ab_fx_i, ab_fx_q, ab_fx_l, ab_sh_si, ab_gr_si, ab_gl_si, cs_n, ↓reduceIte, true_or, or_true, false_or, or_false, and_true, true_and, and_false, false_and, not_true_eq_false, not_false_eq_true, eq_self, Int.reduceEq, Int.reduceLT, Int.reduceLE, Int.reduceAdd, Int.reduceMul, Int.reduceNeg, if_pos, if_neg, hL.1, hL.2, e]
theorem m86_t {dd : Nat} {D S : Int} {h : ab_H} : ∀ (k : Nat) (w : Int) (acc : Int64), 0 ≤ w → w + k = 10 →
    ∃ x : Int64, ∀ g (o4 : Option ab_V), cs_A h g → cs_I D S g → ab_E B (dd + 7) 86 164 [some (.inr (.inr (some 0))), some (.inr (.inl acc)), none, some (.inl w), o4] [] g = ab_E B (dd + 7) 86 189 [some (.inr (.inr (some 0))), some (.inr (.inl x)), none, some (.inl 10), o4] [] g
  | 0, w, acc, w1, w2 => by
    have e : w = 10 := by omega
    subst e
    refine ⟨acc, fun g o4 a i => ?_⟩
    rw [e86_164]
    simp (disch := omega) only [e86_0, e86_3, e86_4, e86_5, e86_6, e86_7, e86_9, e86_12, e86_13, e86_16, e86_17, e86_18, e86_19, e86_22, e86_23, e86_24, e86_25, e86_28, e86_31, e86_32, e86_33, e86_34, e86_35, e86_38, e86_41, e86_44, e86_45, e86_47, e86_49, e86_51, e86_54, e86_55, e86_58, e86_59, e86_60, e86_61, e86_63, e86_66, e86_67, e86_68, e86_69, e86_72, e86_75, e86_78, e86_81, e86_82, e86_83, e86_86, e86_87, e86_88, e86_89, e86_90, e86_91, e86_94, e86_97, e86_100, e86_101, e86_103, e86_105, e86_106, e86_109, e86_110, e86_113, e86_114, e86_115, e86_116, e86_118, e86_121, e86_122, e86_123, e86_124, e86_127, e86_130, e86_133, e86_136, e86_137, e86_138, e86_139, e86_140, e86_143, e86_144, e86_147, e86_148, e86_149, e86_150, e86_153, e86_154, e86_155, e86_156, e86_159, e86_162, e86_163, e86_165, e86_167, e86_170, e86_171, e86_174, e86_175, e86_176, e86_177, e86_180, e86_181, e86_182, e86_183, e86_186, e86_190, e86_193, e86_194, e86_195, e86_198, e86_201, e86_202, e86_205, e86_206, e86_207, e86_208, Option.isSome_some, ab_bvh_some, ab_bvh_thr, ab_ge, ab_lt, ab_le, ab_gt, ab_eq, ab_ne, decide_eq_true_eq, ab_w_id, ab_w0, ab_gd_some, ab_gs_0, ab_gs_1, ab_gl_0, ab_gl_1, ab_bv_some, ab_bu_some, ab_bv_thr, ab_bu_thr, ab_fx_n, ab_fx_i, ab_fx_q, ab_fx_l, ab_sh_si, ab_gr_si, ab_gl_si, cs_n, ↓reduceIte, true_or, or_true, false_or, or_false, and_true, true_and, and_false, false_and, not_true_eq_false, not_false_eq_true, eq_self, Int.reduceEq, Int.reduceLT, Int.reduceLE, Int.reduceAdd, Int.reduceMul, Int.reduceNeg, if_pos, if_neg]
  | k + 1, w, acc, w1, w2 => by
    obtain ⟨x, hx⟩ := m86_t (dd := dd) (D := D) (S := S) (h := h) k (w + 1) (acc * 31 + (Int32.ofInt (cs_dr h 11 w)).toInt64) (by omega) (by omega)
    refine ⟨x, fun g o4 a i => ?_⟩
    have hL := i.1.1.1
    have e := m81 (B := B) (dd := dd + 1) i w1 (show w ≤ 999 by omega)
    rw [cs_A_dr a] at e
    rw [← hx g o4 a i, e86_164]
    simp (disch := omega) only [e86_0, e86_3, e86_4, e86_5, e86_6, e86_7, e86_9, e86_12, e86_13, e86_16, e86_17, e86_18, e86_19, e86_22, e86_23, e86_24, e86_25, e86_28, e86_31, e86_32, e86_33, e86_34, e86_35, e86_38, e86_41, e86_44, e86_45, e86_47, e86_49, e86_51, e86_54, e86_55, e86_58, e86_59, e86_60, e86_61, e86_63, e86_66, e86_67, e86_68, e86_69, e86_72, e86_75, e86_78, e86_81, e86_82, e86_83, e86_86, e86_87, e86_88, e86_89, e86_90, e86_91, e86_94, e86_97, e86_100, e86_101, e86_103, e86_105, e86_106, e86_109, e86_110, e86_113, e86_114, e86_115, e86_116, e86_118, e86_121, e86_122, e86_123, e86_124, e86_127, e86_130, e86_133, e86_136, e86_137, e86_138, e86_139, e86_140, e86_143, e86_144, e86_147, e86_148, e86_149, e86_150, e86_153, e86_154, e86_155, e86_156, e86_159, e86_162, e86_163, e86_165, e86_167, e86_170, e86_171, e86_174, e86_175, e86_176, e86_177, e86_180, e86_181, e86_182, e86_183, e86_186, e86_190, e86_193, e86_194, e86_195, e86_198, e86_201, e86_202, e86_205, e86_206, e86_207, e86_208, Option.isSome_some, ab_bvh_some, ab_bvh_thr, ab_ge, ab_lt, ab_le, ab_gt, ab_eq, ab_ne, decide_eq_true_eq, ab_w_id, ab_w0, ab_gd_some, ab_gs_0, ab_gs_1, ab_gl_0, ab_gl_1, ab_bv_some, ab_bu_some, ab_bv_thr, ab_bu_thr, ab_fx_n, ab_fx_i, ab_fx_q, ab_fx_l, ab_sh_si, ab_gr_si, ab_gl_si, cs_n, ↓reduceIte, true_or, or_true, false_or, or_false, and_true, true_and, and_false, false_and, not_true_eq_false, not_false_eq_true, eq_self, Int.reduceEq, Int.reduceLT, Int.reduceLE, Int.reduceAdd, Int.reduceMul, Int.reduceNeg, if_pos, if_neg, hL.1, hL.2, e]
/-- the digest of a heap; the row of gaps doesn't count -/
theorem m86 {dd : Nat} {D S : Int} {h : ab_H} (hD : 0 ≤ D) (hS : 0 ≤ S) (hB : 0 ≤ (D - 1) * S) : ∃ x : Int64, ∀ g, cs_A h g → cs_I D S g → ab_E B (dd + 7) 86 0 [some (.inr (.inr (some 0))), none, none, none, none] [] g = some (.inl (some (.inr (.inl x))), g) := by
  obtain ⟨x1, h1⟩ := m86_h (B := B) (dd := dd) (D := D) (S := S) (h := h) 17 0 6661 (by omega) (by omega)
  obtain ⟨x2, h2⟩ := m86_d (B := B) (dd := dd) (D := D) (S := S) (h := h) D.toNat 0 x1 (by omega) (by omega)
  obtain ⟨x3, h3⟩ := m87 (B := B) (dd := dd) (D := D) (S := S) (h := h) (l1 := x2) hS
  obtain ⟨x4, h4⟩ := m86_b (B := B) (dd := dd) (D := D) (S := S) (h := h) ((D - 1) * S).toNat 0 x3 (by omega) (by omega)
  obtain ⟨x5, h5⟩ := m86_n (B := B) (dd := dd) (D := D) (S := S) (h := h) 3 0 x4 (by omega) (by omega)
  obtain ⟨x6, h6⟩ := m86_t (B := B) (dd := dd) (D := D) (S := S) (h := h) 10 0 x5 (by omega) (by omega)
  refine ⟨x6 * 31 + (Int32.ofInt 1).toInt64, fun g a i => ?_⟩
  have hL := i.1.1.1
  obtain ⟨o2, z2⟩ := h2 g none a i
  obtain ⟨o4, z4⟩ := h4 g o2 a i
  have e84 := m84 (B := B) (dd := dd + 1) i
  simp (disch := omega) only [e86_0, e86_3, e86_4, e86_5, Option.isSome_some, ab_bvh_some, ab_bvh_thr, ab_ge, ab_lt, ab_le, ab_gt, ab_eq, ab_ne, decide_eq_true_eq, ab_w_id, ab_w0, ab_gd_some, ab_gs_0, ab_gs_1, ab_gl_0, ab_gl_1, ab_bv_some, ab_bu_some, ab_bv_thr, ab_bu_thr, ab_fx_n, ab_fx_i, ab_fx_q, ab_fx_l, ab_sh_si, ab_gr_si, ab_gl_si, cs_n, ↓reduceIte, true_or, or_true, false_or, or_false, and_true, true_and, and_false, false_and, not_true_eq_false, not_false_eq_true, eq_self, Int.reduceEq, Int.reduceLT, Int.reduceLE, Int.reduceAdd, Int.reduceMul, Int.reduceNeg, if_pos, if_neg]
  rw [h1 g a i]
  simp (disch := omega) only [e86_31, e86_32, Option.isSome_some, ab_bvh_some, ab_bvh_thr, ab_ge, ab_lt, ab_le, ab_gt, ab_eq, ab_ne, decide_eq_true_eq, ab_w_id, ab_w0, ab_gd_some, ab_gs_0, ab_gs_1, ab_gl_0, ab_gl_1, ab_bv_some, ab_bu_some, ab_bv_thr, ab_bu_thr, ab_fx_n, ab_fx_i, ab_fx_q, ab_fx_l, ab_sh_si, ab_gr_si, ab_gl_si, cs_n, ↓reduceIte, true_or, or_true, false_or, or_false, and_true, true_and, and_false, false_and, not_true_eq_false, not_false_eq_true, eq_self, Int.reduceEq, Int.reduceLT, Int.reduceLE, Int.reduceAdd, Int.reduceMul, Int.reduceNeg, if_pos, if_neg]
  rw [z2]
  simp (disch := omega) only [e86_81, e86_82, e86_83, e86_86, e86_87, e86_88, Option.isSome_some, ab_bvh_some, ab_bvh_thr, ab_ge, ab_lt, ab_le, ab_gt, ab_eq, ab_ne, decide_eq_true_eq, ab_w_id, ab_w0, ab_gd_some, ab_gs_0, ab_gs_1, ab_gl_0, ab_gl_1, ab_bv_some, ab_bu_some, ab_bv_thr, ab_bu_thr, ab_fx_n, ab_fx_i, ab_fx_q, ab_fx_l, ab_sh_si, ab_gr_si, ab_gl_si, cs_n, ↓reduceIte, true_or, or_true, false_or, or_false, and_true, true_and, and_false, false_and, not_true_eq_false, not_false_eq_true, eq_self, Int.reduceEq, Int.reduceLT, Int.reduceLE, Int.reduceAdd, Int.reduceMul, Int.reduceNeg, if_pos, if_neg, hL.1, h3 g a i]
  rw [z4]
  simp (disch := omega) only [e86_136, e86_137, Option.isSome_some, ab_bvh_some, ab_bvh_thr, ab_ge, ab_lt, ab_le, ab_gt, ab_eq, ab_ne, decide_eq_true_eq, ab_w_id, ab_w0, ab_gd_some, ab_gs_0, ab_gs_1, ab_gl_0, ab_gl_1, ab_bv_some, ab_bu_some, ab_bv_thr, ab_bu_thr, ab_fx_n, ab_fx_i, ab_fx_q, ab_fx_l, ab_sh_si, ab_gr_si, ab_gl_si, cs_n, ↓reduceIte, true_or, or_true, false_or, or_false, and_true, true_and, and_false, false_and, not_true_eq_false, not_false_eq_true, eq_self, Int.reduceEq, Int.reduceLT, Int.reduceLE, Int.reduceAdd, Int.reduceMul, Int.reduceNeg, if_pos, if_neg]
  rw [h5 g o4 a i]
  simp (disch := omega) only [e86_162, e86_163, Option.isSome_some, ab_bvh_some, ab_bvh_thr, ab_ge, ab_lt, ab_le, ab_gt, ab_eq, ab_ne, decide_eq_true_eq, ab_w_id, ab_w0, ab_gd_some, ab_gs_0, ab_gs_1, ab_gl_0, ab_gl_1, ab_bv_some, ab_bu_some, ab_bv_thr, ab_bu_thr, ab_fx_n, ab_fx_i, ab_fx_q, ab_fx_l, ab_sh_si, ab_gr_si, ab_gl_si, cs_n, ↓reduceIte, true_or, or_true, false_or, or_false, and_true, true_and, and_false, false_and, not_true_eq_false, not_false_eq_true, eq_self, Int.reduceEq, Int.reduceLT, Int.reduceLE, Int.reduceAdd, Int.reduceMul, Int.reduceNeg, if_pos, if_neg]
  rw [h6 g o4 a i]
  simp (disch := omega) only [e86_189, e86_190, e86_193, e86_194, e86_195, e86_198, e86_201, e86_202, e86_205, e86_206, e86_207, e86_208, Option.isSome_some, ab_bvh_some, ab_bvh_thr, ab_ge, ab_lt, ab_le, ab_gt, ab_eq, ab_ne, decide_eq_true_eq, ab_w_id, ab_w0, ab_gd_some, ab_gs_0, ab_gs_1, ab_gl_0, ab_gl_1, ab_bv_some, ab_bu_some, ab_bv_thr, ab_bu_thr, ab_fx_n, ab_fx_i, ab_fx_q, ab_fx_l, ab_sh_si, ab_gr_si, ab_gl_si, cs_n, ↓reduceIte, true_or, or_true, false_or, or_false, and_true, true_and, and_false, false_and, not_true_eq_false, not_false_eq_true, eq_self, Int.reduceEq, Int.reduceLT, Int.reduceLE, Int.reduceAdd, Int.reduceMul, Int.reduceNeg, if_pos, if_neg, hL.1, e84]
end
