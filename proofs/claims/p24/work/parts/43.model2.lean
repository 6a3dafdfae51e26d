set_option linter.all false
/-! THE REFERENCE: what it changes -/
section
variable {B : ab_B}
theorem mm_gc {g g' h : ab_H} {b : Nat} (m : mm g h b) (e : ∀ c x, c ≤ 10 → ab_gi g' c x = ab_gi g c x) : mm g' h b := by
  obtain ⟨m1, m2, m3, m4, m5, m6⟩ := m
  have eK : ck_K g' = ck_K g := ck_K_congr (e 7 0 (by omega)) (e 7 1 (by omega)) (fun c d q => e c d (by omega))
  unfold mm mF mC mN
  rw [e 1 0 (by omega), e 1 1 (by omega), e 0 2 (by omega), e 0 3 (by omega), e 0 4 (by omega), e 0 5 (by omega), e 0 6 (by omega), e 0 7 (by omega), e 0 8 (by omega), e 0 9 (by omega), e 0 10 (by omega), e 0 11 (by omega), e 0 12 (by omega), eK]
  obtain ⟨c1, c2, c3⟩ := m3
  exact ⟨m1, m2, ⟨fun d s d1 d2 s1 s2 => by rw [e 2 _ (by omega), e 3 _ (by omega)]; exact c1 d s d1 d2 s1 s2, fun d d1 d2 => by rw [e 5 _ (by omega), e 6 _ (by omega)]; exact c2 d d1 d2, fun k k1 k2 => by rw [e 4 _ (by omega)]; exact c3 k k1 k2⟩, m4, m5, m6⟩
/-- cells change -/
theorem mm_cells {g g' h h' : ab_H} {b : Nat} (m : mm g h b) (hh2 : h'.2 = h.2) (g0 : ∀ c x, c < 2 ∨ 6 < c → ab_gi g' c x = ab_gi g c x) (h0 : ∀ c x, (c < b ∨ b + 4 + 2 * (ab_gi g 1 0).toNat < c) → 18 ≤ c → ab_gi h' c x = ab_gi h c x) (C : mC g' h' b (ab_gi g 1 0) (ab_gi g 1 1)) (hD : ab_gi g 1 0 ≠ 0) : mm g' h' b := by
  obtain ⟨m1, m2, m3, m4, m5, m6⟩ := m
  have hb : 31 ≤ b := by have := m1.2.2.2.2; omega
  have es : ab_sh h' = ab_sh h := by unfold ab_sh; rw [hh2]
  have er : ab_gr h' = ab_gr h := by unfold ab_gr; rw [hh2]
  have eK : ck_K g' = ck_K g := ck_K_congr (g0 7 0 (by omega)) (g0 7 1 (by omega)) (fun c d q => g0 c d (by omega))
  have eKK : mKK h' = mKK h := mKK_of (fun c x c1 c2 => h0 c x (by omega) (by omega)) (h0 18 19 (by omega) (by omega)) (h0 18 20 (by omega) (by omega))
  have f18 := fun x => h0 18 x (by omega) (by omega)
  unfold mm
  rw [g0 1 0 (by omega), g0 1 1 (by omega), eK, eKK]
  refine ⟨mL_of m1 (fun i x q => by rw [es]; exact q) (fun c x _ _ _ => by rw [er]), ?_, C, m4, ?_, ?_⟩
  · unfold mF
    rw [f18, f18, f18, f18, f18, f18, f18, f18, f18, f18, g0 1 0 (by omega), g0 1 1 (by omega), g0 0 2 (by omega), g0 0 6 (by omega), g0 0 7 (by omega), g0 0 8 (by omega), g0 0 9 (by omega), g0 0 10 (by omega), g0 0 11 (by omega), g0 0 12 (by omega)]
    exact m2
  · unfold mN
    rw [er, es, g0 0 3 (by omega), g0 0 4 (by omega), g0 0 5 (by omega)]
    rcases m5 with q | ⟨c, n1, n2, n3, n4, n5, n6, n7⟩
    · exact Or.inl q
    · exact Or.inr ⟨c, n1, n2, n3, (h0 c 0 (by omega) (by omega)).trans n4, (h0 c 1 (by omega) (by omega)).trans n5, (h0 c 2 (by omega) (by omega)).trans n6, n7⟩
  · unfold mP
    rw [f18, er, eKK]
    exact ⟨m6.1, fun q => mX_of (m6.2 q) (fun i x q => by rw [es]; exact q) (fun c x c1 _ c2 => ⟨by rw [er], h0 c x (by omega) (by omega)⟩)⟩
/-- fields change -/
theorem mm_field {g g' h h' : ab_H} {b : Nat} (m : mm g h b) (hh2 : h'.2 = h.2) (g0 : ∀ c x, c ≠ 0 → ab_gi g' c x = ab_gi g c x) (gN : ∀ x, 3 ≤ x → x ≤ 5 → ab_gi g' 0 x = ab_gi g 0 x) (h0 : ∀ c x, c ≠ 18 → 18 ≤ c → ab_gi h' c x = ab_gi h c x) (h18 : ∀ x, x = 11 ∨ x = 19 ∨ x = 20 → ab_gi h' 18 x = ab_gi h 18 x) (F : mF g' h') : mm g' h' b := by
  obtain ⟨m1, m2, m3, m4, m5, m6⟩ := m
  have hb : 19 ≤ b := by have := m1.2.2.2.2; omega
  have es : ab_sh h' = ab_sh h := by unfold ab_sh; rw [hh2]
  have er : ab_gr h' = ab_gr h := by unfold ab_gr; rw [hh2]
  have eK : ck_K g' = ck_K g := ck_K_congr (g0 7 0 (by omega)) (g0 7 1 (by omega)) (fun c d q => g0 c d (by omega))
  have eKK : mKK h' = mKK h := mKK_of (fun c x c1 c2 => h0 c x (by omega) (by omega)) (h18 19 (by omega)) (h18 20 (by omega))
  unfold mm
  rw [g0 1 0 (by omega), g0 1 1 (by omega), eK, eKK]
  refine ⟨mL_of m1 (fun i x q => by rw [es]; exact q) (fun c x _ _ _ => by rw [er]), F, ?_, m4, ?_, ?_⟩
  · obtain ⟨c1, c2, c3⟩ := m3
    refine ⟨fun d s d1 d2 s1 s2 => ?_, fun d d1 d2 => ?_, fun k k1 k2 => ?_⟩
    · rw [h0 _ _ (by omega) (by omega), h0 _ _ (by omega) (by omega), g0 2 _ (by omega), g0 3 _ (by omega)]; exact c1 d s d1 d2 s1 s2
    · rw [h0 _ _ (by omega) (by omega), h0 _ _ (by omega) (by omega), g0 5 _ (by omega), g0 6 _ (by omega)]; exact c2 d d1 d2
    · rw [h0 _ _ (by omega) (by omega), g0 4 _ (by omega)]; exact c3 k k1 k2
  · unfold mN
    rw [er, es, gN 3 (by omega) (by omega), gN 4 (by omega) (by omega), gN 5 (by omega) (by omega)]
    rcases m5 with q | ⟨c, n1, n2, n3, n4, n5, n6, n7⟩
    · exact Or.inl q
    · exact Or.inr ⟨c, n1, n2, n3, (h0 c 0 (by omega) (by omega)).trans n4, (h0 c 1 (by omega) (by omega)).trans n5, (h0 c 2 (by omega) (by omega)).trans n6, n7⟩
  · unfold mP
    rw [h18 11 (by omega), er, eKK]
    exact ⟨m6.1, fun q => mX_of (m6.2 q) (fun i x q => by rw [es]; exact q) (fun c x c1 _ c2 => ⟨by rw [er], h0 c x (by omega) (by omega)⟩)⟩
theorem mm_v {g h : ab_H} {b : Nat} {d s v : Int} (hR : cs_R g) (m : mm g h b) (h1 : 0 ≤ d) (h2 : d < ab_gi g 1 0) (h3 : 0 ≤ s) (h4 : s < ab_gi g 1 1) : mm (ab_si g 2 (d * 8 + s) v) (ab_si h (b + 1 + d.toNat) s v) b := by
  have hD := hR.2.1
  obtain ⟨c1, c2, c3⟩ := m.2.2.1
  refine mm_cells m rfl (fun c x q => by rw [ab_gi_si, if_neg (by omega)]) (fun c x q _ => by rw [ab_gi_si, if_neg (by omega)]) ⟨fun d' s' d1 d2 s1 s2 => ⟨?_, ?_⟩, fun d' d1 d2 => ⟨?_, ?_⟩, fun k k1 k2 => ?_⟩ (by omega)
  · rw [ab_gi_si, ab_gi_si]
    by_cases z : d' = d ∧ s' = s
    · rw [if_pos ⟨by omega, z.2⟩, if_pos ⟨rfl, by omega⟩]
    · rw [if_neg (by omega), if_neg (by omega)]; exact (c1 d' s' d1 d2 s1 s2).1
  · rw [ab_gi_si, if_neg (by omega), ab_gi_si, if_neg (by omega)]; exact (c1 d' s' d1 d2 s1 s2).2
  · rw [ab_gi_si, if_neg (by omega), ab_gi_si, if_neg (by omega)]; exact (c2 d' d1 d2).1
  · rw [ab_gi_si, if_neg (by omega), ab_gi_si, if_neg (by omega)]; exact (c2 d' d1 d2).2
  · rw [ab_gi_si, if_neg (by omega), ab_gi_si, if_neg (by omega)]; exact c3 k k1 k2
theorem mm_m {g h : ab_H} {b : Nat} {d s v : Int} (hR : cs_R g) (m : mm g h b) (h1 : 0 ≤ d) (h2 : d < ab_gi g 1 0) (h3 : 0 ≤ s) (h4 : s < ab_gi g 1 1) : mm (ab_si g 3 (d * 8 + s) v) (ab_si h (b + 2 + (ab_gi g 1 0).toNat + d.toNat) s v) b := by
  have hD := hR.2.1
  obtain ⟨c1, c2, c3⟩ := m.2.2.1
  refine mm_cells m rfl (fun c x q => by rw [ab_gi_si, if_neg (by omega)]) (fun c x q _ => by rw [ab_gi_si, if_neg (by omega)]) ⟨fun d' s' d1 d2 s1 s2 => ⟨?_, ?_⟩, fun d' d1 d2 => ⟨?_, ?_⟩, fun k k1 k2 => ?_⟩ (by omega)
  · rw [ab_gi_si, if_neg (by omega), ab_gi_si, if_neg (by omega)]; exact (c1 d' s' d1 d2 s1 s2).1
  · rw [ab_gi_si, ab_gi_si]
    by_cases z : d' = d ∧ s' = s
    · rw [if_pos ⟨by omega, z.2⟩, if_pos ⟨rfl, by omega⟩]
    · rw [if_neg (by omega), if_neg (by omega)]; exact (c1 d' s' d1 d2 s1 s2).2
  · rw [ab_gi_si, if_neg (by omega), ab_gi_si, if_neg (by omega)]; exact (c2 d' d1 d2).1
  · rw [ab_gi_si, if_neg (by omega), ab_gi_si, if_neg (by omega)]; exact (c2 d' d1 d2).2
  · rw [ab_gi_si, if_neg (by omega), ab_gi_si, if_neg (by omega)]; exact c3 k k1 k2
theorem mm_fa {g h : ab_H} {b : Nat} {d v : Int} (hR : cs_R g) (m : mm g h b) (h1 : 0 ≤ d) (h2 : d < ab_gi g 1 0) : mm (ab_si g 5 d v) (ab_si h (b + 2 + 2 * (ab_gi g 1 0).toNat) d v) b := by
  have hD := hR.2.1
  obtain ⟨c1, c2, c3⟩ := m.2.2.1
  refine mm_cells m rfl (fun c x q => by rw [ab_gi_si, if_neg (by omega)]) (fun c x q _ => by rw [ab_gi_si, if_neg (by omega)]) ⟨fun d' s' d1 d2 s1 s2 => ⟨?_, ?_⟩, fun d' d1 d2 => ⟨?_, ?_⟩, fun k k1 k2 => ?_⟩ (by omega)
  · rw [ab_gi_si, if_neg (by omega), ab_gi_si, if_neg (by omega)]; exact (c1 d' s' d1 d2 s1 s2).1
  · rw [ab_gi_si, if_neg (by omega), ab_gi_si, if_neg (by omega)]; exact (c1 d' s' d1 d2 s1 s2).2
  · rw [ab_gi_si, ab_gi_si]
    by_cases z : d' = d
    · rw [if_pos ⟨rfl, z⟩, if_pos ⟨rfl, z⟩]
    · rw [if_neg (by omega), if_neg (by omega)]; exact (c2 d' d1 d2).1
  · rw [ab_gi_si, if_neg (by omega), ab_gi_si, if_neg (by omega)]; exact (c2 d' d1 d2).2
  · rw [ab_gi_si, if_neg (by omega), ab_gi_si, if_neg (by omega)]; exact c3 k k1 k2
theorem mm_sw {g h : ab_H} {b : Nat} {d v : Int} (hR : cs_R g) (m : mm g h b) (h1 : 0 ≤ d) (h2 : d < ab_gi g 1 0) : mm (ab_si g 6 d v) (ab_si h (b + 3 + 2 * (ab_gi g 1 0).toNat) d v) b := by
  have hD := hR.2.1
  obtain ⟨c1, c2, c3⟩ := m.2.2.1
  refine mm_cells m rfl (fun c x q => by rw [ab_gi_si, if_neg (by omega)]) (fun c x q _ => by rw [ab_gi_si, if_neg (by omega)]) ⟨fun d' s' d1 d2 s1 s2 => ⟨?_, ?_⟩, fun d' d1 d2 => ⟨?_, ?_⟩, fun k k1 k2 => ?_⟩ (by omega)
  · rw [ab_gi_si, if_neg (by omega), ab_gi_si, if_neg (by omega)]; exact (c1 d' s' d1 d2 s1 s2).1
  · rw [ab_gi_si, if_neg (by omega), ab_gi_si, if_neg (by omega)]; exact (c1 d' s' d1 d2 s1 s2).2
  · rw [ab_gi_si, if_neg (by omega), ab_gi_si, if_neg (by omega)]; exact (c2 d' d1 d2).1
  · rw [ab_gi_si, ab_gi_si]
    by_cases z : d' = d
    · rw [if_pos ⟨rfl, z⟩, if_pos ⟨rfl, z⟩]
    · rw [if_neg (by omega), if_neg (by omega)]; exact (c2 d' d1 d2).2
  · rw [ab_gi_si, if_neg (by omega), ab_gi_si, if_neg (by omega)]; exact c3 k k1 k2
/-- blocks are where they are, once each -/
theorem cs_px_inj {D k k' : Int} (hD : 3 ≤ D) (k1 : 0 ≤ k) (k2 : 0 ≤ k') (e1 : cs_dk D k = cs_dk D k') (e2 : k / (D - 1) = k' / (D - 1)) : k = k' := by
  have m1 := Int.mul_ediv_add_emod k (D - 1)
  have m2 := Int.mul_ediv_add_emod k' (D - 1)
  have p0 : 0 ≤ k % (D - 1) := Int.emod_nonneg _ (by omega)
  have p1 : 0 ≤ k' % (D - 1) := Int.emod_nonneg _ (by omega)
  unfold cs_dk at e1
  rw [e2] at e1 m1
  have e3 : k % (D - 1) = k' % (D - 1) := by
    split at e1 <;> split at e1 <;> omega
  omega
theorem mm_wb {g h : ab_H} {b : Nat} {k v : Int} (hR : cs_R g) (m : mm g h b) (h1 : 0 ≤ k) (h2 : k < cs_B g) : mm (ab_si g 4 (cs_dk (ab_gi g 1 0) k * 8 + k / (ab_gi g 1 0 - 1)) v) (ab_si h (b + 4 + 2 * (ab_gi g 1 0).toNat) k v) b := by
  have hDS := hR.2.1
  obtain ⟨hD, h3, b1, b2, b3, b4, b5, b6⟩ := cs_B_D hR h1 h2
  obtain ⟨c1, c2, c3⟩ := m.2.2.1
  refine mm_cells m rfl (fun c x q => by rw [ab_gi_si, if_neg (by omega)]) (fun c x q _ => by rw [ab_gi_si, if_neg (by omega)]) ⟨fun d' s' d1 d2 s1 s2 => ⟨?_, ?_⟩, fun d' d1 d2 => ⟨?_, ?_⟩, fun k' k1 k2 => ?_⟩ (by omega)
  · rw [ab_gi_si, if_neg (by omega), ab_gi_si, if_neg (by omega)]; exact (c1 d' s' d1 d2 s1 s2).1
  · rw [ab_gi_si, if_neg (by omega), ab_gi_si, if_neg (by omega)]; exact (c1 d' s' d1 d2 s1 s2).2
  · rw [ab_gi_si, if_neg (by omega), ab_gi_si, if_neg (by omega)]; exact (c2 d' d1 d2).1
  · rw [ab_gi_si, if_neg (by omega), ab_gi_si, if_neg (by omega)]; exact (c2 d' d1 d2).2
  · rw [ab_gi_si, ab_gi_si]
    by_cases z : k' = k
    · rw [if_pos ⟨rfl, z⟩, z, if_pos ⟨rfl, rfl⟩]
    · obtain ⟨x1, x2, x3, x4, x5, x6⟩ := cs_blk hD (by omega) (show ab_gi g 1 1 ≤ 8 by omega) k1 k2
      rw [if_neg (fun q => z q.2), if_neg (fun q => z (cs_px_inj hD k1 h1 (by omega) (by omega)))]
      exact c3 k' k1 k2
/-! fields -/
theorem mm_f {g h : ab_H} {b : Nat} {k j v : Int} (m : mm g h b) (hk : (k = 2 ∧ j = 3) ∨ (k = 6 ∧ j = 12) ∨ (k = 7 ∧ j = 13) ∨ (k = 8 ∧ j = 14) ∨ (k = 9 ∧ j = 15) ∨ (k = 10 ∧ j = 16) ∨ (k = 11 ∧ j = 17) ∨ (k = 12 ∧ j = 18)) : mm (ab_si g 0 k v) (ab_si h 18 j v) b := by
  refine mm_field m rfl (fun c x q => by rw [ab_gi_si, if_neg (by omega)]) (fun x x1 x2 => by rw [ab_gi_si, if_neg (by omega)]) (fun c x q _ => by rw [ab_gi_si, if_neg (by omega)]) (fun x q => by rw [ab_gi_si, if_neg (by omega)]) ?_
  obtain ⟨a1, a2, a3, a4, a5, a6, a7, a8, a9, a10⟩ := m.2.1
  rcases hk with ⟨rfl, rfl⟩ | ⟨rfl, rfl⟩ | ⟨rfl, rfl⟩ | ⟨rfl, rfl⟩ | ⟨rfl, rfl⟩ | ⟨rfl, rfl⟩ | ⟨rfl, rfl⟩ | ⟨rfl, rfl⟩ <;> simp [mF, ab_gi_si, a1, a2, a3, a4, a5, a6, a7, a8, a9, a10]
/-! laying and mending -/
theorem n112 {dd : Nat} {d s v : Int} {g h : ab_H} {b : Nat} (hR : cs_R g) (m : mm g h b) (h1 : 0 ≤ d) (h2 : d < ab_gi g 1 0) (h3 : 0 ≤ s) (h4 : s < ab_gi g 1 1) (v1 : 0 ≤ v) (v2 : v ≤ 255) (hf : ab_gi g 5 d = 0) :
    ∃ h', ab_E B dd 112 0 [some (.inr (.inr (.inl (some 18)))), some (.inl d), some (.inl s), some (.inl v)] [] h = some (.inl none, h') ∧ mm (cs_lay g d s v) h' b ∧ mE h h' 0 0 ∧ ab_gi h' 18 0 = ab_gi h 18 0 := by
  have hm := m.1
  have hDS := hR.2.1
  have hrow := hm.2.2.1 d h1 h2
  have e : ab_irem (7 * v + s) 256 = (7 * v + s) % 256 := ab_irem_id (by omega) (by omega) (by omega) (by omega)
  have m1 := mm_v (v := v) hR m h1 h2 h3 h4
  have hR1 : cs_R (ab_si g 2 (d * 8 + s) v) := cs_R_si2 hR v1 v2
  have e0 : ab_gi (ab_si g 2 (d * 8 + s) v) 1 0 = ab_gi g 1 0 := by rw [ab_gi_si, if_neg (by omega)]
  have e1 : ab_gi (ab_si g 2 (d * 8 + s) v) 1 1 = ab_gi g 1 1 := by rw [ab_gi_si, if_neg (by omega)]
  have m2 := mm_m (v := (7 * v + s) % 256) hR1 m1 h1 (by rw [e0]; exact h2) h3 (by rw [e1]; exact h4)
  rw [e0] at m2
  have el : cs_lay g d s v = ab_si (ab_si g 2 (d * 8 + s) v) 3 (d * 8 + s) ((7 * v + s) % 256) := by unfold cs_lay; rw [if_neg (by omega)]
  have hb : 18 < b := by have := hm.2.2.2.2; omega
  rw [el]
  refine ⟨_, ?_, m2, (mE.si (by omega)).trans (mE.si (by omega)), by rw [ab_gi_si, if_neg (by omega), ab_gi_si, if_neg (by omega)]⟩
  simp (disch := omega) only [e112_0, e112_1, e112_4, e112_5, e112_6, e112_7, e112_8, e112_9, e112_10, e112_13, e112_14, e112_15, e112_16, e112_18, e112_19, e112_20, e112_21, e112_22, e112_25, e112_26, e112_27, implies_true, Int.reduceSub, Option.isNone_some, Option.isNone_none, ab_bh_some, ab_bh_thr, ab_gs_3, ab_gl_2, ab_gl_3, ab_gt_some, ab_gc_0, ab_gk_0, Bool.false_eq_true, Bool.true_eq_false, false_implies, Nat.reduceEqDiff, ab_ge, ab_lt, ab_le, ab_gt, ab_eq, ab_ne, decide_eq_true_eq, ab_w_id, ab_w0, ab_gd_some, ab_gs_0, ab_gs_1, ab_gl_0, ab_gl_1, ab_bv_some, ab_bu_some, ab_bv_thr, ab_bu_thr, ab_fx_n, ab_fx_i, ab_fx_q, ab_fx_l, ab_sh_si, ab_gr_si, ab_gl_si, cs_n, ↓reduceIte, true_or, or_true, false_or, or_false, and_true, true_and, and_false, false_and, not_true_eq_false, not_false_eq_true, eq_self, Int.reduceEq, Int.reduceLT, Int.reduceLE, Int.reduceAdd, Int.reduceMul, Int.reduceNeg, if_pos, if_neg, hm.1, hm.2.1, hrow, e]
theorem n116_loop {dd : Nat} {s : Int} {g h : ab_H} {b : Nat} (hR : cs_R g) (m : mm g h b) (h3 : 0 ≤ s) (h4 : s < ab_gi g 1 1) : ∀ (k : Nat) (i : Int), 0 ≤ i → i + k = ab_gi g 1 0 →
    ∃ h', ab_E B (dd + 2) 116 13 [some (.inr (.inr (.inl (some 18)))), some (.inl s), some (.inl i)] [] h = some (.inl (some (.inl (cs_mf g s i k).1)), h') ∧ mm (ab_si (cs_mf g s i k).2 0 10 (ab_gi g 0 10 + (cs_mf g s i k).1)) h' b ∧ mE h h' 0 0 ∧ ab_gi h' 18 0 = ab_gi h 18 0
  | 0, i, q1, q2 => by
    have hm := m.1
    have eD := m.2.1.1
    have hDS := hR.2.1
    refine ⟨h, ?_, mm_gc m (fun c x _ => ?_), mE.rf, rfl⟩
    · rw [e116_13]
      simp (disch := omega) only [e116_0, e116_1, e116_2, e116_5, e116_6, e116_9, e116_10, e116_11, e116_12, e116_14, e116_15, e116_18, e116_21, e116_22, e116_23, e116_24, e116_27, e116_30, e116_31, e116_34, e116_35, e116_36, e116_39, e116_42, e116_43, e116_44, e116_45, e116_46, e116_47, e116_48, e116_51, e116_54, e116_55, e116_56, e116_59, e116_60, e116_61, e116_64, e116_65, e116_66, e116_69, e116_72, e116_73, implies_true, Int.reduceSub, Option.isNone_some, Option.isNone_none, ab_bh_some, ab_bh_thr, ab_gs_3, ab_gl_2, ab_gl_3, ab_gt_some, ab_gc_0, ab_gk_0, Bool.false_eq_true, Bool.true_eq_false, false_implies, Nat.reduceEqDiff, ab_ge, ab_lt, ab_le, ab_gt, ab_eq, ab_ne, decide_eq_true_eq, ab_w_id, ab_w0, ab_gd_some, ab_gs_0, ab_gs_1, ab_gl_0, ab_gl_1, ab_bv_some, ab_bu_some, ab_bv_thr, ab_bu_thr, ab_fx_n, ab_fx_i, ab_fx_q, ab_fx_l, ab_sh_si, ab_gr_si, ab_gl_si, cs_n, ↓reduceIte, true_or, or_true, false_or, or_false, and_true, true_and, and_false, false_and, not_true_eq_false, not_false_eq_true, eq_self, Int.reduceEq, Int.reduceLT, Int.reduceLE, Int.reduceAdd, Int.reduceMul, Int.reduceNeg, if_pos, if_neg, hm.1, hm.2.1, eD]
      rfl
    · show ab_gi (ab_si g 0 10 (ab_gi g 0 10 + 0)) c x = ab_gi g c x
      rw [ab_gi_si]
      by_cases z : c = 0 ∧ x = 10
      · rw [if_pos z, z.1, z.2]; omega
      · rw [if_neg z]
  | k + 1, i, q1, q2 => by
    have hm := m.1
    have eD := m.2.1.1
    have hDS := hR.2.1
    have hF := hR.2.2.2 i
    have f := (m.2.2.1.2.1 i q1 (by omega)).1
    have e11 := n111 (B := B) (dd := dd + 1) hR m q1 (show i < ab_gi g 1 0 by omega) h3 h4
    have e14 := n114 (B := B) (dd := dd + 1) hR m q1 (show i < 8 by omega) h3 h4
    have hx := cs_xo_rng (d := i) hR h3 h4
    unfold cs_mf
    rcases cs_b01 g i s with hb | hb
    · rw [if_neg (by omega)]
      obtain ⟨h', a, r⟩ := n116_loop (dd := dd) hR m h3 h4 k (i + 1) (by omega) (by omega)
      refine ⟨h', ?_, r⟩
      rw [e116_13, ← a]
      simp (disch := omega) only [e116_0, e116_1, e116_2, e116_5, e116_6, e116_9, e116_10, e116_11, e116_12, e116_14, e116_15, e116_18, e116_21, e116_22, e116_23, e116_24, e116_27, e116_30, e116_31, e116_34, e116_35, e116_36, e116_39, e116_42, e116_43, e116_44, e116_45, e116_46, e116_47, e116_48, e116_51, e116_54, e116_55, e116_56, e116_59, e116_60, e116_61, e116_64, e116_65, e116_66, e116_69, e116_72, e116_73, implies_true, Int.reduceSub, Option.isNone_some, Option.isNone_none, ab_bh_some, ab_bh_thr, ab_gs_3, ab_gl_2, ab_gl_3, ab_gt_some, ab_gc_0, ab_gk_0, Bool.false_eq_true, Bool.true_eq_false, false_implies, Nat.reduceEqDiff, ab_ge, ab_lt, ab_le, ab_gt, ab_eq, ab_ne, decide_eq_true_eq, ab_w_id, ab_w0, ab_gd_some, ab_gs_0, ab_gs_1, ab_gl_0, ab_gl_1, ab_bv_some, ab_bu_some, ab_bv_thr, ab_bu_thr, ab_fx_n, ab_fx_i, ab_fx_q, ab_fx_l, ab_sh_si, ab_gr_si, ab_gl_si, cs_n, ↓reduceIte, true_or, or_true, false_or, or_false, and_true, true_and, and_false, false_and, not_true_eq_false, not_false_eq_true, eq_self, Int.reduceEq, Int.reduceLT, Int.reduceLE, Int.reduceAdd, Int.reduceMul, Int.reduceNeg, if_pos, if_neg, hm.1, hm.2.1, eD, e11, hb]
    · rcases hF with hf | hf
      · rw [if_pos ⟨hb, hf⟩]
        obtain ⟨h1, a1, m1, x1, t1⟩ := n112 (B := B) (dd := dd + 1) hR m q1 (show i < ab_gi g 1 0 by omega) h3 h4 hx.1 hx.2 hf
        have hm1 := m1.1
        have e16 : ab_gi h1 18 16 = ab_gi g 0 10 := m1.2.1.2.2.2.2.2.2.2.1.trans (cs_lay_gi (by decide) (by decide))
        refine ⟨ab_si h1 18 16 (ab_gi h1 18 16 + 1), ?_, ?_, x1.trans (mE.si (by omega)), by rw [ab_gi_si, if_neg (by omega)]; exact t1⟩
        · rw [e116_13]
          simp (disch := omega) only [e116_0, e116_1, e116_2, e116_5, e116_6, e116_9, e116_10, e116_11, e116_12, e116_14, e116_15, e116_18, e116_21, e116_22, e116_23, e116_24, e116_27, e116_30, e116_31, e116_34, e116_35, e116_36, e116_39, e116_42, e116_43, e116_44, e116_45, e116_46, e116_47, e116_48, e116_51, e116_54, e116_55, e116_56, e116_59, e116_60, e116_61, e116_64, e116_65, e116_66, e116_69, e116_72, e116_73, implies_true, Int.reduceSub, Option.isNone_some, Option.isNone_none, ab_bh_some, ab_bh_thr, ab_gs_3, ab_gl_2, ab_gl_3, ab_gt_some, ab_gc_0, ab_gk_0, Bool.false_eq_true, Bool.true_eq_false, false_implies, Nat.reduceEqDiff, ab_ge, ab_lt, ab_le, ab_gt, ab_eq, ab_ne, decide_eq_true_eq, ab_w_id, ab_w0, ab_gd_some, ab_gs_0, ab_gs_1, ab_gl_0, ab_gl_1, ab_bv_some, ab_bu_some, ab_bv_thr, ab_bu_thr, ab_fx_n, ab_fx_i, ab_fx_q, ab_fx_l, ab_sh_si, ab_gr_si, ab_gl_si, cs_n, ↓reduceIte, true_or, or_true, false_or, or_false, and_true, true_and, and_false, false_and, not_true_eq_false, not_false_eq_true, eq_self, Int.reduceEq, Int.reduceLT, Int.reduceLE, Int.reduceAdd, Int.reduceMul, Int.reduceNeg, if_pos, if_neg, hm.1, hm.2.1, eD, e11, hb, f, hf, e14, a1, hm1.1]
        · rw [e16]
          exact mm_f m1 (by omega)
      · rw [if_neg (by omega)]
        obtain ⟨h', a, r⟩ := n116_loop (dd := dd) hR m h3 h4 k (i + 1) (by omega) (by omega)
        refine ⟨h', ?_, r⟩
        rw [e116_13, ← a]
        simp (disch := omega) only [e116_0, e116_1, e116_2, e116_5, e116_6, e116_9, e116_10, e116_11, e116_12, e116_14, e116_15, e116_18, e116_21, e116_22, e116_23, e116_24, e116_27, e116_30, e116_31, e116_34, e116_35, e116_36, e116_39, e116_42, e116_43, e116_44, e116_45, e116_46, e116_47, e116_48, e116_51, e116_54, e116_55, e116_56, e116_59, e116_60, e116_61, e116_64, e116_65, e116_66, e116_69, e116_72, e116_73, implies_true, Int.reduceSub, Option.isNone_some, Option.isNone_none, ab_bh_some, ab_bh_thr, ab_gs_3, ab_gl_2, ab_gl_3, ab_gt_some, ab_gc_0, ab_gk_0, Bool.false_eq_true, Bool.true_eq_false, false_implies, Nat.reduceEqDiff, ab_ge, ab_lt, ab_le, ab_gt, ab_eq, ab_ne, decide_eq_true_eq, ab_w_id, ab_w0, ab_gd_some, ab_gs_0, ab_gs_1, ab_gl_0, ab_gl_1, ab_bv_some, ab_bu_some, ab_bv_thr, ab_bu_thr, ab_fx_n, ab_fx_i, ab_fx_q, ab_fx_l, ab_sh_si, ab_gr_si, ab_gl_si, cs_n, ↓reduceIte, true_or, or_true, false_or, or_false, and_true, true_and, and_false, false_and, not_true_eq_false, not_false_eq_true, eq_self, Int.reduceEq, Int.reduceLT, Int.reduceLE, Int.reduceAdd, Int.reduceMul, Int.reduceNeg, if_pos, if_neg, hm.1, hm.2.1, eD, e11, hb, f, hf]
theorem n116 {dd : Nat} {s : Int} {g h : ab_H} {b : Nat} (hR : cs_R g) (m : mm g h b) (h3 : 0 ≤ s) (h4 : s < ab_gi g 1 1) :
    ∃ h', ab_E B (dd + 2) 116 0 [some (.inr (.inr (.inl (some 18)))), some (.inl s), none] [] h = some (.inl (some (.inl (cs_mend g s).1)), h') ∧ mm (cs_me g s) h' b ∧ mE h h' 0 0 ∧ ab_gi h' 18 0 = ab_gi h 18 0 := by
  have hm := m.1
  have hDS := hR.2.1
  have e13 := n113 (B := B) (dd := dd) hR m h3 h4
  have hb := cs_bc_le hR s
  unfold cs_me cs_mend
  by_cases c : cs_bc g s = 1
  · rw [if_pos c]
    obtain ⟨h', a, r⟩ := n116_loop (B := B) (dd := dd) hR m h3 h4 (ab_gi g 1 0).toNat 0 (by omega) (by omega)
    refine ⟨h', ?_, r⟩
    rw [← a]
    simp (disch := omega) only [e116_0, e116_1, e116_2, e116_5, e116_6, e116_9, e116_10, e116_11, e116_12, e116_14, e116_15, e116_18, e116_21, e116_22, e116_23, e116_24, e116_27, e116_30, e116_31, e116_34, e116_35, e116_36, e116_39, e116_42, e116_43, e116_44, e116_45, e116_46, e116_47, e116_48, e116_51, e116_54, e116_55, e116_56, e116_59, e116_60, e116_61, e116_64, e116_65, e116_66, e116_69, e116_72, e116_73, implies_true, Int.reduceSub, Option.isNone_some, Option.isNone_none, ab_bh_some, ab_bh_thr, ab_gs_3, ab_gl_2, ab_gl_3, ab_gt_some, ab_gc_0, ab_gk_0, Bool.false_eq_true, Bool.true_eq_false, false_implies, Nat.reduceEqDiff, ab_ge, ab_lt, ab_le, ab_gt, ab_eq, ab_ne, decide_eq_true_eq, ab_w_id, ab_w0, ab_gd_some, ab_gs_0, ab_gs_1, ab_gl_0, ab_gl_1, ab_bv_some, ab_bu_some, ab_bv_thr, ab_bu_thr, ab_fx_n, ab_fx_i, ab_fx_q, ab_fx_l, ab_sh_si, ab_gr_si, ab_gl_si, cs_n, ↓reduceIte, true_or, or_true, false_or, or_false, and_true, true_and, and_false, false_and, not_true_eq_false, not_false_eq_true, eq_self, Int.reduceEq, Int.reduceLT, Int.reduceLE, Int.reduceAdd, Int.reduceMul, Int.reduceNeg, if_pos, if_neg, hm.1, hm.2.1, e13, c]
  · rw [if_neg c]
    refine ⟨h, ?_, mm_gc m (fun c x _ => ?_), mE.rf, rfl⟩
    · simp (disch := omega) only [e116_0, e116_1, e116_2, e116_5, e116_6, e116_9, e116_10, e116_11, e116_12, e116_14, e116_15, e116_18, e116_21, e116_22, e116_23, e116_24, e116_27, e116_30, e116_31, e116_34, e116_35, e116_36, e116_39, e116_42, e116_43, e116_44, e116_45, e116_46, e116_47, e116_48, e116_51, e116_54, e116_55, e116_56, e116_59, e116_60, e116_61, e116_64, e116_65, e116_66, e116_69, e116_72, e116_73, implies_true, Int.reduceSub, Option.isNone_some, Option.isNone_none, ab_bh_some, ab_bh_thr, ab_gs_3, ab_gl_2, ab_gl_3, ab_gt_some, ab_gc_0, ab_gk_0, Bool.false_eq_true, Bool.true_eq_false, false_implies, Nat.reduceEqDiff, ab_ge, ab_lt, ab_le, ab_gt, ab_eq, ab_ne, decide_eq_true_eq, ab_w_id, ab_w0, ab_gd_some, ab_gs_0, ab_gs_1, ab_gl_0, ab_gl_1, ab_bv_some, ab_bu_some, ab_bv_thr, ab_bu_thr, ab_fx_n, ab_fx_i, ab_fx_q, ab_fx_l, ab_sh_si, ab_gr_si, ab_gl_si, cs_n, ↓reduceIte, true_or, or_true, false_or, or_false, and_true, true_and, and_false, false_and, not_true_eq_false, not_false_eq_true, eq_self, Int.reduceEq, Int.reduceLT, Int.reduceLE, Int.reduceAdd, Int.reduceMul, Int.reduceNeg, if_pos, if_neg, hm.1, hm.2.1, e13, eq_false c]
    · show ab_gi (ab_si g 0 10 (ab_gi g 0 10 + 0)) c x = ab_gi g c x
      rw [ab_gi_si]
      by_cases z : c = 0 ∧ x = 10
      · rw [if_pos z, z.1, z.2]; omega
      · rw [if_neg z]
/-! the power, the note -/
theorem n119 {dd : Nat} {g h : ab_H} {b : Nat} (m : mm g h b) :
    ∃ h', ab_E B dd 119 0 [some (.inr (.inr (.inl (some 18))))] [] h = some (.inl none, h') ∧ mm (cs_off g) h' b ∧ mE h h' 0 0 ∧ ab_gi h' 18 0 = ab_gi h 18 0 := by
  have hs := m.1.1.1
  have e17 := m.2.1.2.2.2.2.2.2.2.2.1
  have m1 : mm (ab_si (ab_si g 0 2 0) 0 11 (ab_gi g 0 11 + 1)) (ab_si (ab_si h 18 3 0) 18 17 (ab_gi g 0 11 + 1)) b := mm_f (mm_f m (by omega)) (by omega)
  have f : ab_gi (ab_si h 18 3 0) 18 17 = ab_gi g 0 11 := by rw [ab_gi_si, if_neg (by omega)]; exact e17
  refine ⟨_, ?_, m1, (mE.si (by omega)).trans (mE.si (by omega)), by rw [ab_gi_si, if_neg (by omega), ab_gi_si, if_neg (by omega)]⟩
  simp (disch := omega) only [e119_0, e119_1, e119_2, e119_5, e119_6, e119_7, e119_10, e119_11, e119_12, e119_15, implies_true, Int.reduceSub, Option.isNone_some, Option.isNone_none, ab_bh_some, ab_bh_thr, ab_gs_3, ab_gl_2, ab_gl_3, ab_gt_some, ab_gc_0, ab_gk_0, Bool.false_eq_true, Bool.true_eq_false, false_implies, Nat.reduceEqDiff, ab_ge, ab_lt, ab_le, ab_gt, ab_eq, ab_ne, decide_eq_true_eq, ab_w_id, ab_w0, ab_gd_some, ab_gs_0, ab_gs_1, ab_gl_0, ab_gl_1, ab_bv_some, ab_bu_some, ab_bv_thr, ab_bu_thr, ab_fx_n, ab_fx_i, ab_fx_q, ab_fx_l, ab_sh_si, ab_gr_si, ab_gl_si, cs_n, ↓reduceIte, true_or, or_true, false_or, or_false, and_true, true_and, and_false, false_and, not_true_eq_false, not_false_eq_true, eq_self, Int.reduceEq, Int.reduceLT, Int.reduceLE, Int.reduceAdd, Int.reduceMul, Int.reduceNeg, if_pos, if_neg, hs, f]
theorem n121 {dd : Nat} {k : Int} {g h : ab_H} {b : Nat} (i : ci g) (m : mm g h b) (hn : 0 ≤ ab_gi g 0 3) (hk : k = 2 ∨ k = 3) :
    ∃ h', ab_E B (dd + 2) 121 0 [some (.inr (.inr (.inl (some 18)))), some (.inl k), none, none] [] h = some (.inl none, h') ∧ mm (if k = 2 then cs_lay g (cs_dk (ab_gi g 1 0) (ab_gi g 0 3)) (ab_gi g 0 3 / (ab_gi g 1 0 - 1)) (ab_gi g 0 4) else cs_lay g (ab_gi g 0 3 / (ab_gi g 1 0 - 1) % ab_gi g 1 0) (ab_gi g 0 3 / (ab_gi g 1 0 - 1)) (ab_gi g 0 5)) h' b ∧ mE h h' 0 0 ∧ ab_gi h' 18 0 = ab_gi h 18 0 := by
  have hR := i.1
  have hm := m.1
  obtain ⟨⟨n1, n2⟩, n3, n4⟩ : (0 ≤ ab_gi g 0 3 ∧ ab_gi g 0 3 < cs_B g) ∧ (0 ≤ ab_gi g 0 4 ∧ ab_gi g 0 4 ≤ 255) ∧ (0 ≤ ab_gi g 0 5 ∧ ab_gi g 0 5 ≤ 255) := by
    rcases i.2.2.2.1 with ⟨q, -⟩ | q
    · omega
    · exact q
  obtain ⟨c, r9, ⟨-, c31⟩, sc, v0, v1, v2, -⟩ : ∃ c, ab_gr h 18 9 = some c ∧ (b + 4 + 2 * (ab_gi g 1 0).toNat < c ∧ 31 ≤ c) ∧ (ab_sh h)[c]? = some (0, 3) ∧ ab_gi h c 0 = ab_gi g 0 3 ∧ ab_gi h c 1 = ab_gi g 0 4 ∧ ab_gi h c 2 = ab_gi g 0 5 ∧ 0 ≤ ab_gi g 0 3 := by
    rcases m.2.2.2.2.1 with ⟨-, q, -⟩ | q
    · omega
    · exact q
  obtain ⟨hD, h3, b1, b2, b3, b4, b5, b6⟩ := cs_B_D hR n1 n2
  have e7 := n107 (B := B) (dd := dd + 1) hR m hD n1 b1
  have e8 := n108 (B := B) (dd := dd + 1) hR m hD b2 (show ab_gi g 0 3 / (ab_gi g 1 0 - 1) < 40 by have := hR.2.1; omega)
  have e9 := n109 (B := B) (dd := dd) hR m hD n1 b1
  have sd1 : 0 ≤ ab_gi g 0 3 / (ab_gi g 1 0 - 1) % ab_gi g 1 0 := Int.emod_nonneg _ (by omega)
  have sd2 : ab_gi g 0 3 / (ab_gi g 1 0 - 1) % ab_gi g 1 0 < ab_gi g 1 0 := Int.emod_lt_of_pos _ (by omega)
  rcases hk with rfl | rfl
  · rw [if_pos rfl]
    have f := (m.2.2.1.2.1 _ b4 b5).1
    rcases hR.2.2.2 (cs_dk (ab_gi g 1 0) (ab_gi g 0 3)) with hf | hf
    · obtain ⟨h1, a1, m1, x1, t1⟩ := n112 (B := B) (dd := dd + 1) hR m b4 b5 b2 b3 n3.1 n3.2 hf
      refine ⟨h1, ?_, m1, x1, t1⟩
      simp (disch := omega) only [e121_0, e121_1, e121_2, e121_5, e121_6, e121_7, e121_10, e121_11, e121_12, e121_13, e121_16, e121_17, e121_18, e121_21, e121_22, e121_23, e121_26, e121_29, e121_30, e121_31, e121_34, e121_35, e121_36, e121_39, e121_40, e121_41, e121_44, e121_45, e121_46, e121_47, e121_48, e121_51, e121_52, e121_53, e121_54, e121_55, e121_58, implies_true, Int.reduceSub, Option.isNone_some, Option.isNone_none, ab_bh_some, ab_bh_thr, ab_gs_3, ab_gl_2, ab_gl_3, ab_gt_some, ab_gc_0, ab_gk_0, Bool.false_eq_true, Bool.true_eq_false, false_implies, Nat.reduceEqDiff, ab_ge, ab_lt, ab_le, ab_gt, ab_eq, ab_ne, decide_eq_true_eq, ab_w_id, ab_w0, ab_gd_some, ab_gs_0, ab_gs_1, ab_gl_0, ab_gl_1, ab_bv_some, ab_bu_some, ab_bv_thr, ab_bu_thr, ab_fx_n, ab_fx_i, ab_fx_q, ab_fx_l, ab_sh_si, ab_gr_si, ab_gl_si, cs_n, ↓reduceIte, true_or, or_true, false_or, or_false, and_true, true_and, and_false, false_and, not_true_eq_false, not_false_eq_true, eq_self, Int.reduceEq, Int.reduceLT, Int.reduceLE, Int.reduceAdd, Int.reduceMul, Int.reduceNeg, if_pos, if_neg, hm.1, hm.2.1, r9, sc, v0, v1, e7, e9, f, hf, a1]
    · have el : cs_lay g (cs_dk (ab_gi g 1 0) (ab_gi g 0 3)) (ab_gi g 0 3 / (ab_gi g 1 0 - 1)) (ab_gi g 0 4) = g := if_pos hf
      rw [el]
      refine ⟨h, ?_, m, mE.rf, rfl⟩
      simp (disch := omega) only [e121_0, e121_1, e121_2, e121_5, e121_6, e121_7, e121_10, e121_11, e121_12, e121_13, e121_16, e121_17, e121_18, e121_21, e121_22, e121_23, e121_26, e121_29, e121_30, e121_31, e121_34, e121_35, e121_36, e121_39, e121_40, e121_41, e121_44, e121_45, e121_46, e121_47, e121_48, e121_51, e121_52, e121_53, e121_54, e121_55, e121_58, implies_true, Int.reduceSub, Option.isNone_some, Option.isNone_none, ab_bh_some, ab_bh_thr, ab_gs_3, ab_gl_2, ab_gl_3, ab_gt_some, ab_gc_0, ab_gk_0, Bool.false_eq_true, Bool.true_eq_false, false_implies, Nat.reduceEqDiff, ab_ge, ab_lt, ab_le, ab_gt, ab_eq, ab_ne, decide_eq_true_eq, ab_w_id, ab_w0, ab_gd_some, ab_gs_0, ab_gs_1, ab_gl_0, ab_gl_1, ab_bv_some, ab_bu_some, ab_bv_thr, ab_bu_thr, ab_fx_n, ab_fx_i, ab_fx_q, ab_fx_l, ab_sh_si, ab_gr_si, ab_gl_si, cs_n, ↓reduceIte, true_or, or_true, false_or, or_false, and_true, true_and, and_false, false_and, not_true_eq_false, not_false_eq_true, eq_self, Int.reduceEq, Int.reduceLT, Int.reduceLE, Int.reduceAdd, Int.reduceMul, Int.reduceNeg, if_pos, if_neg, hm.1, hm.2.1, r9, sc, v0, v1, e7, e9, f, hf]
  · rw [if_neg (by decide)]
    have f := (m.2.2.1.2.1 _ sd1 sd2).1
    rcases hR.2.2.2 (ab_gi g 0 3 / (ab_gi g 1 0 - 1) % ab_gi g 1 0) with hf | hf
    · obtain ⟨h1, a1, m1, x1, t1⟩ := n112 (B := B) (dd := dd + 1) hR m sd1 sd2 b2 b3 n4.1 n4.2 hf
      refine ⟨h1, ?_, m1, x1, t1⟩
      simp (disch := omega) only [e121_0, e121_1, e121_2, e121_5, e121_6, e121_7, e121_10, e121_11, e121_12, e121_13, e121_16, e121_17, e121_18, e121_21, e121_22, e121_23, e121_26, e121_29, e121_30, e121_31, e121_34, e121_35, e121_36, e121_39, e121_40, e121_41, e121_44, e121_45, e121_46, e121_47, e121_48, e121_51, e121_52, e121_53, e121_54, e121_55, e121_58, implies_true, Int.reduceSub, Option.isNone_some, Option.isNone_none, ab_bh_some, ab_bh_thr, ab_gs_3, ab_gl_2, ab_gl_3, ab_gt_some, ab_gc_0, ab_gk_0, Bool.false_eq_true, Bool.true_eq_false, false_implies, Nat.reduceEqDiff, ab_ge, ab_lt, ab_le, ab_gt, ab_eq, ab_ne, decide_eq_true_eq, ab_w_id, ab_w0, ab_gd_some, ab_gs_0, ab_gs_1, ab_gl_0, ab_gl_1, ab_bv_some, ab_bu_some, ab_bv_thr, ab_bu_thr, ab_fx_n, ab_fx_i, ab_fx_q, ab_fx_l, ab_sh_si, ab_gr_si, ab_gl_si, cs_n, ↓reduceIte, true_or, or_true, false_or, or_false, and_true, true_and, and_false, false_and, not_true_eq_false, not_false_eq_true, eq_self, Int.reduceEq, Int.reduceLT, Int.reduceLE, Int.reduceAdd, Int.reduceMul, Int.reduceNeg, if_pos, if_neg, hm.1, hm.2.1, r9, sc, v0, v2, e7, e8, f, hf, a1]
    · have el : cs_lay g (ab_gi g 0 3 / (ab_gi g 1 0 - 1) % ab_gi g 1 0) (ab_gi g 0 3 / (ab_gi g 1 0 - 1)) (ab_gi g 0 5) = g := if_pos hf
      rw [el]
      refine ⟨h, ?_, m, mE.rf, rfl⟩
      simp (disch := omega) only [e121_0, e121_1, e121_2, e121_5, e121_6, e121_7, e121_10, e121_11, e121_12, e121_13, e121_16, e121_17, e121_18, e121_21, e121_22, e121_23, e121_26, e121_29, e121_30, e121_31, e121_34, e121_35, e121_36, e121_39, e121_40, e121_41, e121_44, e121_45, e121_46, e121_47, e121_48, e121_51, e121_52, e121_53, e121_54, e121_55, e121_58, implies_true, Int.reduceSub, Option.isNone_some, Option.isNone_none, ab_bh_some, ab_bh_thr, ab_gs_3, ab_gl_2, ab_gl_3, ab_gt_some, ab_gc_0, ab_gk_0, Bool.false_eq_true, Bool.true_eq_false, false_implies, Nat.reduceEqDiff, ab_ge, ab_lt, ab_le, ab_gt, ab_eq, ab_ne, decide_eq_true_eq, ab_w_id, ab_w0, ab_gd_some, ab_gs_0, ab_gs_1, ab_gl_0, ab_gl_1, ab_bv_some, ab_bu_some, ab_bv_thr, ab_bu_thr, ab_fx_n, ab_fx_i, ab_fx_q, ab_fx_l, ab_sh_si, ab_gr_si, ab_gl_si, cs_n, ↓reduceIte, true_or, or_true, false_or, or_false, and_true, true_and, and_false, false_and, not_true_eq_false, not_false_eq_true, eq_self, Int.reduceEq, Int.reduceLT, Int.reduceLE, Int.reduceAdd, Int.reduceMul, Int.reduceNeg, if_pos, if_neg, hm.1, hm.2.1, r9, sc, v0, v2, e7, e8, f, hf]
/-- the note is dropped -/
theorem mm_dp {g h : ab_H} {b : Nat} (m : mm g h b) : mm (cs_dp g) (ab_sr h 18 9 none) b := by
  obtain ⟨m1, m2, m3, m4, m5, m6⟩ := m
  have z : ∀ c x, ab_gi (cs_dp g) c x = if c = 0 ∧ x = 5 then -1 else if c = 0 ∧ x = 4 then -1 else if c = 0 ∧ x = 3 then -1 else ab_gi g c x := fun c x => by unfold cs_dp; rw [ab_gi_si, ab_gi_si, ab_gi_si]
  have zc : ∀ c x, c ≠ 0 → ab_gi (cs_dp g) c x = ab_gi g c x := fun c x hc => by rw [z, if_neg (by omega), if_neg (by omega), if_neg (by omega)]
  have z0 : ∀ x, x ≠ 3 → x ≠ 4 → x ≠ 5 → ab_gi (cs_dp g) 0 x = ab_gi g 0 x := fun x x3 x4 x5 => by rw [z, if_neg (by omega), if_neg (by omega), if_neg (by omega)]
  have hb : 19 ≤ b := by have := m1.2.2.2.2; omega
  have eK : ck_K (cs_dp g) = ck_K g := ck_K_congr (zc 7 0 (by omega)) (zc 7 1 (by omega)) (fun c d q => zc c d (by omega))
  have er : ∀ c x, ¬ (c = 18 ∧ x = 9) → ab_gr (ab_sr h 18 9 none) c x = ab_gr h c x := fun c x q => by rw [ab_gr_sr, if_neg q]
  have eKK : mKK (ab_sr h 18 9 none) = mKK h := rfl
  unfold mm
  rw [zc 1 0 (by omega), zc 1 1 (by omega), eK, eKK]
  refine ⟨mL_of m1 (fun _ _ q => q) (fun c x _ _ q => er c x (by omega)), ?_, ?_, m4, Or.inl ⟨?_, ?_, ?_, ?_⟩, m6.1, fun q => ?_⟩
  · unfold mF
    rw [zc 1 0 (by omega), zc 1 1 (by omega), z0 2 (by omega) (by omega) (by omega), z0 6 (by omega) (by omega) (by omega), z0 7 (by omega) (by omega) (by omega), z0 8 (by omega) (by omega) (by omega), z0 9 (by omega) (by omega) (by omega), z0 10 (by omega) (by omega) (by omega), z0 11 (by omega) (by omega) (by omega), z0 12 (by omega) (by omega) (by omega)]
    exact m2
  · obtain ⟨c1, c2, c3⟩ := m3
    exact ⟨fun d s d1 d2 s1 s2 => by rw [zc 2 _ (by omega), zc 3 _ (by omega)]; exact c1 d s d1 d2 s1 s2, fun d d1 d2 => by rw [zc 5 _ (by omega), zc 6 _ (by omega)]; exact c2 d d1 d2, fun k k1 k2 => by rw [zc 4 _ (by omega)]; exact c3 k k1 k2⟩
  · rw [ab_gr_sr, if_pos ⟨rfl, rfl⟩]
  · rw [z, if_neg (by omega), if_neg (by omega), if_pos ⟨rfl, rfl⟩]
  · rw [z, if_neg (by omega), if_pos ⟨rfl, rfl⟩]
  · rw [z, if_pos ⟨rfl, rfl⟩]
  · rw [er 18 10 (by omega)]
    exact mX_of (m6.2 q) (fun _ _ q => q) (fun c x c1 _ _ => ⟨er c x (by omega), rfl⟩)
theorem n120 {dd : Nat} {g h : ab_H} {b : Nat} (i : ci g) (m : mm g h b) (hD : ab_gi g 1 0 ≠ 0) :
    ∃ h', ab_E B (dd + 3) 120 0 [some (.inr (.inr (.inl (some 18))))] [] h = some (.inl none, h') ∧ mm (cs_on g) h' b ∧ mE h h' 0 0 ∧ ab_gi h' 18 0 = ab_gi h 18 0 := by
  have hs := m.1.1.1
  have m1 : mm (ab_si g 0 2 1) (ab_si h 18 3 1) b := mm_f m (by omega)
  have x1 : mE h (ab_si h 18 3 1) 0 0 := mE.si (by omega)
  have t1 : ab_gi (ab_si h 18 3 1) 18 0 = ab_gi h 18 0 := by rw [ab_gi_si, if_neg (by omega)]
  have gc : ∀ c k, c ≠ 0 → ab_gi (ab_si g 0 2 1) c k = ab_gi g c k := fun c k hc => by rw [ab_gi_si, if_neg (fun q => hc q.1)]
  have g0 : ∀ k, k ≠ 2 → ab_gi (ab_si g 0 2 1) 0 k = ab_gi g 0 k := fun k k1 => by rw [ab_gi_si, if_neg (fun q => k1 q.2)]
  have g2 : ab_gi (ab_si g 0 2 1) 0 2 = 1 := by simp [ab_gi_si]
  have i1 : ci (ab_si g 0 2 1) := ci_of i (cs_R_of i.1 (cs_L_2 i.1.1 rfl) (fun c x c1 _ => gc c x (by omega))) (fun x => gc 1 x (by decide)) (fun c x c1 _ => gc c x (by omega)) ⟨Or.inr g2, fun q => absurd q hD⟩ (cn_of i.2.2.2.1 (cs_B_of (gc 1 0 (by decide)) (gc 1 1 (by decide))) (fun x x1 x2 => g0 x (by omega))) (by rw [g0 6 (by decide)]; exact i.2.2.2.2.1) (by rw [g0 7 (by decide)]; exact i.2.2.2.2.2)
  have hm1 := m1.1
  have r9 : ab_gr (ab_si h 18 3 1) 18 9 = ab_gr h 18 9 := rfl
  unfold cs_on
  rcases m.2.2.2.2.1 with ⟨n1, n2, -, -⟩ | ⟨c, n1, -, -, -, -, -, n7⟩
  · rw [if_neg (by omega)]
    refine ⟨_, ?_, m1, x1, t1⟩
    simp (disch := omega) only [e120_0, e120_1, e120_2, e120_5, e120_6, e120_9, e120_12, e120_13, e120_14, e120_15, e120_18, e120_19, e120_20, e120_23, e120_24, e120_25, e120_28, implies_true, Int.reduceSub, Option.isNone_some, Option.isNone_none, ab_bh_some, ab_bh_thr, ab_gs_3, ab_gl_2, ab_gl_3, ab_gt_some, ab_gc_0, ab_gk_0, Bool.false_eq_true, Bool.true_eq_false, false_implies, Nat.reduceEqDiff, ab_ge, ab_lt, ab_le, ab_gt, ab_eq, ab_ne, decide_eq_true_eq, ab_w_id, ab_w0, ab_gd_some, ab_gs_0, ab_gs_1, ab_gl_0, ab_gl_1, ab_bv_some, ab_bu_some, ab_bv_thr, ab_bu_thr, ab_fx_n, ab_fx_i, ab_fx_q, ab_fx_l, ab_sh_si, ab_gr_si, ab_gl_si, cs_n, ↓reduceIte, true_or, or_true, false_or, or_false, and_true, true_and, and_false, false_and, not_true_eq_false, not_false_eq_true, eq_self, Int.reduceEq, Int.reduceLT, Int.reduceLE, Int.reduceAdd, Int.reduceMul, Int.reduceNeg, if_pos, if_neg, hs, n1]
  · rw [if_pos n7]
    obtain ⟨h2, a2, m2, x2, t2⟩ := n121 (B := B) (dd := dd) i1 m1 (by rw [g0 3 (by decide)]; exact n7) (Or.inl rfl)
    rw [if_pos rfl, g0 3 (by decide), g0 4 (by decide), gc 1 0 (by decide)] at m2
    obtain ⟨-, n3, n4⟩ : (0 ≤ ab_gi g 0 3 ∧ ab_gi g 0 3 < cs_B g) ∧ (0 ≤ ab_gi g 0 4 ∧ ab_gi g 0 4 ≤ 255) ∧ (0 ≤ ab_gi g 0 5 ∧ ab_gi g 0 5 ≤ 255) := by
      rcases i.2.2.2.1 with ⟨q, -⟩ | q
      · omega
      · exact q
    have i2 : ci (cs_lay (ab_si g 0 2 1) (cs_dk (ab_gi g 1 0) (ab_gi g 0 3)) (ab_gi g 0 3 / (ab_gi g 1 0 - 1)) (ab_gi g 0 4)) := ci_lay i1 n3.1 n3.2
    have l2 : ∀ c x, c ≠ 2 → c ≠ 3 → ab_gi (cs_lay (ab_si g 0 2 1) (cs_dk (ab_gi g 1 0) (ab_gi g 0 3)) (ab_gi g 0 3 / (ab_gi g 1 0 - 1)) (ab_gi g 0 4)) c x = ab_gi (ab_si g 0 2 1) c x := fun c x c2 c3 => cs_lay_gi c2 c3
    have f3 := (l2 0 3 (by decide) (by decide)).trans (g0 3 (by decide))
    have f5 := (l2 0 5 (by decide) (by decide)).trans (g0 5 (by decide))
    have f10 := (l2 1 0 (by decide) (by decide)).trans (gc 1 0 (by decide))
    obtain ⟨h3, a3, m3, x3, t3⟩ := n121 (B := B) (dd := dd) i2 m2 (by rw [f3]; exact n7) (Or.inr rfl)
    rw [if_neg (by decide), f3, f5, f10] at m3
    have hm2 := m2.1
    have hm3 := m3.1
    have m4 := mm_dp m3
    refine ⟨ab_sr h3 18 9 none, ?_, m4, ((x1.trans x2).trans x3).trans (mE.sr (by omega)), (show ab_gi (ab_sr h3 18 9 none) 18 0 = ab_gi h 18 0 from t3.trans (t2.trans t1))⟩
    simp (disch := omega) only [e120_0, e120_1, e120_2, e120_5, e120_6, e120_9, e120_12, e120_13, e120_14, e120_15, e120_18, e120_19, e120_20, e120_23, e120_24, e120_25, e120_28, implies_true, Int.reduceSub, Option.isNone_some, Option.isNone_none, ab_bh_some, ab_bh_thr, ab_gs_3, ab_gl_2, ab_gl_3, ab_gt_some, ab_gc_0, ab_gk_0, Bool.false_eq_true, Bool.true_eq_false, false_implies, Nat.reduceEqDiff, ab_ge, ab_lt, ab_le, ab_gt, ab_eq, ab_ne, decide_eq_true_eq, ab_w_id, ab_w0, ab_gd_some, ab_gs_0, ab_gs_1, ab_gl_0, ab_gl_1, ab_bv_some, ab_bu_some, ab_bv_thr, ab_bu_thr, ab_fx_n, ab_fx_i, ab_fx_q, ab_fx_l, ab_sh_si, ab_gr_si, ab_gl_si, cs_n, ↓reduceIte, true_or, or_true, false_or, or_false, and_true, true_and, and_false, false_and, not_true_eq_false, not_false_eq_true, eq_self, Int.reduceEq, Int.reduceLT, Int.reduceLE, Int.reduceAdd, Int.reduceMul, Int.reduceNeg, if_pos, if_neg, hs, n1, a2, a3, hm2.1, hm3.1]
end
