/-! A STRIPE IS GIVEN UP -/
section
variable {B : ab_B}
theorem ab_bit_or : ∀ (n : Fin 32) (i : Fin 5), ab_ior ((n : Nat) : Int) (ab_ishl 1 ((i : Nat) : Int)) = (((n : Nat) ||| 2 ^ (i : Nat) : Nat) : Int) ∧ (n : Nat) ||| 2 ^ (i : Nat) < 32 := by decide +kernel
theorem ab_bit_and : ∀ (n : Fin 32) (i : Fin 5), ab_iand (ab_ishr ((n : Nat) : Int) ((i : Nat) : Int)) 1 = if (n : Nat).testBit (i : Nat) = true then 1 else 0 := by decide +kernel
theorem cs_b_fr {h h' : ab_H} {o s : Int} (h5 : ab_gi h' 5 o = ab_gi h 5 o) (h3 : ab_gi h' 3 (o * 8 + s) = ab_gi h 3 (o * 8 + s)) (h2 : ab_gi h' 2 (o * 8 + s) = ab_gi h 2 (o * 8 + s)) : cs_b h' o s = cs_b h o s := by
  unfold cs_b
  rw [h5, h3, h2]
theorem cs_ga_ok {D S s : Int} (s1 : 0 ≤ s) (s2 : s < S) : ∀ (k : Nat) (h : ab_H) (i l x : Int) (n : Nat), cs_Q h D S → 0 ≤ i → i + k = D → 0 ≤ x → x ≤ 255 → l = (n : Int) → n < 32 → (∀ o, i ≤ o → o < D → o ≠ s % D → cs_b h o s = 0 → ab_gi h 2 (o * 8 + s) = ab_gi h 4 (o * 8 + s)) →
    cs_Q (cs_ga D s h i l x k).2.2 D S ∧ (cs_ga D s h i l x k).2.2.2 = h.2 ∧ (∀ c y, c ≠ 2 → c ≠ 3 → c ≠ 4 → ab_gi (cs_ga D s h i l x k).2.2 c y = ab_gi h c y) ∧
    (∀ o t, 0 ≤ t → t < 8 → ab_gi (cs_ga D s h i l x k).2.2 4 (o * 8 + t) = if t = s ∧ i ≤ o ∧ o < D ∧ o ≠ s % D ∧ cs_b h o s = 1 then 0 else ab_gi h 4 (o * 8 + t)) ∧
    (∀ o t, 0 ≤ t → t < 8 → ab_gi (cs_ga D s h i l x k).2.2 3 (o * 8 + t) = if (t = s ∧ i ≤ o ∧ o < D ∧ o ≠ s % D ∧ cs_b h o s = 1) ∧ ab_gi h 5 o ≠ 1 then (7 * 0 + s) % 256 else ab_gi h 3 (o * 8 + t)) ∧
    (cs_ga D s h i l x k).2.1 = cs_xf (fun o => if o = s % D then 0 else if cs_b h o s = 1 then 0 else ab_gi h 4 (o * 8 + s)) x i k ∧
    ∃ n' : Nat, (cs_ga D s h i l x k).1 = (n' : Int) ∧ n' < 32 ∧ ∀ o : Nat, o < 5 → (n'.testBit o = true ↔ (n.testBit o = true ∨ (i ≤ (o : Int) ∧ (o : Int) < D ∧ (o : Int) ≠ s % D ∧ cs_b h o s = 1)))
  | 0, h, i, l, x, n, q, i1, i2, x1, x2, hl, hn, hv => by
    refine ⟨q, rfl, fun _ _ _ _ _ => rfl, fun o t t1 t2 => ?_, fun o t t1 t2 => ?_, rfl, n, hl, hn, fun o ho => ⟨Or.inl, fun z => ?_⟩⟩
    · rw [if_neg (by omega)]; rfl
    · rw [if_neg (by omega)]; rfl
    · rcases z with z | z
      · exact z
      · omega
  | k + 1, h, i, l, x, n, q, i1, i2, x1, x2, hl, hn, hv => by
    obtain ⟨hR, eD, eS, D1, D2, S1, S2⟩ := q
    have q : cs_Q h D S := ⟨hR, eD, eS, D1, D2, S1, S2⟩
    unfold cs_ga
    by_cases c0 : i = s % D
    · rw [if_pos c0]
      obtain ⟨a1, a2, a3, a4, a5, a6, n', a7, a8, a9⟩ := cs_ga_ok s1 s2 k h (i + 1) l x n q (by omega) (by omega) x1 x2 hl hn (fun o o1 o2 o3 o4 => hv o (by omega) o2 o3 o4)
      refine ⟨a1, a2, a3, fun o t t1 t2 => ?_, fun o t t1 t2 => ?_, ?_, n', a7, a8, fun o ho => ?_⟩
      · rw [a4 o t t1 t2]
        congr 1
        apply propext
        constructor
        · rintro ⟨z1, z2, z3⟩; exact ⟨z1, by omega, z3⟩
        · rintro ⟨z1, z2, z3, z4, z5⟩; exact ⟨z1, by omega, z3, z4, z5⟩
      · rw [a5 o t t1 t2]
        congr 1
        apply propext
        constructor
        · rintro ⟨⟨z1, z2, z3⟩, z6⟩; exact ⟨⟨z1, by omega, z3⟩, z6⟩
        · rintro ⟨⟨z1, z2, z3, z4, z5⟩, z6⟩; exact ⟨⟨z1, by omega, z3, z4, z5⟩, z6⟩
      · rw [a6]
        have e : ab_ixor x 0 = x := by
          rw [(ab_ixor_eq x1 x2 (show (0 : Int) ≤ 0 by omega) (by omega)).1, Int.toNat_zero, Nat.xor_zero]
          omega
        conv => rhs; unfold cs_xf
        rw [if_pos c0, e]
      · rw [a9 o ho]
        constructor
        · rintro (z | ⟨z1, z2, z3⟩)
          · exact Or.inl z
          · exact Or.inr ⟨by omega, z2, z3⟩
        · rintro (z | ⟨z1, z2, z3, z4⟩)
          · exact Or.inl z
          · exact Or.inr ⟨by omega, z2, z3, z4⟩
    · rw [if_neg c0]
      by_cases c1 : cs_b h i s = 1
      · rw [if_pos c1]
        have b4 : ∀ c y, c ≠ 2 → c ≠ 3 → c ≠ 4 → ab_gi (cs_lay (ab_si h 4 (i * 8 + s) 0) i s 0) c y = ab_gi h c y := fun c y c2 c3 c4 => by
          rw [cs_lay_gi c2 c3, ab_gi_si, if_neg (fun z => c4 z.1)]
        have b44 : ∀ o t, 0 ≤ t → t < 8 → ab_gi (cs_lay (ab_si h 4 (i * 8 + s) 0) i s 0) 4 (o * 8 + t) = if o = i ∧ t = s then 0 else ab_gi h 4 (o * 8 + t) := fun o t t1 t2 => by
          rw [cs_lay_gi (by decide) (by decide), ab_gi_si]
          by_cases e : o = i ∧ t = s
          · rw [if_pos ⟨rfl, by rw [e.1, e.2]⟩, if_pos e]
          · rw [if_neg (fun z => e (cs_ix t1 t2 s1 (by omega) z.2)), if_neg e]
        have h5 : ab_gi (ab_si h 4 (i * 8 + s) 0) 5 i = ab_gi h 5 i := by rw [ab_gi_si, if_neg (by simp)]
        have n3 : ∀ y, ab_gi (ab_si h 4 (i * 8 + s) 0) 3 y = ab_gi h 3 y := fun y => by rw [ab_gi_si, if_neg (by simp)]
        have n2 : ∀ y, ab_gi (ab_si h 4 (i * 8 + s) 0) 2 y = ab_gi h 2 y := fun y => by rw [ab_gi_si, if_neg (by simp)]
        have b43 : ∀ o t, 0 ≤ t → t < 8 → ab_gi (cs_lay (ab_si h 4 (i * 8 + s) 0) i s 0) 3 (o * 8 + t) = if (o = i ∧ t = s) ∧ ab_gi h 5 i ≠ 1 then (7 * 0 + s) % 256 else ab_gi h 3 (o * 8 + t) := fun o t t1 t2 => by
          rw [cs_lay_3, h5, n3]
          by_cases c5 : ab_gi h 5 i = 1
          · rw [if_pos c5, if_neg (fun z => z.2 c5)]
          · rw [if_neg c5]
            by_cases e : o = i ∧ t = s
            · rw [if_pos (by rw [e.1, e.2]), if_pos ⟨e, c5⟩]
            · rw [if_neg (fun z => e (cs_ix t1 t2 s1 (by omega) z)), if_neg (fun z => e z.1)]
        have b42 : ∀ o, o ≠ i → ab_gi (cs_lay (ab_si h 4 (i * 8 + s) 0) i s 0) 2 (o * 8 + s) = ab_gi h 2 (o * 8 + s) := fun o ho => by
          rw [cs_lay_2, h5, n2]
          split
          · rfl
          · rw [if_neg (by omega)]
        have bb : ∀ o, o ≠ i → cs_b (cs_lay (ab_si h 4 (i * 8 + s) 0) i s 0) o s = cs_b h o s := fun o ho => cs_b_fr (b4 5 o (by decide) (by decide) (by decide)) (by rw [b43 o s s1 (by omega), if_neg (fun z => ho z.1.1)]) (b42 o ho)
        have q1 : cs_Q (cs_lay (ab_si h 4 (i * 8 + s) 0) i s 0) D S := ⟨cs_R_lay (cs_R_si4 hR (by omega) (by omega)) (by omega) (by omega), (b4 1 0 (by decide) (by decide) (by decide)).trans eD, (b4 1 1 (by decide) (by decide) (by decide)).trans eS, D1, D2, S1, S2⟩
        obtain ⟨y1, y2⟩ := ab_bit_or ⟨n, hn⟩ ⟨i.toNat, by omega⟩
        have ei : ((i.toNat : Nat) : Int) = i := by omega
        simp only [ei] at y1
        obtain ⟨a1, a2, a3, a4, a5, a6, n', a7, a8, a9⟩ := cs_ga_ok s1 s2 k (cs_lay (ab_si h 4 (i * 8 + s) 0) i s 0) (i + 1) (ab_ior l (ab_ishl 1 i)) x (n ||| 2 ^ i.toNat) q1 (by omega) (by omega) x1 x2 (by rw [hl]; exact y1) y2 (fun o o1 o2 o3 o4 => by
          rw [b42 o (by omega), b44 o s s1 (by omega), if_neg (by omega)]
          rw [bb o (by omega)] at o4
          exact hv o (by omega) o2 o3 o4)
        refine ⟨a1, a2.trans (cs_lay_snd _ _ _ _), fun c y c2 c3 c4 => (a3 c y c2 c3 c4).trans (b4 c y c2 c3 c4), fun o t t1 t2 => ?_, fun o t t1 t2 => ?_, ?_, n', a7, a8, fun o ho => ?_⟩
        · rw [a4 o t t1 t2, b44 o t t1 t2]
          by_cases e : o = i
          · subst e
            rw [if_neg (by omega)]
            by_cases e2 : t = s
            · rw [if_pos ⟨rfl, e2⟩, if_pos ⟨e2, by omega, by omega, c0, c1⟩]
            · rw [if_neg (fun z => e2 z.2), if_neg (fun z => e2 z.1)]
          · rw [bb o e, if_neg (fun z : o = i ∧ _ => e z.1)]
            congr 1
            apply propext
            constructor
            · rintro ⟨z1, z2, z3⟩; exact ⟨z1, by omega, z3⟩
            · rintro ⟨z1, z2, z3⟩; exact ⟨z1, by omega, z3⟩
        · rw [a5 o t t1 t2, b43 o t t1 t2, b4 5 o (by decide) (by decide) (by decide)]
          by_cases e : o = i
          · subst e
            rw [if_neg (by omega)]
            by_cases e2 : t = s
            · by_cases e3 : ab_gi h 5 o = 1
              · rw [if_neg (fun z => z.2 e3), if_neg (fun z => z.2 e3)]
              · rw [if_pos ⟨⟨rfl, e2⟩, e3⟩, if_pos ⟨⟨e2, by omega, by omega, c0, c1⟩, e3⟩]
            · rw [if_neg (fun z => e2 z.1.2), if_neg (fun z => e2 z.1.1)]
          · rw [bb o e, if_neg (fun z : (o = i ∧ _) ∧ _ => e z.1.1)]
            congr 1
            apply propext
            constructor
            · rintro ⟨⟨z1, z2, z3⟩, z6⟩; exact ⟨⟨z1, by omega, z3⟩, z6⟩
            · rintro ⟨⟨z1, z2, z3⟩, z6⟩; exact ⟨⟨z1, by omega, z3⟩, z6⟩
        · rw [a6]
          have e : ab_ixor x 0 = x := by
            rw [(ab_ixor_eq x1 x2 (show (0 : Int) ≤ 0 by omega) (by omega)).1, Int.toNat_zero, Nat.xor_zero]
            omega
          conv => rhs; unfold cs_xf
          rw [if_neg c0, if_pos c1, e]
          have key : ∀ (k : Nat) (acc j : Int), i < j → cs_xf (fun o => if o = s % D then 0 else if cs_b (cs_lay (ab_si h 4 (i * 8 + s) 0) i s 0) o s = 1 then 0 else ab_gi (cs_lay (ab_si h 4 (i * 8 + s) 0) i s 0) 4 (o * 8 + s)) acc j k = cs_xf (fun o => if o = s % D then 0 else if cs_b h o s = 1 then 0 else ab_gi h 4 (o * 8 + s)) acc j k := by
            intro k
            induction k with
            | zero => intro acc j _; rfl
            | succ k ih =>
              intro acc j hj
              unfold cs_xf
              rw [bb j (by omega), b44 j s s1 (by omega), if_neg (fun z : j = i ∧ _ => by omega), ih _ (j + 1) (by omega)]
          exact key k x (i + 1) (by omega)
        · rw [a9 o ho]
          by_cases e : (o : Int) = i
          · have e2 : i.toNat = o := by omega
            rw [e2]
            constructor
            · intro _; exact Or.inr ⟨by omega, by omega, by rw [e]; exact c0, by rw [e]; exact c1⟩
            · intro _; left; simp
          · have e2 : i.toNat ≠ o := by omega
            have e3 : (n ||| 2 ^ i.toNat).testBit o = n.testBit o := by
              rw [Nat.testBit_or, Nat.testBit_two_pow, decide_eq_false e2, Bool.or_false]
            rw [e3, bb _ e]
            constructor
            · rintro (z | ⟨z1, z2, z3⟩)
              · exact Or.inl z
              · exact Or.inr ⟨by omega, z2, z3⟩
            · rintro (z | ⟨z1, z2, z3⟩)
              · exact Or.inl z
              · exact Or.inr ⟨by omega, z2, z3⟩
      · rw [if_neg c1]
        have cb0 : cs_b h i s = 0 := by rcases cs_b01 h i s with z | z <;> omega
        have hvi := hv i (by omega) (by omega) c0 cb0
        have hv4 := hR.2.2.1 (i * 8 + s) (by omega) (by omega)
        have hx := ab_ixor_rng x1 x2 hv4.1 hv4.2.1
        obtain ⟨a1, a2, a3, a4, a5, a6, n', a7, a8, a9⟩ := cs_ga_ok s1 s2 k h (i + 1) l (ab_ixor x (ab_gi h 2 (i * 8 + s))) n q (by omega) (by omega) hx.1 hx.2 hl hn (fun o o1 o2 o3 o4 => hv o (by omega) o2 o3 o4)
        refine ⟨a1, a2, a3, fun o t t1 t2 => ?_, fun o t t1 t2 => ?_, ?_, n', a7, a8, fun o ho => ?_⟩
        · rw [a4 o t t1 t2]
          congr 1
          apply propext
          constructor
          · rintro ⟨z1, z2, z3⟩; exact ⟨z1, by omega, z3⟩
          · rintro ⟨z1, z2, z3, z4, z5⟩
            refine ⟨z1, ?_, z3, z4, z5⟩
            by_cases e : o = i
            · rw [e] at z5; exact absurd z5 c1
            · omega
        · rw [a5 o t t1 t2]
          congr 1
          apply propext
          constructor
          · rintro ⟨⟨z1, z2, z3⟩, z6⟩; exact ⟨⟨z1, by omega, z3⟩, z6⟩
          · rintro ⟨⟨z1, z2, z3, z4, z5⟩, z6⟩
            refine ⟨⟨z1, ?_, z3, z4, z5⟩, z6⟩
            by_cases e : o = i
            · rw [e] at z5; exact absurd z5 c1
            · omega
        · rw [a6]
          conv => rhs; unfold cs_xf
          rw [if_neg c0, if_neg c1, hvi]
        · rw [a9 o ho]
          constructor
          · rintro (z | ⟨z1, z2, z3⟩)
            · exact Or.inl z
            · exact Or.inr ⟨by omega, z2, z3⟩
          · rintro (z | ⟨z1, z2, z3, z4⟩)
            · exact Or.inl z
            · refine Or.inr ⟨?_, z2, z3, z4⟩
              by_cases e : (o : Int) = i
              · rw [e] at z4; exact absurd z4 c1
              · omega
theorem m69 {dd : Nat} {D S s : Int} {h : ab_H} (i : cs_I D S h) (s1 : 0 ≤ s) (s2 : s < S) :
    ab_E B (dd + 5) 69 0 [some (.inr (.inr (some 0))), some (.inl s)] [] h = some (.inr 3, ab_cost h 1 6) ∨
    ∃ (h' : ab_H) (n : Nat), ab_E B (dd + 5) 69 0 [some (.inr (.inr (some 0))), some (.inl s)] [] h = some (.inl (some (.inl (n : Int))), h') ∧ n < 32 ∧ cs_I D S h' ∧ cs_Fr h h' ∧ (∀ o t, 0 ≤ o → o < D → 0 ≤ t → t < 8 → ab_gi h' 4 (o * 8 + t) = if t = s ∧ o ≠ s % D ∧ n.testBit o.toNat = true then 0 else ab_gi h 4 (o * 8 + t)) := by
  have hL := i.1.1.1
  obtain ⟨hR, eD, eS, D1, D2, S1, S2⟩ := i.1
  have q : cs_Q h D S := i.1
  have hbc := cs_bc_le hR s
  have e3 := m3 (B := B) (dd := dd + 4) (d := s) hR (by omega) (by omega)
  rw [if_pos ⟨s1, by omega⟩] at e3
  have e17 := m17 (B := B) (dd := dd + 2) hR s1 (show s < ab_gi h 1 1 by omega)
  have e32 := m32 (B := B) (dd := dd + 1) hR s1 (show s < ab_gi h 1 1 by omega)
  rcases i.2.2.1 with con | con
  · left
    simp (disch := omega) only [e69_0, e69_1, e69_4, e69_5, e69_8, e69_11, e69_21, e69_22, e69_25, e69_28, e69_29, e69_32, e69_33, e69_36, e69_37, e69_40, e69_50, e69_51, e69_54, e69_55, e69_58, Option.isSome_some, ab_bvh_some, ab_bvh_thr, ab_ge, ab_lt, ab_le, ab_gt, ab_eq, ab_ne, decide_eq_true_eq, ab_w_id, ab_w0, ab_gd_some, ab_gs_0, ab_gs_1, ab_gl_0, ab_gl_1, ab_bv_some, ab_bu_some, ab_bv_thr, ab_bu_thr, ab_fx_n, ab_fx_i, ab_fx_q, ab_fx_l, ab_sh_si, ab_gr_si, ab_gl_si, cs_n, ↓reduceIte, true_or, or_true, false_or, or_false, and_true, true_and, and_false, false_and, not_true_eq_false, not_false_eq_true, eq_self, Int.reduceEq, Int.reduceLT, Int.reduceLE, Int.reduceAdd, Int.reduceMul, Int.reduceNeg, if_pos, if_neg, hL.1, hL.2, e3, con]
  by_cases cbc : 2 ≤ cs_bc h s
  rotate_left
  · left
    simp (disch := omega) only [e69_0, e69_1, e69_4, e69_5, e69_8, e69_11, e69_21, e69_22, e69_25, e69_28, e69_29, e69_32, e69_33, e69_36, e69_37, e69_40, e69_50, e69_51, e69_54, e69_55, e69_58, Option.isSome_some, ab_bvh_some, ab_bvh_thr, ab_ge, ab_lt, ab_le, ab_gt, ab_eq, ab_ne, decide_eq_true_eq, ab_w_id, ab_w0, ab_gd_some, ab_gs_0, ab_gs_1, ab_gl_0, ab_gl_1, ab_bv_some, ab_bu_some, ab_bv_thr, ab_bu_thr, ab_fx_n, ab_fx_i, ab_fx_q, ab_fx_l, ab_sh_si, ab_gr_si, ab_gl_si, cs_n, ↓reduceIte, true_or, or_true, false_or, or_false, and_true, true_and, and_false, false_and, not_true_eq_false, not_false_eq_true, eq_self, Int.reduceEq, Int.reduceLT, Int.reduceLE, Int.reduceAdd, Int.reduceMul, Int.reduceNeg, if_pos, if_neg, hL.1, hL.2, e3, con, e17]
  right
  have hn : ab_gi h 0 3 = -1 := by
    rcases i.2.2.2.1 with n | n
    · exact n
    · have := n.2.2.1; omega
  have hJ := cs_G_J i.2.2.2.2.2.2 hn s s1 (show s < ab_gi h 1 1 by omega)
  obtain ⟨a1, a2, a3, a4, a5, a6, n, a7, a8, a9⟩ := cs_ga_ok s1 s2 (ab_gi h 1 0).toNat h 0 0 0 0 q (by omega) (by omega) (by omega) (by omega) rfl (by omega) (fun o o1 o2 o3 o4 => by
    rw [cs_j_val q o1 o2 s1 s2 (hJ o o1 (by omega)) o4]
    unfold cs_w
    rw [eD, if_neg o3])
  rw [eD] at e32 a1 a2 a3 a4 a5 a6 a7
  have sd1 : 0 ≤ s % D := Int.emod_nonneg _ (by omega)
  have sd2 : s % D < D := Int.emod_lt_of_pos _ (by omega)
  generalize hg : cs_ga D s h 0 0 0 D.toNat = G at e32 a1 a2 a3 a4 a5 a6 a7
  have hx : G.2.1 = cs_w G.2.2 s (s % D) := by
    rw [a6]
    unfold cs_w
    rw [a1.2.1, if_pos rfl]
    have key : ∀ (k : Nat) (acc j : Int), 0 ≤ j → j + k = D → cs_xf (fun o => if o = s % D then 0 else if cs_b h o s = 1 then 0 else ab_gi h 4 (o * 8 + s)) acc j k = cs_xf (fun o => if o = s % D then 0 else ab_gi G.2.2 4 (o * 8 + s)) acc j k := by
      intro k
      induction k with
      | zero => intro acc j _ _; rfl
      | succ k ih =>
        intro acc j j1 j2
        unfold cs_xf
        rw [a4 j s s1 (by omega), ih _ (j + 1) (by omega) (by omega)]
        congr 2
        by_cases c : j = s % D
        · rw [if_pos c, if_pos c]
        · rw [if_neg c, if_neg c]
          by_cases c2 : cs_b h j s = 1
          · rw [if_pos c2, if_pos ⟨rfl, j1, by omega, c, c2⟩]
          · rw [if_neg c2, if_neg (fun z => c2 z.2.2.2.2)]
    exact key _ 0 0 (by omega) (by omega)
  have wr := cs_w_rng a1 sd1 sd2 s1 s2
  have q2 : cs_Q (cs_lay G.2.2 (s % D) s G.2.1) D S := cs_lay_Q a1 (by rw [hx]; exact wr.1) (by rw [hx]; exact wr.2)
  have gl : ∀ c y, c ≠ 2 → c ≠ 3 → ab_gi (cs_lay G.2.2 (s % D) s G.2.1) c y = ab_gi G.2.2 c y := fun c y c2 c3 => cs_lay_gi c2 c3
  have gc : ∀ c y, c ≠ 2 → c ≠ 3 → c ≠ 4 → ab_gi (cs_lay G.2.2 (s % D) s G.2.1) c y = ab_gi h c y := fun c y c2 c3 c4 => (gl c y c2 c3).trans (a3 c y c2 c3 c4)
  have jj : ∀ t o, 0 ≤ t → t < S → 0 ≤ o → o < D → cs_j (cs_lay G.2.2 (s % D) s G.2.1) t o := fun t o t1 t2 o1 o2 => by
    rw [hx]
    refine cs_lay_j s1 (by omega) t1 (by omega) ?_
    by_cases c : t = s ∧ o = s % D
    · exact Or.inr c
    · left
      have j0 := cs_G_J i.2.2.2.2.2.2 hn t t1 (show t < ab_gi h 1 1 by omega) o o1 (by omega)
      unfold cs_j
      rw [a3 5 o (by decide) (by decide) (by decide), a5 o t t1 (by omega)]
      by_cases ct : t = s
      · subst ct
        have co : o ≠ t % D := fun z => c ⟨rfl, z⟩
        have ew : cs_w G.2.2 t o = ab_gi G.2.2 4 (o * 8 + t) := by unfold cs_w; rw [a1.2.1, if_neg co]
        have ew0 : cs_w h t o = ab_gi h 4 (o * 8 + t) := by unfold cs_w; rw [eD, if_neg co]
        rw [ew, a4 o t t1 (by omega)]
        by_cases cb : cs_b h o t = 1
        · by_cases c5 : ab_gi h 5 o = 1
          · exact Or.inl c5
          · rw [if_pos ⟨⟨rfl, o1, o2, co, cb⟩, c5⟩, if_pos ⟨rfl, o1, o2, co, cb⟩]
            exact Or.inr (Or.inr rfl)
        · rw [if_neg (fun z => cb z.1.2.2.2.2), if_neg (fun z => cb z.2.2.2.2), ← ew0]
          exact j0
      · rw [if_neg (fun z => ct z.1.1), cs_w_fx (h := h) (h' := G.2.2) eD (a3 1 0 (by decide) (by decide) (by decide)) o1 o2 (fun p p1 p2 => by rw [a4 p t t1 (by omega), if_neg (fun z => ct z.1)])]
        exact j0
  refine ⟨cs_lay G.2.2 (s % D) s G.2.1, n, ?_, a8, ?_, ⟨(cs_lay_snd _ _ _ _).trans a2, fun c y hc => gc c y (by omega) (by omega) (by omega)⟩, fun o t o1 o2 t1 t2 => ?_⟩
  · rw [a7] at e32
    simp (disch := omega) only [e69_0, e69_1, e69_4, e69_5, e69_8, e69_11, e69_21, e69_22, e69_25, e69_28, e69_29, e69_32, e69_33, e69_36, e69_37, e69_40, e69_50, e69_51, e69_54, e69_55, e69_58, Option.isSome_some, ab_bvh_some, ab_bvh_thr, ab_ge, ab_lt, ab_le, ab_gt, ab_eq, ab_ne, decide_eq_true_eq, ab_w_id, ab_w0, ab_gd_some, ab_gs_0, ab_gs_1, ab_gl_0, ab_gl_1, ab_bv_some, ab_bu_some, ab_bv_thr, ab_bu_thr, ab_fx_n, ab_fx_i, ab_fx_q, ab_fx_l, ab_sh_si, ab_gr_si, ab_gl_si, cs_n, ↓reduceIte, true_or, or_true, false_or, or_false, and_true, true_and, and_false, false_and, not_true_eq_false, not_false_eq_true, eq_self, Int.reduceEq, Int.reduceLT, Int.reduceLE, Int.reduceAdd, Int.reduceMul, Int.reduceNeg, if_pos, if_neg, hL.1, hL.2, e3, con, e17, e32]
  · obtain ⟨x1, x2, x3, x4, x5, x6, x7⟩ := i
    have g0 := fun k => gc 0 k (by decide) (by decide) (by decide)
    refine ⟨q2, cs_Y_fr ((cs_lay_snd _ _ _ _).trans a2) (fun c x hc => gc c x (by omega) (by omega) (by omega)) x2, by rw [g0]; exact x3, Or.inl (by rw [g0]; exact hn), by rw [g0, g0]; exact x5, by rw [g0]; exact x6, fun t o t1 t2 o1 o2 _ => jj t o t1 (by rw [gc 1 1 (by decide) (by decide) (by decide)] at t2; omega) o1 (by rw [gc 1 0 (by decide) (by decide) (by decide)] at o2; omega)⟩
  · rw [gl 4 _ (by decide) (by decide), a4 o t t1 t2]
    have h9 := a9 o.toNat (by omega)
    rw [show ((o.toNat : Nat) : Int) = o from by omega] at h9
    simp only [Nat.zero_testBit, Bool.false_eq_true, false_or] at h9
    congr 1
    apply propext
    constructor
    · rintro ⟨z1, z2, z3, z4, z5⟩
      exact ⟨z1, z4, h9.mpr ⟨z2, z3, z4, z5⟩⟩
    · rintro ⟨z1, z2, z3⟩
      obtain ⟨y1, y2, y3, y4⟩ := h9.mp z3
      exact ⟨z1, y1, y2, y3, y4⟩
end
