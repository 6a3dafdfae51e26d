set_option linter.all false
/-! CALLS THAT THE LAW MAKES ITSELF -/
section
variable {B : ab_B}
theorem mm_30 {g h : ab_H} {b : Nat} {r : Option Nat} (m : mm g h b) : mm g (ab_sr h 30 1 r) b := by
  obtain ⟨⟨m1, ⟨r1, r2, r3, r4, r5, r6⟩, m3, m4, m5⟩, f, c, k, n, p⟩ := m
  have e : ∀ c x, c ≠ 30 → ab_gr (ab_sr h 30 1 r) c x = ab_gr h c x := fun c x hc => by rw [ab_gr_sr, if_neg (fun q => hc q.1)]
  refine ⟨⟨m1, ⟨?_, ?_, ?_, ?_, ?_, ?_⟩, fun d d1 d2 => ?_, fun d d1 d2 => ?_, m5⟩, f, c, k, ?_, p.1, fun q => ?_⟩
  · rw [e 18 4 (by decide)]; exact r1
  · rw [e 18 5 (by decide)]; exact r2
  · rw [e 18 6 (by decide)]; exact r3
  · rw [e 18 7 (by decide)]; exact r4
  · rw [e 18 8 (by decide)]; exact r5
  · rw [e 18 21 (by decide)]; exact r6
  · rw [e b d (by omega), e (b + 1 + (ab_gi g 1 0).toNat) d (by omega)]; exact m3 d d1 d2
  · rw [e 24 d (by decide)]; exact m4 d d1 d2
  · rcases n with ⟨n1, n2⟩ | ⟨c, n1, n2⟩
    · exact Or.inl ⟨(e 18 9 (by decide)).trans n1, n2⟩
    · exact Or.inr ⟨c, (e 18 9 (by decide)).trans n1, n2⟩
  · rw [e 18 10 (by decide)]
    cases hx : pk_plan (mKK (ab_sr h 30 1 r)) (ab_gi g 1 0) with
    | none => have := p.2 q; rw [show mKK h = mKK (ab_sr h 30 1 r) from rfl, hx] at this; exact this
    | some y =>
      have := p.2 q
      rw [show mKK h = mKK (ab_sr h 30 1 r) from rfl, hx] at this
      obtain ⟨kc, k0, k1, a1, a2, a3, a4, a5⟩ := this
      by_cases z : kc = 30
      · exfalso; omega
      · exact ⟨kc, k0, k1, a1, a2, a3, by rw [e kc 0 z, e kc 1 z]; exact a4, a5⟩
/-- a call of both that each hands a number, of one word -/
def oQ (B : ab_B) (d Mc Mr : Nat) (lc lr : ab_M) (h : ab_H) : Prop := ∃ v h1 h2 b2, ab_E B d Mc 0 lc [] h = some (.inl (some (.inl v)), h1) ∧ ab_E B d Mr 0 lr [] h1 = some (.inl (some (.inl v)), h2) ∧ li h2 b2 ∧ (ab_sh h1)[18]? = some (8, 22) ∧ ab_kc h2 ≤ ab_kc h + 760 ∧ ab_ks h2 ≤ ab_ks h + 4000
/-- and of two -/
def oD (B : ab_B) (d Mc Mr : Nat) (lc lr : ab_M) (h : ab_H) : Prop := ∃ v h1 h2 b2, ab_E B d Mc 0 lc [] h = some (.inl (some (.inr (.inl v))), h1) ∧ ab_E B d Mr 0 lr [] h1 = some (.inl (some (.inr (.inl v))), h2) ∧ li h2 b2 ∧ (ab_sh h1)[18]? = some (8, 22) ∧ ab_kc h2 ≤ ab_kc h + 760 ∧ ab_ks h2 ≤ ab_ks h + 4000
/-- the rows: what they hand is a reference -/
def oT (B : ab_B) (d : Nat) (lw lr : ab_M) (h : ab_H) : Prop := ∃ k h1 v h2 b2, ab_E B d 182 0 lw [] h = some (.inl (some (.inl k)), h1) ∧ ab_E B d 154 0 lr [] h1 = some (.inl (some (.inr (.inr v))), h2) ∧ li h2 b2 ∧ ab_gi h2 18 0 = k ∧ (0 ≤ k ∧ k ≤ 3) ∧ (ab_sh h1)[18]? = some (8, 22) ∧ ab_kc h2 ≤ ab_kc h + 760 ∧ ab_ks h2 ≤ ab_ks h + 4000
theorem op_isSound {dd : Nat} {h : ab_H} {b : Nat} (L : li h b) : oQ B (dd + 17) 84 160 [some (.inr (.inr (.inl (some 0)))), none, none] [some (.inr (.inr (.inl (some 18))))] h := by
  have hN := L.N
  have a := m84 (B := B) (dd := dd + 12) L.1
  obtain ⟨h2, b2, r1, r2, r3, r4⟩ := n160 (B := B) (dd := dd + 7) L.1 L.2.1
  rw [mso_eq L.1.1] at r1
  exact ⟨_, h, h2, b2, a, r1, li_step L.1 (by omega) (fun _ _ _ => rfl) L.2.2 r2 r3, L.2.1.1.1.1, by have := r3.2.2.2.1; omega, by have := r3.2.2.2.2; omega⟩
theorem op_digest {dd : Nat} {h : ab_H} {b : Nat} (L : li h b) : oD B (dd + 17) 86 162 [some (.inr (.inr (.inl (some 0)))), none, none, none, none] [some (.inr (.inr (.inl (some 18)))), none, none, none, none, none] h := by
  have hN := L.N
  have a := m86 (B := B) (dd := dd + 10) L.1
  obtain ⟨h2, b2, r1, r2, r3, r4⟩ := n162 (B := B) (dd := dd + 7) L.1 L.2.1 hN
  rw [mdg_eq L.1.1] at r1
  exact ⟨_, h, h2, b2, a, r1, li_step L.1 (by omega) (fun _ _ _ => rfl) L.2.2 r2 r3, L.2.1.1.1.1, by have := r3.2.2.2.1; omega, by have := r3.2.2.2.2; omega⟩
theorem op_knock {dd : Nat} {h : ab_H} {b : Nat} (L : li h b) : oQ B (dd + 17) 85 161 [some (.inr (.inr (.inl (some 0))))] [some (.inr (.inr (.inl (some 18))))] h := by
  have hN := L.N
  have i := L.1
  have a := m85 (B := B) (dd := dd + 17) i.1.1
  have f : ∀ c x, ¬ (c = 0 ∧ x = 12) → ab_gi (ab_si h 0 12 (ab_gi h 0 12 + 1)) c x = ab_gi h c x := fun c x hc => by rw [ab_gi_si, if_neg hc]
  have m1 : mm h (ab_si h 0 12 (ab_gi h 0 12 + 1)) b := mm_of L.2.1 (fun _ _ q => q) (fun _ _ _ _ => rfl) (fun c x hc _ _ => f c x (by omega))
  obtain ⟨h2, b2, r1, r2, r3, r4⟩ := n161 (B := B) (dd := dd + 17) m1
  have i1 : ci (ab_si h 0 12 (ab_gi h 0 12 + 1)) := ci_of i (cs_R_of i.1 (show cs_L h from i.1.1) (fun c x _ q => f c x (by omega))) (fun x => f 1 x (by omega)) (fun c x _ q => f c x (by omega)) (by rw [f 0 2 (by omega)]; exact i.2.2.1) (cn_of i.2.2.2.1 (cs_B_of (f 1 0 (by omega)) (f 1 1 (by omega))) (fun x _ _ => f 0 x (by omega))) (by rw [f 0 6 (by omega)]; exact i.2.2.2.2.1) (by rw [f 0 7 (by omega)]; exact i.2.2.2.2.2)
  exact ⟨_, _, h2, b2, a, r1, li_step i1 (by show 18 ≤ ab_n h; omega) (fun _ _ _ => rfl) L.2.2 r2 r3, L.2.1.1.1.1, by have := r3.2.2.2.1; show _ ≤ ab_kc (ab_si h 0 12 (ab_gi h 0 12 + 1)) + _; omega, by have := r3.2.2.2.2; show _ ≤ ab_ks (ab_si h 0 12 (ab_gi h 0 12 + 1)) + _; omega⟩
theorem op_row {dd : Nat} {t : Int} {h : ab_H} {b : Nat} (L : li h b) (rt1 : -2147483648 ≤ t) (rt2 : t < 2147483648) : oT B (dd + 17) [some (.inr (.inr (.inl (some 0)))), some (.inl t), some (.inr (.inr (.inl (some 30)))), none] [some (.inr (.inr (.inl (some 18)))), some (.inl t), none, none] h := by
  have i := L.1
  have m := L.2.1
  have hL := i.1.1
  have hN := L.N
  have s30 := L.2.2
  by_cases c : 0 ≤ t ∧ t < ab_gi h 1 1
  · obtain ⟨hc, r, a, N⟩ := m80 (B := B) (dd := dd + 10) i hN c.1 c.2
    have ic : ci hc := N.ci i (by omega)
    have s30c : (ab_sh hc)[30]? = some (7, 2) := by
      obtain ⟨l, e⟩ := N.1
      exact ab_sh_pre e s30
    have s18c : (ab_sh hc)[18]? = some (8, 22) := by
      obtain ⟨l, e⟩ := N.1
      exact ab_sh_pre e m.1.1.1
    have m1 : mm h (ab_sr hc 30 1 (some r)) b := mm_30 (N.mm m)
    have i1 : ci (ab_sr hc 30 1 (some r)) := ci_fr ic (cs_L_of ic.1.1 (fun _ _ => rfl) (fun c x hc => by rw [ab_gr_sr, if_neg (by omega)])) (fun _ _ _ => rfl)
    have hN1 : 31 ≤ ab_n (ab_sr hc 30 1 (some r)) := ab_sh_lt s30c
    obtain ⟨h2, v, r1, r2, r3, r4⟩ := n154 (B := B) (dd := dd + 11) i m1 hN1 c.1 c.2
    refine ⟨0, _, _, h2, b, ?_, r1, li_step i1 (by omega) (fun c x q => (N.2.1 c x (by omega)).1) s30c r2 r3, r4, ⟨by omega, by omega⟩, s18c, ?_, ?_⟩
    · simp (disch := omega) only [e182_0, e182_1, e182_2, e182_3, e182_6, e182_9, e182_13, e182_14, e182_15, e182_16, implies_true, Int.reduceSub, Option.isNone_some, Option.isNone_none, ab_bh_some, ab_bh_thr, ab_gs_3, ab_gl_2, ab_gl_3, ab_gt_some, ab_gc_0, ab_gk_0, Bool.false_eq_true, Bool.true_eq_false, false_implies, Nat.reduceEqDiff, ab_ge, ab_lt, ab_le, ab_gt, ab_eq, ab_ne, decide_eq_true_eq, ab_w_id, ab_w0, ab_gd_some, ab_gs_0, ab_gs_1, ab_gl_0, ab_gl_1, ab_bv_some, ab_bu_some, ab_bv_thr, ab_bu_thr, ab_fx_n, ab_fx_i, ab_fx_q, ab_fx_l, ab_sh_si, ab_gr_si, ab_gl_si, cs_n, ↓reduceIte, true_or, or_true, false_or, or_false, and_true, true_and, and_false, false_and, not_true_eq_false, not_false_eq_true, eq_self, Int.reduceEq, Int.reduceLT, Int.reduceLE, Int.reduceAdd, Int.reduceMul, Int.reduceNeg, if_pos, if_neg, hL.1, a, s30c]
    · have h1 := r3.2.2.2.1
      have h2 := N.2.2.1
      rw [show ab_kc (ab_sr hc 30 1 (some r)) = ab_kc hc from rfl] at h1
      omega
    · have h1 := r3.2.2.2.2
      have h2 := N.2.2.2
      rw [show ab_ks (ab_sr hc 30 1 (some r)) = ab_ks hc from rfl] at h1
      omega
  · have mc := mm_cost (c := 1) (s := 6) m
    have a := m80_2 (B := B) (dd := dd + 15) i rt1 rt2 c
    have r1 := n154_1 (B := B) (dd := dd + 15) i mc rt1 rt2 c
    refine ⟨1, ab_cost h 1 6, _, _, b, ?_, r1, li_step (ci_cost i) (by show 18 ≤ ab_n h; omega) (fun _ _ _ => rfl) s30 (mm_thr mc) (mE.si (by omega)), mt_t _ 1, ⟨by omega, by omega⟩, m.1.1.1, ?_, ?_⟩
    · simp (disch := omega) only [e182_0, e182_1, e182_2, e182_3, e182_6, e182_9, e182_13, e182_14, e182_15, e182_16, implies_true, Int.reduceSub, Option.isNone_some, Option.isNone_none, ab_bh_some, ab_bh_thr, ab_gs_3, ab_gl_2, ab_gl_3, ab_gt_some, ab_gc_0, ab_gk_0, Bool.false_eq_true, Bool.true_eq_false, false_implies, Nat.reduceEqDiff, ab_ge, ab_lt, ab_le, ab_gt, ab_eq, ab_ne, decide_eq_true_eq, ab_w_id, ab_w0, ab_gd_some, ab_gs_0, ab_gs_1, ab_gl_0, ab_gl_1, ab_bv_some, ab_bu_some, ab_bv_thr, ab_bu_thr, ab_fx_n, ab_fx_i, ab_fx_q, ab_fx_l, ab_sh_si, ab_gr_si, ab_gl_si, cs_n, ↓reduceIte, true_or, or_true, false_or, or_false, and_true, true_and, and_false, false_and, not_true_eq_false, not_false_eq_true, eq_self, Int.reduceEq, Int.reduceLT, Int.reduceLE, Int.reduceAdd, Int.reduceMul, Int.reduceNeg, if_pos, if_neg, hL.1, a]
    · show ab_kc h + 1 ≤ _; omega
    · show ab_ks h + 6 ≤ _; omega
end
