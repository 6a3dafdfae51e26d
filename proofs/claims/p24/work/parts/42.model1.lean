set_option linter.all false
/-! THE REFERENCE: how it lies in the heap -/
section
variable {B : ab_B}
def mL (h : ab_H) (b : Nat) (D S : Int) : Prop :=
  ((ab_sh h)[18]? = some (8, 22) ∧ (ab_sh h)[24]? = some (2, 5) ∧ (ab_sh h)[b]? = some (2, D.toNat) ∧ (ab_sh h)[b + 1 + D.toNat]? = some (2, D.toNat) ∧ (ab_sh h)[b + 2 + 2 * D.toNat]? = some (1, D.toNat) ∧ (ab_sh h)[b + 3 + 2 * D.toNat]? = some (0, D.toNat) ∧ (ab_sh h)[b + 4 + 2 * D.toNat]? = some (0, ((D - 1) * S).toNat)) ∧
  (ab_gr h 18 4 = some b ∧ ab_gr h 18 5 = some (b + 1 + D.toNat) ∧ ab_gr h 18 6 = some (b + 2 + 2 * D.toNat) ∧ ab_gr h 18 7 = some (b + 3 + 2 * D.toNat) ∧ ab_gr h 18 8 = some (b + 4 + 2 * D.toNat) ∧ ab_gr h 18 21 = some 24) ∧
  (∀ d, 0 ≤ d → d < D → ab_gr h b d = some (b + 1 + d.toNat) ∧ (ab_sh h)[b + 1 + d.toNat]? = some (0, S.toNat) ∧ ab_gr h (b + 1 + D.toNat) d = some (b + 2 + D.toNat + d.toNat) ∧ (ab_sh h)[b + 2 + D.toNat + d.toNat]? = some (0, S.toNat)) ∧
  (∀ d, 0 ≤ d → d < 5 → ab_gr h 24 d = some (25 + d.toNat) ∧ (ab_sh h)[25 + d.toNat]? = some (0, 3)) ∧ (b = 19 ∧ D = 0 ∨ 31 ≤ b)
/-- its fields are the class's -/
def mF (g h : ab_H) : Prop := ab_gi h 18 1 = ab_gi g 1 0 ∧ ab_gi h 18 2 = ab_gi g 1 1 ∧ ab_gi h 18 3 = ab_gi g 0 2 ∧ ab_gi h 18 12 = ab_gi g 0 6 ∧ ab_gi h 18 13 = ab_gi g 0 7 ∧ ab_gi h 18 14 = ab_gi g 0 8 ∧ ab_gi h 18 15 = ab_gi g 0 9 ∧ ab_gi h 18 16 = ab_gi g 0 10 ∧ ab_gi h 18 17 = ab_gi g 0 11 ∧ ab_gi h 18 18 = ab_gi g 0 12
/-- its cells are the class's -/
def mC (g h : ab_H) (b : Nat) (D S : Int) : Prop := (∀ d s, 0 ≤ d → d < D → 0 ≤ s → s < S → ab_gi h (b + 1 + d.toNat) s = ab_gi g 2 (d * 8 + s) ∧ ab_gi h (b + 2 + D.toNat + d.toNat) s = ab_gi g 3 (d * 8 + s)) ∧ (∀ d, 0 ≤ d → d < D → ab_gi h (b + 2 + 2 * D.toNat) d = ab_gi g 5 d ∧ ab_gi h (b + 3 + 2 * D.toNat) d = ab_gi g 6 d) ∧ (∀ k, 0 ≤ k → k < (D - 1) * S → ab_gi h (b + 4 + 2 * D.toNat) k = ab_gi g 4 (cs_dk D k * 8 + k / (D - 1)))
def mKK (h : ab_H) : pk_K := (fun d => if 0 ≤ d ∧ d < 5 then ab_gi h (25 + d.toNat) 0 else 0, fun d => if 0 ≤ d ∧ d < 5 then ab_gi h (25 + d.toNat) 1 else 0, fun d => if 0 ≤ d ∧ d < 5 then ab_gi h (25 + d.toNat) 2 else 0, ab_gi h 18 19, ab_gi h 18 20)
/-- its note is the class's -/
def mN (g h : ab_H) (b : Nat) (D : Int) : Prop := (ab_gr h 18 9 = none ∧ ab_gi g 0 3 = -1 ∧ ab_gi g 0 4 = -1 ∧ ab_gi g 0 5 = -1) ∨ ∃ c, ab_gr h 18 9 = some c ∧ (b + 4 + 2 * D.toNat < c ∧ 31 ≤ c) ∧ (ab_sh h)[c]? = some (0, 3) ∧ ab_gi h c 0 = ab_gi g 0 3 ∧ ab_gi h c 1 = ab_gi g 0 4 ∧ ab_gi h c 2 = ab_gi g 0 5 ∧ 0 ≤ ab_gi g 0 3
/-- a plan as it keeps it -/
def mX (h : ab_H) (b : Nat) (D : Int) (r : Option Nat) (c : pk_X) : Prop := match c with
  | none => r = none
  | some y => ∃ kc k0 k1, r = some kc ∧ ((b + 4 + 2 * D.toNat < kc ∧ 31 ≤ kc) ∧ (b + 4 + 2 * D.toNat < k0 ∧ 31 ≤ k0) ∧ (b + 4 + 2 * D.toNat < k1 ∧ 31 ≤ k1)) ∧ ((ab_sh h)[kc]? = some (2, 2) ∧ (ab_sh h)[k0]? = some (0, D.toNat) ∧ (ab_sh h)[k1]? = some (0, D.toNat)) ∧ (ab_gr h kc 0 = some k0 ∧ ab_gr h kc 1 = some k1) ∧ (∀ d, 0 ≤ d → d < D → ab_gi h k0 d = y.1 d ∧ ab_gi h k1 (y.2 d) = d) ∧ (∀ k, 0 ≤ k → k < D → 0 ≤ ab_gi h k1 k ∧ ab_gi h k1 k < D ∧ y.2 (ab_gi h k1 k) = k)
def mP (h : ab_H) (b : Nat) (D : Int) : Prop := (ab_gi h 18 11 = 0 ∨ ab_gi h 18 11 = 1) ∧ (ab_gi h 18 11 = 1 → mX h b D (ab_gr h 18 10) (pk_plan (mKK h) D))
/-- the reference in h is what the class is in g -/
def mm (g h : ab_H) (b : Nat) : Prop := mL h b (ab_gi g 1 0) (ab_gi g 1 1) ∧ mF g h ∧ mC g h b (ab_gi g 1 0) (ab_gi g 1 1) ∧ mKK h = ck_K g ∧ mN g h b (ab_gi g 1 0) ∧ mP h b (ab_gi g 1 0)
theorem ab_sh_lt {h : ab_H} {i : Nat} {x : Nat × Nat} (e : (ab_sh h)[i]? = some x) : i < ab_n h := (List.getElem?_eq_some_iff.mp e).1
theorem ab_sh_pre {h h' : ab_H} {l : List (Nat × Nat)} (e : ab_sh h' = ab_sh h ++ l) {i : Nat} {x : Nat × Nat} (q : (ab_sh h)[i]? = some x) : (ab_sh h')[i]? = some x := by
  rw [e, List.getElem?_append_left (List.getElem?_eq_some_iff.mp q).1]; exact q
theorem mL_of {h h' : ab_H} {b : Nat} {D S : Int} (m : mL h b D S) (e1 : ∀ (i : Nat) (x : Nat × Nat), (ab_sh h)[i]? = some x → (ab_sh h')[i]? = some x) (e2 : ∀ c x, 18 ≤ c → c < ab_n h → ¬ (c = 18 ∧ (x = 9 ∨ x = 10)) → ab_gr h' c x = ab_gr h c x) : mL h' b D S := by
  obtain ⟨⟨s1, s2, s3, s4, s5, s6, s7⟩, ⟨r1, r2, r3, r4, r5, r6⟩, m3, m4, m5⟩ := m
  have b18 : 18 ≤ b := by omega
  refine ⟨⟨e1 _ _ s1, e1 _ _ s2, e1 _ _ s3, e1 _ _ s4, e1 _ _ s5, e1 _ _ s6, e1 _ _ s7⟩, ⟨?_, ?_, ?_, ?_, ?_, ?_⟩, fun d d1 d2 => ?_, fun d d1 d2 => ?_, m5⟩
  · rw [e2 18 4 (by omega) (ab_sh_lt s1) (by omega)]; exact r1
  · rw [e2 18 5 (by omega) (ab_sh_lt s1) (by omega)]; exact r2
  · rw [e2 18 6 (by omega) (ab_sh_lt s1) (by omega)]; exact r3
  · rw [e2 18 7 (by omega) (ab_sh_lt s1) (by omega)]; exact r4
  · rw [e2 18 8 (by omega) (ab_sh_lt s1) (by omega)]; exact r5
  · rw [e2 18 21 (by omega) (ab_sh_lt s1) (by omega)]; exact r6
  · obtain ⟨q1, q2, q3, q4⟩ := m3 d d1 d2
    rw [e2 b d b18 (ab_sh_lt s3) (by omega), e2 (b + 1 + D.toNat) d (by omega) (ab_sh_lt s4) (by omega)]
    exact ⟨q1, e1 _ _ q2, q3, e1 _ _ q4⟩
  · obtain ⟨q1, q2⟩ := m4 d d1 d2
    rw [e2 24 d (by omega) (ab_sh_lt s2) (by omega)]
    exact ⟨q1, e1 _ _ q2⟩
theorem mX_of {h h' : ab_H} {b : Nat} {D : Int} {r : Option Nat} {c : pk_X} (m : mX h b D r c) (e1 : ∀ (i : Nat) (x : Nat × Nat), (ab_sh h)[i]? = some x → (ab_sh h')[i]? = some x) (e2 : ∀ c x, 31 ≤ c → c < ab_n h → b + 4 + 2 * D.toNat < c → ab_gr h' c x = ab_gr h c x ∧ ab_gi h' c x = ab_gi h c x) : mX h' b D r c := by
  cases c with
  | none => exact m
  | some y =>
    obtain ⟨kc, k0, k1, m1, ⟨⟨a1, a2⟩, ⟨a3, a4⟩, a5, a6⟩, ⟨s1, s2, s3⟩, ⟨r1, r2⟩, m5, m6⟩ := m
    have f0 := fun x => (e2 k0 x a4 (ab_sh_lt s2) a3).2
    have f1 := fun x => (e2 k1 x a6 (ab_sh_lt s3) a5).2
    refine ⟨kc, k0, k1, m1, ⟨⟨a1, a2⟩, ⟨a3, a4⟩, a5, a6⟩, ⟨e1 _ _ s1, e1 _ _ s2, e1 _ _ s3⟩, ⟨?_, ?_⟩, fun d d1 d2 => ?_, fun k k1 k2 => ?_⟩
    · rw [(e2 kc 0 a2 (ab_sh_lt s1) a1).1]; exact r1
    · rw [(e2 kc 1 a2 (ab_sh_lt s1) a1).1]; exact r2
    · rw [f0, f1]; exact m5 d d1 d2
    · rw [f1]; exact m6 k k1 k2
theorem mKK_of {h h' : ab_H} (e : ∀ c x, 25 ≤ c → c < 30 → ab_gi h' c x = ab_gi h c x) (e1 : ab_gi h' 18 19 = ab_gi h 18 19) (e2 : ab_gi h' 18 20 = ab_gi h 18 20) : mKK h' = mKK h := by
  unfold mKK
  rw [e1, e2]
  refine Prod.ext (funext fun d => ?_) (Prod.ext (funext fun d => ?_) (Prod.ext (funext fun d => ?_) rfl))
  all_goals
    dsimp only
    by_cases c : 0 ≤ d ∧ d < 5
    · rw [if_pos c, if_pos c, e _ _ (by omega) (by omega)]
    · rw [if_neg c, if_neg c]
/-- the reference alone: what it makes is new, what was there stays -/
theorem mm_of {g h h' : ab_H} {b : Nat} (m : mm g h b) (e1 : ∀ (i : Nat) (x : Nat × Nat), (ab_sh h)[i]? = some x → (ab_sh h')[i]? = some x) (e3 : ∀ c x, 18 ≤ c → c < ab_n h → ab_gr h' c x = ab_gr h c x) (e2 : ∀ c x, 18 ≤ c → c < ab_n h → ¬ (c = 18 ∧ x = 0) → ab_gi h' c x = ab_gi h c x) : mm g h' b := by
  obtain ⟨m1, m2, m3, m4, m5, m6⟩ := m
  have hL := m1
  obtain ⟨⟨s1, s2, s3, s4, s5, s6, s7⟩, -, hr, hk, hb⟩ := hL
  have l18 := ab_sh_lt s1
  have f18 := fun x (hx : x ≠ 0) => e2 18 x (by omega) l18 (by omega)
  have gr18 := fun x => e3 18 x (by omega) l18
  have eK : mKK h' = mKK h := mKK_of (fun c x c1 c2 => by
    have := (hk ((c : Int) - 25) (by omega) (by omega)).2
    rw [show 25 + ((c : Int) - 25).toNat = c from by omega] at this
    exact e2 c x (by omega) (ab_sh_lt this) (by omega)) (f18 19 (by decide)) (f18 20 (by decide))
  refine ⟨mL_of m1 e1 (fun c x c1 c2 _ => e3 c x c1 c2), ?_, ?_, eK.trans m4, ?_, ?_⟩
  · obtain ⟨a1, a2, a3, a4, a5, a6, a7, a8, a9, a10⟩ := m2
    exact ⟨(f18 1 (by decide)).trans a1, (f18 2 (by decide)).trans a2, (f18 3 (by decide)).trans a3, (f18 12 (by decide)).trans a4, (f18 13 (by decide)).trans a5, (f18 14 (by decide)).trans a6, (f18 15 (by decide)).trans a7, (f18 16 (by decide)).trans a8, (f18 17 (by decide)).trans a9, (f18 18 (by decide)).trans a10⟩
  · obtain ⟨c1, c2, c3⟩ := m3
    refine ⟨fun d s d1 d2 s1 s2 => ?_, fun d d1 d2 => ?_, fun k k1 k2 => ?_⟩
    · obtain ⟨q1, q2, q3, q4⟩ := hr d d1 d2
      rw [e2 _ s (by omega) (ab_sh_lt q2) (by omega), e2 _ s (by omega) (ab_sh_lt q4) (by omega)]
      exact c1 d s d1 d2 s1 s2
    · rw [e2 _ d (by omega) (ab_sh_lt s5) (by omega), e2 _ d (by omega) (ab_sh_lt s6) (by omega)]
      exact c2 d d1 d2
    · rw [e2 _ k (by omega) (ab_sh_lt s7) (by omega)]
      exact c3 k k1 k2
  · rcases m5 with ⟨n1, n2⟩ | ⟨c, n1, n2, n3, n4, n5, n6, n7⟩
    · exact Or.inl ⟨(gr18 9).trans n1, n2⟩
    · have f := fun x => e2 c x (by omega) (ab_sh_lt n3) (by omega)
      exact Or.inr ⟨c, (gr18 9).trans n1, n2, e1 _ _ n3, (f 0).trans n4, (f 1).trans n5, (f 2).trans n6, n7⟩
  · refine ⟨by rw [f18 11 (by decide)]; exact m6.1, fun q => ?_⟩
    rw [f18 11 (by decide)] at q
    rw [gr18 10, eK]
    exact mX_of (m6.2 q) e1 (fun c x c1 c2 _ => ⟨e3 c x (by omega) c2, e2 c x (by omega) c2 (by omega)⟩)
/-- what a call of the reference may do to the rest -/
def mE (h h' : ab_H) (k s : Nat) : Prop := (∃ l, ab_sh h' = ab_sh h ++ l) ∧ (∀ c x, c < 18 → ab_gi h' c x = ab_gi h c x ∧ ab_gr h' c x = ab_gr h c x) ∧ ab_gl h' 30 0 = ab_gl h 30 0 ∧ ab_kc h' ≤ ab_kc h + k ∧ ab_ks h' ≤ ab_ks h + s
theorem mE.rf {h : ab_H} {k s : Nat} : mE h h k s := ⟨⟨[], by simp⟩, fun _ _ _ => ⟨rfl, rfl⟩, rfl, Nat.le_add_right _ _, Nat.le_add_right _ _⟩
theorem mE.trans {h h' h2 : ab_H} {k s k' s' : Nat} (a : mE h h' k s) (b : mE h' h2 k' s') : mE h h2 (k + k') (s + s') := by
  obtain ⟨⟨l, a1⟩, a2, a3, a4, a5⟩ := a
  obtain ⟨⟨l', b1⟩, b2, b3, b4, b5⟩ := b
  exact ⟨⟨l ++ l', by rw [b1, a1, List.append_assoc]⟩, fun c x hc => ⟨(b2 c x hc).1.trans (a2 c x hc).1, (b2 c x hc).2.trans (a2 c x hc).2⟩, b3.trans a3, by omega, by omega⟩
theorem mE.mono {h h' : ab_H} {k s k' s' : Nat} (a : mE h h' k s) (hk : k ≤ k') (hs : s ≤ s') : mE h h' k' s' := ⟨a.1, a.2.1, a.2.2.1, by have := a.2.2.2.1; omega, by have := a.2.2.2.2; omega⟩
theorem mE.sh {h h' : ab_H} {k s : Nat} (a : mE h h' k s) : ∀ (i : Nat) (x : Nat × Nat), (ab_sh h)[i]? = some x → (ab_sh h')[i]? = some x := fun _ _ q => by
  obtain ⟨l, e⟩ := a.1
  exact ab_sh_pre e q
theorem mE.n {h h' : ab_H} {k s : Nat} (a : mE h h' k s) : ab_n h ≤ ab_n h' := by
  obtain ⟨l, e⟩ := a.1
  unfold ab_n
  rw [e, List.length_append]
  omega
theorem mE.si {h : ab_H} {c : Nat} {x v : Int} (hc : 18 ≤ c) : mE h (ab_si h c x v) 0 0 := ⟨⟨[], by simp [ab_sh_si]⟩, fun c' x' h' => ⟨by rw [ab_gi_si, if_neg (by omega)], rfl⟩, rfl, Nat.le_refl _, Nat.le_refl _⟩
theorem mE.sr {h : ab_H} {c : Nat} {x : Int} {v : Option Nat} (hc : 18 ≤ c) : mE h (ab_sr h c x v) 0 0 := ⟨⟨[], by simp [ab_sh_sr]⟩, fun c' x' h' => ⟨rfl, by rw [ab_gr_sr, if_neg (by omega)]⟩, rfl, Nat.le_refl _, Nat.le_refl _⟩
theorem mm_thr {g h : ab_H} {b : Nat} {v : Int} (m : mm g h b) : mm g (ab_si h 18 0 v) b := mm_of m (fun _ _ q => q) (fun _ _ _ _ => rfl) (fun c x _ _ q => by rw [ab_gi_si, if_neg q])
/-! its small methods -/
theorem n100 {dd : Nat} {v l u : Int} {h : ab_H} (v1 : -2147483648 ≤ v) (v2 : v < 2147483648) (l1 : -2147483648 ≤ l) (l2 : l < 2147483648) (u1 : -2147483648 ≤ u) (u2 : u < 2147483648) :
    ab_E B dd 100 0 [some (.inl v), some (.inl l), some (.inl u)] [] h = some (.inl (some (.inl (if l ≤ v ∧ v ≤ u then 1 else 0))), h) := by
  by_cases c1 : l ≤ v
  · by_cases c2 : v ≤ u
    · rw [if_pos ⟨c1, c2⟩]
      simp (disch := omega) only [e100_0, e100_1, e100_2, e100_5, e100_6, e100_7, e100_10, e100_11, e100_14, e100_15, implies_true, Int.reduceSub, Option.isNone_some, Option.isNone_none, ab_bh_some, ab_bh_thr, ab_gs_3, ab_gl_2, ab_gl_3, ab_gt_some, ab_gc_0, ab_gk_0, Bool.false_eq_true, Bool.true_eq_false, false_implies, Nat.reduceEqDiff, ab_ge, ab_lt, ab_le, ab_gt, ab_eq, ab_ne, decide_eq_true_eq, ab_w_id, ab_w0, ab_gd_some, ab_gs_0, ab_gs_1, ab_gl_0, ab_gl_1, ab_bv_some, ab_bu_some, ab_bv_thr, ab_bu_thr, ab_fx_n, ab_fx_i, ab_fx_q, ab_fx_l, ab_sh_si, ab_gr_si, ab_gl_si, cs_n, ↓reduceIte, true_or, or_true, false_or, or_false, and_true, true_and, and_false, false_and, not_true_eq_false, not_false_eq_true, eq_self, Int.reduceEq, Int.reduceLT, Int.reduceLE, Int.reduceAdd, Int.reduceMul, Int.reduceNeg, if_pos, if_neg]
    · rw [if_neg (fun q => c2 q.2)]
      simp (disch := omega) only [e100_0, e100_1, e100_2, e100_5, e100_6, e100_7, e100_10, e100_11, e100_14, e100_15, implies_true, Int.reduceSub, Option.isNone_some, Option.isNone_none, ab_bh_some, ab_bh_thr, ab_gs_3, ab_gl_2, ab_gl_3, ab_gt_some, ab_gc_0, ab_gk_0, Bool.false_eq_true, Bool.true_eq_false, false_implies, Nat.reduceEqDiff, ab_ge, ab_lt, ab_le, ab_gt, ab_eq, ab_ne, decide_eq_true_eq, ab_w_id, ab_w0, ab_gd_some, ab_gs_0, ab_gs_1, ab_gl_0, ab_gl_1, ab_bv_some, ab_bu_some, ab_bv_thr, ab_bu_thr, ab_fx_n, ab_fx_i, ab_fx_q, ab_fx_l, ab_sh_si, ab_gr_si, ab_gl_si, cs_n, ↓reduceIte, true_or, or_true, false_or, or_false, and_true, true_and, and_false, false_and, not_true_eq_false, not_false_eq_true, eq_self, Int.reduceEq, Int.reduceLT, Int.reduceLE, Int.reduceAdd, Int.reduceMul, Int.reduceNeg, if_pos, if_neg]
  · rw [if_neg (fun q => c1 q.1)]
    simp (disch := omega) only [e100_0, e100_1, e100_2, e100_5, e100_6, e100_7, e100_10, e100_11, e100_14, e100_15, implies_true, Int.reduceSub, Option.isNone_some, Option.isNone_none, ab_bh_some, ab_bh_thr, ab_gs_3, ab_gl_2, ab_gl_3, ab_gt_some, ab_gc_0, ab_gk_0, Bool.false_eq_true, Bool.true_eq_false, false_implies, Nat.reduceEqDiff, ab_ge, ab_lt, ab_le, ab_gt, ab_eq, ab_ne, decide_eq_true_eq, ab_w_id, ab_w0, ab_gd_some, ab_gs_0, ab_gs_1, ab_gl_0, ab_gl_1, ab_bv_some, ab_bu_some, ab_bv_thr, ab_bu_thr, ab_fx_n, ab_fx_i, ab_fx_q, ab_fx_l, ab_sh_si, ab_gr_si, ab_gl_si, cs_n, ↓reduceIte, true_or, or_true, false_or, or_false, and_true, true_and, and_false, false_and, not_true_eq_false, not_false_eq_true, eq_self, Int.reduceEq, Int.reduceLT, Int.reduceLE, Int.reduceAdd, Int.reduceMul, Int.reduceNeg, if_pos, if_neg]
/-- what refuses a call: the number is told -/
def mt (h : ab_H) (v : Int) : ab_H := ab_si h 18 0 v
theorem mt_mt (h : ab_H) (v w : Int) : mt (mt h v) w = mt h w := by
  unfold mt ab_si
  refine Prod.ext (funext fun c => funext fun x => ?_) rfl
  by_cases q : c = 18 ∧ x = 0
  · simp only [if_pos q]
  · simp only [if_neg q]
theorem mt_t (h : ab_H) (v : Int) : ab_gi (mt h v) 18 0 = v := by unfold mt; rw [ab_gi_si, if_pos ⟨rfl, rfl⟩]
theorem n101_0 {dd : Nat} {w : Int} {h : ab_H} (hs : (ab_sh h)[18]? = some (8, 22)) (ht : ab_gi h 18 0 = 0) : ab_E B dd 101 0 [some (.inr (.inr (.inl (some 18)))), some (.inl 0), some (.inl w)] [] h = some (.inl (some (.inl 0)), h) := by
  simp (disch := omega) only [e101_0, e101_1, e101_4, e101_5, e101_8, e101_11, e101_12, e101_13, e101_16, e101_17, e101_20, e101_23, e101_24, e101_27, e101_28, implies_true, Int.reduceSub, Option.isNone_some, Option.isNone_none, ab_bh_some, ab_bh_thr, ab_gs_3, ab_gl_2, ab_gl_3, ab_gt_some, ab_gc_0, ab_gk_0, Bool.false_eq_true, Bool.true_eq_false, false_implies, Nat.reduceEqDiff, ab_ge, ab_lt, ab_le, ab_gt, ab_eq, ab_ne, decide_eq_true_eq, ab_w_id, ab_w0, ab_gd_some, ab_gs_0, ab_gs_1, ab_gl_0, ab_gl_1, ab_bv_some, ab_bu_some, ab_bv_thr, ab_bu_thr, ab_fx_n, ab_fx_i, ab_fx_q, ab_fx_l, ab_sh_si, ab_gr_si, ab_gl_si, cs_n, ↓reduceIte, true_or, or_true, false_or, or_false, and_true, true_and, and_false, false_and, not_true_eq_false, not_false_eq_true, eq_self, Int.reduceEq, Int.reduceLT, Int.reduceLE, Int.reduceAdd, Int.reduceMul, Int.reduceNeg, if_pos, if_neg, hs, ht]
theorem n101_1 {dd : Nat} {w : Int} {h : ab_H} (hs : (ab_sh h)[18]? = some (8, 22)) (ht : ab_gi h 18 0 = 0) (w1 : 1 ≤ w) (w2 : w ≤ 9) : ab_E B dd 101 0 [some (.inr (.inr (.inl (some 18)))), some (.inl 1), some (.inl w)] [] h = some (.inl (some (.inl 1)), mt h w) := by
  have e := mt_t h w
  unfold mt at e ⊢
  simp (disch := omega) only [e101_0, e101_1, e101_4, e101_5, e101_8, e101_11, e101_12, e101_13, e101_16, e101_17, e101_20, e101_23, e101_24, e101_27, e101_28, implies_true, Int.reduceSub, Option.isNone_some, Option.isNone_none, ab_bh_some, ab_bh_thr, ab_gs_3, ab_gl_2, ab_gl_3, ab_gt_some, ab_gc_0, ab_gk_0, Bool.false_eq_true, Bool.true_eq_false, false_implies, Nat.reduceEqDiff, ab_ge, ab_lt, ab_le, ab_gt, ab_eq, ab_ne, decide_eq_true_eq, ab_w_id, ab_w0, ab_gd_some, ab_gs_0, ab_gs_1, ab_gl_0, ab_gl_1, ab_bv_some, ab_bu_some, ab_bv_thr, ab_bu_thr, ab_fx_n, ab_fx_i, ab_fx_q, ab_fx_l, ab_sh_si, ab_gr_si, ab_gl_si, cs_n, ↓reduceIte, true_or, or_true, false_or, or_false, and_true, true_and, and_false, false_and, not_true_eq_false, not_false_eq_true, eq_self, Int.reduceEq, Int.reduceLT, Int.reduceLE, Int.reduceAdd, Int.reduceMul, Int.reduceNeg, if_pos, if_neg, hs, ht, e]
theorem n102_0 {dd : Nat} {w : Int} {h : ab_H} (hs : (ab_sh h)[18]? = some (8, 22)) : ab_E B (dd + 1) 102 0 [some (.inr (.inr (.inl (some 18)))), some (.inl 0), some (.inl w)] [] h = some (.inl (some (.inl 0)), mt h 0) := by
  have e : ab_E B dd 101 0 [some (.inr (.inr (.inl (some 18)))), some (.inl 0), some (.inl w)] [] (ab_si h 18 0 0) = some (.inl (some (.inl 0)), mt h 0) := n101_0 hs (mt_t h 0)
  simp (disch := omega) only [e102_0, e102_1, e102_2, e102_5, e102_6, e102_7, e102_8, e102_11, implies_true, Int.reduceSub, Option.isNone_some, Option.isNone_none, ab_bh_some, ab_bh_thr, ab_gs_3, ab_gl_2, ab_gl_3, ab_gt_some, ab_gc_0, ab_gk_0, Bool.false_eq_true, Bool.true_eq_false, false_implies, Nat.reduceEqDiff, ab_ge, ab_lt, ab_le, ab_gt, ab_eq, ab_ne, decide_eq_true_eq, ab_w_id, ab_w0, ab_gd_some, ab_gs_0, ab_gs_1, ab_gl_0, ab_gl_1, ab_bv_some, ab_bu_some, ab_bv_thr, ab_bu_thr, ab_fx_n, ab_fx_i, ab_fx_q, ab_fx_l, ab_sh_si, ab_gr_si, ab_gl_si, cs_n, ↓reduceIte, true_or, or_true, false_or, or_false, and_true, true_and, and_false, false_and, not_true_eq_false, not_false_eq_true, eq_self, Int.reduceEq, Int.reduceLT, Int.reduceLE, Int.reduceAdd, Int.reduceMul, Int.reduceNeg, if_pos, if_neg, hs, e]
theorem n102_1 {dd : Nat} {w : Int} {h : ab_H} (hs : (ab_sh h)[18]? = some (8, 22)) (w1 : 1 ≤ w) (w2 : w ≤ 9) : ab_E B (dd + 1) 102 0 [some (.inr (.inr (.inl (some 18)))), some (.inl 1), some (.inl w)] [] h = some (.inl (some (.inl 1)), mt h w) := by
  have e : ab_E B dd 101 0 [some (.inr (.inr (.inl (some 18)))), some (.inl 1), some (.inl w)] [] (ab_si h 18 0 0) = some (.inl (some (.inl 1)), mt h w) := (n101_1 (h := mt h 0) hs (mt_t h 0) w1 w2).trans (by rw [mt_mt])
  simp (disch := omega) only [e102_0, e102_1, e102_2, e102_5, e102_6, e102_7, e102_8, e102_11, implies_true, Int.reduceSub, Option.isNone_some, Option.isNone_none, ab_bh_some, ab_bh_thr, ab_gs_3, ab_gl_2, ab_gl_3, ab_gt_some, ab_gc_0, ab_gk_0, Bool.false_eq_true, Bool.true_eq_false, false_implies, Nat.reduceEqDiff, ab_ge, ab_lt, ab_le, ab_gt, ab_eq, ab_ne, decide_eq_true_eq, ab_w_id, ab_w0, ab_gd_some, ab_gs_0, ab_gs_1, ab_gl_0, ab_gl_1, ab_bv_some, ab_bu_some, ab_bv_thr, ab_bu_thr, ab_fx_n, ab_fx_i, ab_fx_q, ab_fx_l, ab_sh_si, ab_gr_si, ab_gl_si, cs_n, ↓reduceIte, true_or, or_true, false_or, or_false, and_true, true_and, and_false, false_and, not_true_eq_false, not_false_eq_true, eq_self, Int.reduceEq, Int.reduceLT, Int.reduceLE, Int.reduceAdd, Int.reduceMul, Int.reduceNeg, if_pos, if_neg, hs, e]
theorem n103 {dd : Nat} {d : Int} {g h : ab_H} {b : Nat} (hR : cs_R g) (m : mm g h b) (d1 : -2147483648 ≤ d) (d2 : d < 2147483648) :
    ab_E B (dd + 1) 103 0 [some (.inr (.inr (.inl (some 18)))), some (.inl d)] [] h = some (.inl (some (.inl (if 0 ≤ d ∧ d < ab_gi g 1 0 then 0 else 1))), h) := by
  have hs := m.1.1.1
  have eD := m.2.1.1
  have hD := hR.2.1
  by_cases c : 0 ≤ d ∧ d < ab_gi g 1 0
  · have e := n100 (B := B) (dd := dd) (v := d) (l := 0) (u := ab_gi g 1 0 - 1) (h := h) d1 d2 (by omega) (by omega) (by omega) (by omega)
    rw [if_pos (by omega)] at e
    rw [if_pos c]
    simp (disch := omega) only [e103_0, e103_1, e103_2, e103_3, e103_6, e103_7, e103_8, e103_11, e103_14, e103_15, e103_18, e103_19, implies_true, Int.reduceSub, Option.isNone_some, Option.isNone_none, ab_bh_some, ab_bh_thr, ab_gs_3, ab_gl_2, ab_gl_3, ab_gt_some, ab_gc_0, ab_gk_0, Bool.false_eq_true, Bool.true_eq_false, false_implies, Nat.reduceEqDiff, ab_ge, ab_lt, ab_le, ab_gt, ab_eq, ab_ne, decide_eq_true_eq, ab_w_id, ab_w0, ab_gd_some, ab_gs_0, ab_gs_1, ab_gl_0, ab_gl_1, ab_bv_some, ab_bu_some, ab_bv_thr, ab_bu_thr, ab_fx_n, ab_fx_i, ab_fx_q, ab_fx_l, ab_sh_si, ab_gr_si, ab_gl_si, cs_n, ↓reduceIte, true_or, or_true, false_or, or_false, and_true, true_and, and_false, false_and, not_true_eq_false, not_false_eq_true, eq_self, Int.reduceEq, Int.reduceLT, Int.reduceLE, Int.reduceAdd, Int.reduceMul, Int.reduceNeg, if_pos, if_neg, hs, eD, e]
  · have e := n100 (B := B) (dd := dd) (v := d) (l := 0) (u := ab_gi g 1 0 - 1) (h := h) d1 d2 (by omega) (by omega) (by omega) (by omega)
    rw [if_neg (by omega)] at e
    rw [if_neg c]
    simp (disch := omega) only [e103_0, e103_1, e103_2, e103_3, e103_6, e103_7, e103_8, e103_11, e103_14, e103_15, e103_18, e103_19, implies_true, Int.reduceSub, Option.isNone_some, Option.isNone_none, ab_bh_some, ab_bh_thr, ab_gs_3, ab_gl_2, ab_gl_3, ab_gt_some, ab_gc_0, ab_gk_0, Bool.false_eq_true, Bool.true_eq_false, false_implies, Nat.reduceEqDiff, ab_ge, ab_lt, ab_le, ab_gt, ab_eq, ab_ne, decide_eq_true_eq, ab_w_id, ab_w0, ab_gd_some, ab_gs_0, ab_gs_1, ab_gl_0, ab_gl_1, ab_bv_some, ab_bu_some, ab_bv_thr, ab_bu_thr, ab_fx_n, ab_fx_i, ab_fx_q, ab_fx_l, ab_sh_si, ab_gr_si, ab_gl_si, cs_n, ↓reduceIte, true_or, or_true, false_or, or_false, and_true, true_and, and_false, false_and, not_true_eq_false, not_false_eq_true, eq_self, Int.reduceEq, Int.reduceLT, Int.reduceLE, Int.reduceAdd, Int.reduceMul, Int.reduceNeg, if_pos, if_neg, hs, eD, e]
theorem n104 {dd : Nat} {d : Int} {g h : ab_H} {b : Nat} (hR : cs_R g) (m : mm g h b) (d1 : -2147483648 ≤ d) (d2 : d < 2147483648) :
    ab_E B (dd + 1) 104 0 [some (.inr (.inr (.inl (some 18)))), some (.inl d)] [] h = some (.inl (some (.inl (if 0 ≤ d ∧ d < ab_gi g 1 1 then 0 else 1))), h) := by
  have hs := m.1.1.1
  have eD := m.2.1.2.1
  have hD := hR.2.1
  have e := n100 (B := B) (dd := dd) (v := d) (l := 0) (u := ab_gi g 1 1 - 1) (h := h) d1 d2 (by omega) (by omega) (by omega) (by omega)
  by_cases c : 0 ≤ d ∧ d < ab_gi g 1 1
  · rw [if_pos (by omega)] at e
    rw [if_pos c]
    simp (disch := omega) only [e104_0, e104_1, e104_2, e104_3, e104_6, e104_7, e104_8, e104_11, e104_14, e104_15, e104_18, e104_19, implies_true, Int.reduceSub, Option.isNone_some, Option.isNone_none, ab_bh_some, ab_bh_thr, ab_gs_3, ab_gl_2, ab_gl_3, ab_gt_some, ab_gc_0, ab_gk_0, Bool.false_eq_true, Bool.true_eq_false, false_implies, Nat.reduceEqDiff, ab_ge, ab_lt, ab_le, ab_gt, ab_eq, ab_ne, decide_eq_true_eq, ab_w_id, ab_w0, ab_gd_some, ab_gs_0, ab_gs_1, ab_gl_0, ab_gl_1, ab_bv_some, ab_bu_some, ab_bv_thr, ab_bu_thr, ab_fx_n, ab_fx_i, ab_fx_q, ab_fx_l, ab_sh_si, ab_gr_si, ab_gl_si, cs_n, ↓reduceIte, true_or, or_true, false_or, or_false, and_true, true_and, and_false, false_and, not_true_eq_false, not_false_eq_true, eq_self, Int.reduceEq, Int.reduceLT, Int.reduceLE, Int.reduceAdd, Int.reduceMul, Int.reduceNeg, if_pos, if_neg, hs, eD, e]
  · rw [if_neg (by omega)] at e
    rw [if_neg c]
    simp (disch := omega) only [e104_0, e104_1, e104_2, e104_3, e104_6, e104_7, e104_8, e104_11, e104_14, e104_15, e104_18, e104_19, implies_true, Int.reduceSub, Option.isNone_some, Option.isNone_none, ab_bh_some, ab_bh_thr, ab_gs_3, ab_gl_2, ab_gl_3, ab_gt_some, ab_gc_0, ab_gk_0, Bool.false_eq_true, Bool.true_eq_false, false_implies, Nat.reduceEqDiff, ab_ge, ab_lt, ab_le, ab_gt, ab_eq, ab_ne, decide_eq_true_eq, ab_w_id, ab_w0, ab_gd_some, ab_gs_0, ab_gs_1, ab_gl_0, ab_gl_1, ab_bv_some, ab_bu_some, ab_bv_thr, ab_bu_thr, ab_fx_n, ab_fx_i, ab_fx_q, ab_fx_l, ab_sh_si, ab_gr_si, ab_gl_si, cs_n, ↓reduceIte, true_or, or_true, false_or, or_false, and_true, true_and, and_false, false_and, not_true_eq_false, not_false_eq_true, eq_self, Int.reduceEq, Int.reduceLT, Int.reduceLE, Int.reduceAdd, Int.reduceMul, Int.reduceNeg, if_pos, if_neg, hs, eD, e]
theorem n106 {dd : Nat} {g h : ab_H} {b : Nat} (hR : cs_R g) (m : mm g h b) :
    ab_E B dd 106 0 [some (.inr (.inr (.inl (some 18))))] [] h = some (.inl (some (.inl (cs_B g))), h) := by
  have hs := m.1.1.1
  have eD := m.2.1.1
  have eS := m.2.1.2.1
  have hD := hR.2.1
  unfold cs_B
  by_cases c : 0 < ab_gi g 1 0
  · rw [if_pos c, Int.mul_comm]
    simp (disch := omega) only [e106_0, e106_1, e106_4, e106_5, e106_8, e106_9, e106_12, e106_15, e106_16, e106_19, e106_20, e106_21, e106_22, implies_true, Int.reduceSub, Option.isNone_some, Option.isNone_none, ab_bh_some, ab_bh_thr, ab_gs_3, ab_gl_2, ab_gl_3, ab_gt_some, ab_gc_0, ab_gk_0, Bool.false_eq_true, Bool.true_eq_false, false_implies, Nat.reduceEqDiff, ab_ge, ab_lt, ab_le, ab_gt, ab_eq, ab_ne, decide_eq_true_eq, ab_w_id, ab_w0, ab_gd_some, ab_gs_0, ab_gs_1, ab_gl_0, ab_gl_1, ab_bv_some, ab_bu_some, ab_bv_thr, ab_bu_thr, ab_fx_n, ab_fx_i, ab_fx_q, ab_fx_l, ab_sh_si, ab_gr_si, ab_gl_si, cs_n, ↓reduceIte, true_or, or_true, false_or, or_false, and_true, true_and, and_false, false_and, not_true_eq_false, not_false_eq_true, eq_self, Int.reduceEq, Int.reduceLT, Int.reduceLE, Int.reduceAdd, Int.reduceMul, Int.reduceNeg, if_pos, if_neg, hs, eD, eS]
  · have : ab_gi g 1 1 = 0 := by omega
    rw [if_neg c]
    simp (disch := omega) only [e106_0, e106_1, e106_4, e106_5, e106_8, e106_9, e106_12, e106_15, e106_16, e106_19, e106_20, e106_21, e106_22, implies_true, Int.reduceSub, Option.isNone_some, Option.isNone_none, ab_bh_some, ab_bh_thr, ab_gs_3, ab_gl_2, ab_gl_3, ab_gt_some, ab_gc_0, ab_gk_0, Bool.false_eq_true, Bool.true_eq_false, false_implies, Nat.reduceEqDiff, ab_ge, ab_lt, ab_le, ab_gt, ab_eq, ab_ne, decide_eq_true_eq, ab_w_id, ab_w0, ab_gd_some, ab_gs_0, ab_gs_1, ab_gl_0, ab_gl_1, ab_bv_some, ab_bu_some, ab_bv_thr, ab_bu_thr, ab_fx_n, ab_fx_i, ab_fx_q, ab_fx_l, ab_sh_si, ab_gr_si, ab_gl_si, cs_n, ↓reduceIte, true_or, or_true, false_or, or_false, and_true, true_and, and_false, false_and, not_true_eq_false, not_false_eq_true, eq_self, Int.reduceEq, Int.reduceLT, Int.reduceLE, Int.reduceAdd, Int.reduceMul, Int.reduceNeg, if_pos, if_neg, hs, eD, eS, this, Int.zero_mul]
theorem n105 {dd : Nat} {d : Int} {g h : ab_H} {b : Nat} (hR : cs_R g) (m : mm g h b) (d1 : -2147483648 ≤ d) (d2 : d < 2147483648) :
    ab_E B (dd + 1) 105 0 [some (.inr (.inr (.inl (some 18)))), some (.inl d)] [] h = some (.inl (some (.inl (if 0 ≤ d ∧ d < cs_B g then 0 else 1))), h) := by
  have hs := m.1.1.1
  have hB := cs_B_le hR
  have e := n100 (B := B) (dd := dd) (v := d) (l := 0) (u := cs_B g - 1) (h := h) d1 d2 (by omega) (by omega) (by omega) (by omega)
  by_cases c : 0 ≤ d ∧ d < cs_B g
  · rw [if_pos (by omega)] at e
    rw [if_pos c]
    simp (disch := omega) only [e105_0, e105_1, e105_2, e105_3, e105_6, e105_7, e105_8, e105_11, e105_14, e105_15, e105_18, e105_19, implies_true, Int.reduceSub, Option.isNone_some, Option.isNone_none, ab_bh_some, ab_bh_thr, ab_gs_3, ab_gl_2, ab_gl_3, ab_gt_some, ab_gc_0, ab_gk_0, Bool.false_eq_true, Bool.true_eq_false, false_implies, Nat.reduceEqDiff, ab_ge, ab_lt, ab_le, ab_gt, ab_eq, ab_ne, decide_eq_true_eq, ab_w_id, ab_w0, ab_gd_some, ab_gs_0, ab_gs_1, ab_gl_0, ab_gl_1, ab_bv_some, ab_bu_some, ab_bv_thr, ab_bu_thr, ab_fx_n, ab_fx_i, ab_fx_q, ab_fx_l, ab_sh_si, ab_gr_si, ab_gl_si, cs_n, ↓reduceIte, true_or, or_true, false_or, or_false, and_true, true_and, and_false, false_and, not_true_eq_false, not_false_eq_true, eq_self, Int.reduceEq, Int.reduceLT, Int.reduceLE, Int.reduceAdd, Int.reduceMul, Int.reduceNeg, if_pos, if_neg, hs, n106 hR m, e]
  · rw [if_neg (by omega)] at e
    rw [if_neg c]
    simp (disch := omega) only [e105_0, e105_1, e105_2, e105_3, e105_6, e105_7, e105_8, e105_11, e105_14, e105_15, e105_18, e105_19, implies_true, Int.reduceSub, Option.isNone_some, Option.isNone_none, ab_bh_some, ab_bh_thr, ab_gs_3, ab_gl_2, ab_gl_3, ab_gt_some, ab_gc_0, ab_gk_0, Bool.false_eq_true, Bool.true_eq_false, false_implies, Nat.reduceEqDiff, ab_ge, ab_lt, ab_le, ab_gt, ab_eq, ab_ne, decide_eq_true_eq, ab_w_id, ab_w0, ab_gd_some, ab_gs_0, ab_gs_1, ab_gl_0, ab_gl_1, ab_bv_some, ab_bu_some, ab_bv_thr, ab_bu_thr, ab_fx_n, ab_fx_i, ab_fx_q, ab_fx_l, ab_sh_si, ab_gr_si, ab_gl_si, cs_n, ↓reduceIte, true_or, or_true, false_or, or_false, and_true, true_and, and_false, false_and, not_true_eq_false, not_false_eq_true, eq_self, Int.reduceEq, Int.reduceLT, Int.reduceLE, Int.reduceAdd, Int.reduceMul, Int.reduceNeg, if_pos, if_neg, hs, n106 hR m, e]
theorem n107 {dd : Nat} {k : Int} {g h : ab_H} {b : Nat} (hR : cs_R g) (m : mm g h b) (hD : 3 ≤ ab_gi g 1 0) (h1 : 0 ≤ k) (h2 : k < 32) :
    ab_E B dd 107 0 [some (.inr (.inr (.inl (some 18)))), some (.inl k)] [] h = some (.inl (some (.inl (k / (ab_gi g 1 0 - 1)))), h) := by
  have hs := m.1.1.1
  have eD := m.2.1.1
  have hDS := hR.2.1
  have e : ab_idiv k (ab_gi g 1 0 - 1) = k / (ab_gi g 1 0 - 1) := ab_idiv_id h1 (by omega) (by omega) (by omega)
  simp (disch := omega) only [e107_0, e107_1, e107_2, e107_5, e107_6, e107_7, e107_8, implies_true, Int.reduceSub, Option.isNone_some, Option.isNone_none, ab_bh_some, ab_bh_thr, ab_gs_3, ab_gl_2, ab_gl_3, ab_gt_some, ab_gc_0, ab_gk_0, Bool.false_eq_true, Bool.true_eq_false, false_implies, Nat.reduceEqDiff, ab_ge, ab_lt, ab_le, ab_gt, ab_eq, ab_ne, decide_eq_true_eq, ab_w_id, ab_w0, ab_gd_some, ab_gs_0, ab_gs_1, ab_gl_0, ab_gl_1, ab_bv_some, ab_bu_some, ab_bv_thr, ab_bu_thr, ab_fx_n, ab_fx_i, ab_fx_q, ab_fx_l, ab_sh_si, ab_gr_si, ab_gl_si, cs_n, ↓reduceIte, true_or, or_true, false_or, or_false, and_true, true_and, and_false, false_and, not_true_eq_false, not_false_eq_true, eq_self, Int.reduceEq, Int.reduceLT, Int.reduceLE, Int.reduceAdd, Int.reduceMul, Int.reduceNeg, if_pos, if_neg, hs, eD, e]
theorem n108 {dd : Nat} {s : Int} {g h : ab_H} {b : Nat} (hR : cs_R g) (m : mm g h b) (hD : 3 ≤ ab_gi g 1 0) (h1 : 0 ≤ s) (h2 : s < 40) :
    ab_E B dd 108 0 [some (.inr (.inr (.inl (some 18)))), some (.inl s)] [] h = some (.inl (some (.inl (s % ab_gi g 1 0))), h) := by
  have hs := m.1.1.1
  have eD := m.2.1.1
  have hDS := hR.2.1
  have e : ab_irem s (ab_gi g 1 0) = s % ab_gi g 1 0 := ab_irem_id h1 (by omega) (by omega) (by omega)
  simp (disch := omega) only [e108_0, e108_1, e108_2, e108_5, e108_6, implies_true, Int.reduceSub, Option.isNone_some, Option.isNone_none, ab_bh_some, ab_bh_thr, ab_gs_3, ab_gl_2, ab_gl_3, ab_gt_some, ab_gc_0, ab_gk_0, Bool.false_eq_true, Bool.true_eq_false, false_implies, Nat.reduceEqDiff, ab_ge, ab_lt, ab_le, ab_gt, ab_eq, ab_ne, decide_eq_true_eq, ab_w_id, ab_w0, ab_gd_some, ab_gs_0, ab_gs_1, ab_gl_0, ab_gl_1, ab_bv_some, ab_bu_some, ab_bv_thr, ab_bu_thr, ab_fx_n, ab_fx_i, ab_fx_q, ab_fx_l, ab_sh_si, ab_gr_si, ab_gl_si, cs_n, ↓reduceIte, true_or, or_true, false_or, or_false, and_true, true_and, and_false, false_and, not_true_eq_false, not_false_eq_true, eq_self, Int.reduceEq, Int.reduceLT, Int.reduceLE, Int.reduceAdd, Int.reduceMul, Int.reduceNeg, if_pos, if_neg, hs, eD, e]
theorem n109 {dd : Nat} {k : Int} {g h : ab_H} {b : Nat} (hR : cs_R g) (m : mm g h b) (hD : 3 ≤ ab_gi g 1 0) (h1 : 0 ≤ k) (h2 : k < 32) :
    ab_E B (dd + 1) 109 0 [some (.inr (.inr (.inl (some 18)))), some (.inl k), none] [] h = some (.inl (some (.inl (cs_dk (ab_gi g 1 0) k))), h) := by
  have hs := m.1.1.1
  have eD := m.2.1.1
  have hDS := hR.2.1
  have q0 : 0 ≤ k / (ab_gi g 1 0 - 1) := Int.ediv_nonneg h1 (by omega)
  have q1 : k / (ab_gi g 1 0 - 1) ≤ k := Int.ediv_le_self _ h1
  have p0 : 0 ≤ k % (ab_gi g 1 0 - 1) := Int.emod_nonneg _ (by omega)
  have p1 : k % (ab_gi g 1 0 - 1) < ab_gi g 1 0 - 1 := Int.emod_lt_of_pos _ (by omega)
  have r0 : 0 ≤ k / (ab_gi g 1 0 - 1) % ab_gi g 1 0 := Int.emod_nonneg _ (by omega)
  have r1 : k / (ab_gi g 1 0 - 1) % ab_gi g 1 0 < ab_gi g 1 0 := Int.emod_lt_of_pos _ (by omega)
  have e : ab_irem k (ab_gi g 1 0 - 1) = k % (ab_gi g 1 0 - 1) := ab_irem_id h1 (by omega) (by omega) (by omega)
  have e7 := n107 (B := B) (dd := dd) hR m hD h1 h2
  have e8 := n108 (B := B) (dd := dd) hR m hD q0 (by omega)
  unfold cs_dk
  by_cases c : k % (ab_gi g 1 0 - 1) < k / (ab_gi g 1 0 - 1) % ab_gi g 1 0
  · rw [if_pos c]
    simp (disch := omega) only [e109_0, e109_1, e109_2, e109_5, e109_6, e109_7, e109_8, e109_9, e109_10, e109_11, e109_12, e109_13, e109_16, e109_19, e109_22, e109_23, e109_26, e109_27, e109_28, e109_29, implies_true, Int.reduceSub, Option.isNone_some, Option.isNone_none, ab_bh_some, ab_bh_thr, ab_gs_3, ab_gl_2, ab_gl_3, ab_gt_some, ab_gc_0, ab_gk_0, Bool.false_eq_true, Bool.true_eq_false, false_implies, Nat.reduceEqDiff, ab_ge, ab_lt, ab_le, ab_gt, ab_eq, ab_ne, decide_eq_true_eq, ab_w_id, ab_w0, ab_gd_some, ab_gs_0, ab_gs_1, ab_gl_0, ab_gl_1, ab_bv_some, ab_bu_some, ab_bv_thr, ab_bu_thr, ab_fx_n, ab_fx_i, ab_fx_q, ab_fx_l, ab_sh_si, ab_gr_si, ab_gl_si, cs_n, ↓reduceIte, true_or, or_true, false_or, or_false, and_true, true_and, and_false, false_and, not_true_eq_false, not_false_eq_true, eq_self, Int.reduceEq, Int.reduceLT, Int.reduceLE, Int.reduceAdd, Int.reduceMul, Int.reduceNeg, if_pos, if_neg, hs, eD, e, e7, e8]
  · rw [if_neg c]
    simp (disch := omega) only [e109_0, e109_1, e109_2, e109_5, e109_6, e109_7, e109_8, e109_9, e109_10, e109_11, e109_12, e109_13, e109_16, e109_19, e109_22, e109_23, e109_26, e109_27, e109_28, e109_29, implies_true, Int.reduceSub, Option.isNone_some, Option.isNone_none, ab_bh_some, ab_bh_thr, ab_gs_3, ab_gl_2, ab_gl_3, ab_gt_some, ab_gc_0, ab_gk_0, Bool.false_eq_true, Bool.true_eq_false, false_implies, Nat.reduceEqDiff, ab_ge, ab_lt, ab_le, ab_gt, ab_eq, ab_ne, decide_eq_true_eq, ab_w_id, ab_w0, ab_gd_some, ab_gs_0, ab_gs_1, ab_gl_0, ab_gl_1, ab_bv_some, ab_bu_some, ab_bv_thr, ab_bu_thr, ab_fx_n, ab_fx_i, ab_fx_q, ab_fx_l, ab_sh_si, ab_gr_si, ab_gl_si, cs_n, ↓reduceIte, true_or, or_true, false_or, or_false, and_true, true_and, and_false, false_and, not_true_eq_false, not_false_eq_true, eq_self, Int.reduceEq, Int.reduceLT, Int.reduceLE, Int.reduceAdd, Int.reduceMul, Int.reduceNeg, if_pos, if_neg, hs, eD, e, e7, e8]
theorem n110 {dd : Nat} {d s : Int} {g h : ab_H} {b : Nat} (hR : cs_R g) (m : mm g h b) (h1 : 0 ≤ d) (h2 : d < ab_gi g 1 0) (h3 : 0 ≤ s) (h4 : s < ab_gi g 1 1) :
    ab_E B (dd + 1) 110 0 [some (.inr (.inr (.inl (some 18)))), some (.inl d), some (.inl s)] [] h = some (.inl (some (.inl (cs_bi (ab_gi g 1 0) d s))), h) := by
  have hs := m.1.1.1
  have eD := m.2.1.1
  have hDS := hR.2.1
  have r0 : 0 ≤ s % ab_gi g 1 0 := Int.emod_nonneg _ (by omega)
  have r1 : s % ab_gi g 1 0 < ab_gi g 1 0 := Int.emod_lt_of_pos _ (by omega)
  have e8 := n108 (B := B) (dd := dd) hR m (by omega) h3 (show s < 40 by omega)
  unfold cs_bi
  by_cases c0 : d = s % ab_gi g 1 0
  · rw [if_pos c0]
    simp (disch := omega) only [e110_0, e110_1, e110_2, e110_3, e110_6, e110_9, e110_10, e110_11, e110_12, e110_13, e110_16, e110_17, e110_18, e110_19, e110_20, e110_21, e110_22, e110_25, e110_28, e110_29, e110_32, e110_33, e110_34, e110_35, e110_36, implies_true, Int.reduceSub, Option.isNone_some, Option.isNone_none, ab_bh_some, ab_bh_thr, ab_gs_3, ab_gl_2, ab_gl_3, ab_gt_some, ab_gc_0, ab_gk_0, Bool.false_eq_true, Bool.true_eq_false, false_implies, Nat.reduceEqDiff, ab_ge, ab_lt, ab_le, ab_gt, ab_eq, ab_ne, decide_eq_true_eq, ab_w_id, ab_w0, ab_gd_some, ab_gs_0, ab_gs_1, ab_gl_0, ab_gl_1, ab_bv_some, ab_bu_some, ab_bv_thr, ab_bu_thr, ab_fx_n, ab_fx_i, ab_fx_q, ab_fx_l, ab_sh_si, ab_gr_si, ab_gl_si, cs_n, ↓reduceIte, true_or, or_true, false_or, or_false, and_true, true_and, and_false, false_and, not_true_eq_false, not_false_eq_true, eq_self, Int.reduceEq, Int.reduceLT, Int.reduceLE, Int.reduceAdd, Int.reduceMul, Int.reduceNeg, if_pos, if_neg, hs, eD, e8]
  · rw [if_neg c0]
    by_cases c : d < s % ab_gi g 1 0
    · rw [if_pos c]
      simp (disch := omega) only [e110_0, e110_1, e110_2, e110_3, e110_6, e110_9, e110_10, e110_11, e110_12, e110_13, e110_16, e110_17, e110_18, e110_19, e110_20, e110_21, e110_22, e110_25, e110_28, e110_29, e110_32, e110_33, e110_34, e110_35, e110_36, implies_true, Int.reduceSub, Option.isNone_some, Option.isNone_none, ab_bh_some, ab_bh_thr, ab_gs_3, ab_gl_2, ab_gl_3, ab_gt_some, ab_gc_0, ab_gk_0, Bool.false_eq_true, Bool.true_eq_false, false_implies, Nat.reduceEqDiff, ab_ge, ab_lt, ab_le, ab_gt, ab_eq, ab_ne, decide_eq_true_eq, ab_w_id, ab_w0, ab_gd_some, ab_gs_0, ab_gs_1, ab_gl_0, ab_gl_1, ab_bv_some, ab_bu_some, ab_bv_thr, ab_bu_thr, ab_fx_n, ab_fx_i, ab_fx_q, ab_fx_l, ab_sh_si, ab_gr_si, ab_gl_si, cs_n, ↓reduceIte, true_or, or_true, false_or, or_false, and_true, true_and, and_false, false_and, not_true_eq_false, not_false_eq_true, eq_self, Int.reduceEq, Int.reduceLT, Int.reduceLE, Int.reduceAdd, Int.reduceMul, Int.reduceNeg, if_pos, if_neg, hs, eD, e8]
    · rw [if_neg c]
      simp (disch := omega) only [e110_0, e110_1, e110_2, e110_3, e110_6, e110_9, e110_10, e110_11, e110_12, e110_13, e110_16, e110_17, e110_18, e110_19, e110_20, e110_21, e110_22, e110_25, e110_28, e110_29, e110_32, e110_33, e110_34, e110_35, e110_36, implies_true, Int.reduceSub, Option.isNone_some, Option.isNone_none, ab_bh_some, ab_bh_thr, ab_gs_3, ab_gl_2, ab_gl_3, ab_gt_some, ab_gc_0, ab_gk_0, Bool.false_eq_true, Bool.true_eq_false, false_implies, Nat.reduceEqDiff, ab_ge, ab_lt, ab_le, ab_gt, ab_eq, ab_ne, decide_eq_true_eq, ab_w_id, ab_w0, ab_gd_some, ab_gs_0, ab_gs_1, ab_gl_0, ab_gl_1, ab_bv_some, ab_bu_some, ab_bv_thr, ab_bu_thr, ab_fx_n, ab_fx_i, ab_fx_q, ab_fx_l, ab_sh_si, ab_gr_si, ab_gl_si, cs_n, ↓reduceIte, true_or, or_true, false_or, or_false, and_true, true_and, and_false, false_and, not_true_eq_false, not_false_eq_true, eq_self, Int.reduceEq, Int.reduceLT, Int.reduceLE, Int.reduceAdd, Int.reduceMul, Int.reduceNeg, if_pos, if_neg, hs, eD, e8]
theorem n111 {dd : Nat} {d s : Int} {g h : ab_H} {b : Nat} (hR : cs_R g) (m : mm g h b) (h1 : 0 ≤ d) (h2 : d < ab_gi g 1 0) (h3 : 0 ≤ s) (h4 : s < ab_gi g 1 1) :
    ab_E B dd 111 0 [some (.inr (.inr (.inl (some 18)))), some (.inl d), some (.inl s)] [] h = some (.inl (some (.inl (cs_b g d s))), h) := by
  have hm := m.1
  have hDS := hR.2.1
  have hF := hR.2.2.2 d
  have hrow := hm.2.2.1 d h1 h2
  have v := m.2.2.1.1 d s h1 h2 h3 h4
  have f := (m.2.2.1.2.1 d h1 h2).1
  have hv := hR.2.2.1 (d * 8 + s) (by omega) (by omega)
  have e : ab_irem (7 * ab_gi g 2 (d * 8 + s) + s) 256 = (7 * ab_gi g 2 (d * 8 + s) + s) % 256 := ab_irem_id (by omega) (by omega) (by omega) (by omega)
  have em : 0 ≤ (7 * ab_gi g 2 (d * 8 + s) + s) % 256 ∧ (7 * ab_gi g 2 (d * 8 + s) + s) % 256 < 256 := ⟨Int.emod_nonneg _ (by omega), Int.emod_lt_of_pos _ (by omega)⟩
  unfold cs_b
  by_cases c0 : ab_gi g 5 d = 1
  · rw [if_pos (Or.inl c0)]
    simp (disch := omega) only [e111_0, e111_1, e111_4, e111_5, e111_6, e111_9, e111_10, e111_13, e111_14, e111_15, e111_16, e111_17, e111_19, e111_20, e111_23, e111_24, e111_25, e111_26, e111_27, e111_28, e111_29, e111_30, e111_33, e111_34, e111_37, e111_38, e111_41, e111_42, implies_true, Int.reduceSub, Option.isNone_some, Option.isNone_none, ab_bh_some, ab_bh_thr, ab_gs_3, ab_gl_2, ab_gl_3, ab_gt_some, ab_gc_0, ab_gk_0, Bool.false_eq_true, Bool.true_eq_false, false_implies, Nat.reduceEqDiff, ab_ge, ab_lt, ab_le, ab_gt, ab_eq, ab_ne, decide_eq_true_eq, ab_w_id, ab_w0, ab_gd_some, ab_gs_0, ab_gs_1, ab_gl_0, ab_gl_1, ab_bv_some, ab_bu_some, ab_bv_thr, ab_bu_thr, ab_fx_n, ab_fx_i, ab_fx_q, ab_fx_l, ab_sh_si, ab_gr_si, ab_gl_si, cs_n, ↓reduceIte, true_or, or_true, false_or, or_false, and_true, true_and, and_false, false_and, not_true_eq_false, not_false_eq_true, eq_self, Int.reduceEq, Int.reduceLT, Int.reduceLE, Int.reduceAdd, Int.reduceMul, Int.reduceNeg, if_pos, if_neg, hm.1, hm.2.1, hrow, f, c0]
  · have c0' : ab_gi g 5 d = 0 := by omega
    by_cases c : ab_gi g 3 (d * 8 + s) = (7 * ab_gi g 2 (d * 8 + s) + s) % 256
    · rw [if_neg (by rintro (q | q); exact c0 q; exact q c)]
      simp (disch := omega) only [e111_0, e111_1, e111_4, e111_5, e111_6, e111_9, e111_10, e111_13, e111_14, e111_15, e111_16, e111_17, e111_19, e111_20, e111_23, e111_24, e111_25, e111_26, e111_27, e111_28, e111_29, e111_30, e111_33, e111_34, e111_37, e111_38, e111_41, e111_42, implies_true, Int.reduceSub, Option.isNone_some, Option.isNone_none, ab_bh_some, ab_bh_thr, ab_gs_3, ab_gl_2, ab_gl_3, ab_gt_some, ab_gc_0, ab_gk_0, Bool.false_eq_true, Bool.true_eq_false, false_implies, Nat.reduceEqDiff, ab_ge, ab_lt, ab_le, ab_gt, ab_eq, ab_ne, decide_eq_true_eq, ab_w_id, ab_w0, ab_gd_some, ab_gs_0, ab_gs_1, ab_gl_0, ab_gl_1, ab_bv_some, ab_bu_some, ab_bv_thr, ab_bu_thr, ab_fx_n, ab_fx_i, ab_fx_q, ab_fx_l, ab_sh_si, ab_gr_si, ab_gl_si, cs_n, ↓reduceIte, true_or, or_true, false_or, or_false, and_true, true_and, and_false, false_and, not_true_eq_false, not_false_eq_true, eq_self, Int.reduceEq, Int.reduceLT, Int.reduceLE, Int.reduceAdd, Int.reduceMul, Int.reduceNeg, if_pos, if_neg, hm.1, hm.2.1, hrow, f, c0', v, e]
    · rw [if_pos (Or.inr c)]
      simp (disch := omega) only [e111_0, e111_1, e111_4, e111_5, e111_6, e111_9, e111_10, e111_13, e111_14, e111_15, e111_16, e111_17, e111_19, e111_20, e111_23, e111_24, e111_25, e111_26, e111_27, e111_28, e111_29, e111_30, e111_33, e111_34, e111_37, e111_38, e111_41, e111_42, implies_true, Int.reduceSub, Option.isNone_some, Option.isNone_none, ab_bh_some, ab_bh_thr, ab_gs_3, ab_gl_2, ab_gl_3, ab_gt_some, ab_gc_0, ab_gk_0, Bool.false_eq_true, Bool.true_eq_false, false_implies, Nat.reduceEqDiff, ab_ge, ab_lt, ab_le, ab_gt, ab_eq, ab_ne, decide_eq_true_eq, ab_w_id, ab_w0, ab_gd_some, ab_gs_0, ab_gs_1, ab_gl_0, ab_gl_1, ab_bv_some, ab_bu_some, ab_bv_thr, ab_bu_thr, ab_fx_n, ab_fx_i, ab_fx_q, ab_fx_l, ab_sh_si, ab_gr_si, ab_gl_si, cs_n, ↓reduceIte, true_or, or_true, false_or, or_false, and_true, true_and, and_false, false_and, not_true_eq_false, not_false_eq_true, eq_self, Int.reduceEq, Int.reduceLT, Int.reduceLE, Int.reduceAdd, Int.reduceMul, Int.reduceNeg, if_pos, if_neg, hm.1, hm.2.1, hrow, f, c0', v, e]
theorem n113_loop {dd : Nat} {s : Int} {g h : ab_H} {b : Nat} (hR : cs_R g) (m : mm g h b) (h3 : 0 ≤ s) (h4 : s < ab_gi g 1 1) : ∀ (k : Nat) (i c : Int), 0 ≤ i → i + k = ab_gi g 1 0 →
    ab_E B (dd + 1) 113 4 [some (.inr (.inr (.inl (some 18)))), some (.inl s), some (.inl c), some (.inl i)] [] h = some (.inl (some (.inl (c + cs_sf (fun d => cs_b g d s) i k))), h)
  | 0, i, c, q1, q2 => by
    have hs := m.1.1.1
    have eD := m.2.1.1
    have hDS := hR.2.1
    rw [e113_4]
    simp (disch := omega) only [e113_0, e113_1, e113_2, e113_3, e113_5, e113_6, e113_9, e113_12, e113_13, e113_14, e113_15, e113_16, e113_19, e113_22, e113_23, e113_26, e113_27, e113_28, e113_29, e113_32, e113_35, e113_36, implies_true, Int.reduceSub, Option.isNone_some, Option.isNone_none, ab_bh_some, ab_bh_thr, ab_gs_3, ab_gl_2, ab_gl_3, ab_gt_some, ab_gc_0, ab_gk_0, Bool.false_eq_true, Bool.true_eq_false, false_implies, Nat.reduceEqDiff, ab_ge, ab_lt, ab_le, ab_gt, ab_eq, ab_ne, decide_eq_true_eq, ab_w_id, ab_w0, ab_gd_some, ab_gs_0, ab_gs_1, ab_gl_0, ab_gl_1, ab_bv_some, ab_bu_some, ab_bv_thr, ab_bu_thr, ab_fx_n, ab_fx_i, ab_fx_q, ab_fx_l, ab_sh_si, ab_gr_si, ab_gl_si, cs_n, ↓reduceIte, true_or, or_true, false_or, or_false, and_true, true_and, and_false, false_and, not_true_eq_false, not_false_eq_true, eq_self, Int.reduceEq, Int.reduceLT, Int.reduceLE, Int.reduceAdd, Int.reduceMul, Int.reduceNeg, if_pos, if_neg, hs, eD, cs_sf, Int.add_zero]
  | k + 1, i, c, q1, q2 => by
    have hs := m.1.1.1
    have eD := m.2.1.1
    have hDS := hR.2.1
    have e := n111 (B := B) (dd := dd) hR m q1 (show i < ab_gi g 1 0 by omega) h3 h4
    rw [e113_4]
    unfold cs_sf
    rcases cs_b01 g i s with q | q
    · simp (disch := omega) only [e113_0, e113_1, e113_2, e113_3, e113_5, e113_6, e113_9, e113_12, e113_13, e113_14, e113_15, e113_16, e113_19, e113_22, e113_23, e113_26, e113_27, e113_28, e113_29, e113_32, e113_35, e113_36, implies_true, Int.reduceSub, Option.isNone_some, Option.isNone_none, ab_bh_some, ab_bh_thr, ab_gs_3, ab_gl_2, ab_gl_3, ab_gt_some, ab_gc_0, ab_gk_0, Bool.false_eq_true, Bool.true_eq_false, false_implies, Nat.reduceEqDiff, ab_ge, ab_lt, ab_le, ab_gt, ab_eq, ab_ne, decide_eq_true_eq, ab_w_id, ab_w0, ab_gd_some, ab_gs_0, ab_gs_1, ab_gl_0, ab_gl_1, ab_bv_some, ab_bu_some, ab_bv_thr, ab_bu_thr, ab_fx_n, ab_fx_i, ab_fx_q, ab_fx_l, ab_sh_si, ab_gr_si, ab_gl_si, cs_n, ↓reduceIte, true_or, or_true, false_or, or_false, and_true, true_and, and_false, false_and, not_true_eq_false, not_false_eq_true, eq_self, Int.reduceEq, Int.reduceLT, Int.reduceLE, Int.reduceAdd, Int.reduceMul, Int.reduceNeg, if_pos, if_neg, hs, eD, e, q]
      rw [n113_loop hR m h3 h4 k (i + 1) _ (by omega) (by omega), Int.add_assoc]
    · simp (disch := omega) only [e113_0, e113_1, e113_2, e113_3, e113_5, e113_6, e113_9, e113_12, e113_13, e113_14, e113_15, e113_16, e113_19, e113_22, e113_23, e113_26, e113_27, e113_28, e113_29, e113_32, e113_35, e113_36, implies_true, Int.reduceSub, Option.isNone_some, Option.isNone_none, ab_bh_some, ab_bh_thr, ab_gs_3, ab_gl_2, ab_gl_3, ab_gt_some, ab_gc_0, ab_gk_0, Bool.false_eq_true, Bool.true_eq_false, false_implies, Nat.reduceEqDiff, ab_ge, ab_lt, ab_le, ab_gt, ab_eq, ab_ne, decide_eq_true_eq, ab_w_id, ab_w0, ab_gd_some, ab_gs_0, ab_gs_1, ab_gl_0, ab_gl_1, ab_bv_some, ab_bu_some, ab_bv_thr, ab_bu_thr, ab_fx_n, ab_fx_i, ab_fx_q, ab_fx_l, ab_sh_si, ab_gr_si, ab_gl_si, cs_n, ↓reduceIte, true_or, or_true, false_or, or_false, and_true, true_and, and_false, false_and, not_true_eq_false, not_false_eq_true, eq_self, Int.reduceEq, Int.reduceLT, Int.reduceLE, Int.reduceAdd, Int.reduceMul, Int.reduceNeg, if_pos, if_neg, hs, eD, e, q]
      rw [n113_loop hR m h3 h4 k (i + 1) _ (by omega) (by omega), Int.add_assoc]
theorem n113 {dd : Nat} {s : Int} {g h : ab_H} {b : Nat} (hR : cs_R g) (m : mm g h b) (h3 : 0 ≤ s) (h4 : s < ab_gi g 1 1) :
    ab_E B (dd + 1) 113 0 [some (.inr (.inr (.inl (some 18)))), some (.inl s), none, none] [] h = some (.inl (some (.inl (cs_bc g s))), h) := by
  have hDS := hR.2.1
  simp (disch := omega) only [e113_0, e113_1, e113_2, e113_3, e113_5, e113_6, e113_9, e113_12, e113_13, e113_14, e113_15, e113_16, e113_19, e113_22, e113_23, e113_26, e113_27, e113_28, e113_29, e113_32, e113_35, e113_36, implies_true, Int.reduceSub, Option.isNone_some, Option.isNone_none, ab_bh_some, ab_bh_thr, ab_gs_3, ab_gl_2, ab_gl_3, ab_gt_some, ab_gc_0, ab_gk_0, Bool.false_eq_true, Bool.true_eq_false, false_implies, Nat.reduceEqDiff, ab_ge, ab_lt, ab_le, ab_gt, ab_eq, ab_ne, decide_eq_true_eq, ab_w_id, ab_w0, ab_gd_some, ab_gs_0, ab_gs_1, ab_gl_0, ab_gl_1, ab_bv_some, ab_bu_some, ab_bv_thr, ab_bu_thr, ab_fx_n, ab_fx_i, ab_fx_q, ab_fx_l, ab_sh_si, ab_gr_si, ab_gl_si, cs_n, ↓reduceIte, true_or, or_true, false_or, or_false, and_true, true_and, and_false, false_and, not_true_eq_false, not_false_eq_true, eq_self, Int.reduceEq, Int.reduceLT, Int.reduceLE, Int.reduceAdd, Int.reduceMul, Int.reduceNeg, if_pos, if_neg]
  rw [n113_loop hR m h3 h4 (ab_gi g 1 0).toNat 0 0 (by omega) (by omega), Int.zero_add]
  rfl
theorem n114_loop {dd : Nat} {d s : Int} {g h : ab_H} {b : Nat} (hR : cs_R g) (m : mm g h b) (d1 : 0 ≤ d) (d2 : d < 8) (h3 : 0 ≤ s) (h4 : s < ab_gi g 1 1) : ∀ (k : Nat) (i c : Int), 0 ≤ i → i + k = ab_gi g 1 0 →
    ab_E B dd 114 5 [some (.inr (.inr (.inl (some 18)))), some (.inl d), some (.inl s), some (.inl c), some (.inl i)] [] h = some (.inl (some (.inl (cs_xf (fun o => if o = d then 0 else ab_gi g 2 (o * 8 + s)) c i k))), h)
  | 0, i, c, q1, q2 => by
    have hs := m.1.1.1
    have eD := m.2.1.1
    have hDS := hR.2.1
    rw [e114_5]
    simp (disch := omega) only [e114_0, e114_1, e114_2, e114_3, e114_7, e114_8, e114_11, e114_14, e114_15, e114_17, e114_18, e114_21, e114_22, e114_25, e114_26, e114_29, e114_31, e114_32, e114_33, e114_34, e114_35, e114_36, e114_39, e114_42, e114_43, implies_true, Int.reduceSub, Option.isNone_some, Option.isNone_none, ab_bh_some, ab_bh_thr, ab_gs_3, ab_gl_2, ab_gl_3, ab_gt_some, ab_gc_0, ab_gk_0, Bool.false_eq_true, Bool.true_eq_false, false_implies, Nat.reduceEqDiff, ab_ge, ab_lt, ab_le, ab_gt, ab_eq, ab_ne, decide_eq_true_eq, ab_w_id, ab_w0, ab_gd_some, ab_gs_0, ab_gs_1, ab_gl_0, ab_gl_1, ab_bv_some, ab_bu_some, ab_bv_thr, ab_bu_thr, ab_fx_n, ab_fx_i, ab_fx_q, ab_fx_l, ab_sh_si, ab_gr_si, ab_gl_si, cs_n, ↓reduceIte, true_or, or_true, false_or, or_false, and_true, true_and, and_false, false_and, not_true_eq_false, not_false_eq_true, eq_self, Int.reduceEq, Int.reduceLT, Int.reduceLE, Int.reduceAdd, Int.reduceMul, Int.reduceNeg, if_pos, if_neg, hs, eD]
    rfl
  | k + 1, i, c, q1, q2 => by
    have hm := m.1
    have eD := m.2.1.1
    have hDS := hR.2.1
    have hrow := hm.2.2.1 i q1 (by omega)
    have v := m.2.2.1.1 i s q1 (by omega) h3 h4
    rw [e114_5]
    unfold cs_xf
    by_cases z : i = d
    · rw [if_pos z]
      simp (disch := omega) only [e114_0, e114_1, e114_2, e114_3, e114_7, e114_8, e114_11, e114_14, e114_15, e114_17, e114_18, e114_21, e114_22, e114_25, e114_26, e114_29, e114_31, e114_32, e114_33, e114_34, e114_35, e114_36, e114_39, e114_42, e114_43, implies_true, Int.reduceSub, Option.isNone_some, Option.isNone_none, ab_bh_some, ab_bh_thr, ab_gs_3, ab_gl_2, ab_gl_3, ab_gt_some, ab_gc_0, ab_gk_0, Bool.false_eq_true, Bool.true_eq_false, false_implies, Nat.reduceEqDiff, ab_ge, ab_lt, ab_le, ab_gt, ab_eq, ab_ne, decide_eq_true_eq, ab_w_id, ab_w0, ab_gd_some, ab_gs_0, ab_gs_1, ab_gl_0, ab_gl_1, ab_bv_some, ab_bu_some, ab_bv_thr, ab_bu_thr, ab_fx_n, ab_fx_i, ab_fx_q, ab_fx_l, ab_sh_si, ab_gr_si, ab_gl_si, cs_n, ↓reduceIte, true_or, or_true, false_or, or_false, and_true, true_and, and_false, false_and, not_true_eq_false, not_false_eq_true, eq_self, Int.reduceEq, Int.reduceLT, Int.reduceLE, Int.reduceAdd, Int.reduceMul, Int.reduceNeg, if_pos, if_neg, hm.1, hm.2.1, eD]
      exact n114_loop hR m d1 d2 h3 h4 k (i + 1) _ (by omega) (by omega)
    · rw [if_neg z]
      simp (disch := omega) only [e114_0, e114_1, e114_2, e114_3, e114_7, e114_8, e114_11, e114_14, e114_15, e114_17, e114_18, e114_21, e114_22, e114_25, e114_26, e114_29, e114_31, e114_32, e114_33, e114_34, e114_35, e114_36, e114_39, e114_42, e114_43, implies_true, Int.reduceSub, Option.isNone_some, Option.isNone_none, ab_bh_some, ab_bh_thr, ab_gs_3, ab_gl_2, ab_gl_3, ab_gt_some, ab_gc_0, ab_gk_0, Bool.false_eq_true, Bool.true_eq_false, false_implies, Nat.reduceEqDiff, ab_ge, ab_lt, ab_le, ab_gt, ab_eq, ab_ne, decide_eq_true_eq, ab_w_id, ab_w0, ab_gd_some, ab_gs_0, ab_gs_1, ab_gl_0, ab_gl_1, ab_bv_some, ab_bu_some, ab_bv_thr, ab_bu_thr, ab_fx_n, ab_fx_i, ab_fx_q, ab_fx_l, ab_sh_si, ab_gr_si, ab_gl_si, cs_n, ↓reduceIte, true_or, or_true, false_or, or_false, and_true, true_and, and_false, false_and, not_true_eq_false, not_false_eq_true, eq_self, Int.reduceEq, Int.reduceLT, Int.reduceLE, Int.reduceAdd, Int.reduceMul, Int.reduceNeg, if_pos, if_neg, hm.1, hm.2.1, hrow, eD, v]
      exact n114_loop hR m d1 d2 h3 h4 k (i + 1) _ (by omega) (by omega)
theorem n114 {dd : Nat} {d s : Int} {g h : ab_H} {b : Nat} (hR : cs_R g) (m : mm g h b) (d1 : 0 ≤ d) (d2 : d < 8) (h3 : 0 ≤ s) (h4 : s < ab_gi g 1 1) :
    ab_E B dd 114 0 [some (.inr (.inr (.inl (some 18)))), some (.inl d), some (.inl s), none, none] [] h = some (.inl (some (.inl (cs_xo g d s))), h) := by
  have hDS := hR.2.1
  simp (disch := omega) only [e114_0, e114_1, e114_2, e114_3, e114_7, e114_8, e114_11, e114_14, e114_15, e114_17, e114_18, e114_21, e114_22, e114_25, e114_26, e114_29, e114_31, e114_32, e114_33, e114_34, e114_35, e114_36, e114_39, e114_42, e114_43, implies_true, Int.reduceSub, Option.isNone_some, Option.isNone_none, ab_bh_some, ab_bh_thr, ab_gs_3, ab_gl_2, ab_gl_3, ab_gt_some, ab_gc_0, ab_gk_0, Bool.false_eq_true, Bool.true_eq_false, false_implies, Nat.reduceEqDiff, ab_ge, ab_lt, ab_le, ab_gt, ab_eq, ab_ne, decide_eq_true_eq, ab_w_id, ab_w0, ab_gd_some, ab_gs_0, ab_gs_1, ab_gl_0, ab_gl_1, ab_bv_some, ab_bu_some, ab_bv_thr, ab_bu_thr, ab_fx_n, ab_fx_i, ab_fx_q, ab_fx_l, ab_sh_si, ab_gr_si, ab_gl_si, cs_n, ↓reduceIte, true_or, or_true, false_or, or_false, and_true, true_and, and_false, false_and, not_true_eq_false, not_false_eq_true, eq_self, Int.reduceEq, Int.reduceLT, Int.reduceLE, Int.reduceAdd, Int.reduceMul, Int.reduceNeg, if_pos, if_neg]
  rw [n114_loop hR m d1 d2 h3 h4 (ab_gi g 1 0).toNat 0 0 (by omega) (by omega)]
  rfl
theorem n115 {dd : Nat} {d s : Int} {g h : ab_H} {b : Nat} (hR : cs_R g) (m : mm g h b) (h1 : 0 ≤ d) (h2 : d < ab_gi g 1 0) (h3 : 0 ≤ s) (h4 : s < ab_gi g 1 1) :
    ab_E B (dd + 2) 115 0 [some (.inr (.inr (.inl (some 18)))), some (.inl d), some (.inl s)] [] h = some (.inl (some (.inl (cs_sh g d s))), h) := by
  have hm := m.1
  have hDS := hR.2.1
  have hrow := hm.2.2.1 d h1 h2
  have v := m.2.2.1.1 d s h1 h2 h3 h4
  have e11 := n111 (B := B) (dd := dd + 1) hR m h1 h2 h3 h4
  have e13 := n113 (B := B) (dd := dd) hR m h3 h4
  have e14 := n114 (B := B) (dd := dd + 1) hR m h1 (show d < 8 by omega) h3 h4
  have hb := cs_bc_le hR s
  unfold cs_sh
  rcases cs_b01 g d s with q | q
  · rw [if_pos q]
    simp (disch := omega) only [e115_0, e115_1, e115_2, e115_3, e115_6, e115_9, e115_10, e115_13, e115_14, e115_15, e115_16, e115_17, e115_18, e115_19, e115_20, e115_23, e115_24, e115_27, e115_28, e115_31, e115_32, e115_33, e115_34, e115_37, implies_true, Int.reduceSub, Option.isNone_some, Option.isNone_none, ab_bh_some, ab_bh_thr, ab_gs_3, ab_gl_2, ab_gl_3, ab_gt_some, ab_gc_0, ab_gk_0, Bool.false_eq_true, Bool.true_eq_false, false_implies, Nat.reduceEqDiff, ab_ge, ab_lt, ab_le, ab_gt, ab_eq, ab_ne, decide_eq_true_eq, ab_w_id, ab_w0, ab_gd_some, ab_gs_0, ab_gs_1, ab_gl_0, ab_gl_1, ab_bv_some, ab_bu_some, ab_bv_thr, ab_bu_thr, ab_fx_n, ab_fx_i, ab_fx_q, ab_fx_l, ab_sh_si, ab_gr_si, ab_gl_si, cs_n, ↓reduceIte, true_or, or_true, false_or, or_false, and_true, true_and, and_false, false_and, not_true_eq_false, not_false_eq_true, eq_self, Int.reduceEq, Int.reduceLT, Int.reduceLE, Int.reduceAdd, Int.reduceMul, Int.reduceNeg, if_pos, if_neg, hm.1, hm.2.1, hrow, v, e11, q]
  · rw [if_neg (by omega)]
    by_cases c : 1 < cs_bc g s
    · rw [if_pos c]
      simp (disch := omega) only [e115_0, e115_1, e115_2, e115_3, e115_6, e115_9, e115_10, e115_13, e115_14, e115_15, e115_16, e115_17, e115_18, e115_19, e115_20, e115_23, e115_24, e115_27, e115_28, e115_31, e115_32, e115_33, e115_34, e115_37, implies_true, Int.reduceSub, Option.isNone_some, Option.isNone_none, ab_bh_some, ab_bh_thr, ab_gs_3, ab_gl_2, ab_gl_3, ab_gt_some, ab_gc_0, ab_gk_0, Bool.false_eq_true, Bool.true_eq_false, false_implies, Nat.reduceEqDiff, ab_ge, ab_lt, ab_le, ab_gt, ab_eq, ab_ne, decide_eq_true_eq, ab_w_id, ab_w0, ab_gd_some, ab_gs_0, ab_gs_1, ab_gl_0, ab_gl_1, ab_bv_some, ab_bu_some, ab_bv_thr, ab_bu_thr, ab_fx_n, ab_fx_i, ab_fx_q, ab_fx_l, ab_sh_si, ab_gr_si, ab_gl_si, cs_n, ↓reduceIte, true_or, or_true, false_or, or_false, and_true, true_and, and_false, false_and, not_true_eq_false, not_false_eq_true, eq_self, Int.reduceEq, Int.reduceLT, Int.reduceLE, Int.reduceAdd, Int.reduceMul, Int.reduceNeg, if_pos, if_neg, hm.1, hm.2.1, e11, q, e13]
    · rw [if_neg c]
      simp (disch := omega) only [e115_0, e115_1, e115_2, e115_3, e115_6, e115_9, e115_10, e115_13, e115_14, e115_15, e115_16, e115_17, e115_18, e115_19, e115_20, e115_23, e115_24, e115_27, e115_28, e115_31, e115_32, e115_33, e115_34, e115_37, implies_true, Int.reduceSub, Option.isNone_some, Option.isNone_none, ab_bh_some, ab_bh_thr, ab_gs_3, ab_gl_2, ab_gl_3, ab_gt_some, ab_gc_0, ab_gk_0, Bool.false_eq_true, Bool.true_eq_false, false_implies, Nat.reduceEqDiff, ab_ge, ab_lt, ab_le, ab_gt, ab_eq, ab_ne, decide_eq_true_eq, ab_w_id, ab_w0, ab_gd_some, ab_gs_0, ab_gs_1, ab_gl_0, ab_gl_1, ab_bv_some, ab_bu_some, ab_bv_thr, ab_bu_thr, ab_fx_n, ab_fx_i, ab_fx_q, ab_fx_l, ab_sh_si, ab_gr_si, ab_gl_si, cs_n, ↓reduceIte, true_or, or_true, false_or, or_false, and_true, true_and, and_false, false_and, not_true_eq_false, not_false_eq_true, eq_self, Int.reduceEq, Int.reduceLT, Int.reduceLE, Int.reduceAdd, Int.reduceMul, Int.reduceNeg, if_pos, if_neg, hm.1, hm.2.1, e11, q, e13, e14]
theorem cs_B_D {g : ab_H} {k : Int} (hR : cs_R g) (h1 : 0 ≤ k) (h2 : k < cs_B g) : 3 ≤ ab_gi g 1 0 ∧ k < (ab_gi g 1 0 - 1) * ab_gi g 1 1 ∧ k < 32 ∧ 0 ≤ k / (ab_gi g 1 0 - 1) ∧ k / (ab_gi g 1 0 - 1) < ab_gi g 1 1 ∧ 0 ≤ cs_dk (ab_gi g 1 0) k ∧ cs_dk (ab_gi g 1 0) k < ab_gi g 1 0 ∧ cs_dk (ab_gi g 1 0) k ≠ k / (ab_gi g 1 0 - 1) % ab_gi g 1 0 := by
  have hD := hR.2.1
  have c : 0 < ab_gi g 1 0 := by
    refine Decidable.byContradiction fun c => ?_
    unfold cs_B at h2
    rw [if_neg c] at h2
    omega
  have h3 : k < (ab_gi g 1 0 - 1) * ab_gi g 1 1 := by unfold cs_B at h2; rw [if_pos c] at h2; exact h2
  exact ⟨by omega, h3, cs_blk (by omega) (by omega) (show ab_gi g 1 1 ≤ 8 by omega) h1 h3⟩
theorem n117 {dd : Nat} {k : Int} {g h : ab_H} {b : Nat} (hR : cs_R g) (m : mm g h b) (h1 : 0 ≤ k) (h2 : k < cs_B g) :
    ab_E B (dd + 3) 117 0 [some (.inr (.inr (.inl (some 18)))), some (.inl k)] [] h = some (.inl (some (.inl (cs_sh g (cs_dk (ab_gi g 1 0) k) (k / (ab_gi g 1 0 - 1))))), h) := by
  have hs := m.1.1.1
  obtain ⟨hD, -, b1, b2, b3, b4, b5, b6⟩ := cs_B_D hR h1 h2
  have e7 := n107 (B := B) (dd := dd + 2) hR m hD h1 b1
  have e9 := n109 (B := B) (dd := dd + 1) hR m hD h1 b1
  have e15 := n115 (B := B) (dd := dd) hR m b4 b5 b2 b3
  simp (disch := omega) only [e117_0, e117_1, e117_2, e117_3, e117_6, e117_7, e117_8, e117_11, e117_14, implies_true, Int.reduceSub, Option.isNone_some, Option.isNone_none, ab_bh_some, ab_bh_thr, ab_gs_3, ab_gl_2, ab_gl_3, ab_gt_some, ab_gc_0, ab_gk_0, Bool.false_eq_true, Bool.true_eq_false, false_implies, Nat.reduceEqDiff, ab_ge, ab_lt, ab_le, ab_gt, ab_eq, ab_ne, decide_eq_true_eq, ab_w_id, ab_w0, ab_gd_some, ab_gs_0, ab_gs_1, ab_gl_0, ab_gl_1, ab_bv_some, ab_bu_some, ab_bv_thr, ab_bu_thr, ab_fx_n, ab_fx_i, ab_fx_q, ab_fx_l, ab_sh_si, ab_gr_si, ab_gl_si, cs_n, ↓reduceIte, true_or, or_true, false_or, or_false, and_true, true_and, and_false, false_and, not_true_eq_false, not_false_eq_true, eq_self, Int.reduceEq, Int.reduceLT, Int.reduceLE, Int.reduceAdd, Int.reduceMul, Int.reduceNeg, if_pos, if_neg, hs, e7, e9, e15]
/-- the blocks that are lost -/
def mlost (g : ab_H) : Int := cs_sf (fun k => if cs_sh g (cs_dk (ab_gi g 1 0) k) (k / (ab_gi g 1 0 - 1)) = -1 then 1 else 0) 0 (cs_B g).toNat
theorem n118_loop {dd : Nat} {g h : ab_H} {b : Nat} (hR : cs_R g) (m : mm g h b) : ∀ (k : Nat) (i c : Int), 0 ≤ i → i + k = cs_B g →
    ab_E B (dd + 4) 118 4 [some (.inr (.inr (.inl (some 18)))), some (.inl c), some (.inl i)] [] h = some (.inl (some (.inl (c + cs_sf (fun k => if cs_sh g (cs_dk (ab_gi g 1 0) k) (k / (ab_gi g 1 0 - 1)) = -1 then 1 else 0) i k))), h)
  | 0, i, c, q1, q2 => by
    have hs := m.1.1.1
    have hB := cs_B_le hR
    have e6 := n106 (B := B) (dd := dd + 3) hR m
    rw [e118_4]
    simp (disch := omega) only [e118_0, e118_1, e118_2, e118_3, e118_5, e118_6, e118_9, e118_12, e118_13, e118_14, e118_15, e118_18, e118_19, e118_22, e118_23, e118_26, e118_27, e118_28, e118_29, e118_32, e118_35, e118_36, implies_true, Int.reduceSub, Option.isNone_some, Option.isNone_none, ab_bh_some, ab_bh_thr, ab_gs_3, ab_gl_2, ab_gl_3, ab_gt_some, ab_gc_0, ab_gk_0, Bool.false_eq_true, Bool.true_eq_false, false_implies, Nat.reduceEqDiff, ab_ge, ab_lt, ab_le, ab_gt, ab_eq, ab_ne, decide_eq_true_eq, ab_w_id, ab_w0, ab_gd_some, ab_gs_0, ab_gs_1, ab_gl_0, ab_gl_1, ab_bv_some, ab_bu_some, ab_bv_thr, ab_bu_thr, ab_fx_n, ab_fx_i, ab_fx_q, ab_fx_l, ab_sh_si, ab_gr_si, ab_gl_si, cs_n, ↓reduceIte, true_or, or_true, false_or, or_false, and_true, true_and, and_false, false_and, not_true_eq_false, not_false_eq_true, eq_self, Int.reduceEq, Int.reduceLT, Int.reduceLE, Int.reduceAdd, Int.reduceMul, Int.reduceNeg, if_pos, if_neg, hs, e6, cs_sf, Int.add_zero]
  | k + 1, i, c, q1, q2 => by
    have hs := m.1.1.1
    have hB := cs_B_le hR
    have e6 := n106 (B := B) (dd := dd + 3) hR m
    obtain ⟨hD, -, b1, b2, b3, b4, b5, b6⟩ := cs_B_D hR q1 (show i < cs_B g by omega)
    have e17 := n117 (B := B) (dd := dd) hR m q1 (show i < cs_B g by omega)
    have hr := cs_sh_rng hR b4 b5 b2 b3
    rw [e118_4]
    unfold cs_sf
    by_cases z : cs_sh g (cs_dk (ab_gi g 1 0) i) (i / (ab_gi g 1 0 - 1)) = -1
    · rw [if_pos z]
      simp (disch := omega) only [e118_0, e118_1, e118_2, e118_3, e118_5, e118_6, e118_9, e118_12, e118_13, e118_14, e118_15, e118_18, e118_19, e118_22, e118_23, e118_26, e118_27, e118_28, e118_29, e118_32, e118_35, e118_36, implies_true, Int.reduceSub, Option.isNone_some, Option.isNone_none, ab_bh_some, ab_bh_thr, ab_gs_3, ab_gl_2, ab_gl_3, ab_gt_some, ab_gc_0, ab_gk_0, Bool.false_eq_true, Bool.true_eq_false, false_implies, Nat.reduceEqDiff, ab_ge, ab_lt, ab_le, ab_gt, ab_eq, ab_ne, decide_eq_true_eq, ab_w_id, ab_w0, ab_gd_some, ab_gs_0, ab_gs_1, ab_gl_0, ab_gl_1, ab_bv_some, ab_bu_some, ab_bv_thr, ab_bu_thr, ab_fx_n, ab_fx_i, ab_fx_q, ab_fx_l, ab_sh_si, ab_gr_si, ab_gl_si, cs_n, ↓reduceIte, true_or, or_true, false_or, or_false, and_true, true_and, and_false, false_and, not_true_eq_false, not_false_eq_true, eq_self, Int.reduceEq, Int.reduceLT, Int.reduceLE, Int.reduceAdd, Int.reduceMul, Int.reduceNeg, if_pos, if_neg, hs, e6, e17, z]
      rw [n118_loop hR m k (i + 1) _ (by omega) (by omega), Int.add_assoc]
    · rw [if_neg z]
      simp (disch := omega) only [e118_0, e118_1, e118_2, e118_3, e118_5, e118_6, e118_9, e118_12, e118_13, e118_14, e118_15, e118_18, e118_19, e118_22, e118_23, e118_26, e118_27, e118_28, e118_29, e118_32, e118_35, e118_36, implies_true, Int.reduceSub, Option.isNone_some, Option.isNone_none, ab_bh_some, ab_bh_thr, ab_gs_3, ab_gl_2, ab_gl_3, ab_gt_some, ab_gc_0, ab_gk_0, Bool.false_eq_true, Bool.true_eq_false, false_implies, Nat.reduceEqDiff, ab_ge, ab_lt, ab_le, ab_gt, ab_eq, ab_ne, decide_eq_true_eq, ab_w_id, ab_w0, ab_gd_some, ab_gs_0, ab_gs_1, ab_gl_0, ab_gl_1, ab_bv_some, ab_bu_some, ab_bv_thr, ab_bu_thr, ab_fx_n, ab_fx_i, ab_fx_q, ab_fx_l, ab_sh_si, ab_gr_si, ab_gl_si, cs_n, ↓reduceIte, true_or, or_true, false_or, or_false, and_true, true_and, and_false, false_and, not_true_eq_false, not_false_eq_true, eq_self, Int.reduceEq, Int.reduceLT, Int.reduceLE, Int.reduceAdd, Int.reduceMul, Int.reduceNeg, if_pos, if_neg, hs, e6, e17, eq_false z]
      rw [n118_loop hR m k (i + 1) _ (by omega) (by omega), Int.add_assoc]
theorem n118 {dd : Nat} {g h : ab_H} {b : Nat} (hR : cs_R g) (m : mm g h b) :
    ab_E B (dd + 4) 118 0 [some (.inr (.inr (.inl (some 18)))), none, none] [] h = some (.inl (some (.inl (mlost g))), h) := by
  have hB := cs_B_le hR
  simp (disch := omega) only [e118_0, e118_1, e118_2, e118_3, e118_5, e118_6, e118_9, e118_12, e118_13, e118_14, e118_15, e118_18, e118_19, e118_22, e118_23, e118_26, e118_27, e118_28, e118_29, e118_32, e118_35, e118_36, implies_true, Int.reduceSub, Option.isNone_some, Option.isNone_none, ab_bh_some, ab_bh_thr, ab_gs_3, ab_gl_2, ab_gl_3, ab_gt_some, ab_gc_0, ab_gk_0, Bool.false_eq_true, Bool.true_eq_false, false_implies, Nat.reduceEqDiff, ab_ge, ab_lt, ab_le, ab_gt, ab_eq, ab_ne, decide_eq_true_eq, ab_w_id, ab_w0, ab_gd_some, ab_gs_0, ab_gs_1, ab_gl_0, ab_gl_1, ab_bv_some, ab_bu_some, ab_bv_thr, ab_bu_thr, ab_fx_n, ab_fx_i, ab_fx_q, ab_fx_l, ab_sh_si, ab_gr_si, ab_gl_si, cs_n, ↓reduceIte, true_or, or_true, false_or, or_false, and_true, true_and, and_false, false_and, not_true_eq_false, not_false_eq_true, eq_self, Int.reduceEq, Int.reduceLT, Int.reduceLE, Int.reduceAdd, Int.reduceMul, Int.reduceNeg, if_pos, if_neg]
  rw [n118_loop hR m (cs_B g).toNat 0 0 (by omega) (by omega), Int.zero_add]
  rfl
end
