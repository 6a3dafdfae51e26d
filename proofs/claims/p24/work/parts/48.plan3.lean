set_option linter.all false
/-! THE REFERENCE: the plan as it keeps it -/
section
variable {B : ab_B}
def mPot (h : ab_H) : Nat := if ab_gi h 18 11 = 1 then 0 else 362
/-- what an asking may do to the rest; a plan is made but once -/
def mW (h h' : ab_H) (k s : Nat) : Prop := (∃ l, ab_sh h' = ab_sh h ++ l) ∧ (∀ c x, c < 18 → ab_gi h' c x = ab_gi h c x ∧ ab_gr h' c x = ab_gr h c x) ∧ ab_gl h' 30 0 = ab_gl h 30 0 ∧ ab_kc h' + mPot h' ≤ ab_kc h + mPot h + k ∧ ab_ks h' + 5 * mPot h' ≤ ab_ks h + 5 * mPot h + s ∧ ab_gi h' 18 0 = ab_gi h 18 0
theorem mW.rf {h : ab_H} {k s : Nat} : mW h h k s := ⟨⟨[], by simp⟩, fun _ _ _ => ⟨rfl, rfl⟩, rfl, Nat.le_add_right _ _, Nat.le_add_right _ _, rfl⟩
theorem mW.trans {h h' h2 : ab_H} {k s k' s' : Nat} (a : mW h h' k s) (b : mW h' h2 k' s') : mW h h2 (k + k') (s + s') := by
  obtain ⟨⟨l, a1⟩, a2, a3, a4, a5, a6⟩ := a
  obtain ⟨⟨l', b1⟩, b2, b3, b4, b5, b6⟩ := b
  exact ⟨⟨l ++ l', by rw [b1, a1, List.append_assoc]⟩, fun c x hc => ⟨(b2 c x hc).1.trans (a2 c x hc).1, (b2 c x hc).2.trans (a2 c x hc).2⟩, b3.trans a3, by omega, by omega, b6.trans a6⟩
theorem mW.mono {h h' : ab_H} {k s k' s' : Nat} (a : mW h h' k s) (hk : k ≤ k') (hs : s ≤ s') : mW h h' k' s' := ⟨a.1, a.2.1, a.2.2.1, by have := a.2.2.2.1; omega, by have := a.2.2.2.2.1; omega, a.2.2.2.2.2⟩
theorem mE.W {h h' : ab_H} {k s : Nat} (a : mE h h' k s) (e : ab_gi h' 18 11 = ab_gi h 18 11) (e0 : ab_gi h' 18 0 = ab_gi h 18 0) : mW h h' k s := by
  have ep : mPot h' = mPot h := by unfold mPot; rw [e]
  exact ⟨a.1, a.2.1, a.2.2.1, by rw [ep]; have := a.2.2.2.1; omega, by rw [ep]; have := a.2.2.2.2; omega, e0⟩
theorem mPot_0 {h : ab_H} (e : ab_gi h 18 11 = 1) : mPot h = 0 := if_pos e
theorem mPot_le (h : ab_H) : mPot h ≤ 362 := by unfold mPot; split <;> omega
theorem mW.E {h h' : ab_H} {k s : Nat} (a : mW h h' k s) : mE h h' (k + 362) (s + 1810) := by
  have := mPot_le h
  exact ⟨a.1, a.2.1, a.2.2.1, by have := a.2.2.2.1; omega, by have := a.2.2.2.2.1; omega⟩
theorem mm_kn {g h h' : ab_H} {b : Nat} {r : Option Nat} (m : mm g h b) (es : ab_sh h' = ab_sh h) (er : ∀ c x, ¬ (c = 18 ∧ x = 10) → ab_gr h' c x = ab_gr h c x) (e10 : ab_gr h' 18 10 = r) (ei : ∀ c x, ¬ (c = 18 ∧ x = 11) → ab_gi h' c x = ab_gi h c x) (e11 : ab_gi h' 18 11 = 1) (X : mX h b (ab_gi g 1 0) r (pk_plan (ck_K g) (ab_gi g 1 0))) : mm g h' b ∧ mX h' b (ab_gi g 1 0) r (pk_plan (ck_K g) (ab_gi g 1 0)) := by
  obtain ⟨m1, m2, m3, m4, m5, m6⟩ := m
  have hb : 19 ≤ b := by have := m1.2.2.2.2; omega
  have f18 := fun x (hx : x ≠ 11) => ei 18 x (by omega)
  have eK : mKK h' = mKK h := mKK_of (fun c x _ _ => ei c x (by omega)) (f18 19 (by decide)) (f18 20 (by decide))
  have X' : mX h' b (ab_gi g 1 0) r (pk_plan (ck_K g) (ab_gi g 1 0)) := mX_of X (fun i x q => by rw [es]; exact q) (fun c x c1 _ _ => ⟨er c x (by omega), ei c x (by omega)⟩)
  refine ⟨⟨mL_of m1 (fun i x q => by rw [es]; exact q) (fun c x _ _ q => er c x (by omega)), ?_, ?_, eK.trans m4, ?_, Or.inr e11, fun _ => ?_⟩, X'⟩
  · obtain ⟨a1, a2, a3, a4, a5, a6, a7, a8, a9, a10⟩ := m2
    exact ⟨(f18 1 (by decide)).trans a1, (f18 2 (by decide)).trans a2, (f18 3 (by decide)).trans a3, (f18 12 (by decide)).trans a4, (f18 13 (by decide)).trans a5, (f18 14 (by decide)).trans a6, (f18 15 (by decide)).trans a7, (f18 16 (by decide)).trans a8, (f18 17 (by decide)).trans a9, (f18 18 (by decide)).trans a10⟩
  · obtain ⟨c1, c2, c3⟩ := m3
    refine ⟨fun d s d1 d2 s1 s2 => ?_, fun d d1 d2 => ?_, fun k k1 k2 => ?_⟩
    · rw [ei _ s (by omega), ei _ s (by omega)]; exact c1 d s d1 d2 s1 s2
    · rw [ei _ d (by omega), ei _ d (by omega)]; exact c2 d d1 d2
    · rw [ei _ k (by omega)]; exact c3 k k1 k2
  · rcases m5 with ⟨n1, n2⟩ | ⟨c, n1, n2, n3, n4, n5, n6, n7⟩
    · exact Or.inl ⟨(er 18 9 (by omega)).trans n1, n2⟩
    · exact Or.inr ⟨c, (er 18 9 (by omega)).trans n1, n2, by rw [es]; exact n3, (ei c 0 (by omega)).trans n4, (ei c 1 (by omega)).trans n5, (ei c 2 (by omega)).trans n6, n7⟩
  · rw [e10, eK, m4]; exact X'
theorem n137 {dd : Nat} {g h : ab_H} {b : Nat} (i : ci g) (m : mm g h b) :
    ∃ h' r, ab_E B (dd + 8) 137 0 [some (.inr (.inr (.inl (some 18))))] [] h = some (.inl (some (.inr (.inr (.inl r)))), h') ∧ mm g h' b ∧ mW h h' 0 0 ∧ mX h' b (ab_gi g 1 0) r (pk_plan (ck_K g) (ab_gi g 1 0)) ∧ ab_gi h' 18 11 = 1 := by
  have hm := m.1
  have hDS := i.1.2.1
  have eD := m.2.1.1
  have eK := m.2.2.2.1
  have l18 := ab_sh_lt hm.1.1
  have l24 := ab_sh_lt (hm.2.2.2.1 4 (by omega) (by omega)).2
  have l30 : 30 ≤ ab_n h := by
    have e : (4 : Int).toNat = 4 := rfl
    rw [e] at l24; omega
  rcases m.2.2.2.2.2 with ⟨k01 | k01, k2⟩
  · by_cases c0 : ab_gi g 1 0 = 0
    · have ep : pk_plan (ck_K g) (ab_gi g 1 0) = none := by unfold pk_plan; rw [if_pos c0]
      obtain ⟨m', X'⟩ := mm_kn (r := none) (h' := ab_si (ab_sr h 18 10 none) 18 11 1) m rfl (fun c x q => by rw [ab_gr_si, ab_gr_sr, if_neg q]) (by rw [ab_gr_si, ab_gr_sr, if_pos ⟨rfl, rfl⟩]) (fun c x q => by rw [ab_gi_si, if_neg q]; rfl) (by rw [ab_gi_si, if_pos ⟨rfl, rfl⟩]) (by rw [ep]; rfl)
      have p1 : mPot (ab_si (ab_sr h 18 10 none) 18 11 1) = 0 := mPot_0 (by rw [ab_gi_si, if_pos ⟨rfl, rfl⟩])
      refine ⟨_, none, ?_, m', ⟨⟨[], by simp [ab_sh_si, ab_sh_sr]⟩, fun c x hc => ⟨by rw [ab_gi_si, if_neg (by omega)]; rfl, by rw [ab_gr_si, ab_gr_sr, if_neg (by omega)]⟩, rfl, ?_, ?_, by rw [ab_gi_si, if_neg (by omega)]; rfl⟩, X', by rw [ab_gi_si, if_pos ⟨rfl, rfl⟩]⟩
      · have f11 : ab_gi (ab_sr h 18 10 none) 18 11 = 0 := k01
        have f10 : ab_gr (ab_sr h 18 10 none) 18 10 = none := by rw [ab_gr_sr, if_pos ⟨rfl, rfl⟩]
        simp (disch := omega) only [e137_0, e137_1, e137_4, e137_7, e137_8, e137_9, e137_12, e137_15, e137_16, e137_19, e137_20, e137_21, e137_24, e137_27, e137_28, e137_31, e137_33, e137_34, e137_35, e137_38, e137_41, e137_42, e137_43, e137_46, e137_47, e137_50, implies_true, Int.reduceSub, Option.isNone_some, Option.isNone_none, ab_bh_some, ab_bh_thr, ab_gs_3, ab_gl_2, ab_gl_3, ab_gt_some, ab_gc_0, ab_gk_0, Bool.false_eq_true, Bool.true_eq_false, false_implies, Nat.reduceEqDiff, ab_ge, ab_lt, ab_le, ab_gt, ab_eq, ab_ne, decide_eq_true_eq, ab_w_id, ab_w0, ab_gd_some, ab_gs_0, ab_gs_1, ab_gl_0, ab_gl_1, ab_bv_some, ab_bu_some, ab_bv_thr, ab_bu_thr, ab_fx_n, ab_fx_i, ab_fx_q, ab_fx_l, ab_sh_si, ab_gr_si, ab_gl_si, cs_n, ↓reduceIte, true_or, or_true, false_or, or_false, and_true, true_and, and_false, false_and, not_true_eq_false, not_false_eq_true, eq_self, Int.reduceEq, Int.reduceLT, Int.reduceLE, Int.reduceAdd, Int.reduceMul, Int.reduceNeg, if_pos, if_neg, hm.1, k01, eD, c0, ab_sh_sr, f10]
      · rw [p1]; show ab_kc h + 0 ≤ _; omega
      · rw [p1]; show ab_ks h + 5 * 0 ≤ _; omega
    · have D3 : 3 ≤ ab_gi g 1 0 := by omega
      have D5 : ab_gi g 1 0 ≤ 5 := by omega
      have hK : pk_ok (ck_K g) := ck_K_ok i.2.1.1.1
      have b31 : 31 ≤ b := by have := hm.2.2.2.2; omega
      have lb := ab_sh_lt hm.1.2.2.2.2.2.2
      obtain ⟨h1, a1, w1, v1⟩ := n135 (B := B) (dd := dd + 7) (h := h) (show 0 ≤ ab_gi g 1 0 by omega) D5
      have sh1 : ab_sh h1 = ab_sh h ++ [(0, (ab_gi g 1 0).toNat)] := by unfold ab_sh; rw [w1]; exact ab_sh_new h 0 _
      have n1 : ab_n h1 = ab_n h + 1 := by unfold ab_n; rw [sh1]; simp
      have sh2 : ab_sh (ab_new h1 0 (ab_gi g 1 0).toNat) = ab_sh h ++ [(0, (ab_gi g 1 0).toNat), (0, (ab_gi g 1 0).toNat)] := by rw [ab_sh_new, sh1, List.append_assoc]; rfl
      have n2 : ab_n (ab_new h1 0 (ab_gi g 1 0).toNat) = ab_n h + 2 := by rw [ab_new_n, n1]
      have gr1 : ∀ c x, c < ab_n h → ab_gr h1 c x = ab_gr h c x := fun c x q => by
        have : ab_gr h1 c x = ab_gr (ab_new h 0 (ab_gi g 1 0).toNat) c x := by unfold ab_gr; rw [w1]
        rw [this, ab_gr_new, if_neg (by omega)]
      have gl1 : ab_gl h1 30 0 = ab_gl h 30 0 := by
        have : ab_gl h1 30 0 = ab_gl (ab_new h 0 (ab_gi g 1 0).toNat) 30 0 := by unfold ab_gl; rw [w1]
        rw [this, ab_gl_new, if_neg (by omega)]
      have kc1 : ab_kc h1 = ab_kc h + 1 := by unfold ab_kc; rw [w1]; rfl
      have ks1 : ab_ks h1 = ab_ks h + (ab_gi g 1 0).toNat := by unfold ab_ks; rw [w1]; rfl
      have gi1 : ∀ c x, c < ab_n h → ab_gi h1 c x = ab_gi h c x := fun c x q => by rw [v1, if_neg (by omega), ab_gi_new, if_neg (by omega)]
      have gi2 : ∀ c x, c < ab_n h → ab_gi (ab_new h1 0 (ab_gi g 1 0).toNat) c x = ab_gi h c x := fun c x q => by rw [ab_gi_new, if_neg (by omega), gi1 c x q]
      have gr2 : ∀ c x, c < ab_n h → ab_gr (ab_new h1 0 (ab_gi g 1 0).toNat) c x = ab_gr h c x := fun c x q => by rw [ab_gr_new, if_neg (by omega), gr1 c x q]
      have m2 : mm g (ab_new h1 0 (ab_gi g 1 0).toNat) b := mm_of m (fun i x q => ab_sh_pre sh2 q) (fun c x _ q => gr2 c x q) (fun c x _ q _ => gi2 c x q)
      have s1 : (ab_sh (ab_new h1 0 (ab_gi g 1 0).toNat))[ab_n h]? = some (0, (ab_gi g 1 0).toNat) := by
        have : (ab_sh h1)[ab_n h]? = some (0, (ab_gi g 1 0).toNat) := by unfold ab_sh; rw [w1]; exact ab_sh_new_at h 0 _
        exact ab_sh_new_lt this
      have s2 : (ab_sh (ab_new h1 0 (ab_gi g 1 0).toNat))[ab_n h + 1]? = some (0, (ab_gi g 1 0).toNat) := by have := ab_sh_new_at h1 0 (ab_gi g 1 0).toNat; rwa [n1] at this
      have q2 : qI (ab_new h1 0 (ab_gi g 1 0).toNat) b (ck_K g) (ab_gi g 1 0) (ab_gi g 1 1) (ab_n h) (ab_n h + 1) (fun _ => -1) (fun _ => -1) 0 := ⟨⟨m2.1, m2.2.2.2.1, m2.2.1.1⟩, ⟨⟨lb, by omega⟩, ⟨by omega, by omega⟩, by omega⟩, ⟨s1, s2⟩, fun d d1 d2 => by rw [ab_gi_new, if_neg (by omega), v1, if_pos ⟨rfl, d1, d2⟩], fun d _ _ q => absurd rfl q, fun k k1 k2 => by omega⟩
      obtain ⟨h3, r, a3, f3, X3, -, -⟩ := n136 (B := B) (e := dd + 5 - (ab_gi g 1 0).toNat) (S := ab_gi g 1 1) D3 D5 hK (ab_gi g 1 0).toNat (ab_new h1 0 (ab_gi g 1 0).toNat) b _ _ 0 0 (ab_n h) (ab_n h + 1) q2 (pk_I_0 hK) (by omega) (by omega)
      rw [show dd + 5 - (ab_gi g 1 0).toNat + (ab_gi g 1 0).toNat + 2 = dd + 7 from by omega] at a3
      have ep : pk_pl (ck_K g) (ab_gi g 1 0) (ab_gi g 1 0).toNat (fun _ => -1) (fun _ => -1) 0 0 = pk_plan (ck_K g) (ab_gi g 1 0) := by unfold pk_plan; rw [if_neg c0]
      rw [ep] at X3
      rw [n2] at f3 X3
      have gi3 : ∀ c x, c < ab_n h → ab_gi h3 c x = ab_gi h c x := fun c x q => by rw [f3.2.1 c x (by omega) (by omega) (by omega)]; exact gi2 c x q
      have gr3 : ∀ c x, c < ab_n h → ab_gr h3 c x = ab_gr h c x := fun c x q => by rw [f3.2.2.1 c x (by omega)]; exact gr2 c x q
      have m3 : mm g h3 b := mm_of m (fun i x q => f3.sh _ _ (ab_sh_pre sh2 q)) (fun c x _ q => gr3 c x q) (fun c x _ q _ => gi3 c x q)
      obtain ⟨m', X'⟩ := mm_kn (r := r) (h' := ab_si (ab_sr h3 18 10 r) 18 11 1) m3 rfl (fun c x q => by rw [ab_gr_si, ab_gr_sr, if_neg q]) (by rw [ab_gr_si, ab_gr_sr, if_pos ⟨rfl, rfl⟩]) (fun c x q => by rw [ab_gi_si, if_neg q]; rfl) (by rw [ab_gi_si, if_pos ⟨rfl, rfl⟩]) (X3.mX (by omega) (by omega))
      have p1 : mPot (ab_si (ab_sr h3 18 10 r) 18 11 1) = 0 := mPot_0 (by rw [ab_gi_si, if_pos ⟨rfl, rfl⟩])
      have p0 : mPot h = 362 := by unfold mPot; rw [k01]; rfl
      have hc : 3 * pT (ab_gi g 1 0).toNat ≤ 360 ∧ (2 + 2 * (ab_gi g 1 0).toNat) * pT (ab_gi g 1 0).toNat ≤ 1440 := by
        have : (ab_gi g 1 0).toNat = 3 ∨ (ab_gi g 1 0).toNat = 4 ∨ (ab_gi g 1 0).toNat = 5 := by omega
        rcases this with z | z | z <;> rw [z] <;> decide
      have hm1 : (ab_sh h1)[18]? = some (8, 22) := ab_sh_pre sh1 hm.1.1
      have e1 : ab_gi h1 18 1 = ab_gi g 1 0 := by rw [gi1 18 1 l18]; exact eD
      have hm3 := m3.1
      have hm2 := m2.1.1.1
      refine ⟨_, r, ?_, m', ⟨?_, fun c x hc => ⟨?_, ?_⟩, ?_, ?_, ?_, ?_⟩, X', by rw [ab_gi_si, if_pos ⟨rfl, rfl⟩]⟩
      · have f10 : ab_gr (ab_sr h3 18 10 r) 18 10 = r := by rw [ab_gr_sr, if_pos ⟨rfl, rfl⟩]
        simp (disch := omega) only [e137_0, e137_1, e137_4, e137_7, e137_8, e137_9, e137_12, e137_15, e137_16, e137_19, e137_20, e137_21, e137_24, e137_27, e137_28, e137_31, e137_33, e137_34, e137_35, e137_38, e137_41, e137_42, e137_43, e137_46, e137_47, e137_50, implies_true, Int.reduceSub, Option.isNone_some, Option.isNone_none, ab_bh_some, ab_bh_thr, ab_gs_3, ab_gl_2, ab_gl_3, ab_gt_some, ab_gc_0, ab_gk_0, Bool.false_eq_true, Bool.true_eq_false, false_implies, Nat.reduceEqDiff, ab_ge, ab_lt, ab_le, ab_gt, ab_eq, ab_ne, decide_eq_true_eq, ab_w_id, ab_w0, ab_gd_some, ab_gs_0, ab_gs_1, ab_gl_0, ab_gl_1, ab_bv_some, ab_bu_some, ab_bv_thr, ab_bu_thr, ab_fx_n, ab_fx_i, ab_fx_q, ab_fx_l, ab_sh_si, ab_gr_si, ab_gl_si, cs_n, ↓reduceIte, true_or, or_true, false_or, or_false, and_true, true_and, and_false, false_and, not_true_eq_false, not_false_eq_true, eq_self, Int.reduceEq, Int.reduceLT, Int.reduceLE, Int.reduceAdd, Int.reduceMul, Int.reduceNeg, if_pos, if_neg, hm.1, k01, eD, eq_false c0, a1, hm1, e1, n1, hm2, a3, ab_sh_sr, hm3.1, f10]
      · obtain ⟨l, el⟩ := f3.1
        exact ⟨_, by rw [ab_sh_si, ab_sh_sr, el, sh2, List.append_assoc]⟩
      · rw [ab_gi_si, if_neg (by omega)]; exact gi3 c x (by omega)
      · rw [ab_gr_si, ab_gr_sr, if_neg (by omega)]; exact gr3 c x (by omega)
      · show ab_gl h3 30 0 = _
        rw [f3.2.2.2.1, ab_gl_new, if_neg (by omega)]; exact gl1
      · rw [p1, p0]
        show ab_kc h3 + 0 ≤ _
        have := f3.2.2.2.2.1
        rw [ab_kc_new, kc1] at this
        omega
      · rw [p1, p0]
        show ab_ks h3 + 5 * 0 ≤ _
        have := f3.2.2.2.2.2
        rw [ab_ks_new, ks1] at this
        omega
      · rw [ab_gi_si, if_neg (by omega)]; exact gi3 18 0 l18
  · have X := k2 k01
    rw [eK] at X
    obtain ⟨m', X'⟩ := mm_kn (r := ab_gr h 18 10) (h' := ab_si h 18 11 1) m rfl (fun c x q => rfl) rfl (fun c x q => by rw [ab_gi_si, if_neg q]) (by rw [ab_gi_si, if_pos ⟨rfl, rfl⟩]) X
    have g11 : ab_gi (ab_si h 18 11 1) 18 11 = ab_gi h 18 11 := by rw [ab_gi_si, if_pos ⟨rfl, rfl⟩, k01]
    refine ⟨_, _, ?_, m', (mE.si (by omega)).W g11 (by rw [ab_gi_si, if_neg (by omega)]), X', by rw [ab_gi_si, if_pos ⟨rfl, rfl⟩]⟩
    simp (disch := omega) only [e137_0, e137_1, e137_4, e137_7, e137_8, e137_9, e137_12, e137_15, e137_16, e137_19, e137_20, e137_21, e137_24, e137_27, e137_28, e137_31, e137_33, e137_34, e137_35, e137_38, e137_41, e137_42, e137_43, e137_46, e137_47, e137_50, implies_true, Int.reduceSub, Option.isNone_some, Option.isNone_none, ab_bh_some, ab_bh_thr, ab_gs_3, ab_gl_2, ab_gl_3, ab_gt_some, ab_gc_0, ab_gk_0, Bool.false_eq_true, Bool.true_eq_false, false_implies, Nat.reduceEqDiff, ab_ge, ab_lt, ab_le, ab_gt, ab_eq, ab_ne, decide_eq_true_eq, ab_w_id, ab_w0, ab_gd_some, ab_gs_0, ab_gs_1, ab_gl_0, ab_gl_1, ab_bv_some, ab_bu_some, ab_bv_thr, ab_bu_thr, ab_fx_n, ab_fx_i, ab_fx_q, ab_fx_l, ab_sh_si, ab_gr_si, ab_gl_si, cs_n, ↓reduceIte, true_or, or_true, false_or, or_false, and_true, true_and, and_false, false_and, not_true_eq_false, not_false_eq_true, eq_self, Int.reduceEq, Int.reduceLT, Int.reduceLE, Int.reduceAdd, Int.reduceMul, Int.reduceNeg, if_pos, if_neg, hm.1, k01]
/-! kind and fuse -/
theorem mm_kd {g g' h h' : ab_H} {b : Nat} (m : mm g h b) (hh2 : h'.2 = h.2) (g0 : ∀ c x, c < 7 → ab_gi g' c x = ab_gi g c x) (h0 : ∀ c x, 18 ≤ c → ¬ (25 ≤ c ∧ c < 30) → ¬ (c = 18 ∧ (x = 11 ∨ x = 19 ∨ x = 20)) → ab_gi h' c x = ab_gi h c x) (e11 : ab_gi h' 18 11 = 0) (eK : mKK h' = ck_K g') : mm g' h' b := by
  obtain ⟨m1, m2, m3, m4, m5, m6⟩ := m
  have hb := m1.2.2.2.2
  have es : ab_sh h' = ab_sh h := by unfold ab_sh; rw [hh2]
  have er : ab_gr h' = ab_gr h := by unfold ab_gr; rw [hh2]
  have f18 := fun x (hx : ¬ (x = 11 ∨ x = 19 ∨ x = 20)) => h0 18 x (by omega) (by omega) (by omega)
  unfold mm
  rw [g0 1 0 (by omega), g0 1 1 (by omega)]
  refine ⟨mL_of m1 (fun i x q => by rw [es]; exact q) (fun c x _ _ _ => by rw [er]), ?_, ?_, eK, ?_, Or.inl e11, fun q => by omega⟩
  · unfold mF
    rw [f18 1 (by omega), f18 2 (by omega), f18 3 (by omega), f18 12 (by omega), f18 13 (by omega), f18 14 (by omega), f18 15 (by omega), f18 16 (by omega), f18 17 (by omega), f18 18 (by omega), g0 1 0 (by omega), g0 1 1 (by omega), g0 0 2 (by omega), g0 0 6 (by omega), g0 0 7 (by omega), g0 0 8 (by omega), g0 0 9 (by omega), g0 0 10 (by omega), g0 0 11 (by omega), g0 0 12 (by omega)]
    exact m2
  · obtain ⟨c1, c2, c3⟩ := m3
    refine ⟨fun d s d1 d2 s1 s2 => ?_, fun d d1 d2 => ?_, fun k k1 k2 => ?_⟩
    · rw [h0 _ _ (by omega) (by omega) (by omega), h0 _ _ (by omega) (by omega) (by omega), g0 2 _ (by omega), g0 3 _ (by omega)]; exact c1 d s d1 d2 s1 s2
    · rw [h0 _ _ (by omega) (by omega) (by omega), h0 _ _ (by omega) (by omega) (by omega), g0 5 _ (by omega), g0 6 _ (by omega)]; exact c2 d d1 d2
    · rw [h0 _ _ (by omega) (by omega) (by omega), g0 4 _ (by omega)]; exact c3 k k1 k2
  · unfold mN
    rw [er, es, g0 0 3 (by omega), g0 0 4 (by omega), g0 0 5 (by omega)]
    rcases m5 with q | ⟨c, n1, n2, n3, n4, n5, n6, n7⟩
    · exact Or.inl q
    · exact Or.inr ⟨c, n1, n2, n3, (h0 c 0 (by omega) (by omega) (by omega)).trans n4, (h0 c 1 (by omega) (by omega) (by omega)).trans n5, (h0 c 2 (by omega) (by omega) (by omega)).trans n6, n7⟩
theorem n138_1 {dd : Nat} {d p s j : Int} {g h : ab_H} {b : Nat} (m : mm g h b) (r1 : -2147483648 ≤ d) (r2 : d < 2147483648) (hn : ¬ (0 ≤ d ∧ d < 5)) : mR B (dd + 2) 138 [some (.inr (.inr (.inl (some 18)))), some (.inl d), some (.inl p), some (.inl s), some (.inl j), none] h g 1 0 0 0 := by
  have hs := m.1.1.1
  have e := n100n (B := B) (dd := dd + 1) (h := h) r1 r2 (show -2147483648 ≤ 0 by omega) (show (0 : Int) < 2147483648 by omega) (show -2147483648 ≤ 4 by omega) (show (4 : Int) < 2147483648 by omega) (show ¬ (0 ≤ d ∧ d ≤ 4) by omega)
  refine mR_no m ?_
  simp (disch := omega) only [e138_0, e138_1, e138_2, e138_3, e138_4, e138_7, e138_10, e138_11, e138_14, e138_15, e138_16, e138_19, e138_22, e138_23, e138_24, e138_25, e138_27, e138_30, e138_33, e138_34, e138_35, e138_37, e138_40, e138_43, e138_45, e138_46, e138_48, e138_51, e138_54, e138_55, e138_58, e138_59, e138_60, e138_63, e138_66, e138_67, e138_68, e138_69, e138_72, e138_73, e138_74, e138_75, e138_76, e138_78, e138_79, e138_80, e138_83, e138_84, e138_87, e138_88, e138_89, e138_90, e138_91, e138_92, e138_93, e138_96, e138_97, e138_98, e138_99, e138_100, e138_101, e138_102, e138_105, e138_106, e138_107, e138_108, e138_110, e138_111, e138_113, implies_true, Int.reduceSub, Option.isNone_some, Option.isNone_none, ab_bh_some, ab_bh_thr, ab_gs_3, ab_gl_2, ab_gl_3, ab_gt_some, ab_gc_0, ab_gk_0, Bool.false_eq_true, Bool.true_eq_false, false_implies, Nat.reduceEqDiff, ab_ge, ab_lt, ab_le, ab_gt, ab_eq, ab_ne, decide_eq_true_eq, ab_w_id, ab_w0, ab_gd_some, ab_gs_0, ab_gs_1, ab_gl_0, ab_gl_1, ab_bv_some, ab_bu_some, ab_bv_thr, ab_bu_thr, ab_fx_n, ab_fx_i, ab_fx_q, ab_fx_l, ab_sh_si, ab_gr_si, ab_gl_si, cs_n, ↓reduceIte, true_or, or_true, false_or, or_false, and_true, true_and, and_false, false_and, not_true_eq_false, not_false_eq_true, eq_self, Int.reduceEq, Int.reduceLT, Int.reduceLE, Int.reduceAdd, Int.reduceMul, Int.reduceNeg, if_pos, if_neg, hs, e, n102_1 hs]
theorem n138_2 {dd : Nat} {d p s j : Int} {g h : ab_H} {b : Nat} (m : mm g h b) (d1 : 0 ≤ d) (d2 : d < 5) (p1 : -2147483648 ≤ p) (p2 : p < 2147483648) (s1 : -2147483648 ≤ s) (s2 : s < 2147483648) (j1 : -2147483648 ≤ j) (j2 : j < 2147483648) (hn : ¬ ((1 ≤ p ∧ p ≤ 30) ∧ (1 ≤ s ∧ s ≤ 9) ∧ (0 ≤ j ∧ j ≤ 9))) : mR B (dd + 2) 138 [some (.inr (.inr (.inl (some 18)))), some (.inl d), some (.inl p), some (.inl s), some (.inl j), none] h g 2 0 0 0 := by
  have hs := m.1.1.1
  have hs0 : (ab_sh (mt h 0))[18]? = some (8, 22) := hs
  have e := n100y (B := B) (dd := dd + 1) (h := h) (show -2147483648 ≤ 0 by omega) (show (4 : Int) < 2147483648 by omega) d1 (show d ≤ 4 by omega)
  have e1 := n101_r (B := B) (dd := dd + 1) (w := 2) m (by omega) (by omega)
  refine mR_no m ?_
  by_cases c1 : 1 ≤ p ∧ p ≤ 30
  · have f1 := n100y (B := B) (dd := dd + 1) (h := mt h 0) (show -2147483648 ≤ 1 by omega) (show (30 : Int) < 2147483648 by omega) c1.1 c1.2
    by_cases c2 : 1 ≤ s ∧ s ≤ 9
    · have f2 := n100y (B := B) (dd := dd + 1) (h := mt h 0) (show -2147483648 ≤ 1 by omega) (show (9 : Int) < 2147483648 by omega) c2.1 c2.2
      have f3 := n100n (B := B) (dd := dd + 1) (h := mt h 0) j1 j2 (show -2147483648 ≤ 0 by omega) (show (0 : Int) < 2147483648 by omega) (show -2147483648 ≤ 9 by omega) (show (9 : Int) < 2147483648 by omega) (fun q => hn ⟨c1, c2, q⟩)
      simp (disch := omega) only [e138_0, e138_1, e138_2, e138_3, e138_4, e138_7, e138_10, e138_11, e138_14, e138_15, e138_16, e138_19, e138_22, e138_23, e138_24, e138_25, e138_27, e138_30, e138_33, e138_34, e138_35, e138_37, e138_40, e138_43, e138_45, e138_46, e138_48, e138_51, e138_54, e138_55, e138_58, e138_59, e138_60, e138_63, e138_66, e138_67, e138_68, e138_69, e138_72, e138_73, e138_74, e138_75, e138_76, e138_78, e138_79, e138_80, e138_83, e138_84, e138_87, e138_88, e138_89, e138_90, e138_91, e138_92, e138_93, e138_96, e138_97, e138_98, e138_99, e138_100, e138_101, e138_102, e138_105, e138_106, e138_107, e138_108, e138_110, e138_111, e138_113, implies_true, Int.reduceSub, Option.isNone_some, Option.isNone_none, ab_bh_some, ab_bh_thr, ab_gs_3, ab_gl_2, ab_gl_3, ab_gt_some, ab_gc_0, ab_gk_0, Bool.false_eq_true, Bool.true_eq_false, false_implies, Nat.reduceEqDiff, ab_ge, ab_lt, ab_le, ab_gt, ab_eq, ab_ne, decide_eq_true_eq, ab_w_id, ab_w0, ab_gd_some, ab_gs_0, ab_gs_1, ab_gl_0, ab_gl_1, ab_bv_some, ab_bu_some, ab_bv_thr, ab_bu_thr, ab_fx_n, ab_fx_i, ab_fx_q, ab_fx_l, ab_sh_si, ab_gr_si, ab_gl_si, cs_n, ↓reduceIte, true_or, or_true, false_or, or_false, and_true, true_and, and_false, false_and, not_true_eq_false, not_false_eq_true, eq_self, Int.reduceEq, Int.reduceLT, Int.reduceLE, Int.reduceAdd, Int.reduceMul, Int.reduceNeg, if_pos, if_neg, hs, hs0, e, n102_0 hs, f1, f2, f3, e1]
    · have f2 := n100n (B := B) (dd := dd + 1) (h := mt h 0) s1 s2 (show -2147483648 ≤ 1 by omega) (show (1 : Int) < 2147483648 by omega) (show -2147483648 ≤ 9 by omega) (show (9 : Int) < 2147483648 by omega) c2
      simp (disch := omega) only [e138_0, e138_1, e138_2, e138_3, e138_4, e138_7, e138_10, e138_11, e138_14, e138_15, e138_16, e138_19, e138_22, e138_23, e138_24, e138_25, e138_27, e138_30, e138_33, e138_34, e138_35, e138_37, e138_40, e138_43, e138_45, e138_46, e138_48, e138_51, e138_54, e138_55, e138_58, e138_59, e138_60, e138_63, e138_66, e138_67, e138_68, e138_69, e138_72, e138_73, e138_74, e138_75, e138_76, e138_78, e138_79, e138_80, e138_83, e138_84, e138_87, e138_88, e138_89, e138_90, e138_91, e138_92, e138_93, e138_96, e138_97, e138_98, e138_99, e138_100, e138_101, e138_102, e138_105, e138_106, e138_107, e138_108, e138_110, e138_111, e138_113, implies_true, Int.reduceSub, Option.isNone_some, Option.isNone_none, ab_bh_some, ab_bh_thr, ab_gs_3, ab_gl_2, ab_gl_3, ab_gt_some, ab_gc_0, ab_gk_0, Bool.false_eq_true, Bool.true_eq_false, false_implies, Nat.reduceEqDiff, ab_ge, ab_lt, ab_le, ab_gt, ab_eq, ab_ne, decide_eq_true_eq, ab_w_id, ab_w0, ab_gd_some, ab_gs_0, ab_gs_1, ab_gl_0, ab_gl_1, ab_bv_some, ab_bu_some, ab_bv_thr, ab_bu_thr, ab_fx_n, ab_fx_i, ab_fx_q, ab_fx_l, ab_sh_si, ab_gr_si, ab_gl_si, cs_n, ↓reduceIte, true_or, or_true, false_or, or_false, and_true, true_and, and_false, false_and, not_true_eq_false, not_false_eq_true, eq_self, Int.reduceEq, Int.reduceLT, Int.reduceLE, Int.reduceAdd, Int.reduceMul, Int.reduceNeg, if_pos, if_neg, hs, hs0, e, n102_0 hs, f1, f2, e1]
  · have f1 := n100n (B := B) (dd := dd + 1) (h := mt h 0) p1 p2 (show -2147483648 ≤ 1 by omega) (show (1 : Int) < 2147483648 by omega) (show -2147483648 ≤ 30 by omega) (show (30 : Int) < 2147483648 by omega) c1
    simp (disch := omega) only [e138_0, e138_1, e138_2, e138_3, e138_4, e138_7, e138_10, e138_11, e138_14, e138_15, e138_16, e138_19, e138_22, e138_23, e138_24, e138_25, e138_27, e138_30, e138_33, e138_34, e138_35, e138_37, e138_40, e138_43, e138_45, e138_46, e138_48, e138_51, e138_54, e138_55, e138_58, e138_59, e138_60, e138_63, e138_66, e138_67, e138_68, e138_69, e138_72, e138_73, e138_74, e138_75, e138_76, e138_78, e138_79, e138_80, e138_83, e138_84, e138_87, e138_88, e138_89, e138_90, e138_91, e138_92, e138_93, e138_96, e138_97, e138_98, e138_99, e138_100, e138_101, e138_102, e138_105, e138_106, e138_107, e138_108, e138_110, e138_111, e138_113, implies_true, Int.reduceSub, Option.isNone_some, Option.isNone_none, ab_bh_some, ab_bh_thr, ab_gs_3, ab_gl_2, ab_gl_3, ab_gt_some, ab_gc_0, ab_gk_0, Bool.false_eq_true, Bool.true_eq_false, false_implies, Nat.reduceEqDiff, ab_ge, ab_lt, ab_le, ab_gt, ab_eq, ab_ne, decide_eq_true_eq, ab_w_id, ab_w0, ab_gd_some, ab_gs_0, ab_gs_1, ab_gl_0, ab_gl_1, ab_bv_some, ab_bu_some, ab_bv_thr, ab_bu_thr, ab_fx_n, ab_fx_i, ab_fx_q, ab_fx_l, ab_sh_si, ab_gr_si, ab_gl_si, cs_n, ↓reduceIte, true_or, or_true, false_or, or_false, and_true, true_and, and_false, false_and, not_true_eq_false, not_false_eq_true, eq_self, Int.reduceEq, Int.reduceLT, Int.reduceLE, Int.reduceAdd, Int.reduceMul, Int.reduceNeg, if_pos, if_neg, hs, hs0, e, n102_0 hs, f1, e1]
theorem n138 {dd : Nat} {d p s j : Int} {g g' h : ab_H} {b : Nat} (m : mm g h b) (d1 : 0 ≤ d) (d2 : d < 5) (p1 : 1 ≤ p) (p2 : p ≤ 30) (s1 : 1 ≤ s) (s2 : s ≤ 9) (j1 : 0 ≤ j) (j2 : j ≤ 9) (hG : ck_G g g') (eK : ck_K g' = (pk_up (ck_K g).1 d p, pk_up (ck_K g).2.1 d s, pk_up (ck_K g).2.2.1 d j, (ck_K g).2.2.2)) : mR B (dd + 2) 138 [some (.inr (.inr (.inl (some 18)))), some (.inl d), some (.inl p), some (.inl s), some (.inl j), none] h g' 0 ((ck_K g).1 d) 0 0 := by
  have hs := m.1.1.1
  have m0 : mm g (mt h 0) b := mm_thr m
  have hm0 := m0.1
  have t0 := mt_t h 0
  have x0 : mE h (mt h 0) 0 0 := mE.si (by omega)
  have hk := hm0.2.2.2.1 d d1 d2
  have e := n100y (B := B) (dd := dd + 1) (h := h) (show -2147483648 ≤ 0 by omega) (show (4 : Int) < 2147483648 by omega) d1 (show d ≤ 4 by omega)
  have f1 := n100y (B := B) (dd := dd + 1) (h := mt h 0) (show -2147483648 ≤ 1 by omega) (show (30 : Int) < 2147483648 by omega) p1 p2
  have f2 := n100y (B := B) (dd := dd + 1) (h := mt h 0) (show -2147483648 ≤ 1 by omega) (show (9 : Int) < 2147483648 by omega) s1 s2
  have f3 := n100y (B := B) (dd := dd + 1) (h := mt h 0) (show -2147483648 ≤ 0 by omega) (show (9 : Int) < 2147483648 by omega) j1 j2
  have eM := m0.2.2.2.1
  have ev : ab_gi (mt h 0) (25 + d.toNat) 0 = (ck_K g).1 d := by rw [← eM, mKK_1 _ d1 d2]
  obtain ⟨h', eh⟩ : ∃ h', h' = ab_si (ab_si (ab_si (ab_si (mt h 0) 18 11 0) (25 + d.toNat) 0 p) (25 + d.toNat) 1 s) (25 + d.toNat) 2 j := ⟨_, rfl⟩
  have gi' : ∀ c x, ab_gi h' c x = if c = 25 + d.toNat ∧ x = 2 then j else if c = 25 + d.toNat ∧ x = 1 then s else if c = 25 + d.toNat ∧ x = 0 then p else if c = 18 ∧ x = 11 then 0 else ab_gi (mt h 0) c x := fun c x => by rw [eh, ab_gi_si, ab_gi_si, ab_gi_si, ab_gi_si]
  have e18 : ∀ x, x ≠ 11 → ab_gi h' 18 x = ab_gi (mt h 0) 18 x := fun x hx => by rw [gi', if_neg (by omega), if_neg (by omega), if_neg (by omega), if_neg (by omega)]
  have ek : mKK h' = ck_K g' := by
    rw [eK, ← eM]
    have e19 := e18 19 (by decide)
    have e20 := e18 20 (by decide)
    unfold mKK
    rw [e19, e20]
    refine Prod.ext (funext fun y => ?_) (Prod.ext (funext fun y => ?_) (Prod.ext (funext fun y => ?_) rfl))
    all_goals
      dsimp only
      unfold pk_up
      rw [gi']
      by_cases z : y = d
      · subst z
        rw [if_pos ⟨d1, d2⟩, if_pos rfl]
        simp
      · rw [if_neg z]
        dsimp only
        by_cases z2 : 0 ≤ y ∧ y < 5
        · rw [if_pos z2, if_pos z2, if_neg (by omega), if_neg (by omega), if_neg (by omega), if_neg (by omega)]
        · rw [if_neg z2, if_neg z2]
  have m1 : mm g' h' b := mm_kd m0 (by rw [eh]; rfl) (fun c x hc => hG.2 c x (Or.inl hc)) (fun c x c1 c2 c3 => by rw [gi', if_neg (by omega), if_neg (by omega), if_neg (by omega), if_neg (by omega)]) (by rw [gi', if_neg (by omega), if_neg (by omega), if_neg (by omega), if_pos ⟨rfl, rfl⟩]) ek
  refine ⟨h', b, ?_, m1, ?_, by rw [e18 0 (by decide)]; exact t0⟩
  · rw [eh]
    simp (disch := omega) only [e138_0, e138_1, e138_2, e138_3, e138_4, e138_7, e138_10, e138_11, e138_14, e138_15, e138_16, e138_19, e138_22, e138_23, e138_24, e138_25, e138_27, e138_30, e138_33, e138_34, e138_35, e138_37, e138_40, e138_43, e138_45, e138_46, e138_48, e138_51, e138_54, e138_55, e138_58, e138_59, e138_60, e138_63, e138_66, e138_67, e138_68, e138_69, e138_72, e138_73, e138_74, e138_75, e138_76, e138_78, e138_79, e138_80, e138_83, e138_84, e138_87, e138_88, e138_89, e138_90, e138_91, e138_92, e138_93, e138_96, e138_97, e138_98, e138_99, e138_100, e138_101, e138_102, e138_105, e138_106, e138_107, e138_108, e138_110, e138_111, e138_113, implies_true, Int.reduceSub, Option.isNone_some, Option.isNone_none, ab_bh_some, ab_bh_thr, ab_gs_3, ab_gl_2, ab_gl_3, ab_gt_some, ab_gc_0, ab_gk_0, Bool.false_eq_true, Bool.true_eq_false, false_implies, Nat.reduceEqDiff, ab_ge, ab_lt, ab_le, ab_gt, ab_eq, ab_ne, decide_eq_true_eq, ab_w_id, ab_w0, ab_gd_some, ab_gs_0, ab_gs_1, ab_gl_0, ab_gl_1, ab_bv_some, ab_bu_some, ab_bv_thr, ab_bu_thr, ab_fx_n, ab_fx_i, ab_fx_q, ab_fx_l, ab_sh_si, ab_gr_si, ab_gl_si, cs_n, ↓reduceIte, true_or, or_true, false_or, or_false, and_true, true_and, and_false, false_and, not_true_eq_false, not_false_eq_true, eq_self, Int.reduceEq, Int.reduceLT, Int.reduceLE, Int.reduceAdd, Int.reduceMul, Int.reduceNeg, if_pos, if_neg, hs, hm0.1, hm0.2.1, hk, e, n102_0 hs, n101_0 hm0.1.1 t0, f1, f2, f3, ev]
  · rw [eh]
    exact (((x0.trans (mE.si (by omega))).trans (mE.si (by omega))).trans (mE.si (by omega))).trans (mE.si (by omega))
theorem n139_1 {dd : Nat} {l p : Int} {g h : ab_H} {b : Nat} (m : mm g h b) (l1 : -2147483648 ≤ l) (l2 : l < 2147483648) (p1 : -2147483648 ≤ p) (p2 : p < 2147483648) (hn : ¬ ((1 ≤ l ∧ l ≤ 90) ∧ (0 ≤ p ∧ p ≤ 9))) : mR B (dd + 2) 139 [some (.inr (.inr (.inl (some 18)))), some (.inl l), some (.inl p), none] h g 1 0 0 0 := by
  have hs := m.1.1.1
  refine mR_no m ?_
  by_cases c1 : 1 ≤ l ∧ l ≤ 90
  · have f1 := n100y (B := B) (dd := dd + 1) (h := h) (show -2147483648 ≤ 1 by omega) (show (90 : Int) < 2147483648 by omega) c1.1 c1.2
    have f2 := n100n (B := B) (dd := dd + 1) (h := h) p1 p2 (show -2147483648 ≤ 0 by omega) (show (0 : Int) < 2147483648 by omega) (show -2147483648 ≤ 9 by omega) (show (9 : Int) < 2147483648 by omega) (fun q => hn ⟨c1, q⟩)
    simp (disch := omega) only [e139_0, e139_1, e139_2, e139_3, e139_5, e139_8, e139_11, e139_12, e139_13, e139_15, e139_18, e139_21, e139_22, e139_25, e139_26, e139_27, e139_30, e139_33, e139_34, e139_35, e139_36, e139_39, e139_40, e139_41, e139_42, e139_45, e139_46, e139_47, e139_50, e139_51, e139_52, e139_55, e139_56, implies_true, Int.reduceSub, Option.isNone_some, Option.isNone_none, ab_bh_some, ab_bh_thr, ab_gs_3, ab_gl_2, ab_gl_3, ab_gt_some, ab_gc_0, ab_gk_0, Bool.false_eq_true, Bool.true_eq_false, false_implies, Nat.reduceEqDiff, ab_ge, ab_lt, ab_le, ab_gt, ab_eq, ab_ne, decide_eq_true_eq, ab_w_id, ab_w0, ab_gd_some, ab_gs_0, ab_gs_1, ab_gl_0, ab_gl_1, ab_bv_some, ab_bu_some, ab_bv_thr, ab_bu_thr, ab_fx_n, ab_fx_i, ab_fx_q, ab_fx_l, ab_sh_si, ab_gr_si, ab_gl_si, cs_n, ↓reduceIte, true_or, or_true, false_or, or_false, and_true, true_and, and_false, false_and, not_true_eq_false, not_false_eq_true, eq_self, Int.reduceEq, Int.reduceLT, Int.reduceLE, Int.reduceAdd, Int.reduceMul, Int.reduceNeg, if_pos, if_neg, hs, f1, f2, n102_1 hs]
  · have f1 := n100n (B := B) (dd := dd + 1) (h := h) l1 l2 (show -2147483648 ≤ 1 by omega) (show (1 : Int) < 2147483648 by omega) (show -2147483648 ≤ 90 by omega) (show (90 : Int) < 2147483648 by omega) c1
    simp (disch := omega) only [e139_0, e139_1, e139_2, e139_3, e139_5, e139_8, e139_11, e139_12, e139_13, e139_15, e139_18, e139_21, e139_22, e139_25, e139_26, e139_27, e139_30, e139_33, e139_34, e139_35, e139_36, e139_39, e139_40, e139_41, e139_42, e139_45, e139_46, e139_47, e139_50, e139_51, e139_52, e139_55, e139_56, implies_true, Int.reduceSub, Option.isNone_some, Option.isNone_none, ab_bh_some, ab_bh_thr, ab_gs_3, ab_gl_2, ab_gl_3, ab_gt_some, ab_gc_0, ab_gk_0, Bool.false_eq_true, Bool.true_eq_false, false_implies, Nat.reduceEqDiff, ab_ge, ab_lt, ab_le, ab_gt, ab_eq, ab_ne, decide_eq_true_eq, ab_w_id, ab_w0, ab_gd_some, ab_gs_0, ab_gs_1, ab_gl_0, ab_gl_1, ab_bv_some, ab_bu_some, ab_bv_thr, ab_bu_thr, ab_fx_n, ab_fx_i, ab_fx_q, ab_fx_l, ab_sh_si, ab_gr_si, ab_gl_si, cs_n, ↓reduceIte, true_or, or_true, false_or, or_false, and_true, true_and, and_false, false_and, not_true_eq_false, not_false_eq_true, eq_self, Int.reduceEq, Int.reduceLT, Int.reduceLE, Int.reduceAdd, Int.reduceMul, Int.reduceNeg, if_pos, if_neg, hs, f1, n102_1 hs]
theorem n139 {dd : Nat} {l p : Int} {g g' h : ab_H} {b : Nat} (m : mm g h b) (l1 : 1 ≤ l) (l2 : l ≤ 90) (p1 : 0 ≤ p) (p2 : p ≤ 9) (hG : ck_G g g') (eK : ck_K g' = ((ck_K g).1, (ck_K g).2.1, (ck_K g).2.2.1, l, p)) : mR B (dd + 2) 139 [some (.inr (.inr (.inl (some 18)))), some (.inl l), some (.inl p), none] h g' 0 (ck_K g).2.2.2.1 0 0 := by
  have hs := m.1.1.1
  have m0 : mm g (mt h 0) b := mm_thr m
  have hm0 := m0.1
  have t0 := mt_t h 0
  have x0 : mE h (mt h 0) 0 0 := mE.si (by omega)
  have f1 := n100y (B := B) (dd := dd + 1) (h := h) (show -2147483648 ≤ 1 by omega) (show (90 : Int) < 2147483648 by omega) l1 l2
  have f2 := n100y (B := B) (dd := dd + 1) (h := h) (show -2147483648 ≤ 0 by omega) (show (9 : Int) < 2147483648 by omega) p1 p2
  have eM := m0.2.2.2.1
  have ev : ab_gi (mt h 0) 18 19 = (ck_K g).2.2.2.1 := by rw [← eM]; rfl
  obtain ⟨h', eh⟩ : ∃ h', h' = ab_si (ab_si (ab_si (mt h 0) 18 11 0) 18 19 l) 18 20 p := ⟨_, rfl⟩
  have gi' : ∀ c x, ab_gi h' c x = if c = 18 ∧ x = 20 then p else if c = 18 ∧ x = 19 then l else if c = 18 ∧ x = 11 then 0 else ab_gi (mt h 0) c x := fun c x => by rw [eh, ab_gi_si, ab_gi_si, ab_gi_si]
  have gc : ∀ c x, c ≠ 18 → ab_gi h' c x = ab_gi (mt h 0) c x := fun c x hc => by rw [gi', if_neg (by omega), if_neg (by omega), if_neg (by omega)]
  have ek : mKK h' = ck_K g' := by
    have e19 : ab_gi h' 18 19 = l := by rw [gi', if_neg (by omega), if_pos ⟨rfl, rfl⟩]
    have e20 : ab_gi h' 18 20 = p := by rw [gi', if_pos ⟨rfl, rfl⟩]
    rw [eK, ← eM]
    unfold mKK
    rw [e19, e20]
    refine Prod.ext (funext fun y => ?_) (Prod.ext (funext fun y => ?_) (Prod.ext (funext fun y => ?_) rfl))
    all_goals
      dsimp only
      rw [gc _ _ (by omega)]
  have m1 : mm g' h' b := mm_kd m0 (by rw [eh]; rfl) (fun c x hc => hG.2 c x (Or.inl hc)) (fun c x c1 c2 c3 => by rw [gi', if_neg (by omega), if_neg (by omega), if_neg (by omega)]) (by rw [gi', if_neg (by omega), if_neg (by omega), if_pos ⟨rfl, rfl⟩]) ek
  refine ⟨h', b, ?_, m1, ?_, by rw [gi', if_neg (by omega), if_neg (by omega), if_neg (by omega)]; exact t0⟩
  · rw [eh]
    simp (disch := omega) only [e139_0, e139_1, e139_2, e139_3, e139_5, e139_8, e139_11, e139_12, e139_13, e139_15, e139_18, e139_21, e139_22, e139_25, e139_26, e139_27, e139_30, e139_33, e139_34, e139_35, e139_36, e139_39, e139_40, e139_41, e139_42, e139_45, e139_46, e139_47, e139_50, e139_51, e139_52, e139_55, e139_56, implies_true, Int.reduceSub, Option.isNone_some, Option.isNone_none, ab_bh_some, ab_bh_thr, ab_gs_3, ab_gl_2, ab_gl_3, ab_gt_some, ab_gc_0, ab_gk_0, Bool.false_eq_true, Bool.true_eq_false, false_implies, Nat.reduceEqDiff, ab_ge, ab_lt, ab_le, ab_gt, ab_eq, ab_ne, decide_eq_true_eq, ab_w_id, ab_w0, ab_gd_some, ab_gs_0, ab_gs_1, ab_gl_0, ab_gl_1, ab_bv_some, ab_bu_some, ab_bv_thr, ab_bu_thr, ab_fx_n, ab_fx_i, ab_fx_q, ab_fx_l, ab_sh_si, ab_gr_si, ab_gl_si, cs_n, ↓reduceIte, true_or, or_true, false_or, or_false, and_true, true_and, and_false, false_and, not_true_eq_false, not_false_eq_true, eq_self, Int.reduceEq, Int.reduceLT, Int.reduceLE, Int.reduceAdd, Int.reduceMul, Int.reduceNeg, if_pos, if_neg, hs, hm0.1, hm0.2.1, f1, f2, n102_0 hs, ev]
  · rw [eh]
    exact ((x0.trans (mE.si (by omega))).trans (mE.si (by omega))).trans (mE.si (by omega))
end
