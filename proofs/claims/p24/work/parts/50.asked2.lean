set_option linter.all false
/-! WHAT IS ASKED OF THE REFERENCE -/
section
variable {B : ab_B}
/-- a row is filled -/
def ab_ch (a : Nat) : ab_H → Int → List Int → ab_H
  | h, _, [] => h
  | h, i, v :: l => ab_ch a (ab_si h a i v) (i + 1) l
theorem ab_ch_2 (a : Nat) : ∀ (l : List Int) (h : ab_H) (i : Int), (ab_ch a h i l).2 = h.2
  | [], _, _ => rfl
  | _ :: l, _, _ => (ab_ch_2 a l _ _).trans rfl
theorem ab_ch_gi (a : Nat) : ∀ (l : List Int) (h : ab_H) (i : Int) (c : Nat) (x : Int), ab_gi (ab_ch a h i l) c x = if c = a ∧ i ≤ x ∧ x < i + l.length then l.getD (x - i).toNat 0 else ab_gi h c x
  | [], h, i, c, x => by
    rw [if_neg (fun q => by have := q.2; simp only [List.length_nil] at this; omega)]
    rfl
  | v :: l, h, i, c, x => by
    show ab_gi (ab_ch a (ab_si h a i v) (i + 1) l) c x = _
    rw [ab_ch_gi a l, ab_gi_si]
    simp only [List.length_cons]
    by_cases c1 : c = a
    · by_cases c2 : x = i
      · subst c2
        rw [if_neg (fun q => by omega), if_pos ⟨c1, rfl⟩, if_pos ⟨c1, by omega⟩, Int.sub_self]
        rfl
      · by_cases c3 : i + 1 ≤ x ∧ x < i + 1 + (l.length : Int)
        · rw [if_pos ⟨c1, c3⟩, if_pos ⟨c1, by omega⟩, show (x - i).toNat = (x - (i + 1)).toNat + 1 from by omega, List.getD_cons_succ]
        · rw [if_neg (fun q => c3 q.2), if_neg (fun q => c2 q.2), if_neg (fun q => by omega)]
    · rw [if_neg (fun q => c1 q.1), if_neg (fun q => c1 q.1), if_neg (fun q => c1 q.1)]
/-- a new row with these numbers -/
def ab_nw (h : ab_H) (l : List Int) : ab_H := ab_ch (ab_n h) (ab_new h 0 l.length) 0 l
theorem ab_nw_gi (h : ab_H) (l : List Int) {x : Int} (h1 : 0 ≤ x) (h2 : x < l.length) : ab_gi (ab_nw h l) (ab_n h) x = l.getD x.toNat 0 := by
  unfold ab_nw
  rw [ab_ch_gi, if_pos ⟨rfl, h1, by omega⟩, Int.sub_zero]
theorem ab_nw_old (h : ab_H) (l : List Int) {c : Nat} (x : Int) (h1 : c < ab_n h) : ab_gi (ab_nw h l) c x = ab_gi h c x := by
  unfold ab_nw
  rw [ab_ch_gi, if_neg (by omega), ab_gi_new, if_neg (by omega)]
theorem ab_nw_sh (h : ab_H) (l : List Int) : ab_sh (ab_nw h l) = ab_sh h ++ [(0, l.length)] := by
  unfold ab_nw ab_sh
  rw [ab_ch_2]
  exact ab_sh_new h 0 l.length
theorem ab_nw_mm {g h : ab_H} {b : Nat} (m : mm g h b) (hN : 31 ≤ ab_n h) (l : List Int) : mm g (ab_nw h l) b ∧ mW h (ab_nw h l) 1 l.length := by
  have l18 := ab_sh_lt m.1.1.1
  have l29 := ab_sh_lt (m.1.2.2.2.1 4 (by omega) (by omega)).2
  have e4 : (4 : Int).toNat = 4 := rfl
  rw [e4] at l29
  have er : ∀ c x, c < ab_n h → ab_gr (ab_nw h l) c x = ab_gr h c x := fun c x q => by
    unfold ab_nw ab_gr
    rw [ab_ch_2]
    exact if_neg (by omega)
  refine ⟨mm_of m (fun i x q => ab_sh_pre (ab_nw_sh h l) q) (fun c x _ q => er c x q) (fun c x _ q _ => ab_nw_old h l x q), (mE.W (k := 1) (s := l.length) ⟨⟨_, ab_nw_sh h l⟩, fun c x hc => ⟨ab_nw_old h l x (by omega), er c x (by omega)⟩, ?_, ?_, ?_⟩ (ab_nw_old h l 11 l18) (ab_nw_old h l 0 l18))⟩
  · unfold ab_nw ab_gl
    rw [ab_ch_2]
    exact if_neg (show ¬ 30 = ab_n h by omega)
  · unfold ab_nw ab_kc
    rw [ab_ch_2]
    exact Nat.le_refl _
  · unfold ab_nw ab_ks
    rw [ab_ch_2]
    exact Nat.le_refl _
theorem mm_N {g h : ab_H} {b : Nat} (m : mm g h b) (hD : ab_gi g 1 0 ≠ 0) : 31 ≤ ab_n h := by
  have lb := ab_sh_lt m.1.1.2.2.1
  have := m.1.2.2.2.2
  omega
theorem mW.n {h h' : ab_H} {k s : Nat} (a : mW h h' k s) : ab_n h ≤ ab_n h' := by
  obtain ⟨l, e⟩ := a.1
  unfold ab_n
  rw [e, List.length_append]
  omega
/-! cells -/
theorem n144 {dd : Nat} {d s w : Int} {g h : ab_H} {b : Nat} (hR : cs_R g) (m : mm g h b) (d1 : 0 ≤ d) (d2 : d < ab_gi g 1 0) (s1 : 0 ≤ s) (s2 : s < ab_gi g 1 1) (w1 : 0 ≤ w) (w2 : w < 5) :
    ∃ h', ab_E B (dd + 3) 144 0 [some (.inr (.inr (.inl (some 18)))), some (.inl d), some (.inl s), some (.inl w), none] [] h = some (.inl (some (.inl (cs_vc g d s w))), h') ∧ mm g h' b ∧ mW h h' 1 5 := by
  have hN := mm_N m (by omega)
  obtain ⟨m', x'⟩ := ab_nw_mm m hN [ab_gi g 2 (d * 8 + s), ab_gi g 3 (d * 8 + s), cs_b g d s, cs_bi (ab_gi g 1 0) d s, cs_sh g d s]
  refine ⟨_, ?_, m', x'⟩
  have ev := ab_nw_gi h [ab_gi g 2 (d * 8 + s), ab_gi g 3 (d * 8 + s), cs_b g d s, cs_bi (ab_gi g 1 0) d s, cs_sh g d s] w1 w2
  have ew : [ab_gi g 2 (d * 8 + s), ab_gi g 3 (d * 8 + s), cs_b g d s, cs_bi (ab_gi g 1 0) d s, cs_sh g d s].getD w.toNat 0 = cs_vc g d s w := by
    have hw : w = 0 ∨ w = 1 ∨ w = 2 ∨ w = 3 ∨ w = 4 := by omega
    rcases hw with c | c | c | c | c <;> subst c <;> rfl
  rw [ew] at ev
  have hm := m.1
  have hrow := hm.2.2.1 d d1 d2
  have v := m.2.2.1.1 d s d1 d2 s1 s2
  have lb := ab_sh_lt hm.1.2.2.2.2.2.2
  have n0 : ab_sh (ab_new h 0 5) = ab_sh h ++ [(0, 5)] := ab_sh_new h 0 5
  have st : ∀ i x, (ab_sh h)[i]? = some x → (ab_sh (ab_new h 0 5))[i]? = some x := fun i x q => ab_sh_new_lt q
  have mN : mm g (ab_new h 0 5) b := mm_new m
  have mA : ∀ x v, mm g (ab_si (ab_new h 0 5) (ab_n h) x v) b := fun x v => mm_sin mN m (Nat.le_refl _) (fun _ _ q => ab_sh_new_lt q) (fun c y _ q => by rw [ab_gr_new, if_neg (by omega)]) (fun c y _ q => by rw [ab_gi_new, if_neg (by omega)])
  have mB : ∀ x v y u, mm g (ab_si (ab_si (ab_new h 0 5) (ab_n h) x v) (ab_n h) y u) b := fun x v y u => mm_sin (mA x v) m (Nat.le_refl _) (fun _ _ q => ab_sh_new_lt q) (fun c z _ q => by rw [ab_gr_si, ab_gr_new, if_neg (by omega)]) (fun c z _ q => by rw [ab_gi_si, if_neg (by omega), ab_gi_new, if_neg (by omega)])
  have mC : ∀ x v y u z t, mm g (ab_si (ab_si (ab_si (ab_new h 0 5) (ab_n h) x v) (ab_n h) y u) (ab_n h) z t) b := fun x v y u z t => mm_sin (mB x v y u) m (Nat.le_refl _) (fun _ _ q => ab_sh_new_lt q) (fun c w _ q => by rw [ab_gr_si, ab_gr_si, ab_gr_new, if_neg (by omega)]) (fun c w _ q => by rw [ab_gi_si, if_neg (by omega), ab_gi_si, if_neg (by omega), ab_gi_new, if_neg (by omega)])
  have mD : ∀ x v y u z t w r, mm g (ab_si (ab_si (ab_si (ab_si (ab_new h 0 5) (ab_n h) x v) (ab_n h) y u) (ab_n h) z t) (ab_n h) w r) b := fun x v y u z t w r => mm_sin (mC x v y u z t) m (Nat.le_refl _) (fun _ _ q => ab_sh_new_lt q) (fun c w _ q => by rw [ab_gr_si, ab_gr_si, ab_gr_si, ab_gr_new, if_neg (by omega)]) (fun c w _ q => by rw [ab_gi_si, if_neg (by omega), ab_gi_si, if_neg (by omega), ab_gi_si, if_neg (by omega), ab_gi_new, if_neg (by omega)])
  have e11 := fun x v y u => n111 (B := B) (dd := dd + 2) hR (mB x v y u) d1 d2 s1 s2
  have e10 := fun x v y u z t => n110 (B := B) (dd := dd + 1) hR (mC x v y u z t) d1 d2 s1 s2
  have e15 := fun x v y u z t w r => n115 (B := B) (dd := dd) hR (mD x v y u z t w r) d1 d2 s1 s2
  have sn : (ab_sh (ab_new h 0 5))[ab_n h]? = some (0, 5) := ab_sh_new_at h 0 5
  have s18 : (ab_sh (ab_new h 0 5))[18]? = some (8, 22) := st _ _ hm.1.1
  have sv : (ab_sh (ab_new h 0 5))[b]? = some (2, (ab_gi g 1 0).toNat) := st _ _ hm.1.2.2.1
  have sm : (ab_sh (ab_new h 0 5))[b + 1 + (ab_gi g 1 0).toNat]? = some (2, (ab_gi g 1 0).toNat) := st _ _ hm.1.2.2.2.1
  have sr := st _ _ hrow.2.1
  have sr2 := st _ _ hrow.2.2.2
  have grn : ∀ c x, c < ab_n h → ab_gr (ab_new h 0 5) c x = ab_gr h c x := fun c x q => by rw [ab_gr_new, if_neg (by omega)]
  have gin : ∀ c x, c < ab_n h → ab_gi (ab_new h 0 5) c x = ab_gi h c x := fun c x q => by rw [ab_gi_new, if_neg (by omega)]
  have r4 : ab_gr (ab_new h 0 5) 18 4 = some b := (grn 18 4 (ab_sh_lt hm.1.1)).trans hm.2.1.1
  have r5 : ab_gr (ab_new h 0 5) 18 5 = some (b + 1 + (ab_gi g 1 0).toNat) := (grn 18 5 (ab_sh_lt hm.1.1)).trans hm.2.1.2.1
  have rv : ab_gr (ab_new h 0 5) b d = some (b + 1 + d.toNat) := (grn _ _ (by omega)).trans hrow.1
  have rm : ab_gr (ab_new h 0 5) (b + 1 + (ab_gi g 1 0).toNat) d = some (b + 2 + (ab_gi g 1 0).toNat + d.toNat) := (grn _ _ (by omega)).trans hrow.2.2.1
  have vv : ab_gi (ab_new h 0 5) (b + 1 + d.toNat) s = ab_gi g 2 (d * 8 + s) := (gin _ _ (by omega)).trans v.1
  have vm : ∀ x u, ab_gi (ab_si (ab_new h 0 5) (ab_n h) x u) (b + 2 + (ab_gi g 1 0).toNat + d.toNat) s = ab_gi g 3 (d * 8 + s) := fun x u => by rw [ab_gi_si, if_neg (by omega)]; exact (gin _ _ (by omega)).trans v.2
  have shown : ab_nw h [ab_gi g 2 (d * 8 + s), ab_gi g 3 (d * 8 + s), cs_b g d s, cs_bi (ab_gi g 1 0) d s, cs_sh g d s] = ab_si (ab_si (ab_si (ab_si (ab_si (ab_new h 0 5) (ab_n h) 0 (ab_gi g 2 (d * 8 + s))) (ab_n h) 1 (ab_gi g 3 (d * 8 + s))) (ab_n h) 2 (cs_b g d s)) (ab_n h) 3 (cs_bi (ab_gi g 1 0) d s)) (ab_n h) 4 (cs_sh g d s) := rfl
  rw [shown] at ev ⊢
  rcases cs_b01 g d s with q | q
  · rw [q] at ev ⊢
    simp (disch := omega) only [e144_0, e144_1, e144_3, e144_4, e144_5, e144_6, e144_9, e144_10, e144_11, e144_12, e144_13, e144_14, e144_15, e144_16, e144_17, e144_20, e144_21, e144_22, e144_23, e144_24, e144_25, e144_26, e144_27, e144_28, e144_29, e144_30, e144_33, e144_36, e144_37, e144_40, e144_41, e144_42, e144_43, e144_44, e144_45, e144_46, e144_47, e144_50, e144_51, e144_52, e144_53, e144_54, e144_55, e144_56, e144_59, e144_60, e144_62, e144_64, e144_65, e144_66, implies_true, Int.reduceSub, Option.isNone_some, Option.isNone_none, ab_bh_some, ab_bh_thr, ab_gs_3, ab_gl_2, ab_gl_3, ab_gt_some, ab_gc_0, ab_gk_0, Bool.false_eq_true, Bool.true_eq_false, false_implies, Nat.reduceEqDiff, ab_ge, ab_lt, ab_le, ab_gt, ab_eq, ab_ne, decide_eq_true_eq, ab_w_id, ab_w0, ab_gd_some, ab_gs_0, ab_gs_1, ab_gl_0, ab_gl_1, ab_bv_some, ab_bu_some, ab_bv_thr, ab_bu_thr, ab_fx_n, ab_fx_i, ab_fx_q, ab_fx_l, ab_sh_si, ab_gr_si, ab_gl_si, cs_n, ↓reduceIte, true_or, or_true, false_or, or_false, and_true, true_and, and_false, false_and, not_true_eq_false, not_false_eq_true, eq_self, Int.reduceEq, Int.reduceLT, Int.reduceLE, Int.reduceAdd, Int.reduceMul, Int.reduceNeg, if_pos, if_neg, Int.reduceToNat, sn, s18, sv, sm, sr, sr2, r4, r5, rv, rm, vv, vm, e11, q, e10, e15, ev]
  · rw [q] at ev ⊢
    simp (disch := omega) only [e144_0, e144_1, e144_3, e144_4, e144_5, e144_6, e144_9, e144_10, e144_11, e144_12, e144_13, e144_14, e144_15, e144_16, e144_17, e144_20, e144_21, e144_22, e144_23, e144_24, e144_25, e144_26, e144_27, e144_28, e144_29, e144_30, e144_33, e144_36, e144_37, e144_40, e144_41, e144_42, e144_43, e144_44, e144_45, e144_46, e144_47, e144_50, e144_51, e144_52, e144_53, e144_54, e144_55, e144_56, e144_59, e144_60, e144_62, e144_64, e144_65, e144_66, implies_true, Int.reduceSub, Option.isNone_some, Option.isNone_none, ab_bh_some, ab_bh_thr, ab_gs_3, ab_gl_2, ab_gl_3, ab_gt_some, ab_gc_0, ab_gk_0, Bool.false_eq_true, Bool.true_eq_false, false_implies, Nat.reduceEqDiff, ab_ge, ab_lt, ab_le, ab_gt, ab_eq, ab_ne, decide_eq_true_eq, ab_w_id, ab_w0, ab_gd_some, ab_gs_0, ab_gs_1, ab_gl_0, ab_gl_1, ab_bv_some, ab_bu_some, ab_bv_thr, ab_bu_thr, ab_fx_n, ab_fx_i, ab_fx_q, ab_fx_l, ab_sh_si, ab_gr_si, ab_gl_si, cs_n, ↓reduceIte, true_or, or_true, false_or, or_false, and_true, true_and, and_false, false_and, not_true_eq_false, not_false_eq_true, eq_self, Int.reduceEq, Int.reduceLT, Int.reduceLE, Int.reduceAdd, Int.reduceMul, Int.reduceNeg, if_pos, if_neg, Int.reduceToNat, sn, s18, sv, sm, sr, sr2, r4, r5, rv, rm, vv, vm, e11, q, e10, e15, ev]
end
