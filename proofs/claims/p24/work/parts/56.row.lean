set_option linter.all false
/-! ROWS: the texts that are made -/
section
variable {B : ab_B}
/-- only what is new has changed -/
def sN (h h' : ab_H) (k s : Nat) : Prop := (∃ l, ab_sh h' = ab_sh h ++ l) ∧ (∀ c x, c < ab_n h → ab_gi h' c x = ab_gi h c x ∧ ab_gr h' c x = ab_gr h c x ∧ ab_gl h' c x = ab_gl h c x) ∧ ab_kc h' ≤ ab_kc h + k ∧ ab_ks h' ≤ ab_ks h + s
/-- a builder of n letters -/
def sB (h : ab_H) (c v : Nat) (n : Int) : Prop := ((ab_sh h)[c]? = some (9, 4) ∧ (ab_sh h)[v]? = some (3, 16)) ∧ (ab_gr h c 0 = some v ∧ ab_gi h c 1 = 0 ∧ ab_gi h c 3 = n ∧ c ≠ v) ∧ ∀ i, 0 ≤ i → i < n → -128 ≤ ab_gi h v i ∧ ab_gi h v i ≤ 127
def sb0 (h : ab_H) : ab_H := ab_si (ab_sr (ab_new (ab_new h 9 4) 3 16) (ab_n h) 0 (some (ab_n h + 1))) (ab_n h) 1 0
theorem sb0_B (h : ab_H) : sB (sb0 h) (ab_n h) (ab_n h + 1) 0 := by
  have n1 : ab_n (ab_new h 9 4) = ab_n h + 1 := ab_new_n h 9 4
  have x1 : (ab_sh (ab_new (ab_new h 9 4) 3 16))[ab_n h]? = some (9, 4) := ab_sh_new_lt (ab_sh_new_at h 9 4)
  have x2 : (ab_sh (ab_new (ab_new h 9 4) 3 16))[ab_n h + 1]? = some (3, 16) := by have := ab_sh_new_at (ab_new h 9 4) 3 16; rwa [n1] at this
  refine ⟨⟨x1, x2⟩, ⟨?_, ?_, ?_, by omega⟩, fun i i1 i2 => by omega⟩
  · unfold sb0; rw [ab_gr_si, ab_gr_sr, if_pos ⟨rfl, rfl⟩]
  · unfold sb0; rw [ab_gi_si, if_pos ⟨rfl, rfl⟩]
  · unfold sb0; rw [ab_gi_si, if_neg (by omega), ab_gi_sr, ab_gi_new, if_neg (by omega), ab_gi_new, if_pos rfl]
theorem sb0_N (h : ab_H) : sN h (sb0 h) 2 20 := by
  refine ⟨⟨[(9, 4), (3, 16)], by unfold sb0; rw [ab_sh_si, ab_sh_sr, ab_sh_new, ab_sh_new, List.append_assoc]; rfl⟩, fun c x hc => ⟨?_, ?_, ?_⟩, Nat.le_refl _, Nat.le_refl _⟩
  · unfold sb0; rw [ab_gi_si, if_neg (by omega), ab_gi_sr, ab_gi_new, if_neg (by rw [ab_new_n]; omega), ab_gi_new, if_neg (by omega)]
  · unfold sb0; rw [ab_gr_si, ab_gr_sr, if_neg (by omega), ab_gr_new, if_neg (by rw [ab_new_n]; omega), ab_gr_new, if_neg (by omega)]
  · unfold sb0; rw [ab_gl_si, ab_gl_sr, ab_gl_new, if_neg (by rw [ab_new_n]; omega), ab_gl_new, if_neg (by omega)]
theorem j202 {dd : Nat} {h : ab_H} : ab_E B (dd + 1) 202 0 [some (.inr (.inr (.inl (some (ab_n h)))))] [] (ab_new h 9 4) = some (.inl none, sb0 h) := by
  have n1 : ab_n (ab_new h 9 4) = ab_n h + 1 := ab_new_n h 9 4
  have s1 : (ab_sh (ab_new h 9 4))[ab_n h]? = some (9, 4) := ab_sh_new_at h 9 4
  have s2 : (ab_sh (ab_new (ab_new h 9 4) 3 16))[ab_n h]? = some (9, 4) := ab_sh_new_lt s1
  unfold sb0
  simp (disch := omega) only [e202_0, e202_1, e202_3, e202_6, e188_0, e188_1, e188_4, e188_7, e188_10, e188_11, e188_12, e188_14, e188_17, e188_18, e188_19, e188_22, e188_25, e188_26, e188_38, implies_true, Int.reduceSub, Option.isNone_some, Option.isNone_none, ab_bh_some, ab_bh_thr, ab_gs_3, ab_gl_2, ab_gl_3, ab_gt_some, ab_gc_0, ab_gk_0, Bool.false_eq_true, Bool.true_eq_false, false_implies, Nat.reduceEqDiff, ab_ge, ab_lt, ab_le, ab_gt, ab_eq, ab_ne, decide_eq_true_eq, ab_w_id, ab_w0, ab_gd_some, ab_gs_0, ab_gs_1, ab_gl_0, ab_gl_1, ab_bv_some, ab_bu_some, ab_bv_thr, ab_bu_thr, ab_fx_n, ab_fx_i, ab_fx_q, ab_fx_l, ab_sh_si, ab_gr_si, ab_gl_si, cs_n, ↓reduceIte, true_or, or_true, false_or, or_false, and_true, true_and, and_false, false_and, not_true_eq_false, not_false_eq_true, eq_self, Int.reduceEq, Int.reduceLT, Int.reduceLE, Int.reduceAdd, Int.reduceMul, Int.reduceNeg, if_pos, if_neg, Int.reduceToNat, s1, n1, s2, ab_sh_sr]
theorem j191 {dd : Nat} {c v : Nat} {n : Int} {h : ab_H} (q : sB h c v n) (n1 : 0 ≤ n) (n2 : n < 16) : ab_E B dd 191 0 [some (.inr (.inr (.inl (some c)))), some (.inl (n + 1)), none] [] h = some (.inl none, h) := by
  obtain ⟨⟨s1, s2⟩, ⟨r1, g1, g3, ne⟩, hb⟩ := q
  have e : ab_ishr 16 0 = 16 := by decide
  have e' : ab_ishr ((16 : Nat) : Int) 0 = 16 := by decide
  simp (disch := omega) only [e191_0, e191_1, e191_4, e191_5, e191_6, e191_9, e191_10, e191_11, e191_12, e191_13, e191_14, e191_17, e191_18, e191_19, e191_22, e191_23, e191_38, implies_true, Int.reduceSub, Option.isNone_some, Option.isNone_none, ab_bh_some, ab_bh_thr, ab_gs_3, ab_gl_2, ab_gl_3, ab_gt_some, ab_gc_0, ab_gk_0, Bool.false_eq_true, Bool.true_eq_false, false_implies, Nat.reduceEqDiff, ab_ge, ab_lt, ab_le, ab_gt, ab_eq, ab_ne, decide_eq_true_eq, ab_w_id, ab_w0, ab_gd_some, ab_gs_0, ab_gs_1, ab_gl_0, ab_gl_1, ab_bv_some, ab_bu_some, ab_bv_thr, ab_bu_thr, ab_fx_n, ab_fx_i, ab_fx_q, ab_fx_l, ab_sh_si, ab_gr_si, ab_gl_si, cs_n, ↓reduceIte, true_or, or_true, false_or, or_false, and_true, true_and, and_false, false_and, not_true_eq_false, not_false_eq_true, eq_self, Int.reduceEq, Int.reduceLT, Int.reduceLE, Int.reduceAdd, Int.reduceMul, Int.reduceNeg, if_pos, if_neg, s1, s2, r1, g1, e, e']
theorem j194 {dd : Nat} {c v : Nat} {n : Int} {h : ab_H} (q : sB h c v n) : ab_E B dd 194 0 [some (.inr (.inr (.inl (some c))))] [] h = some (.inl (some (.inl 1)), h) := by
  obtain ⟨⟨s1, s2⟩, ⟨r1, g1, g3, ne⟩, hb⟩ := q
  simp (disch := omega) only [e194_0, e194_3, e194_6, e194_7, e194_10, e194_13, e194_14, e194_17, e194_18, implies_true, Int.reduceSub, Option.isNone_some, Option.isNone_none, ab_bh_some, ab_bh_thr, ab_gs_3, ab_gl_2, ab_gl_3, ab_gt_some, ab_gc_0, ab_gk_0, Bool.false_eq_true, Bool.true_eq_false, false_implies, Nat.reduceEqDiff, ab_ge, ab_lt, ab_le, ab_gt, ab_eq, ab_ne, decide_eq_true_eq, ab_w_id, ab_w0, ab_gd_some, ab_gs_0, ab_gs_1, ab_gl_0, ab_gl_1, ab_bv_some, ab_bu_some, ab_bv_thr, ab_bu_thr, ab_fx_n, ab_fx_i, ab_fx_q, ab_fx_l, ab_sh_si, ab_gr_si, ab_gl_si, cs_n, ↓reduceIte, true_or, or_true, false_or, or_false, and_true, true_and, and_false, false_and, not_true_eq_false, not_false_eq_true, eq_self, Int.reduceEq, Int.reduceLT, Int.reduceLE, Int.reduceAdd, Int.reduceMul, Int.reduceNeg, if_pos, if_neg, s1, g1]
theorem j203 {dd : Nat} {c v : Nat} {n x : Int} {h : ab_H} (q : sB h c v n) (n1 : 0 ≤ n) (n2 : n < 16) (x1 : 0 ≤ x) (x2 : x ≤ 127) (hx : ab_i2b x = x) : ab_E B (dd + 2) 203 0 [some (.inr (.inr (.inl (some c)))), some (.inl x)] [] h = some (.inl (some (.inr (.inr (.inl (some c))))), ab_si (ab_si h c 3 (n + 1)) v n x) := by
  have e91 := j191 (B := B) (dd := dd) q n1 n2
  have e94 := j194 (B := B) (dd := dd) q
  obtain ⟨⟨s1, s2⟩, ⟨r1, g1, g3, ne⟩, hb⟩ := q
  simp (disch := omega) only [e203_0, e203_1, e203_2, e203_5, e203_6, e203_7, e189_0, e189_1, e189_2, e189_5, e189_6, e189_7, e189_10, e189_11, e189_14, e189_17, e189_18, e189_21, e189_24, e189_25, e189_28, e189_29, e189_30, e189_33, e189_34, e189_35, e189_36, e189_39, e189_40, e189_41, e189_42, e189_45, e189_46, e189_49, e189_52, e189_56, e189_57, e189_60, e189_61, e189_62, e189_65, e189_66, e189_67, e189_68, e189_71, e189_75, e189_76, e207_0, e207_1, e207_4, e207_7, e207_8, e207_11, e207_12, implies_true, Int.reduceSub, Option.isNone_some, Option.isNone_none, ab_bh_some, ab_bh_thr, ab_gs_3, ab_gl_2, ab_gl_3, ab_gt_some, ab_gc_0, ab_gk_0, Bool.false_eq_true, Bool.true_eq_false, false_implies, Nat.reduceEqDiff, ab_ge, ab_lt, ab_le, ab_gt, ab_eq, ab_ne, decide_eq_true_eq, ab_w_id, ab_w0, ab_gd_some, ab_gs_0, ab_gs_1, ab_gl_0, ab_gl_1, ab_bv_some, ab_bu_some, ab_bv_thr, ab_bu_thr, ab_fx_n, ab_fx_i, ab_fx_q, ab_fx_l, ab_sh_si, ab_gr_si, ab_gl_si, cs_n, ↓reduceIte, true_or, or_true, false_or, or_false, and_true, true_and, and_false, false_and, not_true_eq_false, not_false_eq_true, eq_self, Int.reduceEq, Int.reduceLT, Int.reduceLE, Int.reduceAdd, Int.reduceMul, Int.reduceNeg, if_pos, if_neg, s1, s2, r1, g1, g3, e91, e94, hx]
theorem sB_app {c v : Nat} {n x : Int} {h : ab_H} (q : sB h c v n) (x1 : 0 ≤ x) (x2 : x ≤ 127) : sB (ab_si (ab_si h c 3 (n + 1)) v n x) c v (n + 1) := by
  obtain ⟨⟨s1, s2⟩, ⟨r1, g1, g3, ne⟩, hb⟩ := q
  refine ⟨⟨s1, s2⟩, ⟨r1, ?_, ?_, ne⟩, fun i i1 i2 => ?_⟩
  · rw [ab_gi_si, if_neg (fun z => ne z.1), ab_gi_si, if_neg (by omega)]; exact g1
  · rw [ab_gi_si, if_neg (fun z => ne z.1), ab_gi_si, if_pos ⟨rfl, rfl⟩]
  · rw [ab_gi_si]
    by_cases z : i = n
    · rw [if_pos ⟨rfl, z⟩]; omega
    · rw [if_neg (fun y => z y.2), ab_gi_si, if_neg (fun y => ne y.1.symm)]; exact hb i i1 (by omega)
theorem sB_app' {c v : Nat} {n x : Int} {h : ab_H} (q : sB h c v n) (x1 : 0 ≤ x) (x2 : x ≤ 127) : sB (ab_si (ab_si h v n x) c 3 (n + 1)) c v (n + 1) := by
  obtain ⟨⟨s1, s2⟩, ⟨r1, g1, g3, ne⟩, hb⟩ := q
  refine ⟨⟨s1, s2⟩, ⟨r1, ?_, ?_, ne⟩, fun i i1 i2 => ?_⟩
  · rw [ab_gi_si, if_neg (by omega), ab_gi_si, if_neg (fun z => ne z.1)]; exact g1
  · rw [ab_gi_si, if_pos ⟨rfl, rfl⟩]
  · rw [ab_gi_si, if_neg (fun y => ne y.1.symm), ab_gi_si]
    by_cases z : i = n
    · rw [if_pos ⟨rfl, z⟩]; omega
    · rw [if_neg (fun y => z y.2)]; exact hb i i1 (by omega)
theorem j204 {dd : Nat} {c v k : Nat} {n : Int} {h : ab_H} (q : sB h c v n) (n1 : 0 ≤ n) (n2 : n ≤ 5) (hk : k % 2 = 1 ∧ k < 8) : ∃ x, (0 ≤ x ∧ x ≤ 127) ∧ ab_E B (dd + 5) 204 0 [some (.inr (.inr (.inl (some c)))), some (.inr (.inr (.inr k)))] [] h = some (.inl (some (.inr (.inr (.inl (some c))))), ab_si (ab_si h v n x) c 3 (n + 1)) := by
  have e91 := j191 (B := B) (dd := dd + 3) q n1 (by omega)
  obtain ⟨⟨s1, s2⟩, ⟨r1, g1, g3, ne⟩, hb⟩ := q
  have e1 : ab_ishr 1 0 = 1 := by decide
  have e2 : ab_ishl n 0 = n := by
    have : n = 0 ∨ n = 1 ∨ n = 2 ∨ n = 3 ∨ n = 4 ∨ n = 5 := by omega
    rcases this with z | z | z | z | z | z <;> subst z <;> decide
  refine ⟨ab_tx ((k + 1 - 2) / 2), ?_, ?_⟩
  · have : k = 1 ∨ k = 3 ∨ k = 5 ∨ k = 7 := by omega
    rcases this with z | z | z | z <;> subst z <;> decide
  · have g3' : ab_gi (ab_si h v n (ab_tx ((k + 1 - 2) / 2))) c 3 = n := by rw [ab_gi_si, if_neg (fun z => ne z.1)]; exact g3
    simp (disch := omega) only [e204_0, e204_1, e204_2, e204_5, e204_6, e204_7, e190_0, e190_1, e190_4, e190_9, e190_10, e190_13, e190_14, e190_15, e190_16, e190_19, e190_20, e190_21, e190_24, e190_25, e190_26, e190_29, e190_30, e190_33, e190_34, e190_35, e190_38, e190_39, e190_40, e190_43, e190_44, e190_1t, e201_0, e201_1, e201_4, e201_5, e201_6, e201_9, e201_10, e199_0, e199_3, e199_6, e199_7, e199_10, e199_13, e199_14, e196_0, e196_1, e196_2, e196_5, e196_6, e196_7, e196_10, e196_11, e196_12, e196_15, e196_18, e193_0, e193_3, e193_6, e193_7, e193_10, e193_11, e193_14, e193_17, e193_21, e200_0, e200_1, e200_4, e200_5, e200_8, e200_9, e200_12, e200_13, e200_14, e200_15, e200_16, e200_17, e200_18, e200_21, e200_22, e200_25, e200_28, e200_29, e200_32, e200_33, e200_34, e200_35, e200_36, e200_39, e200_43, implies_true, Int.reduceSub, Option.isNone_some, Option.isNone_none, ab_bh_some, ab_bh_thr, ab_gs_3, ab_gl_2, ab_gl_3, ab_gt_some, ab_gc_0, ab_gk_0, Bool.false_eq_true, Bool.true_eq_false, false_implies, Nat.reduceEqDiff, ab_ge, ab_lt, ab_le, ab_gt, ab_eq, ab_ne, decide_eq_true_eq, ab_w_id, ab_w0, ab_gd_some, ab_gs_0, ab_gs_1, ab_gl_0, ab_gl_1, ab_bv_some, ab_bu_some, ab_bv_thr, ab_bu_thr, ab_fx_n, ab_fx_i, ab_fx_q, ab_fx_l, ab_sh_si, ab_gr_si, ab_gl_si, cs_n, ↓reduceIte, true_or, or_true, false_or, or_false, and_true, true_and, and_false, false_and, not_true_eq_false, not_false_eq_true, eq_self, Int.reduceEq, Int.reduceLT, Int.reduceLE, Int.reduceAdd, Int.reduceMul, Int.reduceNeg, if_pos, if_neg, s1, s2, r1, g1, g3, e91, e1, e2, g3']
theorem j209 {dd : Nat} {v : Nat} {n : Int} {h : ab_H} (hv : (ab_sh h)[v]? = some (3, 16)) (n1 : 0 ≤ n) (n2 : n < 16) (hb : ∀ i, 0 ≤ i → i < n → -128 ≤ ab_gi h v i ∧ ab_gi h v i ≤ 127) : ∃ f, ab_E B (dd + 2) 208 0 [some (.inr (.inr (.inl (some v)))), some (.inl 0), some (.inl n)] [] h = some (.inl (some (.inr (.inr (.inl (some (ab_n h)))))), ab_fil (ab_new h 3 n.toNat) (ab_n h) f) := by
  have lv := ab_sh_lt hv
  have s1 : (ab_sh (ab_new h 3 n.toNat))[v]? = some (3, 16) := ab_sh_new_lt hv
  have s2 : (ab_sh (ab_new h 3 n.toNat))[ab_n h]? = some (3, n.toNat) := ab_sh_new_at h 3 n.toNat
  have gv : ∀ i, ab_gi (ab_new h 3 n.toNat) v i = ab_gi h v i := fun i => by rw [ab_gi_new, if_neg (by omega)]
  have pre : ab_E B (dd + 1) 209 0 [some (.inr (.inr (.inl (some v)))), some (.inl 0), some (.inl n), none, none] [] h = ab_E B (dd + 1) 209 27 [some (.inr (.inr (.inl (some v)))), some (.inl 0), some (.inl n), some (.inl n), some (.inr (.inr (.inl (some (ab_n h)))))] [.inl n, .inl 0, .inr (.inr (.inl (some (ab_n h)))), .inl 0, .inr (.inr (.inl (some v)))] (ab_new h 3 n.toNat) := by
    have en : n - 0 = n := by omega
    have e16 : ((16 : Nat) : Int) - 0 = 16 := by decide
    simp (disch := omega) only [e209_0, e209_1, e209_2, e209_5, e209_6, e209_7, e209_8, e209_9, e209_10, e209_12, e209_14, e209_15, e209_16, e209_18, e209_19, e209_20, e209_21, e209_22, e209_23, e209_24, e209_30, e209_32, e210_0, e210_1, e210_2, e210_37, implies_true, Int.reduceSub, Option.isNone_some, Option.isNone_none, ab_bh_some, ab_bh_thr, ab_gs_3, ab_gl_2, ab_gl_3, ab_gt_some, ab_gc_0, ab_gk_0, Bool.false_eq_true, Bool.true_eq_false, false_implies, Nat.reduceEqDiff, ab_ge, ab_lt, ab_le, ab_gt, ab_eq, ab_ne, decide_eq_true_eq, ab_w_id, ab_w0, ab_gd_some, ab_gs_0, ab_gs_1, ab_gl_0, ab_gl_1, ab_bv_some, ab_bu_some, ab_bv_thr, ab_bu_thr, ab_fx_n, ab_fx_i, ab_fx_q, ab_fx_l, ab_sh_si, ab_gr_si, ab_gl_si, cs_n, ↓reduceIte, true_or, or_true, false_or, or_false, and_true, true_and, and_false, false_and, not_true_eq_false, not_false_eq_true, eq_self, Int.reduceEq, Int.reduceLT, Int.reduceLE, Int.reduceAdd, Int.reduceMul, Int.reduceNeg, if_pos, if_neg, s1, en, e16]
  have e27 := ab_E_cpb (B := B) (d := dd + 1) (M := 209) (pc := 27) (nx := 30) (a := ab_n h) (b := v) (m := n.toNat) (m' := 16) (n := n) (loc := [some (.inr (.inr (.inl (some v)))), some (.inl 0), some (.inl n), some (.inl n), some (.inr (.inr (.inl (some (ab_n h)))))]) (r := []) (h := ab_new h 3 n.toNat) rfl s2 s1 (by omega) n1 (by omega) (by omega) (fun i hi => by rw [gv]; exact hb i (by omega) hi) (by decide)
  have e09 : ab_E B (dd + 1) 209 0 [some (.inr (.inr (.inl (some v)))), some (.inl 0), some (.inl n), none, none] [] h = some (.inl (some (.inr (.inr (.inl (some (ab_n h)))))), ab_fil (ab_new h 3 n.toNat) (ab_n h) (fun i => if 0 ≤ i ∧ i < n then ab_gi (ab_new h 3 n.toNat) v i else ab_gi (ab_new h 3 n.toNat) (ab_n h) i)) := by
    rw [pre, e27]
    simp (disch := omega) only [e209_0, e209_1, e209_2, e209_5, e209_6, e209_7, e209_8, e209_9, e209_10, e209_12, e209_14, e209_15, e209_16, e209_18, e209_19, e209_20, e209_21, e209_22, e209_23, e209_24, e209_30, e209_32, implies_true, Int.reduceSub, Option.isNone_some, Option.isNone_none, ab_bh_some, ab_bh_thr, ab_gs_3, ab_gl_2, ab_gl_3, ab_gt_some, ab_gc_0, ab_gk_0, Bool.false_eq_true, Bool.true_eq_false, false_implies, Nat.reduceEqDiff, ab_ge, ab_lt, ab_le, ab_gt, ab_eq, ab_ne, decide_eq_true_eq, ab_w_id, ab_w0, ab_gd_some, ab_gs_0, ab_gs_1, ab_gl_0, ab_gl_1, ab_bv_some, ab_bu_some, ab_bv_thr, ab_bu_thr, ab_fx_n, ab_fx_i, ab_fx_q, ab_fx_l, ab_sh_si, ab_gr_si, ab_gl_si, cs_n, ↓reduceIte, true_or, or_true, false_or, or_false, and_true, true_and, and_false, false_and, not_true_eq_false, not_false_eq_true, eq_self, Int.reduceEq, Int.reduceLT, Int.reduceLE, Int.reduceAdd, Int.reduceMul, Int.reduceNeg, if_pos, if_neg]
  exact ⟨fun i => if 0 ≤ i ∧ i < n then ab_gi (ab_new h 3 n.toNat) v i else ab_gi (ab_new h 3 n.toNat) (ab_n h) i, by simp (disch := omega) only [e208_0, e208_1, e208_4, e208_5, e208_6, e208_7, e208_10, e208_11, e208_12, e208_13, e208_16, e208_17, implies_true, Int.reduceSub, Option.isNone_some, Option.isNone_none, ab_bh_some, ab_bh_thr, ab_gs_3, ab_gl_2, ab_gl_3, ab_gt_some, ab_gc_0, ab_gk_0, Bool.false_eq_true, Bool.true_eq_false, false_implies, Nat.reduceEqDiff, ab_ge, ab_lt, ab_le, ab_gt, ab_eq, ab_ne, decide_eq_true_eq, ab_w_id, ab_w0, ab_gd_some, ab_gs_0, ab_gs_1, ab_gl_0, ab_gl_1, ab_bv_some, ab_bu_some, ab_bv_thr, ab_bu_thr, ab_fx_n, ab_fx_i, ab_fx_q, ab_fx_l, ab_sh_si, ab_gr_si, ab_gl_si, cs_n, ↓reduceIte, true_or, or_true, false_or, or_false, and_true, true_and, and_false, false_and, not_true_eq_false, not_false_eq_true, eq_self, Int.reduceEq, Int.reduceLT, Int.reduceLE, Int.reduceAdd, Int.reduceMul, Int.reduceNeg, if_pos, if_neg, hv, e09]⟩
theorem j205 {dd : Nat} {c v : Nat} {n : Int} {h : ab_H} (q : sB h c v n) (n1 : 0 ≤ n) (n2 : n ≤ 5) : ∃ h', ab_E B (dd + 5) 205 0 [some (.inr (.inr (.inl (some c))))] [] h = some (.inl (some (.inr (.inr (.inl (some (ab_n h)))))), h') ∧ sN h h' 2 9 := by
  have q0 := q
  obtain ⟨⟨s1, s2⟩, ⟨r1, g1, g3, ne⟩, hb⟩ := q
  have lc := ab_sh_lt s1
  have lv := ab_sh_lt s2
  have nn : ab_n (ab_si (ab_new h 10 4) (ab_n h) 1 0) = ab_n h + 1 := ab_new_n h 10 4
  have x1 : (ab_sh (ab_new h 10 4))[c]? = some (9, 4) := ab_sh_new_lt s1
  have x2 : (ab_sh (ab_new h 10 4))[v]? = some (3, 16) := ab_sh_new_lt s2
  have x3 : (ab_sh (ab_new h 10 4))[ab_n h]? = some (10, 4) := ab_sh_new_at h 10 4
  have q1 : sB (ab_new h 10 4) c v n := ⟨⟨x1, x2⟩, ⟨by rw [ab_gr_new, if_neg (by omega)]; exact r1, by rw [ab_gi_new, if_neg (by omega)]; exact g1, by rw [ab_gi_new, if_neg (by omega)]; exact g3, ne⟩, fun i i1 i2 => by rw [ab_gi_new, if_neg (by omega)]; exact hb i i1 i2⟩
  have e94 := j194 (B := B) (dd := dd + 2) q1
  have r1' : ab_gr (ab_new h 10 4) c 0 = some v := q1.2.1.1
  have g3' : ab_gi (ab_new h 10 4) c 3 = n := q1.2.1.2.2.1
  obtain ⟨f, e8⟩ := j209 (B := B) (dd := dd) (n := n) (h := ab_si (ab_new h 10 4) (ab_n h) 1 0) (v := v) x2 n1 (by omega) (fun i i1 i2 => by rw [ab_gi_si, if_neg (by omega), ab_gi_new, if_neg (by omega)]; exact hb i i1 i2)
  rw [nn] at e8
  have x4 : (ab_sh (ab_new (ab_si (ab_new h 10 4) (ab_n h) 1 0) 3 n.toNat))[ab_n h]? = some (10, 4) := ab_sh_new_lt x3
  refine ⟨ab_sr (ab_fil (ab_new (ab_si (ab_new h 10 4) (ab_n h) 1 0) 3 n.toNat) (ab_n h + 1) f) (ab_n h) 0 (some (ab_n h + 1)), ?_, ⟨⟨[(10, 4), (3, n.toNat)], by rw [ab_sh_sr, ab_sh_fil, ab_sh_new, ab_sh_si, ab_sh_new, List.append_assoc]; rfl⟩, fun c x hc => ⟨?_, ?_, ?_⟩, ?_, ?_⟩⟩
  · simp (disch := omega) only [e205_0, e205_3, e205_4, e205_5, e205_8, e198_0, e198_1, e198_2, e198_3, e198_6, e197_0, e197_1, e197_4, e197_5, e197_8, e197_9, e197_10, e197_13, e197_15, e197_16, e197_19, e197_22, e197_23, e197_24, e197_27, e197_28, e197_29, e197_30, e197_32, e197_35, e197_38, e197_41, e197_44, e197_47, e197_48, e197_51, e197_54, e197_55, e197_56, e197_57, e197_79, e197_80, e197_81, e197_84, e197_85, e197_86, e197_87, e197_89, e197_90, e197_91, e197_94, e197_97, e192_0, e192_1, e192_4, e206_0, e206_1, e206_4, e195_0, e195_1, e195_4, implies_true, Int.reduceSub, Option.isNone_some, Option.isNone_none, ab_bh_some, ab_bh_thr, ab_gs_3, ab_gl_2, ab_gl_3, ab_gt_some, ab_gc_0, ab_gk_0, Bool.false_eq_true, Bool.true_eq_false, false_implies, Nat.reduceEqDiff, ab_ge, ab_lt, ab_le, ab_gt, ab_eq, ab_ne, decide_eq_true_eq, ab_w_id, ab_w0, ab_gd_some, ab_gs_0, ab_gs_1, ab_gl_0, ab_gl_1, ab_bv_some, ab_bu_some, ab_bv_thr, ab_bu_thr, ab_fx_n, ab_fx_i, ab_fx_q, ab_fx_l, ab_sh_si, ab_gr_si, ab_gl_si, cs_n, ↓reduceIte, true_or, or_true, false_or, or_false, and_true, true_and, and_false, false_and, not_true_eq_false, not_false_eq_true, eq_self, Int.reduceEq, Int.reduceLT, Int.reduceLE, Int.reduceAdd, Int.reduceMul, Int.reduceNeg, if_pos, if_neg, x1, x3, r1', g3', e94, e8, ab_sh_fil, x4]
  · rw [ab_gi_sr, ab_gi_fil, if_neg (by omega), ab_gi_new, if_neg (by omega), ab_gi_si, if_neg (by omega), ab_gi_new, if_neg (by omega)]
  · rw [ab_gr_sr, if_neg (by omega), ab_gr_fil, ab_gr_new, if_neg (by omega), ab_gr_si, ab_gr_new, if_neg (by omega)]
  · rw [ab_gl_sr, ab_gl_fil, ab_gl_new, if_neg (by omega), ab_gl_si, ab_gl_new, if_neg (by omega)]
  · show ab_kc h + 1 + 1 ≤ _
    omega
  · show ab_ks h + 4 + n.toNat ≤ _
    omega
/-! rows of the class -/
def cs_sg (h : ab_H) (d s : Int) : Int := if ab_gi h 5 d = 1 then 120 else if cs_b h d s = 1 then 63 else if s % ab_gi h 1 0 = d then 43 else 46
theorem cs_sg_ok (h : ab_H) (d s : Int) : (0 ≤ cs_sg h d s ∧ cs_sg h d s ≤ 127) ∧ ab_i2b (cs_sg h d s) = cs_sg h d s := by
  unfold cs_sg
  repeat' split
  all_goals decide
theorem m88 {dd : Nat} {d s : Int} {h : ab_H} (hR : cs_R h) (d1 : 0 ≤ d) (d2 : d < ab_gi h 1 0) (s1 : 0 ≤ s) (s2 : s < ab_gi h 1 1) : ab_E B (dd + 2) 88 0 [some (.inr (.inr (.inl (some 0)))), some (.inl d), some (.inl s)] [] h = some (.inl (some (.inl (cs_sg h d s))), h) := by
  have hL := hR.1
  have hD := hR.2.1
  have F := hR.2.2.2 d
  have e13 := m13 (B := B) (dd := dd + 1) hL d1 (show d < 5 by omega) F
  have e15 := m15 (B := B) (dd := dd) hR d1 d2 s1 s2
  have e9 := m9 (B := B) (dd := dd + 1) hR (show 3 ≤ ab_gi h 1 0 by omega) s1 (show s < 40 by omega)
  have sd1 : 0 ≤ s % ab_gi h 1 0 := Int.emod_nonneg _ (by omega)
  have sd2 : s % ab_gi h 1 0 < ab_gi h 1 0 := Int.emod_lt_of_pos _ (by omega)
  unfold cs_sg
  rcases F with q | q
  · rcases cs_b01 h d s with q2 | q2
    · by_cases c : s % ab_gi h 1 0 = d
      · simp (disch := omega) only [e88_0, e88_1, e88_4, e88_5, e88_8, e88_11, e88_13, e88_14, e88_15, e88_18, e88_19, e88_20, e88_23, e88_26, e88_28, e88_29, e88_30, e88_33, e88_34, e88_37, e88_38, e88_41, e88_43, e88_46, e88_48, implies_true, Int.reduceSub, Option.isNone_some, Option.isNone_none, ab_bh_some, ab_bh_thr, ab_gs_3, ab_gl_2, ab_gl_3, ab_gt_some, ab_gc_0, ab_gk_0, Bool.false_eq_true, Bool.true_eq_false, false_implies, Nat.reduceEqDiff, ab_ge, ab_lt, ab_le, ab_gt, ab_eq, ab_ne, decide_eq_true_eq, ab_w_id, ab_w0, ab_gd_some, ab_gs_0, ab_gs_1, ab_gl_0, ab_gl_1, ab_bv_some, ab_bu_some, ab_bv_thr, ab_bu_thr, ab_fx_n, ab_fx_i, ab_fx_q, ab_fx_l, ab_sh_si, ab_gr_si, ab_gl_si, cs_n, ↓reduceIte, true_or, or_true, false_or, or_false, and_true, true_and, and_false, false_and, not_true_eq_false, not_false_eq_true, eq_self, Int.reduceEq, Int.reduceLT, Int.reduceLE, Int.reduceAdd, Int.reduceMul, Int.reduceNeg, if_pos, if_neg, hL.1, hL.2, e13, q, e15, q2, e9, eq_true c]
      · simp (disch := omega) only [e88_0, e88_1, e88_4, e88_5, e88_8, e88_11, e88_13, e88_14, e88_15, e88_18, e88_19, e88_20, e88_23, e88_26, e88_28, e88_29, e88_30, e88_33, e88_34, e88_37, e88_38, e88_41, e88_43, e88_46, e88_48, implies_true, Int.reduceSub, Option.isNone_some, Option.isNone_none, ab_bh_some, ab_bh_thr, ab_gs_3, ab_gl_2, ab_gl_3, ab_gt_some, ab_gc_0, ab_gk_0, Bool.false_eq_true, Bool.true_eq_false, false_implies, Nat.reduceEqDiff, ab_ge, ab_lt, ab_le, ab_gt, ab_eq, ab_ne, decide_eq_true_eq, ab_w_id, ab_w0, ab_gd_some, ab_gs_0, ab_gs_1, ab_gl_0, ab_gl_1, ab_bv_some, ab_bu_some, ab_bv_thr, ab_bu_thr, ab_fx_n, ab_fx_i, ab_fx_q, ab_fx_l, ab_sh_si, ab_gr_si, ab_gl_si, cs_n, ↓reduceIte, true_or, or_true, false_or, or_false, and_true, true_and, and_false, false_and, not_true_eq_false, not_false_eq_true, eq_self, Int.reduceEq, Int.reduceLT, Int.reduceLE, Int.reduceAdd, Int.reduceMul, Int.reduceNeg, if_pos, if_neg, hL.1, hL.2, e13, q, e15, q2, e9, eq_false c]
    · simp (disch := omega) only [e88_0, e88_1, e88_4, e88_5, e88_8, e88_11, e88_13, e88_14, e88_15, e88_18, e88_19, e88_20, e88_23, e88_26, e88_28, e88_29, e88_30, e88_33, e88_34, e88_37, e88_38, e88_41, e88_43, e88_46, e88_48, implies_true, Int.reduceSub, Option.isNone_some, Option.isNone_none, ab_bh_some, ab_bh_thr, ab_gs_3, ab_gl_2, ab_gl_3, ab_gt_some, ab_gc_0, ab_gk_0, Bool.false_eq_true, Bool.true_eq_false, false_implies, Nat.reduceEqDiff, ab_ge, ab_lt, ab_le, ab_gt, ab_eq, ab_ne, decide_eq_true_eq, ab_w_id, ab_w0, ab_gd_some, ab_gs_0, ab_gs_1, ab_gl_0, ab_gl_1, ab_bv_some, ab_bu_some, ab_bv_thr, ab_bu_thr, ab_fx_n, ab_fx_i, ab_fx_q, ab_fx_l, ab_sh_si, ab_gr_si, ab_gl_si, cs_n, ↓reduceIte, true_or, or_true, false_or, or_false, and_true, true_and, and_false, false_and, not_true_eq_false, not_false_eq_true, eq_self, Int.reduceEq, Int.reduceLT, Int.reduceLE, Int.reduceAdd, Int.reduceMul, Int.reduceNeg, if_pos, if_neg, hL.1, hL.2, e13, q, e15, q2]
  · simp (disch := omega) only [e88_0, e88_1, e88_4, e88_5, e88_8, e88_11, e88_13, e88_14, e88_15, e88_18, e88_19, e88_20, e88_23, e88_26, e88_28, e88_29, e88_30, e88_33, e88_34, e88_37, e88_38, e88_41, e88_43, e88_46, e88_48, implies_true, Int.reduceSub, Option.isNone_some, Option.isNone_none, ab_bh_some, ab_bh_thr, ab_gs_3, ab_gl_2, ab_gl_3, ab_gt_some, ab_gc_0, ab_gk_0, Bool.false_eq_true, Bool.true_eq_false, false_implies, Nat.reduceEqDiff, ab_ge, ab_lt, ab_le, ab_gt, ab_eq, ab_ne, decide_eq_true_eq, ab_w_id, ab_w0, ab_gd_some, ab_gs_0, ab_gs_1, ab_gl_0, ab_gl_1, ab_bv_some, ab_bu_some, ab_bv_thr, ab_bu_thr, ab_fx_n, ab_fx_i, ab_fx_q, ab_fx_l, ab_sh_si, ab_gr_si, ab_gl_si, cs_n, ↓reduceIte, true_or, or_true, false_or, or_false, and_true, true_and, and_false, false_and, not_true_eq_false, not_false_eq_true, eq_self, Int.reduceEq, Int.reduceLT, Int.reduceLE, Int.reduceAdd, Int.reduceMul, Int.reduceNeg, if_pos, if_neg, hL.1, hL.2, e13, q]
theorem sN.trans {h h' h2 : ab_H} {k s k' s' : Nat} (a : sN h h' k s) (b : sN h' h2 k' s') : sN h h2 (k + k') (s + s') := by
  obtain ⟨⟨l, a1⟩, a2, a3, a4⟩ := a
  obtain ⟨⟨l', b1⟩, b2, b3, b4⟩ := b
  have hn : ab_n h ≤ ab_n h' := by unfold ab_n; rw [a1, List.length_append]; omega
  refine ⟨⟨l ++ l', by rw [b1, a1, List.append_assoc]⟩, fun c x hc => ?_, by omega, by omega⟩
  obtain ⟨p1, p2, p3⟩ := b2 c x (by omega)
  obtain ⟨q1, q2, q3⟩ := a2 c x hc
  exact ⟨p1.trans q1, p2.trans q2, p3.trans q3⟩
theorem sN.si {h h' : ab_H} {k s c : Nat} {x v : Int} (a : sN h h' k s) (hc : ab_n h ≤ c) : sN h (ab_si h' c x v) k s := ⟨a.1, fun c' y q => ⟨by rw [ab_gi_si, if_neg (by omega)]; exact (a.2.1 c' y q).1, (a.2.1 c' y q).2⟩, a.2.2⟩
theorem sN.ci {h h' : ab_H} {k s : Nat} (a : sN h h' k s) (i : ci h) (hN : 18 ≤ ab_n h) : ci h' := ci_fr i (cs_L_of i.1.1 (fun j hj => by
    obtain ⟨l, e⟩ := a.1
    rw [e, List.getElem?_append_left (by unfold ab_n at hN; omega)]) (fun c x hc => (a.2.1 c x (by omega)).2.1)) (fun c x hc => (a.2.1 c x (by omega)).1)
theorem m80_2 {dd : Nat} {s : Int} {h : ab_H} (i : ci h) (r1 : -2147483648 ≤ s) (r2 : s < 2147483648) (hn : ¬ (0 ≤ s ∧ s < ab_gi h 1 1)) : ab_E B (dd + 1) 80 0 [some (.inr (.inr (.inl (some 0)))), some (.inl s), none, none] [] h = some (.inr 2, ab_cost h 1 6) := by
  have hL := i.1.1
  simp (disch := omega) only [e80_0, e80_1, e80_4, e80_5, e80_8, e80_11, e80_21, e80_24, e80_25, e80_28, e80_29, e80_30, e80_31, e80_32, e80_33, e80_36, e80_39, e80_42, e80_43, e80_44, e80_45, e80_46, e80_49, e80_52, e80_53, e80_56, e80_59, e80_60, e80_63, implies_true, Int.reduceSub, Option.isNone_some, Option.isNone_none, ab_bh_some, ab_bh_thr, ab_gs_3, ab_gl_2, ab_gl_3, ab_gt_some, ab_gc_0, ab_gk_0, Bool.false_eq_true, Bool.true_eq_false, false_implies, Nat.reduceEqDiff, ab_ge, ab_lt, ab_le, ab_gt, ab_eq, ab_ne, decide_eq_true_eq, ab_w_id, ab_w0, ab_gd_some, ab_gs_0, ab_gs_1, ab_gl_0, ab_gl_1, ab_bv_some, ab_bu_some, ab_bv_thr, ab_bu_thr, ab_fx_n, ab_fx_i, ab_fx_q, ab_fx_l, ab_sh_si, ab_gr_si, ab_gl_si, cs_n, ↓reduceIte, true_or, or_true, false_or, or_false, and_true, true_and, and_false, false_and, not_true_eq_false, not_false_eq_true, eq_self, Int.reduceEq, Int.reduceLT, Int.reduceLE, Int.reduceAdd, Int.reduceMul, Int.reduceNeg, if_pos, if_neg, hL.1, hL.2, m3n i.1 r1 r2 hn]
theorem m80_loop {dd : Nat} {s D : Int} {h : ab_H} {c v : Nat} (i : ci h) (hN : 18 ≤ ab_n h) (hD : ab_gi h 1 0 = D) (s1 : 0 ≤ s) (s2 : s < ab_gi h 1 1) (hc : ab_n h ≤ c) (hv : ab_n h ≤ v) : ∀ (k : Nat) (d : Int) (h1 : ab_H) (kk ss : Nat), sN h h1 kk ss → sB h1 c v d → 0 ≤ d → d + k = D →
    ∃ h', ab_E B (dd + 5) 80 31 [some (.inr (.inr (.inl (some 0)))), some (.inl s), some (.inr (.inr (.inl (some c)))), some (.inl d)] [] h1 = ab_E B (dd + 5) 80 59 [some (.inr (.inr (.inl (some 0)))), some (.inl s), some (.inr (.inr (.inl (some c)))), some (.inl D)] [] h' ∧ sN h h' kk ss ∧ sB h' c v D
  | 0, d, h1, kk, ss, a, q, d1, d2 => by
    have i1 := a.ci i hN
    have hL := i1.1.1
    have hDS := i.1.2.1
    have e0 : ab_gi h1 1 0 = D := ((a.2.1 1 0 (by omega)).1).trans hD
    have e : d = D := by omega
    rw [e] at q
    refine ⟨h1, ?_, a, q⟩
    rw [e80_31]
    simp (disch := omega) only [e80_0, e80_1, e80_4, e80_5, e80_8, e80_11, e80_21, e80_24, e80_25, e80_28, e80_29, e80_30, e80_32, e80_33, e80_36, e80_39, e80_42, e80_43, e80_44, e80_45, e80_46, e80_49, e80_52, e80_53, e80_56, e80_60, e80_63, implies_true, Int.reduceSub, Option.isNone_some, Option.isNone_none, ab_bh_some, ab_bh_thr, ab_gs_3, ab_gl_2, ab_gl_3, ab_gt_some, ab_gc_0, ab_gk_0, Bool.false_eq_true, Bool.true_eq_false, false_implies, Nat.reduceEqDiff, ab_ge, ab_lt, ab_le, ab_gt, ab_eq, ab_ne, decide_eq_true_eq, ab_w_id, ab_w0, ab_gd_some, ab_gs_0, ab_gs_1, ab_gl_0, ab_gl_1, ab_bv_some, ab_bu_some, ab_bv_thr, ab_bu_thr, ab_fx_n, ab_fx_i, ab_fx_q, ab_fx_l, ab_sh_si, ab_gr_si, ab_gl_si, cs_n, ↓reduceIte, true_or, or_true, false_or, or_false, and_true, true_and, and_false, false_and, not_true_eq_false, not_false_eq_true, eq_self, Int.reduceEq, Int.reduceLT, Int.reduceLE, Int.reduceAdd, Int.reduceMul, Int.reduceNeg, if_pos, if_neg, hL.1, hL.2, e0, e]
  | k + 1, d, h1, kk, ss, a, q, d1, d2 => by
    have i1 := a.ci i hN
    have hL := i1.1.1
    have hDS := i.1.2.1
    have e0 : ab_gi h1 1 0 = D := ((a.2.1 1 0 (by omega)).1).trans hD
    have e1 : ab_gi h1 1 1 = ab_gi h 1 1 := (a.2.1 1 1 (by omega)).1
    have e88 := m88 (B := B) (dd := dd + 2) i1.1 d1 (show d < ab_gi h1 1 0 by omega) s1 (by rw [e1]; exact s2)
    obtain ⟨⟨x1, x2⟩, x3⟩ := cs_sg_ok h1 d s
    have e203 := j203 (B := B) (dd := dd + 2) q d1 (show d < 16 by omega) x1 x2 x3
    obtain ⟨h', a', r⟩ := m80_loop (dd := dd) i hN hD s1 s2 hc hv k (d + 1) _ kk ss ((a.si (x := 3) (v := d + 1) hc).si (x := d) (v := cs_sg h1 d s) hv) (sB_app q x1 x2) (by omega) (by omega)
    refine ⟨h', ?_, r⟩
    have sc := q.1.1
    rw [← a', e80_31]
    simp (disch := omega) only [e80_0, e80_1, e80_4, e80_5, e80_8, e80_11, e80_21, e80_24, e80_25, e80_28, e80_29, e80_30, e80_32, e80_33, e80_36, e80_39, e80_42, e80_43, e80_44, e80_45, e80_46, e80_49, e80_52, e80_53, e80_56, e80_60, e80_63, implies_true, Int.reduceSub, Option.isNone_some, Option.isNone_none, ab_bh_some, ab_bh_thr, ab_gs_3, ab_gl_2, ab_gl_3, ab_gt_some, ab_gc_0, ab_gk_0, Bool.false_eq_true, Bool.true_eq_false, false_implies, Nat.reduceEqDiff, ab_ge, ab_lt, ab_le, ab_gt, ab_eq, ab_ne, decide_eq_true_eq, ab_w_id, ab_w0, ab_gd_some, ab_gs_0, ab_gs_1, ab_gl_0, ab_gl_1, ab_bv_some, ab_bu_some, ab_bv_thr, ab_bu_thr, ab_fx_n, ab_fx_i, ab_fx_q, ab_fx_l, ab_sh_si, ab_gr_si, ab_gl_si, cs_n, ↓reduceIte, true_or, or_true, false_or, or_false, and_true, true_and, and_false, false_and, not_true_eq_false, not_false_eq_true, eq_self, Int.reduceEq, Int.reduceLT, Int.reduceLE, Int.reduceAdd, Int.reduceMul, Int.reduceNeg, if_pos, if_neg, hL.1, hL.2, e0, e88, sc, e203]
theorem m80 {dd : Nat} {s : Int} {h : ab_H} (i : ci h) (hN : 31 ≤ ab_n h) (s1 : 0 ≤ s) (s2 : s < ab_gi h 1 1) : ∃ h' r, ab_E B (dd + 6) 80 0 [some (.inr (.inr (.inl (some 0)))), some (.inl s), none, none] [] h = some (.inl (some (.inr (.inr (.inl (some r))))), h') ∧ sN h h' 4 29 := by
  have hL := i.1.1
  have hDS := i.1.2.1
  obtain ⟨h1, a1, N1, B1⟩ := m80_loop (B := B) (dd := dd + 1) (s := s) (D := ab_gi h 1 0) i (by omega) rfl s1 s2 (Nat.le_refl _) (show ab_n h ≤ ab_n h + 1 by omega) (ab_gi h 1 0).toNat 0 (sb0 h) 2 20 (sb0_N h) (sb0_B h) (by omega) (by omega)
  obtain ⟨h2, a2, N2⟩ := j205 (B := B) (dd := dd) B1 (by omega) (by omega)
  have sc := B1.1.1
  have e202 := j202 (B := B) (dd := dd + 4) (h := h)
  have sn : (ab_sh (ab_new h 9 4))[ab_n h]? = some (9, 4) := ab_sh_new_at h 9 4
  refine ⟨h2, ab_n h1, ?_, (N1.trans N2)⟩
  have pre : ab_E B (dd + 6) 80 0 [some (.inr (.inr (.inl (some 0)))), some (.inl s), none, none] [] h = ab_E B (dd + 6) 80 31 [some (.inr (.inr (.inl (some 0)))), some (.inl s), some (.inr (.inr (.inl (some (ab_n h))))), some (.inl 0)] [] (sb0 h) := by
    simp (disch := omega) only [e80_0, e80_1, e80_4, e80_5, e80_8, e80_11, e80_21, e80_24, e80_25, e80_28, e80_29, e80_30, e80_32, e80_33, e80_36, e80_39, e80_42, e80_43, e80_44, e80_45, e80_46, e80_49, e80_52, e80_53, e80_56, e80_60, e80_63, implies_true, Int.reduceSub, Option.isNone_some, Option.isNone_none, ab_bh_some, ab_bh_thr, ab_gs_3, ab_gl_2, ab_gl_3, ab_gt_some, ab_gc_0, ab_gk_0, Bool.false_eq_true, Bool.true_eq_false, false_implies, Nat.reduceEqDiff, ab_ge, ab_lt, ab_le, ab_gt, ab_eq, ab_ne, decide_eq_true_eq, ab_w_id, ab_w0, ab_gd_some, ab_gs_0, ab_gs_1, ab_gl_0, ab_gl_1, ab_bv_some, ab_bu_some, ab_bv_thr, ab_bu_thr, ab_fx_n, ab_fx_i, ab_fx_q, ab_fx_l, ab_sh_si, ab_gr_si, ab_gl_si, cs_n, ↓reduceIte, true_or, or_true, false_or, or_false, and_true, true_and, and_false, false_and, not_true_eq_false, not_false_eq_true, eq_self, Int.reduceEq, Int.reduceLT, Int.reduceLE, Int.reduceAdd, Int.reduceMul, Int.reduceNeg, if_pos, if_neg, hL.1, hL.2, m3y i.1 s1 s2, sn, e202]
  rw [pre, a1, e80_59]
  simp (disch := omega) only [e80_0, e80_1, e80_4, e80_5, e80_8, e80_11, e80_21, e80_24, e80_25, e80_28, e80_29, e80_30, e80_32, e80_33, e80_36, e80_39, e80_42, e80_43, e80_44, e80_45, e80_46, e80_49, e80_52, e80_53, e80_56, e80_60, e80_63, implies_true, Int.reduceSub, Option.isNone_some, Option.isNone_none, ab_bh_some, ab_bh_thr, ab_gs_3, ab_gl_2, ab_gl_3, ab_gt_some, ab_gc_0, ab_gk_0, Bool.false_eq_true, Bool.true_eq_false, false_implies, Nat.reduceEqDiff, ab_ge, ab_lt, ab_le, ab_gt, ab_eq, ab_ne, decide_eq_true_eq, ab_w_id, ab_w0, ab_gd_some, ab_gs_0, ab_gs_1, ab_gl_0, ab_gl_1, ab_bv_some, ab_bu_some, ab_bv_thr, ab_bu_thr, ab_fx_n, ab_fx_i, ab_fx_q, ab_fx_l, ab_sh_si, ab_gr_si, ab_gl_si, cs_n, ↓reduceIte, true_or, or_true, false_or, or_false, and_true, true_and, and_false, false_and, not_true_eq_false, not_false_eq_true, eq_self, Int.reduceEq, Int.reduceLT, Int.reduceLE, Int.reduceAdd, Int.reduceMul, Int.reduceNeg, if_pos, if_neg, sc, a2]
/-! rows of the reference -/
theorem sN.mm {g h h' : ab_H} {b k s : Nat} (a : sN h h' k s) (m : mm g h b) : mm g h' b := mm_of m (fun i x q => by
    obtain ⟨l, e⟩ := a.1
    exact ab_sh_pre e q) (fun c x _ q => (a.2.1 c x q).2.1) (fun c x _ q _ => (a.2.1 c x q).1)
theorem n154_loop {dd : Nat} {s D : Int} {g h : ab_H} {b c v : Nat} (hR : cs_R g) (m : mm g h b) (hD : ab_gi g 1 0 = D) (s1 : 0 ≤ s) (s2 : s < ab_gi g 1 1) (hc : ab_n h ≤ c) (hv : ab_n h ≤ v) : ∀ (k : Nat) (d : Int) (h1 : ab_H) (kk ss : Nat), sN h h1 kk ss → sB h1 c v d → 0 ≤ d → d + k = D →
    ∃ h', ab_E B (dd + 6) 154 26 [some (.inr (.inr (.inl (some 18)))), some (.inl s), some (.inr (.inr (.inl (some c)))), some (.inl d)] [] h1 = ab_E B (dd + 6) 154 89 [some (.inr (.inr (.inl (some 18)))), some (.inl s), some (.inr (.inr (.inl (some c)))), some (.inl D)] [] h' ∧ sN h h' kk ss ∧ sB h' c v D
  | 0, d, h1, kk, ss, a, q, d1, d2 => by
    have m1 := a.mm m
    have hm := m1.1
    have e1 := m1.2.1.1.trans hD
    have hDS := hR.2.1
    have e : d = D := by omega
    rw [e] at q
    refine ⟨h1, ?_, a, q⟩
    rw [e154_26]
    simp (disch := omega) only [e154_0, e154_1, e154_2, e154_3, e154_6, e154_7, e154_10, e154_13, e154_15, e154_16, e154_19, e154_20, e154_23, e154_24, e154_25, e154_27, e154_28, e154_31, e154_34, e154_35, e154_36, e154_39, e154_40, e154_41, e154_44, e154_46, e154_49, e154_50, e154_51, e154_52, e154_55, e154_58, e154_60, e154_63, e154_64, e154_65, e154_66, e154_69, e154_72, e154_74, e154_77, e154_79, e154_82, e154_83, e154_86, e154_90, e154_93, implies_true, Int.reduceSub, Option.isNone_some, Option.isNone_none, ab_bh_some, ab_bh_thr, ab_gs_3, ab_gl_2, ab_gl_3, ab_gt_some, ab_gc_0, ab_gk_0, Bool.false_eq_true, Bool.true_eq_false, false_implies, Nat.reduceEqDiff, ab_ge, ab_lt, ab_le, ab_gt, ab_eq, ab_ne, decide_eq_true_eq, ab_w_id, ab_w0, ab_gd_some, ab_gs_0, ab_gs_1, ab_gl_0, ab_gl_1, ab_bv_some, ab_bu_some, ab_bv_thr, ab_bu_thr, ab_fx_n, ab_fx_i, ab_fx_q, ab_fx_l, ab_sh_si, ab_gr_si, ab_gl_si, cs_n, ↓reduceIte, true_or, or_true, false_or, or_false, and_true, true_and, and_false, false_and, not_true_eq_false, not_false_eq_true, eq_self, Int.reduceEq, Int.reduceLT, Int.reduceLE, Int.reduceAdd, Int.reduceMul, Int.reduceNeg, if_pos, if_neg, hm.1, e1, e]
  | k + 1, d, h1, kk, ss, a, q, d1, d2 => by
    have m1 := a.mm m
    have hm := m1.1
    have e1 := m1.2.1.1.trans hD
    have hDS := hR.2.1
    have f := (m1.2.2.1.2.1 d d1 (by omega)).1
    have e11 := n111 (B := B) (dd := dd + 5) hR m1 d1 (show d < ab_gi g 1 0 by omega) s1 s2
    have e8 := n108 (B := B) (dd := dd + 5) hR m1 (show 3 ≤ ab_gi g 1 0 by omega) s1 (show s < 40 by omega)
    have sd1 : 0 ≤ s % ab_gi g 1 0 := Int.emod_nonneg _ (by omega)
    have sd2 : s % ab_gi g 1 0 < ab_gi g 1 0 := Int.emod_lt_of_pos _ (by omega)
    have sc := q.1.1
    have go : ∀ t, t % 2 = 1 ∧ t < 8 → ∃ x, (0 ≤ x ∧ x ≤ 127) ∧ ab_E B (dd + 5) 204 0 [some (.inr (.inr (.inl (some c)))), some (.inr (.inr (.inr t)))] [] h1 = some (.inl (some (.inr (.inr (.inl (some c))))), ab_si (ab_si h1 v d x) c 3 (d + 1)) := fun t ht => j204 (B := B) (dd := dd) q d1 (by omega) ht
    have nx : ∀ x, 0 ≤ x → x ≤ 127 → ∃ h', ab_E B (dd + 6) 154 26 [some (.inr (.inr (.inl (some 18)))), some (.inl s), some (.inr (.inr (.inl (some c)))), some (.inl (d + 1))] [] (ab_si (ab_si h1 v d x) c 3 (d + 1)) = ab_E B (dd + 6) 154 89 [some (.inr (.inr (.inl (some 18)))), some (.inl s), some (.inr (.inr (.inl (some c)))), some (.inl D)] [] h' ∧ sN h h' kk ss ∧ sB h' c v D := fun x x1 x2 => n154_loop (dd := dd) hR m hD s1 s2 hc hv k (d + 1) _ kk ss ((a.si (x := d) (v := x) hv).si (x := 3) (v := d + 1) hc) (sB_app' q x1 x2) (by omega) (by omega)
    rcases hR.2.2.2 d with F | F
    · rcases cs_b01 g d s with z | z
      · by_cases w : d = s % ab_gi g 1 0
        · obtain ⟨x, ⟨x1, x2⟩, ex⟩ := go 5 (by omega)
          obtain ⟨h', a', r⟩ := nx x x1 x2
          refine ⟨h', ?_, r⟩
          rw [← a', e154_26]
          simp (disch := omega) only [e154_0, e154_1, e154_2, e154_3, e154_6, e154_7, e154_10, e154_13, e154_15, e154_16, e154_19, e154_20, e154_23, e154_24, e154_25, e154_27, e154_28, e154_31, e154_34, e154_35, e154_36, e154_39, e154_40, e154_41, e154_44, e154_46, e154_49, e154_50, e154_51, e154_52, e154_55, e154_58, e154_60, e154_63, e154_64, e154_65, e154_66, e154_69, e154_72, e154_74, e154_77, e154_79, e154_82, e154_83, e154_86, e154_90, e154_93, implies_true, Int.reduceSub, Option.isNone_some, Option.isNone_none, ab_bh_some, ab_bh_thr, ab_gs_3, ab_gl_2, ab_gl_3, ab_gt_some, ab_gc_0, ab_gk_0, Bool.false_eq_true, Bool.true_eq_false, false_implies, Nat.reduceEqDiff, ab_ge, ab_lt, ab_le, ab_gt, ab_eq, ab_ne, decide_eq_true_eq, ab_w_id, ab_w0, ab_gd_some, ab_gs_0, ab_gs_1, ab_gl_0, ab_gl_1, ab_bv_some, ab_bu_some, ab_bv_thr, ab_bu_thr, ab_fx_n, ab_fx_i, ab_fx_q, ab_fx_l, ab_sh_si, ab_gr_si, ab_gl_si, cs_n, ↓reduceIte, true_or, or_true, false_or, or_false, and_true, true_and, and_false, false_and, not_true_eq_false, not_false_eq_true, eq_self, Int.reduceEq, Int.reduceLT, Int.reduceLE, Int.reduceAdd, Int.reduceMul, Int.reduceNeg, if_pos, if_neg, hm.1, hm.2.1, e1, f, F, e11, z, e8, eq_true w, sc, ex]
        · obtain ⟨x, ⟨x1, x2⟩, ex⟩ := go 7 (by omega)
          obtain ⟨h', a', r⟩ := nx x x1 x2
          refine ⟨h', ?_, r⟩
          rw [← a', e154_26]
          simp (disch := omega) only [e154_0, e154_1, e154_2, e154_3, e154_6, e154_7, e154_10, e154_13, e154_15, e154_16, e154_19, e154_20, e154_23, e154_24, e154_25, e154_27, e154_28, e154_31, e154_34, e154_35, e154_36, e154_39, e154_40, e154_41, e154_44, e154_46, e154_49, e154_50, e154_51, e154_52, e154_55, e154_58, e154_60, e154_63, e154_64, e154_65, e154_66, e154_69, e154_72, e154_74, e154_77, e154_79, e154_82, e154_83, e154_86, e154_90, e154_93, implies_true, Int.reduceSub, Option.isNone_some, Option.isNone_none, ab_bh_some, ab_bh_thr, ab_gs_3, ab_gl_2, ab_gl_3, ab_gt_some, ab_gc_0, ab_gk_0, Bool.false_eq_true, Bool.true_eq_false, false_implies, Nat.reduceEqDiff, ab_ge, ab_lt, ab_le, ab_gt, ab_eq, ab_ne, decide_eq_true_eq, ab_w_id, ab_w0, ab_gd_some, ab_gs_0, ab_gs_1, ab_gl_0, ab_gl_1, ab_bv_some, ab_bu_some, ab_bv_thr, ab_bu_thr, ab_fx_n, ab_fx_i, ab_fx_q, ab_fx_l, ab_sh_si, ab_gr_si, ab_gl_si, cs_n, ↓reduceIte, true_or, or_true, false_or, or_false, and_true, true_and, and_false, false_and, not_true_eq_false, not_false_eq_true, eq_self, Int.reduceEq, Int.reduceLT, Int.reduceLE, Int.reduceAdd, Int.reduceMul, Int.reduceNeg, if_pos, if_neg, hm.1, hm.2.1, e1, f, F, e11, z, e8, eq_false w, sc, ex]
      · obtain ⟨x, ⟨x1, x2⟩, ex⟩ := go 3 (by omega)
        obtain ⟨h', a', r⟩ := nx x x1 x2
        refine ⟨h', ?_, r⟩
        rw [← a', e154_26]
        simp (disch := omega) only [e154_0, e154_1, e154_2, e154_3, e154_6, e154_7, e154_10, e154_13, e154_15, e154_16, e154_19, e154_20, e154_23, e154_24, e154_25, e154_27, e154_28, e154_31, e154_34, e154_35, e154_36, e154_39, e154_40, e154_41, e154_44, e154_46, e154_49, e154_50, e154_51, e154_52, e154_55, e154_58, e154_60, e154_63, e154_64, e154_65, e154_66, e154_69, e154_72, e154_74, e154_77, e154_79, e154_82, e154_83, e154_86, e154_90, e154_93, implies_true, Int.reduceSub, Option.isNone_some, Option.isNone_none, ab_bh_some, ab_bh_thr, ab_gs_3, ab_gl_2, ab_gl_3, ab_gt_some, ab_gc_0, ab_gk_0, Bool.false_eq_true, Bool.true_eq_false, false_implies, Nat.reduceEqDiff, ab_ge, ab_lt, ab_le, ab_gt, ab_eq, ab_ne, decide_eq_true_eq, ab_w_id, ab_w0, ab_gd_some, ab_gs_0, ab_gs_1, ab_gl_0, ab_gl_1, ab_bv_some, ab_bu_some, ab_bv_thr, ab_bu_thr, ab_fx_n, ab_fx_i, ab_fx_q, ab_fx_l, ab_sh_si, ab_gr_si, ab_gl_si, cs_n, ↓reduceIte, true_or, or_true, false_or, or_false, and_true, true_and, and_false, false_and, not_true_eq_false, not_false_eq_true, eq_self, Int.reduceEq, Int.reduceLT, Int.reduceLE, Int.reduceAdd, Int.reduceMul, Int.reduceNeg, if_pos, if_neg, hm.1, hm.2.1, e1, f, F, e11, z, sc, ex]
    · obtain ⟨x, ⟨x1, x2⟩, ex⟩ := go 1 (by omega)
      obtain ⟨h', a', r⟩ := nx x x1 x2
      refine ⟨h', ?_, r⟩
      rw [← a', e154_26]
      simp (disch := omega) only [e154_0, e154_1, e154_2, e154_3, e154_6, e154_7, e154_10, e154_13, e154_15, e154_16, e154_19, e154_20, e154_23, e154_24, e154_25, e154_27, e154_28, e154_31, e154_34, e154_35, e154_36, e154_39, e154_40, e154_41, e154_44, e154_46, e154_49, e154_50, e154_51, e154_52, e154_55, e154_58, e154_60, e154_63, e154_64, e154_65, e154_66, e154_69, e154_72, e154_74, e154_77, e154_79, e154_82, e154_83, e154_86, e154_90, e154_93, implies_true, Int.reduceSub, Option.isNone_some, Option.isNone_none, ab_bh_some, ab_bh_thr, ab_gs_3, ab_gl_2, ab_gl_3, ab_gt_some, ab_gc_0, ab_gk_0, Bool.false_eq_true, Bool.true_eq_false, false_implies, Nat.reduceEqDiff, ab_ge, ab_lt, ab_le, ab_gt, ab_eq, ab_ne, decide_eq_true_eq, ab_w_id, ab_w0, ab_gd_some, ab_gs_0, ab_gs_1, ab_gl_0, ab_gl_1, ab_bv_some, ab_bu_some, ab_bv_thr, ab_bu_thr, ab_fx_n, ab_fx_i, ab_fx_q, ab_fx_l, ab_sh_si, ab_gr_si, ab_gl_si, cs_n, ↓reduceIte, true_or, or_true, false_or, or_false, and_true, true_and, and_false, false_and, not_true_eq_false, not_false_eq_true, eq_self, Int.reduceEq, Int.reduceLT, Int.reduceLE, Int.reduceAdd, Int.reduceMul, Int.reduceNeg, if_pos, if_neg, hm.1, hm.2.1, e1, f, F, sc, ex]
/-- a row of the reference: some reference -/
theorem n154_1 {dd : Nat} {s : Int} {g h : ab_H} {b : Nat} (i : ci g) (m : mm g h b) (r1 : -2147483648 ≤ s) (r2 : s < 2147483648) (hn : ¬ (0 ≤ s ∧ s < ab_gi g 1 1)) : ab_E B (dd + 2) 154 0 [some (.inr (.inr (.inl (some 18)))), some (.inl s), none, none] [] h = some (.inl (some (.inr (.inr (.inr 9)))), mt h 1) := by
  have hs := m.1.1.1
  simp (disch := omega) only [e154_0, e154_1, e154_2, e154_3, e154_6, e154_7, e154_10, e154_13, e154_15, e154_16, e154_19, e154_20, e154_23, e154_24, e154_25, e154_26, e154_27, e154_28, e154_31, e154_34, e154_35, e154_36, e154_39, e154_40, e154_41, e154_44, e154_46, e154_49, e154_50, e154_51, e154_52, e154_55, e154_58, e154_60, e154_63, e154_64, e154_65, e154_66, e154_69, e154_72, e154_74, e154_77, e154_79, e154_82, e154_83, e154_86, e154_89, e154_90, e154_93, implies_true, Int.reduceSub, Option.isNone_some, Option.isNone_none, ab_bh_some, ab_bh_thr, ab_gs_3, ab_gl_2, ab_gl_3, ab_gt_some, ab_gc_0, ab_gk_0, Bool.false_eq_true, Bool.true_eq_false, false_implies, Nat.reduceEqDiff, ab_ge, ab_lt, ab_le, ab_gt, ab_eq, ab_ne, decide_eq_true_eq, ab_w_id, ab_w0, ab_gd_some, ab_gs_0, ab_gs_1, ab_gl_0, ab_gl_1, ab_bv_some, ab_bu_some, ab_bv_thr, ab_bu_thr, ab_fx_n, ab_fx_i, ab_fx_q, ab_fx_l, ab_sh_si, ab_gr_si, ab_gl_si, cs_n, ↓reduceIte, true_or, or_true, false_or, or_false, and_true, true_and, and_false, false_and, not_true_eq_false, not_false_eq_true, eq_self, Int.reduceEq, Int.reduceLT, Int.reduceLE, Int.reduceAdd, Int.reduceMul, Int.reduceNeg, if_pos, if_neg, hs, n104n i.1 m r1 r2 hn, n102_1 hs]
theorem n154 {dd : Nat} {s : Int} {g h : ab_H} {b : Nat} (i : ci g) (m : mm g h b) (hN : 31 ≤ ab_n h) (s1 : 0 ≤ s) (s2 : s < ab_gi g 1 1) : ∃ h' r, ab_E B (dd + 6) 154 0 [some (.inr (.inr (.inl (some 18)))), some (.inl s), none, none] [] h = some (.inl (some (.inr (.inr (.inl (some r))))), h') ∧ mm g h' b ∧ mE h h' 4 29 ∧ ab_gi h' 18 0 = 0 := by
  have hs := m.1.1.1
  have l18 := ab_sh_lt hs
  have hDS := i.1.2.1
  have m0 : mm g (mt h 0) b := mm_thr m
  have n0 : ab_n (mt h 0) = ab_n h := rfl
  obtain ⟨h1, a1, N1, B1⟩ := n154_loop (B := B) (dd := dd) (s := s) (D := ab_gi g 1 0) i.1 m0 rfl s1 s2 (Nat.le_refl _) (show ab_n (mt h 0) ≤ ab_n (mt h 0) + 1 by omega) (ab_gi g 1 0).toNat 0 (sb0 (mt h 0)) 2 20 (sb0_N (mt h 0)) (sb0_B (mt h 0)) (by omega) (by omega)
  obtain ⟨h2, a2, N2⟩ := j205 (B := B) (dd := dd) B1 (by omega) (by omega)
  have sc := B1.1.1
  have e202 := j202 (B := B) (dd := dd + 4) (h := mt h 0)
  have sn : (ab_sh (ab_new (mt h 0) 9 4))[ab_n h]? = some (9, 4) := ab_sh_new_at (mt h 0) 9 4
  have NN := N1.trans N2
  rw [n0] at a1 e202 a2 sc
  refine ⟨h2, ab_n h1, ?_, NN.mm m0, ⟨NN.1, fun c x hc => ⟨?_, (NN.2.1 c x (by omega)).2.1⟩, (NN.2.1 30 0 (by omega)).2.2, NN.2.2⟩, ((NN.2.1 18 0 (by omega)).1).trans (mt_t h 0)⟩
  · have pre : ab_E B (dd + 6) 154 0 [some (.inr (.inr (.inl (some 18)))), some (.inl s), none, none] [] h = ab_E B (dd + 6) 154 26 [some (.inr (.inr (.inl (some 18)))), some (.inl s), some (.inr (.inr (.inl (some (ab_n h))))), some (.inl 0)] [] (sb0 (mt h 0)) := by
      simp (disch := omega) only [e154_0, e154_1, e154_2, e154_3, e154_6, e154_7, e154_10, e154_13, e154_15, e154_16, e154_19, e154_20, e154_23, e154_24, e154_25, e154_27, e154_28, e154_31, e154_34, e154_35, e154_36, e154_39, e154_40, e154_41, e154_44, e154_46, e154_49, e154_50, e154_51, e154_52, e154_55, e154_58, e154_60, e154_63, e154_64, e154_65, e154_66, e154_69, e154_72, e154_74, e154_77, e154_79, e154_82, e154_83, e154_86, e154_90, e154_93, implies_true, Int.reduceSub, Option.isNone_some, Option.isNone_none, ab_bh_some, ab_bh_thr, ab_gs_3, ab_gl_2, ab_gl_3, ab_gt_some, ab_gc_0, ab_gk_0, Bool.false_eq_true, Bool.true_eq_false, false_implies, Nat.reduceEqDiff, ab_ge, ab_lt, ab_le, ab_gt, ab_eq, ab_ne, decide_eq_true_eq, ab_w_id, ab_w0, ab_gd_some, ab_gs_0, ab_gs_1, ab_gl_0, ab_gl_1, ab_bv_some, ab_bu_some, ab_bv_thr, ab_bu_thr, ab_fx_n, ab_fx_i, ab_fx_q, ab_fx_l, ab_sh_si, ab_gr_si, ab_gl_si, cs_n, ↓reduceIte, true_or, or_true, false_or, or_false, and_true, true_and, and_false, false_and, not_true_eq_false, not_false_eq_true, eq_self, Int.reduceEq, Int.reduceLT, Int.reduceLE, Int.reduceAdd, Int.reduceMul, Int.reduceNeg, if_pos, if_neg, hs, n104y i.1 m s1 s2, n102_0 hs, n0, sn, e202]
    rw [pre, a1, e154_89]
    simp (disch := omega) only [e154_0, e154_1, e154_2, e154_3, e154_6, e154_7, e154_10, e154_13, e154_15, e154_16, e154_19, e154_20, e154_23, e154_24, e154_25, e154_27, e154_28, e154_31, e154_34, e154_35, e154_36, e154_39, e154_40, e154_41, e154_44, e154_46, e154_49, e154_50, e154_51, e154_52, e154_55, e154_58, e154_60, e154_63, e154_64, e154_65, e154_66, e154_69, e154_72, e154_74, e154_77, e154_79, e154_82, e154_83, e154_86, e154_90, e154_93, implies_true, Int.reduceSub, Option.isNone_some, Option.isNone_none, ab_bh_some, ab_bh_thr, ab_gs_3, ab_gl_2, ab_gl_3, ab_gt_some, ab_gc_0, ab_gk_0, Bool.false_eq_true, Bool.true_eq_false, false_implies, Nat.reduceEqDiff, ab_ge, ab_lt, ab_le, ab_gt, ab_eq, ab_ne, decide_eq_true_eq, ab_w_id, ab_w0, ab_gd_some, ab_gs_0, ab_gs_1, ab_gl_0, ab_gl_1, ab_bv_some, ab_bu_some, ab_bv_thr, ab_bu_thr, ab_fx_n, ab_fx_i, ab_fx_q, ab_fx_l, ab_sh_si, ab_gr_si, ab_gl_si, cs_n, ↓reduceIte, true_or, or_true, false_or, or_false, and_true, true_and, and_false, false_and, not_true_eq_false, not_false_eq_true, eq_self, Int.reduceEq, Int.reduceLT, Int.reduceLE, Int.reduceAdd, Int.reduceMul, Int.reduceNeg, if_pos, if_neg, sc, a2]
  · rw [(NN.2.1 c x (by omega)).1]
    unfold mt
    rw [ab_gi_si, if_neg (by omega)]
end
