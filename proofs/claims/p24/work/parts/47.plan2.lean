set_option linter.all false
/-! THE REFERENCE'S PLAN: the search -/
section
variable {B : ab_B}
theorem n135_loop {dd : Nat} {n : Nat} {D : Int} {h : ab_H} (hD5 : D ≤ 5) (hs : (ab_sh h)[n]? = some (0, D.toNat)) : ∀ (k : Nat) (i : Int) (h1 : ab_H), ab_sh h1 = ab_sh h → (∀ c x, ab_gi h1 c x = if c = n ∧ 0 ≤ x ∧ x < i then -1 else ab_gi h c x) → h1.2 = h.2 → 0 ≤ i → i + k = D →
    ∃ h', ab_E B dd 135 6 [some (.inl D), some (.inr (.inr (.inl (some n)))), some (.inl i)] [] h1 = some (.inl (some (.inr (.inr (.inl (some n))))), h') ∧ h'.2 = h.2 ∧ ∀ c x, ab_gi h' c x = if c = n ∧ 0 ≤ x ∧ x < D then -1 else ab_gi h c x
  | 0, i, h1, e1, e2, e3, q1, q2 => by
    have e : i = D := by omega
    subst e
    refine ⟨h1, ?_, e3, e2⟩
    rw [e135_6]
    simp (disch := omega) only [e135_0, e135_1, e135_3, e135_4, e135_5, e135_7, e135_8, e135_11, e135_12, e135_13, e135_14, e135_15, e135_18, e135_21, e135_22, implies_true, Int.reduceSub, Option.isNone_some, Option.isNone_none, ab_bh_some, ab_bh_thr, ab_gs_3, ab_gl_2, ab_gl_3, ab_gt_some, ab_gc_0, ab_gk_0, Bool.false_eq_true, Bool.true_eq_false, false_implies, Nat.reduceEqDiff, ab_ge, ab_lt, ab_le, ab_gt, ab_eq, ab_ne, decide_eq_true_eq, ab_w_id, ab_w0, ab_gd_some, ab_gs_0, ab_gs_1, ab_gl_0, ab_gl_1, ab_bv_some, ab_bu_some, ab_bv_thr, ab_bu_thr, ab_fx_n, ab_fx_i, ab_fx_q, ab_fx_l, ab_sh_si, ab_gr_si, ab_gl_si, cs_n, ↓reduceIte, true_or, or_true, false_or, or_false, and_true, true_and, and_false, false_and, not_true_eq_false, not_false_eq_true, eq_self, Int.reduceEq, Int.reduceLT, Int.reduceLE, Int.reduceAdd, Int.reduceMul, Int.reduceNeg, if_pos, if_neg]
  | k + 1, i, h1, e1, e2, e3, q1, q2 => by
    obtain ⟨h', a, r⟩ := n135_loop (dd := dd) hD5 hs k (i + 1) (ab_si h1 n i (-1)) e1 (fun c x => by
      rw [ab_gi_si, e2]
      by_cases c1 : c = n
      · subst c1
        by_cases c2 : x = i
        · rw [if_pos ⟨rfl, c2⟩, if_pos ⟨rfl, by omega⟩]
        · rw [if_neg (fun q => c2 q.2)]
          by_cases c3 : 0 ≤ x ∧ x < i
          · rw [if_pos ⟨rfl, c3⟩, if_pos ⟨rfl, by omega⟩]
          · rw [if_neg (fun q => c3 q.2), if_neg (fun q => by omega)]
      · rw [if_neg (fun q => c1 q.1), if_neg (fun q => c1 q.1), if_neg (fun q => c1 q.1)]) e3 (by omega) (by omega)
    have hs1 : (ab_sh h1)[n]? = some (0, D.toNat) := by rw [e1]; exact hs
    refine ⟨h', ?_, r⟩
    rw [← a, e135_6]
    simp (disch := omega) only [e135_0, e135_1, e135_3, e135_4, e135_5, e135_7, e135_8, e135_11, e135_12, e135_13, e135_14, e135_15, e135_18, e135_21, e135_22, implies_true, Int.reduceSub, Option.isNone_some, Option.isNone_none, ab_bh_some, ab_bh_thr, ab_gs_3, ab_gl_2, ab_gl_3, ab_gt_some, ab_gc_0, ab_gk_0, Bool.false_eq_true, Bool.true_eq_false, false_implies, Nat.reduceEqDiff, ab_ge, ab_lt, ab_le, ab_gt, ab_eq, ab_ne, decide_eq_true_eq, ab_w_id, ab_w0, ab_gd_some, ab_gs_0, ab_gs_1, ab_gl_0, ab_gl_1, ab_bv_some, ab_bu_some, ab_bv_thr, ab_bu_thr, ab_fx_n, ab_fx_i, ab_fx_q, ab_fx_l, ab_sh_si, ab_gr_si, ab_gl_si, cs_n, ↓reduceIte, true_or, or_true, false_or, or_false, and_true, true_and, and_false, false_and, not_true_eq_false, not_false_eq_true, eq_self, Int.reduceEq, Int.reduceLT, Int.reduceLE, Int.reduceAdd, Int.reduceMul, Int.reduceNeg, if_pos, if_neg, hs1]
theorem n135 {dd : Nat} {D : Int} {h : ab_H} (hD : 0 ≤ D) (hD5 : D ≤ 5) :
    ∃ h', ab_E B dd 135 0 [some (.inl D), none, none] [] h = some (.inl (some (.inr (.inr (.inl (some (ab_n h)))))), h') ∧ h'.2 = (ab_new h 0 D.toNat).2 ∧ ∀ c x, ab_gi h' c x = if c = ab_n h ∧ 0 ≤ x ∧ x < D then -1 else ab_gi (ab_new h 0 D.toNat) c x := by
  obtain ⟨h', a, r⟩ := n135_loop (B := B) (dd := dd) hD5 (ab_sh_new_at h 0 D.toNat) D.toNat 0 (ab_new h 0 D.toNat) rfl (fun c x => by rw [if_neg (fun q => by omega)]) rfl (by omega) (by omega)
  refine ⟨h', ?_, r⟩
  rw [← a]
  simp (disch := omega) only [e135_0, e135_1, e135_3, e135_4, e135_5, e135_7, e135_8, e135_11, e135_12, e135_13, e135_14, e135_15, e135_18, e135_21, e135_22, implies_true, Int.reduceSub, Option.isNone_some, Option.isNone_none, ab_bh_some, ab_bh_thr, ab_gs_3, ab_gl_2, ab_gl_3, ab_gt_some, ab_gc_0, ab_gk_0, Bool.false_eq_true, Bool.true_eq_false, false_implies, Nat.reduceEqDiff, ab_ge, ab_lt, ab_le, ab_gt, ab_eq, ab_ne, decide_eq_true_eq, ab_w_id, ab_w0, ab_gd_some, ab_gs_0, ab_gs_1, ab_gl_0, ab_gl_1, ab_bv_some, ab_bu_some, ab_bv_thr, ab_bu_thr, ab_fx_n, ab_fx_i, ab_fx_q, ab_fx_l, ab_sh_si, ab_gr_si, ab_gl_si, cs_n, ↓reduceIte, true_or, or_true, false_or, or_false, and_true, true_and, and_false, false_and, not_true_eq_false, not_false_eq_true, eq_self, Int.reduceEq, Int.reduceLT, Int.reduceLE, Int.reduceAdd, Int.reduceMul, Int.reduceNeg, if_pos, if_neg]
/-- how many orders -/
def pT : Nat → Nat
  | 0 => 1
  | n + 1 => (n + 1) * pT n
theorem pT_s (n : Nat) : pT (n + 1) = (n + 1) * pT n := rfl
/-- who is free -/
def pF (st : Int → Int) : Int → Nat → Nat
  | _, 0 => 0
  | i, k + 1 => (if st i = -1 then 1 else 0) + pF st (i + 1) k
theorem pF_sf (st : Int → Int) : ∀ (k : Nat) (i : Int), (pF st i k : Int) + cs_sf (fun x => if st x = -1 then 0 else 1) i k = k
  | 0, _ => rfl
  | k + 1, i => by
    have := pF_sf st k (i + 1)
    unfold pF cs_sf
    by_cases c : st i = -1
    · rw [if_pos c, if_pos c]; omega
    · rw [if_neg c, if_neg c]; omega
/-- the search's rows -/
def qI (h : ab_H) (b : Nat) (K : pk_K) (D S : Int) (sa so : Nat) (st po : Int → Int) (pl : Int) : Prop := (mL h b D S ∧ mKK h = K ∧ ab_gi h 18 1 = D) ∧ ((b + 4 + 2 * D.toNat < sa ∧ 31 ≤ sa) ∧ (b + 4 + 2 * D.toNat < so ∧ 31 ≤ so) ∧ sa ≠ so) ∧ ((ab_sh h)[sa]? = some (0, D.toNat) ∧ (ab_sh h)[so]? = some (0, D.toNat)) ∧ (∀ d, 0 ≤ d → d < D → ab_gi h sa d = st d) ∧ (∀ d, 0 ≤ d → d < D → st d ≠ -1 → ab_gi h so (po d) = d) ∧ ∀ k, 0 ≤ k → k < pl → (0 ≤ ab_gi h so k ∧ ab_gi h so k < D ∧ po (ab_gi h so k) = k) ∧ st (ab_gi h so k) ≠ -1
theorem qI.move {h h' : ab_H} {b : Nat} {K : pk_K} {D S : Int} {sa so N k s : Nat} {st po st' po' : Int → Int} {pl pl' : Int} (q : qI h b K D S sa so st po pl) (f : qF N sa so h h' k s) (hN : ab_n h ≤ N) (c1 : ∀ d, 0 ≤ d → d < D → ab_gi h' sa d = st' d) (c2 : ∀ d, 0 ≤ d → d < D → st' d ≠ -1 → ab_gi h' so (po' d) = d) (c3 : ∀ k, 0 ≤ k → k < pl' → (0 ≤ ab_gi h' so k ∧ ab_gi h' so k < D ∧ po' (ab_gi h' so k) = k) ∧ st' (ab_gi h' so k) ≠ -1) : qI h' b K D S sa so st' po' pl' := by
  obtain ⟨⟨m1, m2, m3⟩, m4, ⟨m5, m6⟩, -, -, -⟩ := q
  have hb : 19 ≤ b := by have := m1.2.2.2.2; omega
  have l18 := ab_sh_lt m1.1.1
  have gi : ∀ c x, c < N → c < 31 → ab_gi h' c x = ab_gi h c x := fun c x h1 h2 => f.2.1 c x h1 (by omega) (by omega)
  refine ⟨⟨mL_of m1 f.sh (fun c x _ h2 _ => f.2.2.1 c x (by omega)), ?_, (gi 18 1 (by omega) (by omega)).trans m3⟩, m4, ⟨f.sh _ _ m5, f.sh _ _ m6⟩, c1, c2, c3⟩
  rw [← m2]
  refine mKK_of (fun c x h1 h2 => gi c x ?_ (by omega)) (gi 18 19 (by omega) (by omega)) (gi 18 20 (by omega) (by omega))
  have := (m1.2.2.2.1 ((c : Int) - 25) (by omega) (by omega)).2
  rw [show 25 + ((c : Int) - 25).toNat = c from by omega] at this
  have := ab_sh_lt this
  omega
def mP136 (B : ab_B) (K : pk_K) (D S : Int) (e n : Nat) : Prop := ∀ (h : ab_H) (b : Nat) (st po : Int → Int) (pl fr : Int) (sa so : Nat), qI h b K D S sa so st po pl → pk_I K D st po pl fr → 0 ≤ pl → pl + n = D →
  ∃ h' r, ab_E B (e + n + 2) 136 0 [some (.inr (.inr (.inl (some 18)))), some (.inr (.inr (.inl (some sa)))), some (.inr (.inr (.inl (some so)))), some (.inl pl), some (.inl fr), none, none, none, none] [] h = some (.inl (some (.inr (.inr (.inl r)))), h') ∧ qF (ab_n h) sa so h h' (3 * pT n) ((2 + 2 * D.toNat) * pT n) ∧ qX h' (ab_n h) D r (pk_pl K D n st po pl fr) ∧ (∀ d, 0 ≤ d → d < D → ab_gi h' sa d = st d) ∧ ∀ k, k < pl → ab_gi h' so k = ab_gi h so k
theorem n136_0 {e : Nat} {K : pk_K} {D S : Int} (hD : 3 ≤ D) (hD5 : D ≤ 5) : mP136 B K D S e 0 := by
  intro h b st po pl fr sa so q hI p0 p1
  obtain ⟨⟨m1, m2, m3⟩, ⟨⟨a1, a2⟩, ⟨a3, a4⟩, a5⟩, ⟨s1, s2⟩, c1, c2, c3⟩ := q
  have ep : pl = D := by omega
  subst ep
  obtain ⟨i1, i2, i3, i4⟩ := hI
  have hf := cs_sf_full pl.toNat 0 (f := fun x => if st x = -1 then 0 else 1) (fun j q1 q2 => by split <;> omega) (by omega)
  have hst : ∀ x, 0 ≤ x → x < pl → st x ≠ -1 := fun x q1 q2 c => by
    have h1 := hf x q1 (by omega)
    simp only [if_pos c] at h1; omega
  have l18 := ab_sh_lt m1.1.1
  have la := ab_sh_lt s1
  have lo := ab_sh_lt s2
  have n1 : ab_n (ab_new h 2 2) = ab_n h + 1 := ab_new_n h 2 2
  have n2 : ab_n (ab_new (ab_new h 2 2) 0 pl.toNat) = ab_n h + 2 := by rw [ab_new_n, n1]
  have x1 : (ab_sh (ab_new h 2 2))[sa]? = some (0, pl.toNat) := ab_sh_new_lt s1
  have x2 : (ab_sh (ab_new (ab_new h 2 2) 0 pl.toNat))[ab_n h]? = some (2, 2) := ab_sh_new_lt (ab_sh_new_at h 2 2)
  have x3 : (ab_sh (ab_new (ab_new h 2 2) 0 pl.toNat))[ab_n h + 1]? = some (0, pl.toNat) := by have := ab_sh_new_at (ab_new h 2 2) 0 pl.toNat; rwa [n1] at this
  have x4 : (ab_sh (ab_new (ab_new h 2 2) 0 pl.toNat))[so]? = some (0, pl.toNat) := ab_sh_new_lt (ab_sh_new_lt s2)
  obtain ⟨h3, e3⟩ : ∃ h3, h3 = ab_sr (ab_fil (ab_new (ab_new h 2 2) 0 pl.toNat) (ab_n h + 1) (ab_gi (ab_new h 2 2) sa)) (ab_n h) 0 (some (ab_n h + 1)) := ⟨_, rfl⟩
  have sh3 : ab_sh h3 = ab_sh (ab_new (ab_new h 2 2) 0 pl.toNat) := by rw [e3]; rfl
  have n3 : ab_n h3 = ab_n h + 2 := by rw [e3]; exact n2
  have x5 : (ab_sh (ab_new h3 0 pl.toNat))[ab_n h]? = some (2, 2) := ab_sh_new_lt (by rw [sh3]; exact x2)
  have x6 : (ab_sh (ab_new h3 0 pl.toNat))[ab_n h + 1]? = some (0, pl.toNat) := ab_sh_new_lt (by rw [sh3]; exact x3)
  have x7 : (ab_sh (ab_new h3 0 pl.toNat))[ab_n h + 2]? = some (0, pl.toNat) := by have := ab_sh_new_at h3 0 pl.toNat; rwa [n3] at this
  have x8 : (ab_sh h3)[so]? = some (0, pl.toNat) := by rw [sh3]; exact x4
  obtain ⟨h5, e5⟩ : ∃ h5, h5 = ab_sr (ab_fil (ab_new h3 0 pl.toNat) (ab_n h + 2) (ab_gi h3 so)) (ab_n h) 1 (some (ab_n h + 2)) := ⟨_, rfl⟩
  have sh5 : ab_sh h5 = ab_sh (ab_new h3 0 pl.toNat) := by rw [e5]; rfl
  have gi3 : ∀ c x, c < ab_n h → ab_gi h3 c x = ab_gi h c x := fun c x q => by
    rw [e3, ab_gi_sr, ab_gi_fil, if_neg (by omega), ab_gi_new, if_neg (by omega), ab_gi_new, if_neg (by omega)]
  have gi3' : ∀ x, ab_gi h3 (ab_n h + 1) x = ab_gi h sa x := fun x => by
    rw [e3, ab_gi_sr, ab_gi_fil, if_pos rfl, ab_gi_new, if_neg (by omega)]
  have gi5 : ∀ c x, c < ab_n h + 2 → ab_gi h5 c x = ab_gi h3 c x := fun c x q => by
    rw [e5, ab_gi_sr, ab_gi_fil, if_neg (by omega), ab_gi_new, if_neg (by omega)]
  have gi5' : ∀ x, ab_gi h5 (ab_n h + 2) x = ab_gi h so x := fun x => by
    rw [e5, ab_gi_sr, ab_gi_fil, if_pos rfl]; exact gi3 so x lo
  have gr5 : ∀ c x, c < ab_n h → ab_gr h5 c x = ab_gr h c x := fun c x q => by
    rw [e5, ab_gr_sr, if_neg (by omega), ab_gr_fil, ab_gr_new, if_neg (by omega), e3, ab_gr_sr, if_neg (by omega), ab_gr_fil, ab_gr_new, if_neg (by omega), ab_gr_new, if_neg (by omega)]
  have r51 : ab_gr h5 (ab_n h) 1 = some (ab_n h + 2) := by rw [e5, ab_gr_sr, if_pos ⟨rfl, rfl⟩]
  have r50 : ab_gr h5 (ab_n h) 0 = some (ab_n h + 1) := by
    rw [e5, ab_gr_sr, if_neg (by omega), ab_gr_fil, ab_gr_new, if_neg (by omega), e3, ab_gr_sr, if_pos ⟨rfl, rfl⟩]
  have kc5 : ab_kc h5 = ab_kc h + 3 := by
    rw [e5, ab_kc_sr, ab_kc_fil, ab_kc_new, e3, ab_kc_sr, ab_kc_fil, ab_kc_new, ab_kc_new]
  have ks5 : ab_ks h5 = ab_ks h + 2 + pl.toNat + pl.toNat := by
    rw [e5, ab_ks_sr, ab_ks_fil, ab_ks_new, e3, ab_ks_sr, ab_ks_fil, ab_ks_new, ab_ks_new]
  have gl5 : ab_gl h5 30 0 = ab_gl h 30 0 := by
    rw [e5, ab_gl_sr, ab_gl_fil, ab_gl_new, if_neg (by omega), e3, ab_gl_sr, ab_gl_fil, ab_gl_new, if_neg (by omega), ab_gl_new, if_neg (by omega)]
  refine ⟨h5, some (ab_n h), ?_, ⟨⟨[(2, 2), (0, pl.toNat), (0, pl.toNat)], by rw [sh5, ab_sh_new, sh3, ab_sh_new, ab_sh_new]; simp⟩, fun c x h1 _ _ => (gi5 c x (by omega)).trans (gi3 c x h1), gr5, gl5, by rw [kc5]; unfold pT; omega, by rw [ks5]; unfold pT; omega⟩, ⟨ab_n h, ab_n h + 1, ab_n h + 2, rfl, ⟨by omega, by omega, by omega⟩, ⟨by rw [sh5]; exact x5, by rw [sh5]; exact x6, by rw [sh5]; exact x7⟩, ⟨r50, r51⟩, fun d d1 d2 => ?_, fun k k1 k2 => ?_⟩, fun d d1 d2 => ?_, fun k _ => ?_⟩
  · rw [e5, e3]
    rw [e3] at x5 x6 x7 x8 n3
    simp (disch := omega) only [e136_0, e136_1, e136_2, e136_5, e136_8, e136_9, e136_12, e136_13, e136_14, e136_15, e136_18, e136_21, e136_22, e136_23, e136_24, e136_25, e136_28, e136_31, e136_32, e136_33, e136_34, e136_36, e136_37, e136_41, e136_42, e136_45, e136_48, e136_49, e136_51, e136_52, e136_53, e136_56, e136_59, e136_61, e136_63, e136_64, e136_66, e136_68, e136_71, e136_73, e136_76, e136_77, e136_78, e136_81, e136_84, e136_87, e136_88, e136_90, e136_92, e136_93, e136_97, e136_98, e136_100, e136_101, e136_103, e136_105, e136_108, e136_109, e136_112, e136_113, e136_114, e136_115, e136_116, e136_117, e136_118, e136_120, e136_123, e136_125, e136_126, e136_128, e136_129, e136_130, e136_132, e136_135, e136_137, e136_140, e136_141, e136_143, e136_144, e136_145, e136_148, e136_149, e136_151, e136_152, e136_153, e136_156, e136_159, e136_161, e136_163, e136_166, e136_169, e136_171, implies_true, Int.reduceSub, Option.isNone_some, Option.isNone_none, ab_bh_some, ab_bh_thr, ab_gs_3, ab_gl_2, ab_gl_3, ab_gt_some, ab_gc_0, ab_gk_0, Bool.false_eq_true, Bool.true_eq_false, false_implies, Nat.reduceEqDiff, ab_ge, ab_lt, ab_le, ab_gt, ab_eq, ab_ne, decide_eq_true_eq, ab_w_id, ab_w0, ab_gd_some, ab_gs_0, ab_gs_1, ab_gl_0, ab_gl_1, ab_bv_some, ab_bu_some, ab_bv_thr, ab_bu_thr, ab_fx_n, ab_fx_i, ab_fx_q, ab_fx_l, ab_sh_si, ab_gr_si, ab_gl_si, cs_n, ↓reduceIte, true_or, or_true, false_or, or_false, and_true, true_and, and_false, false_and, not_true_eq_false, not_false_eq_true, eq_self, Int.reduceEq, Int.reduceLT, Int.reduceLE, Int.reduceAdd, Int.reduceMul, Int.reduceNeg, if_pos, if_neg, Int.reduceToNat, m1.1, m3, x1, x2, x3, x4, n1, ab_sh_fil, ab_sh_sr, n3, x5, x6, x7]
  · rw [gi5 _ _ (by omega), gi3', gi5']; exact ⟨c1 d d1 d2, c2 d d1 d2 (hst d d1 d2)⟩
  · rw [gi5']; exact (c3 k k1 k2).1
  · rw [gi5 _ _ (by omega), gi3 _ _ la]; exact c1 d d1 d2
  · rw [gi5 _ _ (by omega), gi3 _ _ lo]
theorem n136_ls {dd : Nat} {K : pk_K} {D S : Int} {h : ab_H} {b sa so : Nat} {st po : Int → Int} {pl fr d : Int} {q5 : Option Nat ⊕ Nat} {o8 : Option ab_V} (q : qI h b K D S sa so st po pl) (hK : pk_ok K) (hD : 3 ≤ D) (hD5 : D ≤ 5) (hst : ∀ x, 0 ≤ x → x < D → -1 ≤ st x ∧ st x ≤ 60) (d1 : 0 ≤ d) (d2 : d < D) : ∀ (k : Nat) (u : Int), 0 ≤ u → u + k = 61 →
    ∃ u', ab_E B (dd + 2) 136 69 [some (.inr (.inr (.inl (some 18)))), some (.inr (.inr (.inl (some sa)))), some (.inr (.inr (.inl (some so)))), some (.inl pl), some (.inl fr), some (.inr (.inr q5)), some (.inl d), some (.inl u), o8] [] (ab_si h sa d u) = ab_E B (dd + 2) 136 96 [some (.inr (.inr (.inl (some 18)))), some (.inr (.inr (.inl (some sa)))), some (.inr (.inr (.inl (some so)))), some (.inl pl), some (.inl fr), some (.inr (.inr q5)), some (.inl d), some (.inl u'), o8] [] (ab_si h sa d u') ∧ ((pk_ls K D st d k u = some u' ∧ 0 ≤ u' ∧ u' ≤ 60) ∨ (pk_ls K D st d k u = none ∧ u' = 61))
  | 0, u, u0, u1 => by
    refine ⟨u, ?_, Or.inr ⟨rfl, by omega⟩⟩
    rw [e136_69]
    simp (disch := omega) only [e136_0, e136_1, e136_2, e136_5, e136_8, e136_9, e136_12, e136_13, e136_14, e136_15, e136_18, e136_21, e136_22, e136_23, e136_24, e136_25, e136_28, e136_31, e136_32, e136_33, e136_34, e136_36, e136_37, e136_41, e136_42, e136_45, e136_48, e136_49, e136_51, e136_52, e136_53, e136_56, e136_59, e136_61, e136_63, e136_64, e136_66, e136_68, e136_71, e136_73, e136_76, e136_77, e136_78, e136_81, e136_84, e136_87, e136_88, e136_90, e136_92, e136_93, e136_97, e136_98, e136_100, e136_101, e136_103, e136_105, e136_108, e136_109, e136_112, e136_113, e136_114, e136_115, e136_116, e136_117, e136_118, e136_120, e136_123, e136_125, e136_126, e136_128, e136_129, e136_130, e136_132, e136_135, e136_137, e136_140, e136_141, e136_143, e136_144, e136_145, e136_148, e136_149, e136_151, e136_152, e136_153, e136_156, e136_159, e136_161, e136_163, e136_166, e136_169, e136_171, implies_true, Int.reduceSub, Option.isNone_some, Option.isNone_none, ab_bh_some, ab_bh_thr, ab_gs_3, ab_gl_2, ab_gl_3, ab_gt_some, ab_gc_0, ab_gk_0, Bool.false_eq_true, Bool.true_eq_false, false_implies, Nat.reduceEqDiff, ab_ge, ab_lt, ab_le, ab_gt, ab_eq, ab_ne, decide_eq_true_eq, ab_w_id, ab_w0, ab_gd_some, ab_gs_0, ab_gs_1, ab_gl_0, ab_gl_1, ab_bv_some, ab_bu_some, ab_bv_thr, ab_bu_thr, ab_fx_n, ab_fx_i, ab_fx_q, ab_fx_l, ab_sh_si, ab_gr_si, ab_gl_si, cs_n, ↓reduceIte, true_or, or_true, false_or, or_false, and_true, true_and, and_false, false_and, not_true_eq_false, not_false_eq_true, eq_self, Int.reduceEq, Int.reduceLT, Int.reduceLE, Int.reduceAdd, Int.reduceMul, Int.reduceNeg, if_pos, if_neg]
  | k + 1, u, u0, u1 => by
    obtain ⟨⟨m1, m2, m3⟩, ⟨⟨a1, a2⟩, ⟨a3, a4⟩, a5⟩, ⟨s1, s2⟩, c1, c2, c3⟩ := q
    have m1' : mL (ab_si h sa d u) b D S := m1
    have eK : mKK (ab_si h sa d u) = K := (mKK_of (h' := ab_si h sa d u) (h := h) (fun c x h1 h2 => by rw [ab_gi_si, if_neg (by omega)]) (by rw [ab_gi_si, if_neg (by omega)]) (by rw [ab_gi_si, if_neg (by omega)])).trans m2
    have e1 : ab_gi (ab_si h sa d u) 18 1 = D := by rw [ab_gi_si, if_neg (by omega)]; exact m3
    have hS : mS (ab_si h sa d u) sa D (pk_up st d u) := ⟨s1, fun x x1 x2 => by
      rw [ab_gi_si]
      by_cases z : x = d
      · subst z; rw [if_pos ⟨rfl, rfl⟩, pk_up_s]; omega
      · rw [if_neg (fun y => z y.2), pk_up_n z, c1 x x1 x2]
        have := hst x x1 x2
        omega⟩
    have e33 := n133 (B := B) (dd := dd) m1' (by rw [eK]; exact hK) e1 (by omega) hD5 hS
    rw [eK] at e33
    unfold pk_ls
    by_cases c : pk_trips K D (pk_up st d u) = true
    · rw [if_pos c] at e33 ⊢
      obtain ⟨u', a, r⟩ := n136_ls (dd := dd) (q5 := q5) (o8 := o8) (fr := fr) (S := S) (b := b) (h := h) (sa := sa) (so := so) (po := po) (pl := pl) ⟨⟨m1, m2, m3⟩, ⟨⟨a1, a2⟩, ⟨a3, a4⟩, a5⟩, ⟨s1, s2⟩, c1, c2, c3⟩ hK hD hD5 hst d1 d2 k (u + 1) (by omega) (by omega)
      refine ⟨u', ?_, r⟩
      rw [← a, e136_69]
      simp (disch := omega) only [e136_0, e136_1, e136_2, e136_5, e136_8, e136_9, e136_12, e136_13, e136_14, e136_15, e136_18, e136_21, e136_22, e136_23, e136_24, e136_25, e136_28, e136_31, e136_32, e136_33, e136_34, e136_36, e136_37, e136_41, e136_42, e136_45, e136_48, e136_49, e136_51, e136_52, e136_53, e136_56, e136_59, e136_61, e136_63, e136_64, e136_66, e136_68, e136_71, e136_73, e136_76, e136_77, e136_78, e136_81, e136_84, e136_87, e136_88, e136_90, e136_92, e136_93, e136_97, e136_98, e136_100, e136_101, e136_103, e136_105, e136_108, e136_109, e136_112, e136_113, e136_114, e136_115, e136_116, e136_117, e136_118, e136_120, e136_123, e136_125, e136_126, e136_128, e136_129, e136_130, e136_132, e136_135, e136_137, e136_140, e136_141, e136_143, e136_144, e136_145, e136_148, e136_149, e136_151, e136_152, e136_153, e136_156, e136_159, e136_161, e136_163, e136_166, e136_169, e136_171, implies_true, Int.reduceSub, Option.isNone_some, Option.isNone_none, ab_bh_some, ab_bh_thr, ab_gs_3, ab_gl_2, ab_gl_3, ab_gt_some, ab_gc_0, ab_gk_0, Bool.false_eq_true, Bool.true_eq_false, false_implies, Nat.reduceEqDiff, ab_ge, ab_lt, ab_le, ab_gt, ab_eq, ab_ne, decide_eq_true_eq, ab_w_id, ab_w0, ab_gd_some, ab_gs_0, ab_gs_1, ab_gl_0, ab_gl_1, ab_bv_some, ab_bu_some, ab_bv_thr, ab_bu_thr, ab_fx_n, ab_fx_i, ab_fx_q, ab_fx_l, ab_sh_si, ab_gr_si, ab_gl_si, cs_n, ↓reduceIte, true_or, or_true, false_or, or_false, and_true, true_and, and_false, false_and, not_true_eq_false, not_false_eq_true, eq_self, Int.reduceEq, Int.reduceLT, Int.reduceLE, Int.reduceAdd, Int.reduceMul, Int.reduceNeg, if_pos, if_neg, m1.1, e33, s1, ab_si_si]
    · rw [if_neg c] at e33 ⊢
      refine ⟨u, ?_, Or.inl ⟨rfl, by omega, by omega⟩⟩
      rw [e136_69]
      simp (disch := omega) only [e136_0, e136_1, e136_2, e136_5, e136_8, e136_9, e136_12, e136_13, e136_14, e136_15, e136_18, e136_21, e136_22, e136_23, e136_24, e136_25, e136_28, e136_31, e136_32, e136_33, e136_34, e136_36, e136_37, e136_41, e136_42, e136_45, e136_48, e136_49, e136_51, e136_52, e136_53, e136_56, e136_59, e136_61, e136_63, e136_64, e136_66, e136_68, e136_71, e136_73, e136_76, e136_77, e136_78, e136_81, e136_84, e136_87, e136_88, e136_90, e136_92, e136_93, e136_97, e136_98, e136_100, e136_101, e136_103, e136_105, e136_108, e136_109, e136_112, e136_113, e136_114, e136_115, e136_116, e136_117, e136_118, e136_120, e136_123, e136_125, e136_126, e136_128, e136_129, e136_130, e136_132, e136_135, e136_137, e136_140, e136_141, e136_143, e136_144, e136_145, e136_148, e136_149, e136_151, e136_152, e136_153, e136_156, e136_159, e136_161, e136_163, e136_166, e136_169, e136_171, implies_true, Int.reduceSub, Option.isNone_some, Option.isNone_none, ab_bh_some, ab_bh_thr, ab_gs_3, ab_gl_2, ab_gl_3, ab_gt_some, ab_gc_0, ab_gk_0, Bool.false_eq_true, Bool.true_eq_false, false_implies, Nat.reduceEqDiff, ab_ge, ab_lt, ab_le, ab_gt, ab_eq, ab_ne, decide_eq_true_eq, ab_w_id, ab_w0, ab_gd_some, ab_gs_0, ab_gs_1, ab_gl_0, ab_gl_1, ab_bv_some, ab_bu_some, ab_bv_thr, ab_bu_thr, ab_fx_n, ab_fx_i, ab_fx_q, ab_fx_l, ab_sh_si, ab_gr_si, ab_gl_si, cs_n, ↓reduceIte, true_or, or_true, false_or, or_false, and_true, true_and, and_false, false_and, not_true_eq_false, not_false_eq_true, eq_self, Int.reduceEq, Int.reduceLT, Int.reduceLE, Int.reduceAdd, Int.reduceMul, Int.reduceNeg, if_pos, if_neg, m1.1, e33]
theorem pk_x_n {K : pk_K} {D : Int} {n : Nat} {st po : Int → Int} {pl fr d : Int} (h : st d ≠ -1) : pk_x K D n st po pl fr d = none := if_pos h
theorem pk_x_f {K : pk_K} {D : Int} {n : Nat} {st po : Int → Int} {pl fr d : Int} (h : st d = -1) (hl : pk_ls K D st d (61 - fr).toNat fr = none) : pk_x K D n st po pl fr d = none := by
  unfold pk_x; rw [if_neg (fun q => q h), hl]
theorem pk_x_s {K : pk_K} {D : Int} {n : Nat} {st po : Int → Int} {pl fr d u : Int} (h : st d = -1) (hl : pk_ls K D st d (61 - fr).toNat fr = some u) : pk_x K D n st po pl fr d = pk_pl K D n (pk_up st d u) (pk_up po d pl) (pl + 1) u := by
  unfold pk_x; rw [if_neg (fun q => q h), hl]
/-- what can be compared -/
def qR (D : Int) (c : pk_X) : Prop := ∀ y, c = some y → ∀ x, 0 ≤ x → x < D → 0 ≤ y.1 x ∧ y.1 x ≤ 60
theorem n136_step {e n : Nat} {K : pk_K} {D S : Int} (hrec : mP136 B K D S e n) (hD : 3 ≤ D) (hD5 : D ≤ 5) (hK : pk_ok K) {b sa so N0 : Nat} {st po : Int → Int} {pl fr i : Int} {h : ab_H} {r : Option Nat} {c : pk_X} {o7 o8 : Option ab_V} (hI : pk_I K D st po pl fr) (p0 : 0 ≤ pl) (p1 : pl + n + 1 = D) (ha : sa < N0) (ho : so < N0) (q : qI h b K D S sa so st po pl) (hN : N0 ≤ ab_n h) (X : qX h N0 D r c) (R : qR D c) (i0 : 0 ≤ i) (i1 : i < D) :
    ∃ h' r' o7' o8', ab_E B (e + n + 3) 136 39 [some (.inr (.inr (.inl (some 18)))), some (.inr (.inr (.inl (some sa)))), some (.inr (.inr (.inl (some so)))), some (.inl pl), some (.inl fr), some (.inr (.inr (.inl r))), some (.inl i), o7, o8] [] h = ab_E B (e + n + 3) 136 163 [some (.inr (.inr (.inl (some 18)))), some (.inr (.inr (.inl (some sa)))), some (.inr (.inr (.inl (some so)))), some (.inl pl), some (.inl fr), some (.inr (.inr (.inl r'))), some (.inl i), o7', o8'] [] h' ∧ qI h' b K D S sa so st po pl ∧ qF (ab_n h) sa so h h' (3 * pT n * (if st i = -1 then 1 else 0)) ((2 + 2 * D.toNat) * pT n * (if st i = -1 then 1 else 0)) ∧ qX h' N0 D r' (pk_mg K D c (pk_x K D n st po pl fr i)) ∧ qR D (pk_mg K D c (pk_x K D n st po pl fr i)) ∧ ∀ k, k < pl → ab_gi h' so k = ab_gi h so k := by
  have q0 := q
  obtain ⟨⟨m1, m2, m3⟩, ⟨⟨a1, a2⟩, ⟨a3, a4⟩, a5⟩, ⟨s1, s2⟩, c1, c2, c3⟩ := q
  obtain ⟨I1, I2, I3, I4⟩ := hI
  have hst : ∀ x, 0 ≤ x → x < D → -1 ≤ st x ∧ st x ≤ 60 := fun x x1 x2 => by
    by_cases z : st x = -1
    · omega
    · have := I2 x x1 x2 z; omega
  have hsi := hst i i0 i1
  have gsi := c1 i i0 i1
  by_cases c0 : st i = -1
  · obtain ⟨u, a, hu⟩ := n136_ls (B := B) (dd := e + n + 1) (q5 := .inl r) (o8 := o8) (fr := fr) q0 hK hD hD5 hst i0 i1 (61 - fr).toNat fr (by omega) (by omega)
    have pre : ab_E B (e + n + 3) 136 39 [some (.inr (.inr (.inl (some 18)))), some (.inr (.inr (.inl (some sa)))), some (.inr (.inr (.inl (some so)))), some (.inl pl), some (.inl fr), some (.inr (.inr (.inl r))), some (.inl i), o7, o8] [] h = ab_E B (e + n + 3) 136 96 [some (.inr (.inr (.inl (some 18)))), some (.inr (.inr (.inl (some sa)))), some (.inr (.inr (.inl (some so)))), some (.inl pl), some (.inl fr), some (.inr (.inr (.inl r))), some (.inl i), some (.inl u), o8] [] (ab_si h sa i u) := by
      rw [← a, e136_39]
      simp (disch := omega) only [e136_0, e136_1, e136_2, e136_5, e136_8, e136_9, e136_12, e136_13, e136_14, e136_15, e136_18, e136_21, e136_22, e136_23, e136_24, e136_25, e136_28, e136_31, e136_32, e136_33, e136_34, e136_36, e136_37, e136_41, e136_42, e136_45, e136_48, e136_49, e136_51, e136_52, e136_53, e136_56, e136_59, e136_61, e136_63, e136_64, e136_66, e136_68, e136_71, e136_73, e136_76, e136_77, e136_78, e136_81, e136_84, e136_87, e136_88, e136_90, e136_92, e136_93, e136_97, e136_98, e136_100, e136_101, e136_103, e136_105, e136_108, e136_109, e136_112, e136_113, e136_114, e136_115, e136_116, e136_117, e136_118, e136_120, e136_123, e136_125, e136_126, e136_128, e136_129, e136_130, e136_132, e136_135, e136_137, e136_140, e136_141, e136_143, e136_144, e136_145, e136_148, e136_149, e136_151, e136_152, e136_153, e136_156, e136_159, e136_161, e136_163, e136_166, e136_169, e136_171, implies_true, Int.reduceSub, Option.isNone_some, Option.isNone_none, ab_bh_some, ab_bh_thr, ab_gs_3, ab_gl_2, ab_gl_3, ab_gt_some, ab_gc_0, ab_gk_0, Bool.false_eq_true, Bool.true_eq_false, false_implies, Nat.reduceEqDiff, ab_ge, ab_lt, ab_le, ab_gt, ab_eq, ab_ne, decide_eq_true_eq, ab_w_id, ab_w0, ab_gd_some, ab_gs_0, ab_gs_1, ab_gl_0, ab_gl_1, ab_bv_some, ab_bu_some, ab_bv_thr, ab_bu_thr, ab_fx_n, ab_fx_i, ab_fx_q, ab_fx_l, ab_sh_si, ab_gr_si, ab_gl_si, cs_n, ↓reduceIte, true_or, or_true, false_or, or_false, and_true, true_and, and_false, false_and, not_true_eq_false, not_false_eq_true, eq_self, Int.reduceEq, Int.reduceLT, Int.reduceLE, Int.reduceAdd, Int.reduceMul, Int.reduceNeg, if_pos, if_neg, m1.1, m3, s1, gsi, c0]
    have hu61 : 0 ≤ u ∧ u ≤ 61 := by omega
    have F2 : qF (ab_n h) sa so h (ab_si (ab_si h sa i u) so pl i) 0 0 := qF.sa.trans qF.so
    have g2a : ∀ x, ab_gi (ab_si (ab_si h sa i u) so pl i) sa x = if x = i then u else ab_gi h sa x := fun x => by
      rw [ab_gi_si, if_neg (by omega), ab_gi_si]
      by_cases z : x = i
      · rw [if_pos ⟨rfl, z⟩, if_pos z]
      · rw [if_neg (fun y => z y.2), if_neg z]
    have g2o : ∀ x, ab_gi (ab_si (ab_si h sa i u) so pl i) so x = if x = pl then i else ab_gi h so x := fun x => by
      rw [ab_gi_si]
      by_cases z : x = pl
      · rw [if_pos ⟨rfl, z⟩, if_pos z]
      · rw [if_neg (fun y => z y.2), if_neg z, ab_gi_si, if_neg (by omega)]
    rcases hu with ⟨hl, u0, u1⟩ | ⟨hl, u1⟩
    · rw [pk_x_s c0 hl]
      have hI2 := pk_I.up ⟨I1, I2, I3, I4⟩ p0 i0 i1 c0 hl
      have q2 : qI (ab_si (ab_si h sa i u) so pl i) b K D S sa so (pk_up st i u) (pk_up po i pl) (pl + 1) := q0.move F2 (Nat.le_refl _) (fun d d1 d2 => by
        rw [g2a]
        by_cases z : d = i
        · rw [if_pos z, z, pk_up_s]
        · rw [if_neg z, pk_up_n z]; exact c1 d d1 d2) (fun d d1 d2 hd => by
        rw [g2o]
        by_cases z : d = i
        · rw [z, pk_up_s, if_pos rfl]
        · rw [pk_up_n z] at hd ⊢
          have := I2 d d1 d2 hd
          rw [if_neg (by omega)]; exact c2 d d1 d2 hd) (fun k k1 k2 => by
        rw [g2o]
        by_cases z : k = pl
        · rw [if_pos z, pk_up_s, pk_up_s]; omega
        · rw [if_neg z]
          obtain ⟨⟨z1, z2, z3⟩, z4⟩ := c3 k k1 (by omega)
          have zi : ab_gi h so k ≠ i := fun y => z4 (by rw [y]; exact c0)
          rw [pk_up_n zi, pk_up_n zi]
          exact ⟨⟨z1, z2, z3⟩, z4⟩)
      obtain ⟨h3, r3, a3', f3, x3, w1, w2⟩ := hrec (ab_si (ab_si h sa i u) so pl i) b (pk_up st i u) (pk_up po i pl) (pl + 1) u sa so q2 hI2 (by omega) (by omega)
      have n2 : ab_n (ab_si (ab_si h sa i u) so pl i) = ab_n h := rfl
      rw [n2] at f3 x3
      have hm3 := (mL_of m1 (F2.trans f3).sh (fun c x _ y _ => (F2.trans f3).2.2.1 c x y))
      have s13 := (F2.trans f3).sh _ _ s1
      have F4 : qF (ab_n h) sa so h (ab_si h3 sa i (-1)) (3 * pT n * 1) ((2 + 2 * D.toNat) * pT n * 1) := ((F2.trans f3).trans qF.sa).mono (by omega) (by omega)
      have g4o : ∀ k, k < pl → ab_gi (ab_si h3 sa i (-1)) so k = ab_gi h so k := fun k k1 => by
        rw [ab_gi_si, if_neg (by omega), w2 k (by omega), g2o, if_neg (by omega)]
      have q4 : qI (ab_si h3 sa i (-1)) b K D S sa so st po pl := q0.move F4 (Nat.le_refl _) (fun d d1 d2 => by
        rw [ab_gi_si]
        by_cases z : d = i
        · rw [if_pos ⟨rfl, z⟩, z, c0]
        · rw [if_neg (fun y => z y.2), w1 d d1 d2, pk_up_n z]) (fun d d1 d2 hd => by
        have := I2 d d1 d2 hd
        rw [g4o _ (by omega)]; exact c2 d d1 d2 hd) (fun k k1 k2 => by rw [g4o k k2]; exact c3 k k1 k2)
      have X4 : qX (ab_si h3 sa i (-1)) N0 D r c := X.keep F4 ha ho
      have Y4 : qX (ab_si h3 sa i (-1)) (ab_n h) D r3 (pk_pl K D n (pk_up st i u) (pk_up po i pl) (pl + 1) u) := x3.keep (sa := sa) (so := so) (k := 0) (s := 0) qF.sa (by omega) (by omega)
      have Y4' := Y4.weak hN
      have RY : qR D (pk_pl K D n (pk_up st i u) (pk_up po i pl) (pl + 1) u) := fun y hy x x1 x2 => ((pk_pl_F (by omega) n _ _ _ _ hI2 (by omega) (by omega) y hy).1 x x1 x2).1
      rw [if_pos c0]
      have run0 : ∀ z, r3 = z → ab_E B (e + n + 3) 136 96 [some (.inr (.inr (.inl (some 18)))), some (.inr (.inr (.inl (some sa)))), some (.inr (.inr (.inl (some so)))), some (.inl pl), some (.inl fr), some (.inr (.inr (.inl r))), some (.inl i), some (.inl u), o8] [] (ab_si h sa i u) = ab_E B (e + n + 3) 136 132 [some (.inr (.inr (.inl (some 18)))), some (.inr (.inr (.inl (some sa)))), some (.inr (.inr (.inl (some so)))), some (.inl pl), some (.inl fr), some (.inr (.inr (.inl r))), some (.inl i), some (.inl u), some (.inr (.inr (.inl z)))] [.inr (.inr (.inl z))] (ab_si h3 sa i (-1)) := fun z hz => by
        rw [← hz, e136_96]
        simp (disch := omega) only [e136_0, e136_1, e136_2, e136_5, e136_8, e136_9, e136_12, e136_13, e136_14, e136_15, e136_18, e136_21, e136_22, e136_23, e136_24, e136_25, e136_28, e136_31, e136_32, e136_33, e136_34, e136_36, e136_37, e136_41, e136_42, e136_45, e136_48, e136_49, e136_51, e136_52, e136_53, e136_56, e136_59, e136_61, e136_63, e136_64, e136_66, e136_68, e136_71, e136_73, e136_76, e136_77, e136_78, e136_81, e136_84, e136_87, e136_88, e136_90, e136_92, e136_93, e136_97, e136_98, e136_100, e136_101, e136_103, e136_105, e136_108, e136_109, e136_112, e136_113, e136_114, e136_115, e136_116, e136_117, e136_118, e136_120, e136_123, e136_125, e136_126, e136_128, e136_129, e136_130, e136_135, e136_137, e136_140, e136_141, e136_143, e136_144, e136_145, e136_148, e136_149, e136_151, e136_152, e136_153, e136_156, e136_159, e136_161, e136_163, e136_166, e136_169, e136_171, implies_true, Int.reduceSub, Option.isNone_some, Option.isNone_none, ab_bh_some, ab_bh_thr, ab_gs_3, ab_gl_2, ab_gl_3, ab_gt_some, ab_gc_0, ab_gk_0, Bool.false_eq_true, Bool.true_eq_false, false_implies, Nat.reduceEqDiff, ab_ge, ab_lt, ab_le, ab_gt, ab_eq, ab_ne, decide_eq_true_eq, ab_w_id, ab_w0, ab_gd_some, ab_gs_0, ab_gs_1, ab_gl_0, ab_gl_1, ab_bv_some, ab_bu_some, ab_bv_thr, ab_bu_thr, ab_fx_n, ab_fx_i, ab_fx_q, ab_fx_l, ab_sh_si, ab_gr_si, ab_gl_si, cs_n, ↓reduceIte, true_or, or_true, false_or, or_false, and_true, true_and, and_false, false_and, not_true_eq_false, not_false_eq_true, eq_self, Int.reduceEq, Int.reduceLT, Int.reduceLE, Int.reduceAdd, Int.reduceMul, Int.reduceNeg, if_pos, if_neg, m1.1, s2, a3', hm3.1, s13]
      cases hc3 : pk_pl K D n (pk_up st i u) (pk_up po i pl) (pl + 1) u with
      | none =>
        rw [hc3] at Y4
        have e3 : r3 = none := Y4
        refine ⟨ab_si h3 sa i (-1), r, some (.inl u), some (.inr (.inr (.inl none))), ?_, q4, F4, X4, R, g4o⟩
        rw [pre, run0 none e3]
        simp (disch := omega) only [e136_0, e136_1, e136_2, e136_5, e136_8, e136_9, e136_12, e136_13, e136_14, e136_15, e136_18, e136_21, e136_22, e136_23, e136_24, e136_25, e136_28, e136_31, e136_32, e136_33, e136_34, e136_36, e136_37, e136_41, e136_42, e136_45, e136_48, e136_49, e136_51, e136_52, e136_53, e136_56, e136_59, e136_61, e136_63, e136_64, e136_66, e136_68, e136_71, e136_73, e136_76, e136_77, e136_78, e136_81, e136_84, e136_87, e136_88, e136_90, e136_92, e136_93, e136_97, e136_98, e136_100, e136_101, e136_103, e136_105, e136_108, e136_109, e136_112, e136_113, e136_114, e136_115, e136_116, e136_117, e136_118, e136_120, e136_123, e136_125, e136_126, e136_128, e136_129, e136_130, e136_132, e136_135, e136_137, e136_140, e136_141, e136_143, e136_144, e136_145, e136_148, e136_149, e136_151, e136_152, e136_153, e136_156, e136_159, e136_161, e136_166, e136_169, e136_171, implies_true, Int.reduceSub, Option.isNone_some, Option.isNone_none, ab_bh_some, ab_bh_thr, ab_gs_3, ab_gl_2, ab_gl_3, ab_gt_some, ab_gc_0, ab_gk_0, Bool.false_eq_true, Bool.true_eq_false, false_implies, Nat.reduceEqDiff, ab_ge, ab_lt, ab_le, ab_gt, ab_eq, ab_ne, decide_eq_true_eq, ab_w_id, ab_w0, ab_gd_some, ab_gs_0, ab_gs_1, ab_gl_0, ab_gl_1, ab_bv_some, ab_bu_some, ab_bv_thr, ab_bu_thr, ab_fx_n, ab_fx_i, ab_fx_q, ab_fx_l, ab_sh_si, ab_gr_si, ab_gl_si, cs_n, ↓reduceIte, true_or, or_true, false_or, or_false, and_true, true_and, and_false, false_and, not_true_eq_false, not_false_eq_true, eq_self, Int.reduceEq, Int.reduceLT, Int.reduceLE, Int.reduceAdd, Int.reduceMul, Int.reduceNeg, if_pos, if_neg]
      | some y3 =>
        rw [hc3] at Y4 Y4' RY
        have Y := Y4
        obtain ⟨kc, k0, k1, e3, ⟨b1, b2, b3⟩, ⟨t1, t2, t3⟩, ⟨r1, r2⟩, m5, m6⟩ := Y
        cases c with
        | none =>
          have er : r = none := X
          subst er
          refine ⟨ab_si h3 sa i (-1), r3, some (.inl u), some (.inr (.inr (.inl (some kc)))), ?_, q4, F4, Y4', RY, g4o⟩
          rw [pre, run0 _ e3, e3]
          simp (disch := omega) only [e136_0, e136_1, e136_2, e136_5, e136_8, e136_9, e136_12, e136_13, e136_14, e136_15, e136_18, e136_21, e136_22, e136_23, e136_24, e136_25, e136_28, e136_31, e136_32, e136_33, e136_34, e136_36, e136_37, e136_41, e136_42, e136_45, e136_48, e136_49, e136_51, e136_52, e136_53, e136_56, e136_59, e136_61, e136_63, e136_64, e136_66, e136_68, e136_71, e136_73, e136_76, e136_77, e136_78, e136_81, e136_84, e136_87, e136_88, e136_90, e136_92, e136_93, e136_97, e136_98, e136_100, e136_101, e136_103, e136_105, e136_108, e136_109, e136_112, e136_113, e136_114, e136_115, e136_116, e136_117, e136_118, e136_120, e136_123, e136_125, e136_126, e136_128, e136_129, e136_130, e136_132, e136_135, e136_137, e136_140, e136_141, e136_143, e136_144, e136_145, e136_148, e136_149, e136_151, e136_152, e136_153, e136_156, e136_159, e136_161, e136_166, e136_169, e136_171, implies_true, Int.reduceSub, Option.isNone_some, Option.isNone_none, ab_bh_some, ab_bh_thr, ab_gs_3, ab_gl_2, ab_gl_3, ab_gt_some, ab_gc_0, ab_gk_0, Bool.false_eq_true, Bool.true_eq_false, false_implies, Nat.reduceEqDiff, ab_ge, ab_lt, ab_le, ab_gt, ab_eq, ab_ne, decide_eq_true_eq, ab_w_id, ab_w0, ab_gd_some, ab_gs_0, ab_gs_1, ab_gl_0, ab_gl_1, ab_bv_some, ab_bu_some, ab_bv_thr, ab_bu_thr, ab_fx_n, ab_fx_i, ab_fx_q, ab_fx_l, ab_sh_si, ab_gr_si, ab_gl_si, cs_n, ↓reduceIte, true_or, or_true, false_or, or_false, and_true, true_and, and_false, false_and, not_true_eq_false, not_false_eq_true, eq_self, Int.reduceEq, Int.reduceLT, Int.reduceLE, Int.reduceAdd, Int.reduceMul, Int.reduceNeg, if_pos, if_neg]
        | some y =>
          have X5 := X4
          obtain ⟨jc, j0, j1, e4, ⟨v1, v2, v3⟩, ⟨u1', u2', u3'⟩, ⟨t4, t5⟩, w5, w6⟩ := X5
          have q4' := q4
          obtain ⟨⟨M1, M2, M3⟩, -⟩ := q4'
          have E3 := n134 (B := B) (dd := e + n + 2) (st := y3.1) M1 (by rw [M2]; exact hK) M3 (by omega) hD5 t2 (fun d d1 d2 => ⟨(m5 d d1 d2).1, by have := RY y3 rfl d d1 d2; omega⟩)
          have E4 := n134 (B := B) (dd := e + n + 2) (st := y.1) M1 (by rw [M2]; exact hK) M3 (by omega) hD5 u2' (fun d d1 d2 => ⟨(w5 d d1 d2).1, by have := R y rfl d d1 d2; omega⟩)
          rw [M2] at E3 E4
          have b3' := pk_end_0 K D y3.1
          have b4' := pk_end_0 K D y.1
          have b3'' : pk_end K D y3.1 ≤ 100 := pk_end_le (by omega) (fun d d1 d2 _ => by have := RY y3 rfl d d1 d2; have := hK.1 d d1 (by omega); omega)
          have b4'' : pk_end K D y.1 ≤ 100 := pk_end_le (by omega) (fun d d1 d2 _ => by have := R y rfl d d1 d2; have := hK.1 d d1 (by omega); omega)
          have t1' : (ab_sh h3)[kc]? = some (2, 2) := t1
          have u1'' : (ab_sh h3)[jc]? = some (2, 2) := u1'
          have r1' : ab_gr h3 kc 0 = some k0 := r1
          have t4' : ab_gr h3 jc 0 = some j0 := t4
          unfold pk_mg
          simp only
          by_cases cc : pk_end K D y3.1 < pk_end K D y.1
          · rw [if_pos cc]
            refine ⟨ab_si h3 sa i (-1), r3, some (.inl u), some (.inr (.inr (.inl (some kc)))), ?_, q4, F4, Y4', RY, g4o⟩
            rw [pre, run0 _ e3, e3, e4]
            simp (disch := omega) only [e136_0, e136_1, e136_2, e136_5, e136_8, e136_9, e136_12, e136_13, e136_14, e136_15, e136_18, e136_21, e136_22, e136_23, e136_24, e136_25, e136_28, e136_31, e136_32, e136_33, e136_34, e136_36, e136_37, e136_41, e136_42, e136_45, e136_48, e136_49, e136_51, e136_52, e136_53, e136_56, e136_59, e136_61, e136_63, e136_64, e136_66, e136_68, e136_71, e136_73, e136_76, e136_77, e136_78, e136_81, e136_84, e136_87, e136_88, e136_90, e136_92, e136_93, e136_97, e136_98, e136_100, e136_101, e136_103, e136_105, e136_108, e136_109, e136_112, e136_113, e136_114, e136_115, e136_116, e136_117, e136_118, e136_120, e136_123, e136_125, e136_126, e136_128, e136_129, e136_130, e136_132, e136_135, e136_137, e136_140, e136_141, e136_143, e136_144, e136_145, e136_148, e136_149, e136_151, e136_152, e136_153, e136_156, e136_159, e136_161, e136_166, e136_169, e136_171, implies_true, Int.reduceSub, Option.isNone_some, Option.isNone_none, ab_bh_some, ab_bh_thr, ab_gs_3, ab_gl_2, ab_gl_3, ab_gt_some, ab_gc_0, ab_gk_0, Bool.false_eq_true, Bool.true_eq_false, false_implies, Nat.reduceEqDiff, ab_ge, ab_lt, ab_le, ab_gt, ab_eq, ab_ne, decide_eq_true_eq, ab_w_id, ab_w0, ab_gd_some, ab_gs_0, ab_gs_1, ab_gl_0, ab_gl_1, ab_bv_some, ab_bu_some, ab_bv_thr, ab_bu_thr, ab_fx_n, ab_fx_i, ab_fx_q, ab_fx_l, ab_sh_si, ab_gr_si, ab_gl_si, cs_n, ↓reduceIte, true_or, or_true, false_or, or_false, and_true, true_and, and_false, false_and, not_true_eq_false, not_false_eq_true, eq_self, Int.reduceEq, Int.reduceLT, Int.reduceLE, Int.reduceAdd, Int.reduceMul, Int.reduceNeg, if_pos, if_neg, hm3.1, t1', r1', u1'', t4', E3, E4]
          · rw [if_neg cc]
            refine ⟨ab_si h3 sa i (-1), r, some (.inl u), some (.inr (.inr (.inl (some kc)))), ?_, q4, F4, X4, R, g4o⟩
            rw [pre, run0 _ e3, e4]
            simp (disch := omega) only [e136_0, e136_1, e136_2, e136_5, e136_8, e136_9, e136_12, e136_13, e136_14, e136_15, e136_18, e136_21, e136_22, e136_23, e136_24, e136_25, e136_28, e136_31, e136_32, e136_33, e136_34, e136_36, e136_37, e136_41, e136_42, e136_45, e136_48, e136_49, e136_51, e136_52, e136_53, e136_56, e136_59, e136_61, e136_63, e136_64, e136_66, e136_68, e136_71, e136_73, e136_76, e136_77, e136_78, e136_81, e136_84, e136_87, e136_88, e136_90, e136_92, e136_93, e136_97, e136_98, e136_100, e136_101, e136_103, e136_105, e136_108, e136_109, e136_112, e136_113, e136_114, e136_115, e136_116, e136_117, e136_118, e136_120, e136_123, e136_125, e136_126, e136_128, e136_129, e136_130, e136_132, e136_135, e136_137, e136_140, e136_141, e136_143, e136_144, e136_145, e136_148, e136_149, e136_151, e136_152, e136_153, e136_156, e136_159, e136_161, e136_166, e136_169, e136_171, implies_true, Int.reduceSub, Option.isNone_some, Option.isNone_none, ab_bh_some, ab_bh_thr, ab_gs_3, ab_gl_2, ab_gl_3, ab_gt_some, ab_gc_0, ab_gk_0, Bool.false_eq_true, Bool.true_eq_false, false_implies, Nat.reduceEqDiff, ab_ge, ab_lt, ab_le, ab_gt, ab_eq, ab_ne, decide_eq_true_eq, ab_w_id, ab_w0, ab_gd_some, ab_gs_0, ab_gs_1, ab_gl_0, ab_gl_1, ab_bv_some, ab_bu_some, ab_bv_thr, ab_bu_thr, ab_fx_n, ab_fx_i, ab_fx_q, ab_fx_l, ab_sh_si, ab_gr_si, ab_gl_si, cs_n, ↓reduceIte, true_or, or_true, false_or, or_false, and_true, true_and, and_false, false_and, not_true_eq_false, not_false_eq_true, eq_self, Int.reduceEq, Int.reduceLT, Int.reduceLE, Int.reduceAdd, Int.reduceMul, Int.reduceNeg, if_pos, if_neg, hm3.1, t1', r1', u1'', t4', E3, E4]
    · rw [pk_x_f c0 hl]
      have F4 : qF (ab_n h) sa so h (ab_si (ab_si (ab_si h sa i u) so pl i) sa i (-1)) (3 * pT n * 1) ((2 + 2 * D.toNat) * pT n * 1) := (F2.trans qF.sa).mono (by omega) (by omega)
      have g4o : ∀ k, k < pl → ab_gi (ab_si (ab_si (ab_si h sa i u) so pl i) sa i (-1)) so k = ab_gi h so k := fun k k1 => by
        rw [ab_gi_si, if_neg (by omega), g2o, if_neg (by omega)]
      have q4 : qI (ab_si (ab_si (ab_si h sa i u) so pl i) sa i (-1)) b K D S sa so st po pl := q0.move F4 (Nat.le_refl _) (fun d d1 d2 => by
        rw [ab_gi_si]
        by_cases z : d = i
        · rw [if_pos ⟨rfl, z⟩, z, c0]
        · rw [if_neg (fun y => z y.2), g2a, if_neg z]; exact c1 d d1 d2) (fun d d1 d2 hd => by
        have := I2 d d1 d2 hd
        rw [g4o _ (by omega)]; exact c2 d d1 d2 hd) (fun k k1 k2 => by rw [g4o k k2]; exact c3 k k1 k2)
      rw [if_pos c0]
      refine ⟨_, r, some (.inl u), some (.inr (.inr (.inl none))), ?_, q4, F4, X.keep F4 ha ho, R, g4o⟩
      rw [pre, e136_96]
      simp (disch := omega) only [e136_0, e136_1, e136_2, e136_5, e136_8, e136_9, e136_12, e136_13, e136_14, e136_15, e136_18, e136_21, e136_22, e136_23, e136_24, e136_25, e136_28, e136_31, e136_32, e136_33, e136_34, e136_36, e136_37, e136_41, e136_42, e136_45, e136_48, e136_49, e136_51, e136_52, e136_53, e136_56, e136_59, e136_61, e136_63, e136_64, e136_66, e136_68, e136_71, e136_73, e136_76, e136_77, e136_78, e136_81, e136_84, e136_87, e136_88, e136_90, e136_92, e136_93, e136_97, e136_98, e136_100, e136_101, e136_103, e136_105, e136_108, e136_109, e136_112, e136_113, e136_114, e136_115, e136_116, e136_117, e136_118, e136_120, e136_123, e136_125, e136_126, e136_128, e136_129, e136_130, e136_132, e136_135, e136_137, e136_140, e136_141, e136_143, e136_144, e136_145, e136_148, e136_149, e136_151, e136_152, e136_153, e136_156, e136_159, e136_161, e136_166, e136_169, e136_171, implies_true, Int.reduceSub, Option.isNone_some, Option.isNone_none, ab_bh_some, ab_bh_thr, ab_gs_3, ab_gl_2, ab_gl_3, ab_gt_some, ab_gc_0, ab_gk_0, Bool.false_eq_true, Bool.true_eq_false, false_implies, Nat.reduceEqDiff, ab_ge, ab_lt, ab_le, ab_gt, ab_eq, ab_ne, decide_eq_true_eq, ab_w_id, ab_w0, ab_gd_some, ab_gs_0, ab_gs_1, ab_gl_0, ab_gl_1, ab_bv_some, ab_bu_some, ab_bv_thr, ab_bu_thr, ab_fx_n, ab_fx_i, ab_fx_q, ab_fx_l, ab_sh_si, ab_gr_si, ab_gl_si, cs_n, ↓reduceIte, true_or, or_true, false_or, or_false, and_true, true_and, and_false, false_and, not_true_eq_false, not_false_eq_true, eq_self, Int.reduceEq, Int.reduceLT, Int.reduceLE, Int.reduceAdd, Int.reduceMul, Int.reduceNeg, if_pos, if_neg, m1.1, s1, s2]
  · rw [if_neg c0, pk_x_n c0]
    refine ⟨h, r, o7, o8, ?_, q0, qF.rf, X, R, fun _ _ => rfl⟩
    rw [e136_39]
    simp (disch := omega) only [e136_0, e136_1, e136_2, e136_5, e136_8, e136_9, e136_12, e136_13, e136_14, e136_15, e136_18, e136_21, e136_22, e136_23, e136_24, e136_25, e136_28, e136_31, e136_32, e136_33, e136_34, e136_36, e136_37, e136_41, e136_42, e136_45, e136_48, e136_49, e136_51, e136_52, e136_53, e136_56, e136_59, e136_61, e136_63, e136_64, e136_66, e136_68, e136_71, e136_73, e136_76, e136_77, e136_78, e136_81, e136_84, e136_87, e136_88, e136_90, e136_92, e136_93, e136_97, e136_98, e136_100, e136_101, e136_103, e136_105, e136_108, e136_109, e136_112, e136_113, e136_114, e136_115, e136_116, e136_117, e136_118, e136_120, e136_123, e136_125, e136_126, e136_128, e136_129, e136_130, e136_132, e136_135, e136_137, e136_140, e136_141, e136_143, e136_144, e136_145, e136_148, e136_149, e136_151, e136_152, e136_153, e136_156, e136_159, e136_161, e136_166, e136_169, e136_171, implies_true, Int.reduceSub, Option.isNone_some, Option.isNone_none, ab_bh_some, ab_bh_thr, ab_gs_3, ab_gl_2, ab_gl_3, ab_gt_some, ab_gc_0, ab_gk_0, Bool.false_eq_true, Bool.true_eq_false, false_implies, Nat.reduceEqDiff, ab_ge, ab_lt, ab_le, ab_gt, ab_eq, ab_ne, decide_eq_true_eq, ab_w_id, ab_w0, ab_gd_some, ab_gs_0, ab_gs_1, ab_gl_0, ab_gl_1, ab_bv_some, ab_bu_some, ab_bv_thr, ab_bu_thr, ab_fx_n, ab_fx_i, ab_fx_q, ab_fx_l, ab_sh_si, ab_gr_si, ab_gl_si, cs_n, ↓reduceIte, true_or, or_true, false_or, or_false, and_true, true_and, and_false, false_and, not_true_eq_false, not_false_eq_true, eq_self, Int.reduceEq, Int.reduceLT, Int.reduceLE, Int.reduceAdd, Int.reduceMul, Int.reduceNeg, if_pos, if_neg, m1.1, m3, s1, gsi, eq_false c0]
theorem n136_loop {e n : Nat} {K : pk_K} {D S : Int} (hrec : mP136 B K D S e n) (hD : 3 ≤ D) (hD5 : D ≤ 5) (hK : pk_ok K) {b sa so N0 : Nat} {st po : Int → Int} {pl fr : Int} (hI : pk_I K D st po pl fr) (p0 : 0 ≤ pl) (p1 : pl + n + 1 = D) (ha : sa < N0) (ho : so < N0) : ∀ (k : Nat) (i : Int) (h : ab_H) (r : Option Nat) (c : pk_X) (o7 o8 : Option ab_V), qI h b K D S sa so st po pl → N0 ≤ ab_n h → qX h N0 D r c → qR D c → 0 ≤ i → i + k = D →
    ∃ h' r', ab_E B (e + n + 3) 136 39 [some (.inr (.inr (.inl (some 18)))), some (.inr (.inr (.inl (some sa)))), some (.inr (.inr (.inl (some so)))), some (.inl pl), some (.inl fr), some (.inr (.inr (.inl r))), some (.inl i), o7, o8] [] h = some (.inl (some (.inr (.inr (.inl r')))), h') ∧ qF N0 sa so h h' (3 * pT n * pF st i k) ((2 + 2 * D.toNat) * pT n * pF st i k) ∧ qX h' N0 D r' (pk_lp (fun best d => pk_mg K D best (pk_x K D n st po pl fr d)) k i c) ∧ (∀ d, 0 ≤ d → d < D → ab_gi h' sa d = st d) ∧ ∀ k, k < pl → ab_gi h' so k = ab_gi h so k
  | 0, i, h, r, c, o7, o8, q, hN, X, R, i0, i1 => by
    obtain ⟨⟨m1, m2, m3⟩, -, -, c1, -⟩ := q
    refine ⟨h, r, ?_, qF.rf, X, c1, fun _ _ => rfl⟩
    rw [e136_39]
    simp (disch := omega) only [e136_0, e136_1, e136_2, e136_5, e136_8, e136_9, e136_12, e136_13, e136_14, e136_15, e136_18, e136_21, e136_22, e136_23, e136_24, e136_25, e136_28, e136_31, e136_32, e136_33, e136_34, e136_36, e136_37, e136_41, e136_42, e136_45, e136_48, e136_49, e136_51, e136_52, e136_53, e136_56, e136_59, e136_61, e136_63, e136_64, e136_66, e136_68, e136_71, e136_73, e136_76, e136_77, e136_78, e136_81, e136_84, e136_87, e136_88, e136_90, e136_92, e136_93, e136_97, e136_98, e136_100, e136_101, e136_103, e136_105, e136_108, e136_109, e136_112, e136_113, e136_114, e136_115, e136_116, e136_117, e136_118, e136_120, e136_123, e136_125, e136_126, e136_128, e136_129, e136_130, e136_132, e136_135, e136_137, e136_140, e136_141, e136_143, e136_144, e136_145, e136_148, e136_149, e136_151, e136_152, e136_153, e136_156, e136_159, e136_161, e136_163, e136_166, e136_169, e136_171, implies_true, Int.reduceSub, Option.isNone_some, Option.isNone_none, ab_bh_some, ab_bh_thr, ab_gs_3, ab_gl_2, ab_gl_3, ab_gt_some, ab_gc_0, ab_gk_0, Bool.false_eq_true, Bool.true_eq_false, false_implies, Nat.reduceEqDiff, ab_ge, ab_lt, ab_le, ab_gt, ab_eq, ab_ne, decide_eq_true_eq, ab_w_id, ab_w0, ab_gd_some, ab_gs_0, ab_gs_1, ab_gl_0, ab_gl_1, ab_bv_some, ab_bu_some, ab_bv_thr, ab_bu_thr, ab_fx_n, ab_fx_i, ab_fx_q, ab_fx_l, ab_sh_si, ab_gr_si, ab_gl_si, cs_n, ↓reduceIte, true_or, or_true, false_or, or_false, and_true, true_and, and_false, false_and, not_true_eq_false, not_false_eq_true, eq_self, Int.reduceEq, Int.reduceLT, Int.reduceLE, Int.reduceAdd, Int.reduceMul, Int.reduceNeg, if_pos, if_neg, m1.1, m3]
  | k + 1, i, h, r, c, o7, o8, q, hN, X, R, i0, i1 => by
    obtain ⟨h1, r1, p7, p8, a, q1, f1, X1, R1, w1⟩ := n136_step (B := B) (o7 := o7) (o8 := o8) hrec hD hD5 hK hI p0 p1 ha ho q hN X R i0 (show i < D by omega)
    obtain ⟨h2, r2, a2, f2, X2, w2, w3⟩ := n136_loop hrec hD hD5 hK hI p0 p1 ha ho k (i + 1) h1 r1 _ p7 p8 q1 (Nat.le_trans hN f1.n) X1 R1 (by omega) (by omega)
    refine ⟨h2, r2, ?_, ?_, X2, w2, fun j j1 => (w3 j j1).trans (w1 j j1)⟩
    · rw [a, ← a2]
      simp (disch := omega) only [e136_163, e136_166]
    · unfold pF
      rw [Nat.mul_add, Nat.mul_add]
      exact (f1.weak hN).trans f2
theorem n136 {e : Nat} {K : pk_K} {D S : Int} (hD : 3 ≤ D) (hD5 : D ≤ 5) (hK : pk_ok K) : ∀ n : Nat, mP136 B K D S e n
  | 0 => n136_0 hD hD5
  | n + 1 => by
    intro h b st po pl fr sa so q hI p0 p1
    have hrec := n136 (e := e) (S := S) hD hD5 hK n
    have la := ab_sh_lt q.2.2.1.1
    have lo := ab_sh_lt q.2.2.1.2
    obtain ⟨h', r', a, f, X, w1, w2⟩ := n136_loop (B := B) hrec hD hD5 hK hI p0 (by omega) la lo D.toNat 0 h none none none none q (Nat.le_refl _) rfl (fun y hy => by cases hy) (by omega) (by omega)
    have hF : pF st 0 D.toNat = n + 1 := by
      have := pF_sf st D.toNat 0
      rw [hI.2.2.1] at this
      omega
    rw [hF] at f
    refine ⟨h', r', ?_, f.mono ?_ ?_, X, w1, w2⟩
    · have m1 := q.1.1
      have m3 := q.1.2.2
      rw [show e + (n + 1) + 2 = e + n + 3 from by omega, ← a]
      simp (disch := omega) only [e136_0, e136_1, e136_2, e136_5, e136_8, e136_9, e136_12, e136_13, e136_14, e136_15, e136_18, e136_21, e136_22, e136_23, e136_24, e136_25, e136_28, e136_31, e136_32, e136_33, e136_34, e136_36, e136_37, e136_41, e136_42, e136_45, e136_48, e136_49, e136_51, e136_52, e136_53, e136_56, e136_59, e136_61, e136_63, e136_64, e136_66, e136_68, e136_71, e136_73, e136_76, e136_77, e136_78, e136_81, e136_84, e136_87, e136_88, e136_90, e136_92, e136_93, e136_97, e136_98, e136_100, e136_101, e136_103, e136_105, e136_108, e136_109, e136_112, e136_113, e136_114, e136_115, e136_116, e136_117, e136_118, e136_120, e136_123, e136_125, e136_126, e136_128, e136_129, e136_130, e136_132, e136_135, e136_137, e136_140, e136_141, e136_143, e136_144, e136_145, e136_148, e136_149, e136_151, e136_152, e136_153, e136_156, e136_159, e136_161, e136_163, e136_166, e136_169, e136_171, implies_true, Int.reduceSub, Option.isNone_some, Option.isNone_none, ab_bh_some, ab_bh_thr, ab_gs_3, ab_gl_2, ab_gl_3, ab_gt_some, ab_gc_0, ab_gk_0, Bool.false_eq_true, Bool.true_eq_false, false_implies, Nat.reduceEqDiff, ab_ge, ab_lt, ab_le, ab_gt, ab_eq, ab_ne, decide_eq_true_eq, ab_w_id, ab_w0, ab_gd_some, ab_gs_0, ab_gs_1, ab_gl_0, ab_gl_1, ab_bv_some, ab_bu_some, ab_bv_thr, ab_bu_thr, ab_fx_n, ab_fx_i, ab_fx_q, ab_fx_l, ab_sh_si, ab_gr_si, ab_gl_si, cs_n, ↓reduceIte, true_or, or_true, false_or, or_false, and_true, true_and, and_false, false_and, not_true_eq_false, not_false_eq_true, eq_self, Int.reduceEq, Int.reduceLT, Int.reduceLE, Int.reduceAdd, Int.reduceMul, Int.reduceNeg, if_pos, if_neg, m1.1, m3]
    · rw [pT_s, Nat.mul_assoc, Nat.mul_comm (pT n)]
      exact Nat.le_refl _
    · rw [pT_s, Nat.mul_assoc, Nat.mul_comm (pT n)]
      exact Nat.le_refl _
end
