set_option linter.all false
/-! THE CLASS'S DEEDS: write, read, fail, swap, flip, rebuild, patrol, giveUp -/
section
variable {B : ab_B}
theorem ci_rk {h h' : ab_H} (i : ci h) (hR : cs_R h') (e : ∀ c x, c = 1 ∨ (7 ≤ c ∧ c ≤ 17) → ab_gi h' c x = ab_gi h c x) (e0 : ∀ x, 2 ≤ x → x ≤ 7 → ab_gi h' 0 x = ab_gi h 0 x) : ci h' := by
  refine ci_of i hR (fun x => e 1 x (Or.inl rfl)) (fun c x c1 c2 => e c x (Or.inr ⟨c1, c2⟩)) ?_ (cn_of i.2.2.2.1 (cs_B_of (e 1 0 (Or.inl rfl)) (e 1 1 (Or.inl rfl))) (fun x x1 x2 => e0 x (by omega) (by omega))) ?_ ?_
  · rw [e0 2 (by omega) (by omega)]; exact i.2.2.1
  · rw [e0 6 (by omega) (by omega)]; exact i.2.2.2.2.1
  · rw [e0 7 (by omega) (by omega)]; exact i.2.2.2.2.2
/-- a stripe is mended and that is counted -/
def cs_me (h : ab_H) (s : Int) : ab_H := ab_si (cs_mend h s).2 0 10 (ab_gi h 0 10 + (cs_mend h s).1)
theorem cs_me_ok {h : ab_H} {s : Int} (i : ci h) (h3 : 0 ≤ s) (h4 : s < ab_gi h 1 1) : ci (cs_me h s) ∧ (cs_me h s).2 = h.2 ∧ (∀ c x, c ≠ 2 → c ≠ 3 → ¬ (c = 0 ∧ x = 10) → ab_gi (cs_me h s) c x = ab_gi h c x) := by
  obtain ⟨a1, a2, a3, a4, a5⟩ := cs_mend_ok i.1 h3 h4
  have g : ∀ c x, c ≠ 2 → c ≠ 3 → ¬ (c = 0 ∧ x = 10) → ab_gi (cs_me h s) c x = ab_gi h c x := fun c x c2 c3 c0 => by
    unfold cs_me
    rw [ab_gi_si, if_neg c0, a3 c x c2 c3]
  refine ⟨ci_rk i (cs_R_six a1 (by decide) (by decide) (by decide) (by decide) (by decide)) (fun c x q => g c x (by omega) (by omega) (by omega)) (fun x x1 x2 => g 0 x (by omega) (by omega) (by omega)), a2, g⟩
theorem cs_lay_b {h : ab_H} {i s v d : Int} (h1 : 0 ≤ i) (h2 : 0 ≤ d) (v1 : ab_gi h 5 i = 0 ∨ ab_gi h 5 i = 1) : cs_b (cs_lay h i s v) d s = if d = i then (if ab_gi h 5 i = 1 then (if ab_gi h 5 i = 1 ∨ ab_gi h 3 (i * 8 + s) ≠ (7 * ab_gi h 2 (i * 8 + s) + s) % 256 then 1 else 0) else 0) else cs_b h d s := by
  unfold cs_b cs_lay
  by_cases c : ab_gi h 5 i = 1
  · simp only [if_pos c]
    by_cases e : d = i
    · rw [if_pos e, e]
    · rw [if_neg e]
  · simp only [if_neg c]
    by_cases e : d = i
    · subst e
      simp [ab_gi_si, c]
    · have : d * 8 + s ≠ i * 8 + s := by omega
      simp [ab_gi_si, e, this]
theorem cs_mend_bc {h : ab_H} {s : Int} (hR : cs_R h) (h3 : 0 ≤ s) (h4 : s < ab_gi h 1 1) (hb : cs_bc h s ≤ 1) : cs_bc (cs_mend h s).2 s ≤ 1 := by
  unfold cs_mend
  by_cases c : cs_bc h s = 1
  rotate_left
  · rw [if_neg c]; exact hb
  rw [if_pos c]
  have key : ∀ (k : Nat) (i : Int), 0 ≤ i → ∀ d, 0 ≤ d → cs_b (cs_mf h s i k).2 d s ≤ cs_b h d s := by
    intro k
    induction k with
    | zero => intro i _ d _; exact Int.le_refl _
    | succ k ih =>
      intro i i0 d d0
      unfold cs_mf
      by_cases c2 : cs_b h i s = 1 ∧ ab_gi h 5 i = 0
      · rw [if_pos c2]
        show cs_b (cs_lay h i s (cs_xo h i s)) d s ≤ _
        rw [cs_lay_b i0 d0 (hR.2.2.2 i)]
        by_cases e : d = i
        · rw [if_pos e, if_neg (by omega)]; exact (cs_b_le h d s).1
        · rw [if_neg e]; exact Int.le_refl _
      · rw [if_neg c2]; exact ih (i + 1) (by omega) d d0
  have e0 : ab_gi (cs_mf h s 0 (ab_gi h 1 0).toNat).2 1 0 = ab_gi h 1 0 := (cs_mf_ok hR h3 h4 _ _).2.2.1 1 0 (by decide) (by decide)
  unfold cs_bc at hb ⊢
  rw [e0]
  exact Int.le_trans (cs_sf_mono _ _ (fun j j1 _ => key _ 0 (by omega) j j1)) hb
theorem cs_sh_0 {h : ab_H} {d s : Int} (hR : cs_R h) (h1 : 0 ≤ d) (h2 : d < ab_gi h 1 0) (h3 : 0 ≤ s) (h4 : s < ab_gi h 1 1) (hb : cs_bc h s ≤ 1) : 0 ≤ cs_sh h d s ∧ cs_sh h d s ≤ 255 := by
  have hx := cs_xo_rng (d := d) hR h3 h4
  have hDS := hR.2.1
  have hv := hR.2.2.1 (d * 8 + s) (by omega) (by omega)
  unfold cs_sh
  split
  · omega
  · rw [if_neg (by omega)]; exact hx
theorem cs_me_bc (h : ab_H) (s t : Int) : cs_bc (cs_me h s) t = cs_bc (cs_mend h s).2 t := by
  unfold cs_me cs_bc cs_b
  simp [ab_gi_si]
/-- what a write leaves behind its first, second and third step -/
def cs_w1 (h : ab_H) (b v : Int) : ab_H := cs_kn (cs_me h (b / (ab_gi h 1 0 - 1))) (ab_gi h 1 0) b v
def cs_w2 (h : ab_H) (b v : Int) : ab_H := cs_lay (cs_w1 h b v) (cs_dk (ab_gi h 1 0) b) (b / (ab_gi h 1 0 - 1)) v
def cs_w3 (h : ab_H) (b v : Int) : ab_H := cs_lay (cs_w2 h b v) (b / (ab_gi h 1 0 - 1) % ab_gi h 1 0) (b / (ab_gi h 1 0 - 1)) (ab_gi (cs_w1 h b v) 0 5)
def cs_dp (h : ab_H) : ab_H := ab_si (ab_si (ab_si h 0 3 (-1)) 0 4 (-1)) 0 5 (-1)
def cs_wr (h : ab_H) (b v st : Int) : ab_H := if st = 0 then cs_off (cs_me h (b / (ab_gi h 1 0 - 1))) else if st = 1 then cs_off (cs_w1 h b v) else if st = 2 then cs_off (cs_w2 h b v) else if st = 3 then cs_off (cs_w3 h b v) else cs_dp (cs_w3 h b v)
theorem cs_wr_0 (h : ab_H) (b v : Int) : cs_wr h b v 0 = cs_off (cs_me h (b / (ab_gi h 1 0 - 1))) := if_pos rfl
theorem cs_wr_1 (h : ab_H) (b v : Int) : cs_wr h b v 1 = cs_off (cs_w1 h b v) := (if_neg (by decide)).trans (if_pos rfl)
theorem cs_wr_2 (h : ab_H) (b v : Int) : cs_wr h b v 2 = cs_off (cs_w2 h b v) := (if_neg (by decide)).trans ((if_neg (by decide)).trans (if_pos rfl))
theorem cs_wr_3 (h : ab_H) (b v : Int) : cs_wr h b v 3 = cs_off (cs_w3 h b v) := (if_neg (by decide)).trans ((if_neg (by decide)).trans ((if_neg (by decide)).trans (if_pos rfl)))
theorem cs_wr_4 (h : ab_H) (b v : Int) : cs_wr h b v 4 = cs_dp (cs_w3 h b v) := (if_neg (by decide)).trans ((if_neg (by decide)).trans ((if_neg (by decide)).trans (if_neg (by decide))))
theorem cs_kn_gi (h : ab_H) (D b v : Int) (c : Nat) (x : Int) : ab_gi (cs_kn h D b v) c x = if c = 0 ∧ x = 8 then ab_gi h 0 8 + 1 else if c = 4 ∧ x = cs_dk D b * 8 + b / (D - 1) then v else if c = 0 ∧ x = 5 then ab_ixor (ab_ixor (cs_sh h (b / (D - 1) % D) (b / (D - 1))) (cs_sh h (cs_dk D b) (b / (D - 1)))) v else if c = 0 ∧ x = 4 then v else if c = 0 ∧ x = 3 then b else ab_gi h c x := by
  unfold cs_kn
  rw [ab_gi_si, ab_gi_si, ab_gi_si, ab_gi_si, ab_gi_si]
theorem cs_w1_ok {h : ab_H} {b v : Int} (i : ci h) (h1 : 0 ≤ b) (h2 : b < cs_B h) (hb : cs_bc h (b / (ab_gi h 1 0 - 1)) ≤ 1) (v1 : 0 ≤ v) (v2 : v ≤ 255) : ci (cs_w1 h b v) ∧ (cs_w1 h b v).2 = h.2 ∧ (∀ c x, c ≠ 0 → c ≠ 2 → c ≠ 3 → c ≠ 4 → ab_gi (cs_w1 h b v) c x = ab_gi h c x) ∧ ab_gi (cs_w1 h b v) 0 3 = b ∧ ab_gi (cs_w1 h b v) 0 4 = v ∧ (0 ≤ ab_gi (cs_w1 h b v) 0 5 ∧ ab_gi (cs_w1 h b v) 0 5 ≤ 255) ∧ ab_gi (cs_w1 h b v) 0 2 = ab_gi h 0 2 := by
  obtain ⟨q, hlt, b1, b2, b3, b4, b5, b6⟩ := ci_blk i h1 h2
  obtain ⟨i1, w, g⟩ := cs_me_ok i b2 b3
  have sd1 : 0 ≤ b / (ab_gi h 1 0 - 1) % ab_gi h 1 0 := Int.emod_nonneg _ (by have := q.2.2.2; omega)
  have sd2 : b / (ab_gi h 1 0 - 1) % ab_gi h 1 0 < ab_gi h 1 0 := Int.emod_lt_of_pos _ (by have := q.2.2.2; omega)
  have e0 := g 1 0 (by decide) (by decide) (by decide)
  have e1 := g 1 1 (by decide) (by decide) (by decide)
  have bc2 : cs_bc (cs_me h (b / (ab_gi h 1 0 - 1))) (b / (ab_gi h 1 0 - 1)) ≤ 1 := by
    rw [cs_me_bc]; exact cs_mend_bc i.1 b2 b3 hb
  have x1 := cs_sh_0 (d := b / (ab_gi h 1 0 - 1) % ab_gi h 1 0) i1.1 sd1 (by rw [e0]; exact sd2) b2 (by rw [e1]; exact b3) bc2
  have x2 := cs_sh_0 (d := cs_dk (ab_gi h 1 0) b) i1.1 b4 (by rw [e0]; exact b5) b2 (by rw [e1]; exact b3) bc2
  have x3 := ab_ixor_rng x1.1 x1.2 x2.1 x2.2
  have x4 := ab_ixor_rng x3.1 x3.2 v1 v2
  have k := cs_kn_gi (cs_me h (b / (ab_gi h 1 0 - 1))) (ab_gi h 1 0) b v
  have kc : ∀ c x, c ≠ 0 → c ≠ 4 → ab_gi (cs_w1 h b v) c x = ab_gi (cs_me h (b / (ab_gi h 1 0 - 1))) c x := fun c x c0 c4 => by unfold cs_w1; rw [k, if_neg (by omega), if_neg (by omega), if_neg (by omega), if_neg (by omega), if_neg (by omega)]
  have k3 : ab_gi (cs_w1 h b v) 0 3 = b := by unfold cs_w1; rw [k, if_neg (by omega), if_neg (by omega), if_neg (by omega), if_neg (by omega), if_pos ⟨rfl, rfl⟩]
  have k4 : ab_gi (cs_w1 h b v) 0 4 = v := by unfold cs_w1; rw [k, if_neg (by omega), if_neg (by omega), if_neg (by omega), if_pos ⟨rfl, rfl⟩]
  have k5 : 0 ≤ ab_gi (cs_w1 h b v) 0 5 ∧ ab_gi (cs_w1 h b v) 0 5 ≤ 255 := by unfold cs_w1; rw [k, if_neg (by omega), if_neg (by omega), if_pos ⟨rfl, rfl⟩]; exact x4
  have k0 : ∀ x, x ≠ 3 → x ≠ 4 → x ≠ 5 → x ≠ 8 → ab_gi (cs_w1 h b v) 0 x = ab_gi (cs_me h (b / (ab_gi h 1 0 - 1))) 0 x := fun x x3 x4 x5 x8 => by unfold cs_w1; rw [k, if_neg (by omega), if_neg (by omega), if_neg (by omega), if_neg (by omega), if_neg (by omega)]
  have hL : cs_L (cs_w1 h b v) := cs_L_2 i.1.1 (show (cs_w1 h b v).2 = h.2 from w)
  have hR : cs_R (cs_w1 h b v) := by
    have r4 : cs_R (ab_si (cs_me h (b / (ab_gi h 1 0 - 1))) 4 (cs_dk (ab_gi h 1 0) b * 8 + b / (ab_gi h 1 0 - 1)) v) := cs_R_si4 i1.1 v1 v2
    refine cs_R_of r4 hL (fun c x c1 c5 => ?_)
    unfold cs_w1
    rw [k, ab_gi_si, if_neg (by omega)]
    by_cases z : c = 4 ∧ x = cs_dk (ab_gi h 1 0) b * 8 + b / (ab_gi h 1 0 - 1)
    · rw [if_pos z, if_pos z]
    · rw [if_neg z, if_neg z, if_neg (by omega), if_neg (by omega), if_neg (by omega)]
  have f0 := (kc 1 0 (by decide) (by decide)).trans e0
  have f1 := (kc 1 1 (by decide) (by decide)).trans e1
  have eB : cs_B (cs_w1 h b v) = cs_B h := cs_B_of f0 f1
  refine ⟨ci_of i1 hR (fun x => kc 1 x (by decide) (by decide)) (fun c x c1 _ => kc c x (by omega) (by omega)) ?_ (Or.inr ⟨by rw [k3, eB]; exact ⟨h1, h2⟩, by rw [k4]; exact ⟨v1, v2⟩, k5⟩) ?_ ?_, w, fun c x c0 c2 c3 c4 => by rw [kc c x c0 c4, g c x c2 c3 (fun z => c0 z.1)], k3, k4, k5, ?_⟩
  · rw [k0 2 (by decide) (by decide) (by decide) (by decide)]; exact i1.2.2.1
  · rw [k0 6 (by decide) (by decide) (by decide) (by decide)]; exact i1.2.2.2.2.1
  · rw [k0 7 (by decide) (by decide) (by decide) (by decide)]; exact i1.2.2.2.2.2
  · rw [k0 2 (by decide) (by decide) (by decide) (by decide), g 0 2 (by decide) (by decide) (by decide)]
theorem ci_lay {h : ab_H} {d s v : Int} (i : ci h) (v1 : 0 ≤ v) (v2 : v ≤ 255) : ci (cs_lay h d s v) := ci_rk i (cs_R_lay i.1 v1 v2) (fun c x q => cs_lay_gi (by omega) (by omega)) (fun x _ _ => cs_lay_gi (by omega) (by omega))
theorem ci_dp {h : ab_H} (i : ci h) : ci (cs_dp h) := by
  have z : ∀ c x, ab_gi (cs_dp h) c x = if c = 0 ∧ x = 5 then -1 else if c = 0 ∧ x = 4 then -1 else if c = 0 ∧ x = 3 then -1 else ab_gi h c x := fun c x => by unfold cs_dp; rw [ab_gi_si, ab_gi_si, ab_gi_si]
  have zc : ∀ c x, c ≠ 0 → ab_gi (cs_dp h) c x = ab_gi h c x := fun c x hc => by rw [z, if_neg (by omega), if_neg (by omega), if_neg (by omega)]
  have z0 : ∀ x, x ≠ 3 → x ≠ 4 → x ≠ 5 → ab_gi (cs_dp h) 0 x = ab_gi h 0 x := fun x x3 x4 x5 => by rw [z, if_neg (by omega), if_neg (by omega), if_neg (by omega)]
  refine ci_of i (cs_R_of i.1 (cs_L_2 i.1.1 rfl) (fun c x c1 _ => zc c x (by omega))) (fun x => zc 1 x (by decide)) (fun c x c1 _ => zc c x (by omega)) ?_ (Or.inl ⟨?_, ?_, ?_⟩) ?_ ?_
  · rw [z0 2 (by decide) (by decide) (by decide)]; exact i.2.2.1
  · rw [z, if_neg (by omega), if_neg (by omega), if_pos ⟨rfl, rfl⟩]
  · rw [z, if_neg (by omega), if_pos ⟨rfl, rfl⟩]
  · rw [z, if_pos ⟨rfl, rfl⟩]
  · rw [z0 6 (by decide) (by decide) (by decide)]; exact i.2.2.2.2.1
  · rw [z0 7 (by decide) (by decide) (by decide)]; exact i.2.2.2.2.2
theorem m4n {dd : Nat} {h : ab_H} {b : Int} (hR : cs_R h) (r1 : -2147483648 ≤ b) (r2 : b < 2147483648) (hn : ¬ (0 ≤ b ∧ b < cs_B h)) : ab_E B (dd + 1) 4 0 [some (.inr (.inr (.inl (some 1)))), some (.inl b)] [] h = some (.inl (some (.inl 0)), h) := by rw [m4 hR r1 r2, if_neg hn]
theorem m4y {dd : Nat} {h : ab_H} {b : Int} (hR : cs_R h) (h1 : 0 ≤ b) (h2 : b < cs_B h) : ab_E B (dd + 1) 4 0 [some (.inr (.inr (.inl (some 1)))), some (.inl b)] [] h = some (.inl (some (.inl 1)), h) := by
  have := cs_B_le hR
  rw [m4 hR (by omega) (by omega), if_pos ⟨h1, h2⟩]
theorem m2n {dd : Nat} {h : ab_H} {d : Int} (hR : cs_R h) (r1 : -2147483648 ≤ d) (r2 : d < 2147483648) (hn : ¬ (0 ≤ d ∧ d < ab_gi h 1 0)) : ab_E B dd 2 0 [some (.inr (.inr (.inl (some 1)))), some (.inl d)] [] h = some (.inl (some (.inl 0)), h) := by rw [m2 hR r1 r2, if_neg hn]
theorem m2y {dd : Nat} {h : ab_H} {d : Int} (hR : cs_R h) (h1 : 0 ≤ d) (h2 : d < ab_gi h 1 0) : ab_E B dd 2 0 [some (.inr (.inr (.inl (some 1)))), some (.inl d)] [] h = some (.inl (some (.inl 1)), h) := by
  have := hR.2.1
  rw [m2 hR (by omega) (by omega), if_pos ⟨h1, h2⟩]
theorem m3n {dd : Nat} {h : ab_H} {d : Int} (hR : cs_R h) (r1 : -2147483648 ≤ d) (r2 : d < 2147483648) (hn : ¬ (0 ≤ d ∧ d < ab_gi h 1 1)) : ab_E B dd 3 0 [some (.inr (.inr (.inl (some 1)))), some (.inl d)] [] h = some (.inl (some (.inl 0)), h) := by rw [m3 hR r1 r2, if_neg hn]
theorem m3y {dd : Nat} {h : ab_H} {d : Int} (hR : cs_R h) (h1 : 0 ≤ d) (h2 : d < ab_gi h 1 1) : ab_E B dd 3 0 [some (.inr (.inr (.inl (some 1)))), some (.inl d)] [] h = some (.inl (some (.inl 1)), h) := by
  have := hR.2.1
  rw [m3 hR (by omega) (by omega), if_pos ⟨h1, h2⟩]
theorem m62_2 {dd : Nat} {b v st : Int} {h : ab_H} (i : ci h) (r1 : -2147483648 ≤ b) (r2 : b < 2147483648) (hn : ¬ (0 ≤ b ∧ b < cs_B h)) :
    ab_E B (dd + 2) 62 0 [some (.inr (.inr (.inl (some 0)))), some (.inl b), some (.inl v), some (.inl st), none] [] h = some (.inr 2, ab_cost h 1 6) := by
  have hL := i.1.1
  simp (disch := omega) only [e62_0, e62_1, e62_4, e62_5, e62_8, e62_11, e62_21, e62_22, e62_25, e62_26, e62_29, e62_32, e62_33, e62_36, e62_37, e62_38, e62_41, e62_51, e62_52, e62_55, e62_56, e62_59, e62_61, e62_62, e62_65, e62_68, e62_69, e62_72, e62_74, e62_77, e62_78, e62_81, e62_91, e62_92, e62_93, e62_96, e62_97, e62_100, e62_102, e62_105, e62_106, e62_109, e62_110, e62_111, e62_114, e62_115, e62_116, e62_117, e62_120, e62_121, e62_122, e62_125, e62_126, e62_129, e62_130, e62_131, e62_134, e62_135, e62_138, e62_139, e62_140, e62_143, e62_144, e62_147, e62_150, e62_151, e62_154, e62_155, e62_156, e62_159, e62_160, e62_163, e62_164, implies_true, Int.reduceSub, Option.isNone_some, Option.isNone_none, ab_bh_some, ab_bh_thr, ab_gs_3, ab_gl_2, ab_gl_3, ab_gt_some, ab_gc_0, ab_gk_0, Bool.false_eq_true, Bool.true_eq_false, false_implies, Nat.reduceEqDiff, ab_ge, ab_lt, ab_le, ab_gt, ab_eq, ab_ne, decide_eq_true_eq, ab_w_id, ab_w0, ab_gd_some, ab_gs_0, ab_gs_1, ab_gl_0, ab_gl_1, ab_bv_some, ab_bu_some, ab_bv_thr, ab_bu_thr, ab_fx_n, ab_fx_i, ab_fx_q, ab_fx_l, ab_sh_si, ab_gr_si, ab_gl_si, cs_n, ↓reduceIte, true_or, or_true, false_or, or_false, and_true, true_and, and_false, false_and, not_true_eq_false, not_false_eq_true, eq_self, Int.reduceEq, Int.reduceLT, Int.reduceLE, Int.reduceAdd, Int.reduceMul, Int.reduceNeg, if_pos, if_neg, hL.1, hL.2, m4n i.1 r1 r2 hn]
theorem m62_1 {dd : Nat} {b v st : Int} {h : ab_H} (i : ci h) (h1 : 0 ≤ b) (h2 : b < cs_B h) (v1 : -2147483648 ≤ v) (v2 : v < 2147483648) (t1 : -2147483648 ≤ st) (t2 : st < 2147483648) (hn : ¬ ((0 ≤ v ∧ v ≤ 255) ∧ (0 ≤ st ∧ st ≤ 4))) :
    ab_E B (dd + 2) 62 0 [some (.inr (.inr (.inl (some 0)))), some (.inl b), some (.inl v), some (.inl st), none] [] h = some (.inr 1, ab_cost h 1 6) := by
  have hL := i.1.1
  by_cases c1 : v < 0
  · simp (disch := omega) only [e62_0, e62_1, e62_4, e62_5, e62_8, e62_11, e62_21, e62_22, e62_25, e62_26, e62_29, e62_32, e62_33, e62_36, e62_37, e62_38, e62_41, e62_51, e62_52, e62_55, e62_56, e62_59, e62_61, e62_62, e62_65, e62_68, e62_69, e62_72, e62_74, e62_77, e62_78, e62_81, e62_91, e62_92, e62_93, e62_96, e62_97, e62_100, e62_102, e62_105, e62_106, e62_109, e62_110, e62_111, e62_114, e62_115, e62_116, e62_117, e62_120, e62_121, e62_122, e62_125, e62_126, e62_129, e62_130, e62_131, e62_134, e62_135, e62_138, e62_139, e62_140, e62_143, e62_144, e62_147, e62_150, e62_151, e62_154, e62_155, e62_156, e62_159, e62_160, e62_163, e62_164, implies_true, Int.reduceSub, Option.isNone_some, Option.isNone_none, ab_bh_some, ab_bh_thr, ab_gs_3, ab_gl_2, ab_gl_3, ab_gt_some, ab_gc_0, ab_gk_0, Bool.false_eq_true, Bool.true_eq_false, false_implies, Nat.reduceEqDiff, ab_ge, ab_lt, ab_le, ab_gt, ab_eq, ab_ne, decide_eq_true_eq, ab_w_id, ab_w0, ab_gd_some, ab_gs_0, ab_gs_1, ab_gl_0, ab_gl_1, ab_bv_some, ab_bu_some, ab_bv_thr, ab_bu_thr, ab_fx_n, ab_fx_i, ab_fx_q, ab_fx_l, ab_sh_si, ab_gr_si, ab_gl_si, cs_n, ↓reduceIte, true_or, or_true, false_or, or_false, and_true, true_and, and_false, false_and, not_true_eq_false, not_false_eq_true, eq_self, Int.reduceEq, Int.reduceLT, Int.reduceLE, Int.reduceAdd, Int.reduceMul, Int.reduceNeg, if_pos, if_neg, hL.1, hL.2, m4y i.1 h1 h2]
  by_cases c2 : 255 < v
  · simp (disch := omega) only [e62_0, e62_1, e62_4, e62_5, e62_8, e62_11, e62_21, e62_22, e62_25, e62_26, e62_29, e62_32, e62_33, e62_36, e62_37, e62_38, e62_41, e62_51, e62_52, e62_55, e62_56, e62_59, e62_61, e62_62, e62_65, e62_68, e62_69, e62_72, e62_74, e62_77, e62_78, e62_81, e62_91, e62_92, e62_93, e62_96, e62_97, e62_100, e62_102, e62_105, e62_106, e62_109, e62_110, e62_111, e62_114, e62_115, e62_116, e62_117, e62_120, e62_121, e62_122, e62_125, e62_126, e62_129, e62_130, e62_131, e62_134, e62_135, e62_138, e62_139, e62_140, e62_143, e62_144, e62_147, e62_150, e62_151, e62_154, e62_155, e62_156, e62_159, e62_160, e62_163, e62_164, implies_true, Int.reduceSub, Option.isNone_some, Option.isNone_none, ab_bh_some, ab_bh_thr, ab_gs_3, ab_gl_2, ab_gl_3, ab_gt_some, ab_gc_0, ab_gk_0, Bool.false_eq_true, Bool.true_eq_false, false_implies, Nat.reduceEqDiff, ab_ge, ab_lt, ab_le, ab_gt, ab_eq, ab_ne, decide_eq_true_eq, ab_w_id, ab_w0, ab_gd_some, ab_gs_0, ab_gs_1, ab_gl_0, ab_gl_1, ab_bv_some, ab_bu_some, ab_bv_thr, ab_bu_thr, ab_fx_n, ab_fx_i, ab_fx_q, ab_fx_l, ab_sh_si, ab_gr_si, ab_gl_si, cs_n, ↓reduceIte, true_or, or_true, false_or, or_false, and_true, true_and, and_false, false_and, not_true_eq_false, not_false_eq_true, eq_self, Int.reduceEq, Int.reduceLT, Int.reduceLE, Int.reduceAdd, Int.reduceMul, Int.reduceNeg, if_pos, if_neg, hL.1, hL.2, m4y i.1 h1 h2]
  by_cases c3 : st < 0
  · simp (disch := omega) only [e62_0, e62_1, e62_4, e62_5, e62_8, e62_11, e62_21, e62_22, e62_25, e62_26, e62_29, e62_32, e62_33, e62_36, e62_37, e62_38, e62_41, e62_51, e62_52, e62_55, e62_56, e62_59, e62_61, e62_62, e62_65, e62_68, e62_69, e62_72, e62_74, e62_77, e62_78, e62_81, e62_91, e62_92, e62_93, e62_96, e62_97, e62_100, e62_102, e62_105, e62_106, e62_109, e62_110, e62_111, e62_114, e62_115, e62_116, e62_117, e62_120, e62_121, e62_122, e62_125, e62_126, e62_129, e62_130, e62_131, e62_134, e62_135, e62_138, e62_139, e62_140, e62_143, e62_144, e62_147, e62_150, e62_151, e62_154, e62_155, e62_156, e62_159, e62_160, e62_163, e62_164, implies_true, Int.reduceSub, Option.isNone_some, Option.isNone_none, ab_bh_some, ab_bh_thr, ab_gs_3, ab_gl_2, ab_gl_3, ab_gt_some, ab_gc_0, ab_gk_0, Bool.false_eq_true, Bool.true_eq_false, false_implies, Nat.reduceEqDiff, ab_ge, ab_lt, ab_le, ab_gt, ab_eq, ab_ne, decide_eq_true_eq, ab_w_id, ab_w0, ab_gd_some, ab_gs_0, ab_gs_1, ab_gl_0, ab_gl_1, ab_bv_some, ab_bu_some, ab_bv_thr, ab_bu_thr, ab_fx_n, ab_fx_i, ab_fx_q, ab_fx_l, ab_sh_si, ab_gr_si, ab_gl_si, cs_n, ↓reduceIte, true_or, or_true, false_or, or_false, and_true, true_and, and_false, false_and, not_true_eq_false, not_false_eq_true, eq_self, Int.reduceEq, Int.reduceLT, Int.reduceLE, Int.reduceAdd, Int.reduceMul, Int.reduceNeg, if_pos, if_neg, hL.1, hL.2, m4y i.1 h1 h2]
  · simp (disch := omega) only [e62_0, e62_1, e62_4, e62_5, e62_8, e62_11, e62_21, e62_22, e62_25, e62_26, e62_29, e62_32, e62_33, e62_36, e62_37, e62_38, e62_41, e62_51, e62_52, e62_55, e62_56, e62_59, e62_61, e62_62, e62_65, e62_68, e62_69, e62_72, e62_74, e62_77, e62_78, e62_81, e62_91, e62_92, e62_93, e62_96, e62_97, e62_100, e62_102, e62_105, e62_106, e62_109, e62_110, e62_111, e62_114, e62_115, e62_116, e62_117, e62_120, e62_121, e62_122, e62_125, e62_126, e62_129, e62_130, e62_131, e62_134, e62_135, e62_138, e62_139, e62_140, e62_143, e62_144, e62_147, e62_150, e62_151, e62_154, e62_155, e62_156, e62_159, e62_160, e62_163, e62_164, implies_true, Int.reduceSub, Option.isNone_some, Option.isNone_none, ab_bh_some, ab_bh_thr, ab_gs_3, ab_gl_2, ab_gl_3, ab_gt_some, ab_gc_0, ab_gk_0, Bool.false_eq_true, Bool.true_eq_false, false_implies, Nat.reduceEqDiff, ab_ge, ab_lt, ab_le, ab_gt, ab_eq, ab_ne, decide_eq_true_eq, ab_w_id, ab_w0, ab_gd_some, ab_gs_0, ab_gs_1, ab_gl_0, ab_gl_1, ab_bv_some, ab_bu_some, ab_bv_thr, ab_bu_thr, ab_fx_n, ab_fx_i, ab_fx_q, ab_fx_l, ab_sh_si, ab_gr_si, ab_gl_si, cs_n, ↓reduceIte, true_or, or_true, false_or, or_false, and_true, true_and, and_false, false_and, not_true_eq_false, not_false_eq_true, eq_self, Int.reduceEq, Int.reduceLT, Int.reduceLE, Int.reduceAdd, Int.reduceMul, Int.reduceNeg, if_pos, if_neg, hL.1, hL.2, m4y i.1 h1 h2]
theorem m62_3 {dd : Nat} {b v st : Int} {h : ab_H} (i : ci h) (h1 : 0 ≤ b) (h2 : b < cs_B h) (v1 : 0 ≤ v) (v2 : v ≤ 255) (t1 : 0 ≤ st) (t2 : st ≤ 4) (hn : ab_gi h 0 2 = 0 ∨ 1 < cs_bc h (b / (ab_gi h 1 0 - 1))) :
    ab_E B (dd + 5) 62 0 [some (.inr (.inr (.inl (some 0)))), some (.inl b), some (.inl v), some (.inl st), none] [] h = some (.inr 3, ab_cost h 1 6) := by
  have hL := i.1.1
  obtain ⟨q, hlt, b1, b2, b3, b4, b5, b6⟩ := ci_blk i h1 h2
  have e6 : ∀ d9, ab_E B d9 6 0 [some (.inr (.inr (.inl (some 1)))), some (.inl b)] [] h = some (.inl (some (.inl (b / (ab_gi h 1 0 - 1)))), h) := fun d9 => m6 i.1 q.2.2.2.1 h1 b1
  have hbc := cs_bc_le i.1 (b / (ab_gi h 1 0 - 1))
  have e17 := m17 (B := B) (dd := dd + 2) i.1 b2 b3
  rcases i.2.2.1.1 with con | con
  · simp (disch := omega) only [e62_0, e62_1, e62_4, e62_5, e62_8, e62_11, e62_21, e62_22, e62_25, e62_26, e62_29, e62_32, e62_33, e62_36, e62_37, e62_38, e62_41, e62_51, e62_52, e62_55, e62_56, e62_59, e62_61, e62_62, e62_65, e62_68, e62_69, e62_72, e62_74, e62_77, e62_78, e62_81, e62_91, e62_92, e62_93, e62_96, e62_97, e62_100, e62_102, e62_105, e62_106, e62_109, e62_110, e62_111, e62_114, e62_115, e62_116, e62_117, e62_120, e62_121, e62_122, e62_125, e62_126, e62_129, e62_130, e62_131, e62_134, e62_135, e62_138, e62_139, e62_140, e62_143, e62_144, e62_147, e62_150, e62_151, e62_154, e62_155, e62_156, e62_159, e62_160, e62_163, e62_164, implies_true, Int.reduceSub, Option.isNone_some, Option.isNone_none, ab_bh_some, ab_bh_thr, ab_gs_3, ab_gl_2, ab_gl_3, ab_gt_some, ab_gc_0, ab_gk_0, Bool.false_eq_true, Bool.true_eq_false, false_implies, Nat.reduceEqDiff, ab_ge, ab_lt, ab_le, ab_gt, ab_eq, ab_ne, decide_eq_true_eq, ab_w_id, ab_w0, ab_gd_some, ab_gs_0, ab_gs_1, ab_gl_0, ab_gl_1, ab_bv_some, ab_bu_some, ab_bv_thr, ab_bu_thr, ab_fx_n, ab_fx_i, ab_fx_q, ab_fx_l, ab_sh_si, ab_gr_si, ab_gl_si, cs_n, ↓reduceIte, true_or, or_true, false_or, or_false, and_true, true_and, and_false, false_and, not_true_eq_false, not_false_eq_true, eq_self, Int.reduceEq, Int.reduceLT, Int.reduceLE, Int.reduceAdd, Int.reduceMul, Int.reduceNeg, if_pos, if_neg, hL.1, hL.2, m4y i.1 h1 h2, e6, con]
  · simp (disch := omega) only [e62_0, e62_1, e62_4, e62_5, e62_8, e62_11, e62_21, e62_22, e62_25, e62_26, e62_29, e62_32, e62_33, e62_36, e62_37, e62_38, e62_41, e62_51, e62_52, e62_55, e62_56, e62_59, e62_61, e62_62, e62_65, e62_68, e62_69, e62_72, e62_74, e62_77, e62_78, e62_81, e62_91, e62_92, e62_93, e62_96, e62_97, e62_100, e62_102, e62_105, e62_106, e62_109, e62_110, e62_111, e62_114, e62_115, e62_116, e62_117, e62_120, e62_121, e62_122, e62_125, e62_126, e62_129, e62_130, e62_131, e62_134, e62_135, e62_138, e62_139, e62_140, e62_143, e62_144, e62_147, e62_150, e62_151, e62_154, e62_155, e62_156, e62_159, e62_160, e62_163, e62_164, implies_true, Int.reduceSub, Option.isNone_some, Option.isNone_none, ab_bh_some, ab_bh_thr, ab_gs_3, ab_gl_2, ab_gl_3, ab_gt_some, ab_gc_0, ab_gk_0, Bool.false_eq_true, Bool.true_eq_false, false_implies, Nat.reduceEqDiff, ab_ge, ab_lt, ab_le, ab_gt, ab_eq, ab_ne, decide_eq_true_eq, ab_w_id, ab_w0, ab_gd_some, ab_gs_0, ab_gs_1, ab_gl_0, ab_gl_1, ab_bv_some, ab_bu_some, ab_bv_thr, ab_bu_thr, ab_fx_n, ab_fx_i, ab_fx_q, ab_fx_l, ab_sh_si, ab_gr_si, ab_gl_si, cs_n, ↓reduceIte, true_or, or_true, false_or, or_false, and_true, true_and, and_false, false_and, not_true_eq_false, not_false_eq_true, eq_self, Int.reduceEq, Int.reduceLT, Int.reduceLE, Int.reduceAdd, Int.reduceMul, Int.reduceNeg, if_pos, if_neg, hL.1, hL.2, m4y i.1 h1 h2, e6, con, e17]
theorem m62 {dd : Nat} {b v st : Int} {h : ab_H} (i : ci h) (h1 : 0 ≤ b) (h2 : b < cs_B h) (v1 : 0 ≤ v) (v2 : v ≤ 255) (t1 : 0 ≤ st) (t2 : st ≤ 4) (hon : ab_gi h 0 2 = 1) (hb : ¬ 1 < cs_bc h (b / (ab_gi h 1 0 - 1))) :
    ab_E B (dd + 5) 62 0 [some (.inr (.inr (.inl (some 0)))), some (.inl b), some (.inl v), some (.inl st), none] [] h = some (.inl (some (.inl (if 1 ≤ st then 1 else 0))), cs_wr h b v st) ∧ ci (cs_wr h b v st) ∧ (cs_wr h b v st).2 = h.2 ∧ ∀ c x, 5 ≤ c → ab_gi (cs_wr h b v st) c x = ab_gi h c x := by
  have hL := i.1.1
  obtain ⟨q, hlt, b1, b2, b3, b4, b5, b6⟩ := ci_blk i h1 h2
  have hbc := cs_bc_le i.1 (b / (ab_gi h 1 0 - 1))
  have e6 : ∀ d9, ab_E B d9 6 0 [some (.inr (.inr (.inl (some 1)))), some (.inl b)] [] h = some (.inl (some (.inl (b / (ab_gi h 1 0 - 1)))), h) := fun d9 => m6 i.1 q.2.2.2.1 h1 b1
  have e17 := m17 (B := B) (dd := dd + 2) i.1 b2 b3
  have e27 := m27 (B := B) (dd := dd + 1) i.1 b2 b3
  obtain ⟨im, wm, gm⟩ := cs_me_ok i b2 b3
  have hLm := (cs_mend_ok i.1 b2 b3).1.1
  have eme : ab_si (cs_mend h (b / (ab_gi h 1 0 - 1))).2 0 10 (ab_gi h 0 10 + (cs_mend h (b / (ab_gi h 1 0 - 1))).1) = cs_me h (b / (ab_gi h 1 0 - 1)) := rfl
  have D0 := gm 1 0 (by decide) (by decide) (by decide)
  have S0 := gm 1 1 (by decide) (by decide) (by decide)
  have qm : cs_Q (cs_me h (b / (ab_gi h 1 0 - 1))) (ab_gi h 1 0) (ab_gi h 1 1) := ⟨im.1, D0, S0, q.2.2.2⟩
  have hL2 := im.1.1
  have e89 : ab_E B (dd + 4) 89 0 [some (.inr (.inr (.inl (some 0)))), some (.inl b), some (.inl v), none, none, none] [] (cs_me h (b / (ab_gi h 1 0 - 1))) = some (.inl none, cs_w1 h b v) := m89 (B := B) (dd := dd) (v := v) qm h1 hlt
  obtain ⟨i1, w1, g1, k3, k4, k5, k2⟩ := cs_w1_ok i h1 h2 (by omega) v1 v2
  have hL3 := i1.1.1
  have q1 : cs_Q (cs_w1 h b v) (ab_gi h 1 0) (ab_gi h 1 1) := ⟨i1.1, g1 1 0 (by decide) (by decide) (by decide) (by decide), g1 1 1 (by decide) (by decide) (by decide) (by decide), q.2.2.2⟩
  have e90 := m90 (B := B) (dd := dd + 2) q1 (by rw [k3]; exact h1) (by rw [k3]; exact hlt) (by rw [k4]; exact v1) (by rw [k4]; exact v2)
  rw [k3, k4] at e90
  have e90' : ab_E B (dd + 4) 90 0 [some (.inr (.inr (.inl (some 0))))] [] (cs_w1 h b v) = some (.inl none, cs_w2 h b v) := e90
  have i2 : ci (cs_w2 h b v) := ci_lay i1 v1 v2
  have hL4 := i2.1.1
  have l2 : ∀ c x, c ≠ 2 → c ≠ 3 → ab_gi (cs_w2 h b v) c x = ab_gi (cs_w1 h b v) c x := fun c x c2 c3 => cs_lay_gi c2 c3
  have q2 : cs_Q (cs_w2 h b v) (ab_gi h 1 0) (ab_gi h 1 1) := ⟨i2.1, (l2 1 0 (by decide) (by decide)).trans q1.2.1, (l2 1 1 (by decide) (by decide)).trans q1.2.2.1, q.2.2.2⟩
  have n3 := (l2 0 3 (by decide) (by decide)).trans k3
  have n5 := l2 0 5 (by decide) (by decide)
  have e91 := m91 (B := B) (dd := dd + 2) q2 (by rw [n3]; exact h1) (by rw [n3]; exact hlt) (by rw [n5]; exact k5.1) (by rw [n5]; exact k5.2)
  rw [n3, n5] at e91
  have e91' : ab_E B (dd + 4) 91 0 [some (.inr (.inr (.inl (some 0)))), none] [] (cs_w2 h b v) = some (.inl none, cs_w3 h b v) := e91
  have i3 : ci (cs_w3 h b v) := ci_lay i2 k5.1 k5.2
  have hL5 := i3.1.1
  have e92 := fun d9 => m92 (B := B) (dd := d9) hL5
  have w2 : (cs_w2 h b v).2 = h.2 := cs_lay_2.trans w1
  have w3 : (cs_w3 h b v).2 = h.2 := cs_lay_2.trans w2
  have c2 : ∀ c x, 5 ≤ c → ab_gi (cs_w2 h b v) c x = ab_gi h c x := fun c x hc => (l2 c x (by omega) (by omega)).trans (g1 c x (by omega) (by omega) (by omega) (by omega))
  have c3 : ∀ c x, 5 ≤ c → ab_gi (cs_w3 h b v) c x = ab_gi h c x := fun c x hc => (cs_lay_gi (by omega) (by omega)).trans (c2 c x hc)
  have co : ∀ (g : ab_H) c x, 5 ≤ c → ab_gi (cs_off g) c x = ab_gi g c x := fun g c x hc => by rw [cs_off_gi, if_neg (by omega), if_neg (by omega)]
  have hst : st = 0 ∨ st = 1 ∨ st = 2 ∨ st = 3 ∨ st = 4 := by omega
  rcases hst with c | c | c | c | c <;> subst c
  · rw [cs_wr_0]
    refine ⟨?_, cs_off_ci im, wm, fun c x hc => (co _ c x hc).trans (gm c x (by omega) (by omega) (by omega))⟩
    simp (disch := omega) only [e62_0, e62_1, e62_4, e62_5, e62_8, e62_11, e62_21, e62_22, e62_25, e62_26, e62_29, e62_32, e62_33, e62_36, e62_37, e62_38, e62_41, e62_51, e62_52, e62_55, e62_56, e62_59, e62_61, e62_62, e62_65, e62_68, e62_69, e62_72, e62_74, e62_77, e62_78, e62_81, e62_91, e62_92, e62_93, e62_96, e62_97, e62_100, e62_102, e62_105, e62_106, e62_109, e62_110, e62_111, e62_114, e62_115, e62_116, e62_117, e62_120, e62_121, e62_122, e62_125, e62_126, e62_129, e62_130, e62_131, e62_134, e62_135, e62_138, e62_139, e62_140, e62_143, e62_144, e62_147, e62_150, e62_151, e62_154, e62_155, e62_156, e62_159, e62_160, e62_163, e62_164, implies_true, Int.reduceSub, Option.isNone_some, Option.isNone_none, ab_bh_some, ab_bh_thr, ab_gs_3, ab_gl_2, ab_gl_3, ab_gt_some, ab_gc_0, ab_gk_0, Bool.false_eq_true, Bool.true_eq_false, false_implies, Nat.reduceEqDiff, ab_ge, ab_lt, ab_le, ab_gt, ab_eq, ab_ne, decide_eq_true_eq, ab_w_id, ab_w0, ab_gd_some, ab_gs_0, ab_gs_1, ab_gl_0, ab_gl_1, ab_bv_some, ab_bu_some, ab_bv_thr, ab_bu_thr, ab_fx_n, ab_fx_i, ab_fx_q, ab_fx_l, ab_sh_si, ab_gr_si, ab_gl_si, cs_n, ↓reduceIte, true_or, or_true, false_or, or_false, and_true, true_and, and_false, false_and, not_true_eq_false, not_false_eq_true, eq_self, Int.reduceEq, Int.reduceLT, Int.reduceLE, Int.reduceAdd, Int.reduceMul, Int.reduceNeg, if_pos, if_neg, hL.1, hL.2, m4y i.1 h1 h2, e6, hon, e17, e27, hLm.1, hLm.2, eme, hL2.1, hL2.2, m93' hL2]
  · rw [cs_wr_1]
    refine ⟨?_, cs_off_ci i1, w1, fun c x hc => (co _ c x hc).trans (g1 c x (by omega) (by omega) (by omega) (by omega))⟩
    simp (disch := omega) only [e62_0, e62_1, e62_4, e62_5, e62_8, e62_11, e62_21, e62_22, e62_25, e62_26, e62_29, e62_32, e62_33, e62_36, e62_37, e62_38, e62_41, e62_51, e62_52, e62_55, e62_56, e62_59, e62_61, e62_62, e62_65, e62_68, e62_69, e62_72, e62_74, e62_77, e62_78, e62_81, e62_91, e62_92, e62_93, e62_96, e62_97, e62_100, e62_102, e62_105, e62_106, e62_109, e62_110, e62_111, e62_114, e62_115, e62_116, e62_117, e62_120, e62_121, e62_122, e62_125, e62_126, e62_129, e62_130, e62_131, e62_134, e62_135, e62_138, e62_139, e62_140, e62_143, e62_144, e62_147, e62_150, e62_151, e62_154, e62_155, e62_156, e62_159, e62_160, e62_163, e62_164, implies_true, Int.reduceSub, Option.isNone_some, Option.isNone_none, ab_bh_some, ab_bh_thr, ab_gs_3, ab_gl_2, ab_gl_3, ab_gt_some, ab_gc_0, ab_gk_0, Bool.false_eq_true, Bool.true_eq_false, false_implies, Nat.reduceEqDiff, ab_ge, ab_lt, ab_le, ab_gt, ab_eq, ab_ne, decide_eq_true_eq, ab_w_id, ab_w0, ab_gd_some, ab_gs_0, ab_gs_1, ab_gl_0, ab_gl_1, ab_bv_some, ab_bu_some, ab_bv_thr, ab_bu_thr, ab_fx_n, ab_fx_i, ab_fx_q, ab_fx_l, ab_sh_si, ab_gr_si, ab_gl_si, cs_n, ↓reduceIte, true_or, or_true, false_or, or_false, and_true, true_and, and_false, false_and, not_true_eq_false, not_false_eq_true, eq_self, Int.reduceEq, Int.reduceLT, Int.reduceLE, Int.reduceAdd, Int.reduceMul, Int.reduceNeg, if_pos, if_neg, hL.1, hL.2, m4y i.1 h1 h2, e6, hon, e17, e27, hLm.1, hLm.2, eme, hL2.1, hL2.2, hL3.1, hL3.2, e89, m93' hL3]
  · rw [cs_wr_2]
    refine ⟨?_, cs_off_ci i2, w2, fun c x hc => (co _ c x hc).trans (c2 c x hc)⟩
    simp (disch := omega) only [e62_0, e62_1, e62_4, e62_5, e62_8, e62_11, e62_21, e62_22, e62_25, e62_26, e62_29, e62_32, e62_33, e62_36, e62_37, e62_38, e62_41, e62_51, e62_52, e62_55, e62_56, e62_59, e62_61, e62_62, e62_65, e62_68, e62_69, e62_72, e62_74, e62_77, e62_78, e62_81, e62_91, e62_92, e62_93, e62_96, e62_97, e62_100, e62_102, e62_105, e62_106, e62_109, e62_110, e62_111, e62_114, e62_115, e62_116, e62_117, e62_120, e62_121, e62_122, e62_125, e62_126, e62_129, e62_130, e62_131, e62_134, e62_135, e62_138, e62_139, e62_140, e62_143, e62_144, e62_147, e62_150, e62_151, e62_154, e62_155, e62_156, e62_159, e62_160, e62_163, e62_164, implies_true, Int.reduceSub, Option.isNone_some, Option.isNone_none, ab_bh_some, ab_bh_thr, ab_gs_3, ab_gl_2, ab_gl_3, ab_gt_some, ab_gc_0, ab_gk_0, Bool.false_eq_true, Bool.true_eq_false, false_implies, Nat.reduceEqDiff, ab_ge, ab_lt, ab_le, ab_gt, ab_eq, ab_ne, decide_eq_true_eq, ab_w_id, ab_w0, ab_gd_some, ab_gs_0, ab_gs_1, ab_gl_0, ab_gl_1, ab_bv_some, ab_bu_some, ab_bv_thr, ab_bu_thr, ab_fx_n, ab_fx_i, ab_fx_q, ab_fx_l, ab_sh_si, ab_gr_si, ab_gl_si, cs_n, ↓reduceIte, true_or, or_true, false_or, or_false, and_true, true_and, and_false, false_and, not_true_eq_false, not_false_eq_true, eq_self, Int.reduceEq, Int.reduceLT, Int.reduceLE, Int.reduceAdd, Int.reduceMul, Int.reduceNeg, if_pos, if_neg, hL.1, hL.2, m4y i.1 h1 h2, e6, hon, e17, e27, hLm.1, hLm.2, eme, hL2.1, hL2.2, hL3.1, hL3.2, hL4.1, hL4.2, e89, e90', m93' hL4]
  · rw [cs_wr_3]
    refine ⟨?_, cs_off_ci i3, w3, fun c x hc => (co _ c x hc).trans (c3 c x hc)⟩
    simp (disch := omega) only [e62_0, e62_1, e62_4, e62_5, e62_8, e62_11, e62_21, e62_22, e62_25, e62_26, e62_29, e62_32, e62_33, e62_36, e62_37, e62_38, e62_41, e62_51, e62_52, e62_55, e62_56, e62_59, e62_61, e62_62, e62_65, e62_68, e62_69, e62_72, e62_74, e62_77, e62_78, e62_81, e62_91, e62_92, e62_93, e62_96, e62_97, e62_100, e62_102, e62_105, e62_106, e62_109, e62_110, e62_111, e62_114, e62_115, e62_116, e62_117, e62_120, e62_121, e62_122, e62_125, e62_126, e62_129, e62_130, e62_131, e62_134, e62_135, e62_138, e62_139, e62_140, e62_143, e62_144, e62_147, e62_150, e62_151, e62_154, e62_155, e62_156, e62_159, e62_160, e62_163, e62_164, implies_true, Int.reduceSub, Option.isNone_some, Option.isNone_none, ab_bh_some, ab_bh_thr, ab_gs_3, ab_gl_2, ab_gl_3, ab_gt_some, ab_gc_0, ab_gk_0, Bool.false_eq_true, Bool.true_eq_false, false_implies, Nat.reduceEqDiff, ab_ge, ab_lt, ab_le, ab_gt, ab_eq, ab_ne, decide_eq_true_eq, ab_w_id, ab_w0, ab_gd_some, ab_gs_0, ab_gs_1, ab_gl_0, ab_gl_1, ab_bv_some, ab_bu_some, ab_bv_thr, ab_bu_thr, ab_fx_n, ab_fx_i, ab_fx_q, ab_fx_l, ab_sh_si, ab_gr_si, ab_gl_si, cs_n, ↓reduceIte, true_or, or_true, false_or, or_false, and_true, true_and, and_false, false_and, not_true_eq_false, not_false_eq_true, eq_self, Int.reduceEq, Int.reduceLT, Int.reduceLE, Int.reduceAdd, Int.reduceMul, Int.reduceNeg, if_pos, if_neg, hL.1, hL.2, m4y i.1 h1 h2, e6, hon, e17, e27, hLm.1, hLm.2, eme, hL2.1, hL2.2, hL3.1, hL3.2, hL4.1, hL4.2, hL5.1, hL5.2, e89, e90', e91', m93' hL5]
  · rw [cs_wr_4]
    refine ⟨?_, ci_dp i3, w3, fun c x hc => ?_⟩
    · unfold cs_dp
      simp (disch := omega) only [e62_0, e62_1, e62_4, e62_5, e62_8, e62_11, e62_21, e62_22, e62_25, e62_26, e62_29, e62_32, e62_33, e62_36, e62_37, e62_38, e62_41, e62_51, e62_52, e62_55, e62_56, e62_59, e62_61, e62_62, e62_65, e62_68, e62_69, e62_72, e62_74, e62_77, e62_78, e62_81, e62_91, e62_92, e62_93, e62_96, e62_97, e62_100, e62_102, e62_105, e62_106, e62_109, e62_110, e62_111, e62_114, e62_115, e62_116, e62_117, e62_120, e62_121, e62_122, e62_125, e62_126, e62_129, e62_130, e62_131, e62_134, e62_135, e62_138, e62_139, e62_140, e62_143, e62_144, e62_147, e62_150, e62_151, e62_154, e62_155, e62_156, e62_159, e62_160, e62_163, e62_164, implies_true, Int.reduceSub, Option.isNone_some, Option.isNone_none, ab_bh_some, ab_bh_thr, ab_gs_3, ab_gl_2, ab_gl_3, ab_gt_some, ab_gc_0, ab_gk_0, Bool.false_eq_true, Bool.true_eq_false, false_implies, Nat.reduceEqDiff, ab_ge, ab_lt, ab_le, ab_gt, ab_eq, ab_ne, decide_eq_true_eq, ab_w_id, ab_w0, ab_gd_some, ab_gs_0, ab_gs_1, ab_gl_0, ab_gl_1, ab_bv_some, ab_bu_some, ab_bv_thr, ab_bu_thr, ab_fx_n, ab_fx_i, ab_fx_q, ab_fx_l, ab_sh_si, ab_gr_si, ab_gl_si, cs_n, ↓reduceIte, true_or, or_true, false_or, or_false, and_true, true_and, and_false, false_and, not_true_eq_false, not_false_eq_true, eq_self, Int.reduceEq, Int.reduceLT, Int.reduceLE, Int.reduceAdd, Int.reduceMul, Int.reduceNeg, if_pos, if_neg, hL.1, hL.2, m4y i.1 h1 h2, e6, hon, e17, e27, hLm.1, hLm.2, eme, hL2.1, hL2.2, hL3.1, hL3.2, hL4.1, hL4.2, hL5.1, hL5.2, e89, e90', e91', e92]
    · unfold cs_dp
      rw [ab_gi_si, if_neg (by omega), ab_gi_si, if_neg (by omega), ab_gi_si, if_neg (by omega)]
      exact c3 c x hc
/-! reading -/
def cs_re (h : ab_H) (b : Int) : ab_H := ab_si (if cs_b h (cs_dk (ab_gi h 1 0) b) (b / (ab_gi h 1 0 - 1)) = 1 then cs_me h (b / (ab_gi h 1 0 - 1)) else h) 0 9 (ab_gi h 0 9 + 1)
theorem m63_2 {dd : Nat} {b : Int} {h : ab_H} (i : ci h) (r1 : -2147483648 ≤ b) (r2 : b < 2147483648) (hn : ¬ (0 ≤ b ∧ b < cs_B h)) :
    ab_E B (dd + 2) 63 0 [some (.inr (.inr (.inl (some 0)))), some (.inl b), none, none, none] [] h = some (.inr 2, ab_cost h 1 6) := by
  have hL := i.1.1
  simp (disch := omega) only [e63_0, e63_1, e63_4, e63_5, e63_8, e63_11, e63_21, e63_22, e63_25, e63_28, e63_38, e63_39, e63_42, e63_43, e63_46, e63_47, e63_48, e63_51, e63_52, e63_55, e63_56, e63_57, e63_60, e63_61, e63_62, e63_65, e63_67, e63_68, e63_71, e63_72, e63_73, e63_76, e63_79, e63_80, e63_81, e63_84, e63_85, e63_88, e63_89, e63_92, e63_93, e63_96, e63_97, e63_98, e63_101, e63_102, e63_103, e63_106, e63_108, implies_true, Int.reduceSub, Option.isNone_some, Option.isNone_none, ab_bh_some, ab_bh_thr, ab_gs_3, ab_gl_2, ab_gl_3, ab_gt_some, ab_gc_0, ab_gk_0, Bool.false_eq_true, Bool.true_eq_false, false_implies, Nat.reduceEqDiff, ab_ge, ab_lt, ab_le, ab_gt, ab_eq, ab_ne, decide_eq_true_eq, ab_w_id, ab_w0, ab_gd_some, ab_gs_0, ab_gs_1, ab_gl_0, ab_gl_1, ab_bv_some, ab_bu_some, ab_bv_thr, ab_bu_thr, ab_fx_n, ab_fx_i, ab_fx_q, ab_fx_l, ab_sh_si, ab_gr_si, ab_gl_si, cs_n, ↓reduceIte, true_or, or_true, false_or, or_false, and_true, true_and, and_false, false_and, not_true_eq_false, not_false_eq_true, eq_self, Int.reduceEq, Int.reduceLT, Int.reduceLE, Int.reduceAdd, Int.reduceMul, Int.reduceNeg, if_pos, if_neg, hL.1, hL.2, m4n i.1 r1 r2 hn]
theorem m63_3 {dd : Nat} {b : Int} {h : ab_H} (i : ci h) (h1 : 0 ≤ b) (h2 : b < cs_B h) (hn : ab_gi h 0 2 = 0) :
    ab_E B (dd + 2) 63 0 [some (.inr (.inr (.inl (some 0)))), some (.inl b), none, none, none] [] h = some (.inr 3, ab_cost h 1 6) := by
  have hL := i.1.1
  simp (disch := omega) only [e63_0, e63_1, e63_4, e63_5, e63_8, e63_11, e63_21, e63_22, e63_25, e63_28, e63_38, e63_39, e63_42, e63_43, e63_46, e63_47, e63_48, e63_51, e63_52, e63_55, e63_56, e63_57, e63_60, e63_61, e63_62, e63_65, e63_67, e63_68, e63_71, e63_72, e63_73, e63_76, e63_79, e63_80, e63_81, e63_84, e63_85, e63_88, e63_89, e63_92, e63_93, e63_96, e63_97, e63_98, e63_101, e63_102, e63_103, e63_106, e63_108, implies_true, Int.reduceSub, Option.isNone_some, Option.isNone_none, ab_bh_some, ab_bh_thr, ab_gs_3, ab_gl_2, ab_gl_3, ab_gt_some, ab_gc_0, ab_gk_0, Bool.false_eq_true, Bool.true_eq_false, false_implies, Nat.reduceEqDiff, ab_ge, ab_lt, ab_le, ab_gt, ab_eq, ab_ne, decide_eq_true_eq, ab_w_id, ab_w0, ab_gd_some, ab_gs_0, ab_gs_1, ab_gl_0, ab_gl_1, ab_bv_some, ab_bu_some, ab_bv_thr, ab_bu_thr, ab_fx_n, ab_fx_i, ab_fx_q, ab_fx_l, ab_sh_si, ab_gr_si, ab_gl_si, cs_n, ↓reduceIte, true_or, or_true, false_or, or_false, and_true, true_and, and_false, false_and, not_true_eq_false, not_false_eq_true, eq_self, Int.reduceEq, Int.reduceLT, Int.reduceLE, Int.reduceAdd, Int.reduceMul, Int.reduceNeg, if_pos, if_neg, hL.1, hL.2, m4y i.1 h1 h2, hn]
theorem ci_si0 {h : ab_H} {k v : Int} (i : ci h) (hk : ¬ (2 ≤ k ∧ k ≤ 7)) : ci (ab_si h 0 k v) := ci_rk i (cs_R_six i.1 (by decide) (by decide) (by decide) (by decide) (by decide)) (fun c x q => by rw [ab_gi_si, if_neg (by omega)]) (fun x x1 x2 => by rw [ab_gi_si, if_neg (by omega)])
theorem m63 {dd : Nat} {b : Int} {h : ab_H} (i : ci h) (h1 : 0 ≤ b) (h2 : b < cs_B h) (hon : ab_gi h 0 2 = 1) :
    ab_E B (dd + 5) 63 0 [some (.inr (.inr (.inl (some 0)))), some (.inl b), none, none, none] [] h = some (.inl (some (.inl (cs_sh h (cs_dk (ab_gi h 1 0) b) (b / (ab_gi h 1 0 - 1))))), cs_re h b) ∧ ci (cs_re h b) ∧ (cs_re h b).2 = h.2 ∧ ∀ c x, 5 ≤ c → ab_gi (cs_re h b) c x = ab_gi h c x := by
  have hL := i.1.1
  obtain ⟨q, hlt, b1, b2, b3, b4, b5, b6⟩ := ci_blk i h1 h2
  have e6 : ∀ d9, ab_E B d9 6 0 [some (.inr (.inr (.inl (some 1)))), some (.inl b)] [] h = some (.inl (some (.inl (b / (ab_gi h 1 0 - 1)))), h) := fun d9 => m6 i.1 q.2.2.2.1 h1 b1
  have e7 : ∀ d9, ab_E B (d9 + 1) 7 0 [some (.inr (.inr (.inl (some 1)))), some (.inl b), none] [] h = some (.inl (some (.inl (cs_dk (ab_gi h 1 0) b))), h) := fun d9 => m7 i.1 q.2.2.2.1 h1 b1
  have e24 := m24 (B := B) (dd := dd + 1) i.1 b4 b5 b2 b3
  have e15 := m15 (B := B) (dd := dd + 3) i.1 b4 b5 b2 b3
  have e27 := m27 (B := B) (dd := dd + 1) i.1 b2 b3
  obtain ⟨im, wm, gm⟩ := cs_me_ok i b2 b3
  have hLm := (cs_mend_ok i.1 b2 b3).1.1
  have eme : ab_si (cs_mend h (b / (ab_gi h 1 0 - 1))).2 0 10 (ab_gi h 0 10 + (cs_mend h (b / (ab_gi h 1 0 - 1))).1) = cs_me h (b / (ab_gi h 1 0 - 1)) := rfl
  have hL2 := im.1.1
  unfold cs_re
  rcases cs_b01 h (cs_dk (ab_gi h 1 0) b) (b / (ab_gi h 1 0 - 1)) with hb | hb
  · rw [if_neg (by omega)]
    refine ⟨?_, ci_si0 i (by omega), rfl, fun c x hc => by rw [ab_gi_si, if_neg (by omega)]⟩
    simp (disch := omega) only [e63_0, e63_1, e63_4, e63_5, e63_8, e63_11, e63_21, e63_22, e63_25, e63_28, e63_38, e63_39, e63_42, e63_43, e63_46, e63_47, e63_48, e63_51, e63_52, e63_55, e63_56, e63_57, e63_60, e63_61, e63_62, e63_65, e63_67, e63_68, e63_71, e63_72, e63_73, e63_76, e63_79, e63_80, e63_81, e63_84, e63_85, e63_88, e63_89, e63_92, e63_93, e63_96, e63_97, e63_98, e63_101, e63_102, e63_103, e63_106, e63_108, implies_true, Int.reduceSub, Option.isNone_some, Option.isNone_none, ab_bh_some, ab_bh_thr, ab_gs_3, ab_gl_2, ab_gl_3, ab_gt_some, ab_gc_0, ab_gk_0, Bool.false_eq_true, Bool.true_eq_false, false_implies, Nat.reduceEqDiff, ab_ge, ab_lt, ab_le, ab_gt, ab_eq, ab_ne, decide_eq_true_eq, ab_w_id, ab_w0, ab_gd_some, ab_gs_0, ab_gs_1, ab_gl_0, ab_gl_1, ab_bv_some, ab_bu_some, ab_bv_thr, ab_bu_thr, ab_fx_n, ab_fx_i, ab_fx_q, ab_fx_l, ab_sh_si, ab_gr_si, ab_gl_si, cs_n, ↓reduceIte, true_or, or_true, false_or, or_false, and_true, true_and, and_false, false_and, not_true_eq_false, not_false_eq_true, eq_self, Int.reduceEq, Int.reduceLT, Int.reduceLE, Int.reduceAdd, Int.reduceMul, Int.reduceNeg, if_pos, if_neg, hL.1, hL.2, m4y i.1 h1 h2, e6, e7, hon, e24, e15, hb]
  · rw [if_pos hb]
    have g9 := gm 0 9 (by decide) (by decide) (by decide)
    refine ⟨?_, ci_si0 im (by omega), wm, fun c x hc => by rw [ab_gi_si, if_neg (by omega), gm c x (by omega) (by omega) (by omega)]⟩
    simp (disch := omega) only [e63_0, e63_1, e63_4, e63_5, e63_8, e63_11, e63_21, e63_22, e63_25, e63_28, e63_38, e63_39, e63_42, e63_43, e63_46, e63_47, e63_48, e63_51, e63_52, e63_55, e63_56, e63_57, e63_60, e63_61, e63_62, e63_65, e63_67, e63_68, e63_71, e63_72, e63_73, e63_76, e63_79, e63_80, e63_81, e63_84, e63_85, e63_88, e63_89, e63_92, e63_93, e63_96, e63_97, e63_98, e63_101, e63_102, e63_103, e63_106, e63_108, implies_true, Int.reduceSub, Option.isNone_some, Option.isNone_none, ab_bh_some, ab_bh_thr, ab_gs_3, ab_gl_2, ab_gl_3, ab_gt_some, ab_gc_0, ab_gk_0, Bool.false_eq_true, Bool.true_eq_false, false_implies, Nat.reduceEqDiff, ab_ge, ab_lt, ab_le, ab_gt, ab_eq, ab_ne, decide_eq_true_eq, ab_w_id, ab_w0, ab_gd_some, ab_gs_0, ab_gs_1, ab_gl_0, ab_gl_1, ab_bv_some, ab_bu_some, ab_bv_thr, ab_bu_thr, ab_fx_n, ab_fx_i, ab_fx_q, ab_fx_l, ab_sh_si, ab_gr_si, ab_gl_si, cs_n, ↓reduceIte, true_or, or_true, false_or, or_false, and_true, true_and, and_false, false_and, not_true_eq_false, not_false_eq_true, eq_self, Int.reduceEq, Int.reduceLT, Int.reduceLE, Int.reduceAdd, Int.reduceMul, Int.reduceNeg, if_pos, if_neg, hL.1, hL.2, m4y i.1 h1 h2, e6, e7, hon, e24, e15, hb, e27, hLm.1, hLm.2, eme, hL2.1, hL2.2, g9]
/-! disks fail and are swapped -/
theorem m64_2 {dd : Nat} {d : Int} {h : ab_H} (i : ci h) (r1 : -2147483648 ≤ d) (r2 : d < 2147483648) (hn : ¬ (0 ≤ d ∧ d < ab_gi h 1 0)) :
    ab_E B (dd + 1) 64 0 [some (.inr (.inr (.inl (some 0)))), some (.inl d)] [] h = some (.inr 2, ab_cost h 1 6) := by
  have hL := i.1.1
  simp (disch := omega) only [e64_0, e64_1, e64_4, e64_5, e64_8, e64_11, e64_21, e64_22, e64_25, e64_26, e64_29, e64_32, e64_42, e64_43, e64_46, e64_47, e64_50, e64_51, e64_54, e64_55, e64_56, e64_59, implies_true, Int.reduceSub, Option.isNone_some, Option.isNone_none, ab_bh_some, ab_bh_thr, ab_gs_3, ab_gl_2, ab_gl_3, ab_gt_some, ab_gc_0, ab_gk_0, Bool.false_eq_true, Bool.true_eq_false, false_implies, Nat.reduceEqDiff, ab_ge, ab_lt, ab_le, ab_gt, ab_eq, ab_ne, decide_eq_true_eq, ab_w_id, ab_w0, ab_gd_some, ab_gs_0, ab_gs_1, ab_gl_0, ab_gl_1, ab_bv_some, ab_bu_some, ab_bv_thr, ab_bu_thr, ab_fx_n, ab_fx_i, ab_fx_q, ab_fx_l, ab_sh_si, ab_gr_si, ab_gl_si, cs_n, ↓reduceIte, true_or, or_true, false_or, or_false, and_true, true_and, and_false, false_and, not_true_eq_false, not_false_eq_true, eq_self, Int.reduceEq, Int.reduceLT, Int.reduceLE, Int.reduceAdd, Int.reduceMul, Int.reduceNeg, if_pos, if_neg, hL.1, hL.2, m2n i.1 r1 r2 hn]
theorem m64_3 {dd : Nat} {d : Int} {h : ab_H} (i : ci h) (h1 : 0 ≤ d) (h2 : d < ab_gi h 1 0) (hn : ab_gi h 5 d = 1) :
    ab_E B (dd + 1) 64 0 [some (.inr (.inr (.inl (some 0)))), some (.inl d)] [] h = some (.inr 3, ab_cost h 1 6) := by
  have hL := i.1.1
  have hD := i.1.2.1
  have e13 := m13 (B := B) (dd := dd) hL h1 (show d < 5 by omega) (Or.inr hn)
  simp (disch := omega) only [e64_0, e64_1, e64_4, e64_5, e64_8, e64_11, e64_21, e64_22, e64_25, e64_26, e64_29, e64_32, e64_42, e64_43, e64_46, e64_47, e64_50, e64_51, e64_54, e64_55, e64_56, e64_59, implies_true, Int.reduceSub, Option.isNone_some, Option.isNone_none, ab_bh_some, ab_bh_thr, ab_gs_3, ab_gl_2, ab_gl_3, ab_gt_some, ab_gc_0, ab_gk_0, Bool.false_eq_true, Bool.true_eq_false, false_implies, Nat.reduceEqDiff, ab_ge, ab_lt, ab_le, ab_gt, ab_eq, ab_ne, decide_eq_true_eq, ab_w_id, ab_w0, ab_gd_some, ab_gs_0, ab_gs_1, ab_gl_0, ab_gl_1, ab_bv_some, ab_bu_some, ab_bv_thr, ab_bu_thr, ab_fx_n, ab_fx_i, ab_fx_q, ab_fx_l, ab_sh_si, ab_gr_si, ab_gl_si, cs_n, ↓reduceIte, true_or, or_true, false_or, or_false, and_true, true_and, and_false, false_and, not_true_eq_false, not_false_eq_true, eq_self, Int.reduceEq, Int.reduceLT, Int.reduceLE, Int.reduceAdd, Int.reduceMul, Int.reduceNeg, if_pos, if_neg, hL.1, hL.2, m2y i.1 h1 h2, e13, hn]
theorem m64 {dd : Nat} {d : Int} {h : ab_H} (i : ci h) (h1 : 0 ≤ d) (h2 : d < ab_gi h 1 0) (hn : ab_gi h 5 d = 0) :
    ab_E B (dd + 5) 64 0 [some (.inr (.inr (.inl (some 0)))), some (.inl d)] [] h = some (.inl (some (.inl (cs_lost (ab_si h 5 d 1) (-1) (-1)))), ab_si h 5 d 1) ∧ ci (ab_si h 5 d 1) := by
  have hL := i.1.1
  have hD := i.1.2.1
  have e13 := m13 (B := B) (dd := dd + 4) hL h1 (show d < 5 by omega) (Or.inl hn)
  have e28 := m28 (B := B) (dd := dd + 3) i.1 h1 h2
  have hR' : cs_R (ab_si h 5 d 1) := cs_R_si5 i.1 (Or.inr rfl)
  refine ⟨?_, ci_rk i hR' (fun c x q => by rw [ab_gi_si, if_neg (by omega)]) (fun x _ _ => by rw [ab_gi_si, if_neg (by omega)])⟩
  simp (disch := omega) only [e64_0, e64_1, e64_4, e64_5, e64_8, e64_11, e64_21, e64_22, e64_25, e64_26, e64_29, e64_32, e64_42, e64_43, e64_46, e64_47, e64_50, e64_51, e64_54, e64_55, e64_56, e64_59, implies_true, Int.reduceSub, Option.isNone_some, Option.isNone_none, ab_bh_some, ab_bh_thr, ab_gs_3, ab_gl_2, ab_gl_3, ab_gt_some, ab_gc_0, ab_gk_0, Bool.false_eq_true, Bool.true_eq_false, false_implies, Nat.reduceEqDiff, ab_ge, ab_lt, ab_le, ab_gt, ab_eq, ab_ne, decide_eq_true_eq, ab_w_id, ab_w0, ab_gd_some, ab_gs_0, ab_gs_1, ab_gl_0, ab_gl_1, ab_bv_some, ab_bu_some, ab_bv_thr, ab_bu_thr, ab_fx_n, ab_fx_i, ab_fx_q, ab_fx_l, ab_sh_si, ab_gr_si, ab_gl_si, cs_n, ↓reduceIte, true_or, or_true, false_or, or_false, and_true, true_and, and_false, false_and, not_true_eq_false, not_false_eq_true, eq_self, Int.reduceEq, Int.reduceLT, Int.reduceLE, Int.reduceAdd, Int.reduceMul, Int.reduceNeg, if_pos, if_neg, hL.1, hL.2, m2y i.1 h1 h2, e13, hn, e28, m23 hR' (show -1 ≤ (-1 : Int) by omega) (show (-1 : Int) < 8 by omega) (show -1 ≤ (-1 : Int) by omega) (show (-1 : Int) < 8 by omega)]
theorem m65_2 {dd : Nat} {d : Int} {h : ab_H} (i : ci h) (r1 : -2147483648 ≤ d) (r2 : d < 2147483648) (hn : ¬ (0 ≤ d ∧ d < ab_gi h 1 0)) :
    ab_E B (dd + 1) 65 0 [some (.inr (.inr (.inl (some 0)))), some (.inl d)] [] h = some (.inr 2, ab_cost h 1 6) := by
  have hL := i.1.1
  simp (disch := omega) only [e65_0, e65_1, e65_4, e65_5, e65_8, e65_11, e65_21, e65_22, e65_25, e65_26, e65_29, e65_30, e65_31, e65_34, e65_35, e65_38, e65_39, e65_40, e65_43, implies_true, Int.reduceSub, Option.isNone_some, Option.isNone_none, ab_bh_some, ab_bh_thr, ab_gs_3, ab_gl_2, ab_gl_3, ab_gt_some, ab_gc_0, ab_gk_0, Bool.false_eq_true, Bool.true_eq_false, false_implies, Nat.reduceEqDiff, ab_ge, ab_lt, ab_le, ab_gt, ab_eq, ab_ne, decide_eq_true_eq, ab_w_id, ab_w0, ab_gd_some, ab_gs_0, ab_gs_1, ab_gl_0, ab_gl_1, ab_bv_some, ab_bu_some, ab_bv_thr, ab_bu_thr, ab_fx_n, ab_fx_i, ab_fx_q, ab_fx_l, ab_sh_si, ab_gr_si, ab_gl_si, cs_n, ↓reduceIte, true_or, or_true, false_or, or_false, and_true, true_and, and_false, false_and, not_true_eq_false, not_false_eq_true, eq_self, Int.reduceEq, Int.reduceLT, Int.reduceLE, Int.reduceAdd, Int.reduceMul, Int.reduceNeg, if_pos, if_neg, hL.1, hL.2, m2n i.1 r1 r2 hn]
theorem cs_wipe_ok {d : Int} (d1 : 0 ≤ d) : ∀ (k : Nat) (h : ab_H) (t : Int), 0 ≤ t → t + k ≤ 8 → cs_R h → cs_R (cs_wipe d h t k) ∧ (cs_wipe d h t k).2 = h.2 ∧ (∀ c x, c ≠ 2 → c ≠ 3 → ab_gi (cs_wipe d h t k) c x = ab_gi h c x) ∧ (∀ x, ab_gi (cs_wipe d h t k) 3 x = if d * 8 + t ≤ x ∧ x < d * 8 + t + k then -1 else ab_gi h 3 x) ∧ (∀ x, ab_gi (cs_wipe d h t k) 2 x = if d * 8 + t ≤ x ∧ x < d * 8 + t + k then 0 else ab_gi h 2 x)
  | 0, h, t, t1, t2, hR => ⟨hR, rfl, fun _ _ _ _ => rfl, fun x => by rw [if_neg (by omega)]; rfl, fun x => by rw [if_neg (by omega)]; rfl⟩
  | k + 1, h, t, t1, t2, hR => by
    obtain ⟨a1, a2, a3, a4, a5⟩ := cs_wipe_ok (d := d) d1 k (ab_si (ab_si h 2 (d * 8 + t) 0) 3 (d * 8 + t) (-1)) (t + 1) (by omega) (by omega) (cs_R_si3 (cs_R_si2 hR (by omega) (by omega)) (by omega) (by omega))
    unfold cs_wipe
    refine ⟨a1, a2, fun c x c2 c3 => ?_, fun x => ?_, fun x => ?_⟩
    · rw [a3 c x c2 c3, ab_gi_si, if_neg (fun z => c3 z.1), ab_gi_si, if_neg (fun z => c2 z.1)]
    · rw [a4 x, ab_gi_si, ab_gi_si]
      repeat' split
      all_goals first | rfl | (exfalso; omega)
    · rw [a5 x, ab_gi_si, ab_gi_si]
      repeat' split
      all_goals first | rfl | (exfalso; omega)
theorem cs_put_ok {h : ab_H} {d : Int} (hR : cs_R h) (d1 : 0 ≤ d) (d2 : d < ab_gi h 1 0) : cs_R (cs_put h d) ∧ (cs_put h d).2 = h.2 ∧ ∀ c x, ab_gi (cs_put h d) c x = if c = 3 ∧ d * 8 ≤ x ∧ x < d * 8 + ab_gi h 1 1 then -1 else if c = 2 ∧ d * 8 ≤ x ∧ x < d * 8 + ab_gi h 1 1 then 0 else if c = 6 ∧ x = d then ab_gi h 6 d + 1 else if c = 5 ∧ x = d then 0 else ab_gi h c x := by
  have hD := hR.2.1
  have hR0 : cs_R (ab_si (ab_si h 5 d 0) 6 d (ab_gi h 6 d + 1)) := cs_R_six (cs_R_si5 hR (Or.inl rfl)) (by decide) (by decide) (by decide) (by decide) (by decide)
  obtain ⟨p1, p2, p3, p4, p5⟩ := cs_wipe_ok d1 (ab_gi h 1 1).toNat _ 0 (by omega) (by omega) hR0
  refine ⟨p1, p2, fun c x => ?_⟩
  unfold cs_put
  by_cases c3 : c = 3
  · subst c3
    rw [p4, ab_gi_si, ab_gi_si]
    repeat' split
    all_goals first | rfl | (exfalso; omega)
  · by_cases c2 : c = 2
    · subst c2
      rw [p5, ab_gi_si, ab_gi_si]
      repeat' split
      all_goals first | rfl | (exfalso; omega)
    · rw [p3 c x c2 c3, ab_gi_si, ab_gi_si, if_neg (fun q : c = 3 ∧ _ => c3 q.1), if_neg (fun q : c = 2 ∧ _ => c2 q.1)]
theorem m65 {dd : Nat} {d : Int} {h : ab_H} (i : ci h) (h1 : 0 ≤ d) (h2 : d < ab_gi h 1 0) :
    ab_E B (dd + 5) 65 0 [some (.inr (.inr (.inl (some 0)))), some (.inl d)] [] h = some (.inl (some (.inl (cs_lost (ab_si (cs_put h d) 0 6 0) (-1) (-1)))), ab_si (cs_put h d) 0 6 0) ∧ ci (ab_si (cs_put h d) 0 6 0) := by
  have hL := i.1.1
  obtain ⟨p1, p2, p3⟩ := cs_put_ok i.1 h1 h2
  have e29 := m29 (B := B) (dd := dd + 3) i.1 h1 h2
  have hLp := p1.1
  have hR2 : cs_R (ab_si (cs_put h d) 0 6 0) := cs_R_six p1 (by decide) (by decide) (by decide) (by decide) (by decide)
  have hL2 := hR2.1
  have gc : ∀ c x, c ≠ 2 → c ≠ 3 → c ≠ 5 → c ≠ 6 → ab_gi (cs_put h d) c x = ab_gi h c x := fun c x c2 c3 c5 c6 => by rw [p3, if_neg (by omega), if_neg (by omega), if_neg (by omega), if_neg (by omega)]
  have g0 : ∀ x, x ≠ 6 → ab_gi (ab_si (cs_put h d) 0 6 0) 0 x = ab_gi h 0 x := fun x hx => by rw [ab_gi_si, if_neg (by omega), gc 0 x (by decide) (by decide) (by decide) (by decide)]
  have g1 : ∀ c x, c = 1 ∨ 7 ≤ c → ab_gi (ab_si (cs_put h d) 0 6 0) c x = ab_gi h c x := fun c x hc => by rw [ab_gi_si, if_neg (by omega), gc c x (by omega) (by omega) (by omega) (by omega)]
  refine ⟨?_, ci_of i hR2 (fun x => g1 1 x (Or.inl rfl)) (fun c x c1 _ => g1 c x (Or.inr c1)) (by rw [g0 2 (by decide)]; exact i.2.2.1) (cn_of i.2.2.2.1 (cs_B_of (g1 1 0 (Or.inl rfl)) (g1 1 1 (Or.inl rfl))) (fun x x1 x2 => g0 x (by omega))) (by rw [ab_gi_si, if_pos ⟨rfl, rfl⟩]; omega) (by rw [g0 7 (by decide)]; exact i.2.2.2.2.2)⟩
  simp (disch := omega) only [e65_0, e65_1, e65_4, e65_5, e65_8, e65_11, e65_21, e65_22, e65_25, e65_26, e65_29, e65_30, e65_31, e65_34, e65_35, e65_38, e65_39, e65_40, e65_43, implies_true, Int.reduceSub, Option.isNone_some, Option.isNone_none, ab_bh_some, ab_bh_thr, ab_gs_3, ab_gl_2, ab_gl_3, ab_gt_some, ab_gc_0, ab_gk_0, Bool.false_eq_true, Bool.true_eq_false, false_implies, Nat.reduceEqDiff, ab_ge, ab_lt, ab_le, ab_gt, ab_eq, ab_ne, decide_eq_true_eq, ab_w_id, ab_w0, ab_gd_some, ab_gs_0, ab_gs_1, ab_gl_0, ab_gl_1, ab_bv_some, ab_bu_some, ab_bv_thr, ab_bu_thr, ab_fx_n, ab_fx_i, ab_fx_q, ab_fx_l, ab_sh_si, ab_gr_si, ab_gl_si, cs_n, ↓reduceIte, true_or, or_true, false_or, or_false, and_true, true_and, and_false, false_and, not_true_eq_false, not_false_eq_true, eq_self, Int.reduceEq, Int.reduceLT, Int.reduceLE, Int.reduceAdd, Int.reduceMul, Int.reduceNeg, if_pos, if_neg, hL.1, hL.2, m2y i.1 h1 h2, e29, hLp.1, hLp.2, hL2.1, hL2.2, m23 hR2 (show -1 ≤ (-1 : Int) by omega) (show (-1 : Int) < 8 by omega) (show -1 ≤ (-1 : Int) by omega) (show (-1 : Int) < 8 by omega)]
/-! bits turn -/
theorem m66_2 {dd : Nat} {d s b : Int} {h : ab_H} (i : ci h) (r1 : -2147483648 ≤ d) (r2 : d < 2147483648) (t1 : -2147483648 ≤ s) (t2 : s < 2147483648) (hn : ¬ ((0 ≤ d ∧ d < ab_gi h 1 0) ∧ (0 ≤ s ∧ s < ab_gi h 1 1))) :
    ab_E B (dd + 1) 66 0 [some (.inr (.inr (.inl (some 0)))), some (.inl d), some (.inl s), some (.inl b)] [] h = some (.inr 2, ab_cost h 1 6) := by
  have hL := i.1.1
  by_cases c : 0 ≤ d ∧ d < ab_gi h 1 0
  · simp (disch := omega) only [e66_0, e66_1, e66_4, e66_5, e66_8, e66_11, e66_12, e66_15, e66_16, e66_19, e66_22, e66_32, e66_33, e66_34, e66_37, e66_38, e66_41, e66_44, e66_54, e66_55, e66_58, e66_59, e66_62, e66_65, e66_75, e66_76, e66_79, e66_80, e66_81, e66_82, e66_85, e66_86, e66_89, e66_90, e66_91, e66_94, implies_true, Int.reduceSub, Option.isNone_some, Option.isNone_none, ab_bh_some, ab_bh_thr, ab_gs_3, ab_gl_2, ab_gl_3, ab_gt_some, ab_gc_0, ab_gk_0, Bool.false_eq_true, Bool.true_eq_false, false_implies, Nat.reduceEqDiff, ab_ge, ab_lt, ab_le, ab_gt, ab_eq, ab_ne, decide_eq_true_eq, ab_w_id, ab_w0, ab_gd_some, ab_gs_0, ab_gs_1, ab_gl_0, ab_gl_1, ab_bv_some, ab_bu_some, ab_bv_thr, ab_bu_thr, ab_fx_n, ab_fx_i, ab_fx_q, ab_fx_l, ab_sh_si, ab_gr_si, ab_gl_si, cs_n, ↓reduceIte, true_or, or_true, false_or, or_false, and_true, true_and, and_false, false_and, not_true_eq_false, not_false_eq_true, eq_self, Int.reduceEq, Int.reduceLT, Int.reduceLE, Int.reduceAdd, Int.reduceMul, Int.reduceNeg, if_pos, if_neg, hL.1, hL.2, m2y i.1 c.1 c.2, m3n i.1 t1 t2 (fun q => hn ⟨c, q⟩)]
  · simp (disch := omega) only [e66_0, e66_1, e66_4, e66_5, e66_8, e66_11, e66_12, e66_15, e66_16, e66_19, e66_22, e66_32, e66_33, e66_34, e66_37, e66_38, e66_41, e66_44, e66_54, e66_55, e66_58, e66_59, e66_62, e66_65, e66_75, e66_76, e66_79, e66_80, e66_81, e66_82, e66_85, e66_86, e66_89, e66_90, e66_91, e66_94, implies_true, Int.reduceSub, Option.isNone_some, Option.isNone_none, ab_bh_some, ab_bh_thr, ab_gs_3, ab_gl_2, ab_gl_3, ab_gt_some, ab_gc_0, ab_gk_0, Bool.false_eq_true, Bool.true_eq_false, false_implies, Nat.reduceEqDiff, ab_ge, ab_lt, ab_le, ab_gt, ab_eq, ab_ne, decide_eq_true_eq, ab_w_id, ab_w0, ab_gd_some, ab_gs_0, ab_gs_1, ab_gl_0, ab_gl_1, ab_bv_some, ab_bu_some, ab_bv_thr, ab_bu_thr, ab_fx_n, ab_fx_i, ab_fx_q, ab_fx_l, ab_sh_si, ab_gr_si, ab_gl_si, cs_n, ↓reduceIte, true_or, or_true, false_or, or_false, and_true, true_and, and_false, false_and, not_true_eq_false, not_false_eq_true, eq_self, Int.reduceEq, Int.reduceLT, Int.reduceLE, Int.reduceAdd, Int.reduceMul, Int.reduceNeg, if_pos, if_neg, hL.1, hL.2, m2n i.1 r1 r2 c]
theorem m66_1 {dd : Nat} {d s b : Int} {h : ab_H} (i : ci h) (h1 : 0 ≤ d) (h2 : d < ab_gi h 1 0) (h3 : 0 ≤ s) (h4 : s < ab_gi h 1 1) (b1 : -2147483648 ≤ b) (b2 : b < 2147483648) (hn : ¬ (1 ≤ b ∧ b ≤ 255)) :
    ab_E B (dd + 1) 66 0 [some (.inr (.inr (.inl (some 0)))), some (.inl d), some (.inl s), some (.inl b)] [] h = some (.inr 1, ab_cost h 1 6) := by
  have hL := i.1.1
  by_cases c : b < 1
  · simp (disch := omega) only [e66_0, e66_1, e66_4, e66_5, e66_8, e66_11, e66_12, e66_15, e66_16, e66_19, e66_22, e66_32, e66_33, e66_34, e66_37, e66_38, e66_41, e66_44, e66_54, e66_55, e66_58, e66_59, e66_62, e66_65, e66_75, e66_76, e66_79, e66_80, e66_81, e66_82, e66_85, e66_86, e66_89, e66_90, e66_91, e66_94, implies_true, Int.reduceSub, Option.isNone_some, Option.isNone_none, ab_bh_some, ab_bh_thr, ab_gs_3, ab_gl_2, ab_gl_3, ab_gt_some, ab_gc_0, ab_gk_0, Bool.false_eq_true, Bool.true_eq_false, false_implies, Nat.reduceEqDiff, ab_ge, ab_lt, ab_le, ab_gt, ab_eq, ab_ne, decide_eq_true_eq, ab_w_id, ab_w0, ab_gd_some, ab_gs_0, ab_gs_1, ab_gl_0, ab_gl_1, ab_bv_some, ab_bu_some, ab_bv_thr, ab_bu_thr, ab_fx_n, ab_fx_i, ab_fx_q, ab_fx_l, ab_sh_si, ab_gr_si, ab_gl_si, cs_n, ↓reduceIte, true_or, or_true, false_or, or_false, and_true, true_and, and_false, false_and, not_true_eq_false, not_false_eq_true, eq_self, Int.reduceEq, Int.reduceLT, Int.reduceLE, Int.reduceAdd, Int.reduceMul, Int.reduceNeg, if_pos, if_neg, hL.1, hL.2, m2y i.1 h1 h2, m3y i.1 h3 h4]
  · simp (disch := omega) only [e66_0, e66_1, e66_4, e66_5, e66_8, e66_11, e66_12, e66_15, e66_16, e66_19, e66_22, e66_32, e66_33, e66_34, e66_37, e66_38, e66_41, e66_44, e66_54, e66_55, e66_58, e66_59, e66_62, e66_65, e66_75, e66_76, e66_79, e66_80, e66_81, e66_82, e66_85, e66_86, e66_89, e66_90, e66_91, e66_94, implies_true, Int.reduceSub, Option.isNone_some, Option.isNone_none, ab_bh_some, ab_bh_thr, ab_gs_3, ab_gl_2, ab_gl_3, ab_gt_some, ab_gc_0, ab_gk_0, Bool.false_eq_true, Bool.true_eq_false, false_implies, Nat.reduceEqDiff, ab_ge, ab_lt, ab_le, ab_gt, ab_eq, ab_ne, decide_eq_true_eq, ab_w_id, ab_w0, ab_gd_some, ab_gs_0, ab_gs_1, ab_gl_0, ab_gl_1, ab_bv_some, ab_bu_some, ab_bv_thr, ab_bu_thr, ab_fx_n, ab_fx_i, ab_fx_q, ab_fx_l, ab_sh_si, ab_gr_si, ab_gl_si, cs_n, ↓reduceIte, true_or, or_true, false_or, or_false, and_true, true_and, and_false, false_and, not_true_eq_false, not_false_eq_true, eq_self, Int.reduceEq, Int.reduceLT, Int.reduceLE, Int.reduceAdd, Int.reduceMul, Int.reduceNeg, if_pos, if_neg, hL.1, hL.2, m2y i.1 h1 h2, m3y i.1 h3 h4]
theorem m66_3 {dd : Nat} {d s b : Int} {h : ab_H} (i : ci h) (h1 : 0 ≤ d) (h2 : d < ab_gi h 1 0) (h3 : 0 ≤ s) (h4 : s < ab_gi h 1 1) (b1 : 1 ≤ b) (b2 : b ≤ 255) (hn : ab_gi h 5 d = 1) :
    ab_E B (dd + 1) 66 0 [some (.inr (.inr (.inl (some 0)))), some (.inl d), some (.inl s), some (.inl b)] [] h = some (.inr 3, ab_cost h 1 6) := by
  have hL := i.1.1
  have hD := i.1.2.1
  have e13 := m13 (B := B) (dd := dd) hL h1 (show d < 5 by omega) (Or.inr hn)
  simp (disch := omega) only [e66_0, e66_1, e66_4, e66_5, e66_8, e66_11, e66_12, e66_15, e66_16, e66_19, e66_22, e66_32, e66_33, e66_34, e66_37, e66_38, e66_41, e66_44, e66_54, e66_55, e66_58, e66_59, e66_62, e66_65, e66_75, e66_76, e66_79, e66_80, e66_81, e66_82, e66_85, e66_86, e66_89, e66_90, e66_91, e66_94, implies_true, Int.reduceSub, Option.isNone_some, Option.isNone_none, ab_bh_some, ab_bh_thr, ab_gs_3, ab_gl_2, ab_gl_3, ab_gt_some, ab_gc_0, ab_gk_0, Bool.false_eq_true, Bool.true_eq_false, false_implies, Nat.reduceEqDiff, ab_ge, ab_lt, ab_le, ab_gt, ab_eq, ab_ne, decide_eq_true_eq, ab_w_id, ab_w0, ab_gd_some, ab_gs_0, ab_gs_1, ab_gl_0, ab_gl_1, ab_bv_some, ab_bu_some, ab_bv_thr, ab_bu_thr, ab_fx_n, ab_fx_i, ab_fx_q, ab_fx_l, ab_sh_si, ab_gr_si, ab_gl_si, cs_n, ↓reduceIte, true_or, or_true, false_or, or_false, and_true, true_and, and_false, false_and, not_true_eq_false, not_false_eq_true, eq_self, Int.reduceEq, Int.reduceLT, Int.reduceLE, Int.reduceAdd, Int.reduceMul, Int.reduceNeg, if_pos, if_neg, hL.1, hL.2, m2y i.1 h1 h2, m3y i.1 h3 h4, e13, hn]
theorem m66 {dd : Nat} {d s b : Int} {h : ab_H} (i : ci h) (h1 : 0 ≤ d) (h2 : d < ab_gi h 1 0) (h3 : 0 ≤ s) (h4 : s < ab_gi h 1 1) (b1 : 1 ≤ b) (b2 : b ≤ 255) (hn : ab_gi h 5 d = 0) :
    ab_E B (dd + 5) 66 0 [some (.inr (.inr (.inl (some 0)))), some (.inl d), some (.inl s), some (.inl b)] [] h = some (.inl (some (.inl (ab_ixor (ab_gi h 2 (d * 8 + s)) b))), ab_si h 2 (d * 8 + s) (ab_ixor (ab_gi h 2 (d * 8 + s)) b)) ∧ ci (ab_si h 2 (d * 8 + s) (ab_ixor (ab_gi h 2 (d * 8 + s)) b)) := by
  have hL := i.1.1
  have hD := i.1.2.1
  have hv := i.1.2.2.1 (d * 8 + s) (by omega) (by omega)
  have hx := ab_ixor_rng hv.1 hv.2.1 (show 0 ≤ b by omega) b2
  have e13 := m13 (B := B) (dd := dd + 4) hL h1 (show d < 5 by omega) (Or.inl hn)
  have e30 := m30 (B := B) (dd := dd + 3) (b := b) i.1 h1 h2 h3 h4
  have hR' : cs_R (ab_si h 2 (d * 8 + s) (ab_ixor (ab_gi h 2 (d * 8 + s)) b)) := cs_R_si2 i.1 hx.1 hx.2
  have gc : ∀ c x, c ≠ 2 → ab_gi (ab_si h 2 (d * 8 + s) (ab_ixor (ab_gi h 2 (d * 8 + s)) b)) c x = ab_gi h c x := fun c x hc => by rw [ab_gi_si, if_neg (fun z => hc z.1)]
  have e11 := m11 (B := B) (dd := dd + 3) (d := d) (s := s) hR'.1 (by rw [gc 1 0 (by decide)]; omega) (by rw [gc 1 1 (by decide)]; omega) h1 (by rw [gc 1 0 (by decide)]; omega) h3 (by rw [gc 1 1 (by decide)]; omega)
  rw [ab_gi_si, if_pos ⟨rfl, rfl⟩] at e11
  refine ⟨?_, ci_rk i hR' (fun c x q => gc c x (by omega)) (fun x _ _ => gc 0 x (by decide))⟩
  simp (disch := omega) only [e66_0, e66_1, e66_4, e66_5, e66_8, e66_11, e66_12, e66_15, e66_16, e66_19, e66_22, e66_32, e66_33, e66_34, e66_37, e66_38, e66_41, e66_44, e66_54, e66_55, e66_58, e66_59, e66_62, e66_65, e66_75, e66_76, e66_79, e66_80, e66_81, e66_82, e66_85, e66_86, e66_89, e66_90, e66_91, e66_94, implies_true, Int.reduceSub, Option.isNone_some, Option.isNone_none, ab_bh_some, ab_bh_thr, ab_gs_3, ab_gl_2, ab_gl_3, ab_gt_some, ab_gc_0, ab_gk_0, Bool.false_eq_true, Bool.true_eq_false, false_implies, Nat.reduceEqDiff, ab_ge, ab_lt, ab_le, ab_gt, ab_eq, ab_ne, decide_eq_true_eq, ab_w_id, ab_w0, ab_gd_some, ab_gs_0, ab_gs_1, ab_gl_0, ab_gl_1, ab_bv_some, ab_bu_some, ab_bv_thr, ab_bu_thr, ab_fx_n, ab_fx_i, ab_fx_q, ab_fx_l, ab_sh_si, ab_gr_si, ab_gl_si, cs_n, ↓reduceIte, true_or, or_true, false_or, or_false, and_true, true_and, and_false, false_and, not_true_eq_false, not_false_eq_true, eq_self, Int.reduceEq, Int.reduceLT, Int.reduceLE, Int.reduceAdd, Int.reduceMul, Int.reduceNeg, if_pos, if_neg, hL.1, hL.2, m2y i.1 h1 h2, m3y i.1 h3 h4, e13, hn, e30, e11]
/-! rounds -/
def cs_ro (h : ab_H) (k n : Int) : ab_H := ab_si (ab_si (cs_rd (ab_gi h 0 k) h 0 n.toNat).2 0 10 (ab_gi h 0 10 + (cs_rd (ab_gi h 0 k) h 0 n.toNat).1)) 0 k ((ab_gi h 0 k + n) % ab_gi h 1 1)
theorem m95_1 {dd : Nat} {n : Int} {h : ab_H} (r1 : -2147483648 ≤ n) (r2 : n < 2147483648) (hn : ¬ (1 ≤ n ∧ n ≤ 8)) : ab_E B dd 95 0 [some (.inr (.inr (.inl (some 0)))), some (.inl n)] [] h = some (.inr 1, ab_cost h 1 6) := by
  by_cases c : n < 1 <;> simp (disch := omega) only [e95_0, e95_1, e95_2, e95_5, e95_6, e95_8, e95_11, e95_21, e95_22, e95_25, e95_28, e95_31, e95_32, e95_35, e95_38, e95_49, implies_true, Int.reduceSub, Option.isNone_some, Option.isNone_none, ab_bh_some, ab_bh_thr, ab_gs_3, ab_gl_2, ab_gl_3, ab_gt_some, ab_gc_0, ab_gk_0, Bool.false_eq_true, Bool.true_eq_false, false_implies, Nat.reduceEqDiff, ab_ge, ab_lt, ab_le, ab_gt, ab_eq, ab_ne, decide_eq_true_eq, ab_w_id, ab_w0, ab_gd_some, ab_gs_0, ab_gs_1, ab_gl_0, ab_gl_1, ab_bv_some, ab_bu_some, ab_bv_thr, ab_bu_thr, ab_fx_n, ab_fx_i, ab_fx_q, ab_fx_l, ab_sh_si, ab_gr_si, ab_gl_si, cs_n, ↓reduceIte, true_or, or_true, false_or, or_false, and_true, true_and, and_false, false_and, not_true_eq_false, not_false_eq_true, eq_self, Int.reduceEq, Int.reduceLT, Int.reduceLE, Int.reduceAdd, Int.reduceMul, Int.reduceNeg, if_pos, if_neg]
theorem m95_3 {dd : Nat} {n : Int} {h : ab_H} (i : ci h) (n1 : 1 ≤ n) (n2 : n ≤ 8) (hn : ab_gi h 0 2 = 0) : ab_E B dd 95 0 [some (.inr (.inr (.inl (some 0)))), some (.inl n)] [] h = some (.inr 3, ab_cost h 1 6) := by
  have hL := i.1.1
  have hD := i.1.2.1
  by_cases c : ab_gi h 1 0 = 0
  · simp (disch := omega) only [e95_0, e95_1, e95_2, e95_5, e95_6, e95_8, e95_11, e95_21, e95_22, e95_25, e95_28, e95_31, e95_32, e95_35, e95_38, e95_49, implies_true, Int.reduceSub, Option.isNone_some, Option.isNone_none, ab_bh_some, ab_bh_thr, ab_gs_3, ab_gl_2, ab_gl_3, ab_gt_some, ab_gc_0, ab_gk_0, Bool.false_eq_true, Bool.true_eq_false, false_implies, Nat.reduceEqDiff, ab_ge, ab_lt, ab_le, ab_gt, ab_eq, ab_ne, decide_eq_true_eq, ab_w_id, ab_w0, ab_gd_some, ab_gs_0, ab_gs_1, ab_gl_0, ab_gl_1, ab_bv_some, ab_bu_some, ab_bv_thr, ab_bu_thr, ab_fx_n, ab_fx_i, ab_fx_q, ab_fx_l, ab_sh_si, ab_gr_si, ab_gl_si, cs_n, ↓reduceIte, true_or, or_true, false_or, or_false, and_true, true_and, and_false, false_and, not_true_eq_false, not_false_eq_true, eq_self, Int.reduceEq, Int.reduceLT, Int.reduceLE, Int.reduceAdd, Int.reduceMul, Int.reduceNeg, if_pos, if_neg, hL.1, hL.2, eq_true c]
  · simp (disch := omega) only [e95_0, e95_1, e95_2, e95_5, e95_6, e95_8, e95_11, e95_21, e95_22, e95_25, e95_28, e95_31, e95_32, e95_35, e95_38, e95_49, implies_true, Int.reduceSub, Option.isNone_some, Option.isNone_none, ab_bh_some, ab_bh_thr, ab_gs_3, ab_gl_2, ab_gl_3, ab_gt_some, ab_gc_0, ab_gk_0, Bool.false_eq_true, Bool.true_eq_false, false_implies, Nat.reduceEqDiff, ab_ge, ab_lt, ab_le, ab_gt, ab_eq, ab_ne, decide_eq_true_eq, ab_w_id, ab_w0, ab_gd_some, ab_gs_0, ab_gs_1, ab_gl_0, ab_gl_1, ab_bv_some, ab_bu_some, ab_bv_thr, ab_bu_thr, ab_fx_n, ab_fx_i, ab_fx_q, ab_fx_l, ab_sh_si, ab_gr_si, ab_gl_si, cs_n, ↓reduceIte, true_or, or_true, false_or, or_false, and_true, true_and, and_false, false_and, not_true_eq_false, not_false_eq_true, eq_self, Int.reduceEq, Int.reduceLT, Int.reduceLE, Int.reduceAdd, Int.reduceMul, Int.reduceNeg, if_pos, if_neg, hL.1, hL.2, eq_false c, hn]
theorem m95 {dd : Nat} {n : Int} {h : ab_H} (i : ci h) (n1 : 1 ≤ n) (n2 : n ≤ 8) (hn : ab_gi h 0 2 = 1) : ab_E B dd 95 0 [some (.inr (.inr (.inl (some 0)))), some (.inl n)] [] h = some (.inl none, h) := by
  have hL := i.1.1
  have hD := i.1.2.1
  have c : ¬ ab_gi h 1 0 = 0 := fun c => by have := i.2.2.1.2 c; omega
  simp (disch := omega) only [e95_0, e95_1, e95_2, e95_5, e95_6, e95_8, e95_11, e95_21, e95_22, e95_25, e95_28, e95_31, e95_32, e95_35, e95_38, e95_49, implies_true, Int.reduceSub, Option.isNone_some, Option.isNone_none, ab_bh_some, ab_bh_thr, ab_gs_3, ab_gl_2, ab_gl_3, ab_gt_some, ab_gc_0, ab_gk_0, Bool.false_eq_true, Bool.true_eq_false, false_implies, Nat.reduceEqDiff, ab_ge, ab_lt, ab_le, ab_gt, ab_eq, ab_ne, decide_eq_true_eq, ab_w_id, ab_w0, ab_gd_some, ab_gs_0, ab_gs_1, ab_gl_0, ab_gl_1, ab_bv_some, ab_bu_some, ab_bv_thr, ab_bu_thr, ab_fx_n, ab_fx_i, ab_fx_q, ab_fx_l, ab_sh_si, ab_gr_si, ab_gl_si, cs_n, ↓reduceIte, true_or, or_true, false_or, or_false, and_true, true_and, and_false, false_and, not_true_eq_false, not_false_eq_true, eq_self, Int.reduceEq, Int.reduceLT, Int.reduceLE, Int.reduceAdd, Int.reduceMul, Int.reduceNeg, if_pos, if_neg, hL.1, hL.2, eq_false c, hn]
theorem m67_1 {dd : Nat} {n : Int} {h : ab_H} (r1 : -2147483648 ≤ n) (r2 : n < 2147483648) (hn : ¬ (1 ≤ n ∧ n ≤ 8)) (hL : cs_L h) : ab_E B (dd + 1) 67 0 [some (.inr (.inr (.inl (some 0)))), some (.inl n), none] [] h = some (.inr 1, ab_cost h 1 6) := by
  simp (disch := omega) only [e67_0, e67_1, e67_2, e67_5, e67_6, e67_7, e67_10, e67_11, e67_14, e67_15, e67_16, e67_17, e67_20, e67_21, e67_24, e67_25, e67_28, e67_31, e67_32, implies_true, Int.reduceSub, Option.isNone_some, Option.isNone_none, ab_bh_some, ab_bh_thr, ab_gs_3, ab_gl_2, ab_gl_3, ab_gt_some, ab_gc_0, ab_gk_0, Bool.false_eq_true, Bool.true_eq_false, false_implies, Nat.reduceEqDiff, ab_ge, ab_lt, ab_le, ab_gt, ab_eq, ab_ne, decide_eq_true_eq, ab_w_id, ab_w0, ab_gd_some, ab_gs_0, ab_gs_1, ab_gl_0, ab_gl_1, ab_bv_some, ab_bu_some, ab_bv_thr, ab_bu_thr, ab_fx_n, ab_fx_i, ab_fx_q, ab_fx_l, ab_sh_si, ab_gr_si, ab_gl_si, cs_n, ↓reduceIte, true_or, or_true, false_or, or_false, and_true, true_and, and_false, false_and, not_true_eq_false, not_false_eq_true, eq_self, Int.reduceEq, Int.reduceLT, Int.reduceLE, Int.reduceAdd, Int.reduceMul, Int.reduceNeg, if_pos, if_neg, hL.1, hL.2, m95_1 r1 r2 hn]
theorem m68_1 {dd : Nat} {n : Int} {h : ab_H} (r1 : -2147483648 ≤ n) (r2 : n < 2147483648) (hn : ¬ (1 ≤ n ∧ n ≤ 8)) (hL : cs_L h) : ab_E B (dd + 1) 68 0 [some (.inr (.inr (.inl (some 0)))), some (.inl n), none] [] h = some (.inr 1, ab_cost h 1 6) := by
  simp (disch := omega) only [e68_0, e68_1, e68_2, e68_5, e68_6, e68_7, e68_10, e68_11, e68_14, e68_15, e68_16, e68_17, e68_20, e68_21, e68_24, e68_25, e68_28, e68_31, e68_32, implies_true, Int.reduceSub, Option.isNone_some, Option.isNone_none, ab_bh_some, ab_bh_thr, ab_gs_3, ab_gl_2, ab_gl_3, ab_gt_some, ab_gc_0, ab_gk_0, Bool.false_eq_true, Bool.true_eq_false, false_implies, Nat.reduceEqDiff, ab_ge, ab_lt, ab_le, ab_gt, ab_eq, ab_ne, decide_eq_true_eq, ab_w_id, ab_w0, ab_gd_some, ab_gs_0, ab_gs_1, ab_gl_0, ab_gl_1, ab_bv_some, ab_bu_some, ab_bv_thr, ab_bu_thr, ab_fx_n, ab_fx_i, ab_fx_q, ab_fx_l, ab_sh_si, ab_gr_si, ab_gl_si, cs_n, ↓reduceIte, true_or, or_true, false_or, or_false, and_true, true_and, and_false, false_and, not_true_eq_false, not_false_eq_true, eq_self, Int.reduceEq, Int.reduceLT, Int.reduceLE, Int.reduceAdd, Int.reduceMul, Int.reduceNeg, if_pos, if_neg, hL.1, hL.2, m95_1 r1 r2 hn]
theorem m67_3 {dd : Nat} {n : Int} {h : ab_H} (i : ci h) (n1 : 1 ≤ n) (n2 : n ≤ 8) (hn : ab_gi h 0 2 = 0) : ab_E B (dd + 1) 67 0 [some (.inr (.inr (.inl (some 0)))), some (.inl n), none] [] h = some (.inr 3, ab_cost h 1 6) := by
  have hL := i.1.1
  simp (disch := omega) only [e67_0, e67_1, e67_2, e67_5, e67_6, e67_7, e67_10, e67_11, e67_14, e67_15, e67_16, e67_17, e67_20, e67_21, e67_24, e67_25, e67_28, e67_31, e67_32, implies_true, Int.reduceSub, Option.isNone_some, Option.isNone_none, ab_bh_some, ab_bh_thr, ab_gs_3, ab_gl_2, ab_gl_3, ab_gt_some, ab_gc_0, ab_gk_0, Bool.false_eq_true, Bool.true_eq_false, false_implies, Nat.reduceEqDiff, ab_ge, ab_lt, ab_le, ab_gt, ab_eq, ab_ne, decide_eq_true_eq, ab_w_id, ab_w0, ab_gd_some, ab_gs_0, ab_gs_1, ab_gl_0, ab_gl_1, ab_bv_some, ab_bu_some, ab_bv_thr, ab_bu_thr, ab_fx_n, ab_fx_i, ab_fx_q, ab_fx_l, ab_sh_si, ab_gr_si, ab_gl_si, cs_n, ↓reduceIte, true_or, or_true, false_or, or_false, and_true, true_and, and_false, false_and, not_true_eq_false, not_false_eq_true, eq_self, Int.reduceEq, Int.reduceLT, Int.reduceLE, Int.reduceAdd, Int.reduceMul, Int.reduceNeg, if_pos, if_neg, hL.1, hL.2, m95_3 i n1 n2 hn]
theorem m68_3 {dd : Nat} {n : Int} {h : ab_H} (i : ci h) (n1 : 1 ≤ n) (n2 : n ≤ 8) (hn : ab_gi h 0 2 = 0) : ab_E B (dd + 1) 68 0 [some (.inr (.inr (.inl (some 0)))), some (.inl n), none] [] h = some (.inr 3, ab_cost h 1 6) := by
  have hL := i.1.1
  simp (disch := omega) only [e68_0, e68_1, e68_2, e68_5, e68_6, e68_7, e68_10, e68_11, e68_14, e68_15, e68_16, e68_17, e68_20, e68_21, e68_24, e68_25, e68_28, e68_31, e68_32, implies_true, Int.reduceSub, Option.isNone_some, Option.isNone_none, ab_bh_some, ab_bh_thr, ab_gs_3, ab_gl_2, ab_gl_3, ab_gt_some, ab_gc_0, ab_gk_0, Bool.false_eq_true, Bool.true_eq_false, false_implies, Nat.reduceEqDiff, ab_ge, ab_lt, ab_le, ab_gt, ab_eq, ab_ne, decide_eq_true_eq, ab_w_id, ab_w0, ab_gd_some, ab_gs_0, ab_gs_1, ab_gl_0, ab_gl_1, ab_bv_some, ab_bu_some, ab_bv_thr, ab_bu_thr, ab_fx_n, ab_fx_i, ab_fx_q, ab_fx_l, ab_sh_si, ab_gr_si, ab_gl_si, cs_n, ↓reduceIte, true_or, or_true, false_or, or_false, and_true, true_and, and_false, false_and, not_true_eq_false, not_false_eq_true, eq_self, Int.reduceEq, Int.reduceLT, Int.reduceLE, Int.reduceAdd, Int.reduceMul, Int.reduceNeg, if_pos, if_neg, hL.1, hL.2, m95_3 i n1 n2 hn]
theorem cs_ro_ok {h : ab_H} {k n : Int} (i : ci h) (hk : k = 6 ∨ k = 7) (n1 : 1 ≤ n) (n2 : n ≤ 8) (hD : ab_gi h 1 0 ≠ 0) : ci (cs_ro h k n) ∧ (cs_ro h k n).2 = h.2 ∧ (∀ c x, 4 ≤ c → ab_gi (cs_ro h k n) c x = ab_gi h c x) ∧ (cs_R (cs_rd (ab_gi h 0 k) h 0 n.toNat).2 ∧ (∀ c x, c ≠ 2 → c ≠ 3 → ab_gi (cs_rd (ab_gi h 0 k) h 0 n.toNat).2 c x = ab_gi h c x)) := by
  have hDS := i.1.2.1
  obtain ⟨a1, a2, a3, a4, a5⟩ := cs_rd_ok (f := ab_gi h 0 k) n.toNat h 0 i.1 (by omega)
  have s1 : 0 ≤ (ab_gi h 0 k + n) % ab_gi h 1 1 := Int.emod_nonneg _ (by omega)
  have s2 : (ab_gi h 0 k + n) % ab_gi h 1 1 < ab_gi h 1 1 := Int.emod_lt_of_pos _ (by omega)
  have g : ∀ c x, c ≠ 2 → c ≠ 3 → ¬ (c = 0 ∧ (x = 10 ∨ x = k)) → ab_gi (cs_ro h k n) c x = ab_gi h c x := fun c x c2 c3 c0 => by
    unfold cs_ro
    rw [ab_gi_si, if_neg (by omega), ab_gi_si, if_neg (by omega), a3 c x c2 c3]
  have gk : ab_gi (cs_ro h k n) 0 k = (ab_gi h 0 k + n) % ab_gi h 1 1 := by unfold cs_ro; rw [ab_gi_si, if_pos ⟨rfl, rfl⟩]
  have hR : cs_R (cs_ro h k n) := cs_R_six (cs_R_six a1 (by decide) (by decide) (by decide) (by decide) (by decide)) (by decide) (by decide) (by decide) (by decide) (by decide)
  refine ⟨ci_of i hR (fun x => g 1 x (by omega) (by omega) (by omega)) (fun c x c1 _ => g c x (by omega) (by omega) (by omega)) (by rw [g 0 2 (by omega) (by omega) (by omega)]; exact i.2.2.1) (cn_of i.2.2.2.1 (cs_B_of (g 1 0 (by omega) (by omega) (by omega)) (g 1 1 (by omega) (by omega) (by omega))) (fun x x1 x2 => g 0 x (by omega) (by omega) (by omega))) ?_ ?_, a2, fun c x hc => g c x (by omega) (by omega) (by omega), a1, a3⟩
  · by_cases z : k = 6
    · rw [z] at gk s1 s2 ⊢; rw [gk]; omega
    · rw [g 0 6 (by omega) (by omega) (by omega)]; exact i.2.2.2.2.1
  · by_cases z : k = 7
    · rw [z] at gk s1 s2 ⊢; rw [gk]; omega
    · rw [g 0 7 (by omega) (by omega) (by omega)]; exact i.2.2.2.2.2
theorem m67 {dd : Nat} {n : Int} {h : ab_H} (i : ci h) (n1 : 1 ≤ n) (n2 : n ≤ 8) (hn : ab_gi h 0 2 = 1) :
    ab_E B (dd + 5) 67 0 [some (.inr (.inr (.inl (some 0)))), some (.inl n), none] [] h = some (.inl (some (.inl (cs_rd (ab_gi h 0 6) h 0 n.toNat).1)), cs_ro h 6 n) := by
  have hL := i.1.1
  have hDS := i.1.2.1
  have c : ab_gi h 1 0 ≠ 0 := fun c => by have := i.2.2.1.2 c; omega
  have hp := i.2.2.2.2.1
  obtain ⟨-, -, -, a1, a3⟩ := cs_ro_ok i (Or.inl rfl) n1 n2 c
  have e96 := m96 (B := B) (dd := dd) i.1 (by omega) hp.1 hp.2 n1 n2
  have hR2 : cs_R (ab_si (cs_rd (ab_gi h 0 6) h 0 n.toNat).2 0 10 (ab_gi h 0 10 + (cs_rd (ab_gi h 0 6) h 0 n.toNat).1)) := cs_R_six a1 (by decide) (by decide) (by decide) (by decide) (by decide)
  have hL2 := hR2.1
  have hL1 := a1.1
  have g6 : ab_gi (ab_si (cs_rd (ab_gi h 0 6) h 0 n.toNat).2 0 10 (ab_gi h 0 10 + (cs_rd (ab_gi h 0 6) h 0 n.toNat).1)) 0 6 = ab_gi h 0 6 := by rw [ab_gi_si, if_neg (by omega), a3 0 6 (by decide) (by decide)]
  have gS : ab_gi (ab_si (cs_rd (ab_gi h 0 6) h 0 n.toNat).2 0 10 (ab_gi h 0 10 + (cs_rd (ab_gi h 0 6) h 0 n.toNat).1)) 1 1 = ab_gi h 1 1 := by rw [ab_gi_si, if_neg (by omega), a3 1 1 (by decide) (by decide)]
  have e10 : ∀ d9, ab_E B d9 10 0 [some (.inr (.inr (.inl (some 1)))), some (.inl (ab_gi h 0 6)), some (.inl n)] [] (ab_si (cs_rd (ab_gi h 0 6) h 0 n.toNat).2 0 10 (ab_gi h 0 10 + (cs_rd (ab_gi h 0 6) h 0 n.toNat).1)) = some (.inl (some (.inl ((ab_gi h 0 6 + n) % ab_gi h 1 1))), ab_si (cs_rd (ab_gi h 0 6) h 0 n.toNat).2 0 10 (ab_gi h 0 10 + (cs_rd (ab_gi h 0 6) h 0 n.toNat).1)) := fun d9 => by rw [m10 hR2 (by rw [gS]; omega) hp.1 hp.2 (by omega) n2, gS]
  unfold cs_ro
  simp (disch := omega) only [e67_0, e67_1, e67_2, e67_5, e67_6, e67_7, e67_10, e67_11, e67_14, e67_15, e67_16, e67_17, e67_20, e67_21, e67_24, e67_25, e67_28, e67_31, e67_32, implies_true, Int.reduceSub, Option.isNone_some, Option.isNone_none, ab_bh_some, ab_bh_thr, ab_gs_3, ab_gl_2, ab_gl_3, ab_gt_some, ab_gc_0, ab_gk_0, Bool.false_eq_true, Bool.true_eq_false, false_implies, Nat.reduceEqDiff, ab_ge, ab_lt, ab_le, ab_gt, ab_eq, ab_ne, decide_eq_true_eq, ab_w_id, ab_w0, ab_gd_some, ab_gs_0, ab_gs_1, ab_gl_0, ab_gl_1, ab_bv_some, ab_bu_some, ab_bv_thr, ab_bu_thr, ab_fx_n, ab_fx_i, ab_fx_q, ab_fx_l, ab_sh_si, ab_gr_si, ab_gl_si, cs_n, ↓reduceIte, true_or, or_true, false_or, or_false, and_true, true_and, and_false, false_and, not_true_eq_false, not_false_eq_true, eq_self, Int.reduceEq, Int.reduceLT, Int.reduceLE, Int.reduceAdd, Int.reduceMul, Int.reduceNeg, if_pos, if_neg, hL.1, hL.2, m95 i n1 n2 hn, e96, hL1.1, hL1.2, hL2.1, hL2.2, g6, e10]
theorem m68 {dd : Nat} {n : Int} {h : ab_H} (i : ci h) (n1 : 1 ≤ n) (n2 : n ≤ 8) (hn : ab_gi h 0 2 = 1) :
    ab_E B (dd + 5) 68 0 [some (.inr (.inr (.inl (some 0)))), some (.inl n), none] [] h = some (.inl (some (.inl (cs_rd (ab_gi h 0 7) h 0 n.toNat).1)), cs_ro h 7 n) := by
  have hL := i.1.1
  have hDS := i.1.2.1
  have c : ab_gi h 1 0 ≠ 0 := fun c => by have := i.2.2.1.2 c; omega
  have hp := i.2.2.2.2.2
  obtain ⟨-, -, -, a1, a3⟩ := cs_ro_ok i (Or.inr rfl) n1 n2 c
  have e96 := m96 (B := B) (dd := dd) i.1 (by omega) hp.1 hp.2 n1 n2
  have hR2 : cs_R (ab_si (cs_rd (ab_gi h 0 7) h 0 n.toNat).2 0 10 (ab_gi h 0 10 + (cs_rd (ab_gi h 0 7) h 0 n.toNat).1)) := cs_R_six a1 (by decide) (by decide) (by decide) (by decide) (by decide)
  have hL2 := hR2.1
  have hL1 := a1.1
  have g6 : ab_gi (ab_si (cs_rd (ab_gi h 0 7) h 0 n.toNat).2 0 10 (ab_gi h 0 10 + (cs_rd (ab_gi h 0 7) h 0 n.toNat).1)) 0 7 = ab_gi h 0 7 := by rw [ab_gi_si, if_neg (by omega), a3 0 7 (by decide) (by decide)]
  have gS : ab_gi (ab_si (cs_rd (ab_gi h 0 7) h 0 n.toNat).2 0 10 (ab_gi h 0 10 + (cs_rd (ab_gi h 0 7) h 0 n.toNat).1)) 1 1 = ab_gi h 1 1 := by rw [ab_gi_si, if_neg (by omega), a3 1 1 (by decide) (by decide)]
  have e10 : ∀ d9, ab_E B d9 10 0 [some (.inr (.inr (.inl (some 1)))), some (.inl (ab_gi h 0 7)), some (.inl n)] [] (ab_si (cs_rd (ab_gi h 0 7) h 0 n.toNat).2 0 10 (ab_gi h 0 10 + (cs_rd (ab_gi h 0 7) h 0 n.toNat).1)) = some (.inl (some (.inl ((ab_gi h 0 7 + n) % ab_gi h 1 1))), ab_si (cs_rd (ab_gi h 0 7) h 0 n.toNat).2 0 10 (ab_gi h 0 10 + (cs_rd (ab_gi h 0 7) h 0 n.toNat).1)) := fun d9 => by rw [m10 hR2 (by rw [gS]; omega) hp.1 hp.2 (by omega) n2, gS]
  unfold cs_ro
  simp (disch := omega) only [e68_0, e68_1, e68_2, e68_5, e68_6, e68_7, e68_10, e68_11, e68_14, e68_15, e68_16, e68_17, e68_20, e68_21, e68_24, e68_25, e68_28, e68_31, e68_32, implies_true, Int.reduceSub, Option.isNone_some, Option.isNone_none, ab_bh_some, ab_bh_thr, ab_gs_3, ab_gl_2, ab_gl_3, ab_gt_some, ab_gc_0, ab_gk_0, Bool.false_eq_true, Bool.true_eq_false, false_implies, Nat.reduceEqDiff, ab_ge, ab_lt, ab_le, ab_gt, ab_eq, ab_ne, decide_eq_true_eq, ab_w_id, ab_w0, ab_gd_some, ab_gs_0, ab_gs_1, ab_gl_0, ab_gl_1, ab_bv_some, ab_bu_some, ab_bv_thr, ab_bu_thr, ab_fx_n, ab_fx_i, ab_fx_q, ab_fx_l, ab_sh_si, ab_gr_si, ab_gl_si, cs_n, ↓reduceIte, true_or, or_true, false_or, or_false, and_true, true_and, and_false, false_and, not_true_eq_false, not_false_eq_true, eq_self, Int.reduceEq, Int.reduceLT, Int.reduceLE, Int.reduceAdd, Int.reduceMul, Int.reduceNeg, if_pos, if_neg, hL.1, hL.2, m95 i n1 n2 hn, e96, hL1.1, hL1.2, hL2.1, hL2.2, g6, e10]
/-! a stripe is given up -/
def cs_gu (h : ab_H) (s : Int) : ab_H := cs_lay (cs_ga (ab_gi h 1 0) s h 0 0 0 (ab_gi h 1 0).toNat).2.2 (s % ab_gi h 1 0) s (cs_ga (ab_gi h 1 0) s h 0 0 0 (ab_gi h 1 0).toNat).2.1
theorem m69_2 {dd : Nat} {s : Int} {h : ab_H} (i : ci h) (r1 : -2147483648 ≤ s) (r2 : s < 2147483648) (hn : ¬ (0 ≤ s ∧ s < ab_gi h 1 1)) :
    ab_E B (dd + 1) 69 0 [some (.inr (.inr (.inl (some 0)))), some (.inl s)] [] h = some (.inr 2, ab_cost h 1 6) := by
  have hL := i.1.1
  simp (disch := omega) only [e69_0, e69_1, e69_4, e69_5, e69_8, e69_11, e69_21, e69_22, e69_25, e69_28, e69_29, e69_32, e69_33, e69_36, e69_37, e69_40, e69_50, e69_51, e69_54, e69_55, e69_58, implies_true, Int.reduceSub, Option.isNone_some, Option.isNone_none, ab_bh_some, ab_bh_thr, ab_gs_3, ab_gl_2, ab_gl_3, ab_gt_some, ab_gc_0, ab_gk_0, Bool.false_eq_true, Bool.true_eq_false, false_implies, Nat.reduceEqDiff, ab_ge, ab_lt, ab_le, ab_gt, ab_eq, ab_ne, decide_eq_true_eq, ab_w_id, ab_w0, ab_gd_some, ab_gs_0, ab_gs_1, ab_gl_0, ab_gl_1, ab_bv_some, ab_bu_some, ab_bv_thr, ab_bu_thr, ab_fx_n, ab_fx_i, ab_fx_q, ab_fx_l, ab_sh_si, ab_gr_si, ab_gl_si, cs_n, ↓reduceIte, true_or, or_true, false_or, or_false, and_true, true_and, and_false, false_and, not_true_eq_false, not_false_eq_true, eq_self, Int.reduceEq, Int.reduceLT, Int.reduceLE, Int.reduceAdd, Int.reduceMul, Int.reduceNeg, if_pos, if_neg, hL.1, hL.2, m3n i.1 r1 r2 hn]
theorem m69_3 {dd : Nat} {s : Int} {h : ab_H} (i : ci h) (h3 : 0 ≤ s) (h4 : s < ab_gi h 1 1) (hn : ab_gi h 0 2 = 0 ∨ cs_bc h s < 2) :
    ab_E B (dd + 4) 69 0 [some (.inr (.inr (.inl (some 0)))), some (.inl s)] [] h = some (.inr 3, ab_cost h 1 6) := by
  have hL := i.1.1
  have hbc := cs_bc_le i.1 s
  have e17 := m17 (B := B) (dd := dd + 1) i.1 h3 h4
  rcases i.2.2.1.1 with con | con
  · simp (disch := omega) only [e69_0, e69_1, e69_4, e69_5, e69_8, e69_11, e69_21, e69_22, e69_25, e69_28, e69_29, e69_32, e69_33, e69_36, e69_37, e69_40, e69_50, e69_51, e69_54, e69_55, e69_58, implies_true, Int.reduceSub, Option.isNone_some, Option.isNone_none, ab_bh_some, ab_bh_thr, ab_gs_3, ab_gl_2, ab_gl_3, ab_gt_some, ab_gc_0, ab_gk_0, Bool.false_eq_true, Bool.true_eq_false, false_implies, Nat.reduceEqDiff, ab_ge, ab_lt, ab_le, ab_gt, ab_eq, ab_ne, decide_eq_true_eq, ab_w_id, ab_w0, ab_gd_some, ab_gs_0, ab_gs_1, ab_gl_0, ab_gl_1, ab_bv_some, ab_bu_some, ab_bv_thr, ab_bu_thr, ab_fx_n, ab_fx_i, ab_fx_q, ab_fx_l, ab_sh_si, ab_gr_si, ab_gl_si, cs_n, ↓reduceIte, true_or, or_true, false_or, or_false, and_true, true_and, and_false, false_and, not_true_eq_false, not_false_eq_true, eq_self, Int.reduceEq, Int.reduceLT, Int.reduceLE, Int.reduceAdd, Int.reduceMul, Int.reduceNeg, if_pos, if_neg, hL.1, hL.2, m3y i.1 h3 h4, con]
  · simp (disch := omega) only [e69_0, e69_1, e69_4, e69_5, e69_8, e69_11, e69_21, e69_22, e69_25, e69_28, e69_29, e69_32, e69_33, e69_36, e69_37, e69_40, e69_50, e69_51, e69_54, e69_55, e69_58, implies_true, Int.reduceSub, Option.isNone_some, Option.isNone_none, ab_bh_some, ab_bh_thr, ab_gs_3, ab_gl_2, ab_gl_3, ab_gt_some, ab_gc_0, ab_gk_0, Bool.false_eq_true, Bool.true_eq_false, false_implies, Nat.reduceEqDiff, ab_ge, ab_lt, ab_le, ab_gt, ab_eq, ab_ne, decide_eq_true_eq, ab_w_id, ab_w0, ab_gd_some, ab_gs_0, ab_gs_1, ab_gl_0, ab_gl_1, ab_bv_some, ab_bu_some, ab_bv_thr, ab_bu_thr, ab_fx_n, ab_fx_i, ab_fx_q, ab_fx_l, ab_sh_si, ab_gr_si, ab_gl_si, cs_n, ↓reduceIte, true_or, or_true, false_or, or_false, and_true, true_and, and_false, false_and, not_true_eq_false, not_false_eq_true, eq_self, Int.reduceEq, Int.reduceLT, Int.reduceLE, Int.reduceAdd, Int.reduceMul, Int.reduceNeg, if_pos, if_neg, hL.1, hL.2, m3y i.1 h3 h4, con, e17]
theorem m69 {dd : Nat} {s : Int} {h : ab_H} (i : ci h) (h3 : 0 ≤ s) (h4 : s < ab_gi h 1 1) (hon : ab_gi h 0 2 = 1) (hb : 2 ≤ cs_bc h s) :
    ab_E B (dd + 5) 69 0 [some (.inr (.inr (.inl (some 0)))), some (.inl s)] [] h = some (.inl (some (.inl (cs_ga (ab_gi h 1 0) s h 0 0 0 (ab_gi h 1 0).toNat).1)), cs_gu h s) := by
  have hL := i.1.1
  have hbc := cs_bc_le i.1 s
  have e17 := m17 (B := B) (dd := dd + 2) i.1 h3 h4
  have e32 := m32 (B := B) (dd := dd + 1) i.1 h3 h4
  simp (disch := omega) only [e69_0, e69_1, e69_4, e69_5, e69_8, e69_11, e69_21, e69_22, e69_25, e69_28, e69_29, e69_32, e69_33, e69_36, e69_37, e69_40, e69_50, e69_51, e69_54, e69_55, e69_58, implies_true, Int.reduceSub, Option.isNone_some, Option.isNone_none, ab_bh_some, ab_bh_thr, ab_gs_3, ab_gl_2, ab_gl_3, ab_gt_some, ab_gc_0, ab_gk_0, Bool.false_eq_true, Bool.true_eq_false, false_implies, Nat.reduceEqDiff, ab_ge, ab_lt, ab_le, ab_gt, ab_eq, ab_ne, decide_eq_true_eq, ab_w_id, ab_w0, ab_gd_some, ab_gs_0, ab_gs_1, ab_gl_0, ab_gl_1, ab_bv_some, ab_bu_some, ab_bv_thr, ab_bu_thr, ab_fx_n, ab_fx_i, ab_fx_q, ab_fx_l, ab_sh_si, ab_gr_si, ab_gl_si, cs_n, ↓reduceIte, true_or, or_true, false_or, or_false, and_true, true_and, and_false, false_and, not_true_eq_false, not_false_eq_true, eq_self, Int.reduceEq, Int.reduceLT, Int.reduceLE, Int.reduceAdd, Int.reduceMul, Int.reduceNeg, if_pos, if_neg, hL.1, hL.2, m3y i.1 h3 h4, hon, e17, e32]
  rfl
theorem cs_ga_ok {D s : Int} (s0 : 0 ≤ s) (s8 : s < 8) (hD5 : D ≤ 5) : ∀ (k : Nat) (h : ab_H) (i l x : Int), cs_R h → 0 ≤ i → i + k ≤ D → 0 ≤ x → x ≤ 255 → cs_R (cs_ga D s h i l x k).2.2 ∧ (cs_ga D s h i l x k).2.2.2 = h.2 ∧ (∀ c y, c ≠ 2 → c ≠ 3 → c ≠ 4 → ab_gi (cs_ga D s h i l x k).2.2 c y = ab_gi h c y) ∧ 0 ≤ (cs_ga D s h i l x k).2.1 ∧ (cs_ga D s h i l x k).2.1 ≤ 255
  | 0, h, i, l, x, hR, _, _, x1, x2 => ⟨hR, rfl, fun _ _ _ _ _ => rfl, x1, x2⟩
  | k + 1, h, i, l, x, hR, i0, ik, x1, x2 => by
    unfold cs_ga
    by_cases c0 : i = s % D
    · rw [if_pos c0]
      exact cs_ga_ok s0 s8 hD5 k h (i + 1) l x hR (by omega) (by omega) x1 x2
    · rw [if_neg c0]
      by_cases c1 : cs_b h i s = 1
      · rw [if_pos c1]
        obtain ⟨a1, a2, a3, a4⟩ := cs_ga_ok s0 s8 hD5 k (cs_lay (ab_si h 4 (i * 8 + s) 0) i s 0) (i + 1) (ab_ior l (ab_ishl 1 i)) x (cs_R_lay (cs_R_si4 hR (by omega) (by omega)) (by omega) (by omega)) (by omega) (by omega) x1 x2
        refine ⟨a1, a2.trans (cs_lay_2.trans rfl), fun c y c2 c3 c4 => ?_, a4⟩
        rw [a3 c y c2 c3 c4, cs_lay_gi c2 c3, ab_gi_si, if_neg (fun z => c4 z.1)]
      · rw [if_neg c1]
        have hv := hR.2.2.1 (i * 8 + s) (by omega) (by omega)
        have hx := ab_ixor_rng x1 x2 hv.1 hv.2.1
        exact cs_ga_ok s0 s8 hD5 k h (i + 1) l _ hR (by omega) (by omega) hx.1 hx.2
theorem cs_gu_ok {h : ab_H} {s : Int} (i : ci h) (h3 : 0 ≤ s) (h4 : s < ab_gi h 1 1) : ci (cs_gu h s) ∧ (cs_gu h s).2 = h.2 ∧ ∀ c x, c ≠ 2 → c ≠ 3 → c ≠ 4 → ab_gi (cs_gu h s) c x = ab_gi h c x := by
  have hD := i.1.2.1
  obtain ⟨a1, a2, a3, a4, a5⟩ := cs_ga_ok (D := ab_gi h 1 0) h3 (show s < 8 by omega) (by omega) (ab_gi h 1 0).toNat h 0 0 0 i.1 (by omega) (by omega) (by omega) (by omega)
  have g : ∀ c x, c ≠ 2 → c ≠ 3 → c ≠ 4 → ab_gi (cs_gu h s) c x = ab_gi h c x := fun c x c2 c3 c4 => by unfold cs_gu; rw [cs_lay_gi c2 c3, a3 c x c2 c3 c4]
  exact ⟨ci_rk i (cs_R_lay a1 a4 a5) (fun c x q => g c x (by omega) (by omega) (by omega)) (fun x _ _ => g 0 x (by omega) (by omega) (by omega)), cs_lay_2.trans a2, g⟩
end
