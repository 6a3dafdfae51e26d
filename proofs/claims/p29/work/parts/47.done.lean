/-! THE LAW: A DEED IS DONE -/
section
variable {B : ab_B}
theorem cs_I_L {D S : Int} {h h' : ab_H} (hL' : cs_L h') (e : ∀ c x, c ≤ 17 → ab_gi h' c x = ab_gi h c x) (i : cs_I D S h) : cs_I D S h' := by
  obtain ⟨⟨hR, q⟩, ⟨⟨hT, k⟩, y⟩, i3, i4, i5, i6, i7⟩ := i
  have g0 := fun x => e 0 x (by omega)
  have g1 := fun x => e 1 x (by omega)
  have g2 := fun x => e 2 x (by omega)
  have g3 := fun x => e 3 x (by omega)
  have g4 := fun x => e 4 x (by omega)
  have g5 := fun x => e 5 x (by omega)
  have g7 := fun x => e 7 x (by omega)
  have g8 := fun x => e 8 x (by omega)
  have g9 := fun x => e 9 x (by omega)
  have g10 := fun x => e 10 x (by omega)
  have g11 := fun x => e 11 x (by omega)
  have g17 := fun x => e 17 x (by omega)
  refine ⟨⟨⟨hL', ?_⟩, by simp only [g1]; exact q⟩, ⟨⟨⟨hL', ?_⟩, ?_⟩, by simp only [g7, g11, g17]; exact y⟩, by rw [g0]; exact i3, cs_N_fr (g1 0) g4 (fun k _ => g0 k) i4, by rw [g0, g0]; exact i5, by rw [g0]; exact i6, cs_G_fr0 i7 (fun c x h1 h2 => e c x (by omega)) (g0 3)⟩
  · simp only [g1, g2, g3, g4, g5]; exact hR.2
  · simp only [g7, g8, g9, g10]; exact hT.2
  · simp only [g7, g8, g9, g10]; exact k
theorem cs_I_cost {D S : Int} {h : ab_H} {a b : Nat} (i : cs_I D S h) : cs_I D S (ab_cost h a b) := cs_I_L (h := h) (show cs_L h from i.1.1.1) (fun _ _ _ => rfl) i
theorem cs_I_si18 {D S : Int} {h : ab_H} {c : Nat} {k v : Int} (hc : 18 ≤ c) (i : cs_I D S h) : cs_I D S (ab_si h c k v) := cs_I_L (h := h) (show cs_L h from i.1.1.1) (fun c' x h' => by rw [ab_gi_si, if_neg (fun q => by have := q.1; omega)]) i
/-- the place of a block's cell -/
def cs_px (D b : Int) : Int := cs_dk D b * 8 + b / (D - 1)
theorem cs_px_inj {D S a b : Int} (hD : 3 ≤ D) (hD5 : D ≤ 5) (hS8 : S ≤ 8) (a1 : 0 ≤ a) (a2 : a < (D - 1) * S) (b1 : 0 ≤ b) (b2 : b < (D - 1) * S) (h : cs_px D a = cs_px D b) : a = b := by
  obtain ⟨_, x2, x3, x4, x5, x6⟩ := cs_blk hD hD5 hS8 a1 a2
  obtain ⟨_, y2, y3, y4, y5, y6⟩ := cs_blk hD hD5 hS8 b1 b2
  obtain ⟨h1, h2⟩ := cs_ix x2 (by omega) y2 (by omega) h
  have ea := Int.emod_add_mul_ediv a (D - 1)
  have eb := Int.emod_add_mul_ediv b (D - 1)
  have hm : a % (D - 1) = b % (D - 1) := by
    unfold cs_dk at h1
    rw [h2] at h1
    by_cases c1 : a % (D - 1) < b / (D - 1) % D
    · rw [if_pos c1] at h1
      by_cases c2 : b % (D - 1) < b / (D - 1) % D
      · rw [if_pos c2] at h1; exact h1
      · rw [if_neg c2] at h1; omega
    · rw [if_neg c1] at h1
      by_cases c2 : b % (D - 1) < b / (D - 1) % D
      · rw [if_pos c2] at h1; omega
      · rw [if_neg c2] at h1; omega
  rw [← ea, ← eb, hm, h2]
/-- what holds in the law -/
def cs_V (D S : Int) (h : ab_H) : Prop := cs_I D S h ∧ ((ab_sh h)[18]? = some (0, ((D - 1) * S).toNat) ∧ (ab_sh h)[19]? = some (1, S.toNat)) ∧ (∀ b, 0 ≤ b → b < (D - 1) * S → ab_gi h 18 b = ab_gi h 4 (cs_px D b)) ∧ ∀ s, 0 ≤ s → s < S → ab_gi h 19 s = 0 ∨ ab_gi h 19 s = 1
/-- the handler -/
theorem m71_x {dd : Nat} {D S : Int} {h : ab_H} (i : cs_I D S h) (x1 x2 x3 x5 x6 x7 : Int) (q4 : Option Nat) (o8 o9 o10 o11 o12 : Option ab_V) :
    ab_E B (dd + 6) 71 342 [some (.inr (.inr (some 0))), some (.inl x1), some (.inl x2), some (.inl x3), some (.inr (.inr q4)), some (.inl x5), some (.inl x6), some (.inl x7), o8, o9, o10, o11, o12] [] h = some (.inl (some (.inl 1)), h) := by
  have hL := i.1.1.1
  have e := m79 (B := B) (dd := dd) (w := 8) i (by omega) (by omega)
  have lr := cs_lost_rng (a := -1) (b := -1) i.1.1
  have ev : cs_vh h 8 = cs_lost h (-1) (-1) := rfl
  rw [ev] at e
  simp (disch := omega) only [e71_342, e71_343, e71_345, e71_348, e71_351, e71_352, e71_355, e71_356, Option.isSome_some, ab_bvh_some, ab_bvh_thr, ab_ge, ab_lt, ab_le, ab_gt, ab_eq, ab_ne, decide_eq_true_eq, ab_w_id, ab_w0, ab_gd_some, ab_gs_0, ab_gs_1, ab_gl_0, ab_gl_1, ab_bv_some, ab_bu_some, ab_bv_thr, ab_bu_thr, ab_fx_n, ab_fx_i, ab_fx_q, ab_fx_l, ab_sh_si, ab_gr_si, ab_gl_si, cs_n, ↓reduceIte, true_or, or_true, false_or, or_false, and_true, true_and, and_false, false_and, not_true_eq_false, not_false_eq_true, eq_self, Int.reduceEq, Int.reduceLT, Int.reduceLE, Int.reduceAdd, Int.reduceMul, Int.reduceNeg, if_pos, if_neg, hL.1, e]
/-- what a deed leaves -/
def cs_D (D S : Int) (h h' : ab_H) : Prop := cs_V D S h' ∧ ab_sh h' = ab_sh h ∧ (∀ s, ab_gi h' 19 s = ab_gi h 19 s) ∧ ab_kc h' ≤ ab_kc h + 1 ∧ ab_ks h' ≤ ab_ks h + 6
theorem cs_V_cost {D S : Int} {h : ab_H} (v : cs_V D S h) : cs_D D S h (ab_cost h 1 6) := ⟨⟨cs_I_cost v.1, v.2⟩, rfl, fun _ => rfl, Nat.le_refl _, Nat.le_refl _⟩
/-- a call that leaves what was written -/
theorem cs_V_fr {D S : Int} {h h' : ab_H} (v : cs_V D S h) (i' : cs_I D S h') (f : cs_Fr h h') (w : ∀ x, ab_gi h' 4 x = ab_gi h 4 x) : cs_D D S h h' := by
  have e1 : ab_sh h' = ab_sh h := by unfold ab_sh; rw [f.1]
  refine ⟨⟨i', by rw [e1]; exact v.2.1, fun b b1 b2 => by rw [f.2 18 b (by omega), w]; exact v.2.2.1 b b1 b2, fun s s1 s2 => by rw [f.2 19 s (by omega)]; exact v.2.2.2 s s1 s2⟩, e1, fun s => f.2 19 s (by omega), ?_, ?_⟩
  · have : ab_kc h' = ab_kc h := by unfold ab_kc; rw [f.1]
    omega
  · have : ab_ks h' = ab_ks h := by unfold ab_ks; rw [f.1]
    omega
end
