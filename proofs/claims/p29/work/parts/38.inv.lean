/-! WHAT HOLDS BETWEEN CALLS -/
section
variable {B : ab_B}
theorem cs_R_fr {h h' : ab_H} (e2 : h'.2 = h.2) (e : ∀ c x, 1 ≤ c → c ≤ 5 → ab_gi h' c x = ab_gi h c x) (hR : cs_R h) : cs_R h' := by
  have e1 : ab_sh h' = ab_sh h := by unfold ab_sh; rw [e2]
  have e3 : ab_gr h' = ab_gr h := by unfold ab_gr; rw [e2]
  have g1 := fun x => e 1 x (by omega) (by omega)
  have g2 := fun x => e 2 x (by omega) (by omega)
  have g3 := fun x => e 3 x (by omega) (by omega)
  have g4 := fun x => e 4 x (by omega) (by omega)
  have g5 := fun x => e 5 x (by omega) (by omega)
  unfold cs_R cs_L at *
  simp only [e1, e3, g1, g2, g3, g4, g5]
  exact hR
theorem cs_Q_fr {h h' : ab_H} {D S : Int} (e2 : h'.2 = h.2) (e : ∀ c x, 1 ≤ c → c ≤ 5 → ab_gi h' c x = ab_gi h c x) (q : cs_Q h D S) : cs_Q h' D S :=
  ⟨cs_R_fr e2 e q.1, (e 1 0 (by omega) (by omega)).trans q.2.1, (e 1 1 (by omega) (by omega)).trans q.2.2.1, q.2.2.2⟩
theorem cs_Y_fr {h h' : ab_H} {D : Int} (e2 : h'.2 = h.2) (e : ∀ c x, (7 ≤ c ∧ c ≤ 11) ∨ c = 17 → ab_gi h' c x = ab_gi h c x) (y : cs_Y D h) : cs_Y D h' := by
  have e1 : ab_sh h' = ab_sh h := by unfold ab_sh; rw [e2]
  have e3 : ab_gr h' = ab_gr h := by unfold ab_gr; rw [e2]
  have g7 := fun x => e 7 x (by omega)
  have g8 := fun x => e 8 x (by omega)
  have g9 := fun x => e 9 x (by omega)
  have g10 := fun x => e 10 x (by omega)
  have g11 := fun x => e 11 x (by omega)
  have g17 := fun x => e 17 x (by omega)
  unfold cs_Y cz_K cs_T cs_L at *
  simp only [e1, e3, g7, g8, g9, g10, g11, g17]
  exact y
/-- the note says what should be there -/
def cs_N (D S : Int) (h : ab_H) : Prop := ab_gi h 0 3 = -1 ∨ (0 ≤ ab_gi h 0 3 ∧ ab_gi h 0 3 < (D - 1) * S ∧ ab_gi h 0 2 = 0 ∧ ab_gi h 0 4 = cs_w h (ab_gi h 0 3 / (D - 1)) (cs_dk D (ab_gi h 0 3)) ∧ ab_gi h 0 5 = cs_w h (ab_gi h 0 3 / (D - 1)) (ab_gi h 0 3 / (D - 1) % D))
def cs_I (D S : Int) (h : ab_H) : Prop := cs_Q h D S ∧ cs_Y D h ∧ (ab_gi h 0 2 = 0 ∨ ab_gi h 0 2 = 1) ∧ cs_N D S h ∧ ((0 ≤ ab_gi h 0 6 ∧ ab_gi h 0 6 < S) ∧ (0 ≤ ab_gi h 0 7 ∧ ab_gi h 0 7 < S)) ∧ ab_gi h 0 12 = 0 ∧ cs_G h
/-- a call leaves all else as it was -/
def cs_Fr (h h' : ab_H) : Prop := h'.2 = h.2 ∧ ∀ c x, 18 ≤ c → ab_gi h' c x = ab_gi h c x
theorem cs_Fr.r (h : ab_H) : cs_Fr h h := ⟨rfl, fun _ _ _ => rfl⟩
theorem cs_Fr.t {a b c : ab_H} (x : cs_Fr a b) (y : cs_Fr b c) : cs_Fr a c := ⟨y.1.trans x.1, fun k z hz => (y.2 k z hz).trans (x.2 k z hz)⟩
theorem cs_Fr.si {h : ab_H} {c : Nat} {k v : Int} (hc : c < 18) : cs_Fr h (ab_si h c k v) := ⟨rfl, fun c' x hx => by rw [ab_gi_si, if_neg (fun q => by have := q.1; omega)]⟩
theorem cs_Fr.lay {h : ab_H} {d s v : Int} : cs_Fr h (cs_lay h d s v) := ⟨cs_lay_snd _ _ _ _, fun c x hx => cs_lay_gi (by omega) (by omega)⟩
theorem cs_N_fr {D S : Int} {h h' : ab_H} (e1 : ab_gi h' 1 0 = ab_gi h 1 0) (e4 : ∀ x, ab_gi h' 4 x = ab_gi h 4 x) (e0 : ∀ k, k = 2 ∨ k = 3 ∨ k = 4 ∨ k = 5 → ab_gi h' 0 k = ab_gi h 0 k) (n : cs_N D S h) : cs_N D S h' := by
  have w := cs_w_fr e4 e1
  have g2 := e0 2 (by omega)
  have g3 := e0 3 (by omega)
  have g4 := e0 4 (by omega)
  have g5 := e0 5 (by omega)
  unfold cs_N at *
  simp only [w, g2, g3, g4, g5]
  exact n
/-- what nobody looks at changes -/
theorem cs_I_fr {D S : Int} {h h' : ab_H} (e2 : h'.2 = h.2) (e : ∀ c x, 1 ≤ c → c ≤ 17 → ab_gi h' c x = ab_gi h c x) (e0 : ∀ k, k = 2 ∨ k = 3 ∨ k = 4 ∨ k = 5 ∨ k = 6 ∨ k = 7 ∨ k = 12 → ab_gi h' 0 k = ab_gi h 0 k) (i : cs_I D S h) : cs_I D S h' := by
  obtain ⟨i1, i2, i3, i4, i5, i6, i7⟩ := i
  have g2 := e0 2 (by omega)
  have g6 := e0 6 (by omega)
  have g7 := e0 7 (by omega)
  have g12 := e0 12 (by omega)
  refine ⟨cs_Q_fr e2 (fun c x h1 h2 => e c x h1 (by omega)) i1, cs_Y_fr e2 (fun c x hc => e c x (by omega) (by omega)) i2, by rw [g2]; exact i3, cs_N_fr (e 1 0 (by omega) (by omega)) (fun x => e 4 x (by omega) (by omega)) (fun k hk => e0 k (by omega)) i4, by rw [g6, g7]; exact i5, by rw [g12]; exact i6, cs_G_fr0 i7 (fun c x h1 h2 => e c x h1 (by omega)) (e0 3 (by omega))⟩
theorem cs_I_si0 {D S : Int} {h : ab_H} {k v : Int} (hk : 8 ≤ k) (hk2 : k ≤ 11) (i : cs_I D S h) : cs_I D S (ab_si h 0 k v) :=
  cs_I_fr (h := h) rfl (fun c x h1 _ => by rw [ab_gi_si, if_neg (fun q => by have := q.1; omega)]) (fun j hj => by rw [ab_gi_si, if_neg (fun q => by have := q.2; omega)]) i
/-- the rack's cells are laid, what was written stays -/
theorem cs_I_rack {D S : Int} {h h' : ab_H} (q : cs_Q h' D S) (g : cs_G h') (e2 : h'.2 = h.2) (e : ∀ c x, c ≠ 2 → c ≠ 3 → c ≠ 5 → c ≠ 6 → ab_gi h' c x = ab_gi h c x) (i : cs_I D S h) : cs_I D S h' := by
  obtain ⟨i1, i2, i3, i4, i5, i6, i7⟩ := i
  have g0 := fun k => e 0 k (by omega) (by omega) (by omega) (by omega)
  refine ⟨q, cs_Y_fr e2 (fun c x hc => e c x (by omega) (by omega) (by omega) (by omega)) i2, by rw [g0]; exact i3, cs_N_fr (e 1 0 (by omega) (by omega) (by omega) (by omega)) (fun x => e 4 x (by omega) (by omega) (by omega) (by omega)) (fun k _ => g0 k) i4, by rw [g0, g0]; exact i5, by rw [g0]; exact i6, g⟩
/-- blocks and their cells -/
theorem cs_blk {D S b : Int} (hD : 3 ≤ D) (hD5 : D ≤ 5) (hS8 : S ≤ 8) (h1 : 0 ≤ b) (h2 : b < (D - 1) * S) : b < 32 ∧ 0 ≤ b / (D - 1) ∧ b / (D - 1) < S ∧ 0 ≤ cs_dk D b ∧ cs_dk D b < D ∧ cs_dk D b ≠ b / (D - 1) % D := by
  have k := cs_dk_rng hD h1
  have q0 : 0 ≤ b / (D - 1) := Int.ediv_nonneg h1 (by omega)
  have q1 : b / (D - 1) < S := Int.ediv_lt_of_lt_mul (by omega) (by rw [Int.mul_comm]; exact h2)
  have q2 : b < 32 := by
    have hc : D = 3 ∨ D = 4 ∨ D = 5 := by omega
    rcases hc with c | c | c <;> subst c <;> omega
  refine ⟨q2, q0, q1, k.1, k.2, ?_⟩
  unfold cs_dk
  split <;> omega
theorem cs_B_eq {h : ab_H} {D S : Int} (q : cs_Q h D S) : cs_B h = (D - 1) * S := by
  obtain ⟨hR, eD, eS, D1, -⟩ := q
  unfold cs_B
  rw [if_pos (by omega), eD, eS]
theorem cs_BS {D S : Int} (hD : 3 ≤ D) (hD5 : D ≤ 5) (hS : 1 ≤ S) (hS8 : S ≤ 8) : 0 < (D - 1) * S ∧ (D - 1) * S ≤ 32 := by
  have hc : D = 3 ∨ D = 4 ∨ D = 5 := by omega
  rcases hc with c | c | c <;> subst c <;> omega
end
