/-! WHAT CHANGES CELLS KEEPS THEM AS THEY SHOULD BE -/
section
variable {B : ab_B}
theorem cs_lay_2 (h : ab_H) (d s v x : Int) : ab_gi (cs_lay h d s v) 2 x = if ab_gi h 5 d = 1 then ab_gi h 2 x else if x = d * 8 + s then v else ab_gi h 2 x := by
  unfold cs_lay
  by_cases c : ab_gi h 5 d = 1
  · rw [if_pos c, if_pos c]
  · rw [if_neg c, if_neg c, ab_gi_si, if_neg (by simp), ab_gi_si]
    by_cases e : x = d * 8 + s
    · rw [if_pos ⟨rfl, e⟩, if_pos e]
    · rw [if_neg (fun q => e q.2), if_neg e]
theorem cs_lay_3 (h : ab_H) (d s v x : Int) : ab_gi (cs_lay h d s v) 3 x = if ab_gi h 5 d = 1 then ab_gi h 3 x else if x = d * 8 + s then (7 * v + s) % 256 else ab_gi h 3 x := by
  unfold cs_lay
  by_cases c : ab_gi h 5 d = 1
  · rw [if_pos c, if_pos c]
  · rw [if_neg c, if_neg c, ab_gi_si]
    by_cases e : x = d * 8 + s
    · rw [if_pos ⟨rfl, e⟩, if_pos e]
    · rw [if_neg (fun q => e q.2), if_neg e, ab_gi_si, if_neg (by simp)]
theorem cs_lay_snd (h : ab_H) (d s v : Int) : (cs_lay h d s v).2 = h.2 := by unfold cs_lay; split <;> rfl
theorem cs_w_fr {h h' : ab_H} (h4 : ∀ x, ab_gi h' 4 x = ab_gi h 4 x) (h1 : ab_gi h' 1 0 = ab_gi h 1 0) (s d : Int) : cs_w h' s d = cs_w h s d := by
  unfold cs_w
  simp only [h4, h1]
theorem cs_j_fr {h h' : ab_H} (h4 : ∀ x, ab_gi h' 4 x = ab_gi h 4 x) (h1 : ab_gi h' 1 0 = ab_gi h 1 0) {s d : Int} (h5 : ab_gi h' 5 d = ab_gi h 5 d) (h3 : ab_gi h' 3 (d * 8 + s) = ab_gi h 3 (d * 8 + s)) (j : cs_j h s d) : cs_j h' s d := by
  unfold cs_j
  rw [cs_w_fr h4 h1, h5, h3]
  exact j
theorem cs_ix {a b c d : Int} (h1 : 0 ≤ b) (h2 : b < 8) (h3 : 0 ≤ d) (h4 : d < 8) (h : a * 8 + b = c * 8 + d) : a = c ∧ b = d := by omega
/-- laying what should be there -/
theorem cs_lay_j {h : ab_H} {d s s' o : Int} (h1 : 0 ≤ s) (h2 : s < 8) (h3 : 0 ≤ s') (h4 : s' < 8) (j : cs_j h s' o ∨ (s' = s ∧ o = d)) : cs_j (cs_lay h d s (cs_w h s d)) s' o := by
  have w9 := cs_w_fr (h := h) (h' := cs_lay h d s (cs_w h s d)) (fun x => cs_lay_gi (by decide) (by decide)) (cs_lay_gi (by decide) (by decide)) s' o
  unfold cs_j
  rw [w9, cs_lay_gi (by decide) (by decide), cs_lay_3]
  by_cases c : ab_gi h 5 d = 1
  · rw [if_pos c]
    rcases j with j | ⟨e1, e2⟩
    · exact j
    · subst e2; exact Or.inl c
  · rw [if_neg c]
    by_cases e : o * 8 + s' = d * 8 + s
    · obtain ⟨e1, e2⟩ := cs_ix h3 h4 h1 h2 e
      subst e1; subst e2
      rw [if_pos rfl]
      exact Or.inr (Or.inr rfl)
    · rw [if_neg e]
      rcases j with j | ⟨e1, e2⟩
      · exact j
      · subst e1; subst e2; exact absurd rfl e
theorem cs_lay_b {h : ab_H} {d s v s' o : Int} (h1 : 0 ≤ s) (h2 : s < 8) (h3 : 0 ≤ s') (h4 : s' < 8) : cs_b (cs_lay h d s v) o s' ≤ cs_b h o s' := by
  by_cases c : ab_gi h 5 d = 1
  · have e : cs_lay h d s v = h := by unfold cs_lay; rw [if_pos c]
    rw [e]; omega
  · by_cases e : o * 8 + s' = d * 8 + s
    · obtain ⟨e1, e2⟩ := cs_ix h3 h4 h1 h2 e
      subst e1; subst e2
      have e9 : cs_b (cs_lay h o s' v) o s' = 0 := by
        unfold cs_b
        rw [cs_lay_gi (by decide) (by decide), cs_lay_3, cs_lay_2, if_neg c, if_neg c, if_pos rfl, if_pos rfl, if_neg]
        rintro (z | z)
        · exact c z
        · exact z rfl
      have := cs_b_le h o s'
      omega
    · have e9 : cs_b (cs_lay h d s v) o s' = cs_b h o s' := by
        unfold cs_b
        rw [cs_lay_gi (by decide) (by decide), cs_lay_3, cs_lay_2, if_neg c, if_neg c, if_neg e, if_neg e]
      omega
theorem cs_sf_mono {f g : Int → Int} : ∀ (k : Nat) (i : Int), (∀ j, i ≤ j → j < i + k → f j ≤ g j) → cs_sf f i k ≤ cs_sf g i k
  | 0, i, _ => by simp [cs_sf]
  | k + 1, i, h => by
    have h1 := h i (by omega) (by omega)
    have h2 := cs_sf_mono k (i + 1) (fun j q1 q2 => h j (by omega) (by omega))
    simp only [cs_sf]
    omega
theorem cs_lay_bc {h : ab_H} {d s v s' : Int} (h1 : 0 ≤ s) (h2 : s < 8) (h3 : 0 ≤ s') (h4 : s' < 8) : cs_bc (cs_lay h d s v) s' ≤ cs_bc h s' := by
  unfold cs_bc
  rw [cs_lay_gi (by decide) (by decide)]
  exact cs_sf_mono _ _ (fun j _ _ => cs_lay_b h1 h2 h3 h4)
theorem cs_lay_Q {h : ab_H} {D S d s v : Int} (q : cs_Q h D S) (v1 : 0 ≤ v) (v2 : v ≤ 255) : cs_Q (cs_lay h d s v) D S := by
  obtain ⟨hR, eD, eS, r⟩ := q
  exact ⟨cs_R_lay hR v1 v2, (cs_lay_gi (by decide) (by decide)).trans eD, (cs_lay_gi (by decide) (by decide)).trans eS, r⟩
/-- a mending: nothing, or one bad cell of a hurt stripe is laid -/
theorem cs_mf_cases {h : ab_H} {s : Int} : ∀ (k : Nat) (i : Int), cs_mf h s i k = (0, h) ∨ ∃ a, i ≤ a ∧ a < i + k ∧ cs_b h a s = 1 ∧ cs_mf h s i k = (1, cs_lay h a s (cs_xo h a s))
  | 0, i => Or.inl rfl
  | k + 1, i => by
    unfold cs_mf
    by_cases c : cs_b h i s = 1 ∧ ab_gi h 5 i = 0
    · rw [if_pos c]
      exact Or.inr ⟨i, by omega, by omega, c.1, rfl⟩
    · rw [if_neg c]
      rcases cs_mf_cases k (i + 1) with z | ⟨a, a1, a2, a3, a4⟩
      · exact Or.inl z
      · exact Or.inr ⟨a, by omega, by omega, a3, a4⟩
theorem cs_mend_cases {h : ab_H} {D S s : Int} (q : cs_Q h D S) (h3 : 0 ≤ s) (h4 : s < S) (hJ : cs_J h s) : cs_mend h s = (0, h) ∨ ∃ a, 0 ≤ a ∧ a < D ∧ cs_mend h s = (1, cs_lay h a s (cs_w h s a)) := by
  have eD := q.2.1
  have D1 := q.2.2.2.1
  unfold cs_mend
  by_cases c : cs_bc h s = 1
  · rw [if_pos c]
    rcases cs_mf_cases (h := h) (s := s) (ab_gi h 1 0).toNat 0 with z | ⟨a, a1, a2, a3, a4⟩
    · exact Or.inl z
    · refine Or.inr ⟨a, a1, by omega, ?_⟩
      rw [a4, cs_j_xo q a1 (by omega) h3 h4 (fun o o1 o2 ho => ⟨hJ o o1 (by omega), cs_others q a1 (by omega) (by omega) a3 o o1 o2 ho⟩)]
  · rw [if_neg c]; exact Or.inl rfl
/-- the cells that a note speaks of -/
def cs_nd (h : ab_H) (s d : Int) : Prop := 0 ≤ ab_gi h 0 3 ∧ ab_gi h 0 3 / (ab_gi h 1 0 - 1) = s ∧ (d = cs_dk (ab_gi h 1 0) (ab_gi h 0 3) ∨ d = s % ab_gi h 1 0)
/-- all cells but those that a note speaks of are as they should be -/
def cs_G (h : ab_H) : Prop := ∀ s d, 0 ≤ s → s < ab_gi h 1 1 → 0 ≤ d → d < ab_gi h 1 0 → ¬ cs_nd h s d → cs_j h s d
theorem cs_G_J {h : ab_H} (g : cs_G h) (hn : ab_gi h 0 3 = -1) (s : Int) (h3 : 0 ≤ s) (h4 : s < ab_gi h 1 1) : cs_J h s := fun d d1 d2 => g s d h3 h4 d1 d2 (fun z => by have := z.1; omega)
/-- a stripe without a note -/
theorem cs_G_Js {h : ab_H} (g : cs_G h) {s : Int} (hn : ab_gi h 0 3 < 0 ∨ ab_gi h 0 3 / (ab_gi h 1 0 - 1) ≠ s) (h3 : 0 ≤ s) (h4 : s < ab_gi h 1 1) : cs_J h s := fun d d1 d2 => g s d h3 h4 d1 d2 (fun z => by
  rcases hn with q | q
  · have := z.1; omega
  · exact q z.2.1)
theorem cs_G_fr {h h' : ab_H} (g : cs_G h) (h4 : ∀ x, ab_gi h' 4 x = ab_gi h 4 x) (e0 : ab_gi h' 1 0 = ab_gi h 1 0) (e1 : ab_gi h' 1 1 = ab_gi h 1 1) (en : ab_gi h' 0 3 = ab_gi h 0 3) (hc : ∀ s d, 0 ≤ s → s < ab_gi h 1 1 → 0 ≤ d → d < ab_gi h 1 0 → cs_j h s d → cs_j h' s d) : cs_G h' := by
  intro s d s1 s2 d1 d2 hn
  rw [e1] at s2
  rw [e0] at d2
  refine hc s d s1 s2 d1 d2 (g s d s1 s2 d1 d2 (fun z => hn ?_))
  unfold cs_nd at z ⊢
  rw [e0, en]
  exact z
theorem cs_G_fr0 {h h' : ab_H} (g : cs_G h) (e : ∀ c x, 1 ≤ c → c ≤ 5 → ab_gi h' c x = ab_gi h c x) (en : ab_gi h' 0 3 = ab_gi h 0 3) : cs_G h' :=
  cs_G_fr g (fun x => e 4 x (by omega) (by omega)) (e 1 0 (by omega) (by omega)) (e 1 1 (by omega) (by omega)) en (fun s d _ _ _ _ j => cs_j_fr (fun x => e 4 x (by omega) (by omega)) (e 1 0 (by omega) (by omega)) (e 5 d (by omega) (by omega)) (e 3 _ (by omega) (by omega)) j)
theorem cs_G_lay {h : ab_H} {D S d s : Int} (q : cs_Q h D S) (g : cs_G h) (h3 : 0 ≤ s) (h4 : s < S) : cs_G (cs_lay h d s (cs_w h s d)) := by
  have := q.2.2
  refine cs_G_fr g (fun x => cs_lay_gi (by decide) (by decide)) (cs_lay_gi (by decide) (by decide)) (cs_lay_gi (by decide) (by decide)) (cs_lay_gi (by decide) (by decide)) (fun s' o s1 s2 o1 o2 j => cs_lay_j h3 (by omega) s1 (by omega) (Or.inl j))
theorem cs_mend_gi {h : ab_H} {D S s : Int} (q : cs_Q h D S) (h3 : 0 ≤ s) (h4 : s < S) (hJ : cs_J h s) {c : Nat} {x : Int} (h2 : c ≠ 2) (h9 : c ≠ 3) : ab_gi (cs_mend h s).2 c x = ab_gi h c x := by
  rcases cs_mend_cases q h3 h4 hJ with e | ⟨a, a1, a2, e⟩
  · rw [e]
  · rw [e]; exact cs_lay_gi h2 h9
theorem cs_mend_snd {h : ab_H} {D S s : Int} (q : cs_Q h D S) (h3 : 0 ≤ s) (h4 : s < S) (hJ : cs_J h s) : (cs_mend h s).2.2 = h.2 := by
  rcases cs_mend_cases q h3 h4 hJ with e | ⟨a, a1, a2, e⟩
  · rw [e]
  · rw [e]; exact cs_lay_snd _ _ _ _
theorem cs_mend_ok {h : ab_H} {D S s : Int} (q : cs_Q h D S) (g : cs_G h) (h3 : 0 ≤ s) (h4 : s < S) (hJ : cs_J h s) : cs_Q (cs_mend h s).2 D S ∧ cs_G (cs_mend h s).2 ∧ (∀ s', 0 ≤ s' → s' < S → cs_bc (cs_mend h s).2 s' ≤ cs_bc h s') ∧ ((cs_mend h s).1 = 0 ∨ (cs_mend h s).1 = 1) := by
  have := q.2.2
  rcases cs_mend_cases q h3 h4 hJ with e | ⟨a, a1, a2, e⟩
  · rw [e]
    exact ⟨q, g, fun s' _ _ => by show cs_bc h s' ≤ cs_bc h s'; omega, Or.inl rfl⟩
  · rw [e]
    have w := cs_w_rng q a1 a2 h3 h4
    exact ⟨cs_lay_Q q w.1 w.2, cs_G_lay q g h3 h4, fun s' s1 s2 => cs_lay_bc h3 (by omega) s1 (by omega), Or.inr rfl⟩
end
