/-! WHAT THE CELLS SHOULD HOLD -/
section
variable {B : ab_B}
def cx (f : Int → Nat) : Int → Nat → Nat
  | _, 0 => 0
  | i, k + 1 => f i ^^^ cx f (i + 1) k
theorem cx_congr {f g : Int → Nat} : ∀ (k : Nat) (i : Int), (∀ j, i ≤ j → j < i + k → f j = g j) → cx f i k = cx g i k
  | 0, i, _ => rfl
  | k + 1, i, h => by
    unfold cx
    rw [h i (by omega) (by omega), cx_congr k (i + 1) (fun j q1 q2 => h j (by omega) (by omega))]
theorem cx_hole {f : Int → Nat} {d : Int} : ∀ (k : Nat) (i : Int), i ≤ d → d < i + k → cx f i k = cx (fun o => if o = d then 0 else f o) i k ^^^ f d
  | 0, i, q1, q2 => by omega
  | k + 1, i, q1, q2 => by
    unfold cx
    by_cases e : i = d
    · subst e
      rw [if_pos rfl, cx_congr (g := fun o => if o = i then 0 else f o) k (i + 1) (fun j q3 q4 => by rw [if_neg (by omega)]), Nat.zero_xor, Nat.xor_comm]
    · rw [if_neg e, cx_hole (d := d) k (i + 1) (by omega) (by omega), Nat.xor_assoc]
theorem cx_lt {f : Int → Nat} : ∀ (k : Nat) (i : Int), (∀ j, i ≤ j → j < i + k → f j < 256) → cx f i k < 256
  | 0, i, _ => by unfold cx; omega
  | k + 1, i, h => by
    unfold cx
    have h1 := h i (by omega) (by omega)
    have h2 := cx_lt k (i + 1) (fun j q1 q2 => h j (by omega) (by omega))
    exact Nat.xor_lt_two_pow (n := 8) h1 h2
theorem cs_xf_cx {f : Int → Int} : ∀ (k : Nat) (acc i : Int), 0 ≤ acc → acc ≤ 255 → (∀ j, i ≤ j → j < i + k → 0 ≤ f j ∧ f j ≤ 255) → cs_xf f acc i k = ((acc.toNat ^^^ cx (fun j => (f j).toNat) i k : Nat) : Int)
  | 0, acc, i, h1, h2, _ => by unfold cs_xf cx; rw [Nat.xor_zero]; omega
  | k + 1, acc, i, h1, h2, hf => by
    have hi := hf i (by omega) (by omega)
    have hx := ab_ixor_rng h1 h2 hi.1 hi.2
    have he := (ab_ixor_eq h1 h2 hi.1 hi.2).1
    unfold cs_xf cx
    rw [cs_xf_cx k _ (i + 1) hx.1 hx.2 (fun j q1 q2 => hf j (by omega) (by omega)), he, Int.toNat_natCast, Nat.xor_assoc]
/-- what the cell of the disk d on the stripe s should hold, by what was written -/
def cs_w (h : ab_H) (s d : Int) : Int := if d = s % ab_gi h 1 0 then cs_xf (fun o => if o = s % ab_gi h 1 0 then 0 else ab_gi h 4 (o * 8 + s)) 0 0 (ab_gi h 1 0).toNat else ab_gi h 4 (d * 8 + s)
/-- the numbers that hold -/
def cs_Q (h : ab_H) (D S : Int) : Prop := cs_R h ∧ ab_gi h 1 0 = D ∧ ab_gi h 1 1 = S ∧ 3 ≤ D ∧ D ≤ 5 ∧ 1 ≤ S ∧ S ≤ 8
theorem cs_w_rng {h : ab_H} {D S s d : Int} (q : cs_Q h D S) (h1 : 0 ≤ d) (h2 : d < D) (h3 : 0 ≤ s) (h4 : s < S) : 0 ≤ cs_w h s d ∧ cs_w h s d ≤ 255 := by
  obtain ⟨hR, eD, eS, D1, D2, S1, S2⟩ := q
  have hv : ∀ o, 0 ≤ o → o < D → 0 ≤ ab_gi h 4 (o * 8 + s) ∧ ab_gi h 4 (o * 8 + s) ≤ 255 := fun o q1 q2 => by
    have := hR.2.2.1 (o * 8 + s) (by omega) (by omega)
    omega
  unfold cs_w
  split
  · rw [cs_xf_cx _ 0 0 (by omega) (by omega) (fun j q1 q2 => by
      split
      · omega
      · exact hv j q1 (by omega))]
    have := cx_lt (f := fun j => ((if j = s % ab_gi h 1 0 then 0 else ab_gi h 4 (j * 8 + s)) : Int).toNat) (ab_gi h 1 0).toNat 0 (fun j q1 q2 => by
      have := hv j q1 (by omega)
      show Int.toNat (if j = s % ab_gi h 1 0 then 0 else ab_gi h 4 (j * 8 + s)) < 256
      split <;> omega)
    simp only [Int.toNat_zero, Nat.zero_xor]
    omega
  · exact hv d h1 h2
theorem cs_w_xo {h : ab_H} {D S s d : Int} (q : cs_Q h D S) (h1 : 0 ≤ d) (h2 : d < D) (h3 : 0 ≤ s) (h4 : s < S) : cs_xf (fun o => if o = d then 0 else cs_w h s o) 0 0 (ab_gi h 1 0).toNat = cs_w h s d := by
  have hr := fun o q1 q2 => cs_w_rng (d := o) q q1 q2 h3 h4
  have hd := hr d h1 h2
  obtain ⟨hR, eD, eS, D1, D2, S1, S2⟩ := q
  have sd1 : 0 ≤ s % D := Int.emod_nonneg _ (by omega)
  have sd2 : s % D < D := Int.emod_lt_of_pos _ (by omega)
  have hx : ∀ e, 0 ≤ e → e < D → cs_xf (fun o => if o = e then 0 else cs_w h s o) 0 0 (ab_gi h 1 0).toNat = ((cx (fun o => if o = e then 0 else (cs_w h s o).toNat) 0 (ab_gi h 1 0).toNat : Nat) : Int) := fun e e1 e2 => by
    rw [cs_xf_cx _ 0 0 (by omega) (by omega) (fun j q1 q2 => by
      split
      · omega
      · exact hr j q1 (by omega))]
    rw [Int.toNat_zero, Nat.zero_xor]
    congr 1
    apply cx_congr
    intro j _ _
    split <;> rfl
  have es : cs_w h s (s % D) = cs_xf (fun o => if o = s % D then 0 else cs_w h s o) 0 0 (ab_gi h 1 0).toNat := by
    have e1 : cs_w h s (s % D) = cs_xf (fun o => if o = s % D then 0 else ab_gi h 4 (o * 8 + s)) 0 0 (ab_gi h 1 0).toNat := by
      unfold cs_w
      rw [eD, if_pos rfl]
    rw [e1]
    congr 1
    funext o
    by_cases c : o = s % D
    · rw [if_pos c, if_pos c]
    · rw [if_neg c, if_neg c]
      unfold cs_w
      rw [eD, if_neg c]
  have hall : cx (fun o => (cs_w h s o).toNat) 0 (ab_gi h 1 0).toNat = 0 := by
    rw [cx_hole (d := s % D) _ 0 sd1 (by omega)]
    have e9 := hx (s % D) sd1 sd2
    rw [← es] at e9
    have e8 : (cs_w h s (s % D)).toNat = cx (fun o => if o = s % D then 0 else (cs_w h s o).toNat) 0 (ab_gi h 1 0).toNat := by rw [e9, Int.toNat_natCast]
    rw [e8, Nat.xor_self]
  rw [cx_hole (d := d) _ 0 h1 (by omega)] at hall
  have e7 : cx (fun o => if o = d then 0 else (cs_w h s o).toNat) 0 (ab_gi h 1 0).toNat = (cs_w h s d).toNat := by
    have := congrArg (fun n => n ^^^ (cs_w h s d).toNat) hall
    simp only [Nat.xor_assoc, Nat.xor_self, Nat.xor_zero, Nat.zero_xor] at this
    exact this
  rw [hx d h1 h2, e7]
  omega
/-- the cell of the disk d is as it should be, or will be found bad -/
def cs_j (h : ab_H) (s d : Int) : Prop := ab_gi h 5 d = 1 ∨ ab_gi h 3 (d * 8 + s) = -1 ∨ ab_gi h 3 (d * 8 + s) = (7 * cs_w h s d + s) % 256
def cs_J (h : ab_H) (s : Int) : Prop := ∀ d, 0 ≤ d → d < ab_gi h 1 0 → cs_j h s d
theorem cs_mark {a b s : Int} (h1 : 0 ≤ a) (h2 : a ≤ 255) (h3 : 0 ≤ b) (h4 : b ≤ 255) (h : (7 * a + s) % 256 = (7 * b + s) % 256) : a = b := by omega
theorem cs_j_val {h : ab_H} {D S s d : Int} (q : cs_Q h D S) (h1 : 0 ≤ d) (h2 : d < D) (h3 : 0 ≤ s) (h4 : s < S) (j : cs_j h s d) (hb : cs_b h d s = 0) : ab_gi h 2 (d * 8 + s) = cs_w h s d := by
  have hw := cs_w_rng q h1 h2 h3 h4
  obtain ⟨hR, eD, eS, D1, D2, S1, S2⟩ := q
  have hv := hR.2.2.1 (d * 8 + s) (by omega) (by omega)
  unfold cs_b at hb
  have hg : ¬ (ab_gi h 5 d = 1 ∨ ab_gi h 3 (d * 8 + s) ≠ (7 * ab_gi h 2 (d * 8 + s) + s) % 256) := fun z => by rw [if_pos z] at hb; omega
  rcases j with j | j | j
  · exact absurd (Or.inl j) hg
  · exact absurd (Or.inr (by rw [j]; omega)) hg
  · refine cs_mark hv.1 hv.2.1 hw.1 hw.2 (s := s) ?_
    rw [← j]
    exact (Decidable.not_not.mp (fun z => hg (Or.inr z))).symm
theorem cs_sf_two {f : Int → Int} (hf : ∀ i, 0 ≤ f i) : ∀ (k : Nat) (i a b : Int), i ≤ a → a < i + k → i ≤ b → b < i + k → a ≠ b → f a + f b ≤ cs_sf f i k
  | 0, i, a, b, h1, h2, _, _, _ => by omega
  | k + 1, i, a, b, h1, h2, h3, h4, hne => by
    have one : ∀ (k : Nat) (i a : Int), i ≤ a → a < i + k → f a ≤ cs_sf f i k := by
      intro k
      induction k with
      | zero => intro i a q1 q2; omega
      | succ k ih =>
        intro i a q1 q2
        simp only [cs_sf]
        by_cases e : a = i
        · subst e
          have : 0 ≤ cs_sf f (a + 1) k := by
            have nn : ∀ (k : Nat) (i : Int), 0 ≤ cs_sf f i k := by
              intro k
              induction k with
              | zero => intro i; simp [cs_sf]
              | succ k ih => intro i; simp only [cs_sf]; have := hf i; have := ih (i + 1); omega
            exact nn k _
          omega
        · have := ih (i + 1) a (by omega) (by omega)
          have := hf i
          omega
    simp only [cs_sf]
    by_cases e : a = i
    · subst e
      have := one k (a + 1) b (by omega) (by omega)
      omega
    · by_cases e2 : b = i
      · subst e2
        have := one k (b + 1) a (by omega) (by omega)
        omega
      · have := cs_sf_two hf k (i + 1) a b (by omega) (by omega) (by omega) (by omega) hne
        have := hf i
        omega
theorem cs_others {h : ab_H} {D S s d : Int} (q : cs_Q h D S) (h1 : 0 ≤ d) (h2 : d < D) (hc : cs_bc h s ≤ 1) (hb : cs_b h d s = 1) (o : Int) (o1 : 0 ≤ o) (o2 : o < D) (ho : o ≠ d) : cs_b h o s = 0 := by
  obtain ⟨hR, eD, eS, D1, D2, S1, S2⟩ := q
  have := cs_sf_two (f := fun d => cs_b h d s) (fun i => (cs_b_le h i s).1) (ab_gi h 1 0).toNat 0 d o h1 (by omega) o1 (by omega) (Ne.symm ho)
  unfold cs_bc at hc
  have h9 : cs_b h d s + cs_b h o s ≤ cs_sf (fun d => cs_b h d s) 0 (ab_gi h 1 0).toNat := this
  rcases cs_b01 h o s with z | z <;> omega
theorem cs_j_xo {h : ab_H} {D S s d : Int} (q : cs_Q h D S) (h1 : 0 ≤ d) (h2 : d < D) (h3 : 0 ≤ s) (h4 : s < S) (hj : ∀ o, 0 ≤ o → o < D → o ≠ d → cs_j h s o ∧ cs_b h o s = 0) : cs_xo h d s = cs_w h s d := by
  rw [← cs_w_xo q h1 h2 h3 h4]
  have hw := fun o q1 q2 => cs_w_rng (d := o) q q1 q2 h3 h4
  have hv := fun o q1 q2 q3 => cs_j_val (d := o) q q1 q2 h3 h4 (hj o q1 q2 q3).1 (hj o q1 q2 q3).2
  obtain ⟨hR, eD, eS, D1, D2, S1, S2⟩ := q
  unfold cs_xo
  have hr : ∀ (g : Int → Int), (∀ o, 0 ≤ o → o < D → o ≠ d → 0 ≤ g o ∧ g o ≤ 255) → cs_xf (fun o => if o = d then 0 else g o) 0 0 (ab_gi h 1 0).toNat = ((cx (fun o => if o = d then 0 else (g o).toNat) 0 (ab_gi h 1 0).toNat : Nat) : Int) := fun g hg => by
    rw [cs_xf_cx _ 0 0 (by omega) (by omega) (fun j q1 q2 => by
      split
      · omega
      · rename_i c; exact hg j q1 (by omega) c)]
    rw [Int.toNat_zero, Nat.zero_xor]
    congr 1
    apply cx_congr
    intro j _ _
    split <;> rfl
  rw [hr (fun o => ab_gi h 2 (o * 8 + s)) (fun o q1 q2 q3 => by have := hv o q1 q2 q3; have := hw o q1 q2; omega), hr (fun o => cs_w h s o) (fun o q1 q2 _ => hw o q1 q2)]
  congr 1
  apply cx_congr
  intro j q1 q2
  by_cases c : j = d
  · rw [if_pos c, if_pos c]
  · rw [if_neg c, if_neg c, hv j q1 (by omega) c]
/-- what is read -/
theorem cs_J_sh {h : ab_H} {D S s d : Int} (q : cs_Q h D S) (h1 : 0 ≤ d) (h2 : d < D) (h3 : 0 ≤ s) (h4 : s < S) (hJ : cs_J h s) : cs_sh h d s = if cs_b h d s = 1 ∧ 1 < cs_bc h s then -1 else cs_w h s d := by
  have eD := q.2.1
  unfold cs_sh
  rcases cs_b01 h d s with hb | hb
  · rw [if_pos hb, if_neg (by omega)]
    exact cs_j_val q h1 h2 h3 h4 (hJ d h1 (by omega)) hb
  · rw [if_neg (by omega)]
    by_cases c : 1 < cs_bc h s
    · rw [if_pos c, if_pos ⟨hb, c⟩]
    · rw [if_neg c, if_neg (fun z => c z.2)]
      exact cs_j_xo q h1 h2 h3 h4 (fun o o1 o2 ho => ⟨hJ o o1 (by omega), cs_others q h1 h2 (by omega) hb o o1 o2 ho⟩)
/-- a stripe that holds what it should is sound -/
theorem cs_J_sl {h : ab_H} {D S s : Int} (q : cs_Q h D S) (h3 : 0 ≤ s) (h4 : s < S) (hJ : cs_J h s) : ∀ (k : Nat) (i : Int), 0 ≤ i → i + k = D → cs_sl h s i k = 1
  | 0, i, _, _ => rfl
  | k + 1, i, q1, q2 => by
    have eD := q.2.1
    unfold cs_sl
    rw [if_neg, cs_J_sl q h3 h4 hJ k (i + 1) (by omega) (by omega)]
    rintro ⟨n1, n2, n3⟩
    rw [cs_J_sh q q1 (by omega) h3 h4 hJ, if_neg (fun z => n2 ⟨z.2, z.1⟩)] at n3
    apply n3
    unfold cs_w
    rw [if_neg n1]
theorem cs_sf_0 {f : Int → Int} (hf : ∀ i, 0 ≤ f i) : ∀ (k : Nat) (i a : Int), cs_sf f i k = 0 → i ≤ a → a < i + k → f a = 0
  | 0, i, a, _, h1, h2 => by omega
  | k + 1, i, a, h0, h1, h2 => by
    simp only [cs_sf] at h0
    have nn : ∀ (k : Nat) (i : Int), 0 ≤ cs_sf f i k := by
      intro k
      induction k with
      | zero => intro i; simp [cs_sf]
      | succ k ih => intro i; simp only [cs_sf]; have := hf i; have := ih (i + 1); omega
    have h8 := nn k (i + 1)
    have h9 := hf i
    by_cases e : a = i
    · subst e; omega
    · exact cs_sf_0 hf k (i + 1) a (by omega) (by omega) (by omega)
theorem cs_J_ss {h : ab_H} {D S s : Int} (q : cs_Q h D S) (h3 : 0 ≤ s) (h4 : s < S) (hJ : cs_J h s) : cs_ss h s = 1 := by
  have eD := q.2.1
  have D1 := q.2.2.2.1
  have sd1 : 0 ≤ s % ab_gi h 1 0 := Int.emod_nonneg _ (by omega)
  have sd2 : s % ab_gi h 1 0 < ab_gi h 1 0 := Int.emod_lt_of_pos _ (by omega)
  unfold cs_ss
  rw [if_neg]
  · exact cs_J_sl q h3 h4 hJ _ 0 (by omega) (by omega)
  · rintro ⟨c1, c2⟩
    have hb : ∀ o, 0 ≤ o → o < D → cs_b h o s = 0 := fun o o1 o2 => cs_sf_0 (f := fun d => cs_b h d s) (fun i => (cs_b_le h i s).1) (ab_gi h 1 0).toNat 0 o c1 o1 (by omega)
    apply c2
    rw [cs_j_xo q sd1 (by omega) h3 h4 (fun o o1 o2 _ => ⟨hJ o o1 (by omega), hb o o1 o2⟩)]
    exact cs_j_val q sd1 (by omega) h3 h4 (hJ _ sd1 sd2) (hb _ sd1 (by omega))
end
