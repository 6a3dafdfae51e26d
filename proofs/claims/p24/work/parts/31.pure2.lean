set_option linter.all false
/-! THE PLAN as a function of kinds and fuse: the search -/
section
variable {B : ab_B}
/-- kinds and fuse: peaks, spins, idles, limit, patience -/
abbrev pk_K : Type := (Int → Int) × (Int → Int) × (Int → Int) × Int × Int
/-- as the calls keep them -/
def pk_ok (K : pk_K) : Prop := (∀ d, 0 ≤ d → d < 5 → (1 ≤ K.1 d ∧ K.1 d ≤ 30) ∧ (1 ≤ K.2.1 d ∧ K.2.1 d ≤ 9) ∧ (0 ≤ K.2.2.1 d ∧ K.2.2.1 d ≤ 9)) ∧ (1 ≤ K.2.2.2.1 ∧ K.2.2.2.1 ≤ 90) ∧ (0 ≤ K.2.2.2.2 ∧ K.2.2.2.2 ≤ 9)
/-- what the disk d draws at the tenth t, by its start -/
def pk_d1 (K : pk_K) (st : Int → Int) (t d : Int) : Int := if st d = -1 then 0 else if t < st d then 0 else if t < st d + K.2.1 d then K.1 d else K.2.2.1 d
def pk_dr (K : pk_K) (D : Int) (st : Int → Int) (t : Int) : Int := cs_sf (pk_d1 K st t) 0 D.toNat
/-- whether they are above the limit -/
def pk_ov (K : pk_K) (D : Int) (st : Int → Int) (t : Int) : Bool := decide (K.2.2.2.1 < pk_dr K D st t)
def pk_trips (K : pk_K) (D : Int) (st : Int → Int) : Bool := pk_g K.2.2.2.2 (pk_ov K D st) 0 0 161
def pk_up (st : Int → Int) (d v : Int) : Int → Int := fun x => if x = d then v else st x
theorem pk_up_s (st : Int → Int) (d v : Int) : pk_up st d v d = v := if_pos rfl
theorem pk_up_n {st : Int → Int} {d v x : Int} (h : x ≠ d) : pk_up st d v x = st x := if_neg h
/-- the least start from u on that doesn't trip -/
def pk_ls (K : pk_K) (D : Int) (st : Int → Int) (d : Int) : Nat → Int → Option Int
  | 0, _ => none
  | k + 1, u => if pk_trips K D (pk_up st d u) = true then pk_ls K D st d k (u + 1) else some u
def pk_mx (f : Int → Int) : Int → Int → Nat → Int
  | m, _, 0 => m
  | m, i, k + 1 => pk_mx f (if m < f i then f i else m) (i + 1) k
/-- the end of those that have a start -/
def pk_end (K : pk_K) (D : Int) (st : Int → Int) : Int := pk_mx (fun d => if st d = -1 then 0 else st d + K.2.1 d) 0 0 D.toNat
/-- a plan: starts, places -/
abbrev pk_X : Type := Option ((Int → Int) × (Int → Int))
/-- the better one; the first of the same end -/
def pk_mg (K : pk_K) (D : Int) (a b : pk_X) : pk_X := match b with
  | none => a
  | some y => match a with
    | none => some y
    | some x => if pk_end K D y.1 < pk_end K D x.1 then some y else some x
def pk_lp (f : pk_X → Int → pk_X) : Nat → Int → pk_X → pk_X
  | 0, _, a => a
  | k + 1, i, a => pk_lp f k (i + 1) (f a i)
/-- the best of all orders from the place pl on -/
def pk_pl (K : pk_K) (D : Int) : Nat → (Int → Int) → (Int → Int) → Int → Int → pk_X
  | 0, st, po, _, _ => some (st, po)
  | n + 1, st, po, pl, fr => pk_lp (fun best d => pk_mg K D best (if st d ≠ -1 then none else match pk_ls K D st d (61 - fr).toNat fr with
    | none => none
    | some u => pk_pl K D n (pk_up st d u) (pk_up po d pl) (pl + 1) u)) D.toNat 0 none
/-- what the disk d gives as the next one -/
def pk_x (K : pk_K) (D : Int) (n : Nat) (st po : Int → Int) (pl fr d : Int) : pk_X := if st d ≠ -1 then none else match pk_ls K D st d (61 - fr).toNat fr with
    | none => none
    | some u => pk_pl K D n (pk_up st d u) (pk_up po d pl) (pl + 1) u
theorem pk_pl_s (K : pk_K) (D : Int) (n : Nat) (st po : Int → Int) (pl fr : Int) : pk_pl K D (n + 1) st po pl fr = pk_lp (fun best d => pk_mg K D best (pk_x K D n st po pl fr d)) D.toNat 0 none := rfl
theorem pk_mg_none (K : pk_K) (D : Int) (a : pk_X) : pk_mg K D a none = a := rfl
theorem pk_mg_n (K : pk_K) (D : Int) (a : pk_X) : pk_mg K D none a = a := by cases a <;> rfl
theorem pk_mg_assoc (K : pk_K) (D : Int) (a b c : pk_X) : pk_mg K D (pk_mg K D a b) c = pk_mg K D a (pk_mg K D b c) := by
  cases c with
  | none => rfl
  | some z =>
    cases b with
    | none => rw [pk_mg_none, pk_mg_n]
    | some y =>
      cases a with
      | none => rw [pk_mg_n, pk_mg_n]
      | some x =>
        unfold pk_mg
        simp only
        by_cases c1 : pk_end K D y.1 < pk_end K D x.1
        · rw [if_pos c1]
          simp only
          by_cases c2 : pk_end K D z.1 < pk_end K D y.1
          · rw [if_pos c2]; simp only; rw [if_pos (by omega)]
          · rw [if_neg c2]; simp only; rw [if_pos c1]
        · rw [if_neg c1]
          simp only
          by_cases c2 : pk_end K D z.1 < pk_end K D y.1
          · rw [if_pos c2]
          · rw [if_neg c2]; simp only; rw [if_neg c1, if_neg (by omega)]
theorem pk_lp_mg (K : pk_K) (D : Int) (X : Int → pk_X) : ∀ (k : Nat) (i : Int) (a b : pk_X), pk_lp (fun best d => pk_mg K D best (X d)) k i (pk_mg K D a b) = pk_mg K D a (pk_lp (fun best d => pk_mg K D best (X d)) k i b)
  | 0, _, _, _ => rfl
  | k + 1, i, a, b => by
    show pk_lp _ k (i + 1) (pk_mg K D (pk_mg K D a b) (X i)) = pk_mg K D a (pk_lp _ k (i + 1) (pk_mg K D b (X i)))
    rw [pk_mg_assoc, pk_lp_mg K D X k]
/-- what each of several has, the best has -/
theorem pk_lp_P {K : pk_K} {D : Int} {X : Int → pk_X} {P : (Int → Int) × (Int → Int) → Prop} : ∀ (k : Nat) (i : Int) (a : pk_X), (∀ y, a = some y → P y) → (∀ d y, i ≤ d → d < i + k → X d = some y → P y) → ∀ y, pk_lp (fun best d => pk_mg K D best (X d)) k i a = some y → P y
  | 0, _, _, h, _, y, e => h y e
  | k + 1, i, a, h, hX, y, e => by
    refine pk_lp_P k (i + 1) (pk_mg K D a (X i)) (fun z hz => ?_) (fun d z q1 q2 => hX d z (by omega) (by omega)) y e
    cases hx : X i with
    | none => rw [hx] at hz; exact h z hz
    | some w =>
      rw [hx] at hz
      have hw := hX i w (by omega) (by omega) hx
      cases a with
      | none => rw [pk_mg_n] at hz; cases hz; exact hw
      | some v =>
        unfold pk_mg at hz
        simp only at hz
        split at hz <;> cases hz
        · exact hw
        · exact h _ rfl
theorem pk_mx_up (f : Int → Int) : ∀ (k : Nat) (m i : Int), m ≤ pk_mx f m i k ∧ ∀ j, i ≤ j → j < i + k → f j ≤ pk_mx f m i k
  | 0, m, i => ⟨Int.le_refl _, fun j q1 q2 => by omega⟩
  | k + 1, m, i => by
    obtain ⟨h1, h2⟩ := pk_mx_up f k (if m < f i then f i else m) (i + 1)
    unfold pk_mx
    have h3 : m ≤ (if m < f i then f i else m) ∧ f i ≤ (if m < f i then f i else m) := by split <;> omega
    refine ⟨by omega, fun j q1 q2 => ?_⟩
    by_cases c : j = i
    · subst c; omega
    · exact h2 j (by omega) (by omega)
theorem pk_mx_le (f : Int → Int) (b : Int) : ∀ (k : Nat) (m i : Int), m ≤ b → (∀ j, i ≤ j → j < i + k → f j ≤ b) → pk_mx f m i k ≤ b
  | 0, m, i, h, _ => h
  | k + 1, m, i, h, hf => by
    unfold pk_mx
    have := hf i (by omega) (by omega)
    exact pk_mx_le f b k _ (i + 1) (by split <;> omega) (fun j q1 q2 => hf j (by omega) (by omega))
theorem pk_end_le {K : pk_K} {D b : Int} {st : Int → Int} (hb : 0 ≤ b) (h : ∀ d, 0 ≤ d → d < D → st d ≠ -1 → st d + K.2.1 d ≤ b) : pk_end K D st ≤ b := pk_mx_le _ b _ _ _ hb (fun j q1 q2 => by
  by_cases c : st j = -1
  · rw [if_pos c]; exact hb
  · rw [if_neg c]; exact h j q1 (by omega) c)
theorem pk_end_ge {K : pk_K} {D d : Int} {st : Int → Int} (h1 : 0 ≤ d) (h2 : d < D) (h3 : st d ≠ -1) : st d + K.2.1 d ≤ pk_end K D st := by
  have h := (pk_mx_up (fun d => if st d = -1 then 0 else st d + K.2.1 d) D.toNat 0 0).2 d h1 (by omega)
  simp only [if_neg h3] at h
  exact h
theorem pk_end_0 (K : pk_K) (D : Int) (st : Int → Int) : 0 ≤ pk_end K D st := (pk_mx_up _ _ _ _).1
/-- one more start -/
theorem pk_end_up {K : pk_K} {D d u : Int} {st : Int → Int} (h1 : 0 ≤ d) (h2 : d < D) (h3 : st d = -1) (h4 : 0 ≤ u) (hs : 0 ≤ u + K.2.1 d) : pk_end K D (pk_up st d u) = if pk_end K D st < u + K.2.1 d then u + K.2.1 d else pk_end K D st := by
  apply Int.le_antisymm
  · have h0 := pk_end_0 K D st
    refine pk_end_le (by split <;> omega) (fun x q1 q2 q3 => ?_)
    by_cases c : x = d
    · subst c; rw [pk_up_s]; split <;> omega
    · rw [pk_up_n c] at q3 ⊢
      have := pk_end_ge (K := K) q1 q2 q3
      split <;> omega
  · have a := pk_end_ge (K := K) (st := pk_up st d u) h1 h2 (by rw [pk_up_s]; omega)
    rw [pk_up_s] at a
    have b : pk_end K D st ≤ pk_end K D (pk_up st d u) := pk_end_le (pk_end_0 _ _ _) (fun x q1 q2 q3 => by
      have c : x ≠ d := fun c => q3 (by rw [c]; exact h3)
      have := pk_end_ge (K := K) (st := pk_up st d u) q1 q2 (by rw [pk_up_n c]; exact q3)
      rwa [pk_up_n c] at this)
    split <;> omega
/-- a start from u on that is found doesn't trip, and is the first one -/
theorem pk_ls_some {K : pk_K} {D d v : Int} {st : Int → Int} : ∀ (k : Nat) (u : Int), pk_ls K D st d k u = some v → u ≤ v ∧ v < u + k ∧ pk_trips K D (pk_up st d v) = false
  | 0, u, h => by cases h
  | k + 1, u, h => by
    unfold pk_ls at h
    by_cases c : pk_trips K D (pk_up st d u) = true
    · rw [if_pos c] at h
      have := pk_ls_some k (u + 1) h
      exact ⟨by omega, by omega, this.2.2⟩
    · rw [if_neg c] at h
      cases h
      exact ⟨Int.le_refl _, by omega, by simpa using c⟩
theorem pk_ls_none {K : pk_K} {D d : Int} {st : Int → Int} : ∀ (k : Nat) (u : Int), (∀ v, u ≤ v → v < u + k → pk_trips K D (pk_up st d v) = true) → pk_ls K D st d k u = none
  | 0, u, _ => rfl
  | k + 1, u, h => by
    unfold pk_ls
    rw [if_pos (h u (by omega) (by omega))]
    exact pk_ls_none k (u + 1) (fun v q1 q2 => h v (by omega) (by omega))
end
