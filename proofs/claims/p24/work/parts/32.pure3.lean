set_option linter.all false
/-! THE PLAN as a function of kinds and fuse: what the search of the class may leave out -/
section
variable {B : ab_B}
theorem pk_dr_before {K : pk_K} {D d u t : Int} {st : Int → Int} (h3 : st d = -1) (h4 : 0 ≤ u) (ht : t < u) : pk_dr K D (pk_up st d u) t = pk_dr K D st t := cs_sf_congr _ _ (fun j _ _ => by
  unfold pk_d1
  by_cases c : j = d
  · subst c
    rw [pk_up_s, if_neg (by omega), if_pos ht, if_pos h3]
  · rw [pk_up_n c])
/-- with one more disk that has started -/
def pk_si (K : pk_K) (d t : Int) : Int := if t < K.2.1 d then K.1 d else K.2.2.1 d
theorem pk_dr_with {K : pk_K} {D d u t : Int} {st : Int → Int} (h1 : 0 ≤ d) (h2 : d < D) (h3 : st d = -1) (h4 : 0 ≤ u) (ht : u ≤ t) : pk_dr K D (pk_up st d u) t = pk_dr K D st t + pk_si K d (t - u) := by
  refine cs_sf_one _ _ h1 (by omega) ?_ (fun j c => ?_)
  · unfold pk_d1 pk_si
    rw [pk_up_s, if_neg (by omega), if_neg (by omega), if_pos h3]
    by_cases c : t < u + K.2.1 d
    · rw [if_pos c, if_pos (by omega)]; omega
    · rw [if_neg c, if_neg (by omega)]; omega
  · unfold pk_d1
    rw [pk_up_n c]
/-- behind the end all are idle -/
def pk_id (K : pk_K) (D : Int) (st : Int → Int) : Int := cs_sf (fun x => if st x = -1 then 0 else K.2.2.1 x) 0 D.toNat
theorem pk_dr_idle {K : pk_K} {D t : Int} {st : Int → Int} (hs : ∀ x, 0 ≤ x → x < D → 0 ≤ K.2.1 x) (ht : pk_end K D st ≤ t) : pk_dr K D st t = pk_id K D st := cs_sf_congr _ _ (fun j q1 q2 => by
  unfold pk_d1
  by_cases c : st j = -1
  · rw [if_pos c, if_pos c]
  · have := pk_end_ge (K := K) q1 (show j < D by omega) c
    have := hs j q1 (by omega)
    rw [if_neg c, if_neg (by omega), if_neg (by omega), if_neg c])
theorem pk_id_le {K : pk_K} {D : Int} {st : Int → Int} (h : ∀ x, 0 ≤ x → x < D → 0 ≤ K.2.2.1 x) : pk_id K D st ≤ cs_sf K.2.2.1 0 D.toNat := cs_sf_mono _ _ (fun j q1 q2 => by
  by_cases c : st j = -1
  · rw [if_pos c]; exact h j q1 (by omega)
  · rw [if_neg c]; exact Int.le_refl _)
theorem pk_off {K : pk_K} {D t : Int} {st : Int → Int} (hK : pk_ok K) (hD5 : D ≤ 5) (hI : cs_sf K.2.2.1 0 D.toNat ≤ K.2.2.2.1) (ht : pk_end K D st ≤ t) : pk_ov K D st t = false := by
  unfold pk_ov
  rw [pk_dr_idle (fun x q1 q2 => by have := hK.1 x q1 (by omega); omega) ht]
  have := pk_id_le (K := K) (D := D) (st := st) (fun x q1 q2 => by have := hK.1 x q1 (by omega); omega)
  exact decide_eq_false (by omega)
/-- only the tenths from its start to the end count -/
theorem pk_A {K : pk_K} {D d u : Int} {st : Int → Int} (hK : pk_ok K) (hD5 : D ≤ 5) (hI : cs_sf K.2.2.1 0 D.toNat ≤ K.2.2.2.1) (h3 : st d = -1) (h4 : 0 ≤ u) (h5 : u ≤ 161) (hnt : pk_trips K D st = false) (he : u ≤ pk_end K D (pk_up st d u)) (he2 : pk_end K D (pk_up st d u) ≤ 161) :
    pk_trips K D (pk_up st d u) = pk_g K.2.2.2.2 (pk_ov K D (pk_up st d u)) (pk_rf (pk_ov K D st) 0 0 u.toNat) u (pk_end K D (pk_up st d u) - u).toNat := by
  have hb : ∀ j, 0 ≤ j → j < (u.toNat : Int) → pk_ov K D (pk_up st d u) (0 + j) = pk_ov K D st (0 + j) := fun j q1 q2 => by
    unfold pk_ov
    rw [pk_dr_before h3 h4 (by omega)]
  unfold pk_trips at hnt ⊢
  have e1 : (161 : Nat) = u.toNat + (161 - u).toNat := by omega
  have e2 : (161 - u).toNat = (pk_end K D (pk_up st d u) - u).toNat + (161 - pk_end K D (pk_up st d u)).toNat := by omega
  rw [e1, pk_g_add] at hnt ⊢
  have hn1 := (Bool.or_eq_false_iff.mp hnt).1
  rw [pk_g_congr _ _ _ _ hb, hn1, pk_rf_congr _ _ _ _ hb, Bool.false_or, e2, pk_g_add, show (0 : Int) + (u.toNat : Int) = u from by omega]
  rw [pk_g_off hK.2.2.1 (161 - pk_end K D (pk_up st d u)).toNat _ _ (fun j q1 q2 => pk_off hK hD5 hI (by omega)), Bool.or_false]
/-- one tenth behind the end a later start changes nothing -/
theorem pk_B {K : pk_K} {D d u v : Int} {st : Int → Int} (hK : pk_ok K) (hD5 : D ≤ 5) (hI : cs_sf K.2.2.1 0 D.toNat ≤ K.2.2.2.1) (h1 : 0 ≤ d) (h2 : d < D) (h3 : st d = -1) (hnt : pk_trips K D st = false) (hu : pk_end K D st + 1 ≤ u) (hv : pk_end K D st + 1 ≤ v) (hu2 : u ≤ 60) (hv2 : v ≤ 60) : pk_trips K D (pk_up st d u) = pk_trips K D (pk_up st d v) := by
  have h0 := pk_end_0 K D st
  have hs := (hK.1 d h1 (by omega)).2.1
  have key : ∀ w, pk_end K D st + 1 ≤ w → w ≤ 60 → pk_trips K D (pk_up st d w) = pk_g K.2.2.2.2 (fun t => decide (K.2.2.2.1 < pk_id K D st + pk_si K d t)) 0 0 (K.2.1 d).toNat := fun w w1 w2 => by
    have e := pk_end_up (K := K) h1 h2 h3 (show 0 ≤ w by omega) (by omega)
    rw [if_pos (by omega)] at e
    rw [pk_A hK hD5 hI h3 (by omega) (by omega) hnt (by omega) (by omega), e]
    have e3 : w.toNat = (w - 1).toNat + 1 := by omega
    have e4 : pk_rf (pk_ov K D st) 0 0 w.toNat = 0 := by
      rw [e3]
      exact pk_rf_off _ _ _ (pk_off hK hD5 hI (by omega))
    rw [e4, show w + K.2.1 d - w = K.2.1 d from by omega]
    refine pk_g_congr _ _ _ _ (fun j q1 q2 => ?_)
    unfold pk_ov
    rw [pk_dr_with h1 h2 h3 (by omega) (by omega), pk_dr_idle (fun x q1 q2 => by have := hK.1 x q1 (by omega); omega) (by omega), show w + j - w = 0 + j from by omega]
  rw [key u hu hu2, key v hv hv2]
/-- idle draws and what the placed ones draw above them -/
def pk_su (K : pk_K) (D : Int) (st : Int → Int) (t : Int) : Int := cs_sf (fun x => if st x = -1 then 0 else if st x ≤ t ∧ t < st x + K.2.1 x then K.1 x - K.2.2.1 x else 0) 0 D.toNat
theorem pk_dr_su {K : pk_K} {D t : Int} {st : Int → Int} (hs : ∀ x, 0 ≤ x → x < D → st x ≠ -1 → st x ≤ t) : pk_dr K D st t = pk_id K D st + pk_su K D st t := by
  unfold pk_id pk_su
  rw [← cs_sf_add]
  refine cs_sf_congr _ _ (fun j q1 q2 => ?_)
  unfold pk_d1
  by_cases c : st j = -1
  · simp only [if_pos c]; rfl
  · have := hs j q1 (by omega) c
    simp only [if_neg c]
    rw [if_neg (by omega)]
    by_cases c2 : t < st j + K.2.1 j
    · rw [if_pos c2, if_pos ⟨this, c2⟩]; omega
    · rw [if_neg c2, if_neg (fun q => c2 q.2)]; omega
theorem pk_id_up {K : pk_K} {D d u : Int} {st : Int → Int} (h1 : 0 ≤ d) (h2 : d < D) (h3 : st d = -1) (h4 : 0 ≤ u) : pk_id K D (pk_up st d u) = pk_id K D st + K.2.2.1 d := by
  refine cs_sf_one _ _ h1 (by omega) ?_ (fun j c => ?_)
  · simp only [pk_up_s, if_pos h3]; rw [if_neg (by omega)]; omega
  · simp only [pk_up_n c]
theorem pk_su_up {K : pk_K} {D d u t : Int} {st : Int → Int} (h1 : 0 ≤ d) (h2 : d < D) (h3 : st d = -1) (h4 : 0 ≤ u) : pk_su K D (pk_up st d u) t = pk_su K D st t + (if u ≤ t ∧ t < u + K.2.1 d then K.1 d - K.2.2.1 d else 0) := by
  refine cs_sf_one _ _ h1 (by omega) ?_ (fun j c => ?_)
  · simp only [pk_up_s, if_pos h3]; rw [if_neg (by omega)]; omega
  · simp only [pk_up_n c]
theorem pk_id_rng {K : pk_K} {D : Int} {st : Int → Int} (hK : pk_ok K) (hD5 : D ≤ 5) : 0 ≤ pk_id K D st ∧ pk_id K D st ≤ 45 := by
  have := cs_sf_rng (f := fun x => if st x = -1 then 0 else K.2.2.1 x) (B := 9) D.toNat 0 (fun j q1 q2 => by
    have := hK.1 j q1 (by omega)
    split <;> omega)
  unfold pk_id
  omega
theorem pk_su_rng {K : pk_K} {D t : Int} {st : Int → Int} (hK : pk_ok K) (hD5 : D ≤ 5) : -50 ≤ pk_su K D st t ∧ pk_su K D st t ≤ 150 := by
  have e : pk_su K D st t = cs_sf (fun x => (if st x = -1 then 0 else if st x ≤ t ∧ t < st x + K.2.1 x then K.1 x - K.2.2.1 x else 0) + 10) 0 D.toNat - cs_sf (fun _ => 10) 0 D.toNat := by
    rw [cs_sf_add]; unfold pk_su; omega
  have a := cs_sf_rng (f := fun x => (if st x = -1 then 0 else if st x ≤ t ∧ t < st x + K.2.1 x then K.1 x - K.2.2.1 x else 0) + 10) (B := 40) D.toNat 0 (fun j q1 q2 => by
    have := hK.1 j q1 (by omega)
    split
    · omega
    · split <;> omega)
  have b := cs_sf_rng (f := fun _ => 10) (B := 10) D.toNat 0 (fun j q1 q2 => by omega)
  have c : ∀ (k : Nat) (i : Int), cs_sf (fun _ => 10) i k = 10 * k := fun k => by
    induction k with
    | zero => intro i; rfl
    | succ k ih => intro i; unfold cs_sf; rw [ih]; omega
  rw [c] at e
  omega
/-- a part of a plan: who is placed -/
def pk_I (K : pk_K) (D : Int) (st po : Int → Int) (pl fr : Int) : Prop := (0 ≤ fr ∧ fr ≤ 60) ∧ (∀ x, 0 ≤ x → x < D → st x ≠ -1 → (0 ≤ st x ∧ st x ≤ fr) ∧ (0 ≤ po x ∧ po x < pl)) ∧ cs_sf (fun x => if st x = -1 then 0 else 1) 0 D.toNat = pl ∧ pk_trips K D st = false
theorem pk_I.up {K : pk_K} {D d u pl fr : Int} {st po : Int → Int} (h : pk_I K D st po pl fr) (hpl : 0 ≤ pl) (h1 : 0 ≤ d) (h2 : d < D) (h3 : st d = -1) (hu : pk_ls K D st d (61 - fr).toNat fr = some u) : pk_I K D (pk_up st d u) (pk_up po d pl) (pl + 1) u := by
  obtain ⟨a, b, c⟩ := pk_ls_some _ _ hu
  obtain ⟨i1, i2, i3, i4⟩ := h
  refine ⟨by omega, fun x q1 q2 q3 => ?_, ?_, c⟩
  · by_cases e : x = d
    · subst e; rw [pk_up_s, pk_up_s]; omega
    · rw [pk_up_n e] at q3 ⊢
      rw [pk_up_n e]
      have := i2 x q1 q2 q3
      omega
  · rw [← i3]
    refine cs_sf_one _ _ h1 (by omega) ?_ (fun j e => ?_)
    · simp only [pk_up_s, if_pos h3]; rw [if_neg (by omega)]; omega
    · simp only [pk_up_n e]
/-- what each plan is -/
def pk_F (K : pk_K) (D : Int) (st : Int → Int) (y : (Int → Int) × (Int → Int)) : Prop := (∀ x, 0 ≤ x → x < D → (0 ≤ y.1 x ∧ y.1 x ≤ 60) ∧ (0 ≤ y.2 x ∧ y.2 x < D)) ∧ pk_trips K D y.1 = false ∧ ∀ x, 0 ≤ x → x < D → st x ≠ -1 → y.1 x = st x
theorem pk_pl_F {K : pk_K} {D : Int} (hD : 0 ≤ D) : ∀ (n : Nat) (st po : Int → Int) (pl fr : Int), pk_I K D st po pl fr → pl + n = D → 0 ≤ pl → ∀ y, pk_pl K D n st po pl fr = some y → pk_F K D st y
  | 0, st, po, pl, fr, h, e, e0, y, hy => by
    cases hy
    obtain ⟨i1, i2, i3, i4⟩ := h
    have hf := cs_sf_full D.toNat 0 (f := fun x => if st x = -1 then 0 else 1) (fun j q1 q2 => by split <;> omega) (by omega)
    refine ⟨fun x q1 q2 => ?_, i4, fun x _ _ _ => rfl⟩
    have h1 := hf x q1 (by omega)
    have h2 : st x ≠ -1 := fun c => by simp only [if_pos c] at h1; omega
    have := i2 x q1 q2 h2
    show (0 ≤ st x ∧ st x ≤ 60) ∧ (0 ≤ po x ∧ po x < D)
    omega
  | n + 1, st, po, pl, fr, h, e, e0, y, hy => by
    rw [pk_pl_s] at hy
    refine pk_lp_P (P := pk_F K D st) _ _ _ (fun y q => by cases q) (fun d z q1 q2 hz => ?_) y hy
    unfold pk_x at hz
    by_cases c : st d ≠ -1
    · rw [if_pos c] at hz; cases hz
    · rw [if_neg c] at hz
      have c : st d = -1 := Decidable.not_not.mp c
      cases hu : pk_ls K D st d (61 - fr).toNat fr with
      | none => rw [hu] at hz; cases hz
      | some u =>
        rw [hu] at hz
        have hI := h.up e0 q1 (show d < D by omega) c hu
        obtain ⟨f1, f2, f3⟩ := pk_pl_F hD n _ _ _ _ hI (by omega) (by omega) z hz
        refine ⟨f1, f2, fun x x1 x2 x3 => ?_⟩
        have hx : x ≠ d := fun q => x3 (by rw [q]; exact c)
        rw [f3 x x1 x2 (by rw [pk_up_n hx]; exact x3), pk_up_n hx]
theorem pk_F.en {K : pk_K} {D : Int} {st : Int → Int} {y : (Int → Int) × (Int → Int)} (h : pk_F K D st y) : pk_end K D st ≤ pk_end K D y.1 := pk_end_le (pk_end_0 _ _ _) (fun d q1 q2 q3 => by
  have e := h.2.2 d q1 q2 q3
  have := pk_end_ge (K := K) (st := y.1) q1 q2 (by rw [e]; exact q3)
  rwa [e] at this)
/-- whose idle draws are above the limit have no plan -/
theorem pk_no {K : pk_K} {D : Int} {st : Int → Int} (hK : pk_ok K) (hD5 : D ≤ 5) (hI : ¬ cs_sf K.2.2.1 0 D.toNat ≤ K.2.2.2.1) (hf : ∀ x, 0 ≤ x → x < D → 0 ≤ st x ∧ st x ≤ 60) : pk_trips K D st = true := by
  have he : pk_end K D st ≤ 69 := pk_end_le (by omega) (fun d q1 q2 _ => by have := hf d q1 q2; have := hK.1 d q1 (by omega); omega)
  have hid : pk_id K D st = cs_sf K.2.2.1 0 D.toNat := cs_sf_congr _ _ (fun j q1 q2 => by have := hf j q1 (by omega); rw [if_neg (by omega)])
  have hov : ∀ t, 69 ≤ t → pk_ov K D st t = true := fun t ht => by
    unfold pk_ov
    rw [pk_dr_idle (fun x q1 q2 => by have := hK.1 x q1 (by omega); omega) (by omega), hid]
    exact decide_eq_true (by omega)
  unfold pk_trips
  rw [show (161 : Nat) = 69 + 92 from rfl, pk_g_add, pk_g_on 92 _ _ (pk_rf_b 69 0 0 (by omega)).1 (by have := (pk_rf_b (ov := pk_ov K D st) 69 0 0 (by omega)).1; have := hK.2.2; omega) (by omega) (fun j q1 q2 => hov _ (by omega))]
  exact Bool.or_true _
/-- a hundred tenths tell as much as all of them -/
theorem pk_100 {K : pk_K} {D : Int} {st : Int → Int} (hK : pk_ok K) (hD5 : D ≤ 5) (hf : ∀ x, 0 ≤ x → x < D → 0 ≤ st x ∧ st x ≤ 80) : pk_g K.2.2.2.2 (pk_ov K D st) 0 0 100 = pk_trips K D st := by
  have he : pk_end K D st ≤ 89 := pk_end_le (by omega) (fun d q1 q2 _ => by have := hf d q1 q2; have := hK.1 d q1 (by omega); omega)
  have hov : ∀ t, 89 ≤ t → pk_ov K D st t = decide (K.2.2.2.1 < pk_id K D st) := fun t ht => by
    unfold pk_ov
    rw [pk_dr_idle (fun x q1 q2 => by have := hK.1 x q1 (by omega); omega) (by omega)]
  unfold pk_trips
  by_cases c : K.2.2.2.1 < pk_id K D st
  · have hN := hK.2.2
    have hr := (pk_rf_b (ov := pk_ov K D st) 89 0 0 (by omega)).1
    rw [show (100 : Nat) = 89 + 11 from rfl, show (161 : Nat) = 89 + 72 from rfl, pk_g_add, pk_g_add, pk_g_on 11 _ _ hr (by omega) (by omega) (fun j q1 q2 => by rw [hov _ (by omega)]; exact decide_eq_true c), pk_g_on 72 _ _ hr (by omega) (by omega) (fun j q1 q2 => by rw [hov _ (by omega)]; exact decide_eq_true c)]
  · rw [show (161 : Nat) = 100 + 61 from rfl, pk_g_add 100 61, pk_g_off hK.2.2.1 61 _ _ (fun j q1 q2 => by rw [hov _ (by omega)]; exact decide_eq_false c), Bool.or_false]
/-- the plan of D disks -/
def pk_plan (K : pk_K) (D : Int) : pk_X := if D = 0 then none else pk_pl K D D.toNat (fun _ => -1) (fun _ => -1) 0 0
theorem pk_none_t {K : pk_K} {D : Int} (hK : pk_ok K) : pk_trips K D (fun _ => -1) = false := by
  have e : ∀ t, pk_ov K D (fun _ => -1) t = false := fun t => by
    unfold pk_ov pk_dr
    rw [show cs_sf (pk_d1 K (fun _ => -1) t) 0 D.toNat = cs_sf (fun _ => 0) 0 D.toNat from cs_sf_congr _ _ (fun j _ _ => rfl), cs_sf_zero]
    have := hK.2.1
    exact decide_eq_false (by omega)
  exact pk_g_off hK.2.2.1 _ _ _ (fun j _ _ => e _)
theorem pk_I_0 {K : pk_K} {D : Int} (hK : pk_ok K) : pk_I K D (fun _ => -1) (fun _ => -1) 0 0 := ⟨by omega, fun x _ _ q => absurd rfl q, cs_sf_zero _ _, pk_none_t hK⟩
theorem pk_plan_F {K : pk_K} {D : Int} (hK : pk_ok K) (hD : 0 ≤ D) (y : (Int → Int) × (Int → Int)) (hy : pk_plan K D = some y) : pk_F K D (fun _ => -1) y := by
  unfold pk_plan at hy
  by_cases c : D = 0
  · rw [if_pos c] at hy; cases hy
  · rw [if_neg c] at hy
    exact pk_pl_F hD D.toNat _ _ _ _ (pk_I_0 hK) (by omega) (by omega) y hy
theorem pk_plan_no {K : pk_K} {D : Int} (hK : pk_ok K) (hD : 0 ≤ D) (hD5 : D ≤ 5) (hI : ¬ cs_sf K.2.2.1 0 D.toNat ≤ K.2.2.2.1) : pk_plan K D = none := by
  cases hy : pk_plan K D with
  | none => rfl
  | some y =>
    obtain ⟨f1, f2, -⟩ := pk_plan_F hK hD y hy
    rw [pk_no hK hD5 hI (fun x q1 q2 => (f1 x q1 q2).1)] at f2
    cases f2
end
