set_option linter.all false
/-! HOW A HEAP OF THE ABSTRACT MACHINE STANDS IN THE REAL ONE -/
section
variable {B : ab_B}
theorem ab_set1_get (l : ab_M) (i : Nat) (v : Option ab_V) (j : Nat) : (ab_set1 l i v)[j]? = if j = i then (if i < l.length then some v else none) else if j + 1 = i then l[j]?.map ab_fx else l[j]? := by
  cases i with
  | zero =>
    unfold ab_set1
    rw [List.getElem?_set]
    by_cases h : j = 0
    · subst h; simp
    · rw [if_neg (Ne.symm h), if_neg h, if_neg (by omega)]
  | succ i =>
    unfold ab_set1
    simp only [List.getElem?_modify, List.getElem?_set]
    by_cases h : j = i + 1
    · subst h
      by_cases h2 : i + 1 < l.length <;> simp [h2]
    · have h' : ¬ i + 1 = j := Ne.symm h
      by_cases h2 : i = j
      · subst h2; simp [h', h]
      · have h3 : ¬ j = i := Ne.symm h2
        simp [h, h', h2, h3]
theorem ab_set1_len (l : ab_M) (i : Nat) (v : Option ab_V) : (ab_set1 l i v).length = l.length := by
  cases i <;> simp [ab_set1]
theorem ab_set2_get (l : ab_M) (i : Nat) (v : Option ab_V) (j : Nat) : (ab_set2 l i v)[j]? = if j = i then (if i < l.length then some v else none) else if j = i + 1 then (if i + 1 < l.length then some none else none) else if j + 1 = i then l[j]?.map ab_fx else l[j]? := by
  cases i with
  | zero =>
    unfold ab_set2
    simp only
    rw [List.getElem?_set, List.getElem?_set]
    by_cases h : j = 0
    · subst h; simp
    · by_cases h1 : j = 1
      · subst h1; simp
      · rw [if_neg (Ne.symm h1), if_neg (Ne.symm h), if_neg h, if_neg (by omega), if_neg (by omega)]
  | succ i =>
    unfold ab_set2
    simp only [List.getElem?_modify, List.getElem?_set, List.length_set]
    by_cases h : j = i + 1
    · subst h
      by_cases h2 : i + 1 < l.length <;> simp [h2]
    · have h' : ¬ i + 1 = j := Ne.symm h
      by_cases h1 : j = i + 2
      · subst h1
        by_cases h2 : i + 2 < l.length <;> simp [h2]
      · have h1' : ¬ i + 2 = j := Ne.symm h1
        by_cases h2 : i = j
        · subst h2
          have h9 : ¬ i = i + 1 + 1 := by omega
          simp [h9]
        · have h3 : ¬ j = i := Ne.symm h2
          simp [h, h', h1, h1', h2, h3]
theorem ab_set2_len (l : ab_M) (i : Nat) (v : Option ab_V) : (ab_set2 l i v).length = l.length := by
  cases i <;> simp [ab_set2]
/-- the classes; the classes of int[], boolean[], int[][], byte[] -/
abbrev ab_G : Type := va_G × ClassId × ClassId × ClassId × ClassId
/-- where what was there before lies -/
def ab_fa (B : ab_B) (k : Nat) : Nat := if k = 0 then B.1 else if k % 2 = 1 then B.2.2.2.1 ((k - 1) / 2) else B.2.2.2.2 ((k - 2) / 2)
def ab_cv (B : ab_B) (μ : Nat → Nat) : ab_V → Value
  | .inl z => .int (Int32.ofInt z)
  | .inr (.inl x) => .long x
  | .inr (.inr (.inl none)) => .null
  | .inr (.inr (.inl (some i))) => .ref (μ i)
  | .inr (.inr (.inr k)) => .ref (ab_fa B k)
def ab_fv (B : ab_B) (μ : Nat → Nat) (h : ab_H) (t i k : Nat) : Value := match ab_fk t k with
  | 0 => .int (Int32.ofInt (ab_gi h i k))
  | 1 => match ab_gr h i k with
    | none => .null
    | some j => .ref (μ j)
  | _ => .long (ab_gl h i k)
def ab_en (B : ab_B) (g : ab_G) (μ : Nat → Nat) (h : ab_H) (i : Nat) (s : Nat × Nat) : va_E := match s with
  | (0, n) => .inl (g.2.1, n, .inl (fun j => Int32.ofInt (ab_gi h i j)))
  | (1, n) => .inl (g.2.2.1, n, .inl (fun j => Int32.ofInt (ab_gi h i j)))
  | (2, n) => .inl (g.2.2.2.1, n, .inr (.inr (.inr (.inr (fun j => (ab_gr h i j).map μ)))))
  | (3, n) => .inl (g.2.2.2.2, n, .inl (fun j => Int32.ofInt (ab_gi h i j)))
  | (t + 4, n) => .inr (t, (List.range n).map (ab_fv B μ h t i))
def ab_ws (B : ab_B) (g : ab_G) (μ : Nat → Nat) (h : ab_H) : va_W := (ab_sh h).zipIdx.map (fun q => (μ q.2, ab_en B g μ h q.2 q.1))
theorem ab_ws_at {g : ab_G} {μ : Nat → Nat} {h : ab_H} {i : Nat} {s : Nat × Nat} (hs : (ab_sh h)[i]? = some s) : (ab_ws B g μ h)[i]? = some (μ i, ab_en B g μ h i s) := by
  simp [ab_ws, List.getElem?_zipIdx, hs]
theorem ab_ws_len (g : ab_G) (μ : Nat → Nat) (h : ab_H) : (ab_ws B g μ h).length = ab_n h := by simp [ab_ws, ab_n]
theorem ab_ws_no {g : ab_G} {μ : Nat → Nat} {h : ab_H} {i : Nat} (hs : (ab_sh h)[i]? = none) : (ab_ws B g μ h)[i]? = none := by
  simp [ab_ws, List.getElem?_zipIdx, hs]
theorem ab_ws_ext {g : ab_G} {μ μ' : Nat → Nat} {h h' : ab_H} (hsh : ab_sh h' = ab_sh h) (ho : ∀ j s', (ab_sh h)[j]? = some s' → μ' j = μ j ∧ ab_en B g μ' h' j s' = ab_en B g μ h j s') : ab_ws B g μ' h' = ab_ws B g μ h := by
  apply List.ext_getElem?
  intro j
  cases hj : (ab_sh h)[j]? with
  | none => rw [ab_ws_no hj, ab_ws_no (by rw [hsh]; exact hj)]
  | some s => rw [ab_ws_at hj, ab_ws_at (by rw [hsh]; exact hj), (ho j s hj).1, (ho j s hj).2]
theorem ab_ws_set {g : ab_G} {μ : Nat → Nat} {h h' : ab_H} {i : Nat} {s : Nat × Nat} {e : va_E} (hsh : ab_sh h' = ab_sh h) (hs : (ab_sh h)[i]? = some s) (he : ab_en B g μ h' i s = e) (ho : ∀ j s', j ≠ i → ab_en B g μ h' j s' = ab_en B g μ h j s') : (ab_ws B g μ h).set i (μ i, e) = ab_ws B g μ h' := by
  apply List.ext_getElem?
  intro j
  by_cases hji : j = i
  · subst hji
    rw [ab_ws_at (by rw [hsh]; exact hs), List.getElem?_set, if_pos rfl, he, if_pos]
    rw [ab_ws_len]
    exact (List.getElem?_eq_some_iff.mp hs).1
  · rw [List.getElem?_set, if_neg (Ne.symm hji)]
    cases hj : (ab_sh h)[j]? with
    | none => rw [ab_ws_no hj, ab_ws_no (by rw [hsh]; exact hj)]
    | some s' => rw [ab_ws_at hj, ab_ws_at (by rw [hsh]; exact hj), ho j s' hji]
/-- every reference in the heap is to a cell that is there -/
def ab_ok (h : ab_H) : Prop := (∀ (c : Nat) (k : Int) (j : Nat), ab_gr h c k = some j → j < ab_n h) ∧ ∀ (i : Nat) (x : Nat × Nat), (ab_sh h)[i]? = some x → x.2 < 2147483648
def ab_vs (n : Nat) (v : ab_V) : Prop := ∀ i : Nat, v = ab_Q (some i) → i < n
theorem ab_vs_i (n : Nat) (z : Int) : ab_vs n (.inl z) := fun i h => by cases h
theorem ab_vs_l (n : Nat) (x : Int64) : ab_vs n (.inr (.inl x)) := fun i h => by cases h
theorem ab_vs_n (n : Nat) : ab_vs n (.inr (.inr (.inl none))) := fun i h => by cases h
theorem ab_vs_z (n k : Nat) : ab_vs n (.inr (.inr (.inr k))) := fun i h => by cases h
theorem ab_vs_q {n : Nat} {o : Option Nat} (h : ∀ j, o = some j → j < n) : ab_vs n (.inr (.inr (.inl o))) := fun i e => by cases e; exact h i rfl
theorem ab_vs.le {n n' : Nat} {v : ab_V} (h : ab_vs n v) (hn : n ≤ n') : ab_vs n' v := fun i e => Nat.lt_of_lt_of_le (h i e) hn
theorem ab_cv_eq {n : Nat} {μ μ' : Nat → Nat} (hμ : ∀ i, i < n → μ' i = μ i) {v : ab_V} (h : ab_vs n v) : ab_cv B μ' v = ab_cv B μ v := by
  match v, h with
  | .inl z, _ => rfl
  | .inr (.inl x), _ => rfl
  | .inr (.inr (.inl none)), _ => rfl
  | .inr (.inr (.inr k)), _ => rfl
  | .inr (.inr (.inl (some i))), h => show Value.ref (μ' i) = Value.ref (μ i); rw [hμ i (h i rfl)]
theorem ab_en_eq {g : ab_G} {μ μ' : Nat → Nat} {h h' : ab_H} {n : Nat} (hμ : ∀ i, i < n → μ' i = μ i) {j : Nat} (hr : ∀ k i, ab_gr h j k = some i → i < n) (h1 : ∀ k, ab_gi h' j k = ab_gi h j k) (h2 : ∀ k, ab_gr h' j k = ab_gr h j k) (h3 : ∀ k, ab_gl h' j k = ab_gl h j k) (s : Nat × Nat) : ab_en B g μ' h' j s = ab_en B g μ h j s := by
  have h4 : ∀ k, (ab_gr h' j k).map μ' = (ab_gr h j k).map μ := fun k => by
    rw [h2]
    cases e : ab_gr h j k with
    | none => rfl
    | some i => simp [hμ i (hr k i e)]
  match s with
  | (0, n) => simp only [ab_en, h1]
  | (1, n) => simp only [ab_en, h1]
  | (2, n) => simp only [ab_en, h4]
  | (3, n) => simp only [ab_en, h1]
  | (t + 4, n) =>
    show Sum.inr _ = Sum.inr _
    congr 2
    apply List.map_congr_left
    intro k _
    unfold ab_fv
    rw [h1, h3, h2]
    cases e : ab_gr h j k with
    | none => rfl
    | some i => simp only [hμ i (hr k i e)]
def ab_Rep (B : ab_B) (g : ab_G) (A : Nat → Prop) (μ : Nat → Nat) (h : ab_H) (H : Heap) : Prop := va_P g.1 ab_cl (ab_ws B g μ h) H ∧ va_D A (ab_ws B g μ h) ∧ ab_ok h
/-- the locals -/
def ab_lh (B : ab_B) (nL : Nat) (μ : Nat → Nat) (ls : Array Slot) (loc : ab_M) : Prop := ls.size = nL ∧ lv_wf ls ∧ loc.length = nL ∧ ∀ (i : Nat) (v : ab_V), loc[i]? = some (some v) → ls[i]? = some (.val (ab_cv B μ v))
def ab_ll (B : ab_B) (μ : Nat → Nat) (loc : ab_M) : List (Nat × Value) := loc.zipIdx.filterMap (fun q => q.1.map (fun v => (q.2, ab_cv B μ v)))
theorem ab_ll_mem {μ : Nat → Nat} {loc : ab_M} {q : Nat × Value} : q ∈ ab_ll B μ loc ↔ ∃ v, loc[q.1]? = some (some v) ∧ q.2 = ab_cv B μ v := by
  unfold ab_ll
  rw [List.mem_filterMap]
  constructor
  · rintro ⟨⟨x, i⟩, hx, hq⟩
    have h1 := List.mem_zipIdx_iff_getElem?.mp hx
    cases x with
    | none => cases hq
    | some v => cases hq; exact ⟨v, h1, rfl⟩
  · rintro ⟨v, h1, h2⟩
    refine ⟨(some v, q.1), List.mem_zipIdx_iff_getElem?.mpr h1, ?_⟩
    obtain ⟨a, b⟩ := q
    simp only at h2
    simp [h2]
theorem ab_lh.has {nL : Nat} {μ : Nat → Nat} {ls : Array Slot} {loc : ab_M} (h : ab_lh B nL μ ls loc) : lv_has ls nL (ab_ll B μ loc) := by
  refine ⟨h.1, h.2.1, fun q hq => ?_⟩
  obtain ⟨v, h1, h2⟩ := ab_ll_mem.mp hq
  rw [h2]
  exact h.2.2.2 _ _ h1
theorem ab_cv_cat {μ : Nat → Nat} {v : ab_V} : (ab_cv B μ v).category = if ab_lg v then 2 else 1 := by
  match v with
  | .inl z => rfl
  | .inr (.inl x) => rfl
  | .inr (.inr (.inl none)) => rfl
  | .inr (.inr (.inl (some i))) => rfl
  | .inr (.inr (.inr k)) => rfl
theorem ab_fx_some {x : Option ab_V} {w : ab_V} (h : ab_fx x = some w) : x = some w ∧ ab_lg w = false := by
  match x, h with
  | some (.inl z), h => cases h; exact ⟨rfl, rfl⟩
  | some (.inr (.inr o)), h => cases h; exact ⟨rfl, rfl⟩
  | some (.inr (.inl x)), h => cases h
  | none, h => cases h
theorem ab_lh.set1 {nL : Nat} {μ : Nat → Nat} {ls ls' : Array Slot} {loc : ab_M} {i : Nat} {a : ab_V} {x : Value} (hx : ab_cv B μ a = x) (h : ab_lh B nL μ ls loc) (hi : i < nL) (h' : lv_has ls' nL ((i, x) :: (ab_ll B μ loc).filter (fun q => !(q.1 == i) && !(q.1 + 1 == i && q.2.category == 2)))) : ab_lh B nL μ ls' (ab_set1 loc i (some a)) := by
  subst hx
  refine ⟨h'.1, h'.2.1, by rw [ab_set1_len]; exact h.2.2.1, fun j v hj => ?_⟩
  rw [ab_set1_get] at hj
  by_cases e : j = i
  · subst e
    rw [if_pos rfl, if_pos (by rw [h.2.2.1]; exact hi)] at hj
    cases hj
    exact h'.2.2 _ (List.mem_cons_self)
  · rw [if_neg e] at hj
    have hm : (j, ab_cv B μ v) ∈ ab_ll B μ loc ∧ (j + 1 = i → ab_lg v = false) := by
      by_cases e2 : j + 1 = i
      · rw [if_pos e2] at hj
        cases hl : loc[j]? with
        | none => rw [hl] at hj; cases hj
        | some y =>
          rw [hl] at hj
          obtain ⟨h1, h2⟩ := ab_fx_some (Option.some.inj hj)
          exact ⟨ab_ll_mem.mpr ⟨v, by rw [hl, h1], rfl⟩, fun _ => h2⟩
      · rw [if_neg e2] at hj
        exact ⟨ab_ll_mem.mpr ⟨v, hj, rfl⟩, fun z => absurd z e2⟩
    refine h'.2.2 (j, ab_cv B μ v) (List.mem_cons_of_mem _ (List.mem_filter.mpr ⟨hm.1, ?_⟩))
    by_cases e2 : j + 1 = i
    · have := hm.2 e2
      simp [e, ab_cv_cat, this]
    · simp [e, e2]
theorem ab_lh.set2 {nL : Nat} {μ : Nat → Nat} {ls ls' : Array Slot} {loc : ab_M} {i : Nat} {a : ab_V} {x : Value} (hx : ab_cv B μ a = x) (h : ab_lh B nL μ ls loc) (hi : i + 1 < nL) (h' : lv_has ls' nL ((i, x) :: (ab_ll B μ loc).filter (fun q => !(q.1 == i) && (!(q.1 == i + 1) && !(q.1 + 1 == i && q.2.category == 2))))) : ab_lh B nL μ ls' (ab_set2 loc i (some a)) := by
  subst hx
  refine ⟨h'.1, h'.2.1, by rw [ab_set2_len]; exact h.2.2.1, fun j v hj => ?_⟩
  rw [ab_set2_get] at hj
  by_cases e : j = i
  · subst e
    rw [if_pos rfl, if_pos (by rw [h.2.2.1]; omega)] at hj
    cases hj
    exact h'.2.2 _ (List.mem_cons_self)
  · rw [if_neg e] at hj
    by_cases e1 : j = i + 1
    · rw [if_pos e1, if_pos (by rw [h.2.2.1]; exact hi)] at hj
      cases hj
    rw [if_neg e1] at hj
    have hm : (j, ab_cv B μ v) ∈ ab_ll B μ loc ∧ (j + 1 = i → ab_lg v = false) := by
      by_cases e2 : j + 1 = i
      · rw [if_pos e2] at hj
        cases hl : loc[j]? with
        | none => rw [hl] at hj; cases hj
        | some y =>
          rw [hl] at hj
          obtain ⟨h1, h2⟩ := ab_fx_some (Option.some.inj hj)
          exact ⟨ab_ll_mem.mpr ⟨v, by rw [hl, h1], rfl⟩, fun _ => h2⟩
      · rw [if_neg e2] at hj
        exact ⟨ab_ll_mem.mpr ⟨v, hj, rfl⟩, fun z => absurd z e2⟩
    refine h'.2.2 (j, ab_cv B μ v) (List.mem_cons_of_mem _ (List.mem_filter.mpr ⟨hm.1, ?_⟩))
    by_cases e2 : j + 1 = i
    · have := hm.2 e2
      simp [e, e1, ab_cv_cat, this]
    · simp [e, e1, e2]
theorem ab_set1_mem {l : ab_M} {i : Nat} {x : Option ab_V} {v : ab_V} (h : some v ∈ ab_set1 l i x) : x = some v ∨ some v ∈ l := by
  obtain ⟨j, hj⟩ := List.getElem?_of_mem h
  rw [ab_set1_get] at hj
  by_cases e : j = i
  · rw [if_pos e] at hj
    by_cases e2 : i < l.length
    · rw [if_pos e2] at hj; exact Or.inl (Option.some.inj hj)
    · rw [if_neg e2] at hj; cases hj
  · rw [if_neg e] at hj
    by_cases e2 : j + 1 = i
    · rw [if_pos e2] at hj
      cases hl : l[j]? with
      | none => rw [hl] at hj; cases hj
      | some y =>
        rw [hl] at hj
        exact Or.inr (List.mem_of_getElem? (by rw [hl, (ab_fx_some (Option.some.inj hj)).1]))
    · rw [if_neg e2] at hj
      exact Or.inr (List.mem_of_getElem? hj)
theorem ab_set2_mem {l : ab_M} {i : Nat} {x : Option ab_V} {v : ab_V} (h : some v ∈ ab_set2 l i x) : x = some v ∨ some v ∈ l := by
  obtain ⟨j, hj⟩ := List.getElem?_of_mem h
  rw [ab_set2_get] at hj
  by_cases e : j = i
  · rw [if_pos e] at hj
    by_cases e2 : i < l.length
    · rw [if_pos e2] at hj; exact Or.inl (Option.some.inj hj)
    · rw [if_neg e2] at hj; cases hj
  · rw [if_neg e] at hj
    by_cases e1 : j = i + 1
    · rw [if_pos e1] at hj
      by_cases e2 : i + 1 < l.length
      · rw [if_pos e2] at hj; cases hj
      · rw [if_neg e2] at hj; cases hj
    rw [if_neg e1] at hj
    by_cases e2 : j + 1 = i
    · rw [if_pos e2] at hj
      cases hl : l[j]? with
      | none => rw [hl] at hj; cases hj
      | some y =>
        rw [hl] at hj
        exact Or.inr (List.mem_of_getElem? (by rw [hl, (ab_fx_some (Option.some.inj hj)).1]))
    · rw [if_neg e2] at hj
      exact Or.inr (List.mem_of_getElem? hj)
theorem ab_si_en {g : ab_G} {μ : Nat → Nat} {h : ab_H} {a : Nat} {k v : Int} (j : Nat) (s : Nat × Nat) (hj : j ≠ a) : ab_en B g μ (ab_si h a k v) j s = ab_en B g μ h j s := by
  have e : ∀ i, ab_gi (ab_si h a k v) j i = ab_gi h j i := fun i => by rw [ab_gi_si, if_neg (fun q => hj q.1)]
  match s with
  | (0, n) => simp only [ab_en, e]
  | (1, n) => simp only [ab_en, e]
  | (2, n) => rfl
  | (3, n) => simp only [ab_en, e]
  | (t + 4, n) =>
    show Sum.inr _ = Sum.inr _
    congr 2
    apply List.map_congr_left
    intro i _
    unfold ab_fv
    rw [e]
    rfl
theorem ab_sr_en {g : ab_G} {μ : Nat → Nat} {h : ab_H} {a : Nat} {k : Int} {v : Option Nat} (j : Nat) (s : Nat × Nat) (hj : j ≠ a) : ab_en B g μ (ab_sr h a k v) j s = ab_en B g μ h j s := by
  have e : ∀ i, ab_gr (ab_sr h a k v) j i = ab_gr h j i := fun i => by rw [ab_gr_sr, if_neg (fun q => hj q.1)]
  match s with
  | (0, n) => rfl
  | (1, n) => rfl
  | (2, n) => simp only [ab_en, e]
  | (3, n) => rfl
  | (t + 4, n) =>
    show Sum.inr _ = Sum.inr _
    congr 2
    apply List.map_congr_left
    intro i _
    unfold ab_fv
    rw [e]
    rfl
theorem ab_sl_en {g : ab_G} {μ : Nat → Nat} {h : ab_H} {a : Nat} {k : Int} {v : Int64} (j : Nat) (s : Nat × Nat) (hj : j ≠ a) : ab_en B g μ (ab_sl h a k v) j s = ab_en B g μ h j s := by
  have e : ∀ i, ab_gl (ab_sl h a k v) j i = ab_gl h j i := fun i => by rw [ab_gl_sl, if_neg (fun q => hj q.1)]
  match s with
  | (0, n) => rfl
  | (1, n) => rfl
  | (2, n) => rfl
  | (3, n) => rfl
  | (t + 4, n) =>
    show Sum.inr _ = Sum.inr _
    congr 2
    apply List.map_congr_left
    intro i _
    unfold ab_fv
    rw [e]
    rfl
theorem ab_fil_en {g : ab_G} {μ : Nat → Nat} {h : ab_H} {a : Nat} {f : Int → Int} (j : Nat) (s : Nat × Nat) (hj : j ≠ a) : ab_en B g μ (ab_fil h a f) j s = ab_en B g μ h j s := by
  have e : ∀ i, ab_gi (ab_fil h a f) j i = ab_gi h j i := fun i => by rw [ab_gi_fil, if_neg hj]
  match s with
  | (0, n) => simp only [ab_en, e]
  | (1, n) => simp only [ab_en, e]
  | (2, n) => rfl
  | (3, n) => simp only [ab_en, e]
  | (t + 4, n) =>
    show Sum.inr _ = Sum.inr _
    congr 2
    apply List.map_congr_left
    intro i _
    unfold ab_fv
    rw [e]
    rfl
/-- a field is stored -/
theorem ab_obj_set {n k : Nat} {f f' : Nat → Value} {v : Value} (h : f' k = v) (ho : ∀ i, i ≠ k → f' i = f i) : ((List.range n).map f).set k v = (List.range n).map f' := by
  apply List.ext_getElem?
  intro j
  by_cases hj : j = k
  · subst hj
    rw [List.getElem?_set, if_pos rfl]
    by_cases hn : j < n
    · rw [if_pos (by simpa using hn)]; simp [hn, h]
    · rw [if_neg (by simpa using hn)]; simp [hn]
  · rw [List.getElem?_set, if_neg (Ne.symm hj)]
    by_cases hn : j < n
    · simp [hn, ho j hj]
    · simp [hn]
theorem ab_ix {z : Int} (h0 : 0 ≤ z) (h1 : z < 2147483648) : (Int32.ofInt z).toNatClampNeg = z.toNat ∧ ¬ Int32.ofInt z < 0 := by
  have e : (Int32.ofInt z).toInt = z := Int32.toInt_ofInt_of_le (by omega) (by omega)
  refine ⟨by rw [Int32.toNatClampNeg, e], fun h => ?_⟩
  rw [Int32.lt_iff_toInt_lt, e] at h
  have : (0 : Int32).toInt = 0 := by decide
  omega
theorem ab_in {z : Int} {n : Nat} (h0 : 0 ≤ z) (h1 : z < (n : Int)) (hn : n < 2147483648) : vp_in (Int32.ofInt z) n := by
  obtain ⟨e, e2⟩ := ab_ix h0 (by omega)
  intro h
  rcases h with h | h
  · exact e2 h
  · rw [e] at h; omega
end
