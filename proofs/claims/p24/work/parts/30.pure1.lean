set_option linter.all false
/-! THE PLAN as a function of kinds and fuse: runs of tenths above the limit -/
section
variable {B : ab_B}
def pk_g (N : Int) (ov : Int → Bool) : Int → Int → Nat → Bool
  | _, _, 0 => false
  | run, t, k + 1 => if N < (if ov t = true then run + 1 else 0) then true else pk_g N ov (if ov t = true then run + 1 else 0) (t + 1) k
def pk_rf (ov : Int → Bool) : Int → Int → Nat → Int
  | run, _, 0 => run
  | run, t, k + 1 => pk_rf ov (if ov t = true then run + 1 else 0) (t + 1) k
theorem pk_g_s (N : Int) (ov : Int → Bool) (run t : Int) (k : Nat) : pk_g N ov run t (k + 1) = if N < (if ov t = true then run + 1 else 0) then true else pk_g N ov (if ov t = true then run + 1 else 0) (t + 1) k := rfl
theorem pk_rf_s (ov : Int → Bool) (run t : Int) (k : Nat) : pk_rf ov run t (k + 1) = pk_rf ov (if ov t = true then run + 1 else 0) (t + 1) k := rfl
theorem pk_g_add {N : Int} {ov : Int → Bool} : ∀ (a b : Nat) (run t : Int), pk_g N ov run t (a + b) = (pk_g N ov run t a || pk_g N ov (pk_rf ov run t a) (t + a) b)
  | 0, b, run, t => by simp [pk_g, pk_rf]
  | a + 1, b, run, t => by
    rw [show a + 1 + b = (a + b) + 1 from by omega]
    rw [pk_g_s, pk_g_s, pk_rf_s, pk_g_add a b, show t + ((a + 1 : Nat) : Int) = t + 1 + (a : Int) from by omega]
    by_cases c : N < (if ov t = true then run + 1 else 0)
    · rw [if_pos c, if_pos c]; rfl
    · rw [if_neg c, if_neg c]
theorem pk_rf_add {ov : Int → Bool} : ∀ (a b : Nat) (run t : Int), pk_rf ov run t (a + b) = pk_rf ov (pk_rf ov run t a) (t + a) b
  | 0, b, run, t => by simp [pk_rf]
  | a + 1, b, run, t => by
    rw [show a + 1 + b = (a + b) + 1 from by omega]
    rw [pk_rf_s, pk_rf_s, pk_rf_add a b, show t + ((a + 1 : Nat) : Int) = t + 1 + (a : Int) from by omega]
theorem pk_g_congr {N : Int} {ov ov' : Int → Bool} : ∀ (k : Nat) (run t t' : Int), (∀ j, 0 ≤ j → j < (k : Int) → ov (t + j) = ov' (t' + j)) → pk_g N ov run t k = pk_g N ov' run t' k
  | 0, run, t, t', _ => rfl
  | k + 1, run, t, t', h => by
    have h0 := h 0 (by omega) (by omega)
    rw [Int.add_zero, Int.add_zero] at h0
    unfold pk_g
    rw [h0, pk_g_congr k _ (t + 1) (t' + 1) (fun j q1 q2 => by
      have := h (1 + j) (by omega) (by omega)
      rw [Int.add_assoc, Int.add_assoc]; exact this)]
theorem pk_rf_congr {ov ov' : Int → Bool} : ∀ (k : Nat) (run t t' : Int), (∀ j, 0 ≤ j → j < (k : Int) → ov (t + j) = ov' (t' + j)) → pk_rf ov run t k = pk_rf ov' run t' k
  | 0, run, t, t', _ => rfl
  | k + 1, run, t, t', h => by
    have h0 := h 0 (by omega) (by omega)
    rw [Int.add_zero, Int.add_zero] at h0
    unfold pk_rf
    rw [h0, pk_rf_congr k _ (t + 1) (t' + 1) (fun j q1 q2 => by
      have := h (1 + j) (by omega) (by omega)
      rw [Int.add_assoc, Int.add_assoc]; exact this)]
theorem pk_g_off {N : Int} {ov : Int → Bool} (hN : 0 ≤ N) : ∀ (k : Nat) (run t : Int), (∀ j, 0 ≤ j → j < (k : Int) → ov (t + j) = false) → pk_g N ov run t k = false
  | 0, run, t, _ => rfl
  | k + 1, run, t, h => by
    have h0 := h 0 (by omega) (by omega)
    rw [Int.add_zero] at h0
    unfold pk_g
    rw [h0, pk_g_off hN k _ (t + 1) (fun j q1 q2 => by
      have := h (1 + j) (by omega) (by omega)
      rw [Int.add_assoc]; exact this)]
    simp only [Bool.false_eq_true, ↓reduceIte]
    rw [if_neg (by omega)]
theorem pk_g_on {N : Int} {ov : Int → Bool} : ∀ (k : Nat) (run t : Int), 0 ≤ run → N < run + (k : Int) → 0 < k → (∀ j, 0 ≤ j → j < (k : Int) → ov (t + j) = true) → pk_g N ov run t k = true
  | 0, run, t, _, _, h0, _ => absurd h0 (by omega)
  | k + 1, run, t, h1, h2, _, h => by
    have h0 := h 0 (by omega) (by omega)
    rw [Int.add_zero] at h0
    unfold pk_g
    rw [h0]
    simp only [↓reduceIte]
    by_cases c : N < run + 1
    · rw [if_pos c]
    · rw [if_neg c]
      exact pk_g_on k (run + 1) (t + 1) (by omega) (by omega) (by omega) (fun j q1 q2 => by
        have := h (1 + j) (by omega) (by omega)
        rw [Int.add_assoc]; exact this)
theorem pk_rf_b {ov : Int → Bool} : ∀ (k : Nat) (run t : Int), 0 ≤ run → 0 ≤ pk_rf ov run t k ∧ pk_rf ov run t k ≤ run + k
  | 0, run, t, h => by simp [pk_rf]; omega
  | k + 1, run, t, h => by
    rw [pk_rf_s]
    by_cases c : ov t = true
    · rw [if_pos c]; have := pk_rf_b (ov := ov) k (run + 1) (t + 1) (by omega); omega
    · rw [if_neg c]; have := pk_rf_b (ov := ov) k 0 (t + 1) (by omega); omega
theorem pk_rf_off {ov : Int → Bool} (k : Nat) (run t : Int) (h : ov (t + k) = false) : pk_rf ov run t (k + 1) = 0 := by
  rw [pk_rf_add k 1, pk_rf_s, h]
  rfl
theorem pk_rf_succ {ov : Int → Bool} (k : Nat) (run t : Int) : pk_rf ov run t (k + 1) = if ov (t + k) = true then pk_rf ov run t k + 1 else 0 := by
  rw [pk_rf_add k 1, pk_rf_s]
  rfl
/-- sums -/
theorem cs_sf_congr {f g : Int → Int} : ∀ (k : Nat) (i : Int), (∀ j, i ≤ j → j < i + k → f j = g j) → cs_sf f i k = cs_sf g i k
  | 0, _, _ => rfl
  | k + 1, i, h => by
    unfold cs_sf
    rw [h i (by omega) (by omega), cs_sf_congr k (i + 1) (fun j q1 q2 => h j (by omega) (by omega))]
theorem cs_sf_add {f g : Int → Int} : ∀ (k : Nat) (i : Int), cs_sf (fun j => f j + g j) i k = cs_sf f i k + cs_sf g i k
  | 0, _ => rfl
  | k + 1, i => by
    unfold cs_sf
    rw [cs_sf_add k (i + 1)]
    omega
theorem cs_sf_mono {f g : Int → Int} : ∀ (k : Nat) (i : Int), (∀ j, i ≤ j → j < i + k → f j ≤ g j) → cs_sf f i k ≤ cs_sf g i k
  | 0, _, _ => Int.le_refl _
  | k + 1, i, h => by
    unfold cs_sf
    have h1 := h i (by omega) (by omega)
    have h2 := cs_sf_mono k (i + 1) (fun j q1 q2 => h j (by omega) (by omega))
    omega
/-- one term more -/
theorem cs_sf_one {f g : Int → Int} {d v : Int} : ∀ (k : Nat) (i : Int), i ≤ d → d < i + k → g d = f d + v → (∀ j, j ≠ d → g j = f j) → cs_sf g i k = cs_sf f i k + v
  | 0, i, h1, h2, _, _ => by omega
  | k + 1, i, h1, h2, e, h => by
    unfold cs_sf
    by_cases c : i = d
    · subst c
      rw [e, cs_sf_congr (f := g) (g := f) k (i + 1) (fun j q1 q2 => h j (by omega))]
      omega
    · rw [h i c, cs_sf_one k (i + 1) (by omega) (by omega) e h]
      omega
theorem cs_sf_zero : ∀ (k : Nat) (i : Int), cs_sf (fun _ => 0) i k = 0
  | 0, _ => rfl
  | k + 1, i => by unfold cs_sf; rw [cs_sf_zero k (i + 1)]; rfl
/-- 0 or 1 each, as much as there are: each is 1 -/
theorem cs_sf_full {f : Int → Int} : ∀ (k : Nat) (i : Int), (∀ j, i ≤ j → j < i + k → f j ≤ 1) → cs_sf f i k = k → ∀ j, i ≤ j → j < i + k → f j = 1
  | 0, i, _, _, j, h1, h2 => by omega
  | k + 1, i, h, e, j, h1, h2 => by
    unfold cs_sf at e
    have a := h i (by omega) (by omega)
    have b := cs_sf_mono (f := f) (g := fun _ => 1) k (i + 1) (fun j q1 q2 => h j (by omega) (by omega))
    have b2 : ∀ (k : Nat) (i : Int), cs_sf (fun _ => 1) i k = k := fun k => by
      induction k with
      | zero => intro i; rfl
      | succ k ih => intro i; unfold cs_sf; rw [ih]; omega
    rw [b2] at b
    by_cases c : j = i
    · subst c; omega
    · exact cs_sf_full k (i + 1) (fun j q1 q2 => h j (by omega) (by omega)) (by omega) j (by omega) (by omega)
end
