/-! THE PLAN, mirrored on rows of numbers -/
section
variable {B : ab_B}
/-- surges, idle draw, tried starts, tried places, tried runs, the plan's starts, the plan's end -/
abbrev cz_Z : Type := List Int × Int × List Int × List Int × List Int × List Int × Int
def cz_g (l : List Int) (i : Int) : Int := l.getD i.toNat 0
def cz_s (l : List Int) (i v : Int) : List Int := l.set i.toNat v
theorem cz_g_s {l : List Int} {i j v : Int} (h1 : 0 ≤ i) (h2 : 0 ≤ j) (h3 : j < l.length) : cz_g (cz_s l j v) i = if i = j then v else cz_g l i := by
  unfold cz_g cz_s
  rw [List.getD_eq_getElem?_getD, List.getD_eq_getElem?_getD, List.getElem?_set]
  by_cases e : i = j
  · subst e
    rw [if_pos rfl, if_pos (by omega), if_pos rfl]
    rfl
  · rw [if_neg (by omega), if_neg e]
theorem cz_s_len (l : List Int) (i v : Int) : (cz_s l i v).length = l.length := by simp [cz_s]
/-- a heap that holds them -/
def cz_R (h : ab_H) (z : cz_Z) : Prop := (z.1.length = 100 ∧ z.2.2.1.length = 5 ∧ z.2.2.2.1.length = 5 ∧ z.2.2.2.2.1.length = 5 ∧ z.2.2.2.2.2.1.length = 5) ∧ (∀ t, 0 ≤ t → t < 100 → ab_gi h 16 t = cz_g z.1 t) ∧ ab_gi h 7 12 = z.2.1 ∧ (∀ d, 0 ≤ d → d < 5 → ab_gi h 13 d = cz_g z.2.2.1 d) ∧ (∀ d, 0 ≤ d → d < 5 → ab_gi h 14 d = cz_g z.2.2.2.1 d) ∧ (∀ d, 0 ≤ d → d < 5 → ab_gi h 15 d = cz_g z.2.2.2.2.1 d) ∧ (∀ d, 0 ≤ d → d < 5 → ab_gi h 11 d = cz_g z.2.2.2.2.2.1 d) ∧ ab_gi h 7 6 = z.2.2.2.2.2.2
/-- the first kinds and fuse -/
def cz_K (h : ab_H) (D : Int) : Prop := cs_T h ∧ ab_gi h 7 2 = D ∧ ab_gi h 7 0 = 30 ∧ ab_gi h 7 1 = 0 ∧ ∀ d, 0 ≤ d → d < 5 → ab_gi h 8 d = 10 ∧ ab_gi h 9 d = 3 ∧ ab_gi h 10 d = 2
/-- what the search leaves as it was -/
def cz_F (h h' : ab_H) : Prop := h'.2 = h.2 ∧ ∀ c k, (c < 11 ∨ 16 < c) → ¬ (c = 7 ∧ (k = 6 ∨ k = 12)) → ab_gi h' c k = ab_gi h c k
theorem cz_F.rfl' (h : ab_H) : cz_F h h := ⟨rfl, fun _ _ _ _ => rfl⟩
theorem cz_F.trans {h h' h2 : ab_H} (a : cz_F h h') (b : cz_F h' h2) : cz_F h h2 := ⟨b.1.trans a.1, fun c k q1 q2 => (b.2 c k q1 q2).trans (a.2 c k q1 q2)⟩
theorem cz_F.si {h : ab_H} {c : Nat} {k v : Int} (hc : (11 ≤ c ∧ c ≤ 16) ∨ (c = 7 ∧ (k = 6 ∨ k = 12))) : cz_F h (ab_si h c k v) := ⟨rfl, fun c' k' q1 q2 => by
  rw [ab_gi_si, if_neg]
  rintro ⟨rfl, rfl⟩
  rcases hc with q | q
  · omega
  · exact q2 q⟩
theorem cz_F.L {h h' : ab_H} (f : cz_F h h') (hL : cs_L h) : cs_L h' := by
  have e1 : ab_sh h' = ab_sh h := by unfold ab_sh; rw [f.1]
  have e2 : ab_gr h' = ab_gr h := by unfold ab_gr; rw [f.1]
  unfold cs_L
  rw [e1, e2]
  exact hL
theorem cz_F.K {h h' : ab_H} {D : Int} (f : cz_F h h') (hK : cz_K h D) : cz_K h' D := by
  obtain ⟨⟨hL, hn, hl, hp, hk⟩, k2, k3, k4, k5⟩ := hK
  have e2 := f.2 7 2 (by omega) (by simp)
  have e0 := f.2 7 0 (by omega) (by simp)
  have e1 := f.2 7 1 (by omega) (by simp)
  have e8 := fun d => f.2 8 d (by omega) (by simp)
  have e9 := fun d => f.2 9 d (by omega) (by simp)
  have e10 := fun d => f.2 10 d (by omega) (by simp)
  refine ⟨⟨f.L hL, ?_, ?_, ?_, fun d q1 q2 => ?_⟩, ?_, ?_, ?_, fun d q1 q2 => ?_⟩
  · rw [e2]; exact hn
  · rw [e0]; exact hl
  · rw [e1]; exact hp
  · rw [e8, e9, e10]; exact hk d q1 q2
  · rw [e2]; exact k2
  · rw [e0]; exact k3
  · rw [e1]; exact k4
  · rw [e8, e9, e10]; exact k5 d q1 q2
theorem cz_R.su {h : ab_H} {z : cz_Z} {t v : Int} (r : cz_R h z) (h1 : 0 ≤ t) (h2 : t < 100) : cz_R (ab_si h 16 t v) (cz_s z.1 t v, z.2) := by
  obtain ⟨l, a1, a2, a3, a4, a5, a6, a7⟩ := r
  refine ⟨⟨by rw [cz_s_len]; exact l.1, l.2⟩, fun x q1 q2 => ?_, by rw [ab_gi_si, if_neg (by simp)]; exact a2, fun d q1 q2 => by rw [ab_gi_si, if_neg (by simp)]; exact a3 d q1 q2, fun d q1 q2 => by rw [ab_gi_si, if_neg (by simp)]; exact a4 d q1 q2, fun d q1 q2 => by rw [ab_gi_si, if_neg (by simp)]; exact a5 d q1 q2, fun d q1 q2 => by rw [ab_gi_si, if_neg (by simp)]; exact a6 d q1 q2, by rw [ab_gi_si, if_neg (by simp)]; exact a7⟩
  rw [ab_gi_si, cz_g_s q1 h1 (by rw [l.1]; omega)]
  by_cases e : x = t
  · rw [if_pos ⟨rfl, e⟩, if_pos e]
  · rw [if_neg (fun q => e q.2), if_neg e]; exact a1 x q1 q2
theorem cz_R.id {h : ab_H} {z : cz_Z} {v : Int} (r : cz_R h z) : cz_R (ab_si h 7 12 v) (z.1, v, z.2.2) := by
  obtain ⟨l, a1, a2, a3, a4, a5, a6, a7⟩ := r
  exact ⟨l, fun d q1 q2 => by rw [ab_gi_si, if_neg (by simp)]; exact a1 d q1 q2, by rw [ab_gi_si, if_pos ⟨rfl, rfl⟩], fun d q1 q2 => by rw [ab_gi_si, if_neg (by simp)]; exact a3 d q1 q2, fun d q1 q2 => by rw [ab_gi_si, if_neg (by simp)]; exact a4 d q1 q2, fun d q1 q2 => by rw [ab_gi_si, if_neg (by simp)]; exact a5 d q1 q2, fun d q1 q2 => by rw [ab_gi_si, if_neg (by simp)]; exact a6 d q1 q2, by rw [ab_gi_si, if_neg (by simp)]; exact a7⟩
theorem cz_R.pe {h : ab_H} {z : cz_Z} {v : Int} (r : cz_R h z) : cz_R (ab_si h 7 6 v) (z.1, z.2.1, z.2.2.1, z.2.2.2.1, z.2.2.2.2.1, z.2.2.2.2.2.1, v) := by
  obtain ⟨l, a1, a2, a3, a4, a5, a6, a7⟩ := r
  exact ⟨l, fun d q1 q2 => by rw [ab_gi_si, if_neg (by simp)]; exact a1 d q1 q2, by rw [ab_gi_si, if_neg (by simp)]; exact a2, fun d q1 q2 => by rw [ab_gi_si, if_neg (by simp)]; exact a3 d q1 q2, fun d q1 q2 => by rw [ab_gi_si, if_neg (by simp)]; exact a4 d q1 q2, fun d q1 q2 => by rw [ab_gi_si, if_neg (by simp)]; exact a5 d q1 q2, fun d q1 q2 => by rw [ab_gi_si, if_neg (by simp)]; exact a6 d q1 q2, by rw [ab_gi_si, if_pos ⟨rfl, rfl⟩]⟩
theorem cz_R.ts {h : ab_H} {z : cz_Z} {t v : Int} (r : cz_R h z) (h1 : 0 ≤ t) (h2 : t < 5) : cz_R (ab_si h 13 t v) (z.1, z.2.1, cz_s z.2.2.1 t v, z.2.2.2) := by
  obtain ⟨l, a1, a2, a3, a4, a5, a6, a7⟩ := r
  refine ⟨⟨l.1, by rw [cz_s_len]; exact l.2.1, l.2.2⟩, fun d q1 q2 => by rw [ab_gi_si, if_neg (by simp)]; exact a1 d q1 q2, by rw [ab_gi_si, if_neg (by simp)]; exact a2, fun x q1 q2 => ?_, fun d q1 q2 => by rw [ab_gi_si, if_neg (by simp)]; exact a4 d q1 q2, fun d q1 q2 => by rw [ab_gi_si, if_neg (by simp)]; exact a5 d q1 q2, fun d q1 q2 => by rw [ab_gi_si, if_neg (by simp)]; exact a6 d q1 q2, by rw [ab_gi_si, if_neg (by simp)]; exact a7⟩
  rw [ab_gi_si, cz_g_s q1 h1 (by rw [l.2.1]; omega)]
  by_cases e : x = t
  · rw [if_pos ⟨rfl, e⟩, if_pos e]
  · rw [if_neg (fun q => e q.2), if_neg e]; exact a3 x q1 q2
theorem cz_R.tp {h : ab_H} {z : cz_Z} {t v : Int} (r : cz_R h z) (h1 : 0 ≤ t) (h2 : t < 5) : cz_R (ab_si h 14 t v) (z.1, z.2.1, z.2.2.1, cz_s z.2.2.2.1 t v, z.2.2.2.2) := by
  obtain ⟨l, a1, a2, a3, a4, a5, a6, a7⟩ := r
  refine ⟨⟨l.1, l.2.1, by rw [cz_s_len]; exact l.2.2.1, l.2.2.2⟩, fun d q1 q2 => by rw [ab_gi_si, if_neg (by simp)]; exact a1 d q1 q2, by rw [ab_gi_si, if_neg (by simp)]; exact a2, fun d q1 q2 => by rw [ab_gi_si, if_neg (by simp)]; exact a3 d q1 q2, fun x q1 q2 => ?_, fun d q1 q2 => by rw [ab_gi_si, if_neg (by simp)]; exact a5 d q1 q2, fun d q1 q2 => by rw [ab_gi_si, if_neg (by simp)]; exact a6 d q1 q2, by rw [ab_gi_si, if_neg (by simp)]; exact a7⟩
  rw [ab_gi_si, cz_g_s q1 h1 (by rw [l.2.2.1]; omega)]
  by_cases e : x = t
  · rw [if_pos ⟨rfl, e⟩, if_pos e]
  · rw [if_neg (fun q => e q.2), if_neg e]; exact a4 x q1 q2
theorem cz_R.tr {h : ab_H} {z : cz_Z} {t v : Int} (r : cz_R h z) (h1 : 0 ≤ t) (h2 : t < 5) : cz_R (ab_si h 15 t v) (z.1, z.2.1, z.2.2.1, z.2.2.2.1, cz_s z.2.2.2.2.1 t v, z.2.2.2.2.2) := by
  obtain ⟨l, a1, a2, a3, a4, a5, a6, a7⟩ := r
  refine ⟨⟨l.1, l.2.1, l.2.2.1, by rw [cz_s_len]; exact l.2.2.2.1, l.2.2.2.2⟩, fun d q1 q2 => by rw [ab_gi_si, if_neg (by simp)]; exact a1 d q1 q2, by rw [ab_gi_si, if_neg (by simp)]; exact a2, fun d q1 q2 => by rw [ab_gi_si, if_neg (by simp)]; exact a3 d q1 q2, fun d q1 q2 => by rw [ab_gi_si, if_neg (by simp)]; exact a4 d q1 q2, fun x q1 q2 => ?_, fun d q1 q2 => by rw [ab_gi_si, if_neg (by simp)]; exact a6 d q1 q2, by rw [ab_gi_si, if_neg (by simp)]; exact a7⟩
  rw [ab_gi_si, cz_g_s q1 h1 (by rw [l.2.2.2.1]; omega)]
  by_cases e : x = t
  · rw [if_pos ⟨rfl, e⟩, if_pos e]
  · rw [if_neg (fun q => e q.2), if_neg e]; exact a5 x q1 q2
theorem cz_R.ps {h : ab_H} {z : cz_Z} {t v : Int} (r : cz_R h z) (h1 : 0 ≤ t) (h2 : t < 5) : cz_R (ab_si h 11 t v) (z.1, z.2.1, z.2.2.1, z.2.2.2.1, z.2.2.2.2.1, cz_s z.2.2.2.2.2.1 t v, z.2.2.2.2.2.2) := by
  obtain ⟨l, a1, a2, a3, a4, a5, a6, a7⟩ := r
  refine ⟨⟨l.1, l.2.1, l.2.2.1, l.2.2.2.1, by rw [cz_s_len]; exact l.2.2.2.2⟩, fun d q1 q2 => by rw [ab_gi_si, if_neg (by simp)]; exact a1 d q1 q2, by rw [ab_gi_si, if_neg (by simp)]; exact a2, fun d q1 q2 => by rw [ab_gi_si, if_neg (by simp)]; exact a3 d q1 q2, fun d q1 q2 => by rw [ab_gi_si, if_neg (by simp)]; exact a4 d q1 q2, fun d q1 q2 => by rw [ab_gi_si, if_neg (by simp)]; exact a5 d q1 q2, fun x q1 q2 => ?_, by rw [ab_gi_si, if_neg (by simp)]; exact a7⟩
  rw [ab_gi_si, cz_g_s q1 h1 (by rw [l.2.2.2.2]; omega)]
  by_cases e : x = t
  · rw [if_pos ⟨rfl, e⟩, if_pos e]
  · rw [if_neg (fun q => e q.2), if_neg e]; exact a6 x q1 q2
/-- what is not held may change -/
theorem cz_R.pp {h : ab_H} {z : cz_Z} {t v : Int} (r : cz_R h z) : cz_R (ab_si h 12 t v) z := by
  obtain ⟨l, a1, a2, a3, a4, a5, a6, a7⟩ := r
  exact ⟨l, fun d q1 q2 => by rw [ab_gi_si, if_neg (by simp)]; exact a1 d q1 q2, by rw [ab_gi_si, if_neg (by simp)]; exact a2, fun d q1 q2 => by rw [ab_gi_si, if_neg (by simp)]; exact a3 d q1 q2, fun d q1 q2 => by rw [ab_gi_si, if_neg (by simp)]; exact a4 d q1 q2, fun d q1 q2 => by rw [ab_gi_si, if_neg (by simp)]; exact a5 d q1 q2, fun d q1 q2 => by rw [ab_gi_si, if_neg (by simp)]; exact a6 d q1 q2, by rw [ab_gi_si, if_neg (by simp)]; exact a7⟩
/-- a disk's draw -/
def cz_ds (t : Int) : Int := if t < 3 then 10 else 2
theorem cz_ds_eq {h : ab_H} {D d t : Int} (hK : cz_K h D) (h1 : 0 ≤ d) (h2 : d < 5) : cs_ds h d t = cz_ds t := by
  obtain ⟨e1, e2, e3⟩ := hK.2.2.2.2 d h1 h2
  unfold cs_ds cz_ds
  rw [e1, e2, e3]
/-- whether it trips -/
def cz_tw (z : cz_Z) (st : Int) : Int → Int → Nat → Bool
  | _, _, 0 => false
  | run, t, k + 1 => if 0 < (if 30 < z.2.1 + cz_g z.1 t + cz_ds (t - st) then run + 1 else 0) then true else cz_tw z st (if 30 < z.2.1 + cz_g z.1 t + cz_ds (t - st) then run + 1 else 0) (t + 1) k
theorem cz_tw_eq {h : ab_H} {z : cz_Z} {D d st : Int} (hK : cz_K h D) (r : cz_R h z) (h1 : 0 ≤ d) (h2 : d < 5) : ∀ (k : Nat) (run t : Int), 0 ≤ t → t + k ≤ 100 → cs_tw h d st run t k = if cz_tw z st run t k = true then 1 else 0
  | 0, run, t, q1, q2 => by simp [cs_tw, cz_tw]
  | k + 1, run, t, q1, q2 => by
    unfold cs_tw cz_tw
    rw [cz_ds_eq hK h1 h2, hK.2.2.1, hK.2.2.2.1, r.2.2.1, r.2.1 t q1 (by omega), cz_tw_eq hK r h1 h2 k _ (t + 1) (by omega) (by omega)]
    by_cases c : 0 < (if 30 < z.2.1 + cz_g z.1 t + cz_ds (t - st) then run + 1 else 0)
    · rw [if_pos c, if_pos c]; simp
    · rw [if_neg c, if_neg c]
/-- small numbers -/
def cz_ok (z : cz_Z) : Bool := decide (-2000 ≤ z.2.1 ∧ z.2.1 ≤ 2000) && z.1.all (fun x => decide (-2000 ≤ x ∧ x ≤ 2000))
theorem cz_ok_U {h : ab_H} {z : cz_Z} (r : cz_R h z) (ho : cz_ok z = true) : cs_U h := by
  obtain ⟨l, a1, a2, -⟩ := r
  unfold cz_ok at ho
  simp only [Bool.and_eq_true, decide_eq_true_eq, List.all_eq_true] at ho
  refine ⟨by rw [a2]; exact ho.1, fun t q1 q2 => ?_⟩
  rw [a1 t q1 q2]
  have hm : cz_g z.1 t ∈ z.1 := by
    unfold cz_g
    rw [List.getD_eq_getElem?_getD, List.getElem?_eq_getElem (by rw [l.1]; omega)]
    exact List.getElem_mem _
  exact ho.2 _ hm
end
