set_option linter.all false
/-! EQUATIONS OF THE RUN -/
section
variable {B : ab_B}
noncomputable def ab_E (B : ab_B) (d M pc : Nat) (loc : ab_M) (stk : List ab_V) (h : ab_H) : Option ab_T := ab_ev (ab_st B) d M pc loc stk h
theorem ab_E_j {d M pc pc' : Nat} {op : ab_O} {loc loc' : ab_M} {stk stk' : List ab_V} {h h' : ab_H} (ho : ab_st B M pc = op) (hs : op loc stk h = ab_j pc' loc' stk' h') : ab_E B d M pc loc stk h = ab_E B d M pc' loc' stk' h' :=
  ab_ev_jump (ab_st B) (by rw [ho]; exact hs)
theorem ab_E_if {d M pc t n : Nat} {c : Prop} {hc : Decidable c} {op : ab_O} {loc loc' : ab_M} {stk stk' : List ab_V} {h h' : ab_H} (ho : ab_st B M pc = op) (hs : op loc stk h = ab_j (@ite _ c hc t n) loc' stk' h') : ab_E B d M pc loc stk h = @ite _ c hc (ab_E B d M t loc' stk' h') (ab_E B d M n loc' stk' h') := by
  rw [ab_E_j ho hs]
  by_cases h9 : c
  · rw [if_pos h9, if_pos h9]
  · rw [if_neg h9, if_neg h9]
theorem ab_E_g {d M pc pc' : Nat} {c : Prop} {hc : Decidable c} {op : ab_O} {loc loc' : ab_M} {stk stk' : List ab_V} {h h' : ab_H} (ho : ab_st B M pc = op) (hs : op loc stk h = @ite _ c hc (ab_j pc' loc' stk' h') ab_x) : ab_E B d M pc loc stk h = @ite _ c hc (ab_E B d M pc' loc' stk' h') none := by
  by_cases h9 : c
  · rw [if_pos h9] at hs ⊢; exact ab_E_j ho hs
  · rw [if_neg h9] at hs ⊢; exact ab_ev_done (ab_st B) (by rw [ho]; exact hs)
theorem ab_E_n {d M pc pc' : Nat} {c : Prop} {hc : Decidable c} {op : ab_O} {loc loc' : ab_M} {stk stk' : List ab_V} {h h' : ab_H} (ho : ab_st B M pc = op) (hs : op loc stk h = @ite _ c hc ab_x (ab_j pc' loc' stk' h')) : ab_E B d M pc loc stk h = @ite _ c hc none (ab_E B d M pc' loc' stk' h') := by
  by_cases h9 : c
  · rw [if_pos h9] at hs ⊢; exact ab_ev_done (ab_st B) (by rw [ho]; exact hs)
  · rw [if_neg h9] at hs ⊢; exact ab_E_j ho hs
theorem ab_E_d {d M pc : Nat} {op : ab_O} {loc : ab_M} {stk : List ab_V} {h : ab_H} {r : Option ab_T} (ho : ab_st B M pc = op) (hs : op loc stk h = .inl r) : ab_E B d M pc loc stk h = r :=
  ab_ev_done (ab_st B) (by rw [ho]; exact hs)
/-- an array's place z is there -/
def ab_gd (o : Option (Nat × Nat)) (t : Nat) (z : Int) (k : Option ab_T) : Option ab_T := match o with
  | some (t', n) => if t' = t ∧ 0 ≤ z ∧ z < (n : Int) then k else none
  | none => none
theorem ab_gd_some (t n : Nat) (z : Int) (k : Option ab_T) : ab_gd (some (t, n)) t z k = if 0 ≤ z ∧ z < (n : Int) then k else none := by simp [ab_gd]
def ab_gs (o : Option (Nat × Nat)) (t : Nat) (z v : Int) (k : Option ab_T) : Option ab_T := match o with
  | some (t', n) => if t' = t ∧ 0 ≤ z ∧ z < (n : Int) ∧ (t = 1 → v = 0 ∨ v = 1) ∧ (t = 3 → -128 ≤ v ∧ v ≤ 127) then k else none
  | none => none
theorem ab_gs_0 (n : Nat) (z v : Int) (k : Option ab_T) : ab_gs (some (0, n)) 0 z v k = if 0 ≤ z ∧ z < (n : Int) then k else none := by simp [ab_gs]
theorem ab_gs_1 (n : Nat) (z v : Int) (k : Option ab_T) : ab_gs (some (1, n)) 1 z v k = if 0 ≤ z ∧ z < (n : Int) ∧ (v = 0 ∨ v = 1) then k else none := by simp [ab_gs]
theorem ab_E_xld {d M pc nx t a : Nat} {z : Int} {loc : ab_M} {r : List ab_V} {h : ab_H} (ho : ab_st B M pc = ab_o_xld t nx) : ab_E B d M pc loc (.inl z :: .inr (.inr (.inl (some a))) :: r) h = ab_gd (ab_sh h)[a]? t z (ab_E B d M nx loc (.inl (ab_gi h a z) :: r) h) := by
  have hs : ab_st B M pc loc (.inl z :: .inr (.inr (.inl (some a))) :: r) h = (match (ab_sh h)[a]? with
    | some (t', n) => if t' = t ∧ 0 ≤ z ∧ z < (n : Int) then ab_j nx loc (ab_I (ab_gi h a z) :: r) h else ab_x
    | none => ab_x) := by rw [ho]; rfl
  unfold ab_gd
  cases e : (ab_sh h)[a]? with
  | none => rw [e] at hs; exact ab_ev_done (ab_st B) hs
  | some s =>
    rw [e] at hs
    obtain ⟨t', n⟩ := s
    simp only at hs ⊢
    by_cases h9 : t' = t ∧ 0 ≤ z ∧ z < (n : Int)
    · rw [if_pos h9] at hs ⊢; exact ab_ev_jump (ab_st B) hs
    · rw [if_neg h9] at hs ⊢; exact ab_ev_done (ab_st B) hs
theorem ab_gs_3 (n : Nat) (z v : Int) (k : Option ab_T) : ab_gs (some (3, n)) 3 z v k = if 0 ≤ z ∧ z < (n : Int) ∧ (-128 ≤ v ∧ v ≤ 127) then k else none := by simp [ab_gs]
theorem ab_E_xst {d M pc nx t a : Nat} {z v : Int} {loc : ab_M} {r : List ab_V} {h : ab_H} (ho : ab_st B M pc = ab_o_xst t nx) : ab_E B d M pc loc (.inl v :: .inl z :: .inr (.inr (.inl (some a))) :: r) h = ab_gs (ab_sh h)[a]? t z v (ab_E B d M nx loc r (ab_si h a z v)) := by
  have hs : ab_st B M pc loc (.inl v :: .inl z :: .inr (.inr (.inl (some a))) :: r) h = (match (ab_sh h)[a]? with
    | some (t', n) => if t' = t ∧ 0 ≤ z ∧ z < (n : Int) ∧ (t = 1 → v = 0 ∨ v = 1) ∧ (t = 3 → -128 ≤ v ∧ v ≤ 127) then ab_j nx loc r (ab_si h a z v) else ab_x
    | none => ab_x) := by rw [ho]; rfl
  unfold ab_gs
  cases e : (ab_sh h)[a]? with
  | none => rw [e] at hs; exact ab_ev_done (ab_st B) hs
  | some s =>
    rw [e] at hs
    obtain ⟨t', n⟩ := s
    simp only at hs ⊢
    by_cases h9 : t' = t ∧ 0 ≤ z ∧ z < (n : Int) ∧ (t = 1 → v = 0 ∨ v = 1) ∧ (t = 3 → -128 ≤ v ∧ v ≤ 127)
    · rw [if_pos h9] at hs ⊢; exact ab_ev_jump (ab_st B) hs
    · rw [if_neg h9] at hs ⊢; exact ab_ev_done (ab_st B) hs
def ab_gl_ (o : Option (Nat × Nat)) (k : Int → Option ab_T) : Option ab_T := match o with
  | some (t, n) => if t < 4 then k n else none
  | none => none
theorem ab_gl_0 (n : Nat) (k : Int → Option ab_T) : ab_gl_ (some (0, n)) k = k n := rfl
theorem ab_gl_2 (n : Nat) (k : Int → Option ab_T) : ab_gl_ (some (2, n)) k = k n := rfl
theorem ab_gl_3 (n : Nat) (k : Int → Option ab_T) : ab_gl_ (some (3, n)) k = k n := rfl
theorem ab_gl_1 (n : Nat) (k : Int → Option ab_T) : ab_gl_ (some (1, n)) k = k n := rfl
theorem ab_E_alen {d M pc nx a : Nat} {loc : ab_M} {r : List ab_V} {h : ab_H} (ho : ab_st B M pc = ab_o_alen nx) : ab_E B d M pc loc (.inr (.inr (.inl (some a))) :: r) h = ab_gl_ (ab_sh h)[a]? (fun n => ab_E B d M nx loc (.inl n :: r) h) := by
  have hs : ab_st B M pc loc (.inr (.inr (.inl (some a))) :: r) h = (match (ab_sh h)[a]? with
    | some (t, n) => if t < 4 then ab_j nx loc (ab_I n :: r) h else ab_x
    | none => ab_x) := by rw [ho]; rfl
  unfold ab_gl_
  cases e : (ab_sh h)[a]? with
  | none => rw [e] at hs; exact ab_ev_done (ab_st B) hs
  | some s =>
    rw [e] at hs
    obtain ⟨t', n⟩ := s
    simp only at hs ⊢
    by_cases h9 : t' < 4
    · rw [if_pos h9] at hs ⊢; exact ab_ev_jump (ab_st B) hs
    · rw [if_neg h9] at hs ⊢; exact ab_ev_done (ab_st B) hs
/-- behind a call that answers -/
def ab_bv (r : Option ab_T) (k : ab_V → ab_H → Option ab_T) : Option ab_T := match r with
  | some (.inl (some x), h') => k x h'
  | some (.inr E, h') => some (.inr E, h')
  | _ => none
def ab_bu (r : Option ab_T) (k : ab_H → Option ab_T) : Option ab_T := match r with
  | some (.inl none, h') => k h'
  | some (.inr E, h') => some (.inr E, h')
  | _ => none
theorem ab_bv_some (x : ab_V) (h : ab_H) (k : ab_V → ab_H → Option ab_T) : ab_bv (some (.inl (some x), h)) k = k x h := rfl
theorem ab_bu_some (h : ab_H) (k : ab_H → Option ab_T) : ab_bu (some (.inl none, h)) k = k h := rfl
theorem ab_bv_thr (E : Nat) (h : ab_H) (k : ab_V → ab_H → Option ab_T) : ab_bv (some (.inr E, h)) k = some (.inr E, h) := rfl
theorem ab_bu_thr (E : Nat) (h : ab_H) (k : ab_H → Option ab_T) : ab_bu (some (.inr E, h)) k = some (.inr E, h) := rfl
theorem ab_go_v {d M nx : Nat} {loc : ab_M} {r : List ab_V} {o : Option ab_T} : ab_go (ab_st B) d M (ab_k [] true nx loc r) o = ab_bv o (fun x h' => ab_E B d M nx loc (x :: r) h') := by
  match o with
  | none => rfl
  | some (.inl (some x), h') => rfl
  | some (.inl none, h') => rfl
  | some (.inr E, h') => rfl
theorem ab_go_u {d M nx : Nat} {loc : ab_M} {r : List ab_V} {o : Option ab_T} : ab_go (ab_st B) d M (ab_k [] false nx loc r) o = ab_bu o (fun h' => ab_E B d M nx loc r h') := by
  match o with
  | none => rfl
  | some (.inl (some x), h') => rfl
  | some (.inl none, h') => rfl
  | some (.inr E, h') => rfl
theorem ab_E_call {d M pc M' mL na nx : Nat} {v : Bool} {rc : Option (Nat × Nat)} {hs : List (Nat × Nat × Nat)} {loc loc' : ab_M} {stk r as : List ab_V} {h : ab_H} (ho : ab_st B M pc = ab_o_call rc hs M' mL na v nx) (hsp : ab_split na [] stk = some (as, r)) (hsum : ab_sum r ≤ 8) (hls : ab_lsz as ≤ mL) (hl : ab_ent mL as = loc') :
    ab_E B (d + 1) M pc loc stk h = if ab_rc rc as h = true then ab_go (ab_st B) (d + 1) M (ab_k hs v nx loc r) (ab_E B d M' 0 loc' [] h) else none := by
  subst hl
  have hs' : ab_st B M pc loc stk h = (if ab_sum r ≤ 8 ∧ ab_rc rc as h = true ∧ ab_lsz as ≤ mL then .inr (.inr ((M', ab_ent mL as, h), ab_k hs v nx loc r)) else ab_x) := by rw [ho]; unfold ab_o_call; rw [hsp]
  by_cases h9 : ab_rc rc as h = true
  · rw [if_pos ⟨hsum, h9, hls⟩] at hs'
    rw [if_pos h9]
    exact ab_ev_call (ab_st B) hs'
  · rw [if_neg (fun q => h9 q.2.1)] at hs'
    rw [if_neg h9]
    exact ab_ev_done (ab_st B) hs'
theorem ab_ifc {p q : Prop} {hp : Decidable p} {hq : Decidable q} {a b : Option ab_T} (h : p ↔ q) : @ite _ p hp a b = @ite _ q hq a b := by
  by_cases e : p
  · rw [if_pos e, if_pos (h.mp e)]
  · rw [if_neg e, if_neg (fun x => e (h.mpr x))]
theorem ab_rc_q {t n a : Nat} {as : List ab_V} {h : ab_H} (ht : t ≠ 1000) : (ab_rc (some (t, n)) (.inr (.inr (.inl (some a))) :: as) h = true) ↔ (ab_sh h)[a]? = some (t, n) := ⟨fun q => (of_decide_eq_true q).1, fun q => decide_eq_true ⟨q, ht⟩⟩
theorem ab_rc_t {n k : Nat} {as : List ab_V} {h : ab_H} : (ab_rc (some (1000, n)) (.inr (.inr (.inr k)) :: as) h = true) ↔ (k % 2 = 1 ∧ k < 2 * n) := ⟨fun q => (of_decide_eq_true q).2, fun q => decide_eq_true ⟨rfl, q⟩⟩
/-- behind a call with handlers -/
def ab_bh (r : Option ab_T) (k : ab_V → ab_H → Option ab_T) (hs : List (Nat × (ab_H → Option ab_T))) : Option ab_T := match r with
  | some (.inl (some x), h') => k x h'
  | some (.inl none, _) => none
  | some (.inr E, h') => match hs.find? (fun q => q.1 == E) with
    | some q => q.2 h'
    | none => none
  | none => none
theorem ab_bh_some (x : ab_V) (h : ab_H) (k : ab_V → ab_H → Option ab_T) (hs : List (Nat × (ab_H → Option ab_T))) : ab_bh (some (.inl (some x), h)) k hs = k x h := rfl
theorem ab_bh_thr (E E' : Nat) (f : ab_H → Option ab_T) (h : ab_H) (k : ab_V → ab_H → Option ab_T) (hs : List (Nat × (ab_H → Option ab_T))) : ab_bh (some (.inr E, h)) k ((E', f) :: hs) = if E' = E then f h else ab_bh (some (.inr E, h)) k hs := by
  unfold ab_bh
  by_cases e : E' = E
  · subst e; simp
  · simp [e]
theorem ab_go_h {d M nx : Nat} {q : Nat × Nat × Nat} {hs : List (Nat × Nat × Nat)} {loc : ab_M} {r : List ab_V} {o : Option ab_T} : ab_go (ab_st B) d M (ab_k (q :: hs) true nx loc r) o = ab_bh o (fun x h' => ab_E B d M nx loc (x :: r) h') ((q :: hs).map (fun q => (q.1, fun h' => ab_E B d M q.2.1 (ab_set1 loc q.2.2 none) [] h'))) := by
  match o with
  | none => rfl
  | some (.inl (some x), h') => rfl
  | some (.inl none, h') => rfl
  | some (.inr E, h') =>
    have key : ∀ l : List (Nat × Nat × Nat), (match (l.map (fun q => (q.1, fun h' => ab_E B d M q.2.1 (ab_set1 loc q.2.2 none) [] h'))).find? (fun q => q.1 == E) with | some q => q.2 h' | none => none) = ab_go (ab_st B) d M (fun _ => match ab_pick l E with | some (pc, i) => some (.inr (pc, ab_set1 loc i none, [], h')) | none => none) (some (.inr E, h')) := fun l => by
      induction l with
      | nil => rfl
      | cons a l ih =>
        by_cases e : a.1 = E
        · simp [e, ab_pick, ab_go, ab_E]
        · have e' : (a.1 == E) = false := by simpa using e
          simp only [List.map_cons, List.find?_cons, e', ab_pick] at ih ⊢
          exact ih
    exact (key (q :: hs)).symm
theorem ab_E_cv {d M pc M' mL na nx a t n : Nat} {loc loc' : ab_M} {stk r as : List ab_V} {h : ab_H} (ho : ab_st B M pc = ab_o_call (some (t, n)) [] M' mL na true nx) (hsp : ab_split na [] stk = some (.inr (.inr (.inl (some a))) :: as, r)) (ht : t ≠ 1000) (hsum : ab_sum r ≤ 8) (hls : ab_lsz (.inr (.inr (.inl (some a))) :: as) ≤ mL) (hl : ab_ent mL (.inr (.inr (.inl (some a))) :: as) = loc') :
    ab_E B (d + 1) M pc loc stk h = if (ab_sh h)[a]? = some (t, n) then ab_bv (ab_E B d M' 0 loc' [] h) (fun x h' => ab_E B (d + 1) M nx loc (x :: r) h') else none := by
  rw [ab_E_call ho hsp hsum hls hl, ab_go_v]
  exact ab_ifc (ab_rc_q ht)
theorem ab_E_cu {d M pc M' mL na nx a t n : Nat} {loc loc' : ab_M} {stk r as : List ab_V} {h : ab_H} (ho : ab_st B M pc = ab_o_call (some (t, n)) [] M' mL na false nx) (hsp : ab_split na [] stk = some (.inr (.inr (.inl (some a))) :: as, r)) (ht : t ≠ 1000) (hsum : ab_sum r ≤ 8) (hls : ab_lsz (.inr (.inr (.inl (some a))) :: as) ≤ mL) (hl : ab_ent mL (.inr (.inr (.inl (some a))) :: as) = loc') :
    ab_E B (d + 1) M pc loc stk h = if (ab_sh h)[a]? = some (t, n) then ab_bu (ab_E B d M' 0 loc' [] h) (fun h' => ab_E B (d + 1) M nx loc r h') else none := by
  rw [ab_E_call ho hsp hsum hls hl, ab_go_u]
  exact ab_ifc (ab_rc_q ht)
theorem ab_E_ct {d M pc M' mL na nx k n : Nat} {loc loc' : ab_M} {stk r as : List ab_V} {h : ab_H} (ho : ab_st B M pc = ab_o_call (some (1000, n)) [] M' mL na true nx) (hsp : ab_split na [] stk = some (.inr (.inr (.inr k)) :: as, r)) (hsum : ab_sum r ≤ 8) (hls : ab_lsz (.inr (.inr (.inr k)) :: as) ≤ mL) (hl : ab_ent mL (.inr (.inr (.inr k)) :: as) = loc') :
    ab_E B (d + 1) M pc loc stk h = if k % 2 = 1 ∧ k < 2 * n then ab_bv (ab_E B d M' 0 loc' [] h) (fun x h' => ab_E B (d + 1) M nx loc (x :: r) h') else none := by
  rw [ab_E_call ho hsp hsum hls hl, ab_go_v]
  exact ab_ifc ab_rc_t
theorem ab_E_ctu {d M pc M' mL na nx k n : Nat} {loc loc' : ab_M} {stk r as : List ab_V} {h : ab_H} (ho : ab_st B M pc = ab_o_call (some (1000, n)) [] M' mL na false nx) (hsp : ab_split na [] stk = some (.inr (.inr (.inr k)) :: as, r)) (hsum : ab_sum r ≤ 8) (hls : ab_lsz (.inr (.inr (.inr k)) :: as) ≤ mL) (hl : ab_ent mL (.inr (.inr (.inr k)) :: as) = loc') :
    ab_E B (d + 1) M pc loc stk h = if k % 2 = 1 ∧ k < 2 * n then ab_bu (ab_E B d M' 0 loc' [] h) (fun h' => ab_E B (d + 1) M nx loc r h') else none := by
  rw [ab_E_call ho hsp hsum hls hl, ab_go_u]
  exact ab_ifc ab_rc_t
theorem ab_E_sv {d M pc M' mL na nx : Nat} {loc loc' : ab_M} {stk r as : List ab_V} {h : ab_H} (ho : ab_st B M pc = ab_o_call none [] M' mL na true nx) (hsp : ab_split na [] stk = some (as, r)) (hsum : ab_sum r ≤ 8) (hls : ab_lsz as ≤ mL) (hl : ab_ent mL as = loc') :
    ab_E B (d + 1) M pc loc stk h = ab_bv (ab_E B d M' 0 loc' [] h) (fun x h' => ab_E B (d + 1) M nx loc (x :: r) h') := by
  rw [ab_E_call ho hsp hsum hls hl, ab_go_v]; exact if_pos rfl
theorem ab_E_su {d M pc M' mL na nx : Nat} {loc loc' : ab_M} {stk r as : List ab_V} {h : ab_H} (ho : ab_st B M pc = ab_o_call none [] M' mL na false nx) (hsp : ab_split na [] stk = some (as, r)) (hsum : ab_sum r ≤ 8) (hls : ab_lsz as ≤ mL) (hl : ab_ent mL as = loc') :
    ab_E B (d + 1) M pc loc stk h = ab_bu (ab_E B d M' 0 loc' [] h) (fun h' => ab_E B (d + 1) M nx loc r h') := by
  rw [ab_E_call ho hsp hsum hls hl, ab_go_u]; exact if_pos rfl
theorem ab_E_cvh {d M pc M' mL na nx a t n : Nat} {q : Nat × Nat × Nat} {hs : List (Nat × Nat × Nat)} {loc loc' : ab_M} {stk r as : List ab_V} {h : ab_H} (ho : ab_st B M pc = ab_o_call (some (t, n)) (q :: hs) M' mL na true nx) (hsp : ab_split na [] stk = some (.inr (.inr (.inl (some a))) :: as, r)) (ht : t ≠ 1000) (hsum : ab_sum r ≤ 8) (hls : ab_lsz (.inr (.inr (.inl (some a))) :: as) ≤ mL) (hl : ab_ent mL (.inr (.inr (.inl (some a))) :: as) = loc') :
    ab_E B (d + 1) M pc loc stk h = if (ab_sh h)[a]? = some (t, n) then ab_bh (ab_E B d M' 0 loc' [] h) (fun x h' => ab_E B (d + 1) M nx loc (x :: r) h') ((q :: hs).map (fun q => (q.1, fun h' => ab_E B (d + 1) M q.2.1 (ab_set1 loc q.2.2 none) [] h'))) else none := by
  rw [ab_E_call ho hsp hsum hls hl, ab_go_h]
  exact ab_ifc (ab_rc_q ht)
theorem ab_E_svh {d M pc M' mL na nx : Nat} {q : Nat × Nat × Nat} {hs : List (Nat × Nat × Nat)} {loc loc' : ab_M} {stk r as : List ab_V} {h : ab_H} (ho : ab_st B M pc = ab_o_call none (q :: hs) M' mL na true nx) (hsp : ab_split na [] stk = some (as, r)) (hsum : ab_sum r ≤ 8) (hls : ab_lsz as ≤ mL) (hl : ab_ent mL as = loc') :
    ab_E B (d + 1) M pc loc stk h = ab_bh (ab_E B d M' 0 loc' [] h) (fun x h' => ab_E B (d + 1) M nx loc (x :: r) h') ((q :: hs).map (fun q => (q.1, fun h' => ab_E B (d + 1) M q.2.1 (ab_set1 loc q.2.2 none) [] h'))) := by
  rw [ab_E_call ho hsp hsum hls hl, ab_go_h]; exact if_pos rfl
theorem ab_E_slen {d M pc nx : Nat} {loc : ab_M} {r : List ab_V} {h : ab_H} (ho : ab_st B M pc = ab_o_slen B nx) : ab_E B d M pc loc (.inr (.inr (.inr 0)) :: r) h = ab_E B d M nx loc (.inl (B.2.1 : Int) :: r) h := ab_E_j ho rfl
theorem ab_E_sld {d M pc nx : Nat} {z : Int} {loc : ab_M} {r : List ab_V} {h : ab_H} (ho : ab_st B M pc = ab_o_sld B nx) : ab_E B d M pc loc (.inl z :: .inr (.inr (.inr 0)) :: r) h = if 0 ≤ z ∧ z < (B.2.1 : Int) ∧ z < 2147483648 then ab_E B d M nx loc (.inl (B.2.2.1 z.toNat).toInt :: r) h else none := ab_E_g ho rfl
theorem ab_E_gr {d M pc : Nat} {c : Prop} {hc : Decidable c} {op : ab_O} {loc : ab_M} {stk : List ab_V} {h : ab_H} {r : Option ab_T} (ho : ab_st B M pc = op) (hs : op loc stk h = @ite _ c hc (.inl r) ab_x) : ab_E B d M pc loc stk h = @ite _ c hc r none := by
  by_cases h9 : c
  · rw [if_pos h9] at hs ⊢; exact ab_E_d ho hs
  · rw [if_neg h9] at hs ⊢; exact ab_E_d ho hs
theorem ab_E_aald {d M pc nx a : Nat} {z : Int} {loc : ab_M} {r : List ab_V} {h : ab_H} (ho : ab_st B M pc = ab_o_aald nx) : ab_E B d M pc loc (.inl z :: .inr (.inr (.inl (some a))) :: r) h = ab_gd (ab_sh h)[a]? 2 z (ab_E B d M nx loc (.inr (.inr (.inl (ab_gr h a z))) :: r) h) := by
  have hs : ab_st B M pc loc (.inl z :: .inr (.inr (.inl (some a))) :: r) h = (match (ab_sh h)[a]? with
    | some (t', n) => if t' = 2 ∧ 0 ≤ z ∧ z < (n : Int) then ab_j nx loc (ab_Q (ab_gr h a z) :: r) h else ab_x
    | none => ab_x) := by rw [ho]; rfl
  unfold ab_gd
  cases e : (ab_sh h)[a]? with
  | none => rw [e] at hs; exact ab_ev_done (ab_st B) hs
  | some s =>
    rw [e] at hs
    obtain ⟨t', n⟩ := s
    simp only at hs ⊢
    by_cases h9 : t' = 2 ∧ 0 ≤ z ∧ z < (n : Int)
    · rw [if_pos h9] at hs ⊢; exact ab_ev_jump (ab_st B) hs
    · rw [if_neg h9] at hs ⊢; exact ab_ev_done (ab_st B) hs
/-- a row is put into an array of rows -/
def ab_gt_ (o o' : Option (Nat × Nat)) (z : Int) (k : Option ab_T) : Option ab_T := match o with
  | some (t', n) => if t' = 2 ∧ o'.map Prod.fst = some 0 ∧ 0 ≤ z ∧ z < (n : Int) then k else none
  | none => none
theorem ab_gt_some (m n : Nat) (z : Int) (k : Option ab_T) : ab_gt_ (some (2, n)) (some (0, m)) z k = if 0 ≤ z ∧ z < (n : Int) then k else none := by simp [ab_gt_]
theorem ab_E_aast {d M pc nx a b : Nat} {z : Int} {loc : ab_M} {r : List ab_V} {h : ab_H} (ho : ab_st B M pc = ab_o_aast nx) : ab_E B d M pc loc (.inr (.inr (.inl (some b))) :: .inl z :: .inr (.inr (.inl (some a))) :: r) h = ab_gt_ (ab_sh h)[a]? (ab_sh h)[b]? z (ab_E B d M nx loc r (ab_sr h a z (some b))) := by
  have hs : ab_st B M pc loc (.inr (.inr (.inl (some b))) :: .inl z :: .inr (.inr (.inl (some a))) :: r) h = (match (ab_sh h)[a]? with
    | some (t', n) => if t' = 2 ∧ ((ab_sh h)[b]?).map Prod.fst = some 0 ∧ 0 ≤ z ∧ z < (n : Int) then ab_j nx loc r (ab_sr h a z (some b)) else ab_x
    | none => ab_x) := by rw [ho]; rfl
  unfold ab_gt_
  cases e : (ab_sh h)[a]? with
  | none => rw [e] at hs; exact ab_ev_done (ab_st B) hs
  | some s =>
    rw [e] at hs
    obtain ⟨t', n⟩ := s
    simp only at hs ⊢
    by_cases h9 : t' = 2 ∧ ((ab_sh h)[b]?).map Prod.fst = some 0 ∧ 0 ≤ z ∧ z < (n : Int)
    · rw [if_pos h9] at hs ⊢; exact ab_ev_jump (ab_st B) hs
    · rw [if_neg h9] at hs ⊢; exact ab_ev_done (ab_st B) hs
def ab_gc_ (o : Option (Nat × Nat)) (k : Nat → Option ab_T) : Option ab_T := match o with
  | some (t, n) => if t = 0 ∧ n ≤ 100000 then k n else none
  | none => none
theorem ab_gc_0 (n : Nat) (k : Nat → Option ab_T) : ab_gc_ (some (0, n)) k = if n ≤ 100000 then k n else none := by simp [ab_gc_]
theorem ab_E_clone {d M pc nx a : Nat} {loc : ab_M} {r : List ab_V} {h : ab_H} (ho : ab_st B M pc = ab_o_clone nx) (hr : ab_sum r ≤ 8) : ab_E B d M pc loc (.inr (.inr (.inl (some a))) :: r) h = ab_gc_ (ab_sh h)[a]? (fun n => ab_E B d M nx loc (.inr (.inr (.inl (some (ab_n h)))) :: r) (ab_fil (ab_new h 0 n) (ab_n h) (ab_gi h a))) := by
  have hs : ab_st B M pc loc (.inr (.inr (.inl (some a))) :: r) h = (match (ab_sh h)[a]? with
    | some (t, n) => if t = 0 ∧ n ≤ 100000 ∧ ab_sum r ≤ 8 then ab_j nx loc (ab_Q (some (ab_n h)) :: r) (ab_fil (ab_new h 0 n) (ab_n h) (ab_gi h a)) else ab_x
    | none => ab_x) := by rw [ho]; rfl
  unfold ab_gc_
  cases e : (ab_sh h)[a]? with
  | none => rw [e] at hs; exact ab_ev_done (ab_st B) hs
  | some s =>
    rw [e] at hs
    obtain ⟨t', n⟩ := s
    simp only at hs ⊢
    by_cases h9 : t' = 0 ∧ n ≤ 100000
    · rw [if_pos ⟨h9.1, h9.2, hr⟩] at hs; rw [if_pos h9]; exact ab_ev_jump (ab_st B) hs
    · rw [if_neg (fun q => h9 ⟨q.1, q.2.1⟩)] at hs; rw [if_neg h9]; exact ab_ev_done (ab_st B) hs
def ab_gk_ (o : Option (Nat × Nat)) (k : Option ab_T) : Option ab_T := match o with
  | some (t, _) => if t = 0 then k else none
  | none => none
theorem ab_gk_0 (n : Nat) (k : Option ab_T) : ab_gk_ (some (0, n)) k = k := rfl
theorem ab_E_cast {d M pc nx a : Nat} {loc : ab_M} {r : List ab_V} {h : ab_H} (ho : ab_st B M pc = ab_o_cast nx) : ab_E B d M pc loc (.inr (.inr (.inl (some a))) :: r) h = ab_gk_ (ab_sh h)[a]? (ab_E B d M nx loc (.inr (.inr (.inl (some a))) :: r) h) := by
  have hs : ab_st B M pc loc (.inr (.inr (.inl (some a))) :: r) h = (match (ab_sh h)[a]? with
    | some (t, _) => if t = 0 then ab_j nx loc (ab_Q (some a) :: r) h else ab_x
    | none => ab_x) := by rw [ho]; rfl
  unfold ab_gk_
  cases e : (ab_sh h)[a]? with
  | none => rw [e] at hs; exact ab_ev_done (ab_st B) hs
  | some s =>
    rw [e] at hs
    obtain ⟨t', n⟩ := s
    simp only at hs ⊢
    by_cases h9 : t' = 0
    · rw [if_pos h9] at hs ⊢; exact ab_ev_jump (ab_st B) hs
    · rw [if_neg h9] at hs ⊢; exact ab_ev_done (ab_st B) hs
theorem ab_E_cpt {d M pc N nx a k : Nat} {n dp sp : Int} {loc : ab_M} {r : List ab_V} {h : ab_H} (ho : ab_st B M pc = ab_o_cpt N nx) (hr : ab_sum r ≤ 8) : ab_E B d M pc loc (.inl n :: .inl dp :: .inr (.inr (.inl (some a))) :: .inl sp :: .inr (.inr (.inr k)) :: r) h = ab_gd (ab_sh h)[a]? 3 dp (if n = 1 ∧ sp = 0 ∧ (k % 2 = 0 ∧ 1 < k ∧ k ≤ 2 * N) then ab_E B d M nx loc r (ab_si h a dp (ab_tx ((k - 2) / 2))) else none) := by
  have hs : ab_st B M pc loc (.inl n :: .inl dp :: .inr (.inr (.inl (some a))) :: .inl sp :: .inr (.inr (.inr k)) :: r) h = (match (ab_sh h)[a]? with
    | some (t, m) => if t = 3 ∧ n = 1 ∧ sp = 0 ∧ 0 ≤ dp ∧ dp < (m : Int) ∧ (k % 2 = 0 ∧ 1 < k ∧ k ≤ 2 * N) ∧ ab_sum r ≤ 8 then ab_j nx loc r (ab_si h a dp (ab_tx ((k - 2) / 2))) else ab_x
    | none => ab_x) := by rw [ho]; rfl
  unfold ab_gd
  cases e : (ab_sh h)[a]? with
  | none => rw [e] at hs; exact ab_ev_done (ab_st B) hs
  | some s =>
    rw [e] at hs
    obtain ⟨t', m⟩ := s
    simp only at hs ⊢
    by_cases h9 : t' = 3 ∧ n = 1 ∧ sp = 0 ∧ 0 ≤ dp ∧ dp < (m : Int) ∧ (k % 2 = 0 ∧ 1 < k ∧ k ≤ 2 * N) ∧ ab_sum r ≤ 8
    · rw [if_pos h9] at hs
      rw [if_pos ⟨h9.1, h9.2.2.2.1, h9.2.2.2.2.1⟩, if_pos ⟨h9.2.1, h9.2.2.1, h9.2.2.2.2.2.1⟩]
      exact ab_ev_jump (ab_st B) hs
    · rw [if_neg h9] at hs
      by_cases h8 : t' = 3 ∧ 0 ≤ dp ∧ dp < (m : Int)
      · rw [if_pos h8, if_neg (fun q => h9 ⟨h8.1, q.1, q.2.1, h8.2.1, h8.2.2, q.2.2, hr⟩)]; exact ab_ev_done (ab_st B) hs
      · rw [if_neg h8]; exact ab_ev_done (ab_st B) hs
theorem ab_E_cpb {d M pc nx a b m m' : Nat} {n : Int} {loc : ab_M} {r : List ab_V} {h : ab_H} (ho : ab_st B M pc = ab_o_cpb nx) (ha : (ab_sh h)[a]? = some (3, m)) (hb : (ab_sh h)[b]? = some (3, m')) (hne : a ≠ b) (h0 : 0 ≤ n) (h1 : n ≤ (m : Int)) (h2 : n ≤ (m' : Int)) (hall : ∀ i : Nat, (i : Int) < n → -128 ≤ ab_gi h b i ∧ ab_gi h b i ≤ 127) (hr : ab_sum r ≤ 8) : ab_E B d M pc loc (.inl n :: .inl 0 :: .inr (.inr (.inl (some a))) :: .inl 0 :: .inr (.inr (.inl (some b))) :: r) h = ab_E B d M nx loc r (ab_fil h a (fun i => if 0 ≤ i ∧ i < n then ab_gi h b i else ab_gi h a i)) := by
  refine ab_E_j ho ?_
  have hq : (3 = 3 ∧ 3 = 3 ∧ a ≠ b ∧ (0 : Int) = 0 ∧ (0 : Int) = 0 ∧ 0 ≤ n ∧ n ≤ (m : Int) ∧ n ≤ (m' : Int) ∧ (List.range n.toNat).all (fun i => decide (-128 ≤ ab_gi h b i ∧ ab_gi h b i ≤ 127)) = true ∧ ab_sum r ≤ 8) := ⟨rfl, rfl, hne, rfl, rfl, h0, h1, h2, List.all_eq_true.mpr (fun i hi => decide_eq_true (hall i (by have := List.mem_range.mp hi; omega))), hr⟩
  have hs : ab_o_cpb nx loc (.inl n :: .inl 0 :: .inr (.inr (.inl (some a))) :: .inl 0 :: .inr (.inr (.inl (some b))) :: r) h = (match ab_bth (ab_sh h)[a]? (ab_sh h)[b]? with
    | some ((t, m), (t', m')) => if t = 3 ∧ t' = 3 ∧ a ≠ b ∧ (0 : Int) = 0 ∧ (0 : Int) = 0 ∧ 0 ≤ n ∧ n ≤ (m : Int) ∧ n ≤ (m' : Int) ∧ (List.range n.toNat).all (fun i => decide (-128 ≤ ab_gi h b i ∧ ab_gi h b i ≤ 127)) = true ∧ ab_sum r ≤ 8 then ab_j nx loc r (ab_fil h a (fun i => if 0 ≤ i ∧ i < n then ab_gi h b i else ab_gi h a i)) else ab_x
    | none => ab_x) := rfl
  rw [hs, ha, hb]
  exact if_pos hq
theorem ab_E_cret {d M pc : Nat} {loc : ab_M} {y : Int} {h : ab_H} (ho : ab_st B M pc = ab_o_cret) : ab_E B d M pc loc [.inl y] h = if 0 ≤ y ∧ y ≤ 127 then some (.inl (some (.inl y)), h) else none := ab_E_gr (c := 0 ≤ y ∧ y ≤ 127) ho rfl
theorem ab_E_iret {d M pc : Nat} {loc : ab_M} {y : Int} {h : ab_H} (ho : ab_st B M pc = ab_o_iret false) : ab_E B d M pc loc [.inl y] h = some (.inl (some (.inl y)), h) := ab_E_d ho (by unfold ab_o_iret; simp)
theorem ab_E_iretb {d M pc : Nat} {loc : ab_M} {y : Int} {h : ab_H} (ho : ab_st B M pc = ab_o_iret true) : ab_E B d M pc loc [.inl y] h = if y = 0 ∨ y = 1 then some (.inl (some (.inl y)), h) else none := (ab_E_gr (c := true = true → y = 0 ∨ y = 1) ho rfl).trans (by simp)
theorem ab_E_obj {d M pc nx a : Nat} {loc : ab_M} {r : List ab_V} {h : ab_H} (ho : ab_st B M pc = ab_o_obj nx) (hs : ab_sum r ≤ 8) : ab_E B d M pc loc (.inr (.inr (.inl (some a))) :: r) h = ab_E B d M nx loc r h := ab_E_j ho (by unfold ab_o_obj; simp [hs])
theorem ab_E_mx {d M pc nx : Nat} {f : Int → Int → Int} {loc : ab_M} {a b : Int} {r : List ab_V} {h : ab_H} (ho : ab_st B M pc = ab_o_mx f nx) (hs : ab_sum r ≤ 8) : ab_E B d M pc loc (.inl b :: .inl a :: r) h = ab_E B d M nx loc (.inl (f (ab_w a) (ab_w b)) :: r) h := ab_E_j ho (by unfold ab_o_mx; simp [hs])
theorem ab_E_thr {d M pc E : Nat} {loc : ab_M} {stk : List ab_V} {h : ab_H} (ho : ab_st B M pc = ab_o_throw E) (hs : ab_sum stk ≤ 8) : ab_E B d M pc loc stk h = some (.inr E, ab_cost h 1 6) := ab_E_d ho (by unfold ab_o_throw; simp [hs])
theorem ab_idiv_id {a b : Int} (h1 : 0 ≤ a) (h2 : a < 2147483648) (h3 : 0 < b) (h4 : b < 2147483648) : ab_idiv a b = a / b := by
  have ea : (Int32.ofInt a).toInt = a := Int32.toInt_ofInt_of_le (by omega) (by omega)
  have eb : (Int32.ofInt b).toInt = b := Int32.toInt_ofInt_of_le (by omega) (by omega)
  unfold ab_idiv
  rw [Int32.toInt_div, ea, eb, Int.tdiv_eq_ediv_of_nonneg h1]
  have q1 : 0 ≤ a / b := Int.ediv_nonneg h1 (by omega)
  have q2 : a / b ≤ a := Int.ediv_le_self b h1
  exact Int.bmod_eq_of_le (by omega) (by omega)
theorem ab_irem_id {a b : Int} (h1 : 0 ≤ a) (h2 : a < 2147483648) (h3 : 0 < b) (h4 : b < 2147483648) : ab_irem a b = a % b := by
  have e := ab_idiv_id h1 h2 h3 h4
  unfold ab_idiv at e
  have ed : Int32.ofInt a / Int32.ofInt b = Int32.ofInt (a / b) := by rw [← e, Int32.ofInt_toInt]
  unfold ab_irem
  rw [ed, ← Int32.ofInt_mul, ← Int32.ofInt_sub]
  have hm : a - a / b * b = a % b := by rw [Int.emod_def, Int.mul_comm]
  rw [hm]
  have q1 : 0 ≤ a % b := Int.emod_nonneg a (by omega)
  have q2 : a % b < b := Int.emod_lt_of_pos a h3
  exact Int32.toInt_ofInt_of_le (by omega) (by omega)
end
