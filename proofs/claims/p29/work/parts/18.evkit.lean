/-! EQUATIONS OF THE RUN -/
section
variable {B : ab_B}
noncomputable def ab_E (B : ab_B) (d M pc : Nat) (loc : ab_M) (stk : List ab_V) (h : ab_H) : Option ab_T := ab_ev (ab_st B) d M pc loc stk h
theorem ab_E_j {d M pc pc' : Nat} {op : ab_O} {loc loc' : ab_M} {stk stk' : List ab_V} {h h' : ab_H} (ho : ab_st B M pc = op) (hs : op loc stk h = ab_j pc' loc' stk' h') : ab_E B d M pc loc stk h = ab_E B d M pc' loc' stk' h' :=
  ab_ev_jump (ab_st B) (by rw [ho]; exact hs)
theorem ab_E_if {d M pc t n : Nat} {c : Prop} {hc : Decidable c} {op : ab_O} {loc loc' : ab_M} {stk stk' : List ab_V} {h h' : ab_H} (ho : ab_st B M pc = op) (hs : op loc stk h = ab_j (@ite _ c hc t n) loc' stk' h') : ab_E B d M pc loc stk h = @ite _ c hc (ab_E B d M t loc' stk' h') (ab_E B d M n loc' stk' h') := by
  rw [ab_E_j ho hs]
  by_cases h9 : c
  · rw [if_pos h9, if_pos h9]
  · rw [if_neg h9, if_neg h9]
theorem ab_E_g {d M pc pc' : Nat} {c : Prop} {hc : Decidable c} {op : ab_O} {loc loc' : ab_M} {stk stk' : List ab_V} {h h' : ab_H} (ho : ab_st B M pc = op) (hs : op loc stk h = @ite _ c hc (ab_j pc' loc' stk' h') ab_x) : ab_E B d M pc loc stk h = @ite _ c hc (ab_E B d M pc' loc' stk' h') none := by
  by_cases h9 : c
  · rw [if_pos h9] at hs ⊢; exact ab_E_j ho hs
  · rw [if_neg h9] at hs ⊢; exact ab_ev_done (ab_st B) (by rw [ho]; exact hs)
theorem ab_E_n {d M pc pc' : Nat} {c : Prop} {hc : Decidable c} {op : ab_O} {loc loc' : ab_M} {stk stk' : List ab_V} {h h' : ab_H} (ho : ab_st B M pc = op) (hs : op loc stk h = @ite _ c hc ab_x (ab_j pc' loc' stk' h')) : ab_E B d M pc loc stk h = @ite _ c hc none (ab_E B d M pc' loc' stk' h') := by
  by_cases h9 : c
  · rw [if_pos h9] at hs ⊢; exact ab_ev_done (ab_st B) (by rw [ho]; exact hs)
  · rw [if_neg h9] at hs ⊢; exact ab_E_j ho hs
theorem ab_E_d {d M pc : Nat} {op : ab_O} {loc : ab_M} {stk : List ab_V} {h : ab_H} {r : Option ab_T} (ho : ab_st B M pc = op) (hs : op loc stk h = .inl r) : ab_E B d M pc loc stk h = r :=
  ab_ev_done (ab_st B) (by rw [ho]; exact hs)
/-- an array's place z is there -/
def ab_gd (o : Option (Nat × Nat)) (t : Nat) (z : Int) (k : Option ab_T) : Option ab_T := match o with
  | some (t', n) => if t' = t ∧ 0 ≤ z ∧ z < (n : Int) then k else none
  | none => none
theorem ab_gd_some (t n : Nat) (z : Int) (k : Option ab_T) : ab_gd (some (t, n)) t z k = if 0 ≤ z ∧ z < (n : Int) then k else none := by simp [ab_gd]
def ab_gs (o : Option (Nat × Nat)) (t : Nat) (z v : Int) (k : Option ab_T) : Option ab_T := match o with
  | some (t', n) => if t' = t ∧ 0 ≤ z ∧ z < (n : Int) ∧ (t = 1 → v = 0 ∨ v = 1) then k else none
  | none => none
theorem ab_gs_0 (n : Nat) (z v : Int) (k : Option ab_T) : ab_gs (some (0, n)) 0 z v k = if 0 ≤ z ∧ z < (n : Int) then k else none := by simp [ab_gs]
theorem ab_gs_1 (n : Nat) (z v : Int) (k : Option ab_T) : ab_gs (some (1, n)) 1 z v k = if 0 ≤ z ∧ z < (n : Int) ∧ (v = 0 ∨ v = 1) then k else none := by simp [ab_gs]
theorem ab_E_xld {d M pc nx t a : Nat} {z : Int} {loc : ab_M} {r : List ab_V} {h : ab_H} (ho : ab_st B M pc = ab_o_xld t nx) : ab_E B d M pc loc (.inl z :: .inr (.inr (some a)) :: r) h = ab_gd (ab_sh h)[a]? t z (ab_E B d M nx loc (.inl (ab_gi h a z) :: r) h) := by
  have hs : ab_st B M pc loc (.inl z :: .inr (.inr (some a)) :: r) h = (match (ab_sh h)[a]? with
    | some (t', n) => if t' = t ∧ 0 ≤ z ∧ z < (n : Int) then ab_j nx loc (ab_I (ab_gi h a z) :: r) h else ab_x
    | none => ab_x) := by rw [ho]; rfl
  unfold ab_gd
  cases e : (ab_sh h)[a]? with
  | none => rw [e] at hs; exact ab_ev_done (ab_st B) hs
  | some s =>
    rw [e] at hs
    obtain ⟨t', n⟩ := s
    simp only at hs ⊢
    by_cases h9 : t' = t ∧ 0 ≤ z ∧ z < (n : Int)
    · rw [if_pos h9] at hs ⊢; exact ab_ev_jump (ab_st B) hs
    · rw [if_neg h9] at hs ⊢; exact ab_ev_done (ab_st B) hs
theorem ab_E_xst {d M pc nx t a : Nat} {z v : Int} {loc : ab_M} {r : List ab_V} {h : ab_H} (ho : ab_st B M pc = ab_o_xst t nx) : ab_E B d M pc loc (.inl v :: .inl z :: .inr (.inr (some a)) :: r) h = ab_gs (ab_sh h)[a]? t z v (ab_E B d M nx loc r (ab_si h a z v)) := by
  have hs : ab_st B M pc loc (.inl v :: .inl z :: .inr (.inr (some a)) :: r) h = (match (ab_sh h)[a]? with
    | some (t', n) => if t' = t ∧ 0 ≤ z ∧ z < (n : Int) ∧ (t = 1 → v = 0 ∨ v = 1) then ab_j nx loc r (ab_si h a z v) else ab_x
    | none => ab_x) := by rw [ho]; rfl
  unfold ab_gs
  cases e : (ab_sh h)[a]? with
  | none => rw [e] at hs; exact ab_ev_done (ab_st B) hs
  | some s =>
    rw [e] at hs
    obtain ⟨t', n⟩ := s
    simp only at hs ⊢
    by_cases h9 : t' = t ∧ 0 ≤ z ∧ z < (n : Int) ∧ (t = 1 → v = 0 ∨ v = 1)
    · rw [if_pos h9] at hs ⊢; exact ab_ev_jump (ab_st B) hs
    · rw [if_neg h9] at hs ⊢; exact ab_ev_done (ab_st B) hs
def ab_gl_ (o : Option (Nat × Nat)) (k : Int → Option ab_T) : Option ab_T := match o with
  | some (t, n) => if t < 2 then k n else none
  | none => none
theorem ab_gl_0 (n : Nat) (k : Int → Option ab_T) : ab_gl_ (some (0, n)) k = k n := rfl
theorem ab_gl_1 (n : Nat) (k : Int → Option ab_T) : ab_gl_ (some (1, n)) k = k n := rfl
theorem ab_E_alen {d M pc nx a : Nat} {loc : ab_M} {r : List ab_V} {h : ab_H} (ho : ab_st B M pc = ab_o_alen nx) : ab_E B d M pc loc (.inr (.inr (some a)) :: r) h = ab_gl_ (ab_sh h)[a]? (fun n => ab_E B d M nx loc (.inl n :: r) h) := by
  have hs : ab_st B M pc loc (.inr (.inr (some a)) :: r) h = (match (ab_sh h)[a]? with
    | some (t, n) => if t < 2 then ab_j nx loc (ab_I n :: r) h else ab_x
    | none => ab_x) := by rw [ho]; rfl
  unfold ab_gl_
  cases e : (ab_sh h)[a]? with
  | none => rw [e] at hs; exact ab_ev_done (ab_st B) hs
  | some s =>
    rw [e] at hs
    obtain ⟨t', n⟩ := s
    simp only at hs ⊢
    by_cases h9 : t' < 2
    · rw [if_pos h9] at hs ⊢; exact ab_ev_jump (ab_st B) hs
    · rw [if_neg h9] at hs ⊢; exact ab_ev_done (ab_st B) hs
/-- behind a call that answers -/
def ab_bv (r : Option ab_T) (k : ab_V → ab_H → Option ab_T) : Option ab_T := match r with
  | some (.inl (some x), h') => k x h'
  | some (.inr E, h') => some (.inr E, h')
  | _ => none
def ab_bu (r : Option ab_T) (k : ab_H → Option ab_T) : Option ab_T := match r with
  | some (.inl none, h') => k h'
  | some (.inr E, h') => some (.inr E, h')
  | _ => none
theorem ab_bv_some (x : ab_V) (h : ab_H) (k : ab_V → ab_H → Option ab_T) : ab_bv (some (.inl (some x), h)) k = k x h := rfl
theorem ab_bu_some (h : ab_H) (k : ab_H → Option ab_T) : ab_bu (some (.inl none, h)) k = k h := rfl
theorem ab_bv_thr (E : Nat) (h : ab_H) (k : ab_V → ab_H → Option ab_T) : ab_bv (some (.inr E, h)) k = some (.inr E, h) := rfl
theorem ab_bu_thr (E : Nat) (h : ab_H) (k : ab_H → Option ab_T) : ab_bu (some (.inr E, h)) k = some (.inr E, h) := rfl
theorem ab_go_v {d M nx : Nat} {loc : ab_M} {r : List ab_V} {o : Option ab_T} : ab_go (ab_st B) d M (ab_k [] true nx loc r) o = ab_bv o (fun x h' => ab_E B d M nx loc (x :: r) h') := by
  match o with
  | none => rfl
  | some (.inl (some x), h') => rfl
  | some (.inl none, h') => rfl
  | some (.inr E, h') => rfl
theorem ab_go_u {d M nx : Nat} {loc : ab_M} {r : List ab_V} {o : Option ab_T} : ab_go (ab_st B) d M (ab_k [] false nx loc r) o = ab_bu o (fun h' => ab_E B d M nx loc r h') := by
  match o with
  | none => rfl
  | some (.inl (some x), h') => rfl
  | some (.inl none, h') => rfl
  | some (.inr E, h') => rfl
theorem ab_E_cv {d M pc M' mL na nx a : Nat} {sh : Nat × Nat} {loc loc' : ab_M} {stk r as : List ab_V} {h : ab_H} (ho : ab_st B M pc = ab_o_call (some sh) [] M' mL na true nx) (hsp : ab_split na [] stk = some (.inr (.inr (some a)) :: as, r)) (hsum : ab_sum r ≤ 8) (hls : ab_lsz (.inr (.inr (some a)) :: as) ≤ mL) (hl : ab_ent mL (.inr (.inr (some a)) :: as) = loc') :
    ab_E B (d + 1) M pc loc stk h = if (ab_sh h)[a]? = some sh then ab_bv (ab_E B d M' 0 loc' [] h) (fun x h' => ab_E B (d + 1) M nx loc (x :: r) h') else none := by
  subst hl
  have hs : ab_st B M pc loc stk h = (if ab_sum r ≤ 8 ∧ ab_rc (some sh) (.inr (.inr (some a)) :: as) h = true ∧ ab_lsz (.inr (.inr (some a)) :: as) ≤ mL then .inr (.inr ((M', ab_ent mL (.inr (.inr (some a)) :: as), h), ab_k [] true nx loc r)) else ab_x) := by rw [ho]; unfold ab_o_call; rw [hsp]
  by_cases h9 : (ab_sh h)[a]? = some sh
  · rw [if_pos ⟨hsum, decide_eq_true h9, hls⟩] at hs
    rw [if_pos h9]
    exact (ab_ev_call (ab_st B) hs).trans ab_go_v
  · rw [if_neg (fun q => h9 (of_decide_eq_true q.2.1))] at hs
    rw [if_neg h9]
    exact ab_ev_done (ab_st B) hs
theorem ab_E_cu {d M pc M' mL na nx a : Nat} {sh : Nat × Nat} {loc loc' : ab_M} {stk r as : List ab_V} {h : ab_H} (ho : ab_st B M pc = ab_o_call (some sh) [] M' mL na false nx) (hsp : ab_split na [] stk = some (.inr (.inr (some a)) :: as, r)) (hsum : ab_sum r ≤ 8) (hls : ab_lsz (.inr (.inr (some a)) :: as) ≤ mL) (hl : ab_ent mL (.inr (.inr (some a)) :: as) = loc') :
    ab_E B (d + 1) M pc loc stk h = if (ab_sh h)[a]? = some sh then ab_bu (ab_E B d M' 0 loc' [] h) (fun h' => ab_E B (d + 1) M nx loc r h') else none := by
  subst hl
  have hs : ab_st B M pc loc stk h = (if ab_sum r ≤ 8 ∧ ab_rc (some sh) (.inr (.inr (some a)) :: as) h = true ∧ ab_lsz (.inr (.inr (some a)) :: as) ≤ mL then .inr (.inr ((M', ab_ent mL (.inr (.inr (some a)) :: as), h), ab_k [] false nx loc r)) else ab_x) := by rw [ho]; unfold ab_o_call; rw [hsp]
  by_cases h9 : (ab_sh h)[a]? = some sh
  · rw [if_pos ⟨hsum, decide_eq_true h9, hls⟩] at hs
    rw [if_pos h9]
    exact (ab_ev_call (ab_st B) hs).trans ab_go_u
  · rw [if_neg (fun q => h9 (of_decide_eq_true q.2.1))] at hs
    rw [if_neg h9]
    exact ab_ev_done (ab_st B) hs
theorem ab_E_sv {d M pc M' mL na nx : Nat} {loc loc' : ab_M} {stk r as : List ab_V} {h : ab_H} (ho : ab_st B M pc = ab_o_call none [] M' mL na true nx) (hsp : ab_split na [] stk = some (as, r)) (hsum : ab_sum r ≤ 8) (hls : ab_lsz as ≤ mL) (hl : ab_ent mL as = loc') :
    ab_E B (d + 1) M pc loc stk h = ab_bv (ab_E B d M' 0 loc' [] h) (fun x h' => ab_E B (d + 1) M nx loc (x :: r) h') := by
  subst hl
  have hs : ab_st B M pc loc stk h = (if ab_sum r ≤ 8 ∧ ab_rc none as h = true ∧ ab_lsz as ≤ mL then .inr (.inr ((M', ab_ent mL as, h), ab_k [] true nx loc r)) else ab_x) := by rw [ho]; unfold ab_o_call; rw [hsp]
  rw [if_pos ⟨hsum, rfl, hls⟩] at hs
  exact (ab_ev_call (ab_st B) hs).trans ab_go_v
/-- behind a call whose ISE is caught -/
def ab_bvh (r : Option ab_T) (k : ab_V → ab_H → Option ab_T) (kx : ab_H → Option ab_T) : Option ab_T := match r with
  | some (.inl (some x), h') => k x h'
  | some (.inr E, h') => if 3 = E then kx h' else none
  | _ => none
theorem ab_bvh_some (x : ab_V) (h : ab_H) (k : ab_V → ab_H → Option ab_T) (kx : ab_H → Option ab_T) : ab_bvh (some (.inl (some x), h)) k kx = k x h := rfl
theorem ab_bvh_thr (h : ab_H) (k : ab_V → ab_H → Option ab_T) (kx : ab_H → Option ab_T) : ab_bvh (some (.inr 3, h)) k kx = kx h := rfl
theorem ab_go_vh {d M nx pc i : Nat} {loc : ab_M} {r : List ab_V} {o : Option ab_T} : ab_go (ab_st B) d M (ab_k [(3, pc, i)] true nx loc r) o = ab_bvh o (fun x h' => ab_E B d M nx loc (x :: r) h') (fun h' => ab_E B d M pc (ab_set1 loc i none) [] h') := by
  match o with
  | none => rfl
  | some (.inl (some x), h') => rfl
  | some (.inl none, h') => rfl
  | some (.inr E, h') =>
    unfold ab_go ab_bvh ab_k
    by_cases e : 3 = E
    · simp only [if_pos e]; rfl
    · simp only [if_neg e]
theorem ab_E_cvh {d M pc M' mL na nx a px i : Nat} {sh : Nat × Nat} {loc loc' locx : ab_M} {stk r as : List ab_V} {h : ab_H} (ho : ab_st B M pc = ab_o_call (some sh) [(3, px, i)] M' mL na true nx) (hsp : ab_split na [] stk = some (.inr (.inr (some a)) :: as, r)) (hsum : ab_sum r ≤ 8) (hls : ab_lsz (.inr (.inr (some a)) :: as) ≤ mL) (hl : ab_ent mL (.inr (.inr (some a)) :: as) = loc') (hx : ab_set1 loc i none = locx) :
    ab_E B (d + 1) M pc loc stk h = if (ab_sh h)[a]? = some sh then ab_bvh (ab_E B d M' 0 loc' [] h) (fun x h' => ab_E B (d + 1) M nx loc (x :: r) h') (fun h' => ab_E B (d + 1) M px locx [] h') else none := by
  subst hl
  subst hx
  have hs : ab_st B M pc loc stk h = (if ab_sum r ≤ 8 ∧ ab_rc (some sh) (.inr (.inr (some a)) :: as) h = true ∧ ab_lsz (.inr (.inr (some a)) :: as) ≤ mL then .inr (.inr ((M', ab_ent mL (.inr (.inr (some a)) :: as), h), ab_k [(3, px, i)] true nx loc r)) else ab_x) := by rw [ho]; unfold ab_o_call; rw [hsp]
  by_cases h9 : (ab_sh h)[a]? = some sh
  · rw [if_pos ⟨hsum, decide_eq_true h9, hls⟩] at hs
    rw [if_pos h9]
    exact (ab_ev_call (ab_st B) hs).trans ab_go_vh
  · rw [if_neg (fun q => h9 (of_decide_eq_true q.2.1))] at hs
    rw [if_neg h9]
    exact ab_ev_done (ab_st B) hs
theorem ab_E_svh {d M pc M' mL na nx px i : Nat} {loc loc' locx : ab_M} {stk r as : List ab_V} {h : ab_H} (ho : ab_st B M pc = ab_o_call none [(3, px, i)] M' mL na true nx) (hsp : ab_split na [] stk = some (as, r)) (hsum : ab_sum r ≤ 8) (hls : ab_lsz as ≤ mL) (hl : ab_ent mL as = loc') (hx : ab_set1 loc i none = locx) :
    ab_E B (d + 1) M pc loc stk h = ab_bvh (ab_E B d M' 0 loc' [] h) (fun x h' => ab_E B (d + 1) M nx loc (x :: r) h') (fun h' => ab_E B (d + 1) M px locx [] h') := by
  subst hl
  subst hx
  have hs : ab_st B M pc loc stk h = (if ab_sum r ≤ 8 ∧ ab_rc none as h = true ∧ ab_lsz as ≤ mL then .inr (.inr ((M', ab_ent mL as, h), ab_k [(3, px, i)] true nx loc r)) else ab_x) := by rw [ho]; unfold ab_o_call; rw [hsp]
  rw [if_pos ⟨hsum, rfl, hls⟩] at hs
  exact (ab_ev_call (ab_st B) hs).trans ab_go_vh
theorem ab_E_slen {d M pc nx : Nat} {loc : ab_M} {r : List ab_V} {h : ab_H} (ho : ab_st B M pc = ab_o_slen B nx) : ab_E B d M pc loc (.inr (.inr none) :: r) h = ab_E B d M nx loc (.inl (B.2.1 : Int) :: r) h := ab_E_j ho rfl
theorem ab_E_sld {d M pc nx : Nat} {z : Int} {loc : ab_M} {r : List ab_V} {h : ab_H} (ho : ab_st B M pc = ab_o_sld B nx) : ab_E B d M pc loc (.inl z :: .inr (.inr none) :: r) h = if 0 ≤ z ∧ z < (B.2.1 : Int) ∧ z < 2147483648 then ab_E B d M nx loc (.inl (B.2.2 z.toNat).toInt :: r) h else none := ab_E_g ho rfl
theorem ab_E_gr {d M pc : Nat} {c : Prop} {hc : Decidable c} {op : ab_O} {loc : ab_M} {stk : List ab_V} {h : ab_H} {r : Option ab_T} (ho : ab_st B M pc = op) (hs : op loc stk h = @ite _ c hc (.inl r) ab_x) : ab_E B d M pc loc stk h = @ite _ c hc r none := by
  by_cases h9 : c
  · rw [if_pos h9] at hs ⊢; exact ab_E_d ho hs
  · rw [if_neg h9] at hs ⊢; exact ab_E_d ho hs
theorem ab_E_iret {d M pc : Nat} {loc : ab_M} {y : Int} {h : ab_H} (ho : ab_st B M pc = ab_o_iret false) : ab_E B d M pc loc [.inl y] h = some (.inl (some (.inl y)), h) := ab_E_d ho (by unfold ab_o_iret; simp)
theorem ab_E_iretb {d M pc : Nat} {loc : ab_M} {y : Int} {h : ab_H} (ho : ab_st B M pc = ab_o_iret true) : ab_E B d M pc loc [.inl y] h = if y = 0 ∨ y = 1 then some (.inl (some (.inl y)), h) else none := (ab_E_gr (c := true = true → y = 0 ∨ y = 1) ho rfl).trans (by simp)
theorem ab_E_obj {d M pc nx a : Nat} {loc : ab_M} {r : List ab_V} {h : ab_H} (ho : ab_st B M pc = ab_o_obj nx) (hs : ab_sum r ≤ 8) : ab_E B d M pc loc (.inr (.inr (some a)) :: r) h = ab_E B d M nx loc r h := ab_E_j ho (by unfold ab_o_obj; simp [hs])
theorem ab_E_mx {d M pc nx : Nat} {f : Int → Int → Int} {loc : ab_M} {a b : Int} {r : List ab_V} {h : ab_H} (ho : ab_st B M pc = ab_o_mx f nx) (hs : ab_sum r ≤ 8) : ab_E B d M pc loc (.inl b :: .inl a :: r) h = ab_E B d M nx loc (.inl (f (ab_w a) (ab_w b)) :: r) h := ab_E_j ho (by unfold ab_o_mx; simp [hs])
theorem ab_E_thr {d M pc E : Nat} {loc : ab_M} {stk : List ab_V} {h : ab_H} (ho : ab_st B M pc = ab_o_throw E) (hs : ab_sum stk ≤ 8) : ab_E B d M pc loc stk h = some (.inr E, ab_cost h 1 6) := ab_E_d ho (by unfold ab_o_throw; simp [hs])
theorem ab_idiv_id {a b : Int} (h1 : 0 ≤ a) (h2 : a < 2147483648) (h3 : 0 < b) (h4 : b < 2147483648) : ab_idiv a b = a / b := by
  have ea : (Int32.ofInt a).toInt = a := Int32.toInt_ofInt_of_le (by omega) (by omega)
  have eb : (Int32.ofInt b).toInt = b := Int32.toInt_ofInt_of_le (by omega) (by omega)
  unfold ab_idiv
  rw [Int32.toInt_div, ea, eb, Int.tdiv_eq_ediv_of_nonneg h1]
  have q1 : 0 ≤ a / b := Int.ediv_nonneg h1 (by omega)
  have q2 : a / b ≤ a := Int.ediv_le_self b h1
  exact Int.bmod_eq_of_le (by omega) (by omega)
theorem ab_irem_id {a b : Int} (h1 : 0 ≤ a) (h2 : a < 2147483648) (h3 : 0 < b) (h4 : b < 2147483648) : ab_irem a b = a % b := by
  have e := ab_idiv_id h1 h2 h3 h4
  unfold ab_idiv at e
  have ed : Int32.ofInt a / Int32.ofInt b = Int32.ofInt (a / b) := by rw [← e, Int32.ofInt_toInt]
  unfold ab_irem
  rw [ed, ← Int32.ofInt_mul, ← Int32.ofInt_sub]
  have hm : a - a / b * b = a % b := by rw [Int.emod_def, Int.mul_comm]
  rw [hm]
  have q1 : 0 ≤ a % b := Int.emod_nonneg a (by omega)
  have q2 : a % b < b := Int.emod_lt_of_pos a h3
  exact Int32.toInt_ofInt_of_le (by omega) (by omega)
end
