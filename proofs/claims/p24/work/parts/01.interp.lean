set_option linter.all false
/-! AN ABSTRACT MACHINE: ints are numbers, references are numbers of cells in the order in which they were made. -/
/-- the script: where it lies, how long it is, its numbers; where the texts of one letter lie, and their letters -/
abbrev ab_B : Type := Nat × Nat × (Nat → Int32) × (Nat → Nat) × (Nat → Nat)
/-- ints, longs, references to cells (none: null), references to what was there before: 0 the script, 2 i + 1 a text, 2 i + 2 its letters -/
abbrev ab_V : Type := Int ⊕ (Int64 ⊕ (Option Nat ⊕ Nat))
abbrev ab_I (z : Int) : ab_V := .inl z
abbrev ab_L (x : Int64) : ab_V := .inr (.inl x)
abbrev ab_Q (o : Option Nat) : ab_V := .inr (.inr (.inl o))
abbrev ab_Z (k : Nat) : ab_V := .inr (.inr (.inr k))
/-- ints, references, longs by cell and place; each cell's kind and length; cells and slots made so far -/
abbrev ab_H : Type := (Nat → Int → Int) × (Nat → Int → Option Nat) × (Nat → Int → Int64) × List (Nat × Nat) × Nat × Nat
def ab_gi (h : ab_H) : Nat → Int → Int := h.1
def ab_gr (h : ab_H) : Nat → Int → Option Nat := h.2.1
def ab_gl (h : ab_H) : Nat → Int → Int64 := h.2.2.1
def ab_sh (h : ab_H) : List (Nat × Nat) := h.2.2.2.1
def ab_kc (h : ab_H) : Nat := h.2.2.2.2.1
def ab_ks (h : ab_H) : Nat := h.2.2.2.2.2
def ab_n (h : ab_H) : Nat := (ab_sh h).length
def ab_si (h : ab_H) (c : Nat) (k v : Int) : ab_H := (fun c' k' => if c' = c ∧ k' = k then v else h.1 c' k', h.2)
def ab_sr (h : ab_H) (c : Nat) (k : Int) (v : Option Nat) : ab_H := (h.1, fun c' k' => if c' = c ∧ k' = k then v else h.2.1 c' k', h.2.2)
def ab_sl (h : ab_H) (c : Nat) (k : Int) (v : Int64) : ab_H := (h.1, h.2.1, fun c' k' => if c' = c ∧ k' = k then v else h.2.2.1 c' k', h.2.2.2)
/-- a new cell of kind t and length len, all 0 -/
def ab_new (h : ab_H) (t len : Nat) : ab_H := (fun c k => if c = ab_n h then 0 else h.1 c k, fun c k => if c = ab_n h then none else h.2.1 c k, fun c k => if c = ab_n h then 0 else h.2.2.1 c k, h.2.2.2.1 ++ [(t, len)], h.2.2.2.2.1 + 1, h.2.2.2.2.2 + len)
/-- c cells of s slots that nobody looks at -/
def ab_cost (h : ab_H) (c s : Nat) : ab_H := (h.1, h.2.1, h.2.2.1, h.2.2.2.1, h.2.2.2.2.1 + c, h.2.2.2.2.2 + s)
/-- the same cell, from now on with f, g as its contents -/
def ab_fil (h : ab_H) (c : Nat) (f : Int → Int) : ab_H := (fun c' k => if c' = c then f k else h.1 c' k, h.2)
theorem ab_gi_si (h : ab_H) (c c' : Nat) (k k' v : Int) : ab_gi (ab_si h c k v) c' k' = if c' = c ∧ k' = k then v else ab_gi h c' k' := rfl
theorem ab_gr_si (h : ab_H) (c : Nat) (k v : Int) : ab_gr (ab_si h c k v) = ab_gr h := rfl
theorem ab_gl_si (h : ab_H) (c : Nat) (k v : Int) : ab_gl (ab_si h c k v) = ab_gl h := rfl
theorem ab_sh_si (h : ab_H) (c : Nat) (k v : Int) : ab_sh (ab_si h c k v) = ab_sh h := rfl
theorem ab_kc_si (h : ab_H) (c : Nat) (k v : Int) : ab_kc (ab_si h c k v) = ab_kc h := rfl
theorem ab_ks_si (h : ab_H) (c : Nat) (k v : Int) : ab_ks (ab_si h c k v) = ab_ks h := rfl
theorem ab_gi_sr (h : ab_H) (c : Nat) (k : Int) (v : Option Nat) : ab_gi (ab_sr h c k v) = ab_gi h := rfl
theorem ab_gr_sr (h : ab_H) (c c' : Nat) (k k' : Int) (v : Option Nat) : ab_gr (ab_sr h c k v) c' k' = if c' = c ∧ k' = k then v else ab_gr h c' k' := rfl
theorem ab_gl_sr (h : ab_H) (c : Nat) (k : Int) (v : Option Nat) : ab_gl (ab_sr h c k v) = ab_gl h := rfl
theorem ab_sh_sr (h : ab_H) (c : Nat) (k : Int) (v : Option Nat) : ab_sh (ab_sr h c k v) = ab_sh h := rfl
theorem ab_kc_sr (h : ab_H) (c : Nat) (k : Int) (v : Option Nat) : ab_kc (ab_sr h c k v) = ab_kc h := rfl
theorem ab_ks_sr (h : ab_H) (c : Nat) (k : Int) (v : Option Nat) : ab_ks (ab_sr h c k v) = ab_ks h := rfl
theorem ab_gi_sl (h : ab_H) (c : Nat) (k : Int) (v : Int64) : ab_gi (ab_sl h c k v) = ab_gi h := rfl
theorem ab_gr_sl (h : ab_H) (c : Nat) (k : Int) (v : Int64) : ab_gr (ab_sl h c k v) = ab_gr h := rfl
theorem ab_gl_sl (h : ab_H) (c c' : Nat) (k k' : Int) (v : Int64) : ab_gl (ab_sl h c k v) c' k' = if c' = c ∧ k' = k then v else ab_gl h c' k' := rfl
theorem ab_sh_sl (h : ab_H) (c : Nat) (k : Int) (v : Int64) : ab_sh (ab_sl h c k v) = ab_sh h := rfl
theorem ab_kc_sl (h : ab_H) (c : Nat) (k : Int) (v : Int64) : ab_kc (ab_sl h c k v) = ab_kc h := rfl
theorem ab_ks_sl (h : ab_H) (c : Nat) (k : Int) (v : Int64) : ab_ks (ab_sl h c k v) = ab_ks h := rfl
theorem ab_gi_new (h : ab_H) (t len c : Nat) (k : Int) : ab_gi (ab_new h t len) c k = if c = ab_n h then 0 else ab_gi h c k := rfl
theorem ab_gr_new (h : ab_H) (t len c : Nat) (k : Int) : ab_gr (ab_new h t len) c k = if c = ab_n h then none else ab_gr h c k := rfl
theorem ab_gl_new (h : ab_H) (t len c : Nat) (k : Int) : ab_gl (ab_new h t len) c k = if c = ab_n h then 0 else ab_gl h c k := rfl
theorem ab_sh_new (h : ab_H) (t len : Nat) : ab_sh (ab_new h t len) = ab_sh h ++ [(t, len)] := rfl
theorem ab_kc_new (h : ab_H) (t len : Nat) : ab_kc (ab_new h t len) = ab_kc h + 1 := rfl
theorem ab_ks_new (h : ab_H) (t len : Nat) : ab_ks (ab_new h t len) = ab_ks h + len := rfl
theorem ab_gi_cost (h : ab_H) (c s : Nat) : ab_gi (ab_cost h c s) = ab_gi h := rfl
theorem ab_gr_cost (h : ab_H) (c s : Nat) : ab_gr (ab_cost h c s) = ab_gr h := rfl
theorem ab_gl_cost (h : ab_H) (c s : Nat) : ab_gl (ab_cost h c s) = ab_gl h := rfl
theorem ab_sh_cost (h : ab_H) (c s : Nat) : ab_sh (ab_cost h c s) = ab_sh h := rfl
theorem ab_kc_cost (h : ab_H) (c s : Nat) : ab_kc (ab_cost h c s) = ab_kc h + c := rfl
theorem ab_ks_cost (h : ab_H) (c s : Nat) : ab_ks (ab_cost h c s) = ab_ks h + s := rfl
theorem ab_gi_fil (h : ab_H) (c c' : Nat) (f : Int → Int) (k : Int) : ab_gi (ab_fil h c f) c' k = if c' = c then f k else ab_gi h c' k := rfl
theorem ab_gr_fil (h : ab_H) (c : Nat) (f : Int → Int) : ab_gr (ab_fil h c f) = ab_gr h := rfl
theorem ab_gl_fil (h : ab_H) (c : Nat) (f : Int → Int) : ab_gl (ab_fil h c f) = ab_gl h := rfl
theorem ab_sh_fil (h : ab_H) (c : Nat) (f : Int → Int) : ab_sh (ab_fil h c f) = ab_sh h := rfl
theorem ab_kc_fil (h : ab_H) (c : Nat) (f : Int → Int) : ab_kc (ab_fil h c f) = ab_kc h := rfl
theorem ab_ks_fil (h : ab_H) (c : Nat) (f : Int → Int) : ab_ks (ab_fil h c f) = ab_ks h := rfl
/-- a 32-bit number's value -/
def ab_w (z : Int) : Int := (Int32.ofInt z).toInt
theorem ab_w_id {z : Int} (h1 : -2147483648 ≤ z) (h2 : z < 2147483648) : ab_w z = z := Int32.toInt_ofInt_of_le h1 (by omega)
theorem ab_w_of (x : Int32) : ab_w x.toInt = x.toInt := by rw [ab_w, Int32.ofInt_toInt]
abbrev ab_M : Type := List (Option ab_V)
/-- a place in a method: pc, locals, stack, heap -/
abbrev ab_S : Type := Nat × ab_M × List ab_V × ab_H
/-- a result: what is returned, or the class that is thrown; the heap -/
abbrev ab_T : Type := (Option ab_V ⊕ Nat) × ab_H
abbrev ab_P : Type := Option ab_T ⊕ (ab_S ⊕ ((Nat × ab_M × ab_H) × (ab_T → Option (ab_T ⊕ ab_S))))
abbrev ab_O : Type := ab_M → List ab_V → ab_H → ab_P
abbrev ab_j (pc : Nat) (loc : ab_M) (stk : List ab_V) (h : ab_H) : ab_P := .inr (.inl (pc, loc, stk, h))
abbrev ab_x : ab_P := .inl none
/-- a local that is overwritten from behind: a long is lost -/
def ab_fx : Option ab_V → Option ab_V
  | some (.inr (.inl _)) => none
  | x => x
theorem ab_fx_n : ab_fx none = none := rfl
theorem ab_fx_i (z : Int) : ab_fx (some (.inl z)) = some (.inl z) := rfl
theorem ab_fx_q (o : Option Nat ⊕ Nat) : ab_fx (some (.inr (.inr o))) = some (.inr (.inr o)) := rfl
theorem ab_fx_l (x : Int64) : ab_fx (some (.inr (.inl x))) = none := rfl
def ab_set1 (l : ab_M) (i : Nat) (v : Option ab_V) : ab_M := match i with
  | 0 => l.set 0 v
  | j + 1 => (l.set (j + 1) v).modify j ab_fx
def ab_set2 (l : ab_M) (i : Nat) (v : Option ab_V) : ab_M := match i with
  | 0 => (l.set 0 v).set 1 none
  | j + 1 => ((l.set (j + 1) v).set (j + 2) none).modify j ab_fx
def ab_lg : ab_V → Bool
  | .inr (.inl _) => true
  | _ => false
def ab_sum (l : List ab_V) : Nat := (l.map (fun v => if ab_lg v then 2 else 1)).sum
def ab_o_const (z : Int) (nx : Nat) : ab_O := fun loc stk h => ab_j nx loc (ab_I z :: stk) h
def ab_o_lconst (x : Int64) (nx : Nat) : ab_O := fun loc stk h => ab_j nx loc (ab_L x :: stk) h
def ab_o_null (nx : Nat) : ab_O := fun loc stk h => ab_j nx loc (ab_Q none :: stk) h
def ab_o_ild (k nx : Nat) : ab_O := fun loc stk h => match loc[k]? with
  | some (some (.inl z)) => ab_j nx loc (ab_I z :: stk) h
  | _ => ab_x
def ab_o_lld (k nx : Nat) : ab_O := fun loc stk h => match loc[k]? with
  | some (some (.inr (.inl x))) => ab_j nx loc (ab_L x :: stk) h
  | _ => ab_x
def ab_o_ald (k nx : Nat) : ab_O := fun loc stk h => match loc[k]? with
  | some (some (.inr (.inr o))) => ab_j nx loc (.inr (.inr o) :: stk) h
  | _ => ab_x
def ab_o_ist (k nx : Nat) : ab_O := fun loc stk h => match stk with
  | .inl z :: r => if k < loc.length then ab_j nx (ab_set1 loc k (some (ab_I z))) r h else ab_x
  | _ => ab_x
def ab_o_lst (k nx : Nat) : ab_O := fun loc stk h => match stk with
  | .inr (.inl x) :: r => if k + 1 < loc.length then ab_j nx (ab_set2 loc k (some (ab_L x))) r h else ab_x
  | _ => ab_x
def ab_o_ast (k nx : Nat) : ab_O := fun loc stk h => match stk with
  | .inr (.inr o) :: r => if k < loc.length then ab_j nx (ab_set1 loc k (some (.inr (.inr o)))) r h else ab_x
  | _ => ab_x
def ab_o_inc (k : Nat) (c : Int) (nx : Nat) : ab_O := fun loc stk h => match loc[k]? with
  | some (some (.inl z)) => ab_j nx (ab_set1 loc k (some (ab_I (z + c)))) stk h
  | _ => ab_x
def ab_o_bin (f : Int → Int → Int) (nx : Nat) : ab_O := fun loc stk h => match stk with
  | .inl b :: .inl a :: r => ab_j nx loc (ab_I (f a b) :: r) h
  | _ => ab_x
def ab_o_div (f : Int → Int → Int) (nx : Nat) : ab_O := fun loc stk h => match stk with
  | .inl b :: .inl a :: r => if ab_w b = 0 then ab_x else ab_j nx loc (ab_I (f a b) :: r) h
  | _ => ab_x
def ab_o_i2l (nx : Nat) : ab_O := fun loc stk h => match stk with
  | .inl a :: r => ab_j nx loc (ab_L (Int32.ofInt a).toInt64 :: r) h
  | _ => ab_x
def ab_o_lbin (f : Int64 → Int64 → Int64) (nx : Nat) : ab_O := fun loc stk h => match stk with
  | .inr (.inl b) :: .inr (.inl a) :: r => ab_j nx loc (ab_L (f a b) :: r) h
  | _ => ab_x
def ab_cmp (a b : Int64) : Int := if b < a then 1 else if a = b then 0 else -1
def ab_o_lcmp (nx : Nat) : ab_O := fun loc stk h => match stk with
  | .inr (.inl b) :: .inr (.inl a) :: r => ab_j nx loc (ab_I (ab_cmp a b) :: r) h
  | _ => ab_x
def ab_o_dup (nx : Nat) : ab_O := fun loc stk h => match stk with
  | v :: r => if ab_lg v then ab_x else ab_j nx loc (v :: v :: r) h
  | _ => ab_x
def ab_o_dup2 (nx : Nat) : ab_O := fun loc stk h => match stk with
  | v :: w :: r => if ab_lg v || ab_lg w then ab_x else ab_j nx loc (v :: w :: v :: w :: r) h
  | _ => ab_x
def ab_o_dupx1 (nx : Nat) : ab_O := fun loc stk h => match stk with
  | v :: w :: r => if ab_lg v || ab_lg w then ab_x else ab_j nx loc (v :: w :: v :: r) h
  | _ => ab_x
def ab_o_pop (nx : Nat) : ab_O := fun loc stk h => match stk with
  | v :: r => if ab_lg v then ab_x else ab_j nx loc r h
  | _ => ab_x
def ab_o_pop2 (nx : Nat) : ab_O := fun loc stk h => match stk with
  | .inr (.inl _) :: r => ab_j nx loc r h
  | _ => ab_x
/-- which of the six comparisons -/
def ab_o_if (c : Int → Int → Bool) (tg nx : Nat) : ab_O := fun loc stk h => match stk with
  | .inl a :: r => ab_j (if c (ab_w a) 0 then tg else nx) loc r h
  | _ => ab_x
def ab_o_icmp (c : Int → Int → Bool) (tg nx : Nat) : ab_O := fun loc stk h => match stk with
  | .inl b :: .inl a :: r => ab_j (if c (ab_w a) (ab_w b) then tg else nx) loc r h
  | _ => ab_x
/-- ifnull, ifnonnull -/
def ab_o_ifn (isNull : Bool) (tg nx : Nat) : ab_O := fun loc stk h => match stk with
  | .inr (.inr (.inl o)) :: r => ab_j (if o.isNone = isNull then tg else nx) loc r h
  | .inr (.inr (.inr _)) :: r => ab_j (if false = isNull then tg else nx) loc r h
  | _ => ab_x
def ab_o_goto (tg : Nat) : ab_O := fun loc stk h => ab_j tg loc stk h
def ab_o_sw (lo : Int) (tgs : List Nat) (df : Nat) : ab_O := fun loc stk h => match stk with
  | .inl a :: r => ab_j (if lo ≤ ab_w a ∧ ab_w a < lo + tgs.length then tgs.getD (ab_w a - lo).toNat df else df) loc r h
  | _ => ab_x
def ab_o_geti (t N : Nat) (k : Nat) (nx : Nat) : ab_O := fun loc stk h => match stk with
  | .inr (.inr (.inl (some a))) :: r => if (ab_sh h)[a]? = some (t, N) then ab_j nx loc (ab_I (ab_gi h a k) :: r) h else ab_x
  | _ => ab_x
def ab_o_getr (t N : Nat) (k : Nat) (nx : Nat) : ab_O := fun loc stk h => match stk with
  | .inr (.inr (.inl (some a))) :: r => if (ab_sh h)[a]? = some (t, N) then ab_j nx loc (ab_Q (ab_gr h a k) :: r) h else ab_x
  | _ => ab_x
def ab_o_getl (t N : Nat) (k : Nat) (nx : Nat) : ab_O := fun loc stk h => match stk with
  | .inr (.inr (.inl (some a))) :: r => if (ab_sh h)[a]? = some (t, N) then ab_j nx loc (ab_L (ab_gl h a k) :: r) h else ab_x
  | _ => ab_x
/-- b: a boolean -/
def ab_o_puti (t N : Nat) (k : Nat) (b : Bool) (nx : Nat) : ab_O := fun loc stk h => match stk with
  | .inl v :: .inr (.inr (.inl (some a))) :: r => if (ab_sh h)[a]? = some (t, N) ∧ (b = true → v = 0 ∨ v = 1) then ab_j nx loc r (ab_si h a k v) else ab_x
  | _ => ab_x
def ab_o_putr (t N : Nat) (k : Nat) (nx : Nat) : ab_O := fun loc stk h => match stk with
  | .inr (.inr (.inl o)) :: .inr (.inr (.inl (some a))) :: r => if (ab_sh h)[a]? = some (t, N) then ab_j nx loc r (ab_sr h a k o) else ab_x
  | _ => ab_x
def ab_o_putl (t N : Nat) (k : Nat) (nx : Nat) : ab_O := fun loc stk h => match stk with
  | .inr (.inl x) :: .inr (.inr (.inl (some a))) :: r => if (ab_sh h)[a]? = some (t, N) then ab_j nx loc r (ab_sl h a k x) else ab_x
  | _ => ab_x
/-- kinds: 0 int[], 1 boolean[], 2 int[][], 3 byte[], 4 and on objects -/
def ab_o_xld (t : Nat) (nx : Nat) : ab_O := fun loc stk h => match stk with
  | .inl z :: .inr (.inr (.inl (some a))) :: r => match (ab_sh h)[a]? with
    | some (t', n) => if t' = t ∧ 0 ≤ z ∧ z < (n : Int) then ab_j nx loc (ab_I (ab_gi h a z) :: r) h else ab_x
    | none => ab_x
  | _ => ab_x
def ab_o_xst (t : Nat) (nx : Nat) : ab_O := fun loc stk h => match stk with
  | .inl v :: .inl z :: .inr (.inr (.inl (some a))) :: r => match (ab_sh h)[a]? with
    | some (t', n) => if t' = t ∧ 0 ≤ z ∧ z < (n : Int) ∧ (t = 1 → v = 0 ∨ v = 1) ∧ (t = 3 → -128 ≤ v ∧ v ≤ 127) then ab_j nx loc r (ab_si h a z v) else ab_x
    | none => ab_x
  | _ => ab_x
def ab_o_alen (nx : Nat) : ab_O := fun loc stk h => match stk with
  | .inr (.inr (.inl (some a))) :: r => match (ab_sh h)[a]? with
    | some (t, n) => if t < 4 then ab_j nx loc (ab_I n :: r) h else ab_x
    | none => ab_x
  | _ => ab_x
/-- the script's length, and a number of it -/
def ab_o_slen (B : ab_B) (nx : Nat) : ab_O := fun loc stk h => match stk with
  | .inr (.inr (.inr 0)) :: r => ab_j nx loc (ab_I (B.2.1 : Int) :: r) h
  | _ => ab_x
def ab_o_sld (B : ab_B) (nx : Nat) : ab_O := fun loc stk h => match stk with
  | .inl z :: .inr (.inr (.inr 0)) :: r => if 0 ≤ z ∧ z < (B.2.1 : Int) ∧ z < 2147483648 then ab_j nx loc (ab_I (B.2.2.1 z.toNat).toInt :: r) h else ab_x
  | _ => ab_x
def ab_o_aald (nx : Nat) : ab_O := fun loc stk h => match stk with
  | .inl z :: .inr (.inr (.inl (some a))) :: r => match (ab_sh h)[a]? with
    | some (t', n) => if t' = 2 ∧ 0 ≤ z ∧ z < (n : Int) then ab_j nx loc (ab_Q (ab_gr h a z) :: r) h else ab_x
    | none => ab_x
  | _ => ab_x
def ab_o_aast (nx : Nat) : ab_O := fun loc stk h => match stk with
  | .inr (.inr (.inl (some b))) :: .inl z :: .inr (.inr (.inl (some a))) :: r => match (ab_sh h)[a]? with
    | some (t', n) => if t' = 2 ∧ ((ab_sh h)[b]?).map Prod.fst = some 0 ∧ 0 ≤ z ∧ z < (n : Int) then ab_j nx loc r (ab_sr h a z (some b)) else ab_x
    | none => ab_x
  | _ => ab_x
/-- new int[n][k]: the outer row, then the inner ones -/
def ab_mna (h : ab_H) (n k : Nat) : ab_H :=
  (fun c i => if ab_n h ≤ c ∧ c ≤ ab_n h + n then 0 else h.1 c i,
   fun c i => if c = ab_n h then (if 0 ≤ i ∧ i < (n : Int) then some (ab_n h + 1 + i.toNat) else none) else if ab_n h < c ∧ c ≤ ab_n h + n then none else h.2.1 c i,
   fun c i => if ab_n h ≤ c ∧ c ≤ ab_n h + n then 0 else h.2.2.1 c i,
   h.2.2.2.1 ++ ((2, n) :: List.replicate n (0, k)), h.2.2.2.2.1 + 1 + n, h.2.2.2.2.2 + n + n * k)
def ab_o_mna (nx : Nat) : ab_O := fun loc stk h => match stk with
  | .inl k :: .inl n :: r => if 0 ≤ n ∧ n ≤ 1000 ∧ 0 ≤ k ∧ k ≤ 1000 then ab_j nx loc (ab_Q (some (ab_n h)) :: r) (ab_mna h n.toNat k.toNat) else ab_x
  | _ => ab_x
/-- new int[n][] -/
def ab_o_newq (nx : Nat) : ab_O := fun loc stk h => match stk with
  | .inl z :: r => if 0 ≤ z ∧ z ≤ 100000 then ab_j nx loc (ab_Q (some (ab_n h)) :: r) (ab_new h 2 z.toNat) else ab_x
  | _ => ab_x
/-- the clone of an int[], and the cast of it behind -/
def ab_o_clone (nx : Nat) : ab_O := fun loc stk h => match stk with
  | .inr (.inr (.inl (some a))) :: r => match (ab_sh h)[a]? with
    | some (t, n) => if t = 0 ∧ n ≤ 100000 ∧ ab_sum r ≤ 8 then ab_j nx loc (ab_Q (some (ab_n h)) :: r) (ab_fil (ab_new h 0 n) (ab_n h) (ab_gi h a)) else ab_x
    | none => ab_x
  | _ => ab_x
def ab_o_cast (nx : Nat) : ab_O := fun loc stk h => match stk with
  | .inr (.inr (.inl (some a))) :: r => match (ab_sh h)[a]? with
    | some (t, _) => if t = 0 then ab_j nx loc (ab_Q (some a) :: r) h else ab_x
    | none => ab_x
  | _ => ab_x
def ab_i2b (a : Int) : Int := (Int32.ofInt a).toInt8.toInt
def ab_o_i2b (nx : Nat) : ab_O := fun loc stk h => match stk with
  | .inl a :: r => ab_j nx loc (ab_I (ab_i2b a) :: r) h
  | _ => ab_x
/-- a text of one letter, number i; its fields -/
def ab_o_txt (i nx : Nat) : ab_O := fun loc stk h => ab_j nx loc (ab_Z (2 * i + 1) :: stk) h
def ab_o_txv (N nx : Nat) : ab_O := fun loc stk h => match stk with
  | .inr (.inr (.inr k)) :: r => if k % 2 = 1 ∧ k < 2 * N then ab_j nx loc (ab_Z (k + 1) :: r) h else ab_x
  | _ => ab_x
def ab_o_txc (N nx : Nat) : ab_O := fun loc stk h => match stk with
  | .inr (.inr (.inr k)) :: r => if k % 2 = 1 ∧ k < 2 * N then ab_j nx loc (ab_I 0 :: r) h else ab_x
  | _ => ab_x
def ab_o_txn (N nx : Nat) : ab_O := fun loc stk h => match stk with
  | .inr (.inr (.inr k)) :: r => if k % 2 = 0 ∧ 1 < k ∧ k ≤ 2 * N then ab_j nx loc (ab_I 1 :: r) h else ab_x
  | _ => ab_x
/-- the byte that the text of the number i is -/
def ab_tx (i : Nat) : Int := ([120, 63, 43, 46] : List Int).getD i 0
/-- System.arraycopy of letters: from a text (0, one letter), from a byte[] -/
def ab_o_cpt (N nx : Nat) : ab_O := fun loc stk h => match stk with
  | .inl n :: .inl dp :: .inr (.inr (.inl (some a))) :: .inl sp :: .inr (.inr (.inr k)) :: r => match (ab_sh h)[a]? with
    | some (t, m) => if t = 3 ∧ n = 1 ∧ sp = 0 ∧ 0 ≤ dp ∧ dp < (m : Int) ∧ (k % 2 = 0 ∧ 1 < k ∧ k ≤ 2 * N) ∧ ab_sum r ≤ 8 then ab_j nx loc r (ab_si h a dp (ab_tx ((k - 2) / 2))) else ab_x
    | none => ab_x
  | _ => ab_x
/-- both are there -/
def ab_bth {α : Type} (x y : Option α) : Option (α × α) := x.bind fun a => y.map fun b => (a, b)
def ab_o_cpb (nx : Nat) : ab_O := fun loc stk h => match stk with
  | .inl n :: .inl dp :: .inr (.inr (.inl (some a))) :: .inl sp :: .inr (.inr (.inl (some b))) :: r => match ab_bth (ab_sh h)[a]? (ab_sh h)[b]? with
    | some ((t, m), (t', m')) => if t = 3 ∧ t' = 3 ∧ a ≠ b ∧ dp = 0 ∧ sp = 0 ∧ 0 ≤ n ∧ n ≤ (m : Int) ∧ n ≤ (m' : Int) ∧ (List.range n.toNat).all (fun i => decide (-128 ≤ ab_gi h b i ∧ ab_gi h b i ≤ 127)) = true ∧ ab_sum r ≤ 8 then ab_j nx loc r (ab_fil h a (fun i => if 0 ≤ i ∧ i < n then ab_gi h b i else ab_gi h a i)) else ab_x
    | none => ab_x
  | _ => ab_x
/-- the end of a method that gives a char -/
def ab_o_cret : ab_O := fun _ stk h => match stk with
  | [.inl v] => if 0 ≤ v ∧ v ≤ 127 then .inl (some (.inl (some (ab_I v)), h)) else ab_x
  | _ => ab_x
def ab_o_newa (t : Nat) (nx : Nat) : ab_O := fun loc stk h => match stk with
  | .inl z :: r => if 0 ≤ z ∧ z ≤ 100000 then ab_j nx loc (ab_Q (some (ab_n h)) :: r) (ab_new h t z.toNat) else ab_x
  | _ => ab_x
def ab_o_new (t N : Nat) (nx : Nat) : ab_O := fun loc stk h => ab_j nx loc (ab_Q (some (ab_n h)) :: stk) (ab_new h t N)
def ab_o_mx (f : Int → Int → Int) (nx : Nat) : ab_O := fun loc stk h => match stk with
  | .inl b :: .inl a :: r => if ab_sum r ≤ 8 then ab_j nx loc (ab_I (f (ab_w a) (ab_w b)) :: r) h else ab_x
  | _ => ab_x
def ab_o_iret (b : Bool) : ab_O := fun _ stk h => match stk with
  | [.inl v] => if b = true → v = 0 ∨ v = 1 then .inl (some (.inl (some (ab_I v)), h)) else ab_x
  | _ => ab_x
def ab_o_lret : ab_O := fun _ stk h => match stk with
  | [.inr (.inl x)] => .inl (some (.inl (some (ab_L x)), h))
  | _ => ab_x
def ab_o_aret : ab_O := fun _ stk h => match stk with
  | [.inr (.inr o)] => .inl (some (.inl (some (.inr (.inr o))), h))
  | _ => ab_x
def ab_o_ret : ab_O := fun _ stk h => match stk with
  | [] => .inl (some (.inl none, h))
  | _ => ab_x
def ab_o_throw (E : Nat) : ab_O := fun _ stk h => if ab_sum stk ≤ 8 then .inl (some (.inr E, ab_cost h 1 6)) else ab_x
/-- the locals at a method's start -/
def ab_ent : Nat → List ab_V → ab_M
  | n, [] => List.replicate n none
  | n, v :: l => if ab_lg v then some v :: none :: ab_ent (n - 2) l else some v :: ab_ent (n - 1) l
def ab_pick (hs : List (Nat × Nat × Nat)) (E : Nat) : Option (Nat × Nat) := (hs.find? (fun q => q.1 == E)).map (fun q => q.2)
/-- what follows a call: the value if there is one; a handler of the rows hs (class, pc behind its store, the local stored), or on -/
def ab_k (hs : List (Nat × Nat × Nat)) (v : Bool) (nx : Nat) (loc : ab_M) (r : List ab_V) : ab_T → Option (ab_T ⊕ ab_S)
  | (.inl (some x), h) => if v then some (.inr (nx, loc, x :: r, h)) else none
  | (.inl none, h) => if v then none else some (.inr (nx, loc, r, h))
  | (.inr E, h) => match hs with
    | [] => some (.inl (.inr E, h))
    | _ => match ab_pick hs E with
      | some (pc, i) => some (.inr (pc, ab_set1 loc i none, [], h))
      | none => none
def ab_split : Nat → List ab_V → List ab_V → Option (List ab_V × List ab_V)
  | 0, acc, l => some (acc, l)
  | n + 1, acc, v :: l => ab_split n (v :: acc) l
  | _ + 1, _, [] => none
def ab_lsz (as : List ab_V) : Nat := (as.map (fun v => if ab_lg v then 2 else 1)).sum
/-- the receiver is a cell of the kind rc; (1000, N): one of N texts -/
def ab_rc (rc : Option (Nat × Nat)) (as : List ab_V) (h : ab_H) : Bool := match rc with
  | none => true
  | some s => match as with
    | .inr (.inr (.inl (some a))) :: _ => decide ((ab_sh h)[a]? = some s ∧ s.1 ≠ 1000)
    | .inr (.inr (.inr k)) :: _ => decide (s.1 = 1000 ∧ k % 2 = 1 ∧ k < 2 * s.2)
    | _ => false
/-- a call of the method M with maxLocals mL and na arguments -/
def ab_o_call (rc : Option (Nat × Nat)) (hs : List (Nat × Nat × Nat)) (M mL na : Nat) (v : Bool) (nx : Nat) : ab_O := fun loc stk h => match ab_split na [] stk with
  | some (as, r) => if ab_sum r ≤ 8 ∧ ab_rc rc as h = true ∧ ab_lsz as ≤ mL then .inr (.inr ((M, ab_ent mL as, h), ab_k hs v nx loc r)) else ab_x
  | none => ab_x
def ab_iand (a b : Int) : Int := (Int32.ofInt a &&& Int32.ofInt b).toInt
def ab_ior (a b : Int) : Int := (Int32.ofInt a ||| Int32.ofInt b).toInt
def ab_ixor (a b : Int) : Int := (Int32.ofInt a ^^^ Int32.ofInt b).toInt
def ab_ishl (a b : Int) : Int := (Int32.ofInt a <<< (Int32.ofInt b &&& 31)).toInt
def ab_ishr (a b : Int) : Int := (Int32.ofInt a >>> (Int32.ofInt b &&& 31)).toInt
def ab_idiv (a b : Int) : Int := (Int32.ofInt a / Int32.ofInt b).toInt
def ab_irem (a b : Int) : Int := (Int32.ofInt a - Int32.ofInt a / Int32.ofInt b * Int32.ofInt b).toInt
def ab_o_obj (nx : Nat) : ab_O := fun loc stk h => match stk with
  | .inr (.inr (.inl (some _))) :: r => if ab_sum r ≤ 8 then ab_j nx loc r h else ab_x
  | _ => ab_x
