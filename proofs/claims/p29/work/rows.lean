section
-- ===== PART A: goes FIRST, ahead of the names: the tables' words, and 'selects' of the private methods out of them =====
/-- a private method of a class that the tables say can be made, by its rows of tables_1 -/
def lw_okq (q : MethodName × Nat) : Prop := (q.1.cls ≠ "java/lang/invoke/MethodHandle" ∧ q.1.cls ≠ "java/lang/invoke/VarHandle") ∧ Cond.instantiable q.1.cls q.2 ∈ tables_1 ∧ Cond.privateMethod q.1 ∈ tables_1 ∧ Cond.instanceMethod q.1 ∈ tables_1
theorem lw_p0 : lw_okq (⟨"java/lang/Throwable", "fillInStackTrace", "(I)Ljava/lang/Throwable;"⟩, 6) := ⟨⟨by decide +kernel, by decide +kernel⟩, List.mem_of_getElem? (i := 186) (by decide +kernel), List.mem_of_getElem? (i := 184) (by decide +kernel), List.mem_of_getElem? (i := 185) (by decide +kernel)⟩
theorem lw_p1 : lw_okq (⟨"Staggershelf$Rack", "indexOf", "(II)I"⟩, 7) := ⟨⟨by decide +kernel, by decide +kernel⟩, List.mem_of_getElem? (i := 20) (by decide +kernel), List.mem_of_getElem? (i := 225) (by decide +kernel), List.mem_of_getElem? (i := 226) (by decide +kernel)⟩
theorem lw_p2 : lw_okq (⟨"Staggershelf$Rack", "fittingMark", "(II)I"⟩, 7) := ⟨⟨by decide +kernel, by decide +kernel⟩, List.mem_of_getElem? (i := 20) (by decide +kernel), List.mem_of_getElem? (i := 233) (by decide +kernel), List.mem_of_getElem? (i := 234) (by decide +kernel)⟩
theorem lw_p3 : lw_okq (⟨"Staggershelf$Starts", "makePlan", "()V"⟩, 15) := ⟨⟨by decide +kernel, by decide +kernel⟩, List.mem_of_getElem? (i := 52) (by decide +kernel), List.mem_of_getElem? (i := 241) (by decide +kernel), List.mem_of_getElem? (i := 242) (by decide +kernel)⟩
theorem lw_p4 : lw_okq (⟨"Staggershelf$Starts", "allIdle", "()I"⟩, 15) := ⟨⟨by decide +kernel, by decide +kernel⟩, List.mem_of_getElem? (i := 52) (by decide +kernel), List.mem_of_getElem? (i := 245) (by decide +kernel), List.mem_of_getElem? (i := 246) (by decide +kernel)⟩
theorem lw_p5 : lw_okq (⟨"Staggershelf$Starts", "tryPlace", "(III)V"⟩, 15) := ⟨⟨by decide +kernel, by decide +kernel⟩, List.mem_of_getElem? (i := 52) (by decide +kernel), List.mem_of_getElem? (i := 253) (by decide +kernel), List.mem_of_getElem? (i := 254) (by decide +kernel)⟩
theorem lw_p6 : lw_okq (⟨"Staggershelf$Starts", "keepTried", "(I)V"⟩, 15) := ⟨⟨by decide +kernel, by decide +kernel⟩, List.mem_of_getElem? (i := 52) (by decide +kernel), List.mem_of_getElem? (i := 257) (by decide +kernel), List.mem_of_getElem? (i := 258) (by decide +kernel)⟩
theorem lw_p7 : lw_okq (⟨"Staggershelf$Starts", "tryDisk", "(IIII)V"⟩, 15) := ⟨⟨by decide +kernel, by decide +kernel⟩, List.mem_of_getElem? (i := 52) (by decide +kernel), List.mem_of_getElem? (i := 261) (by decide +kernel), List.mem_of_getElem? (i := 262) (by decide +kernel)⟩
theorem lw_p8 : lw_okq (⟨"Staggershelf$Starts", "leastStart", "(IIII)I"⟩, 15) := ⟨⟨by decide +kernel, by decide +kernel⟩, List.mem_of_getElem? (i := 52) (by decide +kernel), List.mem_of_getElem? (i := 265) (by decide +kernel), List.mem_of_getElem? (i := 266) (by decide +kernel)⟩
theorem lw_p9 : lw_okq (⟨"Staggershelf$Starts", "tripsWith", "(IIII)Z"⟩, 15) := ⟨⟨by decide +kernel, by decide +kernel⟩, List.mem_of_getElem? (i := 52) (by decide +kernel), List.mem_of_getElem? (i := 279) (by decide +kernel), List.mem_of_getElem? (i := 280) (by decide +kernel)⟩
theorem lw_p10 : lw_okq (⟨"Staggershelf$Starts", "drawSince", "(II)I"⟩, 15) := ⟨⟨by decide +kernel, by decide +kernel⟩, List.mem_of_getElem? (i := 52) (by decide +kernel), List.mem_of_getElem? (i := 283) (by decide +kernel), List.mem_of_getElem? (i := 284) (by decide +kernel)⟩
theorem lw_p11 : lw_okq (⟨"Staggershelf$Starts", "keepRun", "(II)V"⟩, 15) := ⟨⟨by decide +kernel, by decide +kernel⟩, List.mem_of_getElem? (i := 52) (by decide +kernel), List.mem_of_getElem? (i := 287) (by decide +kernel), List.mem_of_getElem? (i := 288) (by decide +kernel)⟩
theorem lw_p12 : lw_okq (⟨"Staggershelf$Starts", "addDraw", "(III)V"⟩, 15) := ⟨⟨by decide +kernel, by decide +kernel⟩, List.mem_of_getElem? (i := 52) (by decide +kernel), List.mem_of_getElem? (i := 291) (by decide +kernel), List.mem_of_getElem? (i := 292) (by decide +kernel)⟩
theorem lw_p13 : lw_okq (⟨"Staggershelf", "dropNote", "()V"⟩, 13) := ⟨⟨by decide +kernel, by decide +kernel⟩, List.mem_of_getElem? (i := 12) (by decide +kernel), List.mem_of_getElem? (i := 299) (by decide +kernel), List.mem_of_getElem? (i := 300) (by decide +kernel)⟩
theorem lw_p14 : lw_okq (⟨"Staggershelf$Rack", "xorOfOthers", "(II)I"⟩, 7) := ⟨⟨by decide +kernel, by decide +kernel⟩, List.mem_of_getElem? (i := 20) (by decide +kernel), List.mem_of_getElem? (i := 365) (by decide +kernel), List.mem_of_getElem? (i := 366) (by decide +kernel)⟩
theorem lw_p15 : lw_okq (⟨"Staggershelf$Starts", "trips", "([I)Z"⟩, 15) := ⟨⟨by decide +kernel, by decide +kernel⟩, List.mem_of_getElem? (i := 52) (by decide +kernel), List.mem_of_getElem? (i := 412) (by decide +kernel), List.mem_of_getElem? (i := 413) (by decide +kernel)⟩
def lw_privs_1 : List (MethodName × Nat) := [(⟨"java/lang/Throwable", "fillInStackTrace", "(I)Ljava/lang/Throwable;"⟩, 6), (⟨"Staggershelf$Rack", "indexOf", "(II)I"⟩, 7), (⟨"Staggershelf$Rack", "fittingMark", "(II)I"⟩, 7), (⟨"Staggershelf$Starts", "makePlan", "()V"⟩, 15), (⟨"Staggershelf$Starts", "allIdle", "()I"⟩, 15), (⟨"Staggershelf$Starts", "tryPlace", "(III)V"⟩, 15), (⟨"Staggershelf$Starts", "keepTried", "(I)V"⟩, 15), (⟨"Staggershelf$Starts", "tryDisk", "(IIII)V"⟩, 15), (⟨"Staggershelf$Starts", "leastStart", "(IIII)I"⟩, 15), (⟨"Staggershelf$Starts", "tripsWith", "(IIII)Z"⟩, 15), (⟨"Staggershelf$Starts", "drawSince", "(II)I"⟩, 15), (⟨"Staggershelf$Starts", "keepRun", "(II)V"⟩, 15), (⟨"Staggershelf$Starts", "addDraw", "(III)V"⟩, 15), (⟨"Staggershelf", "dropNote", "()V"⟩, 13), (⟨"Staggershelf$Rack", "xorOfOthers", "(II)I"⟩, 7), (⟨"Staggershelf$Starts", "trips", "([I)Z"⟩, 15)]
theorem lw_r1 : ∀ q ∈ lw_privs_1, lw_okq q := List.forall_mem_cons.mpr ⟨lw_p0, List.forall_mem_cons.mpr ⟨lw_p1, List.forall_mem_cons.mpr ⟨lw_p2, List.forall_mem_cons.mpr ⟨lw_p3, List.forall_mem_cons.mpr ⟨lw_p4, List.forall_mem_cons.mpr ⟨lw_p5, List.forall_mem_cons.mpr ⟨lw_p6, List.forall_mem_cons.mpr ⟨lw_p7, List.forall_mem_cons.mpr ⟨lw_p8, List.forall_mem_cons.mpr ⟨lw_p9, List.forall_mem_cons.mpr ⟨lw_p10, List.forall_mem_cons.mpr ⟨lw_p11, List.forall_mem_cons.mpr ⟨lw_p12, List.forall_mem_cons.mpr ⟨lw_p13, List.forall_mem_cons.mpr ⟨lw_p14, List.forall_mem_cons.mpr ⟨lw_p15, fun _ h => absurd h List.not_mem_nil⟩⟩⟩⟩⟩⟩⟩⟩⟩⟩⟩⟩⟩⟩⟩⟩
theorem lw_p16 : lw_okq (⟨"Staggershelf$Starts", "drawBy", "([II)I"⟩, 15) := ⟨⟨by decide +kernel, by decide +kernel⟩, List.mem_of_getElem? (i := 52) (by decide +kernel), List.mem_of_getElem? (i := 416) (by decide +kernel), List.mem_of_getElem? (i := 417) (by decide +kernel)⟩
theorem lw_p17 : lw_okq (⟨"Staggershelf", "keepNote", "(II)V"⟩, 13) := ⟨⟨by decide +kernel, by decide +kernel⟩, List.mem_of_getElem? (i := 12) (by decide +kernel), List.mem_of_getElem? (i := 463) (by decide +kernel), List.mem_of_getElem? (i := 464) (by decide +kernel)⟩
theorem lw_p18 : lw_okq (⟨"Staggershelf", "layNotedValue", "()V"⟩, 13) := ⟨⟨by decide +kernel, by decide +kernel⟩, List.mem_of_getElem? (i := 12) (by decide +kernel), List.mem_of_getElem? (i := 473) (by decide +kernel), List.mem_of_getElem? (i := 474) (by decide +kernel)⟩
theorem lw_p19 : lw_okq (⟨"Staggershelf", "layNotedSum", "()V"⟩, 13) := ⟨⟨by decide +kernel, by decide +kernel⟩, List.mem_of_getElem? (i := 12) (by decide +kernel), List.mem_of_getElem? (i := 478) (by decide +kernel), List.mem_of_getElem? (i := 479) (by decide +kernel)⟩
theorem lw_p20 : lw_okq (⟨"Staggershelf", "goOff", "()V"⟩, 13) := ⟨⟨by decide +kernel, by decide +kernel⟩, List.mem_of_getElem? (i := 12) (by decide +kernel), List.mem_of_getElem? (i := 482) (by decide +kernel), List.mem_of_getElem? (i := 483) (by decide +kernel)⟩
theorem lw_p21 : lw_okq (⟨"Staggershelf", "refuseRound", "(I)V"⟩, 13) := ⟨⟨by decide +kernel, by decide +kernel⟩, List.mem_of_getElem? (i := 12) (by decide +kernel), List.mem_of_getElem? (i := 529) (by decide +kernel), List.mem_of_getElem? (i := 530) (by decide +kernel)⟩
theorem lw_p22 : lw_okq (⟨"Staggershelf", "mendFrom", "(II)I"⟩, 13) := ⟨⟨by decide +kernel, by decide +kernel⟩, List.mem_of_getElem? (i := 12) (by decide +kernel), List.mem_of_getElem? (i := 534) (by decide +kernel), List.mem_of_getElem? (i := 535) (by decide +kernel)⟩
theorem lw_p23 : lw_okq (⟨"Staggershelf", "goOn", "()V"⟩, 13) := ⟨⟨by decide +kernel, by decide +kernel⟩, List.mem_of_getElem? (i := 12) (by decide +kernel), List.mem_of_getElem? (i := 567) (by decide +kernel), List.mem_of_getElem? (i := 568) (by decide +kernel)⟩
theorem lw_p24 : lw_okq (⟨"Staggershelf", "digestOfCells", "(J)J"⟩, 13) := ⟨⟨by decide +kernel, by decide +kernel⟩, List.mem_of_getElem? (i := 12) (by decide +kernel), List.mem_of_getElem? (i := 626) (by decide +kernel), List.mem_of_getElem? (i := 627) (by decide +kernel)⟩
def lw_privs_2 : List (MethodName × Nat) := [(⟨"Staggershelf$Starts", "drawBy", "([II)I"⟩, 15), (⟨"Staggershelf", "keepNote", "(II)V"⟩, 13), (⟨"Staggershelf", "layNotedValue", "()V"⟩, 13), (⟨"Staggershelf", "layNotedSum", "()V"⟩, 13), (⟨"Staggershelf", "goOff", "()V"⟩, 13), (⟨"Staggershelf", "refuseRound", "(I)V"⟩, 13), (⟨"Staggershelf", "mendFrom", "(II)I"⟩, 13), (⟨"Staggershelf", "goOn", "()V"⟩, 13), (⟨"Staggershelf", "digestOfCells", "(J)J"⟩, 13)]
theorem lw_r2 : ∀ q ∈ lw_privs_2, lw_okq q := List.forall_mem_cons.mpr ⟨lw_p16, List.forall_mem_cons.mpr ⟨lw_p17, List.forall_mem_cons.mpr ⟨lw_p18, List.forall_mem_cons.mpr ⟨lw_p19, List.forall_mem_cons.mpr ⟨lw_p20, List.forall_mem_cons.mpr ⟨lw_p21, List.forall_mem_cons.mpr ⟨lw_p22, List.forall_mem_cons.mpr ⟨lw_p23, List.forall_mem_cons.mpr ⟨lw_p24, fun _ h => absurd h List.not_mem_nil⟩⟩⟩⟩⟩⟩⟩⟩⟩
def lw_privs : List (MethodName × Nat) := lw_privs_1 ++ (lw_privs_2)
def lw_tbl : List Cond := k2_sels lw_privs ++ tables_1
theorem lw_privs_ok : ∀ q ∈ lw_privs, lw_okq q := by
  show ∀ q ∈ lw_privs_1 ++ (lw_privs_2), lw_okq q
  exact List.forall_mem_append.mpr ⟨lw_r1, lw_r2⟩
end
section
/-! AN ABSTRACT MACHINE: ints are numbers, references are numbers of cells in the order in which they were made. -/
/-- the script: where it lies, how long it is, its numbers -/
abbrev ab_B : Type := Nat × Nat × (Nat → Int32)
/-- ints, longs, references; the reference 'none' stands for the script -/
abbrev ab_V : Type := Int ⊕ (Int64 ⊕ Option Nat)
abbrev ab_I (z : Int) : ab_V := .inl z
abbrev ab_L (x : Int64) : ab_V := .inr (.inl x)
abbrev ab_Q (o : Option Nat) : ab_V := .inr (.inr o)
/-- ints, references, longs by cell and place; each cell's kind and length; cells and slots made so far -/
abbrev ab_H : Type := (Nat → Int → Int) × (Nat → Int → Option Nat) × (Nat → Int → Int64) × List (Nat × Nat) × Nat × Nat
def ab_gi (h : ab_H) : Nat → Int → Int := h.1
def ab_gr (h : ab_H) : Nat → Int → Option Nat := h.2.1
def ab_gl (h : ab_H) : Nat → Int → Int64 := h.2.2.1
def ab_sh (h : ab_H) : List (Nat × Nat) := h.2.2.2.1
def ab_kc (h : ab_H) : Nat := h.2.2.2.2.1
def ab_ks (h : ab_H) : Nat := h.2.2.2.2.2
def ab_n (h : ab_H) : Nat := (ab_sh h).length
def ab_si (h : ab_H) (c : Nat) (k v : Int) : ab_H := (fun c' k' => if c' = c ∧ k' = k then v else h.1 c' k', h.2)
def ab_sr (h : ab_H) (c : Nat) (k : Int) (v : Option Nat) : ab_H := (h.1, fun c' k' => if c' = c ∧ k' = k then v else h.2.1 c' k', h.2.2)
def ab_sl (h : ab_H) (c : Nat) (k : Int) (v : Int64) : ab_H := (h.1, h.2.1, fun c' k' => if c' = c ∧ k' = k then v else h.2.2.1 c' k', h.2.2.2)
/-- a new cell of kind t and length len, all 0 -/
def ab_new (h : ab_H) (t len : Nat) : ab_H := (fun c k => if c = ab_n h then 0 else h.1 c k, fun c k => if c = ab_n h then none else h.2.1 c k, fun c k => if c = ab_n h then 0 else h.2.2.1 c k, h.2.2.2.1 ++ [(t, len)], h.2.2.2.2.1 + 1, h.2.2.2.2.2 + len)
/-- c cells of s slots that nobody looks at -/
def ab_cost (h : ab_H) (c s : Nat) : ab_H := (h.1, h.2.1, h.2.2.1, h.2.2.2.1, h.2.2.2.2.1 + c, h.2.2.2.2.2 + s)
/-- the same cell, from now on with f, g as its contents -/
def ab_fil (h : ab_H) (c : Nat) (f : Int → Int) : ab_H := (fun c' k => if c' = c then f k else h.1 c' k, h.2)
theorem ab_gi_si (h : ab_H) (c c' : Nat) (k k' v : Int) : ab_gi (ab_si h c k v) c' k' = if c' = c ∧ k' = k then v else ab_gi h c' k' := rfl
theorem ab_gr_si (h : ab_H) (c : Nat) (k v : Int) : ab_gr (ab_si h c k v) = ab_gr h := rfl
theorem ab_gl_si (h : ab_H) (c : Nat) (k v : Int) : ab_gl (ab_si h c k v) = ab_gl h := rfl
theorem ab_sh_si (h : ab_H) (c : Nat) (k v : Int) : ab_sh (ab_si h c k v) = ab_sh h := rfl
theorem ab_kc_si (h : ab_H) (c : Nat) (k v : Int) : ab_kc (ab_si h c k v) = ab_kc h := rfl
theorem ab_ks_si (h : ab_H) (c : Nat) (k v : Int) : ab_ks (ab_si h c k v) = ab_ks h := rfl
theorem ab_gi_sr (h : ab_H) (c : Nat) (k : Int) (v : Option Nat) : ab_gi (ab_sr h c k v) = ab_gi h := rfl
theorem ab_gr_sr (h : ab_H) (c c' : Nat) (k k' : Int) (v : Option Nat) : ab_gr (ab_sr h c k v) c' k' = if c' = c ∧ k' = k then v else ab_gr h c' k' := rfl
theorem ab_gl_sr (h : ab_H) (c : Nat) (k : Int) (v : Option Nat) : ab_gl (ab_sr h c k v) = ab_gl h := rfl
theorem ab_sh_sr (h : ab_H) (c : Nat) (k : Int) (v : Option Nat) : ab_sh (ab_sr h c k v) = ab_sh h := rfl
theorem ab_kc_sr (h : ab_H) (c : Nat) (k : Int) (v : Option Nat) : ab_kc (ab_sr h c k v) = ab_kc h := rfl
theorem ab_ks_sr (h : ab_H) (c : Nat) (k : Int) (v : Option Nat) : ab_ks (ab_sr h c k v) = ab_ks h := rfl
theorem ab_gi_sl (h : ab_H) (c : Nat) (k : Int) (v : Int64) : ab_gi (ab_sl h c k v) = ab_gi h := rfl
theorem ab_gr_sl (h : ab_H) (c : Nat) (k : Int) (v : Int64) : ab_gr (ab_sl h c k v) = ab_gr h := rfl
theorem ab_gl_sl (h : ab_H) (c c' : Nat) (k k' : Int) (v : Int64) : ab_gl (ab_sl h c k v) c' k' = if c' = c ∧ k' = k then v else ab_gl h c' k' := rfl
theorem ab_sh_sl (h : ab_H) (c : Nat) (k : Int) (v : Int64) : ab_sh (ab_sl h c k v) = ab_sh h := rfl
theorem ab_kc_sl (h : ab_H) (c : Nat) (k : Int) (v : Int64) : ab_kc (ab_sl h c k v) = ab_kc h := rfl
theorem ab_ks_sl (h : ab_H) (c : Nat) (k : Int) (v : Int64) : ab_ks (ab_sl h c k v) = ab_ks h := rfl
theorem ab_gi_new (h : ab_H) (t len c : Nat) (k : Int) : ab_gi (ab_new h t len) c k = if c = ab_n h then 0 else ab_gi h c k := rfl
theorem ab_gr_new (h : ab_H) (t len c : Nat) (k : Int) : ab_gr (ab_new h t len) c k = if c = ab_n h then none else ab_gr h c k := rfl
theorem ab_gl_new (h : ab_H) (t len c : Nat) (k : Int) : ab_gl (ab_new h t len) c k = if c = ab_n h then 0 else ab_gl h c k := rfl
theorem ab_sh_new (h : ab_H) (t len : Nat) : ab_sh (ab_new h t len) = ab_sh h ++ [(t, len)] := rfl
theorem ab_kc_new (h : ab_H) (t len : Nat) : ab_kc (ab_new h t len) = ab_kc h + 1 := rfl
theorem ab_ks_new (h : ab_H) (t len : Nat) : ab_ks (ab_new h t len) = ab_ks h + len := rfl
theorem ab_gi_cost (h : ab_H) (c s : Nat) : ab_gi (ab_cost h c s) = ab_gi h := rfl
theorem ab_gr_cost (h : ab_H) (c s : Nat) : ab_gr (ab_cost h c s) = ab_gr h := rfl
theorem ab_gl_cost (h : ab_H) (c s : Nat) : ab_gl (ab_cost h c s) = ab_gl h := rfl
theorem ab_sh_cost (h : ab_H) (c s : Nat) : ab_sh (ab_cost h c s) = ab_sh h := rfl
theorem ab_kc_cost (h : ab_H) (c s : Nat) : ab_kc (ab_cost h c s) = ab_kc h + c := rfl
theorem ab_ks_cost (h : ab_H) (c s : Nat) : ab_ks (ab_cost h c s) = ab_ks h + s := rfl
theorem ab_gi_fil (h : ab_H) (c c' : Nat) (f : Int → Int) (k : Int) : ab_gi (ab_fil h c f) c' k = if c' = c then f k else ab_gi h c' k := rfl
theorem ab_gr_fil (h : ab_H) (c : Nat) (f : Int → Int) : ab_gr (ab_fil h c f) = ab_gr h := rfl
theorem ab_gl_fil (h : ab_H) (c : Nat) (f : Int → Int) : ab_gl (ab_fil h c f) = ab_gl h := rfl
theorem ab_sh_fil (h : ab_H) (c : Nat) (f : Int → Int) : ab_sh (ab_fil h c f) = ab_sh h := rfl
theorem ab_kc_fil (h : ab_H) (c : Nat) (f : Int → Int) : ab_kc (ab_fil h c f) = ab_kc h := rfl
theorem ab_ks_fil (h : ab_H) (c : Nat) (f : Int → Int) : ab_ks (ab_fil h c f) = ab_ks h := rfl
/-- a 32-bit number's value -/
def ab_w (z : Int) : Int := (Int32.ofInt z).toInt
theorem ab_w_id {z : Int} (h1 : -2147483648 ≤ z) (h2 : z < 2147483648) : ab_w z = z := Int32.toInt_ofInt_of_le h1 (by omega)
theorem ab_w_of (x : Int32) : ab_w x.toInt = x.toInt := by rw [ab_w, Int32.ofInt_toInt]
abbrev ab_M : Type := List (Option ab_V)
/-- a place in a method: pc, locals, stack, heap -/
abbrev ab_S : Type := Nat × ab_M × List ab_V × ab_H
/-- a result: what is returned, or the class that is thrown; the heap -/
abbrev ab_T : Type := (Option ab_V ⊕ Nat) × ab_H
abbrev ab_P : Type := Option ab_T ⊕ (ab_S ⊕ ((Nat × ab_M × ab_H) × (ab_T → Option (ab_T ⊕ ab_S))))
abbrev ab_O : Type := ab_M → List ab_V → ab_H → ab_P
abbrev ab_j (pc : Nat) (loc : ab_M) (stk : List ab_V) (h : ab_H) : ab_P := .inr (.inl (pc, loc, stk, h))
abbrev ab_x : ab_P := .inl none
/-- a local that is overwritten from behind: a long is lost -/
def ab_fx : Option ab_V → Option ab_V
  | some (.inr (.inl _)) => none
  | x => x
theorem ab_fx_n : ab_fx none = none := rfl
theorem ab_fx_i (z : Int) : ab_fx (some (.inl z)) = some (.inl z) := rfl
theorem ab_fx_q (o : Option Nat) : ab_fx (some (.inr (.inr o))) = some (.inr (.inr o)) := rfl
theorem ab_fx_l (x : Int64) : ab_fx (some (.inr (.inl x))) = none := rfl
def ab_set1 (l : ab_M) (i : Nat) (v : Option ab_V) : ab_M := match i with
  | 0 => l.set 0 v
  | j + 1 => (l.set (j + 1) v).modify j ab_fx
def ab_set2 (l : ab_M) (i : Nat) (v : Option ab_V) : ab_M := match i with
  | 0 => (l.set 0 v).set 1 none
  | j + 1 => ((l.set (j + 1) v).set (j + 2) none).modify j ab_fx
def ab_lg : ab_V → Bool
  | .inr (.inl _) => true
  | _ => false
def ab_sum (l : List ab_V) : Nat := (l.map (fun v => if ab_lg v then 2 else 1)).sum
def ab_o_const (z : Int) (nx : Nat) : ab_O := fun loc stk h => ab_j nx loc (ab_I z :: stk) h
def ab_o_lconst (x : Int64) (nx : Nat) : ab_O := fun loc stk h => ab_j nx loc (ab_L x :: stk) h
def ab_o_ild (k nx : Nat) : ab_O := fun loc stk h => match loc[k]? with
  | some (some (.inl z)) => ab_j nx loc (ab_I z :: stk) h
  | _ => ab_x
def ab_o_lld (k nx : Nat) : ab_O := fun loc stk h => match loc[k]? with
  | some (some (.inr (.inl x))) => ab_j nx loc (ab_L x :: stk) h
  | _ => ab_x
def ab_o_ald (k nx : Nat) : ab_O := fun loc stk h => match loc[k]? with
  | some (some (.inr (.inr o))) => ab_j nx loc (ab_Q o :: stk) h
  | _ => ab_x
def ab_o_ist (k nx : Nat) : ab_O := fun loc stk h => match stk with
  | .inl z :: r => if k < loc.length then ab_j nx (ab_set1 loc k (some (ab_I z))) r h else ab_x
  | _ => ab_x
def ab_o_lst (k nx : Nat) : ab_O := fun loc stk h => match stk with
  | .inr (.inl x) :: r => if k + 1 < loc.length then ab_j nx (ab_set2 loc k (some (ab_L x))) r h else ab_x
  | _ => ab_x
def ab_o_ast (k nx : Nat) : ab_O := fun loc stk h => match stk with
  | .inr (.inr o) :: r => if k < loc.length then ab_j nx (ab_set1 loc k (some (ab_Q o))) r h else ab_x
  | _ => ab_x
def ab_o_inc (k : Nat) (c : Int) (nx : Nat) : ab_O := fun loc stk h => match loc[k]? with
  | some (some (.inl z)) => ab_j nx (ab_set1 loc k (some (ab_I (z + c)))) stk h
  | _ => ab_x
def ab_o_bin (f : Int → Int → Int) (nx : Nat) : ab_O := fun loc stk h => match stk with
  | .inl b :: .inl a :: r => ab_j nx loc (ab_I (f a b) :: r) h
  | _ => ab_x
def ab_o_div (f : Int → Int → Int) (nx : Nat) : ab_O := fun loc stk h => match stk with
  | .inl b :: .inl a :: r => if ab_w b = 0 then ab_x else ab_j nx loc (ab_I (f a b) :: r) h
  | _ => ab_x
def ab_o_i2l (nx : Nat) : ab_O := fun loc stk h => match stk with
  | .inl a :: r => ab_j nx loc (ab_L (Int32.ofInt a).toInt64 :: r) h
  | _ => ab_x
def ab_o_lbin (f : Int64 → Int64 → Int64) (nx : Nat) : ab_O := fun loc stk h => match stk with
  | .inr (.inl b) :: .inr (.inl a) :: r => ab_j nx loc (ab_L (f a b) :: r) h
  | _ => ab_x
def ab_cmp (a b : Int64) : Int := if b < a then 1 else if a = b then 0 else -1
def ab_o_lcmp (nx : Nat) : ab_O := fun loc stk h => match stk with
  | .inr (.inl b) :: .inr (.inl a) :: r => ab_j nx loc (ab_I (ab_cmp a b) :: r) h
  | _ => ab_x
def ab_o_dup (nx : Nat) : ab_O := fun loc stk h => match stk with
  | v :: r => if ab_lg v then ab_x else ab_j nx loc (v :: v :: r) h
  | _ => ab_x
def ab_o_dup2 (nx : Nat) : ab_O := fun loc stk h => match stk with
  | v :: w :: r => if ab_lg v || ab_lg w then ab_x else ab_j nx loc (v :: w :: v :: w :: r) h
  | _ => ab_x
def ab_o_dupx1 (nx : Nat) : ab_O := fun loc stk h => match stk with
  | v :: w :: r => if ab_lg v || ab_lg w then ab_x else ab_j nx loc (v :: w :: v :: r) h
  | _ => ab_x
def ab_o_pop (nx : Nat) : ab_O := fun loc stk h => match stk with
  | v :: r => if ab_lg v then ab_x else ab_j nx loc r h
  | _ => ab_x
/-- which of the six comparisons -/
def ab_o_if (c : Int → Int → Bool) (tg nx : Nat) : ab_O := fun loc stk h => match stk with
  | .inl a :: r => ab_j (if c (ab_w a) 0 then tg else nx) loc r h
  | _ => ab_x
def ab_o_icmp (c : Int → Int → Bool) (tg nx : Nat) : ab_O := fun loc stk h => match stk with
  | .inl b :: .inl a :: r => ab_j (if c (ab_w a) (ab_w b) then tg else nx) loc r h
  | _ => ab_x
def ab_o_goto (tg : Nat) : ab_O := fun loc stk h => ab_j tg loc stk h
def ab_o_sw (lo : Int) (tgs : List Nat) (df : Nat) : ab_O := fun loc stk h => match stk with
  | .inl a :: r => ab_j (if lo ≤ ab_w a ∧ ab_w a < lo + tgs.length then tgs.getD (ab_w a - lo).toNat df else df) loc r h
  | _ => ab_x
def ab_o_geti (t N : Nat) (k : Nat) (nx : Nat) : ab_O := fun loc stk h => match stk with
  | .inr (.inr (some a)) :: r => if (ab_sh h)[a]? = some (t, N) then ab_j nx loc (ab_I (ab_gi h a k) :: r) h else ab_x
  | _ => ab_x
def ab_o_getr (t N : Nat) (k : Nat) (nx : Nat) : ab_O := fun loc stk h => match stk with
  | .inr (.inr (some a)) :: r => if (ab_sh h)[a]? = some (t, N) ∧ (ab_gr h a k).isSome = true then ab_j nx loc (ab_Q (ab_gr h a k) :: r) h else ab_x
  | _ => ab_x
def ab_o_getl (t N : Nat) (k : Nat) (nx : Nat) : ab_O := fun loc stk h => match stk with
  | .inr (.inr (some a)) :: r => if (ab_sh h)[a]? = some (t, N) then ab_j nx loc (ab_L (ab_gl h a k) :: r) h else ab_x
  | _ => ab_x
/-- b: a boolean -/
def ab_o_puti (t N : Nat) (k : Nat) (b : Bool) (nx : Nat) : ab_O := fun loc stk h => match stk with
  | .inl v :: .inr (.inr (some a)) :: r => if (ab_sh h)[a]? = some (t, N) ∧ (b = true → v = 0 ∨ v = 1) then ab_j nx loc r (ab_si h a k v) else ab_x
  | _ => ab_x
def ab_o_putr (t N : Nat) (k : Nat) (nx : Nat) : ab_O := fun loc stk h => match stk with
  | .inr (.inr (some b)) :: .inr (.inr (some a)) :: r => if (ab_sh h)[a]? = some (t, N) then ab_j nx loc r (ab_sr h a k (some b)) else ab_x
  | _ => ab_x
def ab_o_putl (t N : Nat) (k : Nat) (nx : Nat) : ab_O := fun loc stk h => match stk with
  | .inr (.inl x) :: .inr (.inr (some a)) :: r => if (ab_sh h)[a]? = some (t, N) then ab_j nx loc r (ab_sl h a k x) else ab_x
  | _ => ab_x
/-- kinds: 0 int[], 1 boolean[], 2 int[][], 10 and on objects -/
def ab_o_xld (t : Nat) (nx : Nat) : ab_O := fun loc stk h => match stk with
  | .inl z :: .inr (.inr (some a)) :: r => match (ab_sh h)[a]? with
    | some (t', n) => if t' = t ∧ 0 ≤ z ∧ z < (n : Int) then ab_j nx loc (ab_I (ab_gi h a z) :: r) h else ab_x
    | none => ab_x
  | _ => ab_x
def ab_o_xst (t : Nat) (nx : Nat) : ab_O := fun loc stk h => match stk with
  | .inl v :: .inl z :: .inr (.inr (some a)) :: r => match (ab_sh h)[a]? with
    | some (t', n) => if t' = t ∧ 0 ≤ z ∧ z < (n : Int) ∧ (t = 1 → v = 0 ∨ v = 1) then ab_j nx loc r (ab_si h a z v) else ab_x
    | none => ab_x
  | _ => ab_x
def ab_o_alen (nx : Nat) : ab_O := fun loc stk h => match stk with
  | .inr (.inr (some a)) :: r => match (ab_sh h)[a]? with
    | some (t, n) => if t < 2 then ab_j nx loc (ab_I n :: r) h else ab_x
    | none => ab_x
  | _ => ab_x
/-- the script's length, and a number of it -/
def ab_o_slen (B : ab_B) (nx : Nat) : ab_O := fun loc stk h => match stk with
  | .inr (.inr none) :: r => ab_j nx loc (ab_I (B.2.1 : Int) :: r) h
  | _ => ab_x
def ab_o_sld (B : ab_B) (nx : Nat) : ab_O := fun loc stk h => match stk with
  | .inl z :: .inr (.inr none) :: r => if 0 ≤ z ∧ z < (B.2.1 : Int) ∧ z < 2147483648 then ab_j nx loc (ab_I (B.2.2 z.toNat).toInt :: r) h else ab_x
  | _ => ab_x
def ab_o_newa (t : Nat) (nx : Nat) : ab_O := fun loc stk h => match stk with
  | .inl z :: r => if 0 ≤ z ∧ z ≤ 100000 then ab_j nx loc (ab_Q (some (ab_n h)) :: r) (ab_new h t z.toNat) else ab_x
  | _ => ab_x
def ab_o_new (t N : Nat) (nx : Nat) : ab_O := fun loc stk h => ab_j nx loc (ab_Q (some (ab_n h)) :: stk) (ab_new h t N)
def ab_o_mx (f : Int → Int → Int) (nx : Nat) : ab_O := fun loc stk h => match stk with
  | .inl b :: .inl a :: r => if ab_sum r ≤ 8 then ab_j nx loc (ab_I (f (ab_w a) (ab_w b)) :: r) h else ab_x
  | _ => ab_x
def ab_o_iret (b : Bool) : ab_O := fun _ stk h => match stk with
  | [.inl v] => if b = true → v = 0 ∨ v = 1 then .inl (some (.inl (some (ab_I v)), h)) else ab_x
  | _ => ab_x
def ab_o_lret : ab_O := fun _ stk h => match stk with
  | [.inr (.inl x)] => .inl (some (.inl (some (ab_L x)), h))
  | _ => ab_x
def ab_o_aret : ab_O := fun _ stk h => match stk with
  | [.inr (.inr o)] => .inl (some (.inl (some (ab_Q o)), h))
  | _ => ab_x
def ab_o_ret : ab_O := fun _ stk h => match stk with
  | [] => .inl (some (.inl none, h))
  | _ => ab_x
def ab_o_throw (E : Nat) : ab_O := fun _ stk h => if ab_sum stk ≤ 8 then .inl (some (.inr E, ab_cost h 1 6)) else ab_x
/-- the locals at a method's start -/
def ab_ent : Nat → List ab_V → ab_M
  | n, [] => List.replicate n none
  | n, v :: l => if ab_lg v then some v :: none :: ab_ent (n - 2) l else some v :: ab_ent (n - 1) l
/-- what follows a call: the value if there is one; a handler of the table hs (class, pc behind its store, the local stored), or on -/
def ab_k (hs : List (Nat × Nat × Nat)) (v : Bool) (nx : Nat) (loc : ab_M) (r : List ab_V) : ab_T → Option (ab_T ⊕ ab_S)
  | (.inl (some x), h) => if v then some (.inr (nx, loc, x :: r, h)) else none
  | (.inl none, h) => if v then none else some (.inr (nx, loc, r, h))
  | (.inr E, h) => match hs with
    | [] => some (.inl (.inr E, h))
    | q :: _ => if q.1 = E then some (.inr (q.2.1, ab_set1 loc q.2.2 none, [], h)) else none
def ab_split : Nat → List ab_V → List ab_V → Option (List ab_V × List ab_V)
  | 0, acc, l => some (acc, l)
  | n + 1, acc, v :: l => ab_split n (v :: acc) l
  | _ + 1, _, [] => none
def ab_lsz (as : List ab_V) : Nat := (as.map (fun v => if ab_lg v then 2 else 1)).sum
/-- the receiver is a cell of the kind rc -/
def ab_rc (rc : Option (Nat × Nat)) (as : List ab_V) (h : ab_H) : Bool := match rc with
  | none => true
  | some s => match as with
    | .inr (.inr (some a)) :: _ => decide ((ab_sh h)[a]? = some s)
    | _ => false
/-- a call of the method M with maxLocals mL and na arguments -/
def ab_o_call (rc : Option (Nat × Nat)) (hs : List (Nat × Nat × Nat)) (M mL na : Nat) (v : Bool) (nx : Nat) : ab_O := fun loc stk h => match ab_split na [] stk with
  | some (as, r) => if ab_sum r ≤ 8 ∧ ab_rc rc as h = true ∧ ab_lsz as ≤ mL then .inr (.inr ((M, ab_ent mL as, h), ab_k hs v nx loc r)) else ab_x
  | none => ab_x
def ab_iand (a b : Int) : Int := (Int32.ofInt a &&& Int32.ofInt b).toInt
def ab_ior (a b : Int) : Int := (Int32.ofInt a ||| Int32.ofInt b).toInt
def ab_ixor (a b : Int) : Int := (Int32.ofInt a ^^^ Int32.ofInt b).toInt
def ab_ishl (a b : Int) : Int := (Int32.ofInt a <<< (Int32.ofInt b &&& 31)).toInt
def ab_ishr (a b : Int) : Int := (Int32.ofInt a >>> (Int32.ofInt b &&& 31)).toInt
def ab_idiv (a b : Int) : Int := (Int32.ofInt a / Int32.ofInt b).toInt
def ab_irem (a b : Int) : Int := (Int32.ofInt a - Int32.ofInt a / Int32.ofInt b * Int32.ofInt b).toInt
def ab_o_obj (nx : Nat) : ab_O := fun loc stk h => match stk with
  | .inr (.inr (some _)) :: r => if ab_sum r ≤ 8 then ab_j nx loc r h else ab_x
  | _ => ab_x
end
section
/-! THE RUN of a program of the abstract machine: 'ab_st' says what a place does; calls at most d deep -/
section
variable (st : Nat → Nat → ab_O)
def ab_run : Nat → Nat → Nat → Nat → ab_M → List ab_V → ab_H → Option ab_T
  | 0, _, _, _, _, _, _ => none
  | n + 1, d, M, pc, loc, stk, h => match st M pc loc stk h with
    | .inl r => r
    | .inr (.inl (pc', loc', stk', h')) => ab_run n d M pc' loc' stk' h'
    | .inr (.inr ((M', loc', h'), k)) => match d with
      | 0 => none
      | d + 1 => match ab_run n d M' 0 loc' [] h' with
        | none => none
        | some r => match k r with
          | none => none
          | some (.inl r') => some r'
          | some (.inr (pc', loc2, stk2, h2)) => ab_run n (d + 1) M pc' loc2 stk2 h2
theorem ab_run_mono : ∀ (n d M pc : Nat) (loc : ab_M) (stk : List ab_V) (h : ab_H) (r : ab_T), ab_run st n d M pc loc stk h = some r → ab_run st (n + 1) d M pc loc stk h = some r := by
  intro n
  induction n with
  | zero => intro d M pc loc stk h r hr; simp [ab_run] at hr
  | succ n ih =>
    intro d M pc loc stk h r hr
    rw [ab_run] at hr ⊢
    split at hr <;> rename_i heq
    · exact hr
    · exact ih _ _ _ _ _ _ _ hr
    · cases d with
      | zero => simp at hr
      | succ d =>
        simp only at hr ⊢
        split at hr
        · cases hr
        · rename_i r1 h1
          rw [ih _ _ _ _ _ _ _ h1]
          simp only
          split at hr
          · cases hr
          · exact hr
          · exact ih _ _ _ _ _ _ _ hr
theorem ab_run_le {n n' d M pc : Nat} {loc : ab_M} {stk : List ab_V} {h : ab_H} {r : ab_T} (hr : ab_run st n d M pc loc stk h = some r) (hn : n ≤ n') : ab_run st n' d M pc loc stk h = some r := by
  obtain ⟨k, rfl⟩ := Nat.exists_eq_add_of_le hn
  induction k with
  | zero => exact hr
  | succ k ih => exact ab_run_mono st _ _ _ _ _ _ _ _ (ih (by omega))
noncomputable def ab_ev (d M pc : Nat) (loc : ab_M) (stk : List ab_V) (h : ab_H) : Option ab_T :=
  @dite (Option ab_T) (∃ (n : Nat) (r : ab_T), ab_run st n d M pc loc stk h = some r) (Classical.propDecidable _) (fun hx => some (Classical.choose (Classical.choose_spec hx))) (fun _ => none)
theorem ab_ev_of {n d M pc : Nat} {loc : ab_M} {stk : List ab_V} {h : ab_H} {r : ab_T} (hr : ab_run st n d M pc loc stk h = some r) : ab_ev st d M pc loc stk h = some r := by
  have hx : ∃ (n : Nat) (r : ab_T), ab_run st n d M pc loc stk h = some r := ⟨n, r, hr⟩
  unfold ab_ev
  rw [dif_pos hx]
  have h1 := Classical.choose_spec (Classical.choose_spec hx)
  have h2 := ab_run_le st h1 (Nat.le_max_left (Classical.choose hx) n)
  have h3 := ab_run_le st hr (Nat.le_max_right (Classical.choose hx) n)
  rw [h2] at h3
  exact h3
theorem ab_of_ev {d M pc : Nat} {loc : ab_M} {stk : List ab_V} {h : ab_H} {r : ab_T} (hr : ab_ev st d M pc loc stk h = some r) : ∃ n : Nat, ab_run st n d M pc loc stk h = some r := by
  unfold ab_ev at hr
  by_cases hx : ∃ (n : Nat) (r : ab_T), ab_run st n d M pc loc stk h = some r
  · rw [dif_pos hx] at hr
    have h1 := Classical.choose_spec (Classical.choose_spec hx)
    cases hr
    exact ⟨_, h1⟩
  · rw [dif_neg hx] at hr
    cases hr
/-- what a result of a call becomes in the caller -/
noncomputable def ab_go (d M : Nat) (k : ab_T → Option (ab_T ⊕ ab_S)) (r : Option ab_T) : Option ab_T := match r with
  | none => none
  | some r => match k r with
    | none => none
    | some (.inl r') => some r'
    | some (.inr (pc, loc, stk, h)) => ab_ev st d M pc loc stk h
theorem ab_ev_done {d M pc : Nat} {loc : ab_M} {stk : List ab_V} {h : ab_H} {r : Option ab_T} (hs : st M pc loc stk h = .inl r) : ab_ev st d M pc loc stk h = r := by
  cases r with
  | some r => exact ab_ev_of st (n := 1) (by rw [ab_run, hs])
  | none =>
    cases hx : ab_ev st d M pc loc stk h with
    | none => rfl
    | some r =>
      obtain ⟨n, hn⟩ := ab_of_ev st hx
      cases n with
      | zero => simp [ab_run] at hn
      | succ n => rw [ab_run, hs] at hn; cases hn
theorem ab_ev_jump {d M pc pc' : Nat} {loc loc' : ab_M} {stk stk' : List ab_V} {h h' : ab_H} (hs : st M pc loc stk h = ab_j pc' loc' stk' h') : ab_ev st d M pc loc stk h = ab_ev st d M pc' loc' stk' h' := by
  apply Option.ext
  intro r
  constructor
  · intro hx
    obtain ⟨n, hn⟩ := ab_of_ev st hx
    cases n with
    | zero => simp [ab_run] at hn
    | succ n => rw [ab_run, hs] at hn; exact ab_ev_of st hn
  · intro hx
    obtain ⟨n, hn⟩ := ab_of_ev st hx
    exact ab_ev_of st (n := n + 1) (by rw [ab_run, hs]; exact hn)
theorem ab_ev_call {d M pc M' : Nat} {loc loc' : ab_M} {stk : List ab_V} {h h' : ab_H} {k : ab_T → Option (ab_T ⊕ ab_S)} (hs : st M pc loc stk h = .inr (.inr ((M', loc', h'), k))) : ab_ev st (d + 1) M pc loc stk h = ab_go st (d + 1) M k (ab_ev st d M' 0 loc' [] h') := by
  apply Option.ext
  intro r
  constructor
  · intro hx
    obtain ⟨n, hn⟩ := ab_of_ev st hx
    cases n with
    | zero => simp [ab_run] at hn
    | succ n =>
      rw [ab_run, hs] at hn
      simp only at hn
      split at hn
      · cases hn
      · rename_i r1 h1
        rw [ab_ev_of st h1]
        unfold ab_go
        split at hn
        · cases hn
        · rename_i h2; simp only [h2]; exact hn
        · rename_i h2; simp only [h2]; exact ab_ev_of st hn
  · intro hx
    unfold ab_go at hx
    split at hx
    · cases hx
    · rename_i r1 h1
      obtain ⟨n1, hn1⟩ := ab_of_ev st h1
      split at hx
      · cases hx
      · rename_i h2
        exact ab_ev_of st (n := n1 + 1) (by rw [ab_run, hs]; simp only [hn1, h2]; exact hx)
      · rename_i h2
        obtain ⟨n2, hn2⟩ := ab_of_ev st hx
        exact ab_ev_of st (n := max n1 n2 + 1) (by
          rw [ab_run, hs]
          simp only [ab_run_le st hn1 (Nat.le_max_left n1 n2), h2]
          exact ab_run_le st hn2 (Nat.le_max_right n1 n2))
end
end
section
/-! ===== BEGIN words of one list among another's, by their places ===== -/
theorem goodIn_r {big : List Cond} (ws : List Cond) (ps : List Nat) (hp : ws = ps.filterMap (fun i => big[i]?)) (h : ws.all goodWord = true) : GoodIn big ws := by
  intro w hw
  have h1 := List.all_eq_true.mp h w hw
  rw [hp] at hw
  obtain ⟨i, -, hi⟩ := List.mem_filterMap.mp hw
  have hm : w ∈ big := by first | exact List.mem_of_getElem? hi | exact List.getElem?_mem hi
  exact ⟨hm, good_of_word h1⟩
theorem goodIn_app {big a b : List Cond} (ha : GoodIn big a) (hb : GoodIn big b) : GoodIn big (a ++ b) := fun w h => (List.mem_append.mp h).elim (ha w) (hb w)
theorem goodIn_ca {big a b : List Cond} {c : Cond} (ha : GoodIn big (c :: a)) (hb : GoodIn big b) : GoodIn big (c :: (a ++ b)) := fun w h => (List.mem_cons.mp h).elim (fun e => ha w (List.mem_cons.mpr (Or.inl e))) (fun h => (List.mem_append.mp h).elim (fun h => ha w (List.mem_cons.mpr (Or.inr h))) (hb w))
theorem goodIn_sub {big ws : List Cond} (hm : ∀ w ∈ ws, w ∈ big) (h : ws.all goodWord = true) : GoodIn big ws := fun w hw => ⟨hm w hw, good_of_word (List.all_eq_true.mp h w hw)⟩
/-! ===== END ===== -/

/-! ===== BEGIN exceptions that leave a method, and their catching by the caller (launches without stack traces) ===== -/
section VXA
/-! The laws vx_back, vx_callV, vx_callS, vx_callSW, vx_throw0, vx_throwS follow proofs of the library, with one case more: JvmDerived/Free/Laws.lean (Back.of_free), Shelf42/LK1.lean (callV, callS), Shelf/KitTraced.lean (throwNew0V, throwNewS). -/
/-- where a method has thrown q: the class by its name, the cell, what was written, the world -/
def vx_T (XC : String → State → State → Prop) (st : State) (q : Addr) (t : State) (mc ms : Nat) (free : Addr → Prop) : Prop :=
  ∃ (E : String) (ce : Cell) (L : List Loc), XC E st t ∧ t.heap[q]? = some ce ∧ ce.vm = .none ∧ st.vm.findClass E = some ce.cls ∧ st.WarmedH t.vm ∧ st.sameButNew ({ t with vm := st.vm } : State) L mc ms ∧ ∀ z ∈ L, free z.base
def vx_Q (Qc : Array Value → State → Outcome → State → Prop) (XC : String → State → State → Prop) (mc ms : Nat) (free : Addr → Prop) : Array Value → State → Outcome → State → Prop := fun a st o t =>
  (Qc a st o t ∧ ∃ L, FrameEnd st o t L mc ms ∧ ∀ q ∈ L, free q.base) ∨ ∃ q, o = .threw q ∧ vx_T XC st q t mc ms free
/-- a callee that returns or throws -/
def vx_Met (l : Launch) (y : MethodName) (ws : List Cond) (rm : Room) (Pc : Array Value → State → Prop) (Qc : Array Value → State → Outcome → State → Prop) (XC : String → State → State → Prop) (mc ms : Nat) (free : Addr → Prop) : Prop :=
  MetFree l y (headSpec ws rm) Pc (fun _ _ _ _ _ => True) (vx_Q Qc XC mc ms free)
def vx_Post (XC : String → State → State → Prop) (mc ms : Nat) (free : Addr → Prop) : Pt → Array Value → Addr → Pt → Prop := fun A a q B =>
  ∃ (g : JFrame) (mk : MethodId) (t : State) (L : List Loc) (E : String) (ce : Cell), B.U.heap = t.heap ∧ B.U.vm = t.vm ∧ XC E (A.U.calling g mk a) t ∧ t.heap[q]? = some ce ∧ ce.vm = .none ∧ A.U.vm.findClass E = some ce.cls ∧ B.locs = A.locs ++ L ∧ (∀ z ∈ L, free z.base) ∧ B.cells = A.cells + mc ∧ B.slots = A.slots + ms
def vx_Back (l : Launch) (R : Room) (p : Program) (e : Env) (below : List Frame) (s : State) (sargs : Array Value) (y : MethodName) (len W9 : Nat)
    (Pre : Pt → Array Value → Prop) (Post : Pt → Array Value → Option Value → Pt → Prop) (PostX : Pt → Array Value → Addr → Pt → Prop) : Prop :=
  ∀ (m : MethodId) (meth : Method) (c : Code) (A : Pt) (g : JFrame) (ig : Instr) (mk : MethodId) (a : Array Value),
    Stand p l e R s m sargs below meth c A.U A.locs A.cells A.slots → g.method = m → g.locals.size = c.maxLocals → decode c.code g.pc = .ok (ig, len) →
    2 * g.monitorRoom + (g.stack.map fun v => v.category).sum ≤ W9 → A.U.methodNamed? y = some mk → Pre A a →
    (∃ (v : Option Value) (B : Pt), Stand p l e R s m sargs below meth c B.U B.locs B.cells B.slots ∧ Post A a v B ∧
      Steps p.tables e below (doInvoke e (A.U.setTop g) [] mk a).1 (B.U.setTop { g with pc := g.pc + len, stack := v.toList ++ g.stack })) ∨
    (∃ (q : Addr) (B : Pt), Stand p l e R s m sargs below meth c B.U B.locs B.cells B.slots ∧ PostX A a q B ∧
      Steps p.tables e below (doInvoke e (A.U.setTop g) [] mk a).1 ((B.U.setTop g).pushFrame (.throwing q)))
section Payer
variable {l : Launch} {R : Room} {p : Program} {e : Env} {below : List Frame} {s : State} {sargs : Array Value} {y : MethodName} {len W9 : Nat}
theorem vx_back {ws : List Cond} {rm : Room} {Pc : Array Value → State → Prop} {Qc : Array Value → State → Outcome → State → Prop} {XC : String → State → State → Prop} {mc ms : Nat} {free : Addr → Prop} {bytes : ByteArray} {maxL : Nat} {ret : Option FieldType}
    (hM : vx_Met l y ws rm Pc Qc XC mc ms free) (hblind : FrameBlind Pc) (hrc : rm.cells = mc) (hrs : rm.slots = ms)
    (hframes : rm.frames + 1 ≤ R.frames) (hlocals : W9 + (maxL + 11) + rm.locals ≤ R.locals)
    (hws : ∀ w ∈ ws, ∀ a' U, s.WarmedH U.vm → w.before a' U = true) (hcode : Cond.code y bytes maxL ret ∈ ws) (hinit : ∀ a' U, s.WarmedH U.vm → (Cond.initialized y.cls).before a' U = true) :
    vx_Back l R p e below s sargs y len W9 (PreOf R mc ms Pc) (PostOf Qc mc ms free) (vx_Post XC mc ms free) := by
  intro m meth c A g ig mk a X hg hsize hdg hW hn hp
  have h1 : (headSpec ws rm).pre.before a A.U = true := atoms_intro fun w hw => hws w hw _ _ X.warmed
  have h2 : (Cond.code y bytes maxL ret).before a A.U = true := hws _ hcode _ _ X.warmed
  have h3 : (Cond.initialized y.cls).before a A.U = true := hinit _ _ X.warmed
  have h4 : A.cells + (headSpec ws rm).room.cells ≤ R.cells := by rw [show (headSpec ws rm).room.cells = mc from hrc]; exact hp.1
  have h5 : A.slots + (headSpec ws rm).room.slots ≤ R.slots := by rw [show (headSpec ws rm).room.slots = ms from hrs]; exact hp.2.1
  have hPc : Pc a (A.U.calling g mk a) := hblind _ _ _ _ hp.2.2
  obtain ⟨U, Ls, c0, s0⟩ := A
  dsimp only [Pt.U, Pt.locs, Pt.cells, Pt.slots] at h1 h2 h3 h4 h5 X hn hPc ⊢
  obtain ⟨methY, cY, hmY, hcY, -, hlY, -, -, -, -⟩ := Cond.code_spec hn h2
  obtain ⟨kY, hkY, -⟩ := className_of_methodNamed hn
  have hinitY : kY.init = .initialized := Cond.initialized_spec (findClass_of_methodNamed hn) hkY h3
  have h : At U g.method c below := by rw [hg]; exact X.here
  have hlocals9 : W9 + (maxL + 11) + (headSpec ws rm).room.locals ≤ R.locals := hlocals
  have happ : (headSpec ws rm).appliesLoose y e.platform (U.calling g mk a) = true :=
    Spec.appliesLoose_calling (g := g) h hdg hn hkY hinitY
      (X.room_calling (g := g) (R' := (headSpec ws rm).room) hsize hmY hcY hframes (by rw [hlY]; omega) h4 h5) h1
  obtain ⟨mid, hmid⟩ := h.above
  have hfr : (U.setTop g).frames = (.java g :: mid) ++ below := by rw [State.frames_setTop' g h.top, hmid]; rfl
  obtain ⟨o, s₂, hsteps, -, hend, hq⟩ := Steps.callFree hM p X.admits X.cas X.clock (acts := []) hfr happ hPc trivial
  have hq' : vx_Q Qc XC mc ms free a (U.calling g mk a) o s₂ := hq
  rw [State.frames_setTop' g h.top] at hend
  obtain ⟨g₀, hg0⟩ := Option.isSome_iff_exists.mp h.top
  obtain ⟨r, hr⟩ := State.topJava?_eq_some.mp hg0
  have hr' : (({ U with heap := s₂.heap, slotsUsed := s₂.slotsUsed } : State).setVm s₂.vm).frames = .java g₀ :: r := hr
  rcases hq' with ⟨hqc, L, hfe, hL⟩ | ⟨q, rfl, E, ce, L, hx, hce, hcv, hcl, hW₂, hsm, hL⟩
  · obtain ⟨⟨v, rfl⟩, hW₂, e2, q2, q3, q4, q5, q6⟩ := id hfe
    have e3 : s₂ = ({ (U.calling g mk a).setFrames s₂.frames with heap := s₂.heap, slotsUsed := s₂.slotsUsed } : State).setVm s₂.vm := by
      have : s₂ = ({ s₂ with vm := (U.calling g mk a).vm } : State).setVm s₂.vm := rfl
      rw [e2] at this
      exact this
    obtain ⟨c₂, i₂, len₂, hc₂, hd₂, hf₂⟩ := hend
    have hW' : U.WarmedH s₂.vm := hW₂
    have hcc : c₂ = c := by
      have h1 : s₂.code? g.method = U.code? g.method := by
        rw [State.code?_eq, State.code?_eq, hW'.alike.method?]
      exact Option.some.inj (hc₂.symm.trans (h1.trans h.code))
    subst hcc
    have hlen : len₂ = len := by rw [hdg] at hd₂; cases hd₂; rfl
    subst hlen
    have hs₂ : s₂ = (({ U with heap := s₂.heap, slotsUsed := s₂.slotsUsed } : State).setVm s₂.vm).setTop { g with pc := g.pc + len₂, stack := v.toList ++ g.stack } := by
      refine e3.trans ?_
      rw [hf₂, State.calling_eq h.top, State.setFrames_setFrames, State.setTop_of_frames _ hr', hr]
      rfl
    have hsame : U.sameButNew ({ U with heap := s₂.heap, slotsUsed := s₂.slotsUsed } : State) L mc ms := by
      refine ⟨?_, q2, q3, q4, q5, q6⟩
      obtain ⟨t, ht, -⟩ := State.frames_cons hr
      show ({ U with heap := s₂.heap, slotsUsed := s₂.slotsUsed } : State) = { U.setFrames U.frames with heap := s₂.heap, slotsUsed := s₂.slotsUsed }
      rw [State.setFrames_self ht]
    subst hg
    refine Or.inl ⟨v, ⟨(({ U with heap := s₂.heap, slotsUsed := s₂.slotsUsed } : State).setVm s₂.vm), Ls ++ L, c0 + mc, s0 + ms⟩,
      ⟨X.admits, X.cas, X.clock, X.frames, X.room, X.hears, X.method, X.code, (X.here.setHeapUsed s₂.heap s₂.slotsUsed).setVm hW'.alike, X.tail, State.WarmedH.trans X.warmed hW', X.limits, X.bytes, X.same.trans (hsame.setVm s.vm)⟩,
      ⟨g, mk, s₂, L, rfl, rfl, hqc, rfl, hL, rfl, rfl⟩, ?_⟩
    show Steps p.tables e below _ ((({ U with heap := s₂.heap, slotsUsed := s₂.slotsUsed } : State).setVm s₂.vm).setTop { g with pc := g.pc + len₂, stack := v.toList ++ g.stack })
    rw [← hs₂]
    exact hsteps
  · obtain ⟨e2, q2, q3, q4, q5, q6⟩ := id hsm
    have e3 : s₂ = ({ (U.calling g mk a).setFrames s₂.frames with heap := s₂.heap, slotsUsed := s₂.slotsUsed } : State).setVm s₂.vm := by
      have : s₂ = ({ s₂ with vm := (U.calling g mk a).vm } : State).setVm s₂.vm := rfl
      rw [e2] at this
      exact this
    have hf₂ : s₂.frames = .throwing q :: .java g :: U.frames.tail := hend
    have hW' : U.WarmedH s₂.vm := hW₂
    have hs₂ : s₂ = ((({ U with heap := s₂.heap, slotsUsed := s₂.slotsUsed } : State).setVm s₂.vm).setTop g).pushFrame (.throwing q) := by
      refine e3.trans ?_
      rw [hf₂, State.calling_eq h.top, State.setFrames_setFrames, State.pushFrame, State.frames_setTop _ hr', State.setTop_of_frames _ hr', State.setFrames_setFrames, hr]
      rfl
    have hsame : U.sameButNew ({ U with heap := s₂.heap, slotsUsed := s₂.slotsUsed } : State) L mc ms := by
      refine ⟨?_, q2, q3, q4, q5, q6⟩
      obtain ⟨t, ht, -⟩ := State.frames_cons hr
      show ({ U with heap := s₂.heap, slotsUsed := s₂.slotsUsed } : State) = { U.setFrames U.frames with heap := s₂.heap, slotsUsed := s₂.slotsUsed }
      rw [State.setFrames_self ht]
    subst hg
    refine Or.inr ⟨q, ⟨(({ U with heap := s₂.heap, slotsUsed := s₂.slotsUsed } : State).setVm s₂.vm), Ls ++ L, c0 + mc, s0 + ms⟩,
      ⟨X.admits, X.cas, X.clock, X.frames, X.room, X.hears, X.method, X.code, (X.here.setHeapUsed s₂.heap s₂.slotsUsed).setVm hW'.alike, X.tail, State.WarmedH.trans X.warmed hW', X.limits, X.bytes, X.same.trans (hsame.setVm s.vm)⟩,
      ⟨g, mk, s₂, L, E, ce, rfl, rfl, hx, hce, hcv, hcl, rfl, hL, rfl, rfl⟩, ?_⟩
    show Steps p.tables e below _ (((({ U with heap := s₂.heap, slotsUsed := s₂.slotsUsed } : State).setVm s₂.vm).setTop g).pushFrame (.throwing q))
    rw [← hs₂]
    exact hsteps
end Payer
section Calls
variable {p : Program} {l : Launch} {e : Env} {R : Room} {s : State} {m : MethodId} {args : Array Value} {below : List Frame} {meth : Method} {c : Code} {T : State} {locs : List Loc} {cells slots : Nat}
theorem vx_callV (X : Stand p l e R s m args below meth c T locs cells slots) (hexec : p.tables.exec = Jvm.exec) {own C : String} {index : Nat} {y : MethodName} {bytes : ByteArray} {maxL : Nat} {ret : Option FieldType}
    (hown : s.vm.findClass own = some m.cls) (hlink : (Cond.methodLink own index y).before args s = true) (hinst : (Cond.instanceMethod y).before args s = true) (hsel : (Cond.selects C y y).before args s = true)
    (hcode : (Cond.code y bytes maxL ret).before args s = true) (hy : y.cls ≠ "java/lang/invoke/MethodHandle" ∧ y.cls ≠ "java/lang/invoke/VarHandle")
    {W9 : Nat} {Pre : Pt → Array Value → Prop} {Post : Pt → Array Value → Option Value → Pt → Prop} {PostX : Pt → Array Value → Addr → Pt → Prop} (hK : vx_Back l R p e below s args y 3 W9 Pre Post PostX)
    {b : Addr} {cellB : Cell} (hcell : T.heap[b]? = some cellB) (hobj : cellB.vm.isStatics = false) (hcls : s.vm.findClass C = some cellB.cls)
    {g : JFrame} (hg : g.method = m) (hsize : g.locals.size = c.maxLocals) {argsL rest : List Value} (hlen : ∀ sig, parseMethodDescriptor y.desc = some sig → argsL.length = sig.parameters.length)
    (hstack : g.stack = argsL.reverse ++ .ref b :: rest) (hW : 2 * g.monitorRoom + (rest.map fun v => v.category).sum ≤ W9) (hdg : decode c.code g.pc = .ok (.invokevirtual index, 3))
    (hpre : ∀ vm₁, s.WarmedH vm₁ → Pre ⟨T.setVm vm₁, locs, cells, slots⟩ (Value.ref b :: argsL).toArray) :
    (∃ (v : Option Value) (vm₁ : Vm) (B : Pt), s.WarmedH vm₁ ∧ Stand p l e R s m args below meth c B.U B.locs B.cells B.slots ∧ Post ⟨T.setVm vm₁, locs, cells, slots⟩ (Value.ref b :: argsL).toArray v B ∧
      ∀ target, Steps p.tables e below (B.U.setTop { g with pc := g.pc + 3, stack := v.toList ++ rest }) target → Steps p.tables e below (T.setTop g) target) ∨
    (∃ (q : Addr) (vm₁ : Vm) (B : Pt), s.WarmedH vm₁ ∧ Stand p l e R s m args below meth c B.U B.locs B.cells B.slots ∧ PostX ⟨T.setVm vm₁, locs, cells, slots⟩ (Value.ref b :: argsL).toArray q B ∧
      Steps p.tables e below (T.setTop g) ((B.U.setTop { g with stack := rest }).pushFrame (.throwing q))) := by
  obtain ⟨mk, methM, hnamed, hmethM, hstM, habM⟩ := Cond.instanceMethod_spec hinst
  obtain ⟨methM', cM, hmethM', -, -, -, -, -, -, hsigM⟩ := Cond.code_spec hnamed hcode
  cases hmethM.symm.trans hmethM'
  obtain ⟨c2, r2, m2, q1, q2, q3, q4, kP, hkP, hkPi⟩ := Cond.selects_spec hsel
  cases hcls.symm.trans q1
  cases (State.methodFound?_of_named hnamed hy).symm.trans q2
  cases hnamed.symm.trans q3
  have hselP : selectMethod e.platform s.vm cellB.cls mk = .method mk := by rw [Launch.admits_selectMethod X.admits]; exact q4
  obtain ⟨vm₁, X₁, hstep₁⟩ := X.invokevirtual hexec hown hlink hnamed hmethM hstM hkP hkPi hy (a := b) (cell := cellB) hcell
    (fun z h => by rw [h] at hobj; cases hobj) hselP hmethM habM hkP hkPi (g := g) hg (argsL := argsL) (rest := rest) (hlen _ hsigM) hstack hdg
  rcases hK m meth c ⟨T.setVm vm₁, locs, cells, slots⟩ { g with stack := rest } (.invokevirtual index) mk (Value.ref b :: argsL).toArray X₁ hg hsize hdg hW (X₁.named hnamed) (hpre vm₁ X₁.warmed) with ⟨v, B, X', hpost, hsteps⟩ | ⟨q, B, X', hpost, hsteps⟩
  · exact Or.inl ⟨v, vm₁, B, X₁.warmed, X', hpost, fun target h => hstep₁ _ fun acts => by rw [doInvoke_state]; exact hsteps.trans h⟩
  · exact Or.inr ⟨q, vm₁, B, X₁.warmed, X', hpost, hstep₁ _ fun acts => by rw [doInvoke_state]; exact hsteps⟩
theorem vx_callS (X : Stand p l e R s m args below meth c T locs cells slots) (hexec : p.tables.exec = Jvm.exec) {own : String} {index : Nat} {y : MethodName} {bytes : ByteArray} {maxL : Nat} {ret : Option FieldType}
    (hown : s.vm.findClass own = some m.cls) (hlink : (Cond.methodLink own index y).before args s = true) (hstat : (Cond.static y).before args s = true) (hinit : (Cond.initialized y.cls).before args s = true)
    (hcode : (Cond.code y bytes maxL ret).before args s = true) (hy : y.cls ≠ "java/lang/invoke/MethodHandle" ∧ y.cls ≠ "java/lang/invoke/VarHandle")
    {W9 : Nat} {Pre : Pt → Array Value → Prop} {Post : Pt → Array Value → Option Value → Pt → Prop} {PostX : Pt → Array Value → Addr → Pt → Prop} (hK : vx_Back l R p e below s args y 3 W9 Pre Post PostX)
    {g : JFrame} (hg : g.method = m) (hsize : g.locals.size = c.maxLocals) {argsL rest : List Value} (hlen : ∀ sig, parseMethodDescriptor y.desc = some sig → argsL.length = sig.parameters.length)
    (hstack : g.stack = argsL.reverse ++ rest) (hW : 2 * g.monitorRoom + (rest.map fun v => v.category).sum ≤ W9) (hdg : decode c.code g.pc = .ok (.invokestatic index, 3))
    (hpre : ∀ vm₁, s.WarmedH vm₁ → Pre ⟨T.setVm vm₁, locs, cells, slots⟩ argsL.toArray) :
    (∃ (v : Option Value) (vm₁ : Vm) (B : Pt), s.WarmedH vm₁ ∧ Stand p l e R s m args below meth c B.U B.locs B.cells B.slots ∧ Post ⟨T.setVm vm₁, locs, cells, slots⟩ argsL.toArray v B ∧
      ∀ target, Steps p.tables e below (B.U.setTop { g with pc := g.pc + 3, stack := v.toList ++ rest }) target → Steps p.tables e below (T.setTop g) target) ∨
    (∃ (q : Addr) (vm₁ : Vm) (B : Pt), s.WarmedH vm₁ ∧ Stand p l e R s m args below meth c B.U B.locs B.cells B.slots ∧ PostX ⟨T.setVm vm₁, locs, cells, slots⟩ argsL.toArray q B ∧
      Steps p.tables e below (T.setTop g) ((B.U.setTop { g with stack := rest }).pushFrame (.throwing q))) := by
  obtain ⟨mk, hnamed⟩ := Cond.code_named hcode
  obtain ⟨methM, cM, hmethM, -, -, -, -, -, -, hsigM⟩ := Cond.code_spec hnamed hcode
  have hstatic : methM.isStatic = true := Cond.static_spec hnamed hmethM hstat
  obtain ⟨kP, hkP, -⟩ := className_of_methodNamed hnamed
  have hinitP : kP.init = .initialized := Cond.initialized_spec (findClass_of_methodNamed hnamed) hkP hinit
  obtain ⟨vm₁, X₁, hstep₁⟩ := X.invokestatic hexec hown hlink hnamed hmethM hstatic hkP hinitP hy (g := g) hg (argsL := argsL) (rest := rest) (hlen _ hsigM) hstack hdg
  rcases hK m meth c ⟨T.setVm vm₁, locs, cells, slots⟩ { g with stack := rest } (.invokestatic index) mk argsL.toArray X₁ hg hsize hdg hW (X₁.named hnamed) (hpre vm₁ X₁.warmed) with ⟨v, B, X', hpost, hsteps⟩ | ⟨q, B, X', hpost, hsteps⟩
  · exact Or.inl ⟨v, vm₁, B, X₁.warmed, X', hpost, fun target h => hstep₁ _ fun acts => by rw [doInvoke_state]; exact hsteps.trans h⟩
  · exact Or.inr ⟨q, vm₁, B, X₁.warmed, X', hpost, hstep₁ _ fun acts => by rw [doInvoke_state]; exact hsteps⟩
end Calls
theorem vx_cls {s : State} {T : State} {vm₁ : Vm} {E : String} {k : ClassId} (hW : s.WarmedH vm₁) (h : (T.setVm vm₁).vm.findClass E = some k) : s.vm.findClass E = some k := by
  have h1 : vm₁.findClass E = some k := h
  rw [hW.alike.findClass] at h1
  exact h1
/-- the method's frame g, with q thrown over it -/
def vx_W (p : Program) (l : Launch) (e : Env) (R : Room) (s : State) (m : MethodId) (args : Array Value) (below : List Frame) (meth : Method) (c : Code) (H : Heap) (locs : List Loc) (cells slots : Nat) (Q : State → Prop) (g : JFrame) (q : Addr) : Prop :=
  ∀ T : State, T.heap = H → Stand p l e R s m args below meth c T locs cells slots → ∃ t, Steps p.tables e below ((T.setTop g).pushFrame (.throwing q)) t ∧ Q t
def vx_Run (p : Program) (l : Launch) (e : Env) (R : Room) (s : State) (m : MethodId) (args : Array Value) (below : List Frame) (meth : Method) (c : Code) (H : Heap) (locs : List Loc) (cells slots mc ms : Nat) (g : JFrame) (rest : List Value) (Qa : State → Outcome → State → Prop) (XC : String → State → State → Prop) (free : Addr → Prop) : Prop :=
  ∀ T : State, T.heap = H → Stand p l e R s m args below meth c T locs cells slots →
    (∃ (v : Option Value) (st₀ t T' : State) (L : List Loc), st₀.heap = H ∧ Stand p l e R s m args below meth c T' (locs ++ L) (cells + mc) (slots + ms) ∧ (∀ q ∈ L, free q.base) ∧ T'.heap = t.heap ∧ T'.vm = t.vm ∧ Qa st₀ (.returned v) t ∧
      Goes p e below T g T' { g with pc := g.pc + 3, stack := v.toList ++ rest }) ∨
    (∃ (q : Addr) (st₀ t T' : State) (L : List Loc) (E : String) (ce : Cell), st₀.heap = H ∧ Stand p l e R s m args below meth c T' (locs ++ L) (cells + mc) (slots + ms) ∧ (∀ z ∈ L, free z.base) ∧ T'.heap = t.heap ∧ T'.vm = t.vm ∧ XC E st₀ t ∧ t.heap[q]? = some ce ∧ ce.vm = .none ∧ s.vm.findClass E = some ce.cls ∧
      Steps p.tables e below (T.setTop g) ((T'.setTop { g with stack := rest }).pushFrame (.throwing q)))
def vx_X {S : Type} (px : S → Prop) (B : String → S → State → Prop) (A : Nat → Prop) : String → State → State → Prop := fun E st t => ∃ u : S, px u ∧ B E u t ∧ va_F A st t
section Runs
variable {p : Program} {l : Launch} {e : Env} {R : Room} {s : State} {m : MethodId} {args : Array Value} {below : List Frame} {meth : Method} {c : Code} {H : Heap} {locs : List Loc} {cells slots : Nat}
variable {y : MethodName} {bytes cc : ByteArray} {maxL nL mc ms n index : Nat} {ret : Option FieldType} {ws : List Cond} {rm : Room} {Pc : Array Value → State → Prop} {Qc : Array Value → State → Outcome → State → Prop} {XC : String → State → State → Prop} {free : Addr → Prop} {Ts : List Cond} {own C : String} {b : Addr} {As rest : List Value} {g : JFrame}
theorem vx_callBack (cb : CallB R s args own index y bytes maxL ret ws rm mc ms n) (hM : vx_Met l y ws rm Pc Qc XC mc ms free) (hbl : FrameBlind Pc) : vx_Back l R p e below s args y 3 8 (PreOf R mc ms Pc) (PostOf Qc mc ms free) (vx_Post XC mc ms free) := by
  obtain ⟨hrc, hrs, hfr, hlo, hws, hcw, -, hini, -⟩ := cb
  exact vx_back (bytes := bytes) (maxL := maxL) (ret := ret) hM hbl hrc hrs hfr hlo hws hcw (fun a' U hW => word_at hW (Or.inl (by first | rfl | simp [Cond.onTables, Cond.keeps, Cond.steady])) hini)
theorem vx_runV (S : CallFix p m c cc nL s args Ts own) (hM : vx_Met l y ws rm Pc Qc XC mc ms free) (cw : CallW R s args own C index y bytes maxL ret ws rm mc ms n) (hp : PreV s H C b Pc As)
    (hg : g.method = m) (hn : As.length = n) (hsize : g.locals.size = nL) (hstack : g.stack = As.reverse ++ .ref b :: rest) (hW : 2 * g.monitorRoom + (rest.map fun v => v.category).sum ≤ 8) (hdg : decode cc g.pc = .ok (.invokevirtual index, 3)) (hf : cells + mc ≤ R.cells ∧ slots + ms ≤ R.slots) :
    vx_Run p l e R s m args below meth c H locs cells slots mc ms g rest (Qc (Value.ref b :: As).toArray) XC free := by
  have hK : vx_Back l R p e below s args y 3 8 (PreOf R mc ms Pc) (PostOf Qc mc ms free) (vx_Post XC mc ms free) := vx_callBack cw.1 hM hp.1
  obtain ⟨⟨-, -, -, -, -, -, hcode, -, hy, hlen, hl⟩, hin, hse⟩ := cw
  obtain ⟨hx, hb, hml, ho, -⟩ := S
  obtain ⟨-, ⟨cellB, hcB, hoB, hclB⟩, hPc⟩ := hp
  intro T hT X
  rcases vx_callV X hx (C := C) (bytes := bytes) (maxL := maxL) (ret := ret) ho hl hin hse hcode hy hK (by rw [hT]; exact hcB) hoB hclB hg (hsize.trans hml.symm) (argsL := As) (rest := rest) (fun sig h => hn.trans (hlen sig h)) hstack hW (by rw [hb]; exact hdg)
    (fun vm₁ hW₁ => ⟨hf.1, hf.2, hPc (T.setVm vm₁) hT hW₁⟩) with ⟨v, vm₁, ⟨U', l2, c2, s2⟩, hW₁, X', ⟨g', mk, t, L, e1, e2, hq, h1, hL, h2, h3⟩, st⟩ | ⟨q, vm₁, ⟨U', l2, c2, s2⟩, hW₁, X', ⟨g', mk, t, L, E, ce, e1, e2, hq, hce, hcv, hcl, h1, hL, h2, h3⟩, st⟩
  · dsimp only [Pt.U, Pt.locs, Pt.cells, Pt.slots] at X' e1 e2 h1 h2 h3 st
    subst h1; subst h2; subst h3
    exact Or.inl ⟨v, (T.setVm vm₁).calling g' mk (Value.ref b :: As).toArray, t, U', L, hT, X', hL, e1, e2, hq, st⟩
  · dsimp only [Pt.U, Pt.locs, Pt.cells, Pt.slots] at X' e1 e2 h1 h2 h3 st hcl
    subst h1; subst h2; subst h3
    exact Or.inr ⟨q, (T.setVm vm₁).calling g' mk (Value.ref b :: As).toArray, t, U', L, E, ce, hT, X', hL, e1, e2, hq, hce, hcv, vx_cls hW₁ hcl, st⟩
theorem vx_runS (S : CallFix p m c cc nL s args Ts own) (hM : vx_Met l y ws rm Pc Qc XC mc ms free) (cw : CallB R s args own index y bytes maxL ret ws rm mc ms n ∧ (Cond.static y).before args s = true) (hp : PreS s H Pc As)
    (hg : g.method = m) (hn : As.length = n) (hsize : g.locals.size = nL) (hstack : g.stack = As.reverse ++ rest) (hW : 2 * g.monitorRoom + (rest.map fun v => v.category).sum ≤ 8) (hdg : decode cc g.pc = .ok (.invokestatic index, 3)) (hf : cells + mc ≤ R.cells ∧ slots + ms ≤ R.slots) :
    vx_Run p l e R s m args below meth c H locs cells slots mc ms g rest (Qc As.toArray) XC free := by
  have hK : vx_Back l R p e below s args y 3 8 (PreOf R mc ms Pc) (PostOf Qc mc ms free) (vx_Post XC mc ms free) := vx_callBack cw.1 hM hp.1
  obtain ⟨⟨-, -, -, -, -, -, hcode, hini, hy, hlen, hl⟩, hstt⟩ := cw
  obtain ⟨hx, hb, hml, ho, -⟩ := S
  intro T hT X
  rcases vx_callS X hx (bytes := bytes) (maxL := maxL) (ret := ret) ho hl hstt hini hcode hy hK hg (hsize.trans hml.symm) (argsL := As) (rest := rest) (fun sig h => hn.trans (hlen sig h)) hstack hW (by rw [hb]; exact hdg)
    (fun vm₁ hW₁ => ⟨hf.1, hf.2, hp.2 (T.setVm vm₁) hT hW₁⟩) with ⟨v, vm₁, ⟨U', l2, c2, s2⟩, hW₁, X', ⟨g', mk, t, L, e1, e2, hq, h1, hL, h2, h3⟩, st⟩ | ⟨q, vm₁, ⟨U', l2, c2, s2⟩, hW₁, X', ⟨g', mk, t, L, E, ce, e1, e2, hq, hce, hcv, hcl, h1, hL, h2, h3⟩, st⟩
  · dsimp only [Pt.U, Pt.locs, Pt.cells, Pt.slots] at X' e1 e2 h1 h2 h3 st
    subst h1; subst h2; subst h3
    exact Or.inl ⟨v, (T.setVm vm₁).calling g' mk As.toArray, t, U', L, hT, X', hL, e1, e2, hq, st⟩
  · dsimp only [Pt.U, Pt.locs, Pt.cells, Pt.slots] at X' e1 e2 h1 h2 h3 st hcl
    subst h1; subst h2; subst h3
    exact Or.inr ⟨q, (T.setVm vm₁).calling g' mk As.toArray, t, U', L, E, ce, hT, X', hL, e1, e2, hq, hce, hcv, vx_cls hW₁ hcl, st⟩
end Runs
section Rows
variable {p : Program} {l : Launch} {e : Env} {R : Room} {s : State} {m : MethodId} {args : Array Value} {below : List Frame} {meth : Method} {c : Code} {H : Heap} {locs : List Loc} {cells slots : Nat} {Q : State → Prop}
variable {mc ms : Nat} {free : Addr → Prop} {A0 A1 : Nat → Prop} {H0 : Heap} {a : Array Value} {pc : Nat} {ls : Array Slot} {st0 rest : List Value}
theorem vx_keep {st₀ t T' : State} {L : List Loc} (h0 : st₀.heap = H) (e1 : T'.heap = t.heap) (hS : va_S A0 H0 H locs) (hA : ∀ q, q < H.size → A1 q → A0 q) (hf : ∀ q, free q → A0 q) (hL : ∀ q ∈ L, free q.base) (hF : va_F A1 st₀ t) :
    H.size ≤ T'.heap.size ∧ (∀ q : Nat, q < H.size → ¬ A1 q → T'.heap[q]? = H[q]?) ∧ va_S A0 H0 T'.heap (locs ++ L) := by
  obtain ⟨hz, hk⟩ := hF
  rw [h0] at hz hk
  exact ⟨by rw [e1]; exact hz, fun q h1 h2 => by rw [e1]; exact hk q h1 h2,
    ⟨Nat.le_trans hS.1 (by rw [e1]; exact hz), fun q h1 h2 => by rw [e1, hk q (Nat.lt_of_lt_of_le h1 hS.1) (fun z => h2 (hA q (Nat.lt_of_lt_of_le h1 hS.1) z))]; exact hS.2.1 q h1 h2, fun q hq => by
      rcases List.mem_append.mp hq with h | h
      · exact hS.2.2 q h
      · exact hf _ (hL q h)⟩⟩
theorem vx_calli {S SX : Type} {post : Int32 → S → Prop} {px : SX → Prop} {B : S → State → Prop} {BX : String → SX → State → Prop} {AX : Nat → Prop} (hr : vx_Run p l e R s m args below meth c H locs cells slots mc ms (F0 m pc ls st0) rest (va_Qi post B A1 a) (vx_X px BX AX) free) (hS : va_S A0 H0 H locs) (hA : ∀ q, q < H.size → A1 q → A0 q) (hf : ∀ q, free q → A0 q) (hAX : ∀ q, q < H.size → AX q → A0 q)
    (kx : ∀ (E : String) (ce : Cell) (q9 : Addr) (u : SX) (t : State) (H1 : Heap) (locs1 : List Loc), t.heap = H1 → s.vm.Alike t.vm → px u → BX E u t → H.size ≤ H1.size → (∀ q : Nat, q < H.size → ¬ AX q → H1[q]? = H[q]?) → va_S A0 H0 H1 locs1 → H1[q9]? = some ce → ce.vm = .none → s.vm.findClass E = some ce.cls → vx_W p l e R s m args below meth c H1 locs1 (cells + mc) (slots + ms) Q (F0 m pc ls rest) q9)
    (kk : ∀ (r : Int32) (u : S) (t : State) (H1 : Heap) (locs1 : List Loc), t.heap = H1 → s.vm.Alike t.vm → post r u → B u t → H.size ≤ H1.size → (∀ q : Nat, q < H.size → ¬ A1 q → H1[q]? = H[q]?) → va_S A0 H0 H1 locs1 → W p l e R s m args below meth c H1 locs1 (cells + mc) (slots + ms) Q (F0 m (pc + 3) ls (.int r :: rest))) : W p l e R s m args below meth c H locs cells slots Q (F0 m pc ls st0) := by
  intro T hT X
  rcases hr T hT X with ⟨v, st₀, t, T', L, h0, X', hL, e1, e2, ⟨⟨r, u, hv, hp, hb⟩, hF⟩, st⟩ | ⟨q, st₀, t, T', L, E, ce, h0, X', hL, e1, e2, ⟨u, hp, hb, hF⟩, hce, hcv, hcl, st⟩
  · cases hv
    obtain ⟨k1, k2, k3⟩ := vx_keep h0 e1 hS hA hf hL hF
    obtain ⟨t2, a1, b1⟩ := kk r u t T'.heap (locs ++ L) e1.symm (by rw [← e2]; exact X'.warmed.alike) hp hb k1 k2 k3 T' rfl X'
    exact ⟨t2, st t2 a1, b1⟩
  · obtain ⟨k1, k2, k3⟩ := vx_keep h0 e1 hS hAX hf hL hF
    obtain ⟨t2, a1, b1⟩ := kx E ce q u t T'.heap (locs ++ L) e1.symm (by rw [← e2]; exact X'.warmed.alike) hp hb k1 k2 k3 (by rw [e1]; exact hce) hcv hcl T' rfl X'
    exact ⟨t2, st.trans a1, b1⟩
theorem vx_calll {S SX : Type} {post : Int64 → S → Prop} {px : SX → Prop} {B : S → State → Prop} {BX : String → SX → State → Prop} {AX : Nat → Prop} (hr : vx_Run p l e R s m args below meth c H locs cells slots mc ms (F0 m pc ls st0) rest (va_Ql post B A1 a) (vx_X px BX AX) free) (hS : va_S A0 H0 H locs) (hA : ∀ q, q < H.size → A1 q → A0 q) (hf : ∀ q, free q → A0 q) (hAX : ∀ q, q < H.size → AX q → A0 q)
    (kx : ∀ (E : String) (ce : Cell) (q9 : Addr) (u : SX) (t : State) (H1 : Heap) (locs1 : List Loc), t.heap = H1 → s.vm.Alike t.vm → px u → BX E u t → H.size ≤ H1.size → (∀ q : Nat, q < H.size → ¬ AX q → H1[q]? = H[q]?) → va_S A0 H0 H1 locs1 → H1[q9]? = some ce → ce.vm = .none → s.vm.findClass E = some ce.cls → vx_W p l e R s m args below meth c H1 locs1 (cells + mc) (slots + ms) Q (F0 m pc ls rest) q9)
    (kk : ∀ (r : Int64) (u : S) (t : State) (H1 : Heap) (locs1 : List Loc), t.heap = H1 → s.vm.Alike t.vm → post r u → B u t → H.size ≤ H1.size → (∀ q : Nat, q < H.size → ¬ A1 q → H1[q]? = H[q]?) → va_S A0 H0 H1 locs1 → W p l e R s m args below meth c H1 locs1 (cells + mc) (slots + ms) Q (F0 m (pc + 3) ls (.long r :: rest))) : W p l e R s m args below meth c H locs cells slots Q (F0 m pc ls st0) := by
  intro T hT X
  rcases hr T hT X with ⟨v, st₀, t, T', L, h0, X', hL, e1, e2, ⟨⟨r, u, hv, hp, hb⟩, hF⟩, st⟩ | ⟨q, st₀, t, T', L, E, ce, h0, X', hL, e1, e2, ⟨u, hp, hb, hF⟩, hce, hcv, hcl, st⟩
  · cases hv
    obtain ⟨k1, k2, k3⟩ := vx_keep h0 e1 hS hA hf hL hF
    obtain ⟨t2, a1, b1⟩ := kk r u t T'.heap (locs ++ L) e1.symm (by rw [← e2]; exact X'.warmed.alike) hp hb k1 k2 k3 T' rfl X'
    exact ⟨t2, st t2 a1, b1⟩
  · obtain ⟨k1, k2, k3⟩ := vx_keep h0 e1 hS hAX hf hL hF
    obtain ⟨t2, a1, b1⟩ := kx E ce q u t T'.heap (locs ++ L) e1.symm (by rw [← e2]; exact X'.warmed.alike) hp hb k1 k2 k3 (by rw [e1]; exact hce) hcv hcl T' rfl X'
    exact ⟨t2, st.trans a1, b1⟩
theorem vx_callf {S SX : Type} {post : UInt32 → S → Prop} {px : SX → Prop} {B : S → State → Prop} {BX : String → SX → State → Prop} {AX : Nat → Prop} (hr : vx_Run p l e R s m args below meth c H locs cells slots mc ms (F0 m pc ls st0) rest (va_Qf post B A1 a) (vx_X px BX AX) free) (hS : va_S A0 H0 H locs) (hA : ∀ q, q < H.size → A1 q → A0 q) (hf : ∀ q, free q → A0 q) (hAX : ∀ q, q < H.size → AX q → A0 q)
    (kx : ∀ (E : String) (ce : Cell) (q9 : Addr) (u : SX) (t : State) (H1 : Heap) (locs1 : List Loc), t.heap = H1 → s.vm.Alike t.vm → px u → BX E u t → H.size ≤ H1.size → (∀ q : Nat, q < H.size → ¬ AX q → H1[q]? = H[q]?) → va_S A0 H0 H1 locs1 → H1[q9]? = some ce → ce.vm = .none → s.vm.findClass E = some ce.cls → vx_W p l e R s m args below meth c H1 locs1 (cells + mc) (slots + ms) Q (F0 m pc ls rest) q9)
    (kk : ∀ (r : UInt32) (u : S) (t : State) (H1 : Heap) (locs1 : List Loc), t.heap = H1 → s.vm.Alike t.vm → post r u → B u t → H.size ≤ H1.size → (∀ q : Nat, q < H.size → ¬ A1 q → H1[q]? = H[q]?) → va_S A0 H0 H1 locs1 → W p l e R s m args below meth c H1 locs1 (cells + mc) (slots + ms) Q (F0 m (pc + 3) ls (.float r :: rest))) : W p l e R s m args below meth c H locs cells slots Q (F0 m pc ls st0) := by
  intro T hT X
  rcases hr T hT X with ⟨v, st₀, t, T', L, h0, X', hL, e1, e2, ⟨⟨r, u, hv, hp, hb⟩, hF⟩, st⟩ | ⟨q, st₀, t, T', L, E, ce, h0, X', hL, e1, e2, ⟨u, hp, hb, hF⟩, hce, hcv, hcl, st⟩
  · cases hv
    obtain ⟨k1, k2, k3⟩ := vx_keep h0 e1 hS hA hf hL hF
    obtain ⟨t2, a1, b1⟩ := kk r u t T'.heap (locs ++ L) e1.symm (by rw [← e2]; exact X'.warmed.alike) hp hb k1 k2 k3 T' rfl X'
    exact ⟨t2, st t2 a1, b1⟩
  · obtain ⟨k1, k2, k3⟩ := vx_keep h0 e1 hS hAX hf hL hF
    obtain ⟨t2, a1, b1⟩ := kx E ce q u t T'.heap (locs ++ L) e1.symm (by rw [← e2]; exact X'.warmed.alike) hp hb k1 k2 k3 (by rw [e1]; exact hce) hcv hcl T' rfl X'
    exact ⟨t2, st.trans a1, b1⟩
theorem vx_calld {S SX : Type} {post : UInt64 → S → Prop} {px : SX → Prop} {B : S → State → Prop} {BX : String → SX → State → Prop} {AX : Nat → Prop} (hr : vx_Run p l e R s m args below meth c H locs cells slots mc ms (F0 m pc ls st0) rest (va_Qd post B A1 a) (vx_X px BX AX) free) (hS : va_S A0 H0 H locs) (hA : ∀ q, q < H.size → A1 q → A0 q) (hf : ∀ q, free q → A0 q) (hAX : ∀ q, q < H.size → AX q → A0 q)
    (kx : ∀ (E : String) (ce : Cell) (q9 : Addr) (u : SX) (t : State) (H1 : Heap) (locs1 : List Loc), t.heap = H1 → s.vm.Alike t.vm → px u → BX E u t → H.size ≤ H1.size → (∀ q : Nat, q < H.size → ¬ AX q → H1[q]? = H[q]?) → va_S A0 H0 H1 locs1 → H1[q9]? = some ce → ce.vm = .none → s.vm.findClass E = some ce.cls → vx_W p l e R s m args below meth c H1 locs1 (cells + mc) (slots + ms) Q (F0 m pc ls rest) q9)
    (kk : ∀ (r : UInt64) (u : S) (t : State) (H1 : Heap) (locs1 : List Loc), t.heap = H1 → s.vm.Alike t.vm → post r u → B u t → H.size ≤ H1.size → (∀ q : Nat, q < H.size → ¬ A1 q → H1[q]? = H[q]?) → va_S A0 H0 H1 locs1 → W p l e R s m args below meth c H1 locs1 (cells + mc) (slots + ms) Q (F0 m (pc + 3) ls (.double r :: rest))) : W p l e R s m args below meth c H locs cells slots Q (F0 m pc ls st0) := by
  intro T hT X
  rcases hr T hT X with ⟨v, st₀, t, T', L, h0, X', hL, e1, e2, ⟨⟨r, u, hv, hp, hb⟩, hF⟩, st⟩ | ⟨q, st₀, t, T', L, E, ce, h0, X', hL, e1, e2, ⟨u, hp, hb, hF⟩, hce, hcv, hcl, st⟩
  · cases hv
    obtain ⟨k1, k2, k3⟩ := vx_keep h0 e1 hS hA hf hL hF
    obtain ⟨t2, a1, b1⟩ := kk r u t T'.heap (locs ++ L) e1.symm (by rw [← e2]; exact X'.warmed.alike) hp hb k1 k2 k3 T' rfl X'
    exact ⟨t2, st t2 a1, b1⟩
  · obtain ⟨k1, k2, k3⟩ := vx_keep h0 e1 hS hAX hf hL hF
    obtain ⟨t2, a1, b1⟩ := kx E ce q u t T'.heap (locs ++ L) e1.symm (by rw [← e2]; exact X'.warmed.alike) hp hb k1 k2 k3 (by rw [e1]; exact hce) hcv hcl T' rfl X'
    exact ⟨t2, st.trans a1, b1⟩
theorem vx_callv {S SX : Type} {post : S → Prop} {px : SX → Prop} {B : S → State → Prop} {BX : String → SX → State → Prop} {AX : Nat → Prop} (hr : vx_Run p l e R s m args below meth c H locs cells slots mc ms (F0 m pc ls st0) rest (va_Qv post B A1 a) (vx_X px BX AX) free) (hS : va_S A0 H0 H locs) (hA : ∀ q, q < H.size → A1 q → A0 q) (hf : ∀ q, free q → A0 q) (hAX : ∀ q, q < H.size → AX q → A0 q)
    (kx : ∀ (E : String) (ce : Cell) (q9 : Addr) (u : SX) (t : State) (H1 : Heap) (locs1 : List Loc), t.heap = H1 → s.vm.Alike t.vm → px u → BX E u t → H.size ≤ H1.size → (∀ q : Nat, q < H.size → ¬ AX q → H1[q]? = H[q]?) → va_S A0 H0 H1 locs1 → H1[q9]? = some ce → ce.vm = .none → s.vm.findClass E = some ce.cls → vx_W p l e R s m args below meth c H1 locs1 (cells + mc) (slots + ms) Q (F0 m pc ls rest) q9)
    (kk : ∀ (u : S) (t : State) (H1 : Heap) (locs1 : List Loc), t.heap = H1 → s.vm.Alike t.vm → post u → B u t → H.size ≤ H1.size → (∀ q : Nat, q < H.size → ¬ A1 q → H1[q]? = H[q]?) → va_S A0 H0 H1 locs1 → W p l e R s m args below meth c H1 locs1 (cells + mc) (slots + ms) Q (F0 m (pc + 3) ls (rest))) : W p l e R s m args below meth c H locs cells slots Q (F0 m pc ls st0) := by
  intro T hT X
  rcases hr T hT X with ⟨v, st₀, t, T', L, h0, X', hL, e1, e2, ⟨⟨u, hv, hp, hb⟩, hF⟩, st⟩ | ⟨q, st₀, t, T', L, E, ce, h0, X', hL, e1, e2, ⟨u, hp, hb, hF⟩, hce, hcv, hcl, st⟩
  · cases hv
    obtain ⟨k1, k2, k3⟩ := vx_keep h0 e1 hS hA hf hL hF
    obtain ⟨t2, a1, b1⟩ := kk u t T'.heap (locs ++ L) e1.symm (by rw [← e2]; exact X'.warmed.alike) hp hb k1 k2 k3 T' rfl X'
    exact ⟨t2, st t2 a1, b1⟩
  · obtain ⟨k1, k2, k3⟩ := vx_keep h0 e1 hS hAX hf hL hF
    obtain ⟨t2, a1, b1⟩ := kx E ce q u t T'.heap (locs ++ L) e1.symm (by rw [← e2]; exact X'.warmed.alike) hp hb k1 k2 k3 (by rw [e1]; exact hce) hcv hcl T' rfl X'
    exact ⟨t2, st.trans a1, b1⟩
/-- caught by the row x of this method's table; the rows ahead don't take it -/
theorem vx_catch {own name : String} {E : String} {ce : Cell} {q : Addr} (hown : s.vm.findClass own = some m.cls) (pre : List ExceptionTableEntry) (x : ExceptionTableEntry) (suf : List ExceptionTableEntry) (hsplit : c.exceptionTable.toList = pre ++ x :: suf)
    (hpass : ∀ z ∈ pre, covers z pc = false ∨ (z.catchType ≠ 0 ∧ ∃ nm : String, (Cond.classLink own z.catchType nm).before args s = true ∧ va_Nc E nm s)) (hx : covers x pc = true) (h0 : x.catchType ≠ 0)
    (hlink : (Cond.classLink own x.catchType name).before args s = true) (hcast : (Cond.castable E name).before args s = true) (hcell : H[q]? = some ce) (hv : ce.vm = .none) (hcl : s.vm.findClass E = some ce.cls)
    (kk : W p l e R s m args below meth c H locs cells slots Q (F0 m x.handlerPc ls [.ref q])) : vx_W p l e R s m args below meth c H locs cells slots Q (F0 m pc ls rest) q := by
  intro T hT X
  have hpl : e.platform.magicAccessors = ({} : Platform).magicAccessors := by rw [X.admits.platform]
  obtain ⟨c3, c4, hc3, hc4, hasg⟩ := Cond.castable_spec hcast
  cases Option.some.inj (hc3.symm.trans hcl)
  obtain ⟨c5, hc5, hcl5⟩ := Cond.classLink_spec hown hlink e.platform hpl
  cases Option.some.inj (hc4.symm.trans hc5)
  obtain ⟨vm', X', st⟩ := X.thenCaughtThrough q (g := F0 m pc ls rest) rfl (Steps.refl _) (by rw [hT]; exact hcell) (by rw [hv]; rfl) (by obtain ⟨k9, h9, -⟩ := Vm.findClass_spec hcl; exact ⟨k9, h9⟩) pre x suf hsplit
    (fun z hz => by
      rcases hpass z hz with h | ⟨hz0, nm, hl1, hn1⟩
      · exact Or.inl h
      · obtain ⟨c6, hc6, hcl6⟩ := Cond.classLink_spec hown hl1 e.platform hpl
        obtain ⟨a8, b8, h1, h2, h3⟩ := hn1
        cases Option.some.inj (h1.symm.trans hcl)
        cases Option.some.inj (h2.symm.trans hc6)
        exact Or.inr ⟨hz0, _, hcl6, h3⟩) hx (Or.inr ⟨h0, c4, hcl5, hasg⟩)
  obtain ⟨t, a1, b1⟩ := kk (T.setVm vm') hT X'
  exact ⟨t, st.trans a1, b1⟩
end Rows
section Ends
variable {p : Program} {l : Launch} {e : Env} {R : Room} {s : State} {m : MethodId} {args : Array Value} {below : List Frame} {meth : Method} {c : Code} {H : Heap} {locs : List Loc} {cells slots : Nat} {Q : State → Prop}
variable {mc ms : Nat} {free : Addr → Prop} {A0 A1 : Nat → Prop} {H0 : Heap} {a : Array Value} {ls : Array Slot} {st0 rest : List Value}
variable {Qc : Array Value → State → Outcome → State → Prop} {XC : String → State → State → Prop}
/-- what a body that may throw owes at its end -/
def vx_MQ (below : List Frame) (Qc : Array Value → State → Outcome → State → Prop) (XC : String → State → State → Prop) (a : Array Value) (s : State) (mc ms : Nat) (free : Addr → Prop) : State → Prop := fun t =>
  ∃ o, t.status = .running ∧ Ended t below o ∧ vx_Q Qc XC mc ms free a s o t
theorem vx_ret {g : JFrame} {mc ms : Nat} (k : W p l e R s m args below meth c H locs cells slots (MQ below Qc args s mc ms free) g) : W p l e R s m args below meth c H locs cells slots (vx_MQ below Qc XC args s mc ms free) g := by
  intro T hT X
  obtain ⟨t, a1, o, b1, b2, b3, b4⟩ := k T hT X
  exact ⟨t, a1, o, b1, b2, Or.inl ⟨b3, b4⟩⟩
/-- not caught here: it goes on to the caller -/
theorem vx_widen {g : JFrame} {q : Addr} {k n : Nat} (h1 : cells ≤ k) (h2 : slots ≤ n) (kk : vx_W p l e R s m args below meth c H locs k n Q g q) : vx_W p l e R s m args below meth c H locs cells slots Q g q := fun T hT X => kk T hT (stand_widen X h1 h2)
theorem vx_out {pc : Nat} {E : String} {ce : Cell} {q : Addr} {mc ms : Nat} (hout : ∀ x ∈ c.exceptionTable.toList, covers x pc = false) (hlocks : meth.locks = false) (hcell : H[q]? = some ce) (hv : ce.vm = .none) (hcl : s.vm.findClass E = some ce.cls)
    (hx : ∀ t : State, t.heap = H → s.vm.Alike t.vm → XC E s t) (hf : ∀ z ∈ locs, free z.base) (hc : cells ≤ mc) (hs : slots ≤ ms) :
    vx_W p l e R s m args below meth c H locs cells slots (vx_MQ below Qc XC args s mc ms free) (F0 m pc ls rest) q := by
  intro T hT X
  obtain ⟨st1, hrun, hend, hW, hsm⟩ := X.leaveThrown q (g := F0 m pc ls rest) rfl rfl rfl hout hlocks
  have hcell9 : (T.setFrames (.throwing q :: below)).heap[q]? = some ce := by
    show T.heap[q]? = some ce
    rw [hT]; exact hcell
  exact ⟨_, st1, .threw q, hrun, hend, Or.inr ⟨q, rfl, E, ce, locs, hx _ hT hW.alike, hcell9, hv, hcl, hW, hsm.mono hc hs, hf⟩⟩
theorem vx_frame {U : State} {k n : Nat} (h : s.sameButNew ({ U with vm := s.vm } : State) locs k n) : s.heap.size ≤ U.heap.size ∧ ∀ q : Nat, q < s.heap.size → (∀ z ∈ locs, z.base ≠ q) → U.heap[q]? = s.heap[q]? := by
  obtain ⟨-, h2, -, -, -, h6⟩ := h
  refine ⟨h2, fun q hq hz => ?_⟩
  obtain ⟨c9, e1, e2, e3, e4⟩ := h6 q _ (Array.getElem?_eq_getElem hq)
  have hs : c9.slots = (s.heap[q]).slots := Array.ext_getElem? fun i => e4 i fun hm => hz _ hm rfl
  have h9 : c9 = s.heap[q] := by
    rw [hs] at e2
    exact e2
  have e5 : U.heap[q]? = some c9 := e1
  rw [e5, h9, Array.getElem?_eq_getElem hq]
/-- the words of a throw but the four that speak of the heap -/
def vx_no (w : Cond) : Bool := decide (w ≠ .isRef (.static Bundle.tN "UNASSIGNED_STACK" Bundle.steD)) && decide (w ≠ .isRef (.static Bundle.tN "SUPPRESSED_SENTINEL" Bundle.listD)) && decide (w ≠ .laysStatic Bundle.tN "UNASSIGNED_STACK" Bundle.steD) && decide (w ≠ .laysStatic Bundle.tN "SUPPRESSED_SENTINEL" Bundle.listD)
def vx_at0 (own : String) (ic : Nat) (X : String) (names : List String) : List Cond := (Bundle.ownAtoms0 own ic X names).filter vx_no
def vx_atS (own : String) (ic : Nat) (X : String) (names : List String) : List Cond := (Bundle.ownAtoms own ic X names).filter vx_no
/-- a word that the tables alone decide, or a good one -/
def vx_ot (w : Cond) : Bool := w.onTables || goodWord w
theorem vx_ot_at {args a' : Array Value} {s U : State} {w : Cond} (hW : s.WarmedH U.vm) (hvm : s.vm = U.vm) (hg : vx_ot w = true) (h : w.before args s = true) : w.before a' U = true := by
  simp only [vx_ot, Bool.or_eq_true] at hg
  rcases hg with hg | hg
  · exact va_tabs hg hvm h
  · exact word_at hW (good_of_word hg) h
/-- a list's words: the good ones out of the method's own list, the others by premises of their own -/
theorem vx_hat {args : Array Value} {s : State} {L B : List Cond} (h1 : ∀ w ∈ L.filter goodWord, w.before args s = true) (h2 : ∀ w ∈ L.filter (fun w => !goodWord w), w ∈ B) (h3 : ∀ w ∈ B, w.before args s = true) : ∀ w ∈ L, w.before args s = true := by
  intro w hw
  by_cases g : goodWord w = true
  · exact h1 w (List.mem_filter.mpr ⟨hw, g⟩)
  · refine h3 w (h2 w (List.mem_filter.mpr ⟨hw, ?_⟩))
    show (!goodWord w) = true
    cases hgw : goodWord w
    · rfl
    · exact absurd hgw g
theorem vx_c {args : Array Value} {s : State} {w : Cond} {B : List Cond} (h : w.before args s = true) (t : ∀ w ∈ B, w.before args s = true) : ∀ w' ∈ w :: B, w'.before args s = true := fun w' h' => (List.mem_cons.mp h').elim (fun e => by rw [e]; exact h) (t w')
theorem vx_n {args : Array Value} {s : State} : ∀ w ∈ ([] : List Cond), w.before args s = true := fun _ h => nomatch h
theorem vx_own {args : Array Value} {s : State} {L : List Cond} (h1 : ∀ w ∈ L.filter vx_no, w.before args s = true)
    (hU : (Cond.isRef (.static Bundle.tN "UNASSIGNED_STACK" Bundle.steD)).before args s = true) (hN : (Cond.isRef (.static Bundle.tN "SUPPRESSED_SENTINEL" Bundle.listD)).before args s = true)
    (lU : (Cond.laysStatic Bundle.tN "UNASSIGNED_STACK" Bundle.steD).before args s = true) (lN : (Cond.laysStatic Bundle.tN "SUPPRESSED_SENTINEL" Bundle.listD).before args s = true) : ∀ w ∈ L, w.before args s = true := by
  intro w hw
  by_cases e1 : w = .isRef (.static Bundle.tN "UNASSIGNED_STACK" Bundle.steD)
  · rw [e1]; exact hU
  · by_cases e2 : w = .isRef (.static Bundle.tN "SUPPRESSED_SENTINEL" Bundle.listD)
    · rw [e2]; exact hN
    · by_cases e3 : w = .laysStatic Bundle.tN "UNASSIGNED_STACK" Bundle.steD
      · rw [e3]; exact lU
      · by_cases e4 : w = .laysStatic Bundle.tN "SUPPRESSED_SENTINEL" Bundle.listD
        · rw [e4]; exact lN
        · exact h1 w (List.mem_filter.mpr ⟨hw, by unfold vx_no; rw [decide_eq_true e1, decide_eq_true e2, decide_eq_true e3, decide_eq_true e4]; rfl⟩)
/-- where a static field lies, its class's statics cell in H -/
def vx_L (C n d : String) (A : Nat → Prop) (U : State) (H : Heap) : Prop := ∃ (c : ClassId) (k : Class) (i : Nat) (f : Field) (a : Nat) (cell : Cell), U.vm.findClass C = some c ∧ U.fieldFound? C n d = some (c, k, i, f) ∧ f.isStatic = true ∧ k.statics = some a ∧ H[a]? = some cell ∧ cell.vm.isStatics = true ∧ cell.cls = c ∧ f.slot < cell.slots.size ∧ k.staticTypes[f.slot]? = some f.type ∧ ¬ A a
theorem vx_L.moved {C n d : String} {A : Nat → Prop} {u U : State} {H : Heap} (hvm : u.vm.Alike U.vm) (h : vx_L C n d A u H) : vx_L C n d A U H := by
  obtain ⟨c, k, i, f, a, cell, h1, h2, h3, h4, h5, h6, h7, h8, h9, h10⟩ := h
  obtain ⟨k', hi', he⟩ := State.fieldFound?_setVm hvm h2
  exact ⟨c, k', i, f, a, cell, by rw [hvm.findClass]; exact h1, hi', h3, by rw [he]; exact h4, h5, h6, h7, h8, by rw [he]; exact h9, h10⟩
theorem vx_L.kept {C n d : String} {A : Nat → Prop} {U : State} {H H1 : Heap} (h : vx_L C n d A U H) (hq : ∀ a : Nat, a < H.size → ¬ A a → H1[a]? = H[a]?) : vx_L C n d A U H1 := by
  obtain ⟨c, k, i, f, a, cell, h1, h2, h3, h4, h5, h6, h7, h8, h9, h10⟩ := h
  exact ⟨c, k, i, f, a, cell, h1, h2, h3, h4, by rw [hq a (Array.getElem?_eq_some_iff.mp h5).1 h10]; exact h5, h6, h7, h8, h9, h10⟩
theorem vx_L.narrow {C n d : String} {A B : Nat → Prop} {U : State} {H : Heap} (h : vx_L C n d A U H) (hAB : ∀ q, B q → A q) : vx_L C n d B U H := by
  obtain ⟨c, k, i, f, a, cell, h1, h2, h3, h4, h5, h6, h7, h8, h9, h10⟩ := h
  exact ⟨c, k, i, f, a, cell, h1, h2, h3, h4, h5, h6, h7, h8, h9, fun z => h10 (hAB _ z)⟩
theorem vx_L.word {C n d : String} {A : Nat → Prop} {s : State} {args : Array Value} (h : vx_L C n d A s s.heap) : (Cond.laysStatic C n d).before args s = true := by
  obtain ⟨c, k, i, f, a, cell, h1, h2, h3, h4, h5, h6, h7, h8, h9, -⟩ := h
  show (Cond.laysStatic C n d).holds args s none s [] = true
  exact Cond.laysStatic_of h1 h2 h3 h4 h5 h6 h7 h8 h9
/-- .. and what it holds: null or some reference -/
def vx_Zq (C n d : String) (A : Nat → Prop) (U : State) (H : Heap) : Prop := va_Zq C n d A U H ∧ vx_L C n d A U H
theorem vx_Zq.moved {C n d : String} {A : Nat → Prop} {u U : State} {H : Heap} (hvm : u.vm.Alike U.vm) (h : vx_Zq C n d A u H) : vx_Zq C n d A U H := ⟨va_Zq.moved hvm h.1, vx_L.moved hvm h.2⟩
theorem vx_Zq.kept {C n d : String} {A : Nat → Prop} {U : State} {H H1 : Heap} (h : vx_Zq C n d A U H) (hq : ∀ a : Nat, a < H.size → ¬ A a → H1[a]? = H[a]?) : vx_Zq C n d A U H1 := ⟨va_Zq.kept h.1 hq, vx_L.kept h.2 hq⟩
theorem vx_Zq.narrow {C n d : String} {A B : Nat → Prop} {U : State} {H : Heap} (h : vx_Zq C n d A U H) (hAB : ∀ q, B q → A q) : vx_Zq C n d B U H := ⟨va_Zq.narrow h.1 hAB, vx_L.narrow h.2 hAB⟩
theorem vx_Zqof {args : Array Value} {s : State} {C n d : String} {A : Nat → Prop} (hl : (Cond.laysStatic C n d).before args s = true) (hini : (Cond.initialized C).before args s = true) (h : (Cond.isRef (.static C n d)).before args s = true) (hA : ∀ a : Nat, a < s.heap.size → ¬ A a) : vx_Zq C n d A s s.heap := by
  refine ⟨va_Zqof hl hini h hA, ?_⟩
  obtain ⟨c, k, i, f, a, cell, h1, h2, h3, h4, h5, h6, h7, h8, h9⟩ := Cond.laysStatic_spec hl
  exact ⟨c, k, i, f, a, cell, h1, h2, h3, h4, h5, h6, h7, h8, h9, hA a (Array.getElem?_eq_some_iff.mp h5).1⟩
theorem vx_isRef {C n d : String} {v : Value} {A : Nat → Prop} {s : State} {args : Array Value} (h : va_Z C n d v A s s.heap) (hv : v.isRef = true) : (Cond.isRef (.static C n d)).before args s = true := by
  obtain ⟨cf, kf, fi, f, a, cell, h1, h2, h3, h4, h5, h6, h7, -⟩ := h
  have he : (Term.static C n d).eval args s none [] s = some v := by
    simp [Term.eval, State.fieldNamed?, h1, h2, h4, h5, h6, h7]
  simp only [Cond.before, Cond.holds, Cond.value, he]
  cases v <;> simp_all [Value.isRef]
theorem vx_isRefq {C n d : String} {A : Nat → Prop} {s : State} {args : Array Value} (h : va_Zq C n d A s s.heap) : (Cond.isRef (.static C n d)).before args s = true := by
  rcases h with h | ⟨t, h⟩
  · exact vx_isRef h rfl
  · exact vx_isRef h rfl
/-- the same frame, seen from here: as if the method were called anew in this heap -/
theorem vx_rebase {T : State} (X : Stand p l e R s m args below meth c T locs cells slots) {R' : Room} (hf : R'.frames ≤ R.frames) (hl : R'.locals ≤ R.locals) (hc : cells + R'.cells ≤ R.cells) (hs : slots + R'.slots ≤ R.slots) :
    Stand p l e R' ((T.setVm s.vm).setFrames (.invoking m args :: below)) m args below meth c T [] 0 0 := by
  have htop : (T.setVm s.vm).topJava?.isSome := X.here.top
  have hF : ((T.setVm s.vm).setFrames (.invoking m args :: below)).frames = .invoking m args :: below := State.frames_setFrames _ (State.cur_lt_of_top htop)
  obtain ⟨g₀, hg0⟩ := Option.isSome_iff_exists.mp htop
  obtain ⟨r, hr⟩ := State.topJava?_eq_some.mp hg0
  have hl9 : e.platform.stackLimits (T.setVm s.vm).me = e.platform.stackLimits s.me := X.limits
  have hb9 : (T.setVm s.vm).me.stackBytes = s.me.stackBytes := X.bytes
  refine ⟨X.admits, X.cas, X.clock, hF, ?_, X.hears, X.method, X.code, X.here, X.tail, X.warmed, ?_, ?_, ?_⟩
  · have h := X.room
    have hU : ((T.setVm s.vm).setFrames (.invoking m args :: below)).localsInUse = s.localsInUse := by
      rw [State.localsInUse_invoking hF (meth := meth) (c := c) X.method X.code, State.localsInUse_invoking X.frames X.method X.code]
    simp only [State.hasRoom, Bool.and_eq_true, decide_eq_true_eq] at h ⊢
    obtain ⟨⟨⟨⟨h1, h2, h3, h4, h5, h6⟩, h7⟩, h8⟩, h9⟩ := h
    rw [X.frames, List.length_cons] at h2 h3
    have q1 := X.heapSize
    have q2 := X.used
    simp only [hF, hU, List.length_cons, State.stackLimits_setFrames, State.stackBytes_setFrames, hl9, hb9]
    refine ⟨⟨⟨⟨by omega, by omega, by omega, by omega, by omega, h6⟩, ?_⟩, ?_⟩, X.book⟩
    · show T.heap.size + R'.cells ≤ e.platform.maxCells
      omega
    · show T.slotsUsed + R'.slots ≤ e.platform.maxSlots
      omega
  · rw [State.stackLimits_setFrames]; rfl
  · rw [State.stackBytes_setFrames]; rfl
  · refine ⟨?_, Nat.le_refl _, Nat.le_refl _, ?_, ?_, fun a c9 h9 => ⟨c9, h9, rfl, rfl, fun _ _ => rfl⟩⟩
    · obtain ⟨t, ht, -⟩ := State.frames_cons hr
      show T.setVm s.vm = { ((T.setVm s.vm).setFrames (.invoking m args :: below)).setFrames (T.setVm s.vm).frames with heap := T.heap, slotsUsed := T.slotsUsed }
      rw [State.setFrames_setFrames, State.setFrames_self ht]
      rfl
    · show T.slotsUsed = T.slotsUsed + ((T.heap.toList.drop T.heap.size).map (·.slots.size)).sum
      rw [List.drop_eq_nil_of_le (Nat.le_of_eq Array.length_toList)]
      rfl
    · show ((T.heap.toList.drop T.heap.size).map (·.slots.size)).sum ≤ 0
      rw [List.drop_eq_nil_of_le (Nat.le_of_eq Array.length_toList)]
      exact Nat.le_refl _
/-- 'throw new E()': new; dup; invokespecial; athrow -/
theorem vx_throw0 {cc : ByteArray} {pc : Nat} (hexec : p.tables.exec = Jvm.exec) (hb : c.code = cc) (hl : l.stackTraces = false) {own cls : String} {names : List String} {ik ic mc ms : Nat} {A : Nat → Prop}
    (hown : s.vm.findClass own = some m.cls) (hcls : Bundle.fit cls = true) (hnames : ∀ n ∈ names, Bundle.fit n = true)
    (hk : (Cond.classLink own ik cls).before args s = true) (hini : (Cond.initialized cls).before args s = true) (hat : ∀ w ∈ vx_at0 own ic cls names, w.before args s = true)
    (hgood : ∀ w ∈ Cond.classLink own ik cls :: Cond.initialized cls :: vx_at0 own ic cls names, vx_ot w = true)
    (hU : vx_Zq Bundle.tN "UNASSIGNED_STACK" Bundle.steD A s s.heap) (hN : vx_Zq Bundle.tN "SUPPRESSED_SENTINEL" Bundle.listD A s s.heap) (hS : va_S A s.heap H locs) (hsize : ls.size = c.maxLocals)
    (d0 : decode cc pc = .ok (.new ik, 3)) (d3 : decode cc (pc + 3) = .ok (.dup, 1)) (d4 : decode cc (pc + 4) = .ok (.invokespecial ic, 3)) (d7 : decode cc (pc + 7) = .ok (.athrow, 1))
    (hout : ∀ x ∈ c.exceptionTable.toList, covers x (pc + 7) = false)
    (hRframes : names.length + 3 < R.frames) (hRlocals : (rest.map fun v => v.category).sum + (13 * (names.length + 1) + 42) ≤ R.locals) (hRcells : cells + 1 ≤ R.cells) (hRslots : slots + 6 ≤ R.slots) (hlocks : meth.locks = false)
    (hx : ∀ t : State, s.vm.Alike t.vm → H.size ≤ t.heap.size → (∀ q : Nat, q < H.size → t.heap[q]? = H[q]?) → XC cls s t)
    (hf : ∀ z ∈ locs, free z.base) (hc : cells + 1 ≤ mc) (hs : slots + 6 ≤ ms) :
    W p l e R s m args below meth c H locs cells slots (vx_MQ below Qc XC args s mc ms free) (F0 m pc ls rest) := by
  intro T hT X
  have htr : e.platform.stackTraces = false := (show e.platform.stackTraces = l.stackTraces by rw [X.admits.platform]).trans hl
  have Y := vx_rebase X (R' := { frames := R.frames, locals := R.locals, cells := 1, slots := 6 }) (Nat.le_refl _) (Nat.le_refl _) hRcells hRslots
  obtain ⟨s', hA⟩ : ∃ z, z = (T.setVm s.vm).setFrames (.invoking m args :: below) := ⟨_, rfl⟩
  rw [← hA] at Y
  have hvm : s'.vm = s.vm := by rw [hA]; rfl
  have hhp : s'.heap = H := by rw [hA]; exact hT
  have hW0 : s.WarmedH s'.vm := by rw [hvm]; exact State.WarmedH.refl s
  have hat' : ∀ w ∈ vx_at0 own ic cls names, w.before args s' = true := fun w hw => vx_ot_at hW0 hvm.symm (hgood w (List.mem_cons_of_mem _ (List.mem_cons_of_mem _ hw))) (hat w hw)
  have hk' : (Cond.classLink own ik cls).before args s' = true := vx_ot_at hW0 hvm.symm (hgood _ List.mem_cons_self) hk
  have hini' : (Cond.initialized cls).before args s' = true := vx_ot_at hW0 hvm.symm (hgood _ (List.mem_cons_of_mem _ List.mem_cons_self)) hini
  have hU' : vx_Zq Bundle.tN "UNASSIGNED_STACK" Bundle.steD A s' s'.heap := by rw [hhp]; exact vx_Zq.moved hW0.alike (hU.kept hS.2.1)
  have hN' : vx_Zq Bundle.tN "SUPPRESSED_SENTINEL" Bundle.listD A s' s'.heap := by rw [hhp]; exact vx_Zq.moved hW0.alike (hN.kept hS.2.1)
  have h : ∀ w ∈ Bundle.ownAtoms0 own ic cls names, w.before args s' = true := vx_own hat' (vx_isRefq hU'.1) (vx_isRefq hN'.1) hU'.2.word hN'.2.word
  have hown' : s'.vm.findClass own = some m.cls := by rw [hvm]; exact hown
  have hins : (Cond.instantiable cls 6).before args s' = true := h _ (by simp [Bundle.ownAtoms0])
  obtain ⟨vm₁, cX, kX, hfX, hkX, -, -, X₁, st1⟩ := Y.newCold hexec (own := own) (C := cls) (index := ik) (n := 6) hown' hk' hins hini'
    (g := F0 m pc ls rest) rfl (by rw [hb]; exact d0) (Nat.le_refl _) (Nat.le_refl _)
  generalize hT1 : (T.setVm vm₁).pushCell { cls := cX, slots := kX.instanceTypes.map defaultValue, vm := .none } = T1 at X₁ st1
  have hcat : (Value.ref T.heap.size).category = 1 := rfl
  have hcellA : T1.heap[T.heap.size]? = some (freshCell cX kX) := by rw [← hT1]; exact State.heap_pushCell_size _ _
  have d3' : decode c.code (pc + 3) = .ok (.dup, 1) := by rw [hb]; exact d3
  obtain ⟨U, hsteps, hrun, hend, hW, hsame, ce, hce, hO⟩ := X₁.ctorThrow0 hexec htr (own := own) (cls := cls) (names := names) (ic := ic) hown' hcls hnames h (fun x hx => nomatch hx) hfX hkX hcellA (by rw [hhp, hT]; exact Nat.le_refl _)
    (g := { method := m, pc := pc + 4, locals := ls, stack := .ref T.heap.size :: .ref T.heap.size :: rest, locked := none }) rfl hsize rfl rfl (rest := rest) rfl
    (by rw [hb]; exact d4) (by rw [hb]; exact d7) hout hRframes (by simp only [List.map_cons, List.sum_cons, hcat]; omega) hlocks
  obtain ⟨f1, f2⟩ := vx_frame hsame
  rw [hhp] at f1 f2
  have hWs : s.WarmedH U.vm := State.WarmedH.trans hW0 hW
  have hcl : s.vm.findClass cls = some ce.cls := by
    have h9 := hO.cls
    rw [hvm] at h9
    exact h9
  have hall : s.sameButNew ({ U with vm := s.vm } : State) locs mc ms := by
    subst hA
    obtain ⟨e1, e2⟩ := hsame
    rw [State.setFrames_setFrames] at e1
    have h2 : (T.setVm s.vm).sameButNew ({ U with vm := s.vm } : State) [] (0 + 1) (0 + 6) := ⟨e1, e2⟩
    have h3 := X.same.trans h2
    rw [List.append_nil] at h3
    exact h3.mono hc hs
  refine ⟨U, ?_, .threw T.heap.size, hrun, hend, Or.inr ⟨T.heap.size, rfl, cls, ce, locs, hx U hWs.alike f1 (fun q hq => f2 q hq (fun z hz => nomatch hz)), hce, hO.vm, hcl, hWs, hall, hf⟩⟩
  refine st1 _ ?_
  show Steps p.tables e below (T1.setTop { method := m, pc := pc + 3, locals := ls, stack := .ref T.heap.size :: rest, locked := none }) _
  jvm_step X₁.here [X₁.here.top, hexec, d3', Value.category]
  exact hsteps
/-- 'throw new E("text")': new; dup; ldc; invokespecial; athrow -/
theorem vx_throwS {cc : ByteArray} {pc : Nat} (hexec : p.tables.exec = Jvm.exec) (hb : c.code = cc) (hl : l.stackTraces = false) {own cls text : String} {names : List String} {ik is ic mc ms sa : Nat} {A : Nat → Prop}
    (hown : s.vm.findClass own = some m.cls) (hcls : Bundle.fit cls = true) (hnames : ∀ n ∈ names, Bundle.fit n = true)
    (hk : (Cond.classLink own ik cls).before args s = true) (hini : (Cond.initialized cls).before args s = true) (hstr : vk_R own is text sa s) (hat : ∀ w ∈ vx_atS own ic cls names, w.before args s = true)
    (hgood : ∀ w ∈ Cond.classLink own ik cls :: Cond.initialized cls :: vx_atS own ic cls names, vx_ot w = true)
    (hU : vx_Zq Bundle.tN "UNASSIGNED_STACK" Bundle.steD A s s.heap) (hN : vx_Zq Bundle.tN "SUPPRESSED_SENTINEL" Bundle.listD A s s.heap) (hS : va_S A s.heap H locs) (hsize : ls.size = c.maxLocals)
    (d0 : decode cc pc = .ok (.new ik, 3)) (d3 : decode cc (pc + 3) = .ok (.dup, 1)) (d4 : decode cc (pc + 4) = .ok (.ldc is, 2)) (d6 : decode cc (pc + 6) = .ok (.invokespecial ic, 3)) (d9 : decode cc (pc + 9) = .ok (.athrow, 1))
    (hout : ∀ x ∈ c.exceptionTable.toList, covers x (pc + 9) = false)
    (hRframes : names.length + 3 < R.frames) (hRlocals : (rest.map fun v => v.category).sum + (13 * (names.length + 1) + 43) ≤ R.locals) (hRcells : cells + 1 ≤ R.cells) (hRslots : slots + 6 ≤ R.slots) (hlocks : meth.locks = false)
    (hx : ∀ t : State, s.vm.Alike t.vm → H.size ≤ t.heap.size → (∀ q : Nat, q < H.size → t.heap[q]? = H[q]?) → XC cls s t)
    (hf : ∀ z ∈ locs, free z.base) (hc : cells + 1 ≤ mc) (hs : slots + 6 ≤ ms) :
    W p l e R s m args below meth c H locs cells slots (vx_MQ below Qc XC args s mc ms free) (F0 m pc ls rest) := by
  intro T hT X
  have htr : e.platform.stackTraces = false := (show e.platform.stackTraces = l.stackTraces by rw [X.admits.platform]).trans hl
  have Y := vx_rebase X (R' := { frames := R.frames, locals := R.locals, cells := 1, slots := 6 }) (Nat.le_refl _) (Nat.le_refl _) hRcells hRslots
  obtain ⟨s', hA⟩ : ∃ z, z = (T.setVm s.vm).setFrames (.invoking m args :: below) := ⟨_, rfl⟩
  rw [← hA] at Y
  have hvm : s'.vm = s.vm := by rw [hA]; rfl
  have hhp : s'.heap = H := by rw [hA]; exact hT
  have hW0 : s.WarmedH s'.vm := by rw [hvm]; exact State.WarmedH.refl s
  have hat' : ∀ w ∈ vx_atS own ic cls names, w.before args s' = true := fun w hw => vx_ot_at hW0 hvm.symm (hgood w (List.mem_cons_of_mem _ (List.mem_cons_of_mem _ hw))) (hat w hw)
  have hk' : (Cond.classLink own ik cls).before args s' = true := vx_ot_at hW0 hvm.symm (hgood _ List.mem_cons_self) hk
  have hini' : (Cond.initialized cls).before args s' = true := vx_ot_at hW0 hvm.symm (hgood _ (List.mem_cons_of_mem _ List.mem_cons_self)) hini
  have hU' : vx_Zq Bundle.tN "UNASSIGNED_STACK" Bundle.steD A s' s'.heap := by rw [hhp]; exact vx_Zq.moved hW0.alike (hU.kept hS.2.1)
  have hN' : vx_Zq Bundle.tN "SUPPRESSED_SENTINEL" Bundle.listD A s' s'.heap := by rw [hhp]; exact vx_Zq.moved hW0.alike (hN.kept hS.2.1)
  have h : ∀ w ∈ Bundle.ownAtoms own ic cls names, w.before args s' = true := vx_own hat' (vx_isRefq hU'.1) (vx_isRefq hN'.1) hU'.2.word hN'.2.word
  have hown' : s'.vm.findClass own = some m.cls := by rw [hvm]; exact hown
  have hins : (Cond.instantiable cls 6).before args s' = true := h _ (by simp [Bundle.ownAtoms])
  obtain ⟨vm₁, cX, kX, hfX, hkX, -, -, X₁, st1⟩ := Y.newCold hexec (own := own) (C := cls) (index := ik) (n := 6) hown' hk' hins hini'
    (g := F0 m pc ls rest) rfl (by rw [hb]; exact d0) (Nat.le_refl _) (Nat.le_refl _)
  generalize hT1 : (T.setVm vm₁).pushCell { cls := cX, slots := kX.instanceTypes.map defaultValue, vm := .none } = T1 at X₁ st1
  have hcat : (Value.ref T.heap.size).category = 1 := rfl
  have hcellA : T1.heap[T.heap.size]? = some (freshCell cX kX) := by rw [← hT1]; exact State.heap_pushCell_size _ _
  have d3' : decode c.code (pc + 3) = .ok (.dup, 1) := by rw [hb]; exact d3
  have d4' : decode c.code (pc + 4) = .ok (.ldc is, 2) := by rw [hb]; exact d4
  have hstr' : vk_R own is text sa s' := vk_R.warm hW0 hstr
  obtain ⟨U, hsteps, hrun, hend, hW, hsame, ce, hce, hO⟩ := X₁.ctorThrowS hexec htr (own := own) (cls := cls) (names := names) (ic := ic) hown' hcls hnames h (fun x hx => nomatch hx) hfX hkX hcellA (by rw [hhp, hT]; exact Nat.le_refl _) (msg := .ref sa) rfl
    (g := { method := m, pc := pc + 6, locals := ls, stack := .ref sa :: .ref T.heap.size :: .ref T.heap.size :: rest, locked := none }) rfl hsize rfl rfl (rest := rest) rfl
    (by rw [hb]; exact d6) (by rw [hb]; exact d9) hout hRframes (by simp only [List.map_cons, List.sum_cons, hcat]; omega) hlocks
  obtain ⟨f1, f2⟩ := vx_frame hsame
  rw [hhp] at f1 f2
  have hWs : s.WarmedH U.vm := State.WarmedH.trans hW0 hW
  have hcl : s.vm.findClass cls = some ce.cls := by
    have h9 := hO.cls
    rw [hvm] at h9
    exact h9
  have hall : s.sameButNew ({ U with vm := s.vm } : State) locs mc ms := by
    subst hA
    obtain ⟨e1, e2⟩ := hsame
    rw [State.setFrames_setFrames] at e1
    have h2 : (T.setVm s.vm).sameButNew ({ U with vm := s.vm } : State) [] (0 + 1) (0 + 6) := ⟨e1, e2⟩
    have h3 := X.same.trans h2
    rw [List.append_nil] at h3
    exact h3.mono hc hs
  refine ⟨U, ?_, .threw T.heap.size, hrun, hend, Or.inr ⟨T.heap.size, rfl, cls, ce, locs, hx U hWs.alike f1 (fun q hq => f2 q hq (fun z hz => nomatch hz)), hce, hO.vm, hcl, hWs, hall, hf⟩⟩
  refine st1 _ ?_
  show Steps p.tables e below (T1.setTop { method := m, pc := pc + 3, locals := ls, stack := .ref T.heap.size :: rest, locked := none }) _
  jvm_step X₁.here [X₁.here.top, hexec, d3', Value.category]
  exact X₁.ldcString hexec (own := own) (text := text) (index := is) (a := sa) hown' hstr'.1 hstr'.2
    (g := { method := m, pc := pc + 4, locals := ls, stack := .ref T.heap.size :: .ref T.heap.size :: rest, locked := none }) rfl d4' _ hsteps
/-- 'throw new E("text")', the text by a wide index -/
theorem vx_throwSW {cc : ByteArray} {pc : Nat} (hexec : p.tables.exec = Jvm.exec) (hb : c.code = cc) (hl : l.stackTraces = false) {own cls text : String} {names : List String} {ik is ic mc ms sa : Nat} {A : Nat → Prop}
    (hown : s.vm.findClass own = some m.cls) (hcls : Bundle.fit cls = true) (hnames : ∀ n ∈ names, Bundle.fit n = true)
    (hk : (Cond.classLink own ik cls).before args s = true) (hini : (Cond.initialized cls).before args s = true) (hstr : vk_R own is text sa s) (hat : ∀ w ∈ vx_atS own ic cls names, w.before args s = true)
    (hgood : ∀ w ∈ Cond.classLink own ik cls :: Cond.initialized cls :: vx_atS own ic cls names, vx_ot w = true)
    (hU : vx_Zq Bundle.tN "UNASSIGNED_STACK" Bundle.steD A s s.heap) (hN : vx_Zq Bundle.tN "SUPPRESSED_SENTINEL" Bundle.listD A s s.heap) (hS : va_S A s.heap H locs) (hsize : ls.size = c.maxLocals)
    (d0 : decode cc pc = .ok (.new ik, 3)) (d3 : decode cc (pc + 3) = .ok (.dup, 1)) (d4 : decode cc (pc + 4) = .ok (.ldc_w is, 3)) (d7 : decode cc (pc + 7) = .ok (.invokespecial ic, 3)) (d10 : decode cc (pc + 10) = .ok (.athrow, 1))
    (hout : ∀ x ∈ c.exceptionTable.toList, covers x (pc + 10) = false)
    (hRframes : names.length + 3 < R.frames) (hRlocals : (rest.map fun v => v.category).sum + (13 * (names.length + 1) + 43) ≤ R.locals) (hRcells : cells + 1 ≤ R.cells) (hRslots : slots + 6 ≤ R.slots) (hlocks : meth.locks = false)
    (hx : ∀ t : State, s.vm.Alike t.vm → H.size ≤ t.heap.size → (∀ q : Nat, q < H.size → t.heap[q]? = H[q]?) → XC cls s t)
    (hf : ∀ z ∈ locs, free z.base) (hc : cells + 1 ≤ mc) (hs : slots + 6 ≤ ms) :
    W p l e R s m args below meth c H locs cells slots (vx_MQ below Qc XC args s mc ms free) (F0 m pc ls rest) := by
  intro T hT X
  have htr : e.platform.stackTraces = false := (show e.platform.stackTraces = l.stackTraces by rw [X.admits.platform]).trans hl
  have Y := vx_rebase X (R' := { frames := R.frames, locals := R.locals, cells := 1, slots := 6 }) (Nat.le_refl _) (Nat.le_refl _) hRcells hRslots
  obtain ⟨s', hA⟩ : ∃ z, z = (T.setVm s.vm).setFrames (.invoking m args :: below) := ⟨_, rfl⟩
  rw [← hA] at Y
  have hvm : s'.vm = s.vm := by rw [hA]; rfl
  have hhp : s'.heap = H := by rw [hA]; exact hT
  have hW0 : s.WarmedH s'.vm := by rw [hvm]; exact State.WarmedH.refl s
  have hat' : ∀ w ∈ vx_atS own ic cls names, w.before args s' = true := fun w hw => vx_ot_at hW0 hvm.symm (hgood w (List.mem_cons_of_mem _ (List.mem_cons_of_mem _ hw))) (hat w hw)
  have hk' : (Cond.classLink own ik cls).before args s' = true := vx_ot_at hW0 hvm.symm (hgood _ List.mem_cons_self) hk
  have hini' : (Cond.initialized cls).before args s' = true := vx_ot_at hW0 hvm.symm (hgood _ (List.mem_cons_of_mem _ List.mem_cons_self)) hini
  have hU' : vx_Zq Bundle.tN "UNASSIGNED_STACK" Bundle.steD A s' s'.heap := by rw [hhp]; exact vx_Zq.moved hW0.alike (hU.kept hS.2.1)
  have hN' : vx_Zq Bundle.tN "SUPPRESSED_SENTINEL" Bundle.listD A s' s'.heap := by rw [hhp]; exact vx_Zq.moved hW0.alike (hN.kept hS.2.1)
  have h : ∀ w ∈ Bundle.ownAtoms own ic cls names, w.before args s' = true := vx_own hat' (vx_isRefq hU'.1) (vx_isRefq hN'.1) hU'.2.word hN'.2.word
  have hown' : s'.vm.findClass own = some m.cls := by rw [hvm]; exact hown
  have hins : (Cond.instantiable cls 6).before args s' = true := h _ (by simp [Bundle.ownAtoms])
  obtain ⟨vm₁, cX, kX, hfX, hkX, -, -, X₁, st1⟩ := Y.newCold hexec (own := own) (C := cls) (index := ik) (n := 6) hown' hk' hins hini'
    (g := F0 m pc ls rest) rfl (by rw [hb]; exact d0) (Nat.le_refl _) (Nat.le_refl _)
  generalize hT1 : (T.setVm vm₁).pushCell { cls := cX, slots := kX.instanceTypes.map defaultValue, vm := .none } = T1 at X₁ st1
  have hcat : (Value.ref T.heap.size).category = 1 := rfl
  have hcellA : T1.heap[T.heap.size]? = some (freshCell cX kX) := by rw [← hT1]; exact State.heap_pushCell_size _ _
  have d3' : decode c.code (pc + 3) = .ok (.dup, 1) := by rw [hb]; exact d3
  have d4' : decode c.code (pc + 4) = .ok (.ldc_w is, 3) := by rw [hb]; exact d4
  have hstr' : vk_R own is text sa s' := vk_R.warm hW0 hstr
  obtain ⟨U, hsteps, hrun, hend, hW, hsame, ce, hce, hO⟩ := X₁.ctorThrowS hexec htr (own := own) (cls := cls) (names := names) (ic := ic) hown' hcls hnames h (fun x hx => nomatch hx) hfX hkX hcellA (by rw [hhp, hT]; exact Nat.le_refl _) (msg := .ref sa) rfl
    (g := { method := m, pc := pc + 7, locals := ls, stack := .ref sa :: .ref T.heap.size :: .ref T.heap.size :: rest, locked := none }) rfl hsize rfl rfl (rest := rest) rfl
    (by rw [hb]; exact d7) (by rw [hb]; exact d10) hout hRframes (by simp only [List.map_cons, List.sum_cons, hcat]; omega) hlocks
  obtain ⟨f1, f2⟩ := vx_frame hsame
  rw [hhp] at f1 f2
  have hWs : s.WarmedH U.vm := State.WarmedH.trans hW0 hW
  have hcl : s.vm.findClass cls = some ce.cls := by
    have h9 := hO.cls
    rw [hvm] at h9
    exact h9
  have hall : s.sameButNew ({ U with vm := s.vm } : State) locs mc ms := by
    subst hA
    obtain ⟨e1, e2⟩ := hsame
    rw [State.setFrames_setFrames] at e1
    have h2 : (T.setVm s.vm).sameButNew ({ U with vm := s.vm } : State) [] (0 + 1) (0 + 6) := ⟨e1, e2⟩
    have h3 := X.same.trans h2
    rw [List.append_nil] at h3
    exact h3.mono hc hs
  refine ⟨U, ?_, .threw T.heap.size, hrun, hend, Or.inr ⟨T.heap.size, rfl, cls, ce, locs, hx U hWs.alike f1 (fun q hq => f2 q hq (fun z hz => nomatch hz)), hce, hO.vm, hcl, hWs, hall, hf⟩⟩
  refine st1 _ ?_
  show Steps p.tables e below (T1.setTop { method := m, pc := pc + 3, locals := ls, stack := .ref T.heap.size :: rest, locked := none }) _
  jvm_step X₁.here [X₁.here.top, hexec, d3', Value.category]
  exact X₁.ldcStringW hexec (own := own) (text := text) (index := is) (a := sa) hown' hstr'.1 hstr'.2
    (g := { method := m, pc := pc + 4, locals := ls, stack := .ref T.heap.size :: .ref T.heap.size :: rest, locked := none }) rfl d4' _ hsteps
end Ends
section Bodies
variable {l : Launch}
theorem vx_ofW {y : MethodName} {ws ws' : List Cond} {rm : Room} {Pc : Array Value → State → Prop} {Qc : Array Value → State → Outcome → State → Prop} {XC : String → State → State → Prop} {mc ms : Nat} {free : Addr → Prop} {cc : ByteArray} {maxL : Nat} {ret : Option FieldType}
    (hy : plainName y.cls = true) (hw : ws = Cond.code y cc maxL ret :: ws')
    (body : ∀ p e s m args below meth c s₁, BodyLoose p l y (headSpec ws rm) cc maxL ret e s m args below meth c s₁ → c.maxLocals = maxL → (∀ x ∈ c.exceptionTable.toList, False) → Pc args s →
      W p l e (headSpec ws rm).room s m args below meth c s.heap [] 0 0 (vx_MQ below Qc XC args s mc ms free) (entryFrame m args maxL)) : vx_Met l y ws rm Pc Qc XC mc ms free := by
  refine MetFree.of_bodyS (code := cc) (maxLocals := maxL) (ret := ret) hy ?_ ?_
  · intro args s m h hn
    obtain ⟨meth, c, h1, h2, h3, h4, h5, h6, -, -⟩ := Cond.code_spec hn (atoms_spec (ws := ws) h _ (by rw [hw]; exact List.mem_cons_self))
    exact ⟨meth, c, h1, h2, h3, h4, h5, h6⟩
  · intro p e s m args below meth c s₁ B hml hP _
    have hh0 : s₁.heap = s.heap := by rw [B.state]; rfl
    have ht : ∀ x ∈ c.exceptionTable.toList, False := by
      obtain ⟨meth9, c9, h1, h2, -, -, -, -, h7, -⟩ := Cond.code_spec B.named (atoms_spec (ws := ws) B.pre _ (by rw [hw]; exact List.mem_cons_self))
      cases Option.some.inj (h1.symm.trans B.method)
      cases Option.some.inj (h2.symm.trans (Stand.of_body B).code)
      intro x hx
      rw [Array.isEmpty_iff.mp h7] at hx
      cases hx
    obtain ⟨t, a1, o, b1, b2, b3⟩ := body p e s m args below meth c s₁ B hml ht hP s₁ hh0 (Stand.of_body B)
    exact ⟨t, o, a1, b1, b2, b3⟩
/-- the table of a body with handlers -/
theorem vx_table {p : Program} {x y : MethodName} {S : Spec} {cc bytes : ByteArray} {maxL maxL' : Nat} {ret ret' : Option FieldType} {e : Env} {s s₁ : State} {m : MethodId} {args : Array Value} {below : List Frame} {meth : Method} {c : Code} {hh : List (Nat × Nat × Nat × Nat)}
    (B : BodyLoose p l y S cc maxL ret e s m args below meth c s₁) (h : (Cond.codeWith y bytes maxL' ret' hh).before args s = true) : c.exceptionTable.toList = tableOf hh := by
  obtain ⟨m9, meth9, c9, hn9, h1, h2, -, -, h6, -⟩ := Cond.codeWith_spec h
  cases Option.some.inj (hn9.symm.trans B.named)
  cases Option.some.inj (h1.symm.trans B.method)
  cases Option.some.inj (h2.symm.trans (Stand.of_body B).code)
  rw [← h6, table_eq]
end Bodies
end VXA
/-! ===== END ===== -/
/-! ===== BEGIN a static call of a method with an exception table ===== -/
section VXS
variable {p : Program} {l : Launch} {e : Env} {R : Room} {s : State} {m : MethodId} {args : Array Value} {below : List Frame} {meth : Method} {c : Code} {T : State} {H : Heap} {locs : List Loc} {cells slots : Nat}
abbrev vx_CSW (R : Room) (s : State) (args : Array Value) (own : String) (index : Nat) (y : MethodName) (bytes : ByteArray) (maxL : Nat) (ret : Option FieldType) (hh : List (Nat × Nat × Nat × Nat)) (ws : List Cond) (rm : Room) (mc ms n : Nat) : Prop :=
  (rm.cells = mc ∧ rm.slots = ms ∧ rm.frames + 1 ≤ R.frames ∧ 8 + (maxL + 11) + rm.locals ≤ R.locals ∧ (∀ w ∈ ws, ∀ (a' : Array Value) (U : State), s.WarmedH U.vm → w.before a' U = true) ∧ Cond.codeWith y bytes maxL ret hh ∈ ws) ∧
  (Cond.codeWith y bytes maxL ret hh).before args s = true ∧ (Cond.initialized y.cls).before args s = true ∧ (y.cls ≠ "java/lang/invoke/MethodHandle" ∧ y.cls ≠ "java/lang/invoke/VarHandle") ∧
  (∀ sig, parseMethodDescriptor y.desc = some sig → n = sig.parameters.length) ∧ (Cond.methodLink own index y).before args s = true ∧ (Cond.static y).before args s = true
theorem vx_cwSW {own : String} {index maxL mc ms : Nat} {y : MethodName} {bytes : ByteArray} {ret : Option FieldType} {hh : List (Nat × Nat × Nat × Nat)} {Ts ws ws' : List Cond} {rm : Room} (n : Nat) (ht : ∀ w ∈ Ts, w.before args s = true) (hT : GoodIn Ts (va_wsS own index y ws)) (hw : ws = Cond.codeWith y bytes maxL ret hh :: ws') (hrc : rm.cells = mc) (hrs : rm.slots = ms)
    (hd : y.cls ≠ "java/lang/invoke/MethodHandle" ∧ y.cls ≠ "java/lang/invoke/VarHandle" ∧ (parseMethodDescriptor y.desc).map (fun d => d.parameters.length) = some n) (hR : rm.frames + 1 ≤ R.frames ∧ 8 + (maxL + 11) + rm.locals ≤ R.locals) :
    vx_CSW R s args own index y bytes maxL ret hh ws rm mc ms n := by
  have ok : ∀ w ∈ va_wsS own index y ws, w.before args s = true := fun w h => ht w (hT w h).1
  have hG : GoodIn Ts ws := fun w h => hT w (by unfold va_wsS; exact List.mem_append_right _ h)
  have hc : Cond.codeWith y bytes maxL ret hh ∈ ws := by rw [hw]; exact List.mem_cons_self
  refine ⟨⟨hrc, hrs, hR.1, hR.2, pay_in ht hG, hc⟩, ht _ (hG _ hc).1, ok _ (by simp [va_wsS]), ⟨hd.1, hd.2.1⟩, fun sig h => ?_, ok _ (by simp [va_wsS]), ok _ (by simp [va_wsS])⟩
  have h2 := hd.2.2
  rw [h] at h2
  exact (Option.some.inj h2).symm
theorem vx_callSW (X : Stand p l e R s m args below meth c T locs cells slots) (hexec : p.tables.exec = Jvm.exec) {own : String} {index : Nat} {y : MethodName} {bytes : ByteArray} {maxL : Nat} {ret : Option FieldType} {hh : List (Nat × Nat × Nat × Nat)}
    (hown : s.vm.findClass own = some m.cls) (hlink : (Cond.methodLink own index y).before args s = true) (hstat : (Cond.static y).before args s = true) (hinit : (Cond.initialized y.cls).before args s = true)
    (hcode : (Cond.codeWith y bytes maxL ret hh).before args s = true) (hy : y.cls ≠ "java/lang/invoke/MethodHandle" ∧ y.cls ≠ "java/lang/invoke/VarHandle")
    {W9 : Nat} {Pre : Pt → Array Value → Prop} {Post : Pt → Array Value → Option Value → Pt → Prop} (hK : Back l R p e below s args y 3 W9 Pre Post)
    {g : JFrame} (hg : g.method = m) (hsize : g.locals.size = c.maxLocals) {argsL rest : List Value} (hlen : ∀ sig, parseMethodDescriptor y.desc = some sig → argsL.length = sig.parameters.length)
    (hstack : g.stack = argsL.reverse ++ rest) (hW : 2 * g.monitorRoom + (rest.map fun v => v.category).sum ≤ W9) (hdg : decode c.code g.pc = .ok (.invokestatic index, 3))
    (hpre : ∀ vm₁, s.WarmedH vm₁ → Pre ⟨T.setVm vm₁, locs, cells, slots⟩ argsL.toArray) :
    ∃ (v : Option Value) (vm₁ : Vm) (B : Pt), s.WarmedH vm₁ ∧ Stand p l e R s m args below meth c B.U B.locs B.cells B.slots ∧ Post ⟨T.setVm vm₁, locs, cells, slots⟩ argsL.toArray v B ∧
      ∀ target, Steps p.tables e below (B.U.setTop { g with pc := g.pc + 3, stack := v.toList ++ rest }) target → Steps p.tables e below (T.setTop g) target := by
  obtain ⟨mk, methM, cM, hnamed, hmethM, -, -, -, -, -, -, hsigM⟩ := Cond.codeWith_spec hcode
  have hstatic : methM.isStatic = true := Cond.static_spec hnamed hmethM hstat
  obtain ⟨kP, hkP, -⟩ := className_of_methodNamed hnamed
  have hinitP : kP.init = .initialized := Cond.initialized_spec (findClass_of_methodNamed hnamed) hkP hinit
  obtain ⟨vm₁, X₁, hstep₁⟩ := X.invokestatic hexec hown hlink hnamed hmethM hstatic hkP hinitP hy (g := g) hg (argsL := argsL) (rest := rest) (hlen _ hsigM) hstack hdg
  obtain ⟨v, B, X', hpost, hsteps⟩ := hK m meth c ⟨T.setVm vm₁, locs, cells, slots⟩ { g with stack := rest } (.invokestatic index) mk argsL.toArray X₁ hg hsize hdg hW (X₁.named hnamed) (hpre vm₁ X₁.warmed)
  exact ⟨v, vm₁, B, X₁.warmed, X', hpost, fun target h => hstep₁ _ fun acts => by rw [doInvoke_state]; exact hsteps.trans h⟩
theorem vx_runSW {y : MethodName} {bytes cc : ByteArray} {maxL nL mc ms n index : Nat} {ret : Option FieldType} {hh : List (Nat × Nat × Nat × Nat)} {ws : List Cond} {rm : Room} {Pc : Array Value → State → Prop} {Qc : Array Value → State → Outcome → State → Prop} {free : Addr → Prop} {Ts : List Cond} {own : String} {As rest : List Value} {g : JFrame}
    (S : CallFix p m c cc nL s args Ts own) (hM : Met l y ws rm Pc Qc mc ms free) (cw : vx_CSW R s args own index y bytes maxL ret hh ws rm mc ms n) (hp : PreS s H Pc As)
    (hg : g.method = m) (hn : As.length = n) (hsize : g.locals.size = nL) (hstack : g.stack = As.reverse ++ rest) (hW : 2 * g.monitorRoom + (rest.map fun v => v.category).sum ≤ 8) (hdg : decode cc g.pc = .ok (.invokestatic index, 3)) (hf : cells + mc ≤ R.cells ∧ slots + ms ≤ R.slots) :
    va_Run p l e R s m args below meth c H locs cells slots mc ms g rest (Qc As.toArray) (free) := by
  obtain ⟨⟨hrc, hrs, hfr, hlo, hws, hcw⟩, hcode, hini, hy, hlen, hl, hstt⟩ := cw
  have hK : Back l R p e below s args y 3 8 (PreOf R mc ms Pc) (PostOf Qc mc ms free) := va_backW (hh := hh) (bytes := bytes) (maxL := maxL) (ret := ret) hM hp.1 hrc hrs hfr hlo hws hcw (fun a' U hW => word_at hW (Or.inl (by first | rfl | simp [Cond.onTables, Cond.keeps, Cond.steady])) hini)
  obtain ⟨hx, hb, hml, ho, -⟩ := S
  intro T hT X
  obtain ⟨v, vm₁, ⟨U', l2, c2, s2⟩, hW₁, X', ⟨g', mk, t, L, e1, e2, hq, h1, hL, h2, h3⟩, st⟩ := vx_callSW X hx (hh := hh) (bytes := bytes) (maxL := maxL) (ret := ret) ho hl hstt hini hcode hy hK hg (hsize.trans hml.symm) (argsL := As) (rest := rest) (fun sig h => hn.trans (hlen sig h)) hstack hW (by rw [hb]; exact hdg)
    (fun vm₁ hW₁ => ⟨hf.1, hf.2, hp.2 (T.setVm vm₁) hT hW₁⟩)
  dsimp only [Pt.U, Pt.locs, Pt.cells, Pt.slots] at X' e1 e2 h1 h2 h3 st
  subst h1; subst h2; subst h3
  exact ⟨v, (T.setVm vm₁).calling g' mk As.toArray, t, U', L, hT, X', hL, e1, e2, hq, st⟩
/-- not caught here, past rows that name other classes: it goes on to the caller -/
theorem vx_outP {p : Program} {l : Launch} {e : Env} {R : Room} {s : State} {m : MethodId} {args : Array Value} {below : List Frame} {meth : Method} {c : Code} {H : Heap} {locs : List Loc} {cells slots : Nat} {free : Addr → Prop} {ls : Array Slot} {rest : List Value} {Qc : Array Value → State → Outcome → State → Prop} {XC : String → State → State → Prop}
    {pc : Nat} {own E : String} {ce : Cell} {q : Addr} {mc ms : Nat} (hown : s.vm.findClass own = some m.cls) (hlocks : meth.locks = false)
    (hpass : ∀ z ∈ c.exceptionTable.toList, covers z pc = false ∨ (z.catchType ≠ 0 ∧ ∃ nm : String, (Cond.classLink own z.catchType nm).before args s = true ∧ va_Nc E nm s)) (hcell : H[q]? = some ce) (hv : ce.vm = .none) (hcl : s.vm.findClass E = some ce.cls)
    (hx : ∀ t : State, t.heap = H → s.vm.Alike t.vm → XC E s t) (hf : ∀ z ∈ locs, free z.base) (hc : cells ≤ mc) (hs : slots ≤ ms) :
    vx_W p l e R s m args below meth c H locs cells slots (vx_MQ below Qc XC args s mc ms free) (F0 m pc ls rest) q := by
  intro T hT X
  have hpl : e.platform.magicAccessors = ({} : Platform).magicAccessors := by rw [X.admits.platform]
  obtain ⟨vm', hW', X', st⟩ := X.outThrough hlocks q (g := F0 m pc ls rest) rfl rfl rfl (cell := ce) (by rw [hT]; exact hcell) (by rw [hv]; rfl)
    (by obtain ⟨k9, h9, -⟩ := Vm.findClass_spec hcl; exact ⟨k9, h9⟩) (fun z hz => by
      rcases hpass z hz with h | ⟨hz0, nm, hl1, hn1⟩
      · exact Or.inl h
      · obtain ⟨c6, hc6, hcl6⟩ := Cond.classLink_spec hown hl1 e.platform hpl
        obtain ⟨a8, b8, h1, h2, h3⟩ := hn1
        cases Option.some.inj (h1.symm.trans hcl)
        cases Option.some.inj (h2.symm.trans hc6)
        exact Or.inr ⟨hz0, _, hcl6, h3⟩)
  obtain ⟨g₀, hfr⟩ := X'.frames_eq
  have hcell9 : ((T.setVm vm').setFrames (.throwing q :: below)).heap[q]? = some ce := by
    show T.heap[q]? = some ce
    rw [hT]; exact hcell
  have hend : Ended ((T.setVm vm').setFrames (.throwing q :: below)) below (.threw q) := State.frames_setFrames _ (State.cur_lt_of_frames hfr)
  refine ⟨(T.setVm vm').setFrames (.throwing q :: below), ?_, .threw q, X'.here.running, hend, Or.inr ⟨q, rfl, E, ce, locs, hx _ hT (X'.ends _).1.alike, hcell9, hv, hcl, (X'.ends _).1, (X'.ends _).2.mono hc hs, hf⟩⟩
  rw [X.pushThrowing_eq]
  exact st
/-- a thing of a world lies in the heap -/
theorem vx_lt {D : va_G} {cl : List vw_C} {ws : va_W} {H1 : Heap} (h : va_P D cl ws H1) {k : Nat} {q : Nat × va_E} (hk : ws[k]? = some q) : q.1 < H1.size := (h k q hk).lt
end VXS
/-! ===== END ===== -/
/-! ===== BEGIN methods with a table of their own: called by a name, returning or throwing ===== -/
section VXH
/-! vx_backW, vx_callVX, vx_callSX, vx_callVW, vx_runVW, vx_runVX, vx_runSX, vx_ofWH follow the same proofs as their sisters above (Free/Laws.lean, Shelf42/LK1.lean); vx_outP calls Shelf42/NT130.lean (outThrough). -/
section
variable {l : Launch} {R : Room} {p : Program} {e : Env} {below : List Frame} {s : State} {sargs : Array Value} {y : MethodName} {len W9 : Nat}
theorem vx_backW {ws : List Cond} {rm : Room} {Pc : Array Value → State → Prop} {Qc : Array Value → State → Outcome → State → Prop} {XC : String → State → State → Prop} {mc ms : Nat} {free : Addr → Prop} {bytes : ByteArray} {maxL : Nat} {ret : Option FieldType} {hh : List (Nat × Nat × Nat × Nat)}
    (hM : vx_Met l y ws rm Pc Qc XC mc ms free) (hblind : FrameBlind Pc) (hrc : rm.cells = mc) (hrs : rm.slots = ms)
    (hframes : rm.frames + 1 ≤ R.frames) (hlocals : W9 + (maxL + 11) + rm.locals ≤ R.locals)
    (hws : ∀ w ∈ ws, ∀ a' U, s.WarmedH U.vm → w.before a' U = true) (hcode : Cond.codeWith y bytes maxL ret hh ∈ ws) (hinit : ∀ a' U, s.WarmedH U.vm → (Cond.initialized y.cls).before a' U = true) :
    vx_Back l R p e below s sargs y len W9 (PreOf R mc ms Pc) (PostOf Qc mc ms free) (vx_Post XC mc ms free) := by
  intro m meth c A g ig mk a X hg hsize hdg hW hn hp
  have h1 : (headSpec ws rm).pre.before a A.U = true := atoms_intro fun w hw => hws w hw _ _ X.warmed
  have h2 : (Cond.codeWith y bytes maxL ret hh).before a A.U = true := hws _ hcode _ _ X.warmed
  have h3 : (Cond.initialized y.cls).before a A.U = true := hinit _ _ X.warmed
  have h4 : A.cells + (headSpec ws rm).room.cells ≤ R.cells := by rw [show (headSpec ws rm).room.cells = mc from hrc]; exact hp.1
  have h5 : A.slots + (headSpec ws rm).room.slots ≤ R.slots := by rw [show (headSpec ws rm).room.slots = ms from hrs]; exact hp.2.1
  have hPc : Pc a (A.U.calling g mk a) := hblind _ _ _ _ hp.2.2
  obtain ⟨U, Ls, c0, s0⟩ := A
  dsimp only [Pt.U, Pt.locs, Pt.cells, Pt.slots] at h1 h2 h3 h4 h5 X hn hPc ⊢
  obtain ⟨m9, methY, cY, hn9, hmY, hcY, -, hlY, -⟩ := Cond.codeWith_spec h2
  cases Option.some.inj (hn9.symm.trans hn)
  obtain ⟨kY, hkY, -⟩ := className_of_methodNamed hn
  have hinitY : kY.init = .initialized := Cond.initialized_spec (findClass_of_methodNamed hn) hkY h3
  have h : At U g.method c below := by rw [hg]; exact X.here
  have hlocals9 : W9 + (maxL + 11) + (headSpec ws rm).room.locals ≤ R.locals := hlocals
  have happ : (headSpec ws rm).appliesLoose y e.platform (U.calling g mk a) = true :=
    Spec.appliesLoose_calling (g := g) h hdg hn hkY hinitY
      (X.room_calling (g := g) (R' := (headSpec ws rm).room) hsize hmY hcY hframes (by rw [hlY]; omega) h4 h5) h1
  obtain ⟨mid, hmid⟩ := h.above
  have hfr : (U.setTop g).frames = (.java g :: mid) ++ below := by rw [State.frames_setTop' g h.top, hmid]; rfl
  obtain ⟨o, s₂, hsteps, -, hend, hq⟩ := Steps.callFree hM p X.admits X.cas X.clock (acts := []) hfr happ hPc trivial
  have hq' : vx_Q Qc XC mc ms free a (U.calling g mk a) o s₂ := hq
  rw [State.frames_setTop' g h.top] at hend
  obtain ⟨g₀, hg0⟩ := Option.isSome_iff_exists.mp h.top
  obtain ⟨r, hr⟩ := State.topJava?_eq_some.mp hg0
  have hr' : (({ U with heap := s₂.heap, slotsUsed := s₂.slotsUsed } : State).setVm s₂.vm).frames = .java g₀ :: r := hr
  rcases hq' with ⟨hqc, L, hfe, hL⟩ | ⟨q, rfl, E, ce, L, hx, hce, hcv, hcl, hW₂, hsm, hL⟩
  · obtain ⟨⟨v, rfl⟩, hW₂, e2, q2, q3, q4, q5, q6⟩ := id hfe
    have e3 : s₂ = ({ (U.calling g mk a).setFrames s₂.frames with heap := s₂.heap, slotsUsed := s₂.slotsUsed } : State).setVm s₂.vm := by
      have : s₂ = ({ s₂ with vm := (U.calling g mk a).vm } : State).setVm s₂.vm := rfl
      rw [e2] at this
      exact this
    obtain ⟨c₂, i₂, len₂, hc₂, hd₂, hf₂⟩ := hend
    have hW' : U.WarmedH s₂.vm := hW₂
    have hcc : c₂ = c := by
      have h1 : s₂.code? g.method = U.code? g.method := by
        rw [State.code?_eq, State.code?_eq, hW'.alike.method?]
      exact Option.some.inj (hc₂.symm.trans (h1.trans h.code))
    subst hcc
    have hlen : len₂ = len := by rw [hdg] at hd₂; cases hd₂; rfl
    subst hlen
    have hs₂ : s₂ = (({ U with heap := s₂.heap, slotsUsed := s₂.slotsUsed } : State).setVm s₂.vm).setTop { g with pc := g.pc + len₂, stack := v.toList ++ g.stack } := by
      refine e3.trans ?_
      rw [hf₂, State.calling_eq h.top, State.setFrames_setFrames, State.setTop_of_frames _ hr', hr]
      rfl
    have hsame : U.sameButNew ({ U with heap := s₂.heap, slotsUsed := s₂.slotsUsed } : State) L mc ms := by
      refine ⟨?_, q2, q3, q4, q5, q6⟩
      obtain ⟨t, ht, -⟩ := State.frames_cons hr
      show ({ U with heap := s₂.heap, slotsUsed := s₂.slotsUsed } : State) = { U.setFrames U.frames with heap := s₂.heap, slotsUsed := s₂.slotsUsed }
      rw [State.setFrames_self ht]
    subst hg
    refine Or.inl ⟨v, ⟨(({ U with heap := s₂.heap, slotsUsed := s₂.slotsUsed } : State).setVm s₂.vm), Ls ++ L, c0 + mc, s0 + ms⟩,
      ⟨X.admits, X.cas, X.clock, X.frames, X.room, X.hears, X.method, X.code, (X.here.setHeapUsed s₂.heap s₂.slotsUsed).setVm hW'.alike, X.tail, State.WarmedH.trans X.warmed hW', X.limits, X.bytes, X.same.trans (hsame.setVm s.vm)⟩,
      ⟨g, mk, s₂, L, rfl, rfl, hqc, rfl, hL, rfl, rfl⟩, ?_⟩
    show Steps p.tables e below _ ((({ U with heap := s₂.heap, slotsUsed := s₂.slotsUsed } : State).setVm s₂.vm).setTop { g with pc := g.pc + len₂, stack := v.toList ++ g.stack })
    rw [← hs₂]
    exact hsteps
  · obtain ⟨e2, q2, q3, q4, q5, q6⟩ := id hsm
    have e3 : s₂ = ({ (U.calling g mk a).setFrames s₂.frames with heap := s₂.heap, slotsUsed := s₂.slotsUsed } : State).setVm s₂.vm := by
      have : s₂ = ({ s₂ with vm := (U.calling g mk a).vm } : State).setVm s₂.vm := rfl
      rw [e2] at this
      exact this
    have hf₂ : s₂.frames = .throwing q :: .java g :: U.frames.tail := hend
    have hW' : U.WarmedH s₂.vm := hW₂
    have hs₂ : s₂ = ((({ U with heap := s₂.heap, slotsUsed := s₂.slotsUsed } : State).setVm s₂.vm).setTop g).pushFrame (.throwing q) := by
      refine e3.trans ?_
      rw [hf₂, State.calling_eq h.top, State.setFrames_setFrames, State.pushFrame, State.frames_setTop _ hr', State.setTop_of_frames _ hr', State.setFrames_setFrames, hr]
      rfl
    have hsame : U.sameButNew ({ U with heap := s₂.heap, slotsUsed := s₂.slotsUsed } : State) L mc ms := by
      refine ⟨?_, q2, q3, q4, q5, q6⟩
      obtain ⟨t, ht, -⟩ := State.frames_cons hr
      show ({ U with heap := s₂.heap, slotsUsed := s₂.slotsUsed } : State) = { U.setFrames U.frames with heap := s₂.heap, slotsUsed := s₂.slotsUsed }
      rw [State.setFrames_self ht]
    subst hg
    refine Or.inr ⟨q, ⟨(({ U with heap := s₂.heap, slotsUsed := s₂.slotsUsed } : State).setVm s₂.vm), Ls ++ L, c0 + mc, s0 + ms⟩,
      ⟨X.admits, X.cas, X.clock, X.frames, X.room, X.hears, X.method, X.code, (X.here.setHeapUsed s₂.heap s₂.slotsUsed).setVm hW'.alike, X.tail, State.WarmedH.trans X.warmed hW', X.limits, X.bytes, X.same.trans (hsame.setVm s.vm)⟩,
      ⟨g, mk, s₂, L, E, ce, rfl, rfl, hx, hce, hcv, hcl, rfl, hL, rfl, rfl⟩, ?_⟩
    show Steps p.tables e below _ (((({ U with heap := s₂.heap, slotsUsed := s₂.slotsUsed } : State).setVm s₂.vm).setTop g).pushFrame (.throwing q))
    rw [← hs₂]
    exact hsteps
end
variable {p : Program} {l : Launch} {e : Env} {R : Room} {s : State} {m : MethodId} {args : Array Value} {below : List Frame} {meth : Method} {c : Code} {T : State} {H : Heap} {locs : List Loc} {cells slots : Nat}
theorem vx_callVX (X : Stand p l e R s m args below meth c T locs cells slots) (hexec : p.tables.exec = Jvm.exec) {own C : String} {index : Nat} {y : MethodName} {bytes : ByteArray} {maxL : Nat} {ret : Option FieldType} {hh : List (Nat × Nat × Nat × Nat)}
    (hown : s.vm.findClass own = some m.cls) (hlink : (Cond.methodLink own index y).before args s = true) (hinst : (Cond.instanceMethod y).before args s = true) (hsel : (Cond.selects C y y).before args s = true)
    (hcode : (Cond.codeWith y bytes maxL ret hh).before args s = true) (hy : y.cls ≠ "java/lang/invoke/MethodHandle" ∧ y.cls ≠ "java/lang/invoke/VarHandle")
    {W9 : Nat} {Pre : Pt → Array Value → Prop} {Post : Pt → Array Value → Option Value → Pt → Prop} {PostX : Pt → Array Value → Addr → Pt → Prop} (hK : vx_Back l R p e below s args y 3 W9 Pre Post PostX)
    {b : Addr} {cellB : Cell} (hcell : T.heap[b]? = some cellB) (hobj : cellB.vm.isStatics = false) (hcls : s.vm.findClass C = some cellB.cls)
    {g : JFrame} (hg : g.method = m) (hsize : g.locals.size = c.maxLocals) {argsL rest : List Value} (hlen : ∀ sig, parseMethodDescriptor y.desc = some sig → argsL.length = sig.parameters.length)
    (hstack : g.stack = argsL.reverse ++ .ref b :: rest) (hW : 2 * g.monitorRoom + (rest.map fun v => v.category).sum ≤ W9) (hdg : decode c.code g.pc = .ok (.invokevirtual index, 3))
    (hpre : ∀ vm₁, s.WarmedH vm₁ → Pre ⟨T.setVm vm₁, locs, cells, slots⟩ (Value.ref b :: argsL).toArray) :
    (∃ (v : Option Value) (vm₁ : Vm) (B : Pt), s.WarmedH vm₁ ∧ Stand p l e R s m args below meth c B.U B.locs B.cells B.slots ∧ Post ⟨T.setVm vm₁, locs, cells, slots⟩ (Value.ref b :: argsL).toArray v B ∧
      ∀ target, Steps p.tables e below (B.U.setTop { g with pc := g.pc + 3, stack := v.toList ++ rest }) target → Steps p.tables e below (T.setTop g) target) ∨
    (∃ (q : Addr) (vm₁ : Vm) (B : Pt), s.WarmedH vm₁ ∧ Stand p l e R s m args below meth c B.U B.locs B.cells B.slots ∧ PostX ⟨T.setVm vm₁, locs, cells, slots⟩ (Value.ref b :: argsL).toArray q B ∧
      Steps p.tables e below (T.setTop g) ((B.U.setTop { g with stack := rest }).pushFrame (.throwing q))) := by
  obtain ⟨mk, methM, hnamed, hmethM, hstM, habM⟩ := Cond.instanceMethod_spec hinst
  obtain ⟨m8, methM', cM, hn8, hmethM', -, -, -, -, -, -, hsigM⟩ := Cond.codeWith_spec hcode
  cases Option.some.inj (hn8.symm.trans hnamed)
  cases hmethM.symm.trans hmethM'
  obtain ⟨c2, r2, m2, q1, q2, q3, q4, kP, hkP, hkPi⟩ := Cond.selects_spec hsel
  cases hcls.symm.trans q1
  cases (State.methodFound?_of_named hnamed hy).symm.trans q2
  cases hnamed.symm.trans q3
  have hselP : selectMethod e.platform s.vm cellB.cls mk = .method mk := by rw [Launch.admits_selectMethod X.admits]; exact q4
  obtain ⟨vm₁, X₁, hstep₁⟩ := X.invokevirtual hexec hown hlink hnamed hmethM hstM hkP hkPi hy (a := b) (cell := cellB) hcell
    (fun z h => by rw [h] at hobj; cases hobj) hselP hmethM habM hkP hkPi (g := g) hg (argsL := argsL) (rest := rest) (hlen _ hsigM) hstack hdg
  rcases hK m meth c ⟨T.setVm vm₁, locs, cells, slots⟩ { g with stack := rest } (.invokevirtual index) mk (Value.ref b :: argsL).toArray X₁ hg hsize hdg hW (X₁.named hnamed) (hpre vm₁ X₁.warmed) with ⟨v, B, X', hpost, hsteps⟩ | ⟨q, B, X', hpost, hsteps⟩
  · exact Or.inl ⟨v, vm₁, B, X₁.warmed, X', hpost, fun target h => hstep₁ _ fun acts => by rw [doInvoke_state]; exact hsteps.trans h⟩
  · exact Or.inr ⟨q, vm₁, B, X₁.warmed, X', hpost, hstep₁ _ fun acts => by rw [doInvoke_state]; exact hsteps⟩
theorem vx_callSX (X : Stand p l e R s m args below meth c T locs cells slots) (hexec : p.tables.exec = Jvm.exec) {own : String} {index : Nat} {y : MethodName} {bytes : ByteArray} {maxL : Nat} {ret : Option FieldType} {hh : List (Nat × Nat × Nat × Nat)}
    (hown : s.vm.findClass own = some m.cls) (hlink : (Cond.methodLink own index y).before args s = true) (hstat : (Cond.static y).before args s = true) (hinit : (Cond.initialized y.cls).before args s = true)
    (hcode : (Cond.codeWith y bytes maxL ret hh).before args s = true) (hy : y.cls ≠ "java/lang/invoke/MethodHandle" ∧ y.cls ≠ "java/lang/invoke/VarHandle")
    {W9 : Nat} {Pre : Pt → Array Value → Prop} {Post : Pt → Array Value → Option Value → Pt → Prop} {PostX : Pt → Array Value → Addr → Pt → Prop} (hK : vx_Back l R p e below s args y 3 W9 Pre Post PostX)
    {g : JFrame} (hg : g.method = m) (hsize : g.locals.size = c.maxLocals) {argsL rest : List Value} (hlen : ∀ sig, parseMethodDescriptor y.desc = some sig → argsL.length = sig.parameters.length)
    (hstack : g.stack = argsL.reverse ++ rest) (hW : 2 * g.monitorRoom + (rest.map fun v => v.category).sum ≤ W9) (hdg : decode c.code g.pc = .ok (.invokestatic index, 3))
    (hpre : ∀ vm₁, s.WarmedH vm₁ → Pre ⟨T.setVm vm₁, locs, cells, slots⟩ argsL.toArray) :
    (∃ (v : Option Value) (vm₁ : Vm) (B : Pt), s.WarmedH vm₁ ∧ Stand p l e R s m args below meth c B.U B.locs B.cells B.slots ∧ Post ⟨T.setVm vm₁, locs, cells, slots⟩ argsL.toArray v B ∧
      ∀ target, Steps p.tables e below (B.U.setTop { g with pc := g.pc + 3, stack := v.toList ++ rest }) target → Steps p.tables e below (T.setTop g) target) ∨
    (∃ (q : Addr) (vm₁ : Vm) (B : Pt), s.WarmedH vm₁ ∧ Stand p l e R s m args below meth c B.U B.locs B.cells B.slots ∧ PostX ⟨T.setVm vm₁, locs, cells, slots⟩ argsL.toArray q B ∧
      Steps p.tables e below (T.setTop g) ((B.U.setTop { g with stack := rest }).pushFrame (.throwing q))) := by
  obtain ⟨mk, methM, cM, hnamed, hmethM, -, -, -, -, -, -, hsigM⟩ := Cond.codeWith_spec hcode
  have hstatic : methM.isStatic = true := Cond.static_spec hnamed hmethM hstat
  obtain ⟨kP, hkP, -⟩ := className_of_methodNamed hnamed
  have hinitP : kP.init = .initialized := Cond.initialized_spec (findClass_of_methodNamed hnamed) hkP hinit
  obtain ⟨vm₁, X₁, hstep₁⟩ := X.invokestatic hexec hown hlink hnamed hmethM hstatic hkP hinitP hy (g := g) hg (argsL := argsL) (rest := rest) (hlen _ hsigM) hstack hdg
  rcases hK m meth c ⟨T.setVm vm₁, locs, cells, slots⟩ { g with stack := rest } (.invokestatic index) mk argsL.toArray X₁ hg hsize hdg hW (X₁.named hnamed) (hpre vm₁ X₁.warmed) with ⟨v, B, X', hpost, hsteps⟩ | ⟨q, B, X', hpost, hsteps⟩
  · exact Or.inl ⟨v, vm₁, B, X₁.warmed, X', hpost, fun target h => hstep₁ _ fun acts => by rw [doInvoke_state]; exact hsteps.trans h⟩
  · exact Or.inr ⟨q, vm₁, B, X₁.warmed, X', hpost, hstep₁ _ fun acts => by rw [doInvoke_state]; exact hsteps⟩
theorem vx_callVW (X : Stand p l e R s m args below meth c T locs cells slots) (hexec : p.tables.exec = Jvm.exec) {own C : String} {index : Nat} {y : MethodName} {bytes : ByteArray} {maxL : Nat} {ret : Option FieldType} {hh : List (Nat × Nat × Nat × Nat)}
    (hown : s.vm.findClass own = some m.cls) (hlink : (Cond.methodLink own index y).before args s = true) (hinst : (Cond.instanceMethod y).before args s = true) (hsel : (Cond.selects C y y).before args s = true)
    (hcode : (Cond.codeWith y bytes maxL ret hh).before args s = true) (hy : y.cls ≠ "java/lang/invoke/MethodHandle" ∧ y.cls ≠ "java/lang/invoke/VarHandle")
    {W9 : Nat} {Pre : Pt → Array Value → Prop} {Post : Pt → Array Value → Option Value → Pt → Prop} (hK : Back l R p e below s args y 3 W9 Pre Post)
    {b : Addr} {cellB : Cell} (hcell : T.heap[b]? = some cellB) (hobj : cellB.vm.isStatics = false) (hcls : s.vm.findClass C = some cellB.cls)
    {g : JFrame} (hg : g.method = m) (hsize : g.locals.size = c.maxLocals) {argsL rest : List Value} (hlen : ∀ sig, parseMethodDescriptor y.desc = some sig → argsL.length = sig.parameters.length)
    (hstack : g.stack = argsL.reverse ++ .ref b :: rest) (hW : 2 * g.monitorRoom + (rest.map fun v => v.category).sum ≤ W9) (hdg : decode c.code g.pc = .ok (.invokevirtual index, 3))
    (hpre : ∀ vm₁, s.WarmedH vm₁ → Pre ⟨T.setVm vm₁, locs, cells, slots⟩ (Value.ref b :: argsL).toArray) :
    ∃ (v : Option Value) (vm₁ : Vm) (B : Pt), s.WarmedH vm₁ ∧ Stand p l e R s m args below meth c B.U B.locs B.cells B.slots ∧ Post ⟨T.setVm vm₁, locs, cells, slots⟩ (Value.ref b :: argsL).toArray v B ∧
      ∀ target, Steps p.tables e below (B.U.setTop { g with pc := g.pc + 3, stack := v.toList ++ rest }) target → Steps p.tables e below (T.setTop g) target := by
  obtain ⟨mk, methM, hnamed, hmethM, hstM, habM⟩ := Cond.instanceMethod_spec hinst
  obtain ⟨m8, methM', cM, hn8, hmethM', -, -, -, -, -, -, hsigM⟩ := Cond.codeWith_spec hcode
  cases Option.some.inj (hn8.symm.trans hnamed)
  cases hmethM.symm.trans hmethM'
  obtain ⟨c2, r2, m2, q1, q2, q3, q4, kP, hkP, hkPi⟩ := Cond.selects_spec hsel
  cases hcls.symm.trans q1
  cases (State.methodFound?_of_named hnamed hy).symm.trans q2
  cases hnamed.symm.trans q3
  have hselP : selectMethod e.platform s.vm cellB.cls mk = .method mk := by rw [Launch.admits_selectMethod X.admits]; exact q4
  obtain ⟨vm₁, X₁, hstep₁⟩ := X.invokevirtual hexec hown hlink hnamed hmethM hstM hkP hkPi hy (a := b) (cell := cellB) hcell
    (fun z h => by rw [h] at hobj; cases hobj) hselP hmethM habM hkP hkPi (g := g) hg (argsL := argsL) (rest := rest) (hlen _ hsigM) hstack hdg
  obtain ⟨v, B, X', hpost, hsteps⟩ := hK m meth c ⟨T.setVm vm₁, locs, cells, slots⟩ { g with stack := rest } (.invokevirtual index) mk (Value.ref b :: argsL).toArray X₁ hg hsize hdg hW (X₁.named hnamed) (hpre vm₁ X₁.warmed)
  exact ⟨v, vm₁, B, X₁.warmed, X', hpost, fun target h => hstep₁ _ fun acts => by rw [doInvoke_state]; exact hsteps.trans h⟩
abbrev vx_CVW (R : Room) (s : State) (args : Array Value) (own C : String) (index : Nat) (y : MethodName) (bytes : ByteArray) (maxL : Nat) (ret : Option FieldType) (hh : List (Nat × Nat × Nat × Nat)) (ws : List Cond) (rm : Room) (mc ms n : Nat) : Prop :=
  (rm.cells = mc ∧ rm.slots = ms ∧ rm.frames + 1 ≤ R.frames ∧ 8 + (maxL + 11) + rm.locals ≤ R.locals ∧ (∀ w ∈ ws, ∀ (a' : Array Value) (U : State), s.WarmedH U.vm → w.before a' U = true) ∧ Cond.codeWith y bytes maxL ret hh ∈ ws) ∧
  (Cond.codeWith y bytes maxL ret hh).before args s = true ∧ (Cond.initialized y.cls).before args s = true ∧ (y.cls ≠ "java/lang/invoke/MethodHandle" ∧ y.cls ≠ "java/lang/invoke/VarHandle") ∧
  (∀ sig, parseMethodDescriptor y.desc = some sig → n = sig.parameters.length) ∧ (Cond.methodLink own index y).before args s = true ∧ (Cond.instanceMethod y).before args s = true ∧ (Cond.selects C y y).before args s = true
theorem vx_cwVW {own C : String} {index maxL mc ms : Nat} {y : MethodName} {bytes : ByteArray} {ret : Option FieldType} {hh : List (Nat × Nat × Nat × Nat)} {Ts ws ws' : List Cond} {rm : Room} (n : Nat) (ht : ∀ w ∈ Ts, w.before args s = true) (hT : GoodIn Ts (wsV own index C y ws)) (hw : ws = Cond.codeWith y bytes maxL ret hh :: ws') (hrc : rm.cells = mc) (hrs : rm.slots = ms)
    (hd : y.cls = C ∧ y.cls ≠ "java/lang/invoke/MethodHandle" ∧ y.cls ≠ "java/lang/invoke/VarHandle" ∧ (parseMethodDescriptor y.desc).map (fun d => d.parameters.length) = some n) (hR : rm.frames + 1 ≤ R.frames ∧ 8 + (maxL + 11) + rm.locals ≤ R.locals) :
    vx_CVW R s args own C index y bytes maxL ret hh ws rm mc ms n := by
  obtain ⟨hC, hd⟩ := hd
  subst hC
  have ok : ∀ w ∈ wsV own index y.cls y ws, w.before args s = true := fun w h => ht w (hT w h).1
  have hG : GoodIn Ts ws := fun w h => hT w (by unfold wsV; exact List.mem_append_right _ h)
  have hc : Cond.codeWith y bytes maxL ret hh ∈ ws := by rw [hw]; exact List.mem_cons_self
  refine ⟨⟨hrc, hrs, hR.1, hR.2, pay_in ht hG, hc⟩, ht _ (hG _ hc).1, ok _ (by simp [wsV]), ⟨hd.1, hd.2.1⟩, fun sig h => ?_, ok _ (by simp [wsV]), ok _ (by simp [wsV]), ok _ (by simp [wsV])⟩
  have h2 := hd.2.2
  rw [h] at h2
  exact (Option.some.inj h2).symm
theorem vx_runVW {y : MethodName} {bytes cc : ByteArray} {maxL nL mc ms n index : Nat} {ret : Option FieldType} {hh : List (Nat × Nat × Nat × Nat)} {ws : List Cond} {rm : Room} {Pc : Array Value → State → Prop} {Qc : Array Value → State → Outcome → State → Prop} {free : Addr → Prop} {Ts : List Cond} {own C : String} {b : Addr} {As rest : List Value} {g : JFrame}
    (S : CallFix p m c cc nL s args Ts own) (hM : Met l y ws rm Pc Qc mc ms free) (cw : vx_CVW R s args own C index y bytes maxL ret hh ws rm mc ms n) (hp : PreV s H C b Pc As)
    (hg : g.method = m) (hn : As.length = n) (hsize : g.locals.size = nL) (hstack : g.stack = As.reverse ++ .ref b :: rest) (hW : 2 * g.monitorRoom + (rest.map fun v => v.category).sum ≤ 8) (hdg : decode cc g.pc = .ok (.invokevirtual index, 3)) (hf : cells + mc ≤ R.cells ∧ slots + ms ≤ R.slots) :
    va_Run p l e R s m args below meth c H locs cells slots mc ms g rest (Qc (Value.ref b :: As).toArray) free := by
  obtain ⟨⟨hrc, hrs, hfr, hlo, hws, hcw⟩, hcode, hini, hy, hlen, hl, hin, hse⟩ := cw
  have hK : Back l R p e below s args y 3 8 (PreOf R mc ms Pc) (PostOf Qc mc ms free) := va_backW (hh := hh) (bytes := bytes) (maxL := maxL) (ret := ret) hM hp.1 hrc hrs hfr hlo hws hcw (fun a' U hW => word_at hW (Or.inl (by first | rfl | simp [Cond.onTables, Cond.keeps, Cond.steady])) hini)
  obtain ⟨hx, hb, hml, ho, -⟩ := S
  obtain ⟨-, ⟨cellB, hcB, hoB, hclB⟩, hPc⟩ := hp
  intro T hT X
  obtain ⟨v, vm₁, ⟨U', l2, c2, s2⟩, hW₁, X', ⟨g', mk, t, L, e1, e2, hq, h1, hL, h2, h3⟩, st⟩ := vx_callVW X hx (C := C) (hh := hh) (bytes := bytes) (maxL := maxL) (ret := ret) ho hl hin hse hcode hy hK (by rw [hT]; exact hcB) hoB hclB hg (hsize.trans hml.symm) (argsL := As) (rest := rest) (fun sig h => hn.trans (hlen sig h)) hstack hW (by rw [hb]; exact hdg)
    (fun vm₁ hW₁ => ⟨hf.1, hf.2, hPc (T.setVm vm₁) hT hW₁⟩)
  dsimp only [Pt.U, Pt.locs, Pt.cells, Pt.slots] at X' e1 e2 h1 h2 h3 st
  subst h1; subst h2; subst h3
  exact ⟨v, (T.setVm vm₁).calling g' mk (Value.ref b :: As).toArray, t, U', L, hT, X', hL, e1, e2, hq, st⟩
section
variable {y : MethodName} {bytes cc : ByteArray} {maxL nL mc ms n index : Nat} {ret : Option FieldType} {ws : List Cond} {rm : Room} {Pc : Array Value → State → Prop} {Qc : Array Value → State → Outcome → State → Prop} {XC : String → State → State → Prop} {free : Addr → Prop} {Ts : List Cond} {own C : String} {b : Addr} {As rest : List Value} {g : JFrame}
theorem vx_runVX {hh : List (Nat × Nat × Nat × Nat)} (S : CallFix p m c cc nL s args Ts own) (hM : vx_Met l y ws rm Pc Qc XC mc ms free) (cw : vx_CVW R s args own C index y bytes maxL ret hh ws rm mc ms n) (hp : PreV s H C b Pc As)
    (hg : g.method = m) (hn : As.length = n) (hsize : g.locals.size = nL) (hstack : g.stack = As.reverse ++ .ref b :: rest) (hW : 2 * g.monitorRoom + (rest.map fun v => v.category).sum ≤ 8) (hdg : decode cc g.pc = .ok (.invokevirtual index, 3)) (hf : cells + mc ≤ R.cells ∧ slots + ms ≤ R.slots) :
    vx_Run p l e R s m args below meth c H locs cells slots mc ms g rest (Qc (Value.ref b :: As).toArray) XC free := by
  obtain ⟨⟨hrc, hrs, hfr, hlo, hws, hcw⟩, hcode, hini, hy, hlen, hl, hin, hse⟩ := cw
  have hK : vx_Back l R p e below s args y 3 8 (PreOf R mc ms Pc) (PostOf Qc mc ms free) (vx_Post XC mc ms free) := vx_backW (hh := hh) (bytes := bytes) (maxL := maxL) (ret := ret) hM hp.1 hrc hrs hfr hlo hws hcw (fun a' U hW => word_at hW (Or.inl (by first | rfl | simp [Cond.onTables, Cond.keeps, Cond.steady])) hini)
  obtain ⟨hx, hb, hml, ho, -⟩ := S
  obtain ⟨-, ⟨cellB, hcB, hoB, hclB⟩, hPc⟩ := hp
  intro T hT X
  rcases vx_callVX X hx (C := C) (hh := hh) (bytes := bytes) (maxL := maxL) (ret := ret) ho hl hin hse hcode hy hK (by rw [hT]; exact hcB) hoB hclB hg (hsize.trans hml.symm) (argsL := As) (rest := rest) (fun sig h => hn.trans (hlen sig h)) hstack hW (by rw [hb]; exact hdg)
    (fun vm₁ hW₁ => ⟨hf.1, hf.2, hPc (T.setVm vm₁) hT hW₁⟩) with ⟨v, vm₁, ⟨U', l2, c2, s2⟩, hW₁, X', ⟨g', mk, t, L, e1, e2, hq, h1, hL, h2, h3⟩, st⟩ | ⟨q, vm₁, ⟨U', l2, c2, s2⟩, hW₁, X', ⟨g', mk, t, L, E, ce, e1, e2, hq, hce, hcv, hcl, h1, hL, h2, h3⟩, st⟩
  · dsimp only [Pt.U, Pt.locs, Pt.cells, Pt.slots] at X' e1 e2 h1 h2 h3 st
    subst h1; subst h2; subst h3
    exact Or.inl ⟨v, (T.setVm vm₁).calling g' mk (Value.ref b :: As).toArray, t, U', L, hT, X', hL, e1, e2, hq, st⟩
  · dsimp only [Pt.U, Pt.locs, Pt.cells, Pt.slots] at X' e1 e2 h1 h2 h3 st hcl
    subst h1; subst h2; subst h3
    exact Or.inr ⟨q, (T.setVm vm₁).calling g' mk (Value.ref b :: As).toArray, t, U', L, E, ce, hT, X', hL, e1, e2, hq, hce, hcv, vx_cls hW₁ hcl, st⟩
theorem vx_runSX {hh : List (Nat × Nat × Nat × Nat)} (S : CallFix p m c cc nL s args Ts own) (hM : vx_Met l y ws rm Pc Qc XC mc ms free) (cw : vx_CSW R s args own index y bytes maxL ret hh ws rm mc ms n) (hp : PreS s H Pc As)
    (hg : g.method = m) (hn : As.length = n) (hsize : g.locals.size = nL) (hstack : g.stack = As.reverse ++ rest) (hW : 2 * g.monitorRoom + (rest.map fun v => v.category).sum ≤ 8) (hdg : decode cc g.pc = .ok (.invokestatic index, 3)) (hf : cells + mc ≤ R.cells ∧ slots + ms ≤ R.slots) :
    vx_Run p l e R s m args below meth c H locs cells slots mc ms g rest (Qc As.toArray) XC free := by
  obtain ⟨⟨hrc, hrs, hfr, hlo, hws, hcw⟩, hcode, hini, hy, hlen, hl, hstt⟩ := cw
  have hK : vx_Back l R p e below s args y 3 8 (PreOf R mc ms Pc) (PostOf Qc mc ms free) (vx_Post XC mc ms free) := vx_backW (hh := hh) (bytes := bytes) (maxL := maxL) (ret := ret) hM hp.1 hrc hrs hfr hlo hws hcw (fun a' U hW => word_at hW (Or.inl (by first | rfl | simp [Cond.onTables, Cond.keeps, Cond.steady])) hini)
  obtain ⟨hx, hb, hml, ho, -⟩ := S
  intro T hT X
  rcases vx_callSX X hx (hh := hh) (bytes := bytes) (maxL := maxL) (ret := ret) ho hl hstt hini hcode hy hK hg (hsize.trans hml.symm) (argsL := As) (rest := rest) (fun sig h => hn.trans (hlen sig h)) hstack hW (by rw [hb]; exact hdg)
    (fun vm₁ hW₁ => ⟨hf.1, hf.2, hp.2 (T.setVm vm₁) hT hW₁⟩) with ⟨v, vm₁, ⟨U', l2, c2, s2⟩, hW₁, X', ⟨g', mk, t, L, e1, e2, hq, h1, hL, h2, h3⟩, st⟩ | ⟨q, vm₁, ⟨U', l2, c2, s2⟩, hW₁, X', ⟨g', mk, t, L, E, ce, e1, e2, hq, hce, hcv, hcl, h1, hL, h2, h3⟩, st⟩
  · dsimp only [Pt.U, Pt.locs, Pt.cells, Pt.slots] at X' e1 e2 h1 h2 h3 st
    subst h1; subst h2; subst h3
    exact Or.inl ⟨v, (T.setVm vm₁).calling g' mk As.toArray, t, U', L, hT, X', hL, e1, e2, hq, st⟩
  · dsimp only [Pt.U, Pt.locs, Pt.cells, Pt.slots] at X' e1 e2 h1 h2 h3 st hcl
    subst h1; subst h2; subst h3
    exact Or.inr ⟨q, (T.setVm vm₁).calling g' mk As.toArray, t, U', L, E, ce, hT, X', hL, e1, e2, hq, hce, hcv, vx_cls hW₁ hcl, st⟩
end
end VXH
theorem vx_ofWH {l : Launch} {y : MethodName} {ws ws' : List Cond} {rm : Room} {Pc : Array Value → State → Prop} {Qc : Array Value → State → Outcome → State → Prop} {XC : String → State → State → Prop} {mc ms : Nat} {free : Addr → Prop} {cc : ByteArray} {maxL : Nat} {ret : Option FieldType} {hh : List (Nat × Nat × Nat × Nat)}
    (hy : plainName y.cls = true) (hw : ws = Cond.codeWith y cc maxL ret hh :: ws')
    (body : ∀ p e s m args below meth c s₁, BodyLoose p l y (headSpec ws rm) cc maxL ret e s m args below meth c s₁ → c.maxLocals = maxL → Pc args s →
      W p l e (headSpec ws rm).room s m args below meth c s.heap [] 0 0 (vx_MQ below Qc XC args s mc ms free) (entryFrame m args maxL)) : vx_Met l y ws rm Pc Qc XC mc ms free := by
  refine MetFree.of_bodyS (code := cc) (maxLocals := maxL) (ret := ret) hy ?_ ?_
  · intro args s m h hn
    obtain ⟨m9, meth, c, hn9, h1, h2, h3, h4, -, h5, h6, -⟩ := Cond.codeWith_spec (atoms_spec (ws := ws) h _ (by rw [hw]; exact List.mem_cons_self))
    cases hn.symm.trans hn9
    exact ⟨meth, c, h1, h2, h3, h4, h5, h6⟩
  · intro p e s m args below meth c s₁ B hml hP _
    have hh0 : s₁.heap = s.heap := by rw [B.state]; rfl
    obtain ⟨t, a1, o, b1, b2, b3⟩ := body p e s m args below meth c s₁ B hml hP s₁ hh0 (Stand.of_body B)
    exact ⟨t, o, a1, b1, b2, b3⟩
/-! ===== END ===== -/

section VXIA
variable {p : Program} {l : Launch} {e : Env} {R : Room} {s : State} {m : MethodId} {args : Array Value} {below : List Frame} {meth : Method} {c : Code} {T : State} {locs : List Loc} {cells slots : Nat}
theorem vx_callI (X : Stand p l e R s m args below meth c T locs cells slots) (hexec : p.tables.exec = Jvm.exec) {own : String} {index : Nat} {y : MethodName} {bytes : ByteArray} {maxL : Nat}
    (hown : s.vm.findClass own = some m.cls) (hy1 : y.name = "<init>") (hlink : (Cond.methodLink own index y).before args s = true) (hinst : (Cond.instanceMethod y).before args s = true)
    (hcode : (Cond.code y bytes maxL none).before args s = true) (hy : y.cls ≠ "java/lang/invoke/MethodHandle" ∧ y.cls ≠ "java/lang/invoke/VarHandle")
    {W9 : Nat} {Pre : Pt → Array Value → Prop} {Post : Pt → Array Value → Option Value → Pt → Prop} {PostX : Pt → Array Value → Addr → Pt → Prop} (hK : vx_Back l R p e below s args y 3 W9 Pre Post PostX)
    {g : JFrame} (hg : g.method = m) (hsize : g.locals.size = c.maxLocals) {a : Addr} {argsL rest : List Value} (hlen : ∀ sig, parseMethodDescriptor y.desc = some sig → argsL.length = sig.parameters.length)
    (hstack : g.stack = argsL.reverse ++ .ref a :: rest) (hW : 2 * g.monitorRoom + (rest.map fun v => v.category).sum ≤ W9) (hdg : decode c.code g.pc = .ok (.invokespecial index, 3))
    (hpre : ∀ vm₁, s.WarmedH vm₁ → Pre ⟨T.setVm vm₁, locs, cells, slots⟩ (Value.ref a :: argsL).toArray) :
    (∃ (v : Option Value) (vm₁ : Vm) (B : Pt), s.WarmedH vm₁ ∧ Stand p l e R s m args below meth c B.U B.locs B.cells B.slots ∧ Post ⟨T.setVm vm₁, locs, cells, slots⟩ (Value.ref a :: argsL).toArray v B ∧
      ∀ target, Steps p.tables e below (B.U.setTop { g with pc := g.pc + 3, stack := v.toList ++ rest }) target → Steps p.tables e below (T.setTop g) target) ∨
    (∃ (q : Addr) (vm₁ : Vm) (B : Pt), s.WarmedH vm₁ ∧ Stand p l e R s m args below meth c B.U B.locs B.cells B.slots ∧ PostX ⟨T.setVm vm₁, locs, cells, slots⟩ (Value.ref a :: argsL).toArray q B ∧
      Steps p.tables e below (T.setTop g) ((B.U.setTop { g with stack := rest }).pushFrame (.throwing q))) := by
  subst hg
  have hpl : e.platform.magicAccessors = ({} : Platform).magicAccessors := by rw [X.admits.platform]
  obtain ⟨mk, methM, cM, kP, vm₁, hnamed, hmethM, hcodeM, -, hlocalsM, -, hkP, -, hW₁, hstep₁⟩ := Steps.initColdArgs (e := e) X.here hexec X.warmed hpl hown hy1 hy hlink hinst hcode (f := g) rfl hlen hstack hdg
  have X₁ := X.noted hW₁
  rcases hK g.method meth c ⟨T.setVm vm₁, locs, cells, slots⟩ { g with stack := rest } (.invokespecial index) mk (Value.ref a :: argsL).toArray X₁ rfl hsize hdg hW (X₁.named hnamed) (hpre vm₁ X₁.warmed) with ⟨v, B, X', hpost, hsteps⟩ | ⟨q, B, X', hpost, hsteps⟩
  · exact Or.inl ⟨v, vm₁, B, X₁.warmed, X', hpost, fun target h => hstep₁ _ fun acts => by rw [doInvoke_state]; exact hsteps.trans h⟩
  · exact Or.inr ⟨q, vm₁, B, X₁.warmed, X', hpost, hstep₁ _ fun acts => by rw [doInvoke_state]; exact hsteps⟩
end VXIA
section VXIB
variable {p : Program} {l : Launch} {e : Env} {R : Room} {s : State} {m : MethodId} {args : Array Value} {below : List Frame} {meth : Method} {c : Code} {H : Heap} {locs : List Loc} {cells slots : Nat}
variable {y : MethodName} {bytes cc : ByteArray} {maxL nL mc ms n index : Nat} {ret : Option FieldType} {ws : List Cond} {rm : Room} {Pc : Array Value → State → Prop} {Qc : Array Value → State → Outcome → State → Prop} {XC : String → State → State → Prop} {free : Addr → Prop} {Ts : List Cond} {own C : String} {b : Addr} {As rest : List Value} {g : JFrame}
theorem vx_runI (S : CallFix p m c cc nL s args Ts own) (hM : vx_Met l y ws rm Pc Qc XC mc ms free) (cw : CallB R s args own index y bytes maxL none ws rm mc ms n ∧ y.name = "<init>" ∧ (Cond.instanceMethod y).before args s = true) (hp : PreS s H Pc (.ref b :: As))
    (hg : g.method = m) (hn : As.length = n) (hsize : g.locals.size = nL) (hstack : g.stack = As.reverse ++ .ref b :: rest) (hW : 2 * g.monitorRoom + (rest.map fun v => v.category).sum ≤ 8) (hdg : decode cc g.pc = .ok (.invokespecial index, 3)) (hf : cells + mc ≤ R.cells ∧ slots + ms ≤ R.slots) :
    vx_Run p l e R s m args below meth c H locs cells slots mc ms g rest (Qc (Value.ref b :: As).toArray) XC free := by
  have hK : vx_Back l R p e below s args y 3 8 (PreOf R mc ms Pc) (PostOf Qc mc ms free) (vx_Post XC mc ms free) := vx_callBack cw.1 hM hp.1
  obtain ⟨⟨-, -, -, -, -, -, hcode, -, hy, hlen, hl⟩, hy1, hin⟩ := cw
  obtain ⟨hx, hb, hml, ho, -⟩ := S
  have hPc := hp.2
  intro T hT X
  rcases vx_callI X hx (bytes := bytes) (maxL := maxL) ho hy1 hl hin hcode hy hK hg (hsize.trans hml.symm) (a := b) (argsL := As) (rest := rest) (fun sig h => hn.trans (hlen sig h)) hstack hW (by rw [hb]; exact hdg)
    (fun vm₁ hW₁ => ⟨hf.1, hf.2, hPc (T.setVm vm₁) hT hW₁⟩) with ⟨v, vm₁, ⟨U', l2, c2, s2⟩, hW₁, X', ⟨g', mk, t, L, e1, e2, hq, h1, hL, h2, h3⟩, st⟩ | ⟨q, vm₁, ⟨U', l2, c2, s2⟩, hW₁, X', ⟨g', mk, t, L, E, ce, e1, e2, hq, hce, hcv, hcl, h1, hL, h2, h3⟩, st⟩
  · dsimp only [Pt.U, Pt.locs, Pt.cells, Pt.slots] at X' e1 e2 h1 h2 h3 st
    subst h1; subst h2; subst h3
    exact Or.inl ⟨v, (T.setVm vm₁).calling g' mk (Value.ref b :: As).toArray, t, U', L, hT, X', hL, e1, e2, hq, st⟩
  · dsimp only [Pt.U, Pt.locs, Pt.cells, Pt.slots] at X' e1 e2 h1 h2 h3 st hcl
    subst h1; subst h2; subst h3
    exact Or.inr ⟨q, (T.setVm vm₁).calling g' mk (Value.ref b :: As).toArray, t, U', L, E, ce, hT, X', hL, e1, e2, hq, hce, hcv, vx_cls hW₁ hcl, st⟩
end VXIB
/-! ===== END ===== -/
/-! ===== BEGIN a private constructor of a nest mate that throws ===== -/
section VXIC
variable {p : Program} {l : Launch} {e : Env} {R : Room} {s : State} {m : MethodId} {args : Array Value} {below : List Frame} {meth : Method} {c : Code} {T : State} {locs : List Loc} {cells slots : Nat}
theorem vx_callIN (X : Stand p l e R s m args below meth c T locs cells slots) (hexec : p.tables.exec = Jvm.exec) {own : String} {index : Nat} {host : String} {y : MethodName} {bytes : ByteArray} {maxL : Nat}
    (hown : s.vm.findClass own = some m.cls) (hy1 : y.name = "<init>") (hlink : (Cond.methodLinkNest own index y host).before args s = true) (hinst : (Cond.instanceMethod y).before args s = true)
    (hcode : (Cond.code y bytes maxL none).before args s = true) (hy : y.cls ≠ "java/lang/invoke/MethodHandle" ∧ y.cls ≠ "java/lang/invoke/VarHandle")
    {W9 : Nat} {Pre : Pt → Array Value → Prop} {Post : Pt → Array Value → Option Value → Pt → Prop} {PostX : Pt → Array Value → Addr → Pt → Prop} (hK : vx_Back l R p e below s args y 3 W9 Pre Post PostX)
    {g : JFrame} (hg : g.method = m) (hsize : g.locals.size = c.maxLocals) {a : Addr} {argsL rest : List Value} (hlen : ∀ sig, parseMethodDescriptor y.desc = some sig → argsL.length = sig.parameters.length)
    (hstack : g.stack = argsL.reverse ++ .ref a :: rest) (hW : 2 * g.monitorRoom + (rest.map fun v => v.category).sum ≤ W9) (hdg : decode c.code g.pc = .ok (.invokespecial index, 3))
    (hpre : ∀ vm₁, s.WarmedH vm₁ → Pre ⟨T.setVm vm₁, locs, cells, slots⟩ (Value.ref a :: argsL).toArray) :
    (∃ (v : Option Value) (vm₁ : Vm) (B : Pt), s.WarmedH vm₁ ∧ Stand p l e R s m args below meth c B.U B.locs B.cells B.slots ∧ Post ⟨T.setVm vm₁, locs, cells, slots⟩ (Value.ref a :: argsL).toArray v B ∧
      ∀ target, Steps p.tables e below (B.U.setTop { g with pc := g.pc + 3, stack := v.toList ++ rest }) target → Steps p.tables e below (T.setTop g) target) ∨
    (∃ (q : Addr) (vm₁ : Vm) (B : Pt), s.WarmedH vm₁ ∧ Stand p l e R s m args below meth c B.U B.locs B.cells B.slots ∧ PostX ⟨T.setVm vm₁, locs, cells, slots⟩ (Value.ref a :: argsL).toArray q B ∧
      Steps p.tables e below (T.setTop g) ((B.U.setTop { g with stack := rest }).pushFrame (.throwing q))) := by
  subst hg
  have hpl : e.platform.magicAccessors = ({} : Platform).magicAccessors := by rw [X.admits.platform]
  obtain ⟨mk, methM, cM, kP, vm₁, hnamed, hmethM, hcodeM, -, hlocalsM, -, hkP, -, hW₁, hstep₁⟩ := Steps.initColdArgsNest (e := e) X.here hexec X.warmed hpl hown hy1 hy hlink hinst hcode (f := g) rfl hlen hstack hdg
  have X₁ := X.noted hW₁
  rcases hK g.method meth c ⟨T.setVm vm₁, locs, cells, slots⟩ { g with stack := rest } (.invokespecial index) mk (Value.ref a :: argsL).toArray X₁ rfl hsize hdg hW (X₁.named hnamed) (hpre vm₁ X₁.warmed) with ⟨v, B, X', hpost, hsteps⟩ | ⟨q, B, X', hpost, hsteps⟩
  · exact Or.inl ⟨v, vm₁, B, X₁.warmed, X', hpost, fun target h => hstep₁ _ fun acts => by rw [doInvoke_state]; exact hsteps.trans h⟩
  · exact Or.inr ⟨q, vm₁, B, X₁.warmed, X', hpost, hstep₁ _ fun acts => by rw [doInvoke_state]; exact hsteps⟩
end VXIC
section VXID
variable {p : Program} {l : Launch} {e : Env} {R : Room} {s : State} {m : MethodId} {args : Array Value} {below : List Frame} {meth : Method} {c : Code} {H : Heap} {locs : List Loc} {cells slots : Nat}
theorem vx_runIN {y : MethodName} {bytes cc : ByteArray} {maxL nL mc ms n index : Nat} {ws : List Cond} {rm : Room} {Pc : Array Value → State → Prop} {Qc : Array Value → State → Outcome → State → Prop} {XC : String → State → State → Prop} {free : Addr → Prop} {Ts : List Cond} {own host : String} {b : Addr} {As rest : List Value} {g : JFrame}
    (S : CallFix p m c cc nL s args Ts own) (hM : vx_Met l y ws rm Pc Qc XC mc ms free) (cw : va_CN R s args own index y host bytes maxL none ws rm mc ms n ∧ y.name = "<init>" ∧ (Cond.instanceMethod y).before args s = true) (hp : PreS s H Pc (.ref b :: As))
    (hg : g.method = m) (hn : As.length = n) (hsize : g.locals.size = nL) (hstack : g.stack = As.reverse ++ .ref b :: rest) (hW : 2 * g.monitorRoom + (rest.map fun v => v.category).sum ≤ 8) (hdg : decode cc g.pc = .ok (.invokespecial index, 3)) (hf : cells + mc ≤ R.cells ∧ slots + ms ≤ R.slots) :
    vx_Run p l e R s m args below meth c H locs cells slots mc ms g rest (Qc (Value.ref b :: As).toArray) XC free := by
  obtain ⟨⟨⟨hrc, hrs, hfr, hlo, hws, hcw⟩, hcode, hini, hy, hlen, hl⟩, hx1, hx2⟩ := cw
  have hK : vx_Back l R p e below s args y 3 8 (PreOf R mc ms Pc) (PostOf Qc mc ms free) (vx_Post XC mc ms free) := vx_back (bytes := bytes) (maxL := maxL) (ret := none) hM hp.1 hrc hrs hfr hlo hws hcw (fun a' U hW => word_at hW (Or.inl (by first | rfl | simp [Cond.onTables, Cond.keeps, Cond.steady])) hini)
  obtain ⟨hx, hb, hml, ho, -⟩ := S
  have hPc := hp.2
  intro T hT X
  rcases vx_callIN X hx (bytes := bytes) (maxL := maxL) ho hx1 hl hx2 hcode hy hK hg (hsize.trans hml.symm) (a := b) (argsL := As) (rest := rest) (fun sig h => hn.trans (hlen sig h)) hstack hW (by rw [hb]; exact hdg)
    (fun vm₁ hW₁ => ⟨hf.1, hf.2, hPc (T.setVm vm₁) hT hW₁⟩) with ⟨v, vm₁, ⟨U', l2, c2, s2⟩, hW₁, X', ⟨g', mk, t, L, e1, e2, hq, h1, hL, h2, h3⟩, st⟩ | ⟨q, vm₁, ⟨U', l2, c2, s2⟩, hW₁, X', ⟨g', mk, t, L, E, ce, e1, e2, hq, hce, hcv, hcl, h1, hL, h2, h3⟩, st⟩
  · dsimp only [Pt.U, Pt.locs, Pt.cells, Pt.slots] at X' e1 e2 h1 h2 h3 st
    subst h1; subst h2; subst h3
    exact Or.inl ⟨v, (T.setVm vm₁).calling g' mk (Value.ref b :: As).toArray, t, U', L, hT, X', hL, e1, e2, hq, st⟩
  · dsimp only [Pt.U, Pt.locs, Pt.cells, Pt.slots] at X' e1 e2 h1 h2 h3 st hcl
    subst h1; subst h2; subst h3
    exact Or.inr ⟨q, (T.setVm vm₁).calling g' mk (Value.ref b :: As).toArray, t, U', L, E, ce, hT, X', hL, e1, e2, hq, hce, hcv, vx_cls hW₁ hcl, st⟩
end VXID
end
section
/-! printed: the names of classes, fields, methods -/
def RX0 : String := "Staggershelf$Rack"
def TX0 : u_T := fun k => match k with
  | 0 => ("Staggershelf$Rack", "disks", "I", false)
  | 1 => ("Staggershelf$Rack", "stripes", "I", false)
  | 2 => ("Staggershelf$Rack", "values", "[I", true)
  | 3 => ("Staggershelf$Rack", "marks", "[I", true)
  | 4 => ("Staggershelf$Rack", "written", "[I", true)
  | 5 => ("Staggershelf$Rack", "failed", "[Z", true)
  | _ => ("Staggershelf$Rack", "swaps", "[I", true)
def tyX0 : Nat → FieldType := fun k => match k with
  | 0 => .int
  | 1 => .int
  | 2 => .array .int
  | 3 => .array .int
  | 4 => .array .int
  | 5 => .array .boolean
  | _ => .array .int
abbrev wsX00 : List Cond := u_ws RX0 TX0 7
theorem nmX0 : ∀ a, a < 7 → ∀ b, b < 7 → a ≠ b → (TX0 a).2.1 ≠ (TX0 b).2.1 := by decide +kernel
theorem tyX0_ok : ∀ k, k < 7 → parseFieldDescriptor (TX0 k).2.2.1 = some (tyX0 k) := by decide +kernel
abbrev cX0_init : ByteArray := prog_2_method_1_code
def yX0_init : MethodName := ⟨RX0, "<init>", "()V"⟩
abbrev cX0_build : ByteArray := prog_2_method_2_code
def yX0_build : MethodName := ⟨RX0, "build", "(II)V"⟩
abbrev cX0_hasDisk : ByteArray := prog_2_method_3_code
def yX0_hasDisk : MethodName := ⟨RX0, "hasDisk", "(I)Z"⟩
abbrev cX0_hasStripe : ByteArray := prog_2_method_4_code
def yX0_hasStripe : MethodName := ⟨RX0, "hasStripe", "(I)Z"⟩
abbrev cX0_hasBlock : ByteArray := prog_2_method_5_code
def yX0_hasBlock : MethodName := ⟨RX0, "hasBlock", "(I)Z"⟩
abbrev cX0_blocks : ByteArray := prog_2_method_6_code
def yX0_blocks : MethodName := ⟨RX0, "blocks", "()I"⟩
abbrev cX0_stripeOf : ByteArray := prog_2_method_7_code
def yX0_stripeOf : MethodName := ⟨RX0, "stripeOf", "(I)I"⟩
abbrev cX0_diskOf : ByteArray := prog_2_method_8_code
def yX0_diskOf : MethodName := ⟨RX0, "diskOf", "(I)I"⟩
abbrev cX0_blockIn : ByteArray := prog_2_method_9_code
def yX0_blockIn : MethodName := ⟨RX0, "blockIn", "(II)I"⟩
abbrev cX0_sumDisk : ByteArray := prog_2_method_10_code
def yX0_sumDisk : MethodName := ⟨RX0, "sumDisk", "(I)I"⟩
abbrev cX0_stripeBehind : ByteArray := prog_2_method_11_code
def yX0_stripeBehind : MethodName := ⟨RX0, "stripeBehind", "(II)I"⟩
abbrev cX0_valueAt : ByteArray := prog_2_method_12_code
def yX0_valueAt : MethodName := ⟨RX0, "valueAt", "(II)I"⟩
abbrev cX0_markAt : ByteArray := prog_2_method_13_code
def yX0_markAt : MethodName := ⟨RX0, "markAt", "(II)I"⟩
abbrev cX0_hasFailed : ByteArray := prog_2_method_14_code
def yX0_hasFailed : MethodName := ⟨RX0, "hasFailed", "(I)Z"⟩
abbrev cX0_swapsOf : ByteArray := prog_2_method_15_code
def yX0_swapsOf : MethodName := ⟨RX0, "swapsOf", "(I)I"⟩
abbrev cX0_isBad : ByteArray := prog_2_method_16_code
def yX0_isBad : MethodName := ⟨RX0, "isBad", "(II)Z"⟩
abbrev cX0_isLost : ByteArray := prog_2_method_17_code
def yX0_isLost : MethodName := ⟨RX0, "isLost", "(II)Z"⟩
abbrev cX0_badCells : ByteArray := prog_2_method_18_code
def yX0_badCells : MethodName := ⟨RX0, "badCells", "(I)I"⟩
abbrev cX0_badCellsOf : ByteArray := prog_2_method_19_code
def yX0_badCellsOf : MethodName := ⟨RX0, "badCellsOf", "(I)I"⟩
abbrev cX0_allBadCells : ByteArray := prog_2_method_20_code
def yX0_allBadCells : MethodName := ⟨RX0, "allBadCells", "()I"⟩
abbrev cX0_hurtStripes : ByteArray := prog_2_method_21_code
def yX0_hurtStripes : MethodName := ⟨RX0, "hurtStripes", "()I"⟩
abbrev cX0_brokenStripes : ByteArray := prog_2_method_22_code
def yX0_brokenStripes : MethodName := ⟨RX0, "brokenStripes", "()I"⟩
abbrev cX0_failedDisks : ByteArray := prog_2_method_23_code
def yX0_failedDisks : MethodName := ⟨RX0, "failedDisks", "()I"⟩
abbrev cX0_lostBlocks : ByteArray := prog_2_method_24_code
def yX0_lostBlocks : MethodName := ⟨RX0, "lostBlocks", "(II)I"⟩
abbrev cX0_shouldHave : ByteArray := prog_2_method_25_code
def yX0_shouldHave : MethodName := ⟨RX0, "shouldHave", "(II)I"⟩
abbrev cX0_xorOfOthers : ByteArray := prog_2_method_26_code
def yX0_xorOfOthers : MethodName := ⟨RX0, "xorOfOthers", "(II)I"⟩
abbrev cX0_lay : ByteArray := prog_2_method_27_code
def yX0_lay : MethodName := ⟨RX0, "lay", "(III)V"⟩
abbrev cX0_mendStripe : ByteArray := prog_2_method_28_code
def yX0_mendStripe : MethodName := ⟨RX0, "mendStripe", "(I)I"⟩
abbrev cX0_setFailed : ByteArray := prog_2_method_29_code
def yX0_setFailed : MethodName := ⟨RX0, "setFailed", "(I)V"⟩
abbrev cX0_putNewDisk : ByteArray := prog_2_method_30_code
def yX0_putNewDisk : MethodName := ⟨RX0, "putNewDisk", "(I)V"⟩
abbrev cX0_turnBits : ByteArray := prog_2_method_31_code
def yX0_turnBits : MethodName := ⟨RX0, "turnBits", "(III)V"⟩
abbrev cX0_countAsWritten : ByteArray := prog_2_method_32_code
def yX0_countAsWritten : MethodName := ⟨RX0, "countAsWritten", "(II)V"⟩
abbrev cX0_startAnew : ByteArray := prog_2_method_33_code
def yX0_startAnew : MethodName := ⟨RX0, "startAnew", "(I)I"⟩
abbrev cX0_isStripeSound : ByteArray := prog_2_method_34_code
def yX0_isStripeSound : MethodName := ⟨RX0, "isStripeSound", "(I)Z"⟩
abbrev cX0_fittingMark : ByteArray := prog_2_method_35_code
def yX0_fittingMark : MethodName := ⟨RX0, "fittingMark", "(II)I"⟩
abbrev cX0_indexOf : ByteArray := prog_2_method_36_code
def yX0_indexOf : MethodName := ⟨RX0, "indexOf", "(II)I"⟩
def RX1 : String := "Staggershelf$Starts"
def TX1 : u_T := fun k => match k with
  | 0 => ("Staggershelf$Starts", "limit", "I", false)
  | 1 => ("Staggershelf$Starts", "patience", "I", false)
  | 2 => ("Staggershelf$Starts", "disks", "I", false)
  | 3 => ("Staggershelf$Starts", "peaks", "[I", true)
  | 4 => ("Staggershelf$Starts", "spins", "[I", true)
  | 5 => ("Staggershelf$Starts", "idles", "[I", true)
  | 6 => ("Staggershelf$Starts", "planEnd", "I", false)
  | 7 => ("Staggershelf$Starts", "planStarts", "[I", true)
  | 8 => ("Staggershelf$Starts", "planPlaces", "[I", true)
  | 9 => ("Staggershelf$Starts", "triedStarts", "[I", true)
  | 10 => ("Staggershelf$Starts", "triedPlaces", "[I", true)
  | 11 => ("Staggershelf$Starts", "triedRuns", "[I", true)
  | 12 => ("Staggershelf$Starts", "idleDraw", "I", false)
  | 13 => ("Staggershelf$Starts", "surges", "[I", true)
  | _ => ("Staggershelf$Starts", "gapStarts", "[I", true)
def tyX1 : Nat → FieldType := fun k => match k with
  | 0 => .int
  | 1 => .int
  | 2 => .int
  | 3 => .array .int
  | 4 => .array .int
  | 5 => .array .int
  | 6 => .int
  | 7 => .array .int
  | 8 => .array .int
  | 9 => .array .int
  | 10 => .array .int
  | 11 => .array .int
  | 12 => .int
  | 13 => .array .int
  | _ => .array .int
abbrev wsX10 : List Cond := u_ws RX1 TX1 15
theorem nmX1 : ∀ a, a < 15 → ∀ b, b < 15 → a ≠ b → (TX1 a).2.1 ≠ (TX1 b).2.1 := by decide +kernel
theorem tyX1_ok : ∀ k, k < 15 → parseFieldDescriptor (TX1 k).2.2.1 = some (tyX1 k) := by decide +kernel
abbrev cX1_init : ByteArray := prog_3_method_1_code
def yX1_init : MethodName := ⟨RX1, "<init>", "()V"⟩
abbrev cX1_planFor : ByteArray := prog_3_method_2_code
def yX1_planFor : MethodName := ⟨RX1, "planFor", "(I)V"⟩
abbrev cX1_peakOf : ByteArray := prog_3_method_5_code
def yX1_peakOf : MethodName := ⟨RX1, "peakOf", "(I)I"⟩
abbrev cX1_spinOf : ByteArray := prog_3_method_6_code
def yX1_spinOf : MethodName := ⟨RX1, "spinOf", "(I)I"⟩
abbrev cX1_idleOf : ByteArray := prog_3_method_7_code
def yX1_idleOf : MethodName := ⟨RX1, "idleOf", "(I)I"⟩
abbrev cX1_endOfPlan : ByteArray := prog_3_method_8_code
def yX1_endOfPlan : MethodName := ⟨RX1, "endOfPlan", "()I"⟩
abbrev cX1_startInPlan : ByteArray := prog_3_method_9_code
def yX1_startInPlan : MethodName := ⟨RX1, "startInPlan", "(I)I"⟩
abbrev cX1_placeInPlan : ByteArray := prog_3_method_10_code
def yX1_placeInPlan : MethodName := ⟨RX1, "placeInPlan", "(I)I"⟩
abbrev cX1_drawByPlan : ByteArray := prog_3_method_11_code
def yX1_drawByPlan : MethodName := ⟨RX1, "drawByPlan", "(I)I"⟩
abbrev cX1_planTrips : ByteArray := prog_3_method_12_code
def yX1_planTrips : MethodName := ⟨RX1, "planTrips", "()Z"⟩
abbrev cX1_lastStartByGap : ByteArray := prog_3_method_13_code
def yX1_lastStartByGap : MethodName := ⟨RX1, "lastStartByGap", "(I)I"⟩
abbrev cX1_drawBy : ByteArray := prog_3_method_14_code
def yX1_drawBy : MethodName := ⟨RX1, "drawBy", "([II)I"⟩
abbrev cX1_drawSince : ByteArray := prog_3_method_15_code
def yX1_drawSince : MethodName := ⟨RX1, "drawSince", "(II)I"⟩
abbrev cX1_trips : ByteArray := prog_3_method_16_code
def yX1_trips : MethodName := ⟨RX1, "trips", "([I)Z"⟩
abbrev cX1_makePlan : ByteArray := prog_3_method_17_code
def yX1_makePlan : MethodName := ⟨RX1, "makePlan", "()V"⟩
abbrev cX1_allIdle : ByteArray := prog_3_method_18_code
def yX1_allIdle : MethodName := ⟨RX1, "allIdle", "()I"⟩
abbrev cX1_tryPlace : ByteArray := prog_3_method_19_code
def yX1_tryPlace : MethodName := ⟨RX1, "tryPlace", "(III)V"⟩
abbrev cX1_tryDisk : ByteArray := prog_3_method_20_code
def yX1_tryDisk : MethodName := ⟨RX1, "tryDisk", "(IIII)V"⟩
abbrev cX1_keepTried : ByteArray := prog_3_method_21_code
def yX1_keepTried : MethodName := ⟨RX1, "keepTried", "(I)V"⟩
abbrev cX1_addDraw : ByteArray := prog_3_method_22_code
def yX1_addDraw : MethodName := ⟨RX1, "addDraw", "(III)V"⟩
abbrev cX1_leastStart : ByteArray := prog_3_method_23_code
def yX1_leastStart : MethodName := ⟨RX1, "leastStart", "(IIII)I"⟩
abbrev cX1_keepRun : ByteArray := prog_3_method_24_code
def yX1_keepRun : MethodName := ⟨RX1, "keepRun", "(II)V"⟩
abbrev cX1_tripsWith : ByteArray := prog_3_method_25_code
def yX1_tripsWith : MethodName := ⟨RX1, "tripsWith", "(IIII)Z"⟩
def RX2 : String := "Staggershelf"
def TX2 : u_T := fun k => match k with
  | 0 => ("Staggershelf", "rack", "LStaggershelf$Rack;", true)
  | 1 => ("Staggershelf", "starts", "LStaggershelf$Starts;", true)
  | 2 => ("Staggershelf", "isOn", "Z", false)
  | 3 => ("Staggershelf", "noteBlock", "I", false)
  | 4 => ("Staggershelf", "noteValue", "I", false)
  | 5 => ("Staggershelf", "noteSum", "I", false)
  | 6 => ("Staggershelf", "rebuildPlace", "I", false)
  | 7 => ("Staggershelf", "patrolPlace", "I", false)
  | 8 => ("Staggershelf", "writes", "I", false)
  | 9 => ("Staggershelf", "reads", "I", false)
  | 10 => ("Staggershelf", "mended", "I", false)
  | 11 => ("Staggershelf", "offs", "I", false)
  | _ => ("Staggershelf", "refused", "I", false)
def tyX2 : Nat → FieldType := fun k => match k with
  | 0 => .object "Staggershelf$Rack"
  | 1 => .object "Staggershelf$Starts"
  | 2 => .boolean
  | 3 => .int
  | 4 => .int
  | 5 => .int
  | 6 => .int
  | 7 => .int
  | 8 => .int
  | 9 => .int
  | 10 => .int
  | 11 => .int
  | _ => .int
abbrev wsX20 : List Cond := u_ws RX2 TX2 13
theorem nmX2 : ∀ a, a < 13 → ∀ b, b < 13 → a ≠ b → (TX2 a).2.1 ≠ (TX2 b).2.1 := by decide +kernel
theorem tyX2_ok : ∀ k, k < 13 → parseFieldDescriptor (TX2 k).2.2.1 = some (tyX2 k) := by decide +kernel
abbrev cX2_init : ByteArray := prog_1_method_1_code
def yX2_init : MethodName := ⟨RX2, "<init>", "()V"⟩
abbrev cX2_shelf : ByteArray := prog_1_method_2_code
def yX2_shelf : MethodName := ⟨RX2, "shelf", "(II)I"⟩
abbrev cX2_write : ByteArray := prog_1_method_3_code
def yX2_write : MethodName := ⟨RX2, "write", "(III)Z"⟩
abbrev cX2_read : ByteArray := prog_1_method_4_code
def yX2_read : MethodName := ⟨RX2, "read", "(I)I"⟩
abbrev cX2_fail : ByteArray := prog_1_method_5_code
def yX2_fail : MethodName := ⟨RX2, "fail", "(I)I"⟩
abbrev cX2_swap : ByteArray := prog_1_method_6_code
def yX2_swap : MethodName := ⟨RX2, "swap", "(I)I"⟩
abbrev cX2_flip : ByteArray := prog_1_method_7_code
def yX2_flip : MethodName := ⟨RX2, "flip", "(III)I"⟩
abbrev cX2_rebuild : ByteArray := prog_1_method_8_code
def yX2_rebuild : MethodName := ⟨RX2, "rebuild", "(I)I"⟩
abbrev cX2_patrol : ByteArray := prog_1_method_9_code
def yX2_patrol : MethodName := ⟨RX2, "patrol", "(I)I"⟩
abbrev cX2_giveUp : ByteArray := prog_1_method_10_code
def yX2_giveUp : MethodName := ⟨RX2, "giveUp", "(I)I"⟩
abbrev cX2_power : ByteArray := prog_1_method_14_code
def yX2_power : MethodName := ⟨RX2, "power", "()I"⟩
abbrev cX2_cell : ByteArray := prog_1_method_16_code
def yX2_cell : MethodName := ⟨RX2, "cell", "(III)I"⟩
abbrev cX2_ofDisk : ByteArray := prog_1_method_17_code
def yX2_ofDisk : MethodName := ⟨RX2, "ofDisk", "(II)I"⟩
abbrev cX2_ofBlock : ByteArray := prog_1_method_18_code
def yX2_ofBlock : MethodName := ⟨RX2, "ofBlock", "(II)I"⟩
abbrev cX2_note : ByteArray := prog_1_method_19_code
def yX2_note : MethodName := ⟨RX2, "note", "(I)I"⟩
abbrev cX2_house : ByteArray := prog_1_method_20_code
def yX2_house : MethodName := ⟨RX2, "house", "(I)I"⟩
abbrev cX2_draw : ByteArray := prog_1_method_22_code
def yX2_draw : MethodName := ⟨RX2, "draw", "(I)I"⟩
abbrev cX2_wouldBoot : ByteArray := prog_1_method_23_code
def yX2_wouldBoot : MethodName := ⟨RX2, "wouldBoot", "(I)I"⟩
abbrev cX2_wouldLose : ByteArray := prog_1_method_24_code
def yX2_wouldLose : MethodName := ⟨RX2, "wouldLose", "(II)I"⟩
abbrev cX2_isSound : ByteArray := prog_1_method_25_code
def yX2_isSound : MethodName := ⟨RX2, "isSound", "()Z"⟩
abbrev cX2_knock : ByteArray := prog_1_method_26_code
def yX2_knock : MethodName := ⟨RX2, "knock", "()I"⟩
abbrev cX2_digest : ByteArray := prog_1_method_27_code
def yX2_digest : MethodName := ⟨RX2, "digest", "()J"⟩
abbrev cX2_digestOfCells : ByteArray := prog_1_method_28_code
def yX2_digestOfCells : MethodName := ⟨RX2, "digestOfCells", "(J)J"⟩
abbrev cX2_keepNote : ByteArray := prog_1_method_30_code
def yX2_keepNote : MethodName := ⟨RX2, "keepNote", "(II)V"⟩
abbrev cX2_layNotedValue : ByteArray := prog_1_method_31_code
def yX2_layNotedValue : MethodName := ⟨RX2, "layNotedValue", "()V"⟩
abbrev cX2_layNotedSum : ByteArray := prog_1_method_32_code
def yX2_layNotedSum : MethodName := ⟨RX2, "layNotedSum", "()V"⟩
abbrev cX2_dropNote : ByteArray := prog_1_method_33_code
def yX2_dropNote : MethodName := ⟨RX2, "dropNote", "()V"⟩
abbrev cX2_goOff : ByteArray := prog_1_method_34_code
def yX2_goOff : MethodName := ⟨RX2, "goOff", "()V"⟩
abbrev cX2_goOn : ByteArray := prog_1_method_35_code
def yX2_goOn : MethodName := ⟨RX2, "goOn", "()V"⟩
abbrev cX2_refuseRound : ByteArray := prog_1_method_36_code
def yX2_refuseRound : MethodName := ⟨RX2, "refuseRound", "(I)V"⟩
abbrev cX2_mendFrom : ByteArray := prog_1_method_37_code
def yX2_mendFrom : MethodName := ⟨RX2, "mendFrom", "(II)I"⟩
def RX3 : String := "StaggershelfModel"
def TX3 : u_T := fun k => match k with
  | _ => ("", "", "", false)
def tyX3 : Nat → FieldType := fun k => match k with
  | _ => .int
abbrev wsX30 : List Cond := u_ws RX3 TX3 0
theorem nmX3 : ∀ a, a < 0 → ∀ b, b < 0 → a ≠ b → (TX3 a).2.1 ≠ (TX3 b).2.1 := by decide +kernel
theorem tyX3_ok : ∀ k, k < 0 → parseFieldDescriptor (TX3 k).2.2.1 = some (tyX3 k) := by decide +kernel
def RL : String := "StaggershelfLaw"
abbrev cL_below : ByteArray := method_2_code
def yL_below : MethodName := ⟨RL, "below", "(II)I"⟩
abbrev cL_cell : ByteArray := method_3_code
def yL_cell : MethodName := ⟨RL, "cell", "([II)I"⟩
abbrev cL_law : ByteArray := code
def yL_law : MethodName := ⟨RL, "law", "([I)Z"⟩
abbrev cL_isDone : ByteArray := method_5_code
def yL_isDone : MethodName := ⟨RL, "isDone", "(LStaggershelf;III[III)Z"⟩
abbrev cL_isQuiet : ByteArray := method_6_code
def yL_isQuiet : MethodName := ⟨RL, "isQuiet", "(LStaggershelf;I)Z"⟩
end
section
/-! THE TABLES of the abstract machine: classes, fields, methods by number -/
abbrev ab_cl : List vw_C := [(RX0, TX0, 7), (RX1, TX1, 15), (RX2, TX2, 13)]
def ab_ty : Nat → Nat → FieldType := fun c => match c with
  | 0 => tyX0
  | 1 => tyX1
  | _ => tyX2
def ab_fk (c k : Nat) : Nat := (([[0, 0, 1, 1, 1, 1, 1], [0, 0, 0, 1, 1, 1, 0, 1, 1, 1, 1, 1, 0, 1, 1], [1, 1, 0, 0, 0, 0, 0, 0, 0, 0, 0, 0, 0]] : List (List Nat)).getD c []).getD k 0
def ab_TG : List Cond := lw_tbl.filter goodWord
def ab_nest : Cond → Bool
  | .fieldLinkNest .. => true
  | .methodLinkNest .. => true
  | .castable .. => true
  | .declares .. => true
  | _ => false
def ab_TN : List Cond := tables_1.filter ab_nest
theorem ab_tg_i {w : Cond} (i : Nat) (h : tables_1[i]? = some w) (g : goodWord w = true) : w ∈ ab_TG := List.mem_filter.mpr ⟨List.mem_append_right _ (List.mem_of_getElem? h), g⟩
theorem ab_tg_p {w : Cond} (h : w ∈ k2_sels lw_privs) (g : goodWord w = true) : w ∈ ab_TG := List.mem_filter.mpr ⟨List.mem_append_left _ h, g⟩
theorem ab_tn_i {w : Cond} (i : Nat) (h : tables_1[i]? = some w) (g : ab_nest w = true) : w ∈ ab_TN := List.mem_filter.mpr ⟨List.mem_of_getElem? h, g⟩
theorem ab_at_of {l : List Cond} (h : ∀ w ∈ l, w ∈ tables_1 ∧ (goodWord w || ab_nest w) = true) : ∀ w ∈ l, w ∈ ab_TG ∨ w ∈ ab_TN := fun w hw => by
  obtain ⟨h1, h2⟩ := h w hw
  rcases Bool.or_eq_true _ _ |>.mp h2 with h2 | h2
  · exact Or.inl (List.mem_filter.mpr ⟨List.mem_append_right _ h1, h2⟩)
  · exact Or.inr (List.mem_filter.mpr ⟨h1, h2⟩)
def ab_TS : List (String × Nat × String) := [("Staggershelf", 35, "disks must be 3 to 5"), ("Staggershelf", 40, "stripes must be 1 to 8"), ("Staggershelf", 152, "no such disk, or stripe"), ("Staggershelf", 226, "what must be 0 to 4"), ("Staggershelf", 85, "no such block"), ("Staggershelf", 251, "what must be 0 to 3"), ("Staggershelf", 253, "what must be 0 to 2"), ("Staggershelf", 88, "value must be 0 to 255, steps 0 to 4"), ("Staggershelf", 99, "the power is off, or the stripe is broken"), ("Staggershelf", 117, "the power is off"), ("Staggershelf", 154, "bits must be 1 to 255"), ("Staggershelf", 156, "the disk has failed"), ("Staggershelf", 133, "no such disk"), ("Staggershelf", 138, "the disk has failed already"), ("Staggershelf", 343, "there is no shelf, or the power is off"), ("Staggershelf", 174, "no such stripe"), ("Staggershelf", 176, "the power is off, or the stripe is not broken"), ("Staggershelf", 208, "there is no shelf, the power is on, or there is no plan"), ("Staggershelf", 273, "what must be 0 to 16"), ("Staggershelf", 246, "what must be 0 to 7"), ("Staggershelf", 290, "tenth must be 0 to 999"), ("Staggershelf", 213, "gap must be 0 to 20"), ("Staggershelf", 203, "there is no shelf"), ("Staggershelf", 295, "both are the same disk")]
set_option maxRecDepth 20000 in
theorem ab_clw0 : ∀ w ∈ u_ws RX0 TX0 7, w ∈ ab_TG := by decide +kernel
set_option maxRecDepth 20000 in
theorem ab_clw1 : ∀ w ∈ u_ws RX1 TX1 15, w ∈ ab_TG := by decide +kernel
set_option maxRecDepth 20000 in
theorem ab_clw2 : ∀ w ∈ u_ws RX2 TX2 13, w ∈ ab_TG := by decide +kernel
/-- what is known of the class number c -/
theorem ab_cl_ok {c : Nat} {C : String} {T : u_T} {N : Nat} (h : ab_cl[c]? = some (C, T, N)) : (∀ w ∈ u_ws C T N, w ∈ ab_TG) ∧ (∀ k, k < N → parseFieldDescriptor (T k).2.2.1 = some (ab_ty c k)) ∧ (∀ a, a < N → ∀ b, b < N → a ≠ b → (T a).2.1 ≠ (T b).2.1) := by
  match c, h with
  | 0, h => cases h; exact ⟨ab_clw0, tyX0_ok, nmX0⟩
  | 1, h => cases h; exact ⟨ab_clw1, tyX1_ok, nmX1⟩
  | 2, h => cases h; exact ⟨ab_clw2, tyX2_ok, nmX2⟩
  | c + 3, h => simp [ab_cl] at h
abbrev ab_mi : List (MethodName × ByteArray × Nat × Option FieldType) := [
  (yX0_init, cX0_init, 1, none),
  (yX0_build, cX0_build, 5, none),
  (yX0_hasDisk, cX0_hasDisk, 2, (some .boolean)),
  (yX0_hasStripe, cX0_hasStripe, 2, (some .boolean)),
  (yX0_hasBlock, cX0_hasBlock, 2, (some .boolean)),
  (yX0_blocks, cX0_blocks, 1, (some .int)),
  (yX0_stripeOf, cX0_stripeOf, 2, (some .int)),
  (yX0_diskOf, cX0_diskOf, 3, (some .int)),
  (yX0_blockIn, cX0_blockIn, 4, (some .int)),
  (yX0_sumDisk, cX0_sumDisk, 2, (some .int)),
  (yX0_stripeBehind, cX0_stripeBehind, 3, (some .int)),
  (yX0_valueAt, cX0_valueAt, 4, (some .int)),
  (yX0_markAt, cX0_markAt, 4, (some .int)),
  (yX0_hasFailed, cX0_hasFailed, 2, (some .boolean)),
  (yX0_swapsOf, cX0_swapsOf, 2, (some .int)),
  (yX0_isBad, cX0_isBad, 4, (some .boolean)),
  (yX0_isLost, cX0_isLost, 3, (some .boolean)),
  (yX0_badCells, cX0_badCells, 4, (some .int)),
  (yX0_badCellsOf, cX0_badCellsOf, 4, (some .int)),
  (yX0_allBadCells, cX0_allBadCells, 3, (some .int)),
  (yX0_hurtStripes, cX0_hurtStripes, 3, (some .int)),
  (yX0_brokenStripes, cX0_brokenStripes, 3, (some .int)),
  (yX0_failedDisks, cX0_failedDisks, 3, (some .int)),
  (yX0_lostBlocks, cX0_lostBlocks, 8, (some .int)),
  (yX0_shouldHave, cX0_shouldHave, 3, (some .int)),
  (yX0_xorOfOthers, cX0_xorOfOthers, 5, (some .int)),
  (yX0_lay, cX0_lay, 5, none),
  (yX0_mendStripe, cX0_mendStripe, 3, (some .int)),
  (yX0_setFailed, cX0_setFailed, 2, none),
  (yX0_putNewDisk, cX0_putNewDisk, 4, none),
  (yX0_turnBits, cX0_turnBits, 5, none),
  (yX0_countAsWritten, cX0_countAsWritten, 4, none),
  (yX0_startAnew, cX0_startAnew, 6, (some .int)),
  (yX0_isStripeSound, cX0_isStripeSound, 7, (some .boolean)),
  (yX0_fittingMark, cX0_fittingMark, 3, (some .int)),
  (yX0_indexOf, cX0_indexOf, 4, (some .int)),
  (yX1_init, cX1_init, 1, none),
  (yX1_planFor, cX1_planFor, 2, none),
  (yX1_tryDisk, cX1_tryDisk, 8, none),
  (yL_below, cL_below, 2, (some .int)),
  (yX1_peakOf, cX1_peakOf, 2, (some .int)),
  (yX1_spinOf, cX1_spinOf, 2, (some .int)),
  (yX1_idleOf, cX1_idleOf, 2, (some .int)),
  (yX1_endOfPlan, cX1_endOfPlan, 1, (some .int)),
  (yX1_startInPlan, cX1_startInPlan, 2, (some .int)),
  (yX1_placeInPlan, cX1_placeInPlan, 2, (some .int)),
  (yX1_drawByPlan, cX1_drawByPlan, 2, (some .int)),
  (yX1_planTrips, cX1_planTrips, 1, (some .boolean)),
  (yX1_lastStartByGap, cX1_lastStartByGap, 5, (some .int)),
  (yX1_drawBy, cX1_drawBy, 5, (some .int)),
  (yX1_drawSince, cX1_drawSince, 3, (some .int)),
  (yX1_trips, cX1_trips, 4, (some .boolean)),
  (yX1_makePlan, cX1_makePlan, 2, none),
  (yX1_allIdle, cX1_allIdle, 3, (some .int)),
  (yX1_tryPlace, cX1_tryPlace, 5, none),
  (yX1_keepTried, cX1_keepTried, 3, none),
  (yX1_addDraw, cX1_addDraw, 7, none),
  (yX1_leastStart, cX1_leastStart, 8, (some .int)),
  (yX1_keepRun, cX1_keepRun, 3, none),
  (yX1_tripsWith, cX1_tripsWith, 8, (some .boolean)),
  (yX2_init, cX2_init, 1, none),
  (yX2_shelf, cX2_shelf, 3, (some .int)),
  (yX2_write, cX2_write, 5, (some .boolean)),
  (yX2_read, cX2_read, 5, (some .int)),
  (yX2_fail, cX2_fail, 2, (some .int)),
  (yX2_swap, cX2_swap, 2, (some .int)),
  (yX2_flip, cX2_flip, 4, (some .int)),
  (yX2_rebuild, cX2_rebuild, 3, (some .int)),
  (yX2_patrol, cX2_patrol, 3, (some .int)),
  (yX2_giveUp, cX2_giveUp, 2, (some .int)),
  (yL_cell, cL_cell, 2, (some .int)),
  (yL_isDone, cL_isDone, 13, (some .boolean)),
  (yL_isQuiet, cL_isQuiet, 6, (some .boolean)),
  (yX2_power, cX2_power, 1, (some .int)),
  (yL_law, cL_law, maxLocals, ret),
  (yX2_cell, cX2_cell, 4, (some .int)),
  (yX2_ofDisk, cX2_ofDisk, 3, (some .int)),
  (yX2_ofBlock, cX2_ofBlock, 5, (some .int)),
  (yX2_note, cX2_note, 2, (some .int)),
  (yX2_house, cX2_house, 2, (some .int)),
  (yX0_init, cX0_init, 1, none),
  (yX2_draw, cX2_draw, 2, (some .int)),
  (yX2_wouldBoot, cX2_wouldBoot, 2, (some .int)),
  (yX2_wouldLose, cX2_wouldLose, 3, (some .int)),
  (yX2_isSound, cX2_isSound, 3, (some .boolean)),
  (yX2_knock, cX2_knock, 1, (some .int)),
  (yX2_digest, cX2_digest, 5, (some .long)),
  (yX2_digestOfCells, cX2_digestOfCells, 8, (some .long)),
  (yX0_init, cX0_init, 1, none),
  (yX2_keepNote, cX2_keepNote, 6, none),
  (yX2_layNotedValue, cX2_layNotedValue, 1, none),
  (yX2_layNotedSum, cX2_layNotedSum, 2, none),
  (yX2_dropNote, cX2_dropNote, 1, none),
  (yX2_goOff, cX2_goOff, 1, none),
  (yX2_goOn, cX2_goOn, 1, none),
  (yX2_refuseRound, cX2_refuseRound, 2, none),
  (yX2_mendFrom, cX2_mendFrom, 5, (some .int))]
def ab_md : MethodName × ByteArray × Nat × Option FieldType := (yX0_init, cX0_init, 0, none)
def ab_my (M : Nat) : MethodName := (ab_mi.getD M ab_md).1
def ab_mb (M : Nat) : ByteArray := (ab_mi.getD M ab_md).2.1
def ab_mL (M : Nat) : Nat := (ab_mi.getD M ab_md).2.2.1
def ab_mr (M : Nat) : Option FieldType := (ab_mi.getD M ab_md).2.2.2
def ab_nm : Nat := 97
/-- the method with an exception table -/
def ab_hM : Nat := 71
def ab_hT : List (Nat × Nat × Nat × Nat) := [((9 : Nat), (113 : Nat), (340 : Nat), (84 : Nat)), ((114 : Nat), (139 : Nat), (340 : Nat), (84 : Nat)), ((140 : Nat), (175 : Nat), (340 : Nat), (84 : Nat)), ((176 : Nat), (202 : Nat), (340 : Nat), (84 : Nat)), ((203 : Nat), (221 : Nat), (340 : Nat), (84 : Nat)), ((222 : Nat), (257 : Nat), (340 : Nat), (84 : Nat)), ((258 : Nat), (326 : Nat), (340 : Nat), (84 : Nat)), ((327 : Nat), (339 : Nat), (340 : Nat), (84 : Nat))]
def ab_tb (M : Nat) : List (Nat × Nat × Nat × Nat) := if M = ab_hM then ab_hT else []
/-- the word that tells a method's code -/
def ab_cw (M : Nat) : Cond := if M = ab_hM then .codeWith (ab_my M) (ab_mb M) (ab_mL M) (ab_mr M) ab_hT else .code (ab_my M) (ab_mb M) (ab_mL M) (ab_mr M)
theorem ab_cw_n {M : Nat} (h : M ≠ ab_hM) : ab_cw M = .code (ab_my M) (ab_mb M) (ab_mL M) (ab_mr M) := if_neg h
theorem ab_tb_n {M : Nat} (h : M ≠ ab_hM) : ab_tb M = [] := if_neg h
theorem ab_cw_h : ab_cw ab_hM = .codeWith (ab_my ab_hM) (ab_mb ab_hM) (ab_mL ab_hM) (ab_mr ab_hM) ab_hT := if_pos rfl
end
section
/-! HOW A HEAP OF THE ABSTRACT MACHINE STANDS IN THE REAL ONE -/
section
variable {B : ab_B}
theorem ab_set1_get (l : ab_M) (i : Nat) (v : Option ab_V) (j : Nat) : (ab_set1 l i v)[j]? = if j = i then (if i < l.length then some v else none) else if j + 1 = i then l[j]?.map ab_fx else l[j]? := by
  cases i with
  | zero =>
    unfold ab_set1
    rw [List.getElem?_set]
    by_cases h : j = 0
    · subst h; simp
    · rw [if_neg (Ne.symm h), if_neg h, if_neg (by omega)]
  | succ i =>
    unfold ab_set1
    simp only [List.getElem?_modify, List.getElem?_set]
    by_cases h : j = i + 1
    · subst h
      by_cases h2 : i + 1 < l.length <;> simp [h2]
    · have h' : ¬ i + 1 = j := Ne.symm h
      by_cases h2 : i = j
      · subst h2; simp [h', h]
      · have h3 : ¬ j = i := Ne.symm h2
        simp [h, h', h2, h3]
theorem ab_set1_len (l : ab_M) (i : Nat) (v : Option ab_V) : (ab_set1 l i v).length = l.length := by
  cases i <;> simp [ab_set1]
theorem ab_set2_get (l : ab_M) (i : Nat) (v : Option ab_V) (j : Nat) : (ab_set2 l i v)[j]? = if j = i then (if i < l.length then some v else none) else if j = i + 1 then (if i + 1 < l.length then some none else none) else if j + 1 = i then l[j]?.map ab_fx else l[j]? := by
  cases i with
  | zero =>
    unfold ab_set2
    simp only
    rw [List.getElem?_set, List.getElem?_set]
    by_cases h : j = 0
    · subst h; simp
    · by_cases h1 : j = 1
      · subst h1; simp
      · rw [if_neg (Ne.symm h1), if_neg (Ne.symm h), if_neg h, if_neg (by omega), if_neg (by omega)]
  | succ i =>
    unfold ab_set2
    simp only [List.getElem?_modify, List.getElem?_set, List.length_set]
    by_cases h : j = i + 1
    · subst h
      by_cases h2 : i + 1 < l.length <;> simp [h2]
    · have h' : ¬ i + 1 = j := Ne.symm h
      by_cases h1 : j = i + 2
      · subst h1
        by_cases h2 : i + 2 < l.length <;> simp [h2]
      · have h1' : ¬ i + 2 = j := Ne.symm h1
        by_cases h2 : i = j
        · subst h2
          have h9 : ¬ i = i + 1 + 1 := by omega
          simp [h9]
        · have h3 : ¬ j = i := Ne.symm h2
          simp [h, h', h1, h1', h2, h3]
theorem ab_set2_len (l : ab_M) (i : Nat) (v : Option ab_V) : (ab_set2 l i v).length = l.length := by
  cases i <;> simp [ab_set2]
abbrev ab_G : Type := va_G × ClassId × ClassId × ClassId
def ab_cv (B : ab_B) (μ : Nat → Nat) : ab_V → Value
  | .inl z => .int (Int32.ofInt z)
  | .inr (.inl x) => .long x
  | .inr (.inr none) => .ref B.1
  | .inr (.inr (some i)) => .ref (μ i)
def ab_fv (B : ab_B) (μ : Nat → Nat) (h : ab_H) (t i k : Nat) : Value := match ab_fk t k with
  | 0 => .int (Int32.ofInt (ab_gi h i k))
  | 1 => match ab_gr h i k with
    | none => .null
    | some j => .ref (μ j)
  | _ => .long (ab_gl h i k)
def ab_en (B : ab_B) (g : ab_G) (μ : Nat → Nat) (h : ab_H) (i : Nat) (s : Nat × Nat) : va_E := match s with
  | (0, n) => .inl (g.2.1, n, .inl (fun j => Int32.ofInt (ab_gi h i j)))
  | (1, n) => .inl (g.2.2.1, n, .inl (fun j => Int32.ofInt (ab_gi h i j)))
  | (2, n) => .inl (g.2.2.2, n, .inr (.inr (.inr (.inr (fun j => (ab_gr h i j).map μ)))))
  | (t + 3, n) => .inr (t, (List.range n).map (ab_fv B μ h t i))
def ab_ws (B : ab_B) (g : ab_G) (μ : Nat → Nat) (h : ab_H) : va_W := (ab_sh h).zipIdx.map (fun q => (μ q.2, ab_en B g μ h q.2 q.1))
theorem ab_ws_at {g : ab_G} {μ : Nat → Nat} {h : ab_H} {i : Nat} {s : Nat × Nat} (hs : (ab_sh h)[i]? = some s) : (ab_ws B g μ h)[i]? = some (μ i, ab_en B g μ h i s) := by
  simp [ab_ws, List.getElem?_zipIdx, hs]
theorem ab_ws_len (g : ab_G) (μ : Nat → Nat) (h : ab_H) : (ab_ws B g μ h).length = ab_n h := by simp [ab_ws, ab_n]
theorem ab_ws_no {g : ab_G} {μ : Nat → Nat} {h : ab_H} {i : Nat} (hs : (ab_sh h)[i]? = none) : (ab_ws B g μ h)[i]? = none := by
  simp [ab_ws, List.getElem?_zipIdx, hs]
theorem ab_ws_ext {g : ab_G} {μ μ' : Nat → Nat} {h h' : ab_H} (hsh : ab_sh h' = ab_sh h) (ho : ∀ j s', (ab_sh h)[j]? = some s' → μ' j = μ j ∧ ab_en B g μ' h' j s' = ab_en B g μ h j s') : ab_ws B g μ' h' = ab_ws B g μ h := by
  apply List.ext_getElem?
  intro j
  cases hj : (ab_sh h)[j]? with
  | none => rw [ab_ws_no hj, ab_ws_no (by rw [hsh]; exact hj)]
  | some s => rw [ab_ws_at hj, ab_ws_at (by rw [hsh]; exact hj), (ho j s hj).1, (ho j s hj).2]
theorem ab_ws_set {g : ab_G} {μ : Nat → Nat} {h h' : ab_H} {i : Nat} {s : Nat × Nat} {e : va_E} (hsh : ab_sh h' = ab_sh h) (hs : (ab_sh h)[i]? = some s) (he : ab_en B g μ h' i s = e) (ho : ∀ j s', j ≠ i → ab_en B g μ h' j s' = ab_en B g μ h j s') : (ab_ws B g μ h).set i (μ i, e) = ab_ws B g μ h' := by
  apply List.ext_getElem?
  intro j
  by_cases hji : j = i
  · subst hji
    rw [ab_ws_at (by rw [hsh]; exact hs), List.getElem?_set, if_pos rfl, he, if_pos]
    rw [ab_ws_len]
    exact (List.getElem?_eq_some_iff.mp hs).1
  · rw [List.getElem?_set, if_neg (Ne.symm hji)]
    cases hj : (ab_sh h)[j]? with
    | none => rw [ab_ws_no hj, ab_ws_no (by rw [hsh]; exact hj)]
    | some s' => rw [ab_ws_at hj, ab_ws_at (by rw [hsh]; exact hj), ho j s' hji]
/-- every reference in the heap is to a cell that is there -/
def ab_ok (h : ab_H) : Prop := (∀ (c : Nat) (k : Int) (j : Nat), ab_gr h c k = some j → j < ab_n h) ∧ ∀ (i : Nat) (x : Nat × Nat), (ab_sh h)[i]? = some x → x.2 < 2147483648
def ab_vs (n : Nat) (v : ab_V) : Prop := ∀ i : Nat, v = ab_Q (some i) → i < n
theorem ab_vs_i (n : Nat) (z : Int) : ab_vs n (.inl z) := fun i h => by cases h
theorem ab_vs_l (n : Nat) (x : Int64) : ab_vs n (.inr (.inl x)) := fun i h => by cases h
theorem ab_vs_n (n : Nat) : ab_vs n (.inr (.inr none)) := fun i h => by cases h
theorem ab_vs_q {n : Nat} {o : Option Nat} (h : ∀ j, o = some j → j < n) : ab_vs n (.inr (.inr o)) := fun i e => by cases e; exact h i rfl
theorem ab_vs.le {n n' : Nat} {v : ab_V} (h : ab_vs n v) (hn : n ≤ n') : ab_vs n' v := fun i e => Nat.lt_of_lt_of_le (h i e) hn
theorem ab_cv_eq {n : Nat} {μ μ' : Nat → Nat} (hμ : ∀ i, i < n → μ' i = μ i) {v : ab_V} (h : ab_vs n v) : ab_cv B μ' v = ab_cv B μ v := by
  match v, h with
  | .inl z, _ => rfl
  | .inr (.inl x), _ => rfl
  | .inr (.inr none), _ => rfl
  | .inr (.inr (some i)), h => show Value.ref (μ' i) = Value.ref (μ i); rw [hμ i (h i rfl)]
theorem ab_en_eq {g : ab_G} {μ μ' : Nat → Nat} {h h' : ab_H} {n : Nat} (hμ : ∀ i, i < n → μ' i = μ i) {j : Nat} (hr : ∀ k i, ab_gr h j k = some i → i < n) (h1 : ∀ k, ab_gi h' j k = ab_gi h j k) (h2 : ∀ k, ab_gr h' j k = ab_gr h j k) (h3 : ∀ k, ab_gl h' j k = ab_gl h j k) (s : Nat × Nat) : ab_en B g μ' h' j s = ab_en B g μ h j s := by
  have h4 : ∀ k, (ab_gr h' j k).map μ' = (ab_gr h j k).map μ := fun k => by
    rw [h2]
    cases e : ab_gr h j k with
    | none => rfl
    | some i => simp [hμ i (hr k i e)]
  match s with
  | (0, n) => simp only [ab_en, h1]
  | (1, n) => simp only [ab_en, h1]
  | (2, n) => simp only [ab_en, h4]
  | (t + 3, n) =>
    show Sum.inr _ = Sum.inr _
    congr 2
    apply List.map_congr_left
    intro k _
    unfold ab_fv
    rw [h1, h3, h2]
    cases e : ab_gr h j k with
    | none => rfl
    | some i => simp only [hμ i (hr k i e)]
def ab_Rep (B : ab_B) (g : ab_G) (A : Nat → Prop) (μ : Nat → Nat) (h : ab_H) (H : Heap) : Prop := va_P g.1 ab_cl (ab_ws B g μ h) H ∧ va_D A (ab_ws B g μ h) ∧ ab_ok h
/-- the locals -/
def ab_lh (B : ab_B) (nL : Nat) (μ : Nat → Nat) (ls : Array Slot) (loc : ab_M) : Prop := ls.size = nL ∧ lv_wf ls ∧ loc.length = nL ∧ ∀ (i : Nat) (v : ab_V), loc[i]? = some (some v) → ls[i]? = some (.val (ab_cv B μ v))
def ab_ll (B : ab_B) (μ : Nat → Nat) (loc : ab_M) : List (Nat × Value) := loc.zipIdx.filterMap (fun q => q.1.map (fun v => (q.2, ab_cv B μ v)))
theorem ab_ll_mem {μ : Nat → Nat} {loc : ab_M} {q : Nat × Value} : q ∈ ab_ll B μ loc ↔ ∃ v, loc[q.1]? = some (some v) ∧ q.2 = ab_cv B μ v := by
  unfold ab_ll
  rw [List.mem_filterMap]
  constructor
  · rintro ⟨⟨x, i⟩, hx, hq⟩
    have h1 := List.mem_zipIdx_iff_getElem?.mp hx
    cases x with
    | none => cases hq
    | some v => cases hq; exact ⟨v, h1, rfl⟩
  · rintro ⟨v, h1, h2⟩
    refine ⟨(some v, q.1), List.mem_zipIdx_iff_getElem?.mpr h1, ?_⟩
    obtain ⟨a, b⟩ := q
    simp only at h2
    simp [h2]
theorem ab_lh.has {nL : Nat} {μ : Nat → Nat} {ls : Array Slot} {loc : ab_M} (h : ab_lh B nL μ ls loc) : lv_has ls nL (ab_ll B μ loc) := by
  refine ⟨h.1, h.2.1, fun q hq => ?_⟩
  obtain ⟨v, h1, h2⟩ := ab_ll_mem.mp hq
  rw [h2]
  exact h.2.2.2 _ _ h1
theorem ab_cv_cat {μ : Nat → Nat} {v : ab_V} : (ab_cv B μ v).category = if ab_lg v then 2 else 1 := by
  match v with
  | .inl z => rfl
  | .inr (.inl x) => rfl
  | .inr (.inr none) => rfl
  | .inr (.inr (some i)) => rfl
theorem ab_fx_some {x : Option ab_V} {w : ab_V} (h : ab_fx x = some w) : x = some w ∧ ab_lg w = false := by
  match x, h with
  | some (.inl z), h => cases h; exact ⟨rfl, rfl⟩
  | some (.inr (.inr none)), h => cases h; exact ⟨rfl, rfl⟩
  | some (.inr (.inr (some i))), h => cases h; exact ⟨rfl, rfl⟩
  | some (.inr (.inl x)), h => cases h
  | none, h => cases h
theorem ab_lh.set1 {nL : Nat} {μ : Nat → Nat} {ls ls' : Array Slot} {loc : ab_M} {i : Nat} {a : ab_V} {x : Value} (hx : ab_cv B μ a = x) (h : ab_lh B nL μ ls loc) (hi : i < nL) (h' : lv_has ls' nL ((i, x) :: (ab_ll B μ loc).filter (fun q => !(q.1 == i) && !(q.1 + 1 == i && q.2.category == 2)))) : ab_lh B nL μ ls' (ab_set1 loc i (some a)) := by
  subst hx
  refine ⟨h'.1, h'.2.1, by rw [ab_set1_len]; exact h.2.2.1, fun j v hj => ?_⟩
  rw [ab_set1_get] at hj
  by_cases e : j = i
  · subst e
    rw [if_pos rfl, if_pos (by rw [h.2.2.1]; exact hi)] at hj
    cases hj
    exact h'.2.2 _ (List.mem_cons_self)
  · rw [if_neg e] at hj
    have hm : (j, ab_cv B μ v) ∈ ab_ll B μ loc ∧ (j + 1 = i → ab_lg v = false) := by
      by_cases e2 : j + 1 = i
      · rw [if_pos e2] at hj
        cases hl : loc[j]? with
        | none => rw [hl] at hj; cases hj
        | some y =>
          rw [hl] at hj
          obtain ⟨h1, h2⟩ := ab_fx_some (Option.some.inj hj)
          exact ⟨ab_ll_mem.mpr ⟨v, by rw [hl, h1], rfl⟩, fun _ => h2⟩
      · rw [if_neg e2] at hj
        exact ⟨ab_ll_mem.mpr ⟨v, hj, rfl⟩, fun z => absurd z e2⟩
    refine h'.2.2 (j, ab_cv B μ v) (List.mem_cons_of_mem _ (List.mem_filter.mpr ⟨hm.1, ?_⟩))
    by_cases e2 : j + 1 = i
    · have := hm.2 e2
      simp [e, ab_cv_cat, this]
    · simp [e, e2]
theorem ab_lh.set2 {nL : Nat} {μ : Nat → Nat} {ls ls' : Array Slot} {loc : ab_M} {i : Nat} {a : ab_V} {x : Value} (hx : ab_cv B μ a = x) (h : ab_lh B nL μ ls loc) (hi : i + 1 < nL) (h' : lv_has ls' nL ((i, x) :: (ab_ll B μ loc).filter (fun q => !(q.1 == i) && (!(q.1 == i + 1) && !(q.1 + 1 == i && q.2.category == 2))))) : ab_lh B nL μ ls' (ab_set2 loc i (some a)) := by
  subst hx
  refine ⟨h'.1, h'.2.1, by rw [ab_set2_len]; exact h.2.2.1, fun j v hj => ?_⟩
  rw [ab_set2_get] at hj
  by_cases e : j = i
  · subst e
    rw [if_pos rfl, if_pos (by rw [h.2.2.1]; omega)] at hj
    cases hj
    exact h'.2.2 _ (List.mem_cons_self)
  · rw [if_neg e] at hj
    by_cases e1 : j = i + 1
    · rw [if_pos e1, if_pos (by rw [h.2.2.1]; exact hi)] at hj
      cases hj
    rw [if_neg e1] at hj
    have hm : (j, ab_cv B μ v) ∈ ab_ll B μ loc ∧ (j + 1 = i → ab_lg v = false) := by
      by_cases e2 : j + 1 = i
      · rw [if_pos e2] at hj
        cases hl : loc[j]? with
        | none => rw [hl] at hj; cases hj
        | some y =>
          rw [hl] at hj
          obtain ⟨h1, h2⟩ := ab_fx_some (Option.some.inj hj)
          exact ⟨ab_ll_mem.mpr ⟨v, by rw [hl, h1], rfl⟩, fun _ => h2⟩
      · rw [if_neg e2] at hj
        exact ⟨ab_ll_mem.mpr ⟨v, hj, rfl⟩, fun z => absurd z e2⟩
    refine h'.2.2 (j, ab_cv B μ v) (List.mem_cons_of_mem _ (List.mem_filter.mpr ⟨hm.1, ?_⟩))
    by_cases e2 : j + 1 = i
    · have := hm.2 e2
      simp [e, e1, ab_cv_cat, this]
    · simp [e, e1, e2]
theorem ab_set1_mem {l : ab_M} {i : Nat} {x : Option ab_V} {v : ab_V} (h : some v ∈ ab_set1 l i x) : x = some v ∨ some v ∈ l := by
  obtain ⟨j, hj⟩ := List.getElem?_of_mem h
  rw [ab_set1_get] at hj
  by_cases e : j = i
  · rw [if_pos e] at hj
    by_cases e2 : i < l.length
    · rw [if_pos e2] at hj; exact Or.inl (Option.some.inj hj)
    · rw [if_neg e2] at hj; cases hj
  · rw [if_neg e] at hj
    by_cases e2 : j + 1 = i
    · rw [if_pos e2] at hj
      cases hl : l[j]? with
      | none => rw [hl] at hj; cases hj
      | some y =>
        rw [hl] at hj
        exact Or.inr (List.mem_of_getElem? (by rw [hl, (ab_fx_some (Option.some.inj hj)).1]))
    · rw [if_neg e2] at hj
      exact Or.inr (List.mem_of_getElem? hj)
theorem ab_set2_mem {l : ab_M} {i : Nat} {x : Option ab_V} {v : ab_V} (h : some v ∈ ab_set2 l i x) : x = some v ∨ some v ∈ l := by
  obtain ⟨j, hj⟩ := List.getElem?_of_mem h
  rw [ab_set2_get] at hj
  by_cases e : j = i
  · rw [if_pos e] at hj
    by_cases e2 : i < l.length
    · rw [if_pos e2] at hj; exact Or.inl (Option.some.inj hj)
    · rw [if_neg e2] at hj; cases hj
  · rw [if_neg e] at hj
    by_cases e1 : j = i + 1
    · rw [if_pos e1] at hj
      by_cases e2 : i + 1 < l.length
      · rw [if_pos e2] at hj; cases hj
      · rw [if_neg e2] at hj; cases hj
    rw [if_neg e1] at hj
    by_cases e2 : j + 1 = i
    · rw [if_pos e2] at hj
      cases hl : l[j]? with
      | none => rw [hl] at hj; cases hj
      | some y =>
        rw [hl] at hj
        exact Or.inr (List.mem_of_getElem? (by rw [hl, (ab_fx_some (Option.some.inj hj)).1]))
    · rw [if_neg e2] at hj
      exact Or.inr (List.mem_of_getElem? hj)
theorem ab_si_en {g : ab_G} {μ : Nat → Nat} {h : ab_H} {a : Nat} {k v : Int} (j : Nat) (s : Nat × Nat) (hj : j ≠ a) : ab_en B g μ (ab_si h a k v) j s = ab_en B g μ h j s := by
  have e : ∀ i, ab_gi (ab_si h a k v) j i = ab_gi h j i := fun i => by rw [ab_gi_si, if_neg (fun q => hj q.1)]
  match s with
  | (0, n) => simp only [ab_en, e]
  | (1, n) => simp only [ab_en, e]
  | (2, n) => rfl
  | (t + 3, n) =>
    show Sum.inr _ = Sum.inr _
    congr 2
    apply List.map_congr_left
    intro i _
    unfold ab_fv
    rw [e]
    rfl
theorem ab_sr_en {g : ab_G} {μ : Nat → Nat} {h : ab_H} {a : Nat} {k : Int} {v : Option Nat} (j : Nat) (s : Nat × Nat) (hj : j ≠ a) : ab_en B g μ (ab_sr h a k v) j s = ab_en B g μ h j s := by
  have e : ∀ i, ab_gr (ab_sr h a k v) j i = ab_gr h j i := fun i => by rw [ab_gr_sr, if_neg (fun q => hj q.1)]
  match s with
  | (0, n) => rfl
  | (1, n) => rfl
  | (2, n) => simp only [ab_en, e]
  | (t + 3, n) =>
    show Sum.inr _ = Sum.inr _
    congr 2
    apply List.map_congr_left
    intro i _
    unfold ab_fv
    rw [e]
    rfl
theorem ab_sl_en {g : ab_G} {μ : Nat → Nat} {h : ab_H} {a : Nat} {k : Int} {v : Int64} (j : Nat) (s : Nat × Nat) (hj : j ≠ a) : ab_en B g μ (ab_sl h a k v) j s = ab_en B g μ h j s := by
  have e : ∀ i, ab_gl (ab_sl h a k v) j i = ab_gl h j i := fun i => by rw [ab_gl_sl, if_neg (fun q => hj q.1)]
  match s with
  | (0, n) => rfl
  | (1, n) => rfl
  | (2, n) => rfl
  | (t + 3, n) =>
    show Sum.inr _ = Sum.inr _
    congr 2
    apply List.map_congr_left
    intro i _
    unfold ab_fv
    rw [e]
    rfl
/-- a field is stored -/
theorem ab_obj_set {n k : Nat} {f f' : Nat → Value} {v : Value} (h : f' k = v) (ho : ∀ i, i ≠ k → f' i = f i) : ((List.range n).map f).set k v = (List.range n).map f' := by
  apply List.ext_getElem?
  intro j
  by_cases hj : j = k
  · subst hj
    rw [List.getElem?_set, if_pos rfl]
    by_cases hn : j < n
    · rw [if_pos (by simpa using hn)]; simp [hn, h]
    · rw [if_neg (by simpa using hn)]; simp [hn]
  · rw [List.getElem?_set, if_neg (Ne.symm hj)]
    by_cases hn : j < n
    · simp [hn, ho j hj]
    · simp [hn]
theorem ab_ix {z : Int} (h0 : 0 ≤ z) (h1 : z < 2147483648) : (Int32.ofInt z).toNatClampNeg = z.toNat ∧ ¬ Int32.ofInt z < 0 := by
  have e : (Int32.ofInt z).toInt = z := Int32.toInt_ofInt_of_le (by omega) (by omega)
  refine ⟨by rw [Int32.toNatClampNeg, e], fun h => ?_⟩
  rw [Int32.lt_iff_toInt_lt, e] at h
  have : (0 : Int32).toInt = 0 := by decide
  omega
theorem ab_in {z : Int} {n : Nat} (h0 : 0 ≤ z) (h1 : z < (n : Int)) (hn : n < 2147483648) : vp_in (Int32.ofInt z) n := by
  obtain ⟨e, e2⟩ := ab_ix h0 (by omega)
  intro h
  rcases h with h | h
  · exact e2 h
  · rw [e] at h; omega
end
end
section
/-! EACH INSTRUCTION OF THE ABSTRACT MACHINE STANDS FOR ONE OF THE REAL MACHINE -/
section
variable {B : ab_B}
theorem ab_cmp_eq (a b : Int64) : lg_cmp a b = Int32.ofInt (ab_cmp a b) := by
  unfold lg_cmp ab_cmp
  by_cases h : b < a
  · rw [if_pos h, if_pos h]; decide
  · rw [if_neg h, if_neg h]
    by_cases h2 : a = b
    · rw [if_pos h2, if_pos h2]; decide
    · rw [if_neg h2, if_neg h2]; decide
def ab_TY (g : ab_G) : List (ClassId × FieldType) := [(g.2.1, .int), (g.2.2.1, .boolean)]
/-- what is known of a state beside the cells -/
def ab_F (B : ab_B) (g : ab_G) (A : Nat → Prop) (U : State) : Prop := va_K g.1 ab_cl (ab_TY g) U ∧ (∀ q : Nat, U.heap.size ≤ q → A q) ∧ (∀ w ∈ ab_TN, va_Nw w U) ∧ (∀ x ∈ ab_TS, ∃ sa, vk_R x.1 x.2.1 x.2.2 sa U) ∧ vx_Zq Bundle.tN "UNASSIGNED_STACK" Bundle.steD A U U.heap ∧ vx_Zq Bundle.tN "SUPPRESSED_SENTINEL" Bundle.listD A U U.heap ∧ ¬ A B.1 ∧ B.1 < U.heap.size ∧ va_X B.1 B.2.1 B.2.2 U U.heap
theorem ab_nest_warm {w : Cond} (hw : w ∈ ab_TN) {s U : State} (hW : s.WarmedH U.vm) (h : va_Nw w s) : va_Nw w U := by
  have h2 : ab_nest w = true := (List.mem_filter.mp hw).2
  cases w <;> first | exact h.warmF hW | exact h.warmM hW | exact h.warmC hW | exact h.warmD hW | (simp [ab_nest] at h2)
theorem ab_F.to {g : ab_G} {A : Nat → Prop} {s U : State} {H : Heap} {locs : List Loc} (h : ab_F B g A s) (hW : s.WarmedH U.vm) (hS : va_S A s.heap H locs) (hU : U.heap = H) : ab_F B g A U := by
  obtain ⟨h1, h2, h3, h4, h5, h6, h7, h8, h9⟩ := h
  subst hU
  refine ⟨va_K.moved hW.alike h1, fun q hq => h2 q (Nat.le_trans hS.1 hq), fun w hw => ab_nest_warm hw hW (h3 w hw), fun x hx => ?_, vx_Zq.moved hW.alike (h5.kept hS.2.1), vx_Zq.moved hW.alike (h6.kept hS.2.1), h7, Nat.lt_of_lt_of_le h8 hS.1, va_X.moved hW.alike (h9.kept (hS.2.1 _ h8 h7))⟩
  obtain ⟨sa, hsa⟩ := h4 x hx
  exact ⟨sa, vk_R.warm hW hsa⟩
theorem ab_F.calling {g : ab_G} {A : Nat → Prop} {U : State} {f : JFrame} {mk : MethodId} {a : Array Value} (h : ab_F B g A U) : ab_F B g A (U.calling f mk a) :=
  ab_F.to (U := U.calling f mk a) (H := U.heap) (locs := []) h (State.WarmedH.refl U) va_S.rf rfl
/-- what a body of the method M may use -/
def ab_X (B : ab_B) (M : Nat) (g : ab_G) (A : Nat → Prop) (p : Program) (l : Launch) (s : State) (m : MethodId) (args : Array Value) (meth : Method) (c : Code) : Prop :=
  p.tables.exec = Jvm.exec ∧ c.code = ab_mb M ∧ c.maxLocals = ab_mL M ∧ s.vm.findClass (ab_my M).cls = some m.cls ∧ meth.sig.returnType = ab_mr M ∧ meth.locks = false ∧ (∀ w ∈ ab_TG, w.before args s = true) ∧ ab_F B g A s ∧ l.stackTraces = false ∧ meth.name = (ab_my M).name ∧ c.exceptionTable.toList = tableOf (ab_tb M)
def ab_At (B : ab_B) (M : Nat) (g : ab_G) (A : Nat → Prop) (μ : Nat → Nat) (h : ab_H) (H : Heap) (ls : Array Slot) (loc : ab_M) (stk : List ab_V) (s : State) (locs : List Loc) : Prop :=
  ab_Rep B g A μ h H ∧ ab_lh B (ab_mL M) μ ls loc ∧ (∀ v ∈ stk, ab_vs (ab_n h) v) ∧ (∀ v, some v ∈ loc → ab_vs (ab_n h) v) ∧ va_S A s.heap H locs
/-- from (loc, stk, h) at pc to (loc', stk', h') at pc' -/
def ab_Sj (B : ab_B) (M pc : Nat) (loc : ab_M) (stk : List ab_V) (h : ab_H) (pc' : Nat) (loc' : ab_M) (stk' : List ab_V) (h' : ab_H) : Prop :=
  ab_kc h ≤ ab_kc h' ∧ ab_ks h ≤ ab_ks h' ∧ ab_n h ≤ ab_n h' ∧
  ∀ {p : Program} {l : Launch} {e : Env} {R : Room} {s : State} {m : MethodId} {args : Array Value} {below : List Frame} {meth : Method} {c : Code} {H : Heap} {locs : List Loc} {cells slots : Nat} {Q : State → Prop} {g : ab_G} {A : Nat → Prop} {μ : Nat → Nat} {ls : Array Slot} {b1 b2 : Nat},
    ab_X B M g A p l s m args meth c → ab_At B M g A μ h H ls loc stk s locs → cells + b1 = ab_kc h → slots + b2 = ab_ks h → ab_kc h' ≤ R.cells + b1 → ab_ks h' ≤ R.slots + b2 → 10 ≤ R.frames → 200 ≤ R.locals → True →
    (∀ (μ' : Nat → Nat) (H' : Heap) (locs' : List Loc) (cells' slots' : Nat) (ls' : Array Slot), (∀ i, i < ab_n h → μ' i = μ i) → ab_At B M g A μ' h' H' ls' loc' stk' s locs' → cells' + b1 = ab_kc h' → slots' + b2 = ab_ks h' →
      W p l e R s m args below meth c H' locs' cells' slots' Q (F0 m pc' ls' (stk'.map (ab_cv B μ')))) →
    W p l e R s m args below meth c H locs cells slots Q (F0 m pc ls (stk.map (ab_cv B μ)))
/-- an instruction that changes neither heap nor locals -/
theorem ab_Sj.pure {M pc pc' : Nat} {loc : ab_M} {stk stk' : List ab_V} {h : ab_H}
    (hv : (∀ v ∈ stk, ab_vs (ab_n h) v) → (∀ v, some v ∈ loc → ab_vs (ab_n h) v) → ∀ v ∈ stk', ab_vs (ab_n h) v)
    (hw : ∀ {p : Program} {l : Launch} {e : Env} {R : Room} {s : State} {m : MethodId} {args : Array Value} {below : List Frame} {meth : Method} {c : Code} {H : Heap} {locs : List Loc} {cells slots : Nat} {Q : State → Prop} {g : ab_G} {A : Nat → Prop} {μ : Nat → Nat} {ls : Array Slot},
      ab_X B M g A p l s m args meth c → ab_At B M g A μ h H ls loc stk s locs → cells ≤ R.cells → slots ≤ R.slots → 10 ≤ R.frames → 200 ≤ R.locals → True → W p l e R s m args below meth c H locs cells slots Q (F0 m pc' ls (stk'.map (ab_cv B μ))) → W p l e R s m args below meth c H locs cells slots Q (F0 m pc ls (stk.map (ab_cv B μ)))) :
    ab_Sj B M pc loc stk h pc' loc stk' h := by
  refine ⟨Nat.le_refl _, Nat.le_refl _, Nat.le_refl _, ?_⟩
  intro p l e R s m args below meth c H locs cells slots Q g A μ ls b1 b2 X At h1 h2 h3 h4 h5 h6 h7 k
  exact hw X At (by omega) (by omega) h5 h6 h7 (k μ H locs cells slots ls (fun _ _ => rfl) ⟨At.1, At.2.1, hv At.2.2.1 At.2.2.2.1, At.2.2.2.1, At.2.2.2.2⟩ h1 h2)
def ab_QC (B : ab_B) (g : ab_G) (A : Nat → Prop) (μ : Nat → Nat) (h : ab_H) (r : ab_T) : Array Value → State → Outcome → State → Prop := fun _ st oc t =>
  ∃ (v : Option ab_V) (μ' : Nat → Nat), r.1 = .inl v ∧ oc = .returned (v.map (ab_cv B μ')) ∧ (∀ i, i < ab_n h → μ' i = μ i) ∧ ab_Rep B g A μ' r.2 t.heap ∧ (∀ x, v = some x → ab_vs (ab_n r.2) x) ∧ va_F A st t
/-- the exceptions by number -/
def ab_ex (E : Nat) : String := if E = 1 then "java/lang/IllegalArgumentException" else if E = 2 then "java/lang/IndexOutOfBoundsException" else "java/lang/IllegalStateException"
def ab_XC (B : ab_B) (g : ab_G) (A : Nat → Prop) (μ : Nat → Nat) (h : ab_H) (r : ab_T) : String → State → State → Prop := fun E st t =>
  ∃ (n : Nat) (μ' : Nat → Nat), r.1 = .inr n ∧ E = ab_ex n ∧ (∀ i, i < ab_n h → μ' i = μ i) ∧ ab_Rep B g A μ' r.2 t.heap ∧ va_F A st t
/-- the method ends at pc with the result r -/
def ab_Sd (B : ab_B) (M pc : Nat) (loc : ab_M) (stk : List ab_V) (h : ab_H) (r : ab_T) : Prop :=
  ab_kc h ≤ ab_kc r.2 ∧ ab_ks h ≤ ab_ks r.2 ∧ ab_n h ≤ ab_n r.2 ∧
  ∀ {p : Program} {l : Launch} {e : Env} {R : Room} {s : State} {m : MethodId} {args : Array Value} {below : List Frame} {meth : Method} {c : Code} {H : Heap} {locs : List Loc} {cells slots : Nat} {g : ab_G} {A : Nat → Prop} {μ μ0 : Nat → Nat} {h0 : ab_H} {ls : Array Slot} {b1 b2 : Nat},
    ab_X B M g A p l s m args meth c → ab_At B M g A μ h H ls loc stk s locs → cells + b1 = ab_kc h → slots + b2 = ab_ks h → ab_kc r.2 = R.cells + b1 → ab_ks r.2 = R.slots + b2 → 10 ≤ R.frames → 200 ≤ R.locals → True → (∀ i, i < ab_n h0 → μ i = μ0 i) → ab_n h0 ≤ ab_n h →
    W p l e R s m args below meth c H locs cells slots (vx_MQ below (ab_QC B g A μ0 h0 r) (ab_XC B g A μ0 h0 r) args s R.cells R.slots A) (F0 m pc ls (stk.map (ab_cv B μ)))
def ab_wsM (M : Nat) : List Cond := ab_cw M :: ab_TG
def ab_PC (B : ab_B) (g : ab_G) (A : Nat → Prop) (μ : Nat → Nat) (h : ab_H) (as : List ab_V) : Array Value → State → Prop := va_Pc (as.map (ab_cv B μ)) (fun U => ab_Rep B g A μ h U.heap ∧ ab_F B g A U)
/-- the contract of the method M at the arguments as and the heap h, with the result r, calls at most d deep -/
def ab_CM (B : ab_B) (l : Launch) (M : Nat) (g : ab_G) (A : Nat → Prop) (μ : Nat → Nat) (h : ab_H) (as : List ab_V) (r : ab_T) (d : Nat) : Prop :=
  ∀ mc ms : Nat, ab_kc h + mc = ab_kc r.2 → ab_ks h + ms = ab_ks r.2 → vx_Met l (ab_my M) (ab_wsM M) ({ frames := d + 10, cells := mc, slots := ms, locals := 60 * d + 200 } : Room) (ab_PC B g A μ h as) (ab_QC B g A μ h r) (ab_XC B g A μ h r) mc ms A
/-- a call -/
def ab_Sc (B : ab_B) (M pc : Nat) (loc : ab_M) (stk : List ab_V) (h : ab_H) (M' : Nat) (loc0 : ab_M) (h0 : ab_H) (k : ab_T → Option (ab_T ⊕ ab_S)) : Prop :=
  h0 = h ∧ ∃ as : List ab_V, loc0 = ab_ent (ab_mL M') as ∧ (∀ v ∈ as, v ∈ stk) ∧ (ab_lsz as ≤ ab_mL M') ∧ (ab_cw M' ∈ ab_TG ∧ plainName (ab_my M').cls = true) ∧
  ∀ r : ab_T, (∀ r', k r = some (.inl r') → r'.2 = r.2) ∧ (∀ q, k r = some (.inr q) → q.2.2.2 = r.2) ∧
  ∀ {p : Program} {l : Launch} {e : Env} {R : Room} {s : State} {m : MethodId} {args : Array Value} {below : List Frame} {meth : Method} {c : Code} {H : Heap} {locs : List Loc} {cells slots : Nat} {g : ab_G} {A : Nat → Prop} {μ μ0 : Nat → Nat} {hh : ab_H} {ls : Array Slot} {b1 b2 d : Nat} {rr : ab_T},
    ab_CM B l M' g A μ h as r d → ab_kc h ≤ ab_kc r.2 → ab_ks h ≤ ab_ks r.2 → ab_n h ≤ ab_n r.2 → ab_X B M g A p l s m args meth c → ab_At B M g A μ h H ls loc stk s locs → cells + b1 = ab_kc h → slots + b2 = ab_ks h → ab_kc r.2 ≤ R.cells + b1 → ab_ks r.2 ≤ R.slots + b2 → d + 11 ≤ R.frames → 60 * (d + 1) + 200 ≤ R.locals →
    (∀ i, i < ab_n hh → μ i = μ0 i) → ab_n hh ≤ ab_n h → (∀ r', k r = some (.inl r') → r' = rr ∧ ab_kc rr.2 = R.cells + b1 ∧ ab_ks rr.2 = R.slots + b2) → (k r = none → False) →
    (∀ pc' loc' stk' h', k r = some (.inr (pc', loc', stk', h')) → ∀ (μ' : Nat → Nat) (H' : Heap) (locs' : List Loc) (cells' slots' : Nat) (ls' : Array Slot), (∀ i, i < ab_n h → μ' i = μ i) → ab_At B M g A μ' h' H' ls' loc' stk' s locs' → cells' + b1 = ab_kc h' → slots' + b2 = ab_ks h' →
      W p l e R s m args below meth c H' locs' cells' slots' (vx_MQ below (ab_QC B g A μ0 hh rr) (ab_XC B g A μ0 hh rr) args s R.cells R.slots A) (F0 m pc' ls' (stk'.map (ab_cv B μ')))) →
    W p l e R s m args below meth c H locs cells slots (vx_MQ below (ab_QC B g A μ0 hh rr) (ab_XC B g A μ0 hh rr) args s R.cells R.slots A) (F0 m pc ls (stk.map (ab_cv B μ)))
def ab_So (B : ab_B) (M pc : Nat) (loc : ab_M) (stk : List ab_V) (h : ab_H) : ab_P → Prop
  | .inl none => True
  | .inl (some r) => ab_Sd B M pc loc stk h r
  | .inr (.inl (pc', loc', stk', h')) => ab_Sj B M pc loc stk h pc' loc' stk' h'
  | .inr (.inr ((M', loc0, h0), k)) => ab_Sc B M pc loc stk h M' loc0 h0 k
def ab_Sn (B : ab_B) (M pc : Nat) (op : ab_O) : Prop := ∀ (loc : ab_M) (stk : List ab_V) (h : ab_H), ab_So B M pc loc stk h (op loc stk h)
theorem ab_mem_t {n : Nat} {v : ab_V} {l : List ab_V} (h : ∀ x ∈ v :: l, ab_vs n x) : ∀ x ∈ l, ab_vs n x := fun x hx => h x (List.mem_cons_of_mem _ hx)
theorem ab_mem_h {n : Nat} {v : ab_V} {l : List ab_V} (h : ∀ x ∈ v :: l, ab_vs n x) : ab_vs n v := h v List.mem_cons_self
theorem ab_mem_c {n : Nat} {v : ab_V} {l : List ab_V} (h1 : ab_vs n v) (h : ∀ x ∈ l, ab_vs n x) : ∀ x ∈ v :: l, ab_vs n x := fun x hx => (List.mem_cons.mp hx).elim (fun e => by rw [e]; exact h1) (h x)

theorem ab_s_iconst {M pc : Nat} {n : Int} {z : Int} (hd : decode (ab_mb M) pc = .ok (.iconst n, 1)) (hv : Int32.ofInt n = Int32.ofInt z) : ab_Sn B M pc (ab_o_const z (pc + 1)) := fun loc stk h =>
  ab_Sj.pure (fun h1 _ => ab_mem_c (ab_vs_i _ _) h1) (fun X At _ _ _ _ _ k => lv_iconst (v := Int32.ofInt z) X.1 X.2.1 hd hv k)
theorem ab_s_bipush {M pc : Nat} {n : Int} {z : Int} (hd : decode (ab_mb M) pc = .ok (.bipush n, 2)) (hv : (Int8.ofInt n).toInt32 = Int32.ofInt z) : ab_Sn B M pc (ab_o_const z (pc + 2)) := fun loc stk h =>
  ab_Sj.pure (fun h1 _ => ab_mem_c (ab_vs_i _ _) h1) (fun X At _ _ _ _ _ k => lv_bipush (v := Int32.ofInt z) X.1 X.2.1 hd hv k)
theorem ab_s_sipush {M pc : Nat} {n : Int} {z : Int} (hd : decode (ab_mb M) pc = .ok (.sipush n, 3)) (hv : (Int16.ofInt n).toInt32 = Int32.ofInt z) : ab_Sn B M pc (ab_o_const z (pc + 3)) := fun loc stk h =>
  ab_Sj.pure (fun h1 _ => ab_mem_c (ab_vs_i _ _) h1) (fun X At _ _ _ _ _ k => lv_sipush (v := Int32.ofInt z) X.1 X.2.1 hd hv k)
theorem ab_s_ldc {M pc i : Nat} {z : Int} (hd : decode (ab_mb M) pc = .ok (.ldc i, 2)) (hw : Cond.constant (ab_my M).cls i (Int32.ofInt z) ∈ ab_TG) : ab_Sn B M pc (ab_o_const z (pc + 2)) := fun loc stk h =>
  ab_Sj.pure (fun h1 _ => ab_mem_c (ab_vs_i _ _) h1) (fun X At _ _ _ _ _ k => lv_ldc X.1 X.2.1 X.2.2.2.1 (X.2.2.2.2.2.2.1 _ hw) hd k)
theorem ab_s_ldcw {M pc i : Nat} {z : Int} (hd : decode (ab_mb M) pc = .ok (.ldc_w i, 3)) (hw : Cond.constant (ab_my M).cls i (Int32.ofInt z) ∈ ab_TG) : ab_Sn B M pc (ab_o_const z (pc + 3)) := fun loc stk h =>
  ab_Sj.pure (fun h1 _ => ab_mem_c (ab_vs_i _ _) h1) (fun X At _ _ _ _ _ k => lv_ldcw X.1 X.2.1 X.2.2.2.1 (X.2.2.2.2.2.2.1 _ hw) hd k)
theorem ab_s_ldc2 {M pc i : Nat} {x : Int64} (hd : decode (ab_mb M) pc = .ok (.ldc2_w i, 3)) (hw : Cond.constantLong (ab_my M).cls i x ∈ ab_TG) : ab_Sn B M pc (ab_o_lconst x (pc + 3)) := fun loc stk h =>
  ab_Sj.pure (fun h1 _ => ab_mem_c (ab_vs_l _ _) h1) (fun X At _ _ _ _ _ k => lv_ldc2 X.1 X.2.1 X.2.2.2.1 (X.2.2.2.2.2.2.1 _ hw) hd k)
theorem ab_s_lconst {M pc : Nat} {n : Fin 2} {x : Int64} (hd : decode (ab_mb M) pc = .ok (.lconst n, 1)) (hv : Int64.ofNat (n : Nat) = x) : ab_Sn B M pc (ab_o_lconst x (pc + 1)) := fun loc stk h =>
  ab_Sj.pure (fun h1 _ => ab_mem_c (ab_vs_l _ _) h1) (fun X At _ _ _ _ _ k => lv_lconst X.1 X.2.1 hd hv k)
theorem ab_s_iload_n {M pc k : Nat} {n : Fin 4} (hd : decode (ab_mb M) pc = .ok (.iload_n n, 1)) (hi : (n : Nat) = k) : ab_Sn B M pc (ab_o_ild k (pc + 1)) := fun loc stk h => by
  unfold ab_o_ild
  split
  · rename_i hl
    exact ab_Sj.pure (fun h1 _ => ab_mem_c (ab_vs_i _ _) h1) (fun X At _ _ _ _ _ k => lv_iload_n X.1 X.2.1 hd hi (At.2.1.2.2.2 _ _ hl) k)
  · trivial
theorem ab_s_iload {M pc k : Nat} (hd : decode (ab_mb M) pc = .ok (.iload k, 2)) : ab_Sn B M pc (ab_o_ild k (pc + 2)) := fun loc stk h => by
  unfold ab_o_ild
  split
  · rename_i hl
    exact ab_Sj.pure (fun h1 _ => ab_mem_c (ab_vs_i _ _) h1) (fun X At _ _ _ _ _ k => lv_iload X.1 X.2.1 hd (At.2.1.2.2.2 _ _ hl) k)
  · trivial
theorem ab_s_lload_n {M pc k : Nat} {n : Fin 4} (hd : decode (ab_mb M) pc = .ok (.lload_n n, 1)) (hi : (n : Nat) = k) : ab_Sn B M pc (ab_o_lld k (pc + 1)) := fun loc stk h => by
  unfold ab_o_lld
  split
  · rename_i hl
    exact ab_Sj.pure (fun h1 _ => ab_mem_c (ab_vs_l _ _) h1) (fun X At _ _ _ _ _ k => lv_lload_n X.1 X.2.1 hd hi (At.2.1.2.2.2 _ _ hl) k)
  · trivial
theorem ab_s_lload {M pc k : Nat} (hd : decode (ab_mb M) pc = .ok (.lload k, 2)) : ab_Sn B M pc (ab_o_lld k (pc + 2)) := fun loc stk h => by
  unfold ab_o_lld
  split
  · rename_i hl
    exact ab_Sj.pure (fun h1 _ => ab_mem_c (ab_vs_l _ _) h1) (fun X At _ _ _ _ _ k => lv_lload X.1 X.2.1 hd (At.2.1.2.2.2 _ _ hl) k)
  · trivial
theorem ab_s_aload_n {M pc k : Nat} {n : Fin 4} (hd : decode (ab_mb M) pc = .ok (.aload_n n, 1)) (hi : (n : Nat) = k) : ab_Sn B M pc (ab_o_ald k (pc + 1)) := fun loc stk h => by
  unfold ab_o_ald
  split
  · rename_i q hl
    have hm := List.mem_of_getElem? hl
    cases q with
    | none => exact ab_Sj.pure (fun h1 _ => ab_mem_c (ab_vs_n _) h1) (fun X At _ _ _ _ _ k => lv_aload_n X.1 X.2.1 hd hi (At.2.1.2.2.2 _ _ hl) k)
    | some q => exact ab_Sj.pure (fun h1 h2 => ab_mem_c (h2 _ hm) h1) (fun X At _ _ _ _ _ k => lv_aload_n X.1 X.2.1 hd hi (At.2.1.2.2.2 _ _ hl) k)
  · trivial
theorem ab_s_aload {M pc k : Nat} (hd : decode (ab_mb M) pc = .ok (.aload k, 2)) : ab_Sn B M pc (ab_o_ald k (pc + 2)) := fun loc stk h => by
  unfold ab_o_ald
  split
  · rename_i q hl
    have hm := List.mem_of_getElem? hl
    cases q with
    | none => exact ab_Sj.pure (fun h1 _ => ab_mem_c (ab_vs_n _) h1) (fun X At _ _ _ _ _ k => lv_aload X.1 X.2.1 hd (At.2.1.2.2.2 _ _ hl) k)
    | some q => exact ab_Sj.pure (fun h1 h2 => ab_mem_c (h2 _ hm) h1) (fun X At _ _ _ _ _ k => lv_aload X.1 X.2.1 hd (At.2.1.2.2.2 _ _ hl) k)
  · trivial
theorem ab_s_iadd {M pc : Nat} (hd : decode (ab_mb M) pc = .ok (.iadd, 1)) : ab_Sn B M pc (ab_o_bin (fun a b => a + b) (pc + 1)) := fun loc stk h => by
  unfold ab_o_bin
  split
  · rename_i b a r
    refine ab_Sj.pure (fun h1 _ => ab_mem_c (ab_vs_i _ _) (ab_mem_t (ab_mem_t h1))) (fun X At _ _ _ _ _ k => ?_)
    refine lv_iadd (x := Int32.ofInt a) (y := Int32.ofInt b) X.1 X.2.1 hd ?_
    simp only [List.map_cons, ab_cv] at k
    rw [Int32.ofInt_add] at k; exact k
  · trivial
theorem ab_s_isub {M pc : Nat} (hd : decode (ab_mb M) pc = .ok (.isub, 1)) : ab_Sn B M pc (ab_o_bin (fun a b => a - b) (pc + 1)) := fun loc stk h => by
  unfold ab_o_bin
  split
  · rename_i b a r
    refine ab_Sj.pure (fun h1 _ => ab_mem_c (ab_vs_i _ _) (ab_mem_t (ab_mem_t h1))) (fun X At _ _ _ _ _ k => ?_)
    refine lv_isub (x := Int32.ofInt a) (y := Int32.ofInt b) X.1 X.2.1 hd ?_
    simp only [List.map_cons, ab_cv] at k
    rw [Int32.ofInt_sub] at k; exact k
  · trivial
theorem ab_s_imul {M pc : Nat} (hd : decode (ab_mb M) pc = .ok (.imul, 1)) : ab_Sn B M pc (ab_o_bin (fun a b => a * b) (pc + 1)) := fun loc stk h => by
  unfold ab_o_bin
  split
  · rename_i b a r
    refine ab_Sj.pure (fun h1 _ => ab_mem_c (ab_vs_i _ _) (ab_mem_t (ab_mem_t h1))) (fun X At _ _ _ _ _ k => ?_)
    refine lv_imul (x := Int32.ofInt a) (y := Int32.ofInt b) X.1 X.2.1 hd ?_
    simp only [List.map_cons, ab_cv] at k
    rw [Int32.ofInt_mul] at k; exact k
  · trivial
theorem ab_s_iand {M pc : Nat} (hd : decode (ab_mb M) pc = .ok (.iand, 1)) : ab_Sn B M pc (ab_o_bin (ab_iand) (pc + 1)) := fun loc stk h => by
  unfold ab_o_bin
  split
  · rename_i b a r
    refine ab_Sj.pure (fun h1 _ => ab_mem_c (ab_vs_i _ _) (ab_mem_t (ab_mem_t h1))) (fun X At _ _ _ _ _ k => ?_)
    refine lv_iand (x := Int32.ofInt a) (y := Int32.ofInt b) X.1 X.2.1 hd ?_
    simp only [List.map_cons, ab_cv] at k
    rw [show Int32.ofInt (ab_iand a b) = _ from Int32.ofInt_toInt _] at k; exact k
  · trivial
theorem ab_s_ior {M pc : Nat} (hd : decode (ab_mb M) pc = .ok (.ior, 1)) : ab_Sn B M pc (ab_o_bin (ab_ior) (pc + 1)) := fun loc stk h => by
  unfold ab_o_bin
  split
  · rename_i b a r
    refine ab_Sj.pure (fun h1 _ => ab_mem_c (ab_vs_i _ _) (ab_mem_t (ab_mem_t h1))) (fun X At _ _ _ _ _ k => ?_)
    refine lv_ior (x := Int32.ofInt a) (y := Int32.ofInt b) X.1 X.2.1 hd ?_
    simp only [List.map_cons, ab_cv] at k
    rw [show Int32.ofInt (ab_ior a b) = _ from Int32.ofInt_toInt _] at k; exact k
  · trivial
theorem ab_s_ixor {M pc : Nat} (hd : decode (ab_mb M) pc = .ok (.ixor, 1)) : ab_Sn B M pc (ab_o_bin (ab_ixor) (pc + 1)) := fun loc stk h => by
  unfold ab_o_bin
  split
  · rename_i b a r
    refine ab_Sj.pure (fun h1 _ => ab_mem_c (ab_vs_i _ _) (ab_mem_t (ab_mem_t h1))) (fun X At _ _ _ _ _ k => ?_)
    refine lv_ixor (x := Int32.ofInt a) (y := Int32.ofInt b) X.1 X.2.1 hd ?_
    simp only [List.map_cons, ab_cv] at k
    rw [show Int32.ofInt (ab_ixor a b) = _ from Int32.ofInt_toInt _] at k; exact k
  · trivial
theorem ab_s_ishl {M pc : Nat} (hd : decode (ab_mb M) pc = .ok (.ishl, 1)) : ab_Sn B M pc (ab_o_bin (ab_ishl) (pc + 1)) := fun loc stk h => by
  unfold ab_o_bin
  split
  · rename_i b a r
    refine ab_Sj.pure (fun h1 _ => ab_mem_c (ab_vs_i _ _) (ab_mem_t (ab_mem_t h1))) (fun X At _ _ _ _ _ k => ?_)
    refine lv_ishl (x := Int32.ofInt a) (y := Int32.ofInt b) X.1 X.2.1 hd ?_
    simp only [List.map_cons, ab_cv] at k
    rw [show Int32.ofInt (ab_ishl a b) = _ from Int32.ofInt_toInt _] at k; exact k
  · trivial
theorem ab_s_ishr {M pc : Nat} (hd : decode (ab_mb M) pc = .ok (.ishr, 1)) : ab_Sn B M pc (ab_o_bin (ab_ishr) (pc + 1)) := fun loc stk h => by
  unfold ab_o_bin
  split
  · rename_i b a r
    refine ab_Sj.pure (fun h1 _ => ab_mem_c (ab_vs_i _ _) (ab_mem_t (ab_mem_t h1))) (fun X At _ _ _ _ _ k => ?_)
    refine lv_ishr (x := Int32.ofInt a) (y := Int32.ofInt b) X.1 X.2.1 hd ?_
    simp only [List.map_cons, ab_cv] at k
    rw [show Int32.ofInt (ab_ishr a b) = _ from Int32.ofInt_toInt _] at k; exact k
  · trivial
theorem ab_s_idiv {M pc : Nat} (hd : decode (ab_mb M) pc = .ok (.idiv, 1)) : ab_Sn B M pc (ab_o_div ab_idiv (pc + 1)) := fun loc stk h => by
  unfold ab_o_div
  split
  · rename_i b a r
    split
    · trivial
    · rename_i hb0
      refine ab_Sj.pure (fun h1 _ => ab_mem_c (ab_vs_i _ _) (ab_mem_t (ab_mem_t h1))) (fun X At _ _ _ _ _ k => ?_)
      refine lv_idiv (x := Int32.ofInt a) (y := Int32.ofInt b) X.1 X.2.1 hd (fun e => hb0 (by unfold ab_w; rw [e]; rfl)) ?_
      simp only [List.map_cons, ab_cv] at k
      rw [show Int32.ofInt (ab_idiv a b) = _ from Int32.ofInt_toInt _] at k
      exact k
  · trivial
theorem ab_s_irem {M pc : Nat} (hd : decode (ab_mb M) pc = .ok (.irem, 1)) : ab_Sn B M pc (ab_o_div ab_irem (pc + 1)) := fun loc stk h => by
  unfold ab_o_div
  split
  · rename_i b a r
    split
    · trivial
    · rename_i hb0
      refine ab_Sj.pure (fun h1 _ => ab_mem_c (ab_vs_i _ _) (ab_mem_t (ab_mem_t h1))) (fun X At _ _ _ _ _ k => ?_)
      refine lv_irem (x := Int32.ofInt a) (y := Int32.ofInt b) X.1 X.2.1 hd (fun e => hb0 (by unfold ab_w; rw [e]; rfl)) ?_
      simp only [List.map_cons, ab_cv] at k
      rw [show Int32.ofInt (ab_irem a b) = _ from Int32.ofInt_toInt _] at k
      exact k
  · trivial
theorem ab_s_ladd {M pc : Nat} (hd : decode (ab_mb M) pc = .ok (.ladd, 1)) : ab_Sn B M pc (ab_o_lbin (fun a b => a + b) (pc + 1)) := fun loc stk h => by
  unfold ab_o_lbin
  split
  · exact ab_Sj.pure (fun h1 _ => ab_mem_c (ab_vs_l _ _) (ab_mem_t (ab_mem_t h1))) (fun X At _ _ _ _ _ k => lv_ladd X.1 X.2.1 hd k)
  · trivial
theorem ab_s_lmul {M pc : Nat} (hd : decode (ab_mb M) pc = .ok (.lmul, 1)) : ab_Sn B M pc (ab_o_lbin (fun a b => a * b) (pc + 1)) := fun loc stk h => by
  unfold ab_o_lbin
  split
  · exact ab_Sj.pure (fun h1 _ => ab_mem_c (ab_vs_l _ _) (ab_mem_t (ab_mem_t h1))) (fun X At _ _ _ _ _ k => lv_lmul X.1 X.2.1 hd k)
  · trivial
theorem ab_s_i2l {M pc : Nat} (hd : decode (ab_mb M) pc = .ok (.i2l, 1)) : ab_Sn B M pc (ab_o_i2l (pc + 1)) := fun loc stk h => by
  unfold ab_o_i2l
  split
  · exact ab_Sj.pure (fun h1 _ => ab_mem_c (ab_vs_l _ _) (ab_mem_t h1)) (fun X At _ _ _ _ _ k => lv_i2l X.1 X.2.1 hd rfl k)
  · trivial
theorem ab_s_lcmp {M pc : Nat} (hd : decode (ab_mb M) pc = .ok (.lcmp, 1)) : ab_Sn B M pc (ab_o_lcmp (pc + 1)) := fun loc stk h => by
  unfold ab_o_lcmp
  split
  · rename_i b a r
    refine ab_Sj.pure (fun h1 _ => ab_mem_c (ab_vs_i _ _) (ab_mem_t (ab_mem_t h1))) (fun X At _ _ _ _ _ k => W.lcmp X.1 X.2.1 hd ?_)
    have e : lg_cmp a b = Int32.ofInt (ab_cmp a b) := ab_cmp_eq a b
    rw [e]
    exact k
  · trivial
theorem ab_s_dup {M pc : Nat} (hd : decode (ab_mb M) pc = .ok (.dup, 1)) : ab_Sn B M pc (ab_o_dup (pc + 1)) := fun loc stk h => by
  unfold ab_o_dup
  split
  · rename_i v r
    cases hv : ab_lg v with
    | true => exact trivial
    | false => exact ab_Sj.pure (fun h1 _ => ab_mem_c (ab_mem_h h1) h1) (fun X At _ _ _ _ _ k => lv_dup X.1 X.2.1 hd (by rw [ab_cv_cat, hv]; rfl) k)
  · trivial
theorem ab_s_dup2 {M pc : Nat} (hd : decode (ab_mb M) pc = .ok (.dup2, 1)) : ab_Sn B M pc (ab_o_dup2 (pc + 1)) := fun loc stk h => by
  unfold ab_o_dup2
  split
  · rename_i v w r
    cases hv : ab_lg v with
    | true => exact trivial
    | false => cases hw : ab_lg w with
      | true => exact trivial
      | false => exact ab_Sj.pure (fun h1 _ => ab_mem_c (ab_mem_h h1) (ab_mem_c (ab_mem_h (ab_mem_t h1)) h1)) (fun X At _ _ _ _ _ k => lv_dup2_11 X.1 X.2.1 hd (by rw [ab_cv_cat, hv]; rfl) (by rw [ab_cv_cat, hw]; rfl) k)
  · trivial
theorem ab_s_dupx1 {M pc : Nat} (hd : decode (ab_mb M) pc = .ok (.dup_x1, 1)) : ab_Sn B M pc (ab_o_dupx1 (pc + 1)) := fun loc stk h => by
  unfold ab_o_dupx1
  split
  · rename_i v w r
    cases hv : ab_lg v with
    | true => exact trivial
    | false => cases hw : ab_lg w with
      | true => exact trivial
      | false => exact ab_Sj.pure (fun h1 _ => ab_mem_c (ab_mem_h h1) (ab_mem_c (ab_mem_h (ab_mem_t h1)) (ab_mem_c (ab_mem_h h1) (ab_mem_t (ab_mem_t h1))))) (fun X At _ _ _ _ _ k => lv_dup_x1 X.1 X.2.1 hd (by rw [ab_cv_cat, hv]; rfl) (by rw [ab_cv_cat, hw]; rfl) k)
  · trivial
theorem ab_s_pop {M pc : Nat} (hd : decode (ab_mb M) pc = .ok (.pop, 1)) : ab_Sn B M pc (ab_o_pop (pc + 1)) := fun loc stk h => by
  unfold ab_o_pop
  split
  · rename_i v r
    cases hv : ab_lg v with
    | true => exact trivial
    | false => exact ab_Sj.pure (fun h1 _ => ab_mem_t h1) (fun X At _ _ _ _ _ k => lv_pop X.1 X.2.1 hd (by rw [ab_cv_cat, hv]; rfl) k)
  · trivial
theorem ab_s_goto {M pc tg : Nat} {off : Int} (hd : decode (ab_mb M) pc = .ok (.goto off, 3)) (ht : (pc : Int) + off = (tg : Int)) : ab_Sn B M pc (ab_o_goto tg) := fun loc stk h =>
  ab_Sj.pure (fun h1 _ => h1) (fun X At _ _ _ _ _ k => lv_goto X.1 X.2.1 hd ht k)
def ab_eq (a b : Int) : Bool := decide (a = b)
def ab_ne (a b : Int) : Bool := decide (¬ a = b)
def ab_lt (a b : Int) : Bool := decide (a < b)
def ab_ge (a b : Int) : Bool := decide (b ≤ a)
def ab_gt (a b : Int) : Bool := decide (b < a)
def ab_le (a b : Int) : Bool := decide (a ≤ b)
theorem ab_eq_w (a b : Int) : ab_eq (ab_w a) (ab_w b) = true ↔ Int32.ofInt a = Int32.ofInt b := by unfold ab_eq ab_w; rw [decide_eq_true_iff, Int32.toInt_inj]
theorem ab_ne_w (a b : Int) : ab_ne (ab_w a) (ab_w b) = true ↔ ¬ Int32.ofInt a = Int32.ofInt b := by unfold ab_ne ab_w; rw [decide_eq_true_iff, Int32.toInt_inj]
theorem ab_lt_w (a b : Int) : ab_lt (ab_w a) (ab_w b) = true ↔ Int32.ofInt a < Int32.ofInt b := by unfold ab_lt ab_w; rw [decide_eq_true_iff]; exact (Int32.lt_iff_toInt_lt).symm
theorem ab_ge_w (a b : Int) : ab_ge (ab_w a) (ab_w b) = true ↔ Int32.ofInt b ≤ Int32.ofInt a := by unfold ab_ge ab_w; rw [decide_eq_true_iff]; exact (Int32.le_iff_toInt_le).symm
theorem ab_gt_w (a b : Int) : ab_gt (ab_w a) (ab_w b) = true ↔ Int32.ofInt b < Int32.ofInt a := by unfold ab_gt ab_w; rw [decide_eq_true_iff]; exact (Int32.lt_iff_toInt_lt).symm
theorem ab_le_w (a b : Int) : ab_le (ab_w a) (ab_w b) = true ↔ Int32.ofInt a ≤ Int32.ofInt b := by unfold ab_le ab_w; rw [decide_eq_true_iff]; exact (Int32.le_iff_toInt_le).symm
theorem ab_w0 : ab_w 0 = 0 := by decide
theorem ab_s_icmp_eq {M pc tg : Nat} {off : Int} (hd : decode (ab_mb M) pc = .ok (.if_icmp .eq off, 3)) (ht : (pc : Int) + off = (tg : Int)) : ab_Sn B M pc (ab_o_icmp ab_eq tg (pc + 3)) := fun loc stk h => by
  unfold ab_o_icmp
  split
  · rename_i b a r
    refine ab_Sj.pure (fun h1 _ => ab_mem_t (ab_mem_t h1)) (fun X At _ _ _ _ _ k => lv_icmp_eq (x := Int32.ofInt a) (y := Int32.ofInt b) X.1 X.2.1 hd ht (fun hc => ?_) (fun hc => ?_))
    · rw [if_pos ((ab_eq_w a b).mpr hc)] at k; exact k
    · rw [if_neg (fun z => hc ((ab_eq_w a b).mp z))] at k; exact k
  · trivial
theorem ab_s_if_eq {M pc tg : Nat} {off : Int} (hd : decode (ab_mb M) pc = .ok (.ifCond .eq off, 3)) (ht : (pc : Int) + off = (tg : Int)) : ab_Sn B M pc (ab_o_if ab_eq tg (pc + 3)) := fun loc stk h => by
  unfold ab_o_if
  split
  · rename_i a r
    have e := ab_eq_w a 0
    rw [ab_w0] at e
    refine ab_Sj.pure (fun h1 _ => ab_mem_t h1) (fun X At _ _ _ _ _ k => lv_if_eq (x := Int32.ofInt a) X.1 X.2.1 hd ht (fun hc => ?_) (fun hc => ?_))
    · rw [if_pos (e.mpr hc)] at k; exact k
    · rw [if_neg (fun z => hc (e.mp z))] at k; exact k
  · trivial
theorem ab_s_icmp_ne {M pc tg : Nat} {off : Int} (hd : decode (ab_mb M) pc = .ok (.if_icmp .ne off, 3)) (ht : (pc : Int) + off = (tg : Int)) : ab_Sn B M pc (ab_o_icmp ab_ne tg (pc + 3)) := fun loc stk h => by
  unfold ab_o_icmp
  split
  · rename_i b a r
    refine ab_Sj.pure (fun h1 _ => ab_mem_t (ab_mem_t h1)) (fun X At _ _ _ _ _ k => lv_icmp_ne (x := Int32.ofInt a) (y := Int32.ofInt b) X.1 X.2.1 hd ht (fun hc => ?_) (fun hc => ?_))
    · rw [if_pos ((ab_ne_w a b).mpr hc)] at k; exact k
    · rw [if_neg (fun z => ((ab_ne_w a b).mp z) hc)] at k; exact k
  · trivial
theorem ab_s_if_ne {M pc tg : Nat} {off : Int} (hd : decode (ab_mb M) pc = .ok (.ifCond .ne off, 3)) (ht : (pc : Int) + off = (tg : Int)) : ab_Sn B M pc (ab_o_if ab_ne tg (pc + 3)) := fun loc stk h => by
  unfold ab_o_if
  split
  · rename_i a r
    have e := ab_ne_w a 0
    rw [ab_w0] at e
    refine ab_Sj.pure (fun h1 _ => ab_mem_t h1) (fun X At _ _ _ _ _ k => lv_if_ne (x := Int32.ofInt a) X.1 X.2.1 hd ht (fun hc => ?_) (fun hc => ?_))
    · rw [if_pos (e.mpr hc)] at k; exact k
    · rw [if_neg (fun z => (e.mp z) hc)] at k; exact k
  · trivial
theorem ab_s_icmp_lt {M pc tg : Nat} {off : Int} (hd : decode (ab_mb M) pc = .ok (.if_icmp .lt off, 3)) (ht : (pc : Int) + off = (tg : Int)) : ab_Sn B M pc (ab_o_icmp ab_lt tg (pc + 3)) := fun loc stk h => by
  unfold ab_o_icmp
  split
  · rename_i b a r
    refine ab_Sj.pure (fun h1 _ => ab_mem_t (ab_mem_t h1)) (fun X At _ _ _ _ _ k => lv_icmp_lt (x := Int32.ofInt a) (y := Int32.ofInt b) X.1 X.2.1 hd ht (fun hc => ?_) (fun hc => ?_))
    · rw [if_pos ((ab_lt_w a b).mpr hc)] at k; exact k
    · rw [if_neg (fun z => hc ((ab_lt_w a b).mp z))] at k; exact k
  · trivial
theorem ab_s_if_lt {M pc tg : Nat} {off : Int} (hd : decode (ab_mb M) pc = .ok (.ifCond .lt off, 3)) (ht : (pc : Int) + off = (tg : Int)) : ab_Sn B M pc (ab_o_if ab_lt tg (pc + 3)) := fun loc stk h => by
  unfold ab_o_if
  split
  · rename_i a r
    have e := ab_lt_w a 0
    rw [ab_w0] at e
    refine ab_Sj.pure (fun h1 _ => ab_mem_t h1) (fun X At _ _ _ _ _ k => lv_if_lt (x := Int32.ofInt a) X.1 X.2.1 hd ht (fun hc => ?_) (fun hc => ?_))
    · rw [if_pos (e.mpr hc)] at k; exact k
    · rw [if_neg (fun z => hc (e.mp z))] at k; exact k
  · trivial
theorem ab_s_icmp_ge {M pc tg : Nat} {off : Int} (hd : decode (ab_mb M) pc = .ok (.if_icmp .ge off, 3)) (ht : (pc : Int) + off = (tg : Int)) : ab_Sn B M pc (ab_o_icmp ab_ge tg (pc + 3)) := fun loc stk h => by
  unfold ab_o_icmp
  split
  · rename_i b a r
    refine ab_Sj.pure (fun h1 _ => ab_mem_t (ab_mem_t h1)) (fun X At _ _ _ _ _ k => lv_icmp_ge (x := Int32.ofInt a) (y := Int32.ofInt b) X.1 X.2.1 hd ht (fun hc => ?_) (fun hc => ?_))
    · rw [if_pos ((ab_ge_w a b).mpr hc)] at k; exact k
    · rw [if_neg (fun z => hc ((ab_ge_w a b).mp z))] at k; exact k
  · trivial
theorem ab_s_if_ge {M pc tg : Nat} {off : Int} (hd : decode (ab_mb M) pc = .ok (.ifCond .ge off, 3)) (ht : (pc : Int) + off = (tg : Int)) : ab_Sn B M pc (ab_o_if ab_ge tg (pc + 3)) := fun loc stk h => by
  unfold ab_o_if
  split
  · rename_i a r
    have e := ab_ge_w a 0
    rw [ab_w0] at e
    refine ab_Sj.pure (fun h1 _ => ab_mem_t h1) (fun X At _ _ _ _ _ k => lv_if_ge (x := Int32.ofInt a) X.1 X.2.1 hd ht (fun hc => ?_) (fun hc => ?_))
    · rw [if_pos (e.mpr hc)] at k; exact k
    · rw [if_neg (fun z => hc (e.mp z))] at k; exact k
  · trivial
theorem ab_s_icmp_gt {M pc tg : Nat} {off : Int} (hd : decode (ab_mb M) pc = .ok (.if_icmp .gt off, 3)) (ht : (pc : Int) + off = (tg : Int)) : ab_Sn B M pc (ab_o_icmp ab_gt tg (pc + 3)) := fun loc stk h => by
  unfold ab_o_icmp
  split
  · rename_i b a r
    refine ab_Sj.pure (fun h1 _ => ab_mem_t (ab_mem_t h1)) (fun X At _ _ _ _ _ k => lv_icmp_gt (x := Int32.ofInt a) (y := Int32.ofInt b) X.1 X.2.1 hd ht (fun hc => ?_) (fun hc => ?_))
    · rw [if_pos ((ab_gt_w a b).mpr hc)] at k; exact k
    · rw [if_neg (fun z => hc ((ab_gt_w a b).mp z))] at k; exact k
  · trivial
theorem ab_s_if_gt {M pc tg : Nat} {off : Int} (hd : decode (ab_mb M) pc = .ok (.ifCond .gt off, 3)) (ht : (pc : Int) + off = (tg : Int)) : ab_Sn B M pc (ab_o_if ab_gt tg (pc + 3)) := fun loc stk h => by
  unfold ab_o_if
  split
  · rename_i a r
    have e := ab_gt_w a 0
    rw [ab_w0] at e
    refine ab_Sj.pure (fun h1 _ => ab_mem_t h1) (fun X At _ _ _ _ _ k => lv_if_gt (x := Int32.ofInt a) X.1 X.2.1 hd ht (fun hc => ?_) (fun hc => ?_))
    · rw [if_pos (e.mpr hc)] at k; exact k
    · rw [if_neg (fun z => hc (e.mp z))] at k; exact k
  · trivial
theorem ab_s_icmp_le {M pc tg : Nat} {off : Int} (hd : decode (ab_mb M) pc = .ok (.if_icmp .le off, 3)) (ht : (pc : Int) + off = (tg : Int)) : ab_Sn B M pc (ab_o_icmp ab_le tg (pc + 3)) := fun loc stk h => by
  unfold ab_o_icmp
  split
  · rename_i b a r
    refine ab_Sj.pure (fun h1 _ => ab_mem_t (ab_mem_t h1)) (fun X At _ _ _ _ _ k => lv_icmp_le (x := Int32.ofInt a) (y := Int32.ofInt b) X.1 X.2.1 hd ht (fun hc => ?_) (fun hc => ?_))
    · rw [if_pos ((ab_le_w a b).mpr hc)] at k; exact k
    · rw [if_neg (fun z => hc ((ab_le_w a b).mp z))] at k; exact k
  · trivial
theorem ab_s_if_le {M pc tg : Nat} {off : Int} (hd : decode (ab_mb M) pc = .ok (.ifCond .le off, 3)) (ht : (pc : Int) + off = (tg : Int)) : ab_Sn B M pc (ab_o_if ab_le tg (pc + 3)) := fun loc stk h => by
  unfold ab_o_if
  split
  · rename_i a r
    have e := ab_le_w a 0
    rw [ab_w0] at e
    refine ab_Sj.pure (fun h1 _ => ab_mem_t h1) (fun X At _ _ _ _ _ k => lv_if_le (x := Int32.ofInt a) X.1 X.2.1 hd ht (fun hc => ?_) (fun hc => ?_))
    · rw [if_pos (e.mpr hc)] at k; exact k
    · rw [if_neg (fun z => hc (e.mp z))] at k; exact k
  · trivial
end
end
section
/-! STORES, FIELDS, ARRAYS -/
section
variable {B : ab_B}
/-- an instruction that changes the locals alone -/
theorem ab_Sj.upd {M pc pc' : Nat} {loc loc' : ab_M} {stk stk' : List ab_V} {h : ab_H}
    (hv : (∀ v ∈ stk, ab_vs (ab_n h) v) → (∀ v, some v ∈ loc → ab_vs (ab_n h) v) → (∀ v ∈ stk', ab_vs (ab_n h) v) ∧ (∀ v, some v ∈ loc' → ab_vs (ab_n h) v))
    (hw : ∀ {p : Program} {l : Launch} {e : Env} {R : Room} {s : State} {m : MethodId} {args : Array Value} {below : List Frame} {meth : Method} {c : Code} {H : Heap} {locs : List Loc} {cells slots : Nat} {Q : State → Prop} {g : ab_G} {A : Nat → Prop} {μ : Nat → Nat} {ls : Array Slot},
      ab_X B M g A p l s m args meth c → ab_At B M g A μ h H ls loc stk s locs → (∀ ls' : Array Slot, ab_lh B (ab_mL M) μ ls' loc' → W p l e R s m args below meth c H locs cells slots Q (F0 m pc' ls' (stk'.map (ab_cv B μ)))) → W p l e R s m args below meth c H locs cells slots Q (F0 m pc ls (stk.map (ab_cv B μ)))) :
    ab_Sj B M pc loc stk h pc' loc' stk' h := by
  refine ⟨Nat.le_refl _, Nat.le_refl _, Nat.le_refl _, ?_⟩
  intro p l e R s m args below meth c H locs cells slots Q g A μ ls b1 b2 X At h1 h2 h3 h4 h5 h6 h7 k
  obtain ⟨v1, v2⟩ := hv At.2.2.1 At.2.2.2.1
  exact hw X At (fun ls' hl => k μ H locs cells slots ls' (fun _ _ => rfl) ⟨At.1, hl, v1, v2, At.2.2.2.2⟩ h1 h2)
/-- an instruction that changes one cell: entry e of the cell a -/
theorem ab_Sj.cell {M pc pc' a : Nat} {loc : ab_M} {stk stk' : List ab_V} {h h' : ab_H} {s0 : Nat × Nat}
    (hsh : ab_sh h' = ab_sh h) (hkc : ab_kc h' = ab_kc h) (hks : ab_ks h' = ab_ks h) (hs : (ab_sh h)[a]? = some s0) (ho : ∀ (g : ab_G) (μ : Nat → Nat) (j : Nat) (s' : Nat × Nat), j ≠ a → ab_en B g μ h' j s' = ab_en B g μ h j s')
    (hok : ab_ok h → (∀ v ∈ stk, ab_vs (ab_n h) v) → ab_ok h')
    (hv : ∀ v ∈ stk', v ∈ stk)
    (hw : ∀ {p : Program} {l : Launch} {e : Env} {R : Room} {s : State} {m : MethodId} {args : Array Value} {below : List Frame} {meth : Method} {c : Code} {H : Heap} {locs : List Loc} {cells slots : Nat} {Q : State → Prop} {g : ab_G} {A : Nat → Prop} {μ : Nat → Nat} {ls : Array Slot},
      ab_X B M g A p l s m args meth c → ab_At B M g A μ h H ls loc stk s locs → (∀ (H1 : Heap) (locs1 : List Loc), va_P g.1 ab_cl ((ab_ws B g μ h).set a (μ a, ab_en B g μ h' a s0)) H1 → va_D A ((ab_ws B g μ h).set a (μ a, ab_en B g μ h' a s0)) → va_S A s.heap H1 locs1 → W p l e R s m args below meth c H1 locs1 cells slots Q (F0 m pc' ls (stk'.map (ab_cv B μ)))) → W p l e R s m args below meth c H locs cells slots Q (F0 m pc ls (stk.map (ab_cv B μ)))) :
    ab_Sj B M pc loc stk h pc' loc stk' h' := by
  have hn : ab_n h' = ab_n h := by unfold ab_n; rw [hsh]
  refine ⟨Nat.le_of_eq hkc.symm, Nat.le_of_eq hks.symm, Nat.le_of_eq hn.symm, ?_⟩
  intro p l e R s m args below meth c H locs cells slots Q g A μ ls b1 b2 X At h1 h2 h3 h4 h5 h6 h7 k
  refine hw X At (fun H1 locs1 hP hD hS => ?_)
  rw [ab_ws_set (h' := h') hsh hs rfl (ho g μ)] at hP hD
  exact k μ H1 locs1 cells slots ls (fun _ _ => rfl) ⟨⟨hP, hD, hok At.1.2.2 At.2.2.1⟩, At.2.1, fun v hv' => by rw [hn]; exact At.2.2.1 v (hv v hv'), fun v hv' => by rw [hn]; exact At.2.2.2.1 v hv', hS⟩ (by rw [hkc]; exact h1) (by rw [hks]; exact h2)
theorem ab_ok_si {h : ab_H} {a : Nat} {k v : Int} (hk : ab_ok h) : ab_ok (ab_si h a k v) := hk
theorem ab_ok_sl {h : ab_H} {a : Nat} {k : Int} {v : Int64} (hk : ab_ok h) : ab_ok (ab_sl h a k v) := hk
theorem ab_ok_sr {h : ab_H} {a : Nat} {k : Int} {v : Option Nat} (hk : ab_ok h) (hv : ∀ j, v = some j → j < ab_n h) : ab_ok (ab_sr h a k v) := by
  refine ⟨fun c k' j hj => ?_, hk.2⟩
  rw [ab_gr_sr] at hj
  by_cases e : c = a ∧ k' = k
  · rw [if_pos e] at hj; exact hv j hj
  · rw [if_neg e] at hj; exact hk.1 c k' j hj
theorem ab_s_istore_n {M pc k : Nat} {n : Fin 4} (hd : decode (ab_mb M) pc = .ok (.istore_n n, 1)) (hi : (n : Nat) = k) : ab_Sn B M pc (ab_o_ist k (pc + 1)) := fun loc stk h => by
  unfold ab_o_ist
  split
  · rename_i x r
    split
    · rename_i hk
      refine ab_Sj.upd (fun h1 h2 => ⟨ab_mem_t h1, fun v hv => ?_⟩) (fun X At k9 => ?_)
      · rcases ab_set1_mem hv with e | e
        · cases e; exact ab_vs_i _ _
        · exact h2 v e
      · have hn : k < ab_mL M := by rw [← At.2.1.2.2.1]; assumption
        exact lv_istore_n X.1 X.2.1 hd hi At.2.1.has hn rfl (fun ls' h' => k9 ls' (At.2.1.set1 rfl hn h'))
    · trivial
  · trivial
theorem ab_s_istore {M pc k : Nat} (hd : decode (ab_mb M) pc = .ok (.istore k, 2)) : ab_Sn B M pc (ab_o_ist k (pc + 2)) := fun loc stk h => by
  unfold ab_o_ist
  split
  · rename_i x r
    split
    · rename_i hk
      refine ab_Sj.upd (fun h1 h2 => ⟨ab_mem_t h1, fun v hv => ?_⟩) (fun X At k9 => ?_)
      · rcases ab_set1_mem hv with e | e
        · cases e; exact ab_vs_i _ _
        · exact h2 v e
      · have hn : k < ab_mL M := by rw [← At.2.1.2.2.1]; assumption
        exact lv_istore X.1 X.2.1 hd At.2.1.has hn rfl (fun ls' h' => k9 ls' (At.2.1.set1 rfl hn h'))
    · trivial
  · trivial
theorem ab_s_lstore_n {M pc k : Nat} {n : Fin 4} (hd : decode (ab_mb M) pc = .ok (.lstore_n n, 1)) (hi : (n : Nat) = k) : ab_Sn B M pc (ab_o_lst k (pc + 1)) := fun loc stk h => by
  unfold ab_o_lst
  split
  · rename_i x r
    split
    · rename_i hk
      refine ab_Sj.upd (fun h1 h2 => ⟨ab_mem_t h1, fun v hv => ?_⟩) (fun X At k9 => ?_)
      · rcases ab_set2_mem hv with e | e
        · cases e; exact ab_vs_l _ _
        · exact h2 v e
      · have hn : k + 1 < ab_mL M := by rw [← At.2.1.2.2.1]; assumption
        exact lv_lstore_n X.1 X.2.1 hd hi At.2.1.has hn rfl (fun ls' h' => k9 ls' (At.2.1.set2 rfl hn h'))
    · trivial
  · trivial
theorem ab_s_lstore {M pc k : Nat} (hd : decode (ab_mb M) pc = .ok (.lstore k, 2)) : ab_Sn B M pc (ab_o_lst k (pc + 2)) := fun loc stk h => by
  unfold ab_o_lst
  split
  · rename_i x r
    split
    · rename_i hk
      refine ab_Sj.upd (fun h1 h2 => ⟨ab_mem_t h1, fun v hv => ?_⟩) (fun X At k9 => ?_)
      · rcases ab_set2_mem hv with e | e
        · cases e; exact ab_vs_l _ _
        · exact h2 v e
      · have hn : k + 1 < ab_mL M := by rw [← At.2.1.2.2.1]; assumption
        exact lv_lstore X.1 X.2.1 hd At.2.1.has hn rfl (fun ls' h' => k9 ls' (At.2.1.set2 rfl hn h'))
    · trivial
  · trivial
theorem ab_s_astore_n {M pc k : Nat} {n : Fin 4} (hd : decode (ab_mb M) pc = .ok (.astore_n n, 1)) (hi : (n : Nat) = k) : ab_Sn B M pc (ab_o_ast k (pc + 1)) := fun loc stk h => by
  unfold ab_o_ast
  split
  · rename_i x r
    split
    · rename_i hk
      refine ab_Sj.upd (fun h1 h2 => ⟨ab_mem_t h1, fun v hv => ?_⟩) (fun X At k9 => ?_)
      · rcases ab_set1_mem hv with e | e
        · cases e; exact ab_mem_h h1
        · exact h2 v e
      · have hn : k < ab_mL M := by rw [← At.2.1.2.2.1]; assumption
        cases x with
        | none => exact lv_astore_n X.1 X.2.1 hd hi At.2.1.has hn rfl (fun ls' h' => k9 ls' (At.2.1.set1 rfl hn h'))
        | some x => exact lv_astore_n X.1 X.2.1 hd hi At.2.1.has hn rfl (fun ls' h' => k9 ls' (At.2.1.set1 rfl hn h'))
    · trivial
  · trivial
theorem ab_s_astore {M pc k : Nat} (hd : decode (ab_mb M) pc = .ok (.astore k, 2)) : ab_Sn B M pc (ab_o_ast k (pc + 2)) := fun loc stk h => by
  unfold ab_o_ast
  split
  · rename_i x r
    split
    · rename_i hk
      refine ab_Sj.upd (fun h1 h2 => ⟨ab_mem_t h1, fun v hv => ?_⟩) (fun X At k9 => ?_)
      · rcases ab_set1_mem hv with e | e
        · cases e; exact ab_mem_h h1
        · exact h2 v e
      · have hn : k < ab_mL M := by rw [← At.2.1.2.2.1]; assumption
        cases x with
        | none => exact lv_astore X.1 X.2.1 hd At.2.1.has hn rfl (fun ls' h' => k9 ls' (At.2.1.set1 rfl hn h'))
        | some x => exact lv_astore X.1 X.2.1 hd At.2.1.has hn rfl (fun ls' h' => k9 ls' (At.2.1.set1 rfl hn h'))
    · trivial
  · trivial
theorem ab_s_iinc {M pc k : Nat} {n : Int} (hd : decode (ab_mb M) pc = .ok (.iinc k n, 3)) : ab_Sn B M pc (ab_o_inc k n (pc + 3)) := fun loc stk h => by
  unfold ab_o_inc
  split
  · rename_i z hl
    refine ab_Sj.upd (fun h1 h2 => ⟨h1, fun v hv => ?_⟩) (fun {p l e R s m args below meth c H locs cells slots Q g A μ ls} X At k9 => ?_)
    · rcases ab_set1_mem hv with e | e
      · cases e; exact ab_vs_i _ _
      · exact h2 v e
    · have hn : k < ab_mL M := by rw [← At.2.1.2.2.1]; exact (List.getElem?_eq_some_iff.mp hl).1
      have hm : (k, Value.int (Int32.ofInt z)) ∈ ab_ll B μ loc := ab_ll_mem.mpr ⟨_, hl, rfl⟩
      obtain ⟨j, hj⟩ := List.getElem?_of_mem hm
      exact lv_iinc (v := Int32.ofInt (z + n)) X.1 X.2.1 hd At.2.1.has hj (Int32.ofInt_add _ _).symm hn rfl (fun ls' h' => k9 ls' (At.2.1.set1 rfl hn h'))
  · trivial
theorem ab_fs_at {μ : Nat → Nat} {h : ab_H} {ci a N k : Nat} (hk : k < N) : ((List.range N).map (ab_fv B μ h ci a))[k]? = some (ab_fv B μ h ci a k) := by simp [hk]
theorem ab_fv0 {μ : Nat → Nat} {h : ab_H} {ci a k : Nat} (hf : ab_fk ci k = 0) : ab_fv B μ h ci a k = .int (Int32.ofInt (ab_gi h a k)) := by unfold ab_fv; rw [hf]; rfl
theorem ab_fv1 {μ : Nat → Nat} {h : ab_H} {ci a k : Nat} (hf : ab_fk ci k = 1) (hn : (ab_gr h a k).isSome = true) : ab_fv B μ h ci a k = ab_cv B μ (ab_Q (ab_gr h a k)) := by
  obtain ⟨j, hj⟩ := Option.isSome_iff_exists.mp hn
  unfold ab_fv
  rw [hf, hj]
  rfl
theorem ab_fv2 {μ : Nat → Nat} {h : ab_H} {ci a k : Nat} (hf : ab_fk ci k = 2) : ab_fv B μ h ci a k = .long (ab_gl h a k) := by unfold ab_fv; rw [hf]; rfl
theorem ab_s_geti {M pc i ci N k : Nat} {C : String} {T : u_T} (hd : decode (ab_mb M) pc = .ok (.getfield i, 3)) (hc : ab_cl[ci]? = some (C, T, N)) (hk : k < N) (hf : ab_fk ci k = 0) (hl : Cond.fieldLink (ab_my M).cls i (T k).1 (T k).2.1 (T k).2.2.1 ∈ ab_TG) : ab_Sn B M pc (ab_o_geti (ci + 3) N k (pc + 3)) := fun loc stk h => by
  unfold ab_o_geti
  split
  · rename_i a r
    split
    · rename_i hs
      exact ab_Sj.pure (fun h1 _ => ab_mem_c (ab_vs_i _ _) (ab_mem_t h1)) (fun X At _ _ _ _ _ k9 => va_get X.1 X.2.1 X.2.2.2.2.2.2.1 (ab_cl_ok hc).1 X.2.2.2.1 X.2.2.2.2.2.2.2.1.1 At.1.1 a (ab_ws_at hs) hc k hk (X.2.2.2.2.2.2.1 _ hl) (fun _ h => h) ((ab_fs_at hk).trans (congrArg some (ab_fv0 hf))) hd k9)
    · trivial
  · trivial
theorem ab_s_getl {M pc i ci N k : Nat} {C : String} {T : u_T} (hd : decode (ab_mb M) pc = .ok (.getfield i, 3)) (hc : ab_cl[ci]? = some (C, T, N)) (hk : k < N) (hf : ab_fk ci k = 2) (hl : Cond.fieldLink (ab_my M).cls i (T k).1 (T k).2.1 (T k).2.2.1 ∈ ab_TG) : ab_Sn B M pc (ab_o_getl (ci + 3) N k (pc + 3)) := fun loc stk h => by
  unfold ab_o_getl
  split
  · rename_i a r
    split
    · rename_i hs
      exact ab_Sj.pure (fun h1 _ => ab_mem_c (ab_vs_l _ _) (ab_mem_t h1)) (fun X At _ _ _ _ _ k9 => va_get X.1 X.2.1 X.2.2.2.2.2.2.1 (ab_cl_ok hc).1 X.2.2.2.1 X.2.2.2.2.2.2.2.1.1 At.1.1 a (ab_ws_at hs) hc k hk (X.2.2.2.2.2.2.1 _ hl) (fun _ h => h) ((ab_fs_at hk).trans (congrArg some (ab_fv2 hf))) hd k9)
    · trivial
  · trivial
theorem ab_s_getr {M pc i ci N k : Nat} {C : String} {T : u_T} (hd : decode (ab_mb M) pc = .ok (.getfield i, 3)) (hc : ab_cl[ci]? = some (C, T, N)) (hk : k < N) (hf : ab_fk ci k = 1) (hl : Cond.fieldLink (ab_my M).cls i (T k).1 (T k).2.1 (T k).2.2.1 ∈ ab_TG) : ab_Sn B M pc (ab_o_getr (ci + 3) N k (pc + 3)) := fun loc stk h => by
  unfold ab_o_getr
  split
  · rename_i a r
    split
    · rename_i hs
      refine ⟨Nat.le_refl _, Nat.le_refl _, Nat.le_refl _, ?_⟩
      intro p l e R s m args below meth c H locs cells slots Q g A μ ls b1 b2 X At h1 h2 h3 h4 h5 h6 h7 k9
      exact va_get X.1 X.2.1 X.2.2.2.2.2.2.1 (ab_cl_ok hc).1 X.2.2.2.1 X.2.2.2.2.2.2.2.1.1 At.1.1 a (ab_ws_at hs.1) hc k hk (X.2.2.2.2.2.2.1 _ hl) (fun _ h => h) ((ab_fs_at hk).trans (congrArg some (ab_fv1 hf hs.2))) hd
        (k9 μ H locs cells slots ls (fun _ _ => rfl) ⟨At.1, At.2.1, ab_mem_c (ab_vs_q (fun j hj => At.1.2.2.1 _ _ _ hj)) (ab_mem_t At.2.2.1), At.2.2.2.1, At.2.2.2.2⟩ h1 h2)
    · trivial
  · trivial
theorem ab_fs_len {μ : Nat → Nat} {h : ab_H} {ci a N : Nat} : ((List.range N).map (ab_fv B μ h ci a)).length = N := by simp
theorem ab_si_fs {μ : Nat → Nat} {h : ab_H} {ci a N k : Nat} {v : Int} (hf : ab_fk ci k = 0) : ((List.range N).map (ab_fv B μ h ci a)).set k (.int (Int32.ofInt v)) = (List.range N).map (ab_fv B μ (ab_si h a k v) ci a) :=
  ab_obj_set (by rw [ab_fv0 hf, ab_gi_si, if_pos ⟨rfl, rfl⟩]) (fun i hi => by
    unfold ab_fv
    rw [ab_gi_si, if_neg (fun q => hi (by have := q.2; omega))]
    rfl)
theorem ab_sl_fs {μ : Nat → Nat} {h : ab_H} {ci a N k : Nat} {v : Int64} (hf : ab_fk ci k = 2) : ((List.range N).map (ab_fv B μ h ci a)).set k (.long v) = (List.range N).map (ab_fv B μ (ab_sl h a k v) ci a) :=
  ab_obj_set (by rw [ab_fv2 hf, ab_gl_sl, if_pos ⟨rfl, rfl⟩]) (fun i hi => by
    unfold ab_fv
    rw [ab_gl_sl, if_neg (fun q => hi (by have := q.2; omega))]
    rfl)
theorem ab_sr_fs {μ : Nat → Nat} {h : ab_H} {ci a N k v : Nat} (hf : ab_fk ci k = 1) : ((List.range N).map (ab_fv B μ h ci a)).set k (ab_cv B μ (ab_Q (some v))) = (List.range N).map (ab_fv B μ (ab_sr h a k (some v)) ci a) :=
  ab_obj_set (by rw [ab_fv1 hf (by rw [ab_gr_sr, if_pos ⟨rfl, rfl⟩]; rfl), ab_gr_sr, if_pos ⟨rfl, rfl⟩]) (fun i hi => by
    unfold ab_fv
    rw [ab_gr_sr, if_neg (fun q => hi (by have := q.2; omega))]
    rfl)
theorem ab_nb {v : Int} (h : v = 0 ∨ v = 1) : narrow .boolean (.int (Int32.ofInt v)) = .int (Int32.ofInt v) ∧ fits .boolean (.int (Int32.ofInt v)) = true := by
  rcases h with h | h <;> subst h <;> exact ⟨by decide, by decide⟩
theorem ab_s_puti {M pc i ci N k : Nat} {C : String} {T : u_T} {b : Bool} {ty : FieldType} (hd : decode (ab_mb M) pc = .ok (.putfield i, 3)) (hc : ab_cl[ci]? = some (C, T, N)) (hk : k < N) (hf : ab_fk ci k = 0) (hl : Cond.fieldLink (ab_my M).cls i (T k).1 (T k).2.1 (T k).2.2.1 ∈ ab_TG) (hfin : (T k).2.2.2 = false) (hty : parseFieldDescriptor (T k).2.2.1 = some ty) (hb : (ty = .int ∧ b = false) ∨ (ty = .boolean ∧ b = true)) : ab_Sn B M pc (ab_o_puti (ci + 3) N k b (pc + 3)) := fun loc stk h => by
  unfold ab_o_puti
  split
  · rename_i v a r
    split
    · rename_i hs
      have hnf : narrow ty (.int (Int32.ofInt v)) = .int (Int32.ofInt v) ∧ fits ty (.int (Int32.ofInt v)) = true := by
        rcases hb with ⟨h1, h2⟩ | ⟨h1, h2⟩
        · subst h1; exact ⟨rfl, rfl⟩
        · subst h1; exact ab_nb (hs.2 h2)
      refine ab_Sj.cell (a := a) rfl rfl rfl hs.1 (fun g μ j s' hj => ab_si_en j s' hj) (fun hk _ => hk) (fun v hv => List.mem_cons_of_mem _ (List.mem_cons_of_mem _ hv)) (fun X At k9 => ?_)
      refine va_put (v := .int (Int32.ofInt v)) X.1 X.2.1 X.2.2.2.2.2.2.1 (ab_cl_ok hc).1 (ab_ty ci) (ab_cl_ok hc).2.1 (ab_cl_ok hc).2.2 X.2.2.2.1 X.2.2.2.2.2.2.2.1.1 At.1.1 At.1.2.1 At.2.2.2.2 a (ab_ws_at hs.1) hc k hk (X.2.2.2.2.2.2.1 _ hl) (fun _ h => h) hfin hty hnf.1 hnf.2 (by rw [ab_fs_len]; exact hk) hd (fun H1 locs1 hP hD hS => k9 H1 locs1 ?_ ?_ hS)
      · rw [ab_si_fs hf] at hP; exact hP
      · rw [ab_si_fs hf] at hD; exact hD
    · trivial
  · trivial
theorem ab_s_putl {M pc i ci N k : Nat} {C : String} {T : u_T} (hd : decode (ab_mb M) pc = .ok (.putfield i, 3)) (hc : ab_cl[ci]? = some (C, T, N)) (hk : k < N) (hf : ab_fk ci k = 2) (hl : Cond.fieldLink (ab_my M).cls i (T k).1 (T k).2.1 (T k).2.2.1 ∈ ab_TG) (hfin : (T k).2.2.2 = false) (hty : parseFieldDescriptor (T k).2.2.1 = some .long) : ab_Sn B M pc (ab_o_putl (ci + 3) N k (pc + 3)) := fun loc stk h => by
  unfold ab_o_putl
  split
  · rename_i v a r
    split
    · rename_i hs
      refine ab_Sj.cell (a := a) rfl rfl rfl hs (fun g μ j s' hj => ab_sl_en j s' hj) (fun hk _ => hk) (fun v hv => List.mem_cons_of_mem _ (List.mem_cons_of_mem _ hv)) (fun X At k9 => ?_)
      refine va_put (v := .long v) X.1 X.2.1 X.2.2.2.2.2.2.1 (ab_cl_ok hc).1 (ab_ty ci) (ab_cl_ok hc).2.1 (ab_cl_ok hc).2.2 X.2.2.2.1 X.2.2.2.2.2.2.2.1.1 At.1.1 At.1.2.1 At.2.2.2.2 a (ab_ws_at hs) hc k hk (X.2.2.2.2.2.2.1 _ hl) (fun _ h => h) hfin hty rfl rfl (by rw [ab_fs_len]; exact hk) hd (fun H1 locs1 hP hD hS => k9 H1 locs1 ?_ ?_ hS)
      · rw [ab_sl_fs hf] at hP; exact hP
      · rw [ab_sl_fs hf] at hD; exact hD
    · trivial
  · trivial
theorem ab_rfit {μ : Nat → Nat} {o : Option Nat} {ty : FieldType} (hty : (∃ C, ty = .object C) ∨ ∃ t, ty = .array t) : narrow ty (ab_cv B μ (ab_Q o)) = ab_cv B μ (ab_Q o) ∧ fits ty (ab_cv B μ (ab_Q o)) = true := by
  cases o <;> (rcases hty with ⟨C, h⟩ | ⟨t, h⟩ <;> subst h <;> exact ⟨rfl, rfl⟩)
theorem ab_s_putr {M pc i ci N k : Nat} {C : String} {T : u_T} {ty : FieldType} (hd : decode (ab_mb M) pc = .ok (.putfield i, 3)) (hc : ab_cl[ci]? = some (C, T, N)) (hk : k < N) (hf : ab_fk ci k = 1) (hl : Cond.fieldLink (ab_my M).cls i (T k).1 (T k).2.1 (T k).2.2.1 ∈ ab_TG) (hfin : (T k).2.2.2 = false) (hty : parseFieldDescriptor (T k).2.2.1 = some ty) (htr : (∃ C, ty = .object C) ∨ ∃ t, ty = .array t) : ab_Sn B M pc (ab_o_putr (ci + 3) N k (pc + 3)) := fun loc stk h => by
  unfold ab_o_putr
  split
  · rename_i v a r
    split
    · rename_i hs
      refine ab_Sj.cell (a := a) rfl rfl rfl hs (fun g μ j s' hj => ab_sr_en j s' hj) (fun hk h1 => ab_ok_sr hk (fun j hj => ab_mem_h h1 j (by rw [hj]))) (fun v hv => List.mem_cons_of_mem _ (List.mem_cons_of_mem _ hv)) (fun {p l e R s m args below meth c H locs cells slots Q g A μ ls} X At k9 => ?_)
      refine va_put (v := ab_cv B μ (ab_Q (some v))) X.1 X.2.1 X.2.2.2.2.2.2.1 (ab_cl_ok hc).1 (ab_ty ci) (ab_cl_ok hc).2.1 (ab_cl_ok hc).2.2 X.2.2.2.1 X.2.2.2.2.2.2.2.1.1 At.1.1 At.1.2.1 At.2.2.2.2 a (ab_ws_at hs) hc k hk (X.2.2.2.2.2.2.1 _ hl) (fun _ h => h) hfin hty (ab_rfit htr).1 (ab_rfit htr).2 (by rw [ab_fs_len]; exact hk) hd (fun H1 locs1 hP hD hS => k9 H1 locs1 ?_ ?_ hS)
      · rw [ab_sr_fs hf] at hP; exact hP
      · rw [ab_sr_fs hf] at hD; exact hD
    · trivial
  · trivial
theorem ab_s_putrF {M pc i ci N k : Nat} {C : String} {T : u_T} {ty : FieldType} (hd : decode (ab_mb M) pc = .ok (.putfield i, 3)) (hc : ab_cl[ci]? = some (C, T, N)) (hk : k < N) (hf : ab_fk ci k = 1) (hl : Cond.fieldLink (ab_my M).cls i (T k).1 (T k).2.1 (T k).2.2.1 ∈ ab_TG) (hfin : (T k).2.2.2 = true) (hin : (ab_my M).name = "<init>") (hdc : (T k).1 = (ab_my M).cls) (hty : parseFieldDescriptor (T k).2.2.1 = some ty) (htr : (∃ C, ty = .object C) ∨ ∃ t, ty = .array t) : ab_Sn B M pc (ab_o_putr (ci + 3) N k (pc + 3)) := fun loc stk h => by
  unfold ab_o_putr
  split
  · rename_i v a r
    split
    · rename_i hs
      refine ab_Sj.cell (a := a) rfl rfl rfl hs (fun g μ j s' hj => ab_sr_en j s' hj) (fun hk h1 => ab_ok_sr hk (fun j hj => ab_mem_h h1 j (by rw [hj]))) (fun v hv => List.mem_cons_of_mem _ (List.mem_cons_of_mem _ hv)) (fun {p l e R s m args below meth c H locs cells slots Q g A μ ls} X At k9 => ?_)
      refine va_putF (v := ab_cv B μ (ab_Q (some v))) X.1 X.2.1 X.2.2.2.2.2.2.1 (ab_cl_ok hc).1 (ab_ty ci) (ab_cl_ok hc).2.1 (ab_cl_ok hc).2.2 X.2.2.2.1 X.2.2.2.2.2.2.2.1.1 At.1.1 At.1.2.1 At.2.2.2.2 a (ab_ws_at hs) hc k hk (X.2.2.2.2.2.2.1 _ hl) (fun _ h => h) hfin (X.2.2.2.2.2.2.2.2.2.1.trans hin) hdc hty (ab_rfit htr).1 (ab_rfit htr).2 (by rw [ab_fs_len]; exact hk) hd (fun H1 locs1 hP hD hS => k9 H1 locs1 ?_ ?_ hS)
      · rw [ab_sr_fs hf] at hP; exact hP
      · rw [ab_sr_fs hf] at hD; exact hD
    · trivial
  · trivial
theorem ab_s_iaload {M pc : Nat} (hd : decode (ab_mb M) pc = .ok (.iaload, 1)) : ab_Sn B M pc (ab_o_xld 0 (pc + 1)) := fun loc stk h => by
  unfold ab_o_xld
  split
  · rename_i z a r
    split
    · rename_i t' n hs
      split
      · rename_i hc
        obtain ⟨rfl, h0, h1⟩ := hc
        refine ab_Sj.pure (fun h1 _ => ab_mem_c (ab_vs_i _ _) (ab_mem_t (ab_mem_t h1))) (fun X At _ _ _ _ _ k9 => ?_)
        have hn : n < 2147483648 := At.1.2.2.2 a _ hs
        refine va_iald X.1 X.2.1 X.2.2.2.2.2.2.2.1.1 At.1.1 a 0 (ab_ws_at hs) rfl (ab_in h0 h1 hn) hd ?_
        rw [(ab_ix h0 (by omega)).1, Int.toNat_of_nonneg h0]
        exact k9
      · trivial
    · trivial
  · trivial
theorem ab_arr_si0 {μ : Nat → Nat} {g : ab_G} {h : ab_H} {a n : Nat} {z v : Int} (h0 : 0 ≤ z) (h1 : z < 2147483648) : (Sum.inl (g.2.1, n, .inl (upd (fun j : Nat => Int32.ofInt (ab_gi h a j)) (Int32.ofInt z).toNatClampNeg (Int32.ofInt v))) : va_E) = ab_en B g μ (ab_si h a z v) a (0, n) := by
  show Sum.inl _ = Sum.inl _
  congr 4
  funext j
  rw [(ab_ix h0 h1).1, ab_gi_si]
  
  by_cases e : j = z.toNat
  · subst e
    rw [if_pos ⟨rfl, Int.toNat_of_nonneg h0⟩]
    simp [upd]
  · rw [if_neg (fun q => e (by have := q.2; omega))]
    simp [upd, e]
theorem ab_s_iastore {M pc : Nat} (hd : decode (ab_mb M) pc = .ok (.iastore, 1)) : ab_Sn B M pc (ab_o_xst 0 (pc + 1)) := fun loc stk h => by
  unfold ab_o_xst
  split
  · rename_i v z a r
    split
    · rename_i t' n hs
      split
      · rename_i hc
        obtain ⟨rfl, h0, h1, hb⟩ := hc
        refine ab_Sj.cell (a := a) rfl rfl rfl hs (fun g μ j s' hj => ab_si_en j s' hj) (fun hk _ => hk) (fun v hv => List.mem_cons_of_mem _ (List.mem_cons_of_mem _ (List.mem_cons_of_mem _ hv))) (fun {p l e R s m args below meth c H locs cells slots Q g A μ ls} X At k9 => ?_)
        have hn : n < 2147483648 := At.1.2.2.2 a _ hs
        refine va_iast X.1 X.2.1 X.2.2.2.2.2.2.2.1.1 At.1.1 At.1.2.1 At.2.2.2.2 a 0 (ab_ws_at hs) rfl (ab_in h0 h1 hn) hd (fun H1 locs1 hP hD hS => k9 H1 locs1 ?_ ?_ hS)
        · rw [ab_arr_si0 (μ := μ) h0 (by omega)] at hP; exact hP
        · rw [ab_arr_si0 (μ := μ) h0 (by omega)] at hD; exact hD
      · trivial
    · trivial
  · trivial
theorem ab_s_baload {M pc : Nat} (hd : decode (ab_mb M) pc = .ok (.baload, 1)) : ab_Sn B M pc (ab_o_xld 1 (pc + 1)) := fun loc stk h => by
  unfold ab_o_xld
  split
  · rename_i z a r
    split
    · rename_i t' n hs
      split
      · rename_i hc
        obtain ⟨rfl, h0, h1⟩ := hc
        refine ab_Sj.pure (fun h1 _ => ab_mem_c (ab_vs_i _ _) (ab_mem_t (ab_mem_t h1))) (fun X At _ _ _ _ _ k9 => ?_)
        have hn : n < 2147483648 := At.1.2.2.2 a _ hs
        refine va_zald X.1 X.2.1 X.2.2.2.2.2.2.2.1.1 At.1.1 a 1 (ab_ws_at hs) rfl (ab_in h0 h1 hn) hd ?_
        rw [(ab_ix h0 (by omega)).1, Int.toNat_of_nonneg h0]
        exact k9
      · trivial
    · trivial
  · trivial
theorem ab_arr_si1 {μ : Nat → Nat} {g : ab_G} {h : ab_H} {a n : Nat} {z v : Int} (h0 : 0 ≤ z) (h1 : z < 2147483648) (hv : v = 0 ∨ v = 1) : (Sum.inl (g.2.2.1, n, .inl (upd (fun j : Nat => Int32.ofInt (ab_gi h a j)) (Int32.ofInt z).toNatClampNeg (vp_nar .boolean (Int32.ofInt v)))) : va_E) = ab_en B g μ (ab_si h a z v) a (1, n) := by
  show Sum.inl _ = Sum.inl _
  congr 4
  funext j
  rw [(ab_ix h0 h1).1, ab_gi_si]
  have hb : vp_nar .boolean (Int32.ofInt v) = Int32.ofInt v := by rcases hv with h | h <;> subst h <;> decide
  by_cases e : j = z.toNat
  · subst e
    rw [if_pos ⟨rfl, Int.toNat_of_nonneg h0⟩]
    simp [upd, hb]
  · rw [if_neg (fun q => e (by have := q.2; omega))]
    simp [upd, e]
theorem ab_s_bastore {M pc : Nat} (hd : decode (ab_mb M) pc = .ok (.bastore, 1)) : ab_Sn B M pc (ab_o_xst 1 (pc + 1)) := fun loc stk h => by
  unfold ab_o_xst
  split
  · rename_i v z a r
    split
    · rename_i t' n hs
      split
      · rename_i hc
        obtain ⟨rfl, h0, h1, hb⟩ := hc
        refine ab_Sj.cell (a := a) rfl rfl rfl hs (fun g μ j s' hj => ab_si_en j s' hj) (fun hk _ => hk) (fun v hv => List.mem_cons_of_mem _ (List.mem_cons_of_mem _ (List.mem_cons_of_mem _ hv))) (fun {p l e R s m args below meth c H locs cells slots Q g A μ ls} X At k9 => ?_)
        have hn : n < 2147483648 := At.1.2.2.2 a _ hs
        refine va_zast X.1 X.2.1 X.2.2.2.2.2.2.2.1.1 At.1.1 At.1.2.1 At.2.2.2.2 a 1 (ab_ws_at hs) rfl (ab_in h0 h1 hn) hd (fun H1 locs1 hP hD hS => k9 H1 locs1 ?_ ?_ hS)
        · rw [ab_arr_si1 (μ := μ) h0 (by omega) (hb rfl)] at hP; exact hP
        · rw [ab_arr_si1 (μ := μ) h0 (by omega) (hb rfl)] at hD; exact hD
      · trivial
    · trivial
  · trivial
theorem ab_W_eq {p : Program} {l : Launch} {e : Env} {R : Room} {s : State} {m : MethodId} {args : Array Value} {below : List Frame} {meth : Method} {c : Code} {H : Heap} {locs : List Loc} {cells slots : Nat} {Q : State → Prop} {pc : Nat} {ls : Array Slot} {a b : List Value} (hab : a = b) (k : W p l e R s m args below meth c H locs cells slots Q (F0 m pc ls a)) : W p l e R s m args below meth c H locs cells slots Q (F0 m pc ls b) := hab ▸ k
theorem ab_s_slen {M pc : Nat} (hd : decode (ab_mb M) pc = .ok (.arraylength, 1)) : ab_Sn B M pc (ab_o_slen B (pc + 1)) := fun loc stk h => by
  unfold ab_o_slen
  split
  · rename_i r
    refine ab_Sj.pure (fun h1 _ => ab_mem_c (ab_vs_i _ _) (ab_mem_t h1)) (fun X At _ _ _ _ _ k9 => ?_)
    obtain ⟨f7, f8, f9⟩ := X.2.2.2.2.2.2.2.1.2.2.2.2.2.2
    exact va_slen X.1 X.2.1 f9 f8 f7 At.2.2.2.2 hd k9
  · trivial
theorem ab_s_sld {M pc : Nat} (hd : decode (ab_mb M) pc = .ok (.iaload, 1)) : ab_Sn B M pc (ab_o_sld B (pc + 1)) := fun loc stk h => by
  unfold ab_o_sld
  split
  · rename_i z r
    split
    · rename_i hc
      obtain ⟨h0, h1, h2⟩ := hc
      refine ab_Sj.pure (fun h1 _ => ab_mem_c (ab_vs_i _ _) (ab_mem_t (ab_mem_t h1))) (fun X At _ _ _ _ _ k9 => ?_)
      obtain ⟨f7, f8, f9⟩ := X.2.2.2.2.2.2.2.1.2.2.2.2.2.2
      obtain ⟨e1, e2⟩ := ab_ix h0 h2
      refine va_sld X.1 X.2.1 f9 f8 f7 At.2.2.2.2 (i := Int32.ofInt z) (fun q => ?_) hd ?_
      · rcases q with q | q
        · exact e2 q
        · rw [e1] at q; omega
      · rw [e1]
        refine ab_W_eq ?_ k9
        show Value.int (Int32.ofInt (B.2.2 z.toNat).toInt) :: _ = _
        rw [Int32.ofInt_toInt]
    · trivial
  · trivial
end
end
section
/-! NEW CELLS, ENDS, THROWS, CALLS -/
section
variable {B : ab_B}
theorem ab_s_alen {M pc : Nat} (hd : decode (ab_mb M) pc = .ok (.arraylength, 1)) : ab_Sn B M pc (ab_o_alen (pc + 1)) := fun loc stk h => by
  unfold ab_o_alen
  split
  · rename_i a r
    split
    · rename_i t n hs
      split
      · rename_i hc
        refine ab_Sj.pure (fun h1 _ => ab_mem_c (ab_vs_i _ _) (ab_mem_t h1)) (fun X At _ _ _ _ _ k9 => ?_)
        have hv : ∀ m : Nat, Int32.ofNat m = Int32.ofInt (m : Int) := fun m => (Int32.ofInt_eq_ofNat).symm
        match t, hc with
        | 0, _ => exact va_alen X.1 X.2.1 X.2.2.2.2.2.2.2.1.1 At.1.1 a 0 (ab_ws_at hs) rfl (hv n) hd k9
        | 1, _ => exact va_alen X.1 X.2.1 X.2.2.2.2.2.2.2.1.1 At.1.1 a 1 (ab_ws_at hs) rfl (hv n) hd k9
        | t + 2, hc => exact absurd hc (by omega)
      · trivial
    · trivial
  · trivial
theorem ab_sum_cat {μ : Nat → Nat} {r : List ab_V} : ((r.map (ab_cv B μ)).map fun v => v.category).sum = ab_sum r := by
  unfold ab_sum
  rw [List.map_map]
  congr 1
  apply List.map_congr_left
  intro v _
  exact ab_cv_cat
/-- a new cell with the entry e at q -/
theorem ab_new_At {M : Nat} {g : ab_G} {A : Nat → Prop} {μ μ' : Nat → Nat} {h : ab_H} {H H1 : Heap} {ls : Array Slot} {loc : ab_M} {stk : List ab_V} {s : State} {locs locs1 : List Loc} {t n q : Nat} {e : va_E} (At : ab_At B M g A μ h H ls loc stk s locs) (hn : n < 2147483648)
    (hμ : ∀ i, i < ab_n h → μ' i = μ i) (hq : μ' (ab_n h) = q) (he : ab_en B g μ' (ab_new h t n) (ab_n h) (t, n) = e) (hP : va_P g.1 ab_cl (ab_ws B g μ h ++ [(q, e)]) H1) (hD : va_D A (ab_ws B g μ h ++ [(q, e)])) (hS : va_S A s.heap H1 locs1) :
    ab_At B M g A μ' (ab_new h t n) H1 ls loc stk s locs1 := by
  have hle : ab_n h ≤ ab_n (ab_new h t n) := by unfold ab_n; rw [ab_sh_new]; simp
  have hlt : ab_n h < ab_n (ab_new h t n) := by unfold ab_n; rw [ab_sh_new]; simp
  have hw : ab_ws B g μ' (ab_new h t n) = ab_ws B g μ h ++ [(q, e)] := by
    apply List.ext_getElem?
    intro j
    by_cases hj : j < ab_n h
    · rw [List.getElem?_append_left (by rw [ab_ws_len]; exact hj)]
      obtain ⟨s9, hs⟩ : ∃ s9, (ab_sh h)[j]? = some s9 := ⟨_, List.getElem?_eq_getElem hj⟩
      rw [ab_ws_at hs, ab_ws_at (h := ab_new h t n) (i := j) (s := s9) (by rw [ab_sh_new, List.getElem?_append_left hj]; exact hs), hμ j hj]
      rw [ab_en_eq hμ (fun k i hk => At.1.2.2.1 j k i hk) (fun k => by rw [ab_gi_new, if_neg (Nat.ne_of_lt hj)]) (fun k => by rw [ab_gr_new, if_neg (Nat.ne_of_lt hj)]) (fun k => by rw [ab_gl_new, if_neg (Nat.ne_of_lt hj)])]
    · rw [List.getElem?_append_right (by rw [ab_ws_len]; omega), ab_ws_len]
      by_cases hj2 : j = ab_n h
      · subst hj2
        rw [ab_ws_at (h := ab_new h t n) (i := ab_n h) (s := (t, n)) (by rw [ab_sh_new]; unfold ab_n; simp), he, hq]
        simp
      · have h9 : ab_n (ab_new h t n) = ab_n h + 1 := by unfold ab_n; rw [ab_sh_new]; simp
        rw [ab_ws_no (h := ab_new h t n) (List.getElem?_eq_none (by show ab_n (ab_new h t n) ≤ j; omega)), List.getElem?_eq_none (by simp; omega)]
  refine ⟨⟨by rw [hw]; exact hP, by rw [hw]; exact hD, fun c k j hj => ?_, fun i x hx => ?_⟩, ⟨At.2.1.1, At.2.1.2.1, At.2.1.2.2.1, fun i v hv => ?_⟩, fun v hv => (At.2.2.1 v hv).le hle, fun v hv => (At.2.2.2.1 v hv).le hle, hS⟩
  · rw [ab_gr_new] at hj
    by_cases hc : c = ab_n h
    · rw [if_pos hc] at hj; cases hj
    · rw [if_neg hc] at hj
      exact Nat.lt_of_lt_of_le (At.1.2.2.1 c k j hj) hle
  · rw [ab_sh_new] at hx
    by_cases hi : i < ab_n h
    · rw [List.getElem?_append_left hi] at hx
      exact At.1.2.2.2 i x hx
    · rw [List.getElem?_append_right (Nat.le_of_not_lt hi)] at hx
      have hx2 := List.mem_singleton.mp (List.mem_of_getElem? hx)
      rw [hx2]
      exact hn
  · rw [ab_cv_eq hμ (At.2.2.2.1 v (List.mem_of_getElem? hv))]
    exact At.2.1.2.2.2 i v hv
theorem ab_new_n (h : ab_H) (t n : Nat) : ab_n (ab_new h t n) = ab_n h + 1 := by unfold ab_n; rw [ab_sh_new]; simp
theorem ab_cv_map {n : Nat} {μ μ' : Nat → Nat} (hμ : ∀ i, i < n → μ' i = μ i) {l : List ab_V} (h : ∀ v ∈ l, ab_vs n v) : l.map (ab_cv B μ') = l.map (ab_cv B μ) := List.map_congr_left fun v hv => ab_cv_eq hμ (h v hv)
theorem ab_W_stk {p : Program} {l : Launch} {e : Env} {R : Room} {s : State} {m : MethodId} {args : Array Value} {below : List Frame} {meth : Method} {c : Code} {H : Heap} {locs : List Loc} {cells slots : Nat} {Q : State → Prop} {pc : Nat} {ls : Array Slot} {a b : List Value} (hab : a = b) (k : W p l e R s m args below meth c H locs cells slots Q (F0 m pc ls a)) : W p l e R s m args below meth c H locs cells slots Q (F0 m pc ls b) := hab ▸ k
theorem ab_s_newa0 {M pc : Nat} (hd : decode (ab_mb M) pc = .ok (.newarray .int, 2)) (hw : Cond.arrayClass .int ∈ ab_TG) : ab_Sn B M pc (ab_o_newa 0 (pc + 2)) := fun loc stk h => by
  unfold ab_o_newa
  split
  · rename_i z r
    split
    · rename_i hz
      refine ⟨by rw [ab_kc_new]; omega, by rw [ab_ks_new]; omega, by rw [ab_new_n]; omega, ?_⟩
      intro p l e R s m args below meth c H locs cells slots Q g A μ ls b1 b2 X At h1 h2 h3 h4 h5 h6 h7 k9
      rw [ab_kc_new] at h3
      rw [ab_ks_new] at h4
      obtain ⟨e1, e2⟩ := ab_ix hz.1 (by omega)
      refine va_newa (atype := .int) (ty := .int) (a0 := (z.toNat, .inl (fun _ => 0))) X.1 X.2.1 (X.2.2.2.2.2.2.1 _ hw) rfl X.2.2.2.2.2.2.2.1.1 At.1.1 At.1.2.1 At.2.2.2.2 X.2.2.2.2.2.2.2.1.2.1 (fun cA => rfl) e2 e1 (by show z.toNat * 4 ≤ _; omega) (by omega) (by omega) hd (fun q cA H1 hK hP hD hS => ?_)
      have hcA : cA = g.2.1 := by
        have q1 := (hK.2 0 _ (rfl : (ab_TY g ++ [(cA, .int)])[0]? = some (g.2.1, .int))).2
        have q2 := (hK.2 2 _ (rfl : (ab_TY g ++ [(cA, .int)])[2]? = some (cA, .int))).2
        exact Option.some.inj (q2.symm.trans q1)
      subst hcA
      have hμ : ∀ i, i < ab_n h → (fun i => if i = ab_n h then q else μ i) i = μ i := fun i hi => if_neg (Nat.ne_of_lt hi)
      have At1 := ab_new_At (t := 0) (n := z.toNat) At (by omega) hμ (if_pos rfl) (by show Sum.inl _ = Sum.inl _; congr 4; funext j; rw [ab_gi_new, if_pos rfl]; rfl) hP hD hS
      refine ab_W_stk ?_ (k9 _ H1 locs (cells + 1) (slots + z.toNat) ls hμ ⟨At1.1, At1.2.1, ab_mem_c (fun i hi => ?_) (ab_mem_t At1.2.2.1), At1.2.2.2.1, At1.2.2.2.2⟩ (by rw [ab_kc_new]; omega) (by rw [ab_ks_new]; omega))
      · show ab_cv B _ _ :: _ = _
        rw [ab_cv_map hμ (ab_mem_t At.2.2.1)]
        simp [ab_cv]
      · cases hi; rw [ab_new_n]; omega
    · trivial
  · trivial
theorem ab_s_newa1 {M pc : Nat} (hd : decode (ab_mb M) pc = .ok (.newarray .boolean, 2)) (hw : Cond.arrayClass .boolean ∈ ab_TG) : ab_Sn B M pc (ab_o_newa 1 (pc + 2)) := fun loc stk h => by
  unfold ab_o_newa
  split
  · rename_i z r
    split
    · rename_i hz
      refine ⟨by rw [ab_kc_new]; omega, by rw [ab_ks_new]; omega, by rw [ab_new_n]; omega, ?_⟩
      intro p l e R s m args below meth c H locs cells slots Q g A μ ls b1 b2 X At h1 h2 h3 h4 h5 h6 h7 k9
      rw [ab_kc_new] at h3
      rw [ab_ks_new] at h4
      obtain ⟨e1, e2⟩ := ab_ix hz.1 (by omega)
      refine va_newa (atype := .boolean) (ty := .boolean) (a0 := (z.toNat, .inl (fun _ => 0))) X.1 X.2.1 (X.2.2.2.2.2.2.1 _ hw) rfl X.2.2.2.2.2.2.2.1.1 At.1.1 At.1.2.1 At.2.2.2.2 X.2.2.2.2.2.2.2.1.2.1 (fun cA => rfl) e2 e1 (by show z.toNat * 1 ≤ _; omega) (by omega) (by omega) hd (fun q cA H1 hK hP hD hS => ?_)
      have hcA : cA = g.2.2.1 := by
        have q1 := (hK.2 1 _ (rfl : (ab_TY g ++ [(cA, .boolean)])[1]? = some (g.2.2.1, .boolean))).2
        have q2 := (hK.2 2 _ (rfl : (ab_TY g ++ [(cA, .boolean)])[2]? = some (cA, .boolean))).2
        exact Option.some.inj (q2.symm.trans q1)
      subst hcA
      have hμ : ∀ i, i < ab_n h → (fun i => if i = ab_n h then q else μ i) i = μ i := fun i hi => if_neg (Nat.ne_of_lt hi)
      have At1 := ab_new_At (t := 1) (n := z.toNat) At (by omega) hμ (if_pos rfl) (by show Sum.inl _ = Sum.inl _; congr 4; funext j; rw [ab_gi_new, if_pos rfl]; rfl) hP hD hS
      refine ab_W_stk ?_ (k9 _ H1 locs (cells + 1) (slots + z.toNat) ls hμ ⟨At1.1, At1.2.1, ab_mem_c (fun i hi => ?_) (ab_mem_t At1.2.2.1), At1.2.2.2.1, At1.2.2.2.2⟩ (by rw [ab_kc_new]; omega) (by rw [ab_ks_new]; omega))
      · show ab_cv B _ _ :: _ = _
        rw [ab_cv_map hμ (ab_mem_t At.2.2.1)]
        simp [ab_cv]
      · cases hi; rw [ab_new_n]; omega
    · trivial
  · trivial
theorem ab_s_new {M pc i ci N : Nat} {C : String} {T : u_T} (hd : decode (ab_mb M) pc = .ok (.new i, 3)) (hc : ab_cl[ci]? = some (C, T, N)) (hN : N < 2147483648) (hl : Cond.classLink (ab_my M).cls i C ∈ ab_TG) (hi : Cond.instantiable C N ∈ ab_TG) (hini : Cond.initialized C ∈ ab_TG)
    (hdf : ∀ j, j < N → defaultValue (ab_ty ci j) = (match ab_fk ci j with | 0 => .int 0 | 1 => .null | _ => .long 0)) : ab_Sn B M pc (ab_o_new (ci + 3) N (pc + 3)) := fun loc stk h => by
  refine ⟨by rw [ab_kc_new]; omega, by rw [ab_ks_new]; omega, by rw [ab_new_n]; omega, ?_⟩
  intro p l e R s m args below meth c H locs cells slots Q g A μ ls b1 b2 X At h1 h2 h3 h4 h5 h6 h7 k9
  rw [ab_kc_new] at h3
  rw [ab_ks_new] at h4
  have hfs : ∀ (μ' : Nat → Nat) (j : Nat), ab_fv B μ' (ab_new h (ci + 3) N) ci (ab_n h) j = (match ab_fk ci j with | 0 => .int 0 | 1 => .null | _ => .long 0) := fun μ' j => by
    unfold ab_fv
    rw [ab_gi_new, if_pos rfl, ab_gr_new, if_pos rfl, ab_gl_new, if_pos rfl]
    cases ab_fk ci j with
    | zero => rfl
    | succ n => cases n with
      | zero => rfl
      | succ n => rfl
  refine va_new (ci := ci) (fs := (List.range N).map (ab_fv B μ (ab_new h (ci + 3) N) ci (ab_n h))) X.1 X.2.1 X.2.2.2.2.2.2.1 (ab_cl_ok hc).1 (ab_ty ci) (ab_cl_ok hc).2.1 X.2.2.2.1 (X.2.2.2.2.2.2.1 _ hl) (X.2.2.2.2.2.2.1 _ hi) (X.2.2.2.2.2.2.1 _ hini) X.2.2.2.2.2.2.2.1.1 At.1.1 At.1.2.1 At.2.2.2.2 X.2.2.2.2.2.2.2.1.2.1 hc (fun j hj => ?_) (by omega) (by omega) hd (fun q H1 hP hD hS => ?_)
  · rw [hdf j hj, ← hfs μ j]
    unfold vp_V
    rw [List.getD_eq_getElem?_getD, ab_fs_at hj]
    rfl
  · have hμ : ∀ i, i < ab_n h → (fun i => if i = ab_n h then q else μ i) i = μ i := fun i hi => if_neg (Nat.ne_of_lt hi)
    have At1 := ab_new_At (t := ci + 3) (n := N) At hN hμ (if_pos rfl) (by
      show Sum.inr _ = Sum.inr _
      congr 2
      apply List.map_congr_left
      intro j _
      rw [hfs, hfs]) hP hD hS
    refine ab_W_stk ?_ (k9 _ H1 locs (cells + 1) (slots + N) ls hμ ⟨At1.1, At1.2.1, ab_mem_c (fun i hi => ?_) At1.2.2.1, At1.2.2.2.1, At1.2.2.2.2⟩ (by rw [ab_kc_new]; omega) (by rw [ab_ks_new]; omega))
    · show ab_cv B _ _ :: _ = _
      rw [ab_cv_map hμ At.2.2.1]
      simp [ab_cv]
    · cases hi; rw [ab_new_n]; omega
theorem ab_s_sw {M pc len df : Nat} {dflt lo hi : Int} {offs : Array Int} {tgs : List Nat} (hd : decode (ab_mb M) pc = .ok (.tableswitch dflt lo hi offs, len)) (hdf : (pc : Int) + dflt = (df : Int)) (hhi : hi = lo + (tgs.length : Int) - 1) (ht : ∀ i : Nat, i < tgs.length → ∃ off, offs[i]? = some off ∧ (pc : Int) + off = ((tgs.getD i df : Nat) : Int)) : ab_Sn B M pc (ab_o_sw lo tgs df) := fun loc stk h => by
  unfold ab_o_sw
  split
  · rename_i a r
    refine ab_Sj.pure (fun h1 _ => ab_mem_t h1) (fun X At _ _ _ _ _ k9 => ?_)
    by_cases hc : lo ≤ ab_w a ∧ ab_w a < lo + tgs.length
    · rw [if_pos hc] at k9
      obtain ⟨off, h1, h2⟩ := ht (ab_w a - lo).toNat (by omega)
      exact lv_tableIn (x := Int32.ofInt a) X.1 X.2.1 hd (by show ¬ ab_w a < lo; omega) (by show ¬ hi < ab_w a; omega) h1 h2 k9
    · rw [if_neg hc] at k9
      exact lv_tableOut (x := Int32.ofInt a) X.1 X.2.1 hd (by show ab_w a < lo ∨ hi < ab_w a; omega) hdf k9
  · trivial
theorem ab_s_max {M pc i : Nat} (hd : decode (ab_mb M) pc = .ok (.invokestatic i, 3)) (h1 : Cond.methodLink (ab_my M).cls i Lib.Math.max.name ∈ ab_TG) (h2 : Cond.static Lib.Math.max.name ∈ ab_TG) (h3 : Cond.initialized "java/lang/Math" ∈ ab_TG) (h4 : Cond.code Lib.Math.max.name Lib.Math.max.code 2 (some .int) ∈ ab_TG) : ab_Sn B M pc (ab_o_mx (fun a b => if a < b then b else a) (pc + 3)) := fun loc stk h => by
  unfold ab_o_mx
  split
  · rename_i b a r
    split
    rotate_left
    · trivial
    rename_i q5
    refine ab_Sj.pure (fun h1 _ => ab_mem_c (ab_vs_i _ _) (ab_mem_t (ab_mem_t h1))) (fun {p l e R s m args below meth c H locs cells slots Q g A μ ls} X At q1 q2 q3 q4 q5' k9 => ?_)
    have hml : c.maxLocals = ls.size := X.2.2.1.trans At.2.1.1.symm
    have hsum : (((r.map (ab_cv B μ)).map fun v => v.category).sum) + 13 ≤ R.locals := by
      rw [ab_sum_cat]
      omega
    refine va_mmax (x := Int32.ofInt a) (y := Int32.ofInt b) X.1 X.2.1 hml X.2.2.2.1 (X.2.2.2.2.2.2.1 _ h1) (X.2.2.2.2.2.2.1 _ h2) (X.2.2.2.2.2.2.1 _ h3) (X.2.2.2.2.2.2.1 _ h4) (by omega) hsum q1 q2 hd ?_
    refine ab_W_stk ?_ k9
    show Value.int (Int32.ofInt _) :: _ = _
    congr 2
    dsimp only
    by_cases hc : ab_w a < ab_w b
    · rw [if_pos hc, if_pos (Int32.lt_iff_toInt_lt.mpr hc)]; exact Int32.ofInt_toInt _
    · rw [if_neg hc, if_neg (fun z => hc (Int32.lt_iff_toInt_lt.mp z))]; exact Int32.ofInt_toInt _
  · trivial
theorem ab_s_min {M pc i : Nat} (hd : decode (ab_mb M) pc = .ok (.invokestatic i, 3)) (h1 : Cond.methodLink (ab_my M).cls i Lib.Math.min.name ∈ ab_TG) (h2 : Cond.static Lib.Math.min.name ∈ ab_TG) (h3 : Cond.initialized "java/lang/Math" ∈ ab_TG) (h4 : Cond.code Lib.Math.min.name Lib.Math.min.code 2 (some .int) ∈ ab_TG) : ab_Sn B M pc (ab_o_mx (fun a b => if b < a then b else a) (pc + 3)) := fun loc stk h => by
  unfold ab_o_mx
  split
  · rename_i b a r
    split
    rotate_left
    · trivial
    rename_i q5
    refine ab_Sj.pure (fun h1 _ => ab_mem_c (ab_vs_i _ _) (ab_mem_t (ab_mem_t h1))) (fun {p l e R s m args below meth c H locs cells slots Q g A μ ls} X At q1 q2 q3 q4 q5' k9 => ?_)
    have hml : c.maxLocals = ls.size := X.2.2.1.trans At.2.1.1.symm
    have hsum : (((r.map (ab_cv B μ)).map fun v => v.category).sum) + 13 ≤ R.locals := by
      rw [ab_sum_cat]
      omega
    refine va_mmin (x := Int32.ofInt a) (y := Int32.ofInt b) X.1 X.2.1 hml X.2.2.2.1 (X.2.2.2.2.2.2.1 _ h1) (X.2.2.2.2.2.2.1 _ h2) (X.2.2.2.2.2.2.1 _ h3) (X.2.2.2.2.2.2.1 _ h4) (by omega) hsum q1 q2 hd ?_
    refine ab_W_stk ?_ k9
    show Value.int (Int32.ofInt _) :: _ = _
    congr 2
    dsimp only
    by_cases hc : ab_w b < ab_w a
    · rw [if_pos hc, if_pos (Int32.lt_iff_toInt_lt.mpr hc)]; exact Int32.ofInt_toInt _
    · rw [if_neg hc, if_neg (fun z => hc (Int32.lt_iff_toInt_lt.mp z))]; exact Int32.ofInt_toInt _
  · trivial
theorem ab_s_obj {M pc i : Nat} (hd : decode (ab_mb M) pc = .ok (.invokespecial i, 3)) (h1 : Cond.methodLink (ab_my M).cls i Lib.objectInit ∈ ab_TG) (h2 : Cond.instanceMethod Lib.objectInit ∈ ab_TG) (h3 : Cond.code Lib.objectInit ⟨#[0xb1]⟩ 1 none ∈ ab_TG) : ab_Sn B M pc (ab_o_obj (pc + 3)) := fun loc stk h => by
  unfold ab_o_obj
  split
  · rename_i a r
    split
    · rename_i q5
      refine ab_Sj.pure (fun h1 _ => ab_mem_t h1) (fun {p l e R s m args below meth c H locs cells slots Q g A μ ls} X At q1 q2 q3 q4 q5' k9 => ?_)
      have hml : c.maxLocals = ls.size := X.2.2.1.trans At.2.1.1.symm
      have hsum : 2 * 0 + (((r.map (ab_cv B μ)).map fun v => v.category).sum) + 12 ≤ R.locals := by
        rw [ab_sum_cat]
        omega
      exact W.objInit X.1 X.2.1 X.2.2.2.1 (X.2.2.2.2.2.2.1 _ h1) (X.2.2.2.2.2.2.1 _ h2) (X.2.2.2.2.2.2.1 _ h3) (g := F0 m pc ls (.ref (μ a) :: r.map (ab_cv B μ))) rfl hml.symm rfl hd (by omega) hsum k9
    · trivial
  · trivial
/-- what a method's end owes -/
theorem ab_QC_of {g : ab_G} {A : Nat → Prop} {μ μ0 : Nat → Nat} {h h0 : ab_H} {v : Option ab_V} {H : Heap} {s t : State} {locs : List Loc} {a : Array Value} (ht : t.heap = H) (hR : ab_Rep B g A μ h H) (hμ : ∀ i, i < ab_n h0 → μ i = μ0 i) (hv : ∀ x, v = some x → ab_vs (ab_n h) x) (hS : va_S A s.heap H locs) : ab_QC B g A μ0 h0 (.inl v, h) a s (.returned (v.map (ab_cv B μ))) t :=
  ⟨v, μ, rfl, rfl, hμ, by rw [ht]; exact hR, hv, hS.F ht⟩
theorem ab_s_iret {M pc : Nat} {b : Bool} {ty : FieldType} (hd : decode (ab_mb M) pc = .ok (.ireturn, 1)) (hr : ab_mr M = some ty) (hb : (ty = .int ∧ b = false) ∨ (ty = .boolean ∧ b = true)) : ab_Sn B M pc (ab_o_iret b) := fun loc stk h => by
  unfold ab_o_iret
  split
  · rename_i v
    split
    · rename_i hv
      have hnf : narrow ty (.int (Int32.ofInt v)) = .int (Int32.ofInt v) := by
        rcases hb with ⟨h1, h2⟩ | ⟨h1, h2⟩
        · subst h1; rfl
        · subst h1; exact (ab_nb (hv h2)).1
      refine ⟨Nat.le_refl _, Nat.le_refl _, Nat.le_refl _, ?_⟩
      intro p l e R s m args below meth c H locs cells slots g A μ μ0 h0 ls b1 b2 X At h1 h2 h3 h4 h5 h6 h7 hμ hn
      have e1 : R.cells = cells := by have : ab_kc h = R.cells + b1 := h3; omega
      have e2 : R.slots = slots := by have : ab_ks h = R.slots + b2 := h4; omega
      rw [e1, e2]
      refine vx_ret ?_
      exact W.zret (Qc := ab_QC B g A μ0 h0 (.inl (some (ab_I v)), h)) (v := Int32.ofInt v) (ty := ty) (ls := ls) (locs := locs) (cells := cells) (slots := slots) (free := A) X.1 X.2.1 (X.2.2.2.2.1.trans hr) hnf (fun t ht hW => ab_QC_of (v := some (ab_I v)) ht At.1 hμ (fun x hx => by cases hx; exact ab_vs_i _ _) At.2.2.2.2) At.2.2.2.2.2.2 hd X.2.2.2.2.2.1
    · trivial
  · trivial
theorem ab_s_lret {M pc : Nat} (hd : decode (ab_mb M) pc = .ok (.lreturn, 1)) (hr : ab_mr M = some .long) : ab_Sn B M pc ab_o_lret := fun loc stk h => by
  unfold ab_o_lret
  split
  · rename_i v
    refine ⟨Nat.le_refl _, Nat.le_refl _, Nat.le_refl _, ?_⟩
    intro p l e R s m args below meth c H locs cells slots g A μ μ0 h0 ls b1 b2 X At h1 h2 h3 h4 h5 h6 h7 hμ hn
    have e1 : R.cells = cells := by have : ab_kc h = R.cells + b1 := h3; omega
    have e2 : R.slots = slots := by have : ab_ks h = R.slots + b2 := h4; omega
    rw [e1, e2]
    refine vx_ret ?_
    exact W.lret (Qc := ab_QC B g A μ0 h0 (.inl (some (ab_L v)), h)) (v := v) (ls := ls) (locs := locs) (cells := cells) (slots := slots) (free := A) X.1 X.2.1 (X.2.2.2.2.1.trans hr) (fun t ht hW => ab_QC_of (v := some (ab_L v)) ht At.1 hμ (fun x hx => by cases hx; exact ab_vs_l _ _) At.2.2.2.2) At.2.2.2.2.2.2 hd X.2.2.2.2.2.1
  · trivial
theorem ab_s_ret {M pc : Nat} (hd : decode (ab_mb M) pc = .ok (.return_, 1)) (hr : ab_mr M = none) : ab_Sn B M pc ab_o_ret := fun loc stk h => by
  unfold ab_o_ret
  split
  · refine ⟨Nat.le_refl _, Nat.le_refl _, Nat.le_refl _, ?_⟩
    intro p l e R s m args below meth c H locs cells slots g A μ μ0 h0 ls b1 b2 X At h1 h2 h3 h4 h5 h6 h7 hμ hn
    have e1 : R.cells = cells := by have : ab_kc h = R.cells + b1 := h3; omega
    have e2 : R.slots = slots := by have : ab_ks h = R.slots + b2 := h4; omega
    rw [e1, e2]
    refine vx_ret ?_
    exact W.vret (Qc := ab_QC B g A μ0 h0 (.inl none, h)) (ls := ls) (locs := locs) (cells := cells) (slots := slots) (free := A) X.1 X.2.1 (X.2.2.2.2.1.trans hr) (fun t ht hW => ab_QC_of (v := none) ht At.1 hμ (fun x hx => by cases hx) At.2.2.2.2) At.2.2.2.2.2.2 hd X.2.2.2.2.2.1
  · trivial
theorem ab_s_aret {M pc : Nat} {ty : FieldType} (hd : decode (ab_mb M) pc = .ok (.areturn, 1)) (hr : ab_mr M = some ty) (hty : (∃ n, ty = .object n) ∨ ∃ t, ty = .array t) : ab_Sn B M pc ab_o_aret := fun loc stk h => by
  unfold ab_o_aret
  split
  · rename_i v
    refine ⟨Nat.le_refl _, Nat.le_refl _, Nat.le_refl _, ?_⟩
    intro p l e R s m args below meth c H locs cells slots g A μ μ0 h0 ls b1 b2 X At h1 h2 h3 h4 h5 h6 h7 hμ hn
    have e1 : R.cells = cells := by have : ab_kc h = R.cells + b1 := h3; omega
    have e2 : R.slots = slots := by have : ab_ks h = R.slots + b2 := h4; omega
    rw [e1, e2]
    refine vx_ret ?_
    exact W.aret (Qc := ab_QC B g A μ0 h0 (.inl (some (ab_Q v)), h)) (v := ab_cv B μ (ab_Q v)) (ls := ls) (locs := locs) (cells := cells) (slots := slots) (free := A) X.1 X.2.1 (X.2.2.2.2.1.trans hr) hty (by cases v with | none => exact Or.inr ⟨_, rfl⟩ | some i => exact Or.inr ⟨_, rfl⟩) (fun t ht hW => ab_QC_of (v := some (ab_Q v)) ht At.1 hμ (fun x hx => by cases hx; exact ab_mem_h At.2.2.1) At.2.2.2.2) At.2.2.2.2.2.2 hd X.2.2.2.2.2.1
  · trivial
end
end
section
/-! THROWS, CALLS, AND THE WHOLE RUN OF A METHOD -/
section
variable {B : ab_B}
theorem ab_TN_on {w : Cond} (hw : w ∈ ab_TN) : w.onTables = true := by
  have h2 : ab_nest w = true := (List.mem_filter.mp hw).2
  cases w <;> first | rfl | (simp [ab_nest] at h2)
theorem ab_X_word {M : Nat} {g : ab_G} {A : Nat → Prop} {p : Program} {l : Launch} {s : State} {m : MethodId} {args : Array Value} {meth : Method} {c : Code} (X : ab_X B M g A p l s m args meth c) {w : Cond} (h : w ∈ ab_TG ∨ w ∈ ab_TN) : w.before args s = true := by
  rcases h with h | h
  · exact X.2.2.2.2.2.2.1 _ h
  · exact va_Nw.use (ab_TN_on h) (X.2.2.2.2.2.2.2.1.2.2.1 w h)
theorem ab_none {M : Nat} {g : ab_G} {A : Nat → Prop} {p : Program} {l : Launch} {s : State} {m : MethodId} {args : Array Value} {meth : Method} {c : Code} {pc : Nat} (X : ab_X B M g A p l s m args meth c) (hno : M ≠ ab_hM) : ∀ x ∈ c.exceptionTable.toList, covers x pc = false := fun x hx => by
  rw [X.2.2.2.2.2.2.2.2.2.2, ab_tb_n hno] at hx
  cases hx
theorem ab_Rep.kept {g : ab_G} {A : Nat → Prop} {μ : Nat → Nat} {h : ab_H} {H H1 : Heap} (hR : ab_Rep B g A μ h H) (hz : H.size ≤ H1.size) (hq : ∀ q : Nat, q < H.size → H1[q]? = H[q]?) (c s : Nat) : ab_Rep B g A μ (ab_cost h c s) H1 :=
  ⟨hR.1.kept (fun k q hk => hq q.1 (hR.1 k q hk).lt), hR.2.1, hR.2.2⟩
theorem ab_s_throw {M pc E ik is ic : Nat} {text : String} (hE : ab_ex E = "java/lang/IllegalArgumentException" ∨ ab_ex E = "java/lang/IndexOutOfBoundsException" ∨ ab_ex E = "java/lang/IllegalStateException")
    (d0 : decode (ab_mb M) pc = .ok (.new ik, 3)) (d3 : decode (ab_mb M) (pc + 3) = .ok (.dup, 1)) (d4 : decode (ab_mb M) (pc + 4) = .ok (.ldc is, 2)) (d6 : decode (ab_mb M) (pc + 6) = .ok (.invokespecial ic, 3)) (d9 : decode (ab_mb M) (pc + 9) = .ok (.athrow, 1))
    (hk : Cond.classLink (ab_my M).cls ik (ab_ex E) ∈ ab_TG) (hini : Cond.initialized (ab_ex E) ∈ ab_TG) (hstr : ((ab_my M).cls, is, text) ∈ ab_TS) (hat : ∀ w ∈ vx_atS (ab_my M).cls ic (ab_ex E) ["java/lang/RuntimeException", "java/lang/Exception"], w ∈ ab_TG ∨ w ∈ ab_TN)
    (hgood : ∀ w ∈ Cond.classLink (ab_my M).cls ik (ab_ex E) :: Cond.initialized (ab_ex E) :: vx_atS (ab_my M).cls ic (ab_ex E) ["java/lang/RuntimeException", "java/lang/Exception"], vx_ot w = true) (hno : M ≠ ab_hM) : ab_Sn B M pc (ab_o_throw E) := fun loc stk h => by
  unfold ab_o_throw
  split
  rotate_left
  · trivial
  rename_i q5
  refine ⟨by rw [ab_kc_cost]; omega, by rw [ab_ks_cost]; omega, Nat.le_refl _, ?_⟩
  intro p l e R s m args below meth c H locs cells slots g A μ μ0 h0 ls b1 b2 X At h1 h2 h3 h4 h5 h6 h7 hμ hn
  obtain ⟨sa, hsa⟩ := X.2.2.2.2.2.2.2.1.2.2.2.1 _ hstr
  rw [ab_kc_cost] at h3
  rw [ab_ks_cost] at h4
  refine vx_throwS (cls := ab_ex E) (text := text) (names := ["java/lang/RuntimeException", "java/lang/Exception"]) (A := A) (sa := sa) X.1 X.2.1 X.2.2.2.2.2.2.2.2.1 X.2.2.2.1 (by rcases hE with q | q | q <;> rw [q] <;> decide +kernel) (by decide +kernel) (ab_X_word X (Or.inl hk)) (ab_X_word X (Or.inl hini)) hsa (fun w hw => ab_X_word X (hat w hw)) hgood
    X.2.2.2.2.2.2.2.1.2.2.2.2.1 X.2.2.2.2.2.2.2.1.2.2.2.2.2.1 At.2.2.2.2 (At.2.1.1.trans X.2.2.1.symm) d0 d3 d4 d6 d9 (ab_none X hno) (by simp; omega) ?_ (by omega) (by omega) X.2.2.2.2.2.1 (fun t hal hz hq => ?_) At.2.2.2.2.2.2 (by omega) (by omega)
  · rw [ab_sum_cat]
    simp only [List.length_cons, List.length_nil]
    omega
  · refine ⟨E, μ, rfl, rfl, hμ, At.1.kept hz hq 1 6, Nat.le_trans At.2.2.2.2.1 hz, fun q h9 h8 => ?_⟩
    rw [hq q (Nat.lt_of_lt_of_le h9 At.2.2.2.2.1)]
    exact At.2.2.2.2.2.1 q h9 h8
theorem ab_s_throwW {M pc E ik is ic : Nat} {text : String} (hE : ab_ex E = "java/lang/IllegalArgumentException" ∨ ab_ex E = "java/lang/IndexOutOfBoundsException" ∨ ab_ex E = "java/lang/IllegalStateException")
    (d0 : decode (ab_mb M) pc = .ok (.new ik, 3)) (d3 : decode (ab_mb M) (pc + 3) = .ok (.dup, 1)) (d4 : decode (ab_mb M) (pc + 4) = .ok (.ldc_w is, 3)) (d6 : decode (ab_mb M) (pc + 7) = .ok (.invokespecial ic, 3)) (d9 : decode (ab_mb M) (pc + 10) = .ok (.athrow, 1))
    (hk : Cond.classLink (ab_my M).cls ik (ab_ex E) ∈ ab_TG) (hini : Cond.initialized (ab_ex E) ∈ ab_TG) (hstr : ((ab_my M).cls, is, text) ∈ ab_TS) (hat : ∀ w ∈ vx_atS (ab_my M).cls ic (ab_ex E) ["java/lang/RuntimeException", "java/lang/Exception"], w ∈ ab_TG ∨ w ∈ ab_TN)
    (hgood : ∀ w ∈ Cond.classLink (ab_my M).cls ik (ab_ex E) :: Cond.initialized (ab_ex E) :: vx_atS (ab_my M).cls ic (ab_ex E) ["java/lang/RuntimeException", "java/lang/Exception"], vx_ot w = true) (hno : M ≠ ab_hM) : ab_Sn B M pc (ab_o_throw E) := fun loc stk h => by
  unfold ab_o_throw
  split
  rotate_left
  · trivial
  rename_i q5
  refine ⟨by rw [ab_kc_cost]; omega, by rw [ab_ks_cost]; omega, Nat.le_refl _, ?_⟩
  intro p l e R s m args below meth c H locs cells slots g A μ μ0 h0 ls b1 b2 X At h1 h2 h3 h4 h5 h6 h7 hμ hn
  obtain ⟨sa, hsa⟩ := X.2.2.2.2.2.2.2.1.2.2.2.1 _ hstr
  rw [ab_kc_cost] at h3
  rw [ab_ks_cost] at h4
  refine vx_throwSW (cls := ab_ex E) (text := text) (names := ["java/lang/RuntimeException", "java/lang/Exception"]) (A := A) (sa := sa) X.1 X.2.1 X.2.2.2.2.2.2.2.2.1 X.2.2.2.1 (by rcases hE with q | q | q <;> rw [q] <;> decide +kernel) (by decide +kernel) (ab_X_word X (Or.inl hk)) (ab_X_word X (Or.inl hini)) hsa (fun w hw => ab_X_word X (hat w hw)) hgood
    X.2.2.2.2.2.2.2.1.2.2.2.2.1 X.2.2.2.2.2.2.2.1.2.2.2.2.2.1 At.2.2.2.2 (At.2.1.1.trans X.2.2.1.symm) d0 d3 d4 d6 d9 (ab_none X hno) (by simp; omega) ?_ (by omega) (by omega) X.2.2.2.2.2.1 (fun t hal hz hq => ?_) At.2.2.2.2.2.2 (by omega) (by omega)
  · rw [ab_sum_cat]
    simp only [List.length_cons, List.length_nil]
    omega
  · refine ⟨E, μ, rfl, rfl, hμ, At.1.kept hz hq 1 6, Nat.le_trans At.2.2.2.2.1 hz, fun q h9 h8 => ?_⟩
    rw [hq q (Nat.lt_of_lt_of_le h9 At.2.2.2.2.1)]
    exact At.2.2.2.2.2.1 q h9 h8
/-- behind a call -/
theorem ab_after {p : Program} {l : Launch} {e : Env} {R : Room} {s : State} {m : MethodId} {args : Array Value} {below : List Frame} {meth : Method} {c : Code} {H : Heap} {locs : List Loc} {cells slots mc ms : Nat} {Q : State → Prop} {pc : Nat} {ls : Array Slot} {st0 rest : List Value} {g : ab_G} {A : Nat → Prop} {μ : Nat → Nat} {h : ab_H} {r : ab_T} {a : Array Value}
    (hr : vx_Run p l e R s m args below meth c H locs cells slots mc ms (F0 m pc ls st0) rest (ab_QC B g A μ h r a) (ab_XC B g A μ h r) A) (hS : va_S A s.heap H locs)
    (kk : ∀ (v : Option ab_V) (μ' : Nat → Nat) (H1 : Heap) (locs1 : List Loc), r.1 = .inl v → (∀ i, i < ab_n h → μ' i = μ i) → ab_Rep B g A μ' r.2 H1 → (∀ x, v = some x → ab_vs (ab_n r.2) x) → va_S A s.heap H1 locs1 → W p l e R s m args below meth c H1 locs1 (cells + mc) (slots + ms) Q (F0 m (pc + 3) ls ((v.map (ab_cv B μ')).toList ++ rest)))
    (kx : ∀ (n : Nat) (μ' : Nat → Nat) (H1 : Heap) (locs1 : List Loc) (q : Addr) (ce : Cell), r.1 = .inr n → (∀ i, i < ab_n h → μ' i = μ i) → ab_Rep B g A μ' r.2 H1 → va_S A s.heap H1 locs1 → H1[q]? = some ce → ce.vm = .none → s.vm.findClass (ab_ex n) = some ce.cls → vx_W p l e R s m args below meth c H1 locs1 (cells + mc) (slots + ms) Q (F0 m pc ls rest) q) :
    W p l e R s m args below meth c H locs cells slots Q (F0 m pc ls st0) := by
  intro T hT X
  rcases hr T hT X with ⟨v, st₀, t, T', L, h0, X', hL, e1, e2, ⟨v9, μ', q1, q2, q3, q4, q5, q6⟩, st⟩ | ⟨q, st₀, t, T', L, E, ce, h0, X', hL, e1, e2, ⟨n, μ', q1, q2, q3, q4, q5⟩, hce, hcv, hcl, st⟩
  · obtain ⟨k1, k2, k3⟩ := vx_keep h0 e1 hS (fun q _ h => h) (fun q h => h) hL q6
    have q7 : v = v9.map (ab_cv B μ') := by cases q2; rfl
    subst q7
    obtain ⟨t2, a1, b1⟩ := kk v9 μ' T'.heap (locs ++ L) q1 q3 (by rw [e1]; exact q4) q5 k3 T' rfl X'
    exact ⟨t2, st t2 a1, b1⟩
  · subst q2
    obtain ⟨k1, k2, k3⟩ := vx_keep h0 e1 hS (fun q _ h => h) (fun q h => h) hL q5
    obtain ⟨t2, a1, b1⟩ := kx n μ' T'.heap (locs ++ L) q ce q1 q3 (by rw [e1]; exact q4) k3 (by rw [e1]; exact hce) hcv hcl T' rfl X'
    exact ⟨t2, st.trans a1, b1⟩
theorem ab_split_eq : ∀ (n : Nat) (acc l as r : List ab_V), ab_split n acc l = some (as, r) → as = (l.take n).reverse ++ acc ∧ r = l.drop n ∧ n ≤ l.length
  | 0, acc, l, as, r, h => by cases h; simp
  | n + 1, acc, [], as, r, h => by cases h
  | n + 1, acc, v :: l, as, r, h => by
    obtain ⟨h1, h2, h3⟩ := ab_split_eq n (v :: acc) l as r h
    exact ⟨by rw [h1]; simp, by rw [h2]; simp, by simp; omega⟩
theorem ab_split_app {n : Nat} {l as r : List ab_V} (h : ab_split n [] l = some (as, r)) : l = as.reverse ++ r ∧ as.length = n := by
  obtain ⟨h1, h2, h3⟩ := ab_split_eq n [] l as r h
  rw [List.append_nil] at h1
  refine ⟨?_, by rw [h1]; simp; omega⟩
  rw [h1, h2, List.reverse_reverse, List.take_append_drop]
theorem ab_PC_blind {g : ab_G} {A : Nat → Prop} {μ : Nat → Nat} {h : ab_H} {as : List ab_V} : FrameBlind (ab_PC B g A μ h as) := fun a U f mk q => ⟨q.1, q.2.1, q.2.2.calling⟩
theorem ab_good (w : Cond) (h : w ∈ ab_TG) : goodWord w = true := (List.mem_filter.mp h).2
theorem ab_GoodIn {M : Nat} (h : ab_cw M ∈ ab_TG) : GoodIn ab_TG (ab_wsM M) := fun w hw => by
  have h9 : w ∈ ab_TG := (List.mem_cons.mp hw).elim (fun e => by rw [e]; exact h) id
  exact ⟨h9, good_of_word (ab_good w h9)⟩
/-- a store of what nobody knows -/
theorem ab_lh.setn {nL : Nat} {μ : Nat → Nat} {ls ls' : Array Slot} {loc : ab_M} {i : Nat} {a : Addr} (h : ab_lh B nL μ ls loc) (hi : i < nL) (h' : lv_has ls' nL ((i, .ref a) :: (ab_ll B μ loc).filter (fun q => !(q.1 == i) && !(q.1 + 1 == i && q.2.category == 2)))) : ab_lh B nL μ ls' (ab_set1 loc i none) := by
  refine ⟨h'.1, h'.2.1, by rw [ab_set1_len]; exact h.2.2.1, fun j v hj => ?_⟩
  rw [ab_set1_get] at hj
  by_cases e : j = i
  · subst e
    rw [if_pos rfl, if_pos (by rw [h.2.2.1]; exact hi)] at hj
    cases hj
  · rw [if_neg e] at hj
    have hm : (j, ab_cv B μ v) ∈ ab_ll B μ loc ∧ (j + 1 = i → ab_lg v = false) := by
      by_cases e2 : j + 1 = i
      · rw [if_pos e2] at hj
        cases hl : loc[j]? with
        | none => rw [hl] at hj; cases hj
        | some y =>
          rw [hl] at hj
          obtain ⟨h1, h2⟩ := ab_fx_some (Option.some.inj hj)
          exact ⟨ab_ll_mem.mpr ⟨v, by rw [hl, h1], rfl⟩, fun _ => h2⟩
      · rw [if_neg e2] at hj
        exact ⟨ab_ll_mem.mpr ⟨v, hj, rfl⟩, fun z => absurd z e2⟩
    refine h'.2.2 (j, ab_cv B μ v) (List.mem_cons_of_mem _ (List.mem_filter.mpr ⟨hm.1, ?_⟩))
    by_cases e2 : j + 1 = i
    · have := hm.2 e2
      simp [e, ab_cv_cat, this]
    · simp [e, e2]
/-- the handlers that the call at pc names: each is the first row of the method's table that covers pc; its first instruction stores what is caught -/
def ab_hok (M pc : Nat) (hs : List (Nat × Nat × Nat)) : Prop := (hs = [] → M ≠ ab_hM) ∧ ∀ q ∈ hs, ∃ (pre : List ExceptionTableEntry) (x : ExceptionTableEntry) (suf : List ExceptionTableEntry), tableOf (ab_tb M) = pre ++ x :: suf ∧ (∀ z ∈ pre, covers z pc = false) ∧ covers x pc = true ∧ x.catchType ≠ 0 ∧ (Cond.classLink (ab_my M).cls x.catchType (ab_ex q.1) ∈ ab_TG ∨ Cond.classLink (ab_my M).cls x.catchType (ab_ex q.1) ∈ ab_TN) ∧ (Cond.castable (ab_ex q.1) (ab_ex q.1) ∈ ab_TG ∨ Cond.castable (ab_ex q.1) (ab_ex q.1) ∈ ab_TN) ∧ decode (ab_mb M) x.handlerPc = .ok (.astore q.2.2, 2) ∧ q.2.2 < ab_mL M ∧ x.handlerPc + 2 = q.2.1
theorem ab_hok_n {M pc : Nat} (h : M ≠ ab_hM) : ab_hok M pc [] := ⟨fun _ => h, fun q hq => absurd hq List.not_mem_nil⟩
/-- what a call gives, whichever instruction makes it: hrun is the run of the callee -/
theorem ab_call {M pc M' na nx : Nat} {rc : Option (Nat × Nat)} {v : Bool} {hs : List (Nat × Nat × Nat)} (hhs : ab_hok M pc hs) (hnx : nx = pc + 3) (hcode : ab_cw M' ∈ ab_TG ∧ plainName (ab_my M').cls = true)
    (hrun : ∀ {p : Program} {l : Launch} {e : Env} {R : Room} {s : State} {m : MethodId} {args : Array Value} {below : List Frame} {meth : Method} {c : Code} {H : Heap} {locs : List Loc} {cells slots : Nat} {g : ab_G} {A : Nat → Prop} {μ : Nat → Nat} {h : ab_H} {ls : Array Slot} {d mc ms : Nat} {r : ab_T} {as rest stk : List ab_V} {loc : ab_M},
      as.length = na → stk = as.reverse ++ rest → ab_sum rest ≤ 8 → ab_rc rc as h = true → ab_X B M g A p l s m args meth c → ab_At B M g A μ h H ls loc stk s locs →
      vx_Met l (ab_my M') (ab_wsM M') ({ frames := d + 10, cells := mc, slots := ms, locals := 60 * d + 200 } : Room) (ab_PC B g A μ h as) (ab_QC B g A μ h r) (ab_XC B g A μ h r) mc ms A → d + 11 ≤ R.frames → 60 * (d + 1) + 200 ≤ R.locals → cells + mc ≤ R.cells → slots + ms ≤ R.slots →
      vx_Run p l e R s m args below meth c H locs cells slots mc ms (F0 m pc ls (stk.map (ab_cv B μ))) (rest.map (ab_cv B μ)) (ab_QC B g A μ h r (as.map (ab_cv B μ)).toArray) (ab_XC B g A μ h r) A) :
    ab_Sn B M pc (ab_o_call rc hs M' (ab_mL M') na v nx) := fun loc stk h => by
  unfold ab_o_call
  split
  · rename_i as rest hsp
    split
    · rename_i hc
      obtain ⟨hstk, hlen⟩ := ab_split_app hsp
      refine ⟨rfl, as, rfl, fun v hv => by rw [hstk]; exact List.mem_append_left _ (List.mem_reverse.mpr hv), hc.2.2, hcode, fun r => ⟨fun r' hk => ?_, fun q hk => ?_, ?_⟩⟩
      · obtain ⟨o, h'⟩ := r
        match o, hk with
        | .inl (some x), hk => simp only [ab_k] at hk; split at hk <;> cases hk
        | .inl none, hk => simp only [ab_k] at hk; split at hk <;> cases hk
        | .inr E, hk =>
          match hs, hk with
          | [], hk => cases hk; rfl
          | q :: _, hk => simp only [ab_k] at hk; split at hk <;> cases hk
      · obtain ⟨o, h'⟩ := r
        match o, hk with
        | .inl (some x), hk => simp only [ab_k] at hk; split at hk <;> cases hk; rfl
        | .inl none, hk => simp only [ab_k] at hk; split at hk <;> cases hk; rfl
        | .inr E, hk =>
          match hs, hk with
          | [], hk => cases hk
          | q :: _, hk => simp only [ab_k] at hk; split at hk <;> cases hk; rfl
      · intro p l e R s m args below meth c H locs cells slots g A μ μ0 hh ls b1 b2 d rr hM m1 m2 m3 X At c1 c2 c3 c4 c5 c6 hμ hn kf kn kj
        obtain ⟨mc, hmc⟩ := Nat.exists_eq_add_of_le m1
        obtain ⟨ms, hms⟩ := Nat.exists_eq_add_of_le m2
        have hr := hrun (l := l) (cells := cells) (slots := slots) (e := e) (below := below) hlen hstk hc.1 hc.2.1 X At (hM mc ms hmc.symm hms.symm) c5 c6 (by omega) (by omega)
        have hin : ∀ w ∈ rest, w ∈ stk := fun w hw => by rw [hstk]; exact List.mem_append_right _ hw
        refine ab_after hr At.2.2.2.2 (fun v9 μ' H1 locs1 q1 q3 q4 q5 q6 => ?_) (fun n μ' H1 locs1 q ce q1 q3 q4 q5 hce hcv hcl => ?_)
        · have At1 : ∀ x : List ab_V, (∀ w ∈ x, v9 = some w ∨ w ∈ rest) → ab_At B M g A μ' r.2 H1 ls loc x s locs1 := fun x hx => ⟨q4, ⟨At.2.1.1, At.2.1.2.1, At.2.1.2.2.1, fun i w hw => by rw [ab_cv_eq q3 (At.2.2.2.1 w (List.mem_of_getElem? hw))]; exact At.2.1.2.2.2 i w hw⟩, fun w hw => (hx w hw).elim (fun z => q5 w z) (fun z => (At.2.2.1 w (hin w z)).le m3), fun w hw => (At.2.2.2.1 w hw).le m3, q6⟩
          have hmap : rest.map (ab_cv B μ') = rest.map (ab_cv B μ) := ab_cv_map q3 (fun w hw => At.2.2.1 w (hin w hw))
          obtain ⟨o, h'⟩ := r
          cases q1
          cases v9 with
          | some x =>
            cases v with
            | false => exact (kn rfl).elim
            | true =>
              refine ab_W_stk ?_ (hnx ▸ kj nx loc (x :: rest) h' rfl μ' H1 locs1 (cells + mc) (slots + ms) ls q3 (At1 _ (fun w hw => (List.mem_cons.mp hw).elim (fun z => Or.inl (by rw [z])) Or.inr)) (by have e9 : ab_kc h' = ab_kc h + mc := hmc; omega) (by have e9 : ab_ks h' = ab_ks h + ms := hms; omega))
              simp [hmap]
          | none =>
            cases v with
            | true => exact (kn rfl).elim
            | false =>
              refine ab_W_stk ?_ (hnx ▸ kj nx loc rest h' rfl μ' H1 locs1 (cells + mc) (slots + ms) ls q3 (At1 _ (fun w hw => Or.inr hw)) (by have e9 : ab_kc h' = ab_kc h + mc := hmc; omega) (by have e9 : ab_ks h' = ab_ks h + ms := hms; omega))
              simp [hmap]
        · obtain ⟨o, h'⟩ := r
          cases q1
          match hs, hhs, kf, kn, kj with
          | [], hhs, kf, kn, kj =>
            obtain ⟨k1, k2, k3⟩ := kf _ rfl
            subst k1
            refine vx_out (E := ab_ex n) (ce := ce) (q := q) (ab_none X (hhs.1 rfl)) X.2.2.2.2.2.1 hce hcv hcl (fun t ht hal => ⟨n, μ', rfl, rfl, fun i hi => (q3 i (Nat.lt_of_lt_of_le hi hn)).trans (hμ i hi), by rw [ht]; exact q4, q5.F ht⟩) q5.2.2 (by omega) (by omega)
          | q0 :: hs', hhs, kf, kn, kj =>
            have hn3 : q0.1 = n := by
              by_cases e : q0.1 = n
              · exact e
              · exact (kn (by simp only [ab_k]; rw [if_neg e])).elim
            subst hn3
            obtain ⟨pre, x, suf, i1, i2, i3, i4, i5, i6, i7, i8, i9⟩ := hhs.2 _ List.mem_cons_self
            refine vx_catch X.2.2.2.1 (E := ab_ex q0.1) (name := ab_ex q0.1) pre x suf (X.2.2.2.2.2.2.2.2.2.2.trans i1) (fun z hz => Or.inl (i2 z hz)) i3 i4 (ab_X_word X i5) (ab_X_word X i6) hce hcv hcl ?_
            refine lv_astore (x := q) X.1 X.2.1 i7 (ab_lh.has ⟨At.2.1.1, At.2.1.2.1, At.2.1.2.2.1, fun i w hw => by rw [ab_cv_eq q3 (At.2.2.2.1 w (List.mem_of_getElem? hw))]; exact At.2.1.2.2.2 i w hw⟩ : lv_has ls (ab_mL M) (ab_ll B μ' loc)) i8 rfl (fun ls' hl' => ?_)
            refine i9 ▸ kj _ _ _ _ (by simp only [ab_k, if_true]) μ' H1 locs1 (cells + mc) (slots + ms) ls' q3 ⟨q4, ab_lh.setn (a := q) ⟨At.2.1.1, At.2.1.2.1, At.2.1.2.2.1, fun i w hw => by rw [ab_cv_eq q3 (At.2.2.2.1 w (List.mem_of_getElem? hw))]; exact At.2.1.2.2.2 i w hw⟩ i8 hl', fun w hw => absurd hw List.not_mem_nil, fun w hw => ?_, q5⟩ (by have e9 : ab_kc h' = ab_kc h + mc := hmc; omega) (by have e9 : ab_ks h' = ab_ks h + ms := hms; omega)
            rcases ab_set1_mem hw with e | e
            · cases e
            · exact (At.2.2.2.1 w e).le m3
    · trivial
  · trivial
theorem ab_args_rev {μ : Nat → Nat} {as rest stk : List ab_V} (h : stk = as.reverse ++ rest) : stk.map (ab_cv B μ) = (as.map (ab_cv B μ)).reverse ++ rest.map (ab_cv B μ) := by rw [h, List.map_append, List.map_reverse]
theorem ab_room {μ : Nat → Nat} {rest : List ab_V} {m : MethodId} {pc : Nat} {ls : Array Slot} {st : List Value} (h : ab_sum rest ≤ 8) : 2 * (F0 m pc ls st).monitorRoom + ((rest.map (ab_cv B μ)).map fun v => v.category).sum ≤ 8 := by
  rw [ab_sum_cat]
  exact (show 2 * 0 + ab_sum rest ≤ 8 by omega)
theorem ab_rc_some {s : Nat × Nat} {as : List ab_V} {h : ab_H} (hr : ab_rc (some s) as h = true) : ∃ (a : Nat) (as' : List ab_V), as = ab_Q (some a) :: as' ∧ (ab_sh h)[a]? = some s := by
  match as, hr with
  | .inr (.inr (some a)) :: as', hr => exact ⟨a, as', rfl, of_decide_eq_true hr⟩
/-- a virtual call -/
theorem ab_s_callV {hs : List (Nat × Nat × Nat)} {M pc M' na i ci N : Nat} {C : String} {T : u_T} {v : Bool} (hhs : ab_hok M pc hs) (hM' : M' ≠ ab_hM) (hd : decode (ab_mb M) pc = .ok (.invokevirtual i, 3)) (hc : ab_cl[ci]? = some (C, T, N)) (hC : (ab_my M').cls = C) (hy : C ≠ "java/lang/invoke/MethodHandle" ∧ C ≠ "java/lang/invoke/VarHandle") (hn : (parseMethodDescriptor (ab_my M').desc).map (fun d => d.parameters.length) = some na) (hL : ab_mL M' ≤ 40)
    (hcode : ab_cw M' ∈ ab_TG ∧ plainName (ab_my M').cls = true) (h1 : Cond.methodLink (ab_my M).cls i (ab_my M') ∈ ab_TG) (h2 : Cond.instanceMethod (ab_my M') ∈ ab_TG) (h3 : Cond.selects C (ab_my M') (ab_my M') ∈ ab_TG) (h4 : Cond.initialized C ∈ ab_TG) :
    ab_Sn B M pc (ab_o_call (some (ci + 3, N)) hs M' (ab_mL M') (na + 1) v (pc + 3)) := by
  subst hC
  refine ab_call hhs rfl hcode ?_
  intro p l e R s m args below meth c H locs cells slots g A μ h ls d mc ms r as rest stk loc hlen hstk hsum hrc X At hM hf hlo hcl hsl
  obtain ⟨a, as', rfl, hsh⟩ := ab_rc_some hrc
  have hlen' : as'.length = na := by simpa using hlen
  refine vx_runV (As := as'.map (ab_cv B μ)) (n := na) (ws := ab_wsM M') (Ts := ab_TG) ⟨X.1, X.2.1, X.2.2.1, X.2.2.2.1, X.2.2.2.2.2.2.1⟩ hM
    ⟨callB_of na X.2.2.2.2.2.2.1 (ab_GoodIn hcode.1) (by unfold ab_wsM; rw [ab_cw_n hM']) rfl rfl (X.2.2.2.2.2.2.1 _ h4) (X.2.2.2.2.2.2.1 _ h1) ⟨hy.1, hy.2, hn⟩ ⟨by show d + 10 + 1 ≤ _; omega, by show 8 + (ab_mL M' + 11) + (60 * d + 200) ≤ _; omega⟩, X.2.2.2.2.2.2.1 _ h2, X.2.2.2.2.2.2.1 _ h3⟩
    ⟨ab_PC_blind, va_recv X.2.2.2.2.2.2.2.1.1 At.1.1 hc (ab_ws_at hsh), fun U hU hW => ⟨rfl, by rw [hU]; exact At.1, X.2.2.2.2.2.2.2.1.to hW At.2.2.2.2 hU⟩⟩ rfl (by simpa using hlen') At.2.1.1 ?_ (ab_room hsum) hd ⟨hcl, hsl⟩
  show stk.map (ab_cv B μ) = _
  rw [ab_args_rev hstk]
  simp [ab_cv]
/-- a static call -/
theorem ab_s_callS {hs : List (Nat × Nat × Nat)} {M pc M' na i : Nat} {v : Bool} (hhs : ab_hok M pc hs) (hM' : M' ≠ ab_hM) (hd : decode (ab_mb M) pc = .ok (.invokestatic i, 3)) (hy : (ab_my M').cls ≠ "java/lang/invoke/MethodHandle" ∧ (ab_my M').cls ≠ "java/lang/invoke/VarHandle") (hn : (parseMethodDescriptor (ab_my M').desc).map (fun d => d.parameters.length) = some na) (hL : ab_mL M' ≤ 40)
    (hcode : ab_cw M' ∈ ab_TG ∧ plainName (ab_my M').cls = true) (h1 : Cond.methodLink (ab_my M).cls i (ab_my M') ∈ ab_TG) (h2 : Cond.static (ab_my M') ∈ ab_TG) (h4 : Cond.initialized (ab_my M').cls ∈ ab_TG) :
    ab_Sn B M pc (ab_o_call none hs M' (ab_mL M') na v (pc + 3)) := by
  refine ab_call hhs rfl hcode ?_
  intro p l e R s m args below meth c H locs cells slots g A μ h ls d mc ms r as rest stk loc hlen hstk hsum hrc X At hM hf hlo hcl hsl
  refine vx_runS (As := as.map (ab_cv B μ)) (n := na) (ws := ab_wsM M') (Ts := ab_TG) ⟨X.1, X.2.1, X.2.2.1, X.2.2.2.1, X.2.2.2.2.2.2.1⟩ hM
    ⟨callB_of na X.2.2.2.2.2.2.1 (ab_GoodIn hcode.1) (by unfold ab_wsM; rw [ab_cw_n hM']) rfl rfl (X.2.2.2.2.2.2.1 _ h4) (X.2.2.2.2.2.2.1 _ h1) ⟨hy.1, hy.2, hn⟩ ⟨by show d + 10 + 1 ≤ _; omega, by show 8 + (ab_mL M' + 11) + (60 * d + 200) ≤ _; omega⟩, X.2.2.2.2.2.2.1 _ h2⟩
    ⟨ab_PC_blind, fun U hU hW => ⟨rfl, by rw [hU]; exact At.1, X.2.2.2.2.2.2.2.1.to hW At.2.2.2.2 hU⟩⟩ rfl (by simpa using hlen) At.2.1.1 (ab_args_rev hstk) (ab_room hsum) hd ⟨hcl, hsl⟩
/-- a constructor's call -/
theorem ab_s_callI {hs : List (Nat × Nat × Nat)} {M pc M' na i : Nat} {sh : Nat × Nat} (hhs : ab_hok M pc hs) (hM' : M' ≠ ab_hM) (hd : decode (ab_mb M) pc = .ok (.invokespecial i, 3)) (hy : (ab_my M').cls ≠ "java/lang/invoke/MethodHandle" ∧ (ab_my M').cls ≠ "java/lang/invoke/VarHandle") (hn : (parseMethodDescriptor (ab_my M').desc).map (fun d => d.parameters.length) = some na) (hL : ab_mL M' ≤ 40) (hr : ab_mr M' = none) (hnm : (ab_my M').name = "<init>")
    (hcode : ab_cw M' ∈ ab_TG ∧ plainName (ab_my M').cls = true) (h1 : Cond.methodLink (ab_my M).cls i (ab_my M') ∈ ab_TG) (h2 : Cond.instanceMethod (ab_my M') ∈ ab_TG) (h4 : Cond.initialized (ab_my M').cls ∈ ab_TG) :
    ab_Sn B M pc (ab_o_call (some sh) hs M' (ab_mL M') (na + 1) false (pc + 3)) := by
  refine ab_call hhs rfl hcode ?_
  intro p l e R s m args below meth c H locs cells slots g A μ h ls d mc ms r as rest stk loc hlen hstk hsum hrc X At hM hf hlo hcl hsl
  obtain ⟨a, as', rfl, hsh⟩ := ab_rc_some hrc
  have hlen' : as'.length = na := by simpa using hlen
  refine vx_runI (As := as'.map (ab_cv B μ)) (n := na) (ws := ab_wsM M') (Ts := ab_TG) (bytes := ab_mb M') (maxL := ab_mL M') (b := μ a) ⟨X.1, X.2.1, X.2.2.1, X.2.2.2.1, X.2.2.2.2.2.2.1⟩ hM
    ⟨callB_of na X.2.2.2.2.2.2.1 (ab_GoodIn hcode.1) (by unfold ab_wsM; rw [ab_cw_n hM', hr]) rfl rfl (X.2.2.2.2.2.2.1 _ h4) (X.2.2.2.2.2.2.1 _ h1) ⟨hy.1, hy.2, hn⟩ ⟨by show d + 10 + 1 ≤ _; omega, by show 8 + (ab_mL M' + 11) + (60 * d + 200) ≤ _; omega⟩, hnm, X.2.2.2.2.2.2.1 _ h2⟩
    ⟨ab_PC_blind, fun U hU hW => ⟨rfl, by rw [hU]; exact At.1, X.2.2.2.2.2.2.2.1.to hW At.2.2.2.2 hU⟩⟩ rfl (by simpa using hlen') At.2.1.1 ?_ (ab_room hsum) hd ⟨hcl, hsl⟩
  show stk.map (ab_cv B μ) = _
  rw [ab_args_rev hstk]
  simp [ab_cv]
/-- a nest mate's constructor's call -/
theorem ab_s_callIN {hs : List (Nat × Nat × Nat)} {M pc M' na i : Nat} {host : String} {sh : Nat × Nat} (hhs : ab_hok M pc hs) (hM' : M' ≠ ab_hM) (hd : decode (ab_mb M) pc = .ok (.invokespecial i, 3)) (hy : (ab_my M').cls ≠ "java/lang/invoke/MethodHandle" ∧ (ab_my M').cls ≠ "java/lang/invoke/VarHandle") (hn : (parseMethodDescriptor (ab_my M').desc).map (fun d => d.parameters.length) = some na) (hL : ab_mL M' ≤ 40) (hr : ab_mr M' = none) (hnm : (ab_my M').name = "<init>")
    (hcode : ab_cw M' ∈ ab_TG ∧ plainName (ab_my M').cls = true) (h1 : Cond.methodLinkNest (ab_my M).cls i (ab_my M') host ∈ ab_TN) (h2 : Cond.instanceMethod (ab_my M') ∈ ab_TG) (h4 : Cond.initialized (ab_my M').cls ∈ ab_TG) :
    ab_Sn B M pc (ab_o_call (some sh) hs M' (ab_mL M') (na + 1) false (pc + 3)) := by
  refine ab_call hhs rfl hcode ?_
  intro p l e R s m args below meth c H locs cells slots g A μ h ls d mc ms r as rest stk loc hlen hstk hsum hrc X At hM hf hlo hcl hsl
  obtain ⟨a, as', rfl, hsh⟩ := ab_rc_some hrc
  have hlen' : as'.length = na := by simpa using hlen
  refine vx_runIN (As := as'.map (ab_cv B μ)) (n := na) (ws := ab_wsM M') (Ts := ab_TG) (bytes := ab_mb M') (maxL := ab_mL M') (b := μ a) (host := host) ⟨X.1, X.2.1, X.2.2.1, X.2.2.2.1, X.2.2.2.2.2.2.1⟩ hM
    ⟨va_cnB na X.2.2.2.2.2.2.1 (ab_GoodIn hcode.1) (by unfold ab_wsM; rw [ab_cw_n hM', hr]) rfl rfl (X.2.2.2.2.2.2.2.1.2.2.1 _ h1) (X.2.2.2.2.2.2.1 _ h4) ⟨hy.1, hy.2, hn⟩ ⟨by show d + 10 + 1 ≤ _; omega, by show 8 + (ab_mL M' + 11) + (60 * d + 200) ≤ _; omega⟩, hnm, X.2.2.2.2.2.2.1 _ h2⟩
    ⟨ab_PC_blind, fun U hU hW => ⟨rfl, by rw [hU]; exact At.1, X.2.2.2.2.2.2.2.1.to hW At.2.2.2.2 hU⟩⟩ rfl (by simpa using hlen') At.2.1.1 ?_ (ab_room hsum) hd ⟨hcl, hsl⟩
  show stk.map (ab_cv B μ) = _
  rw [ab_args_rev hstk]
  simp [ab_cv]
/-- a static call of the method with a table -/
theorem ab_s_callSX {M pc M' na i : Nat} {v : Bool} (hhs : ab_hok M pc []) (hM' : M' = ab_hM) (hd : decode (ab_mb M) pc = .ok (.invokestatic i, 3)) (hy : (ab_my M').cls ≠ "java/lang/invoke/MethodHandle" ∧ (ab_my M').cls ≠ "java/lang/invoke/VarHandle") (hn : (parseMethodDescriptor (ab_my M').desc).map (fun d => d.parameters.length) = some na) (hL : ab_mL M' ≤ 40)
    (hcode : ab_cw M' ∈ ab_TG ∧ plainName (ab_my M').cls = true) (h1 : Cond.methodLink (ab_my M).cls i (ab_my M') ∈ ab_TG) (h2 : Cond.static (ab_my M') ∈ ab_TG) (h4 : Cond.initialized (ab_my M').cls ∈ ab_TG) :
    ab_Sn B M pc (ab_o_call none [] M' (ab_mL M') na v (pc + 3)) := by
  subst hM'
  refine ab_call hhs rfl hcode ?_
  intro p l e R s m args below meth c H locs cells slots g A μ h ls d mc ms r as rest stk loc hlen hstk hsum hrc X At hM hf hlo hcl hsl
  have hGI : GoodIn ab_TG (va_wsS (ab_my M).cls i (ab_my ab_hM) (ab_wsM ab_hM)) := fun w hw => by
    unfold va_wsS at hw
    rcases List.mem_append.mp hw with q | q
    · have h9 : w ∈ ab_TG := by
        simp only [List.mem_cons, List.not_mem_nil, or_false] at q
        rcases q with q | q | q <;> subst q <;> assumption
      exact ⟨h9, good_of_word (ab_good w h9)⟩
    · exact ab_GoodIn hcode.1 w q
  refine vx_runSX (hh := ab_hT) (As := as.map (ab_cv B μ)) (n := na) (ws := ab_wsM ab_hM) (Ts := ab_TG) ⟨X.1, X.2.1, X.2.2.1, X.2.2.2.1, X.2.2.2.2.2.2.1⟩ hM
    (vx_cwSW na X.2.2.2.2.2.2.1 hGI (by unfold ab_wsM; rw [ab_cw_h]) rfl rfl ⟨hy.1, hy.2, hn⟩ ⟨by show d + 10 + 1 ≤ _; omega, by show 8 + (ab_mL ab_hM + 11) + (60 * d + 200) ≤ _; omega⟩)
    ⟨ab_PC_blind, fun U hU hW => ⟨rfl, by rw [hU]; exact At.1, X.2.2.2.2.2.2.2.1.to hW At.2.2.2.2 hU⟩⟩ rfl (by simpa using hlen) At.2.1.1 (ab_args_rev hstk) (ab_room hsum) hd ⟨hcl, hsl⟩
end
end
section
/-! A RUN OF THE ABSTRACT MACHINE IS ONE OF THE REAL MACHINE -/
section
variable {B : ab_B}
theorem ab_tableOf_nil : tableOf [] = [] := rfl
/-- a method's body by its number, with a table or without -/
theorem ab_ofM {l : Launch} {M : Nat} {rm : Room} {Pc : Array Value → State → Prop} {Qc : Array Value → State → Outcome → State → Prop} {XC : String → State → State → Prop} {mc ms : Nat} {free : Addr → Prop} (hy : plainName (ab_my M).cls = true)
    (body : ∀ p e s m args below meth c s₁, BodyLoose p l (ab_my M) (headSpec (ab_wsM M) rm) (ab_mb M) (ab_mL M) (ab_mr M) e s m args below meth c s₁ → c.maxLocals = ab_mL M → c.exceptionTable.toList = tableOf (ab_tb M) → Pc args s →
      W p l e (headSpec (ab_wsM M) rm).room s m args below meth c s.heap [] 0 0 (vx_MQ below Qc XC args s mc ms free) (entryFrame m args (ab_mL M))) : vx_Met l (ab_my M) (ab_wsM M) rm Pc Qc XC mc ms free := by
  by_cases hM : M = ab_hM
  · subst hM
    refine vx_ofWH (cc := ab_mb ab_hM) (maxL := ab_mL ab_hM) (ret := ab_mr ab_hM) (hh := ab_hT) hy (by unfold ab_wsM; rw [ab_cw_h]) (fun p e s m args below meth c s₁ BL hml hv => ?_)
    refine body p e s m args below meth c s₁ BL hml ?_ hv
    have h9 := atoms_spec (ws := ab_wsM ab_hM) BL.pre _ (show Cond.codeWith (ab_my ab_hM) (ab_mb ab_hM) (ab_mL ab_hM) (ab_mr ab_hM) ab_hT ∈ ab_wsM ab_hM from by unfold ab_wsM; rw [ab_cw_h]; exact List.mem_cons_self)
    exact (vx_table (x := ab_my ab_hM) BL h9).trans (by unfold ab_tb; rw [if_pos rfl])
  · refine vx_ofW (cc := ab_mb M) (maxL := ab_mL M) (ret := ab_mr M) hy (by unfold ab_wsM; rw [ab_cw_n hM]) (fun p e s m args below meth c s₁ BL hml ht hv => ?_)
    refine body p e s m args below meth c s₁ BL hml ?_ hv
    rw [ab_tb_n hM, ab_tableOf_nil]
    exact List.eq_nil_iff_forall_not_mem.mpr (fun x hx => ht x hx)
section
variable {st : Nat → Nat → ab_O}
theorem ab_mono (hS : ∀ M pc, ab_Sn B M pc (st M pc)) : ∀ (n d M pc : Nat) (loc : ab_M) (stk : List ab_V) (h : ab_H) (r : ab_T), ab_run st n d M pc loc stk h = some r → ab_kc h ≤ ab_kc r.2 ∧ ab_ks h ≤ ab_ks r.2 ∧ ab_n h ≤ ab_n r.2 := by
  intro n
  induction n with
  | zero => intro d M pc loc stk h r hr; cases hr
  | succ n ih =>
    intro d M pc loc stk h r hr
    have hs := hS M pc loc stk h
    rw [ab_run] at hr
    cases hP : st M pc loc stk h with
    | inl o =>
      rw [hP] at hr hs
      cases o with
      | none => cases hr
      | some r' => cases hr; exact ⟨hs.1, hs.2.1, hs.2.2.1⟩
    | inr q =>
      cases q with
      | inl q =>
        obtain ⟨pc', loc', stk', h'⟩ := q
        rw [hP] at hr hs
        obtain ⟨i1, i2, i3⟩ := ih _ _ _ _ _ _ _ hr
        exact ⟨Nat.le_trans hs.1 i1, Nat.le_trans hs.2.1 i2, Nat.le_trans hs.2.2.1 i3⟩
      | inr q =>
        obtain ⟨⟨M', loc', h'⟩, k⟩ := q
        rw [hP] at hr hs
        obtain ⟨rfl, as, -, -, -, -, hk⟩ := hs
        cases d with
        | zero => cases hr
        | succ d =>
          simp only at hr
          cases h1 : ab_run st n d M' 0 loc' [] h' with
          | none => rw [h1] at hr; cases hr
          | some r1 =>
            rw [h1] at hr
            obtain ⟨i1, i2, i3⟩ := ih _ _ _ _ _ _ _ h1
            obtain ⟨f1, f2, -⟩ := hk r1
            simp only at hr
            cases h2 : k r1 with
            | none => rw [h2] at hr; cases hr
            | some q =>
              rw [h2] at hr
              cases q with
              | inl r' =>
                cases hr
                rw [f1 _ h2]
                exact ⟨i1, i2, i3⟩
              | inr q =>
                obtain ⟨pc', loc2, stk2, h2'⟩ := q
                have e := f2 _ h2
                simp only at e
                subst e
                obtain ⟨j1, j2, j3⟩ := ih _ _ _ _ _ _ _ hr
                exact ⟨Nat.le_trans i1 j1, Nat.le_trans i2 j2, Nat.le_trans i3 j3⟩
theorem ab_ent_len : ∀ (as : List ab_V) (n : Nat), ab_lsz as ≤ n → (ab_ent n as).length = n
  | [], n, _ => by simp [ab_ent]
  | v :: as, n, h => by
    unfold ab_lsz at h
    simp only [List.map_cons, List.sum_cons] at h
    unfold ab_ent
    cases hv : ab_lg v with
    | true =>
      rw [hv] at h
      simp only [if_true] at h ⊢
      have := ab_ent_len as (n - 2) (by unfold ab_lsz; omega)
      simp only [List.length_cons, this]
      omega
    | false =>
      rw [hv] at h
      simp only [Bool.false_eq_true, if_false] at h ⊢
      have := ab_ent_len as (n - 1) (by unfold ab_lsz; omega)
      simp only [List.length_cons, this]
      omega
theorem ab_ent_mem : ∀ (as : List ab_V) (n : Nat) (v : ab_V), some v ∈ ab_ent n as → v ∈ as
  | [], n, v, h => by
    have := (List.mem_replicate.mp h).2
    cases this
  | x :: as, n, v, h => by
    unfold ab_ent at h
    split at h
    · rcases List.mem_cons.mp h with e | h
      · cases e; exact List.mem_cons_self
      · rcases List.mem_cons.mp h with e | h
        · cases e
        · exact List.mem_cons_of_mem _ (ab_ent_mem as _ v h)
    · rcases List.mem_cons.mp h with e | h
      · cases e; exact List.mem_cons_self
      · exact List.mem_cons_of_mem _ (ab_ent_mem as _ v h)
theorem ab_ent_args {μ : Nat → Nat} : ∀ (as : List ab_V) (n j i : Nat) (v : ab_V), (ab_ent n as)[i]? = some (some v) → (j + i, ab_cv B μ v) ∈ lv_args j (as.map (ab_cv B μ))
  | [], n, j, i, v, h => by
    have := (List.mem_replicate.mp (List.mem_of_getElem? h)).2
    cases this
  | x :: as, n, j, i, v, h => by
    unfold ab_ent at h
    show _ ∈ (j, ab_cv B μ x) :: lv_args (if (ab_cv B μ x).category = 2 then j + 2 else j + 1) (as.map (ab_cv B μ))
    rw [ab_cv_cat]
    cases hx : ab_lg x with
    | true =>
      rw [hx] at h
      simp only [if_true] at h ⊢
      match i, h with
      | 0, h => cases h; exact List.mem_cons_self
      | 1, h => cases h
      | i + 2, h =>
        have := ab_ent_args (μ := μ) as (n - 2) (j + 2) i v h
        rw [show j + (i + 2) = j + 2 + i by omega]
        exact List.mem_cons_of_mem _ this
    | false =>
      rw [hx] at h
      simp only [Bool.false_eq_true, if_false] at h ⊢
      match i, h with
      | 0, h => cases h; exact List.mem_cons_self
      | i + 1, h =>
        have := ab_ent_args (μ := μ) as (n - 1) (j + 1) i v h
        rw [show j + (i + 1) = j + 1 + i by omega]
        exact List.mem_cons_of_mem _ this
theorem ab_sl_len {μ : Nat → Nat} : ∀ as : List ab_V, (lg_sl (as.map (ab_cv B μ))).length = ab_lsz as
  | [] => rfl
  | x :: as => by
    have ih := ab_sl_len (μ := μ) as
    unfold lg_sl ab_lsz at *
    simp only [List.map_cons, List.flatMap_cons, List.length_append, List.sum_cons, ih, ab_cv_cat]
    cases ab_lg x <;> rfl
theorem ab_ent_lh {μ : Nat → Nat} {as : List ab_V} {n : Nat} (h : ab_lsz as ≤ n) : ab_lh B n μ ((lg_sl (as.map (ab_cv B μ)) ++ List.replicate (n - (lg_sl (as.map (ab_cv B μ))).length) Slot.unset).toArray) (ab_ent n as) := by
  have hl := lv_entry (as.map (ab_cv B μ)) (n := n) (by rw [ab_sl_len]; exact h)
  refine ⟨hl.1, hl.2.1, ab_ent_len as n h, fun i v hv => ?_⟩
  have := ab_ent_args (B := B) (μ := μ) as n 0 i v hv
  rw [Nat.zero_add] at this
  exact hl.2.2 _ this
theorem ab_sound (hS : ∀ M pc, ab_Sn B M pc (st M pc)) : ∀ (n d M pc : Nat) (loc : ab_M) (stk : List ab_V) (h : ab_H) (r : ab_T), ab_run st n d M pc loc stk h = some r →
    ∀ {p : Program} {l : Launch} {e : Env} {R : Room} {s : State} {m : MethodId} {args : Array Value} {below : List Frame} {meth : Method} {c : Code} {H : Heap} {locs : List Loc} {cells slots : Nat} {g : ab_G} {A : Nat → Prop} {μ μ0 : Nat → Nat} {h0 : ab_H} {ls : Array Slot} {b1 b2 : Nat},
    ab_X B M g A p l s m args meth c → ab_At B M g A μ h H ls loc stk s locs → cells + b1 = ab_kc h → slots + b2 = ab_ks h → ab_kc r.2 = R.cells + b1 → ab_ks r.2 = R.slots + b2 → d + 10 ≤ R.frames → 60 * d + 200 ≤ R.locals → (∀ i, i < ab_n h0 → μ i = μ0 i) → ab_n h0 ≤ ab_n h →
    W p l e R s m args below meth c H locs cells slots (vx_MQ below (ab_QC B g A μ0 h0 r) (ab_XC B g A μ0 h0 r) args s R.cells R.slots A) (F0 m pc ls (stk.map (ab_cv B μ))) := by
  intro n
  induction n with
  | zero => intro d M pc loc stk h r hr; cases hr
  | succ n ih =>
    intro d M pc loc stk h r hr p l e R s m args below meth c H locs cells slots g A μ μ0 h0 ls b1 b2 X At c1 c2 c3 c4 c5 c6 hμ hn
    have hs := hS M pc loc stk h
    have hm := ab_mono hS (n + 1) d M pc loc stk h r hr
    rw [ab_run] at hr
    cases hP : st M pc loc stk h with
    | inl o =>
      rw [hP] at hr hs
      cases o with
      | none => cases hr
      | some r' =>
        cases hr
        exact hs.2.2.2 X At c1 c2 c3 c4 (by omega) (by omega) trivial hμ hn
    | inr q =>
      cases q with
      | inl q =>
        obtain ⟨pc', loc', stk', h'⟩ := q
        rw [hP] at hr hs
        have hm2 := ab_mono hS n d M pc' loc' stk' h' r hr
        refine hs.2.2.2 X At c1 c2 (by omega) (by omega) (by omega) (by omega) trivial (fun μ' H' locs' cells' slots' ls' e1 At' e2 e3 => ?_)
        exact ih d M pc' loc' stk' h' r hr X At' e2 e3 c3 c4 c5 c6 (fun i hi => (e1 i (Nat.lt_of_lt_of_le hi hn)).trans (hμ i hi)) (Nat.le_trans hn hs.2.2.1)
      | inr q =>
        obtain ⟨⟨M', loc', h'⟩, k⟩ := q
        rw [hP] at hr hs
        obtain ⟨rfl, as, rfl, has, hsz, hcode, hk⟩ := hs
        cases d with
        | zero => cases hr
        | succ d =>
          simp only at hr
          cases h1 : ab_run st n d M' 0 (ab_ent (ab_mL M') as) [] h' with
          | none => rw [h1] at hr; cases hr
          | some r1 =>
            rw [h1] at hr
            have hm1 := ab_mono hS n d M' 0 _ [] h' r1 h1
            obtain ⟨f1, f2, f3⟩ := hk r1
            have hCM : ab_CM B l M' g A μ h' as r1 d := by
              intro mc ms hmc hms
              refine ab_ofM hcode.2 ?_
              · intro p e s m args below meth c s₁ BL hml ht hv
                obtain ⟨rfl, hR, hF⟩ := hv
                have hts := atoms_spec (ws := ab_wsM M') BL.pre
                have hown : s.vm.findClass (ab_my M').cls = some m.cls := findClass_of_methodNamed BL.named
                rw [lg_entry_eq]
                refine ih d M' 0 _ [] h' r1 h1 (R := { frames := d + 10, cells := mc, slots := ms, locals := 60 * d + 200 }) (b1 := ab_kc h') (b2 := ab_ks h') (μ := μ) ⟨BL.exec, BL.bytes, hml, hown, BL.returns, BL.notSynchronized, fun w hw => hts w (List.mem_cons_of_mem _ hw), hF, X.2.2.2.2.2.2.2.2.1, (name_of_methodNamed BL.named BL.method).1, ht⟩ ⟨hR, ab_ent_lh hsz, (fun v hv => absurd hv List.not_mem_nil), fun v hv => At.2.2.1 v (has v (ab_ent_mem as _ v hv)), va_S.rf⟩ (by omega) (by omega) (by show ab_kc r1.2 = mc + _; omega) (by show ab_ks r1.2 = ms + _; omega) (Nat.le_refl _) (Nat.le_refl _) (fun _ _ => rfl) (Nat.le_refl _)
            simp only at hr
            cases h2 : k r1 with
            | none => rw [h2] at hr; cases hr
            | some q =>
              rw [h2] at hr
              cases q with
              | inl r' =>
                cases hr
                have e9 := f1 _ h2
                refine f3 hCM hm1.1 hm1.2.1 hm1.2.2 X At c1 c2 (by rw [← e9]; omega) (by rw [← e9]; omega) (by omega) (by omega) hμ hn (fun r'' hk' => ?_) (fun hk' => by rw [h2] at hk'; cases hk') (fun pc' loc' stk' h' hk' => by rw [h2] at hk'; cases hk')
                rw [h2] at hk'
                cases hk'
                exact ⟨rfl, c3, c4⟩
              | inr q =>
                obtain ⟨pc', loc2, stk2, h2'⟩ := q
                have e9 := f2 _ h2
                simp only at e9 hr
                subst e9
                have hm3 := ab_mono hS n (d + 1) M pc' loc2 stk2 r1.2 r hr
                refine f3 hCM hm1.1 hm1.2.1 hm1.2.2 X At c1 c2 (by omega) (by omega) (by omega) (by omega) hμ hn (fun r'' hk' => by rw [h2] at hk'; cases hk') (fun hk' => by rw [h2] at hk'; cases hk') (fun pc9 loc9 stk9 h9 hk' => ?_)
                rw [h2] at hk'
                cases hk'
                intro μ' H' locs' cells' slots' ls' e1 At' e2 e3
                exact ih (d + 1) M pc' loc2 stk2 r1.2 r hr X At' e2 e3 c3 c4 c5 c6 (fun i hi => (e1 i (Nat.lt_of_lt_of_le hi hn)).trans (hμ i hi)) (Nat.le_trans hn hm1.2.2)
end
end
end
