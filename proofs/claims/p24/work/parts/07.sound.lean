set_option linter.all false
/-! EACH INSTRUCTION OF THE ABSTRACT MACHINE STANDS FOR ONE OF THE REAL MACHINE -/
section
variable {B : ab_B}
theorem ab_cmp_eq (a b : Int64) : lg_cmp a b = Int32.ofInt (ab_cmp a b) := by
  unfold lg_cmp ab_cmp
  by_cases h : b < a
  · rw [if_pos h, if_pos h]; decide
  · rw [if_neg h, if_neg h]
    by_cases h2 : a = b
    · rw [if_pos h2, if_pos h2]; decide
    · rw [if_neg h2, if_neg h2]; decide
def ab_TY (g : ab_G) : List (ClassId × FieldType) := [(g.2.1, .int), (g.2.2.1, .boolean), (g.2.2.2.1, .array .int), (g.2.2.2.2, .byte)]
/-- a text of the number i: what the abstract machine knows -/
def ab_ln (i : Nat) : Nat := if i < 4 then 1 else 0
/-- the exceptions by number -/
def ab_ex (E : Nat) : String := if E = 1 then "java/lang/IllegalArgumentException" else if E = 2 then "java/lang/IndexOutOfBoundsException" else "java/lang/IllegalStateException"
/-- what is known of a state beside the cells -/
def ab_F (B : ab_B) (g : ab_G) (A : Nat → Prop) (U : State) : Prop := va_K g.1 ab_cl (ab_TY g) U ∧ (∀ q : Nat, U.heap.size ≤ q → A q) ∧ (∀ w ∈ ab_TN, va_Nw w U) ∧ (∀ x ∈ ab_TS, ∃ sa, vk_R x.1 x.2.1 x.2.2 sa U) ∧ vx_Zq Bundle.tN "UNASSIGNED_STACK" Bundle.steD A U U.heap ∧ vx_Zq Bundle.tN "SUPPRESSED_SENTINEL" Bundle.listD A U U.heap ∧ ¬ A B.1 ∧ B.1 < U.heap.size ∧ va_X B.1 B.2.1 B.2.2.1 U U.heap ∧ (∀ i : Nat, i < 5 → vk_S 1 [ab_ln i] [[Int32.ofInt (ab_tx i)]] (fun _ => B.2.2.2.1 i) (fun _ => B.2.2.2.2 i) A U U.heap) ∧ (∀ x ∈ ab_LT, vk_R x.1 x.2.1 x.2.2.1 (B.2.2.2.1 x.2.2.2) U) ∧ va_Z "java/lang/String" "COMPACT_STRINGS" "Z" (.int 1) A U U.heap ∧ (∀ E E' : Nat, 1 ≤ E → E ≤ 3 → 1 ≤ E' → E' ≤ 3 → E ≠ E' → va_Nc (ab_ex E) (ab_ex E') U) ∧ va_AOA .int U
theorem ab_nest_warm {w : Cond} (hw : w ∈ ab_TN) {s U : State} (hW : s.WarmedH U.vm) (h : va_Nw w s) : va_Nw w U := by
  have h2 : ab_nest w = true := (List.mem_filter.mp hw).2
  cases w <;> first | exact h.warmF hW | exact h.warmM hW | exact h.warmC hW | exact h.warmD hW | (simp [ab_nest] at h2)
theorem ab_F.to {g : ab_G} {A : Nat → Prop} {s U : State} {H : Heap} {locs : List Loc} (h : ab_F B g A s) (hW : s.WarmedH U.vm) (hS : va_S A s.heap H locs) (hU : U.heap = H) : ab_F B g A U := by
  obtain ⟨h1, h2, h3, h4, h5, h6, h7, h8, h9, i1, i2, i3, i4, i5⟩ := h
  subst hU
  refine ⟨va_K.moved hW.alike h1, fun q hq => h2 q (Nat.le_trans hS.1 hq), fun w hw => ab_nest_warm hw hW (h3 w hw), fun x hx => ?_, vx_Zq.moved hW.alike (h5.kept hS.2.1), vx_Zq.moved hW.alike (h6.kept hS.2.1), h7, Nat.lt_of_lt_of_le h8 hS.1, va_X.moved hW.alike (h9.kept (hS.2.1 _ h8 h7)), fun i hi => vk_S.moved hW.alike ((i1 i hi).kept hS.2.1), fun x hx => vk_R.warm hW (i2 x hx), va_Z.moved hW.alike (i3.kept hS.2.1), fun E E' a b c d e => va_Nc.moved hW.alike (i4 E E' a b c d e), va_AOA.moved hW.alike i5⟩
  obtain ⟨sa, hsa⟩ := h4 x hx
  exact ⟨sa, vk_R.warm hW hsa⟩
theorem ab_F.calling {g : ab_G} {A : Nat → Prop} {U : State} {f : JFrame} {mk : MethodId} {a : Array Value} (h : ab_F B g A U) : ab_F B g A (U.calling f mk a) :=
  ab_F.to (U := U.calling f mk a) (H := U.heap) (locs := []) h (State.WarmedH.refl U) va_S.rf rfl
/-- what a body of the method M may use -/
def ab_X (B : ab_B) (M : Nat) (g : ab_G) (A : Nat → Prop) (p : Program) (l : Launch) (s : State) (m : MethodId) (args : Array Value) (meth : Method) (c : Code) : Prop :=
  p.tables.exec = Jvm.exec ∧ c.code = ab_mb M ∧ c.maxLocals = ab_mL M ∧ s.vm.findClass (ab_my M).cls = some m.cls ∧ meth.sig.returnType = ab_mr M ∧ meth.locks = false ∧ (∀ w ∈ ab_TG, w.before args s = true) ∧ ab_F B g A s ∧ l.stackTraces = false ∧ meth.name = (ab_my M).name ∧ c.exceptionTable.toList = tableOf (ab_tb M)
def ab_At (B : ab_B) (M : Nat) (g : ab_G) (A : Nat → Prop) (μ : Nat → Nat) (h : ab_H) (H : Heap) (ls : Array Slot) (loc : ab_M) (stk : List ab_V) (s : State) (locs : List Loc) : Prop :=
  ab_Rep B g A μ h H ∧ ab_lh B (ab_mL M) μ ls loc ∧ (∀ v ∈ stk, ab_vs (ab_n h) v) ∧ (∀ v, some v ∈ loc → ab_vs (ab_n h) v) ∧ va_S A s.heap H locs
/-- from (loc, stk, h) at pc to (loc', stk', h') at pc' -/
def ab_Sj (B : ab_B) (M pc : Nat) (loc : ab_M) (stk : List ab_V) (h : ab_H) (pc' : Nat) (loc' : ab_M) (stk' : List ab_V) (h' : ab_H) : Prop :=
  ab_kc h ≤ ab_kc h' ∧ ab_ks h ≤ ab_ks h' ∧ ab_n h ≤ ab_n h' ∧
  ∀ {p : Program} {l : Launch} {e : Env} {R : Room} {s : State} {m : MethodId} {args : Array Value} {below : List Frame} {meth : Method} {c : Code} {H : Heap} {locs : List Loc} {cells slots : Nat} {Q : State → Prop} {g : ab_G} {A : Nat → Prop} {μ : Nat → Nat} {ls : Array Slot} {b1 b2 : Nat},
    ab_X B M g A p l s m args meth c → ab_At B M g A μ h H ls loc stk s locs → cells + b1 = ab_kc h → slots + b2 = ab_ks h → ab_kc h' ≤ R.cells + b1 → ab_ks h' ≤ R.slots + b2 → 10 ≤ R.frames → 200 ≤ R.locals → True →
    (∀ (μ' : Nat → Nat) (H' : Heap) (locs' : List Loc) (cells' slots' : Nat) (ls' : Array Slot), (∀ i, i < ab_n h → μ' i = μ i) → ab_At B M g A μ' h' H' ls' loc' stk' s locs' → cells' + b1 = ab_kc h' → slots' + b2 = ab_ks h' →
      W p l e R s m args below meth c H' locs' cells' slots' Q (F0 m pc' ls' (stk'.map (ab_cv B μ')))) →
    W p l e R s m args below meth c H locs cells slots Q (F0 m pc ls (stk.map (ab_cv B μ)))
/-- an instruction that changes neither heap nor locals -/
theorem ab_Sj.pure {M pc pc' : Nat} {loc : ab_M} {stk stk' : List ab_V} {h : ab_H}
    (hv : (∀ v ∈ stk, ab_vs (ab_n h) v) → (∀ v, some v ∈ loc → ab_vs (ab_n h) v) → ∀ v ∈ stk', ab_vs (ab_n h) v)
    (hw : ∀ {p : Program} {l : Launch} {e : Env} {R : Room} {s : State} {m : MethodId} {args : Array Value} {below : List Frame} {meth : Method} {c : Code} {H : Heap} {locs : List Loc} {cells slots : Nat} {Q : State → Prop} {g : ab_G} {A : Nat → Prop} {μ : Nat → Nat} {ls : Array Slot},
      ab_X B M g A p l s m args meth c → ab_At B M g A μ h H ls loc stk s locs → cells ≤ R.cells → slots ≤ R.slots → 10 ≤ R.frames → 200 ≤ R.locals → True → W p l e R s m args below meth c H locs cells slots Q (F0 m pc' ls (stk'.map (ab_cv B μ))) → W p l e R s m args below meth c H locs cells slots Q (F0 m pc ls (stk.map (ab_cv B μ)))) :
    ab_Sj B M pc loc stk h pc' loc stk' h := by
  refine ⟨Nat.le_refl _, Nat.le_refl _, Nat.le_refl _, ?_⟩
  intro p l e R s m args below meth c H locs cells slots Q g A μ ls b1 b2 X At h1 h2 h3 h4 h5 h6 h7 k
  exact hw X At (by omega) (by omega) h5 h6 h7 (k μ H locs cells slots ls (fun _ _ => rfl) ⟨At.1, At.2.1, hv At.2.2.1 At.2.2.2.1, At.2.2.2.1, At.2.2.2.2⟩ h1 h2)
def ab_QC (B : ab_B) (g : ab_G) (A : Nat → Prop) (μ : Nat → Nat) (h : ab_H) (r : ab_T) : Array Value → State → Outcome → State → Prop := fun _ st oc t =>
  ∃ (v : Option ab_V) (μ' : Nat → Nat), r.1 = .inl v ∧ oc = .returned (v.map (ab_cv B μ')) ∧ (∀ i, i < ab_n h → μ' i = μ i) ∧ ab_Rep B g A μ' r.2 t.heap ∧ (∀ x, v = some x → ab_vs (ab_n r.2) x) ∧ va_F A st t
def ab_XC (B : ab_B) (g : ab_G) (A : Nat → Prop) (μ : Nat → Nat) (h : ab_H) (r : ab_T) : String → State → State → Prop := fun E st t =>
  ∃ (n : Nat) (μ' : Nat → Nat), r.1 = .inr n ∧ E = ab_ex n ∧ (∀ i, i < ab_n h → μ' i = μ i) ∧ ab_Rep B g A μ' r.2 t.heap ∧ va_F A st t
/-- the method ends at pc with the result r -/
def ab_Sd (B : ab_B) (M pc : Nat) (loc : ab_M) (stk : List ab_V) (h : ab_H) (r : ab_T) : Prop :=
  ab_kc h ≤ ab_kc r.2 ∧ ab_ks h ≤ ab_ks r.2 ∧ ab_n h ≤ ab_n r.2 ∧
  ∀ {p : Program} {l : Launch} {e : Env} {R : Room} {s : State} {m : MethodId} {args : Array Value} {below : List Frame} {meth : Method} {c : Code} {H : Heap} {locs : List Loc} {cells slots : Nat} {g : ab_G} {A : Nat → Prop} {μ μ0 : Nat → Nat} {h0 : ab_H} {ls : Array Slot} {b1 b2 : Nat},
    ab_X B M g A p l s m args meth c → ab_At B M g A μ h H ls loc stk s locs → cells + b1 = ab_kc h → slots + b2 = ab_ks h → ab_kc r.2 = R.cells + b1 → ab_ks r.2 = R.slots + b2 → 10 ≤ R.frames → 200 ≤ R.locals → True → (∀ i, i < ab_n h0 → μ i = μ0 i) → ab_n h0 ≤ ab_n h →
    W p l e R s m args below meth c H locs cells slots (vx_MQ below (ab_QC B g A μ0 h0 r) (ab_XC B g A μ0 h0 r) args s R.cells R.slots A) (F0 m pc ls (stk.map (ab_cv B μ)))
def ab_wsM (M : Nat) : List Cond := ab_cw M :: ab_TG
def ab_PC (B : ab_B) (g : ab_G) (A : Nat → Prop) (μ : Nat → Nat) (h : ab_H) (as : List ab_V) : Array Value → State → Prop := va_Pc (as.map (ab_cv B μ)) (fun U => ab_Rep B g A μ h U.heap ∧ ab_F B g A U)
/-- the contract of the method M at the arguments as and the heap h, with the result r, calls at most d deep -/
def ab_CM (B : ab_B) (l : Launch) (M : Nat) (g : ab_G) (A : Nat → Prop) (μ : Nat → Nat) (h : ab_H) (as : List ab_V) (r : ab_T) (d : Nat) : Prop :=
  ∀ mc ms : Nat, ab_kc h + mc = ab_kc r.2 → ab_ks h + ms = ab_ks r.2 → vx_Met l (ab_my M) (ab_wsM M) ({ frames := d + 10, cells := mc, slots := ms, locals := 60 * d + 200 } : Room) (ab_PC B g A μ h as) (ab_QC B g A μ h r) (ab_XC B g A μ h r) mc ms A
/-- a call -/
def ab_Sc (B : ab_B) (M pc : Nat) (loc : ab_M) (stk : List ab_V) (h : ab_H) (M' : Nat) (loc0 : ab_M) (h0 : ab_H) (k : ab_T → Option (ab_T ⊕ ab_S)) : Prop :=
  h0 = h ∧ ∃ as : List ab_V, loc0 = ab_ent (ab_mL M') as ∧ (∀ v ∈ as, v ∈ stk) ∧ (ab_lsz as ≤ ab_mL M') ∧ (ab_cw M' ∈ ab_TG ∧ plainName (ab_my M').cls = true) ∧
  ∀ r : ab_T, (∀ r', k r = some (.inl r') → r'.2 = r.2) ∧ (∀ q, k r = some (.inr q) → q.2.2.2 = r.2) ∧
  ∀ {p : Program} {l : Launch} {e : Env} {R : Room} {s : State} {m : MethodId} {args : Array Value} {below : List Frame} {meth : Method} {c : Code} {H : Heap} {locs : List Loc} {cells slots : Nat} {g : ab_G} {A : Nat → Prop} {μ μ0 : Nat → Nat} {hh : ab_H} {ls : Array Slot} {b1 b2 d : Nat} {rr : ab_T},
    ab_CM B l M' g A μ h as r d → ab_kc h ≤ ab_kc r.2 → ab_ks h ≤ ab_ks r.2 → ab_n h ≤ ab_n r.2 → ab_X B M g A p l s m args meth c → ab_At B M g A μ h H ls loc stk s locs → cells + b1 = ab_kc h → slots + b2 = ab_ks h → ab_kc r.2 ≤ R.cells + b1 → ab_ks r.2 ≤ R.slots + b2 → d + 11 ≤ R.frames → 60 * (d + 1) + 200 ≤ R.locals →
    (∀ i, i < ab_n hh → μ i = μ0 i) → ab_n hh ≤ ab_n h → (∀ r', k r = some (.inl r') → r' = rr ∧ ab_kc rr.2 = R.cells + b1 ∧ ab_ks rr.2 = R.slots + b2) → (k r = none → False) →
    (∀ pc' loc' stk' h', k r = some (.inr (pc', loc', stk', h')) → ∀ (μ' : Nat → Nat) (H' : Heap) (locs' : List Loc) (cells' slots' : Nat) (ls' : Array Slot), (∀ i, i < ab_n h → μ' i = μ i) → ab_At B M g A μ' h' H' ls' loc' stk' s locs' → cells' + b1 = ab_kc h' → slots' + b2 = ab_ks h' →
      W p l e R s m args below meth c H' locs' cells' slots' (vx_MQ below (ab_QC B g A μ0 hh rr) (ab_XC B g A μ0 hh rr) args s R.cells R.slots A) (F0 m pc' ls' (stk'.map (ab_cv B μ')))) →
    W p l e R s m args below meth c H locs cells slots (vx_MQ below (ab_QC B g A μ0 hh rr) (ab_XC B g A μ0 hh rr) args s R.cells R.slots A) (F0 m pc ls (stk.map (ab_cv B μ)))
def ab_So (B : ab_B) (M pc : Nat) (loc : ab_M) (stk : List ab_V) (h : ab_H) : ab_P → Prop
  | .inl none => True
  | .inl (some r) => ab_Sd B M pc loc stk h r
  | .inr (.inl (pc', loc', stk', h')) => ab_Sj B M pc loc stk h pc' loc' stk' h'
  | .inr (.inr ((M', loc0, h0), k)) => ab_Sc B M pc loc stk h M' loc0 h0 k
def ab_Sn (B : ab_B) (M pc : Nat) (op : ab_O) : Prop := ∀ (loc : ab_M) (stk : List ab_V) (h : ab_H), ab_So B M pc loc stk h (op loc stk h)
theorem ab_mem_t {n : Nat} {v : ab_V} {l : List ab_V} (h : ∀ x ∈ v :: l, ab_vs n x) : ∀ x ∈ l, ab_vs n x := fun x hx => h x (List.mem_cons_of_mem _ hx)
theorem ab_mem_h {n : Nat} {v : ab_V} {l : List ab_V} (h : ∀ x ∈ v :: l, ab_vs n x) : ab_vs n v := h v List.mem_cons_self
theorem ab_mem_c {n : Nat} {v : ab_V} {l : List ab_V} (h1 : ab_vs n v) (h : ∀ x ∈ l, ab_vs n x) : ∀ x ∈ v :: l, ab_vs n x := fun x hx => (List.mem_cons.mp hx).elim (fun e => by rw [e]; exact h1) (h x)

theorem ab_s_iconst {M pc : Nat} {n : Int} {z : Int} (hd : decode (ab_mb M) pc = .ok (.iconst n, 1)) (hv : Int32.ofInt n = Int32.ofInt z) : ab_Sn B M pc (ab_o_const z (pc + 1)) := fun loc stk h =>
  ab_Sj.pure (fun h1 _ => ab_mem_c (ab_vs_i _ _) h1) (fun X At _ _ _ _ _ k => lv_iconst (v := Int32.ofInt z) X.1 X.2.1 hd hv k)
theorem ab_s_bipush {M pc : Nat} {n : Int} {z : Int} (hd : decode (ab_mb M) pc = .ok (.bipush n, 2)) (hv : (Int8.ofInt n).toInt32 = Int32.ofInt z) : ab_Sn B M pc (ab_o_const z (pc + 2)) := fun loc stk h =>
  ab_Sj.pure (fun h1 _ => ab_mem_c (ab_vs_i _ _) h1) (fun X At _ _ _ _ _ k => lv_bipush (v := Int32.ofInt z) X.1 X.2.1 hd hv k)
theorem ab_s_sipush {M pc : Nat} {n : Int} {z : Int} (hd : decode (ab_mb M) pc = .ok (.sipush n, 3)) (hv : (Int16.ofInt n).toInt32 = Int32.ofInt z) : ab_Sn B M pc (ab_o_const z (pc + 3)) := fun loc stk h =>
  ab_Sj.pure (fun h1 _ => ab_mem_c (ab_vs_i _ _) h1) (fun X At _ _ _ _ _ k => lv_sipush (v := Int32.ofInt z) X.1 X.2.1 hd hv k)
theorem ab_s_ldc {M pc i : Nat} {z : Int} (hd : decode (ab_mb M) pc = .ok (.ldc i, 2)) (hw : Cond.constant (ab_my M).cls i (Int32.ofInt z) ∈ ab_TG) : ab_Sn B M pc (ab_o_const z (pc + 2)) := fun loc stk h =>
  ab_Sj.pure (fun h1 _ => ab_mem_c (ab_vs_i _ _) h1) (fun X At _ _ _ _ _ k => lv_ldc X.1 X.2.1 X.2.2.2.1 (X.2.2.2.2.2.2.1 _ hw) hd k)
theorem ab_s_ldcw {M pc i : Nat} {z : Int} (hd : decode (ab_mb M) pc = .ok (.ldc_w i, 3)) (hw : Cond.constant (ab_my M).cls i (Int32.ofInt z) ∈ ab_TG) : ab_Sn B M pc (ab_o_const z (pc + 3)) := fun loc stk h =>
  ab_Sj.pure (fun h1 _ => ab_mem_c (ab_vs_i _ _) h1) (fun X At _ _ _ _ _ k => lv_ldcw X.1 X.2.1 X.2.2.2.1 (X.2.2.2.2.2.2.1 _ hw) hd k)
theorem ab_s_ldc2 {M pc i : Nat} {x : Int64} (hd : decode (ab_mb M) pc = .ok (.ldc2_w i, 3)) (hw : Cond.constantLong (ab_my M).cls i x ∈ ab_TG) : ab_Sn B M pc (ab_o_lconst x (pc + 3)) := fun loc stk h =>
  ab_Sj.pure (fun h1 _ => ab_mem_c (ab_vs_l _ _) h1) (fun X At _ _ _ _ _ k => lv_ldc2 X.1 X.2.1 X.2.2.2.1 (X.2.2.2.2.2.2.1 _ hw) hd k)
theorem ab_s_lconst {M pc : Nat} {n : Fin 2} {x : Int64} (hd : decode (ab_mb M) pc = .ok (.lconst n, 1)) (hv : Int64.ofNat (n : Nat) = x) : ab_Sn B M pc (ab_o_lconst x (pc + 1)) := fun loc stk h =>
  ab_Sj.pure (fun h1 _ => ab_mem_c (ab_vs_l _ _) h1) (fun X At _ _ _ _ _ k => lv_lconst X.1 X.2.1 hd hv k)
theorem ab_s_iload_n {M pc k : Nat} {n : Fin 4} (hd : decode (ab_mb M) pc = .ok (.iload_n n, 1)) (hi : (n : Nat) = k) : ab_Sn B M pc (ab_o_ild k (pc + 1)) := fun loc stk h => by
  unfold ab_o_ild
  split
  · rename_i hl
    exact ab_Sj.pure (fun h1 _ => ab_mem_c (ab_vs_i _ _) h1) (fun X At _ _ _ _ _ k => lv_iload_n X.1 X.2.1 hd hi (At.2.1.2.2.2 _ _ hl) k)
  · trivial
theorem ab_s_iload {M pc k : Nat} (hd : decode (ab_mb M) pc = .ok (.iload k, 2)) : ab_Sn B M pc (ab_o_ild k (pc + 2)) := fun loc stk h => by
  unfold ab_o_ild
  split
  · rename_i hl
    exact ab_Sj.pure (fun h1 _ => ab_mem_c (ab_vs_i _ _) h1) (fun X At _ _ _ _ _ k => lv_iload X.1 X.2.1 hd (At.2.1.2.2.2 _ _ hl) k)
  · trivial
theorem ab_s_lload_n {M pc k : Nat} {n : Fin 4} (hd : decode (ab_mb M) pc = .ok (.lload_n n, 1)) (hi : (n : Nat) = k) : ab_Sn B M pc (ab_o_lld k (pc + 1)) := fun loc stk h => by
  unfold ab_o_lld
  split
  · rename_i hl
    exact ab_Sj.pure (fun h1 _ => ab_mem_c (ab_vs_l _ _) h1) (fun X At _ _ _ _ _ k => lv_lload_n X.1 X.2.1 hd hi (At.2.1.2.2.2 _ _ hl) k)
  · trivial
theorem ab_s_lload {M pc k : Nat} (hd : decode (ab_mb M) pc = .ok (.lload k, 2)) : ab_Sn B M pc (ab_o_lld k (pc + 2)) := fun loc stk h => by
  unfold ab_o_lld
  split
  · rename_i hl
    exact ab_Sj.pure (fun h1 _ => ab_mem_c (ab_vs_l _ _) h1) (fun X At _ _ _ _ _ k => lv_lload X.1 X.2.1 hd (At.2.1.2.2.2 _ _ hl) k)
  · trivial
theorem ab_s_aload_n {M pc k : Nat} {n : Fin 4} (hd : decode (ab_mb M) pc = .ok (.aload_n n, 1)) (hi : (n : Nat) = k) : ab_Sn B M pc (ab_o_ald k (pc + 1)) := fun loc stk h => by
  unfold ab_o_ald
  split
  · rename_i q hl
    have hm := List.mem_of_getElem? hl
    match q, hl, hm with
    | .inl none, hl, hm => exact ab_Sj.pure (fun h1 _ => ab_mem_c (ab_vs_n _) h1) (fun X At _ _ _ _ _ k => lv_aload_nN X.1 X.2.1 hd hi (At.2.1.2.2.2 _ _ hl) k)
    | .inl (some q), hl, hm => exact ab_Sj.pure (fun h1 h2 => ab_mem_c (h2 _ hm) h1) (fun X At _ _ _ _ _ k => lv_aload_n X.1 X.2.1 hd hi (At.2.1.2.2.2 _ _ hl) k)
    | .inr q, hl, hm => exact ab_Sj.pure (fun h1 h2 => ab_mem_c (h2 _ hm) h1) (fun X At _ _ _ _ _ k => lv_aload_n X.1 X.2.1 hd hi (At.2.1.2.2.2 _ _ hl) k)
  · trivial
theorem ab_s_aload {M pc k : Nat} (hd : decode (ab_mb M) pc = .ok (.aload k, 2)) : ab_Sn B M pc (ab_o_ald k (pc + 2)) := fun loc stk h => by
  unfold ab_o_ald
  split
  · rename_i q hl
    have hm := List.mem_of_getElem? hl
    match q, hl, hm with
    | .inl none, hl, hm => exact ab_Sj.pure (fun h1 _ => ab_mem_c (ab_vs_n _) h1) (fun X At _ _ _ _ _ k => lv_aloadN X.1 X.2.1 hd (At.2.1.2.2.2 _ _ hl) k)
    | .inl (some q), hl, hm => exact ab_Sj.pure (fun h1 h2 => ab_mem_c (h2 _ hm) h1) (fun X At _ _ _ _ _ k => lv_aload X.1 X.2.1 hd (At.2.1.2.2.2 _ _ hl) k)
    | .inr q, hl, hm => exact ab_Sj.pure (fun h1 h2 => ab_mem_c (h2 _ hm) h1) (fun X At _ _ _ _ _ k => lv_aload X.1 X.2.1 hd (At.2.1.2.2.2 _ _ hl) k)
  · trivial
theorem ab_s_iadd {M pc : Nat} (hd : decode (ab_mb M) pc = .ok (.iadd, 1)) : ab_Sn B M pc (ab_o_bin (fun a b => a + b) (pc + 1)) := fun loc stk h => by
  unfold ab_o_bin
  split
  · rename_i b a r
    refine ab_Sj.pure (fun h1 _ => ab_mem_c (ab_vs_i _ _) (ab_mem_t (ab_mem_t h1))) (fun X At _ _ _ _ _ k => ?_)
    refine lv_iadd (x := Int32.ofInt a) (y := Int32.ofInt b) X.1 X.2.1 hd ?_
    simp only [List.map_cons, ab_cv] at k
    rw [Int32.ofInt_add] at k; exact k
  · trivial
theorem ab_s_isub {M pc : Nat} (hd : decode (ab_mb M) pc = .ok (.isub, 1)) : ab_Sn B M pc (ab_o_bin (fun a b => a - b) (pc + 1)) := fun loc stk h => by
  unfold ab_o_bin
  split
  · rename_i b a r
    refine ab_Sj.pure (fun h1 _ => ab_mem_c (ab_vs_i _ _) (ab_mem_t (ab_mem_t h1))) (fun X At _ _ _ _ _ k => ?_)
    refine lv_isub (x := Int32.ofInt a) (y := Int32.ofInt b) X.1 X.2.1 hd ?_
    simp only [List.map_cons, ab_cv] at k
    rw [Int32.ofInt_sub] at k; exact k
  · trivial
theorem ab_s_imul {M pc : Nat} (hd : decode (ab_mb M) pc = .ok (.imul, 1)) : ab_Sn B M pc (ab_o_bin (fun a b => a * b) (pc + 1)) := fun loc stk h => by
  unfold ab_o_bin
  split
  · rename_i b a r
    refine ab_Sj.pure (fun h1 _ => ab_mem_c (ab_vs_i _ _) (ab_mem_t (ab_mem_t h1))) (fun X At _ _ _ _ _ k => ?_)
    refine lv_imul (x := Int32.ofInt a) (y := Int32.ofInt b) X.1 X.2.1 hd ?_
    simp only [List.map_cons, ab_cv] at k
    rw [Int32.ofInt_mul] at k; exact k
  · trivial
theorem ab_s_iand {M pc : Nat} (hd : decode (ab_mb M) pc = .ok (.iand, 1)) : ab_Sn B M pc (ab_o_bin (ab_iand) (pc + 1)) := fun loc stk h => by
  unfold ab_o_bin
  split
  · rename_i b a r
    refine ab_Sj.pure (fun h1 _ => ab_mem_c (ab_vs_i _ _) (ab_mem_t (ab_mem_t h1))) (fun X At _ _ _ _ _ k => ?_)
    refine lv_iand (x := Int32.ofInt a) (y := Int32.ofInt b) X.1 X.2.1 hd ?_
    simp only [List.map_cons, ab_cv] at k
    rw [show Int32.ofInt (ab_iand a b) = _ from Int32.ofInt_toInt _] at k; exact k
  · trivial
theorem ab_s_ior {M pc : Nat} (hd : decode (ab_mb M) pc = .ok (.ior, 1)) : ab_Sn B M pc (ab_o_bin (ab_ior) (pc + 1)) := fun loc stk h => by
  unfold ab_o_bin
  split
  · rename_i b a r
    refine ab_Sj.pure (fun h1 _ => ab_mem_c (ab_vs_i _ _) (ab_mem_t (ab_mem_t h1))) (fun X At _ _ _ _ _ k => ?_)
    refine lv_ior (x := Int32.ofInt a) (y := Int32.ofInt b) X.1 X.2.1 hd ?_
    simp only [List.map_cons, ab_cv] at k
    rw [show Int32.ofInt (ab_ior a b) = _ from Int32.ofInt_toInt _] at k; exact k
  · trivial
theorem ab_s_ixor {M pc : Nat} (hd : decode (ab_mb M) pc = .ok (.ixor, 1)) : ab_Sn B M pc (ab_o_bin (ab_ixor) (pc + 1)) := fun loc stk h => by
  unfold ab_o_bin
  split
  · rename_i b a r
    refine ab_Sj.pure (fun h1 _ => ab_mem_c (ab_vs_i _ _) (ab_mem_t (ab_mem_t h1))) (fun X At _ _ _ _ _ k => ?_)
    refine lv_ixor (x := Int32.ofInt a) (y := Int32.ofInt b) X.1 X.2.1 hd ?_
    simp only [List.map_cons, ab_cv] at k
    rw [show Int32.ofInt (ab_ixor a b) = _ from Int32.ofInt_toInt _] at k; exact k
  · trivial
theorem ab_s_ishl {M pc : Nat} (hd : decode (ab_mb M) pc = .ok (.ishl, 1)) : ab_Sn B M pc (ab_o_bin (ab_ishl) (pc + 1)) := fun loc stk h => by
  unfold ab_o_bin
  split
  · rename_i b a r
    refine ab_Sj.pure (fun h1 _ => ab_mem_c (ab_vs_i _ _) (ab_mem_t (ab_mem_t h1))) (fun X At _ _ _ _ _ k => ?_)
    refine lv_ishl (x := Int32.ofInt a) (y := Int32.ofInt b) X.1 X.2.1 hd ?_
    simp only [List.map_cons, ab_cv] at k
    rw [show Int32.ofInt (ab_ishl a b) = _ from Int32.ofInt_toInt _] at k; exact k
  · trivial
theorem ab_s_ishr {M pc : Nat} (hd : decode (ab_mb M) pc = .ok (.ishr, 1)) : ab_Sn B M pc (ab_o_bin (ab_ishr) (pc + 1)) := fun loc stk h => by
  unfold ab_o_bin
  split
  · rename_i b a r
    refine ab_Sj.pure (fun h1 _ => ab_mem_c (ab_vs_i _ _) (ab_mem_t (ab_mem_t h1))) (fun X At _ _ _ _ _ k => ?_)
    refine lv_ishr (x := Int32.ofInt a) (y := Int32.ofInt b) X.1 X.2.1 hd ?_
    simp only [List.map_cons, ab_cv] at k
    rw [show Int32.ofInt (ab_ishr a b) = _ from Int32.ofInt_toInt _] at k; exact k
  · trivial
theorem ab_s_idiv {M pc : Nat} (hd : decode (ab_mb M) pc = .ok (.idiv, 1)) : ab_Sn B M pc (ab_o_div ab_idiv (pc + 1)) := fun loc stk h => by
  unfold ab_o_div
  split
  · rename_i b a r
    split
    · trivial
    · rename_i hb0
      refine ab_Sj.pure (fun h1 _ => ab_mem_c (ab_vs_i _ _) (ab_mem_t (ab_mem_t h1))) (fun X At _ _ _ _ _ k => ?_)
      refine lv_idiv (x := Int32.ofInt a) (y := Int32.ofInt b) X.1 X.2.1 hd (fun e => hb0 (by unfold ab_w; rw [e]; rfl)) ?_
      simp only [List.map_cons, ab_cv] at k
      rw [show Int32.ofInt (ab_idiv a b) = _ from Int32.ofInt_toInt _] at k
      exact k
  · trivial
theorem ab_s_irem {M pc : Nat} (hd : decode (ab_mb M) pc = .ok (.irem, 1)) : ab_Sn B M pc (ab_o_div ab_irem (pc + 1)) := fun loc stk h => by
  unfold ab_o_div
  split
  · rename_i b a r
    split
    · trivial
    · rename_i hb0
      refine ab_Sj.pure (fun h1 _ => ab_mem_c (ab_vs_i _ _) (ab_mem_t (ab_mem_t h1))) (fun X At _ _ _ _ _ k => ?_)
      refine lv_irem (x := Int32.ofInt a) (y := Int32.ofInt b) X.1 X.2.1 hd (fun e => hb0 (by unfold ab_w; rw [e]; rfl)) ?_
      simp only [List.map_cons, ab_cv] at k
      rw [show Int32.ofInt (ab_irem a b) = _ from Int32.ofInt_toInt _] at k
      exact k
  · trivial
theorem ab_s_ladd {M pc : Nat} (hd : decode (ab_mb M) pc = .ok (.ladd, 1)) : ab_Sn B M pc (ab_o_lbin (fun a b => a + b) (pc + 1)) := fun loc stk h => by
  unfold ab_o_lbin
  split
  · exact ab_Sj.pure (fun h1 _ => ab_mem_c (ab_vs_l _ _) (ab_mem_t (ab_mem_t h1))) (fun X At _ _ _ _ _ k => lv_ladd X.1 X.2.1 hd k)
  · trivial
theorem ab_s_lmul {M pc : Nat} (hd : decode (ab_mb M) pc = .ok (.lmul, 1)) : ab_Sn B M pc (ab_o_lbin (fun a b => a * b) (pc + 1)) := fun loc stk h => by
  unfold ab_o_lbin
  split
  · exact ab_Sj.pure (fun h1 _ => ab_mem_c (ab_vs_l _ _) (ab_mem_t (ab_mem_t h1))) (fun X At _ _ _ _ _ k => lv_lmul X.1 X.2.1 hd k)
  · trivial
theorem ab_s_i2l {M pc : Nat} (hd : decode (ab_mb M) pc = .ok (.i2l, 1)) : ab_Sn B M pc (ab_o_i2l (pc + 1)) := fun loc stk h => by
  unfold ab_o_i2l
  split
  · exact ab_Sj.pure (fun h1 _ => ab_mem_c (ab_vs_l _ _) (ab_mem_t h1)) (fun X At _ _ _ _ _ k => lv_i2l X.1 X.2.1 hd rfl k)
  · trivial
theorem ab_s_lcmp {M pc : Nat} (hd : decode (ab_mb M) pc = .ok (.lcmp, 1)) : ab_Sn B M pc (ab_o_lcmp (pc + 1)) := fun loc stk h => by
  unfold ab_o_lcmp
  split
  · rename_i b a r
    refine ab_Sj.pure (fun h1 _ => ab_mem_c (ab_vs_i _ _) (ab_mem_t (ab_mem_t h1))) (fun X At _ _ _ _ _ k => W.lcmp X.1 X.2.1 hd ?_)
    have e : lg_cmp a b = Int32.ofInt (ab_cmp a b) := ab_cmp_eq a b
    rw [e]
    exact k
  · trivial
theorem ab_s_dup {M pc : Nat} (hd : decode (ab_mb M) pc = .ok (.dup, 1)) : ab_Sn B M pc (ab_o_dup (pc + 1)) := fun loc stk h => by
  unfold ab_o_dup
  split
  · rename_i v r
    cases hv : ab_lg v with
    | true => exact trivial
    | false => exact ab_Sj.pure (fun h1 _ => ab_mem_c (ab_mem_h h1) h1) (fun X At _ _ _ _ _ k => lv_dup X.1 X.2.1 hd (by rw [ab_cv_cat, hv]; rfl) k)
  · trivial
theorem ab_s_dup2 {M pc : Nat} (hd : decode (ab_mb M) pc = .ok (.dup2, 1)) : ab_Sn B M pc (ab_o_dup2 (pc + 1)) := fun loc stk h => by
  unfold ab_o_dup2
  split
  · rename_i v w r
    cases hv : ab_lg v with
    | true => exact trivial
    | false => cases hw : ab_lg w with
      | true => exact trivial
      | false => exact ab_Sj.pure (fun h1 _ => ab_mem_c (ab_mem_h h1) (ab_mem_c (ab_mem_h (ab_mem_t h1)) h1)) (fun X At _ _ _ _ _ k => lv_dup2_11 X.1 X.2.1 hd (by rw [ab_cv_cat, hv]; rfl) (by rw [ab_cv_cat, hw]; rfl) k)
  · trivial
theorem ab_s_dupx1 {M pc : Nat} (hd : decode (ab_mb M) pc = .ok (.dup_x1, 1)) : ab_Sn B M pc (ab_o_dupx1 (pc + 1)) := fun loc stk h => by
  unfold ab_o_dupx1
  split
  · rename_i v w r
    cases hv : ab_lg v with
    | true => exact trivial
    | false => cases hw : ab_lg w with
      | true => exact trivial
      | false => exact ab_Sj.pure (fun h1 _ => ab_mem_c (ab_mem_h h1) (ab_mem_c (ab_mem_h (ab_mem_t h1)) (ab_mem_c (ab_mem_h h1) (ab_mem_t (ab_mem_t h1))))) (fun X At _ _ _ _ _ k => lv_dup_x1 X.1 X.2.1 hd (by rw [ab_cv_cat, hv]; rfl) (by rw [ab_cv_cat, hw]; rfl) k)
  · trivial
theorem ab_s_pop {M pc : Nat} (hd : decode (ab_mb M) pc = .ok (.pop, 1)) : ab_Sn B M pc (ab_o_pop (pc + 1)) := fun loc stk h => by
  unfold ab_o_pop
  split
  · rename_i v r
    cases hv : ab_lg v with
    | true => exact trivial
    | false => exact ab_Sj.pure (fun h1 _ => ab_mem_t h1) (fun X At _ _ _ _ _ k => lv_pop X.1 X.2.1 hd (by rw [ab_cv_cat, hv]; rfl) k)
  · trivial
theorem ab_s_goto {M pc tg : Nat} {off : Int} (hd : decode (ab_mb M) pc = .ok (.goto off, 3)) (ht : (pc : Int) + off = (tg : Int)) : ab_Sn B M pc (ab_o_goto tg) := fun loc stk h =>
  ab_Sj.pure (fun h1 _ => h1) (fun X At _ _ _ _ _ k => lv_goto X.1 X.2.1 hd ht k)
def ab_eq (a b : Int) : Bool := decide (a = b)
def ab_ne (a b : Int) : Bool := decide (¬ a = b)
def ab_lt (a b : Int) : Bool := decide (a < b)
def ab_ge (a b : Int) : Bool := decide (b ≤ a)
def ab_gt (a b : Int) : Bool := decide (b < a)
def ab_le (a b : Int) : Bool := decide (a ≤ b)
theorem ab_eq_w (a b : Int) : ab_eq (ab_w a) (ab_w b) = true ↔ Int32.ofInt a = Int32.ofInt b := by unfold ab_eq ab_w; rw [decide_eq_true_iff, Int32.toInt_inj]
theorem ab_ne_w (a b : Int) : ab_ne (ab_w a) (ab_w b) = true ↔ ¬ Int32.ofInt a = Int32.ofInt b := by unfold ab_ne ab_w; rw [decide_eq_true_iff, Int32.toInt_inj]
theorem ab_lt_w (a b : Int) : ab_lt (ab_w a) (ab_w b) = true ↔ Int32.ofInt a < Int32.ofInt b := by unfold ab_lt ab_w; rw [decide_eq_true_iff]; exact (Int32.lt_iff_toInt_lt).symm
theorem ab_ge_w (a b : Int) : ab_ge (ab_w a) (ab_w b) = true ↔ Int32.ofInt b ≤ Int32.ofInt a := by unfold ab_ge ab_w; rw [decide_eq_true_iff]; exact (Int32.le_iff_toInt_le).symm
theorem ab_gt_w (a b : Int) : ab_gt (ab_w a) (ab_w b) = true ↔ Int32.ofInt b < Int32.ofInt a := by unfold ab_gt ab_w; rw [decide_eq_true_iff]; exact (Int32.lt_iff_toInt_lt).symm
theorem ab_le_w (a b : Int) : ab_le (ab_w a) (ab_w b) = true ↔ Int32.ofInt a ≤ Int32.ofInt b := by unfold ab_le ab_w; rw [decide_eq_true_iff]; exact (Int32.le_iff_toInt_le).symm
theorem ab_w0 : ab_w 0 = 0 := by decide
theorem ab_s_icmp_eq {M pc tg : Nat} {off : Int} (hd : decode (ab_mb M) pc = .ok (.if_icmp .eq off, 3)) (ht : (pc : Int) + off = (tg : Int)) : ab_Sn B M pc (ab_o_icmp ab_eq tg (pc + 3)) := fun loc stk h => by
  unfold ab_o_icmp
  split
  · rename_i b a r
    refine ab_Sj.pure (fun h1 _ => ab_mem_t (ab_mem_t h1)) (fun X At _ _ _ _ _ k => lv_icmp_eq (x := Int32.ofInt a) (y := Int32.ofInt b) X.1 X.2.1 hd ht (fun hc => ?_) (fun hc => ?_))
    · rw [if_pos ((ab_eq_w a b).mpr hc)] at k; exact k
    · rw [if_neg (fun z => hc ((ab_eq_w a b).mp z))] at k; exact k
  · trivial
theorem ab_s_if_eq {M pc tg : Nat} {off : Int} (hd : decode (ab_mb M) pc = .ok (.ifCond .eq off, 3)) (ht : (pc : Int) + off = (tg : Int)) : ab_Sn B M pc (ab_o_if ab_eq tg (pc + 3)) := fun loc stk h => by
  unfold ab_o_if
  split
  · rename_i a r
    have e := ab_eq_w a 0
    rw [ab_w0] at e
    refine ab_Sj.pure (fun h1 _ => ab_mem_t h1) (fun X At _ _ _ _ _ k => lv_if_eq (x := Int32.ofInt a) X.1 X.2.1 hd ht (fun hc => ?_) (fun hc => ?_))
    · rw [if_pos (e.mpr hc)] at k; exact k
    · rw [if_neg (fun z => hc (e.mp z))] at k; exact k
  · trivial
theorem ab_s_icmp_ne {M pc tg : Nat} {off : Int} (hd : decode (ab_mb M) pc = .ok (.if_icmp .ne off, 3)) (ht : (pc : Int) + off = (tg : Int)) : ab_Sn B M pc (ab_o_icmp ab_ne tg (pc + 3)) := fun loc stk h => by
  unfold ab_o_icmp
  split
  · rename_i b a r
    refine ab_Sj.pure (fun h1 _ => ab_mem_t (ab_mem_t h1)) (fun X At _ _ _ _ _ k => lv_icmp_ne (x := Int32.ofInt a) (y := Int32.ofInt b) X.1 X.2.1 hd ht (fun hc => ?_) (fun hc => ?_))
    · rw [if_pos ((ab_ne_w a b).mpr hc)] at k; exact k
    · rw [if_neg (fun z => ((ab_ne_w a b).mp z) hc)] at k; exact k
  · trivial
theorem ab_s_if_ne {M pc tg : Nat} {off : Int} (hd : decode (ab_mb M) pc = .ok (.ifCond .ne off, 3)) (ht : (pc : Int) + off = (tg : Int)) : ab_Sn B M pc (ab_o_if ab_ne tg (pc + 3)) := fun loc stk h => by
  unfold ab_o_if
  split
  · rename_i a r
    have e := ab_ne_w a 0
    rw [ab_w0] at e
    refine ab_Sj.pure (fun h1 _ => ab_mem_t h1) (fun X At _ _ _ _ _ k => lv_if_ne (x := Int32.ofInt a) X.1 X.2.1 hd ht (fun hc => ?_) (fun hc => ?_))
    · rw [if_pos (e.mpr hc)] at k; exact k
    · rw [if_neg (fun z => (e.mp z) hc)] at k; exact k
  · trivial
theorem ab_s_icmp_lt {M pc tg : Nat} {off : Int} (hd : decode (ab_mb M) pc = .ok (.if_icmp .lt off, 3)) (ht : (pc : Int) + off = (tg : Int)) : ab_Sn B M pc (ab_o_icmp ab_lt tg (pc + 3)) := fun loc stk h => by
  unfold ab_o_icmp
  split
  · rename_i b a r
    refine ab_Sj.pure (fun h1 _ => ab_mem_t (ab_mem_t h1)) (fun X At _ _ _ _ _ k => lv_icmp_lt (x := Int32.ofInt a) (y := Int32.ofInt b) X.1 X.2.1 hd ht (fun hc => ?_) (fun hc => ?_))
    · rw [if_pos ((ab_lt_w a b).mpr hc)] at k; exact k
    · rw [if_neg (fun z => hc ((ab_lt_w a b).mp z))] at k; exact k
  · trivial
theorem ab_s_if_lt {M pc tg : Nat} {off : Int} (hd : decode (ab_mb M) pc = .ok (.ifCond .lt off, 3)) (ht : (pc : Int) + off = (tg : Int)) : ab_Sn B M pc (ab_o_if ab_lt tg (pc + 3)) := fun loc stk h => by
  unfold ab_o_if
  split
  · rename_i a r
    have e := ab_lt_w a 0
    rw [ab_w0] at e
    refine ab_Sj.pure (fun h1 _ => ab_mem_t h1) (fun X At _ _ _ _ _ k => lv_if_lt (x := Int32.ofInt a) X.1 X.2.1 hd ht (fun hc => ?_) (fun hc => ?_))
    · rw [if_pos (e.mpr hc)] at k; exact k
    · rw [if_neg (fun z => hc (e.mp z))] at k; exact k
  · trivial
theorem ab_s_icmp_ge {M pc tg : Nat} {off : Int} (hd : decode (ab_mb M) pc = .ok (.if_icmp .ge off, 3)) (ht : (pc : Int) + off = (tg : Int)) : ab_Sn B M pc (ab_o_icmp ab_ge tg (pc + 3)) := fun loc stk h => by
  unfold ab_o_icmp
  split
  · rename_i b a r
    refine ab_Sj.pure (fun h1 _ => ab_mem_t (ab_mem_t h1)) (fun X At _ _ _ _ _ k => lv_icmp_ge (x := Int32.ofInt a) (y := Int32.ofInt b) X.1 X.2.1 hd ht (fun hc => ?_) (fun hc => ?_))
    · rw [if_pos ((ab_ge_w a b).mpr hc)] at k; exact k
    · rw [if_neg (fun z => hc ((ab_ge_w a b).mp z))] at k; exact k
  · trivial
theorem ab_s_if_ge {M pc tg : Nat} {off : Int} (hd : decode (ab_mb M) pc = .ok (.ifCond .ge off, 3)) (ht : (pc : Int) + off = (tg : Int)) : ab_Sn B M pc (ab_o_if ab_ge tg (pc + 3)) := fun loc stk h => by
  unfold ab_o_if
  split
  · rename_i a r
    have e := ab_ge_w a 0
    rw [ab_w0] at e
    refine ab_Sj.pure (fun h1 _ => ab_mem_t h1) (fun X At _ _ _ _ _ k => lv_if_ge (x := Int32.ofInt a) X.1 X.2.1 hd ht (fun hc => ?_) (fun hc => ?_))
    · rw [if_pos (e.mpr hc)] at k; exact k
    · rw [if_neg (fun z => hc (e.mp z))] at k; exact k
  · trivial
theorem ab_s_icmp_gt {M pc tg : Nat} {off : Int} (hd : decode (ab_mb M) pc = .ok (.if_icmp .gt off, 3)) (ht : (pc : Int) + off = (tg : Int)) : ab_Sn B M pc (ab_o_icmp ab_gt tg (pc + 3)) := fun loc stk h => by
  unfold ab_o_icmp
  split
  · rename_i b a r
    refine ab_Sj.pure (fun h1 _ => ab_mem_t (ab_mem_t h1)) (fun X At _ _ _ _ _ k => lv_icmp_gt (x := Int32.ofInt a) (y := Int32.ofInt b) X.1 X.2.1 hd ht (fun hc => ?_) (fun hc => ?_))
    · rw [if_pos ((ab_gt_w a b).mpr hc)] at k; exact k
    · rw [if_neg (fun z => hc ((ab_gt_w a b).mp z))] at k; exact k
  · trivial
theorem ab_s_if_gt {M pc tg : Nat} {off : Int} (hd : decode (ab_mb M) pc = .ok (.ifCond .gt off, 3)) (ht : (pc : Int) + off = (tg : Int)) : ab_Sn B M pc (ab_o_if ab_gt tg (pc + 3)) := fun loc stk h => by
  unfold ab_o_if
  split
  · rename_i a r
    have e := ab_gt_w a 0
    rw [ab_w0] at e
    refine ab_Sj.pure (fun h1 _ => ab_mem_t h1) (fun X At _ _ _ _ _ k => lv_if_gt (x := Int32.ofInt a) X.1 X.2.1 hd ht (fun hc => ?_) (fun hc => ?_))
    · rw [if_pos (e.mpr hc)] at k; exact k
    · rw [if_neg (fun z => hc (e.mp z))] at k; exact k
  · trivial
theorem ab_s_icmp_le {M pc tg : Nat} {off : Int} (hd : decode (ab_mb M) pc = .ok (.if_icmp .le off, 3)) (ht : (pc : Int) + off = (tg : Int)) : ab_Sn B M pc (ab_o_icmp ab_le tg (pc + 3)) := fun loc stk h => by
  unfold ab_o_icmp
  split
  · rename_i b a r
    refine ab_Sj.pure (fun h1 _ => ab_mem_t (ab_mem_t h1)) (fun X At _ _ _ _ _ k => lv_icmp_le (x := Int32.ofInt a) (y := Int32.ofInt b) X.1 X.2.1 hd ht (fun hc => ?_) (fun hc => ?_))
    · rw [if_pos ((ab_le_w a b).mpr hc)] at k; exact k
    · rw [if_neg (fun z => hc ((ab_le_w a b).mp z))] at k; exact k
  · trivial
theorem ab_s_if_le {M pc tg : Nat} {off : Int} (hd : decode (ab_mb M) pc = .ok (.ifCond .le off, 3)) (ht : (pc : Int) + off = (tg : Int)) : ab_Sn B M pc (ab_o_if ab_le tg (pc + 3)) := fun loc stk h => by
  unfold ab_o_if
  split
  · rename_i a r
    have e := ab_le_w a 0
    rw [ab_w0] at e
    refine ab_Sj.pure (fun h1 _ => ab_mem_t h1) (fun X At _ _ _ _ _ k => lv_if_le (x := Int32.ofInt a) X.1 X.2.1 hd ht (fun hc => ?_) (fun hc => ?_))
    · rw [if_pos (e.mpr hc)] at k; exact k
    · rw [if_neg (fun z => hc (e.mp z))] at k; exact k
  · trivial
theorem ab_s_null {M pc : Nat} (hd : decode (ab_mb M) pc = .ok (.aconst_null, 1)) : ab_Sn B M pc (ab_o_null (pc + 1)) := fun loc stk h =>
  ab_Sj.pure (fun h1 _ => ab_mem_c (ab_vs_n _) h1) (fun X At _ _ _ _ _ k => lv_null X.1 X.2.1 hd k)
theorem ab_s_ifnull {M pc tg : Nat} {off : Int} (hd : decode (ab_mb M) pc = .ok (.ifnull off, 3)) (ht : (pc : Int) + off = (tg : Int)) : ab_Sn B M pc (ab_o_ifn true tg (pc + 3)) := fun loc stk h => by
  unfold ab_o_ifn
  split
  · rename_i o r
    cases o with
    | none => exact ab_Sj.pure (fun h1 _ => ab_mem_t h1) (fun X At _ _ _ _ _ k => lv_ifnullN X.1 X.2.1 hd ht k)
    | some q => exact ab_Sj.pure (fun h1 _ => ab_mem_t h1) (fun X At _ _ _ _ _ k => lv_ifnull X.1 X.2.1 hd k)
  · exact ab_Sj.pure (fun h1 _ => ab_mem_t h1) (fun X At _ _ _ _ _ k => lv_ifnull X.1 X.2.1 hd k)
  · trivial
theorem ab_s_ifnonnull {M pc tg : Nat} {off : Int} (hd : decode (ab_mb M) pc = .ok (.ifnonnull off, 3)) (ht : (pc : Int) + off = (tg : Int)) : ab_Sn B M pc (ab_o_ifn false tg (pc + 3)) := fun loc stk h => by
  unfold ab_o_ifn
  split
  · rename_i o r
    cases o with
    | none => exact ab_Sj.pure (fun h1 _ => ab_mem_t h1) (fun X At _ _ _ _ _ k => lv_ifnonnullN X.1 X.2.1 hd k)
    | some q => exact ab_Sj.pure (fun h1 _ => ab_mem_t h1) (fun X At _ _ _ _ _ k => lv_ifnonnull X.1 X.2.1 hd ht k)
  · exact ab_Sj.pure (fun h1 _ => ab_mem_t h1) (fun X At _ _ _ _ _ k => lv_ifnonnull X.1 X.2.1 hd ht k)
  · trivial
theorem ab_i2b_eq (a : Int) : (Int32.ofInt a).toInt8.toInt32 = Int32.ofInt (ab_i2b a) := by
  unfold ab_i2b
  rw [← Int8.toInt_toInt32]
  exact (Int32.ofInt_toInt _).symm
theorem ab_s_i2b {M pc : Nat} (hd : decode (ab_mb M) pc = .ok (.i2b, 1)) : ab_Sn B M pc (ab_o_i2b (pc + 1)) := fun loc stk h => by
  unfold ab_o_i2b
  split
  · rename_i a r
    exact ab_Sj.pure (fun h1 _ => ab_mem_c (ab_vs_i _ _) (ab_mem_t h1)) (fun X At _ _ _ _ _ k => lv_i2b (x := Int32.ofInt a) X.1 X.2.1 hd (ab_i2b_eq a) k)
  · trivial
theorem ab_s_pop2 {M pc : Nat} (hd : decode (ab_mb M) pc = .ok (.pop2, 1)) : ab_Sn B M pc (ab_o_pop2 (pc + 1)) := fun loc stk h => by
  unfold ab_o_pop2
  split
  · exact ab_Sj.pure (fun h1 _ => ab_mem_t h1) (fun X At _ _ _ _ _ k => lv_pop2_2 X.1 X.2.1 hd rfl k)
  · trivial
end
