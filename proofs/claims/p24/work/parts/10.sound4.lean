set_option linter.all false
/-! THROWS, CALLS, AND THE WHOLE RUN OF A METHOD -/
section
variable {B : ab_B}
theorem ab_TN_on {w : Cond} (hw : w ∈ ab_TN) : w.onTables = true := by
  have h2 : ab_nest w = true := (List.mem_filter.mp hw).2
  cases w <;> first | rfl | (simp [ab_nest] at h2)
theorem ab_X_word {M : Nat} {g : ab_G} {A : Nat → Prop} {p : Program} {l : Launch} {s : State} {m : MethodId} {args : Array Value} {meth : Method} {c : Code} (X : ab_X B M g A p l s m args meth c) {w : Cond} (h : w ∈ ab_TG ∨ w ∈ ab_TN) : w.before args s = true := by
  rcases h with h | h
  · exact X.2.2.2.2.2.2.1 _ h
  · exact va_Nw.use (ab_TN_on h) (X.2.2.2.2.2.2.2.1.2.2.1 w h)
theorem ab_none {M : Nat} {g : ab_G} {A : Nat → Prop} {p : Program} {l : Launch} {s : State} {m : MethodId} {args : Array Value} {meth : Method} {c : Code} {pc : Nat} (X : ab_X B M g A p l s m args meth c) (hno : ab_tb M = []) : ∀ x ∈ c.exceptionTable.toList, covers x pc = false := fun x hx => by
  rw [X.2.2.2.2.2.2.2.2.2.2, hno] at hx
  cases hx
theorem ab_Rep.kept {g : ab_G} {A : Nat → Prop} {μ : Nat → Nat} {h : ab_H} {H H1 : Heap} (hR : ab_Rep B g A μ h H) (hz : H.size ≤ H1.size) (hq : ∀ q : Nat, q < H.size → H1[q]? = H[q]?) (c s : Nat) : ab_Rep B g A μ (ab_cost h c s) H1 :=
  ⟨hR.1.kept (fun k q hk => hq q.1 (hR.1 k q hk).lt), hR.2.1, hR.2.2⟩
theorem ab_s_throw {M pc E ik is ic : Nat} {text : String} (hE : ab_ex E = "java/lang/IllegalArgumentException" ∨ ab_ex E = "java/lang/IndexOutOfBoundsException" ∨ ab_ex E = "java/lang/IllegalStateException")
    (d0 : decode (ab_mb M) pc = .ok (.new ik, 3)) (d3 : decode (ab_mb M) (pc + 3) = .ok (.dup, 1)) (d4 : decode (ab_mb M) (pc + 4) = .ok (.ldc is, 2)) (d6 : decode (ab_mb M) (pc + 6) = .ok (.invokespecial ic, 3)) (d9 : decode (ab_mb M) (pc + 9) = .ok (.athrow, 1))
    (hk : Cond.classLink (ab_my M).cls ik (ab_ex E) ∈ ab_TG) (hini : Cond.initialized (ab_ex E) ∈ ab_TG) (hstr : ((ab_my M).cls, is, text) ∈ ab_TS) (hat : ∀ w ∈ vx_atS (ab_my M).cls ic (ab_ex E) ["java/lang/RuntimeException", "java/lang/Exception"], w ∈ ab_TG ∨ w ∈ ab_TN)
    (hgood : ∀ w ∈ Cond.classLink (ab_my M).cls ik (ab_ex E) :: Cond.initialized (ab_ex E) :: vx_atS (ab_my M).cls ic (ab_ex E) ["java/lang/RuntimeException", "java/lang/Exception"], vx_ot w = true) (hno : ab_tb M = []) : ab_Sn B M pc (ab_o_throw E) := fun loc stk h => by
  unfold ab_o_throw
  split
  rotate_left
  · trivial
  rename_i q5
  refine ⟨by rw [ab_kc_cost]; omega, by rw [ab_ks_cost]; omega, Nat.le_refl _, ?_⟩
  intro p l e R s m args below meth c H locs cells slots g A μ μ0 h0 ls b1 b2 X At h1 h2 h3 h4 h5 h6 h7 hμ hn
  obtain ⟨sa, hsa⟩ := X.2.2.2.2.2.2.2.1.2.2.2.1 _ hstr
  rw [ab_kc_cost] at h3
  rw [ab_ks_cost] at h4
  refine vx_throwS (cls := ab_ex E) (text := text) (names := ["java/lang/RuntimeException", "java/lang/Exception"]) (A := A) (sa := sa) X.1 X.2.1 X.2.2.2.2.2.2.2.2.1 X.2.2.2.1 (by rcases hE with q | q | q <;> rw [q] <;> decide +kernel) (by decide +kernel) (ab_X_word X (Or.inl hk)) (ab_X_word X (Or.inl hini)) hsa (fun w hw => ab_X_word X (hat w hw)) hgood
    X.2.2.2.2.2.2.2.1.2.2.2.2.1 X.2.2.2.2.2.2.2.1.2.2.2.2.2.1 At.2.2.2.2 (At.2.1.1.trans X.2.2.1.symm) d0 d3 d4 d6 d9 (ab_none X hno) (by simp; omega) ?_ (by omega) (by omega) X.2.2.2.2.2.1 (fun t hal hz hq => ?_) At.2.2.2.2.2.2 (by omega) (by omega)
  · rw [ab_sum_cat]
    simp only [List.length_cons, List.length_nil]
    omega
  · refine ⟨E, μ, rfl, rfl, hμ, At.1.kept hz hq 1 6, Nat.le_trans At.2.2.2.2.1 hz, fun q h9 h8 => ?_⟩
    rw [hq q (Nat.lt_of_lt_of_le h9 At.2.2.2.2.1)]
    exact At.2.2.2.2.2.1 q h9 h8
theorem ab_s_throwW {M pc E ik is ic : Nat} {text : String} (hE : ab_ex E = "java/lang/IllegalArgumentException" ∨ ab_ex E = "java/lang/IndexOutOfBoundsException" ∨ ab_ex E = "java/lang/IllegalStateException")
    (d0 : decode (ab_mb M) pc = .ok (.new ik, 3)) (d3 : decode (ab_mb M) (pc + 3) = .ok (.dup, 1)) (d4 : decode (ab_mb M) (pc + 4) = .ok (.ldc_w is, 3)) (d6 : decode (ab_mb M) (pc + 7) = .ok (.invokespecial ic, 3)) (d9 : decode (ab_mb M) (pc + 10) = .ok (.athrow, 1))
    (hk : Cond.classLink (ab_my M).cls ik (ab_ex E) ∈ ab_TG) (hini : Cond.initialized (ab_ex E) ∈ ab_TG) (hstr : ((ab_my M).cls, is, text) ∈ ab_TS) (hat : ∀ w ∈ vx_atS (ab_my M).cls ic (ab_ex E) ["java/lang/RuntimeException", "java/lang/Exception"], w ∈ ab_TG ∨ w ∈ ab_TN)
    (hgood : ∀ w ∈ Cond.classLink (ab_my M).cls ik (ab_ex E) :: Cond.initialized (ab_ex E) :: vx_atS (ab_my M).cls ic (ab_ex E) ["java/lang/RuntimeException", "java/lang/Exception"], vx_ot w = true) (hno : ab_tb M = []) : ab_Sn B M pc (ab_o_throw E) := fun loc stk h => by
  unfold ab_o_throw
  split
  rotate_left
  · trivial
  rename_i q5
  refine ⟨by rw [ab_kc_cost]; omega, by rw [ab_ks_cost]; omega, Nat.le_refl _, ?_⟩
  intro p l e R s m args below meth c H locs cells slots g A μ μ0 h0 ls b1 b2 X At h1 h2 h3 h4 h5 h6 h7 hμ hn
  obtain ⟨sa, hsa⟩ := X.2.2.2.2.2.2.2.1.2.2.2.1 _ hstr
  rw [ab_kc_cost] at h3
  rw [ab_ks_cost] at h4
  refine vx_throwSW (cls := ab_ex E) (text := text) (names := ["java/lang/RuntimeException", "java/lang/Exception"]) (A := A) (sa := sa) X.1 X.2.1 X.2.2.2.2.2.2.2.2.1 X.2.2.2.1 (by rcases hE with q | q | q <;> rw [q] <;> decide +kernel) (by decide +kernel) (ab_X_word X (Or.inl hk)) (ab_X_word X (Or.inl hini)) hsa (fun w hw => ab_X_word X (hat w hw)) hgood
    X.2.2.2.2.2.2.2.1.2.2.2.2.1 X.2.2.2.2.2.2.2.1.2.2.2.2.2.1 At.2.2.2.2 (At.2.1.1.trans X.2.2.1.symm) d0 d3 d4 d6 d9 (ab_none X hno) (by simp; omega) ?_ (by omega) (by omega) X.2.2.2.2.2.1 (fun t hal hz hq => ?_) At.2.2.2.2.2.2 (by omega) (by omega)
  · rw [ab_sum_cat]
    simp only [List.length_cons, List.length_nil]
    omega
  · refine ⟨E, μ, rfl, rfl, hμ, At.1.kept hz hq 1 6, Nat.le_trans At.2.2.2.2.1 hz, fun q h9 h8 => ?_⟩
    rw [hq q (Nat.lt_of_lt_of_le h9 At.2.2.2.2.1)]
    exact At.2.2.2.2.2.1 q h9 h8
/-- behind a call -/
theorem ab_after {p : Program} {l : Launch} {e : Env} {R : Room} {s : State} {m : MethodId} {args : Array Value} {below : List Frame} {meth : Method} {c : Code} {H : Heap} {locs : List Loc} {cells slots mc ms : Nat} {Q : State → Prop} {pc : Nat} {ls : Array Slot} {st0 rest : List Value} {g : ab_G} {A : Nat → Prop} {μ : Nat → Nat} {h : ab_H} {r : ab_T} {a : Array Value}
    (hr : vx_Run p l e R s m args below meth c H locs cells slots mc ms (F0 m pc ls st0) rest (ab_QC B g A μ h r a) (ab_XC B g A μ h r) A) (hS : va_S A s.heap H locs)
    (kk : ∀ (v : Option ab_V) (μ' : Nat → Nat) (H1 : Heap) (locs1 : List Loc), r.1 = .inl v → (∀ i, i < ab_n h → μ' i = μ i) → ab_Rep B g A μ' r.2 H1 → (∀ x, v = some x → ab_vs (ab_n r.2) x) → va_S A s.heap H1 locs1 → W p l e R s m args below meth c H1 locs1 (cells + mc) (slots + ms) Q (F0 m (pc + 3) ls ((v.map (ab_cv B μ')).toList ++ rest)))
    (kx : ∀ (n : Nat) (μ' : Nat → Nat) (H1 : Heap) (locs1 : List Loc) (q : Addr) (ce : Cell), r.1 = .inr n → (∀ i, i < ab_n h → μ' i = μ i) → ab_Rep B g A μ' r.2 H1 → va_S A s.heap H1 locs1 → H1[q]? = some ce → ce.vm = .none → s.vm.findClass (ab_ex n) = some ce.cls → vx_W p l e R s m args below meth c H1 locs1 (cells + mc) (slots + ms) Q (F0 m pc ls rest) q) :
    W p l e R s m args below meth c H locs cells slots Q (F0 m pc ls st0) := by
  intro T hT X
  rcases hr T hT X with ⟨v, st₀, t, T', L, h0, X', hL, e1, e2, ⟨v9, μ', q1, q2, q3, q4, q5, q6⟩, st⟩ | ⟨q, st₀, t, T', L, E, ce, h0, X', hL, e1, e2, ⟨n, μ', q1, q2, q3, q4, q5⟩, hce, hcv, hcl, st⟩
  · obtain ⟨k1, k2, k3⟩ := vx_keep h0 e1 hS (fun q _ h => h) (fun q h => h) hL q6
    have q7 : v = v9.map (ab_cv B μ') := by cases q2; rfl
    subst q7
    obtain ⟨t2, a1, b1⟩ := kk v9 μ' T'.heap (locs ++ L) q1 q3 (by rw [e1]; exact q4) q5 k3 T' rfl X'
    exact ⟨t2, st t2 a1, b1⟩
  · subst q2
    obtain ⟨k1, k2, k3⟩ := vx_keep h0 e1 hS (fun q _ h => h) (fun q h => h) hL q5
    obtain ⟨t2, a1, b1⟩ := kx n μ' T'.heap (locs ++ L) q ce q1 q3 (by rw [e1]; exact q4) k3 (by rw [e1]; exact hce) hcv hcl T' rfl X'
    exact ⟨t2, st.trans a1, b1⟩
theorem ab_split_eq : ∀ (n : Nat) (acc l as r : List ab_V), ab_split n acc l = some (as, r) → as = (l.take n).reverse ++ acc ∧ r = l.drop n ∧ n ≤ l.length
  | 0, acc, l, as, r, h => by cases h; simp
  | n + 1, acc, [], as, r, h => by cases h
  | n + 1, acc, v :: l, as, r, h => by
    obtain ⟨h1, h2, h3⟩ := ab_split_eq n (v :: acc) l as r h
    exact ⟨by rw [h1]; simp, by rw [h2]; simp, by simp; omega⟩
theorem ab_split_app {n : Nat} {l as r : List ab_V} (h : ab_split n [] l = some (as, r)) : l = as.reverse ++ r ∧ as.length = n := by
  obtain ⟨h1, h2, h3⟩ := ab_split_eq n [] l as r h
  rw [List.append_nil] at h1
  refine ⟨?_, by rw [h1]; simp; omega⟩
  rw [h1, h2, List.reverse_reverse, List.take_append_drop]
theorem ab_PC_blind {g : ab_G} {A : Nat → Prop} {μ : Nat → Nat} {h : ab_H} {as : List ab_V} : FrameBlind (ab_PC B g A μ h as) := fun a U f mk q => ⟨q.1, q.2.1, q.2.2.calling⟩
theorem ab_good (w : Cond) (h : w ∈ ab_TG) : goodWord w = true := (List.mem_filter.mp h).2
theorem ab_GoodIn {M : Nat} (h : ab_cw M ∈ ab_TG) : GoodIn ab_TG (ab_wsM M) := fun w hw => by
  have h9 : w ∈ ab_TG := (List.mem_cons.mp hw).elim (fun e => by rw [e]; exact h) id
  exact ⟨h9, good_of_word (ab_good w h9)⟩
/-- a store of what nobody knows -/
theorem ab_lh.setn {nL : Nat} {μ : Nat → Nat} {ls ls' : Array Slot} {loc : ab_M} {i : Nat} {a : Addr} (h : ab_lh B nL μ ls loc) (hi : i < nL) (h' : lv_has ls' nL ((i, .ref a) :: (ab_ll B μ loc).filter (fun q => !(q.1 == i) && !(q.1 + 1 == i && q.2.category == 2)))) : ab_lh B nL μ ls' (ab_set1 loc i none) := by
  refine ⟨h'.1, h'.2.1, by rw [ab_set1_len]; exact h.2.2.1, fun j v hj => ?_⟩
  rw [ab_set1_get] at hj
  by_cases e : j = i
  · subst e
    rw [if_pos rfl, if_pos (by rw [h.2.2.1]; exact hi)] at hj
    cases hj
  · rw [if_neg e] at hj
    have hm : (j, ab_cv B μ v) ∈ ab_ll B μ loc ∧ (j + 1 = i → ab_lg v = false) := by
      by_cases e2 : j + 1 = i
      · rw [if_pos e2] at hj
        cases hl : loc[j]? with
        | none => rw [hl] at hj; cases hj
        | some y =>
          rw [hl] at hj
          obtain ⟨h1, h2⟩ := ab_fx_some (Option.some.inj hj)
          exact ⟨ab_ll_mem.mpr ⟨v, by rw [hl, h1], rfl⟩, fun _ => h2⟩
      · rw [if_neg e2] at hj
        exact ⟨ab_ll_mem.mpr ⟨v, hj, rfl⟩, fun z => absurd z e2⟩
    refine h'.2.2 (j, ab_cv B μ v) (List.mem_cons_of_mem _ (List.mem_filter.mpr ⟨hm.1, ?_⟩))
    by_cases e2 : j + 1 = i
    · have := hm.2 e2
      simp [e, ab_cv_cat, this]
    · simp [e, e2]
/-- the handlers that the call at pc names: each is a row of the method's table that covers pc, the rows ahead of it don't or are of another class; its first instruction stores what is caught -/
def ab_hok (M pc : Nat) (hs : List (Nat × Nat × Nat)) : Prop := (hs = [] → ∀ x ∈ tableOf (ab_tb M), covers x pc = false) ∧ ∀ q ∈ hs, ∃ (pre : List ExceptionTableEntry) (x : ExceptionTableEntry) (suf : List ExceptionTableEntry), tableOf (ab_tb M) = pre ++ x :: suf ∧ (∀ z ∈ pre, z.catchType ≠ 0 ∧ ∃ E' : Nat, 1 ≤ E' ∧ E' ≤ 3 ∧ q.1 ≠ E' ∧ Cond.classLink (ab_my M).cls z.catchType (ab_ex E') ∈ ab_TG) ∧ (1 ≤ q.1 ∧ q.1 ≤ 3) ∧ covers x pc = true ∧ x.catchType ≠ 0 ∧ Cond.classLink (ab_my M).cls x.catchType (ab_ex q.1) ∈ ab_TG ∧ Cond.castable (ab_ex q.1) (ab_ex q.1) ∈ ab_TN ∧ (∃ w : Nat, (decode (ab_mb M) x.handlerPc = .ok (.astore q.2.2, 2) ∧ w = 2 ∨ ∃ n : Fin 4, (n : Nat) = q.2.2 ∧ decode (ab_mb M) x.handlerPc = .ok (.astore_n n, 1) ∧ w = 1) ∧ x.handlerPc + w = q.2.1) ∧ q.2.2 < ab_mL M
theorem ab_hok_n {M pc : Nat} (h : ab_tb M = []) : ab_hok M pc [] := ⟨fun _ x hx => (by rw [h] at hx; cases hx), fun q hq => absurd hq List.not_mem_nil⟩
theorem ab_hok_0 {M pc : Nat} (h : ∀ x ∈ tableOf (ab_tb M), covers x pc = false) : ab_hok M pc [] := ⟨fun _ => h, fun q hq => absurd hq List.not_mem_nil⟩
theorem ab_pick_some {hs : List (Nat × Nat × Nat)} {E pc i : Nat} (h : ab_pick hs E = some (pc, i)) : (E, pc, i) ∈ hs := by
  obtain ⟨q, h1, h2⟩ := Option.map_eq_some_iff.mp h
  have h3 := List.find?_some h1
  have h4 : q.1 = E := by simpa using h3
  have h5 := List.mem_of_find?_eq_some h1
  obtain ⟨a, b⟩ := q
  simp only at h4 h2
  subst h4
  subst h2
  exact h5
/-- what a call gives, whichever instruction makes it: hrun is the run of the callee -/
theorem ab_call {M pc M' na nx : Nat} {rc : Option (Nat × Nat)} {v : Bool} {hs : List (Nat × Nat × Nat)} (hhs : ab_hok M pc hs) (hnx : nx = pc + 3) (hcode : ab_cw M' ∈ ab_TG ∧ plainName (ab_my M').cls = true)
    (hrun : ∀ {p : Program} {l : Launch} {e : Env} {R : Room} {s : State} {m : MethodId} {args : Array Value} {below : List Frame} {meth : Method} {c : Code} {H : Heap} {locs : List Loc} {cells slots : Nat} {g : ab_G} {A : Nat → Prop} {μ : Nat → Nat} {h : ab_H} {ls : Array Slot} {d mc ms : Nat} {r : ab_T} {as rest stk : List ab_V} {loc : ab_M},
      as.length = na → stk = as.reverse ++ rest → ab_sum rest ≤ 8 → ab_rc rc as h = true → ab_X B M g A p l s m args meth c → ab_At B M g A μ h H ls loc stk s locs →
      vx_Met l (ab_my M') (ab_wsM M') ({ frames := d + 10, cells := mc, slots := ms, locals := 60 * d + 200 } : Room) (ab_PC B g A μ h as) (ab_QC B g A μ h r) (ab_XC B g A μ h r) mc ms A → d + 11 ≤ R.frames → 60 * (d + 1) + 200 ≤ R.locals → cells + mc ≤ R.cells → slots + ms ≤ R.slots →
      vx_Run p l e R s m args below meth c H locs cells slots mc ms (F0 m pc ls (stk.map (ab_cv B μ))) (rest.map (ab_cv B μ)) (ab_QC B g A μ h r (as.map (ab_cv B μ)).toArray) (ab_XC B g A μ h r) A) :
    ab_Sn B M pc (ab_o_call rc hs M' (ab_mL M') na v nx) := fun loc stk h => by
  unfold ab_o_call
  split
  · rename_i as rest hsp
    split
    · rename_i hc
      obtain ⟨hstk, hlen⟩ := ab_split_app hsp
      refine ⟨rfl, as, rfl, fun v hv => by rw [hstk]; exact List.mem_append_left _ (List.mem_reverse.mpr hv), hc.2.2, hcode, fun r => ⟨fun r' hk => ?_, fun q hk => ?_, ?_⟩⟩
      · obtain ⟨o, h'⟩ := r
        match o, hk with
        | .inl (some x), hk => simp only [ab_k] at hk; split at hk <;> cases hk
        | .inl none, hk => simp only [ab_k] at hk; split at hk <;> cases hk
        | .inr E, hk =>
          match hs, hk with
          | [], hk => cases hk; rfl
          | q :: hs', hk =>
            simp only [ab_k] at hk
            split at hk <;> cases hk
      · obtain ⟨o, h'⟩ := r
        match o, hk with
        | .inl (some x), hk => simp only [ab_k] at hk; split at hk <;> cases hk; rfl
        | .inl none, hk => simp only [ab_k] at hk; split at hk <;> cases hk; rfl
        | .inr E, hk =>
          match hs, hk with
          | [], hk => cases hk
          | q :: hs', hk =>
            simp only [ab_k] at hk
            split at hk
            · cases hk; rfl
            · cases hk
      · intro p l e R s m args below meth c H locs cells slots g A μ μ0 hh ls b1 b2 d rr hM m1 m2 m3 X At c1 c2 c3 c4 c5 c6 hμ hn kf kn kj
        obtain ⟨mc, hmc⟩ := Nat.exists_eq_add_of_le m1
        obtain ⟨ms, hms⟩ := Nat.exists_eq_add_of_le m2
        have hr := hrun (l := l) (cells := cells) (slots := slots) (e := e) (below := below) hlen hstk hc.1 hc.2.1 X At (hM mc ms hmc.symm hms.symm) c5 c6 (by omega) (by omega)
        have hin : ∀ w ∈ rest, w ∈ stk := fun w hw => by rw [hstk]; exact List.mem_append_right _ hw
        refine ab_after hr At.2.2.2.2 (fun v9 μ' H1 locs1 q1 q3 q4 q5 q6 => ?_) (fun n μ' H1 locs1 q ce q1 q3 q4 q5 hce hcv hcl => ?_)
        · have At1 : ∀ x : List ab_V, (∀ w ∈ x, v9 = some w ∨ w ∈ rest) → ab_At B M g A μ' r.2 H1 ls loc x s locs1 := fun x hx => ⟨q4, ⟨At.2.1.1, At.2.1.2.1, At.2.1.2.2.1, fun i w hw => by rw [ab_cv_eq q3 (At.2.2.2.1 w (List.mem_of_getElem? hw))]; exact At.2.1.2.2.2 i w hw⟩, fun w hw => (hx w hw).elim (fun z => q5 w z) (fun z => (At.2.2.1 w (hin w z)).le m3), fun w hw => (At.2.2.2.1 w hw).le m3, q6⟩
          have hmap : rest.map (ab_cv B μ') = rest.map (ab_cv B μ) := ab_cv_map q3 (fun w hw => At.2.2.1 w (hin w hw))
          obtain ⟨o, h'⟩ := r
          cases q1
          cases v9 with
          | some x =>
            cases v with
            | false => exact (kn rfl).elim
            | true =>
              refine ab_W_stk ?_ (hnx ▸ kj nx loc (x :: rest) h' rfl μ' H1 locs1 (cells + mc) (slots + ms) ls q3 (At1 _ (fun w hw => (List.mem_cons.mp hw).elim (fun z => Or.inl (by rw [z])) Or.inr)) (by have e9 : ab_kc h' = ab_kc h + mc := hmc; omega) (by have e9 : ab_ks h' = ab_ks h + ms := hms; omega))
              simp [hmap]
          | none =>
            cases v with
            | true => exact (kn rfl).elim
            | false =>
              refine ab_W_stk ?_ (hnx ▸ kj nx loc rest h' rfl μ' H1 locs1 (cells + mc) (slots + ms) ls q3 (At1 _ (fun w hw => Or.inr hw)) (by have e9 : ab_kc h' = ab_kc h + mc := hmc; omega) (by have e9 : ab_ks h' = ab_ks h + ms := hms; omega))
              simp [hmap]
        · obtain ⟨o, h'⟩ := r
          cases q1
          match hs, hhs, kf, kn, kj with
          | [], hhs, kf, kn, kj =>
            obtain ⟨k1, k2, k3⟩ := kf _ rfl
            subst k1
            refine vx_out (E := ab_ex n) (ce := ce) (q := q) (fun x hx => hhs.1 rfl x (by rw [← X.2.2.2.2.2.2.2.2.2.2]; exact hx)) X.2.2.2.2.2.1 hce hcv hcl (fun t ht hal => ⟨n, μ', rfl, rfl, fun i hi => (q3 i (Nat.lt_of_lt_of_le hi hn)).trans (hμ i hi), by rw [ht]; exact q4, q5.F ht⟩) q5.2.2 (by omega) (by omega)
          | q0 :: hs', hhs, kf, kn, kj =>
            cases hpk : ab_pick (q0 :: hs') n with
            | none => exact (kn (by simp only [ab_k]; rw [hpk])).elim
            | some pi =>
              obtain ⟨px, ii⟩ := pi
              obtain ⟨pre, x, suf, i1, i2, i0, i3, i4, i5, i6, ⟨w9, i7, i9⟩, i8⟩ := hhs.2 _ (ab_pick_some hpk)
              have hl0 : lv_has ls (ab_mL M) (ab_ll B μ' loc) := ab_lh.has ⟨At.2.1.1, At.2.1.2.1, At.2.1.2.2.1, fun i w hw => by rw [ab_cv_eq q3 (At.2.2.2.1 w (List.mem_of_getElem? hw))]; exact At.2.1.2.2.2 i w hw⟩
              have hfin : ∀ ls' : Array Slot, lv_has ls' (ab_mL M) ((ii, Value.ref q) :: (ab_ll B μ' loc).filter (fun q9 => !(q9.1 == ii) && !(q9.1 + 1 == ii && q9.2.category == 2))) → W p l e R s m args below meth c H1 locs1 (cells + mc) (slots + ms) _ (F0 m (x.handlerPc + w9) ls' []) := fun ls' hl' => by
                rw [show x.handlerPc + w9 = px from i9]
                refine kj px (ab_set1 loc ii none) [] h' (by simp only [ab_k]; rw [hpk]) μ' H1 locs1 (cells + mc) (slots + ms) ls' q3 ⟨q4, ab_lh.setn (a := q) ⟨At.2.1.1, At.2.1.2.1, At.2.1.2.2.1, fun i w hw => by rw [ab_cv_eq q3 (At.2.2.2.1 w (List.mem_of_getElem? hw))]; exact At.2.1.2.2.2 i w hw⟩ i8 hl', fun w hw => absurd hw List.not_mem_nil, fun w hw => ?_, q5⟩ (by have e9 : ab_kc h' = ab_kc h + mc := hmc; omega) (by have e9 : ab_ks h' = ab_ks h + ms := hms; omega)
                rcases ab_set1_mem hw with e | e
                · cases e
                · exact (At.2.2.2.1 w e).le m3
              refine vx_catch X.2.2.2.1 (E := ab_ex n) (name := ab_ex n) pre x suf (X.2.2.2.2.2.2.2.2.2.2.trans i1) (fun z hz => ?_) i3 i4 (X.2.2.2.2.2.2.1 _ i5) (va_Nw.use (ab_TN_on i6) (X.2.2.2.2.2.2.2.1.2.2.1 _ i6)) hce hcv hcl ?_
              · obtain ⟨z0, E', z1, z2, z3, z4⟩ := i2 z hz
                exact Or.inr ⟨z0, ab_ex E', X.2.2.2.2.2.2.1 _ z4, X.2.2.2.2.2.2.2.1.2.2.2.2.2.2.2.2.2.2.2.2.1 n E' i0.1 i0.2 z1 z2 z3⟩
              · rcases i7 with ⟨i7, rfl⟩ | ⟨n4, i71, i72, rfl⟩
                · exact lv_astore (x := q) X.1 X.2.1 i7 hl0 i8 rfl hfin
                · exact lv_astore_n (x := q) X.1 X.2.1 i72 i71 hl0 i8 rfl hfin
    · trivial
  · trivial
theorem ab_args_rev {μ : Nat → Nat} {as rest stk : List ab_V} (h : stk = as.reverse ++ rest) : stk.map (ab_cv B μ) = (as.map (ab_cv B μ)).reverse ++ rest.map (ab_cv B μ) := by rw [h, List.map_append, List.map_reverse]
theorem ab_room {μ : Nat → Nat} {rest : List ab_V} {m : MethodId} {pc : Nat} {ls : Array Slot} {st : List Value} (h : ab_sum rest ≤ 8) : 2 * (F0 m pc ls st).monitorRoom + ((rest.map (ab_cv B μ)).map fun v => v.category).sum ≤ 8 := by
  rw [ab_sum_cat]
  exact (show 2 * 0 + ab_sum rest ≤ 8 by omega)
theorem ab_rc_some {s : Nat × Nat} {as : List ab_V} {h : ab_H} (h0 : s.1 ≠ 1000) (hr : ab_rc (some s) as h = true) : ∃ (a : Nat) (as' : List ab_V), as = ab_Q (some a) :: as' ∧ (ab_sh h)[a]? = some s := by
  match as, hr with
  | .inr (.inr (.inl (some a))) :: as', hr => exact ⟨a, as', rfl, (of_decide_eq_true hr).1⟩
  | .inr (.inr (.inr k)) :: as', hr => exact absurd (of_decide_eq_true hr).1 h0
theorem ab_rc_txt {N : Nat} {as : List ab_V} {h : ab_H} (hr : ab_rc (some (1000, N)) as h = true) : ∃ (k : Nat) (as' : List ab_V), as = ab_Z k :: as' ∧ k % 2 = 1 ∧ k < 2 * N := by
  match as, hr with
  | .inr (.inr (.inl (some a))) :: as', hr => exact absurd rfl (of_decide_eq_true hr).2
  | .inr (.inr (.inr k)) :: as', hr => exact ⟨k, as', rfl, (of_decide_eq_true hr).2⟩
/-- a virtual call -/
theorem ab_s_callV {hs : List (Nat × Nat × Nat)} {M pc M' na i ci N : Nat} {C : String} {T : u_T} {v : Bool} (hhs : ab_hok M pc hs) (hM' : ab_tb M' = []) (hd : decode (ab_mb M) pc = .ok (.invokevirtual i, 3)) (hc : ab_cl[ci]? = some (C, T, N)) (hk : ci + 4 ≠ 1000) (hy : (ab_my M').cls ≠ "java/lang/invoke/MethodHandle" ∧ (ab_my M').cls ≠ "java/lang/invoke/VarHandle") (hn : (parseMethodDescriptor (ab_my M').desc).map (fun d => d.parameters.length) = some na) (hL : ab_mL M' ≤ 40)
    (hcode : ab_cw M' ∈ ab_TG ∧ plainName (ab_my M').cls = true) (h1 : Cond.methodLink (ab_my M).cls i (ab_my M') ∈ ab_TG) (h2 : Cond.instanceMethod (ab_my M') ∈ ab_TG) (h3 : Cond.selects C (ab_my M') (ab_my M') ∈ ab_TG) (h4 : Cond.initialized (ab_my M').cls ∈ ab_TG) :
    ab_Sn B M pc (ab_o_call (some (ci + 4, N)) hs M' (ab_mL M') (na + 1) v (pc + 3)) := by
  refine ab_call hhs rfl hcode ?_
  intro p l e R s m args below meth c H locs cells slots g A μ h ls d mc ms r as rest stk loc hlen hstk hsum hrc X At hM hf hlo hcl hsl
  obtain ⟨a, as', rfl, hsh⟩ := ab_rc_some hk hrc
  have hlen' : as'.length = na := by simpa using hlen
  refine vx_runV (As := as'.map (ab_cv B μ)) (n := na) (ws := ab_wsM M') (Ts := ab_TG) ⟨X.1, X.2.1, X.2.2.1, X.2.2.2.1, X.2.2.2.2.2.2.1⟩ hM
    ⟨callB_of na X.2.2.2.2.2.2.1 (ab_GoodIn hcode.1) (by unfold ab_wsM; rw [ab_cw_n hM']) rfl rfl (X.2.2.2.2.2.2.1 _ h4) (X.2.2.2.2.2.2.1 _ h1) ⟨hy.1, hy.2, hn⟩ ⟨by show d + 10 + 1 ≤ _; omega, by show 8 + (ab_mL M' + 11) + (60 * d + 200) ≤ _; omega⟩, X.2.2.2.2.2.2.1 _ h2, X.2.2.2.2.2.2.1 _ h3⟩
    ⟨ab_PC_blind, va_recv X.2.2.2.2.2.2.2.1.1 At.1.1 hc (ab_ws_at hsh), fun U hU hW => ⟨rfl, by rw [hU]; exact At.1, X.2.2.2.2.2.2.2.1.to hW At.2.2.2.2 hU⟩⟩ rfl (by simpa using hlen') At.2.1.1 ?_ (ab_room hsum) hd ⟨hcl, hsl⟩
  show stk.map (ab_cv B μ) = _
  rw [ab_args_rev hstk]
  simp [ab_cv]
/-- a virtual call of a text -/
theorem ab_s_callT {hs : List (Nat × Nat × Nat)} {M pc M' na i : Nat} {v : Bool} (hhs : ab_hok M pc hs) (hM' : ab_tb M' = []) (hd : decode (ab_mb M) pc = .ok (.invokevirtual i, 3)) (hy : (ab_my M').cls ≠ "java/lang/invoke/MethodHandle" ∧ (ab_my M').cls ≠ "java/lang/invoke/VarHandle") (hn : (parseMethodDescriptor (ab_my M').desc).map (fun d => d.parameters.length) = some na) (hL : ab_mL M' ≤ 40)
    (hcode : ab_cw M' ∈ ab_TG ∧ plainName (ab_my M').cls = true) (h1 : Cond.methodLink (ab_my M).cls i (ab_my M') ∈ ab_TG) (h2 : Cond.instanceMethod (ab_my M') ∈ ab_TG) (h3 : Cond.selects "java/lang/String" (ab_my M') (ab_my M') ∈ ab_TG) (h4 : Cond.initialized (ab_my M').cls ∈ ab_TG) :
    ab_Sn B M pc (ab_o_call (some (1000, 4)) hs M' (ab_mL M') (na + 1) v (pc + 3)) := by
  refine ab_call hhs rfl hcode ?_
  intro p l e R s m args below meth c H locs cells slots g A μ h ls d mc ms r as rest stk loc hlen hstk hsum hrc X At hM hf hlo hcl hsl
  obtain ⟨k, as', rfl, k1, k2⟩ := ab_rc_txt hrc
  obtain ⟨i9, rfl⟩ : ∃ i9, k = 2 * i9 + 1 := ⟨k / 2, by omega⟩
  have hE := X.2.2.2.2.2.2.2.1.2.2.2.2.2.2.2.2.2.1 i9 (by omega)
  have hlen' : as'.length = na := by simpa using hlen
  refine vx_runV (As := as'.map (ab_cv B μ)) (n := na) (ws := ab_wsM M') (Ts := ab_TG) ⟨X.1, X.2.1, X.2.2.1, X.2.2.2.1, X.2.2.2.2.2.2.1⟩ hM
    ⟨callB_of na X.2.2.2.2.2.2.1 (ab_GoodIn hcode.1) (by unfold ab_wsM; rw [ab_cw_n hM']) rfl rfl (X.2.2.2.2.2.2.1 _ h4) (X.2.2.2.2.2.2.1 _ h1) ⟨hy.1, hy.2, hn⟩ ⟨by show d + 10 + 1 ≤ _; omega, by show 8 + (ab_mL M' + 11) + (60 * d + 200) ≤ _; omega⟩, X.2.2.2.2.2.2.1 _ h2, X.2.2.2.2.2.2.1 _ h3⟩
    ⟨ab_PC_blind, (by have := vk_recv (i := 0) hE (by omega) At.2.2.2.2; rw [← ab_fa_t] at this; exact this), fun U hU hW => ⟨rfl, by rw [hU]; exact At.1, X.2.2.2.2.2.2.2.1.to hW At.2.2.2.2 hU⟩⟩ rfl (by simpa using hlen') At.2.1.1 ?_ (ab_room hsum) hd ⟨hcl, hsl⟩
  show stk.map (ab_cv B μ) = _
  rw [ab_args_rev hstk]
  simp [ab_cv]
/-- super.m(..) -/
theorem ab_s_callSU {hs : List (Nat × Nat × Nat)} {M pc M' na i ci N : Nat} {C : String} {T : u_T} {v : Bool} (hhs : ab_hok M pc hs) (hM' : ab_tb M' = []) (hd : decode (ab_mb M) pc = .ok (.invokespecial i, 3)) (hc : ab_cl[ci]? = some (C, T, N)) (hk : ci + 4 ≠ 1000) (hy : (ab_my M').cls ≠ "java/lang/invoke/MethodHandle" ∧ (ab_my M').cls ≠ "java/lang/invoke/VarHandle") (hnm : (ab_my M').name ≠ "<init>") (hn : (parseMethodDescriptor (ab_my M').desc).map (fun d => d.parameters.length) = some na) (hL : ab_mL M' ≤ 40)
    (hcode : ab_cw M' ∈ ab_TG ∧ plainName (ab_my M').cls = true) (h1 : Cond.methodLink (ab_my M).cls i (ab_my M') ∈ ab_TG) (h2 : Cond.instanceMethod (ab_my M') ∈ ab_TG) (h3 : Cond.sameMethod (ab_my M').cls (ab_my M').cls (ab_my M').name (ab_my M').desc ∈ ab_TG) (h4 : Cond.initialized (ab_my M').cls ∈ ab_TG) (h5 : Cond.superclass (ab_my M).cls (ab_my M').cls ∈ ab_TG) :
    ab_Sn B M pc (ab_o_call (some (ci + 4, N)) hs M' (ab_mL M') (na + 1) v (pc + 3)) := by
  refine ab_call hhs rfl hcode ?_
  intro p l e R s m args below meth c H locs cells slots g A μ h ls d mc ms r as rest stk loc hlen hstk hsum hrc X At hM hf hlo hcl hsl
  obtain ⟨a, as', rfl, hsh⟩ := ab_rc_some hk hrc
  have hlen' : as'.length = na := by simpa using hlen
  have hcode' : Cond.code (ab_my M') (ab_mb M') (ab_mL M') (ab_mr M') ∈ ab_TG := by have := hcode.1; rwa [ab_cw_n hM'] at this
  have cb := callB_of (R := R) (rm := ({ frames := d + 10, cells := mc, slots := ms, locals := 60 * d + 200 } : Room)) (mc := mc) (ms := ms) (own := (ab_my M).cls) (index := i) na X.2.2.2.2.2.2.1 (ab_GoodIn hcode.1) (by unfold ab_wsM; rw [ab_cw_n hM']) rfl rfl (X.2.2.2.2.2.2.1 _ h4) (X.2.2.2.2.2.2.1 _ h1) ⟨hy.1, hy.2, hn⟩ ⟨by show d + 10 + 1 ≤ _; omega, by show 8 + (ab_mL M' + 11) + (60 * d + 200) ≤ _; omega⟩
  refine vx_runSU (As := as'.map (ab_cv B μ)) (n := na) (ws := ab_wsM M') (Ts := ab_TG) (X.2.2.2.2.2.2.2.1.1.1 ci _ hc).2 ⟨X.1, X.2.1, X.2.2.1, X.2.2.2.1, X.2.2.2.2.2.2.1⟩ hM
    ⟨⟨cb.1, cb.2.1, cb.2.2.1, cb.2.2.2.1, cb.2.2.2.2.1, cb.2.2.2.2.2.1⟩, X.2.2.2.2.2.2.1 _ h1, X.2.2.2.2.2.2.1 _ h3, X.2.2.2.2.2.2.1 _ h5, X.2.2.2.2.2.2.1 _ h2, X.2.2.2.2.2.2.1 _ h4, X.2.2.2.2.2.2.1 _ hcode', hnm, cb.2.2.2.2.2.2.2.2.2.1⟩
    ⟨ab_PC_blind, va_recv X.2.2.2.2.2.2.2.1.1 At.1.1 hc (ab_ws_at hsh), fun U hU hW => ⟨rfl, by rw [hU]; exact At.1, X.2.2.2.2.2.2.2.1.to hW At.2.2.2.2 hU⟩⟩ rfl (by simpa using hlen') At.2.1.1 ?_ (ab_room hsum) hd ⟨hcl, hsl⟩
  show stk.map (ab_cv B μ) = _
  rw [ab_args_rev hstk]
  simp [ab_cv]
/-- a method of a class above, overridden below -/
theorem ab_s_callO {hs : List (Nat × Nat × Nat)} {M pc M' na i ci N : Nat} {C : String} {T : u_T} {x : MethodName} {b0 : ByteArray} {m0 : Nat} {r0 : Option FieldType} {v : Bool} (hhs : ab_hok M pc hs) (hM' : ab_tb M' = []) (hd : decode (ab_mb M) pc = .ok (.invokevirtual i, 3)) (hc : ab_cl[ci]? = some (C, T, N)) (hk : ci + 4 ≠ 1000) (hy : x.cls ≠ "java/lang/invoke/MethodHandle" ∧ x.cls ≠ "java/lang/invoke/VarHandle") (hn : (parseMethodDescriptor x.desc).map (fun d => d.parameters.length) = some na) (hL : ab_mL M' ≤ 40)
    (hcode : ab_cw M' ∈ ab_TG ∧ plainName (ab_my M').cls = true) (h1 : Cond.methodLink (ab_my M).cls i x ∈ ab_TG) (h2 : Cond.instanceMethod (ab_my M') ∈ ab_TG) (h3 : Cond.sameMethod x.cls x.cls x.name x.desc ∈ ab_TG) (h4 : Cond.initialized (ab_my M').cls ∈ ab_TG) (h5 : Cond.selects C x (ab_my M') ∈ ab_TG) (h6 : Cond.instanceMethod x ∈ ab_TG) (h7 : Cond.code x b0 m0 r0 ∈ ab_TG) :
    ab_Sn B M pc (ab_o_call (some (ci + 4, N)) hs M' (ab_mL M') (na + 1) v (pc + 3)) := by
  refine ab_call hhs rfl hcode ?_
  intro p l e R s m args below meth c H locs cells slots g A μ h ls d mc ms r as rest stk loc hlen hstk hsum hrc X At hM hf hlo hcl hsl
  obtain ⟨a, as', rfl, hsh⟩ := ab_rc_some hk hrc
  have hlen' : as'.length = na := by simpa using hlen
  have hcode' : Cond.code (ab_my M') (ab_mb M') (ab_mL M') (ab_mr M') ∈ ab_TG := by have := hcode.1; rwa [ab_cw_n hM'] at this
  refine vx_runU (owner := x.cls) (As := as'.map (ab_cv B μ)) (n := na) (ws := ab_wsM M') (Ts := ab_TG) (C := C) (x := x) ⟨X.1, X.2.1, X.2.2.1, X.2.2.2.1, X.2.2.2.2.2.2.1⟩ hM
    (va_cwO na X.2.2.2.2.2.2.1 (fun w hw => ?_) (by unfold ab_wsM; rw [ab_cw_n hM']) rfl rfl (b0 := b0) (m0 := m0) (r0 := r0) h7 ⟨hy.1, hy.2, hn⟩ ⟨by show d + 10 + 1 ≤ _; omega, by show 8 + (ab_mL M' + 11) + (60 * d + 200) ≤ _; omega⟩)
    ⟨ab_PC_blind, va_recv X.2.2.2.2.2.2.2.1.1 At.1.1 hc (ab_ws_at hsh), fun U hU hW => ⟨rfl, by rw [hU]; exact At.1, X.2.2.2.2.2.2.2.1.to hW At.2.2.2.2 hU⟩⟩ rfl (by simpa using hlen') At.2.1.1 ?_ (ab_room hsum) hd ⟨hcl, hsl⟩
  · unfold va_wsO at hw
    rcases List.mem_append.mp hw with q | q
    · have h9 : w ∈ ab_TG := by
        simp only [List.mem_cons, List.not_mem_nil, or_false] at q
        rcases q with q | q | q | q | q | q <;> subst q <;> assumption
      exact ⟨h9, good_of_word (ab_good w h9)⟩
    · exact ab_GoodIn hcode.1 w q
  · show stk.map (ab_cv B μ) = _
    rw [ab_args_rev hstk]
    simp [ab_cv]
/-- a static call -/
theorem ab_s_callS {hs : List (Nat × Nat × Nat)} {M pc M' na i : Nat} {v : Bool} (hhs : ab_hok M pc hs) (hM' : ab_tb M' = []) (hd : decode (ab_mb M) pc = .ok (.invokestatic i, 3)) (hy : (ab_my M').cls ≠ "java/lang/invoke/MethodHandle" ∧ (ab_my M').cls ≠ "java/lang/invoke/VarHandle") (hn : (parseMethodDescriptor (ab_my M').desc).map (fun d => d.parameters.length) = some na) (hL : ab_mL M' ≤ 40)
    (hcode : ab_cw M' ∈ ab_TG ∧ plainName (ab_my M').cls = true) (h1 : Cond.methodLink (ab_my M).cls i (ab_my M') ∈ ab_TG) (h2 : Cond.static (ab_my M') ∈ ab_TG) (h4 : Cond.initialized (ab_my M').cls ∈ ab_TG) :
    ab_Sn B M pc (ab_o_call none hs M' (ab_mL M') na v (pc + 3)) := by
  refine ab_call hhs rfl hcode ?_
  intro p l e R s m args below meth c H locs cells slots g A μ h ls d mc ms r as rest stk loc hlen hstk hsum hrc X At hM hf hlo hcl hsl
  refine vx_runS (As := as.map (ab_cv B μ)) (n := na) (ws := ab_wsM M') (Ts := ab_TG) ⟨X.1, X.2.1, X.2.2.1, X.2.2.2.1, X.2.2.2.2.2.2.1⟩ hM
    ⟨callB_of na X.2.2.2.2.2.2.1 (ab_GoodIn hcode.1) (by unfold ab_wsM; rw [ab_cw_n hM']) rfl rfl (X.2.2.2.2.2.2.1 _ h4) (X.2.2.2.2.2.2.1 _ h1) ⟨hy.1, hy.2, hn⟩ ⟨by show d + 10 + 1 ≤ _; omega, by show 8 + (ab_mL M' + 11) + (60 * d + 200) ≤ _; omega⟩, X.2.2.2.2.2.2.1 _ h2⟩
    ⟨ab_PC_blind, fun U hU hW => ⟨rfl, by rw [hU]; exact At.1, X.2.2.2.2.2.2.2.1.to hW At.2.2.2.2 hU⟩⟩ rfl (by simpa using hlen) At.2.1.1 (ab_args_rev hstk) (ab_room hsum) hd ⟨hcl, hsl⟩
/-- a constructor's call -/
theorem ab_s_callI {hs : List (Nat × Nat × Nat)} {M pc M' na i : Nat} {sh : Nat × Nat} (hk : sh.1 ≠ 1000) (hhs : ab_hok M pc hs) (hM' : ab_tb M' = []) (hd : decode (ab_mb M) pc = .ok (.invokespecial i, 3)) (hy : (ab_my M').cls ≠ "java/lang/invoke/MethodHandle" ∧ (ab_my M').cls ≠ "java/lang/invoke/VarHandle") (hn : (parseMethodDescriptor (ab_my M').desc).map (fun d => d.parameters.length) = some na) (hL : ab_mL M' ≤ 40) (hr : ab_mr M' = none) (hnm : (ab_my M').name = "<init>")
    (hcode : ab_cw M' ∈ ab_TG ∧ plainName (ab_my M').cls = true) (h1 : Cond.methodLink (ab_my M).cls i (ab_my M') ∈ ab_TG) (h2 : Cond.instanceMethod (ab_my M') ∈ ab_TG) (h4 : Cond.initialized (ab_my M').cls ∈ ab_TG) :
    ab_Sn B M pc (ab_o_call (some sh) hs M' (ab_mL M') (na + 1) false (pc + 3)) := by
  refine ab_call hhs rfl hcode ?_
  intro p l e R s m args below meth c H locs cells slots g A μ h ls d mc ms r as rest stk loc hlen hstk hsum hrc X At hM hf hlo hcl hsl
  obtain ⟨a, as', rfl, hsh⟩ := ab_rc_some hk hrc
  have hlen' : as'.length = na := by simpa using hlen
  refine vx_runI (As := as'.map (ab_cv B μ)) (n := na) (ws := ab_wsM M') (Ts := ab_TG) (bytes := ab_mb M') (maxL := ab_mL M') (b := μ a) ⟨X.1, X.2.1, X.2.2.1, X.2.2.2.1, X.2.2.2.2.2.2.1⟩ hM
    ⟨callB_of na X.2.2.2.2.2.2.1 (ab_GoodIn hcode.1) (by unfold ab_wsM; rw [ab_cw_n hM', hr]) rfl rfl (X.2.2.2.2.2.2.1 _ h4) (X.2.2.2.2.2.2.1 _ h1) ⟨hy.1, hy.2, hn⟩ ⟨by show d + 10 + 1 ≤ _; omega, by show 8 + (ab_mL M' + 11) + (60 * d + 200) ≤ _; omega⟩, hnm, X.2.2.2.2.2.2.1 _ h2⟩
    ⟨ab_PC_blind, fun U hU hW => ⟨rfl, by rw [hU]; exact At.1, X.2.2.2.2.2.2.2.1.to hW At.2.2.2.2 hU⟩⟩ rfl (by simpa using hlen') At.2.1.1 ?_ (ab_room hsum) hd ⟨hcl, hsl⟩
  show stk.map (ab_cv B μ) = _
  rw [ab_args_rev hstk]
  simp [ab_cv]
/-- a nest mate's constructor's call -/
theorem ab_s_callIN {hs : List (Nat × Nat × Nat)} {M pc M' na i : Nat} {host : String} {sh : Nat × Nat} (hk : sh.1 ≠ 1000) (hhs : ab_hok M pc hs) (hM' : ab_tb M' = []) (hd : decode (ab_mb M) pc = .ok (.invokespecial i, 3)) (hy : (ab_my M').cls ≠ "java/lang/invoke/MethodHandle" ∧ (ab_my M').cls ≠ "java/lang/invoke/VarHandle") (hn : (parseMethodDescriptor (ab_my M').desc).map (fun d => d.parameters.length) = some na) (hL : ab_mL M' ≤ 40) (hr : ab_mr M' = none) (hnm : (ab_my M').name = "<init>")
    (hcode : ab_cw M' ∈ ab_TG ∧ plainName (ab_my M').cls = true) (h1 : Cond.methodLinkNest (ab_my M).cls i (ab_my M') host ∈ ab_TN) (h2 : Cond.instanceMethod (ab_my M') ∈ ab_TG) (h4 : Cond.initialized (ab_my M').cls ∈ ab_TG) :
    ab_Sn B M pc (ab_o_call (some sh) hs M' (ab_mL M') (na + 1) false (pc + 3)) := by
  refine ab_call hhs rfl hcode ?_
  intro p l e R s m args below meth c H locs cells slots g A μ h ls d mc ms r as rest stk loc hlen hstk hsum hrc X At hM hf hlo hcl hsl
  obtain ⟨a, as', rfl, hsh⟩ := ab_rc_some hk hrc
  have hlen' : as'.length = na := by simpa using hlen
  refine vx_runIN (As := as'.map (ab_cv B μ)) (n := na) (ws := ab_wsM M') (Ts := ab_TG) (bytes := ab_mb M') (maxL := ab_mL M') (b := μ a) (host := host) ⟨X.1, X.2.1, X.2.2.1, X.2.2.2.1, X.2.2.2.2.2.2.1⟩ hM
    ⟨va_cnB na X.2.2.2.2.2.2.1 (ab_GoodIn hcode.1) (by unfold ab_wsM; rw [ab_cw_n hM', hr]) rfl rfl (X.2.2.2.2.2.2.2.1.2.2.1 _ h1) (X.2.2.2.2.2.2.1 _ h4) ⟨hy.1, hy.2, hn⟩ ⟨by show d + 10 + 1 ≤ _; omega, by show 8 + (ab_mL M' + 11) + (60 * d + 200) ≤ _; omega⟩, hnm, X.2.2.2.2.2.2.1 _ h2⟩
    ⟨ab_PC_blind, fun U hU hW => ⟨rfl, by rw [hU]; exact At.1, X.2.2.2.2.2.2.2.1.to hW At.2.2.2.2 hU⟩⟩ rfl (by simpa using hlen') At.2.1.1 ?_ (ab_room hsum) hd ⟨hcl, hsl⟩
  show stk.map (ab_cv B μ) = _
  rw [ab_args_rev hstk]
  simp [ab_cv]
/-- a static call of the method with a table -/
theorem ab_s_callSX {M pc M' na i : Nat} {v : Bool} (hhs : ab_hok M pc []) (hM' : ab_tb M' ≠ []) (hd : decode (ab_mb M) pc = .ok (.invokestatic i, 3)) (hy : (ab_my M').cls ≠ "java/lang/invoke/MethodHandle" ∧ (ab_my M').cls ≠ "java/lang/invoke/VarHandle") (hn : (parseMethodDescriptor (ab_my M').desc).map (fun d => d.parameters.length) = some na) (hL : ab_mL M' ≤ 40)
    (hcode : ab_cw M' ∈ ab_TG ∧ plainName (ab_my M').cls = true) (h1 : Cond.methodLink (ab_my M).cls i (ab_my M') ∈ ab_TG) (h2 : Cond.static (ab_my M') ∈ ab_TG) (h4 : Cond.initialized (ab_my M').cls ∈ ab_TG) :
    ab_Sn B M pc (ab_o_call none [] M' (ab_mL M') na v (pc + 3)) := by
  refine ab_call hhs rfl hcode ?_
  intro p l e R s m args below meth c H locs cells slots g A μ h ls d mc ms r as rest stk loc hlen hstk hsum hrc X At hM hf hlo hcl hsl
  have hGI : GoodIn ab_TG (va_wsS (ab_my M).cls i (ab_my M') (ab_wsM M')) := fun w hw => by
    unfold va_wsS at hw
    rcases List.mem_append.mp hw with q | q
    · have h9 : w ∈ ab_TG := by
        simp only [List.mem_cons, List.not_mem_nil, or_false] at q
        rcases q with q | q | q <;> subst q <;> assumption
      exact ⟨h9, good_of_word (ab_good w h9)⟩
    · exact ab_GoodIn hcode.1 w q
  refine vx_runSX (hh := ab_tb M') (As := as.map (ab_cv B μ)) (n := na) (ws := ab_wsM M') (Ts := ab_TG) ⟨X.1, X.2.1, X.2.2.1, X.2.2.2.1, X.2.2.2.2.2.2.1⟩ hM
    (vx_cwSW na X.2.2.2.2.2.2.1 hGI (by unfold ab_wsM; rw [ab_cw_h hM']) rfl rfl ⟨hy.1, hy.2, hn⟩ ⟨by show d + 10 + 1 ≤ _; omega, by show 8 + (ab_mL M' + 11) + (60 * d + 200) ≤ _; omega⟩)
    ⟨ab_PC_blind, fun U hU hW => ⟨rfl, by rw [hU]; exact At.1, X.2.2.2.2.2.2.2.1.to hW At.2.2.2.2 hU⟩⟩ rfl (by simpa using hlen) At.2.1.1 (ab_args_rev hstk) (ab_room hsum) hd ⟨hcl, hsl⟩
end
