set_option linter.all false
/-! NEW CELLS, ENDS, THROWS, CALLS -/
section
variable {B : ab_B}
theorem ab_s_alen {M pc : Nat} (hd : decode (ab_mb M) pc = .ok (.arraylength, 1)) : ab_Sn B M pc (ab_o_alen (pc + 1)) := fun loc stk h => by
  unfold ab_o_alen
  split
  · rename_i a r
    split
    · rename_i t n hs
      split
      · rename_i hc
        refine ab_Sj.pure (fun h1 _ => ab_mem_c (ab_vs_i _ _) (ab_mem_t h1)) (fun X At _ _ _ _ _ k9 => ?_)
        have hv : ∀ m : Nat, Int32.ofNat m = Int32.ofInt (m : Int) := fun m => (Int32.ofInt_eq_ofNat).symm
        match t, hc with
        | 0, _ => exact va_alen X.1 X.2.1 X.2.2.2.2.2.2.2.1.1 At.1.1 a 0 (ab_ws_at hs) rfl (hv n) hd k9
        | 1, _ => exact va_alen X.1 X.2.1 X.2.2.2.2.2.2.2.1.1 At.1.1 a 1 (ab_ws_at hs) rfl (hv n) hd k9
        | 2, _ => exact va_alen X.1 X.2.1 X.2.2.2.2.2.2.2.1.1 At.1.1 a 2 (ab_ws_at hs) rfl (hv n) hd k9
        | 3, _ => exact va_alen X.1 X.2.1 X.2.2.2.2.2.2.2.1.1 At.1.1 a 3 (ab_ws_at hs) rfl (hv n) hd k9
        | t + 4, hc => exact absurd hc (by omega)
      · trivial
    · trivial
  · trivial
theorem ab_sum_cat {μ : Nat → Nat} {r : List ab_V} : ((r.map (ab_cv B μ)).map fun v => v.category).sum = ab_sum r := by
  unfold ab_sum
  rw [List.map_map]
  congr 1
  apply List.map_congr_left
  intro v _
  exact ab_cv_cat
/-- a new cell with the entry e at q -/
theorem ab_new_At {M : Nat} {g : ab_G} {A : Nat → Prop} {μ μ' : Nat → Nat} {h : ab_H} {H H1 : Heap} {ls : Array Slot} {loc : ab_M} {stk : List ab_V} {s : State} {locs locs1 : List Loc} {t n q : Nat} {e : va_E} (At : ab_At B M g A μ h H ls loc stk s locs) (hn : n < 2147483648)
    (hμ : ∀ i, i < ab_n h → μ' i = μ i) (hq : μ' (ab_n h) = q) (he : ab_en B g μ' (ab_new h t n) (ab_n h) (t, n) = e) (hP : va_P g.1 ab_cl (ab_ws B g μ h ++ [(q, e)]) H1) (hD : va_D A (ab_ws B g μ h ++ [(q, e)])) (hS : va_S A s.heap H1 locs1) :
    ab_At B M g A μ' (ab_new h t n) H1 ls loc stk s locs1 := by
  have hle : ab_n h ≤ ab_n (ab_new h t n) := by unfold ab_n; rw [ab_sh_new]; simp
  have hlt : ab_n h < ab_n (ab_new h t n) := by unfold ab_n; rw [ab_sh_new]; simp
  have hw : ab_ws B g μ' (ab_new h t n) = ab_ws B g μ h ++ [(q, e)] := by
    apply List.ext_getElem?
    intro j
    by_cases hj : j < ab_n h
    · rw [List.getElem?_append_left (by rw [ab_ws_len]; exact hj)]
      obtain ⟨s9, hs⟩ : ∃ s9, (ab_sh h)[j]? = some s9 := ⟨_, List.getElem?_eq_getElem hj⟩
      rw [ab_ws_at hs, ab_ws_at (h := ab_new h t n) (i := j) (s := s9) (by rw [ab_sh_new, List.getElem?_append_left hj]; exact hs), hμ j hj]
      rw [ab_en_eq hμ (fun k i hk => At.1.2.2.1 j k i hk) (fun k => by rw [ab_gi_new, if_neg (Nat.ne_of_lt hj)]) (fun k => by rw [ab_gr_new, if_neg (Nat.ne_of_lt hj)]) (fun k => by rw [ab_gl_new, if_neg (Nat.ne_of_lt hj)])]
    · rw [List.getElem?_append_right (by rw [ab_ws_len]; omega), ab_ws_len]
      by_cases hj2 : j = ab_n h
      · subst hj2
        rw [ab_ws_at (h := ab_new h t n) (i := ab_n h) (s := (t, n)) (by rw [ab_sh_new]; unfold ab_n; simp), he, hq]
        simp
      · have h9 : ab_n (ab_new h t n) = ab_n h + 1 := by unfold ab_n; rw [ab_sh_new]; simp
        rw [ab_ws_no (h := ab_new h t n) (List.getElem?_eq_none (by show ab_n (ab_new h t n) ≤ j; omega)), List.getElem?_eq_none (by simp; omega)]
  refine ⟨⟨by rw [hw]; exact hP, by rw [hw]; exact hD, fun c k j hj => ?_, fun i x hx => ?_⟩, ⟨At.2.1.1, At.2.1.2.1, At.2.1.2.2.1, fun i v hv => ?_⟩, fun v hv => (At.2.2.1 v hv).le hle, fun v hv => (At.2.2.2.1 v hv).le hle, hS⟩
  · rw [ab_gr_new] at hj
    by_cases hc : c = ab_n h
    · rw [if_pos hc] at hj; cases hj
    · rw [if_neg hc] at hj
      exact Nat.lt_of_lt_of_le (At.1.2.2.1 c k j hj) hle
  · rw [ab_sh_new] at hx
    by_cases hi : i < ab_n h
    · rw [List.getElem?_append_left hi] at hx
      exact At.1.2.2.2 i x hx
    · rw [List.getElem?_append_right (Nat.le_of_not_lt hi)] at hx
      have hx2 := List.mem_singleton.mp (List.mem_of_getElem? hx)
      rw [hx2]
      exact hn
  · rw [ab_cv_eq hμ (At.2.2.2.1 v (List.mem_of_getElem? hv))]
    exact At.2.1.2.2.2 i v hv
theorem ab_new_n (h : ab_H) (t n : Nat) : ab_n (ab_new h t n) = ab_n h + 1 := by unfold ab_n; rw [ab_sh_new]; simp
theorem ab_cv_map {n : Nat} {μ μ' : Nat → Nat} (hμ : ∀ i, i < n → μ' i = μ i) {l : List ab_V} (h : ∀ v ∈ l, ab_vs n v) : l.map (ab_cv B μ') = l.map (ab_cv B μ) := List.map_congr_left fun v hv => ab_cv_eq hμ (h v hv)
theorem ab_W_stk {p : Program} {l : Launch} {e : Env} {R : Room} {s : State} {m : MethodId} {args : Array Value} {below : List Frame} {meth : Method} {c : Code} {H : Heap} {locs : List Loc} {cells slots : Nat} {Q : State → Prop} {pc : Nat} {ls : Array Slot} {a b : List Value} (hab : a = b) (k : W p l e R s m args below meth c H locs cells slots Q (F0 m pc ls a)) : W p l e R s m args below meth c H locs cells slots Q (F0 m pc ls b) := hab ▸ k
theorem ab_s_newa0 {M pc : Nat} (hd : decode (ab_mb M) pc = .ok (.newarray .int, 2)) (hw : Cond.arrayClass .int ∈ ab_TG) : ab_Sn B M pc (ab_o_newa 0 (pc + 2)) := fun loc stk h => by
  unfold ab_o_newa
  split
  · rename_i z r
    split
    · rename_i hz
      refine ⟨by rw [ab_kc_new]; omega, by rw [ab_ks_new]; omega, by rw [ab_new_n]; omega, ?_⟩
      intro p l e R s m args below meth c H locs cells slots Q g A μ ls b1 b2 X At h1 h2 h3 h4 h5 h6 h7 k9
      rw [ab_kc_new] at h3
      rw [ab_ks_new] at h4
      obtain ⟨e1, e2⟩ := ab_ix hz.1 (by omega)
      refine va_newa (atype := .int) (ty := .int) (a0 := (z.toNat, .inl (fun _ => 0))) X.1 X.2.1 (X.2.2.2.2.2.2.1 _ hw) rfl X.2.2.2.2.2.2.2.1.1 At.1.1 At.1.2.1 At.2.2.2.2 X.2.2.2.2.2.2.2.1.2.1 (fun cA => rfl) e2 e1 (by show z.toNat * 4 ≤ _; omega) (by omega) (by omega) hd (fun q cA H1 hK hP hD hS => ?_)
      have hcA : cA = g.2.1 := by
        have q1 := (hK.2 0 _ (rfl : (ab_TY g ++ [(cA, .int)])[0]? = some (g.2.1, .int))).2
        have q2 := (hK.2 4 _ (rfl : (ab_TY g ++ [(cA, .int)])[4]? = some (cA, .int))).2
        exact Option.some.inj (q2.symm.trans q1)
      subst hcA
      have hμ : ∀ i, i < ab_n h → (fun i => if i = ab_n h then q else μ i) i = μ i := fun i hi => if_neg (Nat.ne_of_lt hi)
      have At1 := ab_new_At (t := 0) (n := z.toNat) At (by omega) hμ (if_pos rfl) (by show Sum.inl _ = Sum.inl _; congr 4; funext j; rw [ab_gi_new, if_pos rfl]; rfl) hP hD hS
      refine ab_W_stk ?_ (k9 _ H1 locs (cells + 1) (slots + z.toNat) ls hμ ⟨At1.1, At1.2.1, ab_mem_c (fun i hi => ?_) (ab_mem_t At1.2.2.1), At1.2.2.2.1, At1.2.2.2.2⟩ (by rw [ab_kc_new]; omega) (by rw [ab_ks_new]; omega))
      · show ab_cv B _ _ :: _ = _
        rw [ab_cv_map hμ (ab_mem_t At.2.2.1)]
        simp [ab_cv]
      · cases hi; rw [ab_new_n]; omega
    · trivial
  · trivial
theorem ab_s_newa1 {M pc : Nat} (hd : decode (ab_mb M) pc = .ok (.newarray .boolean, 2)) (hw : Cond.arrayClass .boolean ∈ ab_TG) : ab_Sn B M pc (ab_o_newa 1 (pc + 2)) := fun loc stk h => by
  unfold ab_o_newa
  split
  · rename_i z r
    split
    · rename_i hz
      refine ⟨by rw [ab_kc_new]; omega, by rw [ab_ks_new]; omega, by rw [ab_new_n]; omega, ?_⟩
      intro p l e R s m args below meth c H locs cells slots Q g A μ ls b1 b2 X At h1 h2 h3 h4 h5 h6 h7 k9
      rw [ab_kc_new] at h3
      rw [ab_ks_new] at h4
      obtain ⟨e1, e2⟩ := ab_ix hz.1 (by omega)
      refine va_newa (atype := .boolean) (ty := .boolean) (a0 := (z.toNat, .inl (fun _ => 0))) X.1 X.2.1 (X.2.2.2.2.2.2.1 _ hw) rfl X.2.2.2.2.2.2.2.1.1 At.1.1 At.1.2.1 At.2.2.2.2 X.2.2.2.2.2.2.2.1.2.1 (fun cA => rfl) e2 e1 (by show z.toNat * 1 ≤ _; omega) (by omega) (by omega) hd (fun q cA H1 hK hP hD hS => ?_)
      have hcA : cA = g.2.2.1 := by
        have q1 := (hK.2 1 _ (rfl : (ab_TY g ++ [(cA, .boolean)])[1]? = some (g.2.2.1, .boolean))).2
        have q2 := (hK.2 4 _ (rfl : (ab_TY g ++ [(cA, .boolean)])[4]? = some (cA, .boolean))).2
        exact Option.some.inj (q2.symm.trans q1)
      subst hcA
      have hμ : ∀ i, i < ab_n h → (fun i => if i = ab_n h then q else μ i) i = μ i := fun i hi => if_neg (Nat.ne_of_lt hi)
      have At1 := ab_new_At (t := 1) (n := z.toNat) At (by omega) hμ (if_pos rfl) (by show Sum.inl _ = Sum.inl _; congr 4; funext j; rw [ab_gi_new, if_pos rfl]; rfl) hP hD hS
      refine ab_W_stk ?_ (k9 _ H1 locs (cells + 1) (slots + z.toNat) ls hμ ⟨At1.1, At1.2.1, ab_mem_c (fun i hi => ?_) (ab_mem_t At1.2.2.1), At1.2.2.2.1, At1.2.2.2.2⟩ (by rw [ab_kc_new]; omega) (by rw [ab_ks_new]; omega))
      · show ab_cv B _ _ :: _ = _
        rw [ab_cv_map hμ (ab_mem_t At.2.2.1)]
        simp [ab_cv]
      · cases hi; rw [ab_new_n]; omega
    · trivial
  · trivial
theorem ab_s_newa3 {M pc : Nat} (hd : decode (ab_mb M) pc = .ok (.newarray .byte, 2)) (hw : Cond.arrayClass .byte ∈ ab_TG) : ab_Sn B M pc (ab_o_newa 3 (pc + 2)) := fun loc stk h => by
  unfold ab_o_newa
  split
  · rename_i z r
    split
    · rename_i hz
      refine ⟨by rw [ab_kc_new]; omega, by rw [ab_ks_new]; omega, by rw [ab_new_n]; omega, ?_⟩
      intro p l e R s m args below meth c H locs cells slots Q g A μ ls b1 b2 X At h1 h2 h3 h4 h5 h6 h7 k9
      rw [ab_kc_new] at h3
      rw [ab_ks_new] at h4
      obtain ⟨e1, e2⟩ := ab_ix hz.1 (by omega)
      refine va_newa (atype := .byte) (ty := .byte) (a0 := (z.toNat, .inl (fun _ => 0))) X.1 X.2.1 (X.2.2.2.2.2.2.1 _ hw) rfl X.2.2.2.2.2.2.2.1.1 At.1.1 At.1.2.1 At.2.2.2.2 X.2.2.2.2.2.2.2.1.2.1 (fun cA => rfl) e2 e1 (by show z.toNat * 1 ≤ _; omega) (by omega) (by omega) hd (fun q cA H1 hK hP hD hS => ?_)
      have hcA : cA = g.2.2.2.2 := by
        have q1 := (hK.2 3 _ (rfl : (ab_TY g ++ [(cA, .byte)])[3]? = some (g.2.2.2.2, .byte))).2
        have q2 := (hK.2 4 _ (rfl : (ab_TY g ++ [(cA, .byte)])[4]? = some (cA, .byte))).2
        exact Option.some.inj (q2.symm.trans q1)
      subst hcA
      have hμ : ∀ i, i < ab_n h → (fun i => if i = ab_n h then q else μ i) i = μ i := fun i hi => if_neg (Nat.ne_of_lt hi)
      have At1 := ab_new_At (t := 3) (n := z.toNat) At (by omega) hμ (if_pos rfl) (by show Sum.inl _ = Sum.inl _; congr 4; funext j; rw [ab_gi_new, if_pos rfl]; rfl) hP hD hS
      refine ab_W_stk ?_ (k9 _ H1 locs (cells + 1) (slots + z.toNat) ls hμ ⟨At1.1, At1.2.1, ab_mem_c (fun i hi => ?_) (ab_mem_t At1.2.2.1), At1.2.2.2.1, At1.2.2.2.2⟩ (by rw [ab_kc_new]; omega) (by rw [ab_ks_new]; omega))
      · show ab_cv B _ _ :: _ = _
        rw [ab_cv_map hμ (ab_mem_t At.2.2.1)]
        simp [ab_cv]
      · cases hi; rw [ab_new_n]; omega
    · trivial
  · trivial
theorem ab_s_new {M pc i ci N : Nat} {C : String} {T : u_T} (hd : decode (ab_mb M) pc = .ok (.new i, 3)) (hc : ab_cl[ci]? = some (C, T, N)) (hN : N < 2147483648) (hl : Cond.classLink (ab_my M).cls i C ∈ ab_TG) (hi : Cond.instantiable C N ∈ ab_TG) (hini : Cond.initialized C ∈ ab_TG)
    (hdf : ∀ j, j < N → defaultValue (ab_ty ci j) = (match ab_fk ci j with | 0 => .int 0 | 1 => .null | _ => .long 0)) : ab_Sn B M pc (ab_o_new (ci + 4) N (pc + 3)) := fun loc stk h => by
  refine ⟨by rw [ab_kc_new]; omega, by rw [ab_ks_new]; omega, by rw [ab_new_n]; omega, ?_⟩
  intro p l e R s m args below meth c H locs cells slots Q g A μ ls b1 b2 X At h1 h2 h3 h4 h5 h6 h7 k9
  rw [ab_kc_new] at h3
  rw [ab_ks_new] at h4
  have hfs : ∀ (μ' : Nat → Nat) (j : Nat), ab_fv B μ' (ab_new h (ci + 4) N) ci (ab_n h) j = (match ab_fk ci j with | 0 => .int 0 | 1 => .null | _ => .long 0) := fun μ' j => by
    unfold ab_fv
    rw [ab_gi_new, if_pos rfl, ab_gr_new, if_pos rfl, ab_gl_new, if_pos rfl]
    cases ab_fk ci j with
    | zero => rfl
    | succ n => cases n with
      | zero => rfl
      | succ n => rfl
  refine va_new (ci := ci) (fs := (List.range N).map (ab_fv B μ (ab_new h (ci + 4) N) ci (ab_n h))) X.1 X.2.1 X.2.2.2.2.2.2.1 (ab_cl_ok hc).1 (ab_ty ci) (ab_cl_ok hc).2.1 X.2.2.2.1 (X.2.2.2.2.2.2.1 _ hl) (X.2.2.2.2.2.2.1 _ hi) (X.2.2.2.2.2.2.1 _ hini) X.2.2.2.2.2.2.2.1.1 At.1.1 At.1.2.1 At.2.2.2.2 X.2.2.2.2.2.2.2.1.2.1 hc (fun j hj => ?_) (by omega) (by omega) hd (fun q H1 hP hD hS => ?_)
  · rw [hdf j hj, ← hfs μ j]
    unfold vp_V
    rw [List.getD_eq_getElem?_getD, ab_fs_at hj]
    rfl
  · have hμ : ∀ i, i < ab_n h → (fun i => if i = ab_n h then q else μ i) i = μ i := fun i hi => if_neg (Nat.ne_of_lt hi)
    have At1 := ab_new_At (t := ci + 4) (n := N) At hN hμ (if_pos rfl) (by
      show Sum.inr _ = Sum.inr _
      congr 2
      apply List.map_congr_left
      intro j _
      rw [hfs, hfs]) hP hD hS
    refine ab_W_stk ?_ (k9 _ H1 locs (cells + 1) (slots + N) ls hμ ⟨At1.1, At1.2.1, ab_mem_c (fun i hi => ?_) At1.2.2.1, At1.2.2.2.1, At1.2.2.2.2⟩ (by rw [ab_kc_new]; omega) (by rw [ab_ks_new]; omega))
    · show ab_cv B _ _ :: _ = _
      rw [ab_cv_map hμ At.2.2.1]
      simp [ab_cv]
    · cases hi; rw [ab_new_n]; omega
theorem ab_s_sw {M pc len df : Nat} {dflt lo hi : Int} {offs : Array Int} {tgs : List Nat} (hd : decode (ab_mb M) pc = .ok (.tableswitch dflt lo hi offs, len)) (hdf : (pc : Int) + dflt = (df : Int)) (hhi : hi = lo + (tgs.length : Int) - 1) (ht : ∀ i : Nat, i < tgs.length → ∃ off, offs[i]? = some off ∧ (pc : Int) + off = ((tgs.getD i df : Nat) : Int)) : ab_Sn B M pc (ab_o_sw lo tgs df) := fun loc stk h => by
  unfold ab_o_sw
  split
  · rename_i a r
    refine ab_Sj.pure (fun h1 _ => ab_mem_t h1) (fun X At _ _ _ _ _ k9 => ?_)
    by_cases hc : lo ≤ ab_w a ∧ ab_w a < lo + tgs.length
    · rw [if_pos hc] at k9
      obtain ⟨off, h1, h2⟩ := ht (ab_w a - lo).toNat (by omega)
      exact lv_tableIn (x := Int32.ofInt a) X.1 X.2.1 hd (by show ¬ ab_w a < lo; omega) (by show ¬ hi < ab_w a; omega) h1 h2 k9
    · rw [if_neg hc] at k9
      exact lv_tableOut (x := Int32.ofInt a) X.1 X.2.1 hd (by show ab_w a < lo ∨ hi < ab_w a; omega) hdf k9
  · trivial
theorem ab_s_max {M pc i : Nat} (hd : decode (ab_mb M) pc = .ok (.invokestatic i, 3)) (h1 : Cond.methodLink (ab_my M).cls i Lib.Math.max.name ∈ ab_TG) (h2 : Cond.static Lib.Math.max.name ∈ ab_TG) (h3 : Cond.initialized "java/lang/Math" ∈ ab_TG) (h4 : Cond.code Lib.Math.max.name Lib.Math.max.code 2 (some .int) ∈ ab_TG) : ab_Sn B M pc (ab_o_mx (fun a b => if a < b then b else a) (pc + 3)) := fun loc stk h => by
  unfold ab_o_mx
  split
  · rename_i b a r
    split
    rotate_left
    · trivial
    rename_i q5
    refine ab_Sj.pure (fun h1 _ => ab_mem_c (ab_vs_i _ _) (ab_mem_t (ab_mem_t h1))) (fun {p l e R s m args below meth c H locs cells slots Q g A μ ls} X At q1 q2 q3 q4 q5' k9 => ?_)
    have hml : c.maxLocals = ls.size := X.2.2.1.trans At.2.1.1.symm
    have hsum : (((r.map (ab_cv B μ)).map fun v => v.category).sum) + 13 ≤ R.locals := by
      rw [ab_sum_cat]
      omega
    refine va_mmax (x := Int32.ofInt a) (y := Int32.ofInt b) X.1 X.2.1 hml X.2.2.2.1 (X.2.2.2.2.2.2.1 _ h1) (X.2.2.2.2.2.2.1 _ h2) (X.2.2.2.2.2.2.1 _ h3) (X.2.2.2.2.2.2.1 _ h4) (by omega) hsum q1 q2 hd ?_
    refine ab_W_stk ?_ k9
    show Value.int (Int32.ofInt _) :: _ = _
    congr 2
    dsimp only
    by_cases hc : ab_w a < ab_w b
    · rw [if_pos hc, if_pos (Int32.lt_iff_toInt_lt.mpr hc)]; exact Int32.ofInt_toInt _
    · rw [if_neg hc, if_neg (fun z => hc (Int32.lt_iff_toInt_lt.mp z))]; exact Int32.ofInt_toInt _
  · trivial
theorem ab_s_min {M pc i : Nat} (hd : decode (ab_mb M) pc = .ok (.invokestatic i, 3)) (h1 : Cond.methodLink (ab_my M).cls i Lib.Math.min.name ∈ ab_TG) (h2 : Cond.static Lib.Math.min.name ∈ ab_TG) (h3 : Cond.initialized "java/lang/Math" ∈ ab_TG) (h4 : Cond.code Lib.Math.min.name Lib.Math.min.code 2 (some .int) ∈ ab_TG) : ab_Sn B M pc (ab_o_mx (fun a b => if b < a then b else a) (pc + 3)) := fun loc stk h => by
  unfold ab_o_mx
  split
  · rename_i b a r
    split
    rotate_left
    · trivial
    rename_i q5
    refine ab_Sj.pure (fun h1 _ => ab_mem_c (ab_vs_i _ _) (ab_mem_t (ab_mem_t h1))) (fun {p l e R s m args below meth c H locs cells slots Q g A μ ls} X At q1 q2 q3 q4 q5' k9 => ?_)
    have hml : c.maxLocals = ls.size := X.2.2.1.trans At.2.1.1.symm
    have hsum : (((r.map (ab_cv B μ)).map fun v => v.category).sum) + 13 ≤ R.locals := by
      rw [ab_sum_cat]
      omega
    refine va_mmin (x := Int32.ofInt a) (y := Int32.ofInt b) X.1 X.2.1 hml X.2.2.2.1 (X.2.2.2.2.2.2.1 _ h1) (X.2.2.2.2.2.2.1 _ h2) (X.2.2.2.2.2.2.1 _ h3) (X.2.2.2.2.2.2.1 _ h4) (by omega) hsum q1 q2 hd ?_
    refine ab_W_stk ?_ k9
    show Value.int (Int32.ofInt _) :: _ = _
    congr 2
    dsimp only
    by_cases hc : ab_w b < ab_w a
    · rw [if_pos hc, if_pos (Int32.lt_iff_toInt_lt.mpr hc)]; exact Int32.ofInt_toInt _
    · rw [if_neg hc, if_neg (fun z => hc (Int32.lt_iff_toInt_lt.mp z))]; exact Int32.ofInt_toInt _
  · trivial
theorem ab_s_obj {M pc i : Nat} (hd : decode (ab_mb M) pc = .ok (.invokespecial i, 3)) (h1 : Cond.methodLink (ab_my M).cls i Lib.objectInit ∈ ab_TG) (h2 : Cond.instanceMethod Lib.objectInit ∈ ab_TG) (h3 : Cond.code Lib.objectInit ⟨#[0xb1]⟩ 1 none ∈ ab_TG) : ab_Sn B M pc (ab_o_obj (pc + 3)) := fun loc stk h => by
  unfold ab_o_obj
  split
  · rename_i a r
    split
    · rename_i q5
      refine ab_Sj.pure (fun h1 _ => ab_mem_t h1) (fun {p l e R s m args below meth c H locs cells slots Q g A μ ls} X At q1 q2 q3 q4 q5' k9 => ?_)
      have hml : c.maxLocals = ls.size := X.2.2.1.trans At.2.1.1.symm
      have hsum : 2 * 0 + (((r.map (ab_cv B μ)).map fun v => v.category).sum) + 12 ≤ R.locals := by
        rw [ab_sum_cat]
        omega
      exact W.objInit X.1 X.2.1 X.2.2.2.1 (X.2.2.2.2.2.2.1 _ h1) (X.2.2.2.2.2.2.1 _ h2) (X.2.2.2.2.2.2.1 _ h3) (g := F0 m pc ls (.ref (μ a) :: r.map (ab_cv B μ))) rfl hml.symm rfl hd (by omega) hsum k9
    · trivial
  · trivial
/-- what a method's end owes -/
theorem ab_QC_of {g : ab_G} {A : Nat → Prop} {μ μ0 : Nat → Nat} {h h0 : ab_H} {v : Option ab_V} {H : Heap} {s t : State} {locs : List Loc} {a : Array Value} (ht : t.heap = H) (hR : ab_Rep B g A μ h H) (hμ : ∀ i, i < ab_n h0 → μ i = μ0 i) (hv : ∀ x, v = some x → ab_vs (ab_n h) x) (hS : va_S A s.heap H locs) : ab_QC B g A μ0 h0 (.inl v, h) a s (.returned (v.map (ab_cv B μ))) t :=
  ⟨v, μ, rfl, rfl, hμ, by rw [ht]; exact hR, hv, hS.F ht⟩
theorem ab_s_iret {M pc : Nat} {b : Bool} {ty : FieldType} (hd : decode (ab_mb M) pc = .ok (.ireturn, 1)) (hr : ab_mr M = some ty) (hb : (ty = .int ∧ b = false) ∨ (ty = .boolean ∧ b = true) ∨ (ty = .byte ∧ b = true)) : ab_Sn B M pc (ab_o_iret b) := fun loc stk h => by
  unfold ab_o_iret
  split
  · rename_i v
    split
    · rename_i hv
      have hnf : narrow ty (.int (Int32.ofInt v)) = .int (Int32.ofInt v) := by
        rcases hb with ⟨h1, h2⟩ | ⟨h1, h2⟩ | ⟨h1, h2⟩
        · subst h1; rfl
        · subst h1; exact (ab_nb (hv h2)).1
        · subst h1; exact (ab_ny (hv h2)).1
      refine ⟨Nat.le_refl _, Nat.le_refl _, Nat.le_refl _, ?_⟩
      intro p l e R s m args below meth c H locs cells slots g A μ μ0 h0 ls b1 b2 X At h1 h2 h3 h4 h5 h6 h7 hμ hn
      have e1 : R.cells = cells := by have : ab_kc h = R.cells + b1 := h3; omega
      have e2 : R.slots = slots := by have : ab_ks h = R.slots + b2 := h4; omega
      rw [e1, e2]
      refine vx_ret ?_
      exact W.zret (Qc := ab_QC B g A μ0 h0 (.inl (some (ab_I v)), h)) (v := Int32.ofInt v) (ty := ty) (ls := ls) (locs := locs) (cells := cells) (slots := slots) (free := A) X.1 X.2.1 (X.2.2.2.2.1.trans hr) hnf (fun t ht hW => ab_QC_of (v := some (ab_I v)) ht At.1 hμ (fun x hx => by cases hx; exact ab_vs_i _ _) At.2.2.2.2) At.2.2.2.2.2.2 hd X.2.2.2.2.2.1
    · trivial
  · trivial
theorem ab_s_lret {M pc : Nat} (hd : decode (ab_mb M) pc = .ok (.lreturn, 1)) (hr : ab_mr M = some .long) : ab_Sn B M pc ab_o_lret := fun loc stk h => by
  unfold ab_o_lret
  split
  · rename_i v
    refine ⟨Nat.le_refl _, Nat.le_refl _, Nat.le_refl _, ?_⟩
    intro p l e R s m args below meth c H locs cells slots g A μ μ0 h0 ls b1 b2 X At h1 h2 h3 h4 h5 h6 h7 hμ hn
    have e1 : R.cells = cells := by have : ab_kc h = R.cells + b1 := h3; omega
    have e2 : R.slots = slots := by have : ab_ks h = R.slots + b2 := h4; omega
    rw [e1, e2]
    refine vx_ret ?_
    exact W.lret (Qc := ab_QC B g A μ0 h0 (.inl (some (ab_L v)), h)) (v := v) (ls := ls) (locs := locs) (cells := cells) (slots := slots) (free := A) X.1 X.2.1 (X.2.2.2.2.1.trans hr) (fun t ht hW => ab_QC_of (v := some (ab_L v)) ht At.1 hμ (fun x hx => by cases hx; exact ab_vs_l _ _) At.2.2.2.2) At.2.2.2.2.2.2 hd X.2.2.2.2.2.1
  · trivial
theorem ab_s_ret {M pc : Nat} (hd : decode (ab_mb M) pc = .ok (.return_, 1)) (hr : ab_mr M = none) : ab_Sn B M pc ab_o_ret := fun loc stk h => by
  unfold ab_o_ret
  split
  · refine ⟨Nat.le_refl _, Nat.le_refl _, Nat.le_refl _, ?_⟩
    intro p l e R s m args below meth c H locs cells slots g A μ μ0 h0 ls b1 b2 X At h1 h2 h3 h4 h5 h6 h7 hμ hn
    have e1 : R.cells = cells := by have : ab_kc h = R.cells + b1 := h3; omega
    have e2 : R.slots = slots := by have : ab_ks h = R.slots + b2 := h4; omega
    rw [e1, e2]
    refine vx_ret ?_
    exact W.vret (Qc := ab_QC B g A μ0 h0 (.inl none, h)) (ls := ls) (locs := locs) (cells := cells) (slots := slots) (free := A) X.1 X.2.1 (X.2.2.2.2.1.trans hr) (fun t ht hW => ab_QC_of (v := none) ht At.1 hμ (fun x hx => by cases hx) At.2.2.2.2) At.2.2.2.2.2.2 hd X.2.2.2.2.2.1
  · trivial
theorem ab_s_aret {M pc : Nat} {ty : FieldType} (hd : decode (ab_mb M) pc = .ok (.areturn, 1)) (hr : ab_mr M = some ty) (hty : (∃ n, ty = .object n) ∨ ∃ t, ty = .array t) : ab_Sn B M pc ab_o_aret := fun loc stk h => by
  unfold ab_o_aret
  split
  · rename_i v
    refine ⟨Nat.le_refl _, Nat.le_refl _, Nat.le_refl _, ?_⟩
    intro p l e R s m args below meth c H locs cells slots g A μ μ0 h0 ls b1 b2 X At h1 h2 h3 h4 h5 h6 h7 hμ hn
    have e1 : R.cells = cells := by have : ab_kc h = R.cells + b1 := h3; omega
    have e2 : R.slots = slots := by have : ab_ks h = R.slots + b2 := h4; omega
    rw [e1, e2]
    refine vx_ret ?_
    exact W.aret (Qc := ab_QC B g A μ0 h0 (.inl (some (.inr (.inr v))), h)) (v := ab_cv B μ (.inr (.inr v))) (ls := ls) (locs := locs) (cells := cells) (slots := slots) (free := A) X.1 X.2.1 (X.2.2.2.2.1.trans hr) hty (by match v with | .inl none => exact Or.inl rfl | .inl (some i) => exact Or.inr ⟨_, rfl⟩ | .inr k => exact Or.inr ⟨_, rfl⟩) (fun t ht hW => ab_QC_of (v := some (.inr (.inr v))) ht At.1 hμ (fun x hx => by cases hx; exact ab_mem_h At.2.2.1) At.2.2.2.2) At.2.2.2.2.2.2 hd X.2.2.2.2.2.1
  · trivial
theorem ab_s_cret {M pc : Nat} (hd : decode (ab_mb M) pc = .ok (.ireturn, 1)) (hr : ab_mr M = some .char) : ab_Sn B M pc ab_o_cret := fun loc stk h => by
  unfold ab_o_cret
  split
  · rename_i v
    split
    · rename_i hv
      have hnf : narrow .char (.int (Int32.ofInt v)) = .int (Int32.ofInt v) := by
        have e : v = ((v.toNat : Nat) : Int) := (Int.toNat_of_nonneg hv.1).symm
        have hl : v.toNat < 128 := by omega
        rw [e]
        generalize v.toNat = n at hl ⊢
        revert n
        decide
      refine ⟨Nat.le_refl _, Nat.le_refl _, Nat.le_refl _, ?_⟩
      intro p l e R s m args below meth c H locs cells slots g A μ μ0 h0 ls b1 b2 X At h1 h2 h3 h4 h5 h6 h7 hμ hn
      have e1 : R.cells = cells := by have : ab_kc h = R.cells + b1 := h3; omega
      have e2 : R.slots = slots := by have : ab_ks h = R.slots + b2 := h4; omega
      rw [e1, e2]
      refine vx_ret ?_
      exact W.zret (Qc := ab_QC B g A μ0 h0 (.inl (some (ab_I v)), h)) (v := Int32.ofInt v) (ty := .char) (ls := ls) (locs := locs) (cells := cells) (slots := slots) (free := A) X.1 X.2.1 (X.2.2.2.2.1.trans hr) hnf (fun t ht hW => ab_QC_of (v := some (ab_I v)) ht At.1 hμ (fun x hx => by cases hx; exact ab_vs_i _ _) At.2.2.2.2) At.2.2.2.2.2.2 hd X.2.2.2.2.2.1
    · trivial
  · trivial
end
