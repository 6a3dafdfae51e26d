set_option linter.all false
/-! STORES, FIELDS, ARRAYS -/
section
variable {B : ab_B}
/-- an instruction that changes the locals alone -/
theorem ab_Sj.upd {M pc pc' : Nat} {loc loc' : ab_M} {stk stk' : List ab_V} {h : ab_H}
    (hv : (∀ v ∈ stk, ab_vs (ab_n h) v) → (∀ v, some v ∈ loc → ab_vs (ab_n h) v) → (∀ v ∈ stk', ab_vs (ab_n h) v) ∧ (∀ v, some v ∈ loc' → ab_vs (ab_n h) v))
    (hw : ∀ {p : Program} {l : Launch} {e : Env} {R : Room} {s : State} {m : MethodId} {args : Array Value} {below : List Frame} {meth : Method} {c : Code} {H : Heap} {locs : List Loc} {cells slots : Nat} {Q : State → Prop} {g : ab_G} {A : Nat → Prop} {μ : Nat → Nat} {ls : Array Slot},
      ab_X B M g A p l s m args meth c → ab_At B M g A μ h H ls loc stk s locs → (∀ ls' : Array Slot, ab_lh B (ab_mL M) μ ls' loc' → W p l e R s m args below meth c H locs cells slots Q (F0 m pc' ls' (stk'.map (ab_cv B μ)))) → W p l e R s m args below meth c H locs cells slots Q (F0 m pc ls (stk.map (ab_cv B μ)))) :
    ab_Sj B M pc loc stk h pc' loc' stk' h := by
  refine ⟨Nat.le_refl _, Nat.le_refl _, Nat.le_refl _, ?_⟩
  intro p l e R s m args below meth c H locs cells slots Q g A μ ls b1 b2 X At h1 h2 h3 h4 h5 h6 h7 k
  obtain ⟨v1, v2⟩ := hv At.2.2.1 At.2.2.2.1
  exact hw X At (fun ls' hl => k μ H locs cells slots ls' (fun _ _ => rfl) ⟨At.1, hl, v1, v2, At.2.2.2.2⟩ h1 h2)
/-- an instruction that changes one cell: entry e of the cell a -/
theorem ab_Sj.cell {M pc pc' a : Nat} {loc : ab_M} {stk stk' : List ab_V} {h h' : ab_H} {s0 : Nat × Nat}
    (hsh : ab_sh h' = ab_sh h) (hkc : ab_kc h' = ab_kc h) (hks : ab_ks h' = ab_ks h) (hs : (ab_sh h)[a]? = some s0) (ho : ∀ (g : ab_G) (μ : Nat → Nat) (j : Nat) (s' : Nat × Nat), j ≠ a → ab_en B g μ h' j s' = ab_en B g μ h j s')
    (hok : ab_ok h → (∀ v ∈ stk, ab_vs (ab_n h) v) → ab_ok h')
    (hv : ∀ v ∈ stk', v ∈ stk)
    (hw : ∀ {p : Program} {l : Launch} {e : Env} {R : Room} {s : State} {m : MethodId} {args : Array Value} {below : List Frame} {meth : Method} {c : Code} {H : Heap} {locs : List Loc} {cells slots : Nat} {Q : State → Prop} {g : ab_G} {A : Nat → Prop} {μ : Nat → Nat} {ls : Array Slot},
      ab_X B M g A p l s m args meth c → ab_At B M g A μ h H ls loc stk s locs → (∀ (H1 : Heap) (locs1 : List Loc), va_P g.1 ab_cl ((ab_ws B g μ h).set a (μ a, ab_en B g μ h' a s0)) H1 → va_D A ((ab_ws B g μ h).set a (μ a, ab_en B g μ h' a s0)) → va_S A s.heap H1 locs1 → W p l e R s m args below meth c H1 locs1 cells slots Q (F0 m pc' ls (stk'.map (ab_cv B μ)))) → W p l e R s m args below meth c H locs cells slots Q (F0 m pc ls (stk.map (ab_cv B μ)))) :
    ab_Sj B M pc loc stk h pc' loc stk' h' := by
  have hn : ab_n h' = ab_n h := by unfold ab_n; rw [hsh]
  refine ⟨Nat.le_of_eq hkc.symm, Nat.le_of_eq hks.symm, Nat.le_of_eq hn.symm, ?_⟩
  intro p l e R s m args below meth c H locs cells slots Q g A μ ls b1 b2 X At h1 h2 h3 h4 h5 h6 h7 k
  refine hw X At (fun H1 locs1 hP hD hS => ?_)
  rw [ab_ws_set (h' := h') hsh hs rfl (ho g μ)] at hP hD
  exact k μ H1 locs1 cells slots ls (fun _ _ => rfl) ⟨⟨hP, hD, hok At.1.2.2 At.2.2.1⟩, At.2.1, fun v hv' => by rw [hn]; exact At.2.2.1 v (hv v hv'), fun v hv' => by rw [hn]; exact At.2.2.2.1 v hv', hS⟩ (by rw [hkc]; exact h1) (by rw [hks]; exact h2)
theorem ab_ok_si {h : ab_H} {a : Nat} {k v : Int} (hk : ab_ok h) : ab_ok (ab_si h a k v) := hk
theorem ab_ok_sl {h : ab_H} {a : Nat} {k : Int} {v : Int64} (hk : ab_ok h) : ab_ok (ab_sl h a k v) := hk
theorem ab_ok_sr {h : ab_H} {a : Nat} {k : Int} {v : Option Nat} (hk : ab_ok h) (hv : ∀ j, v = some j → j < ab_n h) : ab_ok (ab_sr h a k v) := by
  refine ⟨fun c k' j hj => ?_, hk.2⟩
  rw [ab_gr_sr] at hj
  by_cases e : c = a ∧ k' = k
  · rw [if_pos e] at hj; exact hv j hj
  · rw [if_neg e] at hj; exact hk.1 c k' j hj
theorem ab_s_istore_n {M pc k : Nat} {n : Fin 4} (hd : decode (ab_mb M) pc = .ok (.istore_n n, 1)) (hi : (n : Nat) = k) : ab_Sn B M pc (ab_o_ist k (pc + 1)) := fun loc stk h => by
  unfold ab_o_ist
  split
  · rename_i x r
    split
    · rename_i hk
      refine ab_Sj.upd (fun h1 h2 => ⟨ab_mem_t h1, fun v hv => ?_⟩) (fun X At k9 => ?_)
      · rcases ab_set1_mem hv with e | e
        · cases e; exact ab_vs_i _ _
        · exact h2 v e
      · have hn : k < ab_mL M := by rw [← At.2.1.2.2.1]; assumption
        exact lv_istore_n X.1 X.2.1 hd hi At.2.1.has hn rfl (fun ls' h' => k9 ls' (At.2.1.set1 rfl hn h'))
    · trivial
  · trivial
theorem ab_s_istore {M pc k : Nat} (hd : decode (ab_mb M) pc = .ok (.istore k, 2)) : ab_Sn B M pc (ab_o_ist k (pc + 2)) := fun loc stk h => by
  unfold ab_o_ist
  split
  · rename_i x r
    split
    · rename_i hk
      refine ab_Sj.upd (fun h1 h2 => ⟨ab_mem_t h1, fun v hv => ?_⟩) (fun X At k9 => ?_)
      · rcases ab_set1_mem hv with e | e
        · cases e; exact ab_vs_i _ _
        · exact h2 v e
      · have hn : k < ab_mL M := by rw [← At.2.1.2.2.1]; assumption
        exact lv_istore X.1 X.2.1 hd At.2.1.has hn rfl (fun ls' h' => k9 ls' (At.2.1.set1 rfl hn h'))
    · trivial
  · trivial
theorem ab_s_lstore_n {M pc k : Nat} {n : Fin 4} (hd : decode (ab_mb M) pc = .ok (.lstore_n n, 1)) (hi : (n : Nat) = k) : ab_Sn B M pc (ab_o_lst k (pc + 1)) := fun loc stk h => by
  unfold ab_o_lst
  split
  · rename_i x r
    split
    · rename_i hk
      refine ab_Sj.upd (fun h1 h2 => ⟨ab_mem_t h1, fun v hv => ?_⟩) (fun X At k9 => ?_)
      · rcases ab_set2_mem hv with e | e
        · cases e; exact ab_vs_l _ _
        · exact h2 v e
      · have hn : k + 1 < ab_mL M := by rw [← At.2.1.2.2.1]; assumption
        exact lv_lstore_n X.1 X.2.1 hd hi At.2.1.has hn rfl (fun ls' h' => k9 ls' (At.2.1.set2 rfl hn h'))
    · trivial
  · trivial
theorem ab_s_lstore {M pc k : Nat} (hd : decode (ab_mb M) pc = .ok (.lstore k, 2)) : ab_Sn B M pc (ab_o_lst k (pc + 2)) := fun loc stk h => by
  unfold ab_o_lst
  split
  · rename_i x r
    split
    · rename_i hk
      refine ab_Sj.upd (fun h1 h2 => ⟨ab_mem_t h1, fun v hv => ?_⟩) (fun X At k9 => ?_)
      · rcases ab_set2_mem hv with e | e
        · cases e; exact ab_vs_l _ _
        · exact h2 v e
      · have hn : k + 1 < ab_mL M := by rw [← At.2.1.2.2.1]; assumption
        exact lv_lstore X.1 X.2.1 hd At.2.1.has hn rfl (fun ls' h' => k9 ls' (At.2.1.set2 rfl hn h'))
    · trivial
  · trivial
theorem ab_s_astore_n {M pc k : Nat} {n : Fin 4} (hd : decode (ab_mb M) pc = .ok (.astore_n n, 1)) (hi : (n : Nat) = k) : ab_Sn B M pc (ab_o_ast k (pc + 1)) := fun loc stk h => by
  unfold ab_o_ast
  split
  · rename_i x r
    split
    · rename_i hk
      refine ab_Sj.upd (fun h1 h2 => ⟨ab_mem_t h1, fun v hv => ?_⟩) (fun X At k9 => ?_)
      · rcases ab_set1_mem hv with e | e
        · cases e; exact ab_mem_h h1
        · exact h2 v e
      · have hn : k < ab_mL M := by rw [← At.2.1.2.2.1]; assumption
        match x, k9 with
        | .inl none, k9 => exact lv_astore_nN X.1 X.2.1 hd hi At.2.1.has hn rfl (fun ls' h' => k9 ls' (At.2.1.set1 rfl hn h'))
        | .inl (some x), k9 => exact lv_astore_n X.1 X.2.1 hd hi At.2.1.has hn rfl (fun ls' h' => k9 ls' (At.2.1.set1 rfl hn h'))
        | .inr x, k9 => exact lv_astore_n X.1 X.2.1 hd hi At.2.1.has hn rfl (fun ls' h' => k9 ls' (At.2.1.set1 rfl hn h'))
    · trivial
  · trivial
theorem ab_s_astore {M pc k : Nat} (hd : decode (ab_mb M) pc = .ok (.astore k, 2)) : ab_Sn B M pc (ab_o_ast k (pc + 2)) := fun loc stk h => by
  unfold ab_o_ast
  split
  · rename_i x r
    split
    · rename_i hk
      refine ab_Sj.upd (fun h1 h2 => ⟨ab_mem_t h1, fun v hv => ?_⟩) (fun X At k9 => ?_)
      · rcases ab_set1_mem hv with e | e
        · cases e; exact ab_mem_h h1
        · exact h2 v e
      · have hn : k < ab_mL M := by rw [← At.2.1.2.2.1]; assumption
        match x, k9 with
        | .inl none, k9 => exact lv_astoreN X.1 X.2.1 hd At.2.1.has hn rfl (fun ls' h' => k9 ls' (At.2.1.set1 rfl hn h'))
        | .inl (some x), k9 => exact lv_astore X.1 X.2.1 hd At.2.1.has hn rfl (fun ls' h' => k9 ls' (At.2.1.set1 rfl hn h'))
        | .inr x, k9 => exact lv_astore X.1 X.2.1 hd At.2.1.has hn rfl (fun ls' h' => k9 ls' (At.2.1.set1 rfl hn h'))
    · trivial
  · trivial
theorem ab_s_iinc {M pc k : Nat} {n : Int} (hd : decode (ab_mb M) pc = .ok (.iinc k n, 3)) : ab_Sn B M pc (ab_o_inc k n (pc + 3)) := fun loc stk h => by
  unfold ab_o_inc
  split
  · rename_i z hl
    refine ab_Sj.upd (fun h1 h2 => ⟨h1, fun v hv => ?_⟩) (fun {p l e R s m args below meth c H locs cells slots Q g A μ ls} X At k9 => ?_)
    · rcases ab_set1_mem hv with e | e
      · cases e; exact ab_vs_i _ _
      · exact h2 v e
    · have hn : k < ab_mL M := by rw [← At.2.1.2.2.1]; exact (List.getElem?_eq_some_iff.mp hl).1
      have hm : (k, Value.int (Int32.ofInt z)) ∈ ab_ll B μ loc := ab_ll_mem.mpr ⟨_, hl, rfl⟩
      obtain ⟨j, hj⟩ := List.getElem?_of_mem hm
      exact lv_iinc (v := Int32.ofInt (z + n)) X.1 X.2.1 hd At.2.1.has hj (Int32.ofInt_add _ _).symm hn rfl (fun ls' h' => k9 ls' (At.2.1.set1 rfl hn h'))
  · trivial
theorem ab_fs_at {μ : Nat → Nat} {h : ab_H} {ci a N k : Nat} (hk : k < N) : ((List.range N).map (ab_fv B μ h ci a))[k]? = some (ab_fv B μ h ci a k) := by simp [hk]
theorem ab_fv0 {μ : Nat → Nat} {h : ab_H} {ci a k : Nat} (hf : ab_fk ci k = 0) : ab_fv B μ h ci a k = .int (Int32.ofInt (ab_gi h a k)) := by unfold ab_fv; rw [hf]; rfl
theorem ab_fv1 {μ : Nat → Nat} {h : ab_H} {ci a k : Nat} (hf : ab_fk ci k = 1) : ab_fv B μ h ci a k = ab_cv B μ (ab_Q (ab_gr h a k)) := by
  unfold ab_fv
  rw [hf]
  cases ab_gr h a k <;> rfl
theorem ab_fv2 {μ : Nat → Nat} {h : ab_H} {ci a k : Nat} (hf : ab_fk ci k = 2) : ab_fv B μ h ci a k = .long (ab_gl h a k) := by unfold ab_fv; rw [hf]; rfl
theorem ab_s_geti {M pc i ci N k : Nat} {C : String} {T : u_T} (hd : decode (ab_mb M) pc = .ok (.getfield i, 3)) (hc : ab_cl[ci]? = some (C, T, N)) (hk : k < N) (hf : ab_fk ci k = 0) (hl : Cond.fieldLink (ab_my M).cls i (T k).1 (T k).2.1 (T k).2.2.1 ∈ ab_TG) : ab_Sn B M pc (ab_o_geti (ci + 4) N k (pc + 3)) := fun loc stk h => by
  unfold ab_o_geti
  split
  · rename_i a r
    split
    · rename_i hs
      exact ab_Sj.pure (fun h1 _ => ab_mem_c (ab_vs_i _ _) (ab_mem_t h1)) (fun X At _ _ _ _ _ k9 => va_get X.1 X.2.1 X.2.2.2.2.2.2.1 (ab_cl_ok hc).1 X.2.2.2.1 X.2.2.2.2.2.2.2.1.1 At.1.1 a (ab_ws_at hs) hc k hk (X.2.2.2.2.2.2.1 _ hl) (fun _ h => h) ((ab_fs_at hk).trans (congrArg some (ab_fv0 hf))) hd k9)
    · trivial
  · trivial
theorem ab_s_getl {M pc i ci N k : Nat} {C : String} {T : u_T} (hd : decode (ab_mb M) pc = .ok (.getfield i, 3)) (hc : ab_cl[ci]? = some (C, T, N)) (hk : k < N) (hf : ab_fk ci k = 2) (hl : Cond.fieldLink (ab_my M).cls i (T k).1 (T k).2.1 (T k).2.2.1 ∈ ab_TG) : ab_Sn B M pc (ab_o_getl (ci + 4) N k (pc + 3)) := fun loc stk h => by
  unfold ab_o_getl
  split
  · rename_i a r
    split
    · rename_i hs
      exact ab_Sj.pure (fun h1 _ => ab_mem_c (ab_vs_l _ _) (ab_mem_t h1)) (fun X At _ _ _ _ _ k9 => va_get X.1 X.2.1 X.2.2.2.2.2.2.1 (ab_cl_ok hc).1 X.2.2.2.1 X.2.2.2.2.2.2.2.1.1 At.1.1 a (ab_ws_at hs) hc k hk (X.2.2.2.2.2.2.1 _ hl) (fun _ h => h) ((ab_fs_at hk).trans (congrArg some (ab_fv2 hf))) hd k9)
    · trivial
  · trivial
theorem ab_s_getr {M pc i ci N k : Nat} {C : String} {T : u_T} (hd : decode (ab_mb M) pc = .ok (.getfield i, 3)) (hc : ab_cl[ci]? = some (C, T, N)) (hk : k < N) (hf : ab_fk ci k = 1) (hl : Cond.fieldLink (ab_my M).cls i (T k).1 (T k).2.1 (T k).2.2.1 ∈ ab_TG) : ab_Sn B M pc (ab_o_getr (ci + 4) N k (pc + 3)) := fun loc stk h => by
  unfold ab_o_getr
  split
  · rename_i a r
    split
    · rename_i hs
      refine ⟨Nat.le_refl _, Nat.le_refl _, Nat.le_refl _, ?_⟩
      intro p l e R s m args below meth c H locs cells slots Q g A μ ls b1 b2 X At h1 h2 h3 h4 h5 h6 h7 k9
      exact va_get X.1 X.2.1 X.2.2.2.2.2.2.1 (ab_cl_ok hc).1 X.2.2.2.1 X.2.2.2.2.2.2.2.1.1 At.1.1 a (ab_ws_at hs) hc k hk (X.2.2.2.2.2.2.1 _ hl) (fun _ h => h) ((ab_fs_at hk).trans (congrArg some (ab_fv1 hf))) hd
        (k9 μ H locs cells slots ls (fun _ _ => rfl) ⟨At.1, At.2.1, ab_mem_c (ab_vs_q (fun j hj => At.1.2.2.1 _ _ _ hj)) (ab_mem_t At.2.2.1), At.2.2.2.1, At.2.2.2.2⟩ h1 h2)
    · trivial
  · trivial
theorem ab_fs_len {μ : Nat → Nat} {h : ab_H} {ci a N : Nat} : ((List.range N).map (ab_fv B μ h ci a)).length = N := by simp
theorem ab_si_fs {μ : Nat → Nat} {h : ab_H} {ci a N k : Nat} {v : Int} (hf : ab_fk ci k = 0) : ((List.range N).map (ab_fv B μ h ci a)).set k (.int (Int32.ofInt v)) = (List.range N).map (ab_fv B μ (ab_si h a k v) ci a) :=
  ab_obj_set (by rw [ab_fv0 hf, ab_gi_si, if_pos ⟨rfl, rfl⟩]) (fun i hi => by
    unfold ab_fv
    rw [ab_gi_si, if_neg (fun q => hi (by have := q.2; omega))]
    rfl)
theorem ab_sl_fs {μ : Nat → Nat} {h : ab_H} {ci a N k : Nat} {v : Int64} (hf : ab_fk ci k = 2) : ((List.range N).map (ab_fv B μ h ci a)).set k (.long v) = (List.range N).map (ab_fv B μ (ab_sl h a k v) ci a) :=
  ab_obj_set (by rw [ab_fv2 hf, ab_gl_sl, if_pos ⟨rfl, rfl⟩]) (fun i hi => by
    unfold ab_fv
    rw [ab_gl_sl, if_neg (fun q => hi (by have := q.2; omega))]
    rfl)
theorem ab_sr_fs {μ : Nat → Nat} {h : ab_H} {ci a N k : Nat} {v : Option Nat} (hf : ab_fk ci k = 1) : ((List.range N).map (ab_fv B μ h ci a)).set k (ab_cv B μ (ab_Q v)) = (List.range N).map (ab_fv B μ (ab_sr h a k v) ci a) :=
  ab_obj_set (by rw [ab_fv1 hf, ab_gr_sr, if_pos ⟨rfl, rfl⟩]) (fun i hi => by
    unfold ab_fv
    rw [ab_gr_sr, if_neg (fun q => hi (by have := q.2; omega))]
    rfl)
theorem ab_nb {v : Int} (h : v = 0 ∨ v = 1) : narrow .boolean (.int (Int32.ofInt v)) = .int (Int32.ofInt v) ∧ fits .boolean (.int (Int32.ofInt v)) = true := by
  rcases h with h | h <;> subst h <;> exact ⟨by decide, by decide⟩
theorem ab_ny {v : Int} (h : v = 0 ∨ v = 1) : narrow .byte (.int (Int32.ofInt v)) = .int (Int32.ofInt v) ∧ fits .byte (.int (Int32.ofInt v)) = true := by
  rcases h with h | h <;> subst h <;> exact ⟨by decide, by decide⟩
theorem ab_s_puti {M pc i ci N k : Nat} {C : String} {T : u_T} {b : Bool} {ty : FieldType} (hd : decode (ab_mb M) pc = .ok (.putfield i, 3)) (hc : ab_cl[ci]? = some (C, T, N)) (hk : k < N) (hf : ab_fk ci k = 0) (hl : Cond.fieldLink (ab_my M).cls i (T k).1 (T k).2.1 (T k).2.2.1 ∈ ab_TG) (hfin : (T k).2.2.2 = false) (hty : parseFieldDescriptor (T k).2.2.1 = some ty) (hb : (ty = .int ∧ b = false) ∨ (ty = .boolean ∧ b = true) ∨ (ty = .byte ∧ b = true)) : ab_Sn B M pc (ab_o_puti (ci + 4) N k b (pc + 3)) := fun loc stk h => by
  unfold ab_o_puti
  split
  · rename_i v a r
    split
    · rename_i hs
      have hnf : narrow ty (.int (Int32.ofInt v)) = .int (Int32.ofInt v) ∧ fits ty (.int (Int32.ofInt v)) = true := by
        rcases hb with ⟨h1, h2⟩ | ⟨h1, h2⟩ | ⟨h1, h2⟩
        · subst h1; exact ⟨rfl, rfl⟩
        · subst h1; exact ab_nb (hs.2 h2)
        · subst h1; exact ab_ny (hs.2 h2)
      refine ab_Sj.cell (a := a) rfl rfl rfl hs.1 (fun g μ j s' hj => ab_si_en j s' hj) (fun hk _ => hk) (fun v hv => List.mem_cons_of_mem _ (List.mem_cons_of_mem _ hv)) (fun X At k9 => ?_)
      refine va_put (v := .int (Int32.ofInt v)) X.1 X.2.1 X.2.2.2.2.2.2.1 (ab_cl_ok hc).1 (ab_ty ci) (ab_cl_ok hc).2.1 (ab_cl_ok hc).2.2 X.2.2.2.1 X.2.2.2.2.2.2.2.1.1 At.1.1 At.1.2.1 At.2.2.2.2 a (ab_ws_at hs.1) hc k hk (X.2.2.2.2.2.2.1 _ hl) (fun _ h => h) hfin hty hnf.1 hnf.2 (by rw [ab_fs_len]; exact hk) hd (fun H1 locs1 hP hD hS => k9 H1 locs1 ?_ ?_ hS)
      · rw [ab_si_fs hf] at hP; exact hP
      · rw [ab_si_fs hf] at hD; exact hD
    · trivial
  · trivial
theorem ab_s_putiF {M pc i ci N k : Nat} {C : String} {T : u_T} {b : Bool} {ty : FieldType} (hd : decode (ab_mb M) pc = .ok (.putfield i, 3)) (hc : ab_cl[ci]? = some (C, T, N)) (hk : k < N) (hf : ab_fk ci k = 0) (hl : Cond.fieldLink (ab_my M).cls i (T k).1 (T k).2.1 (T k).2.2.1 ∈ ab_TG) (hfin : (T k).2.2.2 = true) (hin : (ab_my M).name = "<init>") (hdc : (T k).1 = (ab_my M).cls) (hty : parseFieldDescriptor (T k).2.2.1 = some ty) (hb : (ty = .int ∧ b = false) ∨ (ty = .boolean ∧ b = true) ∨ (ty = .byte ∧ b = true)) : ab_Sn B M pc (ab_o_puti (ci + 4) N k b (pc + 3)) := fun loc stk h => by
  unfold ab_o_puti
  split
  · rename_i v a r
    split
    · rename_i hs
      have hnf : narrow ty (.int (Int32.ofInt v)) = .int (Int32.ofInt v) ∧ fits ty (.int (Int32.ofInt v)) = true := by
        rcases hb with ⟨h1, h2⟩ | ⟨h1, h2⟩ | ⟨h1, h2⟩
        · subst h1; exact ⟨rfl, rfl⟩
        · subst h1; exact ab_nb (hs.2 h2)
        · subst h1; exact ab_ny (hs.2 h2)
      refine ab_Sj.cell (a := a) rfl rfl rfl hs.1 (fun g μ j s' hj => ab_si_en j s' hj) (fun hk _ => hk) (fun v hv => List.mem_cons_of_mem _ (List.mem_cons_of_mem _ hv)) (fun X At k9 => ?_)
      refine va_putF (v := .int (Int32.ofInt v)) X.1 X.2.1 X.2.2.2.2.2.2.1 (ab_cl_ok hc).1 (ab_ty ci) (ab_cl_ok hc).2.1 (ab_cl_ok hc).2.2 X.2.2.2.1 X.2.2.2.2.2.2.2.1.1 At.1.1 At.1.2.1 At.2.2.2.2 a (ab_ws_at hs.1) hc k hk (X.2.2.2.2.2.2.1 _ hl) (fun _ h => h) hfin (X.2.2.2.2.2.2.2.2.2.1.trans hin) hdc hty hnf.1 hnf.2 (by rw [ab_fs_len]; exact hk) hd (fun H1 locs1 hP hD hS => k9 H1 locs1 ?_ ?_ hS)
      · rw [ab_si_fs hf] at hP; exact hP
      · rw [ab_si_fs hf] at hD; exact hD
    · trivial
  · trivial
theorem ab_s_putl {M pc i ci N k : Nat} {C : String} {T : u_T} (hd : decode (ab_mb M) pc = .ok (.putfield i, 3)) (hc : ab_cl[ci]? = some (C, T, N)) (hk : k < N) (hf : ab_fk ci k = 2) (hl : Cond.fieldLink (ab_my M).cls i (T k).1 (T k).2.1 (T k).2.2.1 ∈ ab_TG) (hfin : (T k).2.2.2 = false) (hty : parseFieldDescriptor (T k).2.2.1 = some .long) : ab_Sn B M pc (ab_o_putl (ci + 4) N k (pc + 3)) := fun loc stk h => by
  unfold ab_o_putl
  split
  · rename_i v a r
    split
    · rename_i hs
      refine ab_Sj.cell (a := a) rfl rfl rfl hs (fun g μ j s' hj => ab_sl_en j s' hj) (fun hk _ => hk) (fun v hv => List.mem_cons_of_mem _ (List.mem_cons_of_mem _ hv)) (fun X At k9 => ?_)
      refine va_put (v := .long v) X.1 X.2.1 X.2.2.2.2.2.2.1 (ab_cl_ok hc).1 (ab_ty ci) (ab_cl_ok hc).2.1 (ab_cl_ok hc).2.2 X.2.2.2.1 X.2.2.2.2.2.2.2.1.1 At.1.1 At.1.2.1 At.2.2.2.2 a (ab_ws_at hs) hc k hk (X.2.2.2.2.2.2.1 _ hl) (fun _ h => h) hfin hty rfl rfl (by rw [ab_fs_len]; exact hk) hd (fun H1 locs1 hP hD hS => k9 H1 locs1 ?_ ?_ hS)
      · rw [ab_sl_fs hf] at hP; exact hP
      · rw [ab_sl_fs hf] at hD; exact hD
    · trivial
  · trivial
theorem ab_rfit {μ : Nat → Nat} {o : Option Nat} {ty : FieldType} (hty : (∃ C, ty = .object C) ∨ ∃ t, ty = .array t) : narrow ty (ab_cv B μ (ab_Q o)) = ab_cv B μ (ab_Q o) ∧ fits ty (ab_cv B μ (ab_Q o)) = true := by
  cases o <;> (rcases hty with ⟨C, h⟩ | ⟨t, h⟩ <;> subst h <;> exact ⟨rfl, rfl⟩)
theorem ab_s_putr {M pc i ci N k : Nat} {C : String} {T : u_T} {ty : FieldType} (hd : decode (ab_mb M) pc = .ok (.putfield i, 3)) (hc : ab_cl[ci]? = some (C, T, N)) (hk : k < N) (hf : ab_fk ci k = 1) (hl : Cond.fieldLink (ab_my M).cls i (T k).1 (T k).2.1 (T k).2.2.1 ∈ ab_TG) (hfin : (T k).2.2.2 = false) (hty : parseFieldDescriptor (T k).2.2.1 = some ty) (htr : (∃ C, ty = .object C) ∨ ∃ t, ty = .array t) : ab_Sn B M pc (ab_o_putr (ci + 4) N k (pc + 3)) := fun loc stk h => by
  unfold ab_o_putr
  split
  · rename_i v a r
    split
    · rename_i hs
      refine ab_Sj.cell (a := a) rfl rfl rfl hs (fun g μ j s' hj => ab_sr_en j s' hj) (fun hk h1 => ab_ok_sr hk (fun j hj => ab_mem_h h1 j (by rw [hj]))) (fun v hv => List.mem_cons_of_mem _ (List.mem_cons_of_mem _ hv)) (fun {p l e R s m args below meth c H locs cells slots Q g A μ ls} X At k9 => ?_)
      refine va_put (v := ab_cv B μ (ab_Q v)) X.1 X.2.1 X.2.2.2.2.2.2.1 (ab_cl_ok hc).1 (ab_ty ci) (ab_cl_ok hc).2.1 (ab_cl_ok hc).2.2 X.2.2.2.1 X.2.2.2.2.2.2.2.1.1 At.1.1 At.1.2.1 At.2.2.2.2 a (ab_ws_at hs) hc k hk (X.2.2.2.2.2.2.1 _ hl) (fun _ h => h) hfin hty (ab_rfit htr).1 (ab_rfit htr).2 (by rw [ab_fs_len]; exact hk) hd (fun H1 locs1 hP hD hS => k9 H1 locs1 ?_ ?_ hS)
      · rw [ab_sr_fs hf] at hP; exact hP
      · rw [ab_sr_fs hf] at hD; exact hD
    · trivial
  · trivial
theorem ab_s_putrF {M pc i ci N k : Nat} {C : String} {T : u_T} {ty : FieldType} (hd : decode (ab_mb M) pc = .ok (.putfield i, 3)) (hc : ab_cl[ci]? = some (C, T, N)) (hk : k < N) (hf : ab_fk ci k = 1) (hl : Cond.fieldLink (ab_my M).cls i (T k).1 (T k).2.1 (T k).2.2.1 ∈ ab_TG) (hfin : (T k).2.2.2 = true) (hin : (ab_my M).name = "<init>") (hdc : (T k).1 = (ab_my M).cls) (hty : parseFieldDescriptor (T k).2.2.1 = some ty) (htr : (∃ C, ty = .object C) ∨ ∃ t, ty = .array t) : ab_Sn B M pc (ab_o_putr (ci + 4) N k (pc + 3)) := fun loc stk h => by
  unfold ab_o_putr
  split
  · rename_i v a r
    split
    · rename_i hs
      refine ab_Sj.cell (a := a) rfl rfl rfl hs (fun g μ j s' hj => ab_sr_en j s' hj) (fun hk h1 => ab_ok_sr hk (fun j hj => ab_mem_h h1 j (by rw [hj]))) (fun v hv => List.mem_cons_of_mem _ (List.mem_cons_of_mem _ hv)) (fun {p l e R s m args below meth c H locs cells slots Q g A μ ls} X At k9 => ?_)
      refine va_putF (v := ab_cv B μ (ab_Q v)) X.1 X.2.1 X.2.2.2.2.2.2.1 (ab_cl_ok hc).1 (ab_ty ci) (ab_cl_ok hc).2.1 (ab_cl_ok hc).2.2 X.2.2.2.1 X.2.2.2.2.2.2.2.1.1 At.1.1 At.1.2.1 At.2.2.2.2 a (ab_ws_at hs) hc k hk (X.2.2.2.2.2.2.1 _ hl) (fun _ h => h) hfin (X.2.2.2.2.2.2.2.2.2.1.trans hin) hdc hty (ab_rfit htr).1 (ab_rfit htr).2 (by rw [ab_fs_len]; exact hk) hd (fun H1 locs1 hP hD hS => k9 H1 locs1 ?_ ?_ hS)
      · rw [ab_sr_fs hf] at hP; exact hP
      · rw [ab_sr_fs hf] at hD; exact hD
    · trivial
  · trivial
theorem ab_s_getlN {M pc i ci N k : Nat} {C host : String} {T : u_T} (hd : decode (ab_mb M) pc = .ok (.getfield i, 3)) (hc : ab_cl[ci]? = some (C, T, N)) (hk : k < N) (hf : ab_fk ci k = 2) (hl : Cond.fieldLinkNest (ab_my M).cls i (T k).1 (T k).2.1 (T k).2.2.1 host ∈ ab_TN) : ab_Sn B M pc (ab_o_getl (ci + 4) N k (pc + 3)) := fun loc stk h => by
  unfold ab_o_getl
  split
  · rename_i a r
    split
    · rename_i hs
      exact ab_Sj.pure (fun h1 _ => ab_mem_c (ab_vs_l _ _) (ab_mem_t h1)) (fun X At _ _ _ _ _ k9 => va_getN X.1 X.2.1 X.2.2.2.2.2.2.1 (ab_cl_ok hc).1 X.2.2.2.1 X.2.2.2.2.2.2.2.1.1 At.1.1 a (ab_ws_at hs) hc k hk (va_Nw.use rfl (X.2.2.2.2.2.2.2.1.2.2.1 _ hl)) (fun _ h => h) ((ab_fs_at hk).trans (congrArg some (ab_fv2 hf))) hd k9)
    · trivial
  · trivial
theorem ab_s_putlN {M pc i ci N k : Nat} {C host : String} {T : u_T} (hd : decode (ab_mb M) pc = .ok (.putfield i, 3)) (hc : ab_cl[ci]? = some (C, T, N)) (hk : k < N) (hf : ab_fk ci k = 2) (hl : Cond.fieldLinkNest (ab_my M).cls i (T k).1 (T k).2.1 (T k).2.2.1 host ∈ ab_TN) (hfin : (T k).2.2.2 = false) (hty : parseFieldDescriptor (T k).2.2.1 = some .long) : ab_Sn B M pc (ab_o_putl (ci + 4) N k (pc + 3)) := fun loc stk h => by
  unfold ab_o_putl
  split
  · rename_i v a r
    split
    · rename_i hs
      refine ab_Sj.cell (a := a) rfl rfl rfl hs (fun g μ j s' hj => ab_sl_en j s' hj) (fun hk _ => hk) (fun v hv => List.mem_cons_of_mem _ (List.mem_cons_of_mem _ hv)) (fun X At k9 => ?_)
      refine va_putN (v := .long v) X.1 X.2.1 X.2.2.2.2.2.2.1 (ab_cl_ok hc).1 (ab_ty ci) (ab_cl_ok hc).2.1 (ab_cl_ok hc).2.2 X.2.2.2.1 X.2.2.2.2.2.2.2.1.1 At.1.1 At.1.2.1 At.2.2.2.2 a (ab_ws_at hs) hc k hk (va_Nw.use rfl (X.2.2.2.2.2.2.2.1.2.2.1 _ hl)) (fun _ h => h) hfin hty rfl rfl (by rw [ab_fs_len]; exact hk) hd (fun H1 locs1 hP hD hS => k9 H1 locs1 ?_ ?_ hS)
      · rw [ab_sl_fs hf] at hP; exact hP
      · rw [ab_sl_fs hf] at hD; exact hD
    · trivial
  · trivial
theorem ab_s_putrN {M pc i ci N k : Nat} {C host : String} {T : u_T} {ty : FieldType} (hd : decode (ab_mb M) pc = .ok (.putfield i, 3)) (hc : ab_cl[ci]? = some (C, T, N)) (hk : k < N) (hf : ab_fk ci k = 1) (hl : Cond.fieldLinkNest (ab_my M).cls i (T k).1 (T k).2.1 (T k).2.2.1 host ∈ ab_TN) (hfin : (T k).2.2.2 = false) (hty : parseFieldDescriptor (T k).2.2.1 = some ty) (htr : (∃ C, ty = .object C) ∨ ∃ t, ty = .array t) : ab_Sn B M pc (ab_o_putr (ci + 4) N k (pc + 3)) := fun loc stk h => by
  unfold ab_o_putr
  split
  · rename_i v a r
    split
    · rename_i hs
      refine ab_Sj.cell (a := a) rfl rfl rfl hs (fun g μ j s' hj => ab_sr_en j s' hj) (fun hk h1 => ab_ok_sr hk (fun j hj => ab_mem_h h1 j (by rw [hj]))) (fun v hv => List.mem_cons_of_mem _ (List.mem_cons_of_mem _ hv)) (fun {p l e R s m args below meth c H locs cells slots Q g A μ ls} X At k9 => ?_)
      refine va_putN (v := ab_cv B μ (ab_Q v)) X.1 X.2.1 X.2.2.2.2.2.2.1 (ab_cl_ok hc).1 (ab_ty ci) (ab_cl_ok hc).2.1 (ab_cl_ok hc).2.2 X.2.2.2.1 X.2.2.2.2.2.2.2.1.1 At.1.1 At.1.2.1 At.2.2.2.2 a (ab_ws_at hs) hc k hk (va_Nw.use rfl (X.2.2.2.2.2.2.2.1.2.2.1 _ hl)) (fun _ h => h) hfin hty (ab_rfit htr).1 (ab_rfit htr).2 (by rw [ab_fs_len]; exact hk) hd (fun H1 locs1 hP hD hS => k9 H1 locs1 ?_ ?_ hS)
      · rw [ab_sr_fs hf] at hP; exact hP
      · rw [ab_sr_fs hf] at hD; exact hD
    · trivial
  · trivial
theorem ab_s_iaload {M pc : Nat} (hd : decode (ab_mb M) pc = .ok (.iaload, 1)) : ab_Sn B M pc (ab_o_xld 0 (pc + 1)) := fun loc stk h => by
  unfold ab_o_xld
  split
  · rename_i z a r
    split
    · rename_i t' n hs
      split
      · rename_i hc
        obtain ⟨rfl, h0, h1⟩ := hc
        refine ab_Sj.pure (fun h1 _ => ab_mem_c (ab_vs_i _ _) (ab_mem_t (ab_mem_t h1))) (fun X At _ _ _ _ _ k9 => ?_)
        have hn : n < 2147483648 := At.1.2.2.2 a _ hs
        refine va_iald X.1 X.2.1 X.2.2.2.2.2.2.2.1.1 At.1.1 a 0 (ab_ws_at hs) rfl (ab_in h0 h1 hn) hd ?_
        rw [(ab_ix h0 (by omega)).1, Int.toNat_of_nonneg h0]
        exact k9
      · trivial
    · trivial
  · trivial
theorem ab_arr_si0 {μ : Nat → Nat} {g : ab_G} {h : ab_H} {a n : Nat} {z v : Int} (h0 : 0 ≤ z) (h1 : z < 2147483648) : (Sum.inl (g.2.1, n, .inl (upd (fun j : Nat => Int32.ofInt (ab_gi h a j)) (Int32.ofInt z).toNatClampNeg (Int32.ofInt v))) : va_E) = ab_en B g μ (ab_si h a z v) a (0, n) := by
  show Sum.inl _ = Sum.inl _
  congr 4
  funext j
  rw [(ab_ix h0 h1).1, ab_gi_si]
  
  by_cases e : j = z.toNat
  · subst e
    rw [if_pos ⟨rfl, Int.toNat_of_nonneg h0⟩]
    simp [upd]
  · rw [if_neg (fun q => e (by have := q.2; omega))]
    simp [upd, e]
theorem ab_s_iastore {M pc : Nat} (hd : decode (ab_mb M) pc = .ok (.iastore, 1)) : ab_Sn B M pc (ab_o_xst 0 (pc + 1)) := fun loc stk h => by
  unfold ab_o_xst
  split
  · rename_i v z a r
    split
    · rename_i t' n hs
      split
      · rename_i hc
        obtain ⟨rfl, h0, h1, hb, hy⟩ := hc
        refine ab_Sj.cell (a := a) rfl rfl rfl hs (fun g μ j s' hj => ab_si_en j s' hj) (fun hk _ => hk) (fun v hv => List.mem_cons_of_mem _ (List.mem_cons_of_mem _ (List.mem_cons_of_mem _ hv))) (fun {p l e R s m args below meth c H locs cells slots Q g A μ ls} X At k9 => ?_)
        have hn : n < 2147483648 := At.1.2.2.2 a _ hs
        refine va_iast X.1 X.2.1 X.2.2.2.2.2.2.2.1.1 At.1.1 At.1.2.1 At.2.2.2.2 a 0 (ab_ws_at hs) rfl (ab_in h0 h1 hn) hd (fun H1 locs1 hP hD hS => k9 H1 locs1 ?_ ?_ hS)
        · rw [ab_arr_si0 (μ := μ) h0 (by omega)] at hP; exact hP
        · rw [ab_arr_si0 (μ := μ) h0 (by omega)] at hD; exact hD
      · trivial
    · trivial
  · trivial
theorem ab_s_baload {M pc : Nat} (hd : decode (ab_mb M) pc = .ok (.baload, 1)) : ab_Sn B M pc (ab_o_xld 1 (pc + 1)) := fun loc stk h => by
  unfold ab_o_xld
  split
  · rename_i z a r
    split
    · rename_i t' n hs
      split
      · rename_i hc
        obtain ⟨rfl, h0, h1⟩ := hc
        refine ab_Sj.pure (fun h1 _ => ab_mem_c (ab_vs_i _ _) (ab_mem_t (ab_mem_t h1))) (fun X At _ _ _ _ _ k9 => ?_)
        have hn : n < 2147483648 := At.1.2.2.2 a _ hs
        refine va_zald X.1 X.2.1 X.2.2.2.2.2.2.2.1.1 At.1.1 a 1 (ab_ws_at hs) rfl (ab_in h0 h1 hn) hd ?_
        rw [(ab_ix h0 (by omega)).1, Int.toNat_of_nonneg h0]
        exact k9
      · trivial
    · trivial
  · trivial
theorem ab_arr_si1 {μ : Nat → Nat} {g : ab_G} {h : ab_H} {a n : Nat} {z v : Int} (h0 : 0 ≤ z) (h1 : z < 2147483648) (hv : v = 0 ∨ v = 1) : (Sum.inl (g.2.2.1, n, .inl (upd (fun j : Nat => Int32.ofInt (ab_gi h a j)) (Int32.ofInt z).toNatClampNeg (vp_nar .boolean (Int32.ofInt v)))) : va_E) = ab_en B g μ (ab_si h a z v) a (1, n) := by
  show Sum.inl _ = Sum.inl _
  congr 4
  funext j
  rw [(ab_ix h0 h1).1, ab_gi_si]
  have hb : vp_nar .boolean (Int32.ofInt v) = Int32.ofInt v := by rcases hv with h | h <;> subst h <;> decide
  by_cases e : j = z.toNat
  · subst e
    rw [if_pos ⟨rfl, Int.toNat_of_nonneg h0⟩]
    simp [upd, hb]
  · rw [if_neg (fun q => e (by have := q.2; omega))]
    simp [upd, e]
theorem ab_s_bastore {M pc : Nat} (hd : decode (ab_mb M) pc = .ok (.bastore, 1)) : ab_Sn B M pc (ab_o_xst 1 (pc + 1)) := fun loc stk h => by
  unfold ab_o_xst
  split
  · rename_i v z a r
    split
    · rename_i t' n hs
      split
      · rename_i hc
        obtain ⟨rfl, h0, h1, hb, hy⟩ := hc
        refine ab_Sj.cell (a := a) rfl rfl rfl hs (fun g μ j s' hj => ab_si_en j s' hj) (fun hk _ => hk) (fun v hv => List.mem_cons_of_mem _ (List.mem_cons_of_mem _ (List.mem_cons_of_mem _ hv))) (fun {p l e R s m args below meth c H locs cells slots Q g A μ ls} X At k9 => ?_)
        have hn : n < 2147483648 := At.1.2.2.2 a _ hs
        refine va_zast X.1 X.2.1 X.2.2.2.2.2.2.2.1.1 At.1.1 At.1.2.1 At.2.2.2.2 a 1 (ab_ws_at hs) rfl (ab_in h0 h1 hn) hd (fun H1 locs1 hP hD hS => k9 H1 locs1 ?_ ?_ hS)
        · rw [ab_arr_si1 (μ := μ) h0 (by omega) (hb rfl)] at hP; exact hP
        · rw [ab_arr_si1 (μ := μ) h0 (by omega) (hb rfl)] at hD; exact hD
      · trivial
    · trivial
  · trivial
theorem ab_W_eq {p : Program} {l : Launch} {e : Env} {R : Room} {s : State} {m : MethodId} {args : Array Value} {below : List Frame} {meth : Method} {c : Code} {H : Heap} {locs : List Loc} {cells slots : Nat} {Q : State → Prop} {pc : Nat} {ls : Array Slot} {a b : List Value} (hab : a = b) (k : W p l e R s m args below meth c H locs cells slots Q (F0 m pc ls a)) : W p l e R s m args below meth c H locs cells slots Q (F0 m pc ls b) := hab ▸ k
theorem ab_s_slen {M pc : Nat} (hd : decode (ab_mb M) pc = .ok (.arraylength, 1)) : ab_Sn B M pc (ab_o_slen B (pc + 1)) := fun loc stk h => by
  unfold ab_o_slen
  split
  · rename_i r
    refine ab_Sj.pure (fun h1 _ => ab_mem_c (ab_vs_i _ _) (ab_mem_t h1)) (fun X At _ _ _ _ _ k9 => ?_)
    obtain ⟨f7, f8, f9, -⟩ := X.2.2.2.2.2.2.2.1.2.2.2.2.2.2
    exact va_slen X.1 X.2.1 f9 f8 f7 At.2.2.2.2 hd k9
  · trivial
theorem ab_s_sld {M pc : Nat} (hd : decode (ab_mb M) pc = .ok (.iaload, 1)) : ab_Sn B M pc (ab_o_sld B (pc + 1)) := fun loc stk h => by
  unfold ab_o_sld
  split
  · rename_i z r
    split
    · rename_i hc
      obtain ⟨h0, h1, h2⟩ := hc
      refine ab_Sj.pure (fun h1 _ => ab_mem_c (ab_vs_i _ _) (ab_mem_t (ab_mem_t h1))) (fun X At _ _ _ _ _ k9 => ?_)
      obtain ⟨f7, f8, f9, -⟩ := X.2.2.2.2.2.2.2.1.2.2.2.2.2.2
      obtain ⟨e1, e2⟩ := ab_ix h0 h2
      refine va_sld X.1 X.2.1 f9 f8 f7 At.2.2.2.2 (i := Int32.ofInt z) (fun q => ?_) hd ?_
      · rcases q with q | q
        · exact e2 q
        · rw [e1] at q; omega
      · rw [e1]
        refine ab_W_eq ?_ k9
        show Value.int (Int32.ofInt (B.2.2.1 z.toNat).toInt) :: _ = _
        rw [Int32.ofInt_toInt]
    · trivial
  · trivial
end
