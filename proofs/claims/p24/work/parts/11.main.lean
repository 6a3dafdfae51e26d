set_option linter.all false
/-! A RUN OF THE ABSTRACT MACHINE IS ONE OF THE REAL MACHINE -/
section
variable {B : ab_B}
theorem ab_tableOf_nil : tableOf [] = [] := rfl
/-- a method's body by its number, with a table or without -/
theorem ab_ofM {l : Launch} {M : Nat} {rm : Room} {Pc : Array Value → State → Prop} {Qc : Array Value → State → Outcome → State → Prop} {XC : String → State → State → Prop} {mc ms : Nat} {free : Addr → Prop} (hy : plainName (ab_my M).cls = true)
    (body : ∀ p e s m args below meth c s₁, BodyLoose p l (ab_my M) (headSpec (ab_wsM M) rm) (ab_mb M) (ab_mL M) (ab_mr M) e s m args below meth c s₁ → c.maxLocals = ab_mL M → c.exceptionTable.toList = tableOf (ab_tb M) → Pc args s →
      W p l e (headSpec (ab_wsM M) rm).room s m args below meth c s.heap [] 0 0 (vx_MQ below Qc XC args s mc ms free) (entryFrame m args (ab_mL M))) : vx_Met l (ab_my M) (ab_wsM M) rm Pc Qc XC mc ms free := by
  by_cases hM : ab_tb M = []
  · refine vx_ofW (cc := ab_mb M) (maxL := ab_mL M) (ret := ab_mr M) hy (by unfold ab_wsM; rw [ab_cw_n hM]) (fun p e s m args below meth c s₁ BL hml ht hv => ?_)
    refine body p e s m args below meth c s₁ BL hml ?_ hv
    rw [hM, ab_tableOf_nil]
    exact List.eq_nil_iff_forall_not_mem.mpr (fun x hx => ht x hx)
  · refine vx_ofWH (cc := ab_mb M) (maxL := ab_mL M) (ret := ab_mr M) (hh := ab_tb M) hy (by unfold ab_wsM; rw [ab_cw_h hM]) (fun p e s m args below meth c s₁ BL hml hv => ?_)
    refine body p e s m args below meth c s₁ BL hml ?_ hv
    have h9 := atoms_spec (ws := ab_wsM M) BL.pre _ (show Cond.codeWith (ab_my M) (ab_mb M) (ab_mL M) (ab_mr M) (ab_tb M) ∈ ab_wsM M from by unfold ab_wsM; rw [ab_cw_h hM]; exact List.mem_cons_self)
    exact vx_table (x := ab_my M) BL h9
section
variable {st : Nat → Nat → ab_O}
theorem ab_mono (hS : ∀ M pc, ab_Sn B M pc (st M pc)) : ∀ (n d M pc : Nat) (loc : ab_M) (stk : List ab_V) (h : ab_H) (r : ab_T), ab_run st n d M pc loc stk h = some r → ab_kc h ≤ ab_kc r.2 ∧ ab_ks h ≤ ab_ks r.2 ∧ ab_n h ≤ ab_n r.2 := by
  intro n
  induction n with
  | zero => intro d M pc loc stk h r hr; cases hr
  | succ n ih =>
    intro d M pc loc stk h r hr
    have hs := hS M pc loc stk h
    rw [ab_run] at hr
    cases hP : st M pc loc stk h with
    | inl o =>
      rw [hP] at hr hs
      cases o with
      | none => cases hr
      | some r' => cases hr; exact ⟨hs.1, hs.2.1, hs.2.2.1⟩
    | inr q =>
      cases q with
      | inl q =>
        obtain ⟨pc', loc', stk', h'⟩ := q
        rw [hP] at hr hs
        obtain ⟨i1, i2, i3⟩ := ih _ _ _ _ _ _ _ hr
        exact ⟨Nat.le_trans hs.1 i1, Nat.le_trans hs.2.1 i2, Nat.le_trans hs.2.2.1 i3⟩
      | inr q =>
        obtain ⟨⟨M', loc', h'⟩, k⟩ := q
        rw [hP] at hr hs
        obtain ⟨rfl, as, -, -, -, -, hk⟩ := hs
        cases d with
        | zero => cases hr
        | succ d =>
          simp only at hr
          cases h1 : ab_run st n d M' 0 loc' [] h' with
          | none => rw [h1] at hr; cases hr
          | some r1 =>
            rw [h1] at hr
            obtain ⟨i1, i2, i3⟩ := ih _ _ _ _ _ _ _ h1
            obtain ⟨f1, f2, -⟩ := hk r1
            simp only at hr
            cases h2 : k r1 with
            | none => rw [h2] at hr; cases hr
            | some q =>
              rw [h2] at hr
              cases q with
              | inl r' =>
                cases hr
                rw [f1 _ h2]
                exact ⟨i1, i2, i3⟩
              | inr q =>
                obtain ⟨pc', loc2, stk2, h2'⟩ := q
                have e := f2 _ h2
                simp only at e
                subst e
                obtain ⟨j1, j2, j3⟩ := ih _ _ _ _ _ _ _ hr
                exact ⟨Nat.le_trans i1 j1, Nat.le_trans i2 j2, Nat.le_trans i3 j3⟩
theorem ab_ent_len : ∀ (as : List ab_V) (n : Nat), ab_lsz as ≤ n → (ab_ent n as).length = n
  | [], n, _ => by simp [ab_ent]
  | v :: as, n, h => by
    unfold ab_lsz at h
    simp only [List.map_cons, List.sum_cons] at h
    unfold ab_ent
    cases hv : ab_lg v with
    | true =>
      rw [hv] at h
      simp only [if_true] at h ⊢
      have := ab_ent_len as (n - 2) (by unfold ab_lsz; omega)
      simp only [List.length_cons, this]
      omega
    | false =>
      rw [hv] at h
      simp only [Bool.false_eq_true, if_false] at h ⊢
      have := ab_ent_len as (n - 1) (by unfold ab_lsz; omega)
      simp only [List.length_cons, this]
      omega
theorem ab_ent_mem : ∀ (as : List ab_V) (n : Nat) (v : ab_V), some v ∈ ab_ent n as → v ∈ as
  | [], n, v, h => by
    have := (List.mem_replicate.mp h).2
    cases this
  | x :: as, n, v, h => by
    unfold ab_ent at h
    split at h
    · rcases List.mem_cons.mp h with e | h
      · cases e; exact List.mem_cons_self
      · rcases List.mem_cons.mp h with e | h
        · cases e
        · exact List.mem_cons_of_mem _ (ab_ent_mem as _ v h)
    · rcases List.mem_cons.mp h with e | h
      · cases e; exact List.mem_cons_self
      · exact List.mem_cons_of_mem _ (ab_ent_mem as _ v h)
theorem ab_ent_args {μ : Nat → Nat} : ∀ (as : List ab_V) (n j i : Nat) (v : ab_V), (ab_ent n as)[i]? = some (some v) → (j + i, ab_cv B μ v) ∈ lv_args j (as.map (ab_cv B μ))
  | [], n, j, i, v, h => by
    have := (List.mem_replicate.mp (List.mem_of_getElem? h)).2
    cases this
  | x :: as, n, j, i, v, h => by
    unfold ab_ent at h
    show _ ∈ (j, ab_cv B μ x) :: lv_args (if (ab_cv B μ x).category = 2 then j + 2 else j + 1) (as.map (ab_cv B μ))
    rw [ab_cv_cat]
    cases hx : ab_lg x with
    | true =>
      rw [hx] at h
      simp only [if_true] at h ⊢
      match i, h with
      | 0, h => cases h; exact List.mem_cons_self
      | 1, h => cases h
      | i + 2, h =>
        have := ab_ent_args (μ := μ) as (n - 2) (j + 2) i v h
        rw [show j + (i + 2) = j + 2 + i by omega]
        exact List.mem_cons_of_mem _ this
    | false =>
      rw [hx] at h
      simp only [Bool.false_eq_true, if_false] at h ⊢
      match i, h with
      | 0, h => cases h; exact List.mem_cons_self
      | i + 1, h =>
        have := ab_ent_args (μ := μ) as (n - 1) (j + 1) i v h
        rw [show j + (i + 1) = j + 1 + i by omega]
        exact List.mem_cons_of_mem _ this
theorem ab_sl_len {μ : Nat → Nat} : ∀ as : List ab_V, (lg_sl (as.map (ab_cv B μ))).length = ab_lsz as
  | [] => rfl
  | x :: as => by
    have ih := ab_sl_len (μ := μ) as
    unfold lg_sl ab_lsz at *
    simp only [List.map_cons, List.flatMap_cons, List.length_append, List.sum_cons, ih, ab_cv_cat]
    cases ab_lg x <;> rfl
theorem ab_ent_lh {μ : Nat → Nat} {as : List ab_V} {n : Nat} (h : ab_lsz as ≤ n) : ab_lh B n μ ((lg_sl (as.map (ab_cv B μ)) ++ List.replicate (n - (lg_sl (as.map (ab_cv B μ))).length) Slot.unset).toArray) (ab_ent n as) := by
  have hl := lv_entry (as.map (ab_cv B μ)) (n := n) (by rw [ab_sl_len]; exact h)
  refine ⟨hl.1, hl.2.1, ab_ent_len as n h, fun i v hv => ?_⟩
  have := ab_ent_args (B := B) (μ := μ) as n 0 i v hv
  rw [Nat.zero_add] at this
  exact hl.2.2 _ this
theorem ab_sound (hS : ∀ M pc, ab_Sn B M pc (st M pc)) : ∀ (n d M pc : Nat) (loc : ab_M) (stk : List ab_V) (h : ab_H) (r : ab_T), ab_run st n d M pc loc stk h = some r →
    ∀ {p : Program} {l : Launch} {e : Env} {R : Room} {s : State} {m : MethodId} {args : Array Value} {below : List Frame} {meth : Method} {c : Code} {H : Heap} {locs : List Loc} {cells slots : Nat} {g : ab_G} {A : Nat → Prop} {μ μ0 : Nat → Nat} {h0 : ab_H} {ls : Array Slot} {b1 b2 : Nat},
    ab_X B M g A p l s m args meth c → ab_At B M g A μ h H ls loc stk s locs → cells + b1 = ab_kc h → slots + b2 = ab_ks h → ab_kc r.2 = R.cells + b1 → ab_ks r.2 = R.slots + b2 → d + 10 ≤ R.frames → 60 * d + 200 ≤ R.locals → (∀ i, i < ab_n h0 → μ i = μ0 i) → ab_n h0 ≤ ab_n h →
    W p l e R s m args below meth c H locs cells slots (vx_MQ below (ab_QC B g A μ0 h0 r) (ab_XC B g A μ0 h0 r) args s R.cells R.slots A) (F0 m pc ls (stk.map (ab_cv B μ))) := by
  intro n
  induction n with
  | zero => intro d M pc loc stk h r hr; cases hr
  | succ n ih =>
    intro d M pc loc stk h r hr p l e R s m args below meth c H locs cells slots g A μ μ0 h0 ls b1 b2 X At c1 c2 c3 c4 c5 c6 hμ hn
    have hs := hS M pc loc stk h
    have hm := ab_mono hS (n + 1) d M pc loc stk h r hr
    rw [ab_run] at hr
    cases hP : st M pc loc stk h with
    | inl o =>
      rw [hP] at hr hs
      cases o with
      | none => cases hr
      | some r' =>
        cases hr
        exact hs.2.2.2 X At c1 c2 c3 c4 (by omega) (by omega) trivial hμ hn
    | inr q =>
      cases q with
      | inl q =>
        obtain ⟨pc', loc', stk', h'⟩ := q
        rw [hP] at hr hs
        have hm2 := ab_mono hS n d M pc' loc' stk' h' r hr
        refine hs.2.2.2 X At c1 c2 (by omega) (by omega) (by omega) (by omega) trivial (fun μ' H' locs' cells' slots' ls' e1 At' e2 e3 => ?_)
        exact ih d M pc' loc' stk' h' r hr X At' e2 e3 c3 c4 c5 c6 (fun i hi => (e1 i (Nat.lt_of_lt_of_le hi hn)).trans (hμ i hi)) (Nat.le_trans hn hs.2.2.1)
      | inr q =>
        obtain ⟨⟨M', loc', h'⟩, k⟩ := q
        rw [hP] at hr hs
        obtain ⟨rfl, as, rfl, has, hsz, hcode, hk⟩ := hs
        cases d with
        | zero => cases hr
        | succ d =>
          simp only at hr
          cases h1 : ab_run st n d M' 0 (ab_ent (ab_mL M') as) [] h' with
          | none => rw [h1] at hr; cases hr
          | some r1 =>
            rw [h1] at hr
            have hm1 := ab_mono hS n d M' 0 _ [] h' r1 h1
            obtain ⟨f1, f2, f3⟩ := hk r1
            have hCM : ab_CM B l M' g A μ h' as r1 d := by
              intro mc ms hmc hms
              refine ab_ofM hcode.2 ?_
              · intro p e s m args below meth c s₁ BL hml ht hv
                obtain ⟨rfl, hR, hF⟩ := hv
                have hts := atoms_spec (ws := ab_wsM M') BL.pre
                have hown : s.vm.findClass (ab_my M').cls = some m.cls := findClass_of_methodNamed BL.named
                rw [lg_entry_eq]
                refine ih d M' 0 _ [] h' r1 h1 (R := { frames := d + 10, cells := mc, slots := ms, locals := 60 * d + 200 }) (b1 := ab_kc h') (b2 := ab_ks h') (μ := μ) ⟨BL.exec, BL.bytes, hml, hown, BL.returns, BL.notSynchronized, fun w hw => hts w (List.mem_cons_of_mem _ hw), hF, X.2.2.2.2.2.2.2.2.1, (name_of_methodNamed BL.named BL.method).1, ht⟩ ⟨hR, ab_ent_lh hsz, (fun v hv => absurd hv List.not_mem_nil), fun v hv => At.2.2.1 v (has v (ab_ent_mem as _ v hv)), va_S.rf⟩ (by omega) (by omega) (by show ab_kc r1.2 = mc + _; omega) (by show ab_ks r1.2 = ms + _; omega) (Nat.le_refl _) (Nat.le_refl _) (fun _ _ => rfl) (Nat.le_refl _)
            simp only at hr
            cases h2 : k r1 with
            | none => rw [h2] at hr; cases hr
            | some q =>
              rw [h2] at hr
              cases q with
              | inl r' =>
                cases hr
                have e9 := f1 _ h2
                refine f3 hCM hm1.1 hm1.2.1 hm1.2.2 X At c1 c2 (by rw [← e9]; omega) (by rw [← e9]; omega) (by omega) (by omega) hμ hn (fun r'' hk' => ?_) (fun hk' => by rw [h2] at hk'; cases hk') (fun pc' loc' stk' h' hk' => by rw [h2] at hk'; cases hk')
                rw [h2] at hk'
                cases hk'
                exact ⟨rfl, c3, c4⟩
              | inr q =>
                obtain ⟨pc', loc2, stk2, h2'⟩ := q
                have e9 := f2 _ h2
                simp only at e9 hr
                subst e9
                have hm3 := ab_mono hS n (d + 1) M pc' loc2 stk2 r1.2 r hr
                refine f3 hCM hm1.1 hm1.2.1 hm1.2.2 X At c1 c2 (by omega) (by omega) (by omega) (by omega) hμ hn (fun r'' hk' => by rw [h2] at hk'; cases hk') (fun hk' => by rw [h2] at hk'; cases hk') (fun pc9 loc9 stk9 h9 hk' => ?_)
                rw [h2] at hk'
                cases hk'
                intro μ' H' locs' cells' slots' ls' e1 At' e2 e3
                exact ih (d + 1) M pc' loc2 stk2 r1.2 r hr X At' e2 e3 c3 c4 c5 c6 (fun i hi => (e1 i (Nat.lt_of_lt_of_le hi hn)).trans (hμ i hi)) (Nat.le_trans hn hm1.2.2)
end
end
