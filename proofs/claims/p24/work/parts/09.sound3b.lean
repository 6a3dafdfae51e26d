set_option linter.all false
/-! ROWS OF ROWS, NULLS, CLONES, TEXTS -/
section
variable {B : ab_B}
section
variable {p : Program} {l : Launch} {e : Env} {R : Room} {s : State} {m : MethodId} {args : Array Value} {below : List Frame} {meth : Method} {c : Code} {H : Heap} {locs : List Loc} {cells slots : Nat} {Q : State → Prop}
variable {cc : ByteArray} {pc : Nat} {ls : Array Slot} {rest : List Value} {D : va_G} {cl : List vw_C} {A : Nat → Prop} {a : Nat} {tys : List (ClassId × FieldType)} {ws : va_W} {H0 : Heap}
theorem ab_w_aald (hexec : p.tables.exec = Jvm.exec) (hb : c.code = cc) (hK : va_K D cl tys s) (hP : va_P D cl ws H) (q0 t0 : Nat) {cA : ClassId} {n : Nat} {f : Nat → Option Nat} (ha : ws[q0]? = some (a, .inl (cA, n, .inr (.inr (.inr (.inr f)))))) (ht : tys[t0]? = some (cA, .array .int)) {i : Int32} (hin : vp_in i n) (hdg : decode cc pc = .ok (.aaload, 1))
    (kk : W p l e R s m args below meth c H locs cells slots Q (F0 m (pc + 1) ls (va_rf (f i.toNatClampNeg) :: rest))) : W p l e R s m args below meth c H locs cells slots Q (F0 m pc ls (.int i :: .ref a :: rest)) := by
  have hlt : i.toNatClampNeg < n := Nat.not_le.mp fun q => hin (Or.inr q)
  exact W.aald (v := va_rf (f i.toNatClampNeg)) (ty := .array .int) hexec hb (hP q0 _ ha) ((hK.2 t0 _ ht).1 n (fun j => va_rf (f j))) rfl (fun q => by cases q) (by show ¬ (i < 0 ∨ (arrV _ _ _).slots.size ≤ _); rw [arrV_size]; exact hin) (by show (arrV _ _ _).slots[_]? = _; rw [arrV_read _ _ hlt]) rfl rfl hdg kk
theorem ab_w_aast (hexec : p.tables.exec = Jvm.exec) (hb : c.code = cc) (hK : va_K D cl tys s) (hP : va_P D cl ws H) (hD : va_D A ws) (hS : va_S A H0 H locs) (hO : va_AOA .int s) (q0 t0 qk tk : Nat) {cA cV : ClassId} {n v : Nat} {x : vp_A} {f : Nat → Option Nat} (ha : ws[q0]? = some (a, .inl (cA, n, .inr (.inr (.inr (.inr f)))))) (ht : tys[t0]? = some (cA, .array .int)) (hv : ws[qk]? = some (v, .inl (cV, x))) (htv : tys[tk]? = some (cV, .int)) {i : Int32} (hin : vp_in i n) (hdg : decode cc pc = .ok (.aastore, 1))
    (kk : ∀ (H1 : Heap) (locs1 : List Loc), va_P D cl (ws.set q0 (a, .inl (cA, n, .inr (.inr (.inr (.inr (va_up f i.toNatClampNeg (some v)))))))) H1 → va_D A (ws.set q0 (a, .inl (cA, n, .inr (.inr (.inr (.inr (va_up f i.toNatClampNeg (some v)))))))) → va_S A H0 H1 locs1 → W p l e R s m args below meth c H1 locs1 cells slots Q (F0 m (pc + 1) ls rest)) : W p l e R s m args below meth c H locs cells slots Q (F0 m pc ls (.ref v :: .int i :: .ref a :: rest)) := by
  have hlt : i.toNatClampNeg < n := Nat.not_le.mp fun q => hin (Or.inr q)
  have h0 : ¬ i < 0 := fun q => hin (Or.inl q)
  obtain ⟨comp, c2, kA, h1, -, k1, k2, h5⟩ := arrayOverA_spec (show (Cond.arrayOver (.array .int)).holds #[] s none s [] = true from hO)
  have e1 : cA = c2 := Option.some.inj (((hK.2 t0 _ ht).2 : s.vm.findClass ("[" ++ (FieldType.array .int).toString) = some cA).symm.trans h5)
  have e2 : cV = comp := Option.some.inj (((hK.2 tk _ htv).2 : s.vm.findClass ("[" ++ FieldType.int.toString) = some cV).symm.trans h1)
  subst e1
  subst e2
  obtain ⟨kV, hkV, -⟩ := Vm.findClass_spec h1
  have hvm0 : (vp_cell cV x).vm = .none := by
    obtain ⟨n, f | f | f | f | f⟩ := x <;> rfl
  have hcl0 : (vp_cell cV x).cls = cV := by
    obtain ⟨n, f | f | f | f | f⟩ := x <;> rfl
  refine W.aast hexec hb (hP q0 _ ha) (fun q h => by cases h) (fun h => by cases h) k1 k2 rfl hkV ⟨h0, by show _ < (arrV _ _ _).slots.size; rw [arrV_size]; exact hlt⟩ (hP qk _ hv) (fun q h => by rw [hvm0] at h; cases h) (by rw [hcl0]; exact hkV) (by rw [hcl0]; exact va_asg _ _) rfl rfl hdg fun H1 e z oq => ?_
  refine kk H1 _ (hP.set hD ha ?_ oq) (hD.set ha) (hS.put z oq (hD.2 q0 _ ha))
  show H1[a]? = some (vp_cell _ _)
  rw [e]
  rw [vp_cell_q, vp_cell_q, arrV_store]
  congr 2
  funext q
  by_cases hq : q = i.toNatClampNeg
  · subst hq
    simp [updV, va_up, va_rf]
  · simp [updV, va_up, hq]
theorem ab_w_newq (hexec : p.tables.exec = Jvm.exec) (hb : c.code = cc) {own : String} {index : Nat} (hown : s.vm.findClass own = some m.cls) (hclink : (Cond.classLink own index (FieldType.array .int).toString).before args s = true) (hover : va_AOA .int s) (hP : va_P D cl ws H) (hD : va_D A ws) (hS : va_S A H0 H locs) (hA : ∀ q, H0.size ≤ q → A q)
    {n : Int32} {N' : Nat} {cA0 : ClassId} (hA0 : s.vm.findClass ("[" ++ (FieldType.array .int).toString) = some cA0) (hn : ¬ n < 0) (hN : n.toNatClampNeg = N') (hbytes : N' * 4 ≤ 536870912) (hcells : cells + 1 ≤ R.cells) (hslots : slots + N' ≤ R.slots) (hdg : decode cc pc = .ok (.anewarray index, 3))
    (kk : ∀ (q : Nat) (H1 : Heap), va_P D cl (ws ++ [(q, .inl (cA0, N', .inr (.inr (.inr (.inr (fun _ => none))))))]) H1 → va_D A (ws ++ [(q, .inl (cA0, N', .inr (.inr (.inr (.inr (fun _ => none))))))]) → va_S A H0 H1 locs →
      W p l e R s m args below meth c H1 locs (cells + 1) (slots + N') Q (F0 m (pc + 3) ls (.ref q :: rest))) : W p l e R s m args below meth c H locs cells slots Q (F0 m pc ls (.int n :: rest)) := by
  subst hN
  refine W.anewA hexec hb hown hclink (va_AOA.use hover) rfl hdg rfl hn hbytes hcells hslots fun cA kA comp f1 f2 f3 f4 => ?_
  have e9 : cA0 = cA := Option.some.inj (hA0.symm.trans f1)
  subst e9
  generalize hH1 : H.push ({ cls := cA0, slots := Array.replicate n.toNatClampNeg .null, vm := .none } : Cell) = H1
  have z1 : H1.size = H.size + 1 := by rw [← hH1, Array.size_push]
  have e1 : H1[H.size]? = some (arrV cA0 n.toNatClampNeg (fun _ => .null)) := by rw [← hH1, Array.getElem?_push_size, ← arrV_new]
  have o1 : ∀ q : Nat, q < H.size → H1[q]? = H[q]? := fun q hq => by rw [← hH1, Array.getElem?_push, if_neg (Nat.ne_of_lt hq)]
  have hk : ∀ (k : Nat) (x : Nat × va_E), ws[k]? = some x → H1[x.1]? = H[x.1]? := fun k x hx => o1 x.1 ((hP k x hx).lt)
  refine kk H.size H1 ((hP.kept hk).app (fun k x hx => ?_)) (hD.push hP rfl (hA _ hS.1)) ⟨Nat.le_trans hS.1 (by omega), fun x h1 h2 => (o1 x (Nat.lt_of_lt_of_le h1 hS.1)).trans (hS.2.1 x h1 h2), hS.2.2⟩
  have hz : k < 1 := (List.getElem?_eq_some_iff.mp hx).1
  rw [show k = 0 by omega] at hx
  cases hx
  exact e1
end
theorem ab_rf {μ : Nat → Nat} (o : Option Nat) : va_rf (o.map μ) = ab_cv B μ (ab_Q o) := by cases o <;> rfl
theorem ab_s_aald {M pc : Nat} (hd : decode (ab_mb M) pc = .ok (.aaload, 1)) : ab_Sn B M pc (ab_o_aald (pc + 1)) := fun loc stk h => by
  unfold ab_o_aald
  split
  · rename_i z a r
    split
    · rename_i t' n hs
      split
      · rename_i hc
        obtain ⟨rfl, h0, h1⟩ := hc
        refine ⟨Nat.le_refl _, Nat.le_refl _, Nat.le_refl _, ?_⟩
        intro p l e R s m args below meth c H locs cells slots Q g A μ ls b1 b2 X At c1 c2 c3 c4 c5 c6 c7 k9
        have hn : n < 2147483648 := At.1.2.2.2 a _ hs
        refine ab_w_aald X.1 X.2.1 X.2.2.2.2.2.2.2.1.1 At.1.1 a 2 (ab_ws_at hs) rfl (ab_in h0 h1 hn) hd ?_
        rw [(ab_ix h0 (by omega)).1, Int.toNat_of_nonneg h0, ab_rf (B := B)]
        exact k9 μ H locs cells slots ls (fun _ _ => rfl) ⟨At.1, At.2.1, ab_mem_c (ab_vs_q (fun j hj => At.1.2.2.1 _ _ _ hj)) (ab_mem_t (ab_mem_t At.2.2.1)), At.2.2.2.1, At.2.2.2.2⟩ c1 c2
      · trivial
    · trivial
  · trivial
theorem ab_arr_sr {μ : Nat → Nat} {g : ab_G} {h : ab_H} {a n b : Nat} {z : Int} (h0 : 0 ≤ z) (h1 : z < 2147483648) : (Sum.inl (g.2.2.2.1, n, .inr (.inr (.inr (.inr (va_up (fun j : Nat => (ab_gr h a j).map μ) (Int32.ofInt z).toNatClampNeg (some (μ b))))))) : va_E) = ab_en B g μ (ab_sr h a z (some b)) a (2, n) := by
  show Sum.inl _ = Sum.inl _
  congr 7
  funext j
  rw [(ab_ix h0 h1).1, ab_gr_sr]
  by_cases e : j = z.toNat
  · subst e
    rw [if_pos ⟨rfl, Int.toNat_of_nonneg h0⟩]
    simp [va_up]
  · rw [if_neg (fun q => e (by have := q.2; omega))]
    simp [va_up, e]
theorem ab_s_aast {M pc : Nat} (hd : decode (ab_mb M) pc = .ok (.aastore, 1)) : ab_Sn B M pc (ab_o_aast (pc + 1)) := fun loc stk h => by
  unfold ab_o_aast
  split
  · rename_i b z a r
    split
    · rename_i t' n hs
      split
      · rename_i hc
        obtain ⟨rfl, hb, h0, h1⟩ := hc
        obtain ⟨⟨tb, nb⟩, hsb, hb1⟩ := Option.map_eq_some_iff.mp hb
        simp only at hb1
        subst hb1
        refine ab_Sj.cell (a := a) rfl rfl rfl hs (fun g μ j s' hj => ab_sr_en j s' hj) (fun hk h1 => ab_ok_sr hk (fun j hj => ab_mem_h h1 j (by cases hj; rfl))) (fun v hv => List.mem_cons_of_mem _ (List.mem_cons_of_mem _ (List.mem_cons_of_mem _ hv))) (fun {p l e R s m args below meth c H locs cells slots Q g A μ ls} X At k9 => ?_)
        have hn : n < 2147483648 := At.1.2.2.2 a _ hs
        refine ab_w_aast X.1 X.2.1 X.2.2.2.2.2.2.2.1.1 At.1.1 At.1.2.1 At.2.2.2.2 X.2.2.2.2.2.2.2.1.2.2.2.2.2.2.2.2.2.2.2.2.2 a 2 b 0 (ab_ws_at hs) rfl (ab_ws_at hsb) rfl (ab_in h0 h1 hn) hd (fun H1 locs1 hP hD hS => k9 H1 locs1 ?_ ?_ hS)
        · rw [ab_arr_sr (B := B) (μ := μ) h0 (by omega)] at hP; exact hP
        · rw [ab_arr_sr (B := B) (μ := μ) h0 (by omega)] at hD; exact hD
      · trivial
    · trivial
  · trivial
theorem ab_s_newq {M pc i : Nat} (hd : decode (ab_mb M) pc = .ok (.anewarray i, 3)) (hl : Cond.classLink (ab_my M).cls i "[I" ∈ ab_TG) : ab_Sn B M pc (ab_o_newq (pc + 3)) := fun loc stk h => by
  unfold ab_o_newq
  split
  · rename_i z r
    split
    · rename_i hz
      refine ⟨by rw [ab_kc_new]; omega, by rw [ab_ks_new]; omega, by rw [ab_new_n]; omega, ?_⟩
      intro p l e R s m args below meth c H locs cells slots Q g A μ ls b1 b2 X At h1 h2 h3 h4 h5 h6 h7 k9
      rw [ab_kc_new] at h3
      rw [ab_ks_new] at h4
      obtain ⟨e1, e2⟩ := ab_ix hz.1 (by omega)
      refine ab_w_newq X.1 X.2.1 X.2.2.2.1 (X.2.2.2.2.2.2.1 _ hl) X.2.2.2.2.2.2.2.1.2.2.2.2.2.2.2.2.2.2.2.2.2 At.1.1 At.1.2.1 At.2.2.2.2 X.2.2.2.2.2.2.2.1.2.1 (cA0 := g.2.2.2.1) ((X.2.2.2.2.2.2.2.1.1.2 2 _ (rfl : (ab_TY g)[2]? = some (g.2.2.2.1, .array .int))).2) e2 e1 (by omega) (by omega) (by omega) hd (fun q H1 hP hD hS => ?_)
      have hμ : ∀ i, i < ab_n h → (fun i => if i = ab_n h then q else μ i) i = μ i := fun i hi => if_neg (Nat.ne_of_lt hi)
      have At1 := ab_new_At (t := 2) (n := z.toNat) At (by omega) hμ (if_pos rfl) (by show Sum.inl _ = Sum.inl _; congr 7; funext j; rw [ab_gr_new, if_pos rfl]; rfl) hP hD hS
      refine ab_W_stk ?_ (k9 _ H1 locs (cells + 1) (slots + z.toNat) ls hμ ⟨At1.1, At1.2.1, ab_mem_c (fun i hi => ?_) (ab_mem_t At1.2.2.1), At1.2.2.2.1, At1.2.2.2.2⟩ (by rw [ab_kc_new]; omega) (by rw [ab_ks_new]; omega))
      · show ab_cv B _ _ :: _ = _
        rw [ab_cv_map hμ (ab_mem_t At.2.2.1)]
        simp [ab_cv]
      · cases hi; rw [ab_new_n]; omega
    · trivial
  · trivial
theorem ab_s_cast {M pc i : Nat} (hd : decode (ab_mb M) pc = .ok (.checkcast i, 3)) (hl : Cond.classLink (ab_my M).cls i "[I" ∈ ab_TG) : ab_Sn B M pc (ab_o_cast (pc + 3)) := fun loc stk h => by
  unfold ab_o_cast
  split
  · rename_i a r
    split
    · rename_i t n hs
      split
      · rename_i hc
        subst hc
        exact ab_Sj.pure (fun h1 _ => h1) (fun {p l e R s m args below meth c H locs cells slots Q g A μ ls} X At _ _ _ _ _ k9 => va_castA X.1 X.2.1 X.2.2.2.1 (X.2.2.2.2.2.2.1 _ hl) At.1.1 a (ab_ws_at hs) ((X.2.2.2.2.2.2.2.1.1.2 0 _ (rfl : (ab_TY g)[0]? = some (g.2.1, .int))).2) hd k9)
      · trivial
    · trivial
  · trivial
/-- a new int[] with contents -/
theorem ab_newf_At {M : Nat} {g : ab_G} {A : Nat → Prop} {μ μ' : Nat → Nat} {h : ab_H} {H H1 : Heap} {ls : Array Slot} {loc : ab_M} {stk : List ab_V} {s : State} {locs locs1 : List Loc} {n q : Nat} {f : Int → Int} (At : ab_At B M g A μ h H ls loc stk s locs) (hn : n < 2147483648)
    (hμ : ∀ i, i < ab_n h → μ' i = μ i) (hq : μ' (ab_n h) = q) (hP : va_P g.1 ab_cl (ab_ws B g μ h ++ [(q, .inl (g.2.1, n, .inl (fun j : Nat => Int32.ofInt (f j))))]) H1) (hD : va_D A (ab_ws B g μ h ++ [(q, .inl (g.2.1, n, .inl (fun j : Nat => Int32.ofInt (f j))))])) (hS : va_S A s.heap H1 locs1) :
    ab_At B M g A μ' (ab_fil (ab_new h 0 n) (ab_n h) f) H1 ls loc stk s locs1 := by
  have hle : ab_n h ≤ ab_n (ab_fil (ab_new h 0 n) (ab_n h) f) := by unfold ab_n; rw [ab_sh_fil, ab_sh_new]; simp
  have hw : ab_ws B g μ' (ab_fil (ab_new h 0 n) (ab_n h) f) = ab_ws B g μ h ++ [(q, .inl (g.2.1, n, .inl (fun j : Nat => Int32.ofInt (f j))))] := by
    apply List.ext_getElem?
    intro j
    by_cases hj : j < ab_n h
    · rw [List.getElem?_append_left (by rw [ab_ws_len]; exact hj)]
      obtain ⟨s9, hs⟩ : ∃ s9, (ab_sh h)[j]? = some s9 := ⟨_, List.getElem?_eq_getElem hj⟩
      rw [ab_ws_at hs, ab_ws_at (h := ab_fil (ab_new h 0 n) (ab_n h) f) (i := j) (s := s9) (by rw [ab_sh_fil, ab_sh_new, List.getElem?_append_left hj]; exact hs), hμ j hj]
      rw [ab_fil_en j s9 (Nat.ne_of_lt hj), ab_en_eq hμ (fun k i hk => At.1.2.2.1 j k i hk) (fun k => by rw [ab_gi_new, if_neg (Nat.ne_of_lt hj)]) (fun k => by rw [ab_gr_new, if_neg (Nat.ne_of_lt hj)]) (fun k => by rw [ab_gl_new, if_neg (Nat.ne_of_lt hj)])]
    · rw [List.getElem?_append_right (by rw [ab_ws_len]; omega), ab_ws_len]
      by_cases hj2 : j = ab_n h
      · subst hj2
        rw [ab_ws_at (h := ab_fil (ab_new h 0 n) (ab_n h) f) (i := ab_n h) (s := (0, n)) (by rw [ab_sh_fil, ab_sh_new]; unfold ab_n; simp), hq]
        have he : ab_en B g μ' (ab_fil (ab_new h 0 n) (ab_n h) f) (ab_n h) (0, n) = .inl (g.2.1, n, .inl (fun j : Nat => Int32.ofInt (f j))) := by
          show Sum.inl _ = Sum.inl _
          congr 4
          funext j
          rw [ab_gi_fil, if_pos rfl]
        rw [he]
        simp
      · have h9 : ab_n (ab_fil (ab_new h 0 n) (ab_n h) f) = ab_n h + 1 := by unfold ab_n; rw [ab_sh_fil, ab_sh_new]; simp
        rw [ab_ws_no (h := ab_fil (ab_new h 0 n) (ab_n h) f) (List.getElem?_eq_none (by show ab_n (ab_fil (ab_new h 0 n) (ab_n h) f) ≤ j; omega)), List.getElem?_eq_none (by simp; omega)]
  refine ⟨⟨by rw [hw]; exact hP, by rw [hw]; exact hD, fun c k j hj => ?_, fun i x hx => ?_⟩, ⟨At.2.1.1, At.2.1.2.1, At.2.1.2.2.1, fun i v hv => ?_⟩, fun v hv => (At.2.2.1 v hv).le hle, fun v hv => (At.2.2.2.1 v hv).le hle, hS⟩
  · rw [ab_gr_fil, ab_gr_new] at hj
    by_cases hc : c = ab_n h
    · rw [if_pos hc] at hj; cases hj
    · rw [if_neg hc] at hj
      exact Nat.lt_of_lt_of_le (At.1.2.2.1 c k j hj) hle
  · rw [ab_sh_fil, ab_sh_new] at hx
    by_cases hi : i < ab_n h
    · rw [List.getElem?_append_left hi] at hx
      exact At.1.2.2.2 i x hx
    · rw [List.getElem?_append_right (Nat.le_of_not_lt hi)] at hx
      have hx2 := List.mem_singleton.mp (List.mem_of_getElem? hx)
      rw [hx2]
      exact hn
  · rw [ab_cv_eq hμ (At.2.2.2.1 v (List.mem_of_getElem? hv))]
    exact At.2.1.2.2.2 i v hv
theorem ab_s_clone {M pc i : Nat} (hd : decode (ab_mb M) pc = .ok (.invokevirtual i, 3)) (h1 : Cond.methodLink (ab_my M).cls i ⟨"[I", "clone", "()Ljava/lang/Object;"⟩ ∈ ab_TG) (h2 : Cond.sameMethod "[I" "java/lang/Object" "clone" "()Ljava/lang/Object;" ∈ ab_TG) (h3 : Cond.native ⟨"java/lang/Object", "clone", "()Ljava/lang/Object;"⟩ ∈ ab_TG) (h4 : Cond.instanceMethod ⟨"java/lang/Object", "clone", "()Ljava/lang/Object;"⟩ ∈ ab_TG) (h5 : Cond.selects "[I" ⟨"[I", "clone", "()Ljava/lang/Object;"⟩ ⟨"java/lang/Object", "clone", "()Ljava/lang/Object;"⟩ ∈ ab_TG) (h6 : Cond.castable "[I" "java/lang/Cloneable" ∈ ab_TN) : ab_Sn B M pc (ab_o_clone (pc + 3)) := fun loc stk h => by
  unfold ab_o_clone
  split
  · rename_i a r
    split
    · rename_i t n hs
      split
      · rename_i hc
        obtain ⟨rfl, hnn, hsum⟩ := hc
        have ekc : ab_kc (ab_fil (ab_new h 0 n) (ab_n h) (ab_gi h a)) = ab_kc h + 1 := rfl
        have eks : ab_ks (ab_fil (ab_new h 0 n) (ab_n h) (ab_gi h a)) = ab_ks h + n := rfl
        have en : ab_n (ab_fil (ab_new h 0 n) (ab_n h) (ab_gi h a)) = ab_n h + 1 := by unfold ab_n; rw [ab_sh_fil, ab_sh_new]; simp
        refine ⟨by rw [ekc]; omega, by rw [eks]; omega, by rw [en]; omega, ?_⟩
        intro p l e R s m args below meth c H locs cells slots Q g A μ ls b1 b2 X At c1 c2 c3 c4 c5 c6 c7 k9
        rw [ekc] at c3
        rw [eks] at c4
        have hml : c.maxLocals = ls.size := X.2.2.1.trans At.2.1.1.symm
        refine va_clone (ad := "[I") (x := (n, .inl (fun j : Nat => Int32.ofInt (ab_gi h a j)))) X.1 X.2.1 hml X.2.2.2.1 (X.2.2.2.2.2.2.1 _ h1) (X.2.2.2.2.2.2.1 _ h2) (X.2.2.2.2.2.2.1 _ h3) (X.2.2.2.2.2.2.1 _ h4) (X.2.2.2.2.2.2.1 _ h5) (X.2.2.2.2.2.2.2.1.2.2.1 _ h6) X.2.2.2.2.2.2.2.1.1 At.1.1 At.1.2.1 At.2.2.2.2 X.2.2.2.2.2.2.2.1.2.1 a 0 (ab_ws_at hs) rfl ((X.2.2.2.2.2.2.2.1.1.2 0 _ (rfl : (ab_TY g)[0]? = some (g.2.1, .int))).2) (va_fit (ty := .int) (fun i hi => rfl)) (by omega) (by rw [ab_sum_cat]; omega) (by omega) (by show slots + n ≤ _; omega) hd (fun q H1 hK hP hD hS => ?_)
        have hμ : ∀ i, i < ab_n h → (fun i => if i = ab_n h then q else μ i) i = μ i := fun i hi => if_neg (Nat.ne_of_lt hi)
        have At1 := ab_newf_At (n := n) (f := ab_gi h a) At (by omega) hμ (if_pos rfl) hP hD hS
        refine ab_W_stk ?_ (k9 _ H1 locs (cells + 1) (slots + n) ls hμ ⟨At1.1, At1.2.1, ab_mem_c (fun i hi => ?_) (ab_mem_t At1.2.2.1), At1.2.2.2.1, At1.2.2.2.2⟩ (by rw [ekc]; omega) (by rw [eks]; omega))
        · show ab_cv B _ _ :: _ = _
          rw [ab_cv_map hμ (ab_mem_t At.2.2.1)]
          simp [ab_cv]
        · cases hi; rw [en]; omega
      · trivial
    · trivial
  · trivial
theorem ab_mna_n (h : ab_H) (n k : Nat) : ab_n (ab_mna h n k) = ab_n h + 1 + n := by
  show (ab_sh h ++ ((2, n) :: List.replicate n (0, k))).length = _
  unfold ab_n
  simp
  omega
theorem ab_mna_sh (h : ab_H) (n k : Nat) : ab_sh (ab_mna h n k) = ab_sh h ++ ((2, n) :: List.replicate n (0, k)) := rfl
theorem ab_mna_kc (h : ab_H) (n k : Nat) : ab_kc (ab_mna h n k) = ab_kc h + 1 + n := rfl
theorem ab_mna_ks (h : ab_H) (n k : Nat) : ab_ks (ab_mna h n k) = ab_ks h + n + n * k := rfl
theorem ab_mna_gi (h : ab_H) (n k c : Nat) (i : Int) : ab_gi (ab_mna h n k) c i = if ab_n h ≤ c ∧ c ≤ ab_n h + n then 0 else ab_gi h c i := rfl
theorem ab_mna_gr (h : ab_H) (n k c : Nat) (i : Int) : ab_gr (ab_mna h n k) c i = if c = ab_n h then (if 0 ≤ i ∧ i < (n : Int) then some (ab_n h + 1 + i.toNat) else none) else if ab_n h < c ∧ c ≤ ab_n h + n then none else ab_gr h c i := rfl
theorem ab_mna_gl (h : ab_H) (n k c : Nat) (i : Int) : ab_gl (ab_mna h n k) c i = if ab_n h ≤ c ∧ c ≤ ab_n h + n then 0 else ab_gl h c i := rfl
theorem ab_pl_rows {l : List Nat} {f : Nat → va_E} {e : va_E} : va_pl ([] ++ l) (vr_up f l e) = l.map (fun a => (a, e)) := (vr_rows (L := []) (fun _ _ h => absurd h List.not_mem_nil)).symm
theorem ab_mna_At {M : Nat} {g : ab_G} {A : Nat → Prop} {μ μ' : Nat → Nat} {h : ab_H} {H H1 : Heap} {ls : Array Slot} {loc : ab_M} {stk : List ab_V} {s : State} {locs locs1 : List Loc} {n k q : Nat} {r : Nat → Nat} (At : ab_At B M g A μ h H ls loc stk s locs) (hn : n < 2147483648) (hk : k < 2147483648)
    (hμ : ∀ i, i < ab_n h → μ' i = μ i) (hq : μ' (ab_n h) = q) (hr : ∀ i, i < n → μ' (ab_n h + 1 + i) = r i)
    (hP : va_P g.1 ab_cl ((ab_ws B g μ h ++ [(q, .inl (g.2.2.2.1, n, .inr (.inr (.inr (.inr (fun i => if i < n then some (r i) else none))))))]) ++ ((List.range n).map r).map (fun a => (a, .inl (g.2.1, k, .inl (fun _ => 0))))) H1) (hD : va_D A ((ab_ws B g μ h ++ [(q, .inl (g.2.2.2.1, n, .inr (.inr (.inr (.inr (fun i => if i < n then some (r i) else none))))))]) ++ ((List.range n).map r).map (fun a => (a, .inl (g.2.1, k, .inl (fun _ => 0)))))) (hS : va_S A s.heap H1 locs1) :
    ab_At B M g A μ' (ab_mna h n k) H1 ls loc stk s locs1 := by
  have hle : ab_n h ≤ ab_n (ab_mna h n k) := by rw [ab_mna_n]; omega
  have hw : ab_ws B g μ' (ab_mna h n k) = (ab_ws B g μ h ++ [(q, .inl (g.2.2.2.1, n, .inr (.inr (.inr (.inr (fun i => if i < n then some (r i) else none))))))]) ++ ((List.range n).map r).map (fun a => (a, .inl (g.2.1, k, .inl (fun _ => 0)))) := by
    apply List.ext_getElem?
    intro j
    by_cases hj : j < ab_n h
    · rw [List.getElem?_append_left (by simp [ab_ws_len]; omega), List.getElem?_append_left (by rw [ab_ws_len]; exact hj)]
      obtain ⟨s9, hs⟩ : ∃ s9, (ab_sh h)[j]? = some s9 := ⟨_, List.getElem?_eq_getElem hj⟩
      rw [ab_ws_at hs, ab_ws_at (h := ab_mna h n k) (i := j) (s := s9) (by rw [ab_mna_sh, List.getElem?_append_left hj]; exact hs), hμ j hj]
      rw [ab_en_eq hμ (fun k i hk => At.1.2.2.1 j k i hk) (fun i => by rw [ab_mna_gi, if_neg (by omega)]) (fun i => by rw [ab_mna_gr, if_neg (by omega), if_neg (by omega)]) (fun i => by rw [ab_mna_gl, if_neg (by omega)])]
    · by_cases hj2 : j = ab_n h
      · subst hj2
        rw [List.getElem?_append_left (by simp [ab_ws_len]), List.getElem?_append_right (by rw [ab_ws_len]; omega), ab_ws_len]
        rw [ab_ws_at (h := ab_mna h n k) (i := ab_n h) (s := (2, n)) (by rw [ab_mna_sh]; unfold ab_n; simp), hq]
        have he : ab_en B g μ' (ab_mna h n k) (ab_n h) (2, n) = .inl (g.2.2.2.1, n, .inr (.inr (.inr (.inr (fun i => if i < n then some (r i) else none))))) := by
          show Sum.inl _ = Sum.inl _
          congr 7
          funext j
          rw [ab_mna_gr, if_pos rfl]
          by_cases hj : j < n
          · rw [if_pos ⟨by omega, by omega⟩, if_pos hj]
            show some (μ' (ab_n h + 1 + ((j : Int)).toNat)) = some (r j)
            rw [Int.toNat_natCast, hr j hj]
          · rw [if_neg (by omega), if_neg hj]
            rfl
        rw [he]
        simp
      · rw [List.getElem?_append_right (by simp [ab_ws_len]; omega)]
        have hlen : (ab_ws B g μ h ++ [(q, (.inl (g.2.2.2.1, n, .inr (.inr (.inr (.inr (fun i => if i < n then some (r i) else none))))) : va_E))]).length = ab_n h + 1 := by simp [ab_ws_len]
        rw [hlen]
        by_cases hj3 : j - (ab_n h + 1) < n
        · have hsj : (ab_sh (ab_mna h n k))[j]? = some (0, k) := by
            rw [ab_mna_sh, List.getElem?_append_right (by unfold ab_n at hj; omega)]
            have e9 : j - (ab_sh h).length = (j - (ab_n h + 1)) + 1 := by unfold ab_n at hj hj2 ⊢; omega
            rw [e9, List.getElem?_cons_succ, List.getElem?_replicate, if_pos hj3]
          rw [ab_ws_at hsj, List.getElem?_map, List.getElem?_map, List.getElem?_range hj3]
          have hj4 : j = ab_n h + 1 + (j - (ab_n h + 1)) := by omega
          have hm : μ' j = r (j - (ab_n h + 1)) := by
            have := hr (j - (ab_n h + 1)) hj3
            rwa [← hj4] at this
          have he : ab_en B g μ' (ab_mna h n k) j (0, k) = .inl (g.2.1, k, .inl (fun _ => 0)) := by
            show Sum.inl _ = Sum.inl _
            congr 4
            funext i
            rw [ab_mna_gi, if_pos (by omega)]
            rfl
          rw [hm, he]
          rfl
        · rw [ab_ws_no (h := ab_mna h n k) (List.getElem?_eq_none (by show ab_n (ab_mna h n k) ≤ j; rw [ab_mna_n]; omega)), List.getElem?_eq_none (by simp; omega)]
  refine ⟨⟨by rw [hw]; exact hP, by rw [hw]; exact hD, fun c i j hj => ?_, fun i x hx => ?_⟩, ⟨At.2.1.1, At.2.1.2.1, At.2.1.2.2.1, fun i v hv => ?_⟩, fun v hv => (At.2.2.1 v hv).le hle, fun v hv => (At.2.2.2.1 v hv).le hle, hS⟩
  · rw [ab_mna_gr] at hj
    rw [ab_mna_n]
    by_cases hc : c = ab_n h
    · rw [if_pos hc] at hj
      by_cases hi : 0 ≤ i ∧ i < (n : Int)
      · rw [if_pos hi] at hj
        cases hj
        omega
      · rw [if_neg hi] at hj; cases hj
    · rw [if_neg hc] at hj
      by_cases hc2 : ab_n h < c ∧ c ≤ ab_n h + n
      · rw [if_pos hc2] at hj; cases hj
      · rw [if_neg hc2] at hj
        have := At.1.2.2.1 c i j hj
        omega
  · rw [ab_mna_sh] at hx
    by_cases hi : i < ab_n h
    · rw [List.getElem?_append_left hi] at hx
      exact At.1.2.2.2 i x hx
    · rw [List.getElem?_append_right (Nat.le_of_not_lt hi)] at hx
      rcases List.mem_cons.mp (List.mem_of_getElem? hx) with e | e
      · rw [e]; exact hn
      · rw [(List.mem_replicate.mp e).2]; exact hk
  · rw [ab_cv_eq hμ (At.2.2.2.1 v (List.mem_of_getElem? hv))]
    exact At.2.1.2.2.2 i v hv
theorem ab_s_mna {M pc i : Nat} (hd : decode (ab_mb M) pc = .ok (.multianewarray i 2, 4)) (hl : Cond.classLink (ab_my M).cls i "[[I" ∈ ab_TG) (hw : Cond.arrayClass .int ∈ ab_TG) : ab_Sn B M pc (ab_o_mna (pc + 4)) := fun loc stk h => by
  unfold ab_o_mna
  split
  · rename_i k n r
    split
    · rename_i hz
      obtain ⟨z1, z2, z3, z4⟩ := hz
      have hmul : n.toNat * k.toNat ≤ 1000 * 1000 := Nat.mul_le_mul (by omega) (by omega)
      refine ⟨by rw [ab_mna_kc]; omega, by rw [ab_mna_ks]; omega, by rw [ab_mna_n]; omega, ?_⟩
      intro p l e R s m args below meth c H locs cells slots Q g A μ ls b1 b2 X At h1 h2 h3 h4 h5 h6 h7 k9
      rw [ab_mna_kc] at h3
      rw [ab_mna_ks] at h4
      obtain ⟨e1, e2⟩ := ab_ix z1 (by omega)
      obtain ⟨e3, e4⟩ := ab_ix z3 (by omega)
      have hK0 := X.2.2.2.2.2.2.2.1.1
      have At0 := At.1.1
      refine va_mna (X := ab_ws B g μ h) (L := []) (f := fun _ => .inr (0, [])) (ty := .int) (cy := g.2.1) (z := (k.toNat, .inl (fun _ => 0))) (N' := n.toNat) (K' := k.toNat) X.1 X.2.1 X.2.2.2.1 (X.2.2.2.2.2.2.1 _ hl) X.2.2.2.2.2.2.2.1.2.2.2.2.2.2.2.2.2.2.2.2.2 (X.2.2.2.2.2.2.1 _ hw) ((hK0.2 0 _ (rfl : (ab_TY g)[0]? = some (g.2.1, .int))).2) hK0 (by rw [show va_pl [] (fun _ => (.inr (0, []) : va_E)) = [] from rfl, List.append_nil]; exact At.1.1) (by rw [show va_pl [] (fun _ => (.inr (0, []) : va_E)) = [] from rfl, List.append_nil]; exact At.1.2.1) At.2.2.2.2 X.2.2.2.2.2.2.2.1.2.1 e2 e4 e1 e3 (by omega) (by show k.toNat * 4 ≤ _; omega) (by omega) rfl rfl (by omega) (by omega) (fun c => by rw [vp_cell_i, ← arrV_new]; rfl) hd (fun q r cA H1 hr1 hr2 hK hP hD hS => ?_)
      have hcA : cA = g.2.2.2.1 := by
        have q1 := (hK.2 2 _ (rfl : (ab_TY g ++ [(cA, .array .int)])[2]? = some (g.2.2.2.1, .array .int))).2
        have q2 := (hK.2 4 _ (rfl : (ab_TY g ++ [(cA, .array .int)])[4]? = some (cA, .array .int))).2
        exact Option.some.inj (q2.symm.trans q1)
      subst hcA
      rw [ab_pl_rows] at hP hD
      have hμ : ∀ i, i < ab_n h → (fun i => if i < ab_n h then μ i else if i = ab_n h then q else r (i - (ab_n h + 1))) i = μ i := fun i hi => if_pos hi
      have At1 := ab_mna_At (n := n.toNat) (k := k.toNat) At (by omega) (by omega) hμ (q := q) (r := r) (by simp) (fun i hi => by rw [if_neg (by omega), if_neg (by omega)]; congr 1; omega) hP hD hS
      refine ab_W_stk ?_ (k9 _ H1 locs (cells + 1 + n.toNat) (slots + n.toNat + n.toNat * k.toNat) ls hμ ⟨At1.1, At1.2.1, ab_mem_c (fun i hi => ?_) (ab_mem_t (ab_mem_t At1.2.2.1)), At1.2.2.2.1, At1.2.2.2.2⟩ (by rw [ab_mna_kc]; omega) (by rw [ab_mna_ks]; omega))
      · show ab_cv B _ _ :: _ = _
        rw [ab_cv_map hμ (ab_mem_t (ab_mem_t At.2.2.1))]
        simp [ab_cv]
      · cases hi; rw [ab_mna_n]; omega
    · trivial
  · trivial
/-! texts -/
theorem ab_fa_t (B : ab_B) (i : Nat) : ab_fa B (2 * i + 1) = B.2.2.2.1 i := by
  unfold ab_fa
  rw [if_neg (by omega), if_pos (by omega)]
  exact congrArg B.2.2.2.1 (by omega)
theorem ab_fa_v (B : ab_B) (i : Nat) : ab_fa B (2 * i + 2) = B.2.2.2.2 i := by
  unfold ab_fa
  rw [if_neg (by omega), if_neg (by omega)]
  exact congrArg B.2.2.2.2 (by omega)
theorem ab_s_txt {M pc i k : Nat} {tx : String} (hd : decode (ab_mb M) pc = .ok (.ldc i, 2)) (hx : ((ab_my M).cls, i, tx, k) ∈ ab_LT) : ab_Sn B M pc (ab_o_txt k (pc + 2)) := fun loc stk h => by
  refine ab_Sj.pure (fun h1 _ => ab_mem_c (ab_vs_z _ _) h1) (fun {p l e R s m args below meth c H locs cells slots Q g A μ ls} X At _ _ _ _ _ k9 => ?_)
  have hF := X.2.2.2.2.2.2.2.1
  unfold ab_F at hF
  have hR : vk_R (ab_my M).cls i tx (B.2.2.2.1 k) s := hF.2.2.2.2.2.2.2.2.2.2.1 ((ab_my M).cls, i, tx, k) hx
  refine va_ldcS X.1 X.2.1 X.2.2.2.1 hR hd (ab_W_stk ?_ k9)
  show Value.ref (ab_fa B (2 * k + 1)) :: _ = _
  rw [ab_fa_t]
theorem ab_s_txv {M pc i : Nat} (hd : decode (ab_mb M) pc = .ok (.getfield i, 3)) (hl : Cond.fieldLink (ab_my M).cls i "java/lang/String" "value" "[B" ∈ ab_TG) : ab_Sn B M pc (ab_o_txv 4 (pc + 3)) := fun loc stk h => by
  unfold ab_o_txv
  split
  · rename_i k r
    split
    · rename_i hk
      refine ab_Sj.pure (fun h1 _ => ab_mem_c (ab_vs_z _ _) (ab_mem_t h1)) (fun {p l e R s m args below meth c H locs cells slots Q g A μ ls} X At _ _ _ _ _ k9 => ?_)
      obtain ⟨i, rfl⟩ : ∃ i, k = 2 * i + 1 := ⟨k / 2, by omega⟩
      have hT := ((X.2.2.2.2.2.2.2.1.2.2.2.2.2.2.2.2.2.1 i (by omega)).1 0 (by omega)).2.2.1
      refine vk_getf (q := ab_fa B (2 * i + 1)) X.1 X.2.1 (by rw [ab_fa_t]; exact hT) At.2.2.2.2 X.2.2.2.1 (X.2.2.2.2.2.2.1 _ hl) (fun _ h => h) hd (ab_W_stk ?_ k9)
      show Value.ref (ab_fa B (2 * i + 1 + 1)) :: _ = _
      rw [show 2 * i + 1 + 1 = 2 * i + 2 by omega, ab_fa_v]
    · trivial
  · trivial
theorem ab_s_txc {M pc i : Nat} (hd : decode (ab_mb M) pc = .ok (.getfield i, 3)) (hl : Cond.fieldLink (ab_my M).cls i "java/lang/String" "coder" "B" ∈ ab_TG) : ab_Sn B M pc (ab_o_txc 4 (pc + 3)) := fun loc stk h => by
  unfold ab_o_txc
  split
  · rename_i k r
    split
    · rename_i hk
      refine ab_Sj.pure (fun h1 _ => ab_mem_c (ab_vs_i _ _) (ab_mem_t h1)) (fun {p l e R s m args below meth c H locs cells slots Q g A μ ls} X At _ _ _ _ _ k9 => ?_)
      obtain ⟨i, rfl⟩ : ∃ i, k = 2 * i + 1 := ⟨k / 2, by omega⟩
      have hT := ((X.2.2.2.2.2.2.2.1.2.2.2.2.2.2.2.2.2.1 i (by omega)).1 0 (by omega)).2.1
      exact vk_getf (q := ab_fa B (2 * i + 1)) X.1 X.2.1 (by rw [ab_fa_t]; exact hT) At.2.2.2.2 X.2.2.2.1 (X.2.2.2.2.2.2.1 _ hl) (fun _ h => h) hd k9
    · trivial
  · trivial
theorem ab_s_txn {M pc : Nat} (hd : decode (ab_mb M) pc = .ok (.arraylength, 1)) : ab_Sn B M pc (ab_o_txn 4 (pc + 1)) := fun loc stk h => by
  unfold ab_o_txn
  split
  · rename_i k r
    split
    · rename_i hk
      refine ab_Sj.pure (fun h1 _ => ab_mem_c (ab_vs_i _ _) (ab_mem_t h1)) (fun {p l e R s m args below meth c H locs cells slots Q g A μ ls} X At _ _ _ _ _ k9 => ?_)
      obtain ⟨i, rfl⟩ : ∃ i, k = 2 * i + 2 := ⟨(k - 2) / 2, by omega⟩
      have hT := ((X.2.2.2.2.2.2.2.1.2.2.2.2.2.2.2.2.2.1 i (by omega)).1 0 (by omega)).2.2.2
      have hi : ab_ln i = 1 := if_pos (by omega)
      rw [show ([ab_ln i] : List Nat).getD 0 0 = 1 from hi] at hT
      exact va_tlen (t := ab_fa B (2 * i + 2)) (N := 1) X.1 X.2.1 (by rw [ab_fa_v]; exact hT) At.2.2.2.2 rfl hd k9
    · trivial
  · trivial
theorem ab_cpy_upd {f : Nat → Int32} {g : Nat → Int32} {z : Int} {v : Int32} (h0 : 0 ≤ z) (h1 : z < 2147483648) (hv : f 0 = v) : va_cpy f g (Int32.ofInt 0).toNatClampNeg (Int32.ofInt z).toNatClampNeg (Int32.ofInt 1).toNatClampNeg = fun j => if j = z.toNat then v else g j := by
  rw [(ab_ix h0 h1).1, show (Int32.ofInt 0).toNatClampNeg = 0 by decide, show (Int32.ofInt 1).toNatClampNeg = 1 by decide]
  funext j
  unfold va_cpy
  by_cases e : j = z.toNat
  · subst e
    rw [if_pos (by omega), if_pos rfl, ← hv]
    congr 1
    omega
  · rw [if_neg (by omega), if_neg e]
theorem ab_tx_fit (i : Nat) (hi : i < 4) : fits .byte (.int (Int32.ofInt (ab_tx i))) = true := by
  match i, hi with
  | 0, _ => decide
  | 1, _ => decide
  | 2, _ => decide
  | 3, _ => decide
theorem ab_arr_si3 {μ : Nat → Nat} {g : ab_G} {h : ab_H} {a n : Nat} {z v : Int} (h0 : 0 ≤ z) : (Sum.inl (g.2.2.2.2, n, .inl (fun j : Nat => if j = z.toNat then Int32.ofInt v else Int32.ofInt (ab_gi h a j))) : va_E) = ab_en B g μ (ab_si h a z v) a (3, n) := by
  show Sum.inl _ = Sum.inl _
  congr 4
  funext j
  rw [ab_gi_si]
  by_cases e : j = z.toNat
  · subst e
    rw [if_pos rfl, if_pos ⟨rfl, Int.toNat_of_nonneg h0⟩]
  · rw [if_neg e, if_neg (fun q => e (by have := q.2; omega))]
/-- an instruction that changes one cell: entry e of the cell a -/
theorem ab_Sj.cellR {M pc pc' a : Nat} {loc : ab_M} {stk stk' : List ab_V} {h h' : ab_H} {s0 : Nat × Nat}
    (hsh : ab_sh h' = ab_sh h) (hkc : ab_kc h' = ab_kc h) (hks : ab_ks h' = ab_ks h) (hs : (ab_sh h)[a]? = some s0) (ho : ∀ (g : ab_G) (μ : Nat → Nat) (j : Nat) (s' : Nat × Nat), j ≠ a → ab_en B g μ h' j s' = ab_en B g μ h j s')
    (hok : ab_ok h → (∀ v ∈ stk, ab_vs (ab_n h) v) → ab_ok h')
    (hv : ∀ v ∈ stk', v ∈ stk)
    (hw : ∀ {p : Program} {l : Launch} {e : Env} {R : Room} {s : State} {m : MethodId} {args : Array Value} {below : List Frame} {meth : Method} {c : Code} {H : Heap} {locs : List Loc} {cells slots : Nat} {Q : State → Prop} {g : ab_G} {A : Nat → Prop} {μ : Nat → Nat} {ls : Array Slot},
      ab_X B M g A p l s m args meth c → ab_At B M g A μ h H ls loc stk s locs → 10 ≤ R.frames → 200 ≤ R.locals → (∀ (H1 : Heap) (locs1 : List Loc), va_P g.1 ab_cl ((ab_ws B g μ h).set a (μ a, ab_en B g μ h' a s0)) H1 → va_D A ((ab_ws B g μ h).set a (μ a, ab_en B g μ h' a s0)) → va_S A s.heap H1 locs1 → W p l e R s m args below meth c H1 locs1 cells slots Q (F0 m pc' ls (stk'.map (ab_cv B μ)))) → W p l e R s m args below meth c H locs cells slots Q (F0 m pc ls (stk.map (ab_cv B μ)))) :
    ab_Sj B M pc loc stk h pc' loc stk' h' := by
  have hn : ab_n h' = ab_n h := by unfold ab_n; rw [hsh]
  refine ⟨Nat.le_of_eq hkc.symm, Nat.le_of_eq hks.symm, Nat.le_of_eq hn.symm, ?_⟩
  intro p l e R s m args below meth c H locs cells slots Q g A μ ls b1 b2 X At h1 h2 h3 h4 h5 h6 h7 k
  refine hw X At h5 h6 (fun H1 locs1 hP hD hS => ?_)
  rw [ab_ws_set (h' := h') hsh hs rfl (ho g μ)] at hP hD
  exact k μ H1 locs1 cells slots ls (fun _ _ => rfl) ⟨⟨hP, hD, hok At.1.2.2 At.2.2.1⟩, At.2.1, fun v hv' => by rw [hn]; exact At.2.2.1 v (hv v hv'), fun v hv' => by rw [hn]; exact At.2.2.2.1 v hv', hS⟩ (by rw [hkc]; exact h1) (by rw [hks]; exact h2)
theorem ab_s_cpt {M pc i : Nat} (hd : decode (ab_mb M) pc = .ok (.invokestatic i, 3)) (h1 : Cond.methodLink (ab_my M).cls i arraycopyName ∈ ab_TG) (h2 : Cond.native arraycopyName ∈ ab_TG) (h3 : Cond.static arraycopyName ∈ ab_TG) (h4 : Cond.initialized "java/lang/System" ∈ ab_TG) : ab_Sn B M pc (ab_o_cpt 4 (pc + 3)) := fun loc stk h => by
  unfold ab_o_cpt
  split
  · rename_i n dp a sp k r
    split
    · rename_i t m hs
      split
      · rename_i hc
        obtain ⟨rfl, rfl, rfl, d0, d1, hk, hsum⟩ := hc
        refine ab_Sj.cellR (a := a) rfl rfl rfl hs (fun g μ j s' hj => ab_si_en j s' hj) (fun hk _ => hk) (fun v hv => List.mem_cons_of_mem _ (List.mem_cons_of_mem _ (List.mem_cons_of_mem _ (List.mem_cons_of_mem _ (List.mem_cons_of_mem _ hv))))) (fun {p l e R s m' args below meth c H locs cells slots Q g A μ ls} X At w1 w2 k9 => ?_)
        have hn : m < 2147483648 := At.1.2.2.2 a _ hs
        obtain ⟨i, rfl⟩ : ∃ i, k = 2 * i + 2 := ⟨(k - 2) / 2, by omega⟩
        have hT := ((X.2.2.2.2.2.2.2.1.2.2.2.2.2.2.2.2.2.1 i (by omega)).1 0 (by omega)).2.2.2
        have hi : ab_ln i = 1 := if_pos (by omega)
        rw [show ([ab_ln i] : List Nat).getD 0 0 = 1 from hi] at hT
        have e9 : (2 * i + 2 - 2) / 2 = i := by omega
        rw [e9] at k9
        have hml : c.maxLocals = ls.size := X.2.2.1.trans At.2.1.1.symm
        refine vk_copyt X.1 X.2.1 hml X.2.2.2.1 (X.2.2.2.2.2.2.1 _ h1) (X.2.2.2.2.2.2.1 _ h2) (X.2.2.2.2.2.2.1 _ h3) (X.2.2.2.2.2.2.1 _ h4) X.2.2.2.2.2.2.2.1.1 At.1.1 At.1.2.1 At.2.2.2.2 (b0 := ab_fa B (2 * i + 2)) (n0 := 1) (f := fun j => (([[Int32.ofInt (ab_tx i)]] : List (List Int32)).getD 0 []).getD j 0) (by rw [ab_fa_v]; exact hT) a 3 (ab_ws_at hs) rfl (sp := Int32.ofInt 0) (dp := Int32.ofInt dp) (n := Int32.ofInt 1) (by decide) (ab_ix d0 (by omega)).2 (by decide) (by decide) (by rw [(ab_ix d0 (by omega)).1, show (Int32.ofInt 1).toNatClampNeg = 1 by decide]; omega) (fun j hj => ?_) (by omega) (by rw [ab_sum_cat]; have : nativeFrameWords "java/lang/System" "arraycopy" 5 ≤ 100 := (by decide +kernel); omega) hd (fun H1 locs1 hP hD hS => k9 H1 locs1 ?_ ?_ hS)
        · have hj0 : j = 0 := by have : (Int32.ofInt 1).toNatClampNeg = 1 := (by decide); omega
          subst hj0
          exact ab_tx_fit i (by omega)
        · rw [ab_cpy_upd (v := Int32.ofInt (ab_tx i)) d0 (by omega) rfl, ab_arr_si3 (B := B) (μ := μ) d0] at hP; exact hP
        · rw [ab_cpy_upd (v := Int32.ofInt (ab_tx i)) d0 (by omega) rfl, ab_arr_si3 (B := B) (μ := μ) d0] at hD; exact hD
      · trivial
    · trivial
  · trivial
theorem ab_cpy_fil {f g : Nat → Int} {n : Int} (h0 : 0 ≤ n) (h1 : n < 2147483648) : va_cpy (fun j => Int32.ofInt (f j)) (fun j => Int32.ofInt (g j)) (Int32.ofInt 0).toNatClampNeg (Int32.ofInt 0).toNatClampNeg (Int32.ofInt n).toNatClampNeg = fun j : Nat => if j < n.toNat then Int32.ofInt (f j) else Int32.ofInt (g j) := by
  rw [(ab_ix h0 h1).1, show (Int32.ofInt 0).toNatClampNeg = 0 by decide]
  funext j
  unfold va_cpy
  by_cases e : j < n.toNat
  · rw [if_pos (by omega), if_pos e]
    simp
  · rw [if_neg (by omega), if_neg e]
theorem ab_fit_y {v : Int} (h1 : -128 ≤ v) (h2 : v ≤ 127) : fits .byte (.int (Int32.ofInt v)) = true := by
  have e : v = (((v + 128).toNat : Nat) : Int) - 128 := by omega
  have hl : (v + 128).toNat < 256 := by omega
  rw [e]
  generalize (v + 128).toNat = n at hl ⊢
  revert n
  decide +kernel
theorem ab_nar_y {v : Int} (h1 : -128 ≤ v) (h2 : v ≤ 127) : vp_nar .byte (Int32.ofInt v) = Int32.ofInt v := by
  have e : v = (((v + 128).toNat : Nat) : Int) - 128 := by omega
  have hl : (v + 128).toNat < 256 := by omega
  rw [e]
  generalize (v + 128).toNat = n at hl ⊢
  revert n
  decide +kernel
theorem ab_s_cpb {M pc i : Nat} (hd : decode (ab_mb M) pc = .ok (.invokestatic i, 3)) (h1 : Cond.methodLink (ab_my M).cls i arraycopyName ∈ ab_TG) (h2 : Cond.native arraycopyName ∈ ab_TG) (h3 : Cond.static arraycopyName ∈ ab_TG) (h4 : Cond.initialized "java/lang/System" ∈ ab_TG) : ab_Sn B M pc (ab_o_cpb (pc + 3)) := fun loc stk h => by
  unfold ab_o_cpb
  split
  · rename_i n dp a sp b r
    split
    · rename_i t m t' m' hs
      split
      · rename_i hc
        obtain ⟨rfl, rfl, hab, rfl, rfl, n0, n1, n2, hall, hsum⟩ := hc
        unfold ab_bth at hs
        obtain ⟨sa, hsa, hs2⟩ := Option.bind_eq_some_iff.mp hs
        obtain ⟨sb, hsb, hs3⟩ := Option.map_eq_some_iff.mp hs2
        cases hs3
        refine ab_Sj.cellR (a := a) rfl rfl rfl hsa (fun g μ j s' hj => ab_fil_en j s' hj) (fun hk _ => hk) (fun v hv => List.mem_cons_of_mem _ (List.mem_cons_of_mem _ (List.mem_cons_of_mem _ (List.mem_cons_of_mem _ (List.mem_cons_of_mem _ hv))))) (fun {p l e R s m9 args below meth c H locs cells slots Q g A μ ls} X At w1 w2 k9 => ?_)
        have hm : m < 2147483648 := At.1.2.2.2 a _ hsa
        have hml : c.maxLocals = ls.size := X.2.2.1.trans At.2.1.1.symm
        have en : (Int32.ofInt n).toNatClampNeg = n.toNat := (ab_ix n0 (by omega)).1
        have e0 : (Int32.ofInt 0).toNatClampNeg = 0 := by decide
        have he : (Sum.inl (g.2.2.2.2, m, .inl (fun j : Nat => if j < n.toNat then Int32.ofInt (ab_gi h b j) else Int32.ofInt (ab_gi h a j))) : va_E) = ab_en B g μ (ab_fil h a (fun i => if 0 ≤ i ∧ i < n then ab_gi h b i else ab_gi h a i)) a (3, m) := by
          show Sum.inl _ = Sum.inl _
          congr 4
          funext j
          rw [ab_gi_fil, if_pos rfl]
          by_cases e : j < n.toNat
          · rw [if_pos e, if_pos (by omega)]
          · rw [if_neg e, if_neg (by omega)]
        refine va_copyi (ty := .byte) X.1 X.2.1 hml X.2.2.2.1 (X.2.2.2.2.2.2.1 _ h1) (X.2.2.2.2.2.2.1 _ h2) (X.2.2.2.2.2.2.1 _ h3) (X.2.2.2.2.2.2.1 _ h4) X.2.2.2.2.2.2.2.1.1 At.1.1 At.1.2.1 At.2.2.2.2 b a 3 3 (ab_ws_at hsb) (ab_ws_at hsa) rfl rfl rfl (sp := Int32.ofInt 0) (dp := Int32.ofInt 0) (n := Int32.ofInt n) (by decide) (by decide) (ab_ix n0 (by omega)).2 (by rw [en, e0]; omega) (by rw [en, e0]; omega) (fun j hj => ?_) (by omega) (by rw [ab_sum_cat]; have : nativeFrameWords "java/lang/System" "arraycopy" 5 ≤ 100 := (by decide +kernel); omega) hd (fun H1 locs1 hP hD hS => k9 H1 locs1 ?_ ?_ hS)
        · rw [en] at hj
          rw [e0, Nat.zero_add]
          have := of_decide_eq_true (List.all_eq_true.mp hall j (List.mem_range.mpr hj))
          exact ab_fit_y this.1 this.2
        · rw [ab_cpy_fil n0 (by omega), he] at hP; exact hP
        · rw [ab_cpy_fil n0 (by omega), he] at hD; exact hD
      · trivial
    · trivial
  · trivial
theorem ab_s_bastore3 {M pc : Nat} (hd : decode (ab_mb M) pc = .ok (.bastore, 1)) : ab_Sn B M pc (ab_o_xst 3 (pc + 1)) := fun loc stk h => by
  unfold ab_o_xst
  split
  · rename_i v z a r
    split
    · rename_i t' n hs
      split
      · rename_i hc
        obtain ⟨rfl, h0, h1, -, hy⟩ := hc
        refine ab_Sj.cell (a := a) rfl rfl rfl hs (fun g μ j s' hj => ab_si_en j s' hj) (fun hk _ => hk) (fun v hv => List.mem_cons_of_mem _ (List.mem_cons_of_mem _ (List.mem_cons_of_mem _ hv))) (fun {p l e R s m args below meth c H locs cells slots Q g A μ ls} X At k9 => ?_)
        have hn : n < 2147483648 := At.1.2.2.2 a _ hs
        have e9 : upd (fun j : Nat => Int32.ofInt (ab_gi h a j)) (Int32.ofInt z).toNatClampNeg (vp_nar .byte (Int32.ofInt v)) = fun j : Nat => if j = z.toNat then Int32.ofInt v else Int32.ofInt (ab_gi h a j) := by
          funext j
          rw [(ab_ix h0 (by omega)).1, ab_nar_y (hy rfl).1 (hy rfl).2]
          simp [upd]
        refine va_bast X.1 X.2.1 X.2.2.2.2.2.2.2.1.1 At.1.1 At.1.2.1 At.2.2.2.2 a 3 (ab_ws_at hs) rfl (ab_in h0 h1 hn) hd (fun H1 locs1 hP hD hS => k9 H1 locs1 ?_ ?_ hS)
        · rw [e9, ab_arr_si3 (B := B) (μ := μ) h0] at hP; exact hP
        · rw [e9, ab_arr_si3 (B := B) (μ := μ) h0] at hD; exact hD
      · trivial
    · trivial
  · trivial
/-- String.COMPACT_STRINGS -/
theorem ab_s_cmp {M pc i : Nat} (hd : decode (ab_mb M) pc = .ok (.getstatic i, 3)) (hl : Cond.fieldLink (ab_my M).cls i "java/lang/String" "COMPACT_STRINGS" "Z" ∈ ab_TG) : ab_Sn B M pc (ab_o_const 1 (pc + 3)) := fun loc stk h =>
  ab_Sj.pure (fun h1 _ => ab_mem_c (ab_vs_i _ _) h1) (fun {p l e R s m args below meth c H locs cells slots Q g A μ ls} X At _ _ _ _ _ k9 => va_gets X.1 X.2.1 X.2.2.2.2.2.2.2.1.2.2.2.2.2.2.2.2.2.2.2.1 At.2.2.2.2 X.2.2.2.1 (X.2.2.2.2.2.2.1 _ hl) (fun _ h => h) hd k9)
end
