set_option linter.all false
/-! THE CLAIM OUT OF ONE WALK OF THE LAW'S BODY. Your part is whole_start (and what it stands on); all else here is the same for every law, but numbers. -/
def R_law : String := "StaggershelfLaw"
def lw_P (b : Addr) (xs : List Int32) (args : Array Value) (s : State) : Prop := args = #[.ref b] ∧ s.IntsAt b xs ∧ xs.length ≤ 2560 ∧ (Jvm.Cond.and given_1 narrow_1).before args s = true
def lw_Q (_ : Array Value) (s : State) (o : Outcome) (t : State) : Prop := o = .returned (some (.int 1)) ∧ Framed s o t [] 601024 7293033
def lw_Z (below : List Frame) (a : Array Value) (s : State) : State → Prop := fun t => ∃ o, t.status = .running ∧ Ended t below o ∧ lw_Q a s o t
/-- the law's own end, with 1 on the stack, nothing written that was there before, its room as the claim has it -/
theorem lw_ret {p : Program} {l : Launch} {e : Env} {s : State} {m : MethodId} {below : List Frame} {meth : Method} {c : Code} {b : Nat} (hx : p.tables.exec = Jvm.exec) (hb : c.code = code) (hr : meth.sig.returnType = ret) (hlocks : meth.locks = false) {pc : Nat} {H : Heap} {ls : Array Slot} (hdg : decode code pc = .ok (.ireturn, 1)) : W p l e room_1 s m #[Value.ref b] below meth c H [] 601024 7293033 (lw_Z below #[Value.ref b] s) (F0 m pc ls [.int 1]) := by
  intro T hT X
  obtain ⟨fs, hret, hrun, hended, hW, hframe⟩ := X.leave (v := some (.int 1)) (hlocks := hlocks) (fun h => by rw [hr] at h; cases h)
  have hmeth' : T.vm.method? m = some meth := X.method'
  refine ⟨T.setFrames fs, ?_, .returned (some (.int 1)), hrun, hended, rfl, ⟨_, rfl⟩, hW, hframe⟩
  jvm_step X.here [X.here.top, hx, hb, hdg, hmeth', hr, ret, narrow_b1]
  (try refine ⟨rfl, ?_⟩); (try refine ⟨rfl, ?_⟩)
  first | (intro acts; rw [hret _ acts rfl rfl rfl]) | rw [hret _ _ rfl rfl rfl]
  exact Steps.refl _
/-- what holds at the law's entry: the machine, the code, the tables' words (any of lw_tbl by 'hts w (by decide +kernel)'), the script of L ints xs at the cell b, what the Statement gives of the start (any of its parts by flat_of_before) -/
def lw_At (p : Program) (s : State) (m : MethodId) (meth : Method) (c : Code) (b L : Nat) (xs : Nat → Int32) : Prop :=
  p.tables.exec = Jvm.exec ∧ c.code = code ∧ meth.sig.returnType = ret ∧ c.maxLocals = 7 ∧ s.vm.findClass R_law = some m.cls ∧ (∀ w ∈ lw_tbl, w.before #[Value.ref b] s = true) ∧ va_X b L xs s s.heap ∧ b < s.heap.size ∧ meth.locks = false ∧ (Jvm.Cond.and given_1 narrow_1).before #[Value.ref b] s = true ∧ meth.name = x.name ∧ c.exceptionTable.toList = []
-- ===== YOUR PART BEGINS =====
/-- YOUR PART: from the entry, for every script of at most 2560 ints, the law comes to its end with true ('hflags': the launch's flags, for a law that throws: no stack traces) -/
theorem whole_start {p : Program} {e : Env} {s : State} {m : MethodId} {below : List Frame} {meth : Method} {c : Code} (l : Launch) (hflags : l.flags = flags0) {b L : Nat} {xs : Nat → Int32} (hL : L ≤ 2560) (C0 : lw_At p s m meth c b L xs) : W p l e room_1 s m #[Value.ref b] below meth c s.heap [] 0 0 (lw_Z below #[Value.ref b] s) (entryFrame m ([Value.ref b] : List Value).toArray 7) := by
  obtain ⟨hx, hb, hr, hml, hown, hts, hX, hbl, hlocks, hgv, hnm, htb⟩ := C0
  have hf0 : ∀ w ∈ tables_1, w.before #[Value.ref b] s = true := fun w hw => hts w (List.mem_append_right _ hw)
  have hs := flat_of_before _ hgv
  have hA : ∀ q : Nat, s.heap.size ≤ q → (fun q : Nat => s.heap.size ≤ q) q := fun _ h => h
  have hnA : ∀ a : Nat, a < s.heap.size → ¬ (fun q : Nat => s.heap.size ≤ q) a := fun a h => Nat.not_le.mpr h
  have htg : ∀ w ∈ ab_TG, w.before #[Value.ref b] s = true := fun w hw => (List.mem_append.mp (List.mem_filter.mp hw).1).elim (fun q => ab_xs_ok hf0 w q) (fun q => hts w q)
  obtain ⟨c0, i0, k0⟩ := u_known (C := RX0) (T := TX0) (N := 7) (n := 7) htg ab_clw0 (hf0 (.instantiable RX0 7) (ab_TL _ (List.mem_of_getElem? (i := 0) rfl)))
  obtain ⟨c1, i1, k1⟩ := u_known (C := RX1) (T := TX1) (N := 15) (n := 15) htg ab_clw1 (hf0 (.instantiable RX1 15) (ab_TL _ (List.mem_of_getElem? (i := 1) rfl)))
  obtain ⟨c2, i2, k2⟩ := u_known (C := RX2) (T := TX2) (N := 13) (n := 13) htg ab_clw2 (hf0 (.instantiable RX2 13) (ab_TL _ (List.mem_of_getElem? (i := 2) rfl)))
  obtain ⟨c3, i3, k3⟩ := u_known (C := RX3) (T := TX3) (N := 2) (n := 2) htg ab_clw3 (hf0 (.instantiable RX3 2) (ab_TL _ (List.mem_of_getElem? (i := 3) rfl)))
  obtain ⟨c4, i4, k4⟩ := u_known (C := RX4) (T := TX4) (N := 22) (n := 22) htg ab_clw4 (hf0 (.instantiable RX4 22) (ab_TL _ (List.mem_of_getElem? (i := 4) rfl)))
  obtain ⟨c5, i5, k5⟩ := u_known (C := RJ4) (T := TJ4) (N := 4) (n := 4) htg ab_clw5 (hf0 (.instantiable RJ4 4) (ab_TL _ (List.mem_of_getElem? (i := 5) rfl)))
  obtain ⟨c6, i6, k6⟩ := u_known (C := RJ0) (T := TJ0) (N := 4) (n := 4) htg ab_clw6 (hf0 (.instantiable RJ0 4) (ab_TL _ (List.mem_of_getElem? (i := 6) rfl)))
  obtain ⟨cI, kI, compI, hI1, hI2, hI3⟩ := Cond.arrayClass_spec (hf0 (.arrayClass .int) (ab_TL _ (List.mem_of_getElem? (i := 7) rfl)))
  obtain ⟨cZ, kZ, compZ, hZ1, hZ2, hZ3⟩ := Cond.arrayClass_spec (hf0 (.arrayClass .boolean) (ab_TL _ (List.mem_of_getElem? (i := 8) rfl)))
  obtain ⟨cY, kY, compY, hY1, hY2, hY3⟩ := Cond.arrayClass_spec (hf0 (.arrayClass .byte) (ab_TL _ (List.mem_of_getElem? (i := 9) rfl)))
  have hO : va_AOA .int s := (hf0 (.arrayOver (.array .int)) (ab_TL _ (List.mem_of_getElem? (i := 10) rfl)) : (Cond.arrayOver (.array .int)).before #[Value.ref b] s = true)
  obtain ⟨compQ, cQ, kQ, hQ1, -, hQ2, hQ3, hQ4⟩ := arrayOverA_spec (show (Cond.arrayOver (.array .int)).holds #[] s none s [] = true from hO)
  obtain ⟨t0, v0, S0, E0⟩ := ab_txt (args := #[Value.ref b]) (s := s) (A := fun q : Nat => s.heap.size ≤ q) (k := 216) (n := ab_ln 0) (z := Int32.ofInt (ab_tx 0)) (by decide) (hs (.exactly (.string "StaggershelfModel" 216) "java/lang/String") ab_FL1) (hs (.eq (.field (.string "StaggershelfModel" 216) "java/lang/String" "coder" "B") (.int 0)) ab_FL2) (hs (.arrayOf (.field (.string "StaggershelfModel" 216) "java/lang/String" "value" "[B") .byte) ab_FL3) (hs (.eq (.length (.field (.string "StaggershelfModel" 216) "java/lang/String" "value" "[B")) (.int (Int32.ofNat (ab_ln 0)))) ab_FL4) (fun _ => hs (.eq (.elem (.field (.string "StaggershelfModel" 216) "java/lang/String" "value" "[B") (.int (Int32.ofNat 0))) (.int (Int32.ofInt (ab_tx 0)))) ab_FL0) hnA
  obtain ⟨t1, v1, S1, E1⟩ := ab_txt (args := #[Value.ref b]) (s := s) (A := fun q : Nat => s.heap.size ≤ q) (k := 218) (n := ab_ln 1) (z := Int32.ofInt (ab_tx 1)) (by decide) (hs (.exactly (.string "StaggershelfModel" 218) "java/lang/String") ab_FL6) (hs (.eq (.field (.string "StaggershelfModel" 218) "java/lang/String" "coder" "B") (.int 0)) ab_FL7) (hs (.arrayOf (.field (.string "StaggershelfModel" 218) "java/lang/String" "value" "[B") .byte) ab_FL8) (hs (.eq (.length (.field (.string "StaggershelfModel" 218) "java/lang/String" "value" "[B")) (.int (Int32.ofNat (ab_ln 1)))) ab_FL9) (fun _ => hs (.eq (.elem (.field (.string "StaggershelfModel" 218) "java/lang/String" "value" "[B") (.int (Int32.ofNat 0))) (.int (Int32.ofInt (ab_tx 1)))) ab_FL5) hnA
  obtain ⟨t2, v2, S2, E2⟩ := ab_txt (args := #[Value.ref b]) (s := s) (A := fun q : Nat => s.heap.size ≤ q) (k := 220) (n := ab_ln 2) (z := Int32.ofInt (ab_tx 2)) (by decide) (hs (.exactly (.string "StaggershelfModel" 220) "java/lang/String") ab_FL11) (hs (.eq (.field (.string "StaggershelfModel" 220) "java/lang/String" "coder" "B") (.int 0)) ab_FL12) (hs (.arrayOf (.field (.string "StaggershelfModel" 220) "java/lang/String" "value" "[B") .byte) ab_FL13) (hs (.eq (.length (.field (.string "StaggershelfModel" 220) "java/lang/String" "value" "[B")) (.int (Int32.ofNat (ab_ln 2)))) ab_FL14) (fun _ => hs (.eq (.elem (.field (.string "StaggershelfModel" 220) "java/lang/String" "value" "[B") (.int (Int32.ofNat 0))) (.int (Int32.ofInt (ab_tx 2)))) ab_FL10) hnA
  obtain ⟨t3, v3, S3, E3⟩ := ab_txt (args := #[Value.ref b]) (s := s) (A := fun q : Nat => s.heap.size ≤ q) (k := 222) (n := ab_ln 3) (z := Int32.ofInt (ab_tx 3)) (by decide) (hs (.exactly (.string "StaggershelfModel" 222) "java/lang/String") ab_FL16) (hs (.eq (.field (.string "StaggershelfModel" 222) "java/lang/String" "coder" "B") (.int 0)) ab_FL17) (hs (.arrayOf (.field (.string "StaggershelfModel" 222) "java/lang/String" "value" "[B") .byte) ab_FL18) (hs (.eq (.length (.field (.string "StaggershelfModel" 222) "java/lang/String" "value" "[B")) (.int (Int32.ofNat (ab_ln 3)))) ab_FL19) (fun _ => hs (.eq (.elem (.field (.string "StaggershelfModel" 222) "java/lang/String" "value" "[B") (.int (Int32.ofNat 0))) (.int (Int32.ofInt (ab_tx 3)))) ab_FL15) hnA
  obtain ⟨t4, v4, S4, E4⟩ := ab_txt (args := #[Value.ref b]) (s := s) (A := fun q : Nat => s.heap.size ≤ q) (k := 211) (n := ab_ln 4) (z := Int32.ofInt (ab_tx 4)) (by decide) (hs (.exactly (.string "StaggershelfModel" 211) "java/lang/String") ab_FL20) (hs (.eq (.field (.string "StaggershelfModel" 211) "java/lang/String" "coder" "B") (.int 0)) ab_FL21) (hs (.arrayOf (.field (.string "StaggershelfModel" 211) "java/lang/String" "value" "[B") .byte) ab_FL22) (hs (.eq (.length (.field (.string "StaggershelfModel" 211) "java/lang/String" "value" "[B")) (.int (Int32.ofNat (ab_ln 4)))) ab_FL23) (fun q => by exact absurd q (by decide)) hnA
  have hNc : ∀ E E' : Nat, 1 ≤ E → E ≤ 3 → 1 ≤ E' → E' ≤ 3 → E ≠ E' → va_Nc (ab_ex E) (ab_ex E') s := fun E E' a1 a2 b1 b2 hne => by
    have h1 : E = 1 ∨ E = 2 ∨ E = 3 := by omega
    have h2 : E' = 1 ∨ E' = 2 ∨ E' = 3 := by omega
    rcases h1 with rfl | rfl | rfl <;> rcases h2 with rfl | rfl | rfl
    · omega
    · exact va_Nc.of (hs (.not (.castable (ab_ex 1) (ab_ex 2))) ab_FL24)
    · exact va_Nc.of (hs (.not (.castable (ab_ex 1) (ab_ex 3))) ab_FL25)
    · exact va_Nc.of (hs (.not (.castable (ab_ex 2) (ab_ex 1))) ab_FL26)
    · omega
    · exact va_Nc.of (hs (.not (.castable (ab_ex 2) (ab_ex 3))) ab_FL27)
    · exact va_Nc.of (hs (.not (.castable (ab_ex 3) (ab_ex 1))) ab_FL28)
    · exact va_Nc.of (hs (.not (.castable (ab_ex 3) (ab_ex 2))) ab_FL29)
    · omega
  obtain ⟨BB, hBB⟩ : ∃ BB : ab_B, BB = (b, L, xs, (fun i => if i = 0 then t0 else if i = 1 then t1 else if i = 2 then t2 else if i = 3 then t3 else t4), (fun i => if i = 0 then v0 else if i = 1 then v1 else if i = 2 then v2 else if i = 3 then v3 else v4)) := ⟨_, rfl⟩
  obtain ⟨h', hE, hkc, hks⟩ := mlaw (B := BB) (dd := 0) (by rw [hBB]; exact hL)
  unfold ab_E at hE
  obtain ⟨n, hrun⟩ := ab_of_ev (ab_st BB) hE
  have hF : ab_F BB ((fun k => if k = 0 then c0 else if k = 1 then c1 else if k = 2 then c2 else if k = 3 then c3 else if k = 4 then c4 else if k = 5 then c5 else c6, fun k => if k = 0 then i0 else if k = 1 then i1 else if k = 2 then i2 else if k = 3 then i3 else if k = 4 then i4 else if k = 5 then i5 else i6), cI, cZ, cQ, cY) (fun q : Nat => s.heap.size ≤ q) s := by
    refine ⟨⟨fun k q hq => ?_, fun k q hq => ?_⟩, hA, fun w hw => va_Nw.of (ab_TN_on hw) (hf0 w (List.mem_filter.mp hw).1), fun y hy => ab_strR (hf0 _ (ab_TS_in y hy)), ?_, ?_, ?_, ?_, ?_, fun i hi => ?_, fun y hy => ?_, ?_, hNc, hO⟩
    · match k, hq with
      | 0, hq => cases hq; exact k0
      | 1, hq => cases hq; exact k1
      | 2, hq => cases hq; exact k2
      | 3, hq => cases hq; exact k3
      | 4, hq => cases hq; exact k4
      | 5, hq => cases hq; exact k5
      | 6, hq => cases hq; exact k6
      | k + 7, hq => simp [ab_cl] at hq
    · match k, hq with
      | 0, hq => cases hq; exact ⟨fun n z => ⟨fun k h => (by cases h), kI, hI2, compI, hI3⟩, hI1⟩
      | 1, hq => cases hq; exact ⟨fun n z => ⟨fun k h => (by cases h), kZ, hZ2, compZ, hZ3⟩, hZ1⟩
      | 2, hq => cases hq; exact ⟨fun n z => ⟨fun k h => (by cases h), kQ, hQ2, compQ, hQ3⟩, hQ4⟩
      | 3, hq => cases hq; exact ⟨fun n z => ⟨fun k h => (by cases h), kY, hY2, compY, hY3⟩, hY1⟩
      | k + 4, hq => simp [ab_TY] at hq
    · exact vx_Zqof (hf0 _ (by decide +kernel)) (hf0 _ (by decide +kernel)) (hs _ (by decide +kernel)) hnA
    · exact vx_Zqof (hf0 _ (by decide +kernel)) (hf0 _ (by decide +kernel)) (hs _ (by decide +kernel)) hnA
    · rw [hBB]; exact Nat.not_le.mpr hbl
    · rw [hBB]; exact hbl
    · rw [hBB]; exact hX
    · rw [hBB]
      match i, hi with
      | 0, _ => exact S0
      | 1, _ => exact S1
      | 2, _ => exact S2
      | 3, _ => exact S3
      | 4, _ => exact S4
      | i + 5, hi => omega
    · have h1 := hf0 _ (ab_LT_in y hy)
      rw [hBB]
      simp only [ab_LT, List.mem_cons, List.not_mem_nil, or_false] at hy
      rcases hy with rfl | rfl | rfl | rfl | rfl
      · exact vk_R.of h1 E4
      · exact vk_R.of h1 E0
      · exact vk_R.of h1 E1
      · exact vk_R.of h1 E2
      · exact vk_R.of h1 E3
    · exact va_Zof (hf0 (.laysStatic "java/lang/String" "COMPACT_STRINGS" "Z") (ab_TL _ (List.mem_of_getElem? (i := 11) rfl))) (hf0 (.initialized "java/lang/String") (ab_TL _ (List.mem_of_getElem? (i := 12) rfl))) (va_eqt (hs (.eq (.static "java/lang/String" "COMPACT_STRINGS" "Z") (.int 1)) ab_FL30)) hnA
  have hX9 : ab_X BB 186 ((fun k => if k = 0 then c0 else if k = 1 then c1 else if k = 2 then c2 else if k = 3 then c3 else if k = 4 then c4 else if k = 5 then c5 else c6, fun k => if k = 0 then i0 else if k = 1 then i1 else if k = 2 then i2 else if k = 3 then i3 else if k = 4 then i4 else if k = 5 then i5 else i6), cI, cZ, cQ, cY) (fun q : Nat => s.heap.size ≤ q) p l s m #[Value.ref b] meth c :=
    ⟨hx, hb, hml, hown, hr, hlocks, htg, hF, by unfold Launch.stackTraces; rw [hflags]; decide +kernel, hnm, htb.trans rfl⟩
  have hE0 : ab_lh BB 7 (fun _ => 0) ((lg_sl ([Value.ref b]) ++ List.replicate (7 - (lg_sl ([Value.ref b])).length) Slot.unset).toArray) [some (.inr (.inr (.inr 0))), none, none, none, none, none, none] := by
    rw [hBB]
    exact ab_ent_lh (B := (b, L, xs, (fun i => if i = 0 then t0 else if i = 1 then t1 else if i = 2 then t2 else if i = 3 then t3 else t4), (fun i => if i = 0 then v0 else if i = 1 then v1 else if i = 2 then v2 else if i = 3 then v3 else v4))) (μ := fun _ => 0) (as := [.inr (.inr (.inr 0))]) (n := 7) (Nat.le_of_ble_eq_true rfl)
  rw [lg_entry_eq]
  have K := ab_sound (B := BB) (st := ab_st BB) ab_st_sound n 18 186 0 _ _ _ _ hrun (p := p) (l := l) (e := e) (R := { frames := 2048, cells := ab_kc h', slots := ab_ks h', locals := 84000 }) (s := s) (m := m) (args := #[Value.ref b]) (below := below) (meth := meth) (c := c) (H := s.heap) (locs := []) (cells := 0) (slots := 0) (A := fun q : Nat => s.heap.size ≤ q) (μ := fun _ => 0) (μ0 := fun _ => 0) (h0 := cs_h0) (b1 := 0) (b2 := 0) hX9 ⟨⟨fun k q h => by simp [ab_ws, cs_h0, ab_sh] at h, ⟨fun i j p q h => by simp [ab_ws, cs_h0, ab_sh] at h, fun k q h => by simp [ab_ws, cs_h0, ab_sh] at h⟩, ⟨fun c k j h => absurd (show (none : Option Nat) = some j from h) (by simp), fun i x h => absurd (show ([] : List (Nat × Nat))[i]? = some x from h) (by simp)⟩⟩, hE0, fun v hv => absurd hv List.not_mem_nil, fun v hv => (by
      rcases List.mem_cons.mp hv with q | q
      · cases q; exact ab_vs_z _ _
      · simp at q), va_S.rf⟩ rfl rfl rfl rfl (Nat.le_of_ble_eq_true rfl) (Nat.le_of_ble_eq_true rfl) (fun _ _ => rfl) (Nat.le_refl _)
  intro T hT XT
  obtain ⟨t, a1, o, b1, b2, b3⟩ := K T hT (ab_less XT (Nat.le_of_ble_eq_true rfl) (Nat.le_of_ble_eq_true rfl) (show ab_kc h' ≤ 601024 by omega) (show ab_ks h' ≤ 7293033 by omega))
  refine ⟨t, a1, o, b1, b2, ?_⟩
  rcases b3 with ⟨⟨v, μ', r1, r2, -⟩, Lc, ⟨r3, r4, r5⟩, hLc⟩ | ⟨q, -, E, ce, Lc, ⟨n9, μ', r1, -⟩, -⟩
  · cases r1
    exact ⟨r2, r3, r4, ab_old r5 hLc (show ab_kc h' ≤ 601024 by omega) (show ab_ks h' ≤ 7293033 by omega)⟩
  · cases r1
-- ===== YOUR PART ENDS =====
set_option maxHeartbeats 4000000 in
theorem lw_walk (l : Launch) (hflags : l.flags = flags0) (b : Addr) (xs : List Int32) : MetFree l x (headSpec (Jvm.Cond.code x code maxLocals ret :: tables_1) room_1) (lw_P b xs) (fun _ _ _ _ _ => True) lw_Q := by
  refine MetFree.of_bodyS (code := code) (maxLocals := maxLocals) (ret := ret) (by decide) ?_ ?_
  · intro args s m h hn
    obtain ⟨meth, c, h1, h2, h3, h4, h5, h6, -, -⟩ := Cond.code_spec hn (atoms_spec (ws := Jvm.Cond.code x code maxLocals ret :: tables_1) h _ List.mem_cons_self)
    exact ⟨meth, c, h1, h2, h3, h4, h5, h6⟩
  · intro p e s m args below meth c s₁ B hml0 hP _
    obtain ⟨rfl, hx, hbd, hgv⟩ := hP
    obtain ⟨scr, harrAt, hlist, hof, hsmall⟩ := hx
    obtain ⟨hcb, hkn, -, -⟩ := State.arrayAt?_spec harrAt
    have hown : s.vm.findClass R_law = some m.cls := findClass_of_methodNamed B.named
    have hts0 : ∀ c ∈ (Jvm.Cond.code x code maxLocals ret :: tables_1), c.before #[Value.ref b] s = true := atoms_spec (ws := Jvm.Cond.code x code maxLocals ret :: tables_1) B.pre
    have hts : ∀ w ∈ lw_tbl, w.before #[Value.ref b] s = true := k2_hts_sels lw_privs (fun w hw => hts0 w (List.mem_cons_of_mem _ hw)) lw_privs_ok
    have htb : c.exceptionTable.toList = [] := by
      obtain ⟨meth9, c9, h1, h2, -, -, -, -, h7, -⟩ := Cond.code_spec B.named (hts0 _ List.mem_cons_self)
      cases Option.some.inj (h1.symm.trans B.method)
      cases Option.some.inj (h2.symm.trans (Stand.of_body B).code)
      rw [Array.isEmpty_iff.mp h7]
    have hml : c.maxLocals = 7 := B.maxLocals_eq (hts0 _ List.mem_cons_self)
    have X₀ : Stand p l e room_1 s m #[Value.ref b] below meth c s₁ [] 0 0 := Stand.of_body B
    have hh0 : s₁.heap = s.heap := by rw [B.state]; rfl
    have hsz : scr.slots.size = xs.length := by rw [← Array.length_toList, hlist, List.length_map]
    have hval : ∀ j : Nat, j < xs.length → scr.slots[j]? = some (.int (xs.getD j 0)) := fun j hj => by
      rw [← Array.getElem?_toList, hlist]
      simp [hj]
    have hbl : b < s.heap.size := (Array.getElem?_eq_some_iff.mp hcb).1
    have hX : va_X b xs.length (fun j => xs.getD j 0) s s.heap := ⟨scr, hcb, hof, hkn, hsz, hval⟩
    have K : W p l e room_1 s m #[Value.ref b] below meth c s₁.heap [] 0 0 (lw_Z below #[Value.ref b] s) (entryFrame m ([Value.ref b] : List Value).toArray 7) := by
      rw [hh0]
      exact whole_start l hflags hbd ⟨B.exec, B.bytes, B.returns, hml, hown, hts, hX, hbl, B.notSynchronized, hgv, (name_of_methodNamed B.named B.method).1, htb⟩
    obtain ⟨t, a1, o, b1, b2, b3⟩ := K s₁ rfl X₀
    exact ⟨t, o, a1, b1, b2, b3⟩
theorem lw_pre_spec {args : Array Value} {s : State} (h : (Jvm.Cond.and given_1 narrow_1).before args s = true) (hr : rest_1_c.before args s = true) : ∃ (b : Addr) (xs : List Int32), lw_P b xs args s := by
  have hs := flat_of_before _ h
  have hq := flat_of_before _ hr
  have hc : (Cond.count 1).before args s = true := hs _ (by decide +kernel)
  have harr : (Cond.arrayOf (.arg 0) .int).before args s = true := hs _ (by decide +kernel)
  have hle : (Cond.le (.length (.arg 0)) (.int 2560)).before args s = true := hs _ (by decide +kernel)
  have hlen : (Cond.isInt (.length (.arg 0))).before args s = true := hq _ (by decide +kernel)
  have hall : (Cond.all (.arg 0) (.isInt (.elem (.arg 0) (.index 0)))).before args s = true := hq _ (by decide +kernel)
  obtain ⟨b, xs, hb, hx⟩ := State.ints_of_pre rfl harr hlen hall
  have hsm : xs.length < 2 ^ 31 := hx.choose_spec.2.2.2
  have hev : (Term.length (.arg 0)).eval args s none [] s = some (.int xs.length.toInt32) := hx.length_eval hb
  have hv := Cond.le_ints hev (show (Term.int 2560).eval args s none [] s = some (.int 2560) from rfl)
  have hd : xs.length.toInt32 ≤ 2560 := by
    simpa [Cond.before, Cond.holds, hv] using hle
  have hN : xs.length ≤ 2560 := (Int32.ofNat_le_ofNat hsm (by decide)).mp (show Int32.ofNat xs.length ≤ Int32.ofNat 2560 from hd)
  exact ⟨b, xs, Cond.one_arg hc (show args[0]? = some (.ref b) from hb), hx, hN, h⟩
theorem lw_comes (l : Launch) (hflags : l.flags = flags0) : Comes l x (Jvm.Cond.code x code maxLocals ret :: tables_1) room_1 (fun tb e args s => Calls_1 tb e args s ∧ rest_1 tb e args s ∧ Pre_1 tb e args s)
    (fun _ _ args s o t => lw_Q args s o t) := by
  intro p e ha hc hk s m args below hf hfit hheap happ hpre
  obtain ⟨b, xs, hP⟩ := lw_pre_spec hpre.2.2 hpre.2.1
  obtain ⟨k, o, h1, h2, h3, hQ⟩ := lw_walk l hflags b xs p e ha hc hk s m args below hf ((Spec.applies_iff_loose hf).mp happ).1 hP trivial
  exact ⟨k, o, h1, h2, h3, hQ⟩
theorem lw_frame {s t : State} {o : Outcome} {args : Array Value} (h : Framed s o t [] 601024 7293033) :
    Framed s o t (fieldLocs frame_1_writes args s ++ arrayLocs frame_1_arrays args s ++ staticLocs frame_1_statics s) 601024 7293033 := h
theorem lw_limb (L : Cond) (hL : ∀ (args : Array Value) (s t : State), L.after args s (.returned (some (.int 1))) t = true) :
    ArmFor flags0 classFile x code maxLocals ret World_1 tables_1 room_1 Calls_1 rest_1 Pre_1
      (fun tb e a s o t => postC L tb e a s o t ∧ Framed s o t (fieldLocs frame_1_writes a s ++ arrayLocs frame_1_arrays a s ++ staticLocs frame_1_statics s) 601024 7293033) := by
  intro l hflags _ _ p e ha hc hk s m args below hf hfit hheap happ hpre
  obtain ⟨k, o, h1, h2, h3, rfl, hF⟩ := lw_comes l hflags p e ha hc hk s m args below hf hfit hheap happ hpre
  exact ⟨k, _, h1, h2, h3, hL args s _, lw_frame hF⟩
