set_option linter.all false
/-! what the claim rests on -/
theorem ab_strR {own tx : String} {k : Nat} {args : Array Value} {s : State} (h : (Cond.stringRef own k tx).before args s = true) : ∃ sa, vk_R own k tx sa s := by
  have hcur : ∃ cur, s.vm.findClass own = some cur := by
    have h1 := h
    simp only [Cond.before, Cond.holds, Cond.value] at h1
    cases hc : s.vm.findClass own with
    | none => simp [hc] at h1
    | some cur => exact ⟨cur, rfl⟩
  obtain ⟨cur, hcur⟩ := hcur
  obtain ⟨k', cf, i, a, -, -, -, -, -, hev⟩ := Cond.stringRef_spec hcur h
  exact ⟨a, vk_R.of h hev⟩
/-- a text of one letter, or of none -/
theorem ab_txt {args : Array Value} {s : State} {A : Nat → Prop} {k n : Nat} {z : Int32} (hn : n ≤ 1) (h1 : (Cond.exactly (.string "StaggershelfModel" k) "java/lang/String").before args s = true) (h2 : (Cond.eq (.field (.string "StaggershelfModel" k) "java/lang/String" "coder" "B") (.int 0)).before args s = true)
    (h3 : (Cond.arrayOf (.field (.string "StaggershelfModel" k) "java/lang/String" "value" "[B") .byte).before args s = true) (h4 : (Cond.eq (.length (.field (.string "StaggershelfModel" k) "java/lang/String" "value" "[B")) (.int (Int32.ofNat n))).before args s = true)
    (h5 : n = 1 → (Cond.eq (.elem (.field (.string "StaggershelfModel" k) "java/lang/String" "value" "[B") (.int (Int32.ofNat 0))) (.int z)).before args s = true) (hA : ∀ a : Nat, a < s.heap.size → ¬ A a) :
    ∃ a v : Nat, vk_S 1 [n] [[z]] (fun _ => a) (fun _ => v) A s s.heap ∧ (Term.string "StaggershelfModel" k).eval args s none [] s = some (.ref a) := by
  obtain ⟨aK, aV, hS, hE⟩ := vk_Sof (args := args) (s := s) (N := 1) (tm := fun _ => .string "StaggershelfModel" k) (len := [n]) (byt := [[z]]) (A := A)
    (fun i hi => by obtain rfl : i = 0 := by omega
                    show n < 2 ^ 31
                    omega)
    (fun _ _ => h1) (fun _ _ => h2) (fun _ _ => h3)
    (fun i hi => by obtain rfl : i = 0 := by omega
                    exact h4)
    (fun i hi j hj => by
      obtain rfl : i = 0 := by omega
      have hj' : j < n := hj
      obtain rfl : j = 0 := by omega
      exact h5 (by omega))
    (fun i j hi hj hne => absurd (show i = j by omega) hne) hA
  refine ⟨aK 0, aV 0, ⟨fun i hi => ?_, fun i j hi hj _ => by omega⟩, hE 0 (by decide)⟩
  obtain rfl : i = 0 := by omega
  exact hS.1 0 (by decide)
/-- less room is room -/
theorem ab_less {p : Program} {l : Launch} {e : Env} {R R' : Room} {s : State} {m : MethodId} {args : Array Value} {below : List Frame} {meth : Method} {c : Code} {T : State} {locs : List Loc} {cells slots : Nat} (X : Stand p l e R s m args below meth c T locs cells slots) (hf : R'.frames ≤ R.frames) (hl : R'.locals ≤ R.locals) (hc : R'.cells ≤ R.cells) (hs : R'.slots ≤ R.slots) : Stand p l e R' s m args below meth c T locs cells slots := by
  refine ⟨X.admits, X.cas, X.clock, X.frames, ?_, X.hears, X.method, X.code, X.here, X.tail, X.warmed, X.limits, X.bytes, X.same⟩
  have h := X.room
  simp only [State.hasRoom, Bool.and_eq_true, decide_eq_true_eq] at h ⊢
  obtain ⟨⟨⟨⟨h1, h2, h3, h4, h5, h6⟩, h7⟩, h8⟩, h9⟩ := h
  exact ⟨⟨⟨⟨by omega, by omega, by omega, by omega, by omega, h6⟩, by omega⟩, by omega⟩, h9⟩
/-- nothing old is written -/
theorem ab_old {s s' : State} {L : List Loc} {k n k' n' : Nat} (h : s.sameButNew s' L k n) (hL : ∀ q ∈ L, s.heap.size ≤ q.base) (hk : k ≤ k') (hn : n ≤ n') : s.sameButNew s' [] k' n' := by
  obtain ⟨h1, h2, h3, h4, h5, h6⟩ := h.mono hk hn
  refine ⟨h1, h2, h3, h4, h5, fun a c hc => ?_⟩
  obtain ⟨c', e1, e2, e3, e4⟩ := h6 a c hc
  refine ⟨c', e1, e2, e3, fun i _ => e4 i (fun hm => ?_)⟩
  have := hL _ hm
  have hlt := (Array.getElem?_eq_some_iff.mp hc).1
  exact Nat.lt_irrefl _ (Nat.lt_of_lt_of_le hlt this)
