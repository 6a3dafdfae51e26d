set_option linter.all false
/-! THE TABLES of the abstract machine: classes, fields, methods by number -/
abbrev ab_cl : List vw_C := [(RX0, TX0, 7), (RX1, TX1, 15), (RX2, TX2, 13), (RX3, TX3, 2), (RX4, TX4, 22), (RJ4, TJ4, 4), (RJ0, TJ0, 4)]
def ab_ty : Nat → Nat → FieldType := fun c => match c with
  | 0 => tyX0
  | 1 => tyX1
  | 2 => tyX2
  | 3 => tyX3
  | 4 => tyX4
  | 5 => tyJ4
  | _ => tyJ0
def ab_fk (c k : Nat) : Nat := (([[0, 0, 1, 1, 1, 1, 1], [0, 0, 0, 1, 1, 1, 0, 1, 1, 1, 1, 1, 0, 1, 1], [1, 1, 0, 0, 0, 0, 0, 0, 0, 0, 0, 0, 0], [2, 1], [0, 0, 0, 0, 1, 1, 1, 1, 1, 1, 1, 0, 0, 0, 0, 0, 0, 0, 0, 0, 0, 1], [1, 0, 0, 0], [1, 0, 0, 0]] : List (List Nat)).getD c []).getD k 0
/-- private methods of a class above, called on an object below -/
def ab_pv : List MethodName := [⟨"java/lang/AbstractStringBuilder", "ensureCapacityInternal", "(I)V"⟩, ⟨"java/lang/AbstractStringBuilder", "putStringAt", "(ILjava/lang/String;)V"⟩, ⟨"java/lang/AbstractStringBuilder", "inflateIfNeededFor", "(Ljava/lang/String;)V"⟩]
def ab_xs : List Cond := ab_pv.map fun y => Cond.selects "java/lang/StringBuilder" y y
theorem ab_selects_above {y : MethodName} {C : String} {s : State} {args : Array Value} {n : Nat} (hy : y.cls ≠ "java/lang/invoke/MethodHandle" ∧ y.cls ≠ "java/lang/invoke/VarHandle")
    (hins : (Cond.instantiable C n).before args s = true) (hpriv : (Cond.privateMethod y).before args s = true) (hinst : (Cond.instanceMethod y).before args s = true) (hsame : (Cond.sameMethod y.cls y.cls y.name y.desc).before args s = true) :
    (Cond.selects C y y).before args s = true := by
  obtain ⟨c, k, hc, hk, -, -, -, -⟩ := Cond.instantiable_spec hins
  obtain ⟨cn, ck, r1, hcn, hck, hni, hf, hn1⟩ := Cond.sameMethod_found hsame
  obtain ⟨mk, methM, hnamed, hmethM, -, -⟩ := Cond.instanceMethod_spec hinst
  have hfound : s.methodFound? y.cls y.name y.desc = some mk := State.methodFound?_of_named hnamed hy
  have hcls : mk.cls = cn := Option.some.inj ((findClass_of_methodNamed hnamed).symm.trans hcn)
  have hsel : selectMethod {} s.vm c mk = .method mk := selectMethod_private hmethM (Cond.privateMethod_at hpriv mk methM hnamed hmethM)
  simp only [Cond.before, Cond.holds, Cond.value, hc, hfound, hnamed, hsel, hcls, hck]
  simp; exact hni
theorem ab_xs_ok {s : State} {args : Array Value} (hts : ∀ w ∈ tables_1, w.before args s = true) : ∀ w ∈ ab_xs, w.before args s = true := by
  intro w hw
  obtain ⟨y, hy, rfl⟩ := List.mem_map.mp hw
  have key : (y.cls ≠ "java/lang/invoke/MethodHandle" ∧ y.cls ≠ "java/lang/invoke/VarHandle") ∧ Cond.instantiable "java/lang/StringBuilder" 4 ∈ tables_1 ∧ Cond.privateMethod y ∈ tables_1 ∧ Cond.instanceMethod y ∈ tables_1 ∧ Cond.sameMethod y.cls y.cls y.name y.desc ∈ tables_1 := by
    simp only [ab_pv, List.mem_cons, List.not_mem_nil, or_false] at hy
    rcases hy with rfl | rfl | rfl
    · exact ⟨⟨by decide +kernel, by decide +kernel⟩, List.mem_of_getElem? (i := 756) (by decide +kernel), List.mem_of_getElem? (i := 798) (by decide +kernel), List.mem_of_getElem? (i := 799) (by decide +kernel), List.mem_of_getElem? (i := 1386) (by decide +kernel)⟩
    · exact ⟨⟨by decide +kernel, by decide +kernel⟩, List.mem_of_getElem? (i := 756) (by decide +kernel), List.mem_of_getElem? (i := 979) (by decide +kernel), List.mem_of_getElem? (i := 980) (by decide +kernel), List.mem_of_getElem? (i := 1392) (by decide +kernel)⟩
    · exact ⟨⟨by decide +kernel, by decide +kernel⟩, List.mem_of_getElem? (i := 756) (by decide +kernel), List.mem_of_getElem? (i := 983) (by decide +kernel), List.mem_of_getElem? (i := 984) (by decide +kernel), List.mem_of_getElem? (i := 1393) (by decide +kernel)⟩
  obtain ⟨k1, k2, k3, k4, k5⟩ := key
  exact ab_selects_above k1 (hts _ k2) (hts _ k3) (hts _ k4) (hts _ k5)
def ab_TG : List Cond := (ab_xs ++ lw_tbl).filter goodWord
def ab_nest : Cond → Bool
  | .fieldLinkNest .. => true
  | .methodLinkNest .. => true
  | .castable .. => true
  | .declares .. => true
  | _ => false
def ab_TN : List Cond := tables_1.filter ab_nest
theorem ab_tg1 {w : Cond} (i : Nat) (h : tables_1_1[i]? = some w) (g : goodWord w = true) : w ∈ ab_TG := List.mem_filter.mpr ⟨List.mem_append_right _ (List.mem_append_right _ (show w ∈ tables_1 from List.mem_append_left _ (List.mem_of_getElem? h))), g⟩
theorem ab_tg2 {w : Cond} (i : Nat) (h : tables_1_2[i]? = some w) (g : goodWord w = true) : w ∈ ab_TG := List.mem_filter.mpr ⟨List.mem_append_right _ (List.mem_append_right _ (show w ∈ tables_1 from List.mem_append_right _ (List.mem_append_left _ (List.mem_of_getElem? h)))), g⟩
theorem ab_tg3 {w : Cond} (i : Nat) (h : tables_1_3[i]? = some w) (g : goodWord w = true) : w ∈ ab_TG := List.mem_filter.mpr ⟨List.mem_append_right _ (List.mem_append_right _ (show w ∈ tables_1 from List.mem_append_right _ (List.mem_append_right _ (List.mem_append_left _ (List.mem_of_getElem? h))))), g⟩
theorem ab_tg4 {w : Cond} (i : Nat) (h : tables_1_4[i]? = some w) (g : goodWord w = true) : w ∈ ab_TG := List.mem_filter.mpr ⟨List.mem_append_right _ (List.mem_append_right _ (show w ∈ tables_1 from List.mem_append_right _ (List.mem_append_right _ (List.mem_append_right _ (List.mem_append_left _ (List.mem_of_getElem? h)))))), g⟩
theorem ab_tg5 {w : Cond} (i : Nat) (h : tables_1_5[i]? = some w) (g : goodWord w = true) : w ∈ ab_TG := List.mem_filter.mpr ⟨List.mem_append_right _ (List.mem_append_right _ (show w ∈ tables_1 from List.mem_append_right _ (List.mem_append_right _ (List.mem_append_right _ (List.mem_append_right _ (List.mem_append_left _ (List.mem_of_getElem? h))))))), g⟩
theorem ab_tg6 {w : Cond} (i : Nat) (h : tables_1_6[i]? = some w) (g : goodWord w = true) : w ∈ ab_TG := List.mem_filter.mpr ⟨List.mem_append_right _ (List.mem_append_right _ (show w ∈ tables_1 from List.mem_append_right _ (List.mem_append_right _ (List.mem_append_right _ (List.mem_append_right _ (List.mem_append_right _ (List.mem_of_getElem? h))))))), g⟩
theorem ab_tg_i {w : Cond} (i : Nat) (h : tables_1[i]? = some w) (g : goodWord w = true) : w ∈ ab_TG := List.mem_filter.mpr ⟨List.mem_append_right _ (List.mem_append_right _ (List.mem_of_getElem? h)), g⟩
theorem ab_tg_p {w : Cond} (h : w ∈ k2_sels lw_privs) (g : goodWord w = true) : w ∈ ab_TG := List.mem_filter.mpr ⟨List.mem_append_right _ (List.mem_append_left _ h), g⟩
theorem ab_tg_x {w : Cond} (h : w ∈ ab_xs) (g : goodWord w = true) : w ∈ ab_TG := List.mem_filter.mpr ⟨List.mem_append_left _ h, g⟩
theorem ab_tn_i {w : Cond} (i : Nat) (h : tables_1[i]? = some w) (g : ab_nest w = true) : w ∈ ab_TN := List.mem_filter.mpr ⟨List.mem_of_getElem? h, g⟩
theorem ab_at_of {l : List Cond} (h : ∀ w ∈ l, w ∈ tables_1 ∧ (goodWord w || ab_nest w) = true) : ∀ w ∈ l, w ∈ ab_TG ∨ w ∈ ab_TN := fun w hw => by
  obtain ⟨h1, h2⟩ := h w hw
  rcases Bool.or_eq_true _ _ |>.mp h2 with h2 | h2
  · exact Or.inl (List.mem_filter.mpr ⟨List.mem_append_right _ (List.mem_append_right _ h1), h2⟩)
  · exact Or.inr (List.mem_filter.mpr ⟨h1, h2⟩)
def ab_TS : List (String × Nat × String) := [("Staggershelf", 273, "what must be 0 to 16"), ("Staggershelf", 133, "no such disk"), ("Staggershelf", 246, "what must be 0 to 7"), ("Staggershelf", 152, "no such disk, or stripe"), ("Staggershelf", 226, "what must be 0 to 4"), ("Staggershelf", 85, "no such block"), ("Staggershelf", 251, "what must be 0 to 3"), ("Staggershelf", 253, "what must be 0 to 2"), ("Staggershelf", 290, "tenth must be 0 to 999"), ("Staggershelf", 35, "disks must be 3 to 5"), ("Staggershelf", 40, "stripes must be 1 to 8"), ("Staggershelf", 88, "value must be 0 to 255, steps 0 to 4"), ("Staggershelf", 99, "the power is off, or the stripe is broken"), ("Staggershelf", 117, "the power is off"), ("Staggershelf", 138, "the disk has failed already"), ("Staggershelf", 154, "bits must be 1 to 255"), ("Staggershelf", 156, "the disk has failed"), ("Staggershelf", 343, "there is no shelf, or the power is off"), ("Staggershelf", 174, "no such stripe"), ("Staggershelf", 176, "the power is off, or the stripe is not broken"), ("Staggershelf", 181, "disk must be 0 to 4"), ("Staggershelf", 183, "peak must be 1 to 30, spin 1 to 9, idle 0 to 9"), ("Staggershelf", 192, "limit must be 1 to 90, patience 0 to 9"), ("Staggershelf", 203, "there is no shelf"), ("Staggershelf", 208, "there is no shelf, the power is on, or there is no plan"), ("Staggershelf", 213, "gap must be 0 to 20"), ("Staggershelf", 215, "there is no shelf, or the power is on"), ("Staggershelf", 295, "both are the same disk")]
/-- the texts of the Model, by number -/
def ab_LT : List (String × Nat × String × Nat) := [("StaggershelfModel", 211, "", 4), ("StaggershelfModel", 216, "x", 0), ("StaggershelfModel", 218, "?", 1), ("StaggershelfModel", 220, "+", 2), ("StaggershelfModel", 222, ".", 3)]
set_option maxRecDepth 20000 in
theorem ab_clw0 : ∀ w ∈ u_ws RX0 TX0 7, w ∈ ab_TG := by decide +kernel
set_option maxRecDepth 20000 in
theorem ab_clw1 : ∀ w ∈ u_ws RX1 TX1 15, w ∈ ab_TG := by decide +kernel
set_option maxRecDepth 20000 in
theorem ab_clw2 : ∀ w ∈ u_ws RX2 TX2 13, w ∈ ab_TG := by decide +kernel
set_option maxRecDepth 20000 in
theorem ab_clw3 : ∀ w ∈ u_ws RX3 TX3 2, w ∈ ab_TG := by decide +kernel
set_option maxRecDepth 20000 in
theorem ab_clw4 : ∀ w ∈ u_ws RX4 TX4 22, w ∈ ab_TG := by decide +kernel
set_option maxRecDepth 20000 in
theorem ab_clw5 : ∀ w ∈ u_ws RJ4 TJ4 4, w ∈ ab_TG := by decide +kernel
set_option maxRecDepth 20000 in
theorem ab_clw6 : ∀ w ∈ u_ws RJ0 TJ0 4, w ∈ ab_TG := by decide +kernel
/-- what is known of the class number c -/
theorem ab_cl_ok {c : Nat} {C : String} {T : u_T} {N : Nat} (h : ab_cl[c]? = some (C, T, N)) : (∀ w ∈ u_ws C T N, w ∈ ab_TG) ∧ (∀ k, k < N → parseFieldDescriptor (T k).2.2.1 = some (ab_ty c k)) ∧ (∀ a, a < N → ∀ b, b < N → a ≠ b → (T a).2.1 ≠ (T b).2.1) := by
  match c, h with
  | 0, h => cases h; exact ⟨ab_clw0, tyX0_ok, nmX0⟩
  | 1, h => cases h; exact ⟨ab_clw1, tyX1_ok, nmX1⟩
  | 2, h => cases h; exact ⟨ab_clw2, tyX2_ok, nmX2⟩
  | 3, h => cases h; exact ⟨ab_clw3, tyX3_ok, nmX3⟩
  | 4, h => cases h; exact ⟨ab_clw4, tyX4_ok, nmX4⟩
  | 5, h => cases h; exact ⟨ab_clw5, tyJ4_ok, nmJ4⟩
  | 6, h => cases h; exact ⟨ab_clw6, tyJ0_ok, nmJ0⟩
  | c + 7, h => simp [ab_cl] at h
abbrev ab_mi : List (MethodName × ByteArray × Nat × Option FieldType) := [
  (yX0_init, cX0_init, 1, none),
  (yX0_build, cX0_build, 5, none),
  (yX0_hasDisk, cX0_hasDisk, 2, (some .boolean)),
  (yX0_hasStripe, cX0_hasStripe, 2, (some .boolean)),
  (yX0_hasBlock, cX0_hasBlock, 2, (some .boolean)),
  (yX0_blocks, cX0_blocks, 1, (some .int)),
  (yX0_stripeOf, cX0_stripeOf, 2, (some .int)),
  (yX0_diskOf, cX0_diskOf, 3, (some .int)),
  (yX0_blockIn, cX0_blockIn, 4, (some .int)),
  (yX0_sumDisk, cX0_sumDisk, 2, (some .int)),
  (yX0_stripeBehind, cX0_stripeBehind, 3, (some .int)),
  (yX0_valueAt, cX0_valueAt, 4, (some .int)),
  (yX0_markAt, cX0_markAt, 4, (some .int)),
  (yX0_hasFailed, cX0_hasFailed, 2, (some .boolean)),
  (yX0_swapsOf, cX0_swapsOf, 2, (some .int)),
  (yX0_isBad, cX0_isBad, 4, (some .boolean)),
  (yX0_isLost, cX0_isLost, 3, (some .boolean)),
  (yX0_badCells, cX0_badCells, 4, (some .int)),
  (yX0_badCellsOf, cX0_badCellsOf, 4, (some .int)),
  (yX0_allBadCells, cX0_allBadCells, 3, (some .int)),
  (yX0_hurtStripes, cX0_hurtStripes, 3, (some .int)),
  (yX0_brokenStripes, cX0_brokenStripes, 3, (some .int)),
  (yX0_failedDisks, cX0_failedDisks, 3, (some .int)),
  (yX0_lostBlocks, cX0_lostBlocks, 8, (some .int)),
  (yX0_shouldHave, cX0_shouldHave, 3, (some .int)),
  (yX0_xorOfOthers, cX0_xorOfOthers, 5, (some .int)),
  (yX0_lay, cX0_lay, 5, none),
  (yX0_mendStripe, cX0_mendStripe, 3, (some .int)),
  (yX0_setFailed, cX0_setFailed, 2, none),
  (yX0_putNewDisk, cX0_putNewDisk, 4, none),
  (yX0_turnBits, cX0_turnBits, 5, none),
  (yX0_countAsWritten, cX0_countAsWritten, 4, none),
  (yX0_startAnew, cX0_startAnew, 6, (some .int)),
  (yX0_isStripeSound, cX0_isStripeSound, 7, (some .boolean)),
  (yX0_fittingMark, cX0_fittingMark, 3, (some .int)),
  (yX0_indexOf, cX0_indexOf, 4, (some .int)),
  (yX1_init, cX1_init, 1, none),
  (yX1_planFor, cX1_planFor, 2, none),
  (yX1_tellKind, cX1_tellKind, 5, none),
  (yX1_tellFuse, cX1_tellFuse, 3, none),
  (yX1_peakOf, cX1_peakOf, 2, (some .int)),
  (yX1_spinOf, cX1_spinOf, 2, (some .int)),
  (yX1_idleOf, cX1_idleOf, 2, (some .int)),
  (yX1_endOfPlan, cX1_endOfPlan, 1, (some .int)),
  (yX1_startInPlan, cX1_startInPlan, 2, (some .int)),
  (yX1_placeInPlan, cX1_placeInPlan, 2, (some .int)),
  (yX1_drawByPlan, cX1_drawByPlan, 2, (some .int)),
  (yX1_planTrips, cX1_planTrips, 1, (some .boolean)),
  (yX1_lastStartByGap, cX1_lastStartByGap, 5, (some .int)),
  (yX1_drawBy, cX1_drawBy, 5, (some .int)),
  (yX1_drawSince, cX1_drawSince, 3, (some .int)),
  (yX1_trips, cX1_trips, 4, (some .boolean)),
  (yX1_makePlan, cX1_makePlan, 2, none),
  (yX1_allIdle, cX1_allIdle, 3, (some .int)),
  (yX1_tryPlace, cX1_tryPlace, 5, none),
  (yX1_keepTried, cX1_keepTried, 3, none),
  (yX1_addDraw, cX1_addDraw, 7, none),
  (yX1_leastStart, cX1_leastStart, 8, (some .int)),
  (yX1_keepRun, cX1_keepRun, 3, none),
  (yX1_tripsWith, cX1_tripsWith, 8, (some .boolean)),
  (yX2_init, cX2_init, 1, none),
  (yX2_shelf, cX2_shelf, 3, (some .int)),
  (yX2_write, cX2_write, 5, (some .boolean)),
  (yX2_read, cX2_read, 5, (some .int)),
  (yX2_fail, cX2_fail, 2, (some .int)),
  (yX2_swap, cX2_swap, 2, (some .int)),
  (yX2_flip, cX2_flip, 4, (some .int)),
  (yX2_rebuild, cX2_rebuild, 3, (some .int)),
  (yX2_patrol, cX2_patrol, 3, (some .int)),
  (yX2_giveUp, cX2_giveUp, 2, (some .int)),
  (yX2_kind, cX2_kind, 6, (some .int)),
  (yX2_fuse, cX2_fuse, 4, (some .int)),
  (yX2_off, cX2_off, 2, (some .boolean)),
  (yX2_power, cX2_power, 1, (some .int)),
  (yX2_boot, cX2_boot, 3, (some .int)),
  (yX2_cell, cX2_cell, 4, (some .int)),
  (yX2_ofDisk, cX2_ofDisk, 3, (some .int)),
  (yX2_ofBlock, cX2_ofBlock, 5, (some .int)),
  (yX2_note, cX2_note, 2, (some .int)),
  (yX2_house, cX2_house, 2, (some .int)),
  (yX2_row, cX2_row, 4, (some (.object "java/lang/String"))),
  (yX2_draw, cX2_draw, 2, (some .int)),
  (yX2_wouldBoot, cX2_wouldBoot, 2, (some .int)),
  (yX2_wouldLose, cX2_wouldLose, 3, (some .int)),
  (yX2_isSound, cX2_isSound, 3, (some .boolean)),
  (yX2_knock, cX2_knock, 1, (some .int)),
  (yX2_digest, cX2_digest, 5, (some .long)),
  (yX2_digestOfCells, cX2_digestOfCells, 8, (some .long)),
  (yX2_signOf, cX2_signOf, 3, (some .char)),
  (yX2_keepNote, cX2_keepNote, 6, none),
  (yX2_layNotedValue, cX2_layNotedValue, 1, none),
  (yX2_layNotedSum, cX2_layNotedSum, 2, none),
  (yX2_dropNote, cX2_dropNote, 1, none),
  (yX2_goOff, cX2_goOff, 1, none),
  (yX2_goOn, cX2_goOn, 1, none),
  (yX2_refuseRound, cX2_refuseRound, 2, none),
  (yX2_mendFrom, cX2_mendFrom, 5, (some .int)),
  (yX3_init, cX3_init, 1, none),
  (yX4_init, cX4_init, 1, none),
  (yX4_thrown, cX4_thrown, 1, (some .int)),
  (yX4_isIn, cX4_isIn, 3, (some .boolean)),
  (yX4_refuse, cX4_refuse, 3, (some .boolean)),
  (yX4_start, cX4_start, 3, (some .boolean)),
  (yX4_isNoDisk, cX4_isNoDisk, 2, (some .boolean)),
  (yX4_isNoStripe, cX4_isNoStripe, 2, (some .boolean)),
  (yX4_isNoBlock, cX4_isNoBlock, 2, (some .boolean)),
  (yX4_blocks, cX4_blocks, 1, (some .int)),
  (yX4_stripeOf, cX4_stripeOf, 2, (some .int)),
  (yX4_sumDisk, cX4_sumDisk, 2, (some .int)),
  (yX4_diskOf, cX4_diskOf, 3, (some .int)),
  (yX4_blockOf, cX4_blockOf, 3, (some .int)),
  (yX4_isBad, cX4_isBad, 3, (some .boolean)),
  (yX4_lay, cX4_lay, 4, none),
  (yX4_bad, cX4_bad, 4, (some .int)),
  (yX4_others, cX4_others, 5, (some .int)),
  (yX4_should, cX4_should, 3, (some .int)),
  (yX4_mend, cX4_mend, 3, (some .int)),
  (yX4_readOf, cX4_readOf, 2, (some .int)),
  (yX4_lost, cX4_lost, 3, (some .int)),
  (yX4_off2, cX4_off2, 1, none),
  (yX4_comeOn, cX4_comeOn, 1, none),
  (yX4_laid, cX4_laid, 4, none),
  (yX4_shelf, cX4_shelf, 5, (some .int)),
  (yX4_write, cX4_write, 5, (some .boolean)),
  (yX4_read, cX4_read, 3, (some .int)),
  (yX4_fail, cX4_fail, 2, (some .int)),
  (yX4_swap, cX4_swap, 3, (some .int)),
  (yX4_flip, cX4_flip, 4, (some .int)),
  (yX4_mendFrom, cX4_mendFrom, 5, (some .int)),
  (yX4_rebuild, cX4_rebuild, 3, (some .int)),
  (yX4_patrol, cX4_patrol, 3, (some .int)),
  (yX4_giveUp, cX4_giveUp, 5, (some .int)),
  (yX4_drawAt, cX4_drawAt, 4, (some .int)),
  (yX4_trips, cX4_trips, 6, (some .boolean)),
  (yX4_end, cX4_end, 4, (some .int)),
  (yX4_without, cX4_without, 3, (some (.array .int))),
  (yX4_plan, cX4_plan, 9, (some (.array (.array .int)))),
  (yX4_planNow, cX4_planNow, 1, (some (.array (.array .int)))),
  (yX4_kind, cX4_kind, 6, (some .int)),
  (yX4_fuse, cX4_fuse, 4, (some .int)),
  (yX4_off, cX4_off, 2, (some .boolean)),
  (yX4_power, cX4_power, 1, (some .int)),
  (yX4_bootNow, cX4_bootNow, 4, (some .int)),
  (yX4_boot, cX4_boot, 3, (some .int)),
  (yX4_cellNow, cX4_cellNow, 5, (some .int)),
  (yX4_cell, cX4_cell, 4, (some .int)),
  (yX4_ofDiskNow, cX4_ofDiskNow, 7, (some .int)),
  (yX4_ofDisk, cX4_ofDisk, 3, (some .int)),
  (yX4_ofBlockNow, cX4_ofBlockNow, 4, (some .int)),
  (yX4_ofBlock, cX4_ofBlock, 3, (some .int)),
  (yX4_noteNow, cX4_noteNow, 2, (some .int)),
  (yX4_note, cX4_note, 2, (some .int)),
  (yX4_houseNow, cX4_houseNow, 8, (some .int)),
  (yX4_house, cX4_house, 2, (some .int)),
  (yX4_row, cX4_row, 4, (some (.object "java/lang/String"))),
  (yX4_drawNow, cX4_drawNow, 5, (some .int)),
  (yX4_draw, cX4_draw, 2, (some .int)),
  (yX4_wouldBoot, cX4_wouldBoot, 2, (some .int)),
  (yX4_wouldLose, cX4_wouldLose, 6, (some .int)),
  (yX4_isSoundNow, cX4_isSoundNow, 3, (some .boolean)),
  (yX4_isSound, cX4_isSound, 1, (some .boolean)),
  (yX4_knock, cX4_knock, 1, (some .int)),
  (yX4_digest, cX4_digest, 6, (some .long)),
  (yL_shelf, cL_shelf, 5, (some .int)),
  (yL_write, cL_write, 6, (some .int)),
  (yL_read, cL_read, 4, (some .int)),
  (yL_fail, cL_fail, 4, (some .int)),
  (yL_swap, cL_swap, 4, (some .int)),
  (yL_flip, cL_flip, 6, (some .int)),
  (yL_rebuild, cL_rebuild, 4, (some .int)),
  (yL_patrol, cL_patrol, 4, (some .int)),
  (yL_giveUp, cL_giveUp, 4, (some .int)),
  (yL_kind, cL_kind, 7, (some .int)),
  (yL_fuse, cL_fuse, 5, (some .int)),
  (yL_off, cL_off, 3, (some .int)),
  (yL_power, cL_power, 3, (some .int)),
  (yL_boot, cL_boot, 4, (some .int)),
  (yL_cell, cL_cell, 6, (some .int)),
  (yL_ofDisk, cL_ofDisk, 5, (some .int)),
  (yL_ofBlock, cL_ofBlock, 5, (some .int)),
  (yL_note, cL_note, 4, (some .int)),
  (yL_house, cL_house, 4, (some .int)),
  (yL_row, cL_row, 4, (some .int)),
  (yL_draw, cL_draw, 4, (some .int)),
  (yL_wouldBoot, cL_wouldBoot, 4, (some .int)),
  (yL_wouldLose, cL_wouldLose, 5, (some .int)),
  (yL_law, cL_law, maxLocals, ret),
  (yX1_tryDisk, cX1_tryDisk, 8, none),
  (yJ5_init_d00df, cJ5_init_d00df, 2, none),
  (yJ5_append_3fe6f, cJ5_append_3fe6f, 2, (some (.object "java/lang/AbstractStringBuilder"))),
  (yJ5_append_cf1ce, cJ5_append_cf1ce, 3, (some (.object "java/lang/AbstractStringBuilder"))),
  (yJ5_ensureCapacityInternal_d00df, cJ5_ensureCapacityInternal_d00df, 3, none),
  (yJ5_getValue_6d5f1, cJ5_getValue_6d5f1, 1, (some (.array .byte))),
  (yJ5_inflateIfNeededFor_a7421, cJ5_inflateIfNeededFor_a7421, 2, none),
  (yJ5_isLatin1_aae02, cJ5_isLatin1_aae02, 1, (some .boolean)),
  (yJ5_length_8abf5, cJ5_length_8abf5, 1, (some .int)),
  (yJ5_putStringAt_47b60, cJ5_putStringAt_47b60, 3, none),
  (yJ0_init_db425, cJ0_init_db425, 5, none),
  (yJ0_init_81219, cJ0_init_81219, 2, none),
  (yJ0_coder_7d493, cJ0_coder_7d493, 1, (some .byte)),
  (yJ0_getBytes_840e7, cJ0_getBytes_840e7, 4, none),
  (yJ0_length_8abf5, cJ0_length_8abf5, 1, (some .int)),
  (yJ4_init_da8c8, cJ4_init_da8c8, 1, none),
  (yJ4_append_cf468, cJ4_append_cf468, 2, (some (.object "java/lang/StringBuilder"))),
  (yJ4_append_15ec4, cJ4_append_15ec4, 2, (some (.object "java/lang/StringBuilder"))),
  (yJ4_toString_0e30d, cJ4_toString_0e30d, 1, (some (.object "java/lang/String"))),
  (yJ4_length_8abf5, cJ4_length_8abf5, 1, (some .int)),
  (yJ1_canEncode_fc78d, cJ1_canEncode_fc78d, 1, (some .boolean)),
  (yJ7_copyOfRange_39247, cJ7_copyOfRange_39247, 3, (some (.array .byte))),
  (yJ7_copyOfRangeByte_39247, cJ7_copyOfRangeByte_39247, 5, (some (.array .byte))),
  (yJ7_checkLength_df160, cJ7_checkLength_df160, 2, none)]
def ab_md : MethodName × ByteArray × Nat × Option FieldType := (yX0_init, cX0_init, 0, none)
def ab_my (M : Nat) : MethodName := (ab_mi.getD M ab_md).1
def ab_mb (M : Nat) : ByteArray := (ab_mi.getD M ab_md).2.1
def ab_mL (M : Nat) : Nat := (ab_mi.getD M ab_md).2.2.1
def ab_mr (M : Nat) : Option FieldType := (ab_mi.getD M ab_md).2.2.2
def ab_nm : Nat := 211
/-- the tables of what is caught -/
def ab_tb (M : Nat) : List (Nat × Nat × Nat × Nat) := ((([(163, [((0 : Nat), (11 : Nat), (14 : Nat), (19 : Nat))]), (164, [((0 : Nat), (20 : Nat), (23 : Nat), (25 : Nat)), ((0 : Nat), (20 : Nat), (27 : Nat), (19 : Nat)), ((0 : Nat), (20 : Nat), (31 : Nat), (27 : Nat))]), (165, [((0 : Nat), (10 : Nat), (13 : Nat), (25 : Nat)), ((0 : Nat), (10 : Nat), (16 : Nat), (27 : Nat))]), (166, [((0 : Nat), (10 : Nat), (13 : Nat), (25 : Nat)), ((0 : Nat), (10 : Nat), (16 : Nat), (27 : Nat))]), (167, [((0 : Nat), (10 : Nat), (13 : Nat), (25 : Nat))]), (168, [((0 : Nat), (13 : Nat), (16 : Nat), (25 : Nat)), ((0 : Nat), (13 : Nat), (20 : Nat), (19 : Nat)), ((0 : Nat), (13 : Nat), (24 : Nat), (27 : Nat))]), (169, [((0 : Nat), (10 : Nat), (13 : Nat), (19 : Nat)), ((0 : Nat), (10 : Nat), (16 : Nat), (27 : Nat))]), (170, [((0 : Nat), (10 : Nat), (13 : Nat), (19 : Nat)), ((0 : Nat), (10 : Nat), (16 : Nat), (27 : Nat))]), (171, [((0 : Nat), (10 : Nat), (13 : Nat), (25 : Nat)), ((0 : Nat), (10 : Nat), (16 : Nat), (27 : Nat))]), (172, [((0 : Nat), (15 : Nat), (18 : Nat), (25 : Nat)), ((0 : Nat), (15 : Nat), (22 : Nat), (19 : Nat))]), (173, [((0 : Nat), (11 : Nat), (14 : Nat), (19 : Nat))]), (174, [((0 : Nat), (16 : Nat), (19 : Nat), (27 : Nat))]), (175, [((0 : Nat), (9 : Nat), (12 : Nat), (27 : Nat))]), (176, [((0 : Nat), (10 : Nat), (13 : Nat), (19 : Nat)), ((0 : Nat), (10 : Nat), (16 : Nat), (27 : Nat))]), (177, [((0 : Nat), (13 : Nat), (16 : Nat), (25 : Nat)), ((0 : Nat), (13 : Nat), (20 : Nat), (19 : Nat))]), (178, [((0 : Nat), (11 : Nat), (14 : Nat), (25 : Nat)), ((0 : Nat), (11 : Nat), (18 : Nat), (19 : Nat))]), (179, [((0 : Nat), (11 : Nat), (14 : Nat), (25 : Nat)), ((0 : Nat), (11 : Nat), (18 : Nat), (19 : Nat))]), (180, [((0 : Nat), (10 : Nat), (13 : Nat), (19 : Nat))]), (181, [((0 : Nat), (10 : Nat), (13 : Nat), (19 : Nat))]), (182, [((0 : Nat), (9 : Nat), (12 : Nat), (25 : Nat))]), (183, [((0 : Nat), (10 : Nat), (13 : Nat), (19 : Nat))]), (184, [((0 : Nat), (10 : Nat), (13 : Nat), (19 : Nat)), ((0 : Nat), (10 : Nat), (16 : Nat), (27 : Nat))]), (185, [((0 : Nat), (11 : Nat), (14 : Nat), (25 : Nat)), ((0 : Nat), (11 : Nat), (18 : Nat), (19 : Nat))])] : List (Nat × List (Nat × Nat × Nat × Nat))).find? (fun q => q.1 == M)).map (fun q => q.2)).getD []
/-- the word that tells a method's code -/
def ab_cw (M : Nat) : Cond := if ab_tb M = [] then .code (ab_my M) (ab_mb M) (ab_mL M) (ab_mr M) else .codeWith (ab_my M) (ab_mb M) (ab_mL M) (ab_mr M) (ab_tb M)
theorem ab_cw_n {M : Nat} (h : ab_tb M = []) : ab_cw M = .code (ab_my M) (ab_mb M) (ab_mL M) (ab_mr M) := if_pos h
theorem ab_cw_h {M : Nat} (h : ab_tb M ≠ []) : ab_cw M = .codeWith (ab_my M) (ab_mb M) (ab_mL M) (ab_mr M) (ab_tb M) := if_neg h
