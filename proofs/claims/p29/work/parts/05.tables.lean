/-! THE TABLES of the abstract machine: classes, fields, methods by number -/
abbrev ab_cl : List vw_C := [(RX0, TX0, 7), (RX1, TX1, 15), (RX2, TX2, 13)]
def ab_ty : Nat → Nat → FieldType := fun c => match c with
  | 0 => tyX0
  | 1 => tyX1
  | _ => tyX2
def ab_fk (c k : Nat) : Nat := (([[0, 0, 1, 1, 1, 1, 1], [0, 0, 0, 1, 1, 1, 0, 1, 1, 1, 1, 1, 0, 1, 1], [1, 1, 0, 0, 0, 0, 0, 0, 0, 0, 0, 0, 0]] : List (List Nat)).getD c []).getD k 0
def ab_TG : List Cond := lw_tbl.filter goodWord
def ab_nest : Cond → Bool
  | .fieldLinkNest .. => true
  | .methodLinkNest .. => true
  | .castable .. => true
  | .declares .. => true
  | _ => false
def ab_TN : List Cond := tables_1.filter ab_nest
theorem ab_tg_i {w : Cond} (i : Nat) (h : tables_1[i]? = some w) (g : goodWord w = true) : w ∈ ab_TG := List.mem_filter.mpr ⟨List.mem_append_right _ (List.mem_of_getElem? h), g⟩
theorem ab_tg_p {w : Cond} (h : w ∈ k2_sels lw_privs) (g : goodWord w = true) : w ∈ ab_TG := List.mem_filter.mpr ⟨List.mem_append_left _ h, g⟩
theorem ab_tn_i {w : Cond} (i : Nat) (h : tables_1[i]? = some w) (g : ab_nest w = true) : w ∈ ab_TN := List.mem_filter.mpr ⟨List.mem_of_getElem? h, g⟩
theorem ab_at_of {l : List Cond} (h : ∀ w ∈ l, w ∈ tables_1 ∧ (goodWord w || ab_nest w) = true) : ∀ w ∈ l, w ∈ ab_TG ∨ w ∈ ab_TN := fun w hw => by
  obtain ⟨h1, h2⟩ := h w hw
  rcases Bool.or_eq_true _ _ |>.mp h2 with h2 | h2
  · exact Or.inl (List.mem_filter.mpr ⟨List.mem_append_right _ h1, h2⟩)
  · exact Or.inr (List.mem_filter.mpr ⟨h1, h2⟩)
def ab_TS : List (String × Nat × String) := [("Staggershelf", 35, "disks must be 3 to 5"), ("Staggershelf", 40, "stripes must be 1 to 8"), ("Staggershelf", 152, "no such disk, or stripe"), ("Staggershelf", 226, "what must be 0 to 4"), ("Staggershelf", 85, "no such block"), ("Staggershelf", 251, "what must be 0 to 3"), ("Staggershelf", 253, "what must be 0 to 2"), ("Staggershelf", 88, "value must be 0 to 255, steps 0 to 4"), ("Staggershelf", 99, "the power is off, or the stripe is broken"), ("Staggershelf", 117, "the power is off"), ("Staggershelf", 154, "bits must be 1 to 255"), ("Staggershelf", 156, "the disk has failed"), ("Staggershelf", 133, "no such disk"), ("Staggershelf", 138, "the disk has failed already"), ("Staggershelf", 343, "there is no shelf, or the power is off"), ("Staggershelf", 174, "no such stripe"), ("Staggershelf", 176, "the power is off, or the stripe is not broken"), ("Staggershelf", 208, "there is no shelf, the power is on, or there is no plan"), ("Staggershelf", 273, "what must be 0 to 16"), ("Staggershelf", 246, "what must be 0 to 7"), ("Staggershelf", 290, "tenth must be 0 to 999"), ("Staggershelf", 213, "gap must be 0 to 20"), ("Staggershelf", 203, "there is no shelf"), ("Staggershelf", 295, "both are the same disk")]
set_option maxRecDepth 20000 in
theorem ab_clw0 : ∀ w ∈ u_ws RX0 TX0 7, w ∈ ab_TG := by decide +kernel
set_option maxRecDepth 20000 in
theorem ab_clw1 : ∀ w ∈ u_ws RX1 TX1 15, w ∈ ab_TG := by decide +kernel
set_option maxRecDepth 20000 in
theorem ab_clw2 : ∀ w ∈ u_ws RX2 TX2 13, w ∈ ab_TG := by decide +kernel
/-- what is known of the class number c -/
theorem ab_cl_ok {c : Nat} {C : String} {T : u_T} {N : Nat} (h : ab_cl[c]? = some (C, T, N)) : (∀ w ∈ u_ws C T N, w ∈ ab_TG) ∧ (∀ k, k < N → parseFieldDescriptor (T k).2.2.1 = some (ab_ty c k)) ∧ (∀ a, a < N → ∀ b, b < N → a ≠ b → (T a).2.1 ≠ (T b).2.1) := by
  match c, h with
  | 0, h => cases h; exact ⟨ab_clw0, tyX0_ok, nmX0⟩
  | 1, h => cases h; exact ⟨ab_clw1, tyX1_ok, nmX1⟩
  | 2, h => cases h; exact ⟨ab_clw2, tyX2_ok, nmX2⟩
  | c + 3, h => simp [ab_cl] at h
abbrev ab_mi : List (MethodName × ByteArray × Nat × Option FieldType) := [
  (yX0_init, cX0_init, 1, none),
  (yX0_build, cX0_build, 5, none),
  (yX0_hasDisk, cX0_hasDisk, 2, (some .boolean)),
  (yX0_hasStripe, cX0_hasStripe, 2, (some .boolean)),
  (yX0_hasBlock, cX0_hasBlock, 2, (some .boolean)),
  (yX0_blocks, cX0_blocks, 1, (some .int)),
  (yX0_stripeOf, cX0_stripeOf, 2, (some .int)),
  (yX0_diskOf, cX0_diskOf, 3, (some .int)),
  (yX0_blockIn, cX0_blockIn, 4, (some .int)),
  (yX0_sumDisk, cX0_sumDisk, 2, (some .int)),
  (yX0_stripeBehind, cX0_stripeBehind, 3, (some .int)),
  (yX0_valueAt, cX0_valueAt, 4, (some .int)),
  (yX0_markAt, cX0_markAt, 4, (some .int)),
  (yX0_hasFailed, cX0_hasFailed, 2, (some .boolean)),
  (yX0_swapsOf, cX0_swapsOf, 2, (some .int)),
  (yX0_isBad, cX0_isBad, 4, (some .boolean)),
  (yX0_isLost, cX0_isLost, 3, (some .boolean)),
  (yX0_badCells, cX0_badCells, 4, (some .int)),
  (yX0_badCellsOf, cX0_badCellsOf, 4, (some .int)),
  (yX0_allBadCells, cX0_allBadCells, 3, (some .int)),
  (yX0_hurtStripes, cX0_hurtStripes, 3, (some .int)),
  (yX0_brokenStripes, cX0_brokenStripes, 3, (some .int)),
  (yX0_failedDisks, cX0_failedDisks, 3, (some .int)),
  (yX0_lostBlocks, cX0_lostBlocks, 8, (some .int)),
  (yX0_shouldHave, cX0_shouldHave, 3, (some .int)),
  (yX0_xorOfOthers, cX0_xorOfOthers, 5, (some .int)),
  (yX0_lay, cX0_lay, 5, none),
  (yX0_mendStripe, cX0_mendStripe, 3, (some .int)),
  (yX0_setFailed, cX0_setFailed, 2, none),
  (yX0_putNewDisk, cX0_putNewDisk, 4, none),
  (yX0_turnBits, cX0_turnBits, 5, none),
  (yX0_countAsWritten, cX0_countAsWritten, 4, none),
  (yX0_startAnew, cX0_startAnew, 6, (some .int)),
  (yX0_isStripeSound, cX0_isStripeSound, 7, (some .boolean)),
  (yX0_fittingMark, cX0_fittingMark, 3, (some .int)),
  (yX0_indexOf, cX0_indexOf, 4, (some .int)),
  (yX1_init, cX1_init, 1, none),
  (yX1_planFor, cX1_planFor, 2, none),
  (yX1_tryDisk, cX1_tryDisk, 8, none),
  (yL_below, cL_below, 2, (some .int)),
  (yX1_peakOf, cX1_peakOf, 2, (some .int)),
  (yX1_spinOf, cX1_spinOf, 2, (some .int)),
  (yX1_idleOf, cX1_idleOf, 2, (some .int)),
  (yX1_endOfPlan, cX1_endOfPlan, 1, (some .int)),
  (yX1_startInPlan, cX1_startInPlan, 2, (some .int)),
  (yX1_placeInPlan, cX1_placeInPlan, 2, (some .int)),
  (yX1_drawByPlan, cX1_drawByPlan, 2, (some .int)),
  (yX1_planTrips, cX1_planTrips, 1, (some .boolean)),
  (yX1_lastStartByGap, cX1_lastStartByGap, 5, (some .int)),
  (yX1_drawBy, cX1_drawBy, 5, (some .int)),
  (yX1_drawSince, cX1_drawSince, 3, (some .int)),
  (yX1_trips, cX1_trips, 4, (some .boolean)),
  (yX1_makePlan, cX1_makePlan, 2, none),
  (yX1_allIdle, cX1_allIdle, 3, (some .int)),
  (yX1_tryPlace, cX1_tryPlace, 5, none),
  (yX1_keepTried, cX1_keepTried, 3, none),
  (yX1_addDraw, cX1_addDraw, 7, none),
  (yX1_leastStart, cX1_leastStart, 8, (some .int)),
  (yX1_keepRun, cX1_keepRun, 3, none),
  (yX1_tripsWith, cX1_tripsWith, 8, (some .boolean)),
  (yX2_init, cX2_init, 1, none),
  (yX2_shelf, cX2_shelf, 3, (some .int)),
  (yX2_write, cX2_write, 5, (some .boolean)),
  (yX2_read, cX2_read, 5, (some .int)),
  (yX2_fail, cX2_fail, 2, (some .int)),
  (yX2_swap, cX2_swap, 2, (some .int)),
  (yX2_flip, cX2_flip, 4, (some .int)),
  (yX2_rebuild, cX2_rebuild, 3, (some .int)),
  (yX2_patrol, cX2_patrol, 3, (some .int)),
  (yX2_giveUp, cX2_giveUp, 2, (some .int)),
  (yL_cell, cL_cell, 2, (some .int)),
  (yL_isDone, cL_isDone, 13, (some .boolean)),
  (yL_isQuiet, cL_isQuiet, 6, (some .boolean)),
  (yX2_power, cX2_power, 1, (some .int)),
  (yL_law, cL_law, maxLocals, ret),
  (yX2_cell, cX2_cell, 4, (some .int)),
  (yX2_ofDisk, cX2_ofDisk, 3, (some .int)),
  (yX2_ofBlock, cX2_ofBlock, 5, (some .int)),
  (yX2_note, cX2_note, 2, (some .int)),
  (yX2_house, cX2_house, 2, (some .int)),
  (yX0_init, cX0_init, 1, none),
  (yX2_draw, cX2_draw, 2, (some .int)),
  (yX2_wouldBoot, cX2_wouldBoot, 2, (some .int)),
  (yX2_wouldLose, cX2_wouldLose, 3, (some .int)),
  (yX2_isSound, cX2_isSound, 3, (some .boolean)),
  (yX2_knock, cX2_knock, 1, (some .int)),
  (yX2_digest, cX2_digest, 5, (some .long)),
  (yX2_digestOfCells, cX2_digestOfCells, 8, (some .long)),
  (yX0_init, cX0_init, 1, none),
  (yX2_keepNote, cX2_keepNote, 6, none),
  (yX2_layNotedValue, cX2_layNotedValue, 1, none),
  (yX2_layNotedSum, cX2_layNotedSum, 2, none),
  (yX2_dropNote, cX2_dropNote, 1, none),
  (yX2_goOff, cX2_goOff, 1, none),
  (yX2_goOn, cX2_goOn, 1, none),
  (yX2_refuseRound, cX2_refuseRound, 2, none),
  (yX2_mendFrom, cX2_mendFrom, 5, (some .int))]
def ab_md : MethodName × ByteArray × Nat × Option FieldType := (yX0_init, cX0_init, 0, none)
def ab_my (M : Nat) : MethodName := (ab_mi.getD M ab_md).1
def ab_mb (M : Nat) : ByteArray := (ab_mi.getD M ab_md).2.1
def ab_mL (M : Nat) : Nat := (ab_mi.getD M ab_md).2.2.1
def ab_mr (M : Nat) : Option FieldType := (ab_mi.getD M ab_md).2.2.2
def ab_nm : Nat := 97
/-- the method with an exception table -/
def ab_hM : Nat := 71
def ab_hT : List (Nat × Nat × Nat × Nat) := [((9 : Nat), (113 : Nat), (340 : Nat), (84 : Nat)), ((114 : Nat), (139 : Nat), (340 : Nat), (84 : Nat)), ((140 : Nat), (175 : Nat), (340 : Nat), (84 : Nat)), ((176 : Nat), (202 : Nat), (340 : Nat), (84 : Nat)), ((203 : Nat), (221 : Nat), (340 : Nat), (84 : Nat)), ((222 : Nat), (257 : Nat), (340 : Nat), (84 : Nat)), ((258 : Nat), (326 : Nat), (340 : Nat), (84 : Nat)), ((327 : Nat), (339 : Nat), (340 : Nat), (84 : Nat))]
def ab_tb (M : Nat) : List (Nat × Nat × Nat × Nat) := if M = ab_hM then ab_hT else []
/-- the word that tells a method's code -/
def ab_cw (M : Nat) : Cond := if M = ab_hM then .codeWith (ab_my M) (ab_mb M) (ab_mL M) (ab_mr M) ab_hT else .code (ab_my M) (ab_mb M) (ab_mL M) (ab_mr M)
theorem ab_cw_n {M : Nat} (h : M ≠ ab_hM) : ab_cw M = .code (ab_my M) (ab_mb M) (ab_mL M) (ab_mr M) := if_neg h
theorem ab_tb_n {M : Nat} (h : M ≠ ab_hM) : ab_tb M = [] := if_neg h
theorem ab_cw_h : ab_cw ab_hM = .codeWith (ab_my ab_hM) (ab_mb ab_hM) (ab_mL ab_hM) (ab_mr ab_hM) ab_hT := if_pos rfl
