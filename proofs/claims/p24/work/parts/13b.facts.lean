set_option linter.all false
/-! EACH OF ITS INSTRUCTIONS IS SOUND; printed by wip/px/gen_code.py -/
section
variable {B : ab_B}
set_option maxRecDepth 20000
theorem wf_167 : Cond.methodLinkNest "Staggershelf" 9 (ab_my 0) "Staggershelf" ∈ ab_TN := ab_tn_i 34 (by decide +kernel) (by decide +kernel)
theorem wf_174 : Cond.methodLinkNest "Staggershelf" 18 (ab_my 36) "Staggershelf" ∈ ab_TN := ab_tn_i 66 (by decide +kernel) (by decide +kernel)
theorem wf_181 : (("Staggershelf", 35, "disks must be 3 to 5") : String × Nat × String) ∈ ab_TS := by decide +kernel
theorem wf_182 : ∀ w ∈ vx_atS "Staggershelf" 37 (ab_ex 1) ["java/lang/RuntimeException", "java/lang/Exception"], w ∈ ab_TG ∨ w ∈ ab_TN := ab_at_of (by decide +kernel)
theorem wf_183 : ∀ w ∈ Cond.classLink "Staggershelf" 33 (ab_ex 1) :: Cond.initialized (ab_ex 1) :: vx_atS "Staggershelf" 37 (ab_ex 1) ["java/lang/RuntimeException", "java/lang/Exception"], vx_ot w = true := by decide +kernel
theorem wf_184 : (("Staggershelf", 40, "stripes must be 1 to 8") : String × Nat × String) ∈ ab_TS := by decide +kernel
theorem wf_212 : (("Staggershelf", 85, "no such block") : String × Nat × String) ∈ ab_TS := by decide +kernel
theorem wf_213 : ∀ w ∈ vx_atS "Staggershelf" 87 (ab_ex 2) ["java/lang/RuntimeException", "java/lang/Exception"], w ∈ ab_TG ∨ w ∈ ab_TN := ab_at_of (by decide +kernel)
theorem wf_214 : ∀ w ∈ Cond.classLink "Staggershelf" 83 (ab_ex 2) :: Cond.initialized (ab_ex 2) :: vx_atS "Staggershelf" 87 (ab_ex 2) ["java/lang/RuntimeException", "java/lang/Exception"], vx_ot w = true := by decide +kernel
theorem wf_215 : (("Staggershelf", 88, "value must be 0 to 255, steps 0 to 4") : String × Nat × String) ∈ ab_TS := by decide +kernel
theorem wf_220 : (("Staggershelf", 99, "the power is off, or the stripe is broken") : String × Nat × String) ∈ ab_TS := by decide +kernel
theorem wf_221 : ∀ w ∈ vx_atS "Staggershelf" 101 (ab_ex 3) ["java/lang/RuntimeException", "java/lang/Exception"], w ∈ ab_TG ∨ w ∈ ab_TN := ab_at_of (by decide +kernel)
theorem wf_222 : ∀ w ∈ Cond.classLink "Staggershelf" 97 (ab_ex 3) :: Cond.initialized (ab_ex 3) :: vx_atS "Staggershelf" 101 (ab_ex 3) ["java/lang/RuntimeException", "java/lang/Exception"], vx_ot w = true := by decide +kernel
theorem wf_243 : (("Staggershelf", 117, "the power is off") : String × Nat × String) ∈ ab_TS := by decide +kernel
theorem wf_248 : (("Staggershelf", 133, "no such disk") : String × Nat × String) ∈ ab_TS := by decide +kernel
theorem wf_250 : (("Staggershelf", 138, "the disk has failed already") : String × Nat × String) ∈ ab_TS := by decide +kernel
theorem wf_267 : (("Staggershelf", 152, "no such disk, or stripe") : String × Nat × String) ∈ ab_TS := by decide +kernel
theorem wf_268 : (("Staggershelf", 154, "bits must be 1 to 255") : String × Nat × String) ∈ ab_TS := by decide +kernel
theorem wf_269 : (("Staggershelf", 156, "the disk has failed") : String × Nat × String) ∈ ab_TS := by decide +kernel
theorem wf_287 : (("Staggershelf", 174, "no such stripe") : String × Nat × String) ∈ ab_TS := by decide +kernel
theorem wf_288 : (("Staggershelf", 176, "the power is off, or the stripe is not broken") : String × Nat × String) ∈ ab_TS := by decide +kernel
theorem wf_293 : (("Staggershelf", 181, "disk must be 0 to 4") : String × Nat × String) ∈ ab_TS := by decide +kernel
theorem wf_294 : (("Staggershelf", 183, "peak must be 1 to 30, spin 1 to 9, idle 0 to 9") : String × Nat × String) ∈ ab_TS := by decide +kernel
theorem wf_300 : (("Staggershelf", 192, "limit must be 1 to 90, patience 0 to 9") : String × Nat × String) ∈ ab_TS := by decide +kernel
theorem wf_307 : (("Staggershelf", 203, "there is no shelf") : String × Nat × String) ∈ ab_TS := by decide +kernel
theorem wf_312 : (("Staggershelf", 208, "there is no shelf, the power is on, or there is no plan") : String × Nat × String) ∈ ab_TS := by decide +kernel
theorem wf_317 : (("Staggershelf", 213, "gap must be 0 to 20") : String × Nat × String) ∈ ab_TS := by decide +kernel
theorem wf_318 : (("Staggershelf", 215, "there is no shelf, or the power is on") : String × Nat × String) ∈ ab_TS := by decide +kernel
theorem wf_328 : (("Staggershelf", 226, "what must be 0 to 4") : String × Nat × String) ∈ ab_TS := by decide +kernel
theorem wf_347 : (("Staggershelf", 246, "what must be 0 to 7") : String × Nat × String) ∈ ab_TS := by decide +kernel
theorem wf_352 : (("Staggershelf", 251, "what must be 0 to 3") : String × Nat × String) ∈ ab_TS := by decide +kernel
theorem wf_353 : (("Staggershelf", 253, "what must be 0 to 2") : String × Nat × String) ∈ ab_TS := by decide +kernel
theorem wf_372 : (("Staggershelf", 273, "what must be 0 to 16") : String × Nat × String) ∈ ab_TS := by decide +kernel
theorem wf_392 : (("Staggershelf", 290, "tenth must be 0 to 999") : String × Nat × String) ∈ ab_TS := by decide +kernel
theorem wf_397 : (("Staggershelf", 295, "both are the same disk") : String × Nat × String) ∈ ab_TS := by decide +kernel
theorem wf_443 : (("Staggershelf", 343, "there is no shelf, or the power is off") : String × Nat × String) ∈ ab_TS := by decide +kernel
theorem wf_566 : Cond.castable "[I" "java/lang/Cloneable" ∈ ab_TN := ab_tn_i 1271 (by decide +kernel) (by decide +kernel)
theorem wf_616 : (("StaggershelfModel", 211, "", 4) : String × Nat × String × Nat) ∈ ab_LT := by decide +kernel
theorem wf_619 : (("StaggershelfModel", 216, "x", 0) : String × Nat × String × Nat) ∈ ab_LT := by decide +kernel
theorem wf_620 : (("StaggershelfModel", 218, "?", 1) : String × Nat × String × Nat) ∈ ab_LT := by decide +kernel
theorem wf_621 : (("StaggershelfModel", 220, "+", 2) : String × Nat × String × Nat) ∈ ab_LT := by decide +kernel
theorem wf_622 : (("StaggershelfModel", 222, ".", 3) : String × Nat × String × Nat) ∈ ab_LT := by decide +kernel
theorem wf_648 : Cond.selects RJ4 (ab_my 191) (ab_my 191) ∈ ab_TG := ab_tg_x (by decide +kernel) (by decide +kernel)
theorem wf_665 : Cond.selects RJ4 (ab_my 196) (ab_my 196) ∈ ab_TG := ab_tg_x (by decide +kernel) (by decide +kernel)
theorem wf_673 : Cond.selects RJ4 (ab_my 193) (ab_my 193) ∈ ab_TG := ab_tg_x (by decide +kernel) (by decide +kernel)
theorem wf_742 : Cond.castable (ab_ex 1) (ab_ex 1) ∈ ab_TN := ab_tn_i 270 (by decide +kernel) (by decide +kernel)
theorem wf_747 : Cond.fieldLinkNest "StaggershelfLaw" 13 (TX3 0).1 (TX3 0).2.1 (TX3 0).2.2.1 "StaggershelfLaw" ∈ ab_TN := ab_tn_i 451 (by decide +kernel) (by decide +kernel)
theorem wf_749 : Cond.castable (ab_ex 2) (ab_ex 2) ∈ ab_TN := ab_tn_i 346 (by decide +kernel) (by decide +kernel)
theorem wf_751 : Cond.castable (ab_ex 3) (ab_ex 3) ∈ ab_TN := ab_tn_i 542 (by decide +kernel) (by decide +kernel)
theorem wf_813 : Cond.fieldLinkNest "StaggershelfLaw" 89 (TX3 1).1 (TX3 1).2.1 (TX3 1).2.2.1 "StaggershelfLaw" ∈ ab_TN := ab_tn_i 452 (by decide +kernel) (by decide +kernel)
theorem wf_841 : Cond.methodLinkNest "StaggershelfLaw" 106 (ab_my 97) "StaggershelfLaw" ∈ ab_TN := ab_tn_i 447 (by decide +kernel) (by decide +kernel)
/-- what the bytes of a method are read as -/
def ab_db (M : Nat) (l : List (Nat × Instr × Nat)) : Bool := l.all fun q => decide (decode (ab_mb M) q.1 = .ok (q.2.1, q.2.2))
def ab_dp (M : Nat) : List (Nat × Instr × Nat) → Prop
  | [] => True
  | q :: l => decode (ab_mb M) q.1 = .ok (q.2.1, q.2.2) ∧ ab_dp M l
theorem ab_da {M : Nat} : ∀ {l : List (Nat × Instr × Nat)}, ab_db M l = true → ab_dp M l
  | [], _ => trivial
  | q :: l, h => by
    have h' : (decide (decode (ab_mb M) q.1 = .ok (q.2.1, q.2.2)) && ab_db M l) = true := h
    simp only [Bool.and_eq_true, decide_eq_true_eq] at h'
    exact ⟨h'.1, ab_da h'.2⟩
/-- all of a list's instructions are sound -/
def ab_all (B : ab_B) (M : Nat) : Nat → List (Option ab_O) → Prop
  | _, [] => True
  | pc, none :: l => True ∧ ab_all B M (pc + 1) l
  | pc, some op :: l => ab_Sn B M pc op ∧ ab_all B M (pc + 1) l
theorem ab_all_at {M : Nat} : ∀ (l : List (Option ab_O)) (pc i : Nat), ab_all B M pc l → ∀ op, l[i]? = some (some op) → ab_Sn B M (pc + i) op
  | none :: l, pc, i + 1, h, op, ho => by rw [show pc + (i + 1) = pc + 1 + i by omega]; exact ab_all_at l (pc + 1) i h.2 op ho
  | some o :: l, pc, 0, h, op, ho => by cases ho; exact h.1
  | some o :: l, pc, i + 1, h, op, ho => by rw [show pc + (i + 1) = pc + 1 + i by omega]; exact ab_all_at l (pc + 1) i h.2 op ho
theorem ab_hk163_4 : ab_hok 163 4 [(1, 16, 4)] := ⟨fun h => (by cases h), fun q hq => by
  simp only [List.mem_cons, List.not_mem_nil, or_false] at hq
  rcases hq with rfl
  · exact ⟨[], ⟨0, 11, 14, 19⟩, [], by decide +kernel, (fun z hz => absurd hz List.not_mem_nil), ⟨by decide, by decide⟩, by decide +kernel, by decide, wf_743, wf_742, ⟨2, Or.inl ⟨by decide +kernel, rfl⟩, rfl⟩, by decide +kernel⟩⟩
theorem ab_hk164_6 : ab_hok 164 6 [(2, 25, 5), (1, 29, 5), (3, 33, 5)] := ⟨fun h => (by cases h), fun q hq => by
  simp only [List.mem_cons, List.not_mem_nil, or_false] at hq
  rcases hq with rfl | rfl | rfl
  · exact ⟨[], ⟨0, 20, 23, 25⟩, [⟨0, 20, 27, 19⟩, ⟨0, 20, 31, 27⟩], by decide +kernel, (fun z hz => absurd hz List.not_mem_nil), ⟨by decide, by decide⟩, by decide +kernel, by decide, wf_750, wf_749, ⟨2, Or.inl ⟨by decide +kernel, rfl⟩, rfl⟩, by decide +kernel⟩
  · exact ⟨[⟨0, 20, 23, 25⟩], ⟨0, 20, 27, 19⟩, [⟨0, 20, 31, 27⟩], by decide +kernel, (by intro z hz; simp only [List.mem_cons, List.not_mem_nil, or_false] at hz; rcases hz with rfl; exact ⟨by decide, 2, by decide, by decide, by decide, wf_750⟩), ⟨by decide, by decide⟩, by decide +kernel, by decide, wf_743, wf_742, ⟨2, Or.inl ⟨by decide +kernel, rfl⟩, rfl⟩, by decide +kernel⟩
  · exact ⟨[⟨0, 20, 23, 25⟩, ⟨0, 20, 27, 19⟩], ⟨0, 20, 31, 27⟩, [], by decide +kernel, (by intro z hz; simp only [List.mem_cons, List.not_mem_nil, or_false] at hz; rcases hz with rfl | rfl; exact ⟨by decide, 2, by decide, by decide, by decide, wf_750⟩; exact ⟨by decide, 1, by decide, by decide, by decide, wf_743⟩), ⟨by decide, by decide⟩, by decide +kernel, by decide, wf_752, wf_751, ⟨2, Or.inl ⟨by decide +kernel, rfl⟩, rfl⟩, by decide +kernel⟩⟩
theorem ab_hk165_3 : ab_hok 165 3 [(2, 14, 3), (3, 17, 3)] := ⟨fun h => (by cases h), fun q hq => by
  simp only [List.mem_cons, List.not_mem_nil, or_false] at hq
  rcases hq with rfl | rfl
  · exact ⟨[], ⟨0, 10, 13, 25⟩, [⟨0, 10, 16, 27⟩], by decide +kernel, (fun z hz => absurd hz List.not_mem_nil), ⟨by decide, by decide⟩, by decide +kernel, by decide, wf_750, wf_749, ⟨1, Or.inr ⟨3, rfl, by decide +kernel, rfl⟩, rfl⟩, by decide +kernel⟩
  · exact ⟨[⟨0, 10, 13, 25⟩], ⟨0, 10, 16, 27⟩, [], by decide +kernel, (by intro z hz; simp only [List.mem_cons, List.not_mem_nil, or_false] at hz; rcases hz with rfl; exact ⟨by decide, 2, by decide, by decide, by decide, wf_750⟩), ⟨by decide, by decide⟩, by decide +kernel, by decide, wf_752, wf_751, ⟨1, Or.inr ⟨3, rfl, by decide +kernel, rfl⟩, rfl⟩, by decide +kernel⟩⟩
theorem ab_hk166_3 : ab_hok 166 3 [(2, 14, 3), (3, 17, 3)] := ⟨fun h => (by cases h), fun q hq => by
  simp only [List.mem_cons, List.not_mem_nil, or_false] at hq
  rcases hq with rfl | rfl
  · exact ⟨[], ⟨0, 10, 13, 25⟩, [⟨0, 10, 16, 27⟩], by decide +kernel, (fun z hz => absurd hz List.not_mem_nil), ⟨by decide, by decide⟩, by decide +kernel, by decide, wf_750, wf_749, ⟨1, Or.inr ⟨3, rfl, by decide +kernel, rfl⟩, rfl⟩, by decide +kernel⟩
  · exact ⟨[⟨0, 10, 13, 25⟩], ⟨0, 10, 16, 27⟩, [], by decide +kernel, (by intro z hz; simp only [List.mem_cons, List.not_mem_nil, or_false] at hz; rcases hz with rfl; exact ⟨by decide, 2, by decide, by decide, by decide, wf_750⟩), ⟨by decide, by decide⟩, by decide +kernel, by decide, wf_752, wf_751, ⟨1, Or.inr ⟨3, rfl, by decide +kernel, rfl⟩, rfl⟩, by decide +kernel⟩⟩
theorem ab_hk167_3 : ab_hok 167 3 [(2, 14, 3)] := ⟨fun h => (by cases h), fun q hq => by
  simp only [List.mem_cons, List.not_mem_nil, or_false] at hq
  rcases hq with rfl
  · exact ⟨[], ⟨0, 10, 13, 25⟩, [], by decide +kernel, (fun z hz => absurd hz List.not_mem_nil), ⟨by decide, by decide⟩, by decide +kernel, by decide, wf_750, wf_749, ⟨1, Or.inr ⟨3, rfl, by decide +kernel, rfl⟩, rfl⟩, by decide +kernel⟩⟩
theorem ab_hk168_6 : ab_hok 168 6 [(2, 18, 5), (1, 22, 5), (3, 26, 5)] := ⟨fun h => (by cases h), fun q hq => by
  simp only [List.mem_cons, List.not_mem_nil, or_false] at hq
  rcases hq with rfl | rfl | rfl
  · exact ⟨[], ⟨0, 13, 16, 25⟩, [⟨0, 13, 20, 19⟩, ⟨0, 13, 24, 27⟩], by decide +kernel, (fun z hz => absurd hz List.not_mem_nil), ⟨by decide, by decide⟩, by decide +kernel, by decide, wf_750, wf_749, ⟨2, Or.inl ⟨by decide +kernel, rfl⟩, rfl⟩, by decide +kernel⟩
  · exact ⟨[⟨0, 13, 16, 25⟩], ⟨0, 13, 20, 19⟩, [⟨0, 13, 24, 27⟩], by decide +kernel, (by intro z hz; simp only [List.mem_cons, List.not_mem_nil, or_false] at hz; rcases hz with rfl; exact ⟨by decide, 2, by decide, by decide, by decide, wf_750⟩), ⟨by decide, by decide⟩, by decide +kernel, by decide, wf_743, wf_742, ⟨2, Or.inl ⟨by decide +kernel, rfl⟩, rfl⟩, by decide +kernel⟩
  · exact ⟨[⟨0, 13, 16, 25⟩, ⟨0, 13, 20, 19⟩], ⟨0, 13, 24, 27⟩, [], by decide +kernel, (by intro z hz; simp only [List.mem_cons, List.not_mem_nil, or_false] at hz; rcases hz with rfl | rfl; exact ⟨by decide, 2, by decide, by decide, by decide, wf_750⟩; exact ⟨by decide, 1, by decide, by decide, by decide, wf_743⟩), ⟨by decide, by decide⟩, by decide +kernel, by decide, wf_752, wf_751, ⟨2, Or.inl ⟨by decide +kernel, rfl⟩, rfl⟩, by decide +kernel⟩⟩
theorem ab_hk169_3 : ab_hok 169 3 [(1, 14, 3), (3, 17, 3)] := ⟨fun h => (by cases h), fun q hq => by
  simp only [List.mem_cons, List.not_mem_nil, or_false] at hq
  rcases hq with rfl | rfl
  · exact ⟨[], ⟨0, 10, 13, 19⟩, [⟨0, 10, 16, 27⟩], by decide +kernel, (fun z hz => absurd hz List.not_mem_nil), ⟨by decide, by decide⟩, by decide +kernel, by decide, wf_743, wf_742, ⟨1, Or.inr ⟨3, rfl, by decide +kernel, rfl⟩, rfl⟩, by decide +kernel⟩
  · exact ⟨[⟨0, 10, 13, 19⟩], ⟨0, 10, 16, 27⟩, [], by decide +kernel, (by intro z hz; simp only [List.mem_cons, List.not_mem_nil, or_false] at hz; rcases hz with rfl; exact ⟨by decide, 1, by decide, by decide, by decide, wf_743⟩), ⟨by decide, by decide⟩, by decide +kernel, by decide, wf_752, wf_751, ⟨1, Or.inr ⟨3, rfl, by decide +kernel, rfl⟩, rfl⟩, by decide +kernel⟩⟩
theorem ab_hk170_3 : ab_hok 170 3 [(1, 14, 3), (3, 17, 3)] := ⟨fun h => (by cases h), fun q hq => by
  simp only [List.mem_cons, List.not_mem_nil, or_false] at hq
  rcases hq with rfl | rfl
  · exact ⟨[], ⟨0, 10, 13, 19⟩, [⟨0, 10, 16, 27⟩], by decide +kernel, (fun z hz => absurd hz List.not_mem_nil), ⟨by decide, by decide⟩, by decide +kernel, by decide, wf_743, wf_742, ⟨1, Or.inr ⟨3, rfl, by decide +kernel, rfl⟩, rfl⟩, by decide +kernel⟩
  · exact ⟨[⟨0, 10, 13, 19⟩], ⟨0, 10, 16, 27⟩, [], by decide +kernel, (by intro z hz; simp only [List.mem_cons, List.not_mem_nil, or_false] at hz; rcases hz with rfl; exact ⟨by decide, 1, by decide, by decide, by decide, wf_743⟩), ⟨by decide, by decide⟩, by decide +kernel, by decide, wf_752, wf_751, ⟨1, Or.inr ⟨3, rfl, by decide +kernel, rfl⟩, rfl⟩, by decide +kernel⟩⟩
theorem ab_hk171_3 : ab_hok 171 3 [(2, 14, 3), (3, 17, 3)] := ⟨fun h => (by cases h), fun q hq => by
  simp only [List.mem_cons, List.not_mem_nil, or_false] at hq
  rcases hq with rfl | rfl
  · exact ⟨[], ⟨0, 10, 13, 25⟩, [⟨0, 10, 16, 27⟩], by decide +kernel, (fun z hz => absurd hz List.not_mem_nil), ⟨by decide, by decide⟩, by decide +kernel, by decide, wf_750, wf_749, ⟨1, Or.inr ⟨3, rfl, by decide +kernel, rfl⟩, rfl⟩, by decide +kernel⟩
  · exact ⟨[⟨0, 10, 13, 25⟩], ⟨0, 10, 16, 27⟩, [], by decide +kernel, (by intro z hz; simp only [List.mem_cons, List.not_mem_nil, or_false] at hz; rcases hz with rfl; exact ⟨by decide, 2, by decide, by decide, by decide, wf_750⟩), ⟨by decide, by decide⟩, by decide +kernel, by decide, wf_752, wf_751, ⟨1, Or.inr ⟨3, rfl, by decide +kernel, rfl⟩, rfl⟩, by decide +kernel⟩⟩
theorem ab_hk172_8 : ab_hok 172 8 [(2, 20, 6), (1, 24, 6)] := ⟨fun h => (by cases h), fun q hq => by
  simp only [List.mem_cons, List.not_mem_nil, or_false] at hq
  rcases hq with rfl | rfl
  · exact ⟨[], ⟨0, 15, 18, 25⟩, [⟨0, 15, 22, 19⟩], by decide +kernel, (fun z hz => absurd hz List.not_mem_nil), ⟨by decide, by decide⟩, by decide +kernel, by decide, wf_750, wf_749, ⟨2, Or.inl ⟨by decide +kernel, rfl⟩, rfl⟩, by decide +kernel⟩
  · exact ⟨[⟨0, 15, 18, 25⟩], ⟨0, 15, 22, 19⟩, [], by decide +kernel, (by intro z hz; simp only [List.mem_cons, List.not_mem_nil, or_false] at hz; rcases hz with rfl; exact ⟨by decide, 2, by decide, by decide, by decide, wf_750⟩), ⟨by decide, by decide⟩, by decide +kernel, by decide, wf_743, wf_742, ⟨2, Or.inl ⟨by decide +kernel, rfl⟩, rfl⟩, by decide +kernel⟩⟩
theorem ab_hk173_4 : ab_hok 173 4 [(1, 16, 4)] := ⟨fun h => (by cases h), fun q hq => by
  simp only [List.mem_cons, List.not_mem_nil, or_false] at hq
  rcases hq with rfl
  · exact ⟨[], ⟨0, 11, 14, 19⟩, [], by decide +kernel, (fun z hz => absurd hz List.not_mem_nil), ⟨by decide, by decide⟩, by decide +kernel, by decide, wf_743, wf_742, ⟨2, Or.inl ⟨by decide +kernel, rfl⟩, rfl⟩, by decide +kernel⟩⟩
theorem ab_hk174_2 : ab_hok 174 2 [(3, 20, 2)] := ⟨fun h => (by cases h), fun q hq => by
  simp only [List.mem_cons, List.not_mem_nil, or_false] at hq
  rcases hq with rfl
  · exact ⟨[], ⟨0, 16, 19, 27⟩, [], by decide +kernel, (fun z hz => absurd hz List.not_mem_nil), ⟨by decide, by decide⟩, by decide +kernel, by decide, wf_752, wf_751, ⟨1, Or.inr ⟨2, rfl, by decide +kernel, rfl⟩, rfl⟩, by decide +kernel⟩⟩
theorem ab_hk175_2 : ab_hok 175 2 [(3, 13, 2)] := ⟨fun h => (by cases h), fun q hq => by
  simp only [List.mem_cons, List.not_mem_nil, or_false] at hq
  rcases hq with rfl
  · exact ⟨[], ⟨0, 9, 12, 27⟩, [], by decide +kernel, (fun z hz => absurd hz List.not_mem_nil), ⟨by decide, by decide⟩, by decide +kernel, by decide, wf_752, wf_751, ⟨1, Or.inr ⟨2, rfl, by decide +kernel, rfl⟩, rfl⟩, by decide +kernel⟩⟩
theorem ab_hk176_3 : ab_hok 176 3 [(1, 14, 3), (3, 17, 3)] := ⟨fun h => (by cases h), fun q hq => by
  simp only [List.mem_cons, List.not_mem_nil, or_false] at hq
  rcases hq with rfl | rfl
  · exact ⟨[], ⟨0, 10, 13, 19⟩, [⟨0, 10, 16, 27⟩], by decide +kernel, (fun z hz => absurd hz List.not_mem_nil), ⟨by decide, by decide⟩, by decide +kernel, by decide, wf_743, wf_742, ⟨1, Or.inr ⟨3, rfl, by decide +kernel, rfl⟩, rfl⟩, by decide +kernel⟩
  · exact ⟨[⟨0, 10, 13, 19⟩], ⟨0, 10, 16, 27⟩, [], by decide +kernel, (by intro z hz; simp only [List.mem_cons, List.not_mem_nil, or_false] at hz; rcases hz with rfl; exact ⟨by decide, 1, by decide, by decide, by decide, wf_743⟩), ⟨by decide, by decide⟩, by decide +kernel, by decide, wf_752, wf_751, ⟨1, Or.inr ⟨3, rfl, by decide +kernel, rfl⟩, rfl⟩, by decide +kernel⟩⟩
theorem ab_hk177_6 : ab_hok 177 6 [(2, 18, 5), (1, 22, 5)] := ⟨fun h => (by cases h), fun q hq => by
  simp only [List.mem_cons, List.not_mem_nil, or_false] at hq
  rcases hq with rfl | rfl
  · exact ⟨[], ⟨0, 13, 16, 25⟩, [⟨0, 13, 20, 19⟩], by decide +kernel, (fun z hz => absurd hz List.not_mem_nil), ⟨by decide, by decide⟩, by decide +kernel, by decide, wf_750, wf_749, ⟨2, Or.inl ⟨by decide +kernel, rfl⟩, rfl⟩, by decide +kernel⟩
  · exact ⟨[⟨0, 13, 16, 25⟩], ⟨0, 13, 20, 19⟩, [], by decide +kernel, (by intro z hz; simp only [List.mem_cons, List.not_mem_nil, or_false] at hz; rcases hz with rfl; exact ⟨by decide, 2, by decide, by decide, by decide, wf_750⟩), ⟨by decide, by decide⟩, by decide +kernel, by decide, wf_743, wf_742, ⟨2, Or.inl ⟨by decide +kernel, rfl⟩, rfl⟩, by decide +kernel⟩⟩
theorem ab_hk178_4 : ab_hok 178 4 [(2, 16, 4), (1, 20, 4)] := ⟨fun h => (by cases h), fun q hq => by
  simp only [List.mem_cons, List.not_mem_nil, or_false] at hq
  rcases hq with rfl | rfl
  · exact ⟨[], ⟨0, 11, 14, 25⟩, [⟨0, 11, 18, 19⟩], by decide +kernel, (fun z hz => absurd hz List.not_mem_nil), ⟨by decide, by decide⟩, by decide +kernel, by decide, wf_750, wf_749, ⟨2, Or.inl ⟨by decide +kernel, rfl⟩, rfl⟩, by decide +kernel⟩
  · exact ⟨[⟨0, 11, 14, 25⟩], ⟨0, 11, 18, 19⟩, [], by decide +kernel, (by intro z hz; simp only [List.mem_cons, List.not_mem_nil, or_false] at hz; rcases hz with rfl; exact ⟨by decide, 2, by decide, by decide, by decide, wf_750⟩), ⟨by decide, by decide⟩, by decide +kernel, by decide, wf_743, wf_742, ⟨2, Or.inl ⟨by decide +kernel, rfl⟩, rfl⟩, by decide +kernel⟩⟩
theorem ab_hk179_4 : ab_hok 179 4 [(2, 16, 4), (1, 20, 4)] := ⟨fun h => (by cases h), fun q hq => by
  simp only [List.mem_cons, List.not_mem_nil, or_false] at hq
  rcases hq with rfl | rfl
  · exact ⟨[], ⟨0, 11, 14, 25⟩, [⟨0, 11, 18, 19⟩], by decide +kernel, (fun z hz => absurd hz List.not_mem_nil), ⟨by decide, by decide⟩, by decide +kernel, by decide, wf_750, wf_749, ⟨2, Or.inl ⟨by decide +kernel, rfl⟩, rfl⟩, by decide +kernel⟩
  · exact ⟨[⟨0, 11, 14, 25⟩], ⟨0, 11, 18, 19⟩, [], by decide +kernel, (by intro z hz; simp only [List.mem_cons, List.not_mem_nil, or_false] at hz; rcases hz with rfl; exact ⟨by decide, 2, by decide, by decide, by decide, wf_750⟩), ⟨by decide, by decide⟩, by decide +kernel, by decide, wf_743, wf_742, ⟨2, Or.inl ⟨by decide +kernel, rfl⟩, rfl⟩, by decide +kernel⟩⟩
theorem ab_hk180_3 : ab_hok 180 3 [(1, 14, 3)] := ⟨fun h => (by cases h), fun q hq => by
  simp only [List.mem_cons, List.not_mem_nil, or_false] at hq
  rcases hq with rfl
  · exact ⟨[], ⟨0, 10, 13, 19⟩, [], by decide +kernel, (fun z hz => absurd hz List.not_mem_nil), ⟨by decide, by decide⟩, by decide +kernel, by decide, wf_743, wf_742, ⟨1, Or.inr ⟨3, rfl, by decide +kernel, rfl⟩, rfl⟩, by decide +kernel⟩⟩
theorem ab_hk181_3 : ab_hok 181 3 [(1, 14, 3)] := ⟨fun h => (by cases h), fun q hq => by
  simp only [List.mem_cons, List.not_mem_nil, or_false] at hq
  rcases hq with rfl
  · exact ⟨[], ⟨0, 10, 13, 19⟩, [], by decide +kernel, (fun z hz => absurd hz List.not_mem_nil), ⟨by decide, by decide⟩, by decide +kernel, by decide, wf_743, wf_742, ⟨1, Or.inr ⟨3, rfl, by decide +kernel, rfl⟩, rfl⟩, by decide +kernel⟩⟩
theorem ab_hk182_3 : ab_hok 182 3 [(2, 13, 3)] := ⟨fun h => (by cases h), fun q hq => by
  simp only [List.mem_cons, List.not_mem_nil, or_false] at hq
  rcases hq with rfl
  · exact ⟨[], ⟨0, 9, 12, 25⟩, [], by decide +kernel, (fun z hz => absurd hz List.not_mem_nil), ⟨by decide, by decide⟩, by decide +kernel, by decide, wf_750, wf_749, ⟨1, Or.inr ⟨3, rfl, by decide +kernel, rfl⟩, rfl⟩, by decide +kernel⟩⟩
theorem ab_hk183_3 : ab_hok 183 3 [(1, 14, 3)] := ⟨fun h => (by cases h), fun q hq => by
  simp only [List.mem_cons, List.not_mem_nil, or_false] at hq
  rcases hq with rfl
  · exact ⟨[], ⟨0, 10, 13, 19⟩, [], by decide +kernel, (fun z hz => absurd hz List.not_mem_nil), ⟨by decide, by decide⟩, by decide +kernel, by decide, wf_743, wf_742, ⟨1, Or.inr ⟨3, rfl, by decide +kernel, rfl⟩, rfl⟩, by decide +kernel⟩⟩
theorem ab_hk184_3 : ab_hok 184 3 [(1, 14, 3), (3, 17, 3)] := ⟨fun h => (by cases h), fun q hq => by
  simp only [List.mem_cons, List.not_mem_nil, or_false] at hq
  rcases hq with rfl | rfl
  · exact ⟨[], ⟨0, 10, 13, 19⟩, [⟨0, 10, 16, 27⟩], by decide +kernel, (fun z hz => absurd hz List.not_mem_nil), ⟨by decide, by decide⟩, by decide +kernel, by decide, wf_743, wf_742, ⟨1, Or.inr ⟨3, rfl, by decide +kernel, rfl⟩, rfl⟩, by decide +kernel⟩
  · exact ⟨[⟨0, 10, 13, 19⟩], ⟨0, 10, 16, 27⟩, [], by decide +kernel, (by intro z hz; simp only [List.mem_cons, List.not_mem_nil, or_false] at hz; rcases hz with rfl; exact ⟨by decide, 1, by decide, by decide, by decide, wf_743⟩), ⟨by decide, by decide⟩, by decide +kernel, by decide, wf_752, wf_751, ⟨1, Or.inr ⟨3, rfl, by decide +kernel, rfl⟩, rfl⟩, by decide +kernel⟩⟩
theorem ab_hk185_4 : ab_hok 185 4 [(2, 16, 4), (1, 20, 4)] := ⟨fun h => (by cases h), fun q hq => by
  simp only [List.mem_cons, List.not_mem_nil, or_false] at hq
  rcases hq with rfl | rfl
  · exact ⟨[], ⟨0, 11, 14, 25⟩, [⟨0, 11, 18, 19⟩], by decide +kernel, (fun z hz => absurd hz List.not_mem_nil), ⟨by decide, by decide⟩, by decide +kernel, by decide, wf_750, wf_749, ⟨2, Or.inl ⟨by decide +kernel, rfl⟩, rfl⟩, by decide +kernel⟩
  · exact ⟨[⟨0, 11, 14, 25⟩], ⟨0, 11, 18, 19⟩, [], by decide +kernel, (by intro z hz; simp only [List.mem_cons, List.not_mem_nil, or_false] at hz; rcases hz with rfl; exact ⟨by decide, 2, by decide, by decide, by decide, wf_750⟩), ⟨by decide, by decide⟩, by decide +kernel, by decide, wf_743, wf_742, ⟨2, Or.inl ⟨by decide +kernel, rfl⟩, rfl⟩, by decide +kernel⟩⟩
end
