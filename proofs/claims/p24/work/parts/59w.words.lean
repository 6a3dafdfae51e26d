set_option linter.all false
/-! WORDS OF THE STATEMENT that the start wants -/
theorem ab_TS_in : ∀ x ∈ ab_TS, Cond.stringRef x.1 x.2.1 x.2.2 ∈ tables_1 := by decide +kernel
