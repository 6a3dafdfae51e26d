set_option linter.all false
/-! WORDS OF THE STATEMENT that the start wants -/
theorem ab_LT_in : ∀ x ∈ ab_LT, Cond.stringRef x.1 x.2.1 x.2.2.1 ∈ tables_1 := by decide +kernel
theorem ab_TL : ∀ w ∈ ([.instantiable RX0 7, .instantiable RX1 15, .instantiable RX2 13, .instantiable RX3 2, .instantiable RX4 22, .instantiable RJ4 4, .instantiable RJ0 4, .arrayClass .int, .arrayClass .boolean, .arrayClass .byte, .arrayOver (.array .int), .laysStatic "java/lang/String" "COMPACT_STRINGS" "Z", .initialized "java/lang/String"] : List Cond), w ∈ tables_1 := by decide +kernel
