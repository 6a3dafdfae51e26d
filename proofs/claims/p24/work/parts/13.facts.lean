set_option linter.all false
/-! THE WORDS of the tables that the instructions want; printed by wip/px/gen_code.py -/
section
variable {B : ab_B}
set_option maxRecDepth 20000
theorem ab_pn : ∀ M, M < 211 → plainName (ab_my M).cls = true := by decide +kernel
theorem wf_0 : Cond.methodLink "Staggershelf$Rack" 3 Lib.objectInit ∈ ab_TG := ab_tg1 37 rfl rfl
theorem wf_1 : Cond.instanceMethod Lib.objectInit ∈ ab_TG := ab_tg1 30 rfl rfl
theorem wf_2 : Cond.code Lib.objectInit ⟨#[0xb1]⟩ 1 none ∈ ab_TG := ab_tg1 31 rfl rfl
theorem wf_3 : Cond.arrayClass .int ∈ ab_TG := ab_tg1 62 rfl rfl
theorem wf_4 : Cond.fieldLink "Staggershelf$Rack" 9 (TX0 2).1 (TX0 2).2.1 (TX0 2).2.2.1 ∈ ab_TG := ab_tg1 42 rfl rfl
theorem wf_5 : Cond.fieldLink "Staggershelf$Rack" 15 (TX0 3).1 (TX0 3).2.1 (TX0 3).2.2.1 ∈ ab_TG := ab_tg1 43 rfl rfl
theorem wf_6 : Cond.fieldLink "Staggershelf$Rack" 18 (TX0 4).1 (TX0 4).2.1 (TX0 4).2.2.1 ∈ ab_TG := ab_tg1 44 rfl rfl
theorem wf_7 : Cond.arrayClass .boolean ∈ ab_TG := ab_tg1 63 rfl rfl
theorem wf_8 : Cond.fieldLink "Staggershelf$Rack" 21 (TX0 5).1 (TX0 5).2.1 (TX0 5).2.2.1 ∈ ab_TG := ab_tg1 45 rfl rfl
theorem wf_9 : Cond.fieldLink "Staggershelf$Rack" 25 (TX0 6).1 (TX0 6).2.1 (TX0 6).2.2.1 ∈ ab_TG := ab_tg1 46 rfl rfl
theorem wf_10 : Cond.fieldLink "Staggershelf$Rack" 28 (TX0 0).1 (TX0 0).2.1 (TX0 0).2.2.1 ∈ ab_TG := ab_tg1 38 rfl rfl
theorem wf_11 : Cond.fieldLink "Staggershelf$Rack" 32 (TX0 1).1 (TX0 1).2.1 (TX0 1).2.2.1 ∈ ab_TG := ab_tg1 40 rfl rfl
theorem wf_12 : ab_cw 26 ∈ ab_TG ∧ plainName (ab_my 26).cls = true := ⟨ab_tg2 235 rfl rfl, ab_pn 26 (by decide)⟩
theorem wf_13 : Cond.methodLink "Staggershelf$Rack" 35 (ab_my 26) ∈ ab_TG := ab_tg2 232 rfl rfl
theorem wf_14 : Cond.instanceMethod (ab_my 26) ∈ ab_TG := ab_tg2 233 rfl rfl
theorem wf_15 : Cond.initialized (ab_my 26).cls ∈ ab_TG := ab_tg1 2 rfl rfl
theorem wf_16 : Cond.selects RX0 (ab_my 26) (ab_my 26) ∈ ab_TG := ab_tg2 234 rfl rfl
theorem wf_17 : ab_cw 5 ∈ ab_TG ∧ plainName (ab_my 5).cls = true := ⟨ab_tg1 168 rfl rfl, ab_pn 5 (by decide)⟩
theorem wf_18 : Cond.methodLink "Staggershelf$Rack" 39 (ab_my 5) ∈ ab_TG := ab_tg1 165 rfl rfl
theorem wf_19 : Cond.instanceMethod (ab_my 5) ∈ ab_TG := ab_tg1 166 rfl rfl
theorem wf_20 : Cond.selects RX0 (ab_my 5) (ab_my 5) ∈ ab_TG := ab_tg1 167 rfl rfl
theorem wf_21 : ab_cw 6 ∈ ab_TG ∧ plainName (ab_my 6).cls = true := ⟨ab_tg1 172 rfl rfl, ab_pn 6 (by decide)⟩
theorem wf_22 : Cond.methodLink "Staggershelf$Rack" 43 (ab_my 6) ∈ ab_TG := ab_tg2 184 rfl rfl
theorem wf_23 : Cond.instanceMethod (ab_my 6) ∈ ab_TG := ab_tg1 170 rfl rfl
theorem wf_24 : Cond.selects RX0 (ab_my 6) (ab_my 6) ∈ ab_TG := ab_tg1 171 rfl rfl
theorem wf_25 : ab_cw 9 ∈ ab_TG ∧ plainName (ab_my 9).cls = true := ⟨ab_tg1 180 rfl rfl, ab_pn 9 (by decide)⟩
theorem wf_26 : Cond.methodLink "Staggershelf$Rack" 47 (ab_my 9) ∈ ab_TG := ab_tg1 177 rfl rfl
theorem wf_27 : Cond.instanceMethod (ab_my 9) ∈ ab_TG := ab_tg1 178 rfl rfl
theorem wf_28 : Cond.selects RX0 (ab_my 9) (ab_my 9) ∈ ab_TG := ab_tg1 179 rfl rfl
theorem wf_29 : ab_cw 35 ∈ ab_TG ∧ plainName (ab_my 35).cls = true := ⟨ab_tg1 192 rfl rfl, ab_pn 35 (by decide)⟩
theorem wf_30 : Cond.methodLink "Staggershelf$Rack" 50 (ab_my 35) ∈ ab_TG := ab_tg1 189 rfl rfl
theorem wf_31 : Cond.instanceMethod (ab_my 35) ∈ ab_TG := ab_tg1 191 rfl rfl
theorem wf_32 : Cond.selects RX0 (ab_my 35) (ab_my 35) ∈ ab_TG := ab_tg_p (List.mem_of_getElem? (i := 0) rfl) rfl
theorem wf_33 : ab_cw 13 ∈ ab_TG ∧ plainName (ab_my 13).cls = true := ⟨ab_tg1 196 rfl rfl, ab_pn 13 (by decide)⟩
theorem wf_34 : Cond.methodLink "Staggershelf$Rack" 54 (ab_my 13) ∈ ab_TG := ab_tg1 193 rfl rfl
theorem wf_35 : Cond.instanceMethod (ab_my 13) ∈ ab_TG := ab_tg1 194 rfl rfl
theorem wf_36 : Cond.selects RX0 (ab_my 13) (ab_my 13) ∈ ab_TG := ab_tg1 195 rfl rfl
theorem wf_37 : ab_cw 34 ∈ ab_TG ∧ plainName (ab_my 34).cls = true := ⟨ab_tg1 200 rfl rfl, ab_pn 34 (by decide)⟩
theorem wf_38 : Cond.methodLink "Staggershelf$Rack" 58 (ab_my 34) ∈ ab_TG := ab_tg1 197 rfl rfl
theorem wf_39 : Cond.instanceMethod (ab_my 34) ∈ ab_TG := ab_tg1 199 rfl rfl
theorem wf_40 : Cond.selects RX0 (ab_my 34) (ab_my 34) ∈ ab_TG := ab_tg_p (List.mem_of_getElem? (i := 1) rfl) rfl
theorem wf_41 : ab_cw 15 ∈ ab_TG ∧ plainName (ab_my 15).cls = true := ⟨ab_tg1 188 rfl rfl, ab_pn 15 (by decide)⟩
theorem wf_42 : Cond.methodLink "Staggershelf$Rack" 61 (ab_my 15) ∈ ab_TG := ab_tg1 185 rfl rfl
theorem wf_43 : Cond.instanceMethod (ab_my 15) ∈ ab_TG := ab_tg1 186 rfl rfl
theorem wf_44 : Cond.selects RX0 (ab_my 15) (ab_my 15) ∈ ab_TG := ab_tg1 187 rfl rfl
theorem wf_45 : ab_cw 17 ∈ ab_TG ∧ plainName (ab_my 17).cls = true := ⟨ab_tg1 184 rfl rfl, ab_pn 17 (by decide)⟩
theorem wf_46 : Cond.methodLink "Staggershelf$Rack" 65 (ab_my 17) ∈ ab_TG := ab_tg1 181 rfl rfl
theorem wf_47 : Cond.instanceMethod (ab_my 17) ∈ ab_TG := ab_tg1 182 rfl rfl
theorem wf_48 : Cond.selects RX0 (ab_my 17) (ab_my 17) ∈ ab_TG := ab_tg1 183 rfl rfl
theorem wf_49 : ab_cw 11 ∈ ab_TG ∧ plainName (ab_my 11).cls = true := ⟨ab_tg1 204 rfl rfl, ab_pn 11 (by decide)⟩
theorem wf_50 : Cond.methodLink "Staggershelf$Rack" 68 (ab_my 11) ∈ ab_TG := ab_tg1 201 rfl rfl
theorem wf_51 : Cond.instanceMethod (ab_my 11) ∈ ab_TG := ab_tg1 202 rfl rfl
theorem wf_52 : Cond.selects RX0 (ab_my 11) (ab_my 11) ∈ ab_TG := ab_tg1 203 rfl rfl
theorem wf_53 : ab_cw 25 ∈ ab_TG ∧ plainName (ab_my 25).cls = true := ⟨ab_tg1 208 rfl rfl, ab_pn 25 (by decide)⟩
theorem wf_54 : Cond.methodLink "Staggershelf$Rack" 71 (ab_my 25) ∈ ab_TG := ab_tg1 205 rfl rfl
theorem wf_55 : Cond.instanceMethod (ab_my 25) ∈ ab_TG := ab_tg1 207 rfl rfl
theorem wf_56 : Cond.selects RX0 (ab_my 25) (ab_my 25) ∈ ab_TG := ab_tg_p (List.mem_of_getElem? (i := 2) rfl) rfl
theorem wf_57 : ab_cw 2 ∈ ab_TG ∧ plainName (ab_my 2).cls = true := ⟨ab_tg2 103 rfl rfl, ab_pn 2 (by decide)⟩
theorem wf_58 : Cond.methodLink "Staggershelf$Rack" 74 (ab_my 2) ∈ ab_TG := ab_tg3 123 rfl rfl
theorem wf_59 : Cond.instanceMethod (ab_my 2) ∈ ab_TG := ab_tg2 101 rfl rfl
theorem wf_60 : Cond.selects RX0 (ab_my 2) (ab_my 2) ∈ ab_TG := ab_tg2 102 rfl rfl
theorem wf_61 : ab_cw 7 ∈ ab_TG ∧ plainName (ab_my 7).cls = true := ⟨ab_tg2 183 rfl rfl, ab_pn 7 (by decide)⟩
theorem wf_62 : Cond.methodLink "Staggershelf$Rack" 77 (ab_my 7) ∈ ab_TG := ab_tg3 89 rfl rfl
theorem wf_63 : Cond.instanceMethod (ab_my 7) ∈ ab_TG := ab_tg2 181 rfl rfl
theorem wf_64 : Cond.selects RX0 (ab_my 7) (ab_my 7) ∈ ab_TG := ab_tg2 182 rfl rfl
theorem wf_65 : ab_cw 8 ∈ ab_TG ∧ plainName (ab_my 8).cls = true := ⟨ab_tg2 172 rfl rfl, ab_pn 8 (by decide)⟩
theorem wf_66 : Cond.methodLink "Staggershelf$Rack" 80 (ab_my 8) ∈ ab_TG := ab_tg3 188 rfl rfl
theorem wf_67 : Cond.instanceMethod (ab_my 8) ∈ ab_TG := ab_tg2 170 rfl rfl
theorem wf_68 : Cond.selects RX0 (ab_my 8) (ab_my 8) ∈ ab_TG := ab_tg2 171 rfl rfl
theorem wf_69 : ab_cw 31 ∈ ab_TG ∧ plainName (ab_my 31).cls = true := ⟨ab_tg3 88 rfl rfl, ab_pn 31 (by decide)⟩
theorem wf_70 : Cond.methodLink "Staggershelf$Rack" 83 (ab_my 31) ∈ ab_TG := ab_tg3 189 rfl rfl
theorem wf_71 : Cond.instanceMethod (ab_my 31) ∈ ab_TG := ab_tg3 86 rfl rfl
theorem wf_72 : Cond.selects RX0 (ab_my 31) (ab_my 31) ∈ ab_TG := ab_tg3 87 rfl rfl
theorem wf_73 : ab_cw 24 ∈ ab_TG ∧ plainName (ab_my 24).cls = true := ⟨ab_tg1 212 rfl rfl, ab_pn 24 (by decide)⟩
theorem wf_74 : Cond.methodLink "Staggershelf$Rack" 87 (ab_my 24) ∈ ab_TG := ab_tg1 209 rfl rfl
theorem wf_75 : Cond.instanceMethod (ab_my 24) ∈ ab_TG := ab_tg1 210 rfl rfl
theorem wf_76 : Cond.selects RX0 (ab_my 24) (ab_my 24) ∈ ab_TG := ab_tg1 211 rfl rfl
theorem wf_77 : Cond.methodLink "Staggershelf$Starts" 3 Lib.objectInit ∈ ab_TG := ab_tg1 69 rfl rfl
theorem wf_78 : Cond.fieldLink "Staggershelf$Starts" 9 (TX1 0).1 (TX1 0).2.1 (TX1 0).2.2.1 ∈ ab_TG := ab_tg1 70 rfl rfl
theorem wf_79 : Cond.fieldLink "Staggershelf$Starts" 15 (TX1 3).1 (TX1 3).2.1 (TX1 3).2.2.1 ∈ ab_TG := ab_tg1 74 rfl rfl
theorem wf_80 : Cond.fieldLink "Staggershelf$Starts" 19 (TX1 4).1 (TX1 4).2.1 (TX1 4).2.2.1 ∈ ab_TG := ab_tg1 75 rfl rfl
theorem wf_81 : Cond.fieldLink "Staggershelf$Starts" 22 (TX1 5).1 (TX1 5).2.1 (TX1 5).2.2.1 ∈ ab_TG := ab_tg1 76 rfl rfl
theorem wf_82 : Cond.fieldLink "Staggershelf$Starts" 25 (TX1 6).1 (TX1 6).2.1 (TX1 6).2.2.1 ∈ ab_TG := ab_tg1 77 rfl rfl
theorem wf_83 : Cond.fieldLink "Staggershelf$Starts" 28 (TX1 7).1 (TX1 7).2.1 (TX1 7).2.2.1 ∈ ab_TG := ab_tg1 78 rfl rfl
theorem wf_84 : Cond.fieldLink "Staggershelf$Starts" 31 (TX1 8).1 (TX1 8).2.1 (TX1 8).2.2.1 ∈ ab_TG := ab_tg1 79 rfl rfl
theorem wf_85 : Cond.fieldLink "Staggershelf$Starts" 34 (TX1 9).1 (TX1 9).2.1 (TX1 9).2.2.1 ∈ ab_TG := ab_tg1 80 rfl rfl
theorem wf_86 : Cond.fieldLink "Staggershelf$Starts" 37 (TX1 10).1 (TX1 10).2.1 (TX1 10).2.2.1 ∈ ab_TG := ab_tg1 81 rfl rfl
theorem wf_87 : Cond.fieldLink "Staggershelf$Starts" 40 (TX1 11).1 (TX1 11).2.1 (TX1 11).2.2.1 ∈ ab_TG := ab_tg1 82 rfl rfl
theorem wf_88 : Cond.fieldLink "Staggershelf$Starts" 43 (TX1 13).1 (TX1 13).2.1 (TX1 13).2.2.1 ∈ ab_TG := ab_tg1 84 rfl rfl
theorem wf_89 : Cond.fieldLink "Staggershelf$Starts" 46 (TX1 14).1 (TX1 14).2.1 (TX1 14).2.2.1 ∈ ab_TG := ab_tg1 85 rfl rfl
theorem wf_90 : Cond.fieldLink "Staggershelf$Starts" 49 (TX1 2).1 (TX1 2).2.1 (TX1 2).2.2.1 ∈ ab_TG := ab_tg1 73 rfl rfl
theorem wf_91 : ab_cw 52 ∈ ab_TG ∧ plainName (ab_my 52).cls = true := ⟨ab_tg3 3 rfl rfl, ab_pn 52 (by decide)⟩
theorem wf_92 : Cond.methodLink "Staggershelf$Starts" 52 (ab_my 52) ∈ ab_TG := ab_tg3 0 rfl rfl
theorem wf_93 : Cond.instanceMethod (ab_my 52) ∈ ab_TG := ab_tg3 2 rfl rfl
theorem wf_94 : Cond.initialized (ab_my 52).cls ∈ ab_TG := ab_tg1 3 rfl rfl
theorem wf_95 : Cond.selects RX1 (ab_my 52) (ab_my 52) ∈ ab_TG := ab_tg_p (List.mem_of_getElem? (i := 8) rfl) rfl
theorem wf_96 : Cond.fieldLink "Staggershelf$Starts" 55 (TX1 1).1 (TX1 1).2.1 (TX1 1).2.2.1 ∈ ab_TG := ab_tg1 72 rfl rfl
theorem wf_97 : ab_cw 49 ∈ ab_TG ∧ plainName (ab_my 49).cls = true := ⟨ab_tg1 224 rfl rfl, ab_pn 49 (by decide)⟩
theorem wf_98 : Cond.methodLink "Staggershelf$Starts" 58 (ab_my 49) ∈ ab_TG := ab_tg1 221 rfl rfl
theorem wf_99 : Cond.instanceMethod (ab_my 49) ∈ ab_TG := ab_tg1 223 rfl rfl
theorem wf_100 : Cond.selects RX1 (ab_my 49) (ab_my 49) ∈ ab_TG := ab_tg_p (List.mem_of_getElem? (i := 4) rfl) rfl
theorem wf_101 : ab_cw 51 ∈ ab_TG ∧ plainName (ab_my 51).cls = true := ⟨ab_tg1 220 rfl rfl, ab_pn 51 (by decide)⟩
theorem wf_102 : Cond.methodLink "Staggershelf$Starts" 62 (ab_my 51) ∈ ab_TG := ab_tg1 217 rfl rfl
theorem wf_103 : Cond.instanceMethod (ab_my 51) ∈ ab_TG := ab_tg1 219 rfl rfl
theorem wf_104 : Cond.selects RX1 (ab_my 51) (ab_my 51) ∈ ab_TG := ab_tg_p (List.mem_of_getElem? (i := 3) rfl) rfl
theorem wf_105 : ab_cw 50 ∈ ab_TG ∧ plainName (ab_my 50).cls = true := ⟨ab_tg1 228 rfl rfl, ab_pn 50 (by decide)⟩
theorem wf_106 : Cond.methodLink "Staggershelf$Starts" 66 (ab_my 50) ∈ ab_TG := ab_tg1 225 rfl rfl
theorem wf_107 : Cond.instanceMethod (ab_my 50) ∈ ab_TG := ab_tg1 227 rfl rfl
theorem wf_108 : Cond.selects RX1 (ab_my 50) (ab_my 50) ∈ ab_TG := ab_tg_p (List.mem_of_getElem? (i := 5) rfl) rfl
theorem wf_109 : ab_cw 53 ∈ ab_TG ∧ plainName (ab_my 53).cls = true := ⟨ab_tg3 7 rfl rfl, ab_pn 53 (by decide)⟩
theorem wf_110 : Cond.methodLink "Staggershelf$Starts" 70 (ab_my 53) ∈ ab_TG := ab_tg3 4 rfl rfl
theorem wf_111 : Cond.instanceMethod (ab_my 53) ∈ ab_TG := ab_tg3 6 rfl rfl
theorem wf_112 : Cond.selects RX1 (ab_my 53) (ab_my 53) ∈ ab_TG := ab_tg_p (List.mem_of_getElem? (i := 9) rfl) rfl
theorem wf_113 : ab_cw 54 ∈ ab_TG ∧ plainName (ab_my 54).cls = true := ⟨ab_tg3 12 rfl rfl, ab_pn 54 (by decide)⟩
theorem wf_114 : Cond.methodLink "Staggershelf$Starts" 74 (ab_my 54) ∈ ab_TG := ab_tg3 9 rfl rfl
theorem wf_115 : Cond.instanceMethod (ab_my 54) ∈ ab_TG := ab_tg3 11 rfl rfl
theorem wf_116 : Cond.selects RX1 (ab_my 54) (ab_my 54) ∈ ab_TG := ab_tg_p (List.mem_of_getElem? (i := 10) rfl) rfl
theorem wf_117 : ab_cw 42 ∈ ab_TG ∧ plainName (ab_my 42).cls = true := ⟨ab_tg2 140 rfl rfl, ab_pn 42 (by decide)⟩
theorem wf_118 : Cond.methodLink "Staggershelf$Starts" 78 (ab_my 42) ∈ ab_TG := ab_tg3 8 rfl rfl
theorem wf_119 : Cond.instanceMethod (ab_my 42) ∈ ab_TG := ab_tg2 138 rfl rfl
theorem wf_120 : Cond.selects RX1 (ab_my 42) (ab_my 42) ∈ ab_TG := ab_tg2 139 rfl rfl
theorem wf_121 : ab_cw 55 ∈ ab_TG ∧ plainName (ab_my 55).cls = true := ⟨ab_tg3 16 rfl rfl, ab_pn 55 (by decide)⟩
theorem wf_122 : Cond.methodLink "Staggershelf$Starts" 82 (ab_my 55) ∈ ab_TG := ab_tg3 13 rfl rfl
theorem wf_123 : Cond.instanceMethod (ab_my 55) ∈ ab_TG := ab_tg3 15 rfl rfl
theorem wf_124 : Cond.selects RX1 (ab_my 55) (ab_my 55) ∈ ab_TG := ab_tg_p (List.mem_of_getElem? (i := 11) rfl) rfl
theorem wf_125 : ab_cw 187 ∈ ab_TG ∧ plainName (ab_my 187).cls = true := ⟨ab_tg3 20 rfl rfl, ab_pn 187 (by decide)⟩
theorem wf_126 : Cond.methodLink "Staggershelf$Starts" 86 (ab_my 187) ∈ ab_TG := ab_tg3 17 rfl rfl
theorem wf_127 : Cond.instanceMethod (ab_my 187) ∈ ab_TG := ab_tg3 19 rfl rfl
theorem wf_128 : Cond.selects RX1 (ab_my 187) (ab_my 187) ∈ ab_TG := ab_tg_p (List.mem_of_getElem? (i := 12) rfl) rfl
theorem wf_129 : ab_cw 57 ∈ ab_TG ∧ plainName (ab_my 57).cls = true := ⟨ab_tg3 24 rfl rfl, ab_pn 57 (by decide)⟩
theorem wf_130 : Cond.methodLink "Staggershelf$Starts" 90 (ab_my 57) ∈ ab_TG := ab_tg3 21 rfl rfl
theorem wf_131 : Cond.instanceMethod (ab_my 57) ∈ ab_TG := ab_tg3 23 rfl rfl
theorem wf_132 : Cond.selects RX1 (ab_my 57) (ab_my 57) ∈ ab_TG := ab_tg_p (List.mem_of_getElem? (i := 13) rfl) rfl
theorem wf_133 : ab_cw 41 ∈ ab_TG ∧ plainName (ab_my 41).cls = true := ⟨ab_tg2 136 rfl rfl, ab_pn 41 (by decide)⟩
theorem wf_134 : Cond.methodLink "Staggershelf$Starts" 94 (ab_my 41) ∈ ab_TG := ab_tg3 31 rfl rfl
theorem wf_135 : Cond.instanceMethod (ab_my 41) ∈ ab_TG := ab_tg2 134 rfl rfl
theorem wf_136 : Cond.selects RX1 (ab_my 41) (ab_my 41) ∈ ab_TG := ab_tg2 135 rfl rfl
theorem wf_137 : Cond.methodLink "Staggershelf$Starts" 97 Lib.Math.max.name ∈ ab_TG := ab_tg3 28 rfl rfl
theorem wf_138 : Cond.static Lib.Math.max.name ∈ ab_TG := ab_tg3 29 rfl rfl
theorem wf_139 : Cond.initialized "java/lang/Math" ∈ ab_TG := ab_tg1 10 rfl rfl
theorem wf_140 : Cond.code Lib.Math.max.name Lib.Math.max.code 2 (some .int) ∈ ab_TG := ab_tg3 30 rfl rfl
theorem wf_141 : ab_cw 56 ∈ ab_TG ∧ plainName (ab_my 56).cls = true := ⟨ab_tg3 43 rfl rfl, ab_pn 56 (by decide)⟩
theorem wf_142 : Cond.methodLink "Staggershelf$Starts" 102 (ab_my 56) ∈ ab_TG := ab_tg3 40 rfl rfl
theorem wf_143 : Cond.instanceMethod (ab_my 56) ∈ ab_TG := ab_tg3 42 rfl rfl
theorem wf_144 : Cond.selects RX1 (ab_my 56) (ab_my 56) ∈ ab_TG := ab_tg_p (List.mem_of_getElem? (i := 16) rfl) rfl
theorem wf_145 : Cond.fieldLink "Staggershelf$Starts" 105 (TX1 12).1 (TX1 12).2.1 (TX1 12).2.2.1 ∈ ab_TG := ab_tg1 83 rfl rfl
theorem wf_146 : ab_cw 40 ∈ ab_TG ∧ plainName (ab_my 40).cls = true := ⟨ab_tg2 132 rfl rfl, ab_pn 40 (by decide)⟩
theorem wf_147 : Cond.methodLink "Staggershelf$Starts" 108 (ab_my 40) ∈ ab_TG := ab_tg3 44 rfl rfl
theorem wf_148 : Cond.instanceMethod (ab_my 40) ∈ ab_TG := ab_tg2 130 rfl rfl
theorem wf_149 : Cond.selects RX1 (ab_my 40) (ab_my 40) ∈ ab_TG := ab_tg2 131 rfl rfl
theorem wf_150 : Cond.methodLink "Staggershelf$Starts" 111 Lib.Math.min.name ∈ ab_TG := ab_tg3 25 rfl rfl
theorem wf_151 : Cond.static Lib.Math.min.name ∈ ab_TG := ab_tg3 26 rfl rfl
theorem wf_152 : Cond.code Lib.Math.min.name Lib.Math.min.code 2 (some .int) ∈ ab_TG := ab_tg3 27 rfl rfl
theorem wf_153 : ab_cw 59 ∈ ab_TG ∧ plainName (ab_my 59).cls = true := ⟨ab_tg3 35 rfl rfl, ab_pn 59 (by decide)⟩
theorem wf_154 : Cond.methodLink "Staggershelf$Starts" 114 (ab_my 59) ∈ ab_TG := ab_tg3 32 rfl rfl
theorem wf_155 : Cond.instanceMethod (ab_my 59) ∈ ab_TG := ab_tg3 34 rfl rfl
theorem wf_156 : Cond.selects RX1 (ab_my 59) (ab_my 59) ∈ ab_TG := ab_tg_p (List.mem_of_getElem? (i := 14) rfl) rfl
theorem wf_157 : ab_cw 58 ∈ ab_TG ∧ plainName (ab_my 58).cls = true := ⟨ab_tg3 39 rfl rfl, ab_pn 58 (by decide)⟩
theorem wf_158 : Cond.methodLink "Staggershelf$Starts" 118 (ab_my 58) ∈ ab_TG := ab_tg3 36 rfl rfl
theorem wf_159 : Cond.instanceMethod (ab_my 58) ∈ ab_TG := ab_tg3 38 rfl rfl
theorem wf_160 : Cond.selects RX1 (ab_my 58) (ab_my 58) ∈ ab_TG := ab_tg_p (List.mem_of_getElem? (i := 15) rfl) rfl
theorem wf_161 : Cond.methodLink "Staggershelf" 1 Lib.objectInit ∈ ab_TG := ab_tg1 29 rfl rfl
theorem wf_162 : Cond.classLink "Staggershelf" 7 RX0 ∈ ab_TG := ab_tg1 32 rfl rfl
theorem wf_163 : Cond.instantiable RX0 7 ∈ ab_TG := ab_tg1 33 rfl rfl
theorem wf_164 : Cond.initialized RX0 ∈ ab_TG := ab_tg1 2 rfl rfl
theorem wf_165 : ab_cw 0 ∈ ab_TG ∧ plainName (ab_my 0).cls = true := ⟨ab_tg1 36 rfl rfl, ab_pn 0 (by decide)⟩
theorem wf_166 : Cond.instanceMethod (ab_my 0) ∈ ab_TG := ab_tg1 35 rfl rfl
theorem wf_168 : Cond.fieldLink "Staggershelf" 10 (TX2 0).1 (TX2 0).2.1 (TX2 0).2.2.1 ∈ ab_TG := ab_tg1 117 rfl rfl
theorem wf_169 : Cond.classLink "Staggershelf" 16 RX1 ∈ ab_TG := ab_tg1 64 rfl rfl
theorem wf_170 : Cond.instantiable RX1 15 ∈ ab_TG := ab_tg1 65 rfl rfl
theorem wf_171 : Cond.initialized RX1 ∈ ab_TG := ab_tg1 3 rfl rfl
theorem wf_172 : ab_cw 36 ∈ ab_TG ∧ plainName (ab_my 36).cls = true := ⟨ab_tg1 68 rfl rfl, ab_pn 36 (by decide)⟩
theorem wf_173 : Cond.instanceMethod (ab_my 36) ∈ ab_TG := ab_tg1 67 rfl rfl
theorem wf_175 : Cond.fieldLink "Staggershelf" 19 (TX2 1).1 (TX2 1).2.1 (TX2 1).2.2.1 ∈ ab_TG := ab_tg1 118 rfl rfl
theorem wf_176 : Cond.fieldLink "Staggershelf" 23 (TX2 3).1 (TX2 3).2.1 (TX2 3).2.2.1 ∈ ab_TG := ab_tg1 120 rfl rfl
theorem wf_177 : Cond.fieldLink "Staggershelf" 27 (TX2 4).1 (TX2 4).2.1 (TX2 4).2.2.1 ∈ ab_TG := ab_tg1 121 rfl rfl
theorem wf_178 : Cond.fieldLink "Staggershelf" 30 (TX2 5).1 (TX2 5).2.1 (TX2 5).2.2.1 ∈ ab_TG := ab_tg1 122 rfl rfl
theorem wf_179 : Cond.classLink "Staggershelf" 33 (ab_ex 1) ∈ ab_TG := ab_tg2 28 rfl rfl
theorem wf_180 : Cond.initialized (ab_ex 1) ∈ ab_TG := ab_tg1 9 rfl rfl
theorem wf_185 : ab_cw 1 ∈ ab_TG ∧ plainName (ab_my 1).cls = true := ⟨ab_tg2 231 rfl rfl, ab_pn 1 (by decide)⟩
theorem wf_186 : Cond.methodLink "Staggershelf" 42 (ab_my 1) ∈ ab_TG := ab_tg2 228 rfl rfl
theorem wf_187 : Cond.instanceMethod (ab_my 1) ∈ ab_TG := ab_tg2 229 rfl rfl
theorem wf_188 : Cond.selects RX0 (ab_my 1) (ab_my 1) ∈ ab_TG := ab_tg2 230 rfl rfl
theorem wf_189 : ab_cw 37 ∈ ab_TG ∧ plainName (ab_my 37).cls = true := ⟨ab_tg2 239 rfl rfl, ab_pn 37 (by decide)⟩
theorem wf_190 : Cond.methodLink "Staggershelf" 46 (ab_my 37) ∈ ab_TG := ab_tg2 236 rfl rfl
theorem wf_191 : Cond.instanceMethod (ab_my 37) ∈ ab_TG := ab_tg2 237 rfl rfl
theorem wf_192 : Cond.selects RX1 (ab_my 37) (ab_my 37) ∈ ab_TG := ab_tg2 238 rfl rfl
theorem wf_193 : Cond.fieldLink "Staggershelf" 50 (TX2 2).1 (TX2 2).2.1 (TX2 2).2.2.1 ∈ ab_TG := ab_tg1 119 rfl rfl
theorem wf_194 : ab_cw 92 ∈ ab_TG ∧ plainName (ab_my 92).cls = true := ⟨ab_tg3 48 rfl rfl, ab_pn 92 (by decide)⟩
theorem wf_195 : Cond.methodLink "Staggershelf" 54 (ab_my 92) ∈ ab_TG := ab_tg3 45 rfl rfl
theorem wf_196 : Cond.instanceMethod (ab_my 92) ∈ ab_TG := ab_tg3 47 rfl rfl
theorem wf_197 : Cond.initialized (ab_my 92).cls ∈ ab_TG := ab_tg1 1 rfl rfl
theorem wf_198 : Cond.selects RX2 (ab_my 92) (ab_my 92) ∈ ab_TG := ab_tg_p (List.mem_of_getElem? (i := 17) rfl) rfl
theorem wf_199 : Cond.fieldLink "Staggershelf" 57 (TX2 6).1 (TX2 6).2.1 (TX2 6).2.2.1 ∈ ab_TG := ab_tg1 123 rfl rfl
theorem wf_200 : Cond.fieldLink "Staggershelf" 60 (TX2 7).1 (TX2 7).2.1 (TX2 7).2.2.1 ∈ ab_TG := ab_tg1 124 rfl rfl
theorem wf_201 : Cond.fieldLink "Staggershelf" 63 (TX2 8).1 (TX2 8).2.1 (TX2 8).2.2.1 ∈ ab_TG := ab_tg1 125 rfl rfl
theorem wf_202 : Cond.fieldLink "Staggershelf" 66 (TX2 9).1 (TX2 9).2.1 (TX2 9).2.2.1 ∈ ab_TG := ab_tg1 126 rfl rfl
theorem wf_203 : Cond.fieldLink "Staggershelf" 69 (TX2 10).1 (TX2 10).2.1 (TX2 10).2.2.1 ∈ ab_TG := ab_tg1 127 rfl rfl
theorem wf_204 : Cond.fieldLink "Staggershelf" 72 (TX2 11).1 (TX2 11).2.1 (TX2 11).2.2.1 ∈ ab_TG := ab_tg1 128 rfl rfl
theorem wf_205 : Cond.methodLink "Staggershelf" 75 (ab_my 5) ∈ ab_TG := ab_tg2 3 rfl rfl
theorem wf_206 : ab_cw 4 ∈ ab_TG ∧ plainName (ab_my 4).cls = true := ⟨ab_tg1 164 rfl rfl, ab_pn 4 (by decide)⟩
theorem wf_207 : Cond.methodLink "Staggershelf" 79 (ab_my 4) ∈ ab_TG := ab_tg1 161 rfl rfl
theorem wf_208 : Cond.instanceMethod (ab_my 4) ∈ ab_TG := ab_tg1 162 rfl rfl
theorem wf_209 : Cond.selects RX0 (ab_my 4) (ab_my 4) ∈ ab_TG := ab_tg1 163 rfl rfl
theorem wf_210 : Cond.classLink "Staggershelf" 83 (ab_ex 2) ∈ ab_TG := ab_tg2 104 rfl rfl
theorem wf_211 : Cond.initialized (ab_ex 2) ∈ ab_TG := ab_tg1 11 rfl rfl
theorem wf_216 : Cond.methodLink "Staggershelf" 90 (ab_my 6) ∈ ab_TG := ab_tg1 169 rfl rfl
theorem wf_217 : Cond.methodLink "Staggershelf" 94 (ab_my 17) ∈ ab_TG := ab_tg3 59 rfl rfl
theorem wf_218 : Cond.classLink "Staggershelf" 97 (ab_ex 3) ∈ ab_TG := ab_tg3 60 rfl rfl
theorem wf_219 : Cond.initialized (ab_ex 3) ∈ ab_TG := ab_tg1 12 rfl rfl
theorem wf_223 : ab_cw 27 ∈ ab_TG ∧ plainName (ab_my 27).cls = true := ⟨ab_tg3 79 rfl rfl, ab_pn 27 (by decide)⟩
theorem wf_224 : Cond.methodLink "Staggershelf" 102 (ab_my 27) ∈ ab_TG := ab_tg3 76 rfl rfl
theorem wf_225 : Cond.instanceMethod (ab_my 27) ∈ ab_TG := ab_tg3 77 rfl rfl
theorem wf_226 : Cond.selects RX0 (ab_my 27) (ab_my 27) ∈ ab_TG := ab_tg3 78 rfl rfl
theorem wf_227 : ab_cw 89 ∈ ab_TG ∧ plainName (ab_my 89).cls = true := ⟨ab_tg3 83 rfl rfl, ab_pn 89 (by decide)⟩
theorem wf_228 : Cond.methodLink "Staggershelf" 105 (ab_my 89) ∈ ab_TG := ab_tg3 80 rfl rfl
theorem wf_229 : Cond.instanceMethod (ab_my 89) ∈ ab_TG := ab_tg3 82 rfl rfl
theorem wf_230 : Cond.selects RX2 (ab_my 89) (ab_my 89) ∈ ab_TG := ab_tg_p (List.mem_of_getElem? (i := 18) rfl) rfl
theorem wf_231 : ab_cw 90 ∈ ab_TG ∧ plainName (ab_my 90).cls = true := ⟨ab_tg3 93 rfl rfl, ab_pn 90 (by decide)⟩
theorem wf_232 : Cond.methodLink "Staggershelf" 108 (ab_my 90) ∈ ab_TG := ab_tg3 90 rfl rfl
theorem wf_233 : Cond.instanceMethod (ab_my 90) ∈ ab_TG := ab_tg3 92 rfl rfl
theorem wf_234 : Cond.selects RX2 (ab_my 90) (ab_my 90) ∈ ab_TG := ab_tg_p (List.mem_of_getElem? (i := 19) rfl) rfl
theorem wf_235 : ab_cw 91 ∈ ab_TG ∧ plainName (ab_my 91).cls = true := ⟨ab_tg3 98 rfl rfl, ab_pn 91 (by decide)⟩
theorem wf_236 : Cond.methodLink "Staggershelf" 111 (ab_my 91) ∈ ab_TG := ab_tg3 95 rfl rfl
theorem wf_237 : Cond.instanceMethod (ab_my 91) ∈ ab_TG := ab_tg3 97 rfl rfl
theorem wf_238 : Cond.selects RX2 (ab_my 91) (ab_my 91) ∈ ab_TG := ab_tg_p (List.mem_of_getElem? (i := 20) rfl) rfl
theorem wf_239 : ab_cw 93 ∈ ab_TG ∧ plainName (ab_my 93).cls = true := ⟨ab_tg3 102 rfl rfl, ab_pn 93 (by decide)⟩
theorem wf_240 : Cond.methodLink "Staggershelf" 114 (ab_my 93) ∈ ab_TG := ab_tg3 99 rfl rfl
theorem wf_241 : Cond.instanceMethod (ab_my 93) ∈ ab_TG := ab_tg3 101 rfl rfl
theorem wf_242 : Cond.selects RX2 (ab_my 93) (ab_my 93) ∈ ab_TG := ab_tg_p (List.mem_of_getElem? (i := 21) rfl) rfl
theorem wf_244 : Cond.methodLink "Staggershelf" 119 (ab_my 7) ∈ ab_TG := ab_tg2 180 rfl rfl
theorem wf_245 : Cond.methodLink "Staggershelf" 122 (ab_my 24) ∈ ab_TG := ab_tg2 173 rfl rfl
theorem wf_246 : Cond.methodLink "Staggershelf" 126 (ab_my 15) ∈ ab_TG := ab_tg2 168 rfl rfl
theorem wf_247 : Cond.methodLink "Staggershelf" 130 (ab_my 2) ∈ ab_TG := ab_tg2 100 rfl rfl
theorem wf_249 : Cond.methodLink "Staggershelf" 135 (ab_my 13) ∈ ab_TG := ab_tg2 120 rfl rfl
theorem wf_251 : ab_cw 28 ∈ ab_TG ∧ plainName (ab_my 28).cls = true := ⟨ab_tg3 122 rfl rfl, ab_pn 28 (by decide)⟩
theorem wf_252 : Cond.methodLink "Staggershelf" 140 (ab_my 28) ∈ ab_TG := ab_tg3 119 rfl rfl
theorem wf_253 : Cond.instanceMethod (ab_my 28) ∈ ab_TG := ab_tg3 120 rfl rfl
theorem wf_254 : Cond.selects RX0 (ab_my 28) (ab_my 28) ∈ ab_TG := ab_tg3 121 rfl rfl
theorem wf_255 : ab_cw 23 ∈ ab_TG ∧ plainName (ab_my 23).cls = true := ⟨ab_tg2 23 rfl rfl, ab_pn 23 (by decide)⟩
theorem wf_256 : Cond.methodLink "Staggershelf" 143 (ab_my 23) ∈ ab_TG := ab_tg2 20 rfl rfl
theorem wf_257 : Cond.instanceMethod (ab_my 23) ∈ ab_TG := ab_tg2 21 rfl rfl
theorem wf_258 : Cond.selects RX0 (ab_my 23) (ab_my 23) ∈ ab_TG := ab_tg2 22 rfl rfl
theorem wf_259 : ab_cw 29 ∈ ab_TG ∧ plainName (ab_my 29).cls = true := ⟨ab_tg3 134 rfl rfl, ab_pn 29 (by decide)⟩
theorem wf_260 : Cond.methodLink "Staggershelf" 146 (ab_my 29) ∈ ab_TG := ab_tg3 131 rfl rfl
theorem wf_261 : Cond.instanceMethod (ab_my 29) ∈ ab_TG := ab_tg3 132 rfl rfl
theorem wf_262 : Cond.selects RX0 (ab_my 29) (ab_my 29) ∈ ab_TG := ab_tg3 133 rfl rfl
theorem wf_263 : ab_cw 3 ∈ ab_TG ∧ plainName (ab_my 3).cls = true := ⟨ab_tg2 161 rfl rfl, ab_pn 3 (by decide)⟩
theorem wf_264 : Cond.methodLink "Staggershelf" 149 (ab_my 3) ∈ ab_TG := ab_tg2 158 rfl rfl
theorem wf_265 : Cond.instanceMethod (ab_my 3) ∈ ab_TG := ab_tg2 159 rfl rfl
theorem wf_266 : Cond.selects RX0 (ab_my 3) (ab_my 3) ∈ ab_TG := ab_tg2 160 rfl rfl
theorem wf_270 : ab_cw 30 ∈ ab_TG ∧ plainName (ab_my 30).cls = true := ⟨ab_tg3 147 rfl rfl, ab_pn 30 (by decide)⟩
theorem wf_271 : Cond.methodLink "Staggershelf" 158 (ab_my 30) ∈ ab_TG := ab_tg3 144 rfl rfl
theorem wf_272 : Cond.instanceMethod (ab_my 30) ∈ ab_TG := ab_tg3 145 rfl rfl
theorem wf_273 : Cond.selects RX0 (ab_my 30) (ab_my 30) ∈ ab_TG := ab_tg3 146 rfl rfl
theorem wf_274 : Cond.methodLink "Staggershelf" 162 (ab_my 11) ∈ ab_TG := ab_tg2 163 rfl rfl
theorem wf_275 : ab_cw 95 ∈ ab_TG ∧ plainName (ab_my 95).cls = true := ⟨ab_tg3 158 rfl rfl, ab_pn 95 (by decide)⟩
theorem wf_276 : Cond.methodLink "Staggershelf" 165 (ab_my 95) ∈ ab_TG := ab_tg3 155 rfl rfl
theorem wf_277 : Cond.instanceMethod (ab_my 95) ∈ ab_TG := ab_tg3 157 rfl rfl
theorem wf_278 : Cond.selects RX2 (ab_my 95) (ab_my 95) ∈ ab_TG := ab_tg_p (List.mem_of_getElem? (i := 22) rfl) rfl
theorem wf_279 : ab_cw 96 ∈ ab_TG ∧ plainName (ab_my 96).cls = true := ⟨ab_tg3 163 rfl rfl, ab_pn 96 (by decide)⟩
theorem wf_280 : Cond.methodLink "Staggershelf" 168 (ab_my 96) ∈ ab_TG := ab_tg3 160 rfl rfl
theorem wf_281 : Cond.instanceMethod (ab_my 96) ∈ ab_TG := ab_tg3 162 rfl rfl
theorem wf_282 : Cond.selects RX2 (ab_my 96) (ab_my 96) ∈ ab_TG := ab_tg_p (List.mem_of_getElem? (i := 23) rfl) rfl
theorem wf_283 : ab_cw 10 ∈ ab_TG ∧ plainName (ab_my 10).cls = true := ⟨ab_tg3 167 rfl rfl, ab_pn 10 (by decide)⟩
theorem wf_284 : Cond.methodLink "Staggershelf" 171 (ab_my 10) ∈ ab_TG := ab_tg3 164 rfl rfl
theorem wf_285 : Cond.instanceMethod (ab_my 10) ∈ ab_TG := ab_tg3 165 rfl rfl
theorem wf_286 : Cond.selects RX0 (ab_my 10) (ab_my 10) ∈ ab_TG := ab_tg3 166 rfl rfl
theorem wf_289 : ab_cw 32 ∈ ab_TG ∧ plainName (ab_my 32).cls = true := ⟨ab_tg3 187 rfl rfl, ab_pn 32 (by decide)⟩
theorem wf_290 : Cond.methodLink "Staggershelf" 178 (ab_my 32) ∈ ab_TG := ab_tg3 184 rfl rfl
theorem wf_291 : Cond.instanceMethod (ab_my 32) ∈ ab_TG := ab_tg3 185 rfl rfl
theorem wf_292 : Cond.selects RX0 (ab_my 32) (ab_my 32) ∈ ab_TG := ab_tg3 186 rfl rfl
theorem wf_295 : Cond.methodLink "Staggershelf" 185 (ab_my 40) ∈ ab_TG := ab_tg2 129 rfl rfl
theorem wf_296 : ab_cw 38 ∈ ab_TG ∧ plainName (ab_my 38).cls = true := ⟨ab_tg3 202 rfl rfl, ab_pn 38 (by decide)⟩
theorem wf_297 : Cond.methodLink "Staggershelf" 188 (ab_my 38) ∈ ab_TG := ab_tg3 199 rfl rfl
theorem wf_298 : Cond.instanceMethod (ab_my 38) ∈ ab_TG := ab_tg3 200 rfl rfl
theorem wf_299 : Cond.selects RX1 (ab_my 38) (ab_my 38) ∈ ab_TG := ab_tg3 201 rfl rfl
theorem wf_301 : Cond.fieldLink "Staggershelf" 194 (TX1 0).1 (TX1 0).2.1 (TX1 0).2.2.1 ∈ ab_TG := ab_tg1 71 rfl rfl
theorem wf_302 : ab_cw 39 ∈ ab_TG ∧ plainName (ab_my 39).cls = true := ⟨ab_tg3 214 rfl rfl, ab_pn 39 (by decide)⟩
theorem wf_303 : Cond.methodLink "Staggershelf" 197 (ab_my 39) ∈ ab_TG := ab_tg3 211 rfl rfl
theorem wf_304 : Cond.instanceMethod (ab_my 39) ∈ ab_TG := ab_tg3 212 rfl rfl
theorem wf_305 : Cond.selects RX1 (ab_my 39) (ab_my 39) ∈ ab_TG := ab_tg3 213 rfl rfl
theorem wf_306 : Cond.fieldLink "Staggershelf" 200 (TX0 0).1 (TX0 0).2.1 (TX0 0).2.2.1 ∈ ab_TG := ab_tg1 39 rfl rfl
theorem wf_308 : ab_cw 43 ∈ ab_TG ∧ plainName (ab_my 43).cls = true := ⟨ab_tg2 27 rfl rfl, ab_pn 43 (by decide)⟩
theorem wf_309 : Cond.methodLink "Staggershelf" 205 (ab_my 43) ∈ ab_TG := ab_tg2 24 rfl rfl
theorem wf_310 : Cond.instanceMethod (ab_my 43) ∈ ab_TG := ab_tg2 25 rfl rfl
theorem wf_311 : Cond.selects RX1 (ab_my 43) (ab_my 43) ∈ ab_TG := ab_tg2 26 rfl rfl
theorem wf_313 : ab_cw 94 ∈ ab_TG ∧ plainName (ab_my 94).cls = true := ⟨ab_tg3 234 rfl rfl, ab_pn 94 (by decide)⟩
theorem wf_314 : Cond.methodLink "Staggershelf" 210 (ab_my 94) ∈ ab_TG := ab_tg3 231 rfl rfl
theorem wf_315 : Cond.instanceMethod (ab_my 94) ∈ ab_TG := ab_tg3 233 rfl rfl
theorem wf_316 : Cond.selects RX2 (ab_my 94) (ab_my 94) ∈ ab_TG := ab_tg_p (List.mem_of_getElem? (i := 24) rfl) rfl
theorem wf_319 : ab_cw 48 ∈ ab_TG ∧ plainName (ab_my 48).cls = true := ⟨ab_tg4 7 rfl rfl, ab_pn 48 (by decide)⟩
theorem wf_320 : Cond.methodLink "Staggershelf" 217 (ab_my 48) ∈ ab_TG := ab_tg4 4 rfl rfl
theorem wf_321 : Cond.instanceMethod (ab_my 48) ∈ ab_TG := ab_tg4 5 rfl rfl
theorem wf_322 : Cond.selects RX1 (ab_my 48) (ab_my 48) ∈ ab_TG := ab_tg4 6 rfl rfl
theorem wf_323 : ab_cw 12 ∈ ab_TG ∧ plainName (ab_my 12).cls = true := ⟨ab_tg2 167 rfl rfl, ab_pn 12 (by decide)⟩
theorem wf_324 : Cond.methodLink "Staggershelf" 220 (ab_my 12) ∈ ab_TG := ab_tg2 164 rfl rfl
theorem wf_325 : Cond.instanceMethod (ab_my 12) ∈ ab_TG := ab_tg2 165 rfl rfl
theorem wf_326 : Cond.selects RX0 (ab_my 12) (ab_my 12) ∈ ab_TG := ab_tg2 166 rfl rfl
theorem wf_327 : Cond.methodLink "Staggershelf" 223 (ab_my 8) ∈ ab_TG := ab_tg2 169 rfl rfl
theorem wf_329 : ab_cw 18 ∈ ab_TG ∧ plainName (ab_my 18).cls = true := ⟨ab_tg2 124 rfl rfl, ab_pn 18 (by decide)⟩
theorem wf_330 : Cond.methodLink "Staggershelf" 228 (ab_my 18) ∈ ab_TG := ab_tg2 121 rfl rfl
theorem wf_331 : Cond.instanceMethod (ab_my 18) ∈ ab_TG := ab_tg2 122 rfl rfl
theorem wf_332 : Cond.selects RX0 (ab_my 18) (ab_my 18) ∈ ab_TG := ab_tg2 123 rfl rfl
theorem wf_333 : ab_cw 14 ∈ ab_TG ∧ plainName (ab_my 14).cls = true := ⟨ab_tg2 128 rfl rfl, ab_pn 14 (by decide)⟩
theorem wf_334 : Cond.methodLink "Staggershelf" 231 (ab_my 14) ∈ ab_TG := ab_tg2 125 rfl rfl
theorem wf_335 : Cond.instanceMethod (ab_my 14) ∈ ab_TG := ab_tg2 126 rfl rfl
theorem wf_336 : Cond.selects RX0 (ab_my 14) (ab_my 14) ∈ ab_TG := ab_tg2 127 rfl rfl
theorem wf_337 : Cond.methodLink "Staggershelf" 234 (ab_my 41) ∈ ab_TG := ab_tg2 133 rfl rfl
theorem wf_338 : Cond.methodLink "Staggershelf" 237 (ab_my 42) ∈ ab_TG := ab_tg2 137 rfl rfl
theorem wf_339 : ab_cw 44 ∈ ab_TG ∧ plainName (ab_my 44).cls = true := ⟨ab_tg2 144 rfl rfl, ab_pn 44 (by decide)⟩
theorem wf_340 : Cond.methodLink "Staggershelf" 240 (ab_my 44) ∈ ab_TG := ab_tg2 141 rfl rfl
theorem wf_341 : Cond.instanceMethod (ab_my 44) ∈ ab_TG := ab_tg2 142 rfl rfl
theorem wf_342 : Cond.selects RX1 (ab_my 44) (ab_my 44) ∈ ab_TG := ab_tg2 143 rfl rfl
theorem wf_343 : ab_cw 45 ∈ ab_TG ∧ plainName (ab_my 45).cls = true := ⟨ab_tg2 148 rfl rfl, ab_pn 45 (by decide)⟩
theorem wf_344 : Cond.methodLink "Staggershelf" 243 (ab_my 45) ∈ ab_TG := ab_tg2 145 rfl rfl
theorem wf_345 : Cond.instanceMethod (ab_my 45) ∈ ab_TG := ab_tg2 146 rfl rfl
theorem wf_346 : Cond.selects RX1 (ab_my 45) (ab_my 45) ∈ ab_TG := ab_tg2 147 rfl rfl
theorem wf_348 : ab_cw 16 ∈ ab_TG ∧ plainName (ab_my 16).cls = true := ⟨ab_tg2 188 rfl rfl, ab_pn 16 (by decide)⟩
theorem wf_349 : Cond.methodLink "Staggershelf" 248 (ab_my 16) ∈ ab_TG := ab_tg2 185 rfl rfl
theorem wf_350 : Cond.instanceMethod (ab_my 16) ∈ ab_TG := ab_tg2 186 rfl rfl
theorem wf_351 : Cond.selects RX0 (ab_my 16) (ab_my 16) ∈ ab_TG := ab_tg2 187 rfl rfl
theorem wf_354 : Cond.fieldLink "Staggershelf" 255 (TX0 1).1 (TX0 1).2.1 (TX0 1).2.2.1 ∈ ab_TG := ab_tg1 41 rfl rfl
theorem wf_355 : ab_cw 22 ∈ ab_TG ∧ plainName (ab_my 22).cls = true := ⟨ab_tg2 7 rfl rfl, ab_pn 22 (by decide)⟩
theorem wf_356 : Cond.methodLink "Staggershelf" 258 (ab_my 22) ∈ ab_TG := ab_tg2 4 rfl rfl
theorem wf_357 : Cond.instanceMethod (ab_my 22) ∈ ab_TG := ab_tg2 5 rfl rfl
theorem wf_358 : Cond.selects RX0 (ab_my 22) (ab_my 22) ∈ ab_TG := ab_tg2 6 rfl rfl
theorem wf_359 : ab_cw 19 ∈ ab_TG ∧ plainName (ab_my 19).cls = true := ⟨ab_tg2 11 rfl rfl, ab_pn 19 (by decide)⟩
theorem wf_360 : Cond.methodLink "Staggershelf" 261 (ab_my 19) ∈ ab_TG := ab_tg2 8 rfl rfl
theorem wf_361 : Cond.instanceMethod (ab_my 19) ∈ ab_TG := ab_tg2 9 rfl rfl
theorem wf_362 : Cond.selects RX0 (ab_my 19) (ab_my 19) ∈ ab_TG := ab_tg2 10 rfl rfl
theorem wf_363 : ab_cw 20 ∈ ab_TG ∧ plainName (ab_my 20).cls = true := ⟨ab_tg2 15 rfl rfl, ab_pn 20 (by decide)⟩
theorem wf_364 : Cond.methodLink "Staggershelf" 264 (ab_my 20) ∈ ab_TG := ab_tg2 12 rfl rfl
theorem wf_365 : Cond.instanceMethod (ab_my 20) ∈ ab_TG := ab_tg2 13 rfl rfl
theorem wf_366 : Cond.selects RX0 (ab_my 20) (ab_my 20) ∈ ab_TG := ab_tg2 14 rfl rfl
theorem wf_367 : ab_cw 21 ∈ ab_TG ∧ plainName (ab_my 21).cls = true := ⟨ab_tg2 19 rfl rfl, ab_pn 21 (by decide)⟩
theorem wf_368 : Cond.methodLink "Staggershelf" 267 (ab_my 21) ∈ ab_TG := ab_tg2 16 rfl rfl
theorem wf_369 : Cond.instanceMethod (ab_my 21) ∈ ab_TG := ab_tg2 17 rfl rfl
theorem wf_370 : Cond.selects RX0 (ab_my 21) (ab_my 21) ∈ ab_TG := ab_tg2 18 rfl rfl
theorem wf_371 : Cond.fieldLink "Staggershelf" 270 (TX2 12).1 (TX2 12).2.1 (TX2 12).2.2.1 ∈ ab_TG := ab_tg1 129 rfl rfl
theorem wf_373 : Cond.classLink "Staggershelf" 275 RJ4 ∈ ab_TG := ab_tg4 35 rfl rfl
theorem wf_374 : Cond.instantiable RJ4 4 ∈ ab_TG := ab_tg4 36 rfl rfl
theorem wf_375 : Cond.initialized RJ4 ∈ ab_TG := ab_tg1 14 rfl rfl
theorem wf_376 : ab_cw 202 ∈ ab_TG ∧ plainName (ab_my 202).cls = true := ⟨ab_tg4 39 rfl rfl, ab_pn 202 (by decide)⟩
theorem wf_377 : Cond.instanceMethod (ab_my 202) ∈ ab_TG := ab_tg4 38 rfl rfl
theorem wf_378 : Cond.initialized (ab_my 202).cls ∈ ab_TG := ab_tg1 14 rfl rfl
theorem wf_379 : Cond.methodLink "Staggershelf" 277 (ab_my 202) ∈ ab_TG := ab_tg4 37 rfl rfl
theorem wf_380 : ab_cw 88 ∈ ab_TG ∧ plainName (ab_my 88).cls = true := ⟨ab_tg4 69 rfl rfl, ab_pn 88 (by decide)⟩
theorem wf_381 : Cond.methodLink "Staggershelf" 278 (ab_my 88) ∈ ab_TG := ab_tg4 66 rfl rfl
theorem wf_382 : Cond.instanceMethod (ab_my 88) ∈ ab_TG := ab_tg4 68 rfl rfl
theorem wf_383 : Cond.selects RX2 (ab_my 88) (ab_my 88) ∈ ab_TG := ab_tg_p (List.mem_of_getElem? (i := 25) rfl) rfl
theorem wf_384 : ab_cw 203 ∈ ab_TG ∧ plainName (ab_my 203).cls = true := ⟨ab_tg4 73 rfl rfl, ab_pn 203 (by decide)⟩
theorem wf_385 : Cond.methodLink "Staggershelf" 282 (ab_my 203) ∈ ab_TG := ab_tg4 70 rfl rfl
theorem wf_386 : Cond.instanceMethod (ab_my 203) ∈ ab_TG := ab_tg4 71 rfl rfl
theorem wf_387 : Cond.selects RJ4 (ab_my 203) (ab_my 203) ∈ ab_TG := ab_tg4 72 rfl rfl
theorem wf_388 : ab_cw 205 ∈ ab_TG ∧ plainName (ab_my 205).cls = true := ⟨ab_tg4 164 rfl rfl, ab_pn 205 (by decide)⟩
theorem wf_389 : Cond.methodLink "Staggershelf" 286 (ab_my 205) ∈ ab_TG := ab_tg4 161 rfl rfl
theorem wf_390 : Cond.instanceMethod (ab_my 205) ∈ ab_TG := ab_tg4 162 rfl rfl
theorem wf_391 : Cond.selects RJ4 (ab_my 205) (ab_my 205) ∈ ab_TG := ab_tg4 163 rfl rfl
theorem wf_393 : ab_cw 46 ∈ ab_TG ∧ plainName (ab_my 46).cls = true := ⟨ab_tg2 203 rfl rfl, ab_pn 46 (by decide)⟩
theorem wf_394 : Cond.methodLink "Staggershelf" 292 (ab_my 46) ∈ ab_TG := ab_tg2 200 rfl rfl
theorem wf_395 : Cond.instanceMethod (ab_my 46) ∈ ab_TG := ab_tg2 201 rfl rfl
theorem wf_396 : Cond.selects RX1 (ab_my 46) (ab_my 46) ∈ ab_TG := ab_tg2 202 rfl rfl
theorem wf_398 : ab_cw 33 ∈ ab_TG ∧ plainName (ab_my 33).cls = true := ⟨ab_tg1 176 rfl rfl, ab_pn 33 (by decide)⟩
theorem wf_399 : Cond.methodLink "Staggershelf" 297 (ab_my 33) ∈ ab_TG := ab_tg1 173 rfl rfl
theorem wf_400 : Cond.instanceMethod (ab_my 33) ∈ ab_TG := ab_tg1 174 rfl rfl
theorem wf_401 : Cond.selects RX0 (ab_my 33) (ab_my 33) ∈ ab_TG := ab_tg1 175 rfl rfl
theorem wf_402 : ab_cw 47 ∈ ab_TG ∧ plainName (ab_my 47).cls = true := ⟨ab_tg1 216 rfl rfl, ab_pn 47 (by decide)⟩
theorem wf_403 : Cond.methodLink "Staggershelf" 300 (ab_my 47) ∈ ab_TG := ab_tg1 213 rfl rfl
theorem wf_404 : Cond.instanceMethod (ab_my 47) ∈ ab_TG := ab_tg1 214 rfl rfl
theorem wf_405 : Cond.selects RX1 (ab_my 47) (ab_my 47) ∈ ab_TG := ab_tg1 215 rfl rfl
theorem wf_406 : Cond.constantLong "Staggershelf" 304 6661 ∈ ab_TG := ab_tg1 237 rfl rfl
theorem wf_407 : Cond.constantLong "Staggershelf" 306 31 ∈ ab_TG := ab_tg1 238 rfl rfl
theorem wf_408 : ab_cw 79 ∈ ab_TG ∧ plainName (ab_my 79).cls = true := ⟨ab_tg2 2 rfl rfl, ab_pn 79 (by decide)⟩
theorem wf_409 : Cond.methodLink "Staggershelf" 308 (ab_my 79) ∈ ab_TG := ab_tg1 239 rfl rfl
theorem wf_410 : Cond.instanceMethod (ab_my 79) ∈ ab_TG := ab_tg2 0 rfl rfl
theorem wf_411 : Cond.selects RX2 (ab_my 79) (ab_my 79) ∈ ab_TG := ab_tg2 1 rfl rfl
theorem wf_412 : ab_cw 76 ∈ ab_TG ∧ plainName (ab_my 76).cls = true := ⟨ab_tg2 99 rfl rfl, ab_pn 76 (by decide)⟩
theorem wf_413 : Cond.methodLink "Staggershelf" 311 (ab_my 76) ∈ ab_TG := ab_tg2 96 rfl rfl
theorem wf_414 : Cond.instanceMethod (ab_my 76) ∈ ab_TG := ab_tg2 97 rfl rfl
theorem wf_415 : Cond.selects RX2 (ab_my 76) (ab_my 76) ∈ ab_TG := ab_tg2 98 rfl rfl
theorem wf_416 : ab_cw 87 ∈ ab_TG ∧ plainName (ab_my 87).cls = true := ⟨ab_tg2 153 rfl rfl, ab_pn 87 (by decide)⟩
theorem wf_417 : Cond.methodLink "Staggershelf" 314 (ab_my 87) ∈ ab_TG := ab_tg2 150 rfl rfl
theorem wf_418 : Cond.instanceMethod (ab_my 87) ∈ ab_TG := ab_tg2 152 rfl rfl
theorem wf_419 : Cond.selects RX2 (ab_my 87) (ab_my 87) ∈ ab_TG := ab_tg_p (List.mem_of_getElem? (i := 7) rfl) rfl
theorem wf_420 : ab_cw 77 ∈ ab_TG ∧ plainName (ab_my 77).cls = true := ⟨ab_tg2 178 rfl rfl, ab_pn 77 (by decide)⟩
theorem wf_421 : Cond.methodLink "Staggershelf" 318 (ab_my 77) ∈ ab_TG := ab_tg2 175 rfl rfl
theorem wf_422 : Cond.instanceMethod (ab_my 77) ∈ ab_TG := ab_tg2 176 rfl rfl
theorem wf_423 : Cond.selects RX2 (ab_my 77) (ab_my 77) ∈ ab_TG := ab_tg2 177 rfl rfl
theorem wf_424 : ab_cw 78 ∈ ab_TG ∧ plainName (ab_my 78).cls = true := ⟨ab_tg2 193 rfl rfl, ab_pn 78 (by decide)⟩
theorem wf_425 : Cond.methodLink "Staggershelf" 321 (ab_my 78) ∈ ab_TG := ab_tg2 190 rfl rfl
theorem wf_426 : Cond.instanceMethod (ab_my 78) ∈ ab_TG := ab_tg2 191 rfl rfl
theorem wf_427 : Cond.selects RX2 (ab_my 78) (ab_my 78) ∈ ab_TG := ab_tg2 192 rfl rfl
theorem wf_428 : ab_cw 81 ∈ ab_TG ∧ plainName (ab_my 81).cls = true := ⟨ab_tg2 198 rfl rfl, ab_pn 81 (by decide)⟩
theorem wf_429 : Cond.methodLink "Staggershelf" 324 (ab_my 81) ∈ ab_TG := ab_tg2 195 rfl rfl
theorem wf_430 : Cond.instanceMethod (ab_my 81) ∈ ab_TG := ab_tg2 196 rfl rfl
theorem wf_431 : Cond.selects RX2 (ab_my 81) (ab_my 81) ∈ ab_TG := ab_tg2 197 rfl rfl
theorem wf_432 : ab_cw 84 ∈ ab_TG ∧ plainName (ab_my 84).cls = true := ⟨ab_tg1 160 rfl rfl, ab_pn 84 (by decide)⟩
theorem wf_433 : Cond.methodLink "Staggershelf" 327 (ab_my 84) ∈ ab_TG := ab_tg2 204 rfl rfl
theorem wf_434 : Cond.instanceMethod (ab_my 84) ∈ ab_TG := ab_tg1 158 rfl rfl
theorem wf_435 : Cond.selects RX2 (ab_my 84) (ab_my 84) ∈ ab_TG := ab_tg1 159 rfl rfl
theorem wf_436 : ab_cw 75 ∈ ab_TG ∧ plainName (ab_my 75).cls = true := ⟨ab_tg2 157 rfl rfl, ab_pn 75 (by decide)⟩
theorem wf_437 : Cond.methodLink "Staggershelf" 330 (ab_my 75) ∈ ab_TG := ab_tg2 154 rfl rfl
theorem wf_438 : Cond.instanceMethod (ab_my 75) ∈ ab_TG := ab_tg2 155 rfl rfl
theorem wf_439 : Cond.selects RX2 (ab_my 75) (ab_my 75) ∈ ab_TG := ab_tg2 156 rfl rfl
theorem wf_440 : Cond.methodLink "Staggershelf" 334 (ab_my 9) ∈ ab_TG := ab_tg3 84 rfl rfl
theorem wf_441 : Cond.methodLink "Staggershelf" 337 (ab_my 31) ∈ ab_TG := ab_tg3 85 rfl rfl
theorem wf_442 : Cond.methodLink "Staggershelf" 340 (ab_my 26) ∈ ab_TG := ab_tg3 94 rfl rfl
theorem wf_444 : Cond.methodLink "StaggershelfLaw$Out" 1 Lib.objectInit ∈ ab_TG := ab_tg2 210 rfl rfl
theorem wf_445 : Cond.methodLink "StaggershelfModel" 1 Lib.objectInit ∈ ab_TG := ab_tg5 83 rfl rfl
theorem wf_446 : Cond.classLink "StaggershelfModel" 7 "[[I" ∈ ab_TG := ab_tg5 84 rfl rfl
theorem wf_447 : Cond.fieldLink "StaggershelfModel" 9 (TX4 4).1 (TX4 4).2.1 (TX4 4).2.2.1 ∈ ab_TG := ab_tg5 91 rfl rfl
theorem wf_448 : Cond.fieldLink "StaggershelfModel" 14 (TX4 5).1 (TX4 5).2.1 (TX4 5).2.2.1 ∈ ab_TG := ab_tg5 92 rfl rfl
theorem wf_449 : Cond.fieldLink "StaggershelfModel" 17 (TX4 6).1 (TX4 6).2.1 (TX4 6).2.2.1 ∈ ab_TG := ab_tg5 93 rfl rfl
theorem wf_450 : Cond.fieldLink "StaggershelfModel" 21 (TX4 7).1 (TX4 7).2.1 (TX4 7).2.2.1 ∈ ab_TG := ab_tg5 94 rfl rfl
theorem wf_451 : Cond.fieldLink "StaggershelfModel" 25 (TX4 8).1 (TX4 8).2.1 (TX4 8).2.2.1 ∈ ab_TG := ab_tg5 95 rfl rfl
theorem wf_452 : Cond.fieldLink "StaggershelfModel" 28 (TX4 19).1 (TX4 19).2.1 (TX4 19).2.2.1 ∈ ab_TG := ab_tg5 106 rfl rfl
theorem wf_453 : Cond.classLink "StaggershelfModel" 32 "[I" ∈ ab_TG := ab_tg5 86 rfl rfl
theorem wf_454 : Cond.fieldLink "StaggershelfModel" 33 (TX4 21).1 (TX4 21).2.1 (TX4 21).2.2.1 ∈ ab_TG := ab_tg5 108 rfl rfl
theorem wf_455 : Cond.fieldLink "StaggershelfModel" 36 (TX4 0).1 (TX4 0).2.1 (TX4 0).2.2.1 ∈ ab_TG := ab_tg5 87 rfl rfl
theorem wf_456 : ab_cw 101 ∈ ab_TG ∧ plainName (ab_my 101).cls = true := ⟨ab_tg5 172 rfl rfl, ab_pn 101 (by decide)⟩
theorem wf_457 : Cond.methodLink "StaggershelfModel" 39 (ab_my 101) ∈ ab_TG := ab_tg5 169 rfl rfl
theorem wf_458 : Cond.instanceMethod (ab_my 101) ∈ ab_TG := ab_tg5 171 rfl rfl
theorem wf_459 : Cond.initialized (ab_my 101).cls ∈ ab_TG := ab_tg1 4 rfl rfl
theorem wf_460 : Cond.selects RX4 (ab_my 101) (ab_my 101) ∈ ab_TG := ab_tg_p (List.mem_of_getElem? (i := 27) rfl) rfl
theorem wf_461 : Cond.fieldLink "StaggershelfModel" 43 (TX4 1).1 (TX4 1).2.1 (TX4 1).2.2.1 ∈ ab_TG := ab_tg5 88 rfl rfl
theorem wf_462 : ab_cw 100 ∈ ab_TG ∧ plainName (ab_my 100).cls = true := ⟨ab_tg5 164 rfl rfl, ab_pn 100 (by decide)⟩
theorem wf_463 : Cond.methodLink "StaggershelfModel" 46 (ab_my 100) ∈ ab_TG := ab_tg5 162 rfl rfl
theorem wf_464 : Cond.static (ab_my 100) ∈ ab_TG := ab_tg5 163 rfl rfl
theorem wf_465 : Cond.fieldLink "StaggershelfModel" 50 (TX4 2).1 (TX4 2).2.1 (TX4 2).2.2.1 ∈ ab_TG := ab_tg5 89 rfl rfl
theorem wf_466 : ab_cw 106 ∈ ab_TG ∧ plainName (ab_my 106).cls = true := ⟨ab_tg5 176 rfl rfl, ab_pn 106 (by decide)⟩
theorem wf_467 : Cond.methodLink "StaggershelfModel" 53 (ab_my 106) ∈ ab_TG := ab_tg5 173 rfl rfl
theorem wf_468 : Cond.instanceMethod (ab_my 106) ∈ ab_TG := ab_tg5 175 rfl rfl
theorem wf_469 : Cond.selects RX4 (ab_my 106) (ab_my 106) ∈ ab_TG := ab_tg_p (List.mem_of_getElem? (i := 28) rfl) rfl
theorem wf_470 : ab_cw 107 ∈ ab_TG ∧ plainName (ab_my 107).cls = true := ⟨ab_tg5 192 rfl rfl, ab_pn 107 (by decide)⟩
theorem wf_471 : Cond.methodLink "StaggershelfModel" 57 (ab_my 107) ∈ ab_TG := ab_tg5 189 rfl rfl
theorem wf_472 : Cond.instanceMethod (ab_my 107) ∈ ab_TG := ab_tg5 191 rfl rfl
theorem wf_473 : Cond.selects RX4 (ab_my 107) (ab_my 107) ∈ ab_TG := ab_tg_p (List.mem_of_getElem? (i := 31) rfl) rfl
theorem wf_474 : ab_cw 108 ∈ ab_TG ∧ plainName (ab_my 108).cls = true := ⟨ab_tg5 212 rfl rfl, ab_pn 108 (by decide)⟩
theorem wf_475 : Cond.methodLink "StaggershelfModel" 61 (ab_my 108) ∈ ab_TG := ab_tg5 209 rfl rfl
theorem wf_476 : Cond.instanceMethod (ab_my 108) ∈ ab_TG := ab_tg5 211 rfl rfl
theorem wf_477 : Cond.selects RX4 (ab_my 108) (ab_my 108) ∈ ab_TG := ab_tg_p (List.mem_of_getElem? (i := 36) rfl) rfl
theorem wf_478 : ab_cw 111 ∈ ab_TG ∧ plainName (ab_my 111).cls = true := ⟨ab_tg5 200 rfl rfl, ab_pn 111 (by decide)⟩
theorem wf_479 : Cond.methodLink "StaggershelfModel" 64 (ab_my 111) ∈ ab_TG := ab_tg5 197 rfl rfl
theorem wf_480 : Cond.instanceMethod (ab_my 111) ∈ ab_TG := ab_tg5 199 rfl rfl
theorem wf_481 : Cond.selects RX4 (ab_my 111) (ab_my 111) ∈ ab_TG := ab_tg_p (List.mem_of_getElem? (i := 33) rfl) rfl
theorem wf_482 : ab_cw 113 ∈ ab_TG ∧ plainName (ab_my 113).cls = true := ⟨ab_tg5 196 rfl rfl, ab_pn 113 (by decide)⟩
theorem wf_483 : Cond.methodLink "StaggershelfModel" 68 (ab_my 113) ∈ ab_TG := ab_tg5 193 rfl rfl
theorem wf_484 : Cond.instanceMethod (ab_my 113) ∈ ab_TG := ab_tg5 195 rfl rfl
theorem wf_485 : Cond.selects RX4 (ab_my 113) (ab_my 113) ∈ ab_TG := ab_tg_p (List.mem_of_getElem? (i := 32) rfl) rfl
theorem wf_486 : ab_cw 114 ∈ ab_TG ∧ plainName (ab_my 114).cls = true := ⟨ab_tg5 208 rfl rfl, ab_pn 114 (by decide)⟩
theorem wf_487 : Cond.methodLink "StaggershelfModel" 71 (ab_my 114) ∈ ab_TG := ab_tg5 205 rfl rfl
theorem wf_488 : Cond.instanceMethod (ab_my 114) ∈ ab_TG := ab_tg5 207 rfl rfl
theorem wf_489 : Cond.selects RX4 (ab_my 114) (ab_my 114) ∈ ab_TG := ab_tg_p (List.mem_of_getElem? (i := 35) rfl) rfl
theorem wf_490 : ab_cw 112 ∈ ab_TG ∧ plainName (ab_my 112).cls = true := ⟨ab_tg5 180 rfl rfl, ab_pn 112 (by decide)⟩
theorem wf_491 : Cond.methodLink "StaggershelfModel" 75 (ab_my 112) ∈ ab_TG := ab_tg5 177 rfl rfl
theorem wf_492 : Cond.instanceMethod (ab_my 112) ∈ ab_TG := ab_tg5 179 rfl rfl
theorem wf_493 : Cond.selects RX4 (ab_my 112) (ab_my 112) ∈ ab_TG := ab_tg_p (List.mem_of_getElem? (i := 29) rfl) rfl
theorem wf_494 : Cond.fieldLink "StaggershelfModel" 79 (TX4 16).1 (TX4 16).2.1 (TX4 16).2.2.1 ∈ ab_TG := ab_tg5 103 rfl rfl
theorem wf_495 : ab_cw 109 ∈ ab_TG ∧ plainName (ab_my 109).cls = true := ⟨ab_tg5 224 rfl rfl, ab_pn 109 (by decide)⟩
theorem wf_496 : Cond.methodLink "StaggershelfModel" 82 (ab_my 109) ∈ ab_TG := ab_tg5 221 rfl rfl
theorem wf_497 : Cond.instanceMethod (ab_my 109) ∈ ab_TG := ab_tg5 223 rfl rfl
theorem wf_498 : Cond.selects RX4 (ab_my 109) (ab_my 109) ∈ ab_TG := ab_tg_p (List.mem_of_getElem? (i := 39) rfl) rfl
theorem wf_499 : ab_cw 115 ∈ ab_TG ∧ plainName (ab_my 115).cls = true := ⟨ab_tg5 216 rfl rfl, ab_pn 115 (by decide)⟩
theorem wf_500 : Cond.methodLink "StaggershelfModel" 85 (ab_my 115) ∈ ab_TG := ab_tg5 213 rfl rfl
theorem wf_501 : Cond.instanceMethod (ab_my 115) ∈ ab_TG := ab_tg5 215 rfl rfl
theorem wf_502 : Cond.selects RX4 (ab_my 115) (ab_my 115) ∈ ab_TG := ab_tg_p (List.mem_of_getElem? (i := 37) rfl) rfl
theorem wf_503 : ab_cw 117 ∈ ab_TG ∧ plainName (ab_my 117).cls = true := ⟨ab_tg5 220 rfl rfl, ab_pn 117 (by decide)⟩
theorem wf_504 : Cond.methodLink "StaggershelfModel" 88 (ab_my 117) ∈ ab_TG := ab_tg5 217 rfl rfl
theorem wf_505 : Cond.instanceMethod (ab_my 117) ∈ ab_TG := ab_tg5 219 rfl rfl
theorem wf_506 : Cond.selects RX4 (ab_my 117) (ab_my 117) ∈ ab_TG := ab_tg_p (List.mem_of_getElem? (i := 38) rfl) rfl
theorem wf_507 : Cond.fieldLink "StaggershelfModel" 91 (TX4 3).1 (TX4 3).2.1 (TX4 3).2.2.1 ∈ ab_TG := ab_tg5 90 rfl rfl
theorem wf_508 : Cond.fieldLink "StaggershelfModel" 95 (TX4 17).1 (TX4 17).2.1 (TX4 17).2.2.1 ∈ ab_TG := ab_tg5 104 rfl rfl
theorem wf_509 : Cond.fieldLink "StaggershelfModel" 98 (TX4 9).1 (TX4 9).2.1 (TX4 9).2.2.1 ∈ ab_TG := ab_tg5 96 rfl rfl
theorem wf_510 : ab_cw 121 ∈ ab_TG ∧ plainName (ab_my 121).cls = true := ⟨ab_tg5 228 rfl rfl, ab_pn 121 (by decide)⟩
theorem wf_511 : Cond.methodLink "StaggershelfModel" 101 (ab_my 121) ∈ ab_TG := ab_tg5 225 rfl rfl
theorem wf_512 : Cond.instanceMethod (ab_my 121) ∈ ab_TG := ab_tg5 227 rfl rfl
theorem wf_513 : Cond.selects RX4 (ab_my 121) (ab_my 121) ∈ ab_TG := ab_tg_p (List.mem_of_getElem? (i := 40) rfl) rfl
theorem wf_514 : ab_cw 102 ∈ ab_TG ∧ plainName (ab_my 102).cls = true := ⟨ab_tg5 168 rfl rfl, ab_pn 102 (by decide)⟩
theorem wf_515 : Cond.methodLink "StaggershelfModel" 105 (ab_my 102) ∈ ab_TG := ab_tg5 165 rfl rfl
theorem wf_516 : Cond.instanceMethod (ab_my 102) ∈ ab_TG := ab_tg5 167 rfl rfl
theorem wf_517 : Cond.selects RX4 (ab_my 102) (ab_my 102) ∈ ab_TG := ab_tg_p (List.mem_of_getElem? (i := 26) rfl) rfl
theorem wf_518 : Cond.fieldLink "StaggershelfModel" 108 (TX4 11).1 (TX4 11).2.1 (TX4 11).2.2.1 ∈ ab_TG := ab_tg5 98 rfl rfl
theorem wf_519 : Cond.fieldLink "StaggershelfModel" 111 (TX4 12).1 (TX4 12).2.1 (TX4 12).2.2.1 ∈ ab_TG := ab_tg5 99 rfl rfl
theorem wf_520 : Cond.fieldLink "StaggershelfModel" 114 (TX4 13).1 (TX4 13).2.1 (TX4 13).2.2.1 ∈ ab_TG := ab_tg5 100 rfl rfl
theorem wf_521 : Cond.fieldLink "StaggershelfModel" 117 (TX4 14).1 (TX4 14).2.1 (TX4 14).2.2.1 ∈ ab_TG := ab_tg5 101 rfl rfl
theorem wf_522 : Cond.fieldLink "StaggershelfModel" 120 (TX4 15).1 (TX4 15).2.1 (TX4 15).2.2.1 ∈ ab_TG := ab_tg5 102 rfl rfl
theorem wf_523 : ab_cw 105 ∈ ab_TG ∧ plainName (ab_my 105).cls = true := ⟨ab_tg5 188 rfl rfl, ab_pn 105 (by decide)⟩
theorem wf_524 : Cond.methodLink "StaggershelfModel" 123 (ab_my 105) ∈ ab_TG := ab_tg5 185 rfl rfl
theorem wf_525 : Cond.instanceMethod (ab_my 105) ∈ ab_TG := ab_tg5 187 rfl rfl
theorem wf_526 : Cond.selects RX4 (ab_my 105) (ab_my 105) ∈ ab_TG := ab_tg_p (List.mem_of_getElem? (i := 30) rfl) rfl
theorem wf_527 : ab_cw 116 ∈ ab_TG ∧ plainName (ab_my 116).cls = true := ⟨ab_tg5 204 rfl rfl, ab_pn 116 (by decide)⟩
theorem wf_528 : Cond.methodLink "StaggershelfModel" 127 (ab_my 116) ∈ ab_TG := ab_tg5 201 rfl rfl
theorem wf_529 : Cond.instanceMethod (ab_my 116) ∈ ab_TG := ab_tg5 203 rfl rfl
theorem wf_530 : Cond.selects RX4 (ab_my 116) (ab_my 116) ∈ ab_TG := ab_tg_p (List.mem_of_getElem? (i := 34) rfl) rfl
theorem wf_531 : ab_cw 119 ∈ ab_TG ∧ plainName (ab_my 119).cls = true := ⟨ab_tg5 232 rfl rfl, ab_pn 119 (by decide)⟩
theorem wf_532 : Cond.methodLink "StaggershelfModel" 130 (ab_my 119) ∈ ab_TG := ab_tg5 229 rfl rfl
theorem wf_533 : Cond.instanceMethod (ab_my 119) ∈ ab_TG := ab_tg5 231 rfl rfl
theorem wf_534 : Cond.selects RX4 (ab_my 119) (ab_my 119) ∈ ab_TG := ab_tg_p (List.mem_of_getElem? (i := 41) rfl) rfl
theorem wf_535 : ab_cw 103 ∈ ab_TG ∧ plainName (ab_my 103).cls = true := ⟨ab_tg6 4 rfl rfl, ab_pn 103 (by decide)⟩
theorem wf_536 : Cond.methodLink "StaggershelfModel" 133 (ab_my 103) ∈ ab_TG := ab_tg6 1 rfl rfl
theorem wf_537 : Cond.instanceMethod (ab_my 103) ∈ ab_TG := ab_tg6 3 rfl rfl
theorem wf_538 : Cond.selects RX4 (ab_my 103) (ab_my 103) ∈ ab_TG := ab_tg_p (List.mem_of_getElem? (i := 42) rfl) rfl
theorem wf_539 : ab_cw 118 ∈ ab_TG ∧ plainName (ab_my 118).cls = true := ⟨ab_tg6 8 rfl rfl, ab_pn 118 (by decide)⟩
theorem wf_540 : Cond.methodLink "StaggershelfModel" 136 (ab_my 118) ∈ ab_TG := ab_tg6 5 rfl rfl
theorem wf_541 : Cond.instanceMethod (ab_my 118) ∈ ab_TG := ab_tg6 7 rfl rfl
theorem wf_542 : Cond.selects RX4 (ab_my 118) (ab_my 118) ∈ ab_TG := ab_tg_p (List.mem_of_getElem? (i := 43) rfl) rfl
theorem wf_543 : ab_cw 104 ∈ ab_TG ∧ plainName (ab_my 104).cls = true := ⟨ab_tg6 20 rfl rfl, ab_pn 104 (by decide)⟩
theorem wf_544 : Cond.methodLink "StaggershelfModel" 139 (ab_my 104) ∈ ab_TG := ab_tg6 17 rfl rfl
theorem wf_545 : Cond.instanceMethod (ab_my 104) ∈ ab_TG := ab_tg6 19 rfl rfl
theorem wf_546 : Cond.selects RX4 (ab_my 104) (ab_my 104) ∈ ab_TG := ab_tg_p (List.mem_of_getElem? (i := 44) rfl) rfl
theorem wf_547 : ab_cw 128 ∈ ab_TG ∧ plainName (ab_my 128).cls = true := ⟨ab_tg6 28 rfl rfl, ab_pn 128 (by decide)⟩
theorem wf_548 : Cond.methodLink "StaggershelfModel" 142 (ab_my 128) ∈ ab_TG := ab_tg6 25 rfl rfl
theorem wf_549 : Cond.instanceMethod (ab_my 128) ∈ ab_TG := ab_tg6 27 rfl rfl
theorem wf_550 : Cond.selects RX4 (ab_my 128) (ab_my 128) ∈ ab_TG := ab_tg_p (List.mem_of_getElem? (i := 45) rfl) rfl
theorem wf_551 : ab_cw 110 ∈ ab_TG ∧ plainName (ab_my 110).cls = true := ⟨ab_tg6 40 rfl rfl, ab_pn 110 (by decide)⟩
theorem wf_552 : Cond.methodLink "StaggershelfModel" 145 (ab_my 110) ∈ ab_TG := ab_tg6 37 rfl rfl
theorem wf_553 : Cond.instanceMethod (ab_my 110) ∈ ab_TG := ab_tg6 39 rfl rfl
theorem wf_554 : Cond.selects RX4 (ab_my 110) (ab_my 110) ∈ ab_TG := ab_tg_p (List.mem_of_getElem? (i := 46) rfl) rfl
theorem wf_555 : ab_cw 132 ∈ ab_TG ∧ plainName (ab_my 132).cls = true := ⟨ab_tg6 79 rfl rfl, ab_pn 132 (by decide)⟩
theorem wf_556 : Cond.methodLink "StaggershelfModel" 148 (ab_my 132) ∈ ab_TG := ab_tg6 76 rfl rfl
theorem wf_557 : Cond.instanceMethod (ab_my 132) ∈ ab_TG := ab_tg6 78 rfl rfl
theorem wf_558 : Cond.selects RX4 (ab_my 132) (ab_my 132) ∈ ab_TG := ab_tg_p (List.mem_of_getElem? (i := 50) rfl) rfl
theorem wf_559 : Cond.fieldLink "StaggershelfModel" 152 (TX4 20).1 (TX4 20).2.1 (TX4 20).2.2.1 ∈ ab_TG := ab_tg5 107 rfl rfl
theorem wf_560 : Cond.methodLink "StaggershelfModel" 155 Lib.Math.max.name ∈ ab_TG := ab_tg6 84 rfl rfl
theorem wf_561 : Cond.methodLink "StaggershelfModel" 160 ⟨"[I", "clone", "()Ljava/lang/Object;"⟩ ∈ ab_TG := ab_tg6 68 rfl rfl
theorem wf_562 : Cond.sameMethod "[I" "java/lang/Object" "clone" "()Ljava/lang/Object;" ∈ ab_TG := ab_tg6 69 rfl rfl
theorem wf_563 : Cond.native ⟨"java/lang/Object", "clone", "()Ljava/lang/Object;"⟩ ∈ ab_TG := ab_tg4 99 rfl rfl
theorem wf_564 : Cond.instanceMethod ⟨"java/lang/Object", "clone", "()Ljava/lang/Object;"⟩ ∈ ab_TG := ab_tg4 100 rfl rfl
theorem wf_565 : Cond.selects "[I" ⟨"[I", "clone", "()Ljava/lang/Object;"⟩ ⟨"java/lang/Object", "clone", "()Ljava/lang/Object;"⟩ ∈ ab_TG := ab_tg6 70 rfl rfl
theorem wf_567 : ab_cw 133 ∈ ab_TG ∧ plainName (ab_my 133).cls = true := ⟨ab_tg6 75 rfl rfl, ab_pn 133 (by decide)⟩
theorem wf_568 : Cond.methodLink "StaggershelfModel" 164 (ab_my 133) ∈ ab_TG := ab_tg6 72 rfl rfl
theorem wf_569 : Cond.instanceMethod (ab_my 133) ∈ ab_TG := ab_tg6 74 rfl rfl
theorem wf_570 : Cond.selects RX4 (ab_my 133) (ab_my 133) ∈ ab_TG := ab_tg_p (List.mem_of_getElem? (i := 49) rfl) rfl
theorem wf_571 : ab_cw 136 ∈ ab_TG ∧ plainName (ab_my 136).cls = true := ⟨ab_tg6 67 rfl rfl, ab_pn 136 (by decide)⟩
theorem wf_572 : Cond.methodLink "StaggershelfModel" 168 (ab_my 136) ∈ ab_TG := ab_tg6 64 rfl rfl
theorem wf_573 : Cond.instanceMethod (ab_my 136) ∈ ab_TG := ab_tg6 66 rfl rfl
theorem wf_574 : Cond.selects RX4 (ab_my 136) (ab_my 136) ∈ ab_TG := ab_tg_p (List.mem_of_getElem? (i := 48) rfl) rfl
theorem wf_575 : ab_cw 134 ∈ ab_TG ∧ plainName (ab_my 134).cls = true := ⟨ab_tg6 83 rfl rfl, ab_pn 134 (by decide)⟩
theorem wf_576 : Cond.methodLink "StaggershelfModel" 172 (ab_my 134) ∈ ab_TG := ab_tg6 80 rfl rfl
theorem wf_577 : Cond.instanceMethod (ab_my 134) ∈ ab_TG := ab_tg6 82 rfl rfl
theorem wf_578 : Cond.selects RX4 (ab_my 134) (ab_my 134) ∈ ab_TG := ab_tg_p (List.mem_of_getElem? (i := 51) rfl) rfl
theorem wf_579 : ab_cw 135 ∈ ab_TG ∧ plainName (ab_my 135).cls = true := ⟨ab_tg6 63 rfl rfl, ab_pn 135 (by decide)⟩
theorem wf_580 : Cond.methodLink "StaggershelfModel" 176 (ab_my 135) ∈ ab_TG := ab_tg6 61 rfl rfl
theorem wf_581 : Cond.static (ab_my 135) ∈ ab_TG := ab_tg6 62 rfl rfl
theorem wf_582 : Cond.fieldLink "StaggershelfModel" 180 (TX4 10).1 (TX4 10).2.1 (TX4 10).2.2.1 ∈ ab_TG := ab_tg5 97 rfl rfl
theorem wf_583 : ab_cw 137 ∈ ab_TG ∧ plainName (ab_my 137).cls = true := ⟨ab_tg6 60 rfl rfl, ab_pn 137 (by decide)⟩
theorem wf_584 : Cond.methodLink "StaggershelfModel" 183 (ab_my 137) ∈ ab_TG := ab_tg6 57 rfl rfl
theorem wf_585 : Cond.instanceMethod (ab_my 137) ∈ ab_TG := ab_tg6 59 rfl rfl
theorem wf_586 : Cond.selects RX4 (ab_my 137) (ab_my 137) ∈ ab_TG := ab_tg_p (List.mem_of_getElem? (i := 47) rfl) rfl
theorem wf_587 : ab_cw 120 ∈ ab_TG ∧ plainName (ab_my 120).cls = true := ⟨ab_tg6 88 rfl rfl, ab_pn 120 (by decide)⟩
theorem wf_588 : Cond.methodLink "StaggershelfModel" 187 (ab_my 120) ∈ ab_TG := ab_tg6 85 rfl rfl
theorem wf_589 : Cond.instanceMethod (ab_my 120) ∈ ab_TG := ab_tg6 87 rfl rfl
theorem wf_590 : Cond.selects RX4 (ab_my 120) (ab_my 120) ∈ ab_TG := ab_tg_p (List.mem_of_getElem? (i := 52) rfl) rfl
theorem wf_591 : ab_cw 142 ∈ ab_TG ∧ plainName (ab_my 142).cls = true := ⟨ab_tg6 96 rfl rfl, ab_pn 142 (by decide)⟩
theorem wf_592 : Cond.methodLink "StaggershelfModel" 190 (ab_my 142) ∈ ab_TG := ab_tg6 93 rfl rfl
theorem wf_593 : Cond.instanceMethod (ab_my 142) ∈ ab_TG := ab_tg6 95 rfl rfl
theorem wf_594 : Cond.selects RX4 (ab_my 142) (ab_my 142) ∈ ab_TG := ab_tg_p (List.mem_of_getElem? (i := 53) rfl) rfl
theorem wf_595 : ab_cw 144 ∈ ab_TG ∧ plainName (ab_my 144).cls = true := ⟨ab_tg6 104 rfl rfl, ab_pn 144 (by decide)⟩
theorem wf_596 : Cond.methodLink "StaggershelfModel" 193 (ab_my 144) ∈ ab_TG := ab_tg6 101 rfl rfl
theorem wf_597 : Cond.instanceMethod (ab_my 144) ∈ ab_TG := ab_tg6 103 rfl rfl
theorem wf_598 : Cond.selects RX4 (ab_my 144) (ab_my 144) ∈ ab_TG := ab_tg_p (List.mem_of_getElem? (i := 54) rfl) rfl
theorem wf_599 : ab_cw 146 ∈ ab_TG ∧ plainName (ab_my 146).cls = true := ⟨ab_tg6 112 rfl rfl, ab_pn 146 (by decide)⟩
theorem wf_600 : Cond.methodLink "StaggershelfModel" 196 (ab_my 146) ∈ ab_TG := ab_tg6 109 rfl rfl
theorem wf_601 : Cond.instanceMethod (ab_my 146) ∈ ab_TG := ab_tg6 111 rfl rfl
theorem wf_602 : Cond.selects RX4 (ab_my 146) (ab_my 146) ∈ ab_TG := ab_tg_p (List.mem_of_getElem? (i := 55) rfl) rfl
theorem wf_603 : ab_cw 148 ∈ ab_TG ∧ plainName (ab_my 148).cls = true := ⟨ab_tg6 120 rfl rfl, ab_pn 148 (by decide)⟩
theorem wf_604 : Cond.methodLink "StaggershelfModel" 199 (ab_my 148) ∈ ab_TG := ab_tg6 117 rfl rfl
theorem wf_605 : Cond.instanceMethod (ab_my 148) ∈ ab_TG := ab_tg6 119 rfl rfl
theorem wf_606 : Cond.selects RX4 (ab_my 148) (ab_my 148) ∈ ab_TG := ab_tg_p (List.mem_of_getElem? (i := 56) rfl) rfl
theorem wf_607 : ab_cw 150 ∈ ab_TG ∧ plainName (ab_my 150).cls = true := ⟨ab_tg6 128 rfl rfl, ab_pn 150 (by decide)⟩
theorem wf_608 : Cond.methodLink "StaggershelfModel" 202 (ab_my 150) ∈ ab_TG := ab_tg6 125 rfl rfl
theorem wf_609 : Cond.instanceMethod (ab_my 150) ∈ ab_TG := ab_tg6 127 rfl rfl
theorem wf_610 : Cond.selects RX4 (ab_my 150) (ab_my 150) ∈ ab_TG := ab_tg_p (List.mem_of_getElem? (i := 57) rfl) rfl
theorem wf_611 : Cond.fieldLink "StaggershelfModel" 205 (TX4 18).1 (TX4 18).2.1 (TX4 18).2.2.1 ∈ ab_TG := ab_tg5 105 rfl rfl
theorem wf_612 : ab_cw 152 ∈ ab_TG ∧ plainName (ab_my 152).cls = true := ⟨ab_tg6 136 rfl rfl, ab_pn 152 (by decide)⟩
theorem wf_613 : Cond.methodLink "StaggershelfModel" 208 (ab_my 152) ∈ ab_TG := ab_tg6 133 rfl rfl
theorem wf_614 : Cond.instanceMethod (ab_my 152) ∈ ab_TG := ab_tg6 135 rfl rfl
theorem wf_615 : Cond.selects RX4 (ab_my 152) (ab_my 152) ∈ ab_TG := ab_tg_p (List.mem_of_getElem? (i := 58) rfl) rfl
theorem wf_617 : Cond.classLink "StaggershelfModel" 213 RJ4 ∈ ab_TG := ab_tg6 142 rfl rfl
theorem wf_618 : Cond.methodLink "StaggershelfModel" 215 (ab_my 202) ∈ ab_TG := ab_tg6 143 rfl rfl
theorem wf_623 : ab_cw 204 ∈ ab_TG ∧ plainName (ab_my 204).cls = true := ⟨ab_tg4 238 rfl rfl, ab_pn 204 (by decide)⟩
theorem wf_624 : Cond.methodLink "StaggershelfModel" 224 (ab_my 204) ∈ ab_TG := ab_tg6 148 rfl rfl
theorem wf_625 : Cond.instanceMethod (ab_my 204) ∈ ab_TG := ab_tg4 236 rfl rfl
theorem wf_626 : Cond.selects RJ4 (ab_my 204) (ab_my 204) ∈ ab_TG := ab_tg4 237 rfl rfl
theorem wf_627 : Cond.methodLink "StaggershelfModel" 228 (ab_my 205) ∈ ab_TG := ab_tg6 149 rfl rfl
theorem wf_628 : ab_cw 155 ∈ ab_TG ∧ plainName (ab_my 155).cls = true := ⟨ab_tg6 157 rfl rfl, ab_pn 155 (by decide)⟩
theorem wf_629 : Cond.methodLink "StaggershelfModel" 232 (ab_my 155) ∈ ab_TG := ab_tg6 154 rfl rfl
theorem wf_630 : Cond.instanceMethod (ab_my 155) ∈ ab_TG := ab_tg6 156 rfl rfl
theorem wf_631 : Cond.selects RX4 (ab_my 155) (ab_my 155) ∈ ab_TG := ab_tg_p (List.mem_of_getElem? (i := 59) rfl) rfl
theorem wf_632 : ab_cw 159 ∈ ab_TG ∧ plainName (ab_my 159).cls = true := ⟨ab_tg6 173 rfl rfl, ab_pn 159 (by decide)⟩
theorem wf_633 : Cond.methodLink "StaggershelfModel" 235 (ab_my 159) ∈ ab_TG := ab_tg6 170 rfl rfl
theorem wf_634 : Cond.instanceMethod (ab_my 159) ∈ ab_TG := ab_tg6 172 rfl rfl
theorem wf_635 : Cond.selects RX4 (ab_my 159) (ab_my 159) ∈ ab_TG := ab_tg_p (List.mem_of_getElem? (i := 60) rfl) rfl
theorem wf_636 : Cond.constantLong "StaggershelfModel" 239 6661 ∈ ab_TG := ab_tg6 182 rfl rfl
theorem wf_637 : Cond.constantLong "StaggershelfModel" 241 31 ∈ ab_TG := ab_tg6 183 rfl rfl
theorem wf_638 : Cond.methodLink "java/lang/AbstractStringBuilder" 3 Lib.objectInit ∈ ab_TG := ab_tg4 43 rfl rfl
theorem wf_639 : Cond.fieldLink "java/lang/AbstractStringBuilder" 18 "java/lang/String" "COMPACT_STRINGS" "Z" ∈ ab_TG := ab_tg4 44 rfl rfl
theorem wf_640 : Cond.arrayClass .byte ∈ ab_TG := ab_tg2 95 rfl rfl
theorem wf_641 : Cond.fieldLink "java/lang/AbstractStringBuilder" 15 (TJ4 0).1 (TJ4 0).2.1 (TJ4 0).2.2.1 ∈ ab_TG := ab_tg4 53 rfl rfl
theorem wf_642 : Cond.fieldLink "java/lang/AbstractStringBuilder" 22 (TJ4 1).1 (TJ4 1).2.1 (TJ4 1).2.2.1 ∈ ab_TG := ab_tg4 54 rfl rfl
theorem wf_643 : Cond.fieldLink "java/lang/AbstractStringBuilder" 79 (TJ4 3).1 (TJ4 3).2.1 (TJ4 3).2.2.1 ∈ ab_TG := ab_tg4 56 rfl rfl
theorem wf_644 : ab_cw 191 ∈ ab_TG ∧ plainName (ab_my 191).cls = true := ⟨ab_tg4 80 rfl rfl, ab_pn 191 (by decide)⟩
theorem wf_645 : Cond.methodLink "java/lang/AbstractStringBuilder" 100 (ab_my 191) ∈ ab_TG := ab_tg4 77 rfl rfl
theorem wf_646 : Cond.instanceMethod (ab_my 191) ∈ ab_TG := ab_tg4 79 rfl rfl
theorem wf_647 : Cond.initialized (ab_my 191).cls ∈ ab_TG := ab_tg1 13 rfl rfl
theorem wf_649 : ab_cw 194 ∈ ab_TG ∧ plainName (ab_my 194).cls = true := ⟨ab_tg4 112 rfl rfl, ab_pn 194 (by decide)⟩
theorem wf_650 : Cond.methodLink "java/lang/AbstractStringBuilder" 83 (ab_my 194) ∈ ab_TG := ab_tg4 108 rfl rfl
theorem wf_651 : Cond.instanceMethod (ab_my 194) ∈ ab_TG := ab_tg4 109 rfl rfl
theorem wf_652 : Cond.selects RJ4 (ab_my 194) (ab_my 194) ∈ ab_TG := ab_tg4 111 rfl rfl
theorem wf_653 : ab_cw 207 ∈ ab_TG ∧ plainName (ab_my 207).cls = true := ⟨ab_tg4 115 rfl rfl, ab_pn 207 (by decide)⟩
theorem wf_654 : Cond.methodLink "java/lang/AbstractStringBuilder" 191 (ab_my 207) ∈ ab_TG := ab_tg4 113 rfl rfl
theorem wf_655 : Cond.static (ab_my 207) ∈ ab_TG := ab_tg4 114 rfl rfl
theorem wf_656 : Cond.initialized (ab_my 207).cls ∈ ab_TG := ab_tg1 20 rfl rfl
theorem wf_657 : ab_cw 201 ∈ ab_TG ∧ plainName (ab_my 201).cls = true := ⟨ab_tg5 12 rfl rfl, ab_pn 201 (by decide)⟩
theorem wf_658 : Cond.methodLink "java/lang/AbstractStringBuilder" 32 (ab_my 201) ∈ ab_TG := ab_tg5 9 rfl rfl
theorem wf_659 : Cond.instanceMethod (ab_my 201) ∈ ab_TG := ab_tg5 10 rfl rfl
theorem wf_660 : Cond.selects "java/lang/String" (ab_my 201) (ab_my 201) ∈ ab_TG := ab_tg5 11 rfl rfl
theorem wf_661 : Cond.initialized (ab_my 201).cls ∈ ab_TG := ab_tg1 15 rfl rfl
theorem wf_662 : ab_cw 196 ∈ ab_TG ∧ plainName (ab_my 196).cls = true := ⟨ab_tg5 21 rfl rfl, ab_pn 196 (by decide)⟩
theorem wf_663 : Cond.methodLink "java/lang/AbstractStringBuilder" 208 (ab_my 196) ∈ ab_TG := ab_tg5 18 rfl rfl
theorem wf_664 : Cond.instanceMethod (ab_my 196) ∈ ab_TG := ab_tg5 20 rfl rfl
theorem wf_666 : ab_cw 199 ∈ ab_TG ∧ plainName (ab_my 199).cls = true := ⟨ab_tg5 16 rfl rfl, ab_pn 199 (by decide)⟩
theorem wf_667 : Cond.methodLink "java/lang/AbstractStringBuilder" 40 (ab_my 199) ∈ ab_TG := ab_tg5 26 rfl rfl
theorem wf_668 : Cond.instanceMethod (ab_my 199) ∈ ab_TG := ab_tg5 14 rfl rfl
theorem wf_669 : Cond.selects "java/lang/String" (ab_my 199) (ab_my 199) ∈ ab_TG := ab_tg5 15 rfl rfl
theorem wf_670 : ab_cw 193 ∈ ab_TG ∧ plainName (ab_my 193).cls = true := ⟨ab_tg5 25 rfl rfl, ab_pn 193 (by decide)⟩
theorem wf_671 : Cond.methodLink "java/lang/AbstractStringBuilder" 397 (ab_my 193) ∈ ab_TG := ab_tg5 22 rfl rfl
theorem wf_672 : Cond.instanceMethod (ab_my 193) ∈ ab_TG := ab_tg5 24 rfl rfl
theorem wf_674 : ab_cw 200 ∈ ab_TG ∧ plainName (ab_my 200).cls = true := ⟨ab_tg5 30 rfl rfl, ab_pn 200 (by decide)⟩
theorem wf_675 : Cond.methodLink "java/lang/AbstractStringBuilder" 399 (ab_my 200) ∈ ab_TG := ab_tg5 27 rfl rfl
theorem wf_676 : Cond.instanceMethod (ab_my 200) ∈ ab_TG := ab_tg5 28 rfl rfl
theorem wf_677 : Cond.selects "java/lang/String" (ab_my 200) (ab_my 200) ∈ ab_TG := ab_tg5 29 rfl rfl
theorem wf_678 : Cond.methodLink "java/lang/String" 1 Lib.objectInit ∈ ab_TG := ab_tg4 173 rfl rfl
theorem wf_679 : ab_cw 192 ∈ ab_TG ∧ plainName (ab_my 192).cls = true := ⟨ab_tg4 178 rfl rfl, ab_pn 192 (by decide)⟩
theorem wf_680 : Cond.methodLink "java/lang/String" 552 (ab_my 192) ∈ ab_TG := ab_tg4 174 rfl rfl
theorem wf_681 : Cond.instanceMethod (ab_my 192) ∈ ab_TG := ab_tg4 175 rfl rfl
theorem wf_682 : Cond.selects RJ4 (ab_my 192) (ab_my 192) ∈ ab_TG := ab_tg4 177 rfl rfl
theorem wf_683 : ab_cw 195 ∈ ab_TG ∧ plainName (ab_my 195).cls = true := ⟨ab_tg4 186 rfl rfl, ab_pn 195 (by decide)⟩
theorem wf_684 : ab_cw 206 ∈ ab_TG ∧ plainName (ab_my 206).cls = true := ⟨ab_tg4 184 rfl rfl, ab_pn 206 (by decide)⟩
theorem wf_685 : Cond.methodLink "java/lang/String" 549 (ab_my 195) ∈ ab_TG := ab_tg4 179 rfl rfl
theorem wf_686 : Cond.instanceMethod (ab_my 206) ∈ ab_TG := ab_tg4 183 rfl rfl
theorem wf_687 : Cond.sameMethod "java/lang/AbstractStringBuilder" "java/lang/AbstractStringBuilder" "length" "()I" ∈ ab_TG := ab_tg4 181 rfl rfl
theorem wf_688 : Cond.selects "java/lang/StringBuilder" (ab_my 195) (ab_my 206) ∈ ab_TG := ab_tg4 182 rfl rfl
theorem wf_689 : Cond.instanceMethod (ab_my 195) ∈ ab_TG := ab_tg4 180 rfl rfl
theorem wf_690 : Cond.code (ab_my 195) (ab_mb 195) (ab_mL 195) (ab_mr 195) ∈ ab_TG := ab_tg4 186 rfl rfl
theorem wf_691 : Cond.methodLink "java/lang/String" 1047 (ab_my 194) ∈ ab_TG := ab_tg4 187 rfl rfl
theorem wf_692 : Cond.fieldLink "java/lang/String" 15 (TJ0 1).1 (TJ0 1).2.1 (TJ0 1).2.2.1 ∈ ab_TG := ab_tg5 49 rfl rfl
theorem wf_693 : ab_cw 208 ∈ ab_TG ∧ plainName (ab_my 208).cls = true := ⟨ab_tg4 190 rfl rfl, ab_pn 208 (by decide)⟩
theorem wf_694 : Cond.methodLink "java/lang/String" 54 (ab_my 208) ∈ ab_TG := ab_tg4 188 rfl rfl
theorem wf_695 : Cond.static (ab_my 208) ∈ ab_TG := ab_tg4 189 rfl rfl
theorem wf_696 : Cond.initialized (ab_my 208).cls ∈ ab_TG := ab_tg1 18 rfl rfl
theorem wf_697 : Cond.fieldLink "java/lang/String" 9 (TJ0 0).1 (TJ0 0).2.1 (TJ0 0).2.2.1 ∈ ab_TG := ab_tg5 48 rfl rfl
theorem wf_698 : Cond.fieldLink "java/lang/String" 38 "java/lang/String" "COMPACT_STRINGS" "Z" ∈ ab_TG := ab_tg5 17 rfl rfl
theorem wf_699 : Cond.fieldLink "java/lang/String" 1048 (TJ4 2).1 (TJ4 2).2.1 (TJ4 2).2.2.1 ∈ ab_TG := ab_tg4 55 rfl rfl
theorem wf_700 : Cond.fieldLink "java/lang/String" 9 "java/lang/String" "value" "[B" ∈ ab_TG := ab_tg5 48 rfl rfl
theorem wf_701 : ab_cw 197 ∈ ab_TG ∧ plainName (ab_my 197).cls = true := ⟨ab_tg4 172 rfl rfl, ab_pn 197 (by decide)⟩
theorem wf_702 : Cond.instanceMethod (ab_my 197) ∈ ab_TG := ab_tg4 171 rfl rfl
theorem wf_703 : Cond.methodLink "java/lang/String" 489 (ab_my 197) ∈ ab_TG := ab_tg4 170 rfl rfl
theorem wf_704 : Cond.fieldLink "java/lang/String" 15 "java/lang/String" "coder" "B" ∈ ab_TG := ab_tg5 49 rfl rfl
theorem wf_705 : Cond.methodLink "java/lang/String" 335 (ab_my 199) ∈ ab_TG := ab_tg5 13 rfl rfl
theorem wf_706 : Cond.methodLink "java/lang/String" 212 arraycopyName ∈ ab_TG := ab_tg5 31 rfl rfl
theorem wf_707 : Cond.native arraycopyName ∈ ab_TG := ab_tg4 107 rfl rfl
theorem wf_708 : Cond.static arraycopyName ∈ ab_TG := ab_tg4 106 rfl rfl
theorem wf_709 : Cond.initialized "java/lang/System" ∈ ab_TG := ab_tg1 19 rfl rfl
theorem wf_710 : ab_cw 188 ∈ ab_TG ∧ plainName (ab_my 188).cls = true := ⟨ab_tg4 42 rfl rfl, ab_pn 188 (by decide)⟩
theorem wf_711 : Cond.instanceMethod (ab_my 188) ∈ ab_TG := ab_tg4 41 rfl rfl
theorem wf_712 : Cond.methodLink "java/lang/StringBuilder" 1 (ab_my 188) ∈ ab_TG := ab_tg4 40 rfl rfl
theorem wf_713 : ab_cw 189 ∈ ab_TG ∧ plainName (ab_my 189).cls = true := ⟨ab_tg4 76 rfl rfl, ab_pn 189 (by decide)⟩
theorem wf_714 : Cond.methodLink "java/lang/StringBuilder" 50 (ab_my 189) ∈ ab_TG := ab_tg4 74 rfl rfl
theorem wf_715 : Cond.instanceMethod (ab_my 189) ∈ ab_TG := ab_tg4 75 rfl rfl
theorem wf_716 : Cond.sameMethod (ab_my 189).cls (ab_my 189).cls (ab_my 189).name (ab_my 189).desc ∈ ab_TG := ab_tg6 185 rfl rfl
theorem wf_717 : Cond.superclass "java/lang/StringBuilder" (ab_my 189).cls ∈ ab_TG := ab_tg4 65 rfl rfl
theorem wf_718 : ab_cw 190 ∈ ab_TG ∧ plainName (ab_my 190).cls = true := ⟨ab_tg5 1 rfl rfl, ab_pn 190 (by decide)⟩
theorem wf_719 : Cond.methodLink "java/lang/StringBuilder" 29 (ab_my 190) ∈ ab_TG := ab_tg4 239 rfl rfl
theorem wf_720 : Cond.instanceMethod (ab_my 190) ∈ ab_TG := ab_tg5 0 rfl rfl
theorem wf_721 : Cond.sameMethod (ab_my 190).cls (ab_my 190).cls (ab_my 190).name (ab_my 190).desc ∈ ab_TG := ab_tg6 190 rfl rfl
theorem wf_722 : Cond.classLink "java/lang/StringBuilder" 18 RJ0 ∈ ab_TG := ab_tg4 165 rfl rfl
theorem wf_723 : Cond.instantiable RJ0 4 ∈ ab_TG := ab_tg4 166 rfl rfl
theorem wf_724 : Cond.initialized RJ0 ∈ ab_TG := ab_tg1 15 rfl rfl
theorem wf_725 : ab_cw 198 ∈ ab_TG ∧ plainName (ab_my 198).cls = true := ⟨ab_tg4 169 rfl rfl, ab_pn 198 (by decide)⟩
theorem wf_726 : Cond.instanceMethod (ab_my 198) ∈ ab_TG := ab_tg4 168 rfl rfl
theorem wf_727 : Cond.methodLink "java/lang/StringBuilder" 137 (ab_my 198) ∈ ab_TG := ab_tg4 167 rfl rfl
theorem wf_728 : Cond.methodLink "java/lang/StringBuilder" 343 (ab_my 195) ∈ ab_TG := ab_tg4 185 rfl rfl
theorem wf_729 : Cond.instanceMethod (ab_my 195) ∈ ab_TG := ab_tg4 180 rfl rfl
theorem wf_730 : ab_cw 209 ∈ ab_TG ∧ plainName (ab_my 209).cls = true := ⟨ab_tg4 193 rfl rfl, ab_pn 209 (by decide)⟩
theorem wf_731 : Cond.methodLink "java/util/Arrays" 339 (ab_my 209) ∈ ab_TG := ab_tg4 191 rfl rfl
theorem wf_732 : Cond.static (ab_my 209) ∈ ab_TG := ab_tg4 192 rfl rfl
theorem wf_733 : ab_cw 210 ∈ ab_TG ∧ plainName (ab_my 210).cls = true := ⟨ab_tg4 196 rfl rfl, ab_pn 210 (by decide)⟩
theorem wf_734 : Cond.methodLink "java/util/Arrays" 343 (ab_my 210) ∈ ab_TG := ab_tg4 194 rfl rfl
theorem wf_735 : Cond.static (ab_my 210) ∈ ab_TG := ab_tg4 195 rfl rfl
theorem wf_736 : Cond.methodLink "java/util/Arrays" 304 Lib.Math.min.name ∈ ab_TG := ab_tg4 104 rfl rfl
theorem wf_737 : Cond.methodLink "java/util/Arrays" 150 arraycopyName ∈ ab_TG := ab_tg4 105 rfl rfl
theorem wf_738 : Cond.methodLink "java/util/Arrays" 47 (ab_my 202) ∈ ab_TG := ab_tg4 199 rfl rfl
theorem wf_739 : Cond.methodLink "java/util/Arrays" 50 (ab_my 204) ∈ ab_TG := ab_tg4 235 rfl rfl
theorem wf_740 : Cond.methodLink "java/util/Arrays" 61 (ab_my 205) ∈ ab_TG := ab_tg5 33 rfl rfl
theorem wf_741 : ab_cw 61 ∈ ab_TG ∧ plainName (ab_my 61).cls = true := ⟨ab_tg2 225 rfl rfl, ab_pn 61 (by decide)⟩
theorem wf_743 : Cond.classLink "StaggershelfLaw" 19 (ab_ex 1) ∈ ab_TG := ab_tg2 221 rfl rfl
theorem wf_744 : Cond.methodLink "StaggershelfLaw" 7 (ab_my 61) ∈ ab_TG := ab_tg2 222 rfl rfl
theorem wf_745 : Cond.instanceMethod (ab_my 61) ∈ ab_TG := ab_tg2 223 rfl rfl
theorem wf_746 : Cond.selects RX2 (ab_my 61) (ab_my 61) ∈ ab_TG := ab_tg2 224 rfl rfl
theorem wf_748 : ab_cw 62 ∈ ab_TG ∧ plainName (ab_my 62).cls = true := ⟨ab_tg3 57 rfl rfl, ab_pn 62 (by decide)⟩
theorem wf_750 : Cond.classLink "StaggershelfLaw" 25 (ab_ex 2) ∈ ab_TG := ab_tg3 52 rfl rfl
theorem wf_752 : Cond.classLink "StaggershelfLaw" 27 (ab_ex 3) ∈ ab_TG := ab_tg3 53 rfl rfl
theorem wf_753 : Cond.methodLink "StaggershelfLaw" 21 (ab_my 62) ∈ ab_TG := ab_tg3 54 rfl rfl
theorem wf_754 : Cond.instanceMethod (ab_my 62) ∈ ab_TG := ab_tg3 55 rfl rfl
theorem wf_755 : Cond.selects RX2 (ab_my 62) (ab_my 62) ∈ ab_TG := ab_tg3 56 rfl rfl
theorem wf_756 : ab_cw 63 ∈ ab_TG ∧ plainName (ab_my 63).cls = true := ⟨ab_tg3 109 rfl rfl, ab_pn 63 (by decide)⟩
theorem wf_757 : Cond.methodLink "StaggershelfLaw" 29 (ab_my 63) ∈ ab_TG := ab_tg3 106 rfl rfl
theorem wf_758 : Cond.instanceMethod (ab_my 63) ∈ ab_TG := ab_tg3 107 rfl rfl
theorem wf_759 : Cond.selects RX2 (ab_my 63) (ab_my 63) ∈ ab_TG := ab_tg3 108 rfl rfl
theorem wf_760 : ab_cw 64 ∈ ab_TG ∧ plainName (ab_my 64).cls = true := ⟨ab_tg3 117 rfl rfl, ab_pn 64 (by decide)⟩
theorem wf_761 : Cond.methodLink "StaggershelfLaw" 33 (ab_my 64) ∈ ab_TG := ab_tg3 114 rfl rfl
theorem wf_762 : Cond.instanceMethod (ab_my 64) ∈ ab_TG := ab_tg3 115 rfl rfl
theorem wf_763 : Cond.selects RX2 (ab_my 64) (ab_my 64) ∈ ab_TG := ab_tg3 116 rfl rfl
theorem wf_764 : ab_cw 65 ∈ ab_TG ∧ plainName (ab_my 65).cls = true := ⟨ab_tg3 130 rfl rfl, ab_pn 65 (by decide)⟩
theorem wf_765 : Cond.methodLink "StaggershelfLaw" 36 (ab_my 65) ∈ ab_TG := ab_tg3 127 rfl rfl
theorem wf_766 : Cond.instanceMethod (ab_my 65) ∈ ab_TG := ab_tg3 128 rfl rfl
theorem wf_767 : Cond.selects RX2 (ab_my 65) (ab_my 65) ∈ ab_TG := ab_tg3 129 rfl rfl
theorem wf_768 : ab_cw 66 ∈ ab_TG ∧ plainName (ab_my 66).cls = true := ⟨ab_tg3 141 rfl rfl, ab_pn 66 (by decide)⟩
theorem wf_769 : Cond.methodLink "StaggershelfLaw" 39 (ab_my 66) ∈ ab_TG := ab_tg3 138 rfl rfl
theorem wf_770 : Cond.instanceMethod (ab_my 66) ∈ ab_TG := ab_tg3 139 rfl rfl
theorem wf_771 : Cond.selects RX2 (ab_my 66) (ab_my 66) ∈ ab_TG := ab_tg3 140 rfl rfl
theorem wf_772 : ab_cw 67 ∈ ab_TG ∧ plainName (ab_my 67).cls = true := ⟨ab_tg3 154 rfl rfl, ab_pn 67 (by decide)⟩
theorem wf_773 : Cond.methodLink "StaggershelfLaw" 43 (ab_my 67) ∈ ab_TG := ab_tg3 151 rfl rfl
theorem wf_774 : Cond.instanceMethod (ab_my 67) ∈ ab_TG := ab_tg3 152 rfl rfl
theorem wf_775 : Cond.selects RX2 (ab_my 67) (ab_my 67) ∈ ab_TG := ab_tg3 153 rfl rfl
theorem wf_776 : ab_cw 68 ∈ ab_TG ∧ plainName (ab_my 68).cls = true := ⟨ab_tg3 174 rfl rfl, ab_pn 68 (by decide)⟩
theorem wf_777 : Cond.methodLink "StaggershelfLaw" 46 (ab_my 68) ∈ ab_TG := ab_tg3 171 rfl rfl
theorem wf_778 : Cond.instanceMethod (ab_my 68) ∈ ab_TG := ab_tg3 172 rfl rfl
theorem wf_779 : Cond.selects RX2 (ab_my 68) (ab_my 68) ∈ ab_TG := ab_tg3 173 rfl rfl
theorem wf_780 : ab_cw 69 ∈ ab_TG ∧ plainName (ab_my 69).cls = true := ⟨ab_tg3 181 rfl rfl, ab_pn 69 (by decide)⟩
theorem wf_781 : Cond.methodLink "StaggershelfLaw" 49 (ab_my 69) ∈ ab_TG := ab_tg3 178 rfl rfl
theorem wf_782 : Cond.instanceMethod (ab_my 69) ∈ ab_TG := ab_tg3 179 rfl rfl
theorem wf_783 : Cond.selects RX2 (ab_my 69) (ab_my 69) ∈ ab_TG := ab_tg3 180 rfl rfl
theorem wf_784 : ab_cw 70 ∈ ab_TG ∧ plainName (ab_my 70).cls = true := ⟨ab_tg3 196 rfl rfl, ab_pn 70 (by decide)⟩
theorem wf_785 : Cond.methodLink "StaggershelfLaw" 52 (ab_my 70) ∈ ab_TG := ab_tg3 193 rfl rfl
theorem wf_786 : Cond.instanceMethod (ab_my 70) ∈ ab_TG := ab_tg3 194 rfl rfl
theorem wf_787 : Cond.selects RX2 (ab_my 70) (ab_my 70) ∈ ab_TG := ab_tg3 195 rfl rfl
theorem wf_788 : ab_cw 71 ∈ ab_TG ∧ plainName (ab_my 71).cls = true := ⟨ab_tg3 209 rfl rfl, ab_pn 71 (by decide)⟩
theorem wf_789 : Cond.methodLink "StaggershelfLaw" 56 (ab_my 71) ∈ ab_TG := ab_tg3 206 rfl rfl
theorem wf_790 : Cond.instanceMethod (ab_my 71) ∈ ab_TG := ab_tg3 207 rfl rfl
theorem wf_791 : Cond.selects RX2 (ab_my 71) (ab_my 71) ∈ ab_TG := ab_tg3 208 rfl rfl
theorem wf_792 : ab_cw 72 ∈ ab_TG ∧ plainName (ab_my 72).cls = true := ⟨ab_tg3 221 rfl rfl, ab_pn 72 (by decide)⟩
theorem wf_793 : Cond.methodLink "StaggershelfLaw" 59 (ab_my 72) ∈ ab_TG := ab_tg3 218 rfl rfl
theorem wf_794 : Cond.instanceMethod (ab_my 72) ∈ ab_TG := ab_tg3 219 rfl rfl
theorem wf_795 : Cond.selects RX2 (ab_my 72) (ab_my 72) ∈ ab_TG := ab_tg3 220 rfl rfl
theorem wf_796 : ab_cw 73 ∈ ab_TG ∧ plainName (ab_my 73).cls = true := ⟨ab_tg3 229 rfl rfl, ab_pn 73 (by decide)⟩
theorem wf_797 : Cond.methodLink "StaggershelfLaw" 63 (ab_my 73) ∈ ab_TG := ab_tg3 226 rfl rfl
theorem wf_798 : Cond.instanceMethod (ab_my 73) ∈ ab_TG := ab_tg3 227 rfl rfl
theorem wf_799 : Cond.selects RX2 (ab_my 73) (ab_my 73) ∈ ab_TG := ab_tg3 228 rfl rfl
theorem wf_800 : ab_cw 74 ∈ ab_TG ∧ plainName (ab_my 74).cls = true := ⟨ab_tg4 1 rfl rfl, ab_pn 74 (by decide)⟩
theorem wf_801 : Cond.methodLink "StaggershelfLaw" 67 (ab_my 74) ∈ ab_TG := ab_tg3 238 rfl rfl
theorem wf_802 : Cond.instanceMethod (ab_my 74) ∈ ab_TG := ab_tg3 239 rfl rfl
theorem wf_803 : Cond.selects RX2 (ab_my 74) (ab_my 74) ∈ ab_TG := ab_tg4 0 rfl rfl
theorem wf_804 : Cond.methodLink "StaggershelfLaw" 70 (ab_my 75) ∈ ab_TG := ab_tg4 11 rfl rfl
theorem wf_805 : Cond.methodLink "StaggershelfLaw" 73 (ab_my 76) ∈ ab_TG := ab_tg4 15 rfl rfl
theorem wf_806 : Cond.methodLink "StaggershelfLaw" 76 (ab_my 77) ∈ ab_TG := ab_tg4 19 rfl rfl
theorem wf_807 : Cond.methodLink "StaggershelfLaw" 79 (ab_my 78) ∈ ab_TG := ab_tg4 23 rfl rfl
theorem wf_808 : Cond.methodLink "StaggershelfLaw" 82 (ab_my 79) ∈ ab_TG := ab_tg4 27 rfl rfl
theorem wf_809 : ab_cw 80 ∈ ab_TG ∧ plainName (ab_my 80).cls = true := ⟨ab_tg4 34 rfl rfl, ab_pn 80 (by decide)⟩
theorem wf_810 : Cond.methodLink "StaggershelfLaw" 85 (ab_my 80) ∈ ab_TG := ab_tg4 31 rfl rfl
theorem wf_811 : Cond.instanceMethod (ab_my 80) ∈ ab_TG := ab_tg4 32 rfl rfl
theorem wf_812 : Cond.selects RX2 (ab_my 80) (ab_my 80) ∈ ab_TG := ab_tg4 33 rfl rfl
theorem wf_814 : Cond.methodLink "StaggershelfLaw" 93 (ab_my 81) ∈ ab_TG := ab_tg5 62 rfl rfl
theorem wf_815 : ab_cw 82 ∈ ab_TG ∧ plainName (ab_my 82).cls = true := ⟨ab_tg5 69 rfl rfl, ab_pn 82 (by decide)⟩
theorem wf_816 : Cond.methodLink "StaggershelfLaw" 96 (ab_my 82) ∈ ab_TG := ab_tg5 66 rfl rfl
theorem wf_817 : Cond.instanceMethod (ab_my 82) ∈ ab_TG := ab_tg5 67 rfl rfl
theorem wf_818 : Cond.selects RX2 (ab_my 82) (ab_my 82) ∈ ab_TG := ab_tg5 68 rfl rfl
theorem wf_819 : ab_cw 83 ∈ ab_TG ∧ plainName (ab_my 83).cls = true := ⟨ab_tg5 76 rfl rfl, ab_pn 83 (by decide)⟩
theorem wf_820 : Cond.methodLink "StaggershelfLaw" 99 (ab_my 83) ∈ ab_TG := ab_tg5 73 rfl rfl
theorem wf_821 : Cond.instanceMethod (ab_my 83) ∈ ab_TG := ab_tg5 74 rfl rfl
theorem wf_822 : Cond.selects RX2 (ab_my 83) (ab_my 83) ∈ ab_TG := ab_tg5 75 rfl rfl
theorem wf_823 : Cond.classLink "StaggershelfLaw" 8 RX2 ∈ ab_TG := ab_tg1 24 rfl rfl
theorem wf_824 : Cond.instantiable RX2 13 ∈ ab_TG := ab_tg1 25 rfl rfl
theorem wf_825 : Cond.initialized RX2 ∈ ab_TG := ab_tg1 1 rfl rfl
theorem wf_826 : ab_cw 60 ∈ ab_TG ∧ plainName (ab_my 60).cls = true := ⟨ab_tg1 28 rfl rfl, ab_pn 60 (by decide)⟩
theorem wf_827 : Cond.instanceMethod (ab_my 60) ∈ ab_TG := ab_tg1 27 rfl rfl
theorem wf_828 : Cond.methodLink "StaggershelfLaw" 102 (ab_my 60) ∈ ab_TG := ab_tg1 26 rfl rfl
theorem wf_829 : Cond.classLink "StaggershelfLaw" 103 RX4 ∈ ab_TG := ab_tg5 78 rfl rfl
theorem wf_830 : Cond.instantiable RX4 22 ∈ ab_TG := ab_tg5 79 rfl rfl
theorem wf_831 : Cond.initialized RX4 ∈ ab_TG := ab_tg1 4 rfl rfl
theorem wf_832 : ab_cw 98 ∈ ab_TG ∧ plainName (ab_my 98).cls = true := ⟨ab_tg5 82 rfl rfl, ab_pn 98 (by decide)⟩
theorem wf_833 : Cond.instanceMethod (ab_my 98) ∈ ab_TG := ab_tg5 81 rfl rfl
theorem wf_834 : Cond.methodLink "StaggershelfLaw" 105 (ab_my 98) ∈ ab_TG := ab_tg5 80 rfl rfl
theorem wf_835 : Cond.classLink "StaggershelfLaw" 14 RX3 ∈ ab_TG := ab_tg2 205 rfl rfl
theorem wf_836 : Cond.instantiable RX3 2 ∈ ab_TG := ab_tg2 206 rfl rfl
theorem wf_837 : Cond.initialized RX3 ∈ ab_TG := ab_tg1 5 rfl rfl
theorem wf_838 : ab_cw 97 ∈ ab_TG ∧ plainName (ab_my 97).cls = true := ⟨ab_tg2 209 rfl rfl, ab_pn 97 (by decide)⟩
theorem wf_839 : Cond.instanceMethod (ab_my 97) ∈ ab_TG := ab_tg2 208 rfl rfl
theorem wf_840 : Cond.initialized (ab_my 97).cls ∈ ab_TG := ab_tg1 5 rfl rfl
theorem wf_842 : ab_cw 163 ∈ ab_TG ∧ plainName (ab_my 163).cls = true := ⟨ab_tg2 220 rfl rfl, ab_pn 163 (by decide)⟩
theorem wf_843 : Cond.methodLink "StaggershelfLaw" 107 (ab_my 163) ∈ ab_TG := ab_tg2 218 rfl rfl
theorem wf_844 : Cond.static (ab_my 163) ∈ ab_TG := ab_tg2 219 rfl rfl
theorem wf_845 : Cond.initialized (ab_my 163).cls ∈ ab_TG := ab_tg1 0 rfl rfl
theorem wf_846 : ab_cw 122 ∈ ab_TG ∧ plainName (ab_my 122).cls = true := ⟨ab_tg5 161 rfl rfl, ab_pn 122 (by decide)⟩
theorem wf_847 : Cond.methodLink "StaggershelfLaw" 112 (ab_my 122) ∈ ab_TG := ab_tg5 158 rfl rfl
theorem wf_848 : Cond.instanceMethod (ab_my 122) ∈ ab_TG := ab_tg5 159 rfl rfl
theorem wf_849 : Cond.selects RX4 (ab_my 122) (ab_my 122) ∈ ab_TG := ab_tg5 160 rfl rfl
theorem wf_850 : ab_cw 164 ∈ ab_TG ∧ plainName (ab_my 164).cls = true := ⟨ab_tg3 51 rfl rfl, ab_pn 164 (by decide)⟩
theorem wf_851 : Cond.methodLink "StaggershelfLaw" 113 (ab_my 164) ∈ ab_TG := ab_tg3 49 rfl rfl
theorem wf_852 : Cond.static (ab_my 164) ∈ ab_TG := ab_tg3 50 rfl rfl
theorem wf_853 : ab_cw 123 ∈ ab_TG ∧ plainName (ab_my 123).cls = true := ⟨ab_tg5 184 rfl rfl, ab_pn 123 (by decide)⟩
theorem wf_854 : Cond.methodLink "StaggershelfLaw" 116 (ab_my 123) ∈ ab_TG := ab_tg5 181 rfl rfl
theorem wf_855 : Cond.instanceMethod (ab_my 123) ∈ ab_TG := ab_tg5 182 rfl rfl
theorem wf_856 : Cond.selects RX4 (ab_my 123) (ab_my 123) ∈ ab_TG := ab_tg5 183 rfl rfl
theorem wf_857 : ab_cw 165 ∈ ab_TG ∧ plainName (ab_my 165).cls = true := ⟨ab_tg3 105 rfl rfl, ab_pn 165 (by decide)⟩
theorem wf_858 : Cond.methodLink "StaggershelfLaw" 117 (ab_my 165) ∈ ab_TG := ab_tg3 103 rfl rfl
theorem wf_859 : Cond.static (ab_my 165) ∈ ab_TG := ab_tg3 104 rfl rfl
theorem wf_860 : ab_cw 124 ∈ ab_TG ∧ plainName (ab_my 124).cls = true := ⟨ab_tg5 236 rfl rfl, ab_pn 124 (by decide)⟩
theorem wf_861 : Cond.methodLink "StaggershelfLaw" 120 (ab_my 124) ∈ ab_TG := ab_tg5 233 rfl rfl
theorem wf_862 : Cond.instanceMethod (ab_my 124) ∈ ab_TG := ab_tg5 234 rfl rfl
theorem wf_863 : Cond.selects RX4 (ab_my 124) (ab_my 124) ∈ ab_TG := ab_tg5 235 rfl rfl
theorem wf_864 : ab_cw 166 ∈ ab_TG ∧ plainName (ab_my 166).cls = true := ⟨ab_tg3 113 rfl rfl, ab_pn 166 (by decide)⟩
theorem wf_865 : Cond.methodLink "StaggershelfLaw" 121 (ab_my 166) ∈ ab_TG := ab_tg3 111 rfl rfl
theorem wf_866 : Cond.static (ab_my 166) ∈ ab_TG := ab_tg3 112 rfl rfl
theorem wf_867 : ab_cw 125 ∈ ab_TG ∧ plainName (ab_my 125).cls = true := ⟨ab_tg6 0 rfl rfl, ab_pn 125 (by decide)⟩
theorem wf_868 : Cond.methodLink "StaggershelfLaw" 123 (ab_my 125) ∈ ab_TG := ab_tg5 237 rfl rfl
theorem wf_869 : Cond.instanceMethod (ab_my 125) ∈ ab_TG := ab_tg5 238 rfl rfl
theorem wf_870 : Cond.selects RX4 (ab_my 125) (ab_my 125) ∈ ab_TG := ab_tg5 239 rfl rfl
theorem wf_871 : ab_cw 167 ∈ ab_TG ∧ plainName (ab_my 167).cls = true := ⟨ab_tg3 126 rfl rfl, ab_pn 167 (by decide)⟩
theorem wf_872 : Cond.methodLink "StaggershelfLaw" 124 (ab_my 167) ∈ ab_TG := ab_tg3 124 rfl rfl
theorem wf_873 : Cond.static (ab_my 167) ∈ ab_TG := ab_tg3 125 rfl rfl
theorem wf_874 : ab_cw 126 ∈ ab_TG ∧ plainName (ab_my 126).cls = true := ⟨ab_tg6 12 rfl rfl, ab_pn 126 (by decide)⟩
theorem wf_875 : Cond.methodLink "StaggershelfLaw" 126 (ab_my 126) ∈ ab_TG := ab_tg6 9 rfl rfl
theorem wf_876 : Cond.instanceMethod (ab_my 126) ∈ ab_TG := ab_tg6 10 rfl rfl
theorem wf_877 : Cond.selects RX4 (ab_my 126) (ab_my 126) ∈ ab_TG := ab_tg6 11 rfl rfl
theorem wf_878 : ab_cw 168 ∈ ab_TG ∧ plainName (ab_my 168).cls = true := ⟨ab_tg3 137 rfl rfl, ab_pn 168 (by decide)⟩
theorem wf_879 : Cond.methodLink "StaggershelfLaw" 127 (ab_my 168) ∈ ab_TG := ab_tg3 135 rfl rfl
theorem wf_880 : Cond.static (ab_my 168) ∈ ab_TG := ab_tg3 136 rfl rfl
theorem wf_881 : ab_cw 127 ∈ ab_TG ∧ plainName (ab_my 127).cls = true := ⟨ab_tg6 16 rfl rfl, ab_pn 127 (by decide)⟩
theorem wf_882 : Cond.methodLink "StaggershelfLaw" 129 (ab_my 127) ∈ ab_TG := ab_tg6 13 rfl rfl
theorem wf_883 : Cond.instanceMethod (ab_my 127) ∈ ab_TG := ab_tg6 14 rfl rfl
theorem wf_884 : Cond.selects RX4 (ab_my 127) (ab_my 127) ∈ ab_TG := ab_tg6 15 rfl rfl
theorem wf_885 : ab_cw 169 ∈ ab_TG ∧ plainName (ab_my 169).cls = true := ⟨ab_tg3 150 rfl rfl, ab_pn 169 (by decide)⟩
theorem wf_886 : Cond.methodLink "StaggershelfLaw" 130 (ab_my 169) ∈ ab_TG := ab_tg3 148 rfl rfl
theorem wf_887 : Cond.static (ab_my 169) ∈ ab_TG := ab_tg3 149 rfl rfl
theorem wf_888 : ab_cw 129 ∈ ab_TG ∧ plainName (ab_my 129).cls = true := ⟨ab_tg6 24 rfl rfl, ab_pn 129 (by decide)⟩
theorem wf_889 : Cond.methodLink "StaggershelfLaw" 132 (ab_my 129) ∈ ab_TG := ab_tg6 21 rfl rfl
theorem wf_890 : Cond.instanceMethod (ab_my 129) ∈ ab_TG := ab_tg6 22 rfl rfl
theorem wf_891 : Cond.selects RX4 (ab_my 129) (ab_my 129) ∈ ab_TG := ab_tg6 23 rfl rfl
theorem wf_892 : ab_cw 170 ∈ ab_TG ∧ plainName (ab_my 170).cls = true := ⟨ab_tg3 170 rfl rfl, ab_pn 170 (by decide)⟩
theorem wf_893 : Cond.methodLink "StaggershelfLaw" 133 (ab_my 170) ∈ ab_TG := ab_tg3 168 rfl rfl
theorem wf_894 : Cond.static (ab_my 170) ∈ ab_TG := ab_tg3 169 rfl rfl
theorem wf_895 : ab_cw 130 ∈ ab_TG ∧ plainName (ab_my 130).cls = true := ⟨ab_tg6 32 rfl rfl, ab_pn 130 (by decide)⟩
theorem wf_896 : Cond.methodLink "StaggershelfLaw" 135 (ab_my 130) ∈ ab_TG := ab_tg6 29 rfl rfl
theorem wf_897 : Cond.instanceMethod (ab_my 130) ∈ ab_TG := ab_tg6 30 rfl rfl
theorem wf_898 : Cond.selects RX4 (ab_my 130) (ab_my 130) ∈ ab_TG := ab_tg6 31 rfl rfl
theorem wf_899 : ab_cw 171 ∈ ab_TG ∧ plainName (ab_my 171).cls = true := ⟨ab_tg3 177 rfl rfl, ab_pn 171 (by decide)⟩
theorem wf_900 : Cond.methodLink "StaggershelfLaw" 136 (ab_my 171) ∈ ab_TG := ab_tg3 175 rfl rfl
theorem wf_901 : Cond.static (ab_my 171) ∈ ab_TG := ab_tg3 176 rfl rfl
theorem wf_902 : ab_cw 131 ∈ ab_TG ∧ plainName (ab_my 131).cls = true := ⟨ab_tg6 36 rfl rfl, ab_pn 131 (by decide)⟩
theorem wf_903 : Cond.methodLink "StaggershelfLaw" 138 (ab_my 131) ∈ ab_TG := ab_tg6 33 rfl rfl
theorem wf_904 : Cond.instanceMethod (ab_my 131) ∈ ab_TG := ab_tg6 34 rfl rfl
theorem wf_905 : Cond.selects RX4 (ab_my 131) (ab_my 131) ∈ ab_TG := ab_tg6 35 rfl rfl
theorem wf_906 : ab_cw 172 ∈ ab_TG ∧ plainName (ab_my 172).cls = true := ⟨ab_tg3 192 rfl rfl, ab_pn 172 (by decide)⟩
theorem wf_907 : Cond.methodLink "StaggershelfLaw" 139 (ab_my 172) ∈ ab_TG := ab_tg3 190 rfl rfl
theorem wf_908 : Cond.static (ab_my 172) ∈ ab_TG := ab_tg3 191 rfl rfl
theorem wf_909 : ab_cw 138 ∈ ab_TG ∧ plainName (ab_my 138).cls = true := ⟨ab_tg6 44 rfl rfl, ab_pn 138 (by decide)⟩
theorem wf_910 : Cond.methodLink "StaggershelfLaw" 142 (ab_my 138) ∈ ab_TG := ab_tg6 41 rfl rfl
theorem wf_911 : Cond.instanceMethod (ab_my 138) ∈ ab_TG := ab_tg6 42 rfl rfl
theorem wf_912 : Cond.selects RX4 (ab_my 138) (ab_my 138) ∈ ab_TG := ab_tg6 43 rfl rfl
theorem wf_913 : ab_cw 173 ∈ ab_TG ∧ plainName (ab_my 173).cls = true := ⟨ab_tg3 205 rfl rfl, ab_pn 173 (by decide)⟩
theorem wf_914 : Cond.methodLink "StaggershelfLaw" 143 (ab_my 173) ∈ ab_TG := ab_tg3 203 rfl rfl
theorem wf_915 : Cond.static (ab_my 173) ∈ ab_TG := ab_tg3 204 rfl rfl
theorem wf_916 : ab_cw 139 ∈ ab_TG ∧ plainName (ab_my 139).cls = true := ⟨ab_tg6 48 rfl rfl, ab_pn 139 (by decide)⟩
theorem wf_917 : Cond.methodLink "StaggershelfLaw" 145 (ab_my 139) ∈ ab_TG := ab_tg6 45 rfl rfl
theorem wf_918 : Cond.instanceMethod (ab_my 139) ∈ ab_TG := ab_tg6 46 rfl rfl
theorem wf_919 : Cond.selects RX4 (ab_my 139) (ab_my 139) ∈ ab_TG := ab_tg6 47 rfl rfl
theorem wf_920 : ab_cw 174 ∈ ab_TG ∧ plainName (ab_my 174).cls = true := ⟨ab_tg3 217 rfl rfl, ab_pn 174 (by decide)⟩
theorem wf_921 : Cond.methodLink "StaggershelfLaw" 146 (ab_my 174) ∈ ab_TG := ab_tg3 215 rfl rfl
theorem wf_922 : Cond.static (ab_my 174) ∈ ab_TG := ab_tg3 216 rfl rfl
theorem wf_923 : ab_cw 140 ∈ ab_TG ∧ plainName (ab_my 140).cls = true := ⟨ab_tg6 52 rfl rfl, ab_pn 140 (by decide)⟩
theorem wf_924 : Cond.methodLink "StaggershelfLaw" 149 (ab_my 140) ∈ ab_TG := ab_tg6 49 rfl rfl
theorem wf_925 : Cond.instanceMethod (ab_my 140) ∈ ab_TG := ab_tg6 50 rfl rfl
theorem wf_926 : Cond.selects RX4 (ab_my 140) (ab_my 140) ∈ ab_TG := ab_tg6 51 rfl rfl
theorem wf_927 : ab_cw 175 ∈ ab_TG ∧ plainName (ab_my 175).cls = true := ⟨ab_tg3 225 rfl rfl, ab_pn 175 (by decide)⟩
theorem wf_928 : Cond.methodLink "StaggershelfLaw" 150 (ab_my 175) ∈ ab_TG := ab_tg3 223 rfl rfl
theorem wf_929 : Cond.static (ab_my 175) ∈ ab_TG := ab_tg3 224 rfl rfl
theorem wf_930 : ab_cw 141 ∈ ab_TG ∧ plainName (ab_my 141).cls = true := ⟨ab_tg6 56 rfl rfl, ab_pn 141 (by decide)⟩
theorem wf_931 : Cond.methodLink "StaggershelfLaw" 152 (ab_my 141) ∈ ab_TG := ab_tg6 53 rfl rfl
theorem wf_932 : Cond.instanceMethod (ab_my 141) ∈ ab_TG := ab_tg6 54 rfl rfl
theorem wf_933 : Cond.selects RX4 (ab_my 141) (ab_my 141) ∈ ab_TG := ab_tg6 55 rfl rfl
theorem wf_934 : ab_cw 176 ∈ ab_TG ∧ plainName (ab_my 176).cls = true := ⟨ab_tg3 237 rfl rfl, ab_pn 176 (by decide)⟩
theorem wf_935 : Cond.methodLink "StaggershelfLaw" 153 (ab_my 176) ∈ ab_TG := ab_tg3 235 rfl rfl
theorem wf_936 : Cond.static (ab_my 176) ∈ ab_TG := ab_tg3 236 rfl rfl
theorem wf_937 : ab_cw 143 ∈ ab_TG ∧ plainName (ab_my 143).cls = true := ⟨ab_tg6 92 rfl rfl, ab_pn 143 (by decide)⟩
theorem wf_938 : Cond.methodLink "StaggershelfLaw" 155 (ab_my 143) ∈ ab_TG := ab_tg6 89 rfl rfl
theorem wf_939 : Cond.instanceMethod (ab_my 143) ∈ ab_TG := ab_tg6 90 rfl rfl
theorem wf_940 : Cond.selects RX4 (ab_my 143) (ab_my 143) ∈ ab_TG := ab_tg6 91 rfl rfl
theorem wf_941 : ab_cw 177 ∈ ab_TG ∧ plainName (ab_my 177).cls = true := ⟨ab_tg4 10 rfl rfl, ab_pn 177 (by decide)⟩
theorem wf_942 : Cond.methodLink "StaggershelfLaw" 156 (ab_my 177) ∈ ab_TG := ab_tg4 8 rfl rfl
theorem wf_943 : Cond.static (ab_my 177) ∈ ab_TG := ab_tg4 9 rfl rfl
theorem wf_944 : ab_cw 145 ∈ ab_TG ∧ plainName (ab_my 145).cls = true := ⟨ab_tg6 100 rfl rfl, ab_pn 145 (by decide)⟩
theorem wf_945 : Cond.methodLink "StaggershelfLaw" 158 (ab_my 145) ∈ ab_TG := ab_tg6 97 rfl rfl
theorem wf_946 : Cond.instanceMethod (ab_my 145) ∈ ab_TG := ab_tg6 98 rfl rfl
theorem wf_947 : Cond.selects RX4 (ab_my 145) (ab_my 145) ∈ ab_TG := ab_tg6 99 rfl rfl
theorem wf_948 : ab_cw 178 ∈ ab_TG ∧ plainName (ab_my 178).cls = true := ⟨ab_tg4 14 rfl rfl, ab_pn 178 (by decide)⟩
theorem wf_949 : Cond.methodLink "StaggershelfLaw" 159 (ab_my 178) ∈ ab_TG := ab_tg4 12 rfl rfl
theorem wf_950 : Cond.static (ab_my 178) ∈ ab_TG := ab_tg4 13 rfl rfl
theorem wf_951 : ab_cw 147 ∈ ab_TG ∧ plainName (ab_my 147).cls = true := ⟨ab_tg6 108 rfl rfl, ab_pn 147 (by decide)⟩
theorem wf_952 : Cond.methodLink "StaggershelfLaw" 161 (ab_my 147) ∈ ab_TG := ab_tg6 105 rfl rfl
theorem wf_953 : Cond.instanceMethod (ab_my 147) ∈ ab_TG := ab_tg6 106 rfl rfl
theorem wf_954 : Cond.selects RX4 (ab_my 147) (ab_my 147) ∈ ab_TG := ab_tg6 107 rfl rfl
theorem wf_955 : ab_cw 179 ∈ ab_TG ∧ plainName (ab_my 179).cls = true := ⟨ab_tg4 18 rfl rfl, ab_pn 179 (by decide)⟩
theorem wf_956 : Cond.methodLink "StaggershelfLaw" 162 (ab_my 179) ∈ ab_TG := ab_tg4 16 rfl rfl
theorem wf_957 : Cond.static (ab_my 179) ∈ ab_TG := ab_tg4 17 rfl rfl
theorem wf_958 : ab_cw 149 ∈ ab_TG ∧ plainName (ab_my 149).cls = true := ⟨ab_tg6 116 rfl rfl, ab_pn 149 (by decide)⟩
theorem wf_959 : Cond.methodLink "StaggershelfLaw" 164 (ab_my 149) ∈ ab_TG := ab_tg6 113 rfl rfl
theorem wf_960 : Cond.instanceMethod (ab_my 149) ∈ ab_TG := ab_tg6 114 rfl rfl
theorem wf_961 : Cond.selects RX4 (ab_my 149) (ab_my 149) ∈ ab_TG := ab_tg6 115 rfl rfl
theorem wf_962 : ab_cw 180 ∈ ab_TG ∧ plainName (ab_my 180).cls = true := ⟨ab_tg4 22 rfl rfl, ab_pn 180 (by decide)⟩
theorem wf_963 : Cond.methodLink "StaggershelfLaw" 165 (ab_my 180) ∈ ab_TG := ab_tg4 20 rfl rfl
theorem wf_964 : Cond.static (ab_my 180) ∈ ab_TG := ab_tg4 21 rfl rfl
theorem wf_965 : ab_cw 151 ∈ ab_TG ∧ plainName (ab_my 151).cls = true := ⟨ab_tg6 124 rfl rfl, ab_pn 151 (by decide)⟩
theorem wf_966 : Cond.methodLink "StaggershelfLaw" 167 (ab_my 151) ∈ ab_TG := ab_tg6 121 rfl rfl
theorem wf_967 : Cond.instanceMethod (ab_my 151) ∈ ab_TG := ab_tg6 122 rfl rfl
theorem wf_968 : Cond.selects RX4 (ab_my 151) (ab_my 151) ∈ ab_TG := ab_tg6 123 rfl rfl
theorem wf_969 : ab_cw 181 ∈ ab_TG ∧ plainName (ab_my 181).cls = true := ⟨ab_tg4 26 rfl rfl, ab_pn 181 (by decide)⟩
theorem wf_970 : Cond.methodLink "StaggershelfLaw" 168 (ab_my 181) ∈ ab_TG := ab_tg4 24 rfl rfl
theorem wf_971 : Cond.static (ab_my 181) ∈ ab_TG := ab_tg4 25 rfl rfl
theorem wf_972 : ab_cw 153 ∈ ab_TG ∧ plainName (ab_my 153).cls = true := ⟨ab_tg6 132 rfl rfl, ab_pn 153 (by decide)⟩
theorem wf_973 : Cond.methodLink "StaggershelfLaw" 170 (ab_my 153) ∈ ab_TG := ab_tg6 129 rfl rfl
theorem wf_974 : Cond.instanceMethod (ab_my 153) ∈ ab_TG := ab_tg6 130 rfl rfl
theorem wf_975 : Cond.selects RX4 (ab_my 153) (ab_my 153) ∈ ab_TG := ab_tg6 131 rfl rfl
theorem wf_976 : ab_cw 182 ∈ ab_TG ∧ plainName (ab_my 182).cls = true := ⟨ab_tg4 30 rfl rfl, ab_pn 182 (by decide)⟩
theorem wf_977 : Cond.methodLink "StaggershelfLaw" 171 (ab_my 182) ∈ ab_TG := ab_tg4 28 rfl rfl
theorem wf_978 : Cond.static (ab_my 182) ∈ ab_TG := ab_tg4 29 rfl rfl
theorem wf_979 : ab_cw 154 ∈ ab_TG ∧ plainName (ab_my 154).cls = true := ⟨ab_tg6 140 rfl rfl, ab_pn 154 (by decide)⟩
theorem wf_980 : Cond.methodLink "StaggershelfLaw" 173 (ab_my 154) ∈ ab_TG := ab_tg6 137 rfl rfl
theorem wf_981 : Cond.instanceMethod (ab_my 154) ∈ ab_TG := ab_tg6 138 rfl rfl
theorem wf_982 : Cond.selects RX4 (ab_my 154) (ab_my 154) ∈ ab_TG := ab_tg6 139 rfl rfl
theorem wf_983 : ab_cw 183 ∈ ab_TG ∧ plainName (ab_my 183).cls = true := ⟨ab_tg5 61 rfl rfl, ab_pn 183 (by decide)⟩
theorem wf_984 : Cond.methodLink "StaggershelfLaw" 174 (ab_my 183) ∈ ab_TG := ab_tg5 59 rfl rfl
theorem wf_985 : Cond.static (ab_my 183) ∈ ab_TG := ab_tg5 60 rfl rfl
theorem wf_986 : ab_cw 156 ∈ ab_TG ∧ plainName (ab_my 156).cls = true := ⟨ab_tg6 153 rfl rfl, ab_pn 156 (by decide)⟩
theorem wf_987 : Cond.methodLink "StaggershelfLaw" 176 (ab_my 156) ∈ ab_TG := ab_tg6 150 rfl rfl
theorem wf_988 : Cond.instanceMethod (ab_my 156) ∈ ab_TG := ab_tg6 151 rfl rfl
theorem wf_989 : Cond.selects RX4 (ab_my 156) (ab_my 156) ∈ ab_TG := ab_tg6 152 rfl rfl
theorem wf_990 : ab_cw 184 ∈ ab_TG ∧ plainName (ab_my 184).cls = true := ⟨ab_tg5 65 rfl rfl, ab_pn 184 (by decide)⟩
theorem wf_991 : Cond.methodLink "StaggershelfLaw" 177 (ab_my 184) ∈ ab_TG := ab_tg5 63 rfl rfl
theorem wf_992 : Cond.static (ab_my 184) ∈ ab_TG := ab_tg5 64 rfl rfl
theorem wf_993 : ab_cw 157 ∈ ab_TG ∧ plainName (ab_my 157).cls = true := ⟨ab_tg6 161 rfl rfl, ab_pn 157 (by decide)⟩
theorem wf_994 : Cond.methodLink "StaggershelfLaw" 179 (ab_my 157) ∈ ab_TG := ab_tg6 158 rfl rfl
theorem wf_995 : Cond.instanceMethod (ab_my 157) ∈ ab_TG := ab_tg6 159 rfl rfl
theorem wf_996 : Cond.selects RX4 (ab_my 157) (ab_my 157) ∈ ab_TG := ab_tg6 160 rfl rfl
theorem wf_997 : ab_cw 185 ∈ ab_TG ∧ plainName (ab_my 185).cls = true := ⟨ab_tg5 72 rfl rfl, ab_pn 185 (by decide)⟩
theorem wf_998 : Cond.methodLink "StaggershelfLaw" 180 (ab_my 185) ∈ ab_TG := ab_tg5 70 rfl rfl
theorem wf_999 : Cond.static (ab_my 185) ∈ ab_TG := ab_tg5 71 rfl rfl
theorem wf_1000 : ab_cw 158 ∈ ab_TG ∧ plainName (ab_my 158).cls = true := ⟨ab_tg6 165 rfl rfl, ab_pn 158 (by decide)⟩
theorem wf_1001 : Cond.methodLink "StaggershelfLaw" 182 (ab_my 158) ∈ ab_TG := ab_tg6 162 rfl rfl
theorem wf_1002 : Cond.instanceMethod (ab_my 158) ∈ ab_TG := ab_tg6 163 rfl rfl
theorem wf_1003 : Cond.selects RX4 (ab_my 158) (ab_my 158) ∈ ab_TG := ab_tg6 164 rfl rfl
theorem wf_1004 : ab_cw 99 ∈ ab_TG ∧ plainName (ab_my 99).cls = true := ⟨ab_tg5 157 rfl rfl, ab_pn 99 (by decide)⟩
theorem wf_1005 : Cond.methodLink "StaggershelfLaw" 183 (ab_my 99) ∈ ab_TG := ab_tg5 154 rfl rfl
theorem wf_1006 : Cond.instanceMethod (ab_my 99) ∈ ab_TG := ab_tg5 155 rfl rfl
theorem wf_1007 : Cond.selects RX4 (ab_my 99) (ab_my 99) ∈ ab_TG := ab_tg5 156 rfl rfl
theorem wf_1008 : Cond.methodLink "StaggershelfLaw" 186 (ab_my 84) ∈ ab_TG := ab_tg1 157 rfl rfl
theorem wf_1009 : ab_cw 160 ∈ ab_TG ∧ plainName (ab_my 160).cls = true := ⟨ab_tg6 169 rfl rfl, ab_pn 160 (by decide)⟩
theorem wf_1010 : Cond.methodLink "StaggershelfLaw" 189 (ab_my 160) ∈ ab_TG := ab_tg6 166 rfl rfl
theorem wf_1011 : Cond.instanceMethod (ab_my 160) ∈ ab_TG := ab_tg6 167 rfl rfl
theorem wf_1012 : Cond.selects RX4 (ab_my 160) (ab_my 160) ∈ ab_TG := ab_tg6 168 rfl rfl
theorem wf_1013 : ab_cw 85 ∈ ab_TG ∧ plainName (ab_my 85).cls = true := ⟨ab_tg1 232 rfl rfl, ab_pn 85 (by decide)⟩
theorem wf_1014 : Cond.methodLink "StaggershelfLaw" 190 (ab_my 85) ∈ ab_TG := ab_tg1 229 rfl rfl
theorem wf_1015 : Cond.instanceMethod (ab_my 85) ∈ ab_TG := ab_tg1 230 rfl rfl
theorem wf_1016 : Cond.selects RX2 (ab_my 85) (ab_my 85) ∈ ab_TG := ab_tg1 231 rfl rfl
theorem wf_1017 : ab_cw 161 ∈ ab_TG ∧ plainName (ab_my 161).cls = true := ⟨ab_tg6 177 rfl rfl, ab_pn 161 (by decide)⟩
theorem wf_1018 : Cond.methodLink "StaggershelfLaw" 193 (ab_my 161) ∈ ab_TG := ab_tg6 174 rfl rfl
theorem wf_1019 : Cond.instanceMethod (ab_my 161) ∈ ab_TG := ab_tg6 175 rfl rfl
theorem wf_1020 : Cond.selects RX4 (ab_my 161) (ab_my 161) ∈ ab_TG := ab_tg6 176 rfl rfl
theorem wf_1021 : ab_cw 86 ∈ ab_TG ∧ plainName (ab_my 86).cls = true := ⟨ab_tg1 236 rfl rfl, ab_pn 86 (by decide)⟩
theorem wf_1022 : Cond.methodLink "StaggershelfLaw" 194 (ab_my 86) ∈ ab_TG := ab_tg1 233 rfl rfl
theorem wf_1023 : Cond.instanceMethod (ab_my 86) ∈ ab_TG := ab_tg1 234 rfl rfl
theorem wf_1024 : Cond.selects RX2 (ab_my 86) (ab_my 86) ∈ ab_TG := ab_tg1 235 rfl rfl
theorem wf_1025 : ab_cw 162 ∈ ab_TG ∧ plainName (ab_my 162).cls = true := ⟨ab_tg6 181 rfl rfl, ab_pn 162 (by decide)⟩
theorem wf_1026 : Cond.methodLink "StaggershelfLaw" 198 (ab_my 162) ∈ ab_TG := ab_tg6 178 rfl rfl
theorem wf_1027 : Cond.instanceMethod (ab_my 162) ∈ ab_TG := ab_tg6 179 rfl rfl
theorem wf_1028 : Cond.selects RX4 (ab_my 162) (ab_my 162) ∈ ab_TG := ab_tg6 180 rfl rfl
end
