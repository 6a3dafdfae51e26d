/-! EACH OF ITS INSTRUCTIONS IS SOUND; printed by wip/p2/gen_code.py -/
theorem wf_0 : Cond.methodLink "Staggershelf$Rack" 3 Lib.objectInit ∈ ab_TG := ab_tg_i 37 (by decide +kernel) (by decide +kernel)
theorem wf_1 : Cond.instanceMethod Lib.objectInit ∈ ab_TG := ab_tg_i 30 (by decide +kernel) (by decide +kernel)
theorem wf_2 : Cond.code Lib.objectInit ⟨#[0xb1]⟩ 1 none ∈ ab_TG := ab_tg_i 31 (by decide +kernel) (by decide +kernel)
theorem wf_3 : Cond.arrayClass .int ∈ ab_TG := ab_tg_i 62 (by decide +kernel) (by decide +kernel)
theorem wf_4 : Cond.fieldLink "Staggershelf$Rack" 9 (TX0 2).1 (TX0 2).2.1 (TX0 2).2.2.1 ∈ ab_TG := ab_tg_i 42 (by decide +kernel) (by decide +kernel)
theorem wf_5 : Cond.fieldLink "Staggershelf$Rack" 15 (TX0 3).1 (TX0 3).2.1 (TX0 3).2.2.1 ∈ ab_TG := ab_tg_i 43 (by decide +kernel) (by decide +kernel)
theorem wf_6 : Cond.fieldLink "Staggershelf$Rack" 18 (TX0 4).1 (TX0 4).2.1 (TX0 4).2.2.1 ∈ ab_TG := ab_tg_i 44 (by decide +kernel) (by decide +kernel)
theorem wf_7 : Cond.arrayClass .boolean ∈ ab_TG := ab_tg_i 63 (by decide +kernel) (by decide +kernel)
theorem wf_8 : Cond.fieldLink "Staggershelf$Rack" 21 (TX0 5).1 (TX0 5).2.1 (TX0 5).2.2.1 ∈ ab_TG := ab_tg_i 45 (by decide +kernel) (by decide +kernel)
theorem wf_9 : Cond.fieldLink "Staggershelf$Rack" 25 (TX0 6).1 (TX0 6).2.1 (TX0 6).2.2.1 ∈ ab_TG := ab_tg_i 46 (by decide +kernel) (by decide +kernel)
theorem wf_10 : Cond.fieldLink "Staggershelf$Rack" 28 (TX0 0).1 (TX0 0).2.1 (TX0 0).2.2.1 ∈ ab_TG := ab_tg_i 38 (by decide +kernel) (by decide +kernel)
theorem wf_11 : Cond.fieldLink "Staggershelf$Rack" 32 (TX0 1).1 (TX0 1).2.1 (TX0 1).2.2.1 ∈ ab_TG := ab_tg_i 40 (by decide +kernel) (by decide +kernel)
theorem wf_12 : Cond.code (ab_my 26) (ab_mb 26) (ab_mL 26) (ab_mr 26) ∈ ab_TG ∧ plainName (ab_my 26).cls = true := ⟨ab_tg_i 475 (by decide +kernel) (by decide +kernel), by decide +kernel⟩
theorem wf_13 : Cond.methodLink "Staggershelf$Rack" 35 (ab_my 26) ∈ ab_TG := ab_tg_i 472 (by decide +kernel) (by decide +kernel)
theorem wf_14 : Cond.instanceMethod (ab_my 26) ∈ ab_TG := ab_tg_i 473 (by decide +kernel) (by decide +kernel)
theorem wf_15 : Cond.selects RX0 (ab_my 26) (ab_my 26) ∈ ab_TG := ab_tg_i 474 (by decide +kernel) (by decide +kernel)
theorem wf_16 : Cond.initialized RX0 ∈ ab_TG := ab_tg_i 2 (by decide +kernel) (by decide +kernel)
theorem wf_17 : Cond.code (ab_my 5) (ab_mb 5) (ab_mL 5) (ab_mr 5) ∈ ab_TG ∧ plainName (ab_my 5).cls = true := ⟨ab_tg_i 168 (by decide +kernel) (by decide +kernel), by decide +kernel⟩
theorem wf_18 : Cond.methodLink "Staggershelf$Rack" 39 (ab_my 5) ∈ ab_TG := ab_tg_i 165 (by decide +kernel) (by decide +kernel)
theorem wf_19 : Cond.instanceMethod (ab_my 5) ∈ ab_TG := ab_tg_i 166 (by decide +kernel) (by decide +kernel)
theorem wf_20 : Cond.selects RX0 (ab_my 5) (ab_my 5) ∈ ab_TG := ab_tg_i 167 (by decide +kernel) (by decide +kernel)
theorem wf_21 : Cond.code (ab_my 6) (ab_mb 6) (ab_mL 6) (ab_mr 6) ∈ ab_TG ∧ plainName (ab_my 6).cls = true := ⟨ab_tg_i 172 (by decide +kernel) (by decide +kernel), by decide +kernel⟩
theorem wf_22 : Cond.methodLink "Staggershelf$Rack" 43 (ab_my 6) ∈ ab_TG := ab_tg_i 424 (by decide +kernel) (by decide +kernel)
theorem wf_23 : Cond.instanceMethod (ab_my 6) ∈ ab_TG := ab_tg_i 170 (by decide +kernel) (by decide +kernel)
theorem wf_24 : Cond.selects RX0 (ab_my 6) (ab_my 6) ∈ ab_TG := ab_tg_i 171 (by decide +kernel) (by decide +kernel)
theorem wf_25 : Cond.code (ab_my 9) (ab_mb 9) (ab_mL 9) (ab_mr 9) ∈ ab_TG ∧ plainName (ab_my 9).cls = true := ⟨ab_tg_i 180 (by decide +kernel) (by decide +kernel), by decide +kernel⟩
theorem wf_26 : Cond.methodLink "Staggershelf$Rack" 47 (ab_my 9) ∈ ab_TG := ab_tg_i 177 (by decide +kernel) (by decide +kernel)
theorem wf_27 : Cond.instanceMethod (ab_my 9) ∈ ab_TG := ab_tg_i 178 (by decide +kernel) (by decide +kernel)
theorem wf_28 : Cond.selects RX0 (ab_my 9) (ab_my 9) ∈ ab_TG := ab_tg_i 179 (by decide +kernel) (by decide +kernel)
theorem wf_29 : Cond.code (ab_my 35) (ab_mb 35) (ab_mL 35) (ab_mr 35) ∈ ab_TG ∧ plainName (ab_my 35).cls = true := ⟨ab_tg_i 192 (by decide +kernel) (by decide +kernel), by decide +kernel⟩
theorem wf_30 : Cond.methodLink "Staggershelf$Rack" 50 (ab_my 35) ∈ ab_TG := ab_tg_i 189 (by decide +kernel) (by decide +kernel)
theorem wf_31 : Cond.instanceMethod (ab_my 35) ∈ ab_TG := ab_tg_i 191 (by decide +kernel) (by decide +kernel)
theorem wf_32 : Cond.selects RX0 (ab_my 35) (ab_my 35) ∈ ab_TG := ab_tg_p (by decide +kernel) (by decide +kernel)
theorem wf_33 : Cond.code (ab_my 13) (ab_mb 13) (ab_mL 13) (ab_mr 13) ∈ ab_TG ∧ plainName (ab_my 13).cls = true := ⟨ab_tg_i 196 (by decide +kernel) (by decide +kernel), by decide +kernel⟩
theorem wf_34 : Cond.methodLink "Staggershelf$Rack" 54 (ab_my 13) ∈ ab_TG := ab_tg_i 193 (by decide +kernel) (by decide +kernel)
theorem wf_35 : Cond.instanceMethod (ab_my 13) ∈ ab_TG := ab_tg_i 194 (by decide +kernel) (by decide +kernel)
theorem wf_36 : Cond.selects RX0 (ab_my 13) (ab_my 13) ∈ ab_TG := ab_tg_i 195 (by decide +kernel) (by decide +kernel)
theorem wf_37 : Cond.code (ab_my 34) (ab_mb 34) (ab_mL 34) (ab_mr 34) ∈ ab_TG ∧ plainName (ab_my 34).cls = true := ⟨ab_tg_i 200 (by decide +kernel) (by decide +kernel), by decide +kernel⟩
theorem wf_38 : Cond.methodLink "Staggershelf$Rack" 58 (ab_my 34) ∈ ab_TG := ab_tg_i 197 (by decide +kernel) (by decide +kernel)
theorem wf_39 : Cond.instanceMethod (ab_my 34) ∈ ab_TG := ab_tg_i 199 (by decide +kernel) (by decide +kernel)
theorem wf_40 : Cond.selects RX0 (ab_my 34) (ab_my 34) ∈ ab_TG := ab_tg_p (by decide +kernel) (by decide +kernel)
theorem wf_41 : Cond.code (ab_my 15) (ab_mb 15) (ab_mL 15) (ab_mr 15) ∈ ab_TG ∧ plainName (ab_my 15).cls = true := ⟨ab_tg_i 188 (by decide +kernel) (by decide +kernel), by decide +kernel⟩
theorem wf_42 : Cond.methodLink "Staggershelf$Rack" 61 (ab_my 15) ∈ ab_TG := ab_tg_i 185 (by decide +kernel) (by decide +kernel)
theorem wf_43 : Cond.instanceMethod (ab_my 15) ∈ ab_TG := ab_tg_i 186 (by decide +kernel) (by decide +kernel)
theorem wf_44 : Cond.selects RX0 (ab_my 15) (ab_my 15) ∈ ab_TG := ab_tg_i 187 (by decide +kernel) (by decide +kernel)
theorem wf_45 : Cond.code (ab_my 17) (ab_mb 17) (ab_mL 17) (ab_mr 17) ∈ ab_TG ∧ plainName (ab_my 17).cls = true := ⟨ab_tg_i 184 (by decide +kernel) (by decide +kernel), by decide +kernel⟩
theorem wf_46 : Cond.methodLink "Staggershelf$Rack" 65 (ab_my 17) ∈ ab_TG := ab_tg_i 181 (by decide +kernel) (by decide +kernel)
theorem wf_47 : Cond.instanceMethod (ab_my 17) ∈ ab_TG := ab_tg_i 182 (by decide +kernel) (by decide +kernel)
theorem wf_48 : Cond.selects RX0 (ab_my 17) (ab_my 17) ∈ ab_TG := ab_tg_i 183 (by decide +kernel) (by decide +kernel)
theorem wf_49 : Cond.code (ab_my 11) (ab_mb 11) (ab_mL 11) (ab_mr 11) ∈ ab_TG ∧ plainName (ab_my 11).cls = true := ⟨ab_tg_i 204 (by decide +kernel) (by decide +kernel), by decide +kernel⟩
theorem wf_50 : Cond.methodLink "Staggershelf$Rack" 68 (ab_my 11) ∈ ab_TG := ab_tg_i 201 (by decide +kernel) (by decide +kernel)
theorem wf_51 : Cond.instanceMethod (ab_my 11) ∈ ab_TG := ab_tg_i 202 (by decide +kernel) (by decide +kernel)
theorem wf_52 : Cond.selects RX0 (ab_my 11) (ab_my 11) ∈ ab_TG := ab_tg_i 203 (by decide +kernel) (by decide +kernel)
theorem wf_53 : Cond.code (ab_my 25) (ab_mb 25) (ab_mL 25) (ab_mr 25) ∈ ab_TG ∧ plainName (ab_my 25).cls = true := ⟨ab_tg_i 208 (by decide +kernel) (by decide +kernel), by decide +kernel⟩
theorem wf_54 : Cond.methodLink "Staggershelf$Rack" 71 (ab_my 25) ∈ ab_TG := ab_tg_i 205 (by decide +kernel) (by decide +kernel)
theorem wf_55 : Cond.instanceMethod (ab_my 25) ∈ ab_TG := ab_tg_i 207 (by decide +kernel) (by decide +kernel)
theorem wf_56 : Cond.selects RX0 (ab_my 25) (ab_my 25) ∈ ab_TG := ab_tg_p (by decide +kernel) (by decide +kernel)
theorem wf_57 : Cond.code (ab_my 2) (ab_mb 2) (ab_mL 2) (ab_mr 2) ∈ ab_TG ∧ plainName (ab_my 2).cls = true := ⟨ab_tg_i 343 (by decide +kernel) (by decide +kernel), by decide +kernel⟩
theorem wf_58 : Cond.methodLink "Staggershelf$Rack" 74 (ab_my 2) ∈ ab_TG := ab_tg_i 599 (by decide +kernel) (by decide +kernel)
theorem wf_59 : Cond.instanceMethod (ab_my 2) ∈ ab_TG := ab_tg_i 341 (by decide +kernel) (by decide +kernel)
theorem wf_60 : Cond.selects RX0 (ab_my 2) (ab_my 2) ∈ ab_TG := ab_tg_i 342 (by decide +kernel) (by decide +kernel)
theorem wf_61 : Cond.code (ab_my 7) (ab_mb 7) (ab_mL 7) (ab_mr 7) ∈ ab_TG ∧ plainName (ab_my 7).cls = true := ⟨ab_tg_i 423 (by decide +kernel) (by decide +kernel), by decide +kernel⟩
theorem wf_62 : Cond.methodLink "Staggershelf$Rack" 77 (ab_my 7) ∈ ab_TG := ab_tg_i 565 (by decide +kernel) (by decide +kernel)
theorem wf_63 : Cond.instanceMethod (ab_my 7) ∈ ab_TG := ab_tg_i 421 (by decide +kernel) (by decide +kernel)
theorem wf_64 : Cond.selects RX0 (ab_my 7) (ab_my 7) ∈ ab_TG := ab_tg_i 422 (by decide +kernel) (by decide +kernel)
theorem wf_65 : Cond.code (ab_my 8) (ab_mb 8) (ab_mL 8) (ab_mr 8) ∈ ab_TG ∧ plainName (ab_my 8).cls = true := ⟨ab_tg_i 412 (by decide +kernel) (by decide +kernel), by decide +kernel⟩
theorem wf_66 : Cond.methodLink "Staggershelf$Rack" 80 (ab_my 8) ∈ ab_TG := ab_tg_i 664 (by decide +kernel) (by decide +kernel)
theorem wf_67 : Cond.instanceMethod (ab_my 8) ∈ ab_TG := ab_tg_i 410 (by decide +kernel) (by decide +kernel)
theorem wf_68 : Cond.selects RX0 (ab_my 8) (ab_my 8) ∈ ab_TG := ab_tg_i 411 (by decide +kernel) (by decide +kernel)
theorem wf_69 : Cond.code (ab_my 31) (ab_mb 31) (ab_mL 31) (ab_mr 31) ∈ ab_TG ∧ plainName (ab_my 31).cls = true := ⟨ab_tg_i 564 (by decide +kernel) (by decide +kernel), by decide +kernel⟩
theorem wf_70 : Cond.methodLink "Staggershelf$Rack" 83 (ab_my 31) ∈ ab_TG := ab_tg_i 665 (by decide +kernel) (by decide +kernel)
theorem wf_71 : Cond.instanceMethod (ab_my 31) ∈ ab_TG := ab_tg_i 562 (by decide +kernel) (by decide +kernel)
theorem wf_72 : Cond.selects RX0 (ab_my 31) (ab_my 31) ∈ ab_TG := ab_tg_i 563 (by decide +kernel) (by decide +kernel)
theorem wf_73 : Cond.code (ab_my 24) (ab_mb 24) (ab_mL 24) (ab_mr 24) ∈ ab_TG ∧ plainName (ab_my 24).cls = true := ⟨ab_tg_i 212 (by decide +kernel) (by decide +kernel), by decide +kernel⟩
theorem wf_74 : Cond.methodLink "Staggershelf$Rack" 87 (ab_my 24) ∈ ab_TG := ab_tg_i 209 (by decide +kernel) (by decide +kernel)
theorem wf_75 : Cond.instanceMethod (ab_my 24) ∈ ab_TG := ab_tg_i 210 (by decide +kernel) (by decide +kernel)
theorem wf_76 : Cond.selects RX0 (ab_my 24) (ab_my 24) ∈ ab_TG := ab_tg_i 211 (by decide +kernel) (by decide +kernel)
theorem wf_77 : Cond.methodLink "Staggershelf$Starts" 3 Lib.objectInit ∈ ab_TG := ab_tg_i 69 (by decide +kernel) (by decide +kernel)
theorem wf_78 : Cond.fieldLink "Staggershelf$Starts" 9 (TX1 0).1 (TX1 0).2.1 (TX1 0).2.2.1 ∈ ab_TG := ab_tg_i 70 (by decide +kernel) (by decide +kernel)
theorem wf_79 : Cond.fieldLink "Staggershelf$Starts" 15 (TX1 3).1 (TX1 3).2.1 (TX1 3).2.2.1 ∈ ab_TG := ab_tg_i 74 (by decide +kernel) (by decide +kernel)
theorem wf_80 : Cond.fieldLink "Staggershelf$Starts" 19 (TX1 4).1 (TX1 4).2.1 (TX1 4).2.2.1 ∈ ab_TG := ab_tg_i 75 (by decide +kernel) (by decide +kernel)
theorem wf_81 : Cond.fieldLink "Staggershelf$Starts" 22 (TX1 5).1 (TX1 5).2.1 (TX1 5).2.2.1 ∈ ab_TG := ab_tg_i 76 (by decide +kernel) (by decide +kernel)
theorem wf_82 : Cond.fieldLink "Staggershelf$Starts" 25 (TX1 6).1 (TX1 6).2.1 (TX1 6).2.2.1 ∈ ab_TG := ab_tg_i 77 (by decide +kernel) (by decide +kernel)
theorem wf_83 : Cond.fieldLink "Staggershelf$Starts" 28 (TX1 7).1 (TX1 7).2.1 (TX1 7).2.2.1 ∈ ab_TG := ab_tg_i 78 (by decide +kernel) (by decide +kernel)
theorem wf_84 : Cond.fieldLink "Staggershelf$Starts" 31 (TX1 8).1 (TX1 8).2.1 (TX1 8).2.2.1 ∈ ab_TG := ab_tg_i 79 (by decide +kernel) (by decide +kernel)
theorem wf_85 : Cond.fieldLink "Staggershelf$Starts" 34 (TX1 9).1 (TX1 9).2.1 (TX1 9).2.2.1 ∈ ab_TG := ab_tg_i 80 (by decide +kernel) (by decide +kernel)
theorem wf_86 : Cond.fieldLink "Staggershelf$Starts" 37 (TX1 10).1 (TX1 10).2.1 (TX1 10).2.2.1 ∈ ab_TG := ab_tg_i 81 (by decide +kernel) (by decide +kernel)
theorem wf_87 : Cond.fieldLink "Staggershelf$Starts" 40 (TX1 11).1 (TX1 11).2.1 (TX1 11).2.2.1 ∈ ab_TG := ab_tg_i 82 (by decide +kernel) (by decide +kernel)
theorem wf_88 : Cond.fieldLink "Staggershelf$Starts" 43 (TX1 13).1 (TX1 13).2.1 (TX1 13).2.2.1 ∈ ab_TG := ab_tg_i 84 (by decide +kernel) (by decide +kernel)
theorem wf_89 : Cond.fieldLink "Staggershelf$Starts" 46 (TX1 14).1 (TX1 14).2.1 (TX1 14).2.2.1 ∈ ab_TG := ab_tg_i 85 (by decide +kernel) (by decide +kernel)
theorem wf_90 : Cond.fieldLink "Staggershelf$Starts" 49 (TX1 2).1 (TX1 2).2.1 (TX1 2).2.2.1 ∈ ab_TG := ab_tg_i 73 (by decide +kernel) (by decide +kernel)
theorem wf_91 : Cond.code (ab_my 52) (ab_mb 52) (ab_mL 52) (ab_mr 52) ∈ ab_TG ∧ plainName (ab_my 52).cls = true := ⟨ab_tg_i 483 (by decide +kernel) (by decide +kernel), by decide +kernel⟩
theorem wf_92 : Cond.methodLink "Staggershelf$Starts" 52 (ab_my 52) ∈ ab_TG := ab_tg_i 480 (by decide +kernel) (by decide +kernel)
theorem wf_93 : Cond.instanceMethod (ab_my 52) ∈ ab_TG := ab_tg_i 482 (by decide +kernel) (by decide +kernel)
theorem wf_94 : Cond.selects RX1 (ab_my 52) (ab_my 52) ∈ ab_TG := ab_tg_p (by decide +kernel) (by decide +kernel)
theorem wf_95 : Cond.initialized RX1 ∈ ab_TG := ab_tg_i 3 (by decide +kernel) (by decide +kernel)
theorem wf_96 : Cond.fieldLink "Staggershelf$Starts" 55 (TX1 1).1 (TX1 1).2.1 (TX1 1).2.2.1 ∈ ab_TG := ab_tg_i 72 (by decide +kernel) (by decide +kernel)
theorem wf_97 : Cond.code (ab_my 49) (ab_mb 49) (ab_mL 49) (ab_mr 49) ∈ ab_TG ∧ plainName (ab_my 49).cls = true := ⟨ab_tg_i 224 (by decide +kernel) (by decide +kernel), by decide +kernel⟩
theorem wf_98 : Cond.methodLink "Staggershelf$Starts" 58 (ab_my 49) ∈ ab_TG := ab_tg_i 221 (by decide +kernel) (by decide +kernel)
theorem wf_99 : Cond.instanceMethod (ab_my 49) ∈ ab_TG := ab_tg_i 223 (by decide +kernel) (by decide +kernel)
theorem wf_100 : Cond.selects RX1 (ab_my 49) (ab_my 49) ∈ ab_TG := ab_tg_p (by decide +kernel) (by decide +kernel)
theorem wf_101 : Cond.code (ab_my 51) (ab_mb 51) (ab_mL 51) (ab_mr 51) ∈ ab_TG ∧ plainName (ab_my 51).cls = true := ⟨ab_tg_i 220 (by decide +kernel) (by decide +kernel), by decide +kernel⟩
theorem wf_102 : Cond.methodLink "Staggershelf$Starts" 62 (ab_my 51) ∈ ab_TG := ab_tg_i 217 (by decide +kernel) (by decide +kernel)
theorem wf_103 : Cond.instanceMethod (ab_my 51) ∈ ab_TG := ab_tg_i 219 (by decide +kernel) (by decide +kernel)
theorem wf_104 : Cond.selects RX1 (ab_my 51) (ab_my 51) ∈ ab_TG := ab_tg_p (by decide +kernel) (by decide +kernel)
theorem wf_105 : Cond.code (ab_my 50) (ab_mb 50) (ab_mL 50) (ab_mr 50) ∈ ab_TG ∧ plainName (ab_my 50).cls = true := ⟨ab_tg_i 228 (by decide +kernel) (by decide +kernel), by decide +kernel⟩
theorem wf_106 : Cond.methodLink "Staggershelf$Starts" 66 (ab_my 50) ∈ ab_TG := ab_tg_i 225 (by decide +kernel) (by decide +kernel)
theorem wf_107 : Cond.instanceMethod (ab_my 50) ∈ ab_TG := ab_tg_i 227 (by decide +kernel) (by decide +kernel)
theorem wf_108 : Cond.selects RX1 (ab_my 50) (ab_my 50) ∈ ab_TG := ab_tg_p (by decide +kernel) (by decide +kernel)
theorem wf_109 : Cond.code (ab_my 53) (ab_mb 53) (ab_mL 53) (ab_mr 53) ∈ ab_TG ∧ plainName (ab_my 53).cls = true := ⟨ab_tg_i 487 (by decide +kernel) (by decide +kernel), by decide +kernel⟩
theorem wf_110 : Cond.methodLink "Staggershelf$Starts" 70 (ab_my 53) ∈ ab_TG := ab_tg_i 484 (by decide +kernel) (by decide +kernel)
theorem wf_111 : Cond.instanceMethod (ab_my 53) ∈ ab_TG := ab_tg_i 486 (by decide +kernel) (by decide +kernel)
theorem wf_112 : Cond.selects RX1 (ab_my 53) (ab_my 53) ∈ ab_TG := ab_tg_p (by decide +kernel) (by decide +kernel)
theorem wf_113 : Cond.code (ab_my 54) (ab_mb 54) (ab_mL 54) (ab_mr 54) ∈ ab_TG ∧ plainName (ab_my 54).cls = true := ⟨ab_tg_i 492 (by decide +kernel) (by decide +kernel), by decide +kernel⟩
theorem wf_114 : Cond.methodLink "Staggershelf$Starts" 74 (ab_my 54) ∈ ab_TG := ab_tg_i 489 (by decide +kernel) (by decide +kernel)
theorem wf_115 : Cond.instanceMethod (ab_my 54) ∈ ab_TG := ab_tg_i 491 (by decide +kernel) (by decide +kernel)
theorem wf_116 : Cond.selects RX1 (ab_my 54) (ab_my 54) ∈ ab_TG := ab_tg_p (by decide +kernel) (by decide +kernel)
theorem wf_117 : Cond.code (ab_my 42) (ab_mb 42) (ab_mL 42) (ab_mr 42) ∈ ab_TG ∧ plainName (ab_my 42).cls = true := ⟨ab_tg_i 380 (by decide +kernel) (by decide +kernel), by decide +kernel⟩
theorem wf_118 : Cond.methodLink "Staggershelf$Starts" 78 (ab_my 42) ∈ ab_TG := ab_tg_i 488 (by decide +kernel) (by decide +kernel)
theorem wf_119 : Cond.instanceMethod (ab_my 42) ∈ ab_TG := ab_tg_i 378 (by decide +kernel) (by decide +kernel)
theorem wf_120 : Cond.selects RX1 (ab_my 42) (ab_my 42) ∈ ab_TG := ab_tg_i 379 (by decide +kernel) (by decide +kernel)
theorem wf_121 : Cond.code (ab_my 55) (ab_mb 55) (ab_mL 55) (ab_mr 55) ∈ ab_TG ∧ plainName (ab_my 55).cls = true := ⟨ab_tg_i 496 (by decide +kernel) (by decide +kernel), by decide +kernel⟩
theorem wf_122 : Cond.methodLink "Staggershelf$Starts" 82 (ab_my 55) ∈ ab_TG := ab_tg_i 493 (by decide +kernel) (by decide +kernel)
theorem wf_123 : Cond.instanceMethod (ab_my 55) ∈ ab_TG := ab_tg_i 495 (by decide +kernel) (by decide +kernel)
theorem wf_124 : Cond.selects RX1 (ab_my 55) (ab_my 55) ∈ ab_TG := ab_tg_p (by decide +kernel) (by decide +kernel)
theorem wf_125 : Cond.code (ab_my 57) (ab_mb 57) (ab_mL 57) (ab_mr 57) ∈ ab_TG ∧ plainName (ab_my 57).cls = true := ⟨ab_tg_i 500 (by decide +kernel) (by decide +kernel), by decide +kernel⟩
theorem wf_126 : Cond.methodLink "Staggershelf$Starts" 86 (ab_my 57) ∈ ab_TG := ab_tg_i 497 (by decide +kernel) (by decide +kernel)
theorem wf_127 : Cond.instanceMethod (ab_my 57) ∈ ab_TG := ab_tg_i 499 (by decide +kernel) (by decide +kernel)
theorem wf_128 : Cond.selects RX1 (ab_my 57) (ab_my 57) ∈ ab_TG := ab_tg_p (by decide +kernel) (by decide +kernel)
theorem wf_129 : Cond.code (ab_my 41) (ab_mb 41) (ab_mL 41) (ab_mr 41) ∈ ab_TG ∧ plainName (ab_my 41).cls = true := ⟨ab_tg_i 376 (by decide +kernel) (by decide +kernel), by decide +kernel⟩
theorem wf_130 : Cond.methodLink "Staggershelf$Starts" 90 (ab_my 41) ∈ ab_TG := ab_tg_i 507 (by decide +kernel) (by decide +kernel)
theorem wf_131 : Cond.instanceMethod (ab_my 41) ∈ ab_TG := ab_tg_i 374 (by decide +kernel) (by decide +kernel)
theorem wf_132 : Cond.selects RX1 (ab_my 41) (ab_my 41) ∈ ab_TG := ab_tg_i 375 (by decide +kernel) (by decide +kernel)
theorem wf_133 : Cond.methodLink "Staggershelf$Starts" 93 Lib.Math.max.name ∈ ab_TG := ab_tg_i 504 (by decide +kernel) (by decide +kernel)
theorem wf_134 : Cond.static Lib.Math.max.name ∈ ab_TG := ab_tg_i 505 (by decide +kernel) (by decide +kernel)
theorem wf_135 : Cond.initialized "java/lang/Math" ∈ ab_TG := ab_tg_i 10 (by decide +kernel) (by decide +kernel)
theorem wf_136 : Cond.code Lib.Math.max.name Lib.Math.max.code 2 (some .int) ∈ ab_TG := ab_tg_i 506 (by decide +kernel) (by decide +kernel)
theorem wf_137 : Cond.code (ab_my 56) (ab_mb 56) (ab_mL 56) (ab_mr 56) ∈ ab_TG ∧ plainName (ab_my 56).cls = true := ⟨ab_tg_i 519 (by decide +kernel) (by decide +kernel), by decide +kernel⟩
theorem wf_138 : Cond.methodLink "Staggershelf$Starts" 98 (ab_my 56) ∈ ab_TG := ab_tg_i 516 (by decide +kernel) (by decide +kernel)
theorem wf_139 : Cond.instanceMethod (ab_my 56) ∈ ab_TG := ab_tg_i 518 (by decide +kernel) (by decide +kernel)
theorem wf_140 : Cond.selects RX1 (ab_my 56) (ab_my 56) ∈ ab_TG := ab_tg_p (by decide +kernel) (by decide +kernel)
theorem wf_141 : Cond.fieldLink "Staggershelf$Starts" 101 (TX1 12).1 (TX1 12).2.1 (TX1 12).2.2.1 ∈ ab_TG := ab_tg_i 83 (by decide +kernel) (by decide +kernel)
theorem wf_142 : Cond.code (ab_my 40) (ab_mb 40) (ab_mL 40) (ab_mr 40) ∈ ab_TG ∧ plainName (ab_my 40).cls = true := ⟨ab_tg_i 372 (by decide +kernel) (by decide +kernel), by decide +kernel⟩
theorem wf_143 : Cond.methodLink "Staggershelf$Starts" 104 (ab_my 40) ∈ ab_TG := ab_tg_i 520 (by decide +kernel) (by decide +kernel)
theorem wf_144 : Cond.instanceMethod (ab_my 40) ∈ ab_TG := ab_tg_i 370 (by decide +kernel) (by decide +kernel)
theorem wf_145 : Cond.selects RX1 (ab_my 40) (ab_my 40) ∈ ab_TG := ab_tg_i 371 (by decide +kernel) (by decide +kernel)
theorem wf_146 : Cond.methodLink "Staggershelf$Starts" 107 Lib.Math.min.name ∈ ab_TG := ab_tg_i 501 (by decide +kernel) (by decide +kernel)
theorem wf_147 : Cond.static Lib.Math.min.name ∈ ab_TG := ab_tg_i 502 (by decide +kernel) (by decide +kernel)
theorem wf_148 : Cond.code Lib.Math.min.name Lib.Math.min.code 2 (some .int) ∈ ab_TG := ab_tg_i 503 (by decide +kernel) (by decide +kernel)
theorem wf_149 : Cond.code (ab_my 59) (ab_mb 59) (ab_mL 59) (ab_mr 59) ∈ ab_TG ∧ plainName (ab_my 59).cls = true := ⟨ab_tg_i 511 (by decide +kernel) (by decide +kernel), by decide +kernel⟩
theorem wf_150 : Cond.methodLink "Staggershelf$Starts" 110 (ab_my 59) ∈ ab_TG := ab_tg_i 508 (by decide +kernel) (by decide +kernel)
theorem wf_151 : Cond.instanceMethod (ab_my 59) ∈ ab_TG := ab_tg_i 510 (by decide +kernel) (by decide +kernel)
theorem wf_152 : Cond.selects RX1 (ab_my 59) (ab_my 59) ∈ ab_TG := ab_tg_p (by decide +kernel) (by decide +kernel)
theorem wf_153 : Cond.code (ab_my 58) (ab_mb 58) (ab_mL 58) (ab_mr 58) ∈ ab_TG ∧ plainName (ab_my 58).cls = true := ⟨ab_tg_i 515 (by decide +kernel) (by decide +kernel), by decide +kernel⟩
theorem wf_154 : Cond.methodLink "Staggershelf$Starts" 114 (ab_my 58) ∈ ab_TG := ab_tg_i 512 (by decide +kernel) (by decide +kernel)
theorem wf_155 : Cond.instanceMethod (ab_my 58) ∈ ab_TG := ab_tg_i 514 (by decide +kernel) (by decide +kernel)
theorem wf_156 : Cond.selects RX1 (ab_my 58) (ab_my 58) ∈ ab_TG := ab_tg_p (by decide +kernel) (by decide +kernel)
theorem wf_157 : Cond.methodLink "Staggershelf" 1 Lib.objectInit ∈ ab_TG := ab_tg_i 29 (by decide +kernel) (by decide +kernel)
theorem wf_158 : Cond.classLink "Staggershelf" 7 RX0 ∈ ab_TG := ab_tg_i 32 (by decide +kernel) (by decide +kernel)
theorem wf_159 : Cond.instantiable RX0 7 ∈ ab_TG := ab_tg_i 33 (by decide +kernel) (by decide +kernel)
theorem wf_160 : Cond.code (ab_my 0) (ab_mb 0) (ab_mL 0) (ab_mr 0) ∈ ab_TG ∧ plainName (ab_my 0).cls = true := ⟨ab_tg_i 36 (by decide +kernel) (by decide +kernel), by decide +kernel⟩
theorem wf_161 : Cond.instanceMethod (ab_my 0) ∈ ab_TG := ab_tg_i 35 (by decide +kernel) (by decide +kernel)
theorem wf_162 : Cond.initialized (ab_my 0).cls ∈ ab_TG := ab_tg_i 2 (by decide +kernel) (by decide +kernel)
theorem wf_163 : Cond.methodLinkNest "Staggershelf" 9 (ab_my 0) "Staggershelf" ∈ ab_TN := ab_tn_i 34 (by decide +kernel) (by decide +kernel)
theorem wf_164 : Cond.fieldLink "Staggershelf" 10 (TX2 0).1 (TX2 0).2.1 (TX2 0).2.2.1 ∈ ab_TG := ab_tg_i 117 (by decide +kernel) (by decide +kernel)
theorem wf_165 : Cond.classLink "Staggershelf" 16 RX1 ∈ ab_TG := ab_tg_i 64 (by decide +kernel) (by decide +kernel)
theorem wf_166 : Cond.instantiable RX1 15 ∈ ab_TG := ab_tg_i 65 (by decide +kernel) (by decide +kernel)
theorem wf_167 : Cond.code (ab_my 36) (ab_mb 36) (ab_mL 36) (ab_mr 36) ∈ ab_TG ∧ plainName (ab_my 36).cls = true := ⟨ab_tg_i 68 (by decide +kernel) (by decide +kernel), by decide +kernel⟩
theorem wf_168 : Cond.instanceMethod (ab_my 36) ∈ ab_TG := ab_tg_i 67 (by decide +kernel) (by decide +kernel)
theorem wf_169 : Cond.initialized (ab_my 36).cls ∈ ab_TG := ab_tg_i 3 (by decide +kernel) (by decide +kernel)
theorem wf_170 : Cond.methodLinkNest "Staggershelf" 18 (ab_my 36) "Staggershelf" ∈ ab_TN := ab_tn_i 66 (by decide +kernel) (by decide +kernel)
theorem wf_171 : Cond.fieldLink "Staggershelf" 19 (TX2 1).1 (TX2 1).2.1 (TX2 1).2.2.1 ∈ ab_TG := ab_tg_i 118 (by decide +kernel) (by decide +kernel)
theorem wf_172 : Cond.fieldLink "Staggershelf" 23 (TX2 3).1 (TX2 3).2.1 (TX2 3).2.2.1 ∈ ab_TG := ab_tg_i 120 (by decide +kernel) (by decide +kernel)
theorem wf_173 : Cond.fieldLink "Staggershelf" 27 (TX2 4).1 (TX2 4).2.1 (TX2 4).2.2.1 ∈ ab_TG := ab_tg_i 121 (by decide +kernel) (by decide +kernel)
theorem wf_174 : Cond.fieldLink "Staggershelf" 30 (TX2 5).1 (TX2 5).2.1 (TX2 5).2.2.1 ∈ ab_TG := ab_tg_i 122 (by decide +kernel) (by decide +kernel)
theorem wf_175 : Cond.classLink "Staggershelf" 33 (ab_ex 1) ∈ ab_TG := ab_tg_i 268 (by decide +kernel) (by decide +kernel)
theorem wf_176 : Cond.initialized (ab_ex 1) ∈ ab_TG := ab_tg_i 9 (by decide +kernel) (by decide +kernel)
theorem wf_177 : (("Staggershelf", 35, "disks must be 3 to 5") : String × Nat × String) ∈ ab_TS := by decide +kernel
theorem wf_178 : ∀ w ∈ vx_atS "Staggershelf" 37 (ab_ex 1) ["java/lang/RuntimeException", "java/lang/Exception"], w ∈ ab_TG ∨ w ∈ ab_TN := ab_at_of (by decide +kernel)
theorem wf_179 : ∀ w ∈ Cond.classLink "Staggershelf" 33 (ab_ex 1) :: Cond.initialized (ab_ex 1) :: vx_atS "Staggershelf" 37 (ab_ex 1) ["java/lang/RuntimeException", "java/lang/Exception"], vx_ot w = true := by decide +kernel
theorem wf_180 : (("Staggershelf", 40, "stripes must be 1 to 8") : String × Nat × String) ∈ ab_TS := by decide +kernel
theorem wf_181 : Cond.code (ab_my 1) (ab_mb 1) (ab_mL 1) (ab_mr 1) ∈ ab_TG ∧ plainName (ab_my 1).cls = true := ⟨ab_tg_i 471 (by decide +kernel) (by decide +kernel), by decide +kernel⟩
theorem wf_182 : Cond.methodLink "Staggershelf" 42 (ab_my 1) ∈ ab_TG := ab_tg_i 468 (by decide +kernel) (by decide +kernel)
theorem wf_183 : Cond.instanceMethod (ab_my 1) ∈ ab_TG := ab_tg_i 469 (by decide +kernel) (by decide +kernel)
theorem wf_184 : Cond.selects RX0 (ab_my 1) (ab_my 1) ∈ ab_TG := ab_tg_i 470 (by decide +kernel) (by decide +kernel)
theorem wf_185 : Cond.code (ab_my 37) (ab_mb 37) (ab_mL 37) (ab_mr 37) ∈ ab_TG ∧ plainName (ab_my 37).cls = true := ⟨ab_tg_i 479 (by decide +kernel) (by decide +kernel), by decide +kernel⟩
theorem wf_186 : Cond.methodLink "Staggershelf" 46 (ab_my 37) ∈ ab_TG := ab_tg_i 476 (by decide +kernel) (by decide +kernel)
theorem wf_187 : Cond.instanceMethod (ab_my 37) ∈ ab_TG := ab_tg_i 477 (by decide +kernel) (by decide +kernel)
theorem wf_188 : Cond.selects RX1 (ab_my 37) (ab_my 37) ∈ ab_TG := ab_tg_i 478 (by decide +kernel) (by decide +kernel)
theorem wf_189 : Cond.fieldLink "Staggershelf" 50 (TX2 2).1 (TX2 2).2.1 (TX2 2).2.2.1 ∈ ab_TG := ab_tg_i 119 (by decide +kernel) (by decide +kernel)
theorem wf_190 : Cond.code (ab_my 92) (ab_mb 92) (ab_mL 92) (ab_mr 92) ∈ ab_TG ∧ plainName (ab_my 92).cls = true := ⟨ab_tg_i 524 (by decide +kernel) (by decide +kernel), by decide +kernel⟩
theorem wf_191 : Cond.methodLink "Staggershelf" 54 (ab_my 92) ∈ ab_TG := ab_tg_i 521 (by decide +kernel) (by decide +kernel)
theorem wf_192 : Cond.instanceMethod (ab_my 92) ∈ ab_TG := ab_tg_i 523 (by decide +kernel) (by decide +kernel)
theorem wf_193 : Cond.selects RX2 (ab_my 92) (ab_my 92) ∈ ab_TG := ab_tg_p (by decide +kernel) (by decide +kernel)
theorem wf_194 : Cond.initialized RX2 ∈ ab_TG := ab_tg_i 1 (by decide +kernel) (by decide +kernel)
theorem wf_195 : Cond.fieldLink "Staggershelf" 57 (TX2 6).1 (TX2 6).2.1 (TX2 6).2.2.1 ∈ ab_TG := ab_tg_i 123 (by decide +kernel) (by decide +kernel)
theorem wf_196 : Cond.fieldLink "Staggershelf" 60 (TX2 7).1 (TX2 7).2.1 (TX2 7).2.2.1 ∈ ab_TG := ab_tg_i 124 (by decide +kernel) (by decide +kernel)
theorem wf_197 : Cond.fieldLink "Staggershelf" 63 (TX2 8).1 (TX2 8).2.1 (TX2 8).2.2.1 ∈ ab_TG := ab_tg_i 125 (by decide +kernel) (by decide +kernel)
theorem wf_198 : Cond.fieldLink "Staggershelf" 66 (TX2 9).1 (TX2 9).2.1 (TX2 9).2.2.1 ∈ ab_TG := ab_tg_i 126 (by decide +kernel) (by decide +kernel)
theorem wf_199 : Cond.fieldLink "Staggershelf" 69 (TX2 10).1 (TX2 10).2.1 (TX2 10).2.2.1 ∈ ab_TG := ab_tg_i 127 (by decide +kernel) (by decide +kernel)
theorem wf_200 : Cond.fieldLink "Staggershelf" 72 (TX2 11).1 (TX2 11).2.1 (TX2 11).2.2.1 ∈ ab_TG := ab_tg_i 128 (by decide +kernel) (by decide +kernel)
theorem wf_201 : Cond.methodLink "Staggershelf" 75 (ab_my 5) ∈ ab_TG := ab_tg_i 243 (by decide +kernel) (by decide +kernel)
theorem wf_202 : Cond.code (ab_my 4) (ab_mb 4) (ab_mL 4) (ab_mr 4) ∈ ab_TG ∧ plainName (ab_my 4).cls = true := ⟨ab_tg_i 164 (by decide +kernel) (by decide +kernel), by decide +kernel⟩
theorem wf_203 : Cond.methodLink "Staggershelf" 79 (ab_my 4) ∈ ab_TG := ab_tg_i 161 (by decide +kernel) (by decide +kernel)
theorem wf_204 : Cond.instanceMethod (ab_my 4) ∈ ab_TG := ab_tg_i 162 (by decide +kernel) (by decide +kernel)
theorem wf_205 : Cond.selects RX0 (ab_my 4) (ab_my 4) ∈ ab_TG := ab_tg_i 163 (by decide +kernel) (by decide +kernel)
theorem wf_206 : Cond.classLink "Staggershelf" 83 (ab_ex 2) ∈ ab_TG := ab_tg_i 344 (by decide +kernel) (by decide +kernel)
theorem wf_207 : Cond.initialized (ab_ex 2) ∈ ab_TG := ab_tg_i 11 (by decide +kernel) (by decide +kernel)
theorem wf_208 : (("Staggershelf", 85, "no such block") : String × Nat × String) ∈ ab_TS := by decide +kernel
theorem wf_209 : ∀ w ∈ vx_atS "Staggershelf" 87 (ab_ex 2) ["java/lang/RuntimeException", "java/lang/Exception"], w ∈ ab_TG ∨ w ∈ ab_TN := ab_at_of (by decide +kernel)
theorem wf_210 : ∀ w ∈ Cond.classLink "Staggershelf" 83 (ab_ex 2) :: Cond.initialized (ab_ex 2) :: vx_atS "Staggershelf" 87 (ab_ex 2) ["java/lang/RuntimeException", "java/lang/Exception"], vx_ot w = true := by decide +kernel
theorem wf_211 : (("Staggershelf", 88, "value must be 0 to 255, steps 0 to 4") : String × Nat × String) ∈ ab_TS := by decide +kernel
theorem wf_212 : Cond.methodLink "Staggershelf" 90 (ab_my 6) ∈ ab_TG := ab_tg_i 169 (by decide +kernel) (by decide +kernel)
theorem wf_213 : Cond.methodLink "Staggershelf" 94 (ab_my 17) ∈ ab_TG := ab_tg_i 535 (by decide +kernel) (by decide +kernel)
theorem wf_214 : Cond.classLink "Staggershelf" 97 (ab_ex 3) ∈ ab_TG := ab_tg_i 536 (by decide +kernel) (by decide +kernel)
theorem wf_215 : Cond.initialized (ab_ex 3) ∈ ab_TG := ab_tg_i 12 (by decide +kernel) (by decide +kernel)
theorem wf_216 : (("Staggershelf", 99, "the power is off, or the stripe is broken") : String × Nat × String) ∈ ab_TS := by decide +kernel
theorem wf_217 : ∀ w ∈ vx_atS "Staggershelf" 101 (ab_ex 3) ["java/lang/RuntimeException", "java/lang/Exception"], w ∈ ab_TG ∨ w ∈ ab_TN := ab_at_of (by decide +kernel)
theorem wf_218 : ∀ w ∈ Cond.classLink "Staggershelf" 97 (ab_ex 3) :: Cond.initialized (ab_ex 3) :: vx_atS "Staggershelf" 101 (ab_ex 3) ["java/lang/RuntimeException", "java/lang/Exception"], vx_ot w = true := by decide +kernel
theorem wf_219 : Cond.code (ab_my 27) (ab_mb 27) (ab_mL 27) (ab_mr 27) ∈ ab_TG ∧ plainName (ab_my 27).cls = true := ⟨ab_tg_i 555 (by decide +kernel) (by decide +kernel), by decide +kernel⟩
theorem wf_220 : Cond.methodLink "Staggershelf" 102 (ab_my 27) ∈ ab_TG := ab_tg_i 552 (by decide +kernel) (by decide +kernel)
theorem wf_221 : Cond.instanceMethod (ab_my 27) ∈ ab_TG := ab_tg_i 553 (by decide +kernel) (by decide +kernel)
theorem wf_222 : Cond.selects RX0 (ab_my 27) (ab_my 27) ∈ ab_TG := ab_tg_i 554 (by decide +kernel) (by decide +kernel)
theorem wf_223 : Cond.code (ab_my 89) (ab_mb 89) (ab_mL 89) (ab_mr 89) ∈ ab_TG ∧ plainName (ab_my 89).cls = true := ⟨ab_tg_i 559 (by decide +kernel) (by decide +kernel), by decide +kernel⟩
theorem wf_224 : Cond.methodLink "Staggershelf" 105 (ab_my 89) ∈ ab_TG := ab_tg_i 556 (by decide +kernel) (by decide +kernel)
theorem wf_225 : Cond.instanceMethod (ab_my 89) ∈ ab_TG := ab_tg_i 558 (by decide +kernel) (by decide +kernel)
theorem wf_226 : Cond.selects RX2 (ab_my 89) (ab_my 89) ∈ ab_TG := ab_tg_p (by decide +kernel) (by decide +kernel)
theorem wf_227 : Cond.code (ab_my 90) (ab_mb 90) (ab_mL 90) (ab_mr 90) ∈ ab_TG ∧ plainName (ab_my 90).cls = true := ⟨ab_tg_i 569 (by decide +kernel) (by decide +kernel), by decide +kernel⟩
theorem wf_228 : Cond.methodLink "Staggershelf" 108 (ab_my 90) ∈ ab_TG := ab_tg_i 566 (by decide +kernel) (by decide +kernel)
theorem wf_229 : Cond.instanceMethod (ab_my 90) ∈ ab_TG := ab_tg_i 568 (by decide +kernel) (by decide +kernel)
theorem wf_230 : Cond.selects RX2 (ab_my 90) (ab_my 90) ∈ ab_TG := ab_tg_p (by decide +kernel) (by decide +kernel)
theorem wf_231 : Cond.code (ab_my 91) (ab_mb 91) (ab_mL 91) (ab_mr 91) ∈ ab_TG ∧ plainName (ab_my 91).cls = true := ⟨ab_tg_i 574 (by decide +kernel) (by decide +kernel), by decide +kernel⟩
theorem wf_232 : Cond.methodLink "Staggershelf" 111 (ab_my 91) ∈ ab_TG := ab_tg_i 571 (by decide +kernel) (by decide +kernel)
theorem wf_233 : Cond.instanceMethod (ab_my 91) ∈ ab_TG := ab_tg_i 573 (by decide +kernel) (by decide +kernel)
theorem wf_234 : Cond.selects RX2 (ab_my 91) (ab_my 91) ∈ ab_TG := ab_tg_p (by decide +kernel) (by decide +kernel)
theorem wf_235 : Cond.code (ab_my 93) (ab_mb 93) (ab_mL 93) (ab_mr 93) ∈ ab_TG ∧ plainName (ab_my 93).cls = true := ⟨ab_tg_i 578 (by decide +kernel) (by decide +kernel), by decide +kernel⟩
theorem wf_236 : Cond.methodLink "Staggershelf" 114 (ab_my 93) ∈ ab_TG := ab_tg_i 575 (by decide +kernel) (by decide +kernel)
theorem wf_237 : Cond.instanceMethod (ab_my 93) ∈ ab_TG := ab_tg_i 577 (by decide +kernel) (by decide +kernel)
theorem wf_238 : Cond.selects RX2 (ab_my 93) (ab_my 93) ∈ ab_TG := ab_tg_p (by decide +kernel) (by decide +kernel)
theorem wf_239 : (("Staggershelf", 117, "the power is off") : String × Nat × String) ∈ ab_TS := by decide +kernel
theorem wf_240 : Cond.methodLink "Staggershelf" 119 (ab_my 7) ∈ ab_TG := ab_tg_i 420 (by decide +kernel) (by decide +kernel)
theorem wf_241 : Cond.methodLink "Staggershelf" 122 (ab_my 24) ∈ ab_TG := ab_tg_i 413 (by decide +kernel) (by decide +kernel)
theorem wf_242 : Cond.methodLink "Staggershelf" 126 (ab_my 15) ∈ ab_TG := ab_tg_i 408 (by decide +kernel) (by decide +kernel)
theorem wf_243 : Cond.methodLink "Staggershelf" 130 (ab_my 2) ∈ ab_TG := ab_tg_i 340 (by decide +kernel) (by decide +kernel)
theorem wf_244 : (("Staggershelf", 133, "no such disk") : String × Nat × String) ∈ ab_TS := by decide +kernel
theorem wf_245 : Cond.methodLink "Staggershelf" 135 (ab_my 13) ∈ ab_TG := ab_tg_i 360 (by decide +kernel) (by decide +kernel)
theorem wf_246 : (("Staggershelf", 138, "the disk has failed already") : String × Nat × String) ∈ ab_TS := by decide +kernel
theorem wf_247 : Cond.code (ab_my 28) (ab_mb 28) (ab_mL 28) (ab_mr 28) ∈ ab_TG ∧ plainName (ab_my 28).cls = true := ⟨ab_tg_i 598 (by decide +kernel) (by decide +kernel), by decide +kernel⟩
theorem wf_248 : Cond.methodLink "Staggershelf" 140 (ab_my 28) ∈ ab_TG := ab_tg_i 595 (by decide +kernel) (by decide +kernel)
theorem wf_249 : Cond.instanceMethod (ab_my 28) ∈ ab_TG := ab_tg_i 596 (by decide +kernel) (by decide +kernel)
theorem wf_250 : Cond.selects RX0 (ab_my 28) (ab_my 28) ∈ ab_TG := ab_tg_i 597 (by decide +kernel) (by decide +kernel)
theorem wf_251 : Cond.code (ab_my 23) (ab_mb 23) (ab_mL 23) (ab_mr 23) ∈ ab_TG ∧ plainName (ab_my 23).cls = true := ⟨ab_tg_i 263 (by decide +kernel) (by decide +kernel), by decide +kernel⟩
theorem wf_252 : Cond.methodLink "Staggershelf" 143 (ab_my 23) ∈ ab_TG := ab_tg_i 260 (by decide +kernel) (by decide +kernel)
theorem wf_253 : Cond.instanceMethod (ab_my 23) ∈ ab_TG := ab_tg_i 261 (by decide +kernel) (by decide +kernel)
theorem wf_254 : Cond.selects RX0 (ab_my 23) (ab_my 23) ∈ ab_TG := ab_tg_i 262 (by decide +kernel) (by decide +kernel)
theorem wf_255 : Cond.code (ab_my 29) (ab_mb 29) (ab_mL 29) (ab_mr 29) ∈ ab_TG ∧ plainName (ab_my 29).cls = true := ⟨ab_tg_i 610 (by decide +kernel) (by decide +kernel), by decide +kernel⟩
theorem wf_256 : Cond.methodLink "Staggershelf" 146 (ab_my 29) ∈ ab_TG := ab_tg_i 607 (by decide +kernel) (by decide +kernel)
theorem wf_257 : Cond.instanceMethod (ab_my 29) ∈ ab_TG := ab_tg_i 608 (by decide +kernel) (by decide +kernel)
theorem wf_258 : Cond.selects RX0 (ab_my 29) (ab_my 29) ∈ ab_TG := ab_tg_i 609 (by decide +kernel) (by decide +kernel)
theorem wf_259 : Cond.code (ab_my 3) (ab_mb 3) (ab_mL 3) (ab_mr 3) ∈ ab_TG ∧ plainName (ab_my 3).cls = true := ⟨ab_tg_i 401 (by decide +kernel) (by decide +kernel), by decide +kernel⟩
theorem wf_260 : Cond.methodLink "Staggershelf" 149 (ab_my 3) ∈ ab_TG := ab_tg_i 398 (by decide +kernel) (by decide +kernel)
theorem wf_261 : Cond.instanceMethod (ab_my 3) ∈ ab_TG := ab_tg_i 399 (by decide +kernel) (by decide +kernel)
theorem wf_262 : Cond.selects RX0 (ab_my 3) (ab_my 3) ∈ ab_TG := ab_tg_i 400 (by decide +kernel) (by decide +kernel)
theorem wf_263 : (("Staggershelf", 152, "no such disk, or stripe") : String × Nat × String) ∈ ab_TS := by decide +kernel
theorem wf_264 : (("Staggershelf", 154, "bits must be 1 to 255") : String × Nat × String) ∈ ab_TS := by decide +kernel
theorem wf_265 : (("Staggershelf", 156, "the disk has failed") : String × Nat × String) ∈ ab_TS := by decide +kernel
theorem wf_266 : Cond.code (ab_my 30) (ab_mb 30) (ab_mL 30) (ab_mr 30) ∈ ab_TG ∧ plainName (ab_my 30).cls = true := ⟨ab_tg_i 623 (by decide +kernel) (by decide +kernel), by decide +kernel⟩
theorem wf_267 : Cond.methodLink "Staggershelf" 158 (ab_my 30) ∈ ab_TG := ab_tg_i 620 (by decide +kernel) (by decide +kernel)
theorem wf_268 : Cond.instanceMethod (ab_my 30) ∈ ab_TG := ab_tg_i 621 (by decide +kernel) (by decide +kernel)
theorem wf_269 : Cond.selects RX0 (ab_my 30) (ab_my 30) ∈ ab_TG := ab_tg_i 622 (by decide +kernel) (by decide +kernel)
theorem wf_270 : Cond.methodLink "Staggershelf" 162 (ab_my 11) ∈ ab_TG := ab_tg_i 403 (by decide +kernel) (by decide +kernel)
theorem wf_271 : Cond.code (ab_my 95) (ab_mb 95) (ab_mL 95) (ab_mr 95) ∈ ab_TG ∧ plainName (ab_my 95).cls = true := ⟨ab_tg_i 634 (by decide +kernel) (by decide +kernel), by decide +kernel⟩
theorem wf_272 : Cond.methodLink "Staggershelf" 165 (ab_my 95) ∈ ab_TG := ab_tg_i 631 (by decide +kernel) (by decide +kernel)
theorem wf_273 : Cond.instanceMethod (ab_my 95) ∈ ab_TG := ab_tg_i 633 (by decide +kernel) (by decide +kernel)
theorem wf_274 : Cond.selects RX2 (ab_my 95) (ab_my 95) ∈ ab_TG := ab_tg_p (by decide +kernel) (by decide +kernel)
theorem wf_275 : Cond.code (ab_my 96) (ab_mb 96) (ab_mL 96) (ab_mr 96) ∈ ab_TG ∧ plainName (ab_my 96).cls = true := ⟨ab_tg_i 639 (by decide +kernel) (by decide +kernel), by decide +kernel⟩
theorem wf_276 : Cond.methodLink "Staggershelf" 168 (ab_my 96) ∈ ab_TG := ab_tg_i 636 (by decide +kernel) (by decide +kernel)
theorem wf_277 : Cond.instanceMethod (ab_my 96) ∈ ab_TG := ab_tg_i 638 (by decide +kernel) (by decide +kernel)
theorem wf_278 : Cond.selects RX2 (ab_my 96) (ab_my 96) ∈ ab_TG := ab_tg_p (by decide +kernel) (by decide +kernel)
theorem wf_279 : Cond.code (ab_my 10) (ab_mb 10) (ab_mL 10) (ab_mr 10) ∈ ab_TG ∧ plainName (ab_my 10).cls = true := ⟨ab_tg_i 643 (by decide +kernel) (by decide +kernel), by decide +kernel⟩
theorem wf_280 : Cond.methodLink "Staggershelf" 171 (ab_my 10) ∈ ab_TG := ab_tg_i 640 (by decide +kernel) (by decide +kernel)
theorem wf_281 : Cond.instanceMethod (ab_my 10) ∈ ab_TG := ab_tg_i 641 (by decide +kernel) (by decide +kernel)
theorem wf_282 : Cond.selects RX0 (ab_my 10) (ab_my 10) ∈ ab_TG := ab_tg_i 642 (by decide +kernel) (by decide +kernel)
theorem wf_283 : (("Staggershelf", 174, "no such stripe") : String × Nat × String) ∈ ab_TS := by decide +kernel
theorem wf_284 : (("Staggershelf", 176, "the power is off, or the stripe is not broken") : String × Nat × String) ∈ ab_TS := by decide +kernel
theorem wf_285 : Cond.code (ab_my 32) (ab_mb 32) (ab_mL 32) (ab_mr 32) ∈ ab_TG ∧ plainName (ab_my 32).cls = true := ⟨ab_tg_i 663 (by decide +kernel) (by decide +kernel), by decide +kernel⟩
theorem wf_286 : Cond.methodLink "Staggershelf" 178 (ab_my 32) ∈ ab_TG := ab_tg_i 660 (by decide +kernel) (by decide +kernel)
theorem wf_287 : Cond.instanceMethod (ab_my 32) ∈ ab_TG := ab_tg_i 661 (by decide +kernel) (by decide +kernel)
theorem wf_288 : Cond.selects RX0 (ab_my 32) (ab_my 32) ∈ ab_TG := ab_tg_i 662 (by decide +kernel) (by decide +kernel)
theorem wf_289 : (("Staggershelf", 181, "disk must be 0 to 4") : String × Nat × String) ∈ ab_TS := by decide +kernel
theorem wf_290 : (("Staggershelf", 183, "peak must be 1 to 30, spin 1 to 9, idle 0 to 9") : String × Nat × String) ∈ ab_TS := by decide +kernel
theorem wf_291 : Cond.methodLink "Staggershelf" 185 (ab_my 40) ∈ ab_TG := ab_tg_i 369 (by decide +kernel) (by decide +kernel)
theorem wf_292 : Cond.code (ab_my 38) (ab_mb 38) (ab_mL 38) (ab_mr 38) ∈ ab_TG ∧ plainName (ab_my 38).cls = true := ⟨ab_tg_i 678 (by decide +kernel) (by decide +kernel), by decide +kernel⟩
theorem wf_293 : Cond.methodLink "Staggershelf" 188 (ab_my 38) ∈ ab_TG := ab_tg_i 675 (by decide +kernel) (by decide +kernel)
theorem wf_294 : Cond.instanceMethod (ab_my 38) ∈ ab_TG := ab_tg_i 676 (by decide +kernel) (by decide +kernel)
theorem wf_295 : Cond.selects RX1 (ab_my 38) (ab_my 38) ∈ ab_TG := ab_tg_i 677 (by decide +kernel) (by decide +kernel)
theorem wf_296 : (("Staggershelf", 192, "limit must be 1 to 90, patience 0 to 9") : String × Nat × String) ∈ ab_TS := by decide +kernel
theorem wf_297 : Cond.fieldLink "Staggershelf" 194 (TX1 0).1 (TX1 0).2.1 (TX1 0).2.2.1 ∈ ab_TG := ab_tg_i 71 (by decide +kernel) (by decide +kernel)
theorem wf_298 : Cond.code (ab_my 39) (ab_mb 39) (ab_mL 39) (ab_mr 39) ∈ ab_TG ∧ plainName (ab_my 39).cls = true := ⟨ab_tg_i 690 (by decide +kernel) (by decide +kernel), by decide +kernel⟩
theorem wf_299 : Cond.methodLink "Staggershelf" 197 (ab_my 39) ∈ ab_TG := ab_tg_i 687 (by decide +kernel) (by decide +kernel)
theorem wf_300 : Cond.instanceMethod (ab_my 39) ∈ ab_TG := ab_tg_i 688 (by decide +kernel) (by decide +kernel)
theorem wf_301 : Cond.selects RX1 (ab_my 39) (ab_my 39) ∈ ab_TG := ab_tg_i 689 (by decide +kernel) (by decide +kernel)
theorem wf_302 : Cond.fieldLink "Staggershelf" 200 (TX0 0).1 (TX0 0).2.1 (TX0 0).2.2.1 ∈ ab_TG := ab_tg_i 39 (by decide +kernel) (by decide +kernel)
theorem wf_303 : (("Staggershelf", 203, "there is no shelf") : String × Nat × String) ∈ ab_TS := by decide +kernel
theorem wf_304 : Cond.code (ab_my 43) (ab_mb 43) (ab_mL 43) (ab_mr 43) ∈ ab_TG ∧ plainName (ab_my 43).cls = true := ⟨ab_tg_i 267 (by decide +kernel) (by decide +kernel), by decide +kernel⟩
theorem wf_305 : Cond.methodLink "Staggershelf" 205 (ab_my 43) ∈ ab_TG := ab_tg_i 264 (by decide +kernel) (by decide +kernel)
theorem wf_306 : Cond.instanceMethod (ab_my 43) ∈ ab_TG := ab_tg_i 265 (by decide +kernel) (by decide +kernel)
theorem wf_307 : Cond.selects RX1 (ab_my 43) (ab_my 43) ∈ ab_TG := ab_tg_i 266 (by decide +kernel) (by decide +kernel)
theorem wf_308 : (("Staggershelf", 208, "there is no shelf, the power is on, or there is no plan") : String × Nat × String) ∈ ab_TS := by decide +kernel
theorem wf_309 : Cond.code (ab_my 94) (ab_mb 94) (ab_mL 94) (ab_mr 94) ∈ ab_TG ∧ plainName (ab_my 94).cls = true := ⟨ab_tg_i 710 (by decide +kernel) (by decide +kernel), by decide +kernel⟩
theorem wf_310 : Cond.methodLink "Staggershelf" 210 (ab_my 94) ∈ ab_TG := ab_tg_i 707 (by decide +kernel) (by decide +kernel)
theorem wf_311 : Cond.instanceMethod (ab_my 94) ∈ ab_TG := ab_tg_i 709 (by decide +kernel) (by decide +kernel)
theorem wf_312 : Cond.selects RX2 (ab_my 94) (ab_my 94) ∈ ab_TG := ab_tg_p (by decide +kernel) (by decide +kernel)
theorem wf_313 : (("Staggershelf", 213, "gap must be 0 to 20") : String × Nat × String) ∈ ab_TS := by decide +kernel
theorem wf_314 : (("Staggershelf", 215, "there is no shelf, or the power is on") : String × Nat × String) ∈ ab_TS := by decide +kernel
theorem wf_315 : Cond.code (ab_my 48) (ab_mb 48) (ab_mL 48) (ab_mr 48) ∈ ab_TG ∧ plainName (ab_my 48).cls = true := ⟨ab_tg_i 723 (by decide +kernel) (by decide +kernel), by decide +kernel⟩
theorem wf_316 : Cond.methodLink "Staggershelf" 217 (ab_my 48) ∈ ab_TG := ab_tg_i 720 (by decide +kernel) (by decide +kernel)
theorem wf_317 : Cond.instanceMethod (ab_my 48) ∈ ab_TG := ab_tg_i 721 (by decide +kernel) (by decide +kernel)
theorem wf_318 : Cond.selects RX1 (ab_my 48) (ab_my 48) ∈ ab_TG := ab_tg_i 722 (by decide +kernel) (by decide +kernel)
theorem wf_319 : Cond.code (ab_my 12) (ab_mb 12) (ab_mL 12) (ab_mr 12) ∈ ab_TG ∧ plainName (ab_my 12).cls = true := ⟨ab_tg_i 407 (by decide +kernel) (by decide +kernel), by decide +kernel⟩
theorem wf_320 : Cond.methodLink "Staggershelf" 220 (ab_my 12) ∈ ab_TG := ab_tg_i 404 (by decide +kernel) (by decide +kernel)
theorem wf_321 : Cond.instanceMethod (ab_my 12) ∈ ab_TG := ab_tg_i 405 (by decide +kernel) (by decide +kernel)
theorem wf_322 : Cond.selects RX0 (ab_my 12) (ab_my 12) ∈ ab_TG := ab_tg_i 406 (by decide +kernel) (by decide +kernel)
theorem wf_323 : Cond.methodLink "Staggershelf" 223 (ab_my 8) ∈ ab_TG := ab_tg_i 409 (by decide +kernel) (by decide +kernel)
theorem wf_324 : (("Staggershelf", 226, "what must be 0 to 4") : String × Nat × String) ∈ ab_TS := by decide +kernel
theorem wf_325 : Cond.code (ab_my 18) (ab_mb 18) (ab_mL 18) (ab_mr 18) ∈ ab_TG ∧ plainName (ab_my 18).cls = true := ⟨ab_tg_i 364 (by decide +kernel) (by decide +kernel), by decide +kernel⟩
theorem wf_326 : Cond.methodLink "Staggershelf" 228 (ab_my 18) ∈ ab_TG := ab_tg_i 361 (by decide +kernel) (by decide +kernel)
theorem wf_327 : Cond.instanceMethod (ab_my 18) ∈ ab_TG := ab_tg_i 362 (by decide +kernel) (by decide +kernel)
theorem wf_328 : Cond.selects RX0 (ab_my 18) (ab_my 18) ∈ ab_TG := ab_tg_i 363 (by decide +kernel) (by decide +kernel)
theorem wf_329 : Cond.code (ab_my 14) (ab_mb 14) (ab_mL 14) (ab_mr 14) ∈ ab_TG ∧ plainName (ab_my 14).cls = true := ⟨ab_tg_i 368 (by decide +kernel) (by decide +kernel), by decide +kernel⟩
theorem wf_330 : Cond.methodLink "Staggershelf" 231 (ab_my 14) ∈ ab_TG := ab_tg_i 365 (by decide +kernel) (by decide +kernel)
theorem wf_331 : Cond.instanceMethod (ab_my 14) ∈ ab_TG := ab_tg_i 366 (by decide +kernel) (by decide +kernel)
theorem wf_332 : Cond.selects RX0 (ab_my 14) (ab_my 14) ∈ ab_TG := ab_tg_i 367 (by decide +kernel) (by decide +kernel)
theorem wf_333 : Cond.methodLink "Staggershelf" 234 (ab_my 41) ∈ ab_TG := ab_tg_i 373 (by decide +kernel) (by decide +kernel)
theorem wf_334 : Cond.methodLink "Staggershelf" 237 (ab_my 42) ∈ ab_TG := ab_tg_i 377 (by decide +kernel) (by decide +kernel)
theorem wf_335 : Cond.code (ab_my 44) (ab_mb 44) (ab_mL 44) (ab_mr 44) ∈ ab_TG ∧ plainName (ab_my 44).cls = true := ⟨ab_tg_i 384 (by decide +kernel) (by decide +kernel), by decide +kernel⟩
theorem wf_336 : Cond.methodLink "Staggershelf" 240 (ab_my 44) ∈ ab_TG := ab_tg_i 381 (by decide +kernel) (by decide +kernel)
theorem wf_337 : Cond.instanceMethod (ab_my 44) ∈ ab_TG := ab_tg_i 382 (by decide +kernel) (by decide +kernel)
theorem wf_338 : Cond.selects RX1 (ab_my 44) (ab_my 44) ∈ ab_TG := ab_tg_i 383 (by decide +kernel) (by decide +kernel)
theorem wf_339 : Cond.code (ab_my 45) (ab_mb 45) (ab_mL 45) (ab_mr 45) ∈ ab_TG ∧ plainName (ab_my 45).cls = true := ⟨ab_tg_i 388 (by decide +kernel) (by decide +kernel), by decide +kernel⟩
theorem wf_340 : Cond.methodLink "Staggershelf" 243 (ab_my 45) ∈ ab_TG := ab_tg_i 385 (by decide +kernel) (by decide +kernel)
theorem wf_341 : Cond.instanceMethod (ab_my 45) ∈ ab_TG := ab_tg_i 386 (by decide +kernel) (by decide +kernel)
theorem wf_342 : Cond.selects RX1 (ab_my 45) (ab_my 45) ∈ ab_TG := ab_tg_i 387 (by decide +kernel) (by decide +kernel)
theorem wf_343 : (("Staggershelf", 246, "what must be 0 to 7") : String × Nat × String) ∈ ab_TS := by decide +kernel
theorem wf_344 : Cond.code (ab_my 16) (ab_mb 16) (ab_mL 16) (ab_mr 16) ∈ ab_TG ∧ plainName (ab_my 16).cls = true := ⟨ab_tg_i 428 (by decide +kernel) (by decide +kernel), by decide +kernel⟩
theorem wf_345 : Cond.methodLink "Staggershelf" 248 (ab_my 16) ∈ ab_TG := ab_tg_i 425 (by decide +kernel) (by decide +kernel)
theorem wf_346 : Cond.instanceMethod (ab_my 16) ∈ ab_TG := ab_tg_i 426 (by decide +kernel) (by decide +kernel)
theorem wf_347 : Cond.selects RX0 (ab_my 16) (ab_my 16) ∈ ab_TG := ab_tg_i 427 (by decide +kernel) (by decide +kernel)
theorem wf_348 : (("Staggershelf", 251, "what must be 0 to 3") : String × Nat × String) ∈ ab_TS := by decide +kernel
theorem wf_349 : (("Staggershelf", 253, "what must be 0 to 2") : String × Nat × String) ∈ ab_TS := by decide +kernel
theorem wf_350 : Cond.fieldLink "Staggershelf" 255 (TX0 1).1 (TX0 1).2.1 (TX0 1).2.2.1 ∈ ab_TG := ab_tg_i 41 (by decide +kernel) (by decide +kernel)
theorem wf_351 : Cond.code (ab_my 22) (ab_mb 22) (ab_mL 22) (ab_mr 22) ∈ ab_TG ∧ plainName (ab_my 22).cls = true := ⟨ab_tg_i 247 (by decide +kernel) (by decide +kernel), by decide +kernel⟩
theorem wf_352 : Cond.methodLink "Staggershelf" 258 (ab_my 22) ∈ ab_TG := ab_tg_i 244 (by decide +kernel) (by decide +kernel)
theorem wf_353 : Cond.instanceMethod (ab_my 22) ∈ ab_TG := ab_tg_i 245 (by decide +kernel) (by decide +kernel)
theorem wf_354 : Cond.selects RX0 (ab_my 22) (ab_my 22) ∈ ab_TG := ab_tg_i 246 (by decide +kernel) (by decide +kernel)
theorem wf_355 : Cond.code (ab_my 19) (ab_mb 19) (ab_mL 19) (ab_mr 19) ∈ ab_TG ∧ plainName (ab_my 19).cls = true := ⟨ab_tg_i 251 (by decide +kernel) (by decide +kernel), by decide +kernel⟩
theorem wf_356 : Cond.methodLink "Staggershelf" 261 (ab_my 19) ∈ ab_TG := ab_tg_i 248 (by decide +kernel) (by decide +kernel)
theorem wf_357 : Cond.instanceMethod (ab_my 19) ∈ ab_TG := ab_tg_i 249 (by decide +kernel) (by decide +kernel)
theorem wf_358 : Cond.selects RX0 (ab_my 19) (ab_my 19) ∈ ab_TG := ab_tg_i 250 (by decide +kernel) (by decide +kernel)
theorem wf_359 : Cond.code (ab_my 20) (ab_mb 20) (ab_mL 20) (ab_mr 20) ∈ ab_TG ∧ plainName (ab_my 20).cls = true := ⟨ab_tg_i 255 (by decide +kernel) (by decide +kernel), by decide +kernel⟩
theorem wf_360 : Cond.methodLink "Staggershelf" 264 (ab_my 20) ∈ ab_TG := ab_tg_i 252 (by decide +kernel) (by decide +kernel)
theorem wf_361 : Cond.instanceMethod (ab_my 20) ∈ ab_TG := ab_tg_i 253 (by decide +kernel) (by decide +kernel)
theorem wf_362 : Cond.selects RX0 (ab_my 20) (ab_my 20) ∈ ab_TG := ab_tg_i 254 (by decide +kernel) (by decide +kernel)
theorem wf_363 : Cond.code (ab_my 21) (ab_mb 21) (ab_mL 21) (ab_mr 21) ∈ ab_TG ∧ plainName (ab_my 21).cls = true := ⟨ab_tg_i 259 (by decide +kernel) (by decide +kernel), by decide +kernel⟩
theorem wf_364 : Cond.methodLink "Staggershelf" 267 (ab_my 21) ∈ ab_TG := ab_tg_i 256 (by decide +kernel) (by decide +kernel)
theorem wf_365 : Cond.instanceMethod (ab_my 21) ∈ ab_TG := ab_tg_i 257 (by decide +kernel) (by decide +kernel)
theorem wf_366 : Cond.selects RX0 (ab_my 21) (ab_my 21) ∈ ab_TG := ab_tg_i 258 (by decide +kernel) (by decide +kernel)
theorem wf_367 : Cond.fieldLink "Staggershelf" 270 (TX2 12).1 (TX2 12).2.1 (TX2 12).2.2.1 ∈ ab_TG := ab_tg_i 129 (by decide +kernel) (by decide +kernel)
theorem wf_368 : (("Staggershelf", 273, "what must be 0 to 16") : String × Nat × String) ∈ ab_TS := by decide +kernel
theorem wf_369 : (("Staggershelf", 290, "tenth must be 0 to 999") : String × Nat × String) ∈ ab_TS := by decide +kernel
theorem wf_370 : Cond.code (ab_my 46) (ab_mb 46) (ab_mL 46) (ab_mr 46) ∈ ab_TG ∧ plainName (ab_my 46).cls = true := ⟨ab_tg_i 443 (by decide +kernel) (by decide +kernel), by decide +kernel⟩
theorem wf_371 : Cond.methodLink "Staggershelf" 292 (ab_my 46) ∈ ab_TG := ab_tg_i 440 (by decide +kernel) (by decide +kernel)
theorem wf_372 : Cond.instanceMethod (ab_my 46) ∈ ab_TG := ab_tg_i 441 (by decide +kernel) (by decide +kernel)
theorem wf_373 : Cond.selects RX1 (ab_my 46) (ab_my 46) ∈ ab_TG := ab_tg_i 442 (by decide +kernel) (by decide +kernel)
theorem wf_374 : (("Staggershelf", 295, "both are the same disk") : String × Nat × String) ∈ ab_TS := by decide +kernel
theorem wf_375 : Cond.code (ab_my 33) (ab_mb 33) (ab_mL 33) (ab_mr 33) ∈ ab_TG ∧ plainName (ab_my 33).cls = true := ⟨ab_tg_i 176 (by decide +kernel) (by decide +kernel), by decide +kernel⟩
theorem wf_376 : Cond.methodLink "Staggershelf" 297 (ab_my 33) ∈ ab_TG := ab_tg_i 173 (by decide +kernel) (by decide +kernel)
theorem wf_377 : Cond.instanceMethod (ab_my 33) ∈ ab_TG := ab_tg_i 174 (by decide +kernel) (by decide +kernel)
theorem wf_378 : Cond.selects RX0 (ab_my 33) (ab_my 33) ∈ ab_TG := ab_tg_i 175 (by decide +kernel) (by decide +kernel)
theorem wf_379 : Cond.code (ab_my 47) (ab_mb 47) (ab_mL 47) (ab_mr 47) ∈ ab_TG ∧ plainName (ab_my 47).cls = true := ⟨ab_tg_i 216 (by decide +kernel) (by decide +kernel), by decide +kernel⟩
theorem wf_380 : Cond.methodLink "Staggershelf" 300 (ab_my 47) ∈ ab_TG := ab_tg_i 213 (by decide +kernel) (by decide +kernel)
theorem wf_381 : Cond.instanceMethod (ab_my 47) ∈ ab_TG := ab_tg_i 214 (by decide +kernel) (by decide +kernel)
theorem wf_382 : Cond.selects RX1 (ab_my 47) (ab_my 47) ∈ ab_TG := ab_tg_i 215 (by decide +kernel) (by decide +kernel)
theorem wf_383 : Cond.constantLong "Staggershelf" 304 6661 ∈ ab_TG := ab_tg_i 237 (by decide +kernel) (by decide +kernel)
theorem wf_384 : Cond.constantLong "Staggershelf" 306 31 ∈ ab_TG := ab_tg_i 238 (by decide +kernel) (by decide +kernel)
theorem wf_385 : Cond.code (ab_my 79) (ab_mb 79) (ab_mL 79) (ab_mr 79) ∈ ab_TG ∧ plainName (ab_my 79).cls = true := ⟨ab_tg_i 242 (by decide +kernel) (by decide +kernel), by decide +kernel⟩
theorem wf_386 : Cond.methodLink "Staggershelf" 308 (ab_my 79) ∈ ab_TG := ab_tg_i 239 (by decide +kernel) (by decide +kernel)
theorem wf_387 : Cond.instanceMethod (ab_my 79) ∈ ab_TG := ab_tg_i 240 (by decide +kernel) (by decide +kernel)
theorem wf_388 : Cond.selects RX2 (ab_my 79) (ab_my 79) ∈ ab_TG := ab_tg_i 241 (by decide +kernel) (by decide +kernel)
theorem wf_389 : Cond.code (ab_my 76) (ab_mb 76) (ab_mL 76) (ab_mr 76) ∈ ab_TG ∧ plainName (ab_my 76).cls = true := ⟨ab_tg_i 339 (by decide +kernel) (by decide +kernel), by decide +kernel⟩
theorem wf_390 : Cond.methodLink "Staggershelf" 311 (ab_my 76) ∈ ab_TG := ab_tg_i 336 (by decide +kernel) (by decide +kernel)
theorem wf_391 : Cond.instanceMethod (ab_my 76) ∈ ab_TG := ab_tg_i 337 (by decide +kernel) (by decide +kernel)
theorem wf_392 : Cond.selects RX2 (ab_my 76) (ab_my 76) ∈ ab_TG := ab_tg_i 338 (by decide +kernel) (by decide +kernel)
theorem wf_393 : Cond.code (ab_my 87) (ab_mb 87) (ab_mL 87) (ab_mr 87) ∈ ab_TG ∧ plainName (ab_my 87).cls = true := ⟨ab_tg_i 393 (by decide +kernel) (by decide +kernel), by decide +kernel⟩
theorem wf_394 : Cond.methodLink "Staggershelf" 314 (ab_my 87) ∈ ab_TG := ab_tg_i 390 (by decide +kernel) (by decide +kernel)
theorem wf_395 : Cond.instanceMethod (ab_my 87) ∈ ab_TG := ab_tg_i 392 (by decide +kernel) (by decide +kernel)
theorem wf_396 : Cond.selects RX2 (ab_my 87) (ab_my 87) ∈ ab_TG := ab_tg_p (by decide +kernel) (by decide +kernel)
theorem wf_397 : Cond.code (ab_my 77) (ab_mb 77) (ab_mL 77) (ab_mr 77) ∈ ab_TG ∧ plainName (ab_my 77).cls = true := ⟨ab_tg_i 418 (by decide +kernel) (by decide +kernel), by decide +kernel⟩
theorem wf_398 : Cond.methodLink "Staggershelf" 318 (ab_my 77) ∈ ab_TG := ab_tg_i 415 (by decide +kernel) (by decide +kernel)
theorem wf_399 : Cond.instanceMethod (ab_my 77) ∈ ab_TG := ab_tg_i 416 (by decide +kernel) (by decide +kernel)
theorem wf_400 : Cond.selects RX2 (ab_my 77) (ab_my 77) ∈ ab_TG := ab_tg_i 417 (by decide +kernel) (by decide +kernel)
theorem wf_401 : Cond.code (ab_my 78) (ab_mb 78) (ab_mL 78) (ab_mr 78) ∈ ab_TG ∧ plainName (ab_my 78).cls = true := ⟨ab_tg_i 433 (by decide +kernel) (by decide +kernel), by decide +kernel⟩
theorem wf_402 : Cond.methodLink "Staggershelf" 321 (ab_my 78) ∈ ab_TG := ab_tg_i 430 (by decide +kernel) (by decide +kernel)
theorem wf_403 : Cond.instanceMethod (ab_my 78) ∈ ab_TG := ab_tg_i 431 (by decide +kernel) (by decide +kernel)
theorem wf_404 : Cond.selects RX2 (ab_my 78) (ab_my 78) ∈ ab_TG := ab_tg_i 432 (by decide +kernel) (by decide +kernel)
theorem wf_405 : Cond.code (ab_my 81) (ab_mb 81) (ab_mL 81) (ab_mr 81) ∈ ab_TG ∧ plainName (ab_my 81).cls = true := ⟨ab_tg_i 438 (by decide +kernel) (by decide +kernel), by decide +kernel⟩
theorem wf_406 : Cond.methodLink "Staggershelf" 324 (ab_my 81) ∈ ab_TG := ab_tg_i 435 (by decide +kernel) (by decide +kernel)
theorem wf_407 : Cond.instanceMethod (ab_my 81) ∈ ab_TG := ab_tg_i 436 (by decide +kernel) (by decide +kernel)
theorem wf_408 : Cond.selects RX2 (ab_my 81) (ab_my 81) ∈ ab_TG := ab_tg_i 437 (by decide +kernel) (by decide +kernel)
theorem wf_409 : Cond.code (ab_my 84) (ab_mb 84) (ab_mL 84) (ab_mr 84) ∈ ab_TG ∧ plainName (ab_my 84).cls = true := ⟨ab_tg_i 160 (by decide +kernel) (by decide +kernel), by decide +kernel⟩
theorem wf_410 : Cond.methodLink "Staggershelf" 327 (ab_my 84) ∈ ab_TG := ab_tg_i 444 (by decide +kernel) (by decide +kernel)
theorem wf_411 : Cond.instanceMethod (ab_my 84) ∈ ab_TG := ab_tg_i 158 (by decide +kernel) (by decide +kernel)
theorem wf_412 : Cond.selects RX2 (ab_my 84) (ab_my 84) ∈ ab_TG := ab_tg_i 159 (by decide +kernel) (by decide +kernel)
theorem wf_413 : Cond.code (ab_my 75) (ab_mb 75) (ab_mL 75) (ab_mr 75) ∈ ab_TG ∧ plainName (ab_my 75).cls = true := ⟨ab_tg_i 397 (by decide +kernel) (by decide +kernel), by decide +kernel⟩
theorem wf_414 : Cond.methodLink "Staggershelf" 330 (ab_my 75) ∈ ab_TG := ab_tg_i 394 (by decide +kernel) (by decide +kernel)
theorem wf_415 : Cond.instanceMethod (ab_my 75) ∈ ab_TG := ab_tg_i 395 (by decide +kernel) (by decide +kernel)
theorem wf_416 : Cond.selects RX2 (ab_my 75) (ab_my 75) ∈ ab_TG := ab_tg_i 396 (by decide +kernel) (by decide +kernel)
theorem wf_417 : Cond.methodLink "Staggershelf" 334 (ab_my 9) ∈ ab_TG := ab_tg_i 560 (by decide +kernel) (by decide +kernel)
theorem wf_418 : Cond.methodLink "Staggershelf" 337 (ab_my 31) ∈ ab_TG := ab_tg_i 561 (by decide +kernel) (by decide +kernel)
theorem wf_419 : Cond.methodLink "Staggershelf" 340 (ab_my 26) ∈ ab_TG := ab_tg_i 570 (by decide +kernel) (by decide +kernel)
theorem wf_420 : (("Staggershelf", 343, "there is no shelf, or the power is off") : String × Nat × String) ∈ ab_TS := by decide +kernel
/-- all of a list's instructions are sound -/
def ab_all (M : Nat) : Nat → List (Option ab_O) → Prop
  | _, [] => True
  | pc, none :: l => True ∧ ab_all M (pc + 1) l
  | pc, some op :: l => ab_Sn M pc op ∧ ab_all M (pc + 1) l
theorem ab_all_at {M : Nat} : ∀ (l : List (Option ab_O)) (pc i : Nat), ab_all M pc l → ∀ op, l[i]? = some (some op) → ab_Sn M (pc + i) op
  | none :: l, pc, i + 1, h, op, ho => by rw [show pc + (i + 1) = pc + 1 + i by omega]; exact ab_all_at l (pc + 1) i h.2 op ho
  | some o :: l, pc, 0, h, op, ho => by cases ho; exact h.1
  | some o :: l, pc, i + 1, h, op, ho => by rw [show pc + (i + 1) = pc + 1 + i by omega]; exact ab_all_at l (pc + 1) i h.2 op ho
