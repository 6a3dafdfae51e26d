/-! EACH OF ITS INSTRUCTIONS IS SOUND; printed by wip/p29/gen_code.py -/
section
variable {B : ab_B}
theorem wf_0 : Cond.methodLink "Staggershelf$Rack" 3 Lib.objectInit ∈ ab_TG := ab_tg_i 24 (by decide +kernel) (by decide +kernel)
theorem wf_1 : Cond.instanceMethod Lib.objectInit ∈ ab_TG := ab_tg_i 17 (by decide +kernel) (by decide +kernel)
theorem wf_2 : Cond.code Lib.objectInit ⟨#[0xb1]⟩ 1 none ∈ ab_TG := ab_tg_i 18 (by decide +kernel) (by decide +kernel)
theorem wf_3 : Cond.arrayClass .int ∈ ab_TG := ab_tg_i 49 (by decide +kernel) (by decide +kernel)
theorem wf_4 : Cond.fieldLink "Staggershelf$Rack" 9 (TX0 2).1 (TX0 2).2.1 (TX0 2).2.2.1 ∈ ab_TG := ab_tg_i 29 (by decide +kernel) (by decide +kernel)
theorem wf_5 : Cond.fieldLink "Staggershelf$Rack" 15 (TX0 3).1 (TX0 3).2.1 (TX0 3).2.2.1 ∈ ab_TG := ab_tg_i 30 (by decide +kernel) (by decide +kernel)
theorem wf_6 : Cond.fieldLink "Staggershelf$Rack" 18 (TX0 4).1 (TX0 4).2.1 (TX0 4).2.2.1 ∈ ab_TG := ab_tg_i 31 (by decide +kernel) (by decide +kernel)
theorem wf_7 : Cond.arrayClass .boolean ∈ ab_TG := ab_tg_i 50 (by decide +kernel) (by decide +kernel)
theorem wf_8 : Cond.fieldLink "Staggershelf$Rack" 21 (TX0 5).1 (TX0 5).2.1 (TX0 5).2.2.1 ∈ ab_TG := ab_tg_i 32 (by decide +kernel) (by decide +kernel)
theorem wf_9 : Cond.fieldLink "Staggershelf$Rack" 25 (TX0 6).1 (TX0 6).2.1 (TX0 6).2.2.1 ∈ ab_TG := ab_tg_i 33 (by decide +kernel) (by decide +kernel)
theorem wf_10 : Cond.fieldLink "Staggershelf$Rack" 28 (TX0 0).1 (TX0 0).2.1 (TX0 0).2.2.1 ∈ ab_TG := ab_tg_i 25 (by decide +kernel) (by decide +kernel)
theorem wf_11 : Cond.fieldLink "Staggershelf$Rack" 32 (TX0 1).1 (TX0 1).2.1 (TX0 1).2.2.1 ∈ ab_TG := ab_tg_i 27 (by decide +kernel) (by decide +kernel)
theorem wf_12 : ab_cw 26 ∈ ab_TG ∧ plainName (ab_my 26).cls = true := ⟨ab_tg_i 223 (by decide +kernel) (by decide +kernel), by decide +kernel⟩
theorem wf_13 : Cond.methodLink "Staggershelf$Rack" 35 (ab_my 26) ∈ ab_TG := ab_tg_i 220 (by decide +kernel) (by decide +kernel)
theorem wf_14 : Cond.instanceMethod (ab_my 26) ∈ ab_TG := ab_tg_i 221 (by decide +kernel) (by decide +kernel)
theorem wf_15 : Cond.selects RX0 (ab_my 26) (ab_my 26) ∈ ab_TG := ab_tg_i 222 (by decide +kernel) (by decide +kernel)
theorem wf_16 : Cond.initialized RX0 ∈ ab_TG := ab_tg_i 2 (by decide +kernel) (by decide +kernel)
theorem wf_17 : ab_cw 5 ∈ ab_TG ∧ plainName (ab_my 5).cls = true := ⟨ab_tg_i 305 (by decide +kernel) (by decide +kernel), by decide +kernel⟩
theorem wf_18 : Cond.methodLink "Staggershelf$Rack" 39 (ab_my 5) ∈ ab_TG := ab_tg_i 377 (by decide +kernel) (by decide +kernel)
theorem wf_19 : Cond.instanceMethod (ab_my 5) ∈ ab_TG := ab_tg_i 303 (by decide +kernel) (by decide +kernel)
theorem wf_20 : Cond.selects RX0 (ab_my 5) (ab_my 5) ∈ ab_TG := ab_tg_i 304 (by decide +kernel) (by decide +kernel)
theorem wf_21 : ab_cw 6 ∈ ab_TG ∧ plainName (ab_my 6).cls = true := ⟨ab_tg_i 386 (by decide +kernel) (by decide +kernel), by decide +kernel⟩
theorem wf_22 : Cond.methodLink "Staggershelf$Rack" 43 (ab_my 6) ∈ ab_TG := ab_tg_i 383 (by decide +kernel) (by decide +kernel)
theorem wf_23 : Cond.instanceMethod (ab_my 6) ∈ ab_TG := ab_tg_i 384 (by decide +kernel) (by decide +kernel)
theorem wf_24 : Cond.selects RX0 (ab_my 6) (ab_my 6) ∈ ab_TG := ab_tg_i 385 (by decide +kernel) (by decide +kernel)
theorem wf_25 : ab_cw 9 ∈ ab_TG ∧ plainName (ab_my 9).cls = true := ⟨ab_tg_i 353 (by decide +kernel) (by decide +kernel), by decide +kernel⟩
theorem wf_26 : Cond.methodLink "Staggershelf$Rack" 47 (ab_my 9) ∈ ab_TG := ab_tg_i 350 (by decide +kernel) (by decide +kernel)
theorem wf_27 : Cond.instanceMethod (ab_my 9) ∈ ab_TG := ab_tg_i 351 (by decide +kernel) (by decide +kernel)
theorem wf_28 : Cond.selects RX0 (ab_my 9) (ab_my 9) ∈ ab_TG := ab_tg_i 352 (by decide +kernel) (by decide +kernel)
theorem wf_29 : ab_cw 35 ∈ ab_TG ∧ plainName (ab_my 35).cls = true := ⟨ab_tg_i 227 (by decide +kernel) (by decide +kernel), by decide +kernel⟩
theorem wf_30 : Cond.methodLink "Staggershelf$Rack" 50 (ab_my 35) ∈ ab_TG := ab_tg_i 224 (by decide +kernel) (by decide +kernel)
theorem wf_31 : Cond.instanceMethod (ab_my 35) ∈ ab_TG := ab_tg_i 226 (by decide +kernel) (by decide +kernel)
theorem wf_32 : Cond.selects RX0 (ab_my 35) (ab_my 35) ∈ ab_TG := ab_tg_p (by decide +kernel) (by decide +kernel)
theorem wf_33 : ab_cw 13 ∈ ab_TG ∧ plainName (ab_my 13).cls = true := ⟨ab_tg_i 231 (by decide +kernel) (by decide +kernel), by decide +kernel⟩
theorem wf_34 : Cond.methodLink "Staggershelf$Rack" 54 (ab_my 13) ∈ ab_TG := ab_tg_i 228 (by decide +kernel) (by decide +kernel)
theorem wf_35 : Cond.instanceMethod (ab_my 13) ∈ ab_TG := ab_tg_i 229 (by decide +kernel) (by decide +kernel)
theorem wf_36 : Cond.selects RX0 (ab_my 13) (ab_my 13) ∈ ab_TG := ab_tg_i 230 (by decide +kernel) (by decide +kernel)
theorem wf_37 : ab_cw 34 ∈ ab_TG ∧ plainName (ab_my 34).cls = true := ⟨ab_tg_i 235 (by decide +kernel) (by decide +kernel), by decide +kernel⟩
theorem wf_38 : Cond.methodLink "Staggershelf$Rack" 58 (ab_my 34) ∈ ab_TG := ab_tg_i 232 (by decide +kernel) (by decide +kernel)
theorem wf_39 : Cond.instanceMethod (ab_my 34) ∈ ab_TG := ab_tg_i 234 (by decide +kernel) (by decide +kernel)
theorem wf_40 : Cond.selects RX0 (ab_my 34) (ab_my 34) ∈ ab_TG := ab_tg_p (by decide +kernel) (by decide +kernel)
theorem wf_41 : ab_cw 15 ∈ ab_TG ∧ plainName (ab_my 15).cls = true := ⟨ab_tg_i 345 (by decide +kernel) (by decide +kernel), by decide +kernel⟩
theorem wf_42 : Cond.methodLink "Staggershelf$Rack" 61 (ab_my 15) ∈ ab_TG := ab_tg_i 358 (by decide +kernel) (by decide +kernel)
theorem wf_43 : Cond.instanceMethod (ab_my 15) ∈ ab_TG := ab_tg_i 343 (by decide +kernel) (by decide +kernel)
theorem wf_44 : Cond.selects RX0 (ab_my 15) (ab_my 15) ∈ ab_TG := ab_tg_i 344 (by decide +kernel) (by decide +kernel)
theorem wf_45 : ab_cw 17 ∈ ab_TG ∧ plainName (ab_my 17).cls = true := ⟨ab_tg_i 363 (by decide +kernel) (by decide +kernel), by decide +kernel⟩
theorem wf_46 : Cond.methodLink "Staggershelf$Rack" 65 (ab_my 17) ∈ ab_TG := ab_tg_i 360 (by decide +kernel) (by decide +kernel)
theorem wf_47 : Cond.instanceMethod (ab_my 17) ∈ ab_TG := ab_tg_i 361 (by decide +kernel) (by decide +kernel)
theorem wf_48 : Cond.selects RX0 (ab_my 17) (ab_my 17) ∈ ab_TG := ab_tg_i 362 (by decide +kernel) (by decide +kernel)
theorem wf_49 : ab_cw 11 ∈ ab_TG ∧ plainName (ab_my 11).cls = true := ⟨ab_tg_i 337 (by decide +kernel) (by decide +kernel), by decide +kernel⟩
theorem wf_50 : Cond.methodLink "Staggershelf$Rack" 68 (ab_my 11) ∈ ab_TG := ab_tg_i 359 (by decide +kernel) (by decide +kernel)
theorem wf_51 : Cond.instanceMethod (ab_my 11) ∈ ab_TG := ab_tg_i 335 (by decide +kernel) (by decide +kernel)
theorem wf_52 : Cond.selects RX0 (ab_my 11) (ab_my 11) ∈ ab_TG := ab_tg_i 336 (by decide +kernel) (by decide +kernel)
theorem wf_53 : ab_cw 25 ∈ ab_TG ∧ plainName (ab_my 25).cls = true := ⟨ab_tg_i 367 (by decide +kernel) (by decide +kernel), by decide +kernel⟩
theorem wf_54 : Cond.methodLink "Staggershelf$Rack" 71 (ab_my 25) ∈ ab_TG := ab_tg_i 364 (by decide +kernel) (by decide +kernel)
theorem wf_55 : Cond.instanceMethod (ab_my 25) ∈ ab_TG := ab_tg_i 366 (by decide +kernel) (by decide +kernel)
theorem wf_56 : Cond.selects RX0 (ab_my 25) (ab_my 25) ∈ ab_TG := ab_tg_p (by decide +kernel) (by decide +kernel)
theorem wf_57 : ab_cw 2 ∈ ab_TG ∧ plainName (ab_my 2).cls = true := ⟨ab_tg_i 313 (by decide +kernel) (by decide +kernel), by decide +kernel⟩
theorem wf_58 : Cond.methodLink "Staggershelf$Rack" 74 (ab_my 2) ∈ ab_TG := ab_tg_i 511 (by decide +kernel) (by decide +kernel)
theorem wf_59 : Cond.instanceMethod (ab_my 2) ∈ ab_TG := ab_tg_i 311 (by decide +kernel) (by decide +kernel)
theorem wf_60 : Cond.selects RX0 (ab_my 2) (ab_my 2) ∈ ab_TG := ab_tg_i 312 (by decide +kernel) (by decide +kernel)
theorem wf_61 : ab_cw 7 ∈ ab_TG ∧ plainName (ab_my 7).cls = true := ⟨ab_tg_i 382 (by decide +kernel) (by decide +kernel), by decide +kernel⟩
theorem wf_62 : Cond.methodLink "Staggershelf$Rack" 77 (ab_my 7) ∈ ab_TG := ab_tg_i 471 (by decide +kernel) (by decide +kernel)
theorem wf_63 : Cond.instanceMethod (ab_my 7) ∈ ab_TG := ab_tg_i 380 (by decide +kernel) (by decide +kernel)
theorem wf_64 : Cond.selects RX0 (ab_my 7) (ab_my 7) ∈ ab_TG := ab_tg_i 381 (by decide +kernel) (by decide +kernel)
theorem wf_65 : ab_cw 8 ∈ ab_TG ∧ plainName (ab_my 8).cls = true := ⟨ab_tg_i 349 (by decide +kernel) (by decide +kernel), by decide +kernel⟩
theorem wf_66 : Cond.methodLink "Staggershelf$Rack" 80 (ab_my 8) ∈ ab_TG := ab_tg_i 555 (by decide +kernel) (by decide +kernel)
theorem wf_67 : Cond.instanceMethod (ab_my 8) ∈ ab_TG := ab_tg_i 347 (by decide +kernel) (by decide +kernel)
theorem wf_68 : Cond.selects RX0 (ab_my 8) (ab_my 8) ∈ ab_TG := ab_tg_i 348 (by decide +kernel) (by decide +kernel)
theorem wf_69 : ab_cw 31 ∈ ab_TG ∧ plainName (ab_my 31).cls = true := ⟨ab_tg_i 470 (by decide +kernel) (by decide +kernel), by decide +kernel⟩
theorem wf_70 : Cond.methodLink "Staggershelf$Rack" 83 (ab_my 31) ∈ ab_TG := ab_tg_i 556 (by decide +kernel) (by decide +kernel)
theorem wf_71 : Cond.instanceMethod (ab_my 31) ∈ ab_TG := ab_tg_i 468 (by decide +kernel) (by decide +kernel)
theorem wf_72 : Cond.selects RX0 (ab_my 31) (ab_my 31) ∈ ab_TG := ab_tg_i 469 (by decide +kernel) (by decide +kernel)
theorem wf_73 : ab_cw 24 ∈ ab_TG ∧ plainName (ab_my 24).cls = true := ⟨ab_tg_i 357 (by decide +kernel) (by decide +kernel), by decide +kernel⟩
theorem wf_74 : Cond.methodLink "Staggershelf$Rack" 87 (ab_my 24) ∈ ab_TG := ab_tg_i 406 (by decide +kernel) (by decide +kernel)
theorem wf_75 : Cond.instanceMethod (ab_my 24) ∈ ab_TG := ab_tg_i 355 (by decide +kernel) (by decide +kernel)
theorem wf_76 : Cond.selects RX0 (ab_my 24) (ab_my 24) ∈ ab_TG := ab_tg_i 356 (by decide +kernel) (by decide +kernel)
theorem wf_77 : Cond.methodLink "Staggershelf$Starts" 3 Lib.objectInit ∈ ab_TG := ab_tg_i 56 (by decide +kernel) (by decide +kernel)
theorem wf_78 : Cond.fieldLink "Staggershelf$Starts" 9 (TX1 0).1 (TX1 0).2.1 (TX1 0).2.2.1 ∈ ab_TG := ab_tg_i 57 (by decide +kernel) (by decide +kernel)
theorem wf_79 : Cond.fieldLink "Staggershelf$Starts" 15 (TX1 3).1 (TX1 3).2.1 (TX1 3).2.2.1 ∈ ab_TG := ab_tg_i 60 (by decide +kernel) (by decide +kernel)
theorem wf_80 : Cond.fieldLink "Staggershelf$Starts" 19 (TX1 4).1 (TX1 4).2.1 (TX1 4).2.2.1 ∈ ab_TG := ab_tg_i 61 (by decide +kernel) (by decide +kernel)
theorem wf_81 : Cond.fieldLink "Staggershelf$Starts" 22 (TX1 5).1 (TX1 5).2.1 (TX1 5).2.2.1 ∈ ab_TG := ab_tg_i 62 (by decide +kernel) (by decide +kernel)
theorem wf_82 : Cond.fieldLink "Staggershelf$Starts" 25 (TX1 6).1 (TX1 6).2.1 (TX1 6).2.2.1 ∈ ab_TG := ab_tg_i 63 (by decide +kernel) (by decide +kernel)
theorem wf_83 : Cond.fieldLink "Staggershelf$Starts" 28 (TX1 7).1 (TX1 7).2.1 (TX1 7).2.2.1 ∈ ab_TG := ab_tg_i 64 (by decide +kernel) (by decide +kernel)
theorem wf_84 : Cond.fieldLink "Staggershelf$Starts" 31 (TX1 8).1 (TX1 8).2.1 (TX1 8).2.2.1 ∈ ab_TG := ab_tg_i 65 (by decide +kernel) (by decide +kernel)
theorem wf_85 : Cond.fieldLink "Staggershelf$Starts" 34 (TX1 9).1 (TX1 9).2.1 (TX1 9).2.2.1 ∈ ab_TG := ab_tg_i 66 (by decide +kernel) (by decide +kernel)
theorem wf_86 : Cond.fieldLink "Staggershelf$Starts" 37 (TX1 10).1 (TX1 10).2.1 (TX1 10).2.2.1 ∈ ab_TG := ab_tg_i 67 (by decide +kernel) (by decide +kernel)
theorem wf_87 : Cond.fieldLink "Staggershelf$Starts" 40 (TX1 11).1 (TX1 11).2.1 (TX1 11).2.2.1 ∈ ab_TG := ab_tg_i 68 (by decide +kernel) (by decide +kernel)
theorem wf_88 : Cond.fieldLink "Staggershelf$Starts" 43 (TX1 13).1 (TX1 13).2.1 (TX1 13).2.2.1 ∈ ab_TG := ab_tg_i 70 (by decide +kernel) (by decide +kernel)
theorem wf_89 : Cond.fieldLink "Staggershelf$Starts" 46 (TX1 14).1 (TX1 14).2.1 (TX1 14).2.2.1 ∈ ab_TG := ab_tg_i 71 (by decide +kernel) (by decide +kernel)
theorem wf_90 : Cond.fieldLink "Staggershelf$Starts" 49 (TX1 2).1 (TX1 2).2.1 (TX1 2).2.2.1 ∈ ab_TG := ab_tg_i 59 (by decide +kernel) (by decide +kernel)
theorem wf_91 : ab_cw 52 ∈ ab_TG ∧ plainName (ab_my 52).cls = true := ⟨ab_tg_i 243 (by decide +kernel) (by decide +kernel), by decide +kernel⟩
theorem wf_92 : Cond.methodLink "Staggershelf$Starts" 52 (ab_my 52) ∈ ab_TG := ab_tg_i 240 (by decide +kernel) (by decide +kernel)
theorem wf_93 : Cond.instanceMethod (ab_my 52) ∈ ab_TG := ab_tg_i 242 (by decide +kernel) (by decide +kernel)
theorem wf_94 : Cond.selects RX1 (ab_my 52) (ab_my 52) ∈ ab_TG := ab_tg_p (by decide +kernel) (by decide +kernel)
theorem wf_95 : Cond.initialized RX1 ∈ ab_TG := ab_tg_i 3 (by decide +kernel) (by decide +kernel)
theorem wf_96 : ab_cw 49 ∈ ab_TG ∧ plainName (ab_my 49).cls = true := ⟨ab_tg_i 418 (by decide +kernel) (by decide +kernel), by decide +kernel⟩
theorem wf_97 : Cond.methodLink "Staggershelf$Starts" 58 (ab_my 49) ∈ ab_TG := ab_tg_i 415 (by decide +kernel) (by decide +kernel)
theorem wf_98 : Cond.instanceMethod (ab_my 49) ∈ ab_TG := ab_tg_i 417 (by decide +kernel) (by decide +kernel)
theorem wf_99 : Cond.selects RX1 (ab_my 49) (ab_my 49) ∈ ab_TG := ab_tg_p (by decide +kernel) (by decide +kernel)
theorem wf_100 : ab_cw 51 ∈ ab_TG ∧ plainName (ab_my 51).cls = true := ⟨ab_tg_i 414 (by decide +kernel) (by decide +kernel), by decide +kernel⟩
theorem wf_101 : Cond.methodLink "Staggershelf$Starts" 62 (ab_my 51) ∈ ab_TG := ab_tg_i 411 (by decide +kernel) (by decide +kernel)
theorem wf_102 : Cond.instanceMethod (ab_my 51) ∈ ab_TG := ab_tg_i 413 (by decide +kernel) (by decide +kernel)
theorem wf_103 : Cond.selects RX1 (ab_my 51) (ab_my 51) ∈ ab_TG := ab_tg_p (by decide +kernel) (by decide +kernel)
theorem wf_104 : ab_cw 50 ∈ ab_TG ∧ plainName (ab_my 50).cls = true := ⟨ab_tg_i 285 (by decide +kernel) (by decide +kernel), by decide +kernel⟩
theorem wf_105 : Cond.methodLink "Staggershelf$Starts" 66 (ab_my 50) ∈ ab_TG := ab_tg_i 282 (by decide +kernel) (by decide +kernel)
theorem wf_106 : Cond.instanceMethod (ab_my 50) ∈ ab_TG := ab_tg_i 284 (by decide +kernel) (by decide +kernel)
theorem wf_107 : Cond.selects RX1 (ab_my 50) (ab_my 50) ∈ ab_TG := ab_tg_p (by decide +kernel) (by decide +kernel)
theorem wf_108 : Cond.fieldLink "Staggershelf$Starts" 55 (TX1 1).1 (TX1 1).2.1 (TX1 1).2.2.1 ∈ ab_TG := ab_tg_i 58 (by decide +kernel) (by decide +kernel)
theorem wf_109 : ab_cw 53 ∈ ab_TG ∧ plainName (ab_my 53).cls = true := ⟨ab_tg_i 247 (by decide +kernel) (by decide +kernel), by decide +kernel⟩
theorem wf_110 : Cond.methodLink "Staggershelf$Starts" 70 (ab_my 53) ∈ ab_TG := ab_tg_i 244 (by decide +kernel) (by decide +kernel)
theorem wf_111 : Cond.instanceMethod (ab_my 53) ∈ ab_TG := ab_tg_i 246 (by decide +kernel) (by decide +kernel)
theorem wf_112 : Cond.selects RX1 (ab_my 53) (ab_my 53) ∈ ab_TG := ab_tg_p (by decide +kernel) (by decide +kernel)
theorem wf_113 : ab_cw 54 ∈ ab_TG ∧ plainName (ab_my 54).cls = true := ⟨ab_tg_i 255 (by decide +kernel) (by decide +kernel), by decide +kernel⟩
theorem wf_114 : Cond.methodLink "Staggershelf$Starts" 74 (ab_my 54) ∈ ab_TG := ab_tg_i 252 (by decide +kernel) (by decide +kernel)
theorem wf_115 : Cond.instanceMethod (ab_my 54) ∈ ab_TG := ab_tg_i 254 (by decide +kernel) (by decide +kernel)
theorem wf_116 : Cond.selects RX1 (ab_my 54) (ab_my 54) ∈ ab_TG := ab_tg_p (by decide +kernel) (by decide +kernel)
theorem wf_117 : ab_cw 42 ∈ ab_TG ∧ plainName (ab_my 42).cls = true := ⟨ab_tg_i 251 (by decide +kernel) (by decide +kernel), by decide +kernel⟩
theorem wf_118 : Cond.methodLink "Staggershelf$Starts" 78 (ab_my 42) ∈ ab_TG := ab_tg_i 248 (by decide +kernel) (by decide +kernel)
theorem wf_119 : Cond.instanceMethod (ab_my 42) ∈ ab_TG := ab_tg_i 249 (by decide +kernel) (by decide +kernel)
theorem wf_120 : Cond.selects RX1 (ab_my 42) (ab_my 42) ∈ ab_TG := ab_tg_i 250 (by decide +kernel) (by decide +kernel)
theorem wf_121 : ab_cw 55 ∈ ab_TG ∧ plainName (ab_my 55).cls = true := ⟨ab_tg_i 259 (by decide +kernel) (by decide +kernel), by decide +kernel⟩
theorem wf_122 : Cond.methodLink "Staggershelf$Starts" 82 (ab_my 55) ∈ ab_TG := ab_tg_i 256 (by decide +kernel) (by decide +kernel)
theorem wf_123 : Cond.instanceMethod (ab_my 55) ∈ ab_TG := ab_tg_i 258 (by decide +kernel) (by decide +kernel)
theorem wf_124 : Cond.selects RX1 (ab_my 55) (ab_my 55) ∈ ab_TG := ab_tg_p (by decide +kernel) (by decide +kernel)
theorem wf_125 : ab_cw 38 ∈ ab_TG ∧ plainName (ab_my 38).cls = true := ⟨ab_tg_i 263 (by decide +kernel) (by decide +kernel), by decide +kernel⟩
theorem wf_126 : Cond.methodLink "Staggershelf$Starts" 86 (ab_my 38) ∈ ab_TG := ab_tg_i 260 (by decide +kernel) (by decide +kernel)
theorem wf_127 : Cond.instanceMethod (ab_my 38) ∈ ab_TG := ab_tg_i 262 (by decide +kernel) (by decide +kernel)
theorem wf_128 : Cond.selects RX1 (ab_my 38) (ab_my 38) ∈ ab_TG := ab_tg_p (by decide +kernel) (by decide +kernel)
theorem wf_129 : ab_cw 57 ∈ ab_TG ∧ plainName (ab_my 57).cls = true := ⟨ab_tg_i 267 (by decide +kernel) (by decide +kernel), by decide +kernel⟩
theorem wf_130 : Cond.methodLink "Staggershelf$Starts" 90 (ab_my 57) ∈ ab_TG := ab_tg_i 264 (by decide +kernel) (by decide +kernel)
theorem wf_131 : Cond.instanceMethod (ab_my 57) ∈ ab_TG := ab_tg_i 266 (by decide +kernel) (by decide +kernel)
theorem wf_132 : Cond.selects RX1 (ab_my 57) (ab_my 57) ∈ ab_TG := ab_tg_p (by decide +kernel) (by decide +kernel)
theorem wf_133 : ab_cw 41 ∈ ab_TG ∧ plainName (ab_my 41).cls = true := ⟨ab_tg_i 277 (by decide +kernel) (by decide +kernel), by decide +kernel⟩
theorem wf_134 : Cond.methodLink "Staggershelf$Starts" 94 (ab_my 41) ∈ ab_TG := ab_tg_i 274 (by decide +kernel) (by decide +kernel)
theorem wf_135 : Cond.instanceMethod (ab_my 41) ∈ ab_TG := ab_tg_i 275 (by decide +kernel) (by decide +kernel)
theorem wf_136 : Cond.selects RX1 (ab_my 41) (ab_my 41) ∈ ab_TG := ab_tg_i 276 (by decide +kernel) (by decide +kernel)
theorem wf_137 : Cond.methodLink "Staggershelf$Starts" 97 Lib.Math.max.name ∈ ab_TG := ab_tg_i 271 (by decide +kernel) (by decide +kernel)
theorem wf_138 : Cond.static Lib.Math.max.name ∈ ab_TG := ab_tg_i 272 (by decide +kernel) (by decide +kernel)
theorem wf_139 : Cond.initialized "java/lang/Math" ∈ ab_TG := ab_tg_i 8 (by decide +kernel) (by decide +kernel)
theorem wf_140 : Cond.code Lib.Math.max.name Lib.Math.max.code 2 (some .int) ∈ ab_TG := ab_tg_i 273 (by decide +kernel) (by decide +kernel)
theorem wf_141 : ab_cw 56 ∈ ab_TG ∧ plainName (ab_my 56).cls = true := ⟨ab_tg_i 293 (by decide +kernel) (by decide +kernel), by decide +kernel⟩
theorem wf_142 : Cond.methodLink "Staggershelf$Starts" 102 (ab_my 56) ∈ ab_TG := ab_tg_i 290 (by decide +kernel) (by decide +kernel)
theorem wf_143 : Cond.instanceMethod (ab_my 56) ∈ ab_TG := ab_tg_i 292 (by decide +kernel) (by decide +kernel)
theorem wf_144 : Cond.selects RX1 (ab_my 56) (ab_my 56) ∈ ab_TG := ab_tg_p (by decide +kernel) (by decide +kernel)
theorem wf_145 : Cond.fieldLink "Staggershelf$Starts" 105 (TX1 12).1 (TX1 12).2.1 (TX1 12).2.2.1 ∈ ab_TG := ab_tg_i 69 (by decide +kernel) (by decide +kernel)
theorem wf_146 : ab_cw 40 ∈ ab_TG ∧ plainName (ab_my 40).cls = true := ⟨ab_tg_i 297 (by decide +kernel) (by decide +kernel), by decide +kernel⟩
theorem wf_147 : Cond.methodLink "Staggershelf$Starts" 108 (ab_my 40) ∈ ab_TG := ab_tg_i 294 (by decide +kernel) (by decide +kernel)
theorem wf_148 : Cond.instanceMethod (ab_my 40) ∈ ab_TG := ab_tg_i 295 (by decide +kernel) (by decide +kernel)
theorem wf_149 : Cond.selects RX1 (ab_my 40) (ab_my 40) ∈ ab_TG := ab_tg_i 296 (by decide +kernel) (by decide +kernel)
theorem wf_150 : Cond.methodLink "Staggershelf$Starts" 111 Lib.Math.min.name ∈ ab_TG := ab_tg_i 268 (by decide +kernel) (by decide +kernel)
theorem wf_151 : Cond.static Lib.Math.min.name ∈ ab_TG := ab_tg_i 269 (by decide +kernel) (by decide +kernel)
theorem wf_152 : Cond.code Lib.Math.min.name Lib.Math.min.code 2 (some .int) ∈ ab_TG := ab_tg_i 270 (by decide +kernel) (by decide +kernel)
theorem wf_153 : ab_cw 59 ∈ ab_TG ∧ plainName (ab_my 59).cls = true := ⟨ab_tg_i 281 (by decide +kernel) (by decide +kernel), by decide +kernel⟩
theorem wf_154 : Cond.methodLink "Staggershelf$Starts" 114 (ab_my 59) ∈ ab_TG := ab_tg_i 278 (by decide +kernel) (by decide +kernel)
theorem wf_155 : Cond.instanceMethod (ab_my 59) ∈ ab_TG := ab_tg_i 280 (by decide +kernel) (by decide +kernel)
theorem wf_156 : Cond.selects RX1 (ab_my 59) (ab_my 59) ∈ ab_TG := ab_tg_p (by decide +kernel) (by decide +kernel)
theorem wf_157 : ab_cw 58 ∈ ab_TG ∧ plainName (ab_my 58).cls = true := ⟨ab_tg_i 289 (by decide +kernel) (by decide +kernel), by decide +kernel⟩
theorem wf_158 : Cond.methodLink "Staggershelf$Starts" 118 (ab_my 58) ∈ ab_TG := ab_tg_i 286 (by decide +kernel) (by decide +kernel)
theorem wf_159 : Cond.instanceMethod (ab_my 58) ∈ ab_TG := ab_tg_i 288 (by decide +kernel) (by decide +kernel)
theorem wf_160 : Cond.selects RX1 (ab_my 58) (ab_my 58) ∈ ab_TG := ab_tg_p (by decide +kernel) (by decide +kernel)
theorem wf_161 : Cond.methodLink "Staggershelf" 1 Lib.objectInit ∈ ab_TG := ab_tg_i 16 (by decide +kernel) (by decide +kernel)
theorem wf_162 : Cond.classLink "Staggershelf" 7 RX0 ∈ ab_TG := ab_tg_i 19 (by decide +kernel) (by decide +kernel)
theorem wf_163 : Cond.instantiable RX0 7 ∈ ab_TG := ab_tg_i 20 (by decide +kernel) (by decide +kernel)
theorem wf_164 : ab_cw 0 ∈ ab_TG ∧ plainName (ab_my 0).cls = true := ⟨ab_tg_i 23 (by decide +kernel) (by decide +kernel), by decide +kernel⟩
theorem wf_165 : Cond.instanceMethod (ab_my 0) ∈ ab_TG := ab_tg_i 22 (by decide +kernel) (by decide +kernel)
theorem wf_166 : Cond.initialized (ab_my 0).cls ∈ ab_TG := ab_tg_i 2 (by decide +kernel) (by decide +kernel)
theorem wf_167 : Cond.methodLinkNest "Staggershelf" 9 (ab_my 0) "Staggershelf" ∈ ab_TN := ab_tn_i 21 (by decide +kernel) (by decide +kernel)
theorem wf_168 : Cond.fieldLink "Staggershelf" 10 (TX2 0).1 (TX2 0).2.1 (TX2 0).2.2.1 ∈ ab_TG := ab_tg_i 103 (by decide +kernel) (by decide +kernel)
theorem wf_169 : Cond.classLink "Staggershelf" 16 RX1 ∈ ab_TG := ab_tg_i 51 (by decide +kernel) (by decide +kernel)
theorem wf_170 : Cond.instantiable RX1 15 ∈ ab_TG := ab_tg_i 52 (by decide +kernel) (by decide +kernel)
theorem wf_171 : ab_cw 36 ∈ ab_TG ∧ plainName (ab_my 36).cls = true := ⟨ab_tg_i 55 (by decide +kernel) (by decide +kernel), by decide +kernel⟩
theorem wf_172 : Cond.instanceMethod (ab_my 36) ∈ ab_TG := ab_tg_i 54 (by decide +kernel) (by decide +kernel)
theorem wf_173 : Cond.initialized (ab_my 36).cls ∈ ab_TG := ab_tg_i 3 (by decide +kernel) (by decide +kernel)
theorem wf_174 : Cond.methodLinkNest "Staggershelf" 18 (ab_my 36) "Staggershelf" ∈ ab_TN := ab_tn_i 53 (by decide +kernel) (by decide +kernel)
theorem wf_175 : Cond.fieldLink "Staggershelf" 19 (TX2 1).1 (TX2 1).2.1 (TX2 1).2.2.1 ∈ ab_TG := ab_tg_i 104 (by decide +kernel) (by decide +kernel)
theorem wf_176 : Cond.fieldLink "Staggershelf" 23 (TX2 3).1 (TX2 3).2.1 (TX2 3).2.2.1 ∈ ab_TG := ab_tg_i 106 (by decide +kernel) (by decide +kernel)
theorem wf_177 : Cond.fieldLink "Staggershelf" 27 (TX2 4).1 (TX2 4).2.1 (TX2 4).2.2.1 ∈ ab_TG := ab_tg_i 107 (by decide +kernel) (by decide +kernel)
theorem wf_178 : Cond.fieldLink "Staggershelf" 30 (TX2 5).1 (TX2 5).2.1 (TX2 5).2.2.1 ∈ ab_TG := ab_tg_i 108 (by decide +kernel) (by decide +kernel)
theorem wf_179 : Cond.classLink "Staggershelf" 33 (ab_ex 1) ∈ ab_TG := ab_tg_i 147 (by decide +kernel) (by decide +kernel)
theorem wf_180 : Cond.initialized (ab_ex 1) ∈ ab_TG := ab_tg_i 7 (by decide +kernel) (by decide +kernel)
theorem wf_181 : (("Staggershelf", 35, "disks must be 3 to 5") : String × Nat × String) ∈ ab_TS := by decide +kernel
theorem wf_182 : ∀ w ∈ vx_atS "Staggershelf" 37 (ab_ex 1) ["java/lang/RuntimeException", "java/lang/Exception"], w ∈ ab_TG ∨ w ∈ ab_TN := ab_at_of (by decide +kernel)
theorem wf_183 : ∀ w ∈ Cond.classLink "Staggershelf" 33 (ab_ex 1) :: Cond.initialized (ab_ex 1) :: vx_atS "Staggershelf" 37 (ab_ex 1) ["java/lang/RuntimeException", "java/lang/Exception"], vx_ot w = true := by decide +kernel
theorem wf_184 : (("Staggershelf", 40, "stripes must be 1 to 8") : String × Nat × String) ∈ ab_TS := by decide +kernel
theorem wf_185 : ab_cw 1 ∈ ab_TG ∧ plainName (ab_my 1).cls = true := ⟨ab_tg_i 219 (by decide +kernel) (by decide +kernel), by decide +kernel⟩
theorem wf_186 : Cond.methodLink "Staggershelf" 42 (ab_my 1) ∈ ab_TG := ab_tg_i 216 (by decide +kernel) (by decide +kernel)
theorem wf_187 : Cond.instanceMethod (ab_my 1) ∈ ab_TG := ab_tg_i 217 (by decide +kernel) (by decide +kernel)
theorem wf_188 : Cond.selects RX0 (ab_my 1) (ab_my 1) ∈ ab_TG := ab_tg_i 218 (by decide +kernel) (by decide +kernel)
theorem wf_189 : ab_cw 37 ∈ ab_TG ∧ plainName (ab_my 37).cls = true := ⟨ab_tg_i 239 (by decide +kernel) (by decide +kernel), by decide +kernel⟩
theorem wf_190 : Cond.methodLink "Staggershelf" 46 (ab_my 37) ∈ ab_TG := ab_tg_i 236 (by decide +kernel) (by decide +kernel)
theorem wf_191 : Cond.instanceMethod (ab_my 37) ∈ ab_TG := ab_tg_i 237 (by decide +kernel) (by decide +kernel)
theorem wf_192 : Cond.selects RX1 (ab_my 37) (ab_my 37) ∈ ab_TG := ab_tg_i 238 (by decide +kernel) (by decide +kernel)
theorem wf_193 : Cond.fieldLink "Staggershelf" 50 (TX2 2).1 (TX2 2).2.1 (TX2 2).2.2.1 ∈ ab_TG := ab_tg_i 105 (by decide +kernel) (by decide +kernel)
theorem wf_194 : ab_cw 92 ∈ ab_TG ∧ plainName (ab_my 92).cls = true := ⟨ab_tg_i 301 (by decide +kernel) (by decide +kernel), by decide +kernel⟩
theorem wf_195 : Cond.methodLink "Staggershelf" 54 (ab_my 92) ∈ ab_TG := ab_tg_i 298 (by decide +kernel) (by decide +kernel)
theorem wf_196 : Cond.instanceMethod (ab_my 92) ∈ ab_TG := ab_tg_i 300 (by decide +kernel) (by decide +kernel)
theorem wf_197 : Cond.selects RX2 (ab_my 92) (ab_my 92) ∈ ab_TG := ab_tg_p (by decide +kernel) (by decide +kernel)
theorem wf_198 : Cond.initialized RX2 ∈ ab_TG := ab_tg_i 1 (by decide +kernel) (by decide +kernel)
theorem wf_199 : Cond.fieldLink "Staggershelf" 57 (TX2 6).1 (TX2 6).2.1 (TX2 6).2.2.1 ∈ ab_TG := ab_tg_i 109 (by decide +kernel) (by decide +kernel)
theorem wf_200 : Cond.fieldLink "Staggershelf" 60 (TX2 7).1 (TX2 7).2.1 (TX2 7).2.2.1 ∈ ab_TG := ab_tg_i 110 (by decide +kernel) (by decide +kernel)
theorem wf_201 : Cond.fieldLink "Staggershelf" 63 (TX2 8).1 (TX2 8).2.1 (TX2 8).2.2.1 ∈ ab_TG := ab_tg_i 111 (by decide +kernel) (by decide +kernel)
theorem wf_202 : Cond.fieldLink "Staggershelf" 66 (TX2 9).1 (TX2 9).2.1 (TX2 9).2.2.1 ∈ ab_TG := ab_tg_i 112 (by decide +kernel) (by decide +kernel)
theorem wf_203 : Cond.fieldLink "Staggershelf" 69 (TX2 10).1 (TX2 10).2.1 (TX2 10).2.2.1 ∈ ab_TG := ab_tg_i 113 (by decide +kernel) (by decide +kernel)
theorem wf_204 : Cond.fieldLink "Staggershelf" 72 (TX2 11).1 (TX2 11).2.1 (TX2 11).2.2.1 ∈ ab_TG := ab_tg_i 114 (by decide +kernel) (by decide +kernel)
theorem wf_205 : Cond.methodLink "Staggershelf" 75 (ab_my 5) ∈ ab_TG := ab_tg_i 302 (by decide +kernel) (by decide +kernel)
theorem wf_206 : ab_cw 4 ∈ ab_TG ∧ plainName (ab_my 4).cls = true := ⟨ab_tg_i 376 (by decide +kernel) (by decide +kernel), by decide +kernel⟩
theorem wf_207 : Cond.methodLink "Staggershelf" 79 (ab_my 4) ∈ ab_TG := ab_tg_i 373 (by decide +kernel) (by decide +kernel)
theorem wf_208 : Cond.instanceMethod (ab_my 4) ∈ ab_TG := ab_tg_i 374 (by decide +kernel) (by decide +kernel)
theorem wf_209 : Cond.selects RX0 (ab_my 4) (ab_my 4) ∈ ab_TG := ab_tg_i 375 (by decide +kernel) (by decide +kernel)
theorem wf_210 : Cond.classLink "Staggershelf" 83 (ab_ex 2) ∈ ab_TG := ab_tg_i 318 (by decide +kernel) (by decide +kernel)
theorem wf_211 : Cond.initialized (ab_ex 2) ∈ ab_TG := ab_tg_i 9 (by decide +kernel) (by decide +kernel)
theorem wf_212 : (("Staggershelf", 85, "no such block") : String × Nat × String) ∈ ab_TS := by decide +kernel
theorem wf_213 : ∀ w ∈ vx_atS "Staggershelf" 87 (ab_ex 2) ["java/lang/RuntimeException", "java/lang/Exception"], w ∈ ab_TG ∨ w ∈ ab_TN := ab_at_of (by decide +kernel)
theorem wf_214 : ∀ w ∈ Cond.classLink "Staggershelf" 83 (ab_ex 2) :: Cond.initialized (ab_ex 2) :: vx_atS "Staggershelf" 87 (ab_ex 2) ["java/lang/RuntimeException", "java/lang/Exception"], vx_ot w = true := by decide +kernel
theorem wf_215 : (("Staggershelf", 88, "value must be 0 to 255, steps 0 to 4") : String × Nat × String) ∈ ab_TS := by decide +kernel
theorem wf_216 : Cond.methodLink "Staggershelf" 90 (ab_my 6) ∈ ab_TG := ab_tg_i 387 (by decide +kernel) (by decide +kernel)
theorem wf_217 : Cond.methodLink "Staggershelf" 94 (ab_my 17) ∈ ab_TG := ab_tg_i 441 (by decide +kernel) (by decide +kernel)
theorem wf_218 : Cond.classLink "Staggershelf" 97 (ab_ex 3) ∈ ab_TG := ab_tg_i 442 (by decide +kernel) (by decide +kernel)
theorem wf_219 : Cond.initialized (ab_ex 3) ∈ ab_TG := ab_tg_i 10 (by decide +kernel) (by decide +kernel)
theorem wf_220 : (("Staggershelf", 99, "the power is off, or the stripe is broken") : String × Nat × String) ∈ ab_TS := by decide +kernel
theorem wf_221 : ∀ w ∈ vx_atS "Staggershelf" 101 (ab_ex 3) ["java/lang/RuntimeException", "java/lang/Exception"], w ∈ ab_TG ∨ w ∈ ab_TN := ab_at_of (by decide +kernel)
theorem wf_222 : ∀ w ∈ Cond.classLink "Staggershelf" 97 (ab_ex 3) :: Cond.initialized (ab_ex 3) :: vx_atS "Staggershelf" 101 (ab_ex 3) ["java/lang/RuntimeException", "java/lang/Exception"], vx_ot w = true := by decide +kernel
theorem wf_223 : ab_cw 27 ∈ ab_TG ∧ plainName (ab_my 27).cls = true := ⟨ab_tg_i 461 (by decide +kernel) (by decide +kernel), by decide +kernel⟩
theorem wf_224 : Cond.methodLink "Staggershelf" 102 (ab_my 27) ∈ ab_TG := ab_tg_i 458 (by decide +kernel) (by decide +kernel)
theorem wf_225 : Cond.instanceMethod (ab_my 27) ∈ ab_TG := ab_tg_i 459 (by decide +kernel) (by decide +kernel)
theorem wf_226 : Cond.selects RX0 (ab_my 27) (ab_my 27) ∈ ab_TG := ab_tg_i 460 (by decide +kernel) (by decide +kernel)
theorem wf_227 : ab_cw 89 ∈ ab_TG ∧ plainName (ab_my 89).cls = true := ⟨ab_tg_i 465 (by decide +kernel) (by decide +kernel), by decide +kernel⟩
theorem wf_228 : Cond.methodLink "Staggershelf" 105 (ab_my 89) ∈ ab_TG := ab_tg_i 462 (by decide +kernel) (by decide +kernel)
theorem wf_229 : Cond.instanceMethod (ab_my 89) ∈ ab_TG := ab_tg_i 464 (by decide +kernel) (by decide +kernel)
theorem wf_230 : Cond.selects RX2 (ab_my 89) (ab_my 89) ∈ ab_TG := ab_tg_p (by decide +kernel) (by decide +kernel)
theorem wf_231 : ab_cw 90 ∈ ab_TG ∧ plainName (ab_my 90).cls = true := ⟨ab_tg_i 475 (by decide +kernel) (by decide +kernel), by decide +kernel⟩
theorem wf_232 : Cond.methodLink "Staggershelf" 108 (ab_my 90) ∈ ab_TG := ab_tg_i 472 (by decide +kernel) (by decide +kernel)
theorem wf_233 : Cond.instanceMethod (ab_my 90) ∈ ab_TG := ab_tg_i 474 (by decide +kernel) (by decide +kernel)
theorem wf_234 : Cond.selects RX2 (ab_my 90) (ab_my 90) ∈ ab_TG := ab_tg_p (by decide +kernel) (by decide +kernel)
theorem wf_235 : ab_cw 91 ∈ ab_TG ∧ plainName (ab_my 91).cls = true := ⟨ab_tg_i 480 (by decide +kernel) (by decide +kernel), by decide +kernel⟩
theorem wf_236 : Cond.methodLink "Staggershelf" 111 (ab_my 91) ∈ ab_TG := ab_tg_i 477 (by decide +kernel) (by decide +kernel)
theorem wf_237 : Cond.instanceMethod (ab_my 91) ∈ ab_TG := ab_tg_i 479 (by decide +kernel) (by decide +kernel)
theorem wf_238 : Cond.selects RX2 (ab_my 91) (ab_my 91) ∈ ab_TG := ab_tg_p (by decide +kernel) (by decide +kernel)
theorem wf_239 : ab_cw 93 ∈ ab_TG ∧ plainName (ab_my 93).cls = true := ⟨ab_tg_i 484 (by decide +kernel) (by decide +kernel), by decide +kernel⟩
theorem wf_240 : Cond.methodLink "Staggershelf" 114 (ab_my 93) ∈ ab_TG := ab_tg_i 481 (by decide +kernel) (by decide +kernel)
theorem wf_241 : Cond.instanceMethod (ab_my 93) ∈ ab_TG := ab_tg_i 483 (by decide +kernel) (by decide +kernel)
theorem wf_242 : Cond.selects RX2 (ab_my 93) (ab_my 93) ∈ ab_TG := ab_tg_p (by decide +kernel) (by decide +kernel)
theorem wf_243 : (("Staggershelf", 117, "the power is off") : String × Nat × String) ∈ ab_TS := by decide +kernel
theorem wf_244 : Cond.methodLink "Staggershelf" 119 (ab_my 7) ∈ ab_TG := ab_tg_i 379 (by decide +kernel) (by decide +kernel)
theorem wf_245 : Cond.methodLink "Staggershelf" 122 (ab_my 24) ∈ ab_TG := ab_tg_i 354 (by decide +kernel) (by decide +kernel)
theorem wf_246 : Cond.methodLink "Staggershelf" 126 (ab_my 15) ∈ ab_TG := ab_tg_i 342 (by decide +kernel) (by decide +kernel)
theorem wf_247 : Cond.methodLink "Staggershelf" 130 (ab_my 2) ∈ ab_TG := ab_tg_i 310 (by decide +kernel) (by decide +kernel)
theorem wf_248 : (("Staggershelf", 133, "no such disk") : String × Nat × String) ∈ ab_TS := by decide +kernel
theorem wf_249 : Cond.methodLink "Staggershelf" 135 (ab_my 13) ∈ ab_TG := ab_tg_i 495 (by decide +kernel) (by decide +kernel)
theorem wf_250 : (("Staggershelf", 138, "the disk has failed already") : String × Nat × String) ∈ ab_TS := by decide +kernel
theorem wf_251 : ab_cw 28 ∈ ab_TG ∧ plainName (ab_my 28).cls = true := ⟨ab_tg_i 510 (by decide +kernel) (by decide +kernel), by decide +kernel⟩
theorem wf_252 : Cond.methodLink "Staggershelf" 140 (ab_my 28) ∈ ab_TG := ab_tg_i 507 (by decide +kernel) (by decide +kernel)
theorem wf_253 : Cond.instanceMethod (ab_my 28) ∈ ab_TG := ab_tg_i 508 (by decide +kernel) (by decide +kernel)
theorem wf_254 : Cond.selects RX0 (ab_my 28) (ab_my 28) ∈ ab_TG := ab_tg_i 509 (by decide +kernel) (by decide +kernel)
theorem wf_255 : ab_cw 23 ∈ ab_TG ∧ plainName (ab_my 23).cls = true := ⟨ab_tg_i 515 (by decide +kernel) (by decide +kernel), by decide +kernel⟩
theorem wf_256 : Cond.methodLink "Staggershelf" 143 (ab_my 23) ∈ ab_TG := ab_tg_i 512 (by decide +kernel) (by decide +kernel)
theorem wf_257 : Cond.instanceMethod (ab_my 23) ∈ ab_TG := ab_tg_i 513 (by decide +kernel) (by decide +kernel)
theorem wf_258 : Cond.selects RX0 (ab_my 23) (ab_my 23) ∈ ab_TG := ab_tg_i 514 (by decide +kernel) (by decide +kernel)
theorem wf_259 : ab_cw 29 ∈ ab_TG ∧ plainName (ab_my 29).cls = true := ⟨ab_tg_i 523 (by decide +kernel) (by decide +kernel), by decide +kernel⟩
theorem wf_260 : Cond.methodLink "Staggershelf" 146 (ab_my 29) ∈ ab_TG := ab_tg_i 520 (by decide +kernel) (by decide +kernel)
theorem wf_261 : Cond.instanceMethod (ab_my 29) ∈ ab_TG := ab_tg_i 521 (by decide +kernel) (by decide +kernel)
theorem wf_262 : Cond.selects RX0 (ab_my 29) (ab_my 29) ∈ ab_TG := ab_tg_i 522 (by decide +kernel) (by decide +kernel)
theorem wf_263 : ab_cw 3 ∈ ab_TG ∧ plainName (ab_my 3).cls = true := ⟨ab_tg_i 317 (by decide +kernel) (by decide +kernel), by decide +kernel⟩
theorem wf_264 : Cond.methodLink "Staggershelf" 149 (ab_my 3) ∈ ab_TG := ab_tg_i 314 (by decide +kernel) (by decide +kernel)
theorem wf_265 : Cond.instanceMethod (ab_my 3) ∈ ab_TG := ab_tg_i 315 (by decide +kernel) (by decide +kernel)
theorem wf_266 : Cond.selects RX0 (ab_my 3) (ab_my 3) ∈ ab_TG := ab_tg_i 316 (by decide +kernel) (by decide +kernel)
theorem wf_267 : (("Staggershelf", 152, "no such disk, or stripe") : String × Nat × String) ∈ ab_TS := by decide +kernel
theorem wf_268 : (("Staggershelf", 154, "bits must be 1 to 255") : String × Nat × String) ∈ ab_TS := by decide +kernel
theorem wf_269 : (("Staggershelf", 156, "the disk has failed") : String × Nat × String) ∈ ab_TS := by decide +kernel
theorem wf_270 : ab_cw 30 ∈ ab_TG ∧ plainName (ab_my 30).cls = true := ⟨ab_tg_i 500 (by decide +kernel) (by decide +kernel), by decide +kernel⟩
theorem wf_271 : Cond.methodLink "Staggershelf" 158 (ab_my 30) ∈ ab_TG := ab_tg_i 497 (by decide +kernel) (by decide +kernel)
theorem wf_272 : Cond.instanceMethod (ab_my 30) ∈ ab_TG := ab_tg_i 498 (by decide +kernel) (by decide +kernel)
theorem wf_273 : Cond.selects RX0 (ab_my 30) (ab_my 30) ∈ ab_TG := ab_tg_i 499 (by decide +kernel) (by decide +kernel)
theorem wf_274 : Cond.methodLink "Staggershelf" 162 (ab_my 11) ∈ ab_TG := ab_tg_i 334 (by decide +kernel) (by decide +kernel)
theorem wf_275 : ab_cw 95 ∈ ab_TG ∧ plainName (ab_my 95).cls = true := ⟨ab_tg_i 531 (by decide +kernel) (by decide +kernel), by decide +kernel⟩
theorem wf_276 : Cond.methodLink "Staggershelf" 165 (ab_my 95) ∈ ab_TG := ab_tg_i 528 (by decide +kernel) (by decide +kernel)
theorem wf_277 : Cond.instanceMethod (ab_my 95) ∈ ab_TG := ab_tg_i 530 (by decide +kernel) (by decide +kernel)
theorem wf_278 : Cond.selects RX2 (ab_my 95) (ab_my 95) ∈ ab_TG := ab_tg_p (by decide +kernel) (by decide +kernel)
theorem wf_279 : ab_cw 96 ∈ ab_TG ∧ plainName (ab_my 96).cls = true := ⟨ab_tg_i 536 (by decide +kernel) (by decide +kernel), by decide +kernel⟩
theorem wf_280 : Cond.methodLink "Staggershelf" 168 (ab_my 96) ∈ ab_TG := ab_tg_i 533 (by decide +kernel) (by decide +kernel)
theorem wf_281 : Cond.instanceMethod (ab_my 96) ∈ ab_TG := ab_tg_i 535 (by decide +kernel) (by decide +kernel)
theorem wf_282 : Cond.selects RX2 (ab_my 96) (ab_my 96) ∈ ab_TG := ab_tg_p (by decide +kernel) (by decide +kernel)
theorem wf_283 : ab_cw 10 ∈ ab_TG ∧ plainName (ab_my 10).cls = true := ⟨ab_tg_i 540 (by decide +kernel) (by decide +kernel), by decide +kernel⟩
theorem wf_284 : Cond.methodLink "Staggershelf" 171 (ab_my 10) ∈ ab_TG := ab_tg_i 537 (by decide +kernel) (by decide +kernel)
theorem wf_285 : Cond.instanceMethod (ab_my 10) ∈ ab_TG := ab_tg_i 538 (by decide +kernel) (by decide +kernel)
theorem wf_286 : Cond.selects RX0 (ab_my 10) (ab_my 10) ∈ ab_TG := ab_tg_i 539 (by decide +kernel) (by decide +kernel)
theorem wf_287 : (("Staggershelf", 174, "no such stripe") : String × Nat × String) ∈ ab_TS := by decide +kernel
theorem wf_288 : (("Staggershelf", 176, "the power is off, or the stripe is not broken") : String × Nat × String) ∈ ab_TS := by decide +kernel
theorem wf_289 : ab_cw 32 ∈ ab_TG ∧ plainName (ab_my 32).cls = true := ⟨ab_tg_i 554 (by decide +kernel) (by decide +kernel), by decide +kernel⟩
theorem wf_290 : Cond.methodLink "Staggershelf" 178 (ab_my 32) ∈ ab_TG := ab_tg_i 551 (by decide +kernel) (by decide +kernel)
theorem wf_291 : Cond.instanceMethod (ab_my 32) ∈ ab_TG := ab_tg_i 552 (by decide +kernel) (by decide +kernel)
theorem wf_292 : Cond.selects RX0 (ab_my 32) (ab_my 32) ∈ ab_TG := ab_tg_i 553 (by decide +kernel) (by decide +kernel)
theorem wf_293 : Cond.fieldLink "Staggershelf" 200 (TX0 0).1 (TX0 0).2.1 (TX0 0).2.2.1 ∈ ab_TG := ab_tg_i 26 (by decide +kernel) (by decide +kernel)
theorem wf_294 : ab_cw 43 ∈ ab_TG ∧ plainName (ab_my 43).cls = true := ⟨ab_tg_i 564 (by decide +kernel) (by decide +kernel), by decide +kernel⟩
theorem wf_295 : Cond.methodLink "Staggershelf" 205 (ab_my 43) ∈ ab_TG := ab_tg_i 561 (by decide +kernel) (by decide +kernel)
theorem wf_296 : Cond.instanceMethod (ab_my 43) ∈ ab_TG := ab_tg_i 562 (by decide +kernel) (by decide +kernel)
theorem wf_297 : Cond.selects RX1 (ab_my 43) (ab_my 43) ∈ ab_TG := ab_tg_i 563 (by decide +kernel) (by decide +kernel)
theorem wf_298 : (("Staggershelf", 208, "there is no shelf, the power is on, or there is no plan") : String × Nat × String) ∈ ab_TS := by decide +kernel
theorem wf_299 : ab_cw 94 ∈ ab_TG ∧ plainName (ab_my 94).cls = true := ⟨ab_tg_i 569 (by decide +kernel) (by decide +kernel), by decide +kernel⟩
theorem wf_300 : Cond.methodLink "Staggershelf" 210 (ab_my 94) ∈ ab_TG := ab_tg_i 566 (by decide +kernel) (by decide +kernel)
theorem wf_301 : Cond.instanceMethod (ab_my 94) ∈ ab_TG := ab_tg_i 568 (by decide +kernel) (by decide +kernel)
theorem wf_302 : Cond.selects RX2 (ab_my 94) (ab_my 94) ∈ ab_TG := ab_tg_p (by decide +kernel) (by decide +kernel)
theorem wf_303 : ab_cw 12 ∈ ab_TG ∧ plainName (ab_my 12).cls = true := ⟨ab_tg_i 341 (by decide +kernel) (by decide +kernel), by decide +kernel⟩
theorem wf_304 : Cond.methodLink "Staggershelf" 220 (ab_my 12) ∈ ab_TG := ab_tg_i 338 (by decide +kernel) (by decide +kernel)
theorem wf_305 : Cond.instanceMethod (ab_my 12) ∈ ab_TG := ab_tg_i 339 (by decide +kernel) (by decide +kernel)
theorem wf_306 : Cond.selects RX0 (ab_my 12) (ab_my 12) ∈ ab_TG := ab_tg_i 340 (by decide +kernel) (by decide +kernel)
theorem wf_307 : Cond.methodLink "Staggershelf" 223 (ab_my 8) ∈ ab_TG := ab_tg_i 346 (by decide +kernel) (by decide +kernel)
theorem wf_308 : (("Staggershelf", 226, "what must be 0 to 4") : String × Nat × String) ∈ ab_TS := by decide +kernel
theorem wf_309 : ab_cw 18 ∈ ab_TG ∧ plainName (ab_my 18).cls = true := ⟨ab_tg_i 608 (by decide +kernel) (by decide +kernel), by decide +kernel⟩
theorem wf_310 : Cond.methodLink "Staggershelf" 228 (ab_my 18) ∈ ab_TG := ab_tg_i 605 (by decide +kernel) (by decide +kernel)
theorem wf_311 : Cond.instanceMethod (ab_my 18) ∈ ab_TG := ab_tg_i 606 (by decide +kernel) (by decide +kernel)
theorem wf_312 : Cond.selects RX0 (ab_my 18) (ab_my 18) ∈ ab_TG := ab_tg_i 607 (by decide +kernel) (by decide +kernel)
theorem wf_313 : ab_cw 14 ∈ ab_TG ∧ plainName (ab_my 14).cls = true := ⟨ab_tg_i 612 (by decide +kernel) (by decide +kernel), by decide +kernel⟩
theorem wf_314 : Cond.methodLink "Staggershelf" 231 (ab_my 14) ∈ ab_TG := ab_tg_i 609 (by decide +kernel) (by decide +kernel)
theorem wf_315 : Cond.instanceMethod (ab_my 14) ∈ ab_TG := ab_tg_i 610 (by decide +kernel) (by decide +kernel)
theorem wf_316 : Cond.selects RX0 (ab_my 14) (ab_my 14) ∈ ab_TG := ab_tg_i 611 (by decide +kernel) (by decide +kernel)
theorem wf_317 : Cond.methodLink "Staggershelf" 185 (ab_my 40) ∈ ab_TG := ab_tg_i 613 (by decide +kernel) (by decide +kernel)
theorem wf_318 : Cond.methodLink "Staggershelf" 234 (ab_my 41) ∈ ab_TG := ab_tg_i 614 (by decide +kernel) (by decide +kernel)
theorem wf_319 : Cond.methodLink "Staggershelf" 237 (ab_my 42) ∈ ab_TG := ab_tg_i 615 (by decide +kernel) (by decide +kernel)
theorem wf_320 : ab_cw 44 ∈ ab_TG ∧ plainName (ab_my 44).cls = true := ⟨ab_tg_i 619 (by decide +kernel) (by decide +kernel), by decide +kernel⟩
theorem wf_321 : Cond.methodLink "Staggershelf" 240 (ab_my 44) ∈ ab_TG := ab_tg_i 616 (by decide +kernel) (by decide +kernel)
theorem wf_322 : Cond.instanceMethod (ab_my 44) ∈ ab_TG := ab_tg_i 617 (by decide +kernel) (by decide +kernel)
theorem wf_323 : Cond.selects RX1 (ab_my 44) (ab_my 44) ∈ ab_TG := ab_tg_i 618 (by decide +kernel) (by decide +kernel)
theorem wf_324 : ab_cw 45 ∈ ab_TG ∧ plainName (ab_my 45).cls = true := ⟨ab_tg_i 623 (by decide +kernel) (by decide +kernel), by decide +kernel⟩
theorem wf_325 : Cond.methodLink "Staggershelf" 243 (ab_my 45) ∈ ab_TG := ab_tg_i 620 (by decide +kernel) (by decide +kernel)
theorem wf_326 : Cond.instanceMethod (ab_my 45) ∈ ab_TG := ab_tg_i 621 (by decide +kernel) (by decide +kernel)
theorem wf_327 : Cond.selects RX1 (ab_my 45) (ab_my 45) ∈ ab_TG := ab_tg_i 622 (by decide +kernel) (by decide +kernel)
theorem wf_328 : (("Staggershelf", 246, "what must be 0 to 7") : String × Nat × String) ∈ ab_TS := by decide +kernel
theorem wf_329 : ab_cw 16 ∈ ab_TG ∧ plainName (ab_my 16).cls = true := ⟨ab_tg_i 391 (by decide +kernel) (by decide +kernel), by decide +kernel⟩
theorem wf_330 : Cond.methodLink "Staggershelf" 248 (ab_my 16) ∈ ab_TG := ab_tg_i 388 (by decide +kernel) (by decide +kernel)
theorem wf_331 : Cond.instanceMethod (ab_my 16) ∈ ab_TG := ab_tg_i 389 (by decide +kernel) (by decide +kernel)
theorem wf_332 : Cond.selects RX0 (ab_my 16) (ab_my 16) ∈ ab_TG := ab_tg_i 390 (by decide +kernel) (by decide +kernel)
theorem wf_333 : (("Staggershelf", 251, "what must be 0 to 3") : String × Nat × String) ∈ ab_TS := by decide +kernel
theorem wf_334 : (("Staggershelf", 253, "what must be 0 to 2") : String × Nat × String) ∈ ab_TS := by decide +kernel
theorem wf_335 : Cond.fieldLink "Staggershelf" 255 (TX0 1).1 (TX0 1).2.1 (TX0 1).2.2.1 ∈ ab_TG := ab_tg_i 28 (by decide +kernel) (by decide +kernel)
theorem wf_336 : ab_cw 22 ∈ ab_TG ∧ plainName (ab_my 22).cls = true := ⟨ab_tg_i 577 (by decide +kernel) (by decide +kernel), by decide +kernel⟩
theorem wf_337 : Cond.methodLink "Staggershelf" 258 (ab_my 22) ∈ ab_TG := ab_tg_i 574 (by decide +kernel) (by decide +kernel)
theorem wf_338 : Cond.instanceMethod (ab_my 22) ∈ ab_TG := ab_tg_i 575 (by decide +kernel) (by decide +kernel)
theorem wf_339 : Cond.selects RX0 (ab_my 22) (ab_my 22) ∈ ab_TG := ab_tg_i 576 (by decide +kernel) (by decide +kernel)
theorem wf_340 : ab_cw 19 ∈ ab_TG ∧ plainName (ab_my 19).cls = true := ⟨ab_tg_i 581 (by decide +kernel) (by decide +kernel), by decide +kernel⟩
theorem wf_341 : Cond.methodLink "Staggershelf" 261 (ab_my 19) ∈ ab_TG := ab_tg_i 578 (by decide +kernel) (by decide +kernel)
theorem wf_342 : Cond.instanceMethod (ab_my 19) ∈ ab_TG := ab_tg_i 579 (by decide +kernel) (by decide +kernel)
theorem wf_343 : Cond.selects RX0 (ab_my 19) (ab_my 19) ∈ ab_TG := ab_tg_i 580 (by decide +kernel) (by decide +kernel)
theorem wf_344 : ab_cw 20 ∈ ab_TG ∧ plainName (ab_my 20).cls = true := ⟨ab_tg_i 585 (by decide +kernel) (by decide +kernel), by decide +kernel⟩
theorem wf_345 : Cond.methodLink "Staggershelf" 264 (ab_my 20) ∈ ab_TG := ab_tg_i 582 (by decide +kernel) (by decide +kernel)
theorem wf_346 : Cond.instanceMethod (ab_my 20) ∈ ab_TG := ab_tg_i 583 (by decide +kernel) (by decide +kernel)
theorem wf_347 : Cond.selects RX0 (ab_my 20) (ab_my 20) ∈ ab_TG := ab_tg_i 584 (by decide +kernel) (by decide +kernel)
theorem wf_348 : ab_cw 21 ∈ ab_TG ∧ plainName (ab_my 21).cls = true := ⟨ab_tg_i 589 (by decide +kernel) (by decide +kernel), by decide +kernel⟩
theorem wf_349 : Cond.methodLink "Staggershelf" 267 (ab_my 21) ∈ ab_TG := ab_tg_i 586 (by decide +kernel) (by decide +kernel)
theorem wf_350 : Cond.instanceMethod (ab_my 21) ∈ ab_TG := ab_tg_i 587 (by decide +kernel) (by decide +kernel)
theorem wf_351 : Cond.selects RX0 (ab_my 21) (ab_my 21) ∈ ab_TG := ab_tg_i 588 (by decide +kernel) (by decide +kernel)
theorem wf_352 : Cond.fieldLink "Staggershelf" 270 (TX2 12).1 (TX2 12).2.1 (TX2 12).2.2.1 ∈ ab_TG := ab_tg_i 115 (by decide +kernel) (by decide +kernel)
theorem wf_353 : (("Staggershelf", 273, "what must be 0 to 16") : String × Nat × String) ∈ ab_TS := by decide +kernel
theorem wf_354 : (("Staggershelf", 290, "tenth must be 0 to 999") : String × Nat × String) ∈ ab_TS := by decide +kernel
theorem wf_355 : ab_cw 46 ∈ ab_TG ∧ plainName (ab_my 46).cls = true := ⟨ab_tg_i 640 (by decide +kernel) (by decide +kernel), by decide +kernel⟩
theorem wf_356 : Cond.methodLink "Staggershelf" 292 (ab_my 46) ∈ ab_TG := ab_tg_i 637 (by decide +kernel) (by decide +kernel)
theorem wf_357 : Cond.instanceMethod (ab_my 46) ∈ ab_TG := ab_tg_i 638 (by decide +kernel) (by decide +kernel)
theorem wf_358 : Cond.selects RX1 (ab_my 46) (ab_my 46) ∈ ab_TG := ab_tg_i 639 (by decide +kernel) (by decide +kernel)
theorem wf_359 : (("Staggershelf", 213, "gap must be 0 to 20") : String × Nat × String) ∈ ab_TS := by decide +kernel
theorem wf_360 : (("Staggershelf", 203, "there is no shelf") : String × Nat × String) ∈ ab_TS := by decide +kernel
theorem wf_361 : ab_cw 48 ∈ ab_TG ∧ plainName (ab_my 48).cls = true := ⟨ab_tg_i 652 (by decide +kernel) (by decide +kernel), by decide +kernel⟩
theorem wf_362 : Cond.methodLink "Staggershelf" 217 (ab_my 48) ∈ ab_TG := ab_tg_i 649 (by decide +kernel) (by decide +kernel)
theorem wf_363 : Cond.instanceMethod (ab_my 48) ∈ ab_TG := ab_tg_i 650 (by decide +kernel) (by decide +kernel)
theorem wf_364 : Cond.selects RX1 (ab_my 48) (ab_my 48) ∈ ab_TG := ab_tg_i 651 (by decide +kernel) (by decide +kernel)
theorem wf_365 : (("Staggershelf", 295, "both are the same disk") : String × Nat × String) ∈ ab_TS := by decide +kernel
theorem wf_366 : ab_cw 33 ∈ ab_TG ∧ plainName (ab_my 33).cls = true := ⟨ab_tg_i 405 (by decide +kernel) (by decide +kernel), by decide +kernel⟩
theorem wf_367 : Cond.methodLink "Staggershelf" 297 (ab_my 33) ∈ ab_TG := ab_tg_i 402 (by decide +kernel) (by decide +kernel)
theorem wf_368 : Cond.instanceMethod (ab_my 33) ∈ ab_TG := ab_tg_i 403 (by decide +kernel) (by decide +kernel)
theorem wf_369 : Cond.selects RX0 (ab_my 33) (ab_my 33) ∈ ab_TG := ab_tg_i 404 (by decide +kernel) (by decide +kernel)
theorem wf_370 : ab_cw 47 ∈ ab_TG ∧ plainName (ab_my 47).cls = true := ⟨ab_tg_i 410 (by decide +kernel) (by decide +kernel), by decide +kernel⟩
theorem wf_371 : Cond.methodLink "Staggershelf" 300 (ab_my 47) ∈ ab_TG := ab_tg_i 407 (by decide +kernel) (by decide +kernel)
theorem wf_372 : Cond.instanceMethod (ab_my 47) ∈ ab_TG := ab_tg_i 408 (by decide +kernel) (by decide +kernel)
theorem wf_373 : Cond.selects RX1 (ab_my 47) (ab_my 47) ∈ ab_TG := ab_tg_i 409 (by decide +kernel) (by decide +kernel)
theorem wf_374 : Cond.constantLong "Staggershelf" 304 6661 ∈ ab_TG := ab_tg_i 598 (by decide +kernel) (by decide +kernel)
theorem wf_375 : Cond.constantLong "Staggershelf" 306 31 ∈ ab_TG := ab_tg_i 599 (by decide +kernel) (by decide +kernel)
theorem wf_376 : ab_cw 79 ∈ ab_TG ∧ plainName (ab_my 79).cls = true := ⟨ab_tg_i 573 (by decide +kernel) (by decide +kernel), by decide +kernel⟩
theorem wf_377 : Cond.methodLink "Staggershelf" 308 (ab_my 79) ∈ ab_TG := ab_tg_i 600 (by decide +kernel) (by decide +kernel)
theorem wf_378 : Cond.instanceMethod (ab_my 79) ∈ ab_TG := ab_tg_i 571 (by decide +kernel) (by decide +kernel)
theorem wf_379 : Cond.selects RX2 (ab_my 79) (ab_my 79) ∈ ab_TG := ab_tg_i 572 (by decide +kernel) (by decide +kernel)
theorem wf_380 : ab_cw 76 ∈ ab_TG ∧ plainName (ab_my 76).cls = true := ⟨ab_tg_i 604 (by decide +kernel) (by decide +kernel), by decide +kernel⟩
theorem wf_381 : Cond.methodLink "Staggershelf" 311 (ab_my 76) ∈ ab_TG := ab_tg_i 601 (by decide +kernel) (by decide +kernel)
theorem wf_382 : Cond.instanceMethod (ab_my 76) ∈ ab_TG := ab_tg_i 602 (by decide +kernel) (by decide +kernel)
theorem wf_383 : Cond.selects RX2 (ab_my 76) (ab_my 76) ∈ ab_TG := ab_tg_i 603 (by decide +kernel) (by decide +kernel)
theorem wf_384 : ab_cw 87 ∈ ab_TG ∧ plainName (ab_my 87).cls = true := ⟨ab_tg_i 628 (by decide +kernel) (by decide +kernel), by decide +kernel⟩
theorem wf_385 : Cond.methodLink "Staggershelf" 314 (ab_my 87) ∈ ab_TG := ab_tg_i 625 (by decide +kernel) (by decide +kernel)
theorem wf_386 : Cond.instanceMethod (ab_my 87) ∈ ab_TG := ab_tg_i 627 (by decide +kernel) (by decide +kernel)
theorem wf_387 : Cond.selects RX2 (ab_my 87) (ab_my 87) ∈ ab_TG := ab_tg_p (by decide +kernel) (by decide +kernel)
theorem wf_388 : ab_cw 77 ∈ ab_TG ∧ plainName (ab_my 77).cls = true := ⟨ab_tg_i 372 (by decide +kernel) (by decide +kernel), by decide +kernel⟩
theorem wf_389 : Cond.methodLink "Staggershelf" 318 (ab_my 77) ∈ ab_TG := ab_tg_i 630 (by decide +kernel) (by decide +kernel)
theorem wf_390 : Cond.instanceMethod (ab_my 77) ∈ ab_TG := ab_tg_i 370 (by decide +kernel) (by decide +kernel)
theorem wf_391 : Cond.selects RX2 (ab_my 77) (ab_my 77) ∈ ab_TG := ab_tg_i 371 (by decide +kernel) (by decide +kernel)
theorem wf_392 : ab_cw 78 ∈ ab_TG ∧ plainName (ab_my 78).cls = true := ⟨ab_tg_i 396 (by decide +kernel) (by decide +kernel), by decide +kernel⟩
theorem wf_393 : Cond.methodLink "Staggershelf" 321 (ab_my 78) ∈ ab_TG := ab_tg_i 631 (by decide +kernel) (by decide +kernel)
theorem wf_394 : Cond.instanceMethod (ab_my 78) ∈ ab_TG := ab_tg_i 394 (by decide +kernel) (by decide +kernel)
theorem wf_395 : Cond.selects RX2 (ab_my 78) (ab_my 78) ∈ ab_TG := ab_tg_i 395 (by decide +kernel) (by decide +kernel)
theorem wf_396 : ab_cw 81 ∈ ab_TG ∧ plainName (ab_my 81).cls = true := ⟨ab_tg_i 635 (by decide +kernel) (by decide +kernel), by decide +kernel⟩
theorem wf_397 : Cond.methodLink "Staggershelf" 324 (ab_my 81) ∈ ab_TG := ab_tg_i 632 (by decide +kernel) (by decide +kernel)
theorem wf_398 : Cond.instanceMethod (ab_my 81) ∈ ab_TG := ab_tg_i 633 (by decide +kernel) (by decide +kernel)
theorem wf_399 : Cond.selects RX2 (ab_my 81) (ab_my 81) ∈ ab_TG := ab_tg_i 634 (by decide +kernel) (by decide +kernel)
theorem wf_400 : ab_cw 84 ∈ ab_TG ∧ plainName (ab_my 84).cls = true := ⟨ab_tg_i 401 (by decide +kernel) (by decide +kernel), by decide +kernel⟩
theorem wf_401 : Cond.methodLink "Staggershelf" 327 (ab_my 84) ∈ ab_TG := ab_tg_i 641 (by decide +kernel) (by decide +kernel)
theorem wf_402 : Cond.instanceMethod (ab_my 84) ∈ ab_TG := ab_tg_i 399 (by decide +kernel) (by decide +kernel)
theorem wf_403 : Cond.selects RX2 (ab_my 84) (ab_my 84) ∈ ab_TG := ab_tg_i 400 (by decide +kernel) (by decide +kernel)
theorem wf_404 : ab_cw 75 ∈ ab_TG ∧ plainName (ab_my 75).cls = true := ⟨ab_tg_i 309 (by decide +kernel) (by decide +kernel), by decide +kernel⟩
theorem wf_405 : Cond.methodLink "Staggershelf" 330 (ab_my 75) ∈ ab_TG := ab_tg_i 629 (by decide +kernel) (by decide +kernel)
theorem wf_406 : Cond.instanceMethod (ab_my 75) ∈ ab_TG := ab_tg_i 307 (by decide +kernel) (by decide +kernel)
theorem wf_407 : Cond.selects RX2 (ab_my 75) (ab_my 75) ∈ ab_TG := ab_tg_i 308 (by decide +kernel) (by decide +kernel)
theorem wf_408 : Cond.methodLink "Staggershelf" 334 (ab_my 9) ∈ ab_TG := ab_tg_i 466 (by decide +kernel) (by decide +kernel)
theorem wf_409 : Cond.methodLink "Staggershelf" 337 (ab_my 31) ∈ ab_TG := ab_tg_i 467 (by decide +kernel) (by decide +kernel)
theorem wf_410 : Cond.methodLink "Staggershelf" 340 (ab_my 26) ∈ ab_TG := ab_tg_i 476 (by decide +kernel) (by decide +kernel)
theorem wf_411 : (("Staggershelf", 343, "there is no shelf, or the power is off") : String × Nat × String) ∈ ab_TS := by decide +kernel
theorem wf_412 : Cond.constant "StaggershelfLaw" 7 (Int32.ofInt (2147483647)) ∈ ab_TG := ab_tg_i 426 (by decide +kernel) (by decide +kernel)
theorem wf_413 : Cond.constant "StaggershelfLaw" 8 (Int32.ofInt (790386105)) ∈ ab_TG := ab_tg_i 430 (by decide +kernel) (by decide +kernel)
theorem wf_414 : Cond.classLink "StaggershelfLaw" 9 RX2 ∈ ab_TG := ab_tg_i 11 (by decide +kernel) (by decide +kernel)
theorem wf_415 : Cond.instantiable RX2 13 ∈ ab_TG := ab_tg_i 12 (by decide +kernel) (by decide +kernel)
theorem wf_416 : ab_cw 60 ∈ ab_TG ∧ plainName (ab_my 60).cls = true := ⟨ab_tg_i 15 (by decide +kernel) (by decide +kernel), by decide +kernel⟩
theorem wf_417 : Cond.instanceMethod (ab_my 60) ∈ ab_TG := ab_tg_i 14 (by decide +kernel) (by decide +kernel)
theorem wf_418 : Cond.initialized (ab_my 60).cls ∈ ab_TG := ab_tg_i 1 (by decide +kernel) (by decide +kernel)
theorem wf_419 : Cond.methodLink "StaggershelfLaw" 11 (ab_my 60) ∈ ab_TG := ab_tg_i 13 (by decide +kernel) (by decide +kernel)
theorem wf_420 : ab_cw 70 ∈ ab_TG ∧ plainName (ab_my 70).cls = true := ⟨ab_tg_i 429 (by decide +kernel) (by decide +kernel), by decide +kernel⟩
theorem wf_421 : Cond.methodLink "StaggershelfLaw" 12 (ab_my 70) ∈ ab_TG := ab_tg_i 427 (by decide +kernel) (by decide +kernel)
theorem wf_422 : Cond.static (ab_my 70) ∈ ab_TG := ab_tg_i 428 (by decide +kernel) (by decide +kernel)
theorem wf_423 : Cond.initialized (ab_my 70).cls ∈ ab_TG := ab_tg_i 0 (by decide +kernel) (by decide +kernel)
theorem wf_424 : ab_cw 39 ∈ ab_TG ∧ plainName (ab_my 39).cls = true := ⟨ab_tg_i 425 (by decide +kernel) (by decide +kernel), by decide +kernel⟩
theorem wf_425 : Cond.methodLink "StaggershelfLaw" 18 (ab_my 39) ∈ ab_TG := ab_tg_i 423 (by decide +kernel) (by decide +kernel)
theorem wf_426 : Cond.static (ab_my 39) ∈ ab_TG := ab_tg_i 424 (by decide +kernel) (by decide +kernel)
theorem wf_427 : ab_cw 61 ∈ ab_TG ∧ plainName (ab_my 61).cls = true := ⟨ab_tg_i 146 (by decide +kernel) (by decide +kernel), by decide +kernel⟩
theorem wf_428 : Cond.methodLink "StaggershelfLaw" 22 (ab_my 61) ∈ ab_TG := ab_tg_i 143 (by decide +kernel) (by decide +kernel)
theorem wf_429 : Cond.instanceMethod (ab_my 61) ∈ ab_TG := ab_tg_i 144 (by decide +kernel) (by decide +kernel)
theorem wf_430 : Cond.selects RX2 (ab_my 61) (ab_my 61) ∈ ab_TG := ab_tg_i 145 (by decide +kernel) (by decide +kernel)
theorem wf_431 : ab_cw 71 ∈ ab_TG ∧ plainName (ab_my 71).cls = true := ⟨ab_tg_i 433 (by decide +kernel) (by decide +kernel), by decide +kernel⟩
theorem wf_432 : Cond.methodLink "StaggershelfLaw" 25 (ab_my 71) ∈ ab_TG := ab_tg_i 431 (by decide +kernel) (by decide +kernel)
theorem wf_433 : Cond.static (ab_my 71) ∈ ab_TG := ab_tg_i 432 (by decide +kernel) (by decide +kernel)
theorem wf_434 : Cond.methodLink "StaggershelfLaw" 29 (ab_my 75) ∈ ab_TG := ab_tg_i 306 (by decide +kernel) (by decide +kernel)
theorem wf_435 : Cond.methodLink "StaggershelfLaw" 32 (ab_my 77) ∈ ab_TG := ab_tg_i 369 (by decide +kernel) (by decide +kernel)
theorem wf_436 : Cond.methodLink "StaggershelfLaw" 35 (ab_my 78) ∈ ab_TG := ab_tg_i 393 (by decide +kernel) (by decide +kernel)
theorem wf_437 : ab_cw 72 ∈ ab_TG ∧ plainName (ab_my 72).cls = true := ⟨ab_tg_i 593 (by decide +kernel) (by decide +kernel), by decide +kernel⟩
theorem wf_438 : Cond.methodLink "StaggershelfLaw" 39 (ab_my 72) ∈ ab_TG := ab_tg_i 591 (by decide +kernel) (by decide +kernel)
theorem wf_439 : Cond.static (ab_my 72) ∈ ab_TG := ab_tg_i 592 (by decide +kernel) (by decide +kernel)
theorem wf_440 : ab_cw 85 ∈ ab_TG ∧ plainName (ab_my 85).cls = true := ⟨ab_tg_i 422 (by decide +kernel) (by decide +kernel), by decide +kernel⟩
theorem wf_441 : Cond.methodLink "StaggershelfLaw" 43 (ab_my 85) ∈ ab_TG := ab_tg_i 419 (by decide +kernel) (by decide +kernel)
theorem wf_442 : Cond.instanceMethod (ab_my 85) ∈ ab_TG := ab_tg_i 420 (by decide +kernel) (by decide +kernel)
theorem wf_443 : Cond.selects RX2 (ab_my 85) (ab_my 85) ∈ ab_TG := ab_tg_i 421 (by decide +kernel) (by decide +kernel)
theorem wf_444 : Cond.methodLink "StaggershelfLaw" 47 (ab_my 84) ∈ ab_TG := ab_tg_i 398 (by decide +kernel) (by decide +kernel)
theorem wf_445 : Cond.classLink "StaggershelfLaw" 84 (ab_ex 3) ∈ ab_TG := ab_tg_i 434 (by decide +kernel) (by decide +kernel)
theorem wf_446 : Cond.castable (ab_ex 3) (ab_ex 3) ∈ ab_TN := ab_tn_i 444 (by decide +kernel) (by decide +kernel)
theorem wf_447 : Cond.methodLink "StaggershelfLaw" 51 Lib.Math.min.name ∈ ab_TG := ab_tg_i 435 (by decide +kernel) (by decide +kernel)
theorem wf_448 : ab_cw 62 ∈ ab_TG ∧ plainName (ab_my 62).cls = true := ⟨ab_tg_i 439 (by decide +kernel) (by decide +kernel), by decide +kernel⟩
theorem wf_449 : Cond.methodLink "StaggershelfLaw" 56 (ab_my 62) ∈ ab_TG := ab_tg_i 436 (by decide +kernel) (by decide +kernel)
theorem wf_450 : Cond.instanceMethod (ab_my 62) ∈ ab_TG := ab_tg_i 437 (by decide +kernel) (by decide +kernel)
theorem wf_451 : Cond.selects RX2 (ab_my 62) (ab_my 62) ∈ ab_TG := ab_tg_i 438 (by decide +kernel) (by decide +kernel)
theorem wf_452 : ab_cw 63 ∈ ab_TG ∧ plainName (ab_my 63).cls = true := ⟨ab_tg_i 488 (by decide +kernel) (by decide +kernel), by decide +kernel⟩
theorem wf_453 : Cond.methodLink "StaggershelfLaw" 60 (ab_my 63) ∈ ab_TG := ab_tg_i 485 (by decide +kernel) (by decide +kernel)
theorem wf_454 : Cond.instanceMethod (ab_my 63) ∈ ab_TG := ab_tg_i 486 (by decide +kernel) (by decide +kernel)
theorem wf_455 : Cond.selects RX2 (ab_my 63) (ab_my 63) ∈ ab_TG := ab_tg_i 487 (by decide +kernel) (by decide +kernel)
theorem wf_456 : ab_cw 66 ∈ ab_TG ∧ plainName (ab_my 66).cls = true := ⟨ab_tg_i 493 (by decide +kernel) (by decide +kernel), by decide +kernel⟩
theorem wf_457 : Cond.methodLink "StaggershelfLaw" 63 (ab_my 66) ∈ ab_TG := ab_tg_i 490 (by decide +kernel) (by decide +kernel)
theorem wf_458 : Cond.instanceMethod (ab_my 66) ∈ ab_TG := ab_tg_i 491 (by decide +kernel) (by decide +kernel)
theorem wf_459 : Cond.selects RX2 (ab_my 66) (ab_my 66) ∈ ab_TG := ab_tg_i 492 (by decide +kernel) (by decide +kernel)
theorem wf_460 : ab_cw 64 ∈ ab_TG ∧ plainName (ab_my 64).cls = true := ⟨ab_tg_i 504 (by decide +kernel) (by decide +kernel), by decide +kernel⟩
theorem wf_461 : Cond.methodLink "StaggershelfLaw" 66 (ab_my 64) ∈ ab_TG := ab_tg_i 501 (by decide +kernel) (by decide +kernel)
theorem wf_462 : Cond.instanceMethod (ab_my 64) ∈ ab_TG := ab_tg_i 502 (by decide +kernel) (by decide +kernel)
theorem wf_463 : Cond.selects RX2 (ab_my 64) (ab_my 64) ∈ ab_TG := ab_tg_i 503 (by decide +kernel) (by decide +kernel)
theorem wf_464 : ab_cw 65 ∈ ab_TG ∧ plainName (ab_my 65).cls = true := ⟨ab_tg_i 519 (by decide +kernel) (by decide +kernel), by decide +kernel⟩
theorem wf_465 : Cond.methodLink "StaggershelfLaw" 69 (ab_my 65) ∈ ab_TG := ab_tg_i 516 (by decide +kernel) (by decide +kernel)
theorem wf_466 : Cond.instanceMethod (ab_my 65) ∈ ab_TG := ab_tg_i 517 (by decide +kernel) (by decide +kernel)
theorem wf_467 : Cond.selects RX2 (ab_my 65) (ab_my 65) ∈ ab_TG := ab_tg_i 518 (by decide +kernel) (by decide +kernel)
theorem wf_468 : ab_cw 67 ∈ ab_TG ∧ plainName (ab_my 67).cls = true := ⟨ab_tg_i 527 (by decide +kernel) (by decide +kernel), by decide +kernel⟩
theorem wf_469 : Cond.methodLink "StaggershelfLaw" 72 (ab_my 67) ∈ ab_TG := ab_tg_i 524 (by decide +kernel) (by decide +kernel)
theorem wf_470 : Cond.instanceMethod (ab_my 67) ∈ ab_TG := ab_tg_i 525 (by decide +kernel) (by decide +kernel)
theorem wf_471 : Cond.selects RX2 (ab_my 67) (ab_my 67) ∈ ab_TG := ab_tg_i 526 (by decide +kernel) (by decide +kernel)
theorem wf_472 : ab_cw 68 ∈ ab_TG ∧ plainName (ab_my 68).cls = true := ⟨ab_tg_i 544 (by decide +kernel) (by decide +kernel), by decide +kernel⟩
theorem wf_473 : Cond.methodLink "StaggershelfLaw" 75 (ab_my 68) ∈ ab_TG := ab_tg_i 541 (by decide +kernel) (by decide +kernel)
theorem wf_474 : Cond.instanceMethod (ab_my 68) ∈ ab_TG := ab_tg_i 542 (by decide +kernel) (by decide +kernel)
theorem wf_475 : Cond.selects RX2 (ab_my 68) (ab_my 68) ∈ ab_TG := ab_tg_i 543 (by decide +kernel) (by decide +kernel)
theorem wf_476 : ab_cw 69 ∈ ab_TG ∧ plainName (ab_my 69).cls = true := ⟨ab_tg_i 548 (by decide +kernel) (by decide +kernel), by decide +kernel⟩
theorem wf_477 : Cond.methodLink "StaggershelfLaw" 78 (ab_my 69) ∈ ab_TG := ab_tg_i 545 (by decide +kernel) (by decide +kernel)
theorem wf_478 : Cond.instanceMethod (ab_my 69) ∈ ab_TG := ab_tg_i 546 (by decide +kernel) (by decide +kernel)
theorem wf_479 : Cond.selects RX2 (ab_my 69) (ab_my 69) ∈ ab_TG := ab_tg_i 547 (by decide +kernel) (by decide +kernel)
theorem wf_480 : ab_cw 73 ∈ ab_TG ∧ plainName (ab_my 73).cls = true := ⟨ab_tg_i 560 (by decide +kernel) (by decide +kernel), by decide +kernel⟩
theorem wf_481 : Cond.methodLink "StaggershelfLaw" 81 (ab_my 73) ∈ ab_TG := ab_tg_i 557 (by decide +kernel) (by decide +kernel)
theorem wf_482 : Cond.instanceMethod (ab_my 73) ∈ ab_TG := ab_tg_i 558 (by decide +kernel) (by decide +kernel)
theorem wf_483 : Cond.selects RX2 (ab_my 73) (ab_my 73) ∈ ab_TG := ab_tg_i 559 (by decide +kernel) (by decide +kernel)
theorem wf_484 : Cond.methodLink "StaggershelfLaw" 86 (ab_my 79) ∈ ab_TG := ab_tg_i 570 (by decide +kernel) (by decide +kernel)
theorem wf_485 : ab_cw 86 ∈ ab_TG ∧ plainName (ab_my 86).cls = true := ⟨ab_tg_i 597 (by decide +kernel) (by decide +kernel), by decide +kernel⟩
theorem wf_486 : Cond.methodLink "StaggershelfLaw" 89 (ab_my 86) ∈ ab_TG := ab_tg_i 594 (by decide +kernel) (by decide +kernel)
theorem wf_487 : Cond.instanceMethod (ab_my 86) ∈ ab_TG := ab_tg_i 595 (by decide +kernel) (by decide +kernel)
theorem wf_488 : Cond.selects RX2 (ab_my 86) (ab_my 86) ∈ ab_TG := ab_tg_i 596 (by decide +kernel) (by decide +kernel)
theorem wf_489 : Cond.methodLink "StaggershelfLaw" 93 (ab_my 81) ∈ ab_TG := ab_tg_i 642 (by decide +kernel) (by decide +kernel)
theorem wf_490 : ab_cw 82 ∈ ab_TG ∧ plainName (ab_my 82).cls = true := ⟨ab_tg_i 646 (by decide +kernel) (by decide +kernel), by decide +kernel⟩
theorem wf_491 : Cond.methodLink "StaggershelfLaw" 96 (ab_my 82) ∈ ab_TG := ab_tg_i 643 (by decide +kernel) (by decide +kernel)
theorem wf_492 : Cond.instanceMethod (ab_my 82) ∈ ab_TG := ab_tg_i 644 (by decide +kernel) (by decide +kernel)
theorem wf_493 : Cond.selects RX2 (ab_my 82) (ab_my 82) ∈ ab_TG := ab_tg_i 645 (by decide +kernel) (by decide +kernel)
theorem wf_494 : ab_cw 83 ∈ ab_TG ∧ plainName (ab_my 83).cls = true := ⟨ab_tg_i 656 (by decide +kernel) (by decide +kernel), by decide +kernel⟩
theorem wf_495 : Cond.methodLink "StaggershelfLaw" 99 (ab_my 83) ∈ ab_TG := ab_tg_i 653 (by decide +kernel) (by decide +kernel)
theorem wf_496 : Cond.instanceMethod (ab_my 83) ∈ ab_TG := ab_tg_i 654 (by decide +kernel) (by decide +kernel)
theorem wf_497 : Cond.selects RX2 (ab_my 83) (ab_my 83) ∈ ab_TG := ab_tg_i 655 (by decide +kernel) (by decide +kernel)
/-- all of a list's instructions are sound -/
def ab_all (B : ab_B) (M : Nat) : Nat → List (Option ab_O) → Prop
  | _, [] => True
  | pc, none :: l => True ∧ ab_all B M (pc + 1) l
  | pc, some op :: l => ab_Sn B M pc op ∧ ab_all B M (pc + 1) l
theorem ab_all_at {M : Nat} : ∀ (l : List (Option ab_O)) (pc i : Nat), ab_all B M pc l → ∀ op, l[i]? = some (some op) → ab_Sn B M (pc + i) op
  | none :: l, pc, i + 1, h, op, ho => by rw [show pc + (i + 1) = pc + 1 + i by omega]; exact ab_all_at l (pc + 1) i h.2 op ho
  | some o :: l, pc, 0, h, op, ho => by cases ho; exact h.1
  | some o :: l, pc, i + 1, h, op, ho => by rw [show pc + (i + 1) = pc + 1 + i by omega]; exact ab_all_at l (pc + 1) i h.2 op ho
end
