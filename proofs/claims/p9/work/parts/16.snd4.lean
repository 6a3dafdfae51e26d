/-! each instruction is sound; printed by wip/px/gen_code.py -/
section
variable {B : ab_B}
theorem ab_dk97_0 : ab_dp 97 [(0, .aload_n 0, 1), (1, .invokespecial 1, 3), (4, .return_, 1)] := ab_da (by decide +kernel)
theorem ab_s97_0 : ab_Sn B 97 0 (ab_o_ald 0 1) := ab_s_aload_n (k := 0) (n := 0) ab_dk97_0.1 rfl
theorem ab_s97_1 : ab_Sn B 97 1 (ab_o_obj 4) := ab_s_obj (i := 1) ab_dk97_0.2.1 wf_444 wf_1 wf_2
theorem ab_s97_4 : ab_Sn B 97 4 (ab_o_ret) := ab_s_ret ab_dk97_0.2.2.1 rfl
set_option maxRecDepth 20000 in
theorem ab_sn97 : ab_all B 97 0 (ab_c97) := ⟨ab_s97_0, ab_s97_1, trivial, trivial, ab_s97_4, trivial⟩
theorem ab_dk98_0 : ab_dp 98 [(0, .aload_n 0, 1), (1, .invokespecial 1, 3), (4, .aload_n 0, 1), (5, .iconst 0, 1), (6, .iconst 0, 1), (7, .multianewarray 7 2, 4), (11, .putfield 9, 3), (14, .aload_n 0, 1), (15, .iconst 0, 1), (16, .iconst 0, 1), (17, .multianewarray 7 2, 4), (21, .putfield 14, 3), (24, .aload_n 0, 1), (25, .iconst 0, 1), (26, .newarray .boolean, 2), (28, .putfield 17, 3)] := ab_da (by decide +kernel)
theorem ab_dk98_1 : ab_dp 98 [(31, .aload_n 0, 1), (32, .iconst 0, 1), (33, .newarray .int, 2), (35, .putfield 21, 3), (38, .aload_n 0, 1), (39, .iconst 0, 1), (40, .newarray .int, 2), (42, .putfield 25, 3), (45, .aload_n 0, 1), (46, .bipush 30, 2), (48, .putfield 28, 3), (51, .aload_n 0, 1), (52, .iconst 5, 1), (53, .anewarray 32, 3), (56, .dup, 1), (57, .iconst 0, 1)] := ab_da (by decide +kernel)
theorem ab_dk98_2 : ab_dp 98 [(58, .iconst 3, 1), (59, .newarray .int, 2), (61, .dup, 1), (62, .iconst 0, 1), (63, .bipush 10, 2), (65, .iastore, 1), (66, .dup, 1), (67, .iconst 1, 1), (68, .iconst 3, 1), (69, .iastore, 1), (70, .dup, 1), (71, .iconst 2, 1), (72, .iconst 2, 1), (73, .iastore, 1), (74, .aastore, 1), (75, .dup, 1)] := ab_da (by decide +kernel)
theorem ab_dk98_3 : ab_dp 98 [(76, .iconst 1, 1), (77, .iconst 3, 1), (78, .newarray .int, 2), (80, .dup, 1), (81, .iconst 0, 1), (82, .bipush 10, 2), (84, .iastore, 1), (85, .dup, 1), (86, .iconst 1, 1), (87, .iconst 3, 1), (88, .iastore, 1), (89, .dup, 1), (90, .iconst 2, 1), (91, .iconst 2, 1), (92, .iastore, 1), (93, .aastore, 1)] := ab_da (by decide +kernel)
theorem ab_dk98_4 : ab_dp 98 [(94, .dup, 1), (95, .iconst 2, 1), (96, .iconst 3, 1), (97, .newarray .int, 2), (99, .dup, 1), (100, .iconst 0, 1), (101, .bipush 10, 2), (103, .iastore, 1), (104, .dup, 1), (105, .iconst 1, 1), (106, .iconst 3, 1), (107, .iastore, 1), (108, .dup, 1), (109, .iconst 2, 1), (110, .iconst 2, 1), (111, .iastore, 1)] := ab_da (by decide +kernel)
theorem ab_dk98_5 : ab_dp 98 [(112, .aastore, 1), (113, .dup, 1), (114, .iconst 3, 1), (115, .iconst 3, 1), (116, .newarray .int, 2), (118, .dup, 1), (119, .iconst 0, 1), (120, .bipush 10, 2), (122, .iastore, 1), (123, .dup, 1), (124, .iconst 1, 1), (125, .iconst 3, 1), (126, .iastore, 1), (127, .dup, 1), (128, .iconst 2, 1), (129, .iconst 2, 1)] := ab_da (by decide +kernel)
theorem ab_dk98_6 : ab_dp 98 [(130, .iastore, 1), (131, .aastore, 1), (132, .dup, 1), (133, .iconst 4, 1), (134, .iconst 3, 1), (135, .newarray .int, 2), (137, .dup, 1), (138, .iconst 0, 1), (139, .bipush 10, 2), (141, .iastore, 1), (142, .dup, 1), (143, .iconst 1, 1), (144, .iconst 3, 1), (145, .iastore, 1), (146, .dup, 1), (147, .iconst 2, 1)] := ab_da (by decide +kernel)
theorem ab_dk98_7 : ab_dp 98 [(148, .iconst 2, 1), (149, .iastore, 1), (150, .aastore, 1), (151, .putfield 33, 3), (154, .return_, 1)] := ab_da (by decide +kernel)
theorem ab_s98_0 : ab_Sn B 98 0 (ab_o_ald 0 1) := ab_s_aload_n (k := 0) (n := 0) ab_dk98_0.1 rfl
theorem ab_s98_1 : ab_Sn B 98 1 (ab_o_obj 4) := ab_s_obj (i := 1) ab_dk98_0.2.1 wf_445 wf_1 wf_2
theorem ab_s98_4 : ab_Sn B 98 4 (ab_o_ald 0 5) := ab_s_aload_n (k := 0) (n := 0) ab_dk98_0.2.2.1 rfl
theorem ab_s98_5 : ab_Sn B 98 5 (ab_o_const 0 6) := ab_s_iconst (n := 0) ab_dk98_0.2.2.2.1 rfl
theorem ab_s98_6 : ab_Sn B 98 6 (ab_o_const 0 7) := ab_s_iconst (n := 0) ab_dk98_0.2.2.2.2.1 rfl
theorem ab_s98_7 : ab_Sn B 98 7 (ab_o_mna 11) := ab_s_mna (i := 7) ab_dk98_0.2.2.2.2.2.1 wf_446 wf_3
theorem ab_s98_11 : ab_Sn B 98 11 (ab_o_putr 8 22 4 14) := ab_s_putr (ty := .array (.array .int)) (i := 9) (ci := 4) (N := 22) (k := 4) (C := RX4) (T := TX4) ab_dk98_0.2.2.2.2.2.2.1 rfl (by decide) rfl wf_447 rfl (by decide +kernel) (Or.inr ⟨_, rfl⟩)
theorem ab_s98_14 : ab_Sn B 98 14 (ab_o_ald 0 15) := ab_s_aload_n (k := 0) (n := 0) ab_dk98_0.2.2.2.2.2.2.2.1 rfl
theorem ab_s98_15 : ab_Sn B 98 15 (ab_o_const 0 16) := ab_s_iconst (n := 0) ab_dk98_0.2.2.2.2.2.2.2.2.1 rfl
theorem ab_s98_16 : ab_Sn B 98 16 (ab_o_const 0 17) := ab_s_iconst (n := 0) ab_dk98_0.2.2.2.2.2.2.2.2.2.1 rfl
theorem ab_s98_17 : ab_Sn B 98 17 (ab_o_mna 21) := ab_s_mna (i := 7) ab_dk98_0.2.2.2.2.2.2.2.2.2.2.1 wf_446 wf_3
theorem ab_s98_21 : ab_Sn B 98 21 (ab_o_putr 8 22 5 24) := ab_s_putr (ty := .array (.array .int)) (i := 14) (ci := 4) (N := 22) (k := 5) (C := RX4) (T := TX4) ab_dk98_0.2.2.2.2.2.2.2.2.2.2.2.1 rfl (by decide) rfl wf_448 rfl (by decide +kernel) (Or.inr ⟨_, rfl⟩)
theorem ab_s98_24 : ab_Sn B 98 24 (ab_o_ald 0 25) := ab_s_aload_n (k := 0) (n := 0) ab_dk98_0.2.2.2.2.2.2.2.2.2.2.2.2.1 rfl
theorem ab_s98_25 : ab_Sn B 98 25 (ab_o_const 0 26) := ab_s_iconst (n := 0) ab_dk98_0.2.2.2.2.2.2.2.2.2.2.2.2.2.1 rfl
theorem ab_s98_26 : ab_Sn B 98 26 (ab_o_newa 1 28) := ab_s_newa1 ab_dk98_0.2.2.2.2.2.2.2.2.2.2.2.2.2.2.1 wf_7
theorem ab_s98_28 : ab_Sn B 98 28 (ab_o_putr 8 22 6 31) := ab_s_putr (ty := .array .boolean) (i := 17) (ci := 4) (N := 22) (k := 6) (C := RX4) (T := TX4) ab_dk98_0.2.2.2.2.2.2.2.2.2.2.2.2.2.2.2.1 rfl (by decide) rfl wf_449 rfl (by decide +kernel) (Or.inr ⟨_, rfl⟩)
theorem ab_s98_31 : ab_Sn B 98 31 (ab_o_ald 0 32) := ab_s_aload_n (k := 0) (n := 0) ab_dk98_1.1 rfl
theorem ab_s98_32 : ab_Sn B 98 32 (ab_o_const 0 33) := ab_s_iconst (n := 0) ab_dk98_1.2.1 rfl
theorem ab_s98_33 : ab_Sn B 98 33 (ab_o_newa 0 35) := ab_s_newa0 ab_dk98_1.2.2.1 wf_3
theorem ab_s98_35 : ab_Sn B 98 35 (ab_o_putr 8 22 7 38) := ab_s_putr (ty := .array .int) (i := 21) (ci := 4) (N := 22) (k := 7) (C := RX4) (T := TX4) ab_dk98_1.2.2.2.1 rfl (by decide) rfl wf_450 rfl (by decide +kernel) (Or.inr ⟨_, rfl⟩)
theorem ab_s98_38 : ab_Sn B 98 38 (ab_o_ald 0 39) := ab_s_aload_n (k := 0) (n := 0) ab_dk98_1.2.2.2.2.1 rfl
theorem ab_s98_39 : ab_Sn B 98 39 (ab_o_const 0 40) := ab_s_iconst (n := 0) ab_dk98_1.2.2.2.2.2.1 rfl
theorem ab_s98_40 : ab_Sn B 98 40 (ab_o_newa 0 42) := ab_s_newa0 ab_dk98_1.2.2.2.2.2.2.1 wf_3
theorem ab_s98_42 : ab_Sn B 98 42 (ab_o_putr 8 22 8 45) := ab_s_putr (ty := .array .int) (i := 25) (ci := 4) (N := 22) (k := 8) (C := RX4) (T := TX4) ab_dk98_1.2.2.2.2.2.2.2.1 rfl (by decide) rfl wf_451 rfl (by decide +kernel) (Or.inr ⟨_, rfl⟩)
theorem ab_s98_45 : ab_Sn B 98 45 (ab_o_ald 0 46) := ab_s_aload_n (k := 0) (n := 0) ab_dk98_1.2.2.2.2.2.2.2.2.1 rfl
theorem ab_s98_46 : ab_Sn B 98 46 (ab_o_const 30 48) := ab_s_bipush (n := 30) ab_dk98_1.2.2.2.2.2.2.2.2.2.1 (by decide)
theorem ab_s98_48 : ab_Sn B 98 48 (ab_o_puti 8 22 19 false 51) := ab_s_puti (b := false) (ty := .int) (i := 28) (ci := 4) (N := 22) (k := 19) (C := RX4) (T := TX4) ab_dk98_1.2.2.2.2.2.2.2.2.2.2.1 rfl (by decide) rfl wf_452 rfl (by decide +kernel) (Or.inl ⟨rfl, rfl⟩)
theorem ab_s98_51 : ab_Sn B 98 51 (ab_o_ald 0 52) := ab_s_aload_n (k := 0) (n := 0) ab_dk98_1.2.2.2.2.2.2.2.2.2.2.2.1 rfl
theorem ab_s98_52 : ab_Sn B 98 52 (ab_o_const 5 53) := ab_s_iconst (n := 5) ab_dk98_1.2.2.2.2.2.2.2.2.2.2.2.2.1 rfl
theorem ab_s98_53 : ab_Sn B 98 53 (ab_o_newq 56) := ab_s_newq (i := 32) ab_dk98_1.2.2.2.2.2.2.2.2.2.2.2.2.2.1 wf_453
theorem ab_s98_56 : ab_Sn B 98 56 (ab_o_dup 57) := ab_s_dup ab_dk98_1.2.2.2.2.2.2.2.2.2.2.2.2.2.2.1
theorem ab_s98_57 : ab_Sn B 98 57 (ab_o_const 0 58) := ab_s_iconst (n := 0) ab_dk98_1.2.2.2.2.2.2.2.2.2.2.2.2.2.2.2.1 rfl
theorem ab_s98_58 : ab_Sn B 98 58 (ab_o_const 3 59) := ab_s_iconst (n := 3) ab_dk98_2.1 rfl
theorem ab_s98_59 : ab_Sn B 98 59 (ab_o_newa 0 61) := ab_s_newa0 ab_dk98_2.2.1 wf_3
theorem ab_s98_61 : ab_Sn B 98 61 (ab_o_dup 62) := ab_s_dup ab_dk98_2.2.2.1
theorem ab_s98_62 : ab_Sn B 98 62 (ab_o_const 0 63) := ab_s_iconst (n := 0) ab_dk98_2.2.2.2.1 rfl
theorem ab_s98_63 : ab_Sn B 98 63 (ab_o_const 10 65) := ab_s_bipush (n := 10) ab_dk98_2.2.2.2.2.1 (by decide)
theorem ab_s98_65 : ab_Sn B 98 65 (ab_o_xst 0 66) := ab_s_iastore ab_dk98_2.2.2.2.2.2.1
theorem ab_s98_66 : ab_Sn B 98 66 (ab_o_dup 67) := ab_s_dup ab_dk98_2.2.2.2.2.2.2.1
theorem ab_s98_67 : ab_Sn B 98 67 (ab_o_const 1 68) := ab_s_iconst (n := 1) ab_dk98_2.2.2.2.2.2.2.2.1 rfl
theorem ab_s98_68 : ab_Sn B 98 68 (ab_o_const 3 69) := ab_s_iconst (n := 3) ab_dk98_2.2.2.2.2.2.2.2.2.1 rfl
theorem ab_s98_69 : ab_Sn B 98 69 (ab_o_xst 0 70) := ab_s_iastore ab_dk98_2.2.2.2.2.2.2.2.2.2.1
theorem ab_s98_70 : ab_Sn B 98 70 (ab_o_dup 71) := ab_s_dup ab_dk98_2.2.2.2.2.2.2.2.2.2.2.1
theorem ab_s98_71 : ab_Sn B 98 71 (ab_o_const 2 72) := ab_s_iconst (n := 2) ab_dk98_2.2.2.2.2.2.2.2.2.2.2.2.1 rfl
theorem ab_s98_72 : ab_Sn B 98 72 (ab_o_const 2 73) := ab_s_iconst (n := 2) ab_dk98_2.2.2.2.2.2.2.2.2.2.2.2.2.1 rfl
theorem ab_s98_73 : ab_Sn B 98 73 (ab_o_xst 0 74) := ab_s_iastore ab_dk98_2.2.2.2.2.2.2.2.2.2.2.2.2.2.1
theorem ab_s98_74 : ab_Sn B 98 74 (ab_o_aast 75) := ab_s_aast ab_dk98_2.2.2.2.2.2.2.2.2.2.2.2.2.2.2.1
theorem ab_s98_75 : ab_Sn B 98 75 (ab_o_dup 76) := ab_s_dup ab_dk98_2.2.2.2.2.2.2.2.2.2.2.2.2.2.2.2.1
theorem ab_s98_76 : ab_Sn B 98 76 (ab_o_const 1 77) := ab_s_iconst (n := 1) ab_dk98_3.1 rfl
theorem ab_s98_77 : ab_Sn B 98 77 (ab_o_const 3 78) := ab_s_iconst (n := 3) ab_dk98_3.2.1 rfl
theorem ab_s98_78 : ab_Sn B 98 78 (ab_o_newa 0 80) := ab_s_newa0 ab_dk98_3.2.2.1 wf_3
theorem ab_s98_80 : ab_Sn B 98 80 (ab_o_dup 81) := ab_s_dup ab_dk98_3.2.2.2.1
theorem ab_s98_81 : ab_Sn B 98 81 (ab_o_const 0 82) := ab_s_iconst (n := 0) ab_dk98_3.2.2.2.2.1 rfl
theorem ab_s98_82 : ab_Sn B 98 82 (ab_o_const 10 84) := ab_s_bipush (n := 10) ab_dk98_3.2.2.2.2.2.1 (by decide)
theorem ab_s98_84 : ab_Sn B 98 84 (ab_o_xst 0 85) := ab_s_iastore ab_dk98_3.2.2.2.2.2.2.1
theorem ab_s98_85 : ab_Sn B 98 85 (ab_o_dup 86) := ab_s_dup ab_dk98_3.2.2.2.2.2.2.2.1
theorem ab_s98_86 : ab_Sn B 98 86 (ab_o_const 1 87) := ab_s_iconst (n := 1) ab_dk98_3.2.2.2.2.2.2.2.2.1 rfl
theorem ab_s98_87 : ab_Sn B 98 87 (ab_o_const 3 88) := ab_s_iconst (n := 3) ab_dk98_3.2.2.2.2.2.2.2.2.2.1 rfl
theorem ab_s98_88 : ab_Sn B 98 88 (ab_o_xst 0 89) := ab_s_iastore ab_dk98_3.2.2.2.2.2.2.2.2.2.2.1
theorem ab_s98_89 : ab_Sn B 98 89 (ab_o_dup 90) := ab_s_dup ab_dk98_3.2.2.2.2.2.2.2.2.2.2.2.1
theorem ab_s98_90 : ab_Sn B 98 90 (ab_o_const 2 91) := ab_s_iconst (n := 2) ab_dk98_3.2.2.2.2.2.2.2.2.2.2.2.2.1 rfl
theorem ab_s98_91 : ab_Sn B 98 91 (ab_o_const 2 92) := ab_s_iconst (n := 2) ab_dk98_3.2.2.2.2.2.2.2.2.2.2.2.2.2.1 rfl
theorem ab_s98_92 : ab_Sn B 98 92 (ab_o_xst 0 93) := ab_s_iastore ab_dk98_3.2.2.2.2.2.2.2.2.2.2.2.2.2.2.1
theorem ab_s98_93 : ab_Sn B 98 93 (ab_o_aast 94) := ab_s_aast ab_dk98_3.2.2.2.2.2.2.2.2.2.2.2.2.2.2.2.1
theorem ab_s98_94 : ab_Sn B 98 94 (ab_o_dup 95) := ab_s_dup ab_dk98_4.1
theorem ab_s98_95 : ab_Sn B 98 95 (ab_o_const 2 96) := ab_s_iconst (n := 2) ab_dk98_4.2.1 rfl
theorem ab_s98_96 : ab_Sn B 98 96 (ab_o_const 3 97) := ab_s_iconst (n := 3) ab_dk98_4.2.2.1 rfl
theorem ab_s98_97 : ab_Sn B 98 97 (ab_o_newa 0 99) := ab_s_newa0 ab_dk98_4.2.2.2.1 wf_3
theorem ab_s98_99 : ab_Sn B 98 99 (ab_o_dup 100) := ab_s_dup ab_dk98_4.2.2.2.2.1
theorem ab_s98_100 : ab_Sn B 98 100 (ab_o_const 0 101) := ab_s_iconst (n := 0) ab_dk98_4.2.2.2.2.2.1 rfl
theorem ab_s98_101 : ab_Sn B 98 101 (ab_o_const 10 103) := ab_s_bipush (n := 10) ab_dk98_4.2.2.2.2.2.2.1 (by decide)
theorem ab_s98_103 : ab_Sn B 98 103 (ab_o_xst 0 104) := ab_s_iastore ab_dk98_4.2.2.2.2.2.2.2.1
theorem ab_s98_104 : ab_Sn B 98 104 (ab_o_dup 105) := ab_s_dup ab_dk98_4.2.2.2.2.2.2.2.2.1
theorem ab_s98_105 : ab_Sn B 98 105 (ab_o_const 1 106) := ab_s_iconst (n := 1) ab_dk98_4.2.2.2.2.2.2.2.2.2.1 rfl
theorem ab_s98_106 : ab_Sn B 98 106 (ab_o_const 3 107) := ab_s_iconst (n := 3) ab_dk98_4.2.2.2.2.2.2.2.2.2.2.1 rfl
theorem ab_s98_107 : ab_Sn B 98 107 (ab_o_xst 0 108) := ab_s_iastore ab_dk98_4.2.2.2.2.2.2.2.2.2.2.2.1
theorem ab_s98_108 : ab_Sn B 98 108 (ab_o_dup 109) := ab_s_dup ab_dk98_4.2.2.2.2.2.2.2.2.2.2.2.2.1
theorem ab_s98_109 : ab_Sn B 98 109 (ab_o_const 2 110) := ab_s_iconst (n := 2) ab_dk98_4.2.2.2.2.2.2.2.2.2.2.2.2.2.1 rfl
theorem ab_s98_110 : ab_Sn B 98 110 (ab_o_const 2 111) := ab_s_iconst (n := 2) ab_dk98_4.2.2.2.2.2.2.2.2.2.2.2.2.2.2.1 rfl
theorem ab_s98_111 : ab_Sn B 98 111 (ab_o_xst 0 112) := ab_s_iastore ab_dk98_4.2.2.2.2.2.2.2.2.2.2.2.2.2.2.2.1
theorem ab_s98_112 : ab_Sn B 98 112 (ab_o_aast 113) := ab_s_aast ab_dk98_5.1
theorem ab_s98_113 : ab_Sn B 98 113 (ab_o_dup 114) := ab_s_dup ab_dk98_5.2.1
theorem ab_s98_114 : ab_Sn B 98 114 (ab_o_const 3 115) := ab_s_iconst (n := 3) ab_dk98_5.2.2.1 rfl
theorem ab_s98_115 : ab_Sn B 98 115 (ab_o_const 3 116) := ab_s_iconst (n := 3) ab_dk98_5.2.2.2.1 rfl
theorem ab_s98_116 : ab_Sn B 98 116 (ab_o_newa 0 118) := ab_s_newa0 ab_dk98_5.2.2.2.2.1 wf_3
theorem ab_s98_118 : ab_Sn B 98 118 (ab_o_dup 119) := ab_s_dup ab_dk98_5.2.2.2.2.2.1
theorem ab_s98_119 : ab_Sn B 98 119 (ab_o_const 0 120) := ab_s_iconst (n := 0) ab_dk98_5.2.2.2.2.2.2.1 rfl
theorem ab_s98_120 : ab_Sn B 98 120 (ab_o_const 10 122) := ab_s_bipush (n := 10) ab_dk98_5.2.2.2.2.2.2.2.1 (by decide)
theorem ab_s98_122 : ab_Sn B 98 122 (ab_o_xst 0 123) := ab_s_iastore ab_dk98_5.2.2.2.2.2.2.2.2.1
theorem ab_s98_123 : ab_Sn B 98 123 (ab_o_dup 124) := ab_s_dup ab_dk98_5.2.2.2.2.2.2.2.2.2.1
theorem ab_s98_124 : ab_Sn B 98 124 (ab_o_const 1 125) := ab_s_iconst (n := 1) ab_dk98_5.2.2.2.2.2.2.2.2.2.2.1 rfl
theorem ab_s98_125 : ab_Sn B 98 125 (ab_o_const 3 126) := ab_s_iconst (n := 3) ab_dk98_5.2.2.2.2.2.2.2.2.2.2.2.1 rfl
theorem ab_s98_126 : ab_Sn B 98 126 (ab_o_xst 0 127) := ab_s_iastore ab_dk98_5.2.2.2.2.2.2.2.2.2.2.2.2.1
theorem ab_s98_127 : ab_Sn B 98 127 (ab_o_dup 128) := ab_s_dup ab_dk98_5.2.2.2.2.2.2.2.2.2.2.2.2.2.1
theorem ab_s98_128 : ab_Sn B 98 128 (ab_o_const 2 129) := ab_s_iconst (n := 2) ab_dk98_5.2.2.2.2.2.2.2.2.2.2.2.2.2.2.1 rfl
theorem ab_s98_129 : ab_Sn B 98 129 (ab_o_const 2 130) := ab_s_iconst (n := 2) ab_dk98_5.2.2.2.2.2.2.2.2.2.2.2.2.2.2.2.1 rfl
theorem ab_s98_130 : ab_Sn B 98 130 (ab_o_xst 0 131) := ab_s_iastore ab_dk98_6.1
theorem ab_s98_131 : ab_Sn B 98 131 (ab_o_aast 132) := ab_s_aast ab_dk98_6.2.1
theorem ab_s98_132 : ab_Sn B 98 132 (ab_o_dup 133) := ab_s_dup ab_dk98_6.2.2.1
theorem ab_s98_133 : ab_Sn B 98 133 (ab_o_const 4 134) := ab_s_iconst (n := 4) ab_dk98_6.2.2.2.1 rfl
theorem ab_s98_134 : ab_Sn B 98 134 (ab_o_const 3 135) := ab_s_iconst (n := 3) ab_dk98_6.2.2.2.2.1 rfl
theorem ab_s98_135 : ab_Sn B 98 135 (ab_o_newa 0 137) := ab_s_newa0 ab_dk98_6.2.2.2.2.2.1 wf_3
theorem ab_s98_137 : ab_Sn B 98 137 (ab_o_dup 138) := ab_s_dup ab_dk98_6.2.2.2.2.2.2.1
theorem ab_s98_138 : ab_Sn B 98 138 (ab_o_const 0 139) := ab_s_iconst (n := 0) ab_dk98_6.2.2.2.2.2.2.2.1 rfl
theorem ab_s98_139 : ab_Sn B 98 139 (ab_o_const 10 141) := ab_s_bipush (n := 10) ab_dk98_6.2.2.2.2.2.2.2.2.1 (by decide)
theorem ab_s98_141 : ab_Sn B 98 141 (ab_o_xst 0 142) := ab_s_iastore ab_dk98_6.2.2.2.2.2.2.2.2.2.1
theorem ab_s98_142 : ab_Sn B 98 142 (ab_o_dup 143) := ab_s_dup ab_dk98_6.2.2.2.2.2.2.2.2.2.2.1
theorem ab_s98_143 : ab_Sn B 98 143 (ab_o_const 1 144) := ab_s_iconst (n := 1) ab_dk98_6.2.2.2.2.2.2.2.2.2.2.2.1 rfl
theorem ab_s98_144 : ab_Sn B 98 144 (ab_o_const 3 145) := ab_s_iconst (n := 3) ab_dk98_6.2.2.2.2.2.2.2.2.2.2.2.2.1 rfl
theorem ab_s98_145 : ab_Sn B 98 145 (ab_o_xst 0 146) := ab_s_iastore ab_dk98_6.2.2.2.2.2.2.2.2.2.2.2.2.2.1
theorem ab_s98_146 : ab_Sn B 98 146 (ab_o_dup 147) := ab_s_dup ab_dk98_6.2.2.2.2.2.2.2.2.2.2.2.2.2.2.1
theorem ab_s98_147 : ab_Sn B 98 147 (ab_o_const 2 148) := ab_s_iconst (n := 2) ab_dk98_6.2.2.2.2.2.2.2.2.2.2.2.2.2.2.2.1 rfl
theorem ab_s98_148 : ab_Sn B 98 148 (ab_o_const 2 149) := ab_s_iconst (n := 2) ab_dk98_7.1 rfl
theorem ab_s98_149 : ab_Sn B 98 149 (ab_o_xst 0 150) := ab_s_iastore ab_dk98_7.2.1
theorem ab_s98_150 : ab_Sn B 98 150 (ab_o_aast 151) := ab_s_aast ab_dk98_7.2.2.1
theorem ab_s98_151 : ab_Sn B 98 151 (ab_o_putr 8 22 21 154) := ab_s_putrF (ty := .array (.array .int)) (i := 33) (ci := 4) (N := 22) (k := 21) (C := RX4) (T := TX4) ab_dk98_7.2.2.2.1 rfl (by decide) rfl wf_454 rfl rfl rfl (by decide +kernel) (Or.inr ⟨_, rfl⟩)
theorem ab_s98_154 : ab_Sn B 98 154 (ab_o_ret) := ab_s_ret ab_dk98_7.2.2.2.2.1 rfl
theorem ab_sc98_2 : ab_all B 98 128 (ab_d98_2) := ⟨ab_s98_128, ab_s98_129, ab_s98_130, ab_s98_131, ab_s98_132, ab_s98_133, ab_s98_134, ab_s98_135, trivial, ab_s98_137, ab_s98_138, ab_s98_139, trivial, ab_s98_141, ab_s98_142, ab_s98_143, ab_s98_144, ab_s98_145, ab_s98_146, ab_s98_147, ab_s98_148, ab_s98_149, ab_s98_150, ab_s98_151, trivial, trivial, ab_s98_154, trivial⟩
theorem ab_sc98_1 : ab_all B 98 64 (ab_d98_1) := ⟨trivial, ab_s98_65, ab_s98_66, ab_s98_67, ab_s98_68, ab_s98_69, ab_s98_70, ab_s98_71, ab_s98_72, ab_s98_73, ab_s98_74, ab_s98_75, ab_s98_76, ab_s98_77, ab_s98_78, trivial, ab_s98_80, ab_s98_81, ab_s98_82, trivial, ab_s98_84, ab_s98_85, ab_s98_86, ab_s98_87, ab_s98_88, ab_s98_89, ab_s98_90, ab_s98_91, ab_s98_92, ab_s98_93, ab_s98_94, ab_s98_95, ab_s98_96, ab_s98_97, trivial, ab_s98_99, ab_s98_100, ab_s98_101, trivial, ab_s98_103, ab_s98_104, ab_s98_105, ab_s98_106, ab_s98_107, ab_s98_108, ab_s98_109, ab_s98_110, ab_s98_111, ab_s98_112, ab_s98_113, ab_s98_114, ab_s98_115, ab_s98_116, trivial, ab_s98_118, ab_s98_119, ab_s98_120, trivial, ab_s98_122, ab_s98_123, ab_s98_124, ab_s98_125, ab_s98_126, ab_s98_127, ab_sc98_2⟩
theorem ab_sc98_0 : ab_all B 98 0 (ab_d98_0) := ⟨ab_s98_0, ab_s98_1, trivial, trivial, ab_s98_4, ab_s98_5, ab_s98_6, ab_s98_7, trivial, trivial, trivial, ab_s98_11, trivial, trivial, ab_s98_14, ab_s98_15, ab_s98_16, ab_s98_17, trivial, trivial, trivial, ab_s98_21, trivial, trivial, ab_s98_24, ab_s98_25, ab_s98_26, trivial, ab_s98_28, trivial, trivial, ab_s98_31, ab_s98_32, ab_s98_33, trivial, ab_s98_35, trivial, trivial, ab_s98_38, ab_s98_39, ab_s98_40, trivial, ab_s98_42, trivial, trivial, ab_s98_45, ab_s98_46, trivial, ab_s98_48, trivial, trivial, ab_s98_51, ab_s98_52, ab_s98_53, trivial, trivial, ab_s98_56, ab_s98_57, ab_s98_58, ab_s98_59, trivial, ab_s98_61, ab_s98_62, ab_s98_63, ab_sc98_1⟩
theorem ab_sn98 : ab_all B 98 0 (ab_c98) := by rw [ab_cd98]; exact ab_sc98_0
theorem ab_dk99_0 : ab_dp 99 [(0, .aload_n 0, 1), (1, .getfield 36, 3), (4, .ireturn, 1)] := ab_da (by decide +kernel)
theorem ab_s99_0 : ab_Sn B 99 0 (ab_o_ald 0 1) := ab_s_aload_n (k := 0) (n := 0) ab_dk99_0.1 rfl
theorem ab_s99_1 : ab_Sn B 99 1 (ab_o_geti 8 22 0 4) := ab_s_geti (i := 36) (ci := 4) (N := 22) (k := 0) (C := RX4) (T := TX4) ab_dk99_0.2.1 rfl (by decide) rfl wf_455
theorem ab_s99_4 : ab_Sn B 99 4 (ab_o_iret false) := ab_s_iret (b := false) (ty := .int) ab_dk99_0.2.2.1 rfl (Or.inl ⟨rfl, rfl⟩)
set_option maxRecDepth 20000 in
theorem ab_sn99 : ab_all B 99 0 (ab_c99) := ⟨ab_s99_0, ab_s99_1, trivial, trivial, ab_s99_4, trivial⟩
theorem ab_dk100_0 : ab_dp 100 [(0, .iload_n 0, 1), (1, .iload_n 1, 1), (2, .if_icmp .lt 12, 3), (5, .iload_n 0, 1), (6, .iload_n 2, 1), (7, .if_icmp .gt 7, 3), (10, .iconst 1, 1), (11, .goto 4, 3), (14, .iconst 0, 1), (15, .ireturn, 1)] := ab_da (by decide +kernel)
theorem ab_s100_0 : ab_Sn B 100 0 (ab_o_ild 0 1) := ab_s_iload_n (k := 0) (n := 0) ab_dk100_0.1 rfl
theorem ab_s100_1 : ab_Sn B 100 1 (ab_o_ild 1 2) := ab_s_iload_n (k := 1) (n := 1) ab_dk100_0.2.1 rfl
theorem ab_s100_2 : ab_Sn B 100 2 (ab_o_icmp ab_lt 14 5) := ab_s_icmp_lt (tg := 14) (off := 12) ab_dk100_0.2.2.1 (by decide)
theorem ab_s100_5 : ab_Sn B 100 5 (ab_o_ild 0 6) := ab_s_iload_n (k := 0) (n := 0) ab_dk100_0.2.2.2.1 rfl
theorem ab_s100_6 : ab_Sn B 100 6 (ab_o_ild 2 7) := ab_s_iload_n (k := 2) (n := 2) ab_dk100_0.2.2.2.2.1 rfl
theorem ab_s100_7 : ab_Sn B 100 7 (ab_o_icmp ab_gt 14 10) := ab_s_icmp_gt (tg := 14) (off := 7) ab_dk100_0.2.2.2.2.2.1 (by decide)
theorem ab_s100_10 : ab_Sn B 100 10 (ab_o_const 1 11) := ab_s_iconst (n := 1) ab_dk100_0.2.2.2.2.2.2.1 rfl
theorem ab_s100_11 : ab_Sn B 100 11 (ab_o_goto 15) := ab_s_goto (tg := 15) (off := 4) ab_dk100_0.2.2.2.2.2.2.2.1 (by decide)
theorem ab_s100_14 : ab_Sn B 100 14 (ab_o_const 0 15) := ab_s_iconst (n := 0) ab_dk100_0.2.2.2.2.2.2.2.2.1 rfl
theorem ab_s100_15 : ab_Sn B 100 15 (ab_o_iret true) := ab_s_iret (b := true) (ty := .boolean) ab_dk100_0.2.2.2.2.2.2.2.2.2.1 rfl (Or.inr (Or.inl ⟨rfl, rfl⟩))
set_option maxRecDepth 20000 in
theorem ab_sn100 : ab_all B 100 0 (ab_c100) := ⟨ab_s100_0, ab_s100_1, ab_s100_2, trivial, trivial, ab_s100_5, ab_s100_6, ab_s100_7, trivial, trivial, ab_s100_10, ab_s100_11, trivial, trivial, ab_s100_14, ab_s100_15, trivial⟩
theorem ab_dk101_0 : ab_dp 101 [(0, .iload_n 1, 1), (1, .ifCond .eq 15, 3), (4, .aload_n 0, 1), (5, .getfield 36, 3), (8, .ifCond .ne 8, 3), (11, .aload_n 0, 1), (12, .iload_n 2, 1), (13, .putfield 36, 3), (16, .aload_n 0, 1), (17, .getfield 36, 3), (20, .ifCond .le 7, 3), (23, .iconst 1, 1), (24, .goto 4, 3), (27, .iconst 0, 1), (28, .ireturn, 1)] := ab_da (by decide +kernel)
theorem ab_s101_0 : ab_Sn B 101 0 (ab_o_ild 1 1) := ab_s_iload_n (k := 1) (n := 1) ab_dk101_0.1 rfl
theorem ab_s101_1 : ab_Sn B 101 1 (ab_o_if ab_eq 16 4) := ab_s_if_eq (tg := 16) (off := 15) ab_dk101_0.2.1 (by decide)
theorem ab_s101_4 : ab_Sn B 101 4 (ab_o_ald 0 5) := ab_s_aload_n (k := 0) (n := 0) ab_dk101_0.2.2.1 rfl
theorem ab_s101_5 : ab_Sn B 101 5 (ab_o_geti 8 22 0 8) := ab_s_geti (i := 36) (ci := 4) (N := 22) (k := 0) (C := RX4) (T := TX4) ab_dk101_0.2.2.2.1 rfl (by decide) rfl wf_455
theorem ab_s101_8 : ab_Sn B 101 8 (ab_o_if ab_ne 16 11) := ab_s_if_ne (tg := 16) (off := 8) ab_dk101_0.2.2.2.2.1 (by decide)
theorem ab_s101_11 : ab_Sn B 101 11 (ab_o_ald 0 12) := ab_s_aload_n (k := 0) (n := 0) ab_dk101_0.2.2.2.2.2.1 rfl
theorem ab_s101_12 : ab_Sn B 101 12 (ab_o_ild 2 13) := ab_s_iload_n (k := 2) (n := 2) ab_dk101_0.2.2.2.2.2.2.1 rfl
theorem ab_s101_13 : ab_Sn B 101 13 (ab_o_puti 8 22 0 false 16) := ab_s_puti (b := false) (ty := .int) (i := 36) (ci := 4) (N := 22) (k := 0) (C := RX4) (T := TX4) ab_dk101_0.2.2.2.2.2.2.2.1 rfl (by decide) rfl wf_455 rfl (by decide +kernel) (Or.inl ⟨rfl, rfl⟩)
theorem ab_s101_16 : ab_Sn B 101 16 (ab_o_ald 0 17) := ab_s_aload_n (k := 0) (n := 0) ab_dk101_0.2.2.2.2.2.2.2.2.1 rfl
theorem ab_s101_17 : ab_Sn B 101 17 (ab_o_geti 8 22 0 20) := ab_s_geti (i := 36) (ci := 4) (N := 22) (k := 0) (C := RX4) (T := TX4) ab_dk101_0.2.2.2.2.2.2.2.2.2.1 rfl (by decide) rfl wf_455
theorem ab_s101_20 : ab_Sn B 101 20 (ab_o_if ab_le 27 23) := ab_s_if_le (tg := 27) (off := 7) ab_dk101_0.2.2.2.2.2.2.2.2.2.2.1 (by decide)
theorem ab_s101_23 : ab_Sn B 101 23 (ab_o_const 1 24) := ab_s_iconst (n := 1) ab_dk101_0.2.2.2.2.2.2.2.2.2.2.2.1 rfl
theorem ab_s101_24 : ab_Sn B 101 24 (ab_o_goto 28) := ab_s_goto (tg := 28) (off := 4) ab_dk101_0.2.2.2.2.2.2.2.2.2.2.2.2.1 (by decide)
theorem ab_s101_27 : ab_Sn B 101 27 (ab_o_const 0 28) := ab_s_iconst (n := 0) ab_dk101_0.2.2.2.2.2.2.2.2.2.2.2.2.2.1 rfl
theorem ab_s101_28 : ab_Sn B 101 28 (ab_o_iret true) := ab_s_iret (b := true) (ty := .boolean) ab_dk101_0.2.2.2.2.2.2.2.2.2.2.2.2.2.2.1 rfl (Or.inr (Or.inl ⟨rfl, rfl⟩))
set_option maxRecDepth 20000 in
theorem ab_sn101 : ab_all B 101 0 (ab_c101) := ⟨ab_s101_0, ab_s101_1, trivial, trivial, ab_s101_4, ab_s101_5, trivial, trivial, ab_s101_8, trivial, trivial, ab_s101_11, ab_s101_12, ab_s101_13, trivial, trivial, ab_s101_16, ab_s101_17, trivial, trivial, ab_s101_20, trivial, trivial, ab_s101_23, ab_s101_24, trivial, trivial, ab_s101_27, ab_s101_28, trivial⟩
theorem ab_dk102_0 : ab_dp 102 [(0, .aload_n 0, 1), (1, .iconst 0, 1), (2, .putfield 36, 3), (5, .aload_n 0, 1), (6, .iload_n 1, 1), (7, .iload_n 2, 1), (8, .invokevirtual 39, 3), (11, .ireturn, 1)] := ab_da (by decide +kernel)
theorem ab_s102_0 : ab_Sn B 102 0 (ab_o_ald 0 1) := ab_s_aload_n (k := 0) (n := 0) ab_dk102_0.1 rfl
theorem ab_s102_1 : ab_Sn B 102 1 (ab_o_const 0 2) := ab_s_iconst (n := 0) ab_dk102_0.2.1 rfl
theorem ab_s102_2 : ab_Sn B 102 2 (ab_o_puti 8 22 0 false 5) := ab_s_puti (b := false) (ty := .int) (i := 36) (ci := 4) (N := 22) (k := 0) (C := RX4) (T := TX4) ab_dk102_0.2.2.1 rfl (by decide) rfl wf_455 rfl (by decide +kernel) (Or.inl ⟨rfl, rfl⟩)
theorem ab_s102_5 : ab_Sn B 102 5 (ab_o_ald 0 6) := ab_s_aload_n (k := 0) (n := 0) ab_dk102_0.2.2.2.1 rfl
theorem ab_s102_6 : ab_Sn B 102 6 (ab_o_ild 1 7) := ab_s_iload_n (k := 1) (n := 1) ab_dk102_0.2.2.2.2.1 rfl
theorem ab_s102_7 : ab_Sn B 102 7 (ab_o_ild 2 8) := ab_s_iload_n (k := 2) (n := 2) ab_dk102_0.2.2.2.2.2.1 rfl
theorem ab_s102_8 : ab_Sn B 102 8 (ab_o_call (some (8, 22)) [] 101 3 3 true 11) := ab_s_callV (M' := 101) (na := 2) (i := 39) (ci := 4) (N := 22) (C := RX4) (T := TX4) (v := true) (ab_hok_n (by decide +kernel)) (by decide +kernel) ab_dk102_0.2.2.2.2.2.2.1 rfl (by decide) (by decide +kernel) (by decide +kernel) (by decide) wf_456 wf_457 wf_458 wf_460 wf_459
theorem ab_s102_11 : ab_Sn B 102 11 (ab_o_iret true) := ab_s_iret (b := true) (ty := .boolean) ab_dk102_0.2.2.2.2.2.2.2.1 rfl (Or.inr (Or.inl ⟨rfl, rfl⟩))
set_option maxRecDepth 20000 in
theorem ab_sn102 : ab_all B 102 0 (ab_c102) := ⟨ab_s102_0, ab_s102_1, ab_s102_2, trivial, trivial, ab_s102_5, ab_s102_6, ab_s102_7, ab_s102_8, trivial, trivial, ab_s102_11, trivial⟩
theorem ab_dk103_0 : ab_dp 103 [(0, .iload_n 1, 1), (1, .iconst 0, 1), (2, .aload_n 0, 1), (3, .getfield 43, 3), (6, .iconst 1, 1), (7, .isub, 1), (8, .invokestatic 46, 3), (11, .ifCond .ne 7, 3), (14, .iconst 1, 1), (15, .goto 4, 3), (18, .iconst 0, 1), (19, .ireturn, 1)] := ab_da (by decide +kernel)
theorem ab_s103_0 : ab_Sn B 103 0 (ab_o_ild 1 1) := ab_s_iload_n (k := 1) (n := 1) ab_dk103_0.1 rfl
theorem ab_s103_1 : ab_Sn B 103 1 (ab_o_const 0 2) := ab_s_iconst (n := 0) ab_dk103_0.2.1 rfl
theorem ab_s103_2 : ab_Sn B 103 2 (ab_o_ald 0 3) := ab_s_aload_n (k := 0) (n := 0) ab_dk103_0.2.2.1 rfl
theorem ab_s103_3 : ab_Sn B 103 3 (ab_o_geti 8 22 1 6) := ab_s_geti (i := 43) (ci := 4) (N := 22) (k := 1) (C := RX4) (T := TX4) ab_dk103_0.2.2.2.1 rfl (by decide) rfl wf_461
theorem ab_s103_6 : ab_Sn B 103 6 (ab_o_const 1 7) := ab_s_iconst (n := 1) ab_dk103_0.2.2.2.2.1 rfl
theorem ab_s103_7 : ab_Sn B 103 7 (ab_o_bin (fun a b => a - b) 8) := ab_s_isub ab_dk103_0.2.2.2.2.2.1
theorem ab_s103_8 : ab_Sn B 103 8 (ab_o_call none [] 100 3 3 true 11) := ab_s_callS (M' := 100) (na := 3) (i := 46) (v := true) (ab_hok_n (by decide +kernel)) (by decide +kernel) ab_dk103_0.2.2.2.2.2.2.1 (by decide +kernel) (by decide +kernel) (by decide) wf_462 wf_463 wf_464 wf_459
theorem ab_s103_11 : ab_Sn B 103 11 (ab_o_if ab_ne 18 14) := ab_s_if_ne (tg := 18) (off := 7) ab_dk103_0.2.2.2.2.2.2.2.1 (by decide)
theorem ab_s103_14 : ab_Sn B 103 14 (ab_o_const 1 15) := ab_s_iconst (n := 1) ab_dk103_0.2.2.2.2.2.2.2.2.1 rfl
theorem ab_s103_15 : ab_Sn B 103 15 (ab_o_goto 19) := ab_s_goto (tg := 19) (off := 4) ab_dk103_0.2.2.2.2.2.2.2.2.2.1 (by decide)
theorem ab_s103_18 : ab_Sn B 103 18 (ab_o_const 0 19) := ab_s_iconst (n := 0) ab_dk103_0.2.2.2.2.2.2.2.2.2.2.1 rfl
theorem ab_s103_19 : ab_Sn B 103 19 (ab_o_iret true) := ab_s_iret (b := true) (ty := .boolean) ab_dk103_0.2.2.2.2.2.2.2.2.2.2.2.1 rfl (Or.inr (Or.inl ⟨rfl, rfl⟩))
set_option maxRecDepth 20000 in
theorem ab_sn103 : ab_all B 103 0 (ab_c103) := ⟨ab_s103_0, ab_s103_1, ab_s103_2, ab_s103_3, trivial, trivial, ab_s103_6, ab_s103_7, ab_s103_8, trivial, trivial, ab_s103_11, trivial, trivial, ab_s103_14, ab_s103_15, trivial, trivial, ab_s103_18, ab_s103_19, trivial⟩
theorem ab_dk104_0 : ab_dp 104 [(0, .iload_n 1, 1), (1, .iconst 0, 1), (2, .aload_n 0, 1), (3, .getfield 50, 3), (6, .iconst 1, 1), (7, .isub, 1), (8, .invokestatic 46, 3), (11, .ifCond .ne 7, 3), (14, .iconst 1, 1), (15, .goto 4, 3), (18, .iconst 0, 1), (19, .ireturn, 1)] := ab_da (by decide +kernel)
theorem ab_s104_0 : ab_Sn B 104 0 (ab_o_ild 1 1) := ab_s_iload_n (k := 1) (n := 1) ab_dk104_0.1 rfl
theorem ab_s104_1 : ab_Sn B 104 1 (ab_o_const 0 2) := ab_s_iconst (n := 0) ab_dk104_0.2.1 rfl
theorem ab_s104_2 : ab_Sn B 104 2 (ab_o_ald 0 3) := ab_s_aload_n (k := 0) (n := 0) ab_dk104_0.2.2.1 rfl
theorem ab_s104_3 : ab_Sn B 104 3 (ab_o_geti 8 22 2 6) := ab_s_geti (i := 50) (ci := 4) (N := 22) (k := 2) (C := RX4) (T := TX4) ab_dk104_0.2.2.2.1 rfl (by decide) rfl wf_465
theorem ab_s104_6 : ab_Sn B 104 6 (ab_o_const 1 7) := ab_s_iconst (n := 1) ab_dk104_0.2.2.2.2.1 rfl
theorem ab_s104_7 : ab_Sn B 104 7 (ab_o_bin (fun a b => a - b) 8) := ab_s_isub ab_dk104_0.2.2.2.2.2.1
theorem ab_s104_8 : ab_Sn B 104 8 (ab_o_call none [] 100 3 3 true 11) := ab_s_callS (M' := 100) (na := 3) (i := 46) (v := true) (ab_hok_n (by decide +kernel)) (by decide +kernel) ab_dk104_0.2.2.2.2.2.2.1 (by decide +kernel) (by decide +kernel) (by decide) wf_462 wf_463 wf_464 wf_459
theorem ab_s104_11 : ab_Sn B 104 11 (ab_o_if ab_ne 18 14) := ab_s_if_ne (tg := 18) (off := 7) ab_dk104_0.2.2.2.2.2.2.2.1 (by decide)
theorem ab_s104_14 : ab_Sn B 104 14 (ab_o_const 1 15) := ab_s_iconst (n := 1) ab_dk104_0.2.2.2.2.2.2.2.2.1 rfl
theorem ab_s104_15 : ab_Sn B 104 15 (ab_o_goto 19) := ab_s_goto (tg := 19) (off := 4) ab_dk104_0.2.2.2.2.2.2.2.2.2.1 (by decide)
theorem ab_s104_18 : ab_Sn B 104 18 (ab_o_const 0 19) := ab_s_iconst (n := 0) ab_dk104_0.2.2.2.2.2.2.2.2.2.2.1 rfl
theorem ab_s104_19 : ab_Sn B 104 19 (ab_o_iret true) := ab_s_iret (b := true) (ty := .boolean) ab_dk104_0.2.2.2.2.2.2.2.2.2.2.2.1 rfl (Or.inr (Or.inl ⟨rfl, rfl⟩))
set_option maxRecDepth 20000 in
theorem ab_sn104 : ab_all B 104 0 (ab_c104) := ⟨ab_s104_0, ab_s104_1, ab_s104_2, ab_s104_3, trivial, trivial, ab_s104_6, ab_s104_7, ab_s104_8, trivial, trivial, ab_s104_11, trivial, trivial, ab_s104_14, ab_s104_15, trivial, trivial, ab_s104_18, ab_s104_19, trivial⟩
theorem ab_dk105_0 : ab_dp 105 [(0, .iload_n 1, 1), (1, .iconst 0, 1), (2, .aload_n 0, 1), (3, .invokevirtual 53, 3), (6, .iconst 1, 1), (7, .isub, 1), (8, .invokestatic 46, 3), (11, .ifCond .ne 7, 3), (14, .iconst 1, 1), (15, .goto 4, 3), (18, .iconst 0, 1), (19, .ireturn, 1)] := ab_da (by decide +kernel)
theorem ab_s105_0 : ab_Sn B 105 0 (ab_o_ild 1 1) := ab_s_iload_n (k := 1) (n := 1) ab_dk105_0.1 rfl
theorem ab_s105_1 : ab_Sn B 105 1 (ab_o_const 0 2) := ab_s_iconst (n := 0) ab_dk105_0.2.1 rfl
theorem ab_s105_2 : ab_Sn B 105 2 (ab_o_ald 0 3) := ab_s_aload_n (k := 0) (n := 0) ab_dk105_0.2.2.1 rfl
theorem ab_s105_3 : ab_Sn B 105 3 (ab_o_call (some (8, 22)) [] 106 1 1 true 6) := ab_s_callV (M' := 106) (na := 0) (i := 53) (ci := 4) (N := 22) (C := RX4) (T := TX4) (v := true) (ab_hok_n (by decide +kernel)) (by decide +kernel) ab_dk105_0.2.2.2.1 rfl (by decide) (by decide +kernel) (by decide +kernel) (by decide) wf_466 wf_467 wf_468 wf_469 wf_459
theorem ab_s105_6 : ab_Sn B 105 6 (ab_o_const 1 7) := ab_s_iconst (n := 1) ab_dk105_0.2.2.2.2.1 rfl
theorem ab_s105_7 : ab_Sn B 105 7 (ab_o_bin (fun a b => a - b) 8) := ab_s_isub ab_dk105_0.2.2.2.2.2.1
theorem ab_s105_8 : ab_Sn B 105 8 (ab_o_call none [] 100 3 3 true 11) := ab_s_callS (M' := 100) (na := 3) (i := 46) (v := true) (ab_hok_n (by decide +kernel)) (by decide +kernel) ab_dk105_0.2.2.2.2.2.2.1 (by decide +kernel) (by decide +kernel) (by decide) wf_462 wf_463 wf_464 wf_459
theorem ab_s105_11 : ab_Sn B 105 11 (ab_o_if ab_ne 18 14) := ab_s_if_ne (tg := 18) (off := 7) ab_dk105_0.2.2.2.2.2.2.2.1 (by decide)
theorem ab_s105_14 : ab_Sn B 105 14 (ab_o_const 1 15) := ab_s_iconst (n := 1) ab_dk105_0.2.2.2.2.2.2.2.2.1 rfl
theorem ab_s105_15 : ab_Sn B 105 15 (ab_o_goto 19) := ab_s_goto (tg := 19) (off := 4) ab_dk105_0.2.2.2.2.2.2.2.2.2.1 (by decide)
theorem ab_s105_18 : ab_Sn B 105 18 (ab_o_const 0 19) := ab_s_iconst (n := 0) ab_dk105_0.2.2.2.2.2.2.2.2.2.2.1 rfl
theorem ab_s105_19 : ab_Sn B 105 19 (ab_o_iret true) := ab_s_iret (b := true) (ty := .boolean) ab_dk105_0.2.2.2.2.2.2.2.2.2.2.2.1 rfl (Or.inr (Or.inl ⟨rfl, rfl⟩))
set_option maxRecDepth 20000 in
theorem ab_sn105 : ab_all B 105 0 (ab_c105) := ⟨ab_s105_0, ab_s105_1, ab_s105_2, ab_s105_3, trivial, trivial, ab_s105_6, ab_s105_7, ab_s105_8, trivial, trivial, ab_s105_11, trivial, trivial, ab_s105_14, ab_s105_15, trivial, trivial, ab_s105_18, ab_s105_19, trivial⟩
theorem ab_dk106_0 : ab_dp 106 [(0, .aload_n 0, 1), (1, .getfield 50, 3), (4, .aload_n 0, 1), (5, .getfield 43, 3), (8, .aload_n 0, 1), (9, .getfield 43, 3), (12, .ifCond .le 7, 3), (15, .iconst 1, 1), (16, .goto 4, 3), (19, .iconst 0, 1), (20, .isub, 1), (21, .imul, 1), (22, .ireturn, 1)] := ab_da (by decide +kernel)
theorem ab_s106_0 : ab_Sn B 106 0 (ab_o_ald 0 1) := ab_s_aload_n (k := 0) (n := 0) ab_dk106_0.1 rfl
theorem ab_s106_1 : ab_Sn B 106 1 (ab_o_geti 8 22 2 4) := ab_s_geti (i := 50) (ci := 4) (N := 22) (k := 2) (C := RX4) (T := TX4) ab_dk106_0.2.1 rfl (by decide) rfl wf_465
theorem ab_s106_4 : ab_Sn B 106 4 (ab_o_ald 0 5) := ab_s_aload_n (k := 0) (n := 0) ab_dk106_0.2.2.1 rfl
theorem ab_s106_5 : ab_Sn B 106 5 (ab_o_geti 8 22 1 8) := ab_s_geti (i := 43) (ci := 4) (N := 22) (k := 1) (C := RX4) (T := TX4) ab_dk106_0.2.2.2.1 rfl (by decide) rfl wf_461
theorem ab_s106_8 : ab_Sn B 106 8 (ab_o_ald 0 9) := ab_s_aload_n (k := 0) (n := 0) ab_dk106_0.2.2.2.2.1 rfl
theorem ab_s106_9 : ab_Sn B 106 9 (ab_o_geti 8 22 1 12) := ab_s_geti (i := 43) (ci := 4) (N := 22) (k := 1) (C := RX4) (T := TX4) ab_dk106_0.2.2.2.2.2.1 rfl (by decide) rfl wf_461
theorem ab_s106_12 : ab_Sn B 106 12 (ab_o_if ab_le 19 15) := ab_s_if_le (tg := 19) (off := 7) ab_dk106_0.2.2.2.2.2.2.1 (by decide)
theorem ab_s106_15 : ab_Sn B 106 15 (ab_o_const 1 16) := ab_s_iconst (n := 1) ab_dk106_0.2.2.2.2.2.2.2.1 rfl
theorem ab_s106_16 : ab_Sn B 106 16 (ab_o_goto 20) := ab_s_goto (tg := 20) (off := 4) ab_dk106_0.2.2.2.2.2.2.2.2.1 (by decide)
theorem ab_s106_19 : ab_Sn B 106 19 (ab_o_const 0 20) := ab_s_iconst (n := 0) ab_dk106_0.2.2.2.2.2.2.2.2.2.1 rfl
theorem ab_s106_20 : ab_Sn B 106 20 (ab_o_bin (fun a b => a - b) 21) := ab_s_isub ab_dk106_0.2.2.2.2.2.2.2.2.2.2.1
theorem ab_s106_21 : ab_Sn B 106 21 (ab_o_bin (fun a b => a * b) 22) := ab_s_imul ab_dk106_0.2.2.2.2.2.2.2.2.2.2.2.1
theorem ab_s106_22 : ab_Sn B 106 22 (ab_o_iret false) := ab_s_iret (b := false) (ty := .int) ab_dk106_0.2.2.2.2.2.2.2.2.2.2.2.2.1 rfl (Or.inl ⟨rfl, rfl⟩)
set_option maxRecDepth 20000 in
theorem ab_sn106 : ab_all B 106 0 (ab_c106) := ⟨ab_s106_0, ab_s106_1, trivial, trivial, ab_s106_4, ab_s106_5, trivial, trivial, ab_s106_8, ab_s106_9, trivial, trivial, ab_s106_12, trivial, trivial, ab_s106_15, ab_s106_16, trivial, trivial, ab_s106_19, ab_s106_20, ab_s106_21, ab_s106_22, trivial⟩
theorem ab_dk107_0 : ab_dp 107 [(0, .iload_n 1, 1), (1, .aload_n 0, 1), (2, .getfield 43, 3), (5, .iconst 1, 1), (6, .isub, 1), (7, .idiv, 1), (8, .ireturn, 1)] := ab_da (by decide +kernel)
theorem ab_s107_0 : ab_Sn B 107 0 (ab_o_ild 1 1) := ab_s_iload_n (k := 1) (n := 1) ab_dk107_0.1 rfl
theorem ab_s107_1 : ab_Sn B 107 1 (ab_o_ald 0 2) := ab_s_aload_n (k := 0) (n := 0) ab_dk107_0.2.1 rfl
theorem ab_s107_2 : ab_Sn B 107 2 (ab_o_geti 8 22 1 5) := ab_s_geti (i := 43) (ci := 4) (N := 22) (k := 1) (C := RX4) (T := TX4) ab_dk107_0.2.2.1 rfl (by decide) rfl wf_461
theorem ab_s107_5 : ab_Sn B 107 5 (ab_o_const 1 6) := ab_s_iconst (n := 1) ab_dk107_0.2.2.2.1 rfl
theorem ab_s107_6 : ab_Sn B 107 6 (ab_o_bin (fun a b => a - b) 7) := ab_s_isub ab_dk107_0.2.2.2.2.1
theorem ab_s107_7 : ab_Sn B 107 7 (ab_o_div ab_idiv 8) := ab_s_idiv ab_dk107_0.2.2.2.2.2.1
theorem ab_s107_8 : ab_Sn B 107 8 (ab_o_iret false) := ab_s_iret (b := false) (ty := .int) ab_dk107_0.2.2.2.2.2.2.1 rfl (Or.inl ⟨rfl, rfl⟩)
set_option maxRecDepth 20000 in
theorem ab_sn107 : ab_all B 107 0 (ab_c107) := ⟨ab_s107_0, ab_s107_1, ab_s107_2, trivial, trivial, ab_s107_5, ab_s107_6, ab_s107_7, ab_s107_8, trivial⟩
theorem ab_dk108_0 : ab_dp 108 [(0, .iload_n 1, 1), (1, .aload_n 0, 1), (2, .getfield 43, 3), (5, .irem, 1), (6, .ireturn, 1)] := ab_da (by decide +kernel)
theorem ab_s108_0 : ab_Sn B 108 0 (ab_o_ild 1 1) := ab_s_iload_n (k := 1) (n := 1) ab_dk108_0.1 rfl
theorem ab_s108_1 : ab_Sn B 108 1 (ab_o_ald 0 2) := ab_s_aload_n (k := 0) (n := 0) ab_dk108_0.2.1 rfl
theorem ab_s108_2 : ab_Sn B 108 2 (ab_o_geti 8 22 1 5) := ab_s_geti (i := 43) (ci := 4) (N := 22) (k := 1) (C := RX4) (T := TX4) ab_dk108_0.2.2.1 rfl (by decide) rfl wf_461
theorem ab_s108_5 : ab_Sn B 108 5 (ab_o_div ab_irem 6) := ab_s_irem ab_dk108_0.2.2.2.1
theorem ab_s108_6 : ab_Sn B 108 6 (ab_o_iret false) := ab_s_iret (b := false) (ty := .int) ab_dk108_0.2.2.2.2.1 rfl (Or.inl ⟨rfl, rfl⟩)
set_option maxRecDepth 20000 in
theorem ab_sn108 : ab_all B 108 0 (ab_c108) := ⟨ab_s108_0, ab_s108_1, ab_s108_2, trivial, trivial, ab_s108_5, ab_s108_6, trivial⟩
theorem ab_dk109_0 : ab_dp 109 [(0, .iload_n 1, 1), (1, .aload_n 0, 1), (2, .getfield 43, 3), (5, .iconst 1, 1), (6, .isub, 1), (7, .irem, 1), (8, .istore_n 2, 1), (9, .iload_n 2, 1), (10, .aload_n 0, 1), (11, .aload_n 0, 1), (12, .iload_n 1, 1), (13, .invokevirtual 57, 3), (16, .invokevirtual 61, 3), (19, .if_icmp .ge 7, 3), (22, .iload_n 2, 1), (23, .goto 6, 3)] := ab_da (by decide +kernel)
theorem ab_dk109_1 : ab_dp 109 [(26, .iload_n 2, 1), (27, .iconst 1, 1), (28, .iadd, 1), (29, .ireturn, 1)] := ab_da (by decide +kernel)
theorem ab_s109_0 : ab_Sn B 109 0 (ab_o_ild 1 1) := ab_s_iload_n (k := 1) (n := 1) ab_dk109_0.1 rfl
theorem ab_s109_1 : ab_Sn B 109 1 (ab_o_ald 0 2) := ab_s_aload_n (k := 0) (n := 0) ab_dk109_0.2.1 rfl
theorem ab_s109_2 : ab_Sn B 109 2 (ab_o_geti 8 22 1 5) := ab_s_geti (i := 43) (ci := 4) (N := 22) (k := 1) (C := RX4) (T := TX4) ab_dk109_0.2.2.1 rfl (by decide) rfl wf_461
theorem ab_s109_5 : ab_Sn B 109 5 (ab_o_const 1 6) := ab_s_iconst (n := 1) ab_dk109_0.2.2.2.1 rfl
theorem ab_s109_6 : ab_Sn B 109 6 (ab_o_bin (fun a b => a - b) 7) := ab_s_isub ab_dk109_0.2.2.2.2.1
theorem ab_s109_7 : ab_Sn B 109 7 (ab_o_div ab_irem 8) := ab_s_irem ab_dk109_0.2.2.2.2.2.1
theorem ab_s109_8 : ab_Sn B 109 8 (ab_o_ist 2 9) := ab_s_istore_n (k := 2) (n := 2) ab_dk109_0.2.2.2.2.2.2.1 rfl
theorem ab_s109_9 : ab_Sn B 109 9 (ab_o_ild 2 10) := ab_s_iload_n (k := 2) (n := 2) ab_dk109_0.2.2.2.2.2.2.2.1 rfl
theorem ab_s109_10 : ab_Sn B 109 10 (ab_o_ald 0 11) := ab_s_aload_n (k := 0) (n := 0) ab_dk109_0.2.2.2.2.2.2.2.2.1 rfl
theorem ab_s109_11 : ab_Sn B 109 11 (ab_o_ald 0 12) := ab_s_aload_n (k := 0) (n := 0) ab_dk109_0.2.2.2.2.2.2.2.2.2.1 rfl
theorem ab_s109_12 : ab_Sn B 109 12 (ab_o_ild 1 13) := ab_s_iload_n (k := 1) (n := 1) ab_dk109_0.2.2.2.2.2.2.2.2.2.2.1 rfl
theorem ab_s109_13 : ab_Sn B 109 13 (ab_o_call (some (8, 22)) [] 107 2 2 true 16) := ab_s_callV (M' := 107) (na := 1) (i := 57) (ci := 4) (N := 22) (C := RX4) (T := TX4) (v := true) (ab_hok_n (by decide +kernel)) (by decide +kernel) ab_dk109_0.2.2.2.2.2.2.2.2.2.2.2.1 rfl (by decide) (by decide +kernel) (by decide +kernel) (by decide) wf_470 wf_471 wf_472 wf_473 wf_459
theorem ab_s109_16 : ab_Sn B 109 16 (ab_o_call (some (8, 22)) [] 108 2 2 true 19) := ab_s_callV (M' := 108) (na := 1) (i := 61) (ci := 4) (N := 22) (C := RX4) (T := TX4) (v := true) (ab_hok_n (by decide +kernel)) (by decide +kernel) ab_dk109_0.2.2.2.2.2.2.2.2.2.2.2.2.1 rfl (by decide) (by decide +kernel) (by decide +kernel) (by decide) wf_474 wf_475 wf_476 wf_477 wf_459
theorem ab_s109_19 : ab_Sn B 109 19 (ab_o_icmp ab_ge 26 22) := ab_s_icmp_ge (tg := 26) (off := 7) ab_dk109_0.2.2.2.2.2.2.2.2.2.2.2.2.2.1 (by decide)
theorem ab_s109_22 : ab_Sn B 109 22 (ab_o_ild 2 23) := ab_s_iload_n (k := 2) (n := 2) ab_dk109_0.2.2.2.2.2.2.2.2.2.2.2.2.2.2.1 rfl
theorem ab_s109_23 : ab_Sn B 109 23 (ab_o_goto 29) := ab_s_goto (tg := 29) (off := 6) ab_dk109_0.2.2.2.2.2.2.2.2.2.2.2.2.2.2.2.1 (by decide)
theorem ab_s109_26 : ab_Sn B 109 26 (ab_o_ild 2 27) := ab_s_iload_n (k := 2) (n := 2) ab_dk109_1.1 rfl
theorem ab_s109_27 : ab_Sn B 109 27 (ab_o_const 1 28) := ab_s_iconst (n := 1) ab_dk109_1.2.1 rfl
theorem ab_s109_28 : ab_Sn B 109 28 (ab_o_bin (fun a b => a + b) 29) := ab_s_iadd ab_dk109_1.2.2.1
theorem ab_s109_29 : ab_Sn B 109 29 (ab_o_iret false) := ab_s_iret (b := false) (ty := .int) ab_dk109_1.2.2.2.1 rfl (Or.inl ⟨rfl, rfl⟩)
set_option maxRecDepth 20000 in
theorem ab_sn109 : ab_all B 109 0 (ab_c109) := ⟨ab_s109_0, ab_s109_1, ab_s109_2, trivial, trivial, ab_s109_5, ab_s109_6, ab_s109_7, ab_s109_8, ab_s109_9, ab_s109_10, ab_s109_11, ab_s109_12, ab_s109_13, trivial, trivial, ab_s109_16, trivial, trivial, ab_s109_19, trivial, trivial, ab_s109_22, ab_s109_23, trivial, trivial, ab_s109_26, ab_s109_27, ab_s109_28, ab_s109_29, trivial⟩
theorem ab_dk110_0 : ab_dp 110 [(0, .iload_n 1, 1), (1, .aload_n 0, 1), (2, .iload_n 2, 1), (3, .invokevirtual 61, 3), (6, .if_icmp .ne 5, 3), (9, .iconst (-1), 1), (10, .ireturn, 1), (11, .iload_n 2, 1), (12, .aload_n 0, 1), (13, .getfield 43, 3), (16, .iconst 1, 1), (17, .isub, 1), (18, .imul, 1), (19, .iload_n 1, 1), (20, .aload_n 0, 1), (21, .iload_n 2, 1)] := ab_da (by decide +kernel)
theorem ab_dk110_1 : ab_dp 110 [(22, .invokevirtual 61, 3), (25, .if_icmp .ge 7, 3), (28, .iload_n 1, 1), (29, .goto 6, 3), (32, .iload_n 1, 1), (33, .iconst 1, 1), (34, .isub, 1), (35, .iadd, 1), (36, .ireturn, 1)] := ab_da (by decide +kernel)
theorem ab_s110_0 : ab_Sn B 110 0 (ab_o_ild 1 1) := ab_s_iload_n (k := 1) (n := 1) ab_dk110_0.1 rfl
theorem ab_s110_1 : ab_Sn B 110 1 (ab_o_ald 0 2) := ab_s_aload_n (k := 0) (n := 0) ab_dk110_0.2.1 rfl
theorem ab_s110_2 : ab_Sn B 110 2 (ab_o_ild 2 3) := ab_s_iload_n (k := 2) (n := 2) ab_dk110_0.2.2.1 rfl
theorem ab_s110_3 : ab_Sn B 110 3 (ab_o_call (some (8, 22)) [] 108 2 2 true 6) := ab_s_callV (M' := 108) (na := 1) (i := 61) (ci := 4) (N := 22) (C := RX4) (T := TX4) (v := true) (ab_hok_n (by decide +kernel)) (by decide +kernel) ab_dk110_0.2.2.2.1 rfl (by decide) (by decide +kernel) (by decide +kernel) (by decide) wf_474 wf_475 wf_476 wf_477 wf_459
theorem ab_s110_6 : ab_Sn B 110 6 (ab_o_icmp ab_ne 11 9) := ab_s_icmp_ne (tg := 11) (off := 5) ab_dk110_0.2.2.2.2.1 (by decide)
theorem ab_s110_9 : ab_Sn B 110 9 (ab_o_const (-1) 10) := ab_s_iconst (n := (-1)) ab_dk110_0.2.2.2.2.2.1 rfl
theorem ab_s110_10 : ab_Sn B 110 10 (ab_o_iret false) := ab_s_iret (b := false) (ty := .int) ab_dk110_0.2.2.2.2.2.2.1 rfl (Or.inl ⟨rfl, rfl⟩)
theorem ab_s110_11 : ab_Sn B 110 11 (ab_o_ild 2 12) := ab_s_iload_n (k := 2) (n := 2) ab_dk110_0.2.2.2.2.2.2.2.1 rfl
theorem ab_s110_12 : ab_Sn B 110 12 (ab_o_ald 0 13) := ab_s_aload_n (k := 0) (n := 0) ab_dk110_0.2.2.2.2.2.2.2.2.1 rfl
theorem ab_s110_13 : ab_Sn B 110 13 (ab_o_geti 8 22 1 16) := ab_s_geti (i := 43) (ci := 4) (N := 22) (k := 1) (C := RX4) (T := TX4) ab_dk110_0.2.2.2.2.2.2.2.2.2.1 rfl (by decide) rfl wf_461
theorem ab_s110_16 : ab_Sn B 110 16 (ab_o_const 1 17) := ab_s_iconst (n := 1) ab_dk110_0.2.2.2.2.2.2.2.2.2.2.1 rfl
theorem ab_s110_17 : ab_Sn B 110 17 (ab_o_bin (fun a b => a - b) 18) := ab_s_isub ab_dk110_0.2.2.2.2.2.2.2.2.2.2.2.1
theorem ab_s110_18 : ab_Sn B 110 18 (ab_o_bin (fun a b => a * b) 19) := ab_s_imul ab_dk110_0.2.2.2.2.2.2.2.2.2.2.2.2.1
theorem ab_s110_19 : ab_Sn B 110 19 (ab_o_ild 1 20) := ab_s_iload_n (k := 1) (n := 1) ab_dk110_0.2.2.2.2.2.2.2.2.2.2.2.2.2.1 rfl
theorem ab_s110_20 : ab_Sn B 110 20 (ab_o_ald 0 21) := ab_s_aload_n (k := 0) (n := 0) ab_dk110_0.2.2.2.2.2.2.2.2.2.2.2.2.2.2.1 rfl
theorem ab_s110_21 : ab_Sn B 110 21 (ab_o_ild 2 22) := ab_s_iload_n (k := 2) (n := 2) ab_dk110_0.2.2.2.2.2.2.2.2.2.2.2.2.2.2.2.1 rfl
theorem ab_s110_22 : ab_Sn B 110 22 (ab_o_call (some (8, 22)) [] 108 2 2 true 25) := ab_s_callV (M' := 108) (na := 1) (i := 61) (ci := 4) (N := 22) (C := RX4) (T := TX4) (v := true) (ab_hok_n (by decide +kernel)) (by decide +kernel) ab_dk110_1.1 rfl (by decide) (by decide +kernel) (by decide +kernel) (by decide) wf_474 wf_475 wf_476 wf_477 wf_459
theorem ab_s110_25 : ab_Sn B 110 25 (ab_o_icmp ab_ge 32 28) := ab_s_icmp_ge (tg := 32) (off := 7) ab_dk110_1.2.1 (by decide)
theorem ab_s110_28 : ab_Sn B 110 28 (ab_o_ild 1 29) := ab_s_iload_n (k := 1) (n := 1) ab_dk110_1.2.2.1 rfl
theorem ab_s110_29 : ab_Sn B 110 29 (ab_o_goto 35) := ab_s_goto (tg := 35) (off := 6) ab_dk110_1.2.2.2.1 (by decide)
theorem ab_s110_32 : ab_Sn B 110 32 (ab_o_ild 1 33) := ab_s_iload_n (k := 1) (n := 1) ab_dk110_1.2.2.2.2.1 rfl
theorem ab_s110_33 : ab_Sn B 110 33 (ab_o_const 1 34) := ab_s_iconst (n := 1) ab_dk110_1.2.2.2.2.2.1 rfl
theorem ab_s110_34 : ab_Sn B 110 34 (ab_o_bin (fun a b => a - b) 35) := ab_s_isub ab_dk110_1.2.2.2.2.2.2.1
theorem ab_s110_35 : ab_Sn B 110 35 (ab_o_bin (fun a b => a + b) 36) := ab_s_iadd ab_dk110_1.2.2.2.2.2.2.2.1
theorem ab_s110_36 : ab_Sn B 110 36 (ab_o_iret false) := ab_s_iret (b := false) (ty := .int) ab_dk110_1.2.2.2.2.2.2.2.2.1 rfl (Or.inl ⟨rfl, rfl⟩)
set_option maxRecDepth 20000 in
theorem ab_sn110 : ab_all B 110 0 (ab_c110) := ⟨ab_s110_0, ab_s110_1, ab_s110_2, ab_s110_3, trivial, trivial, ab_s110_6, trivial, trivial, ab_s110_9, ab_s110_10, ab_s110_11, ab_s110_12, ab_s110_13, trivial, trivial, ab_s110_16, ab_s110_17, ab_s110_18, ab_s110_19, ab_s110_20, ab_s110_21, ab_s110_22, trivial, trivial, ab_s110_25, trivial, trivial, ab_s110_28, ab_s110_29, trivial, trivial, ab_s110_32, ab_s110_33, ab_s110_34, ab_s110_35, ab_s110_36, trivial⟩
theorem ab_dk111_0 : ab_dp 111 [(0, .aload_n 0, 1), (1, .getfield 17, 3), (4, .iload_n 1, 1), (5, .baload, 1), (6, .ifCond .ne 31, 3), (9, .aload_n 0, 1), (10, .getfield 14, 3), (13, .iload_n 1, 1), (14, .aaload, 1), (15, .iload_n 2, 1), (16, .iaload, 1), (17, .bipush 7, 2), (19, .aload_n 0, 1), (20, .getfield 9, 3), (23, .iload_n 1, 1), (24, .aaload, 1)] := ab_da (by decide +kernel)
theorem ab_dk111_1 : ab_dp 111 [(25, .iload_n 2, 1), (26, .iaload, 1), (27, .imul, 1), (28, .iload_n 2, 1), (29, .iadd, 1), (30, .sipush 256, 3), (33, .irem, 1), (34, .if_icmp .eq 7, 3), (37, .iconst 1, 1), (38, .goto 4, 3), (41, .iconst 0, 1), (42, .ireturn, 1)] := ab_da (by decide +kernel)
theorem ab_s111_0 : ab_Sn B 111 0 (ab_o_ald 0 1) := ab_s_aload_n (k := 0) (n := 0) ab_dk111_0.1 rfl
theorem ab_s111_1 : ab_Sn B 111 1 (ab_o_getr 8 22 6 4) := ab_s_getr (i := 17) (ci := 4) (N := 22) (k := 6) (C := RX4) (T := TX4) ab_dk111_0.2.1 rfl (by decide) rfl wf_449
theorem ab_s111_4 : ab_Sn B 111 4 (ab_o_ild 1 5) := ab_s_iload_n (k := 1) (n := 1) ab_dk111_0.2.2.1 rfl
theorem ab_s111_5 : ab_Sn B 111 5 (ab_o_xld 1 6) := ab_s_baload ab_dk111_0.2.2.2.1
theorem ab_s111_6 : ab_Sn B 111 6 (ab_o_if ab_ne 37 9) := ab_s_if_ne (tg := 37) (off := 31) ab_dk111_0.2.2.2.2.1 (by decide)
theorem ab_s111_9 : ab_Sn B 111 9 (ab_o_ald 0 10) := ab_s_aload_n (k := 0) (n := 0) ab_dk111_0.2.2.2.2.2.1 rfl
theorem ab_s111_10 : ab_Sn B 111 10 (ab_o_getr 8 22 5 13) := ab_s_getr (i := 14) (ci := 4) (N := 22) (k := 5) (C := RX4) (T := TX4) ab_dk111_0.2.2.2.2.2.2.1 rfl (by decide) rfl wf_448
theorem ab_s111_13 : ab_Sn B 111 13 (ab_o_ild 1 14) := ab_s_iload_n (k := 1) (n := 1) ab_dk111_0.2.2.2.2.2.2.2.1 rfl
theorem ab_s111_14 : ab_Sn B 111 14 (ab_o_aald 15) := ab_s_aald ab_dk111_0.2.2.2.2.2.2.2.2.1
theorem ab_s111_15 : ab_Sn B 111 15 (ab_o_ild 2 16) := ab_s_iload_n (k := 2) (n := 2) ab_dk111_0.2.2.2.2.2.2.2.2.2.1 rfl
theorem ab_s111_16 : ab_Sn B 111 16 (ab_o_xld 0 17) := ab_s_iaload ab_dk111_0.2.2.2.2.2.2.2.2.2.2.1
theorem ab_s111_17 : ab_Sn B 111 17 (ab_o_const 7 19) := ab_s_bipush (n := 7) ab_dk111_0.2.2.2.2.2.2.2.2.2.2.2.1 (by decide)
theorem ab_s111_19 : ab_Sn B 111 19 (ab_o_ald 0 20) := ab_s_aload_n (k := 0) (n := 0) ab_dk111_0.2.2.2.2.2.2.2.2.2.2.2.2.1 rfl
theorem ab_s111_20 : ab_Sn B 111 20 (ab_o_getr 8 22 4 23) := ab_s_getr (i := 9) (ci := 4) (N := 22) (k := 4) (C := RX4) (T := TX4) ab_dk111_0.2.2.2.2.2.2.2.2.2.2.2.2.2.1 rfl (by decide) rfl wf_447
theorem ab_s111_23 : ab_Sn B 111 23 (ab_o_ild 1 24) := ab_s_iload_n (k := 1) (n := 1) ab_dk111_0.2.2.2.2.2.2.2.2.2.2.2.2.2.2.1 rfl
theorem ab_s111_24 : ab_Sn B 111 24 (ab_o_aald 25) := ab_s_aald ab_dk111_0.2.2.2.2.2.2.2.2.2.2.2.2.2.2.2.1
theorem ab_s111_25 : ab_Sn B 111 25 (ab_o_ild 2 26) := ab_s_iload_n (k := 2) (n := 2) ab_dk111_1.1 rfl
theorem ab_s111_26 : ab_Sn B 111 26 (ab_o_xld 0 27) := ab_s_iaload ab_dk111_1.2.1
theorem ab_s111_27 : ab_Sn B 111 27 (ab_o_bin (fun a b => a * b) 28) := ab_s_imul ab_dk111_1.2.2.1
theorem ab_s111_28 : ab_Sn B 111 28 (ab_o_ild 2 29) := ab_s_iload_n (k := 2) (n := 2) ab_dk111_1.2.2.2.1 rfl
theorem ab_s111_29 : ab_Sn B 111 29 (ab_o_bin (fun a b => a + b) 30) := ab_s_iadd ab_dk111_1.2.2.2.2.1
theorem ab_s111_30 : ab_Sn B 111 30 (ab_o_const 256 33) := ab_s_sipush (n := 256) ab_dk111_1.2.2.2.2.2.1 (by decide)
theorem ab_s111_33 : ab_Sn B 111 33 (ab_o_div ab_irem 34) := ab_s_irem ab_dk111_1.2.2.2.2.2.2.1
theorem ab_s111_34 : ab_Sn B 111 34 (ab_o_icmp ab_eq 41 37) := ab_s_icmp_eq (tg := 41) (off := 7) ab_dk111_1.2.2.2.2.2.2.2.1 (by decide)
theorem ab_s111_37 : ab_Sn B 111 37 (ab_o_const 1 38) := ab_s_iconst (n := 1) ab_dk111_1.2.2.2.2.2.2.2.2.1 rfl
theorem ab_s111_38 : ab_Sn B 111 38 (ab_o_goto 42) := ab_s_goto (tg := 42) (off := 4) ab_dk111_1.2.2.2.2.2.2.2.2.2.1 (by decide)
theorem ab_s111_41 : ab_Sn B 111 41 (ab_o_const 0 42) := ab_s_iconst (n := 0) ab_dk111_1.2.2.2.2.2.2.2.2.2.2.1 rfl
theorem ab_s111_42 : ab_Sn B 111 42 (ab_o_iret true) := ab_s_iret (b := true) (ty := .boolean) ab_dk111_1.2.2.2.2.2.2.2.2.2.2.2.1 rfl (Or.inr (Or.inl ⟨rfl, rfl⟩))
set_option maxRecDepth 20000 in
theorem ab_sn111 : ab_all B 111 0 (ab_c111) := ⟨ab_s111_0, ab_s111_1, trivial, trivial, ab_s111_4, ab_s111_5, ab_s111_6, trivial, trivial, ab_s111_9, ab_s111_10, trivial, trivial, ab_s111_13, ab_s111_14, ab_s111_15, ab_s111_16, ab_s111_17, trivial, ab_s111_19, ab_s111_20, trivial, trivial, ab_s111_23, ab_s111_24, ab_s111_25, ab_s111_26, ab_s111_27, ab_s111_28, ab_s111_29, ab_s111_30, trivial, trivial, ab_s111_33, ab_s111_34, trivial, trivial, ab_s111_37, ab_s111_38, trivial, trivial, ab_s111_41, ab_s111_42, trivial⟩
theorem ab_dk112_0 : ab_dp 112 [(0, .aload_n 0, 1), (1, .getfield 9, 3), (4, .iload_n 1, 1), (5, .aaload, 1), (6, .iload_n 2, 1), (7, .iload_n 3, 1), (8, .iastore, 1), (9, .aload_n 0, 1), (10, .getfield 14, 3), (13, .iload_n 1, 1), (14, .aaload, 1), (15, .iload_n 2, 1), (16, .bipush 7, 2), (18, .iload_n 3, 1), (19, .imul, 1), (20, .iload_n 2, 1)] := ab_da (by decide +kernel)
theorem ab_dk112_1 : ab_dp 112 [(21, .iadd, 1), (22, .sipush 256, 3), (25, .irem, 1), (26, .iastore, 1), (27, .return_, 1)] := ab_da (by decide +kernel)
theorem ab_s112_0 : ab_Sn B 112 0 (ab_o_ald 0 1) := ab_s_aload_n (k := 0) (n := 0) ab_dk112_0.1 rfl
theorem ab_s112_1 : ab_Sn B 112 1 (ab_o_getr 8 22 4 4) := ab_s_getr (i := 9) (ci := 4) (N := 22) (k := 4) (C := RX4) (T := TX4) ab_dk112_0.2.1 rfl (by decide) rfl wf_447
theorem ab_s112_4 : ab_Sn B 112 4 (ab_o_ild 1 5) := ab_s_iload_n (k := 1) (n := 1) ab_dk112_0.2.2.1 rfl
theorem ab_s112_5 : ab_Sn B 112 5 (ab_o_aald 6) := ab_s_aald ab_dk112_0.2.2.2.1
theorem ab_s112_6 : ab_Sn B 112 6 (ab_o_ild 2 7) := ab_s_iload_n (k := 2) (n := 2) ab_dk112_0.2.2.2.2.1 rfl
theorem ab_s112_7 : ab_Sn B 112 7 (ab_o_ild 3 8) := ab_s_iload_n (k := 3) (n := 3) ab_dk112_0.2.2.2.2.2.1 rfl
theorem ab_s112_8 : ab_Sn B 112 8 (ab_o_xst 0 9) := ab_s_iastore ab_dk112_0.2.2.2.2.2.2.1
theorem ab_s112_9 : ab_Sn B 112 9 (ab_o_ald 0 10) := ab_s_aload_n (k := 0) (n := 0) ab_dk112_0.2.2.2.2.2.2.2.1 rfl
theorem ab_s112_10 : ab_Sn B 112 10 (ab_o_getr 8 22 5 13) := ab_s_getr (i := 14) (ci := 4) (N := 22) (k := 5) (C := RX4) (T := TX4) ab_dk112_0.2.2.2.2.2.2.2.2.1 rfl (by decide) rfl wf_448
theorem ab_s112_13 : ab_Sn B 112 13 (ab_o_ild 1 14) := ab_s_iload_n (k := 1) (n := 1) ab_dk112_0.2.2.2.2.2.2.2.2.2.1 rfl
theorem ab_s112_14 : ab_Sn B 112 14 (ab_o_aald 15) := ab_s_aald ab_dk112_0.2.2.2.2.2.2.2.2.2.2.1
theorem ab_s112_15 : ab_Sn B 112 15 (ab_o_ild 2 16) := ab_s_iload_n (k := 2) (n := 2) ab_dk112_0.2.2.2.2.2.2.2.2.2.2.2.1 rfl
theorem ab_s112_16 : ab_Sn B 112 16 (ab_o_const 7 18) := ab_s_bipush (n := 7) ab_dk112_0.2.2.2.2.2.2.2.2.2.2.2.2.1 (by decide)
theorem ab_s112_18 : ab_Sn B 112 18 (ab_o_ild 3 19) := ab_s_iload_n (k := 3) (n := 3) ab_dk112_0.2.2.2.2.2.2.2.2.2.2.2.2.2.1 rfl
theorem ab_s112_19 : ab_Sn B 112 19 (ab_o_bin (fun a b => a * b) 20) := ab_s_imul ab_dk112_0.2.2.2.2.2.2.2.2.2.2.2.2.2.2.1
theorem ab_s112_20 : ab_Sn B 112 20 (ab_o_ild 2 21) := ab_s_iload_n (k := 2) (n := 2) ab_dk112_0.2.2.2.2.2.2.2.2.2.2.2.2.2.2.2.1 rfl
theorem ab_s112_21 : ab_Sn B 112 21 (ab_o_bin (fun a b => a + b) 22) := ab_s_iadd ab_dk112_1.1
theorem ab_s112_22 : ab_Sn B 112 22 (ab_o_const 256 25) := ab_s_sipush (n := 256) ab_dk112_1.2.1 (by decide)
theorem ab_s112_25 : ab_Sn B 112 25 (ab_o_div ab_irem 26) := ab_s_irem ab_dk112_1.2.2.1
theorem ab_s112_26 : ab_Sn B 112 26 (ab_o_xst 0 27) := ab_s_iastore ab_dk112_1.2.2.2.1
theorem ab_s112_27 : ab_Sn B 112 27 (ab_o_ret) := ab_s_ret ab_dk112_1.2.2.2.2.1 rfl
set_option maxRecDepth 20000 in
theorem ab_sn112 : ab_all B 112 0 (ab_c112) := ⟨ab_s112_0, ab_s112_1, trivial, trivial, ab_s112_4, ab_s112_5, ab_s112_6, ab_s112_7, ab_s112_8, ab_s112_9, ab_s112_10, trivial, trivial, ab_s112_13, ab_s112_14, ab_s112_15, ab_s112_16, trivial, ab_s112_18, ab_s112_19, ab_s112_20, ab_s112_21, ab_s112_22, trivial, trivial, ab_s112_25, ab_s112_26, ab_s112_27, trivial⟩
theorem ab_dk113_0 : ab_dp 113 [(0, .iconst 0, 1), (1, .istore_n 2, 1), (2, .iconst 0, 1), (3, .istore_n 3, 1), (4, .iload_n 3, 1), (5, .aload_n 0, 1), (6, .getfield 43, 3), (9, .if_icmp .ge 26, 3), (12, .iload_n 2, 1), (13, .aload_n 0, 1), (14, .iload_n 3, 1), (15, .iload_n 1, 1), (16, .invokevirtual 64, 3), (19, .ifCond .eq 7, 3), (22, .iconst 1, 1), (23, .goto 4, 3)] := ab_da (by decide +kernel)
theorem ab_dk113_1 : ab_dp 113 [(26, .iconst 0, 1), (27, .iadd, 1), (28, .istore_n 2, 1), (29, .iinc 3 1, 3), (32, .goto (-28), 3), (35, .iload_n 2, 1), (36, .ireturn, 1)] := ab_da (by decide +kernel)
theorem ab_s113_0 : ab_Sn B 113 0 (ab_o_const 0 1) := ab_s_iconst (n := 0) ab_dk113_0.1 rfl
theorem ab_s113_1 : ab_Sn B 113 1 (ab_o_ist 2 2) := ab_s_istore_n (k := 2) (n := 2) ab_dk113_0.2.1 rfl
theorem ab_s113_2 : ab_Sn B 113 2 (ab_o_const 0 3) := ab_s_iconst (n := 0) ab_dk113_0.2.2.1 rfl
theorem ab_s113_3 : ab_Sn B 113 3 (ab_o_ist 3 4) := ab_s_istore_n (k := 3) (n := 3) ab_dk113_0.2.2.2.1 rfl
theorem ab_s113_4 : ab_Sn B 113 4 (ab_o_ild 3 5) := ab_s_iload_n (k := 3) (n := 3) ab_dk113_0.2.2.2.2.1 rfl
theorem ab_s113_5 : ab_Sn B 113 5 (ab_o_ald 0 6) := ab_s_aload_n (k := 0) (n := 0) ab_dk113_0.2.2.2.2.2.1 rfl
theorem ab_s113_6 : ab_Sn B 113 6 (ab_o_geti 8 22 1 9) := ab_s_geti (i := 43) (ci := 4) (N := 22) (k := 1) (C := RX4) (T := TX4) ab_dk113_0.2.2.2.2.2.2.1 rfl (by decide) rfl wf_461
theorem ab_s113_9 : ab_Sn B 113 9 (ab_o_icmp ab_ge 35 12) := ab_s_icmp_ge (tg := 35) (off := 26) ab_dk113_0.2.2.2.2.2.2.2.1 (by decide)
theorem ab_s113_12 : ab_Sn B 113 12 (ab_o_ild 2 13) := ab_s_iload_n (k := 2) (n := 2) ab_dk113_0.2.2.2.2.2.2.2.2.1 rfl
theorem ab_s113_13 : ab_Sn B 113 13 (ab_o_ald 0 14) := ab_s_aload_n (k := 0) (n := 0) ab_dk113_0.2.2.2.2.2.2.2.2.2.1 rfl
theorem ab_s113_14 : ab_Sn B 113 14 (ab_o_ild 3 15) := ab_s_iload_n (k := 3) (n := 3) ab_dk113_0.2.2.2.2.2.2.2.2.2.2.1 rfl
theorem ab_s113_15 : ab_Sn B 113 15 (ab_o_ild 1 16) := ab_s_iload_n (k := 1) (n := 1) ab_dk113_0.2.2.2.2.2.2.2.2.2.2.2.1 rfl
theorem ab_s113_16 : ab_Sn B 113 16 (ab_o_call (some (8, 22)) [] 111 3 3 true 19) := ab_s_callV (M' := 111) (na := 2) (i := 64) (ci := 4) (N := 22) (C := RX4) (T := TX4) (v := true) (ab_hok_n (by decide +kernel)) (by decide +kernel) ab_dk113_0.2.2.2.2.2.2.2.2.2.2.2.2.1 rfl (by decide) (by decide +kernel) (by decide +kernel) (by decide) wf_478 wf_479 wf_480 wf_481 wf_459
theorem ab_s113_19 : ab_Sn B 113 19 (ab_o_if ab_eq 26 22) := ab_s_if_eq (tg := 26) (off := 7) ab_dk113_0.2.2.2.2.2.2.2.2.2.2.2.2.2.1 (by decide)
theorem ab_s113_22 : ab_Sn B 113 22 (ab_o_const 1 23) := ab_s_iconst (n := 1) ab_dk113_0.2.2.2.2.2.2.2.2.2.2.2.2.2.2.1 rfl
theorem ab_s113_23 : ab_Sn B 113 23 (ab_o_goto 27) := ab_s_goto (tg := 27) (off := 4) ab_dk113_0.2.2.2.2.2.2.2.2.2.2.2.2.2.2.2.1 (by decide)
theorem ab_s113_26 : ab_Sn B 113 26 (ab_o_const 0 27) := ab_s_iconst (n := 0) ab_dk113_1.1 rfl
theorem ab_s113_27 : ab_Sn B 113 27 (ab_o_bin (fun a b => a + b) 28) := ab_s_iadd ab_dk113_1.2.1
theorem ab_s113_28 : ab_Sn B 113 28 (ab_o_ist 2 29) := ab_s_istore_n (k := 2) (n := 2) ab_dk113_1.2.2.1 rfl
theorem ab_s113_29 : ab_Sn B 113 29 (ab_o_inc 3 1 32) := ab_s_iinc (k := 3) (n := 1) ab_dk113_1.2.2.2.1
theorem ab_s113_32 : ab_Sn B 113 32 (ab_o_goto 4) := ab_s_goto (tg := 4) (off := -28) ab_dk113_1.2.2.2.2.1 (by decide)
theorem ab_s113_35 : ab_Sn B 113 35 (ab_o_ild 2 36) := ab_s_iload_n (k := 2) (n := 2) ab_dk113_1.2.2.2.2.2.1 rfl
theorem ab_s113_36 : ab_Sn B 113 36 (ab_o_iret false) := ab_s_iret (b := false) (ty := .int) ab_dk113_1.2.2.2.2.2.2.1 rfl (Or.inl ⟨rfl, rfl⟩)
set_option maxRecDepth 20000 in
theorem ab_sn113 : ab_all B 113 0 (ab_c113) := ⟨ab_s113_0, ab_s113_1, ab_s113_2, ab_s113_3, ab_s113_4, ab_s113_5, ab_s113_6, trivial, trivial, ab_s113_9, trivial, trivial, ab_s113_12, ab_s113_13, ab_s113_14, ab_s113_15, ab_s113_16, trivial, trivial, ab_s113_19, trivial, trivial, ab_s113_22, ab_s113_23, trivial, trivial, ab_s113_26, ab_s113_27, ab_s113_28, ab_s113_29, trivial, trivial, ab_s113_32, trivial, trivial, ab_s113_35, ab_s113_36, trivial⟩
theorem ab_dk114_0 : ab_dp 114 [(0, .iconst 0, 1), (1, .istore_n 3, 1), (2, .iconst 0, 1), (3, .istore 4, 2), (5, .iload 4, 2), (7, .aload_n 0, 1), (8, .getfield 43, 3), (11, .if_icmp .ge 31, 3), (14, .iload_n 3, 1), (15, .iload 4, 2), (17, .iload_n 1, 1), (18, .if_icmp .ne 7, 3), (21, .iconst 0, 1), (22, .goto 12, 3), (25, .aload_n 0, 1), (26, .getfield 9, 3)] := ab_da (by decide +kernel)
theorem ab_dk114_1 : ab_dp 114 [(29, .iload 4, 2), (31, .aaload, 1), (32, .iload_n 2, 1), (33, .iaload, 1), (34, .ixor, 1), (35, .istore_n 3, 1), (36, .iinc 4 1, 3), (39, .goto (-34), 3), (42, .iload_n 3, 1), (43, .ireturn, 1)] := ab_da (by decide +kernel)
theorem ab_s114_0 : ab_Sn B 114 0 (ab_o_const 0 1) := ab_s_iconst (n := 0) ab_dk114_0.1 rfl
theorem ab_s114_1 : ab_Sn B 114 1 (ab_o_ist 3 2) := ab_s_istore_n (k := 3) (n := 3) ab_dk114_0.2.1 rfl
theorem ab_s114_2 : ab_Sn B 114 2 (ab_o_const 0 3) := ab_s_iconst (n := 0) ab_dk114_0.2.2.1 rfl
theorem ab_s114_3 : ab_Sn B 114 3 (ab_o_ist 4 5) := ab_s_istore (k := 4) ab_dk114_0.2.2.2.1
theorem ab_s114_5 : ab_Sn B 114 5 (ab_o_ild 4 7) := ab_s_iload (k := 4) ab_dk114_0.2.2.2.2.1
theorem ab_s114_7 : ab_Sn B 114 7 (ab_o_ald 0 8) := ab_s_aload_n (k := 0) (n := 0) ab_dk114_0.2.2.2.2.2.1 rfl
theorem ab_s114_8 : ab_Sn B 114 8 (ab_o_geti 8 22 1 11) := ab_s_geti (i := 43) (ci := 4) (N := 22) (k := 1) (C := RX4) (T := TX4) ab_dk114_0.2.2.2.2.2.2.1 rfl (by decide) rfl wf_461
theorem ab_s114_11 : ab_Sn B 114 11 (ab_o_icmp ab_ge 42 14) := ab_s_icmp_ge (tg := 42) (off := 31) ab_dk114_0.2.2.2.2.2.2.2.1 (by decide)
theorem ab_s114_14 : ab_Sn B 114 14 (ab_o_ild 3 15) := ab_s_iload_n (k := 3) (n := 3) ab_dk114_0.2.2.2.2.2.2.2.2.1 rfl
theorem ab_s114_15 : ab_Sn B 114 15 (ab_o_ild 4 17) := ab_s_iload (k := 4) ab_dk114_0.2.2.2.2.2.2.2.2.2.1
theorem ab_s114_17 : ab_Sn B 114 17 (ab_o_ild 1 18) := ab_s_iload_n (k := 1) (n := 1) ab_dk114_0.2.2.2.2.2.2.2.2.2.2.1 rfl
theorem ab_s114_18 : ab_Sn B 114 18 (ab_o_icmp ab_ne 25 21) := ab_s_icmp_ne (tg := 25) (off := 7) ab_dk114_0.2.2.2.2.2.2.2.2.2.2.2.1 (by decide)
theorem ab_s114_21 : ab_Sn B 114 21 (ab_o_const 0 22) := ab_s_iconst (n := 0) ab_dk114_0.2.2.2.2.2.2.2.2.2.2.2.2.1 rfl
theorem ab_s114_22 : ab_Sn B 114 22 (ab_o_goto 34) := ab_s_goto (tg := 34) (off := 12) ab_dk114_0.2.2.2.2.2.2.2.2.2.2.2.2.2.1 (by decide)
theorem ab_s114_25 : ab_Sn B 114 25 (ab_o_ald 0 26) := ab_s_aload_n (k := 0) (n := 0) ab_dk114_0.2.2.2.2.2.2.2.2.2.2.2.2.2.2.1 rfl
theorem ab_s114_26 : ab_Sn B 114 26 (ab_o_getr 8 22 4 29) := ab_s_getr (i := 9) (ci := 4) (N := 22) (k := 4) (C := RX4) (T := TX4) ab_dk114_0.2.2.2.2.2.2.2.2.2.2.2.2.2.2.2.1 rfl (by decide) rfl wf_447
theorem ab_s114_29 : ab_Sn B 114 29 (ab_o_ild 4 31) := ab_s_iload (k := 4) ab_dk114_1.1
theorem ab_s114_31 : ab_Sn B 114 31 (ab_o_aald 32) := ab_s_aald ab_dk114_1.2.1
theorem ab_s114_32 : ab_Sn B 114 32 (ab_o_ild 2 33) := ab_s_iload_n (k := 2) (n := 2) ab_dk114_1.2.2.1 rfl
theorem ab_s114_33 : ab_Sn B 114 33 (ab_o_xld 0 34) := ab_s_iaload ab_dk114_1.2.2.2.1
theorem ab_s114_34 : ab_Sn B 114 34 (ab_o_bin ab_ixor 35) := ab_s_ixor ab_dk114_1.2.2.2.2.1
theorem ab_s114_35 : ab_Sn B 114 35 (ab_o_ist 3 36) := ab_s_istore_n (k := 3) (n := 3) ab_dk114_1.2.2.2.2.2.1 rfl
theorem ab_s114_36 : ab_Sn B 114 36 (ab_o_inc 4 1 39) := ab_s_iinc (k := 4) (n := 1) ab_dk114_1.2.2.2.2.2.2.1
theorem ab_s114_39 : ab_Sn B 114 39 (ab_o_goto 5) := ab_s_goto (tg := 5) (off := -34) ab_dk114_1.2.2.2.2.2.2.2.1 (by decide)
theorem ab_s114_42 : ab_Sn B 114 42 (ab_o_ild 3 43) := ab_s_iload_n (k := 3) (n := 3) ab_dk114_1.2.2.2.2.2.2.2.2.1 rfl
theorem ab_s114_43 : ab_Sn B 114 43 (ab_o_iret false) := ab_s_iret (b := false) (ty := .int) ab_dk114_1.2.2.2.2.2.2.2.2.2.1 rfl (Or.inl ⟨rfl, rfl⟩)
set_option maxRecDepth 20000 in
theorem ab_sn114 : ab_all B 114 0 (ab_c114) := ⟨ab_s114_0, ab_s114_1, ab_s114_2, ab_s114_3, trivial, ab_s114_5, trivial, ab_s114_7, ab_s114_8, trivial, trivial, ab_s114_11, trivial, trivial, ab_s114_14, ab_s114_15, trivial, ab_s114_17, ab_s114_18, trivial, trivial, ab_s114_21, ab_s114_22, trivial, trivial, ab_s114_25, ab_s114_26, trivial, trivial, ab_s114_29, trivial, ab_s114_31, ab_s114_32, ab_s114_33, ab_s114_34, ab_s114_35, ab_s114_36, trivial, trivial, ab_s114_39, trivial, trivial, ab_s114_42, ab_s114_43, trivial⟩
theorem ab_dk115_0 : ab_dp 115 [(0, .aload_n 0, 1), (1, .iload_n 1, 1), (2, .iload_n 2, 1), (3, .invokevirtual 64, 3), (6, .ifCond .ne 12, 3), (9, .aload_n 0, 1), (10, .getfield 9, 3), (13, .iload_n 1, 1), (14, .aaload, 1), (15, .iload_n 2, 1), (16, .iaload, 1), (17, .ireturn, 1), (18, .aload_n 0, 1), (19, .iload_n 2, 1), (20, .invokevirtual 68, 3), (23, .iconst 1, 1)] := ab_da (by decide +kernel)
theorem ab_dk115_1 : ab_dp 115 [(24, .if_icmp .le 7, 3), (27, .iconst (-1), 1), (28, .goto 9, 3), (31, .aload_n 0, 1), (32, .iload_n 1, 1), (33, .iload_n 2, 1), (34, .invokevirtual 71, 3), (37, .ireturn, 1)] := ab_da (by decide +kernel)
theorem ab_s115_0 : ab_Sn B 115 0 (ab_o_ald 0 1) := ab_s_aload_n (k := 0) (n := 0) ab_dk115_0.1 rfl
theorem ab_s115_1 : ab_Sn B 115 1 (ab_o_ild 1 2) := ab_s_iload_n (k := 1) (n := 1) ab_dk115_0.2.1 rfl
theorem ab_s115_2 : ab_Sn B 115 2 (ab_o_ild 2 3) := ab_s_iload_n (k := 2) (n := 2) ab_dk115_0.2.2.1 rfl
theorem ab_s115_3 : ab_Sn B 115 3 (ab_o_call (some (8, 22)) [] 111 3 3 true 6) := ab_s_callV (M' := 111) (na := 2) (i := 64) (ci := 4) (N := 22) (C := RX4) (T := TX4) (v := true) (ab_hok_n (by decide +kernel)) (by decide +kernel) ab_dk115_0.2.2.2.1 rfl (by decide) (by decide +kernel) (by decide +kernel) (by decide) wf_478 wf_479 wf_480 wf_481 wf_459
theorem ab_s115_6 : ab_Sn B 115 6 (ab_o_if ab_ne 18 9) := ab_s_if_ne (tg := 18) (off := 12) ab_dk115_0.2.2.2.2.1 (by decide)
theorem ab_s115_9 : ab_Sn B 115 9 (ab_o_ald 0 10) := ab_s_aload_n (k := 0) (n := 0) ab_dk115_0.2.2.2.2.2.1 rfl
theorem ab_s115_10 : ab_Sn B 115 10 (ab_o_getr 8 22 4 13) := ab_s_getr (i := 9) (ci := 4) (N := 22) (k := 4) (C := RX4) (T := TX4) ab_dk115_0.2.2.2.2.2.2.1 rfl (by decide) rfl wf_447
theorem ab_s115_13 : ab_Sn B 115 13 (ab_o_ild 1 14) := ab_s_iload_n (k := 1) (n := 1) ab_dk115_0.2.2.2.2.2.2.2.1 rfl
theorem ab_s115_14 : ab_Sn B 115 14 (ab_o_aald 15) := ab_s_aald ab_dk115_0.2.2.2.2.2.2.2.2.1
theorem ab_s115_15 : ab_Sn B 115 15 (ab_o_ild 2 16) := ab_s_iload_n (k := 2) (n := 2) ab_dk115_0.2.2.2.2.2.2.2.2.2.1 rfl
theorem ab_s115_16 : ab_Sn B 115 16 (ab_o_xld 0 17) := ab_s_iaload ab_dk115_0.2.2.2.2.2.2.2.2.2.2.1
theorem ab_s115_17 : ab_Sn B 115 17 (ab_o_iret false) := ab_s_iret (b := false) (ty := .int) ab_dk115_0.2.2.2.2.2.2.2.2.2.2.2.1 rfl (Or.inl ⟨rfl, rfl⟩)
theorem ab_s115_18 : ab_Sn B 115 18 (ab_o_ald 0 19) := ab_s_aload_n (k := 0) (n := 0) ab_dk115_0.2.2.2.2.2.2.2.2.2.2.2.2.1 rfl
theorem ab_s115_19 : ab_Sn B 115 19 (ab_o_ild 2 20) := ab_s_iload_n (k := 2) (n := 2) ab_dk115_0.2.2.2.2.2.2.2.2.2.2.2.2.2.1 rfl
theorem ab_s115_20 : ab_Sn B 115 20 (ab_o_call (some (8, 22)) [] 113 4 2 true 23) := ab_s_callV (M' := 113) (na := 1) (i := 68) (ci := 4) (N := 22) (C := RX4) (T := TX4) (v := true) (ab_hok_n (by decide +kernel)) (by decide +kernel) ab_dk115_0.2.2.2.2.2.2.2.2.2.2.2.2.2.2.1 rfl (by decide) (by decide +kernel) (by decide +kernel) (by decide) wf_482 wf_483 wf_484 wf_485 wf_459
theorem ab_s115_23 : ab_Sn B 115 23 (ab_o_const 1 24) := ab_s_iconst (n := 1) ab_dk115_0.2.2.2.2.2.2.2.2.2.2.2.2.2.2.2.1 rfl
theorem ab_s115_24 : ab_Sn B 115 24 (ab_o_icmp ab_le 31 27) := ab_s_icmp_le (tg := 31) (off := 7) ab_dk115_1.1 (by decide)
theorem ab_s115_27 : ab_Sn B 115 27 (ab_o_const (-1) 28) := ab_s_iconst (n := (-1)) ab_dk115_1.2.1 rfl
theorem ab_s115_28 : ab_Sn B 115 28 (ab_o_goto 37) := ab_s_goto (tg := 37) (off := 9) ab_dk115_1.2.2.1 (by decide)
theorem ab_s115_31 : ab_Sn B 115 31 (ab_o_ald 0 32) := ab_s_aload_n (k := 0) (n := 0) ab_dk115_1.2.2.2.1 rfl
theorem ab_s115_32 : ab_Sn B 115 32 (ab_o_ild 1 33) := ab_s_iload_n (k := 1) (n := 1) ab_dk115_1.2.2.2.2.1 rfl
theorem ab_s115_33 : ab_Sn B 115 33 (ab_o_ild 2 34) := ab_s_iload_n (k := 2) (n := 2) ab_dk115_1.2.2.2.2.2.1 rfl
theorem ab_s115_34 : ab_Sn B 115 34 (ab_o_call (some (8, 22)) [] 114 5 3 true 37) := ab_s_callV (M' := 114) (na := 2) (i := 71) (ci := 4) (N := 22) (C := RX4) (T := TX4) (v := true) (ab_hok_n (by decide +kernel)) (by decide +kernel) ab_dk115_1.2.2.2.2.2.2.1 rfl (by decide) (by decide +kernel) (by decide +kernel) (by decide) wf_486 wf_487 wf_488 wf_489 wf_459
theorem ab_s115_37 : ab_Sn B 115 37 (ab_o_iret false) := ab_s_iret (b := false) (ty := .int) ab_dk115_1.2.2.2.2.2.2.2.1 rfl (Or.inl ⟨rfl, rfl⟩)
set_option maxRecDepth 20000 in
theorem ab_sn115 : ab_all B 115 0 (ab_c115) := ⟨ab_s115_0, ab_s115_1, ab_s115_2, ab_s115_3, trivial, trivial, ab_s115_6, trivial, trivial, ab_s115_9, ab_s115_10, trivial, trivial, ab_s115_13, ab_s115_14, ab_s115_15, ab_s115_16, ab_s115_17, ab_s115_18, ab_s115_19, ab_s115_20, trivial, trivial, ab_s115_23, ab_s115_24, trivial, trivial, ab_s115_27, ab_s115_28, trivial, trivial, ab_s115_31, ab_s115_32, ab_s115_33, ab_s115_34, trivial, trivial, ab_s115_37, trivial⟩
theorem ab_dk116_0 : ab_dp 116 [(0, .aload_n 0, 1), (1, .iload_n 1, 1), (2, .invokevirtual 68, 3), (5, .iconst 1, 1), (6, .if_icmp .eq 5, 3), (9, .iconst 0, 1), (10, .ireturn, 1), (11, .iconst 0, 1), (12, .istore_n 2, 1), (13, .iload_n 2, 1), (14, .aload_n 0, 1), (15, .getfield 43, 3), (18, .if_icmp .ge 54, 3), (21, .aload_n 0, 1), (22, .iload_n 2, 1), (23, .iload_n 1, 1)] := ab_da (by decide +kernel)
theorem ab_dk116_1 : ab_dp 116 [(24, .invokevirtual 64, 3), (27, .ifCond .eq 39, 3), (30, .aload_n 0, 1), (31, .getfield 17, 3), (34, .iload_n 2, 1), (35, .baload, 1), (36, .ifCond .eq 6, 3), (39, .goto 27, 3), (42, .aload_n 0, 1), (43, .iload_n 2, 1), (44, .iload_n 1, 1), (45, .aload_n 0, 1), (46, .iload_n 2, 1), (47, .iload_n 1, 1), (48, .invokevirtual 71, 3), (51, .invokevirtual 75, 3)] := ab_da (by decide +kernel)
theorem ab_dk116_2 : ab_dp 116 [(54, .aload_n 0, 1), (55, .dup, 1), (56, .getfield 79, 3), (59, .iconst 1, 1), (60, .iadd, 1), (61, .putfield 79, 3), (64, .iconst 1, 1), (65, .ireturn, 1), (66, .iinc 2 1, 3), (69, .goto (-56), 3), (72, .iconst 0, 1), (73, .ireturn, 1)] := ab_da (by decide +kernel)
theorem ab_s116_0 : ab_Sn B 116 0 (ab_o_ald 0 1) := ab_s_aload_n (k := 0) (n := 0) ab_dk116_0.1 rfl
theorem ab_s116_1 : ab_Sn B 116 1 (ab_o_ild 1 2) := ab_s_iload_n (k := 1) (n := 1) ab_dk116_0.2.1 rfl
theorem ab_s116_2 : ab_Sn B 116 2 (ab_o_call (some (8, 22)) [] 113 4 2 true 5) := ab_s_callV (M' := 113) (na := 1) (i := 68) (ci := 4) (N := 22) (C := RX4) (T := TX4) (v := true) (ab_hok_n (by decide +kernel)) (by decide +kernel) ab_dk116_0.2.2.1 rfl (by decide) (by decide +kernel) (by decide +kernel) (by decide) wf_482 wf_483 wf_484 wf_485 wf_459
theorem ab_s116_5 : ab_Sn B 116 5 (ab_o_const 1 6) := ab_s_iconst (n := 1) ab_dk116_0.2.2.2.1 rfl
theorem ab_s116_6 : ab_Sn B 116 6 (ab_o_icmp ab_eq 11 9) := ab_s_icmp_eq (tg := 11) (off := 5) ab_dk116_0.2.2.2.2.1 (by decide)
theorem ab_s116_9 : ab_Sn B 116 9 (ab_o_const 0 10) := ab_s_iconst (n := 0) ab_dk116_0.2.2.2.2.2.1 rfl
theorem ab_s116_10 : ab_Sn B 116 10 (ab_o_iret false) := ab_s_iret (b := false) (ty := .int) ab_dk116_0.2.2.2.2.2.2.1 rfl (Or.inl ⟨rfl, rfl⟩)
theorem ab_s116_11 : ab_Sn B 116 11 (ab_o_const 0 12) := ab_s_iconst (n := 0) ab_dk116_0.2.2.2.2.2.2.2.1 rfl
theorem ab_s116_12 : ab_Sn B 116 12 (ab_o_ist 2 13) := ab_s_istore_n (k := 2) (n := 2) ab_dk116_0.2.2.2.2.2.2.2.2.1 rfl
theorem ab_s116_13 : ab_Sn B 116 13 (ab_o_ild 2 14) := ab_s_iload_n (k := 2) (n := 2) ab_dk116_0.2.2.2.2.2.2.2.2.2.1 rfl
theorem ab_s116_14 : ab_Sn B 116 14 (ab_o_ald 0 15) := ab_s_aload_n (k := 0) (n := 0) ab_dk116_0.2.2.2.2.2.2.2.2.2.2.1 rfl
theorem ab_s116_15 : ab_Sn B 116 15 (ab_o_geti 8 22 1 18) := ab_s_geti (i := 43) (ci := 4) (N := 22) (k := 1) (C := RX4) (T := TX4) ab_dk116_0.2.2.2.2.2.2.2.2.2.2.2.1 rfl (by decide) rfl wf_461
theorem ab_s116_18 : ab_Sn B 116 18 (ab_o_icmp ab_ge 72 21) := ab_s_icmp_ge (tg := 72) (off := 54) ab_dk116_0.2.2.2.2.2.2.2.2.2.2.2.2.1 (by decide)
theorem ab_s116_21 : ab_Sn B 116 21 (ab_o_ald 0 22) := ab_s_aload_n (k := 0) (n := 0) ab_dk116_0.2.2.2.2.2.2.2.2.2.2.2.2.2.1 rfl
theorem ab_s116_22 : ab_Sn B 116 22 (ab_o_ild 2 23) := ab_s_iload_n (k := 2) (n := 2) ab_dk116_0.2.2.2.2.2.2.2.2.2.2.2.2.2.2.1 rfl
theorem ab_s116_23 : ab_Sn B 116 23 (ab_o_ild 1 24) := ab_s_iload_n (k := 1) (n := 1) ab_dk116_0.2.2.2.2.2.2.2.2.2.2.2.2.2.2.2.1 rfl
theorem ab_s116_24 : ab_Sn B 116 24 (ab_o_call (some (8, 22)) [] 111 3 3 true 27) := ab_s_callV (M' := 111) (na := 2) (i := 64) (ci := 4) (N := 22) (C := RX4) (T := TX4) (v := true) (ab_hok_n (by decide +kernel)) (by decide +kernel) ab_dk116_1.1 rfl (by decide) (by decide +kernel) (by decide +kernel) (by decide) wf_478 wf_479 wf_480 wf_481 wf_459
theorem ab_s116_27 : ab_Sn B 116 27 (ab_o_if ab_eq 66 30) := ab_s_if_eq (tg := 66) (off := 39) ab_dk116_1.2.1 (by decide)
theorem ab_s116_30 : ab_Sn B 116 30 (ab_o_ald 0 31) := ab_s_aload_n (k := 0) (n := 0) ab_dk116_1.2.2.1 rfl
theorem ab_s116_31 : ab_Sn B 116 31 (ab_o_getr 8 22 6 34) := ab_s_getr (i := 17) (ci := 4) (N := 22) (k := 6) (C := RX4) (T := TX4) ab_dk116_1.2.2.2.1 rfl (by decide) rfl wf_449
theorem ab_s116_34 : ab_Sn B 116 34 (ab_o_ild 2 35) := ab_s_iload_n (k := 2) (n := 2) ab_dk116_1.2.2.2.2.1 rfl
theorem ab_s116_35 : ab_Sn B 116 35 (ab_o_xld 1 36) := ab_s_baload ab_dk116_1.2.2.2.2.2.1
theorem ab_s116_36 : ab_Sn B 116 36 (ab_o_if ab_eq 42 39) := ab_s_if_eq (tg := 42) (off := 6) ab_dk116_1.2.2.2.2.2.2.1 (by decide)
theorem ab_s116_39 : ab_Sn B 116 39 (ab_o_goto 66) := ab_s_goto (tg := 66) (off := 27) ab_dk116_1.2.2.2.2.2.2.2.1 (by decide)
theorem ab_s116_42 : ab_Sn B 116 42 (ab_o_ald 0 43) := ab_s_aload_n (k := 0) (n := 0) ab_dk116_1.2.2.2.2.2.2.2.2.1 rfl
theorem ab_s116_43 : ab_Sn B 116 43 (ab_o_ild 2 44) := ab_s_iload_n (k := 2) (n := 2) ab_dk116_1.2.2.2.2.2.2.2.2.2.1 rfl
theorem ab_s116_44 : ab_Sn B 116 44 (ab_o_ild 1 45) := ab_s_iload_n (k := 1) (n := 1) ab_dk116_1.2.2.2.2.2.2.2.2.2.2.1 rfl
theorem ab_s116_45 : ab_Sn B 116 45 (ab_o_ald 0 46) := ab_s_aload_n (k := 0) (n := 0) ab_dk116_1.2.2.2.2.2.2.2.2.2.2.2.1 rfl
theorem ab_s116_46 : ab_Sn B 116 46 (ab_o_ild 2 47) := ab_s_iload_n (k := 2) (n := 2) ab_dk116_1.2.2.2.2.2.2.2.2.2.2.2.2.1 rfl
theorem ab_s116_47 : ab_Sn B 116 47 (ab_o_ild 1 48) := ab_s_iload_n (k := 1) (n := 1) ab_dk116_1.2.2.2.2.2.2.2.2.2.2.2.2.2.1 rfl
theorem ab_s116_48 : ab_Sn B 116 48 (ab_o_call (some (8, 22)) [] 114 5 3 true 51) := ab_s_callV (M' := 114) (na := 2) (i := 71) (ci := 4) (N := 22) (C := RX4) (T := TX4) (v := true) (ab_hok_n (by decide +kernel)) (by decide +kernel) ab_dk116_1.2.2.2.2.2.2.2.2.2.2.2.2.2.2.1 rfl (by decide) (by decide +kernel) (by decide +kernel) (by decide) wf_486 wf_487 wf_488 wf_489 wf_459
theorem ab_s116_51 : ab_Sn B 116 51 (ab_o_call (some (8, 22)) [] 112 4 4 false 54) := ab_s_callV (M' := 112) (na := 3) (i := 75) (ci := 4) (N := 22) (C := RX4) (T := TX4) (v := false) (ab_hok_n (by decide +kernel)) (by decide +kernel) ab_dk116_1.2.2.2.2.2.2.2.2.2.2.2.2.2.2.2.1 rfl (by decide) (by decide +kernel) (by decide +kernel) (by decide) wf_490 wf_491 wf_492 wf_493 wf_459
theorem ab_s116_54 : ab_Sn B 116 54 (ab_o_ald 0 55) := ab_s_aload_n (k := 0) (n := 0) ab_dk116_2.1 rfl
theorem ab_s116_55 : ab_Sn B 116 55 (ab_o_dup 56) := ab_s_dup ab_dk116_2.2.1
theorem ab_s116_56 : ab_Sn B 116 56 (ab_o_geti 8 22 16 59) := ab_s_geti (i := 79) (ci := 4) (N := 22) (k := 16) (C := RX4) (T := TX4) ab_dk116_2.2.2.1 rfl (by decide) rfl wf_494
theorem ab_s116_59 : ab_Sn B 116 59 (ab_o_const 1 60) := ab_s_iconst (n := 1) ab_dk116_2.2.2.2.1 rfl
theorem ab_s116_60 : ab_Sn B 116 60 (ab_o_bin (fun a b => a + b) 61) := ab_s_iadd ab_dk116_2.2.2.2.2.1
theorem ab_s116_61 : ab_Sn B 116 61 (ab_o_puti 8 22 16 false 64) := ab_s_puti (b := false) (ty := .int) (i := 79) (ci := 4) (N := 22) (k := 16) (C := RX4) (T := TX4) ab_dk116_2.2.2.2.2.2.1 rfl (by decide) rfl wf_494 rfl (by decide +kernel) (Or.inl ⟨rfl, rfl⟩)
theorem ab_s116_64 : ab_Sn B 116 64 (ab_o_const 1 65) := ab_s_iconst (n := 1) ab_dk116_2.2.2.2.2.2.2.1 rfl
theorem ab_s116_65 : ab_Sn B 116 65 (ab_o_iret false) := ab_s_iret (b := false) (ty := .int) ab_dk116_2.2.2.2.2.2.2.2.1 rfl (Or.inl ⟨rfl, rfl⟩)
theorem ab_s116_66 : ab_Sn B 116 66 (ab_o_inc 2 1 69) := ab_s_iinc (k := 2) (n := 1) ab_dk116_2.2.2.2.2.2.2.2.2.1
theorem ab_s116_69 : ab_Sn B 116 69 (ab_o_goto 13) := ab_s_goto (tg := 13) (off := -56) ab_dk116_2.2.2.2.2.2.2.2.2.2.1 (by decide)
theorem ab_s116_72 : ab_Sn B 116 72 (ab_o_const 0 73) := ab_s_iconst (n := 0) ab_dk116_2.2.2.2.2.2.2.2.2.2.2.1 rfl
theorem ab_s116_73 : ab_Sn B 116 73 (ab_o_iret false) := ab_s_iret (b := false) (ty := .int) ab_dk116_2.2.2.2.2.2.2.2.2.2.2.2.1 rfl (Or.inl ⟨rfl, rfl⟩)
set_option maxRecDepth 20000 in
theorem ab_sn116 : ab_all B 116 0 (ab_c116) := ⟨ab_s116_0, ab_s116_1, ab_s116_2, trivial, trivial, ab_s116_5, ab_s116_6, trivial, trivial, ab_s116_9, ab_s116_10, ab_s116_11, ab_s116_12, ab_s116_13, ab_s116_14, ab_s116_15, trivial, trivial, ab_s116_18, trivial, trivial, ab_s116_21, ab_s116_22, ab_s116_23, ab_s116_24, trivial, trivial, ab_s116_27, trivial, trivial, ab_s116_30, ab_s116_31, trivial, trivial, ab_s116_34, ab_s116_35, ab_s116_36, trivial, trivial, ab_s116_39, trivial, trivial, ab_s116_42, ab_s116_43, ab_s116_44, ab_s116_45, ab_s116_46, ab_s116_47, ab_s116_48, trivial, trivial, ab_s116_51, trivial, trivial, ab_s116_54, ab_s116_55, ab_s116_56, trivial, trivial, ab_s116_59, ab_s116_60, ab_s116_61, trivial, trivial, ab_s116_64, ab_s116_65, ab_s116_66, trivial, trivial, ab_s116_69, trivial, trivial, ab_s116_72, ab_s116_73, trivial⟩
theorem ab_dk117_0 : ab_dp 117 [(0, .aload_n 0, 1), (1, .aload_n 0, 1), (2, .iload_n 1, 1), (3, .invokevirtual 82, 3), (6, .aload_n 0, 1), (7, .iload_n 1, 1), (8, .invokevirtual 57, 3), (11, .invokevirtual 85, 3), (14, .ireturn, 1)] := ab_da (by decide +kernel)
theorem ab_s117_0 : ab_Sn B 117 0 (ab_o_ald 0 1) := ab_s_aload_n (k := 0) (n := 0) ab_dk117_0.1 rfl
theorem ab_s117_1 : ab_Sn B 117 1 (ab_o_ald 0 2) := ab_s_aload_n (k := 0) (n := 0) ab_dk117_0.2.1 rfl
theorem ab_s117_2 : ab_Sn B 117 2 (ab_o_ild 1 3) := ab_s_iload_n (k := 1) (n := 1) ab_dk117_0.2.2.1 rfl
theorem ab_s117_3 : ab_Sn B 117 3 (ab_o_call (some (8, 22)) [] 109 3 2 true 6) := ab_s_callV (M' := 109) (na := 1) (i := 82) (ci := 4) (N := 22) (C := RX4) (T := TX4) (v := true) (ab_hok_n (by decide +kernel)) (by decide +kernel) ab_dk117_0.2.2.2.1 rfl (by decide) (by decide +kernel) (by decide +kernel) (by decide) wf_495 wf_496 wf_497 wf_498 wf_459
theorem ab_s117_6 : ab_Sn B 117 6 (ab_o_ald 0 7) := ab_s_aload_n (k := 0) (n := 0) ab_dk117_0.2.2.2.2.1 rfl
theorem ab_s117_7 : ab_Sn B 117 7 (ab_o_ild 1 8) := ab_s_iload_n (k := 1) (n := 1) ab_dk117_0.2.2.2.2.2.1 rfl
theorem ab_s117_8 : ab_Sn B 117 8 (ab_o_call (some (8, 22)) [] 107 2 2 true 11) := ab_s_callV (M' := 107) (na := 1) (i := 57) (ci := 4) (N := 22) (C := RX4) (T := TX4) (v := true) (ab_hok_n (by decide +kernel)) (by decide +kernel) ab_dk117_0.2.2.2.2.2.2.1 rfl (by decide) (by decide +kernel) (by decide +kernel) (by decide) wf_470 wf_471 wf_472 wf_473 wf_459
theorem ab_s117_11 : ab_Sn B 117 11 (ab_o_call (some (8, 22)) [] 115 3 3 true 14) := ab_s_callV (M' := 115) (na := 2) (i := 85) (ci := 4) (N := 22) (C := RX4) (T := TX4) (v := true) (ab_hok_n (by decide +kernel)) (by decide +kernel) ab_dk117_0.2.2.2.2.2.2.2.1 rfl (by decide) (by decide +kernel) (by decide +kernel) (by decide) wf_499 wf_500 wf_501 wf_502 wf_459
theorem ab_s117_14 : ab_Sn B 117 14 (ab_o_iret false) := ab_s_iret (b := false) (ty := .int) ab_dk117_0.2.2.2.2.2.2.2.2.1 rfl (Or.inl ⟨rfl, rfl⟩)
set_option maxRecDepth 20000 in
theorem ab_sn117 : ab_all B 117 0 (ab_c117) := ⟨ab_s117_0, ab_s117_1, ab_s117_2, ab_s117_3, trivial, trivial, ab_s117_6, ab_s117_7, ab_s117_8, trivial, trivial, ab_s117_11, trivial, trivial, ab_s117_14, trivial⟩
theorem ab_dk118_0 : ab_dp 118 [(0, .iconst 0, 1), (1, .istore_n 1, 1), (2, .iconst 0, 1), (3, .istore_n 2, 1), (4, .iload_n 2, 1), (5, .aload_n 0, 1), (6, .invokevirtual 53, 3), (9, .if_icmp .ge 26, 3), (12, .iload_n 1, 1), (13, .aload_n 0, 1), (14, .iload_n 2, 1), (15, .invokevirtual 88, 3), (18, .iconst (-1), 1), (19, .if_icmp .ne 7, 3), (22, .iconst 1, 1), (23, .goto 4, 3)] := ab_da (by decide +kernel)
theorem ab_dk118_1 : ab_dp 118 [(26, .iconst 0, 1), (27, .iadd, 1), (28, .istore_n 1, 1), (29, .iinc 2 1, 3), (32, .goto (-28), 3), (35, .iload_n 1, 1), (36, .ireturn, 1)] := ab_da (by decide +kernel)
theorem ab_s118_0 : ab_Sn B 118 0 (ab_o_const 0 1) := ab_s_iconst (n := 0) ab_dk118_0.1 rfl
theorem ab_s118_1 : ab_Sn B 118 1 (ab_o_ist 1 2) := ab_s_istore_n (k := 1) (n := 1) ab_dk118_0.2.1 rfl
theorem ab_s118_2 : ab_Sn B 118 2 (ab_o_const 0 3) := ab_s_iconst (n := 0) ab_dk118_0.2.2.1 rfl
theorem ab_s118_3 : ab_Sn B 118 3 (ab_o_ist 2 4) := ab_s_istore_n (k := 2) (n := 2) ab_dk118_0.2.2.2.1 rfl
theorem ab_s118_4 : ab_Sn B 118 4 (ab_o_ild 2 5) := ab_s_iload_n (k := 2) (n := 2) ab_dk118_0.2.2.2.2.1 rfl
theorem ab_s118_5 : ab_Sn B 118 5 (ab_o_ald 0 6) := ab_s_aload_n (k := 0) (n := 0) ab_dk118_0.2.2.2.2.2.1 rfl
theorem ab_s118_6 : ab_Sn B 118 6 (ab_o_call (some (8, 22)) [] 106 1 1 true 9) := ab_s_callV (M' := 106) (na := 0) (i := 53) (ci := 4) (N := 22) (C := RX4) (T := TX4) (v := true) (ab_hok_n (by decide +kernel)) (by decide +kernel) ab_dk118_0.2.2.2.2.2.2.1 rfl (by decide) (by decide +kernel) (by decide +kernel) (by decide) wf_466 wf_467 wf_468 wf_469 wf_459
theorem ab_s118_9 : ab_Sn B 118 9 (ab_o_icmp ab_ge 35 12) := ab_s_icmp_ge (tg := 35) (off := 26) ab_dk118_0.2.2.2.2.2.2.2.1 (by decide)
theorem ab_s118_12 : ab_Sn B 118 12 (ab_o_ild 1 13) := ab_s_iload_n (k := 1) (n := 1) ab_dk118_0.2.2.2.2.2.2.2.2.1 rfl
theorem ab_s118_13 : ab_Sn B 118 13 (ab_o_ald 0 14) := ab_s_aload_n (k := 0) (n := 0) ab_dk118_0.2.2.2.2.2.2.2.2.2.1 rfl
theorem ab_s118_14 : ab_Sn B 118 14 (ab_o_ild 2 15) := ab_s_iload_n (k := 2) (n := 2) ab_dk118_0.2.2.2.2.2.2.2.2.2.2.1 rfl
theorem ab_s118_15 : ab_Sn B 118 15 (ab_o_call (some (8, 22)) [] 117 2 2 true 18) := ab_s_callV (M' := 117) (na := 1) (i := 88) (ci := 4) (N := 22) (C := RX4) (T := TX4) (v := true) (ab_hok_n (by decide +kernel)) (by decide +kernel) ab_dk118_0.2.2.2.2.2.2.2.2.2.2.2.1 rfl (by decide) (by decide +kernel) (by decide +kernel) (by decide) wf_503 wf_504 wf_505 wf_506 wf_459
theorem ab_s118_18 : ab_Sn B 118 18 (ab_o_const (-1) 19) := ab_s_iconst (n := (-1)) ab_dk118_0.2.2.2.2.2.2.2.2.2.2.2.2.1 rfl
theorem ab_s118_19 : ab_Sn B 118 19 (ab_o_icmp ab_ne 26 22) := ab_s_icmp_ne (tg := 26) (off := 7) ab_dk118_0.2.2.2.2.2.2.2.2.2.2.2.2.2.1 (by decide)
theorem ab_s118_22 : ab_Sn B 118 22 (ab_o_const 1 23) := ab_s_iconst (n := 1) ab_dk118_0.2.2.2.2.2.2.2.2.2.2.2.2.2.2.1 rfl
theorem ab_s118_23 : ab_Sn B 118 23 (ab_o_goto 27) := ab_s_goto (tg := 27) (off := 4) ab_dk118_0.2.2.2.2.2.2.2.2.2.2.2.2.2.2.2.1 (by decide)
theorem ab_s118_26 : ab_Sn B 118 26 (ab_o_const 0 27) := ab_s_iconst (n := 0) ab_dk118_1.1 rfl
theorem ab_s118_27 : ab_Sn B 118 27 (ab_o_bin (fun a b => a + b) 28) := ab_s_iadd ab_dk118_1.2.1
theorem ab_s118_28 : ab_Sn B 118 28 (ab_o_ist 1 29) := ab_s_istore_n (k := 1) (n := 1) ab_dk118_1.2.2.1 rfl
theorem ab_s118_29 : ab_Sn B 118 29 (ab_o_inc 2 1 32) := ab_s_iinc (k := 2) (n := 1) ab_dk118_1.2.2.2.1
theorem ab_s118_32 : ab_Sn B 118 32 (ab_o_goto 4) := ab_s_goto (tg := 4) (off := -28) ab_dk118_1.2.2.2.2.1 (by decide)
theorem ab_s118_35 : ab_Sn B 118 35 (ab_o_ild 1 36) := ab_s_iload_n (k := 1) (n := 1) ab_dk118_1.2.2.2.2.2.1 rfl
theorem ab_s118_36 : ab_Sn B 118 36 (ab_o_iret false) := ab_s_iret (b := false) (ty := .int) ab_dk118_1.2.2.2.2.2.2.1 rfl (Or.inl ⟨rfl, rfl⟩)
set_option maxRecDepth 20000 in
theorem ab_sn118 : ab_all B 118 0 (ab_c118) := ⟨ab_s118_0, ab_s118_1, ab_s118_2, ab_s118_3, ab_s118_4, ab_s118_5, ab_s118_6, trivial, trivial, ab_s118_9, trivial, trivial, ab_s118_12, ab_s118_13, ab_s118_14, ab_s118_15, trivial, trivial, ab_s118_18, ab_s118_19, trivial, trivial, ab_s118_22, ab_s118_23, trivial, trivial, ab_s118_26, ab_s118_27, ab_s118_28, ab_s118_29, trivial, trivial, ab_s118_32, trivial, trivial, ab_s118_35, ab_s118_36, trivial⟩
theorem ab_dk119_0 : ab_dp 119 [(0, .aload_n 0, 1), (1, .iconst 0, 1), (2, .putfield 91, 3), (5, .aload_n 0, 1), (6, .dup, 1), (7, .getfield 95, 3), (10, .iconst 1, 1), (11, .iadd, 1), (12, .putfield 95, 3), (15, .return_, 1)] := ab_da (by decide +kernel)
theorem ab_s119_0 : ab_Sn B 119 0 (ab_o_ald 0 1) := ab_s_aload_n (k := 0) (n := 0) ab_dk119_0.1 rfl
theorem ab_s119_1 : ab_Sn B 119 1 (ab_o_const 0 2) := ab_s_iconst (n := 0) ab_dk119_0.2.1 rfl
theorem ab_s119_2 : ab_Sn B 119 2 (ab_o_puti 8 22 3 true 5) := ab_s_puti (b := true) (ty := .boolean) (i := 91) (ci := 4) (N := 22) (k := 3) (C := RX4) (T := TX4) ab_dk119_0.2.2.1 rfl (by decide) rfl wf_507 rfl (by decide +kernel) (Or.inr (Or.inl ⟨rfl, rfl⟩))
theorem ab_s119_5 : ab_Sn B 119 5 (ab_o_ald 0 6) := ab_s_aload_n (k := 0) (n := 0) ab_dk119_0.2.2.2.1 rfl
theorem ab_s119_6 : ab_Sn B 119 6 (ab_o_dup 7) := ab_s_dup ab_dk119_0.2.2.2.2.1
theorem ab_s119_7 : ab_Sn B 119 7 (ab_o_geti 8 22 17 10) := ab_s_geti (i := 95) (ci := 4) (N := 22) (k := 17) (C := RX4) (T := TX4) ab_dk119_0.2.2.2.2.2.1 rfl (by decide) rfl wf_508
theorem ab_s119_10 : ab_Sn B 119 10 (ab_o_const 1 11) := ab_s_iconst (n := 1) ab_dk119_0.2.2.2.2.2.2.1 rfl
theorem ab_s119_11 : ab_Sn B 119 11 (ab_o_bin (fun a b => a + b) 12) := ab_s_iadd ab_dk119_0.2.2.2.2.2.2.2.1
theorem ab_s119_12 : ab_Sn B 119 12 (ab_o_puti 8 22 17 false 15) := ab_s_puti (b := false) (ty := .int) (i := 95) (ci := 4) (N := 22) (k := 17) (C := RX4) (T := TX4) ab_dk119_0.2.2.2.2.2.2.2.2.1 rfl (by decide) rfl wf_508 rfl (by decide +kernel) (Or.inl ⟨rfl, rfl⟩)
theorem ab_s119_15 : ab_Sn B 119 15 (ab_o_ret) := ab_s_ret ab_dk119_0.2.2.2.2.2.2.2.2.2.1 rfl
set_option maxRecDepth 20000 in
theorem ab_sn119 : ab_all B 119 0 (ab_c119) := ⟨ab_s119_0, ab_s119_1, ab_s119_2, trivial, trivial, ab_s119_5, ab_s119_6, ab_s119_7, trivial, trivial, ab_s119_10, ab_s119_11, ab_s119_12, trivial, trivial, ab_s119_15, trivial⟩
theorem ab_dk120_0 : ab_dp 120 [(0, .aload_n 0, 1), (1, .iconst 1, 1), (2, .putfield 91, 3), (5, .aload_n 0, 1), (6, .getfield 98, 3), (9, .ifnonnull 4, 3), (12, .return_, 1), (13, .aload_n 0, 1), (14, .iconst 2, 1), (15, .invokevirtual 101, 3), (18, .aload_n 0, 1), (19, .iconst 3, 1), (20, .invokevirtual 101, 3), (23, .aload_n 0, 1), (24, .aconst_null, 1), (25, .putfield 98, 3)] := ab_da (by decide +kernel)
theorem ab_dk120_1 : ab_dp 120 [(28, .return_, 1)] := ab_da (by decide +kernel)
theorem ab_s120_0 : ab_Sn B 120 0 (ab_o_ald 0 1) := ab_s_aload_n (k := 0) (n := 0) ab_dk120_0.1 rfl
theorem ab_s120_1 : ab_Sn B 120 1 (ab_o_const 1 2) := ab_s_iconst (n := 1) ab_dk120_0.2.1 rfl
theorem ab_s120_2 : ab_Sn B 120 2 (ab_o_puti 8 22 3 true 5) := ab_s_puti (b := true) (ty := .boolean) (i := 91) (ci := 4) (N := 22) (k := 3) (C := RX4) (T := TX4) ab_dk120_0.2.2.1 rfl (by decide) rfl wf_507 rfl (by decide +kernel) (Or.inr (Or.inl ⟨rfl, rfl⟩))
theorem ab_s120_5 : ab_Sn B 120 5 (ab_o_ald 0 6) := ab_s_aload_n (k := 0) (n := 0) ab_dk120_0.2.2.2.1 rfl
theorem ab_s120_6 : ab_Sn B 120 6 (ab_o_getr 8 22 9 9) := ab_s_getr (i := 98) (ci := 4) (N := 22) (k := 9) (C := RX4) (T := TX4) ab_dk120_0.2.2.2.2.1 rfl (by decide) rfl wf_509
theorem ab_s120_9 : ab_Sn B 120 9 (ab_o_ifn false 13 12) := ab_s_ifnonnull (tg := 13) (off := 4) ab_dk120_0.2.2.2.2.2.1 (by decide)
theorem ab_s120_12 : ab_Sn B 120 12 (ab_o_ret) := ab_s_ret ab_dk120_0.2.2.2.2.2.2.1 rfl
theorem ab_s120_13 : ab_Sn B 120 13 (ab_o_ald 0 14) := ab_s_aload_n (k := 0) (n := 0) ab_dk120_0.2.2.2.2.2.2.2.1 rfl
theorem ab_s120_14 : ab_Sn B 120 14 (ab_o_const 2 15) := ab_s_iconst (n := 2) ab_dk120_0.2.2.2.2.2.2.2.2.1 rfl
theorem ab_s120_15 : ab_Sn B 120 15 (ab_o_call (some (8, 22)) [] 121 4 2 false 18) := ab_s_callV (M' := 121) (na := 1) (i := 101) (ci := 4) (N := 22) (C := RX4) (T := TX4) (v := false) (ab_hok_n (by decide +kernel)) (by decide +kernel) ab_dk120_0.2.2.2.2.2.2.2.2.2.1 rfl (by decide) (by decide +kernel) (by decide +kernel) (by decide) wf_510 wf_511 wf_512 wf_513 wf_459
theorem ab_s120_18 : ab_Sn B 120 18 (ab_o_ald 0 19) := ab_s_aload_n (k := 0) (n := 0) ab_dk120_0.2.2.2.2.2.2.2.2.2.2.1 rfl
theorem ab_s120_19 : ab_Sn B 120 19 (ab_o_const 3 20) := ab_s_iconst (n := 3) ab_dk120_0.2.2.2.2.2.2.2.2.2.2.2.1 rfl
theorem ab_s120_20 : ab_Sn B 120 20 (ab_o_call (some (8, 22)) [] 121 4 2 false 23) := ab_s_callV (M' := 121) (na := 1) (i := 101) (ci := 4) (N := 22) (C := RX4) (T := TX4) (v := false) (ab_hok_n (by decide +kernel)) (by decide +kernel) ab_dk120_0.2.2.2.2.2.2.2.2.2.2.2.2.1 rfl (by decide) (by decide +kernel) (by decide +kernel) (by decide) wf_510 wf_511 wf_512 wf_513 wf_459
theorem ab_s120_23 : ab_Sn B 120 23 (ab_o_ald 0 24) := ab_s_aload_n (k := 0) (n := 0) ab_dk120_0.2.2.2.2.2.2.2.2.2.2.2.2.2.1 rfl
theorem ab_s120_24 : ab_Sn B 120 24 (ab_o_null 25) := ab_s_null ab_dk120_0.2.2.2.2.2.2.2.2.2.2.2.2.2.2.1
theorem ab_s120_25 : ab_Sn B 120 25 (ab_o_putr 8 22 9 28) := ab_s_putr (ty := .array .int) (i := 98) (ci := 4) (N := 22) (k := 9) (C := RX4) (T := TX4) ab_dk120_0.2.2.2.2.2.2.2.2.2.2.2.2.2.2.2.1 rfl (by decide) rfl wf_509 rfl (by decide +kernel) (Or.inr ⟨_, rfl⟩)
theorem ab_s120_28 : ab_Sn B 120 28 (ab_o_ret) := ab_s_ret ab_dk120_1.1 rfl
set_option maxRecDepth 20000 in
theorem ab_sn120 : ab_all B 120 0 (ab_c120) := ⟨ab_s120_0, ab_s120_1, ab_s120_2, trivial, trivial, ab_s120_5, ab_s120_6, trivial, trivial, ab_s120_9, trivial, trivial, ab_s120_12, ab_s120_13, ab_s120_14, ab_s120_15, trivial, trivial, ab_s120_18, ab_s120_19, ab_s120_20, trivial, trivial, ab_s120_23, ab_s120_24, ab_s120_25, trivial, trivial, ab_s120_28, trivial⟩
theorem ab_dk121_0 : ab_dp 121 [(0, .aload_n 0, 1), (1, .aload_n 0, 1), (2, .getfield 98, 3), (5, .iconst 0, 1), (6, .iaload, 1), (7, .invokevirtual 57, 3), (10, .istore_n 2, 1), (11, .iload_n 1, 1), (12, .iconst 2, 1), (13, .if_icmp .ne 16, 3), (16, .aload_n 0, 1), (17, .aload_n 0, 1), (18, .getfield 98, 3), (21, .iconst 0, 1), (22, .iaload, 1), (23, .invokevirtual 82, 3)] := ab_da (by decide +kernel)
theorem ab_dk121_1 : ab_dp 121 [(26, .goto 8, 3), (29, .aload_n 0, 1), (30, .iload_n 2, 1), (31, .invokevirtual 61, 3), (34, .istore_n 3, 1), (35, .aload_n 0, 1), (36, .getfield 17, 3), (39, .iload_n 3, 1), (40, .baload, 1), (41, .ifCond .ne 17, 3), (44, .aload_n 0, 1), (45, .iload_n 3, 1), (46, .iload_n 2, 1), (47, .aload_n 0, 1), (48, .getfield 98, 3), (51, .iload_n 1, 1)] := ab_da (by decide +kernel)
theorem ab_dk121_2 : ab_dp 121 [(52, .iconst 1, 1), (53, .isub, 1), (54, .iaload, 1), (55, .invokevirtual 75, 3), (58, .return_, 1)] := ab_da (by decide +kernel)
theorem ab_s121_0 : ab_Sn B 121 0 (ab_o_ald 0 1) := ab_s_aload_n (k := 0) (n := 0) ab_dk121_0.1 rfl
theorem ab_s121_1 : ab_Sn B 121 1 (ab_o_ald 0 2) := ab_s_aload_n (k := 0) (n := 0) ab_dk121_0.2.1 rfl
theorem ab_s121_2 : ab_Sn B 121 2 (ab_o_getr 8 22 9 5) := ab_s_getr (i := 98) (ci := 4) (N := 22) (k := 9) (C := RX4) (T := TX4) ab_dk121_0.2.2.1 rfl (by decide) rfl wf_509
theorem ab_s121_5 : ab_Sn B 121 5 (ab_o_const 0 6) := ab_s_iconst (n := 0) ab_dk121_0.2.2.2.1 rfl
theorem ab_s121_6 : ab_Sn B 121 6 (ab_o_xld 0 7) := ab_s_iaload ab_dk121_0.2.2.2.2.1
theorem ab_s121_7 : ab_Sn B 121 7 (ab_o_call (some (8, 22)) [] 107 2 2 true 10) := ab_s_callV (M' := 107) (na := 1) (i := 57) (ci := 4) (N := 22) (C := RX4) (T := TX4) (v := true) (ab_hok_n (by decide +kernel)) (by decide +kernel) ab_dk121_0.2.2.2.2.2.1 rfl (by decide) (by decide +kernel) (by decide +kernel) (by decide) wf_470 wf_471 wf_472 wf_473 wf_459
theorem ab_s121_10 : ab_Sn B 121 10 (ab_o_ist 2 11) := ab_s_istore_n (k := 2) (n := 2) ab_dk121_0.2.2.2.2.2.2.1 rfl
theorem ab_s121_11 : ab_Sn B 121 11 (ab_o_ild 1 12) := ab_s_iload_n (k := 1) (n := 1) ab_dk121_0.2.2.2.2.2.2.2.1 rfl
theorem ab_s121_12 : ab_Sn B 121 12 (ab_o_const 2 13) := ab_s_iconst (n := 2) ab_dk121_0.2.2.2.2.2.2.2.2.1 rfl
theorem ab_s121_13 : ab_Sn B 121 13 (ab_o_icmp ab_ne 29 16) := ab_s_icmp_ne (tg := 29) (off := 16) ab_dk121_0.2.2.2.2.2.2.2.2.2.1 (by decide)
theorem ab_s121_16 : ab_Sn B 121 16 (ab_o_ald 0 17) := ab_s_aload_n (k := 0) (n := 0) ab_dk121_0.2.2.2.2.2.2.2.2.2.2.1 rfl
theorem ab_s121_17 : ab_Sn B 121 17 (ab_o_ald 0 18) := ab_s_aload_n (k := 0) (n := 0) ab_dk121_0.2.2.2.2.2.2.2.2.2.2.2.1 rfl
theorem ab_s121_18 : ab_Sn B 121 18 (ab_o_getr 8 22 9 21) := ab_s_getr (i := 98) (ci := 4) (N := 22) (k := 9) (C := RX4) (T := TX4) ab_dk121_0.2.2.2.2.2.2.2.2.2.2.2.2.1 rfl (by decide) rfl wf_509
theorem ab_s121_21 : ab_Sn B 121 21 (ab_o_const 0 22) := ab_s_iconst (n := 0) ab_dk121_0.2.2.2.2.2.2.2.2.2.2.2.2.2.1 rfl
theorem ab_s121_22 : ab_Sn B 121 22 (ab_o_xld 0 23) := ab_s_iaload ab_dk121_0.2.2.2.2.2.2.2.2.2.2.2.2.2.2.1
theorem ab_s121_23 : ab_Sn B 121 23 (ab_o_call (some (8, 22)) [] 109 3 2 true 26) := ab_s_callV (M' := 109) (na := 1) (i := 82) (ci := 4) (N := 22) (C := RX4) (T := TX4) (v := true) (ab_hok_n (by decide +kernel)) (by decide +kernel) ab_dk121_0.2.2.2.2.2.2.2.2.2.2.2.2.2.2.2.1 rfl (by decide) (by decide +kernel) (by decide +kernel) (by decide) wf_495 wf_496 wf_497 wf_498 wf_459
theorem ab_s121_26 : ab_Sn B 121 26 (ab_o_goto 34) := ab_s_goto (tg := 34) (off := 8) ab_dk121_1.1 (by decide)
theorem ab_s121_29 : ab_Sn B 121 29 (ab_o_ald 0 30) := ab_s_aload_n (k := 0) (n := 0) ab_dk121_1.2.1 rfl
theorem ab_s121_30 : ab_Sn B 121 30 (ab_o_ild 2 31) := ab_s_iload_n (k := 2) (n := 2) ab_dk121_1.2.2.1 rfl
theorem ab_s121_31 : ab_Sn B 121 31 (ab_o_call (some (8, 22)) [] 108 2 2 true 34) := ab_s_callV (M' := 108) (na := 1) (i := 61) (ci := 4) (N := 22) (C := RX4) (T := TX4) (v := true) (ab_hok_n (by decide +kernel)) (by decide +kernel) ab_dk121_1.2.2.2.1 rfl (by decide) (by decide +kernel) (by decide +kernel) (by decide) wf_474 wf_475 wf_476 wf_477 wf_459
theorem ab_s121_34 : ab_Sn B 121 34 (ab_o_ist 3 35) := ab_s_istore_n (k := 3) (n := 3) ab_dk121_1.2.2.2.2.1 rfl
theorem ab_s121_35 : ab_Sn B 121 35 (ab_o_ald 0 36) := ab_s_aload_n (k := 0) (n := 0) ab_dk121_1.2.2.2.2.2.1 rfl
theorem ab_s121_36 : ab_Sn B 121 36 (ab_o_getr 8 22 6 39) := ab_s_getr (i := 17) (ci := 4) (N := 22) (k := 6) (C := RX4) (T := TX4) ab_dk121_1.2.2.2.2.2.2.1 rfl (by decide) rfl wf_449
theorem ab_s121_39 : ab_Sn B 121 39 (ab_o_ild 3 40) := ab_s_iload_n (k := 3) (n := 3) ab_dk121_1.2.2.2.2.2.2.2.1 rfl
theorem ab_s121_40 : ab_Sn B 121 40 (ab_o_xld 1 41) := ab_s_baload ab_dk121_1.2.2.2.2.2.2.2.2.1
theorem ab_s121_41 : ab_Sn B 121 41 (ab_o_if ab_ne 58 44) := ab_s_if_ne (tg := 58) (off := 17) ab_dk121_1.2.2.2.2.2.2.2.2.2.1 (by decide)
theorem ab_s121_44 : ab_Sn B 121 44 (ab_o_ald 0 45) := ab_s_aload_n (k := 0) (n := 0) ab_dk121_1.2.2.2.2.2.2.2.2.2.2.1 rfl
theorem ab_s121_45 : ab_Sn B 121 45 (ab_o_ild 3 46) := ab_s_iload_n (k := 3) (n := 3) ab_dk121_1.2.2.2.2.2.2.2.2.2.2.2.1 rfl
theorem ab_s121_46 : ab_Sn B 121 46 (ab_o_ild 2 47) := ab_s_iload_n (k := 2) (n := 2) ab_dk121_1.2.2.2.2.2.2.2.2.2.2.2.2.1 rfl
theorem ab_s121_47 : ab_Sn B 121 47 (ab_o_ald 0 48) := ab_s_aload_n (k := 0) (n := 0) ab_dk121_1.2.2.2.2.2.2.2.2.2.2.2.2.2.1 rfl
theorem ab_s121_48 : ab_Sn B 121 48 (ab_o_getr 8 22 9 51) := ab_s_getr (i := 98) (ci := 4) (N := 22) (k := 9) (C := RX4) (T := TX4) ab_dk121_1.2.2.2.2.2.2.2.2.2.2.2.2.2.2.1 rfl (by decide) rfl wf_509
theorem ab_s121_51 : ab_Sn B 121 51 (ab_o_ild 1 52) := ab_s_iload_n (k := 1) (n := 1) ab_dk121_1.2.2.2.2.2.2.2.2.2.2.2.2.2.2.2.1 rfl
theorem ab_s121_52 : ab_Sn B 121 52 (ab_o_const 1 53) := ab_s_iconst (n := 1) ab_dk121_2.1 rfl
theorem ab_s121_53 : ab_Sn B 121 53 (ab_o_bin (fun a b => a - b) 54) := ab_s_isub ab_dk121_2.2.1
theorem ab_s121_54 : ab_Sn B 121 54 (ab_o_xld 0 55) := ab_s_iaload ab_dk121_2.2.2.1
theorem ab_s121_55 : ab_Sn B 121 55 (ab_o_call (some (8, 22)) [] 112 4 4 false 58) := ab_s_callV (M' := 112) (na := 3) (i := 75) (ci := 4) (N := 22) (C := RX4) (T := TX4) (v := false) (ab_hok_n (by decide +kernel)) (by decide +kernel) ab_dk121_2.2.2.2.1 rfl (by decide) (by decide +kernel) (by decide +kernel) (by decide) wf_490 wf_491 wf_492 wf_493 wf_459
theorem ab_s121_58 : ab_Sn B 121 58 (ab_o_ret) := ab_s_ret ab_dk121_2.2.2.2.2.1 rfl
set_option maxRecDepth 20000 in
theorem ab_sn121 : ab_all B 121 0 (ab_c121) := ⟨ab_s121_0, ab_s121_1, ab_s121_2, trivial, trivial, ab_s121_5, ab_s121_6, ab_s121_7, trivial, trivial, ab_s121_10, ab_s121_11, ab_s121_12, ab_s121_13, trivial, trivial, ab_s121_16, ab_s121_17, ab_s121_18, trivial, trivial, ab_s121_21, ab_s121_22, ab_s121_23, trivial, trivial, ab_s121_26, trivial, trivial, ab_s121_29, ab_s121_30, ab_s121_31, trivial, trivial, ab_s121_34, ab_s121_35, ab_s121_36, trivial, trivial, ab_s121_39, ab_s121_40, ab_s121_41, trivial, trivial, ab_s121_44, ab_s121_45, ab_s121_46, ab_s121_47, ab_s121_48, trivial, trivial, ab_s121_51, ab_s121_52, ab_s121_53, ab_s121_54, ab_s121_55, trivial, trivial, ab_s121_58, trivial⟩
theorem ab_dk122_0 : ab_dp 122 [(0, .aload_n 0, 1), (1, .iload_n 1, 1), (2, .iconst 3, 1), (3, .iconst 5, 1), (4, .invokestatic 46, 3), (7, .ifCond .eq 13, 3), (10, .iload_n 2, 1), (11, .iconst 1, 1), (12, .bipush 8, 2), (14, .invokestatic 46, 3), (17, .ifCond .ne 7, 3), (20, .iconst 1, 1), (21, .goto 4, 3), (24, .iconst 0, 1), (25, .iconst 1, 1), (26, .invokevirtual 105, 3)] := ab_da (by decide +kernel)
theorem ab_dk122_1 : ab_dp 122 [(29, .ifCond .eq 5, 3), (32, .iconst 0, 1), (33, .ireturn, 1), (34, .aload_n 0, 1), (35, .iload_n 1, 1), (36, .putfield 43, 3), (39, .aload_n 0, 1), (40, .iload_n 2, 1), (41, .putfield 50, 3), (44, .aload_n 0, 1), (45, .iconst 0, 1), (46, .putfield 108, 3), (49, .aload_n 0, 1), (50, .iconst 1, 1), (51, .putfield 91, 3), (54, .aload_n 0, 1)] := ab_da (by decide +kernel)
theorem ab_dk122_2 : ab_dp 122 [(55, .iload_n 1, 1), (56, .iload_n 2, 1), (57, .multianewarray 7 2, 4), (61, .putfield 9, 3), (64, .aload_n 0, 1), (65, .iload_n 1, 1), (66, .iload_n 2, 1), (67, .multianewarray 7 2, 4), (71, .putfield 14, 3), (74, .aload_n 0, 1), (75, .iload_n 1, 1), (76, .newarray .boolean, 2), (78, .putfield 17, 3), (81, .aload_n 0, 1), (82, .iload_n 1, 1), (83, .newarray .int, 2)] := ab_da (by decide +kernel)
theorem ab_dk122_3 : ab_dp 122 [(85, .putfield 21, 3), (88, .aload_n 0, 1), (89, .aload_n 0, 1), (90, .invokevirtual 53, 3), (93, .newarray .int, 2), (95, .putfield 25, 3), (98, .aload_n 0, 1), (99, .aconst_null, 1), (100, .putfield 98, 3), (103, .aload_n 0, 1), (104, .iconst 0, 1), (105, .putfield 111, 3), (108, .aload_n 0, 1), (109, .iconst 0, 1), (110, .putfield 114, 3), (113, .aload_n 0, 1)] := ab_da (by decide +kernel)
theorem ab_dk122_4 : ab_dp 122 [(114, .iconst 0, 1), (115, .putfield 117, 3), (118, .aload_n 0, 1), (119, .iconst 0, 1), (120, .putfield 120, 3), (123, .aload_n 0, 1), (124, .iconst 0, 1), (125, .putfield 79, 3), (128, .aload_n 0, 1), (129, .iconst 0, 1), (130, .putfield 95, 3), (133, .iconst 0, 1), (134, .istore_n 3, 1), (135, .iload_n 3, 1), (136, .iload_n 1, 1), (137, .if_icmp .ge 32, 3)] := ab_da (by decide +kernel)
theorem ab_dk122_5 : ab_dp 122 [(140, .iconst 0, 1), (141, .istore 4, 2), (143, .iload 4, 2), (145, .iload_n 2, 1), (146, .if_icmp .ge 17, 3), (149, .aload_n 0, 1), (150, .iload_n 3, 1), (151, .iload 4, 2), (153, .iconst 0, 1), (154, .invokevirtual 75, 3), (157, .iinc 4 1, 3), (160, .goto (-17), 3), (163, .iinc 3 1, 3), (166, .goto (-31), 3), (169, .aload_n 0, 1), (170, .invokevirtual 53, 3)] := ab_da (by decide +kernel)
theorem ab_dk122_6 : ab_dp 122 [(173, .ireturn, 1)] := ab_da (by decide +kernel)
theorem ab_s122_0 : ab_Sn B 122 0 (ab_o_ald 0 1) := ab_s_aload_n (k := 0) (n := 0) ab_dk122_0.1 rfl
theorem ab_s122_1 : ab_Sn B 122 1 (ab_o_ild 1 2) := ab_s_iload_n (k := 1) (n := 1) ab_dk122_0.2.1 rfl
theorem ab_s122_2 : ab_Sn B 122 2 (ab_o_const 3 3) := ab_s_iconst (n := 3) ab_dk122_0.2.2.1 rfl
theorem ab_s122_3 : ab_Sn B 122 3 (ab_o_const 5 4) := ab_s_iconst (n := 5) ab_dk122_0.2.2.2.1 rfl
theorem ab_s122_4 : ab_Sn B 122 4 (ab_o_call none [] 100 3 3 true 7) := ab_s_callS (M' := 100) (na := 3) (i := 46) (v := true) (ab_hok_n (by decide +kernel)) (by decide +kernel) ab_dk122_0.2.2.2.2.1 (by decide +kernel) (by decide +kernel) (by decide) wf_462 wf_463 wf_464 wf_459
theorem ab_s122_7 : ab_Sn B 122 7 (ab_o_if ab_eq 20 10) := ab_s_if_eq (tg := 20) (off := 13) ab_dk122_0.2.2.2.2.2.1 (by decide)
theorem ab_s122_10 : ab_Sn B 122 10 (ab_o_ild 2 11) := ab_s_iload_n (k := 2) (n := 2) ab_dk122_0.2.2.2.2.2.2.1 rfl
theorem ab_s122_11 : ab_Sn B 122 11 (ab_o_const 1 12) := ab_s_iconst (n := 1) ab_dk122_0.2.2.2.2.2.2.2.1 rfl
theorem ab_s122_12 : ab_Sn B 122 12 (ab_o_const 8 14) := ab_s_bipush (n := 8) ab_dk122_0.2.2.2.2.2.2.2.2.1 (by decide)
theorem ab_s122_14 : ab_Sn B 122 14 (ab_o_call none [] 100 3 3 true 17) := ab_s_callS (M' := 100) (na := 3) (i := 46) (v := true) (ab_hok_n (by decide +kernel)) (by decide +kernel) ab_dk122_0.2.2.2.2.2.2.2.2.2.1 (by decide +kernel) (by decide +kernel) (by decide) wf_462 wf_463 wf_464 wf_459
theorem ab_s122_17 : ab_Sn B 122 17 (ab_o_if ab_ne 24 20) := ab_s_if_ne (tg := 24) (off := 7) ab_dk122_0.2.2.2.2.2.2.2.2.2.2.1 (by decide)
theorem ab_s122_20 : ab_Sn B 122 20 (ab_o_const 1 21) := ab_s_iconst (n := 1) ab_dk122_0.2.2.2.2.2.2.2.2.2.2.2.1 rfl
theorem ab_s122_21 : ab_Sn B 122 21 (ab_o_goto 25) := ab_s_goto (tg := 25) (off := 4) ab_dk122_0.2.2.2.2.2.2.2.2.2.2.2.2.1 (by decide)
theorem ab_s122_24 : ab_Sn B 122 24 (ab_o_const 0 25) := ab_s_iconst (n := 0) ab_dk122_0.2.2.2.2.2.2.2.2.2.2.2.2.2.1 rfl
theorem ab_s122_25 : ab_Sn B 122 25 (ab_o_const 1 26) := ab_s_iconst (n := 1) ab_dk122_0.2.2.2.2.2.2.2.2.2.2.2.2.2.2.1 rfl
theorem ab_s122_26 : ab_Sn B 122 26 (ab_o_call (some (8, 22)) [] 102 3 3 true 29) := ab_s_callV (M' := 102) (na := 2) (i := 105) (ci := 4) (N := 22) (C := RX4) (T := TX4) (v := true) (ab_hok_n (by decide +kernel)) (by decide +kernel) ab_dk122_0.2.2.2.2.2.2.2.2.2.2.2.2.2.2.2.1 rfl (by decide) (by decide +kernel) (by decide +kernel) (by decide) wf_514 wf_515 wf_516 wf_517 wf_459
theorem ab_s122_29 : ab_Sn B 122 29 (ab_o_if ab_eq 34 32) := ab_s_if_eq (tg := 34) (off := 5) ab_dk122_1.1 (by decide)
theorem ab_s122_32 : ab_Sn B 122 32 (ab_o_const 0 33) := ab_s_iconst (n := 0) ab_dk122_1.2.1 rfl
theorem ab_s122_33 : ab_Sn B 122 33 (ab_o_iret false) := ab_s_iret (b := false) (ty := .int) ab_dk122_1.2.2.1 rfl (Or.inl ⟨rfl, rfl⟩)
theorem ab_s122_34 : ab_Sn B 122 34 (ab_o_ald 0 35) := ab_s_aload_n (k := 0) (n := 0) ab_dk122_1.2.2.2.1 rfl
theorem ab_s122_35 : ab_Sn B 122 35 (ab_o_ild 1 36) := ab_s_iload_n (k := 1) (n := 1) ab_dk122_1.2.2.2.2.1 rfl
theorem ab_s122_36 : ab_Sn B 122 36 (ab_o_puti 8 22 1 false 39) := ab_s_puti (b := false) (ty := .int) (i := 43) (ci := 4) (N := 22) (k := 1) (C := RX4) (T := TX4) ab_dk122_1.2.2.2.2.2.1 rfl (by decide) rfl wf_461 rfl (by decide +kernel) (Or.inl ⟨rfl, rfl⟩)
theorem ab_s122_39 : ab_Sn B 122 39 (ab_o_ald 0 40) := ab_s_aload_n (k := 0) (n := 0) ab_dk122_1.2.2.2.2.2.2.1 rfl
theorem ab_s122_40 : ab_Sn B 122 40 (ab_o_ild 2 41) := ab_s_iload_n (k := 2) (n := 2) ab_dk122_1.2.2.2.2.2.2.2.1 rfl
theorem ab_s122_41 : ab_Sn B 122 41 (ab_o_puti 8 22 2 false 44) := ab_s_puti (b := false) (ty := .int) (i := 50) (ci := 4) (N := 22) (k := 2) (C := RX4) (T := TX4) ab_dk122_1.2.2.2.2.2.2.2.2.1 rfl (by decide) rfl wf_465 rfl (by decide +kernel) (Or.inl ⟨rfl, rfl⟩)
theorem ab_s122_44 : ab_Sn B 122 44 (ab_o_ald 0 45) := ab_s_aload_n (k := 0) (n := 0) ab_dk122_1.2.2.2.2.2.2.2.2.2.1 rfl
theorem ab_s122_45 : ab_Sn B 122 45 (ab_o_const 0 46) := ab_s_iconst (n := 0) ab_dk122_1.2.2.2.2.2.2.2.2.2.2.1 rfl
theorem ab_s122_46 : ab_Sn B 122 46 (ab_o_puti 8 22 11 true 49) := ab_s_puti (b := true) (ty := .boolean) (i := 108) (ci := 4) (N := 22) (k := 11) (C := RX4) (T := TX4) ab_dk122_1.2.2.2.2.2.2.2.2.2.2.2.1 rfl (by decide) rfl wf_518 rfl (by decide +kernel) (Or.inr (Or.inl ⟨rfl, rfl⟩))
theorem ab_s122_49 : ab_Sn B 122 49 (ab_o_ald 0 50) := ab_s_aload_n (k := 0) (n := 0) ab_dk122_1.2.2.2.2.2.2.2.2.2.2.2.2.1 rfl
theorem ab_s122_50 : ab_Sn B 122 50 (ab_o_const 1 51) := ab_s_iconst (n := 1) ab_dk122_1.2.2.2.2.2.2.2.2.2.2.2.2.2.1 rfl
theorem ab_s122_51 : ab_Sn B 122 51 (ab_o_puti 8 22 3 true 54) := ab_s_puti (b := true) (ty := .boolean) (i := 91) (ci := 4) (N := 22) (k := 3) (C := RX4) (T := TX4) ab_dk122_1.2.2.2.2.2.2.2.2.2.2.2.2.2.2.1 rfl (by decide) rfl wf_507 rfl (by decide +kernel) (Or.inr (Or.inl ⟨rfl, rfl⟩))
theorem ab_s122_54 : ab_Sn B 122 54 (ab_o_ald 0 55) := ab_s_aload_n (k := 0) (n := 0) ab_dk122_1.2.2.2.2.2.2.2.2.2.2.2.2.2.2.2.1 rfl
theorem ab_s122_55 : ab_Sn B 122 55 (ab_o_ild 1 56) := ab_s_iload_n (k := 1) (n := 1) ab_dk122_2.1 rfl
theorem ab_s122_56 : ab_Sn B 122 56 (ab_o_ild 2 57) := ab_s_iload_n (k := 2) (n := 2) ab_dk122_2.2.1 rfl
theorem ab_s122_57 : ab_Sn B 122 57 (ab_o_mna 61) := ab_s_mna (i := 7) ab_dk122_2.2.2.1 wf_446 wf_3
theorem ab_s122_61 : ab_Sn B 122 61 (ab_o_putr 8 22 4 64) := ab_s_putr (ty := .array (.array .int)) (i := 9) (ci := 4) (N := 22) (k := 4) (C := RX4) (T := TX4) ab_dk122_2.2.2.2.1 rfl (by decide) rfl wf_447 rfl (by decide +kernel) (Or.inr ⟨_, rfl⟩)
theorem ab_s122_64 : ab_Sn B 122 64 (ab_o_ald 0 65) := ab_s_aload_n (k := 0) (n := 0) ab_dk122_2.2.2.2.2.1 rfl
theorem ab_s122_65 : ab_Sn B 122 65 (ab_o_ild 1 66) := ab_s_iload_n (k := 1) (n := 1) ab_dk122_2.2.2.2.2.2.1 rfl
theorem ab_s122_66 : ab_Sn B 122 66 (ab_o_ild 2 67) := ab_s_iload_n (k := 2) (n := 2) ab_dk122_2.2.2.2.2.2.2.1 rfl
theorem ab_s122_67 : ab_Sn B 122 67 (ab_o_mna 71) := ab_s_mna (i := 7) ab_dk122_2.2.2.2.2.2.2.2.1 wf_446 wf_3
theorem ab_s122_71 : ab_Sn B 122 71 (ab_o_putr 8 22 5 74) := ab_s_putr (ty := .array (.array .int)) (i := 14) (ci := 4) (N := 22) (k := 5) (C := RX4) (T := TX4) ab_dk122_2.2.2.2.2.2.2.2.2.1 rfl (by decide) rfl wf_448 rfl (by decide +kernel) (Or.inr ⟨_, rfl⟩)
theorem ab_s122_74 : ab_Sn B 122 74 (ab_o_ald 0 75) := ab_s_aload_n (k := 0) (n := 0) ab_dk122_2.2.2.2.2.2.2.2.2.2.1 rfl
theorem ab_s122_75 : ab_Sn B 122 75 (ab_o_ild 1 76) := ab_s_iload_n (k := 1) (n := 1) ab_dk122_2.2.2.2.2.2.2.2.2.2.2.1 rfl
theorem ab_s122_76 : ab_Sn B 122 76 (ab_o_newa 1 78) := ab_s_newa1 ab_dk122_2.2.2.2.2.2.2.2.2.2.2.2.1 wf_7
theorem ab_s122_78 : ab_Sn B 122 78 (ab_o_putr 8 22 6 81) := ab_s_putr (ty := .array .boolean) (i := 17) (ci := 4) (N := 22) (k := 6) (C := RX4) (T := TX4) ab_dk122_2.2.2.2.2.2.2.2.2.2.2.2.2.1 rfl (by decide) rfl wf_449 rfl (by decide +kernel) (Or.inr ⟨_, rfl⟩)
theorem ab_s122_81 : ab_Sn B 122 81 (ab_o_ald 0 82) := ab_s_aload_n (k := 0) (n := 0) ab_dk122_2.2.2.2.2.2.2.2.2.2.2.2.2.2.1 rfl
theorem ab_s122_82 : ab_Sn B 122 82 (ab_o_ild 1 83) := ab_s_iload_n (k := 1) (n := 1) ab_dk122_2.2.2.2.2.2.2.2.2.2.2.2.2.2.2.1 rfl
theorem ab_s122_83 : ab_Sn B 122 83 (ab_o_newa 0 85) := ab_s_newa0 ab_dk122_2.2.2.2.2.2.2.2.2.2.2.2.2.2.2.2.1 wf_3
theorem ab_s122_85 : ab_Sn B 122 85 (ab_o_putr 8 22 7 88) := ab_s_putr (ty := .array .int) (i := 21) (ci := 4) (N := 22) (k := 7) (C := RX4) (T := TX4) ab_dk122_3.1 rfl (by decide) rfl wf_450 rfl (by decide +kernel) (Or.inr ⟨_, rfl⟩)
theorem ab_s122_88 : ab_Sn B 122 88 (ab_o_ald 0 89) := ab_s_aload_n (k := 0) (n := 0) ab_dk122_3.2.1 rfl
theorem ab_s122_89 : ab_Sn B 122 89 (ab_o_ald 0 90) := ab_s_aload_n (k := 0) (n := 0) ab_dk122_3.2.2.1 rfl
theorem ab_s122_90 : ab_Sn B 122 90 (ab_o_call (some (8, 22)) [] 106 1 1 true 93) := ab_s_callV (M' := 106) (na := 0) (i := 53) (ci := 4) (N := 22) (C := RX4) (T := TX4) (v := true) (ab_hok_n (by decide +kernel)) (by decide +kernel) ab_dk122_3.2.2.2.1 rfl (by decide) (by decide +kernel) (by decide +kernel) (by decide) wf_466 wf_467 wf_468 wf_469 wf_459
theorem ab_s122_93 : ab_Sn B 122 93 (ab_o_newa 0 95) := ab_s_newa0 ab_dk122_3.2.2.2.2.1 wf_3
theorem ab_s122_95 : ab_Sn B 122 95 (ab_o_putr 8 22 8 98) := ab_s_putr (ty := .array .int) (i := 25) (ci := 4) (N := 22) (k := 8) (C := RX4) (T := TX4) ab_dk122_3.2.2.2.2.2.1 rfl (by decide) rfl wf_451 rfl (by decide +kernel) (Or.inr ⟨_, rfl⟩)
theorem ab_s122_98 : ab_Sn B 122 98 (ab_o_ald 0 99) := ab_s_aload_n (k := 0) (n := 0) ab_dk122_3.2.2.2.2.2.2.1 rfl
theorem ab_s122_99 : ab_Sn B 122 99 (ab_o_null 100) := ab_s_null ab_dk122_3.2.2.2.2.2.2.2.1
theorem ab_s122_100 : ab_Sn B 122 100 (ab_o_putr 8 22 9 103) := ab_s_putr (ty := .array .int) (i := 98) (ci := 4) (N := 22) (k := 9) (C := RX4) (T := TX4) ab_dk122_3.2.2.2.2.2.2.2.2.1 rfl (by decide) rfl wf_509 rfl (by decide +kernel) (Or.inr ⟨_, rfl⟩)
theorem ab_s122_103 : ab_Sn B 122 103 (ab_o_ald 0 104) := ab_s_aload_n (k := 0) (n := 0) ab_dk122_3.2.2.2.2.2.2.2.2.2.1 rfl
theorem ab_s122_104 : ab_Sn B 122 104 (ab_o_const 0 105) := ab_s_iconst (n := 0) ab_dk122_3.2.2.2.2.2.2.2.2.2.2.1 rfl
theorem ab_s122_105 : ab_Sn B 122 105 (ab_o_puti 8 22 12 false 108) := ab_s_puti (b := false) (ty := .int) (i := 111) (ci := 4) (N := 22) (k := 12) (C := RX4) (T := TX4) ab_dk122_3.2.2.2.2.2.2.2.2.2.2.2.1 rfl (by decide) rfl wf_519 rfl (by decide +kernel) (Or.inl ⟨rfl, rfl⟩)
theorem ab_s122_108 : ab_Sn B 122 108 (ab_o_ald 0 109) := ab_s_aload_n (k := 0) (n := 0) ab_dk122_3.2.2.2.2.2.2.2.2.2.2.2.2.1 rfl
theorem ab_s122_109 : ab_Sn B 122 109 (ab_o_const 0 110) := ab_s_iconst (n := 0) ab_dk122_3.2.2.2.2.2.2.2.2.2.2.2.2.2.1 rfl
theorem ab_s122_110 : ab_Sn B 122 110 (ab_o_puti 8 22 13 false 113) := ab_s_puti (b := false) (ty := .int) (i := 114) (ci := 4) (N := 22) (k := 13) (C := RX4) (T := TX4) ab_dk122_3.2.2.2.2.2.2.2.2.2.2.2.2.2.2.1 rfl (by decide) rfl wf_520 rfl (by decide +kernel) (Or.inl ⟨rfl, rfl⟩)
theorem ab_s122_113 : ab_Sn B 122 113 (ab_o_ald 0 114) := ab_s_aload_n (k := 0) (n := 0) ab_dk122_3.2.2.2.2.2.2.2.2.2.2.2.2.2.2.2.1 rfl
theorem ab_s122_114 : ab_Sn B 122 114 (ab_o_const 0 115) := ab_s_iconst (n := 0) ab_dk122_4.1 rfl
theorem ab_s122_115 : ab_Sn B 122 115 (ab_o_puti 8 22 14 false 118) := ab_s_puti (b := false) (ty := .int) (i := 117) (ci := 4) (N := 22) (k := 14) (C := RX4) (T := TX4) ab_dk122_4.2.1 rfl (by decide) rfl wf_521 rfl (by decide +kernel) (Or.inl ⟨rfl, rfl⟩)
theorem ab_s122_118 : ab_Sn B 122 118 (ab_o_ald 0 119) := ab_s_aload_n (k := 0) (n := 0) ab_dk122_4.2.2.1 rfl
theorem ab_s122_119 : ab_Sn B 122 119 (ab_o_const 0 120) := ab_s_iconst (n := 0) ab_dk122_4.2.2.2.1 rfl
theorem ab_s122_120 : ab_Sn B 122 120 (ab_o_puti 8 22 15 false 123) := ab_s_puti (b := false) (ty := .int) (i := 120) (ci := 4) (N := 22) (k := 15) (C := RX4) (T := TX4) ab_dk122_4.2.2.2.2.1 rfl (by decide) rfl wf_522 rfl (by decide +kernel) (Or.inl ⟨rfl, rfl⟩)
theorem ab_s122_123 : ab_Sn B 122 123 (ab_o_ald 0 124) := ab_s_aload_n (k := 0) (n := 0) ab_dk122_4.2.2.2.2.2.1 rfl
theorem ab_s122_124 : ab_Sn B 122 124 (ab_o_const 0 125) := ab_s_iconst (n := 0) ab_dk122_4.2.2.2.2.2.2.1 rfl
theorem ab_s122_125 : ab_Sn B 122 125 (ab_o_puti 8 22 16 false 128) := ab_s_puti (b := false) (ty := .int) (i := 79) (ci := 4) (N := 22) (k := 16) (C := RX4) (T := TX4) ab_dk122_4.2.2.2.2.2.2.2.1 rfl (by decide) rfl wf_494 rfl (by decide +kernel) (Or.inl ⟨rfl, rfl⟩)
theorem ab_s122_128 : ab_Sn B 122 128 (ab_o_ald 0 129) := ab_s_aload_n (k := 0) (n := 0) ab_dk122_4.2.2.2.2.2.2.2.2.1 rfl
theorem ab_s122_129 : ab_Sn B 122 129 (ab_o_const 0 130) := ab_s_iconst (n := 0) ab_dk122_4.2.2.2.2.2.2.2.2.2.1 rfl
theorem ab_s122_130 : ab_Sn B 122 130 (ab_o_puti 8 22 17 false 133) := ab_s_puti (b := false) (ty := .int) (i := 95) (ci := 4) (N := 22) (k := 17) (C := RX4) (T := TX4) ab_dk122_4.2.2.2.2.2.2.2.2.2.2.1 rfl (by decide) rfl wf_508 rfl (by decide +kernel) (Or.inl ⟨rfl, rfl⟩)
theorem ab_s122_133 : ab_Sn B 122 133 (ab_o_const 0 134) := ab_s_iconst (n := 0) ab_dk122_4.2.2.2.2.2.2.2.2.2.2.2.1 rfl
theorem ab_s122_134 : ab_Sn B 122 134 (ab_o_ist 3 135) := ab_s_istore_n (k := 3) (n := 3) ab_dk122_4.2.2.2.2.2.2.2.2.2.2.2.2.1 rfl
theorem ab_s122_135 : ab_Sn B 122 135 (ab_o_ild 3 136) := ab_s_iload_n (k := 3) (n := 3) ab_dk122_4.2.2.2.2.2.2.2.2.2.2.2.2.2.1 rfl
theorem ab_s122_136 : ab_Sn B 122 136 (ab_o_ild 1 137) := ab_s_iload_n (k := 1) (n := 1) ab_dk122_4.2.2.2.2.2.2.2.2.2.2.2.2.2.2.1 rfl
theorem ab_s122_137 : ab_Sn B 122 137 (ab_o_icmp ab_ge 169 140) := ab_s_icmp_ge (tg := 169) (off := 32) ab_dk122_4.2.2.2.2.2.2.2.2.2.2.2.2.2.2.2.1 (by decide)
theorem ab_s122_140 : ab_Sn B 122 140 (ab_o_const 0 141) := ab_s_iconst (n := 0) ab_dk122_5.1 rfl
theorem ab_s122_141 : ab_Sn B 122 141 (ab_o_ist 4 143) := ab_s_istore (k := 4) ab_dk122_5.2.1
theorem ab_s122_143 : ab_Sn B 122 143 (ab_o_ild 4 145) := ab_s_iload (k := 4) ab_dk122_5.2.2.1
theorem ab_s122_145 : ab_Sn B 122 145 (ab_o_ild 2 146) := ab_s_iload_n (k := 2) (n := 2) ab_dk122_5.2.2.2.1 rfl
theorem ab_s122_146 : ab_Sn B 122 146 (ab_o_icmp ab_ge 163 149) := ab_s_icmp_ge (tg := 163) (off := 17) ab_dk122_5.2.2.2.2.1 (by decide)
theorem ab_s122_149 : ab_Sn B 122 149 (ab_o_ald 0 150) := ab_s_aload_n (k := 0) (n := 0) ab_dk122_5.2.2.2.2.2.1 rfl
theorem ab_s122_150 : ab_Sn B 122 150 (ab_o_ild 3 151) := ab_s_iload_n (k := 3) (n := 3) ab_dk122_5.2.2.2.2.2.2.1 rfl
theorem ab_s122_151 : ab_Sn B 122 151 (ab_o_ild 4 153) := ab_s_iload (k := 4) ab_dk122_5.2.2.2.2.2.2.2.1
theorem ab_s122_153 : ab_Sn B 122 153 (ab_o_const 0 154) := ab_s_iconst (n := 0) ab_dk122_5.2.2.2.2.2.2.2.2.1 rfl
theorem ab_s122_154 : ab_Sn B 122 154 (ab_o_call (some (8, 22)) [] 112 4 4 false 157) := ab_s_callV (M' := 112) (na := 3) (i := 75) (ci := 4) (N := 22) (C := RX4) (T := TX4) (v := false) (ab_hok_n (by decide +kernel)) (by decide +kernel) ab_dk122_5.2.2.2.2.2.2.2.2.2.1 rfl (by decide) (by decide +kernel) (by decide +kernel) (by decide) wf_490 wf_491 wf_492 wf_493 wf_459
theorem ab_s122_157 : ab_Sn B 122 157 (ab_o_inc 4 1 160) := ab_s_iinc (k := 4) (n := 1) ab_dk122_5.2.2.2.2.2.2.2.2.2.2.1
theorem ab_s122_160 : ab_Sn B 122 160 (ab_o_goto 143) := ab_s_goto (tg := 143) (off := -17) ab_dk122_5.2.2.2.2.2.2.2.2.2.2.2.1 (by decide)
theorem ab_s122_163 : ab_Sn B 122 163 (ab_o_inc 3 1 166) := ab_s_iinc (k := 3) (n := 1) ab_dk122_5.2.2.2.2.2.2.2.2.2.2.2.2.1
theorem ab_s122_166 : ab_Sn B 122 166 (ab_o_goto 135) := ab_s_goto (tg := 135) (off := -31) ab_dk122_5.2.2.2.2.2.2.2.2.2.2.2.2.2.1 (by decide)
theorem ab_s122_169 : ab_Sn B 122 169 (ab_o_ald 0 170) := ab_s_aload_n (k := 0) (n := 0) ab_dk122_5.2.2.2.2.2.2.2.2.2.2.2.2.2.2.1 rfl
theorem ab_s122_170 : ab_Sn B 122 170 (ab_o_call (some (8, 22)) [] 106 1 1 true 173) := ab_s_callV (M' := 106) (na := 0) (i := 53) (ci := 4) (N := 22) (C := RX4) (T := TX4) (v := true) (ab_hok_n (by decide +kernel)) (by decide +kernel) ab_dk122_5.2.2.2.2.2.2.2.2.2.2.2.2.2.2.2.1 rfl (by decide) (by decide +kernel) (by decide +kernel) (by decide) wf_466 wf_467 wf_468 wf_469 wf_459
theorem ab_s122_173 : ab_Sn B 122 173 (ab_o_iret false) := ab_s_iret (b := false) (ty := .int) ab_dk122_6.1 rfl (Or.inl ⟨rfl, rfl⟩)
theorem ab_sc122_2 : ab_all B 122 128 (ab_d122_2) := ⟨ab_s122_128, ab_s122_129, ab_s122_130, trivial, trivial, ab_s122_133, ab_s122_134, ab_s122_135, ab_s122_136, ab_s122_137, trivial, trivial, ab_s122_140, ab_s122_141, trivial, ab_s122_143, trivial, ab_s122_145, ab_s122_146, trivial, trivial, ab_s122_149, ab_s122_150, ab_s122_151, trivial, ab_s122_153, ab_s122_154, trivial, trivial, ab_s122_157, trivial, trivial, ab_s122_160, trivial, trivial, ab_s122_163, trivial, trivial, ab_s122_166, trivial, trivial, ab_s122_169, ab_s122_170, trivial, trivial, ab_s122_173, trivial⟩
theorem ab_sc122_1 : ab_all B 122 64 (ab_d122_1) := ⟨ab_s122_64, ab_s122_65, ab_s122_66, ab_s122_67, trivial, trivial, trivial, ab_s122_71, trivial, trivial, ab_s122_74, ab_s122_75, ab_s122_76, trivial, ab_s122_78, trivial, trivial, ab_s122_81, ab_s122_82, ab_s122_83, trivial, ab_s122_85, trivial, trivial, ab_s122_88, ab_s122_89, ab_s122_90, trivial, trivial, ab_s122_93, trivial, ab_s122_95, trivial, trivial, ab_s122_98, ab_s122_99, ab_s122_100, trivial, trivial, ab_s122_103, ab_s122_104, ab_s122_105, trivial, trivial, ab_s122_108, ab_s122_109, ab_s122_110, trivial, trivial, ab_s122_113, ab_s122_114, ab_s122_115, trivial, trivial, ab_s122_118, ab_s122_119, ab_s122_120, trivial, trivial, ab_s122_123, ab_s122_124, ab_s122_125, trivial, trivial, ab_sc122_2⟩
theorem ab_sc122_0 : ab_all B 122 0 (ab_d122_0) := ⟨ab_s122_0, ab_s122_1, ab_s122_2, ab_s122_3, ab_s122_4, trivial, trivial, ab_s122_7, trivial, trivial, ab_s122_10, ab_s122_11, ab_s122_12, trivial, ab_s122_14, trivial, trivial, ab_s122_17, trivial, trivial, ab_s122_20, ab_s122_21, trivial, trivial, ab_s122_24, ab_s122_25, ab_s122_26, trivial, trivial, ab_s122_29, trivial, trivial, ab_s122_32, ab_s122_33, ab_s122_34, ab_s122_35, ab_s122_36, trivial, trivial, ab_s122_39, ab_s122_40, ab_s122_41, trivial, trivial, ab_s122_44, ab_s122_45, ab_s122_46, trivial, trivial, ab_s122_49, ab_s122_50, ab_s122_51, trivial, trivial, ab_s122_54, ab_s122_55, ab_s122_56, ab_s122_57, trivial, trivial, trivial, ab_s122_61, trivial, trivial, ab_sc122_1⟩
theorem ab_sn122 : ab_all B 122 0 (ab_c122) := by rw [ab_cd122]; exact ab_sc122_0
theorem ab_dk123_0 : ab_dp 123 [(0, .aload_n 0, 1), (1, .aload_n 0, 1), (2, .iload_n 1, 1), (3, .invokevirtual 123, 3), (6, .iconst 1, 1), (7, .invokevirtual 105, 3), (10, .ifCond .ne 69, 3), (13, .aload_n 0, 1), (14, .iload_n 2, 1), (15, .iconst 0, 1), (16, .sipush 255, 3), (19, .invokestatic 46, 3), (22, .ifCond .eq 12, 3), (25, .iload_n 3, 1), (26, .iconst 0, 1), (27, .iconst 4, 1)] := ab_da (by decide +kernel)
theorem ab_dk123_1 : ab_dp 123 [(28, .invokestatic 46, 3), (31, .ifCond .ne 7, 3), (34, .iconst 1, 1), (35, .goto 4, 3), (38, .iconst 0, 1), (39, .iconst 2, 1), (40, .invokevirtual 39, 3), (43, .ifCond .ne 36, 3), (46, .aload_n 0, 1), (47, .aload_n 0, 1), (48, .getfield 91, 3), (51, .ifCond .eq 16, 3), (54, .aload_n 0, 1), (55, .aload_n 0, 1), (56, .iload_n 1, 1), (57, .invokevirtual 57, 3)] := ab_da (by decide +kernel)
theorem ab_dk123_2 : ab_dp 123 [(60, .invokevirtual 68, 3), (63, .iconst 1, 1), (64, .if_icmp .le 7, 3), (67, .iconst 1, 1), (68, .goto 4, 3), (71, .iconst 0, 1), (72, .iconst 3, 1), (73, .invokevirtual 39, 3), (76, .ifCond .eq 5, 3), (79, .iconst 0, 1), (80, .ireturn, 1), (81, .aload_n 0, 1), (82, .iload_n 1, 1), (83, .invokevirtual 57, 3), (86, .istore 4, 2), (88, .aload_n 0, 1)] := ab_da (by decide +kernel)
theorem ab_dk123_3 : ab_dp 123 [(89, .iload 4, 2), (91, .invokevirtual 127, 3), (94, .pop, 1), (95, .iload_n 3, 1), (96, .ifCond .le 58, 3), (99, .aload_n 0, 1), (100, .iconst 3, 1), (101, .newarray .int, 2), (103, .dup, 1), (104, .iconst 0, 1), (105, .iload_n 1, 1), (106, .iastore, 1), (107, .dup, 1), (108, .iconst 1, 1), (109, .iload_n 2, 1), (110, .iastore, 1)] := ab_da (by decide +kernel)
theorem ab_dk123_4 : ab_dp 123 [(111, .dup, 1), (112, .iconst 2, 1), (113, .aload_n 0, 1), (114, .aload_n 0, 1), (115, .iload 4, 2), (117, .invokevirtual 61, 3), (120, .iload 4, 2), (122, .invokevirtual 85, 3), (125, .aload_n 0, 1), (126, .iload_n 1, 1), (127, .invokevirtual 88, 3), (130, .ixor, 1), (131, .iload_n 2, 1), (132, .ixor, 1), (133, .iastore, 1), (134, .putfield 98, 3)] := ab_da (by decide +kernel)
theorem ab_dk123_5 : ab_dp 123 [(137, .aload_n 0, 1), (138, .getfield 25, 3), (141, .iload_n 1, 1), (142, .iload_n 2, 1), (143, .iastore, 1), (144, .aload_n 0, 1), (145, .dup, 1), (146, .getfield 117, 3), (149, .iconst 1, 1), (150, .iadd, 1), (151, .putfield 117, 3), (154, .iload_n 3, 1), (155, .iconst 1, 1), (156, .if_icmp .le 8, 3), (159, .aload_n 0, 1), (160, .iconst 2, 1)] := ab_da (by decide +kernel)
theorem ab_dk123_6 : ab_dp 123 [(161, .invokevirtual 101, 3), (164, .iload_n 3, 1), (165, .iconst 2, 1), (166, .if_icmp .le 8, 3), (169, .aload_n 0, 1), (170, .iconst 3, 1), (171, .invokevirtual 101, 3), (174, .iload_n 3, 1), (175, .iconst 4, 1), (176, .if_icmp .ne 11, 3), (179, .aload_n 0, 1), (180, .aconst_null, 1), (181, .putfield 98, 3), (184, .goto 7, 3), (187, .aload_n 0, 1), (188, .invokevirtual 130, 3)] := ab_da (by decide +kernel)
theorem ab_dk123_7 : ab_dp 123 [(191, .iload_n 3, 1), (192, .ifCond .le 7, 3), (195, .iconst 1, 1), (196, .goto 4, 3), (199, .iconst 0, 1), (200, .ireturn, 1)] := ab_da (by decide +kernel)
theorem ab_s123_0 : ab_Sn B 123 0 (ab_o_ald 0 1) := ab_s_aload_n (k := 0) (n := 0) ab_dk123_0.1 rfl
theorem ab_s123_1 : ab_Sn B 123 1 (ab_o_ald 0 2) := ab_s_aload_n (k := 0) (n := 0) ab_dk123_0.2.1 rfl
theorem ab_s123_2 : ab_Sn B 123 2 (ab_o_ild 1 3) := ab_s_iload_n (k := 1) (n := 1) ab_dk123_0.2.2.1 rfl
theorem ab_s123_3 : ab_Sn B 123 3 (ab_o_call (some (8, 22)) [] 105 2 2 true 6) := ab_s_callV (M' := 105) (na := 1) (i := 123) (ci := 4) (N := 22) (C := RX4) (T := TX4) (v := true) (ab_hok_n (by decide +kernel)) (by decide +kernel) ab_dk123_0.2.2.2.1 rfl (by decide) (by decide +kernel) (by decide +kernel) (by decide) wf_523 wf_524 wf_525 wf_526 wf_459
theorem ab_s123_6 : ab_Sn B 123 6 (ab_o_const 1 7) := ab_s_iconst (n := 1) ab_dk123_0.2.2.2.2.1 rfl
theorem ab_s123_7 : ab_Sn B 123 7 (ab_o_call (some (8, 22)) [] 102 3 3 true 10) := ab_s_callV (M' := 102) (na := 2) (i := 105) (ci := 4) (N := 22) (C := RX4) (T := TX4) (v := true) (ab_hok_n (by decide +kernel)) (by decide +kernel) ab_dk123_0.2.2.2.2.2.1 rfl (by decide) (by decide +kernel) (by decide +kernel) (by decide) wf_514 wf_515 wf_516 wf_517 wf_459
theorem ab_s123_10 : ab_Sn B 123 10 (ab_o_if ab_ne 79 13) := ab_s_if_ne (tg := 79) (off := 69) ab_dk123_0.2.2.2.2.2.2.1 (by decide)
theorem ab_s123_13 : ab_Sn B 123 13 (ab_o_ald 0 14) := ab_s_aload_n (k := 0) (n := 0) ab_dk123_0.2.2.2.2.2.2.2.1 rfl
theorem ab_s123_14 : ab_Sn B 123 14 (ab_o_ild 2 15) := ab_s_iload_n (k := 2) (n := 2) ab_dk123_0.2.2.2.2.2.2.2.2.1 rfl
theorem ab_s123_15 : ab_Sn B 123 15 (ab_o_const 0 16) := ab_s_iconst (n := 0) ab_dk123_0.2.2.2.2.2.2.2.2.2.1 rfl
theorem ab_s123_16 : ab_Sn B 123 16 (ab_o_const 255 19) := ab_s_sipush (n := 255) ab_dk123_0.2.2.2.2.2.2.2.2.2.2.1 (by decide)
theorem ab_s123_19 : ab_Sn B 123 19 (ab_o_call none [] 100 3 3 true 22) := ab_s_callS (M' := 100) (na := 3) (i := 46) (v := true) (ab_hok_n (by decide +kernel)) (by decide +kernel) ab_dk123_0.2.2.2.2.2.2.2.2.2.2.2.1 (by decide +kernel) (by decide +kernel) (by decide) wf_462 wf_463 wf_464 wf_459
theorem ab_s123_22 : ab_Sn B 123 22 (ab_o_if ab_eq 34 25) := ab_s_if_eq (tg := 34) (off := 12) ab_dk123_0.2.2.2.2.2.2.2.2.2.2.2.2.1 (by decide)
theorem ab_s123_25 : ab_Sn B 123 25 (ab_o_ild 3 26) := ab_s_iload_n (k := 3) (n := 3) ab_dk123_0.2.2.2.2.2.2.2.2.2.2.2.2.2.1 rfl
theorem ab_s123_26 : ab_Sn B 123 26 (ab_o_const 0 27) := ab_s_iconst (n := 0) ab_dk123_0.2.2.2.2.2.2.2.2.2.2.2.2.2.2.1 rfl
theorem ab_s123_27 : ab_Sn B 123 27 (ab_o_const 4 28) := ab_s_iconst (n := 4) ab_dk123_0.2.2.2.2.2.2.2.2.2.2.2.2.2.2.2.1 rfl
theorem ab_s123_28 : ab_Sn B 123 28 (ab_o_call none [] 100 3 3 true 31) := ab_s_callS (M' := 100) (na := 3) (i := 46) (v := true) (ab_hok_n (by decide +kernel)) (by decide +kernel) ab_dk123_1.1 (by decide +kernel) (by decide +kernel) (by decide) wf_462 wf_463 wf_464 wf_459
theorem ab_s123_31 : ab_Sn B 123 31 (ab_o_if ab_ne 38 34) := ab_s_if_ne (tg := 38) (off := 7) ab_dk123_1.2.1 (by decide)
theorem ab_s123_34 : ab_Sn B 123 34 (ab_o_const 1 35) := ab_s_iconst (n := 1) ab_dk123_1.2.2.1 rfl
theorem ab_s123_35 : ab_Sn B 123 35 (ab_o_goto 39) := ab_s_goto (tg := 39) (off := 4) ab_dk123_1.2.2.2.1 (by decide)
theorem ab_s123_38 : ab_Sn B 123 38 (ab_o_const 0 39) := ab_s_iconst (n := 0) ab_dk123_1.2.2.2.2.1 rfl
theorem ab_s123_39 : ab_Sn B 123 39 (ab_o_const 2 40) := ab_s_iconst (n := 2) ab_dk123_1.2.2.2.2.2.1 rfl
theorem ab_s123_40 : ab_Sn B 123 40 (ab_o_call (some (8, 22)) [] 101 3 3 true 43) := ab_s_callV (M' := 101) (na := 2) (i := 39) (ci := 4) (N := 22) (C := RX4) (T := TX4) (v := true) (ab_hok_n (by decide +kernel)) (by decide +kernel) ab_dk123_1.2.2.2.2.2.2.1 rfl (by decide) (by decide +kernel) (by decide +kernel) (by decide) wf_456 wf_457 wf_458 wf_460 wf_459
theorem ab_s123_43 : ab_Sn B 123 43 (ab_o_if ab_ne 79 46) := ab_s_if_ne (tg := 79) (off := 36) ab_dk123_1.2.2.2.2.2.2.2.1 (by decide)
theorem ab_s123_46 : ab_Sn B 123 46 (ab_o_ald 0 47) := ab_s_aload_n (k := 0) (n := 0) ab_dk123_1.2.2.2.2.2.2.2.2.1 rfl
theorem ab_s123_47 : ab_Sn B 123 47 (ab_o_ald 0 48) := ab_s_aload_n (k := 0) (n := 0) ab_dk123_1.2.2.2.2.2.2.2.2.2.1 rfl
theorem ab_s123_48 : ab_Sn B 123 48 (ab_o_geti 8 22 3 51) := ab_s_geti (i := 91) (ci := 4) (N := 22) (k := 3) (C := RX4) (T := TX4) ab_dk123_1.2.2.2.2.2.2.2.2.2.2.1 rfl (by decide) rfl wf_507
theorem ab_s123_51 : ab_Sn B 123 51 (ab_o_if ab_eq 67 54) := ab_s_if_eq (tg := 67) (off := 16) ab_dk123_1.2.2.2.2.2.2.2.2.2.2.2.1 (by decide)
theorem ab_s123_54 : ab_Sn B 123 54 (ab_o_ald 0 55) := ab_s_aload_n (k := 0) (n := 0) ab_dk123_1.2.2.2.2.2.2.2.2.2.2.2.2.1 rfl
theorem ab_s123_55 : ab_Sn B 123 55 (ab_o_ald 0 56) := ab_s_aload_n (k := 0) (n := 0) ab_dk123_1.2.2.2.2.2.2.2.2.2.2.2.2.2.1 rfl
theorem ab_s123_56 : ab_Sn B 123 56 (ab_o_ild 1 57) := ab_s_iload_n (k := 1) (n := 1) ab_dk123_1.2.2.2.2.2.2.2.2.2.2.2.2.2.2.1 rfl
theorem ab_s123_57 : ab_Sn B 123 57 (ab_o_call (some (8, 22)) [] 107 2 2 true 60) := ab_s_callV (M' := 107) (na := 1) (i := 57) (ci := 4) (N := 22) (C := RX4) (T := TX4) (v := true) (ab_hok_n (by decide +kernel)) (by decide +kernel) ab_dk123_1.2.2.2.2.2.2.2.2.2.2.2.2.2.2.2.1 rfl (by decide) (by decide +kernel) (by decide +kernel) (by decide) wf_470 wf_471 wf_472 wf_473 wf_459
theorem ab_s123_60 : ab_Sn B 123 60 (ab_o_call (some (8, 22)) [] 113 4 2 true 63) := ab_s_callV (M' := 113) (na := 1) (i := 68) (ci := 4) (N := 22) (C := RX4) (T := TX4) (v := true) (ab_hok_n (by decide +kernel)) (by decide +kernel) ab_dk123_2.1 rfl (by decide) (by decide +kernel) (by decide +kernel) (by decide) wf_482 wf_483 wf_484 wf_485 wf_459
theorem ab_s123_63 : ab_Sn B 123 63 (ab_o_const 1 64) := ab_s_iconst (n := 1) ab_dk123_2.2.1 rfl
theorem ab_s123_64 : ab_Sn B 123 64 (ab_o_icmp ab_le 71 67) := ab_s_icmp_le (tg := 71) (off := 7) ab_dk123_2.2.2.1 (by decide)
theorem ab_s123_67 : ab_Sn B 123 67 (ab_o_const 1 68) := ab_s_iconst (n := 1) ab_dk123_2.2.2.2.1 rfl
theorem ab_s123_68 : ab_Sn B 123 68 (ab_o_goto 72) := ab_s_goto (tg := 72) (off := 4) ab_dk123_2.2.2.2.2.1 (by decide)
theorem ab_s123_71 : ab_Sn B 123 71 (ab_o_const 0 72) := ab_s_iconst (n := 0) ab_dk123_2.2.2.2.2.2.1 rfl
theorem ab_s123_72 : ab_Sn B 123 72 (ab_o_const 3 73) := ab_s_iconst (n := 3) ab_dk123_2.2.2.2.2.2.2.1 rfl
theorem ab_s123_73 : ab_Sn B 123 73 (ab_o_call (some (8, 22)) [] 101 3 3 true 76) := ab_s_callV (M' := 101) (na := 2) (i := 39) (ci := 4) (N := 22) (C := RX4) (T := TX4) (v := true) (ab_hok_n (by decide +kernel)) (by decide +kernel) ab_dk123_2.2.2.2.2.2.2.2.1 rfl (by decide) (by decide +kernel) (by decide +kernel) (by decide) wf_456 wf_457 wf_458 wf_460 wf_459
theorem ab_s123_76 : ab_Sn B 123 76 (ab_o_if ab_eq 81 79) := ab_s_if_eq (tg := 81) (off := 5) ab_dk123_2.2.2.2.2.2.2.2.2.1 (by decide)
theorem ab_s123_79 : ab_Sn B 123 79 (ab_o_const 0 80) := ab_s_iconst (n := 0) ab_dk123_2.2.2.2.2.2.2.2.2.2.1 rfl
theorem ab_s123_80 : ab_Sn B 123 80 (ab_o_iret true) := ab_s_iret (b := true) (ty := .boolean) ab_dk123_2.2.2.2.2.2.2.2.2.2.2.1 rfl (Or.inr (Or.inl ⟨rfl, rfl⟩))
theorem ab_s123_81 : ab_Sn B 123 81 (ab_o_ald 0 82) := ab_s_aload_n (k := 0) (n := 0) ab_dk123_2.2.2.2.2.2.2.2.2.2.2.2.1 rfl
theorem ab_s123_82 : ab_Sn B 123 82 (ab_o_ild 1 83) := ab_s_iload_n (k := 1) (n := 1) ab_dk123_2.2.2.2.2.2.2.2.2.2.2.2.2.1 rfl
theorem ab_s123_83 : ab_Sn B 123 83 (ab_o_call (some (8, 22)) [] 107 2 2 true 86) := ab_s_callV (M' := 107) (na := 1) (i := 57) (ci := 4) (N := 22) (C := RX4) (T := TX4) (v := true) (ab_hok_n (by decide +kernel)) (by decide +kernel) ab_dk123_2.2.2.2.2.2.2.2.2.2.2.2.2.2.1 rfl (by decide) (by decide +kernel) (by decide +kernel) (by decide) wf_470 wf_471 wf_472 wf_473 wf_459
theorem ab_s123_86 : ab_Sn B 123 86 (ab_o_ist 4 88) := ab_s_istore (k := 4) ab_dk123_2.2.2.2.2.2.2.2.2.2.2.2.2.2.2.1
theorem ab_s123_88 : ab_Sn B 123 88 (ab_o_ald 0 89) := ab_s_aload_n (k := 0) (n := 0) ab_dk123_2.2.2.2.2.2.2.2.2.2.2.2.2.2.2.2.1 rfl
theorem ab_s123_89 : ab_Sn B 123 89 (ab_o_ild 4 91) := ab_s_iload (k := 4) ab_dk123_3.1
theorem ab_s123_91 : ab_Sn B 123 91 (ab_o_call (some (8, 22)) [] 116 3 2 true 94) := ab_s_callV (M' := 116) (na := 1) (i := 127) (ci := 4) (N := 22) (C := RX4) (T := TX4) (v := true) (ab_hok_n (by decide +kernel)) (by decide +kernel) ab_dk123_3.2.1 rfl (by decide) (by decide +kernel) (by decide +kernel) (by decide) wf_527 wf_528 wf_529 wf_530 wf_459
theorem ab_s123_94 : ab_Sn B 123 94 (ab_o_pop 95) := ab_s_pop ab_dk123_3.2.2.1
theorem ab_s123_95 : ab_Sn B 123 95 (ab_o_ild 3 96) := ab_s_iload_n (k := 3) (n := 3) ab_dk123_3.2.2.2.1 rfl
theorem ab_s123_96 : ab_Sn B 123 96 (ab_o_if ab_le 154 99) := ab_s_if_le (tg := 154) (off := 58) ab_dk123_3.2.2.2.2.1 (by decide)
theorem ab_s123_99 : ab_Sn B 123 99 (ab_o_ald 0 100) := ab_s_aload_n (k := 0) (n := 0) ab_dk123_3.2.2.2.2.2.1 rfl
theorem ab_s123_100 : ab_Sn B 123 100 (ab_o_const 3 101) := ab_s_iconst (n := 3) ab_dk123_3.2.2.2.2.2.2.1 rfl
theorem ab_s123_101 : ab_Sn B 123 101 (ab_o_newa 0 103) := ab_s_newa0 ab_dk123_3.2.2.2.2.2.2.2.1 wf_3
theorem ab_s123_103 : ab_Sn B 123 103 (ab_o_dup 104) := ab_s_dup ab_dk123_3.2.2.2.2.2.2.2.2.1
theorem ab_s123_104 : ab_Sn B 123 104 (ab_o_const 0 105) := ab_s_iconst (n := 0) ab_dk123_3.2.2.2.2.2.2.2.2.2.1 rfl
theorem ab_s123_105 : ab_Sn B 123 105 (ab_o_ild 1 106) := ab_s_iload_n (k := 1) (n := 1) ab_dk123_3.2.2.2.2.2.2.2.2.2.2.1 rfl
theorem ab_s123_106 : ab_Sn B 123 106 (ab_o_xst 0 107) := ab_s_iastore ab_dk123_3.2.2.2.2.2.2.2.2.2.2.2.1
theorem ab_s123_107 : ab_Sn B 123 107 (ab_o_dup 108) := ab_s_dup ab_dk123_3.2.2.2.2.2.2.2.2.2.2.2.2.1
theorem ab_s123_108 : ab_Sn B 123 108 (ab_o_const 1 109) := ab_s_iconst (n := 1) ab_dk123_3.2.2.2.2.2.2.2.2.2.2.2.2.2.1 rfl
theorem ab_s123_109 : ab_Sn B 123 109 (ab_o_ild 2 110) := ab_s_iload_n (k := 2) (n := 2) ab_dk123_3.2.2.2.2.2.2.2.2.2.2.2.2.2.2.1 rfl
theorem ab_s123_110 : ab_Sn B 123 110 (ab_o_xst 0 111) := ab_s_iastore ab_dk123_3.2.2.2.2.2.2.2.2.2.2.2.2.2.2.2.1
theorem ab_s123_111 : ab_Sn B 123 111 (ab_o_dup 112) := ab_s_dup ab_dk123_4.1
theorem ab_s123_112 : ab_Sn B 123 112 (ab_o_const 2 113) := ab_s_iconst (n := 2) ab_dk123_4.2.1 rfl
theorem ab_s123_113 : ab_Sn B 123 113 (ab_o_ald 0 114) := ab_s_aload_n (k := 0) (n := 0) ab_dk123_4.2.2.1 rfl
theorem ab_s123_114 : ab_Sn B 123 114 (ab_o_ald 0 115) := ab_s_aload_n (k := 0) (n := 0) ab_dk123_4.2.2.2.1 rfl
theorem ab_s123_115 : ab_Sn B 123 115 (ab_o_ild 4 117) := ab_s_iload (k := 4) ab_dk123_4.2.2.2.2.1
theorem ab_s123_117 : ab_Sn B 123 117 (ab_o_call (some (8, 22)) [] 108 2 2 true 120) := ab_s_callV (M' := 108) (na := 1) (i := 61) (ci := 4) (N := 22) (C := RX4) (T := TX4) (v := true) (ab_hok_n (by decide +kernel)) (by decide +kernel) ab_dk123_4.2.2.2.2.2.1 rfl (by decide) (by decide +kernel) (by decide +kernel) (by decide) wf_474 wf_475 wf_476 wf_477 wf_459
theorem ab_s123_120 : ab_Sn B 123 120 (ab_o_ild 4 122) := ab_s_iload (k := 4) ab_dk123_4.2.2.2.2.2.2.1
theorem ab_s123_122 : ab_Sn B 123 122 (ab_o_call (some (8, 22)) [] 115 3 3 true 125) := ab_s_callV (M' := 115) (na := 2) (i := 85) (ci := 4) (N := 22) (C := RX4) (T := TX4) (v := true) (ab_hok_n (by decide +kernel)) (by decide +kernel) ab_dk123_4.2.2.2.2.2.2.2.1 rfl (by decide) (by decide +kernel) (by decide +kernel) (by decide) wf_499 wf_500 wf_501 wf_502 wf_459
theorem ab_s123_125 : ab_Sn B 123 125 (ab_o_ald 0 126) := ab_s_aload_n (k := 0) (n := 0) ab_dk123_4.2.2.2.2.2.2.2.2.1 rfl
theorem ab_s123_126 : ab_Sn B 123 126 (ab_o_ild 1 127) := ab_s_iload_n (k := 1) (n := 1) ab_dk123_4.2.2.2.2.2.2.2.2.2.1 rfl
theorem ab_s123_127 : ab_Sn B 123 127 (ab_o_call (some (8, 22)) [] 117 2 2 true 130) := ab_s_callV (M' := 117) (na := 1) (i := 88) (ci := 4) (N := 22) (C := RX4) (T := TX4) (v := true) (ab_hok_n (by decide +kernel)) (by decide +kernel) ab_dk123_4.2.2.2.2.2.2.2.2.2.2.1 rfl (by decide) (by decide +kernel) (by decide +kernel) (by decide) wf_503 wf_504 wf_505 wf_506 wf_459
theorem ab_s123_130 : ab_Sn B 123 130 (ab_o_bin ab_ixor 131) := ab_s_ixor ab_dk123_4.2.2.2.2.2.2.2.2.2.2.2.1
theorem ab_s123_131 : ab_Sn B 123 131 (ab_o_ild 2 132) := ab_s_iload_n (k := 2) (n := 2) ab_dk123_4.2.2.2.2.2.2.2.2.2.2.2.2.1 rfl
theorem ab_s123_132 : ab_Sn B 123 132 (ab_o_bin ab_ixor 133) := ab_s_ixor ab_dk123_4.2.2.2.2.2.2.2.2.2.2.2.2.2.1
theorem ab_s123_133 : ab_Sn B 123 133 (ab_o_xst 0 134) := ab_s_iastore ab_dk123_4.2.2.2.2.2.2.2.2.2.2.2.2.2.2.1
theorem ab_s123_134 : ab_Sn B 123 134 (ab_o_putr 8 22 9 137) := ab_s_putr (ty := .array .int) (i := 98) (ci := 4) (N := 22) (k := 9) (C := RX4) (T := TX4) ab_dk123_4.2.2.2.2.2.2.2.2.2.2.2.2.2.2.2.1 rfl (by decide) rfl wf_509 rfl (by decide +kernel) (Or.inr ⟨_, rfl⟩)
theorem ab_s123_137 : ab_Sn B 123 137 (ab_o_ald 0 138) := ab_s_aload_n (k := 0) (n := 0) ab_dk123_5.1 rfl
theorem ab_s123_138 : ab_Sn B 123 138 (ab_o_getr 8 22 8 141) := ab_s_getr (i := 25) (ci := 4) (N := 22) (k := 8) (C := RX4) (T := TX4) ab_dk123_5.2.1 rfl (by decide) rfl wf_451
theorem ab_s123_141 : ab_Sn B 123 141 (ab_o_ild 1 142) := ab_s_iload_n (k := 1) (n := 1) ab_dk123_5.2.2.1 rfl
theorem ab_s123_142 : ab_Sn B 123 142 (ab_o_ild 2 143) := ab_s_iload_n (k := 2) (n := 2) ab_dk123_5.2.2.2.1 rfl
theorem ab_s123_143 : ab_Sn B 123 143 (ab_o_xst 0 144) := ab_s_iastore ab_dk123_5.2.2.2.2.1
theorem ab_s123_144 : ab_Sn B 123 144 (ab_o_ald 0 145) := ab_s_aload_n (k := 0) (n := 0) ab_dk123_5.2.2.2.2.2.1 rfl
theorem ab_s123_145 : ab_Sn B 123 145 (ab_o_dup 146) := ab_s_dup ab_dk123_5.2.2.2.2.2.2.1
theorem ab_s123_146 : ab_Sn B 123 146 (ab_o_geti 8 22 14 149) := ab_s_geti (i := 117) (ci := 4) (N := 22) (k := 14) (C := RX4) (T := TX4) ab_dk123_5.2.2.2.2.2.2.2.1 rfl (by decide) rfl wf_521
theorem ab_s123_149 : ab_Sn B 123 149 (ab_o_const 1 150) := ab_s_iconst (n := 1) ab_dk123_5.2.2.2.2.2.2.2.2.1 rfl
theorem ab_s123_150 : ab_Sn B 123 150 (ab_o_bin (fun a b => a + b) 151) := ab_s_iadd ab_dk123_5.2.2.2.2.2.2.2.2.2.1
theorem ab_s123_151 : ab_Sn B 123 151 (ab_o_puti 8 22 14 false 154) := ab_s_puti (b := false) (ty := .int) (i := 117) (ci := 4) (N := 22) (k := 14) (C := RX4) (T := TX4) ab_dk123_5.2.2.2.2.2.2.2.2.2.2.1 rfl (by decide) rfl wf_521 rfl (by decide +kernel) (Or.inl ⟨rfl, rfl⟩)
theorem ab_s123_154 : ab_Sn B 123 154 (ab_o_ild 3 155) := ab_s_iload_n (k := 3) (n := 3) ab_dk123_5.2.2.2.2.2.2.2.2.2.2.2.1 rfl
theorem ab_s123_155 : ab_Sn B 123 155 (ab_o_const 1 156) := ab_s_iconst (n := 1) ab_dk123_5.2.2.2.2.2.2.2.2.2.2.2.2.1 rfl
theorem ab_s123_156 : ab_Sn B 123 156 (ab_o_icmp ab_le 164 159) := ab_s_icmp_le (tg := 164) (off := 8) ab_dk123_5.2.2.2.2.2.2.2.2.2.2.2.2.2.1 (by decide)
theorem ab_s123_159 : ab_Sn B 123 159 (ab_o_ald 0 160) := ab_s_aload_n (k := 0) (n := 0) ab_dk123_5.2.2.2.2.2.2.2.2.2.2.2.2.2.2.1 rfl
theorem ab_s123_160 : ab_Sn B 123 160 (ab_o_const 2 161) := ab_s_iconst (n := 2) ab_dk123_5.2.2.2.2.2.2.2.2.2.2.2.2.2.2.2.1 rfl
theorem ab_s123_161 : ab_Sn B 123 161 (ab_o_call (some (8, 22)) [] 121 4 2 false 164) := ab_s_callV (M' := 121) (na := 1) (i := 101) (ci := 4) (N := 22) (C := RX4) (T := TX4) (v := false) (ab_hok_n (by decide +kernel)) (by decide +kernel) ab_dk123_6.1 rfl (by decide) (by decide +kernel) (by decide +kernel) (by decide) wf_510 wf_511 wf_512 wf_513 wf_459
theorem ab_s123_164 : ab_Sn B 123 164 (ab_o_ild 3 165) := ab_s_iload_n (k := 3) (n := 3) ab_dk123_6.2.1 rfl
theorem ab_s123_165 : ab_Sn B 123 165 (ab_o_const 2 166) := ab_s_iconst (n := 2) ab_dk123_6.2.2.1 rfl
theorem ab_s123_166 : ab_Sn B 123 166 (ab_o_icmp ab_le 174 169) := ab_s_icmp_le (tg := 174) (off := 8) ab_dk123_6.2.2.2.1 (by decide)
theorem ab_s123_169 : ab_Sn B 123 169 (ab_o_ald 0 170) := ab_s_aload_n (k := 0) (n := 0) ab_dk123_6.2.2.2.2.1 rfl
theorem ab_s123_170 : ab_Sn B 123 170 (ab_o_const 3 171) := ab_s_iconst (n := 3) ab_dk123_6.2.2.2.2.2.1 rfl
theorem ab_s123_171 : ab_Sn B 123 171 (ab_o_call (some (8, 22)) [] 121 4 2 false 174) := ab_s_callV (M' := 121) (na := 1) (i := 101) (ci := 4) (N := 22) (C := RX4) (T := TX4) (v := false) (ab_hok_n (by decide +kernel)) (by decide +kernel) ab_dk123_6.2.2.2.2.2.2.1 rfl (by decide) (by decide +kernel) (by decide +kernel) (by decide) wf_510 wf_511 wf_512 wf_513 wf_459
theorem ab_s123_174 : ab_Sn B 123 174 (ab_o_ild 3 175) := ab_s_iload_n (k := 3) (n := 3) ab_dk123_6.2.2.2.2.2.2.2.1 rfl
theorem ab_s123_175 : ab_Sn B 123 175 (ab_o_const 4 176) := ab_s_iconst (n := 4) ab_dk123_6.2.2.2.2.2.2.2.2.1 rfl
theorem ab_s123_176 : ab_Sn B 123 176 (ab_o_icmp ab_ne 187 179) := ab_s_icmp_ne (tg := 187) (off := 11) ab_dk123_6.2.2.2.2.2.2.2.2.2.1 (by decide)
theorem ab_s123_179 : ab_Sn B 123 179 (ab_o_ald 0 180) := ab_s_aload_n (k := 0) (n := 0) ab_dk123_6.2.2.2.2.2.2.2.2.2.2.1 rfl
theorem ab_s123_180 : ab_Sn B 123 180 (ab_o_null 181) := ab_s_null ab_dk123_6.2.2.2.2.2.2.2.2.2.2.2.1
theorem ab_s123_181 : ab_Sn B 123 181 (ab_o_putr 8 22 9 184) := ab_s_putr (ty := .array .int) (i := 98) (ci := 4) (N := 22) (k := 9) (C := RX4) (T := TX4) ab_dk123_6.2.2.2.2.2.2.2.2.2.2.2.2.1 rfl (by decide) rfl wf_509 rfl (by decide +kernel) (Or.inr ⟨_, rfl⟩)
theorem ab_s123_184 : ab_Sn B 123 184 (ab_o_goto 191) := ab_s_goto (tg := 191) (off := 7) ab_dk123_6.2.2.2.2.2.2.2.2.2.2.2.2.2.1 (by decide)
theorem ab_s123_187 : ab_Sn B 123 187 (ab_o_ald 0 188) := ab_s_aload_n (k := 0) (n := 0) ab_dk123_6.2.2.2.2.2.2.2.2.2.2.2.2.2.2.1 rfl
theorem ab_s123_188 : ab_Sn B 123 188 (ab_o_call (some (8, 22)) [] 119 1 1 false 191) := ab_s_callV (M' := 119) (na := 0) (i := 130) (ci := 4) (N := 22) (C := RX4) (T := TX4) (v := false) (ab_hok_n (by decide +kernel)) (by decide +kernel) ab_dk123_6.2.2.2.2.2.2.2.2.2.2.2.2.2.2.2.1 rfl (by decide) (by decide +kernel) (by decide +kernel) (by decide) wf_531 wf_532 wf_533 wf_534 wf_459
theorem ab_s123_191 : ab_Sn B 123 191 (ab_o_ild 3 192) := ab_s_iload_n (k := 3) (n := 3) ab_dk123_7.1 rfl
theorem ab_s123_192 : ab_Sn B 123 192 (ab_o_if ab_le 199 195) := ab_s_if_le (tg := 199) (off := 7) ab_dk123_7.2.1 (by decide)
theorem ab_s123_195 : ab_Sn B 123 195 (ab_o_const 1 196) := ab_s_iconst (n := 1) ab_dk123_7.2.2.1 rfl
theorem ab_s123_196 : ab_Sn B 123 196 (ab_o_goto 200) := ab_s_goto (tg := 200) (off := 4) ab_dk123_7.2.2.2.1 (by decide)
theorem ab_s123_199 : ab_Sn B 123 199 (ab_o_const 0 200) := ab_s_iconst (n := 0) ab_dk123_7.2.2.2.2.1 rfl
theorem ab_s123_200 : ab_Sn B 123 200 (ab_o_iret true) := ab_s_iret (b := true) (ty := .boolean) ab_dk123_7.2.2.2.2.2.1 rfl (Or.inr (Or.inl ⟨rfl, rfl⟩))
theorem ab_sc123_3 : ab_all B 123 192 (ab_d123_3) := ⟨ab_s123_192, trivial, trivial, ab_s123_195, ab_s123_196, trivial, trivial, ab_s123_199, ab_s123_200, trivial⟩
theorem ab_sc123_2 : ab_all B 123 128 (ab_d123_2) := ⟨trivial, trivial, ab_s123_130, ab_s123_131, ab_s123_132, ab_s123_133, ab_s123_134, trivial, trivial, ab_s123_137, ab_s123_138, trivial, trivial, ab_s123_141, ab_s123_142, ab_s123_143, ab_s123_144, ab_s123_145, ab_s123_146, trivial, trivial, ab_s123_149, ab_s123_150, ab_s123_151, trivial, trivial, ab_s123_154, ab_s123_155, ab_s123_156, trivial, trivial, ab_s123_159, ab_s123_160, ab_s123_161, trivial, trivial, ab_s123_164, ab_s123_165, ab_s123_166, trivial, trivial, ab_s123_169, ab_s123_170, ab_s123_171, trivial, trivial, ab_s123_174, ab_s123_175, ab_s123_176, trivial, trivial, ab_s123_179, ab_s123_180, ab_s123_181, trivial, trivial, ab_s123_184, trivial, trivial, ab_s123_187, ab_s123_188, trivial, trivial, ab_s123_191, ab_sc123_3⟩
theorem ab_sc123_1 : ab_all B 123 64 (ab_d123_1) := ⟨ab_s123_64, trivial, trivial, ab_s123_67, ab_s123_68, trivial, trivial, ab_s123_71, ab_s123_72, ab_s123_73, trivial, trivial, ab_s123_76, trivial, trivial, ab_s123_79, ab_s123_80, ab_s123_81, ab_s123_82, ab_s123_83, trivial, trivial, ab_s123_86, trivial, ab_s123_88, ab_s123_89, trivial, ab_s123_91, trivial, trivial, ab_s123_94, ab_s123_95, ab_s123_96, trivial, trivial, ab_s123_99, ab_s123_100, ab_s123_101, trivial, ab_s123_103, ab_s123_104, ab_s123_105, ab_s123_106, ab_s123_107, ab_s123_108, ab_s123_109, ab_s123_110, ab_s123_111, ab_s123_112, ab_s123_113, ab_s123_114, ab_s123_115, trivial, ab_s123_117, trivial, trivial, ab_s123_120, trivial, ab_s123_122, trivial, trivial, ab_s123_125, ab_s123_126, ab_s123_127, ab_sc123_2⟩
theorem ab_sc123_0 : ab_all B 123 0 (ab_d123_0) := ⟨ab_s123_0, ab_s123_1, ab_s123_2, ab_s123_3, trivial, trivial, ab_s123_6, ab_s123_7, trivial, trivial, ab_s123_10, trivial, trivial, ab_s123_13, ab_s123_14, ab_s123_15, ab_s123_16, trivial, trivial, ab_s123_19, trivial, trivial, ab_s123_22, trivial, trivial, ab_s123_25, ab_s123_26, ab_s123_27, ab_s123_28, trivial, trivial, ab_s123_31, trivial, trivial, ab_s123_34, ab_s123_35, trivial, trivial, ab_s123_38, ab_s123_39, ab_s123_40, trivial, trivial, ab_s123_43, trivial, trivial, ab_s123_46, ab_s123_47, ab_s123_48, trivial, trivial, ab_s123_51, trivial, trivial, ab_s123_54, ab_s123_55, ab_s123_56, ab_s123_57, trivial, trivial, ab_s123_60, trivial, trivial, ab_s123_63, ab_sc123_1⟩
theorem ab_sn123 : ab_all B 123 0 (ab_c123) := by rw [ab_cd123]; exact ab_sc123_0
theorem ab_dk124_0 : ab_dp 124 [(0, .aload_n 0, 1), (1, .aload_n 0, 1), (2, .iload_n 1, 1), (3, .invokevirtual 123, 3), (6, .iconst 1, 1), (7, .invokevirtual 105, 3), (10, .ifCond .ne 23, 3), (13, .aload_n 0, 1), (14, .aload_n 0, 1), (15, .getfield 91, 3), (18, .ifCond .ne 7, 3), (21, .iconst 1, 1), (22, .goto 4, 3), (25, .iconst 0, 1), (26, .iconst 2, 1), (27, .invokevirtual 39, 3)] := ab_da (by decide +kernel)
theorem ab_dk124_1 : ab_dp 124 [(30, .ifCond .eq 5, 3), (33, .iconst 0, 1), (34, .ireturn, 1), (35, .aload_n 0, 1), (36, .iload_n 1, 1), (37, .invokevirtual 88, 3), (40, .istore_n 2, 1), (41, .aload_n 0, 1), (42, .aload_n 0, 1), (43, .iload_n 1, 1), (44, .invokevirtual 82, 3), (47, .aload_n 0, 1), (48, .iload_n 1, 1), (49, .invokevirtual 57, 3), (52, .invokevirtual 64, 3), (55, .ifCond .eq 13, 3)] := ab_da (by decide +kernel)
theorem ab_dk124_2 : ab_dp 124 [(58, .aload_n 0, 1), (59, .aload_n 0, 1), (60, .iload_n 1, 1), (61, .invokevirtual 57, 3), (64, .invokevirtual 127, 3), (67, .pop, 1), (68, .aload_n 0, 1), (69, .dup, 1), (70, .getfield 120, 3), (73, .iconst 1, 1), (74, .iadd, 1), (75, .putfield 120, 3), (78, .iload_n 2, 1), (79, .ireturn, 1)] := ab_da (by decide +kernel)
theorem ab_s124_0 : ab_Sn B 124 0 (ab_o_ald 0 1) := ab_s_aload_n (k := 0) (n := 0) ab_dk124_0.1 rfl
theorem ab_s124_1 : ab_Sn B 124 1 (ab_o_ald 0 2) := ab_s_aload_n (k := 0) (n := 0) ab_dk124_0.2.1 rfl
theorem ab_s124_2 : ab_Sn B 124 2 (ab_o_ild 1 3) := ab_s_iload_n (k := 1) (n := 1) ab_dk124_0.2.2.1 rfl
theorem ab_s124_3 : ab_Sn B 124 3 (ab_o_call (some (8, 22)) [] 105 2 2 true 6) := ab_s_callV (M' := 105) (na := 1) (i := 123) (ci := 4) (N := 22) (C := RX4) (T := TX4) (v := true) (ab_hok_n (by decide +kernel)) (by decide +kernel) ab_dk124_0.2.2.2.1 rfl (by decide) (by decide +kernel) (by decide +kernel) (by decide) wf_523 wf_524 wf_525 wf_526 wf_459
theorem ab_s124_6 : ab_Sn B 124 6 (ab_o_const 1 7) := ab_s_iconst (n := 1) ab_dk124_0.2.2.2.2.1 rfl
theorem ab_s124_7 : ab_Sn B 124 7 (ab_o_call (some (8, 22)) [] 102 3 3 true 10) := ab_s_callV (M' := 102) (na := 2) (i := 105) (ci := 4) (N := 22) (C := RX4) (T := TX4) (v := true) (ab_hok_n (by decide +kernel)) (by decide +kernel) ab_dk124_0.2.2.2.2.2.1 rfl (by decide) (by decide +kernel) (by decide +kernel) (by decide) wf_514 wf_515 wf_516 wf_517 wf_459
theorem ab_s124_10 : ab_Sn B 124 10 (ab_o_if ab_ne 33 13) := ab_s_if_ne (tg := 33) (off := 23) ab_dk124_0.2.2.2.2.2.2.1 (by decide)
theorem ab_s124_13 : ab_Sn B 124 13 (ab_o_ald 0 14) := ab_s_aload_n (k := 0) (n := 0) ab_dk124_0.2.2.2.2.2.2.2.1 rfl
theorem ab_s124_14 : ab_Sn B 124 14 (ab_o_ald 0 15) := ab_s_aload_n (k := 0) (n := 0) ab_dk124_0.2.2.2.2.2.2.2.2.1 rfl
theorem ab_s124_15 : ab_Sn B 124 15 (ab_o_geti 8 22 3 18) := ab_s_geti (i := 91) (ci := 4) (N := 22) (k := 3) (C := RX4) (T := TX4) ab_dk124_0.2.2.2.2.2.2.2.2.2.1 rfl (by decide) rfl wf_507
theorem ab_s124_18 : ab_Sn B 124 18 (ab_o_if ab_ne 25 21) := ab_s_if_ne (tg := 25) (off := 7) ab_dk124_0.2.2.2.2.2.2.2.2.2.2.1 (by decide)
theorem ab_s124_21 : ab_Sn B 124 21 (ab_o_const 1 22) := ab_s_iconst (n := 1) ab_dk124_0.2.2.2.2.2.2.2.2.2.2.2.1 rfl
theorem ab_s124_22 : ab_Sn B 124 22 (ab_o_goto 26) := ab_s_goto (tg := 26) (off := 4) ab_dk124_0.2.2.2.2.2.2.2.2.2.2.2.2.1 (by decide)
theorem ab_s124_25 : ab_Sn B 124 25 (ab_o_const 0 26) := ab_s_iconst (n := 0) ab_dk124_0.2.2.2.2.2.2.2.2.2.2.2.2.2.1 rfl
theorem ab_s124_26 : ab_Sn B 124 26 (ab_o_const 2 27) := ab_s_iconst (n := 2) ab_dk124_0.2.2.2.2.2.2.2.2.2.2.2.2.2.2.1 rfl
theorem ab_s124_27 : ab_Sn B 124 27 (ab_o_call (some (8, 22)) [] 101 3 3 true 30) := ab_s_callV (M' := 101) (na := 2) (i := 39) (ci := 4) (N := 22) (C := RX4) (T := TX4) (v := true) (ab_hok_n (by decide +kernel)) (by decide +kernel) ab_dk124_0.2.2.2.2.2.2.2.2.2.2.2.2.2.2.2.1 rfl (by decide) (by decide +kernel) (by decide +kernel) (by decide) wf_456 wf_457 wf_458 wf_460 wf_459
theorem ab_s124_30 : ab_Sn B 124 30 (ab_o_if ab_eq 35 33) := ab_s_if_eq (tg := 35) (off := 5) ab_dk124_1.1 (by decide)
theorem ab_s124_33 : ab_Sn B 124 33 (ab_o_const 0 34) := ab_s_iconst (n := 0) ab_dk124_1.2.1 rfl
theorem ab_s124_34 : ab_Sn B 124 34 (ab_o_iret false) := ab_s_iret (b := false) (ty := .int) ab_dk124_1.2.2.1 rfl (Or.inl ⟨rfl, rfl⟩)
theorem ab_s124_35 : ab_Sn B 124 35 (ab_o_ald 0 36) := ab_s_aload_n (k := 0) (n := 0) ab_dk124_1.2.2.2.1 rfl
theorem ab_s124_36 : ab_Sn B 124 36 (ab_o_ild 1 37) := ab_s_iload_n (k := 1) (n := 1) ab_dk124_1.2.2.2.2.1 rfl
theorem ab_s124_37 : ab_Sn B 124 37 (ab_o_call (some (8, 22)) [] 117 2 2 true 40) := ab_s_callV (M' := 117) (na := 1) (i := 88) (ci := 4) (N := 22) (C := RX4) (T := TX4) (v := true) (ab_hok_n (by decide +kernel)) (by decide +kernel) ab_dk124_1.2.2.2.2.2.1 rfl (by decide) (by decide +kernel) (by decide +kernel) (by decide) wf_503 wf_504 wf_505 wf_506 wf_459
theorem ab_s124_40 : ab_Sn B 124 40 (ab_o_ist 2 41) := ab_s_istore_n (k := 2) (n := 2) ab_dk124_1.2.2.2.2.2.2.1 rfl
theorem ab_s124_41 : ab_Sn B 124 41 (ab_o_ald 0 42) := ab_s_aload_n (k := 0) (n := 0) ab_dk124_1.2.2.2.2.2.2.2.1 rfl
theorem ab_s124_42 : ab_Sn B 124 42 (ab_o_ald 0 43) := ab_s_aload_n (k := 0) (n := 0) ab_dk124_1.2.2.2.2.2.2.2.2.1 rfl
theorem ab_s124_43 : ab_Sn B 124 43 (ab_o_ild 1 44) := ab_s_iload_n (k := 1) (n := 1) ab_dk124_1.2.2.2.2.2.2.2.2.2.1 rfl
theorem ab_s124_44 : ab_Sn B 124 44 (ab_o_call (some (8, 22)) [] 109 3 2 true 47) := ab_s_callV (M' := 109) (na := 1) (i := 82) (ci := 4) (N := 22) (C := RX4) (T := TX4) (v := true) (ab_hok_n (by decide +kernel)) (by decide +kernel) ab_dk124_1.2.2.2.2.2.2.2.2.2.2.1 rfl (by decide) (by decide +kernel) (by decide +kernel) (by decide) wf_495 wf_496 wf_497 wf_498 wf_459
theorem ab_s124_47 : ab_Sn B 124 47 (ab_o_ald 0 48) := ab_s_aload_n (k := 0) (n := 0) ab_dk124_1.2.2.2.2.2.2.2.2.2.2.2.1 rfl
theorem ab_s124_48 : ab_Sn B 124 48 (ab_o_ild 1 49) := ab_s_iload_n (k := 1) (n := 1) ab_dk124_1.2.2.2.2.2.2.2.2.2.2.2.2.1 rfl
theorem ab_s124_49 : ab_Sn B 124 49 (ab_o_call (some (8, 22)) [] 107 2 2 true 52) := ab_s_callV (M' := 107) (na := 1) (i := 57) (ci := 4) (N := 22) (C := RX4) (T := TX4) (v := true) (ab_hok_n (by decide +kernel)) (by decide +kernel) ab_dk124_1.2.2.2.2.2.2.2.2.2.2.2.2.2.1 rfl (by decide) (by decide +kernel) (by decide +kernel) (by decide) wf_470 wf_471 wf_472 wf_473 wf_459
theorem ab_s124_52 : ab_Sn B 124 52 (ab_o_call (some (8, 22)) [] 111 3 3 true 55) := ab_s_callV (M' := 111) (na := 2) (i := 64) (ci := 4) (N := 22) (C := RX4) (T := TX4) (v := true) (ab_hok_n (by decide +kernel)) (by decide +kernel) ab_dk124_1.2.2.2.2.2.2.2.2.2.2.2.2.2.2.1 rfl (by decide) (by decide +kernel) (by decide +kernel) (by decide) wf_478 wf_479 wf_480 wf_481 wf_459
theorem ab_s124_55 : ab_Sn B 124 55 (ab_o_if ab_eq 68 58) := ab_s_if_eq (tg := 68) (off := 13) ab_dk124_1.2.2.2.2.2.2.2.2.2.2.2.2.2.2.2.1 (by decide)
theorem ab_s124_58 : ab_Sn B 124 58 (ab_o_ald 0 59) := ab_s_aload_n (k := 0) (n := 0) ab_dk124_2.1 rfl
theorem ab_s124_59 : ab_Sn B 124 59 (ab_o_ald 0 60) := ab_s_aload_n (k := 0) (n := 0) ab_dk124_2.2.1 rfl
theorem ab_s124_60 : ab_Sn B 124 60 (ab_o_ild 1 61) := ab_s_iload_n (k := 1) (n := 1) ab_dk124_2.2.2.1 rfl
theorem ab_s124_61 : ab_Sn B 124 61 (ab_o_call (some (8, 22)) [] 107 2 2 true 64) := ab_s_callV (M' := 107) (na := 1) (i := 57) (ci := 4) (N := 22) (C := RX4) (T := TX4) (v := true) (ab_hok_n (by decide +kernel)) (by decide +kernel) ab_dk124_2.2.2.2.1 rfl (by decide) (by decide +kernel) (by decide +kernel) (by decide) wf_470 wf_471 wf_472 wf_473 wf_459
theorem ab_s124_64 : ab_Sn B 124 64 (ab_o_call (some (8, 22)) [] 116 3 2 true 67) := ab_s_callV (M' := 116) (na := 1) (i := 127) (ci := 4) (N := 22) (C := RX4) (T := TX4) (v := true) (ab_hok_n (by decide +kernel)) (by decide +kernel) ab_dk124_2.2.2.2.2.1 rfl (by decide) (by decide +kernel) (by decide +kernel) (by decide) wf_527 wf_528 wf_529 wf_530 wf_459
theorem ab_s124_67 : ab_Sn B 124 67 (ab_o_pop 68) := ab_s_pop ab_dk124_2.2.2.2.2.2.1
theorem ab_s124_68 : ab_Sn B 124 68 (ab_o_ald 0 69) := ab_s_aload_n (k := 0) (n := 0) ab_dk124_2.2.2.2.2.2.2.1 rfl
theorem ab_s124_69 : ab_Sn B 124 69 (ab_o_dup 70) := ab_s_dup ab_dk124_2.2.2.2.2.2.2.2.1
theorem ab_s124_70 : ab_Sn B 124 70 (ab_o_geti 8 22 15 73) := ab_s_geti (i := 120) (ci := 4) (N := 22) (k := 15) (C := RX4) (T := TX4) ab_dk124_2.2.2.2.2.2.2.2.2.1 rfl (by decide) rfl wf_522
theorem ab_s124_73 : ab_Sn B 124 73 (ab_o_const 1 74) := ab_s_iconst (n := 1) ab_dk124_2.2.2.2.2.2.2.2.2.2.1 rfl
theorem ab_s124_74 : ab_Sn B 124 74 (ab_o_bin (fun a b => a + b) 75) := ab_s_iadd ab_dk124_2.2.2.2.2.2.2.2.2.2.2.1
theorem ab_s124_75 : ab_Sn B 124 75 (ab_o_puti 8 22 15 false 78) := ab_s_puti (b := false) (ty := .int) (i := 120) (ci := 4) (N := 22) (k := 15) (C := RX4) (T := TX4) ab_dk124_2.2.2.2.2.2.2.2.2.2.2.2.1 rfl (by decide) rfl wf_522 rfl (by decide +kernel) (Or.inl ⟨rfl, rfl⟩)
theorem ab_s124_78 : ab_Sn B 124 78 (ab_o_ild 2 79) := ab_s_iload_n (k := 2) (n := 2) ab_dk124_2.2.2.2.2.2.2.2.2.2.2.2.2.1 rfl
theorem ab_s124_79 : ab_Sn B 124 79 (ab_o_iret false) := ab_s_iret (b := false) (ty := .int) ab_dk124_2.2.2.2.2.2.2.2.2.2.2.2.2.2.1 rfl (Or.inl ⟨rfl, rfl⟩)
set_option maxRecDepth 20000 in
theorem ab_sn124 : ab_all B 124 0 (ab_c124) := ⟨ab_s124_0, ab_s124_1, ab_s124_2, ab_s124_3, trivial, trivial, ab_s124_6, ab_s124_7, trivial, trivial, ab_s124_10, trivial, trivial, ab_s124_13, ab_s124_14, ab_s124_15, trivial, trivial, ab_s124_18, trivial, trivial, ab_s124_21, ab_s124_22, trivial, trivial, ab_s124_25, ab_s124_26, ab_s124_27, trivial, trivial, ab_s124_30, trivial, trivial, ab_s124_33, ab_s124_34, ab_s124_35, ab_s124_36, ab_s124_37, trivial, trivial, ab_s124_40, ab_s124_41, ab_s124_42, ab_s124_43, ab_s124_44, trivial, trivial, ab_s124_47, ab_s124_48, ab_s124_49, trivial, trivial, ab_s124_52, trivial, trivial, ab_s124_55, trivial, trivial, ab_s124_58, ab_s124_59, ab_s124_60, ab_s124_61, trivial, trivial, ab_s124_64, trivial, trivial, ab_s124_67, ab_s124_68, ab_s124_69, ab_s124_70, trivial, trivial, ab_s124_73, ab_s124_74, ab_s124_75, trivial, trivial, ab_s124_78, ab_s124_79, trivial⟩
theorem ab_dk125_0 : ab_dp 125 [(0, .aload_n 0, 1), (1, .aload_n 0, 1), (2, .iload_n 1, 1), (3, .invokevirtual 133, 3), (6, .iconst 1, 1), (7, .invokevirtual 105, 3), (10, .ifCond .ne 17, 3), (13, .aload_n 0, 1), (14, .aload_n 0, 1), (15, .getfield 17, 3), (18, .iload_n 1, 1), (19, .baload, 1), (20, .iconst 2, 1), (21, .invokevirtual 39, 3), (24, .ifCond .eq 5, 3), (27, .iconst 0, 1)] := ab_da (by decide +kernel)
theorem ab_dk125_1 : ab_dp 125 [(28, .ireturn, 1), (29, .aload_n 0, 1), (30, .getfield 17, 3), (33, .iload_n 1, 1), (34, .iconst 1, 1), (35, .bastore, 1), (36, .aload_n 0, 1), (37, .invokevirtual 136, 3), (40, .ireturn, 1)] := ab_da (by decide +kernel)
theorem ab_s125_0 : ab_Sn B 125 0 (ab_o_ald 0 1) := ab_s_aload_n (k := 0) (n := 0) ab_dk125_0.1 rfl
theorem ab_s125_1 : ab_Sn B 125 1 (ab_o_ald 0 2) := ab_s_aload_n (k := 0) (n := 0) ab_dk125_0.2.1 rfl
theorem ab_s125_2 : ab_Sn B 125 2 (ab_o_ild 1 3) := ab_s_iload_n (k := 1) (n := 1) ab_dk125_0.2.2.1 rfl
theorem ab_s125_3 : ab_Sn B 125 3 (ab_o_call (some (8, 22)) [] 103 2 2 true 6) := ab_s_callV (M' := 103) (na := 1) (i := 133) (ci := 4) (N := 22) (C := RX4) (T := TX4) (v := true) (ab_hok_n (by decide +kernel)) (by decide +kernel) ab_dk125_0.2.2.2.1 rfl (by decide) (by decide +kernel) (by decide +kernel) (by decide) wf_535 wf_536 wf_537 wf_538 wf_459
theorem ab_s125_6 : ab_Sn B 125 6 (ab_o_const 1 7) := ab_s_iconst (n := 1) ab_dk125_0.2.2.2.2.1 rfl
theorem ab_s125_7 : ab_Sn B 125 7 (ab_o_call (some (8, 22)) [] 102 3 3 true 10) := ab_s_callV (M' := 102) (na := 2) (i := 105) (ci := 4) (N := 22) (C := RX4) (T := TX4) (v := true) (ab_hok_n (by decide +kernel)) (by decide +kernel) ab_dk125_0.2.2.2.2.2.1 rfl (by decide) (by decide +kernel) (by decide +kernel) (by decide) wf_514 wf_515 wf_516 wf_517 wf_459
theorem ab_s125_10 : ab_Sn B 125 10 (ab_o_if ab_ne 27 13) := ab_s_if_ne (tg := 27) (off := 17) ab_dk125_0.2.2.2.2.2.2.1 (by decide)
theorem ab_s125_13 : ab_Sn B 125 13 (ab_o_ald 0 14) := ab_s_aload_n (k := 0) (n := 0) ab_dk125_0.2.2.2.2.2.2.2.1 rfl
theorem ab_s125_14 : ab_Sn B 125 14 (ab_o_ald 0 15) := ab_s_aload_n (k := 0) (n := 0) ab_dk125_0.2.2.2.2.2.2.2.2.1 rfl
theorem ab_s125_15 : ab_Sn B 125 15 (ab_o_getr 8 22 6 18) := ab_s_getr (i := 17) (ci := 4) (N := 22) (k := 6) (C := RX4) (T := TX4) ab_dk125_0.2.2.2.2.2.2.2.2.2.1 rfl (by decide) rfl wf_449
theorem ab_s125_18 : ab_Sn B 125 18 (ab_o_ild 1 19) := ab_s_iload_n (k := 1) (n := 1) ab_dk125_0.2.2.2.2.2.2.2.2.2.2.1 rfl
theorem ab_s125_19 : ab_Sn B 125 19 (ab_o_xld 1 20) := ab_s_baload ab_dk125_0.2.2.2.2.2.2.2.2.2.2.2.1
theorem ab_s125_20 : ab_Sn B 125 20 (ab_o_const 2 21) := ab_s_iconst (n := 2) ab_dk125_0.2.2.2.2.2.2.2.2.2.2.2.2.1 rfl
theorem ab_s125_21 : ab_Sn B 125 21 (ab_o_call (some (8, 22)) [] 101 3 3 true 24) := ab_s_callV (M' := 101) (na := 2) (i := 39) (ci := 4) (N := 22) (C := RX4) (T := TX4) (v := true) (ab_hok_n (by decide +kernel)) (by decide +kernel) ab_dk125_0.2.2.2.2.2.2.2.2.2.2.2.2.2.1 rfl (by decide) (by decide +kernel) (by decide +kernel) (by decide) wf_456 wf_457 wf_458 wf_460 wf_459
theorem ab_s125_24 : ab_Sn B 125 24 (ab_o_if ab_eq 29 27) := ab_s_if_eq (tg := 29) (off := 5) ab_dk125_0.2.2.2.2.2.2.2.2.2.2.2.2.2.2.1 (by decide)
theorem ab_s125_27 : ab_Sn B 125 27 (ab_o_const 0 28) := ab_s_iconst (n := 0) ab_dk125_0.2.2.2.2.2.2.2.2.2.2.2.2.2.2.2.1 rfl
theorem ab_s125_28 : ab_Sn B 125 28 (ab_o_iret false) := ab_s_iret (b := false) (ty := .int) ab_dk125_1.1 rfl (Or.inl ⟨rfl, rfl⟩)
theorem ab_s125_29 : ab_Sn B 125 29 (ab_o_ald 0 30) := ab_s_aload_n (k := 0) (n := 0) ab_dk125_1.2.1 rfl
theorem ab_s125_30 : ab_Sn B 125 30 (ab_o_getr 8 22 6 33) := ab_s_getr (i := 17) (ci := 4) (N := 22) (k := 6) (C := RX4) (T := TX4) ab_dk125_1.2.2.1 rfl (by decide) rfl wf_449
theorem ab_s125_33 : ab_Sn B 125 33 (ab_o_ild 1 34) := ab_s_iload_n (k := 1) (n := 1) ab_dk125_1.2.2.2.1 rfl
theorem ab_s125_34 : ab_Sn B 125 34 (ab_o_const 1 35) := ab_s_iconst (n := 1) ab_dk125_1.2.2.2.2.1 rfl
theorem ab_s125_35 : ab_Sn B 125 35 (ab_o_xst 1 36) := ab_s_bastore ab_dk125_1.2.2.2.2.2.1
theorem ab_s125_36 : ab_Sn B 125 36 (ab_o_ald 0 37) := ab_s_aload_n (k := 0) (n := 0) ab_dk125_1.2.2.2.2.2.2.1 rfl
theorem ab_s125_37 : ab_Sn B 125 37 (ab_o_call (some (8, 22)) [] 118 3 1 true 40) := ab_s_callV (M' := 118) (na := 0) (i := 136) (ci := 4) (N := 22) (C := RX4) (T := TX4) (v := true) (ab_hok_n (by decide +kernel)) (by decide +kernel) ab_dk125_1.2.2.2.2.2.2.2.1 rfl (by decide) (by decide +kernel) (by decide +kernel) (by decide) wf_539 wf_540 wf_541 wf_542 wf_459
theorem ab_s125_40 : ab_Sn B 125 40 (ab_o_iret false) := ab_s_iret (b := false) (ty := .int) ab_dk125_1.2.2.2.2.2.2.2.2.1 rfl (Or.inl ⟨rfl, rfl⟩)
set_option maxRecDepth 20000 in
theorem ab_sn125 : ab_all B 125 0 (ab_c125) := ⟨ab_s125_0, ab_s125_1, ab_s125_2, ab_s125_3, trivial, trivial, ab_s125_6, ab_s125_7, trivial, trivial, ab_s125_10, trivial, trivial, ab_s125_13, ab_s125_14, ab_s125_15, trivial, trivial, ab_s125_18, ab_s125_19, ab_s125_20, ab_s125_21, trivial, trivial, ab_s125_24, trivial, trivial, ab_s125_27, ab_s125_28, ab_s125_29, ab_s125_30, trivial, trivial, ab_s125_33, ab_s125_34, ab_s125_35, ab_s125_36, ab_s125_37, trivial, trivial, ab_s125_40, trivial⟩
theorem ab_dk126_0 : ab_dp 126 [(0, .aload_n 0, 1), (1, .aload_n 0, 1), (2, .iload_n 1, 1), (3, .invokevirtual 133, 3), (6, .iconst 1, 1), (7, .invokevirtual 105, 3), (10, .ifCond .eq 5, 3), (13, .iconst 0, 1), (14, .ireturn, 1), (15, .aload_n 0, 1), (16, .getfield 17, 3), (19, .iload_n 1, 1), (20, .iconst 0, 1), (21, .bastore, 1), (22, .aload_n 0, 1), (23, .getfield 21, 3)] := ab_da (by decide +kernel)
theorem ab_dk126_1 : ab_dp 126 [(26, .iload_n 1, 1), (27, .dup2, 1), (28, .iaload, 1), (29, .iconst 1, 1), (30, .iadd, 1), (31, .iastore, 1), (32, .iconst 0, 1), (33, .istore_n 2, 1), (34, .iload_n 2, 1), (35, .aload_n 0, 1), (36, .getfield 50, 3), (39, .if_icmp .ge 27, 3), (42, .aload_n 0, 1), (43, .getfield 9, 3), (46, .iload_n 1, 1), (47, .aaload, 1)] := ab_da (by decide +kernel)
theorem ab_dk126_2 : ab_dp 126 [(48, .iload_n 2, 1), (49, .iconst 0, 1), (50, .iastore, 1), (51, .aload_n 0, 1), (52, .getfield 14, 3), (55, .iload_n 1, 1), (56, .aaload, 1), (57, .iload_n 2, 1), (58, .iconst (-1), 1), (59, .iastore, 1), (60, .iinc 2 1, 3), (63, .goto (-29), 3), (66, .aload_n 0, 1), (67, .iconst 0, 1), (68, .putfield 111, 3), (71, .aload_n 0, 1)] := ab_da (by decide +kernel)
theorem ab_dk126_3 : ab_dp 126 [(72, .invokevirtual 136, 3), (75, .ireturn, 1)] := ab_da (by decide +kernel)
theorem ab_s126_0 : ab_Sn B 126 0 (ab_o_ald 0 1) := ab_s_aload_n (k := 0) (n := 0) ab_dk126_0.1 rfl
theorem ab_s126_1 : ab_Sn B 126 1 (ab_o_ald 0 2) := ab_s_aload_n (k := 0) (n := 0) ab_dk126_0.2.1 rfl
theorem ab_s126_2 : ab_Sn B 126 2 (ab_o_ild 1 3) := ab_s_iload_n (k := 1) (n := 1) ab_dk126_0.2.2.1 rfl
theorem ab_s126_3 : ab_Sn B 126 3 (ab_o_call (some (8, 22)) [] 103 2 2 true 6) := ab_s_callV (M' := 103) (na := 1) (i := 133) (ci := 4) (N := 22) (C := RX4) (T := TX4) (v := true) (ab_hok_n (by decide +kernel)) (by decide +kernel) ab_dk126_0.2.2.2.1 rfl (by decide) (by decide +kernel) (by decide +kernel) (by decide) wf_535 wf_536 wf_537 wf_538 wf_459
theorem ab_s126_6 : ab_Sn B 126 6 (ab_o_const 1 7) := ab_s_iconst (n := 1) ab_dk126_0.2.2.2.2.1 rfl
theorem ab_s126_7 : ab_Sn B 126 7 (ab_o_call (some (8, 22)) [] 102 3 3 true 10) := ab_s_callV (M' := 102) (na := 2) (i := 105) (ci := 4) (N := 22) (C := RX4) (T := TX4) (v := true) (ab_hok_n (by decide +kernel)) (by decide +kernel) ab_dk126_0.2.2.2.2.2.1 rfl (by decide) (by decide +kernel) (by decide +kernel) (by decide) wf_514 wf_515 wf_516 wf_517 wf_459
theorem ab_s126_10 : ab_Sn B 126 10 (ab_o_if ab_eq 15 13) := ab_s_if_eq (tg := 15) (off := 5) ab_dk126_0.2.2.2.2.2.2.1 (by decide)
theorem ab_s126_13 : ab_Sn B 126 13 (ab_o_const 0 14) := ab_s_iconst (n := 0) ab_dk126_0.2.2.2.2.2.2.2.1 rfl
theorem ab_s126_14 : ab_Sn B 126 14 (ab_o_iret false) := ab_s_iret (b := false) (ty := .int) ab_dk126_0.2.2.2.2.2.2.2.2.1 rfl (Or.inl ⟨rfl, rfl⟩)
theorem ab_s126_15 : ab_Sn B 126 15 (ab_o_ald 0 16) := ab_s_aload_n (k := 0) (n := 0) ab_dk126_0.2.2.2.2.2.2.2.2.2.1 rfl
theorem ab_s126_16 : ab_Sn B 126 16 (ab_o_getr 8 22 6 19) := ab_s_getr (i := 17) (ci := 4) (N := 22) (k := 6) (C := RX4) (T := TX4) ab_dk126_0.2.2.2.2.2.2.2.2.2.2.1 rfl (by decide) rfl wf_449
theorem ab_s126_19 : ab_Sn B 126 19 (ab_o_ild 1 20) := ab_s_iload_n (k := 1) (n := 1) ab_dk126_0.2.2.2.2.2.2.2.2.2.2.2.1 rfl
theorem ab_s126_20 : ab_Sn B 126 20 (ab_o_const 0 21) := ab_s_iconst (n := 0) ab_dk126_0.2.2.2.2.2.2.2.2.2.2.2.2.1 rfl
theorem ab_s126_21 : ab_Sn B 126 21 (ab_o_xst 1 22) := ab_s_bastore ab_dk126_0.2.2.2.2.2.2.2.2.2.2.2.2.2.1
theorem ab_s126_22 : ab_Sn B 126 22 (ab_o_ald 0 23) := ab_s_aload_n (k := 0) (n := 0) ab_dk126_0.2.2.2.2.2.2.2.2.2.2.2.2.2.2.1 rfl
theorem ab_s126_23 : ab_Sn B 126 23 (ab_o_getr 8 22 7 26) := ab_s_getr (i := 21) (ci := 4) (N := 22) (k := 7) (C := RX4) (T := TX4) ab_dk126_0.2.2.2.2.2.2.2.2.2.2.2.2.2.2.2.1 rfl (by decide) rfl wf_450
theorem ab_s126_26 : ab_Sn B 126 26 (ab_o_ild 1 27) := ab_s_iload_n (k := 1) (n := 1) ab_dk126_1.1 rfl
theorem ab_s126_27 : ab_Sn B 126 27 (ab_o_dup2 28) := ab_s_dup2 ab_dk126_1.2.1
theorem ab_s126_28 : ab_Sn B 126 28 (ab_o_xld 0 29) := ab_s_iaload ab_dk126_1.2.2.1
theorem ab_s126_29 : ab_Sn B 126 29 (ab_o_const 1 30) := ab_s_iconst (n := 1) ab_dk126_1.2.2.2.1 rfl
theorem ab_s126_30 : ab_Sn B 126 30 (ab_o_bin (fun a b => a + b) 31) := ab_s_iadd ab_dk126_1.2.2.2.2.1
theorem ab_s126_31 : ab_Sn B 126 31 (ab_o_xst 0 32) := ab_s_iastore ab_dk126_1.2.2.2.2.2.1
theorem ab_s126_32 : ab_Sn B 126 32 (ab_o_const 0 33) := ab_s_iconst (n := 0) ab_dk126_1.2.2.2.2.2.2.1 rfl
theorem ab_s126_33 : ab_Sn B 126 33 (ab_o_ist 2 34) := ab_s_istore_n (k := 2) (n := 2) ab_dk126_1.2.2.2.2.2.2.2.1 rfl
theorem ab_s126_34 : ab_Sn B 126 34 (ab_o_ild 2 35) := ab_s_iload_n (k := 2) (n := 2) ab_dk126_1.2.2.2.2.2.2.2.2.1 rfl
theorem ab_s126_35 : ab_Sn B 126 35 (ab_o_ald 0 36) := ab_s_aload_n (k := 0) (n := 0) ab_dk126_1.2.2.2.2.2.2.2.2.2.1 rfl
theorem ab_s126_36 : ab_Sn B 126 36 (ab_o_geti 8 22 2 39) := ab_s_geti (i := 50) (ci := 4) (N := 22) (k := 2) (C := RX4) (T := TX4) ab_dk126_1.2.2.2.2.2.2.2.2.2.2.1 rfl (by decide) rfl wf_465
theorem ab_s126_39 : ab_Sn B 126 39 (ab_o_icmp ab_ge 66 42) := ab_s_icmp_ge (tg := 66) (off := 27) ab_dk126_1.2.2.2.2.2.2.2.2.2.2.2.1 (by decide)
theorem ab_s126_42 : ab_Sn B 126 42 (ab_o_ald 0 43) := ab_s_aload_n (k := 0) (n := 0) ab_dk126_1.2.2.2.2.2.2.2.2.2.2.2.2.1 rfl
theorem ab_s126_43 : ab_Sn B 126 43 (ab_o_getr 8 22 4 46) := ab_s_getr (i := 9) (ci := 4) (N := 22) (k := 4) (C := RX4) (T := TX4) ab_dk126_1.2.2.2.2.2.2.2.2.2.2.2.2.2.1 rfl (by decide) rfl wf_447
theorem ab_s126_46 : ab_Sn B 126 46 (ab_o_ild 1 47) := ab_s_iload_n (k := 1) (n := 1) ab_dk126_1.2.2.2.2.2.2.2.2.2.2.2.2.2.2.1 rfl
theorem ab_s126_47 : ab_Sn B 126 47 (ab_o_aald 48) := ab_s_aald ab_dk126_1.2.2.2.2.2.2.2.2.2.2.2.2.2.2.2.1
theorem ab_s126_48 : ab_Sn B 126 48 (ab_o_ild 2 49) := ab_s_iload_n (k := 2) (n := 2) ab_dk126_2.1 rfl
theorem ab_s126_49 : ab_Sn B 126 49 (ab_o_const 0 50) := ab_s_iconst (n := 0) ab_dk126_2.2.1 rfl
theorem ab_s126_50 : ab_Sn B 126 50 (ab_o_xst 0 51) := ab_s_iastore ab_dk126_2.2.2.1
theorem ab_s126_51 : ab_Sn B 126 51 (ab_o_ald 0 52) := ab_s_aload_n (k := 0) (n := 0) ab_dk126_2.2.2.2.1 rfl
theorem ab_s126_52 : ab_Sn B 126 52 (ab_o_getr 8 22 5 55) := ab_s_getr (i := 14) (ci := 4) (N := 22) (k := 5) (C := RX4) (T := TX4) ab_dk126_2.2.2.2.2.1 rfl (by decide) rfl wf_448
theorem ab_s126_55 : ab_Sn B 126 55 (ab_o_ild 1 56) := ab_s_iload_n (k := 1) (n := 1) ab_dk126_2.2.2.2.2.2.1 rfl
theorem ab_s126_56 : ab_Sn B 126 56 (ab_o_aald 57) := ab_s_aald ab_dk126_2.2.2.2.2.2.2.1
theorem ab_s126_57 : ab_Sn B 126 57 (ab_o_ild 2 58) := ab_s_iload_n (k := 2) (n := 2) ab_dk126_2.2.2.2.2.2.2.2.1 rfl
theorem ab_s126_58 : ab_Sn B 126 58 (ab_o_const (-1) 59) := ab_s_iconst (n := (-1)) ab_dk126_2.2.2.2.2.2.2.2.2.1 rfl
theorem ab_s126_59 : ab_Sn B 126 59 (ab_o_xst 0 60) := ab_s_iastore ab_dk126_2.2.2.2.2.2.2.2.2.2.1
theorem ab_s126_60 : ab_Sn B 126 60 (ab_o_inc 2 1 63) := ab_s_iinc (k := 2) (n := 1) ab_dk126_2.2.2.2.2.2.2.2.2.2.2.1
theorem ab_s126_63 : ab_Sn B 126 63 (ab_o_goto 34) := ab_s_goto (tg := 34) (off := -29) ab_dk126_2.2.2.2.2.2.2.2.2.2.2.2.1 (by decide)
theorem ab_s126_66 : ab_Sn B 126 66 (ab_o_ald 0 67) := ab_s_aload_n (k := 0) (n := 0) ab_dk126_2.2.2.2.2.2.2.2.2.2.2.2.2.1 rfl
theorem ab_s126_67 : ab_Sn B 126 67 (ab_o_const 0 68) := ab_s_iconst (n := 0) ab_dk126_2.2.2.2.2.2.2.2.2.2.2.2.2.2.1 rfl
theorem ab_s126_68 : ab_Sn B 126 68 (ab_o_puti 8 22 12 false 71) := ab_s_puti (b := false) (ty := .int) (i := 111) (ci := 4) (N := 22) (k := 12) (C := RX4) (T := TX4) ab_dk126_2.2.2.2.2.2.2.2.2.2.2.2.2.2.2.1 rfl (by decide) rfl wf_519 rfl (by decide +kernel) (Or.inl ⟨rfl, rfl⟩)
theorem ab_s126_71 : ab_Sn B 126 71 (ab_o_ald 0 72) := ab_s_aload_n (k := 0) (n := 0) ab_dk126_2.2.2.2.2.2.2.2.2.2.2.2.2.2.2.2.1 rfl
theorem ab_s126_72 : ab_Sn B 126 72 (ab_o_call (some (8, 22)) [] 118 3 1 true 75) := ab_s_callV (M' := 118) (na := 0) (i := 136) (ci := 4) (N := 22) (C := RX4) (T := TX4) (v := true) (ab_hok_n (by decide +kernel)) (by decide +kernel) ab_dk126_3.1 rfl (by decide) (by decide +kernel) (by decide +kernel) (by decide) wf_539 wf_540 wf_541 wf_542 wf_459
theorem ab_s126_75 : ab_Sn B 126 75 (ab_o_iret false) := ab_s_iret (b := false) (ty := .int) ab_dk126_3.2.1 rfl (Or.inl ⟨rfl, rfl⟩)
set_option maxRecDepth 20000 in
theorem ab_sn126 : ab_all B 126 0 (ab_c126) := ⟨ab_s126_0, ab_s126_1, ab_s126_2, ab_s126_3, trivial, trivial, ab_s126_6, ab_s126_7, trivial, trivial, ab_s126_10, trivial, trivial, ab_s126_13, ab_s126_14, ab_s126_15, ab_s126_16, trivial, trivial, ab_s126_19, ab_s126_20, ab_s126_21, ab_s126_22, ab_s126_23, trivial, trivial, ab_s126_26, ab_s126_27, ab_s126_28, ab_s126_29, ab_s126_30, ab_s126_31, ab_s126_32, ab_s126_33, ab_s126_34, ab_s126_35, ab_s126_36, trivial, trivial, ab_s126_39, trivial, trivial, ab_s126_42, ab_s126_43, trivial, trivial, ab_s126_46, ab_s126_47, ab_s126_48, ab_s126_49, ab_s126_50, ab_s126_51, ab_s126_52, trivial, trivial, ab_s126_55, ab_s126_56, ab_s126_57, ab_s126_58, ab_s126_59, ab_s126_60, trivial, trivial, ab_s126_63, trivial, trivial, ab_s126_66, ab_s126_67, ab_s126_68, trivial, trivial, ab_s126_71, ab_s126_72, trivial, trivial, ab_s126_75, trivial⟩
theorem ab_dk127_0 : ab_dp 127 [(0, .aload_n 0, 1), (1, .aload_n 0, 1), (2, .iload_n 1, 1), (3, .invokevirtual 133, 3), (6, .ifCond .ne 11, 3), (9, .aload_n 0, 1), (10, .iload_n 2, 1), (11, .invokevirtual 139, 3), (14, .ifCond .eq 7, 3), (17, .iconst 1, 1), (18, .goto 4, 3), (21, .iconst 0, 1), (22, .iconst 1, 1), (23, .invokevirtual 105, 3), (26, .ifCond .ne 41, 3), (29, .aload_n 0, 1)] := ab_da (by decide +kernel)
theorem ab_dk127_1 : ab_dp 127 [(30, .iload_n 3, 1), (31, .iconst 1, 1), (32, .sipush 255, 3), (35, .invokestatic 46, 3), (38, .ifCond .ne 7, 3), (41, .iconst 1, 1), (42, .goto 4, 3), (45, .iconst 0, 1), (46, .iconst 2, 1), (47, .invokevirtual 39, 3), (50, .ifCond .ne 17, 3), (53, .aload_n 0, 1), (54, .aload_n 0, 1), (55, .getfield 17, 3), (58, .iload_n 1, 1), (59, .baload, 1)] := ab_da (by decide +kernel)
theorem ab_dk127_2 : ab_dp 127 [(60, .iconst 3, 1), (61, .invokevirtual 39, 3), (64, .ifCond .eq 5, 3), (67, .iconst 0, 1), (68, .ireturn, 1), (69, .aload_n 0, 1), (70, .getfield 9, 3), (73, .iload_n 1, 1), (74, .aaload, 1), (75, .iload_n 2, 1), (76, .dup2, 1), (77, .iaload, 1), (78, .iload_n 3, 1), (79, .ixor, 1), (80, .iastore, 1), (81, .aload_n 0, 1)] := ab_da (by decide +kernel)
theorem ab_dk127_3 : ab_dp 127 [(82, .getfield 9, 3), (85, .iload_n 1, 1), (86, .aaload, 1), (87, .iload_n 2, 1), (88, .iaload, 1), (89, .ireturn, 1)] := ab_da (by decide +kernel)
theorem ab_s127_0 : ab_Sn B 127 0 (ab_o_ald 0 1) := ab_s_aload_n (k := 0) (n := 0) ab_dk127_0.1 rfl
theorem ab_s127_1 : ab_Sn B 127 1 (ab_o_ald 0 2) := ab_s_aload_n (k := 0) (n := 0) ab_dk127_0.2.1 rfl
theorem ab_s127_2 : ab_Sn B 127 2 (ab_o_ild 1 3) := ab_s_iload_n (k := 1) (n := 1) ab_dk127_0.2.2.1 rfl
theorem ab_s127_3 : ab_Sn B 127 3 (ab_o_call (some (8, 22)) [] 103 2 2 true 6) := ab_s_callV (M' := 103) (na := 1) (i := 133) (ci := 4) (N := 22) (C := RX4) (T := TX4) (v := true) (ab_hok_n (by decide +kernel)) (by decide +kernel) ab_dk127_0.2.2.2.1 rfl (by decide) (by decide +kernel) (by decide +kernel) (by decide) wf_535 wf_536 wf_537 wf_538 wf_459
theorem ab_s127_6 : ab_Sn B 127 6 (ab_o_if ab_ne 17 9) := ab_s_if_ne (tg := 17) (off := 11) ab_dk127_0.2.2.2.2.1 (by decide)
theorem ab_s127_9 : ab_Sn B 127 9 (ab_o_ald 0 10) := ab_s_aload_n (k := 0) (n := 0) ab_dk127_0.2.2.2.2.2.1 rfl
theorem ab_s127_10 : ab_Sn B 127 10 (ab_o_ild 2 11) := ab_s_iload_n (k := 2) (n := 2) ab_dk127_0.2.2.2.2.2.2.1 rfl
theorem ab_s127_11 : ab_Sn B 127 11 (ab_o_call (some (8, 22)) [] 104 2 2 true 14) := ab_s_callV (M' := 104) (na := 1) (i := 139) (ci := 4) (N := 22) (C := RX4) (T := TX4) (v := true) (ab_hok_n (by decide +kernel)) (by decide +kernel) ab_dk127_0.2.2.2.2.2.2.2.1 rfl (by decide) (by decide +kernel) (by decide +kernel) (by decide) wf_543 wf_544 wf_545 wf_546 wf_459
theorem ab_s127_14 : ab_Sn B 127 14 (ab_o_if ab_eq 21 17) := ab_s_if_eq (tg := 21) (off := 7) ab_dk127_0.2.2.2.2.2.2.2.2.1 (by decide)
theorem ab_s127_17 : ab_Sn B 127 17 (ab_o_const 1 18) := ab_s_iconst (n := 1) ab_dk127_0.2.2.2.2.2.2.2.2.2.1 rfl
theorem ab_s127_18 : ab_Sn B 127 18 (ab_o_goto 22) := ab_s_goto (tg := 22) (off := 4) ab_dk127_0.2.2.2.2.2.2.2.2.2.2.1 (by decide)
theorem ab_s127_21 : ab_Sn B 127 21 (ab_o_const 0 22) := ab_s_iconst (n := 0) ab_dk127_0.2.2.2.2.2.2.2.2.2.2.2.1 rfl
theorem ab_s127_22 : ab_Sn B 127 22 (ab_o_const 1 23) := ab_s_iconst (n := 1) ab_dk127_0.2.2.2.2.2.2.2.2.2.2.2.2.1 rfl
theorem ab_s127_23 : ab_Sn B 127 23 (ab_o_call (some (8, 22)) [] 102 3 3 true 26) := ab_s_callV (M' := 102) (na := 2) (i := 105) (ci := 4) (N := 22) (C := RX4) (T := TX4) (v := true) (ab_hok_n (by decide +kernel)) (by decide +kernel) ab_dk127_0.2.2.2.2.2.2.2.2.2.2.2.2.2.1 rfl (by decide) (by decide +kernel) (by decide +kernel) (by decide) wf_514 wf_515 wf_516 wf_517 wf_459
theorem ab_s127_26 : ab_Sn B 127 26 (ab_o_if ab_ne 67 29) := ab_s_if_ne (tg := 67) (off := 41) ab_dk127_0.2.2.2.2.2.2.2.2.2.2.2.2.2.2.1 (by decide)
theorem ab_s127_29 : ab_Sn B 127 29 (ab_o_ald 0 30) := ab_s_aload_n (k := 0) (n := 0) ab_dk127_0.2.2.2.2.2.2.2.2.2.2.2.2.2.2.2.1 rfl
theorem ab_s127_30 : ab_Sn B 127 30 (ab_o_ild 3 31) := ab_s_iload_n (k := 3) (n := 3) ab_dk127_1.1 rfl
theorem ab_s127_31 : ab_Sn B 127 31 (ab_o_const 1 32) := ab_s_iconst (n := 1) ab_dk127_1.2.1 rfl
theorem ab_s127_32 : ab_Sn B 127 32 (ab_o_const 255 35) := ab_s_sipush (n := 255) ab_dk127_1.2.2.1 (by decide)
theorem ab_s127_35 : ab_Sn B 127 35 (ab_o_call none [] 100 3 3 true 38) := ab_s_callS (M' := 100) (na := 3) (i := 46) (v := true) (ab_hok_n (by decide +kernel)) (by decide +kernel) ab_dk127_1.2.2.2.1 (by decide +kernel) (by decide +kernel) (by decide) wf_462 wf_463 wf_464 wf_459
theorem ab_s127_38 : ab_Sn B 127 38 (ab_o_if ab_ne 45 41) := ab_s_if_ne (tg := 45) (off := 7) ab_dk127_1.2.2.2.2.1 (by decide)
theorem ab_s127_41 : ab_Sn B 127 41 (ab_o_const 1 42) := ab_s_iconst (n := 1) ab_dk127_1.2.2.2.2.2.1 rfl
theorem ab_s127_42 : ab_Sn B 127 42 (ab_o_goto 46) := ab_s_goto (tg := 46) (off := 4) ab_dk127_1.2.2.2.2.2.2.1 (by decide)
theorem ab_s127_45 : ab_Sn B 127 45 (ab_o_const 0 46) := ab_s_iconst (n := 0) ab_dk127_1.2.2.2.2.2.2.2.1 rfl
theorem ab_s127_46 : ab_Sn B 127 46 (ab_o_const 2 47) := ab_s_iconst (n := 2) ab_dk127_1.2.2.2.2.2.2.2.2.1 rfl
theorem ab_s127_47 : ab_Sn B 127 47 (ab_o_call (some (8, 22)) [] 101 3 3 true 50) := ab_s_callV (M' := 101) (na := 2) (i := 39) (ci := 4) (N := 22) (C := RX4) (T := TX4) (v := true) (ab_hok_n (by decide +kernel)) (by decide +kernel) ab_dk127_1.2.2.2.2.2.2.2.2.2.1 rfl (by decide) (by decide +kernel) (by decide +kernel) (by decide) wf_456 wf_457 wf_458 wf_460 wf_459
theorem ab_s127_50 : ab_Sn B 127 50 (ab_o_if ab_ne 67 53) := ab_s_if_ne (tg := 67) (off := 17) ab_dk127_1.2.2.2.2.2.2.2.2.2.2.1 (by decide)
theorem ab_s127_53 : ab_Sn B 127 53 (ab_o_ald 0 54) := ab_s_aload_n (k := 0) (n := 0) ab_dk127_1.2.2.2.2.2.2.2.2.2.2.2.1 rfl
theorem ab_s127_54 : ab_Sn B 127 54 (ab_o_ald 0 55) := ab_s_aload_n (k := 0) (n := 0) ab_dk127_1.2.2.2.2.2.2.2.2.2.2.2.2.1 rfl
theorem ab_s127_55 : ab_Sn B 127 55 (ab_o_getr 8 22 6 58) := ab_s_getr (i := 17) (ci := 4) (N := 22) (k := 6) (C := RX4) (T := TX4) ab_dk127_1.2.2.2.2.2.2.2.2.2.2.2.2.2.1 rfl (by decide) rfl wf_449
theorem ab_s127_58 : ab_Sn B 127 58 (ab_o_ild 1 59) := ab_s_iload_n (k := 1) (n := 1) ab_dk127_1.2.2.2.2.2.2.2.2.2.2.2.2.2.2.1 rfl
theorem ab_s127_59 : ab_Sn B 127 59 (ab_o_xld 1 60) := ab_s_baload ab_dk127_1.2.2.2.2.2.2.2.2.2.2.2.2.2.2.2.1
theorem ab_s127_60 : ab_Sn B 127 60 (ab_o_const 3 61) := ab_s_iconst (n := 3) ab_dk127_2.1 rfl
theorem ab_s127_61 : ab_Sn B 127 61 (ab_o_call (some (8, 22)) [] 101 3 3 true 64) := ab_s_callV (M' := 101) (na := 2) (i := 39) (ci := 4) (N := 22) (C := RX4) (T := TX4) (v := true) (ab_hok_n (by decide +kernel)) (by decide +kernel) ab_dk127_2.2.1 rfl (by decide) (by decide +kernel) (by decide +kernel) (by decide) wf_456 wf_457 wf_458 wf_460 wf_459
theorem ab_s127_64 : ab_Sn B 127 64 (ab_o_if ab_eq 69 67) := ab_s_if_eq (tg := 69) (off := 5) ab_dk127_2.2.2.1 (by decide)
theorem ab_s127_67 : ab_Sn B 127 67 (ab_o_const 0 68) := ab_s_iconst (n := 0) ab_dk127_2.2.2.2.1 rfl
theorem ab_s127_68 : ab_Sn B 127 68 (ab_o_iret false) := ab_s_iret (b := false) (ty := .int) ab_dk127_2.2.2.2.2.1 rfl (Or.inl ⟨rfl, rfl⟩)
theorem ab_s127_69 : ab_Sn B 127 69 (ab_o_ald 0 70) := ab_s_aload_n (k := 0) (n := 0) ab_dk127_2.2.2.2.2.2.1 rfl
theorem ab_s127_70 : ab_Sn B 127 70 (ab_o_getr 8 22 4 73) := ab_s_getr (i := 9) (ci := 4) (N := 22) (k := 4) (C := RX4) (T := TX4) ab_dk127_2.2.2.2.2.2.2.1 rfl (by decide) rfl wf_447
theorem ab_s127_73 : ab_Sn B 127 73 (ab_o_ild 1 74) := ab_s_iload_n (k := 1) (n := 1) ab_dk127_2.2.2.2.2.2.2.2.1 rfl
theorem ab_s127_74 : ab_Sn B 127 74 (ab_o_aald 75) := ab_s_aald ab_dk127_2.2.2.2.2.2.2.2.2.1
theorem ab_s127_75 : ab_Sn B 127 75 (ab_o_ild 2 76) := ab_s_iload_n (k := 2) (n := 2) ab_dk127_2.2.2.2.2.2.2.2.2.2.1 rfl
theorem ab_s127_76 : ab_Sn B 127 76 (ab_o_dup2 77) := ab_s_dup2 ab_dk127_2.2.2.2.2.2.2.2.2.2.2.1
theorem ab_s127_77 : ab_Sn B 127 77 (ab_o_xld 0 78) := ab_s_iaload ab_dk127_2.2.2.2.2.2.2.2.2.2.2.2.1
theorem ab_s127_78 : ab_Sn B 127 78 (ab_o_ild 3 79) := ab_s_iload_n (k := 3) (n := 3) ab_dk127_2.2.2.2.2.2.2.2.2.2.2.2.2.1 rfl
theorem ab_s127_79 : ab_Sn B 127 79 (ab_o_bin ab_ixor 80) := ab_s_ixor ab_dk127_2.2.2.2.2.2.2.2.2.2.2.2.2.2.1
theorem ab_s127_80 : ab_Sn B 127 80 (ab_o_xst 0 81) := ab_s_iastore ab_dk127_2.2.2.2.2.2.2.2.2.2.2.2.2.2.2.1
theorem ab_s127_81 : ab_Sn B 127 81 (ab_o_ald 0 82) := ab_s_aload_n (k := 0) (n := 0) ab_dk127_2.2.2.2.2.2.2.2.2.2.2.2.2.2.2.2.1 rfl
theorem ab_s127_82 : ab_Sn B 127 82 (ab_o_getr 8 22 4 85) := ab_s_getr (i := 9) (ci := 4) (N := 22) (k := 4) (C := RX4) (T := TX4) ab_dk127_3.1 rfl (by decide) rfl wf_447
theorem ab_s127_85 : ab_Sn B 127 85 (ab_o_ild 1 86) := ab_s_iload_n (k := 1) (n := 1) ab_dk127_3.2.1 rfl
theorem ab_s127_86 : ab_Sn B 127 86 (ab_o_aald 87) := ab_s_aald ab_dk127_3.2.2.1
theorem ab_s127_87 : ab_Sn B 127 87 (ab_o_ild 2 88) := ab_s_iload_n (k := 2) (n := 2) ab_dk127_3.2.2.2.1 rfl
theorem ab_s127_88 : ab_Sn B 127 88 (ab_o_xld 0 89) := ab_s_iaload ab_dk127_3.2.2.2.2.1
theorem ab_s127_89 : ab_Sn B 127 89 (ab_o_iret false) := ab_s_iret (b := false) (ty := .int) ab_dk127_3.2.2.2.2.2.1 rfl (Or.inl ⟨rfl, rfl⟩)
set_option maxRecDepth 20000 in
theorem ab_sn127 : ab_all B 127 0 (ab_c127) := ⟨ab_s127_0, ab_s127_1, ab_s127_2, ab_s127_3, trivial, trivial, ab_s127_6, trivial, trivial, ab_s127_9, ab_s127_10, ab_s127_11, trivial, trivial, ab_s127_14, trivial, trivial, ab_s127_17, ab_s127_18, trivial, trivial, ab_s127_21, ab_s127_22, ab_s127_23, trivial, trivial, ab_s127_26, trivial, trivial, ab_s127_29, ab_s127_30, ab_s127_31, ab_s127_32, trivial, trivial, ab_s127_35, trivial, trivial, ab_s127_38, trivial, trivial, ab_s127_41, ab_s127_42, trivial, trivial, ab_s127_45, ab_s127_46, ab_s127_47, trivial, trivial, ab_s127_50, trivial, trivial, ab_s127_53, ab_s127_54, ab_s127_55, trivial, trivial, ab_s127_58, ab_s127_59, ab_s127_60, ab_s127_61, trivial, trivial, ab_s127_64, trivial, trivial, ab_s127_67, ab_s127_68, ab_s127_69, ab_s127_70, trivial, trivial, ab_s127_73, ab_s127_74, ab_s127_75, ab_s127_76, ab_s127_77, ab_s127_78, ab_s127_79, ab_s127_80, ab_s127_81, ab_s127_82, trivial, trivial, ab_s127_85, ab_s127_86, ab_s127_87, ab_s127_88, ab_s127_89, trivial⟩
theorem ab_dk128_0 : ab_dp 128 [(0, .iconst 0, 1), (1, .istore_n 3, 1), (2, .iconst 0, 1), (3, .istore 4, 2), (5, .iload 4, 2), (7, .iload_n 2, 1), (8, .if_icmp .ge 25, 3), (11, .iload_n 3, 1), (12, .aload_n 0, 1), (13, .iload_n 1, 1), (14, .iload 4, 2), (16, .iadd, 1), (17, .aload_n 0, 1), (18, .getfield 50, 3), (21, .irem, 1), (22, .invokevirtual 127, 3)] := ab_da (by decide +kernel)
theorem ab_dk128_1 : ab_dp 128 [(25, .iadd, 1), (26, .istore_n 3, 1), (27, .iinc 4 1, 3), (30, .goto (-25), 3), (33, .iload_n 3, 1), (34, .ireturn, 1)] := ab_da (by decide +kernel)
theorem ab_s128_0 : ab_Sn B 128 0 (ab_o_const 0 1) := ab_s_iconst (n := 0) ab_dk128_0.1 rfl
theorem ab_s128_1 : ab_Sn B 128 1 (ab_o_ist 3 2) := ab_s_istore_n (k := 3) (n := 3) ab_dk128_0.2.1 rfl
theorem ab_s128_2 : ab_Sn B 128 2 (ab_o_const 0 3) := ab_s_iconst (n := 0) ab_dk128_0.2.2.1 rfl
theorem ab_s128_3 : ab_Sn B 128 3 (ab_o_ist 4 5) := ab_s_istore (k := 4) ab_dk128_0.2.2.2.1
theorem ab_s128_5 : ab_Sn B 128 5 (ab_o_ild 4 7) := ab_s_iload (k := 4) ab_dk128_0.2.2.2.2.1
theorem ab_s128_7 : ab_Sn B 128 7 (ab_o_ild 2 8) := ab_s_iload_n (k := 2) (n := 2) ab_dk128_0.2.2.2.2.2.1 rfl
theorem ab_s128_8 : ab_Sn B 128 8 (ab_o_icmp ab_ge 33 11) := ab_s_icmp_ge (tg := 33) (off := 25) ab_dk128_0.2.2.2.2.2.2.1 (by decide)
theorem ab_s128_11 : ab_Sn B 128 11 (ab_o_ild 3 12) := ab_s_iload_n (k := 3) (n := 3) ab_dk128_0.2.2.2.2.2.2.2.1 rfl
theorem ab_s128_12 : ab_Sn B 128 12 (ab_o_ald 0 13) := ab_s_aload_n (k := 0) (n := 0) ab_dk128_0.2.2.2.2.2.2.2.2.1 rfl
theorem ab_s128_13 : ab_Sn B 128 13 (ab_o_ild 1 14) := ab_s_iload_n (k := 1) (n := 1) ab_dk128_0.2.2.2.2.2.2.2.2.2.1 rfl
theorem ab_s128_14 : ab_Sn B 128 14 (ab_o_ild 4 16) := ab_s_iload (k := 4) ab_dk128_0.2.2.2.2.2.2.2.2.2.2.1
theorem ab_s128_16 : ab_Sn B 128 16 (ab_o_bin (fun a b => a + b) 17) := ab_s_iadd ab_dk128_0.2.2.2.2.2.2.2.2.2.2.2.1
theorem ab_s128_17 : ab_Sn B 128 17 (ab_o_ald 0 18) := ab_s_aload_n (k := 0) (n := 0) ab_dk128_0.2.2.2.2.2.2.2.2.2.2.2.2.1 rfl
theorem ab_s128_18 : ab_Sn B 128 18 (ab_o_geti 8 22 2 21) := ab_s_geti (i := 50) (ci := 4) (N := 22) (k := 2) (C := RX4) (T := TX4) ab_dk128_0.2.2.2.2.2.2.2.2.2.2.2.2.2.1 rfl (by decide) rfl wf_465
theorem ab_s128_21 : ab_Sn B 128 21 (ab_o_div ab_irem 22) := ab_s_irem ab_dk128_0.2.2.2.2.2.2.2.2.2.2.2.2.2.2.1
theorem ab_s128_22 : ab_Sn B 128 22 (ab_o_call (some (8, 22)) [] 116 3 2 true 25) := ab_s_callV (M' := 116) (na := 1) (i := 127) (ci := 4) (N := 22) (C := RX4) (T := TX4) (v := true) (ab_hok_n (by decide +kernel)) (by decide +kernel) ab_dk128_0.2.2.2.2.2.2.2.2.2.2.2.2.2.2.2.1 rfl (by decide) (by decide +kernel) (by decide +kernel) (by decide) wf_527 wf_528 wf_529 wf_530 wf_459
theorem ab_s128_25 : ab_Sn B 128 25 (ab_o_bin (fun a b => a + b) 26) := ab_s_iadd ab_dk128_1.1
theorem ab_s128_26 : ab_Sn B 128 26 (ab_o_ist 3 27) := ab_s_istore_n (k := 3) (n := 3) ab_dk128_1.2.1 rfl
theorem ab_s128_27 : ab_Sn B 128 27 (ab_o_inc 4 1 30) := ab_s_iinc (k := 4) (n := 1) ab_dk128_1.2.2.1
theorem ab_s128_30 : ab_Sn B 128 30 (ab_o_goto 5) := ab_s_goto (tg := 5) (off := -25) ab_dk128_1.2.2.2.1 (by decide)
theorem ab_s128_33 : ab_Sn B 128 33 (ab_o_ild 3 34) := ab_s_iload_n (k := 3) (n := 3) ab_dk128_1.2.2.2.2.1 rfl
theorem ab_s128_34 : ab_Sn B 128 34 (ab_o_iret false) := ab_s_iret (b := false) (ty := .int) ab_dk128_1.2.2.2.2.2.1 rfl (Or.inl ⟨rfl, rfl⟩)
set_option maxRecDepth 20000 in
theorem ab_sn128 : ab_all B 128 0 (ab_c128) := ⟨ab_s128_0, ab_s128_1, ab_s128_2, ab_s128_3, trivial, ab_s128_5, trivial, ab_s128_7, ab_s128_8, trivial, trivial, ab_s128_11, ab_s128_12, ab_s128_13, ab_s128_14, trivial, ab_s128_16, ab_s128_17, ab_s128_18, trivial, trivial, ab_s128_21, ab_s128_22, trivial, trivial, ab_s128_25, ab_s128_26, ab_s128_27, trivial, trivial, ab_s128_30, trivial, trivial, ab_s128_33, ab_s128_34, trivial⟩
theorem ab_dk129_0 : ab_dp 129 [(0, .aload_n 0, 1), (1, .iload_n 1, 1), (2, .iconst 1, 1), (3, .bipush 8, 2), (5, .invokestatic 46, 3), (8, .ifCond .ne 7, 3), (11, .iconst 1, 1), (12, .goto 4, 3), (15, .iconst 0, 1), (16, .iconst 1, 1), (17, .invokevirtual 105, 3), (20, .ifCond .ne 23, 3), (23, .aload_n 0, 1), (24, .aload_n 0, 1), (25, .getfield 91, 3), (28, .ifCond .ne 7, 3)] := ab_da (by decide +kernel)
theorem ab_dk129_1 : ab_dp 129 [(31, .iconst 1, 1), (32, .goto 4, 3), (35, .iconst 0, 1), (36, .iconst 2, 1), (37, .invokevirtual 39, 3), (40, .ifCond .eq 5, 3), (43, .iconst 0, 1), (44, .ireturn, 1), (45, .aload_n 0, 1), (46, .aload_n 0, 1), (47, .getfield 111, 3), (50, .iload_n 1, 1), (51, .invokevirtual 142, 3), (54, .istore_n 2, 1), (55, .aload_n 0, 1), (56, .aload_n 0, 1)] := ab_da (by decide +kernel)
theorem ab_dk129_2 : ab_dp 129 [(57, .getfield 111, 3), (60, .iload_n 1, 1), (61, .iadd, 1), (62, .aload_n 0, 1), (63, .getfield 50, 3), (66, .irem, 1), (67, .putfield 111, 3), (70, .iload_n 2, 1), (71, .ireturn, 1)] := ab_da (by decide +kernel)
theorem ab_s129_0 : ab_Sn B 129 0 (ab_o_ald 0 1) := ab_s_aload_n (k := 0) (n := 0) ab_dk129_0.1 rfl
theorem ab_s129_1 : ab_Sn B 129 1 (ab_o_ild 1 2) := ab_s_iload_n (k := 1) (n := 1) ab_dk129_0.2.1 rfl
theorem ab_s129_2 : ab_Sn B 129 2 (ab_o_const 1 3) := ab_s_iconst (n := 1) ab_dk129_0.2.2.1 rfl
theorem ab_s129_3 : ab_Sn B 129 3 (ab_o_const 8 5) := ab_s_bipush (n := 8) ab_dk129_0.2.2.2.1 (by decide)
theorem ab_s129_5 : ab_Sn B 129 5 (ab_o_call none [] 100 3 3 true 8) := ab_s_callS (M' := 100) (na := 3) (i := 46) (v := true) (ab_hok_n (by decide +kernel)) (by decide +kernel) ab_dk129_0.2.2.2.2.1 (by decide +kernel) (by decide +kernel) (by decide) wf_462 wf_463 wf_464 wf_459
theorem ab_s129_8 : ab_Sn B 129 8 (ab_o_if ab_ne 15 11) := ab_s_if_ne (tg := 15) (off := 7) ab_dk129_0.2.2.2.2.2.1 (by decide)
theorem ab_s129_11 : ab_Sn B 129 11 (ab_o_const 1 12) := ab_s_iconst (n := 1) ab_dk129_0.2.2.2.2.2.2.1 rfl
theorem ab_s129_12 : ab_Sn B 129 12 (ab_o_goto 16) := ab_s_goto (tg := 16) (off := 4) ab_dk129_0.2.2.2.2.2.2.2.1 (by decide)
theorem ab_s129_15 : ab_Sn B 129 15 (ab_o_const 0 16) := ab_s_iconst (n := 0) ab_dk129_0.2.2.2.2.2.2.2.2.1 rfl
theorem ab_s129_16 : ab_Sn B 129 16 (ab_o_const 1 17) := ab_s_iconst (n := 1) ab_dk129_0.2.2.2.2.2.2.2.2.2.1 rfl
theorem ab_s129_17 : ab_Sn B 129 17 (ab_o_call (some (8, 22)) [] 102 3 3 true 20) := ab_s_callV (M' := 102) (na := 2) (i := 105) (ci := 4) (N := 22) (C := RX4) (T := TX4) (v := true) (ab_hok_n (by decide +kernel)) (by decide +kernel) ab_dk129_0.2.2.2.2.2.2.2.2.2.2.1 rfl (by decide) (by decide +kernel) (by decide +kernel) (by decide) wf_514 wf_515 wf_516 wf_517 wf_459
theorem ab_s129_20 : ab_Sn B 129 20 (ab_o_if ab_ne 43 23) := ab_s_if_ne (tg := 43) (off := 23) ab_dk129_0.2.2.2.2.2.2.2.2.2.2.2.1 (by decide)
theorem ab_s129_23 : ab_Sn B 129 23 (ab_o_ald 0 24) := ab_s_aload_n (k := 0) (n := 0) ab_dk129_0.2.2.2.2.2.2.2.2.2.2.2.2.1 rfl
theorem ab_s129_24 : ab_Sn B 129 24 (ab_o_ald 0 25) := ab_s_aload_n (k := 0) (n := 0) ab_dk129_0.2.2.2.2.2.2.2.2.2.2.2.2.2.1 rfl
theorem ab_s129_25 : ab_Sn B 129 25 (ab_o_geti 8 22 3 28) := ab_s_geti (i := 91) (ci := 4) (N := 22) (k := 3) (C := RX4) (T := TX4) ab_dk129_0.2.2.2.2.2.2.2.2.2.2.2.2.2.2.1 rfl (by decide) rfl wf_507
theorem ab_s129_28 : ab_Sn B 129 28 (ab_o_if ab_ne 35 31) := ab_s_if_ne (tg := 35) (off := 7) ab_dk129_0.2.2.2.2.2.2.2.2.2.2.2.2.2.2.2.1 (by decide)
theorem ab_s129_31 : ab_Sn B 129 31 (ab_o_const 1 32) := ab_s_iconst (n := 1) ab_dk129_1.1 rfl
theorem ab_s129_32 : ab_Sn B 129 32 (ab_o_goto 36) := ab_s_goto (tg := 36) (off := 4) ab_dk129_1.2.1 (by decide)
theorem ab_s129_35 : ab_Sn B 129 35 (ab_o_const 0 36) := ab_s_iconst (n := 0) ab_dk129_1.2.2.1 rfl
theorem ab_s129_36 : ab_Sn B 129 36 (ab_o_const 2 37) := ab_s_iconst (n := 2) ab_dk129_1.2.2.2.1 rfl
theorem ab_s129_37 : ab_Sn B 129 37 (ab_o_call (some (8, 22)) [] 101 3 3 true 40) := ab_s_callV (M' := 101) (na := 2) (i := 39) (ci := 4) (N := 22) (C := RX4) (T := TX4) (v := true) (ab_hok_n (by decide +kernel)) (by decide +kernel) ab_dk129_1.2.2.2.2.1 rfl (by decide) (by decide +kernel) (by decide +kernel) (by decide) wf_456 wf_457 wf_458 wf_460 wf_459
theorem ab_s129_40 : ab_Sn B 129 40 (ab_o_if ab_eq 45 43) := ab_s_if_eq (tg := 45) (off := 5) ab_dk129_1.2.2.2.2.2.1 (by decide)
theorem ab_s129_43 : ab_Sn B 129 43 (ab_o_const 0 44) := ab_s_iconst (n := 0) ab_dk129_1.2.2.2.2.2.2.1 rfl
theorem ab_s129_44 : ab_Sn B 129 44 (ab_o_iret false) := ab_s_iret (b := false) (ty := .int) ab_dk129_1.2.2.2.2.2.2.2.1 rfl (Or.inl ⟨rfl, rfl⟩)
theorem ab_s129_45 : ab_Sn B 129 45 (ab_o_ald 0 46) := ab_s_aload_n (k := 0) (n := 0) ab_dk129_1.2.2.2.2.2.2.2.2.1 rfl
theorem ab_s129_46 : ab_Sn B 129 46 (ab_o_ald 0 47) := ab_s_aload_n (k := 0) (n := 0) ab_dk129_1.2.2.2.2.2.2.2.2.2.1 rfl
theorem ab_s129_47 : ab_Sn B 129 47 (ab_o_geti 8 22 12 50) := ab_s_geti (i := 111) (ci := 4) (N := 22) (k := 12) (C := RX4) (T := TX4) ab_dk129_1.2.2.2.2.2.2.2.2.2.2.1 rfl (by decide) rfl wf_519
theorem ab_s129_50 : ab_Sn B 129 50 (ab_o_ild 1 51) := ab_s_iload_n (k := 1) (n := 1) ab_dk129_1.2.2.2.2.2.2.2.2.2.2.2.1 rfl
theorem ab_s129_51 : ab_Sn B 129 51 (ab_o_call (some (8, 22)) [] 128 5 3 true 54) := ab_s_callV (M' := 128) (na := 2) (i := 142) (ci := 4) (N := 22) (C := RX4) (T := TX4) (v := true) (ab_hok_n (by decide +kernel)) (by decide +kernel) ab_dk129_1.2.2.2.2.2.2.2.2.2.2.2.2.1 rfl (by decide) (by decide +kernel) (by decide +kernel) (by decide) wf_547 wf_548 wf_549 wf_550 wf_459
theorem ab_s129_54 : ab_Sn B 129 54 (ab_o_ist 2 55) := ab_s_istore_n (k := 2) (n := 2) ab_dk129_1.2.2.2.2.2.2.2.2.2.2.2.2.2.1 rfl
theorem ab_s129_55 : ab_Sn B 129 55 (ab_o_ald 0 56) := ab_s_aload_n (k := 0) (n := 0) ab_dk129_1.2.2.2.2.2.2.2.2.2.2.2.2.2.2.1 rfl
theorem ab_s129_56 : ab_Sn B 129 56 (ab_o_ald 0 57) := ab_s_aload_n (k := 0) (n := 0) ab_dk129_1.2.2.2.2.2.2.2.2.2.2.2.2.2.2.2.1 rfl
theorem ab_s129_57 : ab_Sn B 129 57 (ab_o_geti 8 22 12 60) := ab_s_geti (i := 111) (ci := 4) (N := 22) (k := 12) (C := RX4) (T := TX4) ab_dk129_2.1 rfl (by decide) rfl wf_519
theorem ab_s129_60 : ab_Sn B 129 60 (ab_o_ild 1 61) := ab_s_iload_n (k := 1) (n := 1) ab_dk129_2.2.1 rfl
theorem ab_s129_61 : ab_Sn B 129 61 (ab_o_bin (fun a b => a + b) 62) := ab_s_iadd ab_dk129_2.2.2.1
theorem ab_s129_62 : ab_Sn B 129 62 (ab_o_ald 0 63) := ab_s_aload_n (k := 0) (n := 0) ab_dk129_2.2.2.2.1 rfl
theorem ab_s129_63 : ab_Sn B 129 63 (ab_o_geti 8 22 2 66) := ab_s_geti (i := 50) (ci := 4) (N := 22) (k := 2) (C := RX4) (T := TX4) ab_dk129_2.2.2.2.2.1 rfl (by decide) rfl wf_465
theorem ab_s129_66 : ab_Sn B 129 66 (ab_o_div ab_irem 67) := ab_s_irem ab_dk129_2.2.2.2.2.2.1
theorem ab_s129_67 : ab_Sn B 129 67 (ab_o_puti 8 22 12 false 70) := ab_s_puti (b := false) (ty := .int) (i := 111) (ci := 4) (N := 22) (k := 12) (C := RX4) (T := TX4) ab_dk129_2.2.2.2.2.2.2.1 rfl (by decide) rfl wf_519 rfl (by decide +kernel) (Or.inl ⟨rfl, rfl⟩)
theorem ab_s129_70 : ab_Sn B 129 70 (ab_o_ild 2 71) := ab_s_iload_n (k := 2) (n := 2) ab_dk129_2.2.2.2.2.2.2.2.1 rfl
theorem ab_s129_71 : ab_Sn B 129 71 (ab_o_iret false) := ab_s_iret (b := false) (ty := .int) ab_dk129_2.2.2.2.2.2.2.2.2.1 rfl (Or.inl ⟨rfl, rfl⟩)
set_option maxRecDepth 20000 in
theorem ab_sn129 : ab_all B 129 0 (ab_c129) := ⟨ab_s129_0, ab_s129_1, ab_s129_2, ab_s129_3, trivial, ab_s129_5, trivial, trivial, ab_s129_8, trivial, trivial, ab_s129_11, ab_s129_12, trivial, trivial, ab_s129_15, ab_s129_16, ab_s129_17, trivial, trivial, ab_s129_20, trivial, trivial, ab_s129_23, ab_s129_24, ab_s129_25, trivial, trivial, ab_s129_28, trivial, trivial, ab_s129_31, ab_s129_32, trivial, trivial, ab_s129_35, ab_s129_36, ab_s129_37, trivial, trivial, ab_s129_40, trivial, trivial, ab_s129_43, ab_s129_44, ab_s129_45, ab_s129_46, ab_s129_47, trivial, trivial, ab_s129_50, ab_s129_51, trivial, trivial, ab_s129_54, ab_s129_55, ab_s129_56, ab_s129_57, trivial, trivial, ab_s129_60, ab_s129_61, ab_s129_62, ab_s129_63, trivial, trivial, ab_s129_66, ab_s129_67, trivial, trivial, ab_s129_70, ab_s129_71, trivial⟩
theorem ab_dk130_0 : ab_dp 130 [(0, .aload_n 0, 1), (1, .iload_n 1, 1), (2, .iconst 1, 1), (3, .bipush 8, 2), (5, .invokestatic 46, 3), (8, .ifCond .ne 7, 3), (11, .iconst 1, 1), (12, .goto 4, 3), (15, .iconst 0, 1), (16, .iconst 1, 1), (17, .invokevirtual 105, 3), (20, .ifCond .ne 23, 3), (23, .aload_n 0, 1), (24, .aload_n 0, 1), (25, .getfield 91, 3), (28, .ifCond .ne 7, 3)] := ab_da (by decide +kernel)
theorem ab_dk130_1 : ab_dp 130 [(31, .iconst 1, 1), (32, .goto 4, 3), (35, .iconst 0, 1), (36, .iconst 2, 1), (37, .invokevirtual 39, 3), (40, .ifCond .eq 5, 3), (43, .iconst 0, 1), (44, .ireturn, 1), (45, .aload_n 0, 1), (46, .aload_n 0, 1), (47, .getfield 114, 3), (50, .iload_n 1, 1), (51, .invokevirtual 142, 3), (54, .istore_n 2, 1), (55, .aload_n 0, 1), (56, .aload_n 0, 1)] := ab_da (by decide +kernel)
theorem ab_dk130_2 : ab_dp 130 [(57, .getfield 114, 3), (60, .iload_n 1, 1), (61, .iadd, 1), (62, .aload_n 0, 1), (63, .getfield 50, 3), (66, .irem, 1), (67, .putfield 114, 3), (70, .iload_n 2, 1), (71, .ireturn, 1)] := ab_da (by decide +kernel)
theorem ab_s130_0 : ab_Sn B 130 0 (ab_o_ald 0 1) := ab_s_aload_n (k := 0) (n := 0) ab_dk130_0.1 rfl
theorem ab_s130_1 : ab_Sn B 130 1 (ab_o_ild 1 2) := ab_s_iload_n (k := 1) (n := 1) ab_dk130_0.2.1 rfl
theorem ab_s130_2 : ab_Sn B 130 2 (ab_o_const 1 3) := ab_s_iconst (n := 1) ab_dk130_0.2.2.1 rfl
theorem ab_s130_3 : ab_Sn B 130 3 (ab_o_const 8 5) := ab_s_bipush (n := 8) ab_dk130_0.2.2.2.1 (by decide)
theorem ab_s130_5 : ab_Sn B 130 5 (ab_o_call none [] 100 3 3 true 8) := ab_s_callS (M' := 100) (na := 3) (i := 46) (v := true) (ab_hok_n (by decide +kernel)) (by decide +kernel) ab_dk130_0.2.2.2.2.1 (by decide +kernel) (by decide +kernel) (by decide) wf_462 wf_463 wf_464 wf_459
theorem ab_s130_8 : ab_Sn B 130 8 (ab_o_if ab_ne 15 11) := ab_s_if_ne (tg := 15) (off := 7) ab_dk130_0.2.2.2.2.2.1 (by decide)
theorem ab_s130_11 : ab_Sn B 130 11 (ab_o_const 1 12) := ab_s_iconst (n := 1) ab_dk130_0.2.2.2.2.2.2.1 rfl
theorem ab_s130_12 : ab_Sn B 130 12 (ab_o_goto 16) := ab_s_goto (tg := 16) (off := 4) ab_dk130_0.2.2.2.2.2.2.2.1 (by decide)
theorem ab_s130_15 : ab_Sn B 130 15 (ab_o_const 0 16) := ab_s_iconst (n := 0) ab_dk130_0.2.2.2.2.2.2.2.2.1 rfl
theorem ab_s130_16 : ab_Sn B 130 16 (ab_o_const 1 17) := ab_s_iconst (n := 1) ab_dk130_0.2.2.2.2.2.2.2.2.2.1 rfl
theorem ab_s130_17 : ab_Sn B 130 17 (ab_o_call (some (8, 22)) [] 102 3 3 true 20) := ab_s_callV (M' := 102) (na := 2) (i := 105) (ci := 4) (N := 22) (C := RX4) (T := TX4) (v := true) (ab_hok_n (by decide +kernel)) (by decide +kernel) ab_dk130_0.2.2.2.2.2.2.2.2.2.2.1 rfl (by decide) (by decide +kernel) (by decide +kernel) (by decide) wf_514 wf_515 wf_516 wf_517 wf_459
theorem ab_s130_20 : ab_Sn B 130 20 (ab_o_if ab_ne 43 23) := ab_s_if_ne (tg := 43) (off := 23) ab_dk130_0.2.2.2.2.2.2.2.2.2.2.2.1 (by decide)
theorem ab_s130_23 : ab_Sn B 130 23 (ab_o_ald 0 24) := ab_s_aload_n (k := 0) (n := 0) ab_dk130_0.2.2.2.2.2.2.2.2.2.2.2.2.1 rfl
theorem ab_s130_24 : ab_Sn B 130 24 (ab_o_ald 0 25) := ab_s_aload_n (k := 0) (n := 0) ab_dk130_0.2.2.2.2.2.2.2.2.2.2.2.2.2.1 rfl
theorem ab_s130_25 : ab_Sn B 130 25 (ab_o_geti 8 22 3 28) := ab_s_geti (i := 91) (ci := 4) (N := 22) (k := 3) (C := RX4) (T := TX4) ab_dk130_0.2.2.2.2.2.2.2.2.2.2.2.2.2.2.1 rfl (by decide) rfl wf_507
theorem ab_s130_28 : ab_Sn B 130 28 (ab_o_if ab_ne 35 31) := ab_s_if_ne (tg := 35) (off := 7) ab_dk130_0.2.2.2.2.2.2.2.2.2.2.2.2.2.2.2.1 (by decide)
theorem ab_s130_31 : ab_Sn B 130 31 (ab_o_const 1 32) := ab_s_iconst (n := 1) ab_dk130_1.1 rfl
theorem ab_s130_32 : ab_Sn B 130 32 (ab_o_goto 36) := ab_s_goto (tg := 36) (off := 4) ab_dk130_1.2.1 (by decide)
theorem ab_s130_35 : ab_Sn B 130 35 (ab_o_const 0 36) := ab_s_iconst (n := 0) ab_dk130_1.2.2.1 rfl
theorem ab_s130_36 : ab_Sn B 130 36 (ab_o_const 2 37) := ab_s_iconst (n := 2) ab_dk130_1.2.2.2.1 rfl
theorem ab_s130_37 : ab_Sn B 130 37 (ab_o_call (some (8, 22)) [] 101 3 3 true 40) := ab_s_callV (M' := 101) (na := 2) (i := 39) (ci := 4) (N := 22) (C := RX4) (T := TX4) (v := true) (ab_hok_n (by decide +kernel)) (by decide +kernel) ab_dk130_1.2.2.2.2.1 rfl (by decide) (by decide +kernel) (by decide +kernel) (by decide) wf_456 wf_457 wf_458 wf_460 wf_459
theorem ab_s130_40 : ab_Sn B 130 40 (ab_o_if ab_eq 45 43) := ab_s_if_eq (tg := 45) (off := 5) ab_dk130_1.2.2.2.2.2.1 (by decide)
theorem ab_s130_43 : ab_Sn B 130 43 (ab_o_const 0 44) := ab_s_iconst (n := 0) ab_dk130_1.2.2.2.2.2.2.1 rfl
theorem ab_s130_44 : ab_Sn B 130 44 (ab_o_iret false) := ab_s_iret (b := false) (ty := .int) ab_dk130_1.2.2.2.2.2.2.2.1 rfl (Or.inl ⟨rfl, rfl⟩)
theorem ab_s130_45 : ab_Sn B 130 45 (ab_o_ald 0 46) := ab_s_aload_n (k := 0) (n := 0) ab_dk130_1.2.2.2.2.2.2.2.2.1 rfl
theorem ab_s130_46 : ab_Sn B 130 46 (ab_o_ald 0 47) := ab_s_aload_n (k := 0) (n := 0) ab_dk130_1.2.2.2.2.2.2.2.2.2.1 rfl
theorem ab_s130_47 : ab_Sn B 130 47 (ab_o_geti 8 22 13 50) := ab_s_geti (i := 114) (ci := 4) (N := 22) (k := 13) (C := RX4) (T := TX4) ab_dk130_1.2.2.2.2.2.2.2.2.2.2.1 rfl (by decide) rfl wf_520
theorem ab_s130_50 : ab_Sn B 130 50 (ab_o_ild 1 51) := ab_s_iload_n (k := 1) (n := 1) ab_dk130_1.2.2.2.2.2.2.2.2.2.2.2.1 rfl
theorem ab_s130_51 : ab_Sn B 130 51 (ab_o_call (some (8, 22)) [] 128 5 3 true 54) := ab_s_callV (M' := 128) (na := 2) (i := 142) (ci := 4) (N := 22) (C := RX4) (T := TX4) (v := true) (ab_hok_n (by decide +kernel)) (by decide +kernel) ab_dk130_1.2.2.2.2.2.2.2.2.2.2.2.2.1 rfl (by decide) (by decide +kernel) (by decide +kernel) (by decide) wf_547 wf_548 wf_549 wf_550 wf_459
theorem ab_s130_54 : ab_Sn B 130 54 (ab_o_ist 2 55) := ab_s_istore_n (k := 2) (n := 2) ab_dk130_1.2.2.2.2.2.2.2.2.2.2.2.2.2.1 rfl
theorem ab_s130_55 : ab_Sn B 130 55 (ab_o_ald 0 56) := ab_s_aload_n (k := 0) (n := 0) ab_dk130_1.2.2.2.2.2.2.2.2.2.2.2.2.2.2.1 rfl
theorem ab_s130_56 : ab_Sn B 130 56 (ab_o_ald 0 57) := ab_s_aload_n (k := 0) (n := 0) ab_dk130_1.2.2.2.2.2.2.2.2.2.2.2.2.2.2.2.1 rfl
theorem ab_s130_57 : ab_Sn B 130 57 (ab_o_geti 8 22 13 60) := ab_s_geti (i := 114) (ci := 4) (N := 22) (k := 13) (C := RX4) (T := TX4) ab_dk130_2.1 rfl (by decide) rfl wf_520
theorem ab_s130_60 : ab_Sn B 130 60 (ab_o_ild 1 61) := ab_s_iload_n (k := 1) (n := 1) ab_dk130_2.2.1 rfl
theorem ab_s130_61 : ab_Sn B 130 61 (ab_o_bin (fun a b => a + b) 62) := ab_s_iadd ab_dk130_2.2.2.1
theorem ab_s130_62 : ab_Sn B 130 62 (ab_o_ald 0 63) := ab_s_aload_n (k := 0) (n := 0) ab_dk130_2.2.2.2.1 rfl
theorem ab_s130_63 : ab_Sn B 130 63 (ab_o_geti 8 22 2 66) := ab_s_geti (i := 50) (ci := 4) (N := 22) (k := 2) (C := RX4) (T := TX4) ab_dk130_2.2.2.2.2.1 rfl (by decide) rfl wf_465
theorem ab_s130_66 : ab_Sn B 130 66 (ab_o_div ab_irem 67) := ab_s_irem ab_dk130_2.2.2.2.2.2.1
theorem ab_s130_67 : ab_Sn B 130 67 (ab_o_puti 8 22 13 false 70) := ab_s_puti (b := false) (ty := .int) (i := 114) (ci := 4) (N := 22) (k := 13) (C := RX4) (T := TX4) ab_dk130_2.2.2.2.2.2.2.1 rfl (by decide) rfl wf_520 rfl (by decide +kernel) (Or.inl ⟨rfl, rfl⟩)
theorem ab_s130_70 : ab_Sn B 130 70 (ab_o_ild 2 71) := ab_s_iload_n (k := 2) (n := 2) ab_dk130_2.2.2.2.2.2.2.2.1 rfl
theorem ab_s130_71 : ab_Sn B 130 71 (ab_o_iret false) := ab_s_iret (b := false) (ty := .int) ab_dk130_2.2.2.2.2.2.2.2.2.1 rfl (Or.inl ⟨rfl, rfl⟩)
set_option maxRecDepth 20000 in
theorem ab_sn130 : ab_all B 130 0 (ab_c130) := ⟨ab_s130_0, ab_s130_1, ab_s130_2, ab_s130_3, trivial, ab_s130_5, trivial, trivial, ab_s130_8, trivial, trivial, ab_s130_11, ab_s130_12, trivial, trivial, ab_s130_15, ab_s130_16, ab_s130_17, trivial, trivial, ab_s130_20, trivial, trivial, ab_s130_23, ab_s130_24, ab_s130_25, trivial, trivial, ab_s130_28, trivial, trivial, ab_s130_31, ab_s130_32, trivial, trivial, ab_s130_35, ab_s130_36, ab_s130_37, trivial, trivial, ab_s130_40, trivial, trivial, ab_s130_43, ab_s130_44, ab_s130_45, ab_s130_46, ab_s130_47, trivial, trivial, ab_s130_50, ab_s130_51, trivial, trivial, ab_s130_54, ab_s130_55, ab_s130_56, ab_s130_57, trivial, trivial, ab_s130_60, ab_s130_61, ab_s130_62, ab_s130_63, trivial, trivial, ab_s130_66, ab_s130_67, trivial, trivial, ab_s130_70, ab_s130_71, trivial⟩
theorem ab_dk131_0 : ab_dp 131 [(0, .aload_n 0, 1), (1, .aload_n 0, 1), (2, .iload_n 1, 1), (3, .invokevirtual 139, 3), (6, .iconst 1, 1), (7, .invokevirtual 105, 3), (10, .ifCond .ne 32, 3), (13, .aload_n 0, 1), (14, .aload_n 0, 1), (15, .getfield 91, 3), (18, .ifCond .eq 12, 3), (21, .aload_n 0, 1), (22, .iload_n 1, 1), (23, .invokevirtual 68, 3), (26, .iconst 2, 1), (27, .if_icmp .ge 7, 3)] := ab_da (by decide +kernel)
theorem ab_dk131_1 : ab_dp 131 [(30, .iconst 1, 1), (31, .goto 4, 3), (34, .iconst 0, 1), (35, .iconst 2, 1), (36, .invokevirtual 39, 3), (39, .ifCond .eq 5, 3), (42, .iconst 0, 1), (43, .ireturn, 1), (44, .iconst 0, 1), (45, .istore_n 2, 1), (46, .iconst 0, 1), (47, .istore_n 3, 1), (48, .iconst 0, 1), (49, .istore 4, 2), (51, .iload 4, 2), (53, .aload_n 0, 1)] := ab_da (by decide +kernel)
theorem ab_dk131_2 : ab_dp 131 [(54, .getfield 43, 3), (57, .if_icmp .ge 96, 3), (60, .iload 4, 2), (62, .aload_n 0, 1), (63, .iload_n 1, 1), (64, .invokevirtual 61, 3), (67, .if_icmp .ne 6, 3), (70, .goto 77, 3), (73, .aload_n 0, 1), (74, .iload 4, 2), (76, .iload_n 1, 1), (77, .invokevirtual 64, 3), (80, .ifCond .eq 41, 3), (83, .iload_n 2, 1), (84, .iconst 1, 1), (85, .iload 4, 2)] := ab_da (by decide +kernel)
theorem ab_dk131_3 : ab_dp 131 [(87, .ishl, 1), (88, .ior, 1), (89, .istore_n 2, 1), (90, .aload_n 0, 1), (91, .getfield 25, 3), (94, .aload_n 0, 1), (95, .iload 4, 2), (97, .iload_n 1, 1), (98, .invokevirtual 145, 3), (101, .iconst 0, 1), (102, .iastore, 1), (103, .aload_n 0, 1), (104, .getfield 17, 3), (107, .iload 4, 2), (109, .baload, 1), (110, .ifCond .ne 11, 3)] := ab_da (by decide +kernel)
theorem ab_dk131_4 : ab_dp 131 [(113, .aload_n 0, 1), (114, .iload 4, 2), (116, .iload_n 1, 1), (117, .iconst 0, 1), (118, .invokevirtual 75, 3), (121, .iload_n 3, 1), (122, .aload_n 0, 1), (123, .getfield 17, 3), (126, .iload 4, 2), (128, .baload, 1), (129, .ifCond .eq 7, 3), (132, .iconst 0, 1), (133, .goto 12, 3), (136, .aload_n 0, 1), (137, .getfield 9, 3), (140, .iload 4, 2)] := ab_da (by decide +kernel)
theorem ab_dk131_5 : ab_dp 131 [(142, .aaload, 1), (143, .iload_n 1, 1), (144, .iaload, 1), (145, .ixor, 1), (146, .istore_n 3, 1), (147, .iinc 4 1, 3), (150, .goto (-99), 3), (153, .aload_n 0, 1), (154, .getfield 17, 3), (157, .aload_n 0, 1), (158, .iload_n 1, 1), (159, .invokevirtual 61, 3), (162, .baload, 1), (163, .ifCond .ne 14, 3), (166, .aload_n 0, 1), (167, .aload_n 0, 1)] := ab_da (by decide +kernel)
theorem ab_dk131_6 : ab_dp 131 [(168, .iload_n 1, 1), (169, .invokevirtual 61, 3), (172, .iload_n 1, 1), (173, .iload_n 3, 1), (174, .invokevirtual 75, 3), (177, .iload_n 2, 1), (178, .ireturn, 1)] := ab_da (by decide +kernel)
theorem ab_s131_0 : ab_Sn B 131 0 (ab_o_ald 0 1) := ab_s_aload_n (k := 0) (n := 0) ab_dk131_0.1 rfl
theorem ab_s131_1 : ab_Sn B 131 1 (ab_o_ald 0 2) := ab_s_aload_n (k := 0) (n := 0) ab_dk131_0.2.1 rfl
theorem ab_s131_2 : ab_Sn B 131 2 (ab_o_ild 1 3) := ab_s_iload_n (k := 1) (n := 1) ab_dk131_0.2.2.1 rfl
theorem ab_s131_3 : ab_Sn B 131 3 (ab_o_call (some (8, 22)) [] 104 2 2 true 6) := ab_s_callV (M' := 104) (na := 1) (i := 139) (ci := 4) (N := 22) (C := RX4) (T := TX4) (v := true) (ab_hok_n (by decide +kernel)) (by decide +kernel) ab_dk131_0.2.2.2.1 rfl (by decide) (by decide +kernel) (by decide +kernel) (by decide) wf_543 wf_544 wf_545 wf_546 wf_459
theorem ab_s131_6 : ab_Sn B 131 6 (ab_o_const 1 7) := ab_s_iconst (n := 1) ab_dk131_0.2.2.2.2.1 rfl
theorem ab_s131_7 : ab_Sn B 131 7 (ab_o_call (some (8, 22)) [] 102 3 3 true 10) := ab_s_callV (M' := 102) (na := 2) (i := 105) (ci := 4) (N := 22) (C := RX4) (T := TX4) (v := true) (ab_hok_n (by decide +kernel)) (by decide +kernel) ab_dk131_0.2.2.2.2.2.1 rfl (by decide) (by decide +kernel) (by decide +kernel) (by decide) wf_514 wf_515 wf_516 wf_517 wf_459
theorem ab_s131_10 : ab_Sn B 131 10 (ab_o_if ab_ne 42 13) := ab_s_if_ne (tg := 42) (off := 32) ab_dk131_0.2.2.2.2.2.2.1 (by decide)
theorem ab_s131_13 : ab_Sn B 131 13 (ab_o_ald 0 14) := ab_s_aload_n (k := 0) (n := 0) ab_dk131_0.2.2.2.2.2.2.2.1 rfl
theorem ab_s131_14 : ab_Sn B 131 14 (ab_o_ald 0 15) := ab_s_aload_n (k := 0) (n := 0) ab_dk131_0.2.2.2.2.2.2.2.2.1 rfl
theorem ab_s131_15 : ab_Sn B 131 15 (ab_o_geti 8 22 3 18) := ab_s_geti (i := 91) (ci := 4) (N := 22) (k := 3) (C := RX4) (T := TX4) ab_dk131_0.2.2.2.2.2.2.2.2.2.1 rfl (by decide) rfl wf_507
theorem ab_s131_18 : ab_Sn B 131 18 (ab_o_if ab_eq 30 21) := ab_s_if_eq (tg := 30) (off := 12) ab_dk131_0.2.2.2.2.2.2.2.2.2.2.1 (by decide)
theorem ab_s131_21 : ab_Sn B 131 21 (ab_o_ald 0 22) := ab_s_aload_n (k := 0) (n := 0) ab_dk131_0.2.2.2.2.2.2.2.2.2.2.2.1 rfl
theorem ab_s131_22 : ab_Sn B 131 22 (ab_o_ild 1 23) := ab_s_iload_n (k := 1) (n := 1) ab_dk131_0.2.2.2.2.2.2.2.2.2.2.2.2.1 rfl
theorem ab_s131_23 : ab_Sn B 131 23 (ab_o_call (some (8, 22)) [] 113 4 2 true 26) := ab_s_callV (M' := 113) (na := 1) (i := 68) (ci := 4) (N := 22) (C := RX4) (T := TX4) (v := true) (ab_hok_n (by decide +kernel)) (by decide +kernel) ab_dk131_0.2.2.2.2.2.2.2.2.2.2.2.2.2.1 rfl (by decide) (by decide +kernel) (by decide +kernel) (by decide) wf_482 wf_483 wf_484 wf_485 wf_459
theorem ab_s131_26 : ab_Sn B 131 26 (ab_o_const 2 27) := ab_s_iconst (n := 2) ab_dk131_0.2.2.2.2.2.2.2.2.2.2.2.2.2.2.1 rfl
theorem ab_s131_27 : ab_Sn B 131 27 (ab_o_icmp ab_ge 34 30) := ab_s_icmp_ge (tg := 34) (off := 7) ab_dk131_0.2.2.2.2.2.2.2.2.2.2.2.2.2.2.2.1 (by decide)
theorem ab_s131_30 : ab_Sn B 131 30 (ab_o_const 1 31) := ab_s_iconst (n := 1) ab_dk131_1.1 rfl
theorem ab_s131_31 : ab_Sn B 131 31 (ab_o_goto 35) := ab_s_goto (tg := 35) (off := 4) ab_dk131_1.2.1 (by decide)
theorem ab_s131_34 : ab_Sn B 131 34 (ab_o_const 0 35) := ab_s_iconst (n := 0) ab_dk131_1.2.2.1 rfl
theorem ab_s131_35 : ab_Sn B 131 35 (ab_o_const 2 36) := ab_s_iconst (n := 2) ab_dk131_1.2.2.2.1 rfl
theorem ab_s131_36 : ab_Sn B 131 36 (ab_o_call (some (8, 22)) [] 101 3 3 true 39) := ab_s_callV (M' := 101) (na := 2) (i := 39) (ci := 4) (N := 22) (C := RX4) (T := TX4) (v := true) (ab_hok_n (by decide +kernel)) (by decide +kernel) ab_dk131_1.2.2.2.2.1 rfl (by decide) (by decide +kernel) (by decide +kernel) (by decide) wf_456 wf_457 wf_458 wf_460 wf_459
theorem ab_s131_39 : ab_Sn B 131 39 (ab_o_if ab_eq 44 42) := ab_s_if_eq (tg := 44) (off := 5) ab_dk131_1.2.2.2.2.2.1 (by decide)
theorem ab_s131_42 : ab_Sn B 131 42 (ab_o_const 0 43) := ab_s_iconst (n := 0) ab_dk131_1.2.2.2.2.2.2.1 rfl
theorem ab_s131_43 : ab_Sn B 131 43 (ab_o_iret false) := ab_s_iret (b := false) (ty := .int) ab_dk131_1.2.2.2.2.2.2.2.1 rfl (Or.inl ⟨rfl, rfl⟩)
theorem ab_s131_44 : ab_Sn B 131 44 (ab_o_const 0 45) := ab_s_iconst (n := 0) ab_dk131_1.2.2.2.2.2.2.2.2.1 rfl
theorem ab_s131_45 : ab_Sn B 131 45 (ab_o_ist 2 46) := ab_s_istore_n (k := 2) (n := 2) ab_dk131_1.2.2.2.2.2.2.2.2.2.1 rfl
theorem ab_s131_46 : ab_Sn B 131 46 (ab_o_const 0 47) := ab_s_iconst (n := 0) ab_dk131_1.2.2.2.2.2.2.2.2.2.2.1 rfl
theorem ab_s131_47 : ab_Sn B 131 47 (ab_o_ist 3 48) := ab_s_istore_n (k := 3) (n := 3) ab_dk131_1.2.2.2.2.2.2.2.2.2.2.2.1 rfl
theorem ab_s131_48 : ab_Sn B 131 48 (ab_o_const 0 49) := ab_s_iconst (n := 0) ab_dk131_1.2.2.2.2.2.2.2.2.2.2.2.2.1 rfl
theorem ab_s131_49 : ab_Sn B 131 49 (ab_o_ist 4 51) := ab_s_istore (k := 4) ab_dk131_1.2.2.2.2.2.2.2.2.2.2.2.2.2.1
theorem ab_s131_51 : ab_Sn B 131 51 (ab_o_ild 4 53) := ab_s_iload (k := 4) ab_dk131_1.2.2.2.2.2.2.2.2.2.2.2.2.2.2.1
theorem ab_s131_53 : ab_Sn B 131 53 (ab_o_ald 0 54) := ab_s_aload_n (k := 0) (n := 0) ab_dk131_1.2.2.2.2.2.2.2.2.2.2.2.2.2.2.2.1 rfl
theorem ab_s131_54 : ab_Sn B 131 54 (ab_o_geti 8 22 1 57) := ab_s_geti (i := 43) (ci := 4) (N := 22) (k := 1) (C := RX4) (T := TX4) ab_dk131_2.1 rfl (by decide) rfl wf_461
theorem ab_s131_57 : ab_Sn B 131 57 (ab_o_icmp ab_ge 153 60) := ab_s_icmp_ge (tg := 153) (off := 96) ab_dk131_2.2.1 (by decide)
theorem ab_s131_60 : ab_Sn B 131 60 (ab_o_ild 4 62) := ab_s_iload (k := 4) ab_dk131_2.2.2.1
theorem ab_s131_62 : ab_Sn B 131 62 (ab_o_ald 0 63) := ab_s_aload_n (k := 0) (n := 0) ab_dk131_2.2.2.2.1 rfl
theorem ab_s131_63 : ab_Sn B 131 63 (ab_o_ild 1 64) := ab_s_iload_n (k := 1) (n := 1) ab_dk131_2.2.2.2.2.1 rfl
theorem ab_s131_64 : ab_Sn B 131 64 (ab_o_call (some (8, 22)) [] 108 2 2 true 67) := ab_s_callV (M' := 108) (na := 1) (i := 61) (ci := 4) (N := 22) (C := RX4) (T := TX4) (v := true) (ab_hok_n (by decide +kernel)) (by decide +kernel) ab_dk131_2.2.2.2.2.2.1 rfl (by decide) (by decide +kernel) (by decide +kernel) (by decide) wf_474 wf_475 wf_476 wf_477 wf_459
theorem ab_s131_67 : ab_Sn B 131 67 (ab_o_icmp ab_ne 73 70) := ab_s_icmp_ne (tg := 73) (off := 6) ab_dk131_2.2.2.2.2.2.2.1 (by decide)
theorem ab_s131_70 : ab_Sn B 131 70 (ab_o_goto 147) := ab_s_goto (tg := 147) (off := 77) ab_dk131_2.2.2.2.2.2.2.2.1 (by decide)
theorem ab_s131_73 : ab_Sn B 131 73 (ab_o_ald 0 74) := ab_s_aload_n (k := 0) (n := 0) ab_dk131_2.2.2.2.2.2.2.2.2.1 rfl
theorem ab_s131_74 : ab_Sn B 131 74 (ab_o_ild 4 76) := ab_s_iload (k := 4) ab_dk131_2.2.2.2.2.2.2.2.2.2.1
theorem ab_s131_76 : ab_Sn B 131 76 (ab_o_ild 1 77) := ab_s_iload_n (k := 1) (n := 1) ab_dk131_2.2.2.2.2.2.2.2.2.2.2.1 rfl
theorem ab_s131_77 : ab_Sn B 131 77 (ab_o_call (some (8, 22)) [] 111 3 3 true 80) := ab_s_callV (M' := 111) (na := 2) (i := 64) (ci := 4) (N := 22) (C := RX4) (T := TX4) (v := true) (ab_hok_n (by decide +kernel)) (by decide +kernel) ab_dk131_2.2.2.2.2.2.2.2.2.2.2.2.1 rfl (by decide) (by decide +kernel) (by decide +kernel) (by decide) wf_478 wf_479 wf_480 wf_481 wf_459
theorem ab_s131_80 : ab_Sn B 131 80 (ab_o_if ab_eq 121 83) := ab_s_if_eq (tg := 121) (off := 41) ab_dk131_2.2.2.2.2.2.2.2.2.2.2.2.2.1 (by decide)
theorem ab_s131_83 : ab_Sn B 131 83 (ab_o_ild 2 84) := ab_s_iload_n (k := 2) (n := 2) ab_dk131_2.2.2.2.2.2.2.2.2.2.2.2.2.2.1 rfl
theorem ab_s131_84 : ab_Sn B 131 84 (ab_o_const 1 85) := ab_s_iconst (n := 1) ab_dk131_2.2.2.2.2.2.2.2.2.2.2.2.2.2.2.1 rfl
theorem ab_s131_85 : ab_Sn B 131 85 (ab_o_ild 4 87) := ab_s_iload (k := 4) ab_dk131_2.2.2.2.2.2.2.2.2.2.2.2.2.2.2.2.1
theorem ab_s131_87 : ab_Sn B 131 87 (ab_o_bin ab_ishl 88) := ab_s_ishl ab_dk131_3.1
theorem ab_s131_88 : ab_Sn B 131 88 (ab_o_bin ab_ior 89) := ab_s_ior ab_dk131_3.2.1
theorem ab_s131_89 : ab_Sn B 131 89 (ab_o_ist 2 90) := ab_s_istore_n (k := 2) (n := 2) ab_dk131_3.2.2.1 rfl
theorem ab_s131_90 : ab_Sn B 131 90 (ab_o_ald 0 91) := ab_s_aload_n (k := 0) (n := 0) ab_dk131_3.2.2.2.1 rfl
theorem ab_s131_91 : ab_Sn B 131 91 (ab_o_getr 8 22 8 94) := ab_s_getr (i := 25) (ci := 4) (N := 22) (k := 8) (C := RX4) (T := TX4) ab_dk131_3.2.2.2.2.1 rfl (by decide) rfl wf_451
theorem ab_s131_94 : ab_Sn B 131 94 (ab_o_ald 0 95) := ab_s_aload_n (k := 0) (n := 0) ab_dk131_3.2.2.2.2.2.1 rfl
theorem ab_s131_95 : ab_Sn B 131 95 (ab_o_ild 4 97) := ab_s_iload (k := 4) ab_dk131_3.2.2.2.2.2.2.1
theorem ab_s131_97 : ab_Sn B 131 97 (ab_o_ild 1 98) := ab_s_iload_n (k := 1) (n := 1) ab_dk131_3.2.2.2.2.2.2.2.1 rfl
theorem ab_s131_98 : ab_Sn B 131 98 (ab_o_call (some (8, 22)) [] 110 3 3 true 101) := ab_s_callV (M' := 110) (na := 2) (i := 145) (ci := 4) (N := 22) (C := RX4) (T := TX4) (v := true) (ab_hok_n (by decide +kernel)) (by decide +kernel) ab_dk131_3.2.2.2.2.2.2.2.2.1 rfl (by decide) (by decide +kernel) (by decide +kernel) (by decide) wf_551 wf_552 wf_553 wf_554 wf_459
theorem ab_s131_101 : ab_Sn B 131 101 (ab_o_const 0 102) := ab_s_iconst (n := 0) ab_dk131_3.2.2.2.2.2.2.2.2.2.1 rfl
theorem ab_s131_102 : ab_Sn B 131 102 (ab_o_xst 0 103) := ab_s_iastore ab_dk131_3.2.2.2.2.2.2.2.2.2.2.1
theorem ab_s131_103 : ab_Sn B 131 103 (ab_o_ald 0 104) := ab_s_aload_n (k := 0) (n := 0) ab_dk131_3.2.2.2.2.2.2.2.2.2.2.2.1 rfl
theorem ab_s131_104 : ab_Sn B 131 104 (ab_o_getr 8 22 6 107) := ab_s_getr (i := 17) (ci := 4) (N := 22) (k := 6) (C := RX4) (T := TX4) ab_dk131_3.2.2.2.2.2.2.2.2.2.2.2.2.1 rfl (by decide) rfl wf_449
theorem ab_s131_107 : ab_Sn B 131 107 (ab_o_ild 4 109) := ab_s_iload (k := 4) ab_dk131_3.2.2.2.2.2.2.2.2.2.2.2.2.2.1
theorem ab_s131_109 : ab_Sn B 131 109 (ab_o_xld 1 110) := ab_s_baload ab_dk131_3.2.2.2.2.2.2.2.2.2.2.2.2.2.2.1
theorem ab_s131_110 : ab_Sn B 131 110 (ab_o_if ab_ne 121 113) := ab_s_if_ne (tg := 121) (off := 11) ab_dk131_3.2.2.2.2.2.2.2.2.2.2.2.2.2.2.2.1 (by decide)
theorem ab_s131_113 : ab_Sn B 131 113 (ab_o_ald 0 114) := ab_s_aload_n (k := 0) (n := 0) ab_dk131_4.1 rfl
theorem ab_s131_114 : ab_Sn B 131 114 (ab_o_ild 4 116) := ab_s_iload (k := 4) ab_dk131_4.2.1
theorem ab_s131_116 : ab_Sn B 131 116 (ab_o_ild 1 117) := ab_s_iload_n (k := 1) (n := 1) ab_dk131_4.2.2.1 rfl
theorem ab_s131_117 : ab_Sn B 131 117 (ab_o_const 0 118) := ab_s_iconst (n := 0) ab_dk131_4.2.2.2.1 rfl
theorem ab_s131_118 : ab_Sn B 131 118 (ab_o_call (some (8, 22)) [] 112 4 4 false 121) := ab_s_callV (M' := 112) (na := 3) (i := 75) (ci := 4) (N := 22) (C := RX4) (T := TX4) (v := false) (ab_hok_n (by decide +kernel)) (by decide +kernel) ab_dk131_4.2.2.2.2.1 rfl (by decide) (by decide +kernel) (by decide +kernel) (by decide) wf_490 wf_491 wf_492 wf_493 wf_459
theorem ab_s131_121 : ab_Sn B 131 121 (ab_o_ild 3 122) := ab_s_iload_n (k := 3) (n := 3) ab_dk131_4.2.2.2.2.2.1 rfl
theorem ab_s131_122 : ab_Sn B 131 122 (ab_o_ald 0 123) := ab_s_aload_n (k := 0) (n := 0) ab_dk131_4.2.2.2.2.2.2.1 rfl
theorem ab_s131_123 : ab_Sn B 131 123 (ab_o_getr 8 22 6 126) := ab_s_getr (i := 17) (ci := 4) (N := 22) (k := 6) (C := RX4) (T := TX4) ab_dk131_4.2.2.2.2.2.2.2.1 rfl (by decide) rfl wf_449
theorem ab_s131_126 : ab_Sn B 131 126 (ab_o_ild 4 128) := ab_s_iload (k := 4) ab_dk131_4.2.2.2.2.2.2.2.2.1
theorem ab_s131_128 : ab_Sn B 131 128 (ab_o_xld 1 129) := ab_s_baload ab_dk131_4.2.2.2.2.2.2.2.2.2.1
theorem ab_s131_129 : ab_Sn B 131 129 (ab_o_if ab_eq 136 132) := ab_s_if_eq (tg := 136) (off := 7) ab_dk131_4.2.2.2.2.2.2.2.2.2.2.1 (by decide)
theorem ab_s131_132 : ab_Sn B 131 132 (ab_o_const 0 133) := ab_s_iconst (n := 0) ab_dk131_4.2.2.2.2.2.2.2.2.2.2.2.1 rfl
theorem ab_s131_133 : ab_Sn B 131 133 (ab_o_goto 145) := ab_s_goto (tg := 145) (off := 12) ab_dk131_4.2.2.2.2.2.2.2.2.2.2.2.2.1 (by decide)
theorem ab_s131_136 : ab_Sn B 131 136 (ab_o_ald 0 137) := ab_s_aload_n (k := 0) (n := 0) ab_dk131_4.2.2.2.2.2.2.2.2.2.2.2.2.2.1 rfl
theorem ab_s131_137 : ab_Sn B 131 137 (ab_o_getr 8 22 4 140) := ab_s_getr (i := 9) (ci := 4) (N := 22) (k := 4) (C := RX4) (T := TX4) ab_dk131_4.2.2.2.2.2.2.2.2.2.2.2.2.2.2.1 rfl (by decide) rfl wf_447
theorem ab_s131_140 : ab_Sn B 131 140 (ab_o_ild 4 142) := ab_s_iload (k := 4) ab_dk131_4.2.2.2.2.2.2.2.2.2.2.2.2.2.2.2.1
theorem ab_s131_142 : ab_Sn B 131 142 (ab_o_aald 143) := ab_s_aald ab_dk131_5.1
theorem ab_s131_143 : ab_Sn B 131 143 (ab_o_ild 1 144) := ab_s_iload_n (k := 1) (n := 1) ab_dk131_5.2.1 rfl
theorem ab_s131_144 : ab_Sn B 131 144 (ab_o_xld 0 145) := ab_s_iaload ab_dk131_5.2.2.1
theorem ab_s131_145 : ab_Sn B 131 145 (ab_o_bin ab_ixor 146) := ab_s_ixor ab_dk131_5.2.2.2.1
theorem ab_s131_146 : ab_Sn B 131 146 (ab_o_ist 3 147) := ab_s_istore_n (k := 3) (n := 3) ab_dk131_5.2.2.2.2.1 rfl
theorem ab_s131_147 : ab_Sn B 131 147 (ab_o_inc 4 1 150) := ab_s_iinc (k := 4) (n := 1) ab_dk131_5.2.2.2.2.2.1
theorem ab_s131_150 : ab_Sn B 131 150 (ab_o_goto 51) := ab_s_goto (tg := 51) (off := -99) ab_dk131_5.2.2.2.2.2.2.1 (by decide)
theorem ab_s131_153 : ab_Sn B 131 153 (ab_o_ald 0 154) := ab_s_aload_n (k := 0) (n := 0) ab_dk131_5.2.2.2.2.2.2.2.1 rfl
theorem ab_s131_154 : ab_Sn B 131 154 (ab_o_getr 8 22 6 157) := ab_s_getr (i := 17) (ci := 4) (N := 22) (k := 6) (C := RX4) (T := TX4) ab_dk131_5.2.2.2.2.2.2.2.2.1 rfl (by decide) rfl wf_449
theorem ab_s131_157 : ab_Sn B 131 157 (ab_o_ald 0 158) := ab_s_aload_n (k := 0) (n := 0) ab_dk131_5.2.2.2.2.2.2.2.2.2.1 rfl
theorem ab_s131_158 : ab_Sn B 131 158 (ab_o_ild 1 159) := ab_s_iload_n (k := 1) (n := 1) ab_dk131_5.2.2.2.2.2.2.2.2.2.2.1 rfl
theorem ab_s131_159 : ab_Sn B 131 159 (ab_o_call (some (8, 22)) [] 108 2 2 true 162) := ab_s_callV (M' := 108) (na := 1) (i := 61) (ci := 4) (N := 22) (C := RX4) (T := TX4) (v := true) (ab_hok_n (by decide +kernel)) (by decide +kernel) ab_dk131_5.2.2.2.2.2.2.2.2.2.2.2.1 rfl (by decide) (by decide +kernel) (by decide +kernel) (by decide) wf_474 wf_475 wf_476 wf_477 wf_459
theorem ab_s131_162 : ab_Sn B 131 162 (ab_o_xld 1 163) := ab_s_baload ab_dk131_5.2.2.2.2.2.2.2.2.2.2.2.2.1
theorem ab_s131_163 : ab_Sn B 131 163 (ab_o_if ab_ne 177 166) := ab_s_if_ne (tg := 177) (off := 14) ab_dk131_5.2.2.2.2.2.2.2.2.2.2.2.2.2.1 (by decide)
theorem ab_s131_166 : ab_Sn B 131 166 (ab_o_ald 0 167) := ab_s_aload_n (k := 0) (n := 0) ab_dk131_5.2.2.2.2.2.2.2.2.2.2.2.2.2.2.1 rfl
theorem ab_s131_167 : ab_Sn B 131 167 (ab_o_ald 0 168) := ab_s_aload_n (k := 0) (n := 0) ab_dk131_5.2.2.2.2.2.2.2.2.2.2.2.2.2.2.2.1 rfl
theorem ab_s131_168 : ab_Sn B 131 168 (ab_o_ild 1 169) := ab_s_iload_n (k := 1) (n := 1) ab_dk131_6.1 rfl
theorem ab_s131_169 : ab_Sn B 131 169 (ab_o_call (some (8, 22)) [] 108 2 2 true 172) := ab_s_callV (M' := 108) (na := 1) (i := 61) (ci := 4) (N := 22) (C := RX4) (T := TX4) (v := true) (ab_hok_n (by decide +kernel)) (by decide +kernel) ab_dk131_6.2.1 rfl (by decide) (by decide +kernel) (by decide +kernel) (by decide) wf_474 wf_475 wf_476 wf_477 wf_459
theorem ab_s131_172 : ab_Sn B 131 172 (ab_o_ild 1 173) := ab_s_iload_n (k := 1) (n := 1) ab_dk131_6.2.2.1 rfl
theorem ab_s131_173 : ab_Sn B 131 173 (ab_o_ild 3 174) := ab_s_iload_n (k := 3) (n := 3) ab_dk131_6.2.2.2.1 rfl
theorem ab_s131_174 : ab_Sn B 131 174 (ab_o_call (some (8, 22)) [] 112 4 4 false 177) := ab_s_callV (M' := 112) (na := 3) (i := 75) (ci := 4) (N := 22) (C := RX4) (T := TX4) (v := false) (ab_hok_n (by decide +kernel)) (by decide +kernel) ab_dk131_6.2.2.2.2.1 rfl (by decide) (by decide +kernel) (by decide +kernel) (by decide) wf_490 wf_491 wf_492 wf_493 wf_459
theorem ab_s131_177 : ab_Sn B 131 177 (ab_o_ild 2 178) := ab_s_iload_n (k := 2) (n := 2) ab_dk131_6.2.2.2.2.2.1 rfl
theorem ab_s131_178 : ab_Sn B 131 178 (ab_o_iret false) := ab_s_iret (b := false) (ty := .int) ab_dk131_6.2.2.2.2.2.2.1 rfl (Or.inl ⟨rfl, rfl⟩)
theorem ab_sc131_2 : ab_all B 131 128 (ab_d131_2) := ⟨ab_s131_128, ab_s131_129, trivial, trivial, ab_s131_132, ab_s131_133, trivial, trivial, ab_s131_136, ab_s131_137, trivial, trivial, ab_s131_140, trivial, ab_s131_142, ab_s131_143, ab_s131_144, ab_s131_145, ab_s131_146, ab_s131_147, trivial, trivial, ab_s131_150, trivial, trivial, ab_s131_153, ab_s131_154, trivial, trivial, ab_s131_157, ab_s131_158, ab_s131_159, trivial, trivial, ab_s131_162, ab_s131_163, trivial, trivial, ab_s131_166, ab_s131_167, ab_s131_168, ab_s131_169, trivial, trivial, ab_s131_172, ab_s131_173, ab_s131_174, trivial, trivial, ab_s131_177, ab_s131_178, trivial⟩
theorem ab_sc131_1 : ab_all B 131 64 (ab_d131_1) := ⟨ab_s131_64, trivial, trivial, ab_s131_67, trivial, trivial, ab_s131_70, trivial, trivial, ab_s131_73, ab_s131_74, trivial, ab_s131_76, ab_s131_77, trivial, trivial, ab_s131_80, trivial, trivial, ab_s131_83, ab_s131_84, ab_s131_85, trivial, ab_s131_87, ab_s131_88, ab_s131_89, ab_s131_90, ab_s131_91, trivial, trivial, ab_s131_94, ab_s131_95, trivial, ab_s131_97, ab_s131_98, trivial, trivial, ab_s131_101, ab_s131_102, ab_s131_103, ab_s131_104, trivial, trivial, ab_s131_107, trivial, ab_s131_109, ab_s131_110, trivial, trivial, ab_s131_113, ab_s131_114, trivial, ab_s131_116, ab_s131_117, ab_s131_118, trivial, trivial, ab_s131_121, ab_s131_122, ab_s131_123, trivial, trivial, ab_s131_126, trivial, ab_sc131_2⟩
theorem ab_sc131_0 : ab_all B 131 0 (ab_d131_0) := ⟨ab_s131_0, ab_s131_1, ab_s131_2, ab_s131_3, trivial, trivial, ab_s131_6, ab_s131_7, trivial, trivial, ab_s131_10, trivial, trivial, ab_s131_13, ab_s131_14, ab_s131_15, trivial, trivial, ab_s131_18, trivial, trivial, ab_s131_21, ab_s131_22, ab_s131_23, trivial, trivial, ab_s131_26, ab_s131_27, trivial, trivial, ab_s131_30, ab_s131_31, trivial, trivial, ab_s131_34, ab_s131_35, ab_s131_36, trivial, trivial, ab_s131_39, trivial, trivial, ab_s131_42, ab_s131_43, ab_s131_44, ab_s131_45, ab_s131_46, ab_s131_47, ab_s131_48, ab_s131_49, trivial, ab_s131_51, trivial, ab_s131_53, ab_s131_54, trivial, trivial, ab_s131_57, trivial, trivial, ab_s131_60, trivial, ab_s131_62, ab_s131_63, ab_sc131_1⟩
theorem ab_sn131 : ab_all B 131 0 (ab_c131) := by rw [ab_cd131]; exact ab_sc131_0
theorem ab_dk132_0 : ab_dp 132 [(0, .iload_n 3, 1), (1, .iload_n 2, 1), (2, .if_icmp .ge 7, 3), (5, .iconst 0, 1), (6, .goto 36, 3), (9, .iload_n 3, 1), (10, .iload_n 2, 1), (11, .aload_n 0, 1), (12, .getfield 33, 3), (15, .iload_n 1, 1), (16, .aaload, 1), (17, .iconst 1, 1), (18, .iaload, 1), (19, .iadd, 1), (20, .if_icmp .ge 14, 3), (23, .aload_n 0, 1)] := ab_da (by decide +kernel)
theorem ab_dk132_1 : ab_dp 132 [(24, .getfield 33, 3), (27, .iload_n 1, 1), (28, .aaload, 1), (29, .iconst 0, 1), (30, .iaload, 1), (31, .goto 11, 3), (34, .aload_n 0, 1), (35, .getfield 33, 3), (38, .iload_n 1, 1), (39, .aaload, 1), (40, .iconst 2, 1), (41, .iaload, 1), (42, .ireturn, 1)] := ab_da (by decide +kernel)
theorem ab_s132_0 : ab_Sn B 132 0 (ab_o_ild 3 1) := ab_s_iload_n (k := 3) (n := 3) ab_dk132_0.1 rfl
theorem ab_s132_1 : ab_Sn B 132 1 (ab_o_ild 2 2) := ab_s_iload_n (k := 2) (n := 2) ab_dk132_0.2.1 rfl
theorem ab_s132_2 : ab_Sn B 132 2 (ab_o_icmp ab_ge 9 5) := ab_s_icmp_ge (tg := 9) (off := 7) ab_dk132_0.2.2.1 (by decide)
theorem ab_s132_5 : ab_Sn B 132 5 (ab_o_const 0 6) := ab_s_iconst (n := 0) ab_dk132_0.2.2.2.1 rfl
theorem ab_s132_6 : ab_Sn B 132 6 (ab_o_goto 42) := ab_s_goto (tg := 42) (off := 36) ab_dk132_0.2.2.2.2.1 (by decide)
theorem ab_s132_9 : ab_Sn B 132 9 (ab_o_ild 3 10) := ab_s_iload_n (k := 3) (n := 3) ab_dk132_0.2.2.2.2.2.1 rfl
theorem ab_s132_10 : ab_Sn B 132 10 (ab_o_ild 2 11) := ab_s_iload_n (k := 2) (n := 2) ab_dk132_0.2.2.2.2.2.2.1 rfl
theorem ab_s132_11 : ab_Sn B 132 11 (ab_o_ald 0 12) := ab_s_aload_n (k := 0) (n := 0) ab_dk132_0.2.2.2.2.2.2.2.1 rfl
theorem ab_s132_12 : ab_Sn B 132 12 (ab_o_getr 8 22 21 15) := ab_s_getr (i := 33) (ci := 4) (N := 22) (k := 21) (C := RX4) (T := TX4) ab_dk132_0.2.2.2.2.2.2.2.2.1 rfl (by decide) rfl wf_454
theorem ab_s132_15 : ab_Sn B 132 15 (ab_o_ild 1 16) := ab_s_iload_n (k := 1) (n := 1) ab_dk132_0.2.2.2.2.2.2.2.2.2.1 rfl
theorem ab_s132_16 : ab_Sn B 132 16 (ab_o_aald 17) := ab_s_aald ab_dk132_0.2.2.2.2.2.2.2.2.2.2.1
theorem ab_s132_17 : ab_Sn B 132 17 (ab_o_const 1 18) := ab_s_iconst (n := 1) ab_dk132_0.2.2.2.2.2.2.2.2.2.2.2.1 rfl
theorem ab_s132_18 : ab_Sn B 132 18 (ab_o_xld 0 19) := ab_s_iaload ab_dk132_0.2.2.2.2.2.2.2.2.2.2.2.2.1
theorem ab_s132_19 : ab_Sn B 132 19 (ab_o_bin (fun a b => a + b) 20) := ab_s_iadd ab_dk132_0.2.2.2.2.2.2.2.2.2.2.2.2.2.1
theorem ab_s132_20 : ab_Sn B 132 20 (ab_o_icmp ab_ge 34 23) := ab_s_icmp_ge (tg := 34) (off := 14) ab_dk132_0.2.2.2.2.2.2.2.2.2.2.2.2.2.2.1 (by decide)
theorem ab_s132_23 : ab_Sn B 132 23 (ab_o_ald 0 24) := ab_s_aload_n (k := 0) (n := 0) ab_dk132_0.2.2.2.2.2.2.2.2.2.2.2.2.2.2.2.1 rfl
theorem ab_s132_24 : ab_Sn B 132 24 (ab_o_getr 8 22 21 27) := ab_s_getr (i := 33) (ci := 4) (N := 22) (k := 21) (C := RX4) (T := TX4) ab_dk132_1.1 rfl (by decide) rfl wf_454
theorem ab_s132_27 : ab_Sn B 132 27 (ab_o_ild 1 28) := ab_s_iload_n (k := 1) (n := 1) ab_dk132_1.2.1 rfl
theorem ab_s132_28 : ab_Sn B 132 28 (ab_o_aald 29) := ab_s_aald ab_dk132_1.2.2.1
theorem ab_s132_29 : ab_Sn B 132 29 (ab_o_const 0 30) := ab_s_iconst (n := 0) ab_dk132_1.2.2.2.1 rfl
theorem ab_s132_30 : ab_Sn B 132 30 (ab_o_xld 0 31) := ab_s_iaload ab_dk132_1.2.2.2.2.1
theorem ab_s132_31 : ab_Sn B 132 31 (ab_o_goto 42) := ab_s_goto (tg := 42) (off := 11) ab_dk132_1.2.2.2.2.2.1 (by decide)
theorem ab_s132_34 : ab_Sn B 132 34 (ab_o_ald 0 35) := ab_s_aload_n (k := 0) (n := 0) ab_dk132_1.2.2.2.2.2.2.1 rfl
theorem ab_s132_35 : ab_Sn B 132 35 (ab_o_getr 8 22 21 38) := ab_s_getr (i := 33) (ci := 4) (N := 22) (k := 21) (C := RX4) (T := TX4) ab_dk132_1.2.2.2.2.2.2.2.1 rfl (by decide) rfl wf_454
theorem ab_s132_38 : ab_Sn B 132 38 (ab_o_ild 1 39) := ab_s_iload_n (k := 1) (n := 1) ab_dk132_1.2.2.2.2.2.2.2.2.1 rfl
theorem ab_s132_39 : ab_Sn B 132 39 (ab_o_aald 40) := ab_s_aald ab_dk132_1.2.2.2.2.2.2.2.2.2.1
theorem ab_s132_40 : ab_Sn B 132 40 (ab_o_const 2 41) := ab_s_iconst (n := 2) ab_dk132_1.2.2.2.2.2.2.2.2.2.2.1 rfl
theorem ab_s132_41 : ab_Sn B 132 41 (ab_o_xld 0 42) := ab_s_iaload ab_dk132_1.2.2.2.2.2.2.2.2.2.2.2.1
theorem ab_s132_42 : ab_Sn B 132 42 (ab_o_iret false) := ab_s_iret (b := false) (ty := .int) ab_dk132_1.2.2.2.2.2.2.2.2.2.2.2.2.1 rfl (Or.inl ⟨rfl, rfl⟩)
set_option maxRecDepth 20000 in
theorem ab_sn132 : ab_all B 132 0 (ab_c132) := ⟨ab_s132_0, ab_s132_1, ab_s132_2, trivial, trivial, ab_s132_5, ab_s132_6, trivial, trivial, ab_s132_9, ab_s132_10, ab_s132_11, ab_s132_12, trivial, trivial, ab_s132_15, ab_s132_16, ab_s132_17, ab_s132_18, ab_s132_19, ab_s132_20, trivial, trivial, ab_s132_23, ab_s132_24, trivial, trivial, ab_s132_27, ab_s132_28, ab_s132_29, ab_s132_30, ab_s132_31, trivial, trivial, ab_s132_34, ab_s132_35, trivial, trivial, ab_s132_38, ab_s132_39, ab_s132_40, ab_s132_41, ab_s132_42, trivial⟩
theorem ab_dk133_0 : ab_dp 133 [(0, .iconst 0, 1), (1, .istore_n 2, 1), (2, .iconst 0, 1), (3, .istore_n 3, 1), (4, .iload_n 3, 1), (5, .sipush 160, 3), (8, .if_icmp .gt 85, 3), (11, .iconst 0, 1), (12, .istore 4, 2), (14, .iconst 0, 1), (15, .istore 5, 2), (17, .iload 5, 2), (19, .aload_n 0, 1), (20, .getfield 43, 3), (23, .if_icmp .ge 37, 3), (26, .iload 4, 2)] := ab_da (by decide +kernel)
theorem ab_dk133_1 : ab_dp 133 [(28, .aload_n 1, 1), (29, .iload 5, 2), (31, .iaload, 1), (32, .iconst (-1), 1), (33, .if_icmp .ne 7, 3), (36, .iconst 0, 1), (37, .goto 14, 3), (40, .aload_n 0, 1), (41, .iload 5, 2), (43, .aload_n 1, 1), (44, .iload 5, 2), (46, .iaload, 1), (47, .iload_n 3, 1), (48, .invokevirtual 148, 3), (51, .iadd, 1), (52, .istore 4, 2)] := ab_da (by decide +kernel)
theorem ab_dk133_2 : ab_dp 133 [(54, .iinc 5 1, 3), (57, .goto (-40), 3), (60, .iload 4, 2), (62, .aload_n 0, 1), (63, .getfield 28, 3), (66, .if_icmp .le 9, 3), (69, .iload_n 2, 1), (70, .iconst 1, 1), (71, .iadd, 1), (72, .goto 4, 3), (75, .iconst 0, 1), (76, .istore_n 2, 1), (77, .iload_n 2, 1), (78, .aload_n 0, 1), (79, .getfield 152, 3), (82, .if_icmp .le 5, 3)] := ab_da (by decide +kernel)
theorem ab_dk133_3 : ab_dp 133 [(85, .iconst 1, 1), (86, .ireturn, 1), (87, .iinc 3 1, 3), (90, .goto (-86), 3), (93, .iconst 0, 1), (94, .ireturn, 1)] := ab_da (by decide +kernel)
theorem ab_s133_0 : ab_Sn B 133 0 (ab_o_const 0 1) := ab_s_iconst (n := 0) ab_dk133_0.1 rfl
theorem ab_s133_1 : ab_Sn B 133 1 (ab_o_ist 2 2) := ab_s_istore_n (k := 2) (n := 2) ab_dk133_0.2.1 rfl
theorem ab_s133_2 : ab_Sn B 133 2 (ab_o_const 0 3) := ab_s_iconst (n := 0) ab_dk133_0.2.2.1 rfl
theorem ab_s133_3 : ab_Sn B 133 3 (ab_o_ist 3 4) := ab_s_istore_n (k := 3) (n := 3) ab_dk133_0.2.2.2.1 rfl
theorem ab_s133_4 : ab_Sn B 133 4 (ab_o_ild 3 5) := ab_s_iload_n (k := 3) (n := 3) ab_dk133_0.2.2.2.2.1 rfl
theorem ab_s133_5 : ab_Sn B 133 5 (ab_o_const 160 8) := ab_s_sipush (n := 160) ab_dk133_0.2.2.2.2.2.1 (by decide)
theorem ab_s133_8 : ab_Sn B 133 8 (ab_o_icmp ab_gt 93 11) := ab_s_icmp_gt (tg := 93) (off := 85) ab_dk133_0.2.2.2.2.2.2.1 (by decide)
theorem ab_s133_11 : ab_Sn B 133 11 (ab_o_const 0 12) := ab_s_iconst (n := 0) ab_dk133_0.2.2.2.2.2.2.2.1 rfl
theorem ab_s133_12 : ab_Sn B 133 12 (ab_o_ist 4 14) := ab_s_istore (k := 4) ab_dk133_0.2.2.2.2.2.2.2.2.1
theorem ab_s133_14 : ab_Sn B 133 14 (ab_o_const 0 15) := ab_s_iconst (n := 0) ab_dk133_0.2.2.2.2.2.2.2.2.2.1 rfl
theorem ab_s133_15 : ab_Sn B 133 15 (ab_o_ist 5 17) := ab_s_istore (k := 5) ab_dk133_0.2.2.2.2.2.2.2.2.2.2.1
theorem ab_s133_17 : ab_Sn B 133 17 (ab_o_ild 5 19) := ab_s_iload (k := 5) ab_dk133_0.2.2.2.2.2.2.2.2.2.2.2.1
theorem ab_s133_19 : ab_Sn B 133 19 (ab_o_ald 0 20) := ab_s_aload_n (k := 0) (n := 0) ab_dk133_0.2.2.2.2.2.2.2.2.2.2.2.2.1 rfl
theorem ab_s133_20 : ab_Sn B 133 20 (ab_o_geti 8 22 1 23) := ab_s_geti (i := 43) (ci := 4) (N := 22) (k := 1) (C := RX4) (T := TX4) ab_dk133_0.2.2.2.2.2.2.2.2.2.2.2.2.2.1 rfl (by decide) rfl wf_461
theorem ab_s133_23 : ab_Sn B 133 23 (ab_o_icmp ab_ge 60 26) := ab_s_icmp_ge (tg := 60) (off := 37) ab_dk133_0.2.2.2.2.2.2.2.2.2.2.2.2.2.2.1 (by decide)
theorem ab_s133_26 : ab_Sn B 133 26 (ab_o_ild 4 28) := ab_s_iload (k := 4) ab_dk133_0.2.2.2.2.2.2.2.2.2.2.2.2.2.2.2.1
theorem ab_s133_28 : ab_Sn B 133 28 (ab_o_ald 1 29) := ab_s_aload_n (k := 1) (n := 1) ab_dk133_1.1 rfl
theorem ab_s133_29 : ab_Sn B 133 29 (ab_o_ild 5 31) := ab_s_iload (k := 5) ab_dk133_1.2.1
theorem ab_s133_31 : ab_Sn B 133 31 (ab_o_xld 0 32) := ab_s_iaload ab_dk133_1.2.2.1
theorem ab_s133_32 : ab_Sn B 133 32 (ab_o_const (-1) 33) := ab_s_iconst (n := (-1)) ab_dk133_1.2.2.2.1 rfl
theorem ab_s133_33 : ab_Sn B 133 33 (ab_o_icmp ab_ne 40 36) := ab_s_icmp_ne (tg := 40) (off := 7) ab_dk133_1.2.2.2.2.1 (by decide)
theorem ab_s133_36 : ab_Sn B 133 36 (ab_o_const 0 37) := ab_s_iconst (n := 0) ab_dk133_1.2.2.2.2.2.1 rfl
theorem ab_s133_37 : ab_Sn B 133 37 (ab_o_goto 51) := ab_s_goto (tg := 51) (off := 14) ab_dk133_1.2.2.2.2.2.2.1 (by decide)
theorem ab_s133_40 : ab_Sn B 133 40 (ab_o_ald 0 41) := ab_s_aload_n (k := 0) (n := 0) ab_dk133_1.2.2.2.2.2.2.2.1 rfl
theorem ab_s133_41 : ab_Sn B 133 41 (ab_o_ild 5 43) := ab_s_iload (k := 5) ab_dk133_1.2.2.2.2.2.2.2.2.1
theorem ab_s133_43 : ab_Sn B 133 43 (ab_o_ald 1 44) := ab_s_aload_n (k := 1) (n := 1) ab_dk133_1.2.2.2.2.2.2.2.2.2.1 rfl
theorem ab_s133_44 : ab_Sn B 133 44 (ab_o_ild 5 46) := ab_s_iload (k := 5) ab_dk133_1.2.2.2.2.2.2.2.2.2.2.1
theorem ab_s133_46 : ab_Sn B 133 46 (ab_o_xld 0 47) := ab_s_iaload ab_dk133_1.2.2.2.2.2.2.2.2.2.2.2.1
theorem ab_s133_47 : ab_Sn B 133 47 (ab_o_ild 3 48) := ab_s_iload_n (k := 3) (n := 3) ab_dk133_1.2.2.2.2.2.2.2.2.2.2.2.2.1 rfl
theorem ab_s133_48 : ab_Sn B 133 48 (ab_o_call (some (8, 22)) [] 132 4 4 true 51) := ab_s_callV (M' := 132) (na := 3) (i := 148) (ci := 4) (N := 22) (C := RX4) (T := TX4) (v := true) (ab_hok_n (by decide +kernel)) (by decide +kernel) ab_dk133_1.2.2.2.2.2.2.2.2.2.2.2.2.2.1 rfl (by decide) (by decide +kernel) (by decide +kernel) (by decide) wf_555 wf_556 wf_557 wf_558 wf_459
theorem ab_s133_51 : ab_Sn B 133 51 (ab_o_bin (fun a b => a + b) 52) := ab_s_iadd ab_dk133_1.2.2.2.2.2.2.2.2.2.2.2.2.2.2.1
theorem ab_s133_52 : ab_Sn B 133 52 (ab_o_ist 4 54) := ab_s_istore (k := 4) ab_dk133_1.2.2.2.2.2.2.2.2.2.2.2.2.2.2.2.1
theorem ab_s133_54 : ab_Sn B 133 54 (ab_o_inc 5 1 57) := ab_s_iinc (k := 5) (n := 1) ab_dk133_2.1
theorem ab_s133_57 : ab_Sn B 133 57 (ab_o_goto 17) := ab_s_goto (tg := 17) (off := -40) ab_dk133_2.2.1 (by decide)
theorem ab_s133_60 : ab_Sn B 133 60 (ab_o_ild 4 62) := ab_s_iload (k := 4) ab_dk133_2.2.2.1
theorem ab_s133_62 : ab_Sn B 133 62 (ab_o_ald 0 63) := ab_s_aload_n (k := 0) (n := 0) ab_dk133_2.2.2.2.1 rfl
theorem ab_s133_63 : ab_Sn B 133 63 (ab_o_geti 8 22 19 66) := ab_s_geti (i := 28) (ci := 4) (N := 22) (k := 19) (C := RX4) (T := TX4) ab_dk133_2.2.2.2.2.1 rfl (by decide) rfl wf_452
theorem ab_s133_66 : ab_Sn B 133 66 (ab_o_icmp ab_le 75 69) := ab_s_icmp_le (tg := 75) (off := 9) ab_dk133_2.2.2.2.2.2.1 (by decide)
theorem ab_s133_69 : ab_Sn B 133 69 (ab_o_ild 2 70) := ab_s_iload_n (k := 2) (n := 2) ab_dk133_2.2.2.2.2.2.2.1 rfl
theorem ab_s133_70 : ab_Sn B 133 70 (ab_o_const 1 71) := ab_s_iconst (n := 1) ab_dk133_2.2.2.2.2.2.2.2.1 rfl
theorem ab_s133_71 : ab_Sn B 133 71 (ab_o_bin (fun a b => a + b) 72) := ab_s_iadd ab_dk133_2.2.2.2.2.2.2.2.2.1
theorem ab_s133_72 : ab_Sn B 133 72 (ab_o_goto 76) := ab_s_goto (tg := 76) (off := 4) ab_dk133_2.2.2.2.2.2.2.2.2.2.1 (by decide)
theorem ab_s133_75 : ab_Sn B 133 75 (ab_o_const 0 76) := ab_s_iconst (n := 0) ab_dk133_2.2.2.2.2.2.2.2.2.2.2.1 rfl
theorem ab_s133_76 : ab_Sn B 133 76 (ab_o_ist 2 77) := ab_s_istore_n (k := 2) (n := 2) ab_dk133_2.2.2.2.2.2.2.2.2.2.2.2.1 rfl
theorem ab_s133_77 : ab_Sn B 133 77 (ab_o_ild 2 78) := ab_s_iload_n (k := 2) (n := 2) ab_dk133_2.2.2.2.2.2.2.2.2.2.2.2.2.1 rfl
theorem ab_s133_78 : ab_Sn B 133 78 (ab_o_ald 0 79) := ab_s_aload_n (k := 0) (n := 0) ab_dk133_2.2.2.2.2.2.2.2.2.2.2.2.2.2.1 rfl
theorem ab_s133_79 : ab_Sn B 133 79 (ab_o_geti 8 22 20 82) := ab_s_geti (i := 152) (ci := 4) (N := 22) (k := 20) (C := RX4) (T := TX4) ab_dk133_2.2.2.2.2.2.2.2.2.2.2.2.2.2.2.1 rfl (by decide) rfl wf_559
theorem ab_s133_82 : ab_Sn B 133 82 (ab_o_icmp ab_le 87 85) := ab_s_icmp_le (tg := 87) (off := 5) ab_dk133_2.2.2.2.2.2.2.2.2.2.2.2.2.2.2.2.1 (by decide)
theorem ab_s133_85 : ab_Sn B 133 85 (ab_o_const 1 86) := ab_s_iconst (n := 1) ab_dk133_3.1 rfl
theorem ab_s133_86 : ab_Sn B 133 86 (ab_o_iret true) := ab_s_iret (b := true) (ty := .boolean) ab_dk133_3.2.1 rfl (Or.inr (Or.inl ⟨rfl, rfl⟩))
theorem ab_s133_87 : ab_Sn B 133 87 (ab_o_inc 3 1 90) := ab_s_iinc (k := 3) (n := 1) ab_dk133_3.2.2.1
theorem ab_s133_90 : ab_Sn B 133 90 (ab_o_goto 4) := ab_s_goto (tg := 4) (off := -86) ab_dk133_3.2.2.2.1 (by decide)
theorem ab_s133_93 : ab_Sn B 133 93 (ab_o_const 0 94) := ab_s_iconst (n := 0) ab_dk133_3.2.2.2.2.1 rfl
theorem ab_s133_94 : ab_Sn B 133 94 (ab_o_iret true) := ab_s_iret (b := true) (ty := .boolean) ab_dk133_3.2.2.2.2.2.1 rfl (Or.inr (Or.inl ⟨rfl, rfl⟩))
set_option maxRecDepth 20000 in
theorem ab_sn133 : ab_all B 133 0 (ab_c133) := ⟨ab_s133_0, ab_s133_1, ab_s133_2, ab_s133_3, ab_s133_4, ab_s133_5, trivial, trivial, ab_s133_8, trivial, trivial, ab_s133_11, ab_s133_12, trivial, ab_s133_14, ab_s133_15, trivial, ab_s133_17, trivial, ab_s133_19, ab_s133_20, trivial, trivial, ab_s133_23, trivial, trivial, ab_s133_26, trivial, ab_s133_28, ab_s133_29, trivial, ab_s133_31, ab_s133_32, ab_s133_33, trivial, trivial, ab_s133_36, ab_s133_37, trivial, trivial, ab_s133_40, ab_s133_41, trivial, ab_s133_43, ab_s133_44, trivial, ab_s133_46, ab_s133_47, ab_s133_48, trivial, trivial, ab_s133_51, ab_s133_52, trivial, ab_s133_54, trivial, trivial, ab_s133_57, trivial, trivial, ab_s133_60, trivial, ab_s133_62, ab_s133_63, trivial, trivial, ab_s133_66, trivial, trivial, ab_s133_69, ab_s133_70, ab_s133_71, ab_s133_72, trivial, trivial, ab_s133_75, ab_s133_76, ab_s133_77, ab_s133_78, ab_s133_79, trivial, trivial, ab_s133_82, trivial, trivial, ab_s133_85, ab_s133_86, ab_s133_87, trivial, trivial, ab_s133_90, trivial, trivial, ab_s133_93, ab_s133_94, trivial⟩
theorem ab_dk134_0 : ab_dp 134 [(0, .iconst 0, 1), (1, .istore_n 2, 1), (2, .iconst 0, 1), (3, .istore_n 3, 1), (4, .iload_n 3, 1), (5, .aload_n 0, 1), (6, .getfield 43, 3), (9, .if_icmp .ge 26, 3), (12, .iload_n 2, 1), (13, .aload_n 1, 1), (14, .iload_n 3, 1), (15, .iaload, 1), (16, .aload_n 0, 1), (17, .getfield 33, 3), (20, .iload_n 3, 1), (21, .aaload, 1)] := ab_da (by decide +kernel)
theorem ab_dk134_1 : ab_dp 134 [(22, .iconst 1, 1), (23, .iaload, 1), (24, .iadd, 1), (25, .invokestatic 155, 3), (28, .istore_n 2, 1), (29, .iinc 3 1, 3), (32, .goto (-28), 3), (35, .iload_n 2, 1), (36, .ireturn, 1)] := ab_da (by decide +kernel)
theorem ab_s134_0 : ab_Sn B 134 0 (ab_o_const 0 1) := ab_s_iconst (n := 0) ab_dk134_0.1 rfl
theorem ab_s134_1 : ab_Sn B 134 1 (ab_o_ist 2 2) := ab_s_istore_n (k := 2) (n := 2) ab_dk134_0.2.1 rfl
theorem ab_s134_2 : ab_Sn B 134 2 (ab_o_const 0 3) := ab_s_iconst (n := 0) ab_dk134_0.2.2.1 rfl
theorem ab_s134_3 : ab_Sn B 134 3 (ab_o_ist 3 4) := ab_s_istore_n (k := 3) (n := 3) ab_dk134_0.2.2.2.1 rfl
theorem ab_s134_4 : ab_Sn B 134 4 (ab_o_ild 3 5) := ab_s_iload_n (k := 3) (n := 3) ab_dk134_0.2.2.2.2.1 rfl
theorem ab_s134_5 : ab_Sn B 134 5 (ab_o_ald 0 6) := ab_s_aload_n (k := 0) (n := 0) ab_dk134_0.2.2.2.2.2.1 rfl
theorem ab_s134_6 : ab_Sn B 134 6 (ab_o_geti 8 22 1 9) := ab_s_geti (i := 43) (ci := 4) (N := 22) (k := 1) (C := RX4) (T := TX4) ab_dk134_0.2.2.2.2.2.2.1 rfl (by decide) rfl wf_461
theorem ab_s134_9 : ab_Sn B 134 9 (ab_o_icmp ab_ge 35 12) := ab_s_icmp_ge (tg := 35) (off := 26) ab_dk134_0.2.2.2.2.2.2.2.1 (by decide)
theorem ab_s134_12 : ab_Sn B 134 12 (ab_o_ild 2 13) := ab_s_iload_n (k := 2) (n := 2) ab_dk134_0.2.2.2.2.2.2.2.2.1 rfl
theorem ab_s134_13 : ab_Sn B 134 13 (ab_o_ald 1 14) := ab_s_aload_n (k := 1) (n := 1) ab_dk134_0.2.2.2.2.2.2.2.2.2.1 rfl
theorem ab_s134_14 : ab_Sn B 134 14 (ab_o_ild 3 15) := ab_s_iload_n (k := 3) (n := 3) ab_dk134_0.2.2.2.2.2.2.2.2.2.2.1 rfl
theorem ab_s134_15 : ab_Sn B 134 15 (ab_o_xld 0 16) := ab_s_iaload ab_dk134_0.2.2.2.2.2.2.2.2.2.2.2.1
theorem ab_s134_16 : ab_Sn B 134 16 (ab_o_ald 0 17) := ab_s_aload_n (k := 0) (n := 0) ab_dk134_0.2.2.2.2.2.2.2.2.2.2.2.2.1 rfl
theorem ab_s134_17 : ab_Sn B 134 17 (ab_o_getr 8 22 21 20) := ab_s_getr (i := 33) (ci := 4) (N := 22) (k := 21) (C := RX4) (T := TX4) ab_dk134_0.2.2.2.2.2.2.2.2.2.2.2.2.2.1 rfl (by decide) rfl wf_454
theorem ab_s134_20 : ab_Sn B 134 20 (ab_o_ild 3 21) := ab_s_iload_n (k := 3) (n := 3) ab_dk134_0.2.2.2.2.2.2.2.2.2.2.2.2.2.2.1 rfl
theorem ab_s134_21 : ab_Sn B 134 21 (ab_o_aald 22) := ab_s_aald ab_dk134_0.2.2.2.2.2.2.2.2.2.2.2.2.2.2.2.1
theorem ab_s134_22 : ab_Sn B 134 22 (ab_o_const 1 23) := ab_s_iconst (n := 1) ab_dk134_1.1 rfl
theorem ab_s134_23 : ab_Sn B 134 23 (ab_o_xld 0 24) := ab_s_iaload ab_dk134_1.2.1
theorem ab_s134_24 : ab_Sn B 134 24 (ab_o_bin (fun a b => a + b) 25) := ab_s_iadd ab_dk134_1.2.2.1
theorem ab_s134_25 : ab_Sn B 134 25 (ab_o_mx (fun a b => if a < b then b else a) 28) := ab_s_max (i := 155) ab_dk134_1.2.2.2.1 wf_560 wf_138 wf_139 wf_140
theorem ab_s134_28 : ab_Sn B 134 28 (ab_o_ist 2 29) := ab_s_istore_n (k := 2) (n := 2) ab_dk134_1.2.2.2.2.1 rfl
theorem ab_s134_29 : ab_Sn B 134 29 (ab_o_inc 3 1 32) := ab_s_iinc (k := 3) (n := 1) ab_dk134_1.2.2.2.2.2.1
theorem ab_s134_32 : ab_Sn B 134 32 (ab_o_goto 4) := ab_s_goto (tg := 4) (off := -28) ab_dk134_1.2.2.2.2.2.2.1 (by decide)
theorem ab_s134_35 : ab_Sn B 134 35 (ab_o_ild 2 36) := ab_s_iload_n (k := 2) (n := 2) ab_dk134_1.2.2.2.2.2.2.2.1 rfl
theorem ab_s134_36 : ab_Sn B 134 36 (ab_o_iret false) := ab_s_iret (b := false) (ty := .int) ab_dk134_1.2.2.2.2.2.2.2.2.1 rfl (Or.inl ⟨rfl, rfl⟩)
set_option maxRecDepth 20000 in
theorem ab_sn134 : ab_all B 134 0 (ab_c134) := ⟨ab_s134_0, ab_s134_1, ab_s134_2, ab_s134_3, ab_s134_4, ab_s134_5, ab_s134_6, trivial, trivial, ab_s134_9, trivial, trivial, ab_s134_12, ab_s134_13, ab_s134_14, ab_s134_15, ab_s134_16, ab_s134_17, trivial, trivial, ab_s134_20, ab_s134_21, ab_s134_22, ab_s134_23, ab_s134_24, ab_s134_25, trivial, trivial, ab_s134_28, ab_s134_29, trivial, trivial, ab_s134_32, trivial, trivial, ab_s134_35, ab_s134_36, trivial⟩
theorem ab_dk135_0 : ab_dp 135 [(0, .iload_n 0, 1), (1, .newarray .int, 2), (3, .astore_n 1, 1), (4, .iconst 0, 1), (5, .istore_n 2, 1), (6, .iload_n 2, 1), (7, .iload_n 0, 1), (8, .if_icmp .ge 13, 3), (11, .aload_n 1, 1), (12, .iload_n 2, 1), (13, .iconst (-1), 1), (14, .iastore, 1), (15, .iinc 2 1, 3), (18, .goto (-12), 3), (21, .aload_n 1, 1), (22, .areturn, 1)] := ab_da (by decide +kernel)
theorem ab_s135_0 : ab_Sn B 135 0 (ab_o_ild 0 1) := ab_s_iload_n (k := 0) (n := 0) ab_dk135_0.1 rfl
theorem ab_s135_1 : ab_Sn B 135 1 (ab_o_newa 0 3) := ab_s_newa0 ab_dk135_0.2.1 wf_3
theorem ab_s135_3 : ab_Sn B 135 3 (ab_o_ast 1 4) := ab_s_astore_n (k := 1) (n := 1) ab_dk135_0.2.2.1 rfl
theorem ab_s135_4 : ab_Sn B 135 4 (ab_o_const 0 5) := ab_s_iconst (n := 0) ab_dk135_0.2.2.2.1 rfl
theorem ab_s135_5 : ab_Sn B 135 5 (ab_o_ist 2 6) := ab_s_istore_n (k := 2) (n := 2) ab_dk135_0.2.2.2.2.1 rfl
theorem ab_s135_6 : ab_Sn B 135 6 (ab_o_ild 2 7) := ab_s_iload_n (k := 2) (n := 2) ab_dk135_0.2.2.2.2.2.1 rfl
theorem ab_s135_7 : ab_Sn B 135 7 (ab_o_ild 0 8) := ab_s_iload_n (k := 0) (n := 0) ab_dk135_0.2.2.2.2.2.2.1 rfl
theorem ab_s135_8 : ab_Sn B 135 8 (ab_o_icmp ab_ge 21 11) := ab_s_icmp_ge (tg := 21) (off := 13) ab_dk135_0.2.2.2.2.2.2.2.1 (by decide)
theorem ab_s135_11 : ab_Sn B 135 11 (ab_o_ald 1 12) := ab_s_aload_n (k := 1) (n := 1) ab_dk135_0.2.2.2.2.2.2.2.2.1 rfl
theorem ab_s135_12 : ab_Sn B 135 12 (ab_o_ild 2 13) := ab_s_iload_n (k := 2) (n := 2) ab_dk135_0.2.2.2.2.2.2.2.2.2.1 rfl
theorem ab_s135_13 : ab_Sn B 135 13 (ab_o_const (-1) 14) := ab_s_iconst (n := (-1)) ab_dk135_0.2.2.2.2.2.2.2.2.2.2.1 rfl
theorem ab_s135_14 : ab_Sn B 135 14 (ab_o_xst 0 15) := ab_s_iastore ab_dk135_0.2.2.2.2.2.2.2.2.2.2.2.1
theorem ab_s135_15 : ab_Sn B 135 15 (ab_o_inc 2 1 18) := ab_s_iinc (k := 2) (n := 1) ab_dk135_0.2.2.2.2.2.2.2.2.2.2.2.2.1
theorem ab_s135_18 : ab_Sn B 135 18 (ab_o_goto 6) := ab_s_goto (tg := 6) (off := -12) ab_dk135_0.2.2.2.2.2.2.2.2.2.2.2.2.2.1 (by decide)
theorem ab_s135_21 : ab_Sn B 135 21 (ab_o_ald 1 22) := ab_s_aload_n (k := 1) (n := 1) ab_dk135_0.2.2.2.2.2.2.2.2.2.2.2.2.2.2.1 rfl
theorem ab_s135_22 : ab_Sn B 135 22 (ab_o_aret) := ab_s_aret (ty := (.array .int)) ab_dk135_0.2.2.2.2.2.2.2.2.2.2.2.2.2.2.2.1 rfl (Or.inr ⟨_, rfl⟩)
set_option maxRecDepth 20000 in
theorem ab_sn135 : ab_all B 135 0 (ab_c135) := ⟨ab_s135_0, ab_s135_1, trivial, ab_s135_3, ab_s135_4, ab_s135_5, ab_s135_6, ab_s135_7, ab_s135_8, trivial, trivial, ab_s135_11, ab_s135_12, ab_s135_13, ab_s135_14, ab_s135_15, trivial, trivial, ab_s135_18, trivial, trivial, ab_s135_21, ab_s135_22, trivial⟩
theorem ab_dk136_0 : ab_dp 136 [(0, .iload_n 3, 1), (1, .aload_n 0, 1), (2, .getfield 43, 3), (5, .if_icmp .ne 28, 3), (8, .iconst 2, 1), (9, .anewarray 32, 3), (12, .dup, 1), (13, .iconst 0, 1), (14, .aload_n 1, 1), (15, .invokevirtual 160, 3), (18, .checkcast 32, 3), (21, .aastore, 1), (22, .dup, 1), (23, .iconst 1, 1), (24, .aload_n 2, 1), (25, .invokevirtual 160, 3)] := ab_da (by decide +kernel)
theorem ab_dk136_1 : ab_dp 136 [(28, .checkcast 32, 3), (31, .aastore, 1), (32, .areturn, 1), (33, .aconst_null, 1), (34, .astore 5, 2), (36, .iconst 0, 1), (37, .istore 6, 2), (39, .iload 6, 2), (41, .aload_n 0, 1), (42, .getfield 43, 3), (45, .if_icmp .ge 124, 3), (48, .aload_n 1, 1), (49, .iload 6, 2), (51, .iaload, 1), (52, .iconst (-1), 1), (53, .if_icmp .eq 6, 3)] := ab_da (by decide +kernel)
theorem ab_dk136_2 : ab_dp 136 [(56, .goto 107, 3), (59, .iload 4, 2), (61, .istore 7, 2), (63, .aload_n 1, 1), (64, .iload 6, 2), (66, .iload 7, 2), (68, .iastore, 1), (69, .iload 7, 2), (71, .bipush 60, 2), (73, .if_icmp .gt 23, 3), (76, .aload_n 0, 1), (77, .aload_n 1, 1), (78, .invokevirtual 164, 3), (81, .ifCond .eq 15, 3), (84, .iinc 7 1, 3), (87, .aload_n 1, 1)] := ab_da (by decide +kernel)
theorem ab_dk136_3 : ab_dp 136 [(88, .iload 6, 2), (90, .iload 7, 2), (92, .iastore, 1), (93, .goto (-24), 3), (96, .aload_n 2, 1), (97, .iload_n 3, 1), (98, .iload 6, 2), (100, .iastore, 1), (101, .iload 7, 2), (103, .bipush 60, 2), (105, .if_icmp .le 7, 3), (108, .aconst_null, 1), (109, .goto 14, 3), (112, .aload_n 0, 1), (113, .aload_n 1, 1), (114, .aload_n 2, 1)] := ab_da (by decide +kernel)
theorem ab_dk136_4 : ab_dp 136 [(115, .iload_n 3, 1), (116, .iconst 1, 1), (117, .iadd, 1), (118, .iload 7, 2), (120, .invokevirtual 168, 3), (123, .astore 8, 2), (125, .aload_n 1, 1), (126, .iload 6, 2), (128, .iconst (-1), 1), (129, .iastore, 1), (130, .aload 8, 2), (132, .ifnull 31, 3), (135, .aload 5, 2), (137, .ifnull 22, 3), (140, .aload_n 0, 1), (141, .aload 8, 2)] := ab_da (by decide +kernel)
theorem ab_dk136_5 : ab_dp 136 [(143, .iconst 0, 1), (144, .aaload, 1), (145, .invokevirtual 172, 3), (148, .aload_n 0, 1), (149, .aload 5, 2), (151, .iconst 0, 1), (152, .aaload, 1), (153, .invokevirtual 172, 3), (156, .if_icmp .ge 7, 3), (159, .aload 8, 2), (161, .astore 5, 2), (163, .iinc 6 1, 3), (166, .goto (-127), 3), (169, .aload 5, 2), (171, .areturn, 1)] := ab_da (by decide +kernel)
theorem ab_s136_0 : ab_Sn B 136 0 (ab_o_ild 3 1) := ab_s_iload_n (k := 3) (n := 3) ab_dk136_0.1 rfl
theorem ab_s136_1 : ab_Sn B 136 1 (ab_o_ald 0 2) := ab_s_aload_n (k := 0) (n := 0) ab_dk136_0.2.1 rfl
theorem ab_s136_2 : ab_Sn B 136 2 (ab_o_geti 8 22 1 5) := ab_s_geti (i := 43) (ci := 4) (N := 22) (k := 1) (C := RX4) (T := TX4) ab_dk136_0.2.2.1 rfl (by decide) rfl wf_461
theorem ab_s136_5 : ab_Sn B 136 5 (ab_o_icmp ab_ne 33 8) := ab_s_icmp_ne (tg := 33) (off := 28) ab_dk136_0.2.2.2.1 (by decide)
theorem ab_s136_8 : ab_Sn B 136 8 (ab_o_const 2 9) := ab_s_iconst (n := 2) ab_dk136_0.2.2.2.2.1 rfl
theorem ab_s136_9 : ab_Sn B 136 9 (ab_o_newq 12) := ab_s_newq (i := 32) ab_dk136_0.2.2.2.2.2.1 wf_453
theorem ab_s136_12 : ab_Sn B 136 12 (ab_o_dup 13) := ab_s_dup ab_dk136_0.2.2.2.2.2.2.1
theorem ab_s136_13 : ab_Sn B 136 13 (ab_o_const 0 14) := ab_s_iconst (n := 0) ab_dk136_0.2.2.2.2.2.2.2.1 rfl
theorem ab_s136_14 : ab_Sn B 136 14 (ab_o_ald 1 15) := ab_s_aload_n (k := 1) (n := 1) ab_dk136_0.2.2.2.2.2.2.2.2.1 rfl
theorem ab_s136_15 : ab_Sn B 136 15 (ab_o_clone 18) := ab_s_clone (i := 160) ab_dk136_0.2.2.2.2.2.2.2.2.2.1 wf_561 wf_562 wf_563 wf_564 wf_565 wf_566
theorem ab_s136_18 : ab_Sn B 136 18 (ab_o_cast 21) := ab_s_cast (i := 32) ab_dk136_0.2.2.2.2.2.2.2.2.2.2.1 wf_453
theorem ab_s136_21 : ab_Sn B 136 21 (ab_o_aast 22) := ab_s_aast ab_dk136_0.2.2.2.2.2.2.2.2.2.2.2.1
theorem ab_s136_22 : ab_Sn B 136 22 (ab_o_dup 23) := ab_s_dup ab_dk136_0.2.2.2.2.2.2.2.2.2.2.2.2.1
theorem ab_s136_23 : ab_Sn B 136 23 (ab_o_const 1 24) := ab_s_iconst (n := 1) ab_dk136_0.2.2.2.2.2.2.2.2.2.2.2.2.2.1 rfl
theorem ab_s136_24 : ab_Sn B 136 24 (ab_o_ald 2 25) := ab_s_aload_n (k := 2) (n := 2) ab_dk136_0.2.2.2.2.2.2.2.2.2.2.2.2.2.2.1 rfl
theorem ab_s136_25 : ab_Sn B 136 25 (ab_o_clone 28) := ab_s_clone (i := 160) ab_dk136_0.2.2.2.2.2.2.2.2.2.2.2.2.2.2.2.1 wf_561 wf_562 wf_563 wf_564 wf_565 wf_566
theorem ab_s136_28 : ab_Sn B 136 28 (ab_o_cast 31) := ab_s_cast (i := 32) ab_dk136_1.1 wf_453
theorem ab_s136_31 : ab_Sn B 136 31 (ab_o_aast 32) := ab_s_aast ab_dk136_1.2.1
theorem ab_s136_32 : ab_Sn B 136 32 (ab_o_aret) := ab_s_aret (ty := (.array (.array .int))) ab_dk136_1.2.2.1 rfl (Or.inr ⟨_, rfl⟩)
theorem ab_s136_33 : ab_Sn B 136 33 (ab_o_null 34) := ab_s_null ab_dk136_1.2.2.2.1
theorem ab_s136_34 : ab_Sn B 136 34 (ab_o_ast 5 36) := ab_s_astore (k := 5) ab_dk136_1.2.2.2.2.1
theorem ab_s136_36 : ab_Sn B 136 36 (ab_o_const 0 37) := ab_s_iconst (n := 0) ab_dk136_1.2.2.2.2.2.1 rfl
theorem ab_s136_37 : ab_Sn B 136 37 (ab_o_ist 6 39) := ab_s_istore (k := 6) ab_dk136_1.2.2.2.2.2.2.1
theorem ab_s136_39 : ab_Sn B 136 39 (ab_o_ild 6 41) := ab_s_iload (k := 6) ab_dk136_1.2.2.2.2.2.2.2.1
theorem ab_s136_41 : ab_Sn B 136 41 (ab_o_ald 0 42) := ab_s_aload_n (k := 0) (n := 0) ab_dk136_1.2.2.2.2.2.2.2.2.1 rfl
theorem ab_s136_42 : ab_Sn B 136 42 (ab_o_geti 8 22 1 45) := ab_s_geti (i := 43) (ci := 4) (N := 22) (k := 1) (C := RX4) (T := TX4) ab_dk136_1.2.2.2.2.2.2.2.2.2.1 rfl (by decide) rfl wf_461
theorem ab_s136_45 : ab_Sn B 136 45 (ab_o_icmp ab_ge 169 48) := ab_s_icmp_ge (tg := 169) (off := 124) ab_dk136_1.2.2.2.2.2.2.2.2.2.2.1 (by decide)
theorem ab_s136_48 : ab_Sn B 136 48 (ab_o_ald 1 49) := ab_s_aload_n (k := 1) (n := 1) ab_dk136_1.2.2.2.2.2.2.2.2.2.2.2.1 rfl
theorem ab_s136_49 : ab_Sn B 136 49 (ab_o_ild 6 51) := ab_s_iload (k := 6) ab_dk136_1.2.2.2.2.2.2.2.2.2.2.2.2.1
theorem ab_s136_51 : ab_Sn B 136 51 (ab_o_xld 0 52) := ab_s_iaload ab_dk136_1.2.2.2.2.2.2.2.2.2.2.2.2.2.1
theorem ab_s136_52 : ab_Sn B 136 52 (ab_o_const (-1) 53) := ab_s_iconst (n := (-1)) ab_dk136_1.2.2.2.2.2.2.2.2.2.2.2.2.2.2.1 rfl
theorem ab_s136_53 : ab_Sn B 136 53 (ab_o_icmp ab_eq 59 56) := ab_s_icmp_eq (tg := 59) (off := 6) ab_dk136_1.2.2.2.2.2.2.2.2.2.2.2.2.2.2.2.1 (by decide)
theorem ab_s136_56 : ab_Sn B 136 56 (ab_o_goto 163) := ab_s_goto (tg := 163) (off := 107) ab_dk136_2.1 (by decide)
theorem ab_s136_59 : ab_Sn B 136 59 (ab_o_ild 4 61) := ab_s_iload (k := 4) ab_dk136_2.2.1
theorem ab_s136_61 : ab_Sn B 136 61 (ab_o_ist 7 63) := ab_s_istore (k := 7) ab_dk136_2.2.2.1
theorem ab_s136_63 : ab_Sn B 136 63 (ab_o_ald 1 64) := ab_s_aload_n (k := 1) (n := 1) ab_dk136_2.2.2.2.1 rfl
theorem ab_s136_64 : ab_Sn B 136 64 (ab_o_ild 6 66) := ab_s_iload (k := 6) ab_dk136_2.2.2.2.2.1
theorem ab_s136_66 : ab_Sn B 136 66 (ab_o_ild 7 68) := ab_s_iload (k := 7) ab_dk136_2.2.2.2.2.2.1
theorem ab_s136_68 : ab_Sn B 136 68 (ab_o_xst 0 69) := ab_s_iastore ab_dk136_2.2.2.2.2.2.2.1
theorem ab_s136_69 : ab_Sn B 136 69 (ab_o_ild 7 71) := ab_s_iload (k := 7) ab_dk136_2.2.2.2.2.2.2.2.1
theorem ab_s136_71 : ab_Sn B 136 71 (ab_o_const 60 73) := ab_s_bipush (n := 60) ab_dk136_2.2.2.2.2.2.2.2.2.1 (by decide)
theorem ab_s136_73 : ab_Sn B 136 73 (ab_o_icmp ab_gt 96 76) := ab_s_icmp_gt (tg := 96) (off := 23) ab_dk136_2.2.2.2.2.2.2.2.2.2.1 (by decide)
theorem ab_s136_76 : ab_Sn B 136 76 (ab_o_ald 0 77) := ab_s_aload_n (k := 0) (n := 0) ab_dk136_2.2.2.2.2.2.2.2.2.2.2.1 rfl
theorem ab_s136_77 : ab_Sn B 136 77 (ab_o_ald 1 78) := ab_s_aload_n (k := 1) (n := 1) ab_dk136_2.2.2.2.2.2.2.2.2.2.2.2.1 rfl
theorem ab_s136_78 : ab_Sn B 136 78 (ab_o_call (some (8, 22)) [] 133 6 2 true 81) := ab_s_callV (M' := 133) (na := 1) (i := 164) (ci := 4) (N := 22) (C := RX4) (T := TX4) (v := true) (ab_hok_n (by decide +kernel)) (by decide +kernel) ab_dk136_2.2.2.2.2.2.2.2.2.2.2.2.2.1 rfl (by decide) (by decide +kernel) (by decide +kernel) (by decide) wf_567 wf_568 wf_569 wf_570 wf_459
theorem ab_s136_81 : ab_Sn B 136 81 (ab_o_if ab_eq 96 84) := ab_s_if_eq (tg := 96) (off := 15) ab_dk136_2.2.2.2.2.2.2.2.2.2.2.2.2.2.1 (by decide)
theorem ab_s136_84 : ab_Sn B 136 84 (ab_o_inc 7 1 87) := ab_s_iinc (k := 7) (n := 1) ab_dk136_2.2.2.2.2.2.2.2.2.2.2.2.2.2.2.1
theorem ab_s136_87 : ab_Sn B 136 87 (ab_o_ald 1 88) := ab_s_aload_n (k := 1) (n := 1) ab_dk136_2.2.2.2.2.2.2.2.2.2.2.2.2.2.2.2.1 rfl
theorem ab_s136_88 : ab_Sn B 136 88 (ab_o_ild 6 90) := ab_s_iload (k := 6) ab_dk136_3.1
theorem ab_s136_90 : ab_Sn B 136 90 (ab_o_ild 7 92) := ab_s_iload (k := 7) ab_dk136_3.2.1
theorem ab_s136_92 : ab_Sn B 136 92 (ab_o_xst 0 93) := ab_s_iastore ab_dk136_3.2.2.1
theorem ab_s136_93 : ab_Sn B 136 93 (ab_o_goto 69) := ab_s_goto (tg := 69) (off := -24) ab_dk136_3.2.2.2.1 (by decide)
theorem ab_s136_96 : ab_Sn B 136 96 (ab_o_ald 2 97) := ab_s_aload_n (k := 2) (n := 2) ab_dk136_3.2.2.2.2.1 rfl
theorem ab_s136_97 : ab_Sn B 136 97 (ab_o_ild 3 98) := ab_s_iload_n (k := 3) (n := 3) ab_dk136_3.2.2.2.2.2.1 rfl
theorem ab_s136_98 : ab_Sn B 136 98 (ab_o_ild 6 100) := ab_s_iload (k := 6) ab_dk136_3.2.2.2.2.2.2.1
theorem ab_s136_100 : ab_Sn B 136 100 (ab_o_xst 0 101) := ab_s_iastore ab_dk136_3.2.2.2.2.2.2.2.1
theorem ab_s136_101 : ab_Sn B 136 101 (ab_o_ild 7 103) := ab_s_iload (k := 7) ab_dk136_3.2.2.2.2.2.2.2.2.1
theorem ab_s136_103 : ab_Sn B 136 103 (ab_o_const 60 105) := ab_s_bipush (n := 60) ab_dk136_3.2.2.2.2.2.2.2.2.2.1 (by decide)
theorem ab_s136_105 : ab_Sn B 136 105 (ab_o_icmp ab_le 112 108) := ab_s_icmp_le (tg := 112) (off := 7) ab_dk136_3.2.2.2.2.2.2.2.2.2.2.1 (by decide)
theorem ab_s136_108 : ab_Sn B 136 108 (ab_o_null 109) := ab_s_null ab_dk136_3.2.2.2.2.2.2.2.2.2.2.2.1
theorem ab_s136_109 : ab_Sn B 136 109 (ab_o_goto 123) := ab_s_goto (tg := 123) (off := 14) ab_dk136_3.2.2.2.2.2.2.2.2.2.2.2.2.1 (by decide)
theorem ab_s136_112 : ab_Sn B 136 112 (ab_o_ald 0 113) := ab_s_aload_n (k := 0) (n := 0) ab_dk136_3.2.2.2.2.2.2.2.2.2.2.2.2.2.1 rfl
theorem ab_s136_113 : ab_Sn B 136 113 (ab_o_ald 1 114) := ab_s_aload_n (k := 1) (n := 1) ab_dk136_3.2.2.2.2.2.2.2.2.2.2.2.2.2.2.1 rfl
theorem ab_s136_114 : ab_Sn B 136 114 (ab_o_ald 2 115) := ab_s_aload_n (k := 2) (n := 2) ab_dk136_3.2.2.2.2.2.2.2.2.2.2.2.2.2.2.2.1 rfl
theorem ab_s136_115 : ab_Sn B 136 115 (ab_o_ild 3 116) := ab_s_iload_n (k := 3) (n := 3) ab_dk136_4.1 rfl
theorem ab_s136_116 : ab_Sn B 136 116 (ab_o_const 1 117) := ab_s_iconst (n := 1) ab_dk136_4.2.1 rfl
theorem ab_s136_117 : ab_Sn B 136 117 (ab_o_bin (fun a b => a + b) 118) := ab_s_iadd ab_dk136_4.2.2.1
theorem ab_s136_118 : ab_Sn B 136 118 (ab_o_ild 7 120) := ab_s_iload (k := 7) ab_dk136_4.2.2.2.1
theorem ab_s136_120 : ab_Sn B 136 120 (ab_o_call (some (8, 22)) [] 136 9 5 true 123) := ab_s_callV (M' := 136) (na := 4) (i := 168) (ci := 4) (N := 22) (C := RX4) (T := TX4) (v := true) (ab_hok_n (by decide +kernel)) (by decide +kernel) ab_dk136_4.2.2.2.2.1 rfl (by decide) (by decide +kernel) (by decide +kernel) (by decide) wf_571 wf_572 wf_573 wf_574 wf_459
theorem ab_s136_123 : ab_Sn B 136 123 (ab_o_ast 8 125) := ab_s_astore (k := 8) ab_dk136_4.2.2.2.2.2.1
theorem ab_s136_125 : ab_Sn B 136 125 (ab_o_ald 1 126) := ab_s_aload_n (k := 1) (n := 1) ab_dk136_4.2.2.2.2.2.2.1 rfl
theorem ab_s136_126 : ab_Sn B 136 126 (ab_o_ild 6 128) := ab_s_iload (k := 6) ab_dk136_4.2.2.2.2.2.2.2.1
theorem ab_s136_128 : ab_Sn B 136 128 (ab_o_const (-1) 129) := ab_s_iconst (n := (-1)) ab_dk136_4.2.2.2.2.2.2.2.2.1 rfl
theorem ab_s136_129 : ab_Sn B 136 129 (ab_o_xst 0 130) := ab_s_iastore ab_dk136_4.2.2.2.2.2.2.2.2.2.1
theorem ab_s136_130 : ab_Sn B 136 130 (ab_o_ald 8 132) := ab_s_aload (k := 8) ab_dk136_4.2.2.2.2.2.2.2.2.2.2.1
theorem ab_s136_132 : ab_Sn B 136 132 (ab_o_ifn true 163 135) := ab_s_ifnull (tg := 163) (off := 31) ab_dk136_4.2.2.2.2.2.2.2.2.2.2.2.1 (by decide)
theorem ab_s136_135 : ab_Sn B 136 135 (ab_o_ald 5 137) := ab_s_aload (k := 5) ab_dk136_4.2.2.2.2.2.2.2.2.2.2.2.2.1
theorem ab_s136_137 : ab_Sn B 136 137 (ab_o_ifn true 159 140) := ab_s_ifnull (tg := 159) (off := 22) ab_dk136_4.2.2.2.2.2.2.2.2.2.2.2.2.2.1 (by decide)
theorem ab_s136_140 : ab_Sn B 136 140 (ab_o_ald 0 141) := ab_s_aload_n (k := 0) (n := 0) ab_dk136_4.2.2.2.2.2.2.2.2.2.2.2.2.2.2.1 rfl
theorem ab_s136_141 : ab_Sn B 136 141 (ab_o_ald 8 143) := ab_s_aload (k := 8) ab_dk136_4.2.2.2.2.2.2.2.2.2.2.2.2.2.2.2.1
theorem ab_s136_143 : ab_Sn B 136 143 (ab_o_const 0 144) := ab_s_iconst (n := 0) ab_dk136_5.1 rfl
theorem ab_s136_144 : ab_Sn B 136 144 (ab_o_aald 145) := ab_s_aald ab_dk136_5.2.1
theorem ab_s136_145 : ab_Sn B 136 145 (ab_o_call (some (8, 22)) [] 134 4 2 true 148) := ab_s_callV (M' := 134) (na := 1) (i := 172) (ci := 4) (N := 22) (C := RX4) (T := TX4) (v := true) (ab_hok_n (by decide +kernel)) (by decide +kernel) ab_dk136_5.2.2.1 rfl (by decide) (by decide +kernel) (by decide +kernel) (by decide) wf_575 wf_576 wf_577 wf_578 wf_459
theorem ab_s136_148 : ab_Sn B 136 148 (ab_o_ald 0 149) := ab_s_aload_n (k := 0) (n := 0) ab_dk136_5.2.2.2.1 rfl
theorem ab_s136_149 : ab_Sn B 136 149 (ab_o_ald 5 151) := ab_s_aload (k := 5) ab_dk136_5.2.2.2.2.1
theorem ab_s136_151 : ab_Sn B 136 151 (ab_o_const 0 152) := ab_s_iconst (n := 0) ab_dk136_5.2.2.2.2.2.1 rfl
theorem ab_s136_152 : ab_Sn B 136 152 (ab_o_aald 153) := ab_s_aald ab_dk136_5.2.2.2.2.2.2.1
theorem ab_s136_153 : ab_Sn B 136 153 (ab_o_call (some (8, 22)) [] 134 4 2 true 156) := ab_s_callV (M' := 134) (na := 1) (i := 172) (ci := 4) (N := 22) (C := RX4) (T := TX4) (v := true) (ab_hok_n (by decide +kernel)) (by decide +kernel) ab_dk136_5.2.2.2.2.2.2.2.1 rfl (by decide) (by decide +kernel) (by decide +kernel) (by decide) wf_575 wf_576 wf_577 wf_578 wf_459
theorem ab_s136_156 : ab_Sn B 136 156 (ab_o_icmp ab_ge 163 159) := ab_s_icmp_ge (tg := 163) (off := 7) ab_dk136_5.2.2.2.2.2.2.2.2.1 (by decide)
theorem ab_s136_159 : ab_Sn B 136 159 (ab_o_ald 8 161) := ab_s_aload (k := 8) ab_dk136_5.2.2.2.2.2.2.2.2.2.1
theorem ab_s136_161 : ab_Sn B 136 161 (ab_o_ast 5 163) := ab_s_astore (k := 5) ab_dk136_5.2.2.2.2.2.2.2.2.2.2.1
theorem ab_s136_163 : ab_Sn B 136 163 (ab_o_inc 6 1 166) := ab_s_iinc (k := 6) (n := 1) ab_dk136_5.2.2.2.2.2.2.2.2.2.2.2.1
theorem ab_s136_166 : ab_Sn B 136 166 (ab_o_goto 39) := ab_s_goto (tg := 39) (off := -127) ab_dk136_5.2.2.2.2.2.2.2.2.2.2.2.2.1 (by decide)
theorem ab_s136_169 : ab_Sn B 136 169 (ab_o_ald 5 171) := ab_s_aload (k := 5) ab_dk136_5.2.2.2.2.2.2.2.2.2.2.2.2.2.1
theorem ab_s136_171 : ab_Sn B 136 171 (ab_o_aret) := ab_s_aret (ty := (.array (.array .int))) ab_dk136_5.2.2.2.2.2.2.2.2.2.2.2.2.2.2.1 rfl (Or.inr ⟨_, rfl⟩)
theorem ab_sc136_2 : ab_all B 136 128 (ab_d136_2) := ⟨ab_s136_128, ab_s136_129, ab_s136_130, trivial, ab_s136_132, trivial, trivial, ab_s136_135, trivial, ab_s136_137, trivial, trivial, ab_s136_140, ab_s136_141, trivial, ab_s136_143, ab_s136_144, ab_s136_145, trivial, trivial, ab_s136_148, ab_s136_149, trivial, ab_s136_151, ab_s136_152, ab_s136_153, trivial, trivial, ab_s136_156, trivial, trivial, ab_s136_159, trivial, ab_s136_161, trivial, ab_s136_163, trivial, trivial, ab_s136_166, trivial, trivial, ab_s136_169, trivial, ab_s136_171, trivial⟩
theorem ab_sc136_1 : ab_all B 136 64 (ab_d136_1) := ⟨ab_s136_64, trivial, ab_s136_66, trivial, ab_s136_68, ab_s136_69, trivial, ab_s136_71, trivial, ab_s136_73, trivial, trivial, ab_s136_76, ab_s136_77, ab_s136_78, trivial, trivial, ab_s136_81, trivial, trivial, ab_s136_84, trivial, trivial, ab_s136_87, ab_s136_88, trivial, ab_s136_90, trivial, ab_s136_92, ab_s136_93, trivial, trivial, ab_s136_96, ab_s136_97, ab_s136_98, trivial, ab_s136_100, ab_s136_101, trivial, ab_s136_103, trivial, ab_s136_105, trivial, trivial, ab_s136_108, ab_s136_109, trivial, trivial, ab_s136_112, ab_s136_113, ab_s136_114, ab_s136_115, ab_s136_116, ab_s136_117, ab_s136_118, trivial, ab_s136_120, trivial, trivial, ab_s136_123, trivial, ab_s136_125, ab_s136_126, trivial, ab_sc136_2⟩
theorem ab_sc136_0 : ab_all B 136 0 (ab_d136_0) := ⟨ab_s136_0, ab_s136_1, ab_s136_2, trivial, trivial, ab_s136_5, trivial, trivial, ab_s136_8, ab_s136_9, trivial, trivial, ab_s136_12, ab_s136_13, ab_s136_14, ab_s136_15, trivial, trivial, ab_s136_18, trivial, trivial, ab_s136_21, ab_s136_22, ab_s136_23, ab_s136_24, ab_s136_25, trivial, trivial, ab_s136_28, trivial, trivial, ab_s136_31, ab_s136_32, ab_s136_33, ab_s136_34, trivial, ab_s136_36, ab_s136_37, trivial, ab_s136_39, trivial, ab_s136_41, ab_s136_42, trivial, trivial, ab_s136_45, trivial, trivial, ab_s136_48, ab_s136_49, trivial, ab_s136_51, ab_s136_52, ab_s136_53, trivial, trivial, ab_s136_56, trivial, trivial, ab_s136_59, trivial, ab_s136_61, trivial, ab_s136_63, ab_sc136_1⟩
theorem ab_sn136 : ab_all B 136 0 (ab_c136) := by rw [ab_cd136]; exact ab_sc136_0
theorem ab_dk137_0 : ab_dp 137 [(0, .aload_n 0, 1), (1, .getfield 108, 3), (4, .ifCond .ne 37, 3), (7, .aload_n 0, 1), (8, .aload_n 0, 1), (9, .getfield 43, 3), (12, .ifCond .ne 7, 3), (15, .aconst_null, 1), (16, .goto 22, 3), (19, .aload_n 0, 1), (20, .aload_n 0, 1), (21, .getfield 43, 3), (24, .invokestatic 176, 3), (27, .aload_n 0, 1), (28, .getfield 43, 3), (31, .newarray .int, 2)] := ab_da (by decide +kernel)
theorem ab_dk137_1 : ab_dp 137 [(33, .iconst 0, 1), (34, .iconst 0, 1), (35, .invokevirtual 168, 3), (38, .putfield 180, 3), (41, .aload_n 0, 1), (42, .iconst 1, 1), (43, .putfield 108, 3), (46, .aload_n 0, 1), (47, .getfield 180, 3), (50, .areturn, 1)] := ab_da (by decide +kernel)
theorem ab_s137_0 : ab_Sn B 137 0 (ab_o_ald 0 1) := ab_s_aload_n (k := 0) (n := 0) ab_dk137_0.1 rfl
theorem ab_s137_1 : ab_Sn B 137 1 (ab_o_geti 8 22 11 4) := ab_s_geti (i := 108) (ci := 4) (N := 22) (k := 11) (C := RX4) (T := TX4) ab_dk137_0.2.1 rfl (by decide) rfl wf_518
theorem ab_s137_4 : ab_Sn B 137 4 (ab_o_if ab_ne 41 7) := ab_s_if_ne (tg := 41) (off := 37) ab_dk137_0.2.2.1 (by decide)
theorem ab_s137_7 : ab_Sn B 137 7 (ab_o_ald 0 8) := ab_s_aload_n (k := 0) (n := 0) ab_dk137_0.2.2.2.1 rfl
theorem ab_s137_8 : ab_Sn B 137 8 (ab_o_ald 0 9) := ab_s_aload_n (k := 0) (n := 0) ab_dk137_0.2.2.2.2.1 rfl
theorem ab_s137_9 : ab_Sn B 137 9 (ab_o_geti 8 22 1 12) := ab_s_geti (i := 43) (ci := 4) (N := 22) (k := 1) (C := RX4) (T := TX4) ab_dk137_0.2.2.2.2.2.1 rfl (by decide) rfl wf_461
theorem ab_s137_12 : ab_Sn B 137 12 (ab_o_if ab_ne 19 15) := ab_s_if_ne (tg := 19) (off := 7) ab_dk137_0.2.2.2.2.2.2.1 (by decide)
theorem ab_s137_15 : ab_Sn B 137 15 (ab_o_null 16) := ab_s_null ab_dk137_0.2.2.2.2.2.2.2.1
theorem ab_s137_16 : ab_Sn B 137 16 (ab_o_goto 38) := ab_s_goto (tg := 38) (off := 22) ab_dk137_0.2.2.2.2.2.2.2.2.1 (by decide)
theorem ab_s137_19 : ab_Sn B 137 19 (ab_o_ald 0 20) := ab_s_aload_n (k := 0) (n := 0) ab_dk137_0.2.2.2.2.2.2.2.2.2.1 rfl
theorem ab_s137_20 : ab_Sn B 137 20 (ab_o_ald 0 21) := ab_s_aload_n (k := 0) (n := 0) ab_dk137_0.2.2.2.2.2.2.2.2.2.2.1 rfl
theorem ab_s137_21 : ab_Sn B 137 21 (ab_o_geti 8 22 1 24) := ab_s_geti (i := 43) (ci := 4) (N := 22) (k := 1) (C := RX4) (T := TX4) ab_dk137_0.2.2.2.2.2.2.2.2.2.2.2.1 rfl (by decide) rfl wf_461
theorem ab_s137_24 : ab_Sn B 137 24 (ab_o_call none [] 135 3 1 true 27) := ab_s_callS (M' := 135) (na := 1) (i := 176) (v := true) (ab_hok_n (by decide +kernel)) (by decide +kernel) ab_dk137_0.2.2.2.2.2.2.2.2.2.2.2.2.1 (by decide +kernel) (by decide +kernel) (by decide) wf_579 wf_580 wf_581 wf_459
theorem ab_s137_27 : ab_Sn B 137 27 (ab_o_ald 0 28) := ab_s_aload_n (k := 0) (n := 0) ab_dk137_0.2.2.2.2.2.2.2.2.2.2.2.2.2.1 rfl
theorem ab_s137_28 : ab_Sn B 137 28 (ab_o_geti 8 22 1 31) := ab_s_geti (i := 43) (ci := 4) (N := 22) (k := 1) (C := RX4) (T := TX4) ab_dk137_0.2.2.2.2.2.2.2.2.2.2.2.2.2.2.1 rfl (by decide) rfl wf_461
theorem ab_s137_31 : ab_Sn B 137 31 (ab_o_newa 0 33) := ab_s_newa0 ab_dk137_0.2.2.2.2.2.2.2.2.2.2.2.2.2.2.2.1 wf_3
theorem ab_s137_33 : ab_Sn B 137 33 (ab_o_const 0 34) := ab_s_iconst (n := 0) ab_dk137_1.1 rfl
theorem ab_s137_34 : ab_Sn B 137 34 (ab_o_const 0 35) := ab_s_iconst (n := 0) ab_dk137_1.2.1 rfl
theorem ab_s137_35 : ab_Sn B 137 35 (ab_o_call (some (8, 22)) [] 136 9 5 true 38) := ab_s_callV (M' := 136) (na := 4) (i := 168) (ci := 4) (N := 22) (C := RX4) (T := TX4) (v := true) (ab_hok_n (by decide +kernel)) (by decide +kernel) ab_dk137_1.2.2.1 rfl (by decide) (by decide +kernel) (by decide +kernel) (by decide) wf_571 wf_572 wf_573 wf_574 wf_459
theorem ab_s137_38 : ab_Sn B 137 38 (ab_o_putr 8 22 10 41) := ab_s_putr (ty := .array (.array .int)) (i := 180) (ci := 4) (N := 22) (k := 10) (C := RX4) (T := TX4) ab_dk137_1.2.2.2.1 rfl (by decide) rfl wf_582 rfl (by decide +kernel) (Or.inr ⟨_, rfl⟩)
theorem ab_s137_41 : ab_Sn B 137 41 (ab_o_ald 0 42) := ab_s_aload_n (k := 0) (n := 0) ab_dk137_1.2.2.2.2.1 rfl
theorem ab_s137_42 : ab_Sn B 137 42 (ab_o_const 1 43) := ab_s_iconst (n := 1) ab_dk137_1.2.2.2.2.2.1 rfl
theorem ab_s137_43 : ab_Sn B 137 43 (ab_o_puti 8 22 11 true 46) := ab_s_puti (b := true) (ty := .boolean) (i := 108) (ci := 4) (N := 22) (k := 11) (C := RX4) (T := TX4) ab_dk137_1.2.2.2.2.2.2.1 rfl (by decide) rfl wf_518 rfl (by decide +kernel) (Or.inr (Or.inl ⟨rfl, rfl⟩))
theorem ab_s137_46 : ab_Sn B 137 46 (ab_o_ald 0 47) := ab_s_aload_n (k := 0) (n := 0) ab_dk137_1.2.2.2.2.2.2.2.1 rfl
theorem ab_s137_47 : ab_Sn B 137 47 (ab_o_getr 8 22 10 50) := ab_s_getr (i := 180) (ci := 4) (N := 22) (k := 10) (C := RX4) (T := TX4) ab_dk137_1.2.2.2.2.2.2.2.2.1 rfl (by decide) rfl wf_582
theorem ab_s137_50 : ab_Sn B 137 50 (ab_o_aret) := ab_s_aret (ty := (.array (.array .int))) ab_dk137_1.2.2.2.2.2.2.2.2.2.1 rfl (Or.inr ⟨_, rfl⟩)
set_option maxRecDepth 20000 in
theorem ab_sn137 : ab_all B 137 0 (ab_c137) := ⟨ab_s137_0, ab_s137_1, trivial, trivial, ab_s137_4, trivial, trivial, ab_s137_7, ab_s137_8, ab_s137_9, trivial, trivial, ab_s137_12, trivial, trivial, ab_s137_15, ab_s137_16, trivial, trivial, ab_s137_19, ab_s137_20, ab_s137_21, trivial, trivial, ab_s137_24, trivial, trivial, ab_s137_27, ab_s137_28, trivial, trivial, ab_s137_31, trivial, ab_s137_33, ab_s137_34, ab_s137_35, trivial, trivial, ab_s137_38, trivial, trivial, ab_s137_41, ab_s137_42, ab_s137_43, trivial, trivial, ab_s137_46, ab_s137_47, trivial, trivial, ab_s137_50, trivial⟩
theorem ab_dk138_0 : ab_dp 138 [(0, .aload_n 0, 1), (1, .iload_n 1, 1), (2, .iconst 0, 1), (3, .iconst 4, 1), (4, .invokestatic 46, 3), (7, .ifCond .ne 7, 3), (10, .iconst 1, 1), (11, .goto 4, 3), (14, .iconst 0, 1), (15, .iconst 1, 1), (16, .invokevirtual 105, 3), (19, .ifCond .ne 47, 3), (22, .aload_n 0, 1), (23, .iload_n 2, 1), (24, .iconst 1, 1), (25, .bipush 30, 2)] := ab_da (by decide +kernel)
theorem ab_dk138_1 : ab_dp 138 [(27, .invokestatic 46, 3), (30, .ifCond .eq 24, 3), (33, .iload_n 3, 1), (34, .iconst 1, 1), (35, .bipush 9, 2), (37, .invokestatic 46, 3), (40, .ifCond .eq 14, 3), (43, .iload 4, 2), (45, .iconst 0, 1), (46, .bipush 9, 2), (48, .invokestatic 46, 3), (51, .ifCond .ne 7, 3), (54, .iconst 1, 1), (55, .goto 4, 3), (58, .iconst 0, 1), (59, .iconst 2, 1)] := ab_da (by decide +kernel)
theorem ab_dk138_2 : ab_dp 138 [(60, .invokevirtual 39, 3), (63, .ifCond .eq 5, 3), (66, .iconst 0, 1), (67, .ireturn, 1), (68, .aload_n 0, 1), (69, .getfield 33, 3), (72, .iload_n 1, 1), (73, .aaload, 1), (74, .iconst 0, 1), (75, .iaload, 1), (76, .istore 5, 2), (78, .aload_n 0, 1), (79, .iconst 0, 1), (80, .putfield 108, 3), (83, .aload_n 0, 1), (84, .getfield 33, 3)] := ab_da (by decide +kernel)
theorem ab_dk138_3 : ab_dp 138 [(87, .iload_n 1, 1), (88, .aaload, 1), (89, .iconst 0, 1), (90, .iload_n 2, 1), (91, .iastore, 1), (92, .aload_n 0, 1), (93, .getfield 33, 3), (96, .iload_n 1, 1), (97, .aaload, 1), (98, .iconst 1, 1), (99, .iload_n 3, 1), (100, .iastore, 1), (101, .aload_n 0, 1), (102, .getfield 33, 3), (105, .iload_n 1, 1), (106, .aaload, 1)] := ab_da (by decide +kernel)
theorem ab_dk138_4 : ab_dp 138 [(107, .iconst 2, 1), (108, .iload 4, 2), (110, .iastore, 1), (111, .iload 5, 2), (113, .ireturn, 1)] := ab_da (by decide +kernel)
theorem ab_s138_0 : ab_Sn B 138 0 (ab_o_ald 0 1) := ab_s_aload_n (k := 0) (n := 0) ab_dk138_0.1 rfl
theorem ab_s138_1 : ab_Sn B 138 1 (ab_o_ild 1 2) := ab_s_iload_n (k := 1) (n := 1) ab_dk138_0.2.1 rfl
theorem ab_s138_2 : ab_Sn B 138 2 (ab_o_const 0 3) := ab_s_iconst (n := 0) ab_dk138_0.2.2.1 rfl
theorem ab_s138_3 : ab_Sn B 138 3 (ab_o_const 4 4) := ab_s_iconst (n := 4) ab_dk138_0.2.2.2.1 rfl
theorem ab_s138_4 : ab_Sn B 138 4 (ab_o_call none [] 100 3 3 true 7) := ab_s_callS (M' := 100) (na := 3) (i := 46) (v := true) (ab_hok_n (by decide +kernel)) (by decide +kernel) ab_dk138_0.2.2.2.2.1 (by decide +kernel) (by decide +kernel) (by decide) wf_462 wf_463 wf_464 wf_459
theorem ab_s138_7 : ab_Sn B 138 7 (ab_o_if ab_ne 14 10) := ab_s_if_ne (tg := 14) (off := 7) ab_dk138_0.2.2.2.2.2.1 (by decide)
theorem ab_s138_10 : ab_Sn B 138 10 (ab_o_const 1 11) := ab_s_iconst (n := 1) ab_dk138_0.2.2.2.2.2.2.1 rfl
theorem ab_s138_11 : ab_Sn B 138 11 (ab_o_goto 15) := ab_s_goto (tg := 15) (off := 4) ab_dk138_0.2.2.2.2.2.2.2.1 (by decide)
theorem ab_s138_14 : ab_Sn B 138 14 (ab_o_const 0 15) := ab_s_iconst (n := 0) ab_dk138_0.2.2.2.2.2.2.2.2.1 rfl
theorem ab_s138_15 : ab_Sn B 138 15 (ab_o_const 1 16) := ab_s_iconst (n := 1) ab_dk138_0.2.2.2.2.2.2.2.2.2.1 rfl
theorem ab_s138_16 : ab_Sn B 138 16 (ab_o_call (some (8, 22)) [] 102 3 3 true 19) := ab_s_callV (M' := 102) (na := 2) (i := 105) (ci := 4) (N := 22) (C := RX4) (T := TX4) (v := true) (ab_hok_n (by decide +kernel)) (by decide +kernel) ab_dk138_0.2.2.2.2.2.2.2.2.2.2.1 rfl (by decide) (by decide +kernel) (by decide +kernel) (by decide) wf_514 wf_515 wf_516 wf_517 wf_459
theorem ab_s138_19 : ab_Sn B 138 19 (ab_o_if ab_ne 66 22) := ab_s_if_ne (tg := 66) (off := 47) ab_dk138_0.2.2.2.2.2.2.2.2.2.2.2.1 (by decide)
theorem ab_s138_22 : ab_Sn B 138 22 (ab_o_ald 0 23) := ab_s_aload_n (k := 0) (n := 0) ab_dk138_0.2.2.2.2.2.2.2.2.2.2.2.2.1 rfl
theorem ab_s138_23 : ab_Sn B 138 23 (ab_o_ild 2 24) := ab_s_iload_n (k := 2) (n := 2) ab_dk138_0.2.2.2.2.2.2.2.2.2.2.2.2.2.1 rfl
theorem ab_s138_24 : ab_Sn B 138 24 (ab_o_const 1 25) := ab_s_iconst (n := 1) ab_dk138_0.2.2.2.2.2.2.2.2.2.2.2.2.2.2.1 rfl
theorem ab_s138_25 : ab_Sn B 138 25 (ab_o_const 30 27) := ab_s_bipush (n := 30) ab_dk138_0.2.2.2.2.2.2.2.2.2.2.2.2.2.2.2.1 (by decide)
theorem ab_s138_27 : ab_Sn B 138 27 (ab_o_call none [] 100 3 3 true 30) := ab_s_callS (M' := 100) (na := 3) (i := 46) (v := true) (ab_hok_n (by decide +kernel)) (by decide +kernel) ab_dk138_1.1 (by decide +kernel) (by decide +kernel) (by decide) wf_462 wf_463 wf_464 wf_459
theorem ab_s138_30 : ab_Sn B 138 30 (ab_o_if ab_eq 54 33) := ab_s_if_eq (tg := 54) (off := 24) ab_dk138_1.2.1 (by decide)
theorem ab_s138_33 : ab_Sn B 138 33 (ab_o_ild 3 34) := ab_s_iload_n (k := 3) (n := 3) ab_dk138_1.2.2.1 rfl
theorem ab_s138_34 : ab_Sn B 138 34 (ab_o_const 1 35) := ab_s_iconst (n := 1) ab_dk138_1.2.2.2.1 rfl
theorem ab_s138_35 : ab_Sn B 138 35 (ab_o_const 9 37) := ab_s_bipush (n := 9) ab_dk138_1.2.2.2.2.1 (by decide)
theorem ab_s138_37 : ab_Sn B 138 37 (ab_o_call none [] 100 3 3 true 40) := ab_s_callS (M' := 100) (na := 3) (i := 46) (v := true) (ab_hok_n (by decide +kernel)) (by decide +kernel) ab_dk138_1.2.2.2.2.2.1 (by decide +kernel) (by decide +kernel) (by decide) wf_462 wf_463 wf_464 wf_459
theorem ab_s138_40 : ab_Sn B 138 40 (ab_o_if ab_eq 54 43) := ab_s_if_eq (tg := 54) (off := 14) ab_dk138_1.2.2.2.2.2.2.1 (by decide)
theorem ab_s138_43 : ab_Sn B 138 43 (ab_o_ild 4 45) := ab_s_iload (k := 4) ab_dk138_1.2.2.2.2.2.2.2.1
theorem ab_s138_45 : ab_Sn B 138 45 (ab_o_const 0 46) := ab_s_iconst (n := 0) ab_dk138_1.2.2.2.2.2.2.2.2.1 rfl
theorem ab_s138_46 : ab_Sn B 138 46 (ab_o_const 9 48) := ab_s_bipush (n := 9) ab_dk138_1.2.2.2.2.2.2.2.2.2.1 (by decide)
theorem ab_s138_48 : ab_Sn B 138 48 (ab_o_call none [] 100 3 3 true 51) := ab_s_callS (M' := 100) (na := 3) (i := 46) (v := true) (ab_hok_n (by decide +kernel)) (by decide +kernel) ab_dk138_1.2.2.2.2.2.2.2.2.2.2.1 (by decide +kernel) (by decide +kernel) (by decide) wf_462 wf_463 wf_464 wf_459
theorem ab_s138_51 : ab_Sn B 138 51 (ab_o_if ab_ne 58 54) := ab_s_if_ne (tg := 58) (off := 7) ab_dk138_1.2.2.2.2.2.2.2.2.2.2.2.1 (by decide)
theorem ab_s138_54 : ab_Sn B 138 54 (ab_o_const 1 55) := ab_s_iconst (n := 1) ab_dk138_1.2.2.2.2.2.2.2.2.2.2.2.2.1 rfl
theorem ab_s138_55 : ab_Sn B 138 55 (ab_o_goto 59) := ab_s_goto (tg := 59) (off := 4) ab_dk138_1.2.2.2.2.2.2.2.2.2.2.2.2.2.1 (by decide)
theorem ab_s138_58 : ab_Sn B 138 58 (ab_o_const 0 59) := ab_s_iconst (n := 0) ab_dk138_1.2.2.2.2.2.2.2.2.2.2.2.2.2.2.1 rfl
theorem ab_s138_59 : ab_Sn B 138 59 (ab_o_const 2 60) := ab_s_iconst (n := 2) ab_dk138_1.2.2.2.2.2.2.2.2.2.2.2.2.2.2.2.1 rfl
theorem ab_s138_60 : ab_Sn B 138 60 (ab_o_call (some (8, 22)) [] 101 3 3 true 63) := ab_s_callV (M' := 101) (na := 2) (i := 39) (ci := 4) (N := 22) (C := RX4) (T := TX4) (v := true) (ab_hok_n (by decide +kernel)) (by decide +kernel) ab_dk138_2.1 rfl (by decide) (by decide +kernel) (by decide +kernel) (by decide) wf_456 wf_457 wf_458 wf_460 wf_459
theorem ab_s138_63 : ab_Sn B 138 63 (ab_o_if ab_eq 68 66) := ab_s_if_eq (tg := 68) (off := 5) ab_dk138_2.2.1 (by decide)
theorem ab_s138_66 : ab_Sn B 138 66 (ab_o_const 0 67) := ab_s_iconst (n := 0) ab_dk138_2.2.2.1 rfl
theorem ab_s138_67 : ab_Sn B 138 67 (ab_o_iret false) := ab_s_iret (b := false) (ty := .int) ab_dk138_2.2.2.2.1 rfl (Or.inl ⟨rfl, rfl⟩)
theorem ab_s138_68 : ab_Sn B 138 68 (ab_o_ald 0 69) := ab_s_aload_n (k := 0) (n := 0) ab_dk138_2.2.2.2.2.1 rfl
theorem ab_s138_69 : ab_Sn B 138 69 (ab_o_getr 8 22 21 72) := ab_s_getr (i := 33) (ci := 4) (N := 22) (k := 21) (C := RX4) (T := TX4) ab_dk138_2.2.2.2.2.2.1 rfl (by decide) rfl wf_454
theorem ab_s138_72 : ab_Sn B 138 72 (ab_o_ild 1 73) := ab_s_iload_n (k := 1) (n := 1) ab_dk138_2.2.2.2.2.2.2.1 rfl
theorem ab_s138_73 : ab_Sn B 138 73 (ab_o_aald 74) := ab_s_aald ab_dk138_2.2.2.2.2.2.2.2.1
theorem ab_s138_74 : ab_Sn B 138 74 (ab_o_const 0 75) := ab_s_iconst (n := 0) ab_dk138_2.2.2.2.2.2.2.2.2.1 rfl
theorem ab_s138_75 : ab_Sn B 138 75 (ab_o_xld 0 76) := ab_s_iaload ab_dk138_2.2.2.2.2.2.2.2.2.2.1
theorem ab_s138_76 : ab_Sn B 138 76 (ab_o_ist 5 78) := ab_s_istore (k := 5) ab_dk138_2.2.2.2.2.2.2.2.2.2.2.1
theorem ab_s138_78 : ab_Sn B 138 78 (ab_o_ald 0 79) := ab_s_aload_n (k := 0) (n := 0) ab_dk138_2.2.2.2.2.2.2.2.2.2.2.2.1 rfl
theorem ab_s138_79 : ab_Sn B 138 79 (ab_o_const 0 80) := ab_s_iconst (n := 0) ab_dk138_2.2.2.2.2.2.2.2.2.2.2.2.2.1 rfl
theorem ab_s138_80 : ab_Sn B 138 80 (ab_o_puti 8 22 11 true 83) := ab_s_puti (b := true) (ty := .boolean) (i := 108) (ci := 4) (N := 22) (k := 11) (C := RX4) (T := TX4) ab_dk138_2.2.2.2.2.2.2.2.2.2.2.2.2.2.1 rfl (by decide) rfl wf_518 rfl (by decide +kernel) (Or.inr (Or.inl ⟨rfl, rfl⟩))
theorem ab_s138_83 : ab_Sn B 138 83 (ab_o_ald 0 84) := ab_s_aload_n (k := 0) (n := 0) ab_dk138_2.2.2.2.2.2.2.2.2.2.2.2.2.2.2.1 rfl
theorem ab_s138_84 : ab_Sn B 138 84 (ab_o_getr 8 22 21 87) := ab_s_getr (i := 33) (ci := 4) (N := 22) (k := 21) (C := RX4) (T := TX4) ab_dk138_2.2.2.2.2.2.2.2.2.2.2.2.2.2.2.2.1 rfl (by decide) rfl wf_454
theorem ab_s138_87 : ab_Sn B 138 87 (ab_o_ild 1 88) := ab_s_iload_n (k := 1) (n := 1) ab_dk138_3.1 rfl
theorem ab_s138_88 : ab_Sn B 138 88 (ab_o_aald 89) := ab_s_aald ab_dk138_3.2.1
theorem ab_s138_89 : ab_Sn B 138 89 (ab_o_const 0 90) := ab_s_iconst (n := 0) ab_dk138_3.2.2.1 rfl
theorem ab_s138_90 : ab_Sn B 138 90 (ab_o_ild 2 91) := ab_s_iload_n (k := 2) (n := 2) ab_dk138_3.2.2.2.1 rfl
theorem ab_s138_91 : ab_Sn B 138 91 (ab_o_xst 0 92) := ab_s_iastore ab_dk138_3.2.2.2.2.1
theorem ab_s138_92 : ab_Sn B 138 92 (ab_o_ald 0 93) := ab_s_aload_n (k := 0) (n := 0) ab_dk138_3.2.2.2.2.2.1 rfl
theorem ab_s138_93 : ab_Sn B 138 93 (ab_o_getr 8 22 21 96) := ab_s_getr (i := 33) (ci := 4) (N := 22) (k := 21) (C := RX4) (T := TX4) ab_dk138_3.2.2.2.2.2.2.1 rfl (by decide) rfl wf_454
theorem ab_s138_96 : ab_Sn B 138 96 (ab_o_ild 1 97) := ab_s_iload_n (k := 1) (n := 1) ab_dk138_3.2.2.2.2.2.2.2.1 rfl
theorem ab_s138_97 : ab_Sn B 138 97 (ab_o_aald 98) := ab_s_aald ab_dk138_3.2.2.2.2.2.2.2.2.1
theorem ab_s138_98 : ab_Sn B 138 98 (ab_o_const 1 99) := ab_s_iconst (n := 1) ab_dk138_3.2.2.2.2.2.2.2.2.2.1 rfl
theorem ab_s138_99 : ab_Sn B 138 99 (ab_o_ild 3 100) := ab_s_iload_n (k := 3) (n := 3) ab_dk138_3.2.2.2.2.2.2.2.2.2.2.1 rfl
theorem ab_s138_100 : ab_Sn B 138 100 (ab_o_xst 0 101) := ab_s_iastore ab_dk138_3.2.2.2.2.2.2.2.2.2.2.2.1
theorem ab_s138_101 : ab_Sn B 138 101 (ab_o_ald 0 102) := ab_s_aload_n (k := 0) (n := 0) ab_dk138_3.2.2.2.2.2.2.2.2.2.2.2.2.1 rfl
theorem ab_s138_102 : ab_Sn B 138 102 (ab_o_getr 8 22 21 105) := ab_s_getr (i := 33) (ci := 4) (N := 22) (k := 21) (C := RX4) (T := TX4) ab_dk138_3.2.2.2.2.2.2.2.2.2.2.2.2.2.1 rfl (by decide) rfl wf_454
theorem ab_s138_105 : ab_Sn B 138 105 (ab_o_ild 1 106) := ab_s_iload_n (k := 1) (n := 1) ab_dk138_3.2.2.2.2.2.2.2.2.2.2.2.2.2.2.1 rfl
theorem ab_s138_106 : ab_Sn B 138 106 (ab_o_aald 107) := ab_s_aald ab_dk138_3.2.2.2.2.2.2.2.2.2.2.2.2.2.2.2.1
theorem ab_s138_107 : ab_Sn B 138 107 (ab_o_const 2 108) := ab_s_iconst (n := 2) ab_dk138_4.1 rfl
theorem ab_s138_108 : ab_Sn B 138 108 (ab_o_ild 4 110) := ab_s_iload (k := 4) ab_dk138_4.2.1
theorem ab_s138_110 : ab_Sn B 138 110 (ab_o_xst 0 111) := ab_s_iastore ab_dk138_4.2.2.1
theorem ab_s138_111 : ab_Sn B 138 111 (ab_o_ild 5 113) := ab_s_iload (k := 5) ab_dk138_4.2.2.2.1
theorem ab_s138_113 : ab_Sn B 138 113 (ab_o_iret false) := ab_s_iret (b := false) (ty := .int) ab_dk138_4.2.2.2.2.1 rfl (Or.inl ⟨rfl, rfl⟩)
set_option maxRecDepth 20000 in
theorem ab_sn138 : ab_all B 138 0 (ab_c138) := ⟨ab_s138_0, ab_s138_1, ab_s138_2, ab_s138_3, ab_s138_4, trivial, trivial, ab_s138_7, trivial, trivial, ab_s138_10, ab_s138_11, trivial, trivial, ab_s138_14, ab_s138_15, ab_s138_16, trivial, trivial, ab_s138_19, trivial, trivial, ab_s138_22, ab_s138_23, ab_s138_24, ab_s138_25, trivial, ab_s138_27, trivial, trivial, ab_s138_30, trivial, trivial, ab_s138_33, ab_s138_34, ab_s138_35, trivial, ab_s138_37, trivial, trivial, ab_s138_40, trivial, trivial, ab_s138_43, trivial, ab_s138_45, ab_s138_46, trivial, ab_s138_48, trivial, trivial, ab_s138_51, trivial, trivial, ab_s138_54, ab_s138_55, trivial, trivial, ab_s138_58, ab_s138_59, ab_s138_60, trivial, trivial, ab_s138_63, trivial, trivial, ab_s138_66, ab_s138_67, ab_s138_68, ab_s138_69, trivial, trivial, ab_s138_72, ab_s138_73, ab_s138_74, ab_s138_75, ab_s138_76, trivial, ab_s138_78, ab_s138_79, ab_s138_80, trivial, trivial, ab_s138_83, ab_s138_84, trivial, trivial, ab_s138_87, ab_s138_88, ab_s138_89, ab_s138_90, ab_s138_91, ab_s138_92, ab_s138_93, trivial, trivial, ab_s138_96, ab_s138_97, ab_s138_98, ab_s138_99, ab_s138_100, ab_s138_101, ab_s138_102, trivial, trivial, ab_s138_105, ab_s138_106, ab_s138_107, ab_s138_108, trivial, ab_s138_110, ab_s138_111, trivial, ab_s138_113, trivial⟩
theorem ab_dk139_0 : ab_dp 139 [(0, .aload_n 0, 1), (1, .iload_n 1, 1), (2, .iconst 1, 1), (3, .bipush 90, 2), (5, .invokestatic 46, 3), (8, .ifCond .eq 13, 3), (11, .iload_n 2, 1), (12, .iconst 0, 1), (13, .bipush 9, 2), (15, .invokestatic 46, 3), (18, .ifCond .ne 7, 3), (21, .iconst 1, 1), (22, .goto 4, 3), (25, .iconst 0, 1), (26, .iconst 1, 1), (27, .invokevirtual 105, 3)] := ab_da (by decide +kernel)
theorem ab_dk139_1 : ab_dp 139 [(30, .ifCond .eq 5, 3), (33, .iconst 0, 1), (34, .ireturn, 1), (35, .aload_n 0, 1), (36, .getfield 28, 3), (39, .istore_n 3, 1), (40, .aload_n 0, 1), (41, .iconst 0, 1), (42, .putfield 108, 3), (45, .aload_n 0, 1), (46, .iload_n 1, 1), (47, .putfield 28, 3), (50, .aload_n 0, 1), (51, .iload_n 2, 1), (52, .putfield 152, 3), (55, .iload_n 3, 1)] := ab_da (by decide +kernel)
theorem ab_dk139_2 : ab_dp 139 [(56, .ireturn, 1)] := ab_da (by decide +kernel)
theorem ab_s139_0 : ab_Sn B 139 0 (ab_o_ald 0 1) := ab_s_aload_n (k := 0) (n := 0) ab_dk139_0.1 rfl
theorem ab_s139_1 : ab_Sn B 139 1 (ab_o_ild 1 2) := ab_s_iload_n (k := 1) (n := 1) ab_dk139_0.2.1 rfl
theorem ab_s139_2 : ab_Sn B 139 2 (ab_o_const 1 3) := ab_s_iconst (n := 1) ab_dk139_0.2.2.1 rfl
theorem ab_s139_3 : ab_Sn B 139 3 (ab_o_const 90 5) := ab_s_bipush (n := 90) ab_dk139_0.2.2.2.1 (by decide)
theorem ab_s139_5 : ab_Sn B 139 5 (ab_o_call none [] 100 3 3 true 8) := ab_s_callS (M' := 100) (na := 3) (i := 46) (v := true) (ab_hok_n (by decide +kernel)) (by decide +kernel) ab_dk139_0.2.2.2.2.1 (by decide +kernel) (by decide +kernel) (by decide) wf_462 wf_463 wf_464 wf_459
theorem ab_s139_8 : ab_Sn B 139 8 (ab_o_if ab_eq 21 11) := ab_s_if_eq (tg := 21) (off := 13) ab_dk139_0.2.2.2.2.2.1 (by decide)
theorem ab_s139_11 : ab_Sn B 139 11 (ab_o_ild 2 12) := ab_s_iload_n (k := 2) (n := 2) ab_dk139_0.2.2.2.2.2.2.1 rfl
theorem ab_s139_12 : ab_Sn B 139 12 (ab_o_const 0 13) := ab_s_iconst (n := 0) ab_dk139_0.2.2.2.2.2.2.2.1 rfl
theorem ab_s139_13 : ab_Sn B 139 13 (ab_o_const 9 15) := ab_s_bipush (n := 9) ab_dk139_0.2.2.2.2.2.2.2.2.1 (by decide)
theorem ab_s139_15 : ab_Sn B 139 15 (ab_o_call none [] 100 3 3 true 18) := ab_s_callS (M' := 100) (na := 3) (i := 46) (v := true) (ab_hok_n (by decide +kernel)) (by decide +kernel) ab_dk139_0.2.2.2.2.2.2.2.2.2.1 (by decide +kernel) (by decide +kernel) (by decide) wf_462 wf_463 wf_464 wf_459
theorem ab_s139_18 : ab_Sn B 139 18 (ab_o_if ab_ne 25 21) := ab_s_if_ne (tg := 25) (off := 7) ab_dk139_0.2.2.2.2.2.2.2.2.2.2.1 (by decide)
theorem ab_s139_21 : ab_Sn B 139 21 (ab_o_const 1 22) := ab_s_iconst (n := 1) ab_dk139_0.2.2.2.2.2.2.2.2.2.2.2.1 rfl
theorem ab_s139_22 : ab_Sn B 139 22 (ab_o_goto 26) := ab_s_goto (tg := 26) (off := 4) ab_dk139_0.2.2.2.2.2.2.2.2.2.2.2.2.1 (by decide)
theorem ab_s139_25 : ab_Sn B 139 25 (ab_o_const 0 26) := ab_s_iconst (n := 0) ab_dk139_0.2.2.2.2.2.2.2.2.2.2.2.2.2.1 rfl
theorem ab_s139_26 : ab_Sn B 139 26 (ab_o_const 1 27) := ab_s_iconst (n := 1) ab_dk139_0.2.2.2.2.2.2.2.2.2.2.2.2.2.2.1 rfl
theorem ab_s139_27 : ab_Sn B 139 27 (ab_o_call (some (8, 22)) [] 102 3 3 true 30) := ab_s_callV (M' := 102) (na := 2) (i := 105) (ci := 4) (N := 22) (C := RX4) (T := TX4) (v := true) (ab_hok_n (by decide +kernel)) (by decide +kernel) ab_dk139_0.2.2.2.2.2.2.2.2.2.2.2.2.2.2.2.1 rfl (by decide) (by decide +kernel) (by decide +kernel) (by decide) wf_514 wf_515 wf_516 wf_517 wf_459
theorem ab_s139_30 : ab_Sn B 139 30 (ab_o_if ab_eq 35 33) := ab_s_if_eq (tg := 35) (off := 5) ab_dk139_1.1 (by decide)
theorem ab_s139_33 : ab_Sn B 139 33 (ab_o_const 0 34) := ab_s_iconst (n := 0) ab_dk139_1.2.1 rfl
theorem ab_s139_34 : ab_Sn B 139 34 (ab_o_iret false) := ab_s_iret (b := false) (ty := .int) ab_dk139_1.2.2.1 rfl (Or.inl ⟨rfl, rfl⟩)
theorem ab_s139_35 : ab_Sn B 139 35 (ab_o_ald 0 36) := ab_s_aload_n (k := 0) (n := 0) ab_dk139_1.2.2.2.1 rfl
theorem ab_s139_36 : ab_Sn B 139 36 (ab_o_geti 8 22 19 39) := ab_s_geti (i := 28) (ci := 4) (N := 22) (k := 19) (C := RX4) (T := TX4) ab_dk139_1.2.2.2.2.1 rfl (by decide) rfl wf_452
theorem ab_s139_39 : ab_Sn B 139 39 (ab_o_ist 3 40) := ab_s_istore_n (k := 3) (n := 3) ab_dk139_1.2.2.2.2.2.1 rfl
theorem ab_s139_40 : ab_Sn B 139 40 (ab_o_ald 0 41) := ab_s_aload_n (k := 0) (n := 0) ab_dk139_1.2.2.2.2.2.2.1 rfl
theorem ab_s139_41 : ab_Sn B 139 41 (ab_o_const 0 42) := ab_s_iconst (n := 0) ab_dk139_1.2.2.2.2.2.2.2.1 rfl
theorem ab_s139_42 : ab_Sn B 139 42 (ab_o_puti 8 22 11 true 45) := ab_s_puti (b := true) (ty := .boolean) (i := 108) (ci := 4) (N := 22) (k := 11) (C := RX4) (T := TX4) ab_dk139_1.2.2.2.2.2.2.2.2.1 rfl (by decide) rfl wf_518 rfl (by decide +kernel) (Or.inr (Or.inl ⟨rfl, rfl⟩))
theorem ab_s139_45 : ab_Sn B 139 45 (ab_o_ald 0 46) := ab_s_aload_n (k := 0) (n := 0) ab_dk139_1.2.2.2.2.2.2.2.2.2.1 rfl
theorem ab_s139_46 : ab_Sn B 139 46 (ab_o_ild 1 47) := ab_s_iload_n (k := 1) (n := 1) ab_dk139_1.2.2.2.2.2.2.2.2.2.2.1 rfl
theorem ab_s139_47 : ab_Sn B 139 47 (ab_o_puti 8 22 19 false 50) := ab_s_puti (b := false) (ty := .int) (i := 28) (ci := 4) (N := 22) (k := 19) (C := RX4) (T := TX4) ab_dk139_1.2.2.2.2.2.2.2.2.2.2.2.1 rfl (by decide) rfl wf_452 rfl (by decide +kernel) (Or.inl ⟨rfl, rfl⟩)
theorem ab_s139_50 : ab_Sn B 139 50 (ab_o_ald 0 51) := ab_s_aload_n (k := 0) (n := 0) ab_dk139_1.2.2.2.2.2.2.2.2.2.2.2.2.1 rfl
theorem ab_s139_51 : ab_Sn B 139 51 (ab_o_ild 2 52) := ab_s_iload_n (k := 2) (n := 2) ab_dk139_1.2.2.2.2.2.2.2.2.2.2.2.2.2.1 rfl
theorem ab_s139_52 : ab_Sn B 139 52 (ab_o_puti 8 22 20 false 55) := ab_s_puti (b := false) (ty := .int) (i := 152) (ci := 4) (N := 22) (k := 20) (C := RX4) (T := TX4) ab_dk139_1.2.2.2.2.2.2.2.2.2.2.2.2.2.2.1 rfl (by decide) rfl wf_559 rfl (by decide +kernel) (Or.inl ⟨rfl, rfl⟩)
theorem ab_s139_55 : ab_Sn B 139 55 (ab_o_ild 3 56) := ab_s_iload_n (k := 3) (n := 3) ab_dk139_1.2.2.2.2.2.2.2.2.2.2.2.2.2.2.2.1 rfl
theorem ab_s139_56 : ab_Sn B 139 56 (ab_o_iret false) := ab_s_iret (b := false) (ty := .int) ab_dk139_2.1 rfl (Or.inl ⟨rfl, rfl⟩)
set_option maxRecDepth 20000 in
theorem ab_sn139 : ab_all B 139 0 (ab_c139) := ⟨ab_s139_0, ab_s139_1, ab_s139_2, ab_s139_3, trivial, ab_s139_5, trivial, trivial, ab_s139_8, trivial, trivial, ab_s139_11, ab_s139_12, ab_s139_13, trivial, ab_s139_15, trivial, trivial, ab_s139_18, trivial, trivial, ab_s139_21, ab_s139_22, trivial, trivial, ab_s139_25, ab_s139_26, ab_s139_27, trivial, trivial, ab_s139_30, trivial, trivial, ab_s139_33, ab_s139_34, ab_s139_35, ab_s139_36, trivial, trivial, ab_s139_39, ab_s139_40, ab_s139_41, ab_s139_42, trivial, trivial, ab_s139_45, ab_s139_46, ab_s139_47, trivial, trivial, ab_s139_50, ab_s139_51, ab_s139_52, trivial, trivial, ab_s139_55, ab_s139_56, trivial⟩
theorem ab_dk140_0 : ab_dp 140 [(0, .aload_n 0, 1), (1, .aload_n 0, 1), (2, .getfield 43, 3), (5, .ifCond .ne 7, 3), (8, .iconst 1, 1), (9, .goto 4, 3), (12, .iconst 0, 1), (13, .iconst 1, 1), (14, .invokevirtual 105, 3), (17, .ifCond .eq 5, 3), (20, .iconst 0, 1), (21, .ireturn, 1), (22, .aload_n 0, 1), (23, .getfield 91, 3), (26, .istore_n 1, 1), (27, .iload_n 1, 1)] := ab_da (by decide +kernel)
theorem ab_dk140_1 : ab_dp 140 [(28, .ifCond .eq 7, 3), (31, .aload_n 0, 1), (32, .invokevirtual 130, 3), (35, .iload_n 1, 1), (36, .ireturn, 1)] := ab_da (by decide +kernel)
theorem ab_s140_0 : ab_Sn B 140 0 (ab_o_ald 0 1) := ab_s_aload_n (k := 0) (n := 0) ab_dk140_0.1 rfl
theorem ab_s140_1 : ab_Sn B 140 1 (ab_o_ald 0 2) := ab_s_aload_n (k := 0) (n := 0) ab_dk140_0.2.1 rfl
theorem ab_s140_2 : ab_Sn B 140 2 (ab_o_geti 8 22 1 5) := ab_s_geti (i := 43) (ci := 4) (N := 22) (k := 1) (C := RX4) (T := TX4) ab_dk140_0.2.2.1 rfl (by decide) rfl wf_461
theorem ab_s140_5 : ab_Sn B 140 5 (ab_o_if ab_ne 12 8) := ab_s_if_ne (tg := 12) (off := 7) ab_dk140_0.2.2.2.1 (by decide)
theorem ab_s140_8 : ab_Sn B 140 8 (ab_o_const 1 9) := ab_s_iconst (n := 1) ab_dk140_0.2.2.2.2.1 rfl
theorem ab_s140_9 : ab_Sn B 140 9 (ab_o_goto 13) := ab_s_goto (tg := 13) (off := 4) ab_dk140_0.2.2.2.2.2.1 (by decide)
theorem ab_s140_12 : ab_Sn B 140 12 (ab_o_const 0 13) := ab_s_iconst (n := 0) ab_dk140_0.2.2.2.2.2.2.1 rfl
theorem ab_s140_13 : ab_Sn B 140 13 (ab_o_const 1 14) := ab_s_iconst (n := 1) ab_dk140_0.2.2.2.2.2.2.2.1 rfl
theorem ab_s140_14 : ab_Sn B 140 14 (ab_o_call (some (8, 22)) [] 102 3 3 true 17) := ab_s_callV (M' := 102) (na := 2) (i := 105) (ci := 4) (N := 22) (C := RX4) (T := TX4) (v := true) (ab_hok_n (by decide +kernel)) (by decide +kernel) ab_dk140_0.2.2.2.2.2.2.2.2.1 rfl (by decide) (by decide +kernel) (by decide +kernel) (by decide) wf_514 wf_515 wf_516 wf_517 wf_459
theorem ab_s140_17 : ab_Sn B 140 17 (ab_o_if ab_eq 22 20) := ab_s_if_eq (tg := 22) (off := 5) ab_dk140_0.2.2.2.2.2.2.2.2.2.1 (by decide)
theorem ab_s140_20 : ab_Sn B 140 20 (ab_o_const 0 21) := ab_s_iconst (n := 0) ab_dk140_0.2.2.2.2.2.2.2.2.2.2.1 rfl
theorem ab_s140_21 : ab_Sn B 140 21 (ab_o_iret true) := ab_s_iret (b := true) (ty := .boolean) ab_dk140_0.2.2.2.2.2.2.2.2.2.2.2.1 rfl (Or.inr (Or.inl ⟨rfl, rfl⟩))
theorem ab_s140_22 : ab_Sn B 140 22 (ab_o_ald 0 23) := ab_s_aload_n (k := 0) (n := 0) ab_dk140_0.2.2.2.2.2.2.2.2.2.2.2.2.1 rfl
theorem ab_s140_23 : ab_Sn B 140 23 (ab_o_geti 8 22 3 26) := ab_s_geti (i := 91) (ci := 4) (N := 22) (k := 3) (C := RX4) (T := TX4) ab_dk140_0.2.2.2.2.2.2.2.2.2.2.2.2.2.1 rfl (by decide) rfl wf_507
theorem ab_s140_26 : ab_Sn B 140 26 (ab_o_ist 1 27) := ab_s_istore_n (k := 1) (n := 1) ab_dk140_0.2.2.2.2.2.2.2.2.2.2.2.2.2.2.1 rfl
theorem ab_s140_27 : ab_Sn B 140 27 (ab_o_ild 1 28) := ab_s_iload_n (k := 1) (n := 1) ab_dk140_0.2.2.2.2.2.2.2.2.2.2.2.2.2.2.2.1 rfl
theorem ab_s140_28 : ab_Sn B 140 28 (ab_o_if ab_eq 35 31) := ab_s_if_eq (tg := 35) (off := 7) ab_dk140_1.1 (by decide)
theorem ab_s140_31 : ab_Sn B 140 31 (ab_o_ald 0 32) := ab_s_aload_n (k := 0) (n := 0) ab_dk140_1.2.1 rfl
theorem ab_s140_32 : ab_Sn B 140 32 (ab_o_call (some (8, 22)) [] 119 1 1 false 35) := ab_s_callV (M' := 119) (na := 0) (i := 130) (ci := 4) (N := 22) (C := RX4) (T := TX4) (v := false) (ab_hok_n (by decide +kernel)) (by decide +kernel) ab_dk140_1.2.2.1 rfl (by decide) (by decide +kernel) (by decide +kernel) (by decide) wf_531 wf_532 wf_533 wf_534 wf_459
theorem ab_s140_35 : ab_Sn B 140 35 (ab_o_ild 1 36) := ab_s_iload_n (k := 1) (n := 1) ab_dk140_1.2.2.2.1 rfl
theorem ab_s140_36 : ab_Sn B 140 36 (ab_o_iret true) := ab_s_iret (b := true) (ty := .boolean) ab_dk140_1.2.2.2.2.1 rfl (Or.inr (Or.inl ⟨rfl, rfl⟩))
set_option maxRecDepth 20000 in
theorem ab_sn140 : ab_all B 140 0 (ab_c140) := ⟨ab_s140_0, ab_s140_1, ab_s140_2, trivial, trivial, ab_s140_5, trivial, trivial, ab_s140_8, ab_s140_9, trivial, trivial, ab_s140_12, ab_s140_13, ab_s140_14, trivial, trivial, ab_s140_17, trivial, trivial, ab_s140_20, ab_s140_21, ab_s140_22, ab_s140_23, trivial, trivial, ab_s140_26, ab_s140_27, ab_s140_28, trivial, trivial, ab_s140_31, ab_s140_32, trivial, trivial, ab_s140_35, ab_s140_36, trivial⟩
theorem ab_dk141_0 : ab_dp 141 [(0, .aload_n 0, 1), (1, .aload_n 0, 1), (2, .getfield 43, 3), (5, .ifCond .eq 17, 3), (8, .aload_n 0, 1), (9, .getfield 91, 3), (12, .ifCond .ne 10, 3), (15, .aload_n 0, 1), (16, .invokevirtual 183, 3), (19, .ifnonnull 7, 3), (22, .iconst 1, 1), (23, .goto 4, 3), (26, .iconst 0, 1), (27, .iconst 1, 1), (28, .invokevirtual 105, 3), (31, .ifCond .eq 5, 3)] := ab_da (by decide +kernel)
theorem ab_dk141_1 : ab_dp 141 [(34, .iconst 0, 1), (35, .ireturn, 1), (36, .aload_n 0, 1), (37, .invokevirtual 187, 3), (40, .aload_n 0, 1), (41, .aload_n 0, 1), (42, .invokevirtual 183, 3), (45, .iconst 0, 1), (46, .aaload, 1), (47, .invokevirtual 172, 3), (50, .ireturn, 1)] := ab_da (by decide +kernel)
theorem ab_s141_0 : ab_Sn B 141 0 (ab_o_ald 0 1) := ab_s_aload_n (k := 0) (n := 0) ab_dk141_0.1 rfl
theorem ab_s141_1 : ab_Sn B 141 1 (ab_o_ald 0 2) := ab_s_aload_n (k := 0) (n := 0) ab_dk141_0.2.1 rfl
theorem ab_s141_2 : ab_Sn B 141 2 (ab_o_geti 8 22 1 5) := ab_s_geti (i := 43) (ci := 4) (N := 22) (k := 1) (C := RX4) (T := TX4) ab_dk141_0.2.2.1 rfl (by decide) rfl wf_461
theorem ab_s141_5 : ab_Sn B 141 5 (ab_o_if ab_eq 22 8) := ab_s_if_eq (tg := 22) (off := 17) ab_dk141_0.2.2.2.1 (by decide)
theorem ab_s141_8 : ab_Sn B 141 8 (ab_o_ald 0 9) := ab_s_aload_n (k := 0) (n := 0) ab_dk141_0.2.2.2.2.1 rfl
theorem ab_s141_9 : ab_Sn B 141 9 (ab_o_geti 8 22 3 12) := ab_s_geti (i := 91) (ci := 4) (N := 22) (k := 3) (C := RX4) (T := TX4) ab_dk141_0.2.2.2.2.2.1 rfl (by decide) rfl wf_507
theorem ab_s141_12 : ab_Sn B 141 12 (ab_o_if ab_ne 22 15) := ab_s_if_ne (tg := 22) (off := 10) ab_dk141_0.2.2.2.2.2.2.1 (by decide)
theorem ab_s141_15 : ab_Sn B 141 15 (ab_o_ald 0 16) := ab_s_aload_n (k := 0) (n := 0) ab_dk141_0.2.2.2.2.2.2.2.1 rfl
theorem ab_s141_16 : ab_Sn B 141 16 (ab_o_call (some (8, 22)) [] 137 1 1 true 19) := ab_s_callV (M' := 137) (na := 0) (i := 183) (ci := 4) (N := 22) (C := RX4) (T := TX4) (v := true) (ab_hok_n (by decide +kernel)) (by decide +kernel) ab_dk141_0.2.2.2.2.2.2.2.2.1 rfl (by decide) (by decide +kernel) (by decide +kernel) (by decide) wf_583 wf_584 wf_585 wf_586 wf_459
theorem ab_s141_19 : ab_Sn B 141 19 (ab_o_ifn false 26 22) := ab_s_ifnonnull (tg := 26) (off := 7) ab_dk141_0.2.2.2.2.2.2.2.2.2.1 (by decide)
theorem ab_s141_22 : ab_Sn B 141 22 (ab_o_const 1 23) := ab_s_iconst (n := 1) ab_dk141_0.2.2.2.2.2.2.2.2.2.2.1 rfl
theorem ab_s141_23 : ab_Sn B 141 23 (ab_o_goto 27) := ab_s_goto (tg := 27) (off := 4) ab_dk141_0.2.2.2.2.2.2.2.2.2.2.2.1 (by decide)
theorem ab_s141_26 : ab_Sn B 141 26 (ab_o_const 0 27) := ab_s_iconst (n := 0) ab_dk141_0.2.2.2.2.2.2.2.2.2.2.2.2.1 rfl
theorem ab_s141_27 : ab_Sn B 141 27 (ab_o_const 1 28) := ab_s_iconst (n := 1) ab_dk141_0.2.2.2.2.2.2.2.2.2.2.2.2.2.1 rfl
theorem ab_s141_28 : ab_Sn B 141 28 (ab_o_call (some (8, 22)) [] 102 3 3 true 31) := ab_s_callV (M' := 102) (na := 2) (i := 105) (ci := 4) (N := 22) (C := RX4) (T := TX4) (v := true) (ab_hok_n (by decide +kernel)) (by decide +kernel) ab_dk141_0.2.2.2.2.2.2.2.2.2.2.2.2.2.2.1 rfl (by decide) (by decide +kernel) (by decide +kernel) (by decide) wf_514 wf_515 wf_516 wf_517 wf_459
theorem ab_s141_31 : ab_Sn B 141 31 (ab_o_if ab_eq 36 34) := ab_s_if_eq (tg := 36) (off := 5) ab_dk141_0.2.2.2.2.2.2.2.2.2.2.2.2.2.2.2.1 (by decide)
theorem ab_s141_34 : ab_Sn B 141 34 (ab_o_const 0 35) := ab_s_iconst (n := 0) ab_dk141_1.1 rfl
theorem ab_s141_35 : ab_Sn B 141 35 (ab_o_iret false) := ab_s_iret (b := false) (ty := .int) ab_dk141_1.2.1 rfl (Or.inl ⟨rfl, rfl⟩)
theorem ab_s141_36 : ab_Sn B 141 36 (ab_o_ald 0 37) := ab_s_aload_n (k := 0) (n := 0) ab_dk141_1.2.2.1 rfl
theorem ab_s141_37 : ab_Sn B 141 37 (ab_o_call (some (8, 22)) [] 120 1 1 false 40) := ab_s_callV (M' := 120) (na := 0) (i := 187) (ci := 4) (N := 22) (C := RX4) (T := TX4) (v := false) (ab_hok_n (by decide +kernel)) (by decide +kernel) ab_dk141_1.2.2.2.1 rfl (by decide) (by decide +kernel) (by decide +kernel) (by decide) wf_587 wf_588 wf_589 wf_590 wf_459
theorem ab_s141_40 : ab_Sn B 141 40 (ab_o_ald 0 41) := ab_s_aload_n (k := 0) (n := 0) ab_dk141_1.2.2.2.2.1 rfl
theorem ab_s141_41 : ab_Sn B 141 41 (ab_o_ald 0 42) := ab_s_aload_n (k := 0) (n := 0) ab_dk141_1.2.2.2.2.2.1 rfl
theorem ab_s141_42 : ab_Sn B 141 42 (ab_o_call (some (8, 22)) [] 137 1 1 true 45) := ab_s_callV (M' := 137) (na := 0) (i := 183) (ci := 4) (N := 22) (C := RX4) (T := TX4) (v := true) (ab_hok_n (by decide +kernel)) (by decide +kernel) ab_dk141_1.2.2.2.2.2.2.1 rfl (by decide) (by decide +kernel) (by decide +kernel) (by decide) wf_583 wf_584 wf_585 wf_586 wf_459
theorem ab_s141_45 : ab_Sn B 141 45 (ab_o_const 0 46) := ab_s_iconst (n := 0) ab_dk141_1.2.2.2.2.2.2.2.1 rfl
theorem ab_s141_46 : ab_Sn B 141 46 (ab_o_aald 47) := ab_s_aald ab_dk141_1.2.2.2.2.2.2.2.2.1
theorem ab_s141_47 : ab_Sn B 141 47 (ab_o_call (some (8, 22)) [] 134 4 2 true 50) := ab_s_callV (M' := 134) (na := 1) (i := 172) (ci := 4) (N := 22) (C := RX4) (T := TX4) (v := true) (ab_hok_n (by decide +kernel)) (by decide +kernel) ab_dk141_1.2.2.2.2.2.2.2.2.2.1 rfl (by decide) (by decide +kernel) (by decide +kernel) (by decide) wf_575 wf_576 wf_577 wf_578 wf_459
theorem ab_s141_50 : ab_Sn B 141 50 (ab_o_iret false) := ab_s_iret (b := false) (ty := .int) ab_dk141_1.2.2.2.2.2.2.2.2.2.2.1 rfl (Or.inl ⟨rfl, rfl⟩)
set_option maxRecDepth 20000 in
theorem ab_sn141 : ab_all B 141 0 (ab_c141) := ⟨ab_s141_0, ab_s141_1, ab_s141_2, trivial, trivial, ab_s141_5, trivial, trivial, ab_s141_8, ab_s141_9, trivial, trivial, ab_s141_12, trivial, trivial, ab_s141_15, ab_s141_16, trivial, trivial, ab_s141_19, trivial, trivial, ab_s141_22, ab_s141_23, trivial, trivial, ab_s141_26, ab_s141_27, ab_s141_28, trivial, trivial, ab_s141_31, trivial, trivial, ab_s141_34, ab_s141_35, ab_s141_36, ab_s141_37, trivial, trivial, ab_s141_40, ab_s141_41, ab_s141_42, trivial, trivial, ab_s141_45, ab_s141_46, ab_s141_47, trivial, trivial, ab_s141_50, trivial⟩
end
