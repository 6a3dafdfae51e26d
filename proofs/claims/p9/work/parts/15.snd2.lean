/-! each instruction is sound; printed by wip/px/gen_code.py -/
section
variable {B : ab_B}
theorem ab_dk36_0 : ab_dp 36 [(0, .aload_n 0, 1), (1, .invokespecial 3, 3), (4, .aload_n 0, 1), (5, .bipush 30, 2), (7, .putfield 9, 3), (10, .aload_n 0, 1), (11, .iconst 5, 1), (12, .newarray .int, 2), (14, .dup, 1), (15, .iconst 0, 1), (16, .bipush 10, 2), (18, .iastore, 1), (19, .dup, 1), (20, .iconst 1, 1), (21, .bipush 10, 2), (23, .iastore, 1)] := ab_da (by decide +kernel)
theorem ab_dk36_1 : ab_dp 36 [(24, .dup, 1), (25, .iconst 2, 1), (26, .bipush 10, 2), (28, .iastore, 1), (29, .dup, 1), (30, .iconst 3, 1), (31, .bipush 10, 2), (33, .iastore, 1), (34, .dup, 1), (35, .iconst 4, 1), (36, .bipush 10, 2), (38, .iastore, 1), (39, .putfield 15, 3), (42, .aload_n 0, 1), (43, .iconst 5, 1), (44, .newarray .int, 2)] := ab_da (by decide +kernel)
theorem ab_dk36_2 : ab_dp 36 [(46, .dup, 1), (47, .iconst 0, 1), (48, .iconst 3, 1), (49, .iastore, 1), (50, .dup, 1), (51, .iconst 1, 1), (52, .iconst 3, 1), (53, .iastore, 1), (54, .dup, 1), (55, .iconst 2, 1), (56, .iconst 3, 1), (57, .iastore, 1), (58, .dup, 1), (59, .iconst 3, 1), (60, .iconst 3, 1), (61, .iastore, 1)] := ab_da (by decide +kernel)
theorem ab_dk36_3 : ab_dp 36 [(62, .dup, 1), (63, .iconst 4, 1), (64, .iconst 3, 1), (65, .iastore, 1), (66, .putfield 19, 3), (69, .aload_n 0, 1), (70, .iconst 5, 1), (71, .newarray .int, 2), (73, .dup, 1), (74, .iconst 0, 1), (75, .iconst 2, 1), (76, .iastore, 1), (77, .dup, 1), (78, .iconst 1, 1), (79, .iconst 2, 1), (80, .iastore, 1)] := ab_da (by decide +kernel)
theorem ab_dk36_4 : ab_dp 36 [(81, .dup, 1), (82, .iconst 2, 1), (83, .iconst 2, 1), (84, .iastore, 1), (85, .dup, 1), (86, .iconst 3, 1), (87, .iconst 2, 1), (88, .iastore, 1), (89, .dup, 1), (90, .iconst 4, 1), (91, .iconst 2, 1), (92, .iastore, 1), (93, .putfield 22, 3), (96, .aload_n 0, 1), (97, .iconst (-1), 1), (98, .putfield 25, 3)] := ab_da (by decide +kernel)
theorem ab_dk36_5 : ab_dp 36 [(101, .aload_n 0, 1), (102, .iconst 5, 1), (103, .newarray .int, 2), (105, .putfield 28, 3), (108, .aload_n 0, 1), (109, .iconst 5, 1), (110, .newarray .int, 2), (112, .putfield 31, 3), (115, .aload_n 0, 1), (116, .iconst 5, 1), (117, .newarray .int, 2), (119, .putfield 34, 3), (122, .aload_n 0, 1), (123, .iconst 5, 1), (124, .newarray .int, 2), (126, .putfield 37, 3)] := ab_da (by decide +kernel)
theorem ab_dk36_6 : ab_dp 36 [(129, .aload_n 0, 1), (130, .iconst 5, 1), (131, .newarray .int, 2), (133, .putfield 40, 3), (136, .aload_n 0, 1), (137, .bipush 100, 2), (139, .newarray .int, 2), (141, .putfield 43, 3), (144, .aload_n 0, 1), (145, .iconst 5, 1), (146, .newarray .int, 2), (148, .putfield 46, 3), (151, .return_, 1)] := ab_da (by decide +kernel)
theorem ab_s36_0 : ab_Sn B 36 0 (ab_o_ald 0 1) := ab_s_aload_n (k := 0) (n := 0) ab_dk36_0.1 rfl
theorem ab_s36_1 : ab_Sn B 36 1 (ab_o_obj 4) := ab_s_obj (i := 3) ab_dk36_0.2.1 wf_77 wf_1 wf_2
theorem ab_s36_4 : ab_Sn B 36 4 (ab_o_ald 0 5) := ab_s_aload_n (k := 0) (n := 0) ab_dk36_0.2.2.1 rfl
theorem ab_s36_5 : ab_Sn B 36 5 (ab_o_const 30 7) := ab_s_bipush (n := 30) ab_dk36_0.2.2.2.1 (by decide)
theorem ab_s36_7 : ab_Sn B 36 7 (ab_o_puti 5 15 0 false 10) := ab_s_puti (b := false) (ty := .int) (i := 9) (ci := 1) (N := 15) (k := 0) (C := RX1) (T := TX1) ab_dk36_0.2.2.2.2.1 rfl (by decide) rfl wf_78 rfl (by decide +kernel) (Or.inl ⟨rfl, rfl⟩)
theorem ab_s36_10 : ab_Sn B 36 10 (ab_o_ald 0 11) := ab_s_aload_n (k := 0) (n := 0) ab_dk36_0.2.2.2.2.2.1 rfl
theorem ab_s36_11 : ab_Sn B 36 11 (ab_o_const 5 12) := ab_s_iconst (n := 5) ab_dk36_0.2.2.2.2.2.2.1 rfl
theorem ab_s36_12 : ab_Sn B 36 12 (ab_o_newa 0 14) := ab_s_newa0 ab_dk36_0.2.2.2.2.2.2.2.1 wf_3
theorem ab_s36_14 : ab_Sn B 36 14 (ab_o_dup 15) := ab_s_dup ab_dk36_0.2.2.2.2.2.2.2.2.1
theorem ab_s36_15 : ab_Sn B 36 15 (ab_o_const 0 16) := ab_s_iconst (n := 0) ab_dk36_0.2.2.2.2.2.2.2.2.2.1 rfl
theorem ab_s36_16 : ab_Sn B 36 16 (ab_o_const 10 18) := ab_s_bipush (n := 10) ab_dk36_0.2.2.2.2.2.2.2.2.2.2.1 (by decide)
theorem ab_s36_18 : ab_Sn B 36 18 (ab_o_xst 0 19) := ab_s_iastore ab_dk36_0.2.2.2.2.2.2.2.2.2.2.2.1
theorem ab_s36_19 : ab_Sn B 36 19 (ab_o_dup 20) := ab_s_dup ab_dk36_0.2.2.2.2.2.2.2.2.2.2.2.2.1
theorem ab_s36_20 : ab_Sn B 36 20 (ab_o_const 1 21) := ab_s_iconst (n := 1) ab_dk36_0.2.2.2.2.2.2.2.2.2.2.2.2.2.1 rfl
theorem ab_s36_21 : ab_Sn B 36 21 (ab_o_const 10 23) := ab_s_bipush (n := 10) ab_dk36_0.2.2.2.2.2.2.2.2.2.2.2.2.2.2.1 (by decide)
theorem ab_s36_23 : ab_Sn B 36 23 (ab_o_xst 0 24) := ab_s_iastore ab_dk36_0.2.2.2.2.2.2.2.2.2.2.2.2.2.2.2.1
theorem ab_s36_24 : ab_Sn B 36 24 (ab_o_dup 25) := ab_s_dup ab_dk36_1.1
theorem ab_s36_25 : ab_Sn B 36 25 (ab_o_const 2 26) := ab_s_iconst (n := 2) ab_dk36_1.2.1 rfl
theorem ab_s36_26 : ab_Sn B 36 26 (ab_o_const 10 28) := ab_s_bipush (n := 10) ab_dk36_1.2.2.1 (by decide)
theorem ab_s36_28 : ab_Sn B 36 28 (ab_o_xst 0 29) := ab_s_iastore ab_dk36_1.2.2.2.1
theorem ab_s36_29 : ab_Sn B 36 29 (ab_o_dup 30) := ab_s_dup ab_dk36_1.2.2.2.2.1
theorem ab_s36_30 : ab_Sn B 36 30 (ab_o_const 3 31) := ab_s_iconst (n := 3) ab_dk36_1.2.2.2.2.2.1 rfl
theorem ab_s36_31 : ab_Sn B 36 31 (ab_o_const 10 33) := ab_s_bipush (n := 10) ab_dk36_1.2.2.2.2.2.2.1 (by decide)
theorem ab_s36_33 : ab_Sn B 36 33 (ab_o_xst 0 34) := ab_s_iastore ab_dk36_1.2.2.2.2.2.2.2.1
theorem ab_s36_34 : ab_Sn B 36 34 (ab_o_dup 35) := ab_s_dup ab_dk36_1.2.2.2.2.2.2.2.2.1
theorem ab_s36_35 : ab_Sn B 36 35 (ab_o_const 4 36) := ab_s_iconst (n := 4) ab_dk36_1.2.2.2.2.2.2.2.2.2.1 rfl
theorem ab_s36_36 : ab_Sn B 36 36 (ab_o_const 10 38) := ab_s_bipush (n := 10) ab_dk36_1.2.2.2.2.2.2.2.2.2.2.1 (by decide)
theorem ab_s36_38 : ab_Sn B 36 38 (ab_o_xst 0 39) := ab_s_iastore ab_dk36_1.2.2.2.2.2.2.2.2.2.2.2.1
theorem ab_s36_39 : ab_Sn B 36 39 (ab_o_putr 5 15 3 42) := ab_s_putrF (ty := .array .int) (i := 15) (ci := 1) (N := 15) (k := 3) (C := RX1) (T := TX1) ab_dk36_1.2.2.2.2.2.2.2.2.2.2.2.2.1 rfl (by decide) rfl wf_79 rfl rfl rfl (by decide +kernel) (Or.inr ⟨_, rfl⟩)
theorem ab_s36_42 : ab_Sn B 36 42 (ab_o_ald 0 43) := ab_s_aload_n (k := 0) (n := 0) ab_dk36_1.2.2.2.2.2.2.2.2.2.2.2.2.2.1 rfl
theorem ab_s36_43 : ab_Sn B 36 43 (ab_o_const 5 44) := ab_s_iconst (n := 5) ab_dk36_1.2.2.2.2.2.2.2.2.2.2.2.2.2.2.1 rfl
theorem ab_s36_44 : ab_Sn B 36 44 (ab_o_newa 0 46) := ab_s_newa0 ab_dk36_1.2.2.2.2.2.2.2.2.2.2.2.2.2.2.2.1 wf_3
theorem ab_s36_46 : ab_Sn B 36 46 (ab_o_dup 47) := ab_s_dup ab_dk36_2.1
theorem ab_s36_47 : ab_Sn B 36 47 (ab_o_const 0 48) := ab_s_iconst (n := 0) ab_dk36_2.2.1 rfl
theorem ab_s36_48 : ab_Sn B 36 48 (ab_o_const 3 49) := ab_s_iconst (n := 3) ab_dk36_2.2.2.1 rfl
theorem ab_s36_49 : ab_Sn B 36 49 (ab_o_xst 0 50) := ab_s_iastore ab_dk36_2.2.2.2.1
theorem ab_s36_50 : ab_Sn B 36 50 (ab_o_dup 51) := ab_s_dup ab_dk36_2.2.2.2.2.1
theorem ab_s36_51 : ab_Sn B 36 51 (ab_o_const 1 52) := ab_s_iconst (n := 1) ab_dk36_2.2.2.2.2.2.1 rfl
theorem ab_s36_52 : ab_Sn B 36 52 (ab_o_const 3 53) := ab_s_iconst (n := 3) ab_dk36_2.2.2.2.2.2.2.1 rfl
theorem ab_s36_53 : ab_Sn B 36 53 (ab_o_xst 0 54) := ab_s_iastore ab_dk36_2.2.2.2.2.2.2.2.1
theorem ab_s36_54 : ab_Sn B 36 54 (ab_o_dup 55) := ab_s_dup ab_dk36_2.2.2.2.2.2.2.2.2.1
theorem ab_s36_55 : ab_Sn B 36 55 (ab_o_const 2 56) := ab_s_iconst (n := 2) ab_dk36_2.2.2.2.2.2.2.2.2.2.1 rfl
theorem ab_s36_56 : ab_Sn B 36 56 (ab_o_const 3 57) := ab_s_iconst (n := 3) ab_dk36_2.2.2.2.2.2.2.2.2.2.2.1 rfl
theorem ab_s36_57 : ab_Sn B 36 57 (ab_o_xst 0 58) := ab_s_iastore ab_dk36_2.2.2.2.2.2.2.2.2.2.2.2.1
theorem ab_s36_58 : ab_Sn B 36 58 (ab_o_dup 59) := ab_s_dup ab_dk36_2.2.2.2.2.2.2.2.2.2.2.2.2.1
theorem ab_s36_59 : ab_Sn B 36 59 (ab_o_const 3 60) := ab_s_iconst (n := 3) ab_dk36_2.2.2.2.2.2.2.2.2.2.2.2.2.2.1 rfl
theorem ab_s36_60 : ab_Sn B 36 60 (ab_o_const 3 61) := ab_s_iconst (n := 3) ab_dk36_2.2.2.2.2.2.2.2.2.2.2.2.2.2.2.1 rfl
theorem ab_s36_61 : ab_Sn B 36 61 (ab_o_xst 0 62) := ab_s_iastore ab_dk36_2.2.2.2.2.2.2.2.2.2.2.2.2.2.2.2.1
theorem ab_s36_62 : ab_Sn B 36 62 (ab_o_dup 63) := ab_s_dup ab_dk36_3.1
theorem ab_s36_63 : ab_Sn B 36 63 (ab_o_const 4 64) := ab_s_iconst (n := 4) ab_dk36_3.2.1 rfl
theorem ab_s36_64 : ab_Sn B 36 64 (ab_o_const 3 65) := ab_s_iconst (n := 3) ab_dk36_3.2.2.1 rfl
theorem ab_s36_65 : ab_Sn B 36 65 (ab_o_xst 0 66) := ab_s_iastore ab_dk36_3.2.2.2.1
theorem ab_s36_66 : ab_Sn B 36 66 (ab_o_putr 5 15 4 69) := ab_s_putrF (ty := .array .int) (i := 19) (ci := 1) (N := 15) (k := 4) (C := RX1) (T := TX1) ab_dk36_3.2.2.2.2.1 rfl (by decide) rfl wf_80 rfl rfl rfl (by decide +kernel) (Or.inr ⟨_, rfl⟩)
theorem ab_s36_69 : ab_Sn B 36 69 (ab_o_ald 0 70) := ab_s_aload_n (k := 0) (n := 0) ab_dk36_3.2.2.2.2.2.1 rfl
theorem ab_s36_70 : ab_Sn B 36 70 (ab_o_const 5 71) := ab_s_iconst (n := 5) ab_dk36_3.2.2.2.2.2.2.1 rfl
theorem ab_s36_71 : ab_Sn B 36 71 (ab_o_newa 0 73) := ab_s_newa0 ab_dk36_3.2.2.2.2.2.2.2.1 wf_3
theorem ab_s36_73 : ab_Sn B 36 73 (ab_o_dup 74) := ab_s_dup ab_dk36_3.2.2.2.2.2.2.2.2.1
theorem ab_s36_74 : ab_Sn B 36 74 (ab_o_const 0 75) := ab_s_iconst (n := 0) ab_dk36_3.2.2.2.2.2.2.2.2.2.1 rfl
theorem ab_s36_75 : ab_Sn B 36 75 (ab_o_const 2 76) := ab_s_iconst (n := 2) ab_dk36_3.2.2.2.2.2.2.2.2.2.2.1 rfl
theorem ab_s36_76 : ab_Sn B 36 76 (ab_o_xst 0 77) := ab_s_iastore ab_dk36_3.2.2.2.2.2.2.2.2.2.2.2.1
theorem ab_s36_77 : ab_Sn B 36 77 (ab_o_dup 78) := ab_s_dup ab_dk36_3.2.2.2.2.2.2.2.2.2.2.2.2.1
theorem ab_s36_78 : ab_Sn B 36 78 (ab_o_const 1 79) := ab_s_iconst (n := 1) ab_dk36_3.2.2.2.2.2.2.2.2.2.2.2.2.2.1 rfl
theorem ab_s36_79 : ab_Sn B 36 79 (ab_o_const 2 80) := ab_s_iconst (n := 2) ab_dk36_3.2.2.2.2.2.2.2.2.2.2.2.2.2.2.1 rfl
theorem ab_s36_80 : ab_Sn B 36 80 (ab_o_xst 0 81) := ab_s_iastore ab_dk36_3.2.2.2.2.2.2.2.2.2.2.2.2.2.2.2.1
theorem ab_s36_81 : ab_Sn B 36 81 (ab_o_dup 82) := ab_s_dup ab_dk36_4.1
theorem ab_s36_82 : ab_Sn B 36 82 (ab_o_const 2 83) := ab_s_iconst (n := 2) ab_dk36_4.2.1 rfl
theorem ab_s36_83 : ab_Sn B 36 83 (ab_o_const 2 84) := ab_s_iconst (n := 2) ab_dk36_4.2.2.1 rfl
theorem ab_s36_84 : ab_Sn B 36 84 (ab_o_xst 0 85) := ab_s_iastore ab_dk36_4.2.2.2.1
theorem ab_s36_85 : ab_Sn B 36 85 (ab_o_dup 86) := ab_s_dup ab_dk36_4.2.2.2.2.1
theorem ab_s36_86 : ab_Sn B 36 86 (ab_o_const 3 87) := ab_s_iconst (n := 3) ab_dk36_4.2.2.2.2.2.1 rfl
theorem ab_s36_87 : ab_Sn B 36 87 (ab_o_const 2 88) := ab_s_iconst (n := 2) ab_dk36_4.2.2.2.2.2.2.1 rfl
theorem ab_s36_88 : ab_Sn B 36 88 (ab_o_xst 0 89) := ab_s_iastore ab_dk36_4.2.2.2.2.2.2.2.1
theorem ab_s36_89 : ab_Sn B 36 89 (ab_o_dup 90) := ab_s_dup ab_dk36_4.2.2.2.2.2.2.2.2.1
theorem ab_s36_90 : ab_Sn B 36 90 (ab_o_const 4 91) := ab_s_iconst (n := 4) ab_dk36_4.2.2.2.2.2.2.2.2.2.1 rfl
theorem ab_s36_91 : ab_Sn B 36 91 (ab_o_const 2 92) := ab_s_iconst (n := 2) ab_dk36_4.2.2.2.2.2.2.2.2.2.2.1 rfl
theorem ab_s36_92 : ab_Sn B 36 92 (ab_o_xst 0 93) := ab_s_iastore ab_dk36_4.2.2.2.2.2.2.2.2.2.2.2.1
theorem ab_s36_93 : ab_Sn B 36 93 (ab_o_putr 5 15 5 96) := ab_s_putrF (ty := .array .int) (i := 22) (ci := 1) (N := 15) (k := 5) (C := RX1) (T := TX1) ab_dk36_4.2.2.2.2.2.2.2.2.2.2.2.2.1 rfl (by decide) rfl wf_81 rfl rfl rfl (by decide +kernel) (Or.inr ⟨_, rfl⟩)
theorem ab_s36_96 : ab_Sn B 36 96 (ab_o_ald 0 97) := ab_s_aload_n (k := 0) (n := 0) ab_dk36_4.2.2.2.2.2.2.2.2.2.2.2.2.2.1 rfl
theorem ab_s36_97 : ab_Sn B 36 97 (ab_o_const (-1) 98) := ab_s_iconst (n := (-1)) ab_dk36_4.2.2.2.2.2.2.2.2.2.2.2.2.2.2.1 rfl
theorem ab_s36_98 : ab_Sn B 36 98 (ab_o_puti 5 15 6 false 101) := ab_s_puti (b := false) (ty := .int) (i := 25) (ci := 1) (N := 15) (k := 6) (C := RX1) (T := TX1) ab_dk36_4.2.2.2.2.2.2.2.2.2.2.2.2.2.2.2.1 rfl (by decide) rfl wf_82 rfl (by decide +kernel) (Or.inl ⟨rfl, rfl⟩)
theorem ab_s36_101 : ab_Sn B 36 101 (ab_o_ald 0 102) := ab_s_aload_n (k := 0) (n := 0) ab_dk36_5.1 rfl
theorem ab_s36_102 : ab_Sn B 36 102 (ab_o_const 5 103) := ab_s_iconst (n := 5) ab_dk36_5.2.1 rfl
theorem ab_s36_103 : ab_Sn B 36 103 (ab_o_newa 0 105) := ab_s_newa0 ab_dk36_5.2.2.1 wf_3
theorem ab_s36_105 : ab_Sn B 36 105 (ab_o_putr 5 15 7 108) := ab_s_putrF (ty := .array .int) (i := 28) (ci := 1) (N := 15) (k := 7) (C := RX1) (T := TX1) ab_dk36_5.2.2.2.1 rfl (by decide) rfl wf_83 rfl rfl rfl (by decide +kernel) (Or.inr ⟨_, rfl⟩)
theorem ab_s36_108 : ab_Sn B 36 108 (ab_o_ald 0 109) := ab_s_aload_n (k := 0) (n := 0) ab_dk36_5.2.2.2.2.1 rfl
theorem ab_s36_109 : ab_Sn B 36 109 (ab_o_const 5 110) := ab_s_iconst (n := 5) ab_dk36_5.2.2.2.2.2.1 rfl
theorem ab_s36_110 : ab_Sn B 36 110 (ab_o_newa 0 112) := ab_s_newa0 ab_dk36_5.2.2.2.2.2.2.1 wf_3
theorem ab_s36_112 : ab_Sn B 36 112 (ab_o_putr 5 15 8 115) := ab_s_putrF (ty := .array .int) (i := 31) (ci := 1) (N := 15) (k := 8) (C := RX1) (T := TX1) ab_dk36_5.2.2.2.2.2.2.2.1 rfl (by decide) rfl wf_84 rfl rfl rfl (by decide +kernel) (Or.inr ⟨_, rfl⟩)
theorem ab_s36_115 : ab_Sn B 36 115 (ab_o_ald 0 116) := ab_s_aload_n (k := 0) (n := 0) ab_dk36_5.2.2.2.2.2.2.2.2.1 rfl
theorem ab_s36_116 : ab_Sn B 36 116 (ab_o_const 5 117) := ab_s_iconst (n := 5) ab_dk36_5.2.2.2.2.2.2.2.2.2.1 rfl
theorem ab_s36_117 : ab_Sn B 36 117 (ab_o_newa 0 119) := ab_s_newa0 ab_dk36_5.2.2.2.2.2.2.2.2.2.2.1 wf_3
theorem ab_s36_119 : ab_Sn B 36 119 (ab_o_putr 5 15 9 122) := ab_s_putrF (ty := .array .int) (i := 34) (ci := 1) (N := 15) (k := 9) (C := RX1) (T := TX1) ab_dk36_5.2.2.2.2.2.2.2.2.2.2.2.1 rfl (by decide) rfl wf_85 rfl rfl rfl (by decide +kernel) (Or.inr ⟨_, rfl⟩)
theorem ab_s36_122 : ab_Sn B 36 122 (ab_o_ald 0 123) := ab_s_aload_n (k := 0) (n := 0) ab_dk36_5.2.2.2.2.2.2.2.2.2.2.2.2.1 rfl
theorem ab_s36_123 : ab_Sn B 36 123 (ab_o_const 5 124) := ab_s_iconst (n := 5) ab_dk36_5.2.2.2.2.2.2.2.2.2.2.2.2.2.1 rfl
theorem ab_s36_124 : ab_Sn B 36 124 (ab_o_newa 0 126) := ab_s_newa0 ab_dk36_5.2.2.2.2.2.2.2.2.2.2.2.2.2.2.1 wf_3
theorem ab_s36_126 : ab_Sn B 36 126 (ab_o_putr 5 15 10 129) := ab_s_putrF (ty := .array .int) (i := 37) (ci := 1) (N := 15) (k := 10) (C := RX1) (T := TX1) ab_dk36_5.2.2.2.2.2.2.2.2.2.2.2.2.2.2.2.1 rfl (by decide) rfl wf_86 rfl rfl rfl (by decide +kernel) (Or.inr ⟨_, rfl⟩)
theorem ab_s36_129 : ab_Sn B 36 129 (ab_o_ald 0 130) := ab_s_aload_n (k := 0) (n := 0) ab_dk36_6.1 rfl
theorem ab_s36_130 : ab_Sn B 36 130 (ab_o_const 5 131) := ab_s_iconst (n := 5) ab_dk36_6.2.1 rfl
theorem ab_s36_131 : ab_Sn B 36 131 (ab_o_newa 0 133) := ab_s_newa0 ab_dk36_6.2.2.1 wf_3
theorem ab_s36_133 : ab_Sn B 36 133 (ab_o_putr 5 15 11 136) := ab_s_putrF (ty := .array .int) (i := 40) (ci := 1) (N := 15) (k := 11) (C := RX1) (T := TX1) ab_dk36_6.2.2.2.1 rfl (by decide) rfl wf_87 rfl rfl rfl (by decide +kernel) (Or.inr ⟨_, rfl⟩)
theorem ab_s36_136 : ab_Sn B 36 136 (ab_o_ald 0 137) := ab_s_aload_n (k := 0) (n := 0) ab_dk36_6.2.2.2.2.1 rfl
theorem ab_s36_137 : ab_Sn B 36 137 (ab_o_const 100 139) := ab_s_bipush (n := 100) ab_dk36_6.2.2.2.2.2.1 (by decide)
theorem ab_s36_139 : ab_Sn B 36 139 (ab_o_newa 0 141) := ab_s_newa0 ab_dk36_6.2.2.2.2.2.2.1 wf_3
theorem ab_s36_141 : ab_Sn B 36 141 (ab_o_putr 5 15 13 144) := ab_s_putrF (ty := .array .int) (i := 43) (ci := 1) (N := 15) (k := 13) (C := RX1) (T := TX1) ab_dk36_6.2.2.2.2.2.2.2.1 rfl (by decide) rfl wf_88 rfl rfl rfl (by decide +kernel) (Or.inr ⟨_, rfl⟩)
theorem ab_s36_144 : ab_Sn B 36 144 (ab_o_ald 0 145) := ab_s_aload_n (k := 0) (n := 0) ab_dk36_6.2.2.2.2.2.2.2.2.1 rfl
theorem ab_s36_145 : ab_Sn B 36 145 (ab_o_const 5 146) := ab_s_iconst (n := 5) ab_dk36_6.2.2.2.2.2.2.2.2.2.1 rfl
theorem ab_s36_146 : ab_Sn B 36 146 (ab_o_newa 0 148) := ab_s_newa0 ab_dk36_6.2.2.2.2.2.2.2.2.2.2.1 wf_3
theorem ab_s36_148 : ab_Sn B 36 148 (ab_o_putr 5 15 14 151) := ab_s_putrF (ty := .array .int) (i := 46) (ci := 1) (N := 15) (k := 14) (C := RX1) (T := TX1) ab_dk36_6.2.2.2.2.2.2.2.2.2.2.2.1 rfl (by decide) rfl wf_89 rfl rfl rfl (by decide +kernel) (Or.inr ⟨_, rfl⟩)
theorem ab_s36_151 : ab_Sn B 36 151 (ab_o_ret) := ab_s_ret ab_dk36_6.2.2.2.2.2.2.2.2.2.2.2.2.1 rfl
theorem ab_sc36_2 : ab_all B 36 128 (ab_d36_2) := ⟨trivial, ab_s36_129, ab_s36_130, ab_s36_131, trivial, ab_s36_133, trivial, trivial, ab_s36_136, ab_s36_137, trivial, ab_s36_139, trivial, ab_s36_141, trivial, trivial, ab_s36_144, ab_s36_145, ab_s36_146, trivial, ab_s36_148, trivial, trivial, ab_s36_151, trivial⟩
theorem ab_sc36_1 : ab_all B 36 64 (ab_d36_1) := ⟨ab_s36_64, ab_s36_65, ab_s36_66, trivial, trivial, ab_s36_69, ab_s36_70, ab_s36_71, trivial, ab_s36_73, ab_s36_74, ab_s36_75, ab_s36_76, ab_s36_77, ab_s36_78, ab_s36_79, ab_s36_80, ab_s36_81, ab_s36_82, ab_s36_83, ab_s36_84, ab_s36_85, ab_s36_86, ab_s36_87, ab_s36_88, ab_s36_89, ab_s36_90, ab_s36_91, ab_s36_92, ab_s36_93, trivial, trivial, ab_s36_96, ab_s36_97, ab_s36_98, trivial, trivial, ab_s36_101, ab_s36_102, ab_s36_103, trivial, ab_s36_105, trivial, trivial, ab_s36_108, ab_s36_109, ab_s36_110, trivial, ab_s36_112, trivial, trivial, ab_s36_115, ab_s36_116, ab_s36_117, trivial, ab_s36_119, trivial, trivial, ab_s36_122, ab_s36_123, ab_s36_124, trivial, ab_s36_126, trivial, ab_sc36_2⟩
theorem ab_sc36_0 : ab_all B 36 0 (ab_d36_0) := ⟨ab_s36_0, ab_s36_1, trivial, trivial, ab_s36_4, ab_s36_5, trivial, ab_s36_7, trivial, trivial, ab_s36_10, ab_s36_11, ab_s36_12, trivial, ab_s36_14, ab_s36_15, ab_s36_16, trivial, ab_s36_18, ab_s36_19, ab_s36_20, ab_s36_21, trivial, ab_s36_23, ab_s36_24, ab_s36_25, ab_s36_26, trivial, ab_s36_28, ab_s36_29, ab_s36_30, ab_s36_31, trivial, ab_s36_33, ab_s36_34, ab_s36_35, ab_s36_36, trivial, ab_s36_38, ab_s36_39, trivial, trivial, ab_s36_42, ab_s36_43, ab_s36_44, trivial, ab_s36_46, ab_s36_47, ab_s36_48, ab_s36_49, ab_s36_50, ab_s36_51, ab_s36_52, ab_s36_53, ab_s36_54, ab_s36_55, ab_s36_56, ab_s36_57, ab_s36_58, ab_s36_59, ab_s36_60, ab_s36_61, ab_s36_62, ab_s36_63, ab_sc36_1⟩
theorem ab_sn36 : ab_all B 36 0 (ab_c36) := by rw [ab_cd36]; exact ab_sc36_0
theorem ab_dk37_0 : ab_dp 37 [(0, .aload_n 0, 1), (1, .iload_n 1, 1), (2, .putfield 49, 3), (5, .aload_n 0, 1), (6, .invokevirtual 52, 3), (9, .return_, 1)] := ab_da (by decide +kernel)
theorem ab_s37_0 : ab_Sn B 37 0 (ab_o_ald 0 1) := ab_s_aload_n (k := 0) (n := 0) ab_dk37_0.1 rfl
theorem ab_s37_1 : ab_Sn B 37 1 (ab_o_ild 1 2) := ab_s_iload_n (k := 1) (n := 1) ab_dk37_0.2.1 rfl
theorem ab_s37_2 : ab_Sn B 37 2 (ab_o_puti 5 15 2 false 5) := ab_s_puti (b := false) (ty := .int) (i := 49) (ci := 1) (N := 15) (k := 2) (C := RX1) (T := TX1) ab_dk37_0.2.2.1 rfl (by decide) rfl wf_90 rfl (by decide +kernel) (Or.inl ⟨rfl, rfl⟩)
theorem ab_s37_5 : ab_Sn B 37 5 (ab_o_ald 0 6) := ab_s_aload_n (k := 0) (n := 0) ab_dk37_0.2.2.2.1 rfl
theorem ab_s37_6 : ab_Sn B 37 6 (ab_o_call (some (5, 15)) [] 52 2 1 false 9) := ab_s_callV (M' := 52) (na := 0) (i := 52) (ci := 1) (N := 15) (C := RX1) (T := TX1) (v := false) (ab_hok_n (by decide +kernel)) (by decide +kernel) ab_dk37_0.2.2.2.2.1 rfl (by decide) (by decide +kernel) (by decide +kernel) (by decide) wf_91 wf_92 wf_93 wf_95 wf_94
theorem ab_s37_9 : ab_Sn B 37 9 (ab_o_ret) := ab_s_ret ab_dk37_0.2.2.2.2.2.1 rfl
set_option maxRecDepth 20000 in
theorem ab_sn37 : ab_all B 37 0 (ab_c37) := ⟨ab_s37_0, ab_s37_1, ab_s37_2, trivial, trivial, ab_s37_5, ab_s37_6, trivial, trivial, ab_s37_9, trivial⟩
theorem ab_dk38_0 : ab_dp 38 [(0, .iload_n 1, 1), (1, .ifCond .lt 34, 3), (4, .iload_n 1, 1), (5, .iconst 5, 1), (6, .if_icmp .ge 29, 3), (9, .aload_n 0, 1), (10, .getfield 15, 3), (13, .iload_n 1, 1), (14, .iload_n 2, 1), (15, .iastore, 1), (16, .aload_n 0, 1), (17, .getfield 19, 3), (20, .iload_n 1, 1), (21, .iload_n 3, 1), (22, .iastore, 1), (23, .aload_n 0, 1)] := ab_da (by decide +kernel)
theorem ab_dk38_1 : ab_dp 38 [(24, .getfield 22, 3), (27, .iload_n 1, 1), (28, .iload 4, 2), (30, .iastore, 1), (31, .aload_n 0, 1), (32, .invokevirtual 52, 3), (35, .return_, 1)] := ab_da (by decide +kernel)
theorem ab_s38_0 : ab_Sn B 38 0 (ab_o_ild 1 1) := ab_s_iload_n (k := 1) (n := 1) ab_dk38_0.1 rfl
theorem ab_s38_1 : ab_Sn B 38 1 (ab_o_if ab_lt 35 4) := ab_s_if_lt (tg := 35) (off := 34) ab_dk38_0.2.1 (by decide)
theorem ab_s38_4 : ab_Sn B 38 4 (ab_o_ild 1 5) := ab_s_iload_n (k := 1) (n := 1) ab_dk38_0.2.2.1 rfl
theorem ab_s38_5 : ab_Sn B 38 5 (ab_o_const 5 6) := ab_s_iconst (n := 5) ab_dk38_0.2.2.2.1 rfl
theorem ab_s38_6 : ab_Sn B 38 6 (ab_o_icmp ab_ge 35 9) := ab_s_icmp_ge (tg := 35) (off := 29) ab_dk38_0.2.2.2.2.1 (by decide)
theorem ab_s38_9 : ab_Sn B 38 9 (ab_o_ald 0 10) := ab_s_aload_n (k := 0) (n := 0) ab_dk38_0.2.2.2.2.2.1 rfl
theorem ab_s38_10 : ab_Sn B 38 10 (ab_o_getr 5 15 3 13) := ab_s_getr (i := 15) (ci := 1) (N := 15) (k := 3) (C := RX1) (T := TX1) ab_dk38_0.2.2.2.2.2.2.1 rfl (by decide) rfl wf_79
theorem ab_s38_13 : ab_Sn B 38 13 (ab_o_ild 1 14) := ab_s_iload_n (k := 1) (n := 1) ab_dk38_0.2.2.2.2.2.2.2.1 rfl
theorem ab_s38_14 : ab_Sn B 38 14 (ab_o_ild 2 15) := ab_s_iload_n (k := 2) (n := 2) ab_dk38_0.2.2.2.2.2.2.2.2.1 rfl
theorem ab_s38_15 : ab_Sn B 38 15 (ab_o_xst 0 16) := ab_s_iastore ab_dk38_0.2.2.2.2.2.2.2.2.2.1
theorem ab_s38_16 : ab_Sn B 38 16 (ab_o_ald 0 17) := ab_s_aload_n (k := 0) (n := 0) ab_dk38_0.2.2.2.2.2.2.2.2.2.2.1 rfl
theorem ab_s38_17 : ab_Sn B 38 17 (ab_o_getr 5 15 4 20) := ab_s_getr (i := 19) (ci := 1) (N := 15) (k := 4) (C := RX1) (T := TX1) ab_dk38_0.2.2.2.2.2.2.2.2.2.2.2.1 rfl (by decide) rfl wf_80
theorem ab_s38_20 : ab_Sn B 38 20 (ab_o_ild 1 21) := ab_s_iload_n (k := 1) (n := 1) ab_dk38_0.2.2.2.2.2.2.2.2.2.2.2.2.1 rfl
theorem ab_s38_21 : ab_Sn B 38 21 (ab_o_ild 3 22) := ab_s_iload_n (k := 3) (n := 3) ab_dk38_0.2.2.2.2.2.2.2.2.2.2.2.2.2.1 rfl
theorem ab_s38_22 : ab_Sn B 38 22 (ab_o_xst 0 23) := ab_s_iastore ab_dk38_0.2.2.2.2.2.2.2.2.2.2.2.2.2.2.1
theorem ab_s38_23 : ab_Sn B 38 23 (ab_o_ald 0 24) := ab_s_aload_n (k := 0) (n := 0) ab_dk38_0.2.2.2.2.2.2.2.2.2.2.2.2.2.2.2.1 rfl
theorem ab_s38_24 : ab_Sn B 38 24 (ab_o_getr 5 15 5 27) := ab_s_getr (i := 22) (ci := 1) (N := 15) (k := 5) (C := RX1) (T := TX1) ab_dk38_1.1 rfl (by decide) rfl wf_81
theorem ab_s38_27 : ab_Sn B 38 27 (ab_o_ild 1 28) := ab_s_iload_n (k := 1) (n := 1) ab_dk38_1.2.1 rfl
theorem ab_s38_28 : ab_Sn B 38 28 (ab_o_ild 4 30) := ab_s_iload (k := 4) ab_dk38_1.2.2.1
theorem ab_s38_30 : ab_Sn B 38 30 (ab_o_xst 0 31) := ab_s_iastore ab_dk38_1.2.2.2.1
theorem ab_s38_31 : ab_Sn B 38 31 (ab_o_ald 0 32) := ab_s_aload_n (k := 0) (n := 0) ab_dk38_1.2.2.2.2.1 rfl
theorem ab_s38_32 : ab_Sn B 38 32 (ab_o_call (some (5, 15)) [] 52 2 1 false 35) := ab_s_callV (M' := 52) (na := 0) (i := 52) (ci := 1) (N := 15) (C := RX1) (T := TX1) (v := false) (ab_hok_n (by decide +kernel)) (by decide +kernel) ab_dk38_1.2.2.2.2.2.1 rfl (by decide) (by decide +kernel) (by decide +kernel) (by decide) wf_91 wf_92 wf_93 wf_95 wf_94
theorem ab_s38_35 : ab_Sn B 38 35 (ab_o_ret) := ab_s_ret ab_dk38_1.2.2.2.2.2.2.1 rfl
set_option maxRecDepth 20000 in
theorem ab_sn38 : ab_all B 38 0 (ab_c38) := ⟨ab_s38_0, ab_s38_1, trivial, trivial, ab_s38_4, ab_s38_5, ab_s38_6, trivial, trivial, ab_s38_9, ab_s38_10, trivial, trivial, ab_s38_13, ab_s38_14, ab_s38_15, ab_s38_16, ab_s38_17, trivial, trivial, ab_s38_20, ab_s38_21, ab_s38_22, ab_s38_23, ab_s38_24, trivial, trivial, ab_s38_27, ab_s38_28, trivial, ab_s38_30, ab_s38_31, ab_s38_32, trivial, trivial, ab_s38_35, trivial⟩
theorem ab_dk39_0 : ab_dp 39 [(0, .aload_n 0, 1), (1, .iload_n 1, 1), (2, .putfield 9, 3), (5, .aload_n 0, 1), (6, .iload_n 2, 1), (7, .putfield 55, 3), (10, .aload_n 0, 1), (11, .invokevirtual 52, 3), (14, .return_, 1)] := ab_da (by decide +kernel)
theorem ab_s39_0 : ab_Sn B 39 0 (ab_o_ald 0 1) := ab_s_aload_n (k := 0) (n := 0) ab_dk39_0.1 rfl
theorem ab_s39_1 : ab_Sn B 39 1 (ab_o_ild 1 2) := ab_s_iload_n (k := 1) (n := 1) ab_dk39_0.2.1 rfl
theorem ab_s39_2 : ab_Sn B 39 2 (ab_o_puti 5 15 0 false 5) := ab_s_puti (b := false) (ty := .int) (i := 9) (ci := 1) (N := 15) (k := 0) (C := RX1) (T := TX1) ab_dk39_0.2.2.1 rfl (by decide) rfl wf_78 rfl (by decide +kernel) (Or.inl ⟨rfl, rfl⟩)
theorem ab_s39_5 : ab_Sn B 39 5 (ab_o_ald 0 6) := ab_s_aload_n (k := 0) (n := 0) ab_dk39_0.2.2.2.1 rfl
theorem ab_s39_6 : ab_Sn B 39 6 (ab_o_ild 2 7) := ab_s_iload_n (k := 2) (n := 2) ab_dk39_0.2.2.2.2.1 rfl
theorem ab_s39_7 : ab_Sn B 39 7 (ab_o_puti 5 15 1 false 10) := ab_s_puti (b := false) (ty := .int) (i := 55) (ci := 1) (N := 15) (k := 1) (C := RX1) (T := TX1) ab_dk39_0.2.2.2.2.2.1 rfl (by decide) rfl wf_96 rfl (by decide +kernel) (Or.inl ⟨rfl, rfl⟩)
theorem ab_s39_10 : ab_Sn B 39 10 (ab_o_ald 0 11) := ab_s_aload_n (k := 0) (n := 0) ab_dk39_0.2.2.2.2.2.2.1 rfl
theorem ab_s39_11 : ab_Sn B 39 11 (ab_o_call (some (5, 15)) [] 52 2 1 false 14) := ab_s_callV (M' := 52) (na := 0) (i := 52) (ci := 1) (N := 15) (C := RX1) (T := TX1) (v := false) (ab_hok_n (by decide +kernel)) (by decide +kernel) ab_dk39_0.2.2.2.2.2.2.2.1 rfl (by decide) (by decide +kernel) (by decide +kernel) (by decide) wf_91 wf_92 wf_93 wf_95 wf_94
theorem ab_s39_14 : ab_Sn B 39 14 (ab_o_ret) := ab_s_ret ab_dk39_0.2.2.2.2.2.2.2.2.1 rfl
set_option maxRecDepth 20000 in
theorem ab_sn39 : ab_all B 39 0 (ab_c39) := ⟨ab_s39_0, ab_s39_1, ab_s39_2, trivial, trivial, ab_s39_5, ab_s39_6, ab_s39_7, trivial, trivial, ab_s39_10, ab_s39_11, trivial, trivial, ab_s39_14, trivial⟩
theorem ab_dk40_0 : ab_dp 40 [(0, .iload_n 1, 1), (1, .ifCond .lt 17, 3), (4, .iload_n 1, 1), (5, .iconst 5, 1), (6, .if_icmp .ge 12, 3), (9, .aload_n 0, 1), (10, .getfield 15, 3), (13, .iload_n 1, 1), (14, .iaload, 1), (15, .goto 4, 3), (18, .iconst 0, 1), (19, .ireturn, 1)] := ab_da (by decide +kernel)
theorem ab_s40_0 : ab_Sn B 40 0 (ab_o_ild 1 1) := ab_s_iload_n (k := 1) (n := 1) ab_dk40_0.1 rfl
theorem ab_s40_1 : ab_Sn B 40 1 (ab_o_if ab_lt 18 4) := ab_s_if_lt (tg := 18) (off := 17) ab_dk40_0.2.1 (by decide)
theorem ab_s40_4 : ab_Sn B 40 4 (ab_o_ild 1 5) := ab_s_iload_n (k := 1) (n := 1) ab_dk40_0.2.2.1 rfl
theorem ab_s40_5 : ab_Sn B 40 5 (ab_o_const 5 6) := ab_s_iconst (n := 5) ab_dk40_0.2.2.2.1 rfl
theorem ab_s40_6 : ab_Sn B 40 6 (ab_o_icmp ab_ge 18 9) := ab_s_icmp_ge (tg := 18) (off := 12) ab_dk40_0.2.2.2.2.1 (by decide)
theorem ab_s40_9 : ab_Sn B 40 9 (ab_o_ald 0 10) := ab_s_aload_n (k := 0) (n := 0) ab_dk40_0.2.2.2.2.2.1 rfl
theorem ab_s40_10 : ab_Sn B 40 10 (ab_o_getr 5 15 3 13) := ab_s_getr (i := 15) (ci := 1) (N := 15) (k := 3) (C := RX1) (T := TX1) ab_dk40_0.2.2.2.2.2.2.1 rfl (by decide) rfl wf_79
theorem ab_s40_13 : ab_Sn B 40 13 (ab_o_ild 1 14) := ab_s_iload_n (k := 1) (n := 1) ab_dk40_0.2.2.2.2.2.2.2.1 rfl
theorem ab_s40_14 : ab_Sn B 40 14 (ab_o_xld 0 15) := ab_s_iaload ab_dk40_0.2.2.2.2.2.2.2.2.1
theorem ab_s40_15 : ab_Sn B 40 15 (ab_o_goto 19) := ab_s_goto (tg := 19) (off := 4) ab_dk40_0.2.2.2.2.2.2.2.2.2.1 (by decide)
theorem ab_s40_18 : ab_Sn B 40 18 (ab_o_const 0 19) := ab_s_iconst (n := 0) ab_dk40_0.2.2.2.2.2.2.2.2.2.2.1 rfl
theorem ab_s40_19 : ab_Sn B 40 19 (ab_o_iret false) := ab_s_iret (b := false) (ty := .int) ab_dk40_0.2.2.2.2.2.2.2.2.2.2.2.1 rfl (Or.inl ⟨rfl, rfl⟩)
set_option maxRecDepth 20000 in
theorem ab_sn40 : ab_all B 40 0 (ab_c40) := ⟨ab_s40_0, ab_s40_1, trivial, trivial, ab_s40_4, ab_s40_5, ab_s40_6, trivial, trivial, ab_s40_9, ab_s40_10, trivial, trivial, ab_s40_13, ab_s40_14, ab_s40_15, trivial, trivial, ab_s40_18, ab_s40_19, trivial⟩
theorem ab_dk41_0 : ab_dp 41 [(0, .iload_n 1, 1), (1, .ifCond .lt 17, 3), (4, .iload_n 1, 1), (5, .iconst 5, 1), (6, .if_icmp .ge 12, 3), (9, .aload_n 0, 1), (10, .getfield 19, 3), (13, .iload_n 1, 1), (14, .iaload, 1), (15, .goto 4, 3), (18, .iconst 0, 1), (19, .ireturn, 1)] := ab_da (by decide +kernel)
theorem ab_s41_0 : ab_Sn B 41 0 (ab_o_ild 1 1) := ab_s_iload_n (k := 1) (n := 1) ab_dk41_0.1 rfl
theorem ab_s41_1 : ab_Sn B 41 1 (ab_o_if ab_lt 18 4) := ab_s_if_lt (tg := 18) (off := 17) ab_dk41_0.2.1 (by decide)
theorem ab_s41_4 : ab_Sn B 41 4 (ab_o_ild 1 5) := ab_s_iload_n (k := 1) (n := 1) ab_dk41_0.2.2.1 rfl
theorem ab_s41_5 : ab_Sn B 41 5 (ab_o_const 5 6) := ab_s_iconst (n := 5) ab_dk41_0.2.2.2.1 rfl
theorem ab_s41_6 : ab_Sn B 41 6 (ab_o_icmp ab_ge 18 9) := ab_s_icmp_ge (tg := 18) (off := 12) ab_dk41_0.2.2.2.2.1 (by decide)
theorem ab_s41_9 : ab_Sn B 41 9 (ab_o_ald 0 10) := ab_s_aload_n (k := 0) (n := 0) ab_dk41_0.2.2.2.2.2.1 rfl
theorem ab_s41_10 : ab_Sn B 41 10 (ab_o_getr 5 15 4 13) := ab_s_getr (i := 19) (ci := 1) (N := 15) (k := 4) (C := RX1) (T := TX1) ab_dk41_0.2.2.2.2.2.2.1 rfl (by decide) rfl wf_80
theorem ab_s41_13 : ab_Sn B 41 13 (ab_o_ild 1 14) := ab_s_iload_n (k := 1) (n := 1) ab_dk41_0.2.2.2.2.2.2.2.1 rfl
theorem ab_s41_14 : ab_Sn B 41 14 (ab_o_xld 0 15) := ab_s_iaload ab_dk41_0.2.2.2.2.2.2.2.2.1
theorem ab_s41_15 : ab_Sn B 41 15 (ab_o_goto 19) := ab_s_goto (tg := 19) (off := 4) ab_dk41_0.2.2.2.2.2.2.2.2.2.1 (by decide)
theorem ab_s41_18 : ab_Sn B 41 18 (ab_o_const 0 19) := ab_s_iconst (n := 0) ab_dk41_0.2.2.2.2.2.2.2.2.2.2.1 rfl
theorem ab_s41_19 : ab_Sn B 41 19 (ab_o_iret false) := ab_s_iret (b := false) (ty := .int) ab_dk41_0.2.2.2.2.2.2.2.2.2.2.2.1 rfl (Or.inl ⟨rfl, rfl⟩)
set_option maxRecDepth 20000 in
theorem ab_sn41 : ab_all B 41 0 (ab_c41) := ⟨ab_s41_0, ab_s41_1, trivial, trivial, ab_s41_4, ab_s41_5, ab_s41_6, trivial, trivial, ab_s41_9, ab_s41_10, trivial, trivial, ab_s41_13, ab_s41_14, ab_s41_15, trivial, trivial, ab_s41_18, ab_s41_19, trivial⟩
theorem ab_dk42_0 : ab_dp 42 [(0, .iload_n 1, 1), (1, .ifCond .lt 17, 3), (4, .iload_n 1, 1), (5, .iconst 5, 1), (6, .if_icmp .ge 12, 3), (9, .aload_n 0, 1), (10, .getfield 22, 3), (13, .iload_n 1, 1), (14, .iaload, 1), (15, .goto 4, 3), (18, .iconst 0, 1), (19, .ireturn, 1)] := ab_da (by decide +kernel)
theorem ab_s42_0 : ab_Sn B 42 0 (ab_o_ild 1 1) := ab_s_iload_n (k := 1) (n := 1) ab_dk42_0.1 rfl
theorem ab_s42_1 : ab_Sn B 42 1 (ab_o_if ab_lt 18 4) := ab_s_if_lt (tg := 18) (off := 17) ab_dk42_0.2.1 (by decide)
theorem ab_s42_4 : ab_Sn B 42 4 (ab_o_ild 1 5) := ab_s_iload_n (k := 1) (n := 1) ab_dk42_0.2.2.1 rfl
theorem ab_s42_5 : ab_Sn B 42 5 (ab_o_const 5 6) := ab_s_iconst (n := 5) ab_dk42_0.2.2.2.1 rfl
theorem ab_s42_6 : ab_Sn B 42 6 (ab_o_icmp ab_ge 18 9) := ab_s_icmp_ge (tg := 18) (off := 12) ab_dk42_0.2.2.2.2.1 (by decide)
theorem ab_s42_9 : ab_Sn B 42 9 (ab_o_ald 0 10) := ab_s_aload_n (k := 0) (n := 0) ab_dk42_0.2.2.2.2.2.1 rfl
theorem ab_s42_10 : ab_Sn B 42 10 (ab_o_getr 5 15 5 13) := ab_s_getr (i := 22) (ci := 1) (N := 15) (k := 5) (C := RX1) (T := TX1) ab_dk42_0.2.2.2.2.2.2.1 rfl (by decide) rfl wf_81
theorem ab_s42_13 : ab_Sn B 42 13 (ab_o_ild 1 14) := ab_s_iload_n (k := 1) (n := 1) ab_dk42_0.2.2.2.2.2.2.2.1 rfl
theorem ab_s42_14 : ab_Sn B 42 14 (ab_o_xld 0 15) := ab_s_iaload ab_dk42_0.2.2.2.2.2.2.2.2.1
theorem ab_s42_15 : ab_Sn B 42 15 (ab_o_goto 19) := ab_s_goto (tg := 19) (off := 4) ab_dk42_0.2.2.2.2.2.2.2.2.2.1 (by decide)
theorem ab_s42_18 : ab_Sn B 42 18 (ab_o_const 0 19) := ab_s_iconst (n := 0) ab_dk42_0.2.2.2.2.2.2.2.2.2.2.1 rfl
theorem ab_s42_19 : ab_Sn B 42 19 (ab_o_iret false) := ab_s_iret (b := false) (ty := .int) ab_dk42_0.2.2.2.2.2.2.2.2.2.2.2.1 rfl (Or.inl ⟨rfl, rfl⟩)
set_option maxRecDepth 20000 in
theorem ab_sn42 : ab_all B 42 0 (ab_c42) := ⟨ab_s42_0, ab_s42_1, trivial, trivial, ab_s42_4, ab_s42_5, ab_s42_6, trivial, trivial, ab_s42_9, ab_s42_10, trivial, trivial, ab_s42_13, ab_s42_14, ab_s42_15, trivial, trivial, ab_s42_18, ab_s42_19, trivial⟩
theorem ab_dk43_0 : ab_dp 43 [(0, .aload_n 0, 1), (1, .getfield 25, 3), (4, .ireturn, 1)] := ab_da (by decide +kernel)
theorem ab_s43_0 : ab_Sn B 43 0 (ab_o_ald 0 1) := ab_s_aload_n (k := 0) (n := 0) ab_dk43_0.1 rfl
theorem ab_s43_1 : ab_Sn B 43 1 (ab_o_geti 5 15 6 4) := ab_s_geti (i := 25) (ci := 1) (N := 15) (k := 6) (C := RX1) (T := TX1) ab_dk43_0.2.1 rfl (by decide) rfl wf_82
theorem ab_s43_4 : ab_Sn B 43 4 (ab_o_iret false) := ab_s_iret (b := false) (ty := .int) ab_dk43_0.2.2.1 rfl (Or.inl ⟨rfl, rfl⟩)
set_option maxRecDepth 20000 in
theorem ab_sn43 : ab_all B 43 0 (ab_c43) := ⟨ab_s43_0, ab_s43_1, trivial, trivial, ab_s43_4, trivial⟩
theorem ab_dk44_0 : ab_dp 44 [(0, .aload_n 0, 1), (1, .getfield 25, 3), (4, .iconst (-1), 1), (5, .if_icmp .eq 21, 3), (8, .iload_n 1, 1), (9, .ifCond .lt 17, 3), (12, .iload_n 1, 1), (13, .iconst 5, 1), (14, .if_icmp .ge 12, 3), (17, .aload_n 0, 1), (18, .getfield 28, 3), (21, .iload_n 1, 1), (22, .iaload, 1), (23, .goto 4, 3), (26, .iconst (-1), 1), (27, .ireturn, 1)] := ab_da (by decide +kernel)
theorem ab_s44_0 : ab_Sn B 44 0 (ab_o_ald 0 1) := ab_s_aload_n (k := 0) (n := 0) ab_dk44_0.1 rfl
theorem ab_s44_1 : ab_Sn B 44 1 (ab_o_geti 5 15 6 4) := ab_s_geti (i := 25) (ci := 1) (N := 15) (k := 6) (C := RX1) (T := TX1) ab_dk44_0.2.1 rfl (by decide) rfl wf_82
theorem ab_s44_4 : ab_Sn B 44 4 (ab_o_const (-1) 5) := ab_s_iconst (n := (-1)) ab_dk44_0.2.2.1 rfl
theorem ab_s44_5 : ab_Sn B 44 5 (ab_o_icmp ab_eq 26 8) := ab_s_icmp_eq (tg := 26) (off := 21) ab_dk44_0.2.2.2.1 (by decide)
theorem ab_s44_8 : ab_Sn B 44 8 (ab_o_ild 1 9) := ab_s_iload_n (k := 1) (n := 1) ab_dk44_0.2.2.2.2.1 rfl
theorem ab_s44_9 : ab_Sn B 44 9 (ab_o_if ab_lt 26 12) := ab_s_if_lt (tg := 26) (off := 17) ab_dk44_0.2.2.2.2.2.1 (by decide)
theorem ab_s44_12 : ab_Sn B 44 12 (ab_o_ild 1 13) := ab_s_iload_n (k := 1) (n := 1) ab_dk44_0.2.2.2.2.2.2.1 rfl
theorem ab_s44_13 : ab_Sn B 44 13 (ab_o_const 5 14) := ab_s_iconst (n := 5) ab_dk44_0.2.2.2.2.2.2.2.1 rfl
theorem ab_s44_14 : ab_Sn B 44 14 (ab_o_icmp ab_ge 26 17) := ab_s_icmp_ge (tg := 26) (off := 12) ab_dk44_0.2.2.2.2.2.2.2.2.1 (by decide)
theorem ab_s44_17 : ab_Sn B 44 17 (ab_o_ald 0 18) := ab_s_aload_n (k := 0) (n := 0) ab_dk44_0.2.2.2.2.2.2.2.2.2.1 rfl
theorem ab_s44_18 : ab_Sn B 44 18 (ab_o_getr 5 15 7 21) := ab_s_getr (i := 28) (ci := 1) (N := 15) (k := 7) (C := RX1) (T := TX1) ab_dk44_0.2.2.2.2.2.2.2.2.2.2.1 rfl (by decide) rfl wf_83
theorem ab_s44_21 : ab_Sn B 44 21 (ab_o_ild 1 22) := ab_s_iload_n (k := 1) (n := 1) ab_dk44_0.2.2.2.2.2.2.2.2.2.2.2.1 rfl
theorem ab_s44_22 : ab_Sn B 44 22 (ab_o_xld 0 23) := ab_s_iaload ab_dk44_0.2.2.2.2.2.2.2.2.2.2.2.2.1
theorem ab_s44_23 : ab_Sn B 44 23 (ab_o_goto 27) := ab_s_goto (tg := 27) (off := 4) ab_dk44_0.2.2.2.2.2.2.2.2.2.2.2.2.2.1 (by decide)
theorem ab_s44_26 : ab_Sn B 44 26 (ab_o_const (-1) 27) := ab_s_iconst (n := (-1)) ab_dk44_0.2.2.2.2.2.2.2.2.2.2.2.2.2.2.1 rfl
theorem ab_s44_27 : ab_Sn B 44 27 (ab_o_iret false) := ab_s_iret (b := false) (ty := .int) ab_dk44_0.2.2.2.2.2.2.2.2.2.2.2.2.2.2.2.1 rfl (Or.inl ⟨rfl, rfl⟩)
set_option maxRecDepth 20000 in
theorem ab_sn44 : ab_all B 44 0 (ab_c44) := ⟨ab_s44_0, ab_s44_1, trivial, trivial, ab_s44_4, ab_s44_5, trivial, trivial, ab_s44_8, ab_s44_9, trivial, trivial, ab_s44_12, ab_s44_13, ab_s44_14, trivial, trivial, ab_s44_17, ab_s44_18, trivial, trivial, ab_s44_21, ab_s44_22, ab_s44_23, trivial, trivial, ab_s44_26, ab_s44_27, trivial⟩
theorem ab_dk45_0 : ab_dp 45 [(0, .aload_n 0, 1), (1, .getfield 25, 3), (4, .iconst (-1), 1), (5, .if_icmp .eq 21, 3), (8, .iload_n 1, 1), (9, .ifCond .lt 17, 3), (12, .iload_n 1, 1), (13, .iconst 5, 1), (14, .if_icmp .ge 12, 3), (17, .aload_n 0, 1), (18, .getfield 31, 3), (21, .iload_n 1, 1), (22, .iaload, 1), (23, .goto 4, 3), (26, .iconst (-1), 1), (27, .ireturn, 1)] := ab_da (by decide +kernel)
theorem ab_s45_0 : ab_Sn B 45 0 (ab_o_ald 0 1) := ab_s_aload_n (k := 0) (n := 0) ab_dk45_0.1 rfl
theorem ab_s45_1 : ab_Sn B 45 1 (ab_o_geti 5 15 6 4) := ab_s_geti (i := 25) (ci := 1) (N := 15) (k := 6) (C := RX1) (T := TX1) ab_dk45_0.2.1 rfl (by decide) rfl wf_82
theorem ab_s45_4 : ab_Sn B 45 4 (ab_o_const (-1) 5) := ab_s_iconst (n := (-1)) ab_dk45_0.2.2.1 rfl
theorem ab_s45_5 : ab_Sn B 45 5 (ab_o_icmp ab_eq 26 8) := ab_s_icmp_eq (tg := 26) (off := 21) ab_dk45_0.2.2.2.1 (by decide)
theorem ab_s45_8 : ab_Sn B 45 8 (ab_o_ild 1 9) := ab_s_iload_n (k := 1) (n := 1) ab_dk45_0.2.2.2.2.1 rfl
theorem ab_s45_9 : ab_Sn B 45 9 (ab_o_if ab_lt 26 12) := ab_s_if_lt (tg := 26) (off := 17) ab_dk45_0.2.2.2.2.2.1 (by decide)
theorem ab_s45_12 : ab_Sn B 45 12 (ab_o_ild 1 13) := ab_s_iload_n (k := 1) (n := 1) ab_dk45_0.2.2.2.2.2.2.1 rfl
theorem ab_s45_13 : ab_Sn B 45 13 (ab_o_const 5 14) := ab_s_iconst (n := 5) ab_dk45_0.2.2.2.2.2.2.2.1 rfl
theorem ab_s45_14 : ab_Sn B 45 14 (ab_o_icmp ab_ge 26 17) := ab_s_icmp_ge (tg := 26) (off := 12) ab_dk45_0.2.2.2.2.2.2.2.2.1 (by decide)
theorem ab_s45_17 : ab_Sn B 45 17 (ab_o_ald 0 18) := ab_s_aload_n (k := 0) (n := 0) ab_dk45_0.2.2.2.2.2.2.2.2.2.1 rfl
theorem ab_s45_18 : ab_Sn B 45 18 (ab_o_getr 5 15 8 21) := ab_s_getr (i := 31) (ci := 1) (N := 15) (k := 8) (C := RX1) (T := TX1) ab_dk45_0.2.2.2.2.2.2.2.2.2.2.1 rfl (by decide) rfl wf_84
theorem ab_s45_21 : ab_Sn B 45 21 (ab_o_ild 1 22) := ab_s_iload_n (k := 1) (n := 1) ab_dk45_0.2.2.2.2.2.2.2.2.2.2.2.1 rfl
theorem ab_s45_22 : ab_Sn B 45 22 (ab_o_xld 0 23) := ab_s_iaload ab_dk45_0.2.2.2.2.2.2.2.2.2.2.2.2.1
theorem ab_s45_23 : ab_Sn B 45 23 (ab_o_goto 27) := ab_s_goto (tg := 27) (off := 4) ab_dk45_0.2.2.2.2.2.2.2.2.2.2.2.2.2.1 (by decide)
theorem ab_s45_26 : ab_Sn B 45 26 (ab_o_const (-1) 27) := ab_s_iconst (n := (-1)) ab_dk45_0.2.2.2.2.2.2.2.2.2.2.2.2.2.2.1 rfl
theorem ab_s45_27 : ab_Sn B 45 27 (ab_o_iret false) := ab_s_iret (b := false) (ty := .int) ab_dk45_0.2.2.2.2.2.2.2.2.2.2.2.2.2.2.2.1 rfl (Or.inl ⟨rfl, rfl⟩)
set_option maxRecDepth 20000 in
theorem ab_sn45 : ab_all B 45 0 (ab_c45) := ⟨ab_s45_0, ab_s45_1, trivial, trivial, ab_s45_4, ab_s45_5, trivial, trivial, ab_s45_8, ab_s45_9, trivial, trivial, ab_s45_12, ab_s45_13, ab_s45_14, trivial, trivial, ab_s45_17, ab_s45_18, trivial, trivial, ab_s45_21, ab_s45_22, ab_s45_23, trivial, trivial, ab_s45_26, ab_s45_27, trivial⟩
theorem ab_dk46_0 : ab_dp 46 [(0, .aload_n 0, 1), (1, .getfield 25, 3), (4, .iconst (-1), 1), (5, .if_icmp .ne 7, 3), (8, .iconst (-1), 1), (9, .goto 12, 3), (12, .aload_n 0, 1), (13, .aload_n 0, 1), (14, .getfield 28, 3), (17, .iload_n 1, 1), (18, .invokevirtual 58, 3), (21, .ireturn, 1)] := ab_da (by decide +kernel)
theorem ab_s46_0 : ab_Sn B 46 0 (ab_o_ald 0 1) := ab_s_aload_n (k := 0) (n := 0) ab_dk46_0.1 rfl
theorem ab_s46_1 : ab_Sn B 46 1 (ab_o_geti 5 15 6 4) := ab_s_geti (i := 25) (ci := 1) (N := 15) (k := 6) (C := RX1) (T := TX1) ab_dk46_0.2.1 rfl (by decide) rfl wf_82
theorem ab_s46_4 : ab_Sn B 46 4 (ab_o_const (-1) 5) := ab_s_iconst (n := (-1)) ab_dk46_0.2.2.1 rfl
theorem ab_s46_5 : ab_Sn B 46 5 (ab_o_icmp ab_ne 12 8) := ab_s_icmp_ne (tg := 12) (off := 7) ab_dk46_0.2.2.2.1 (by decide)
theorem ab_s46_8 : ab_Sn B 46 8 (ab_o_const (-1) 9) := ab_s_iconst (n := (-1)) ab_dk46_0.2.2.2.2.1 rfl
theorem ab_s46_9 : ab_Sn B 46 9 (ab_o_goto 21) := ab_s_goto (tg := 21) (off := 12) ab_dk46_0.2.2.2.2.2.1 (by decide)
theorem ab_s46_12 : ab_Sn B 46 12 (ab_o_ald 0 13) := ab_s_aload_n (k := 0) (n := 0) ab_dk46_0.2.2.2.2.2.2.1 rfl
theorem ab_s46_13 : ab_Sn B 46 13 (ab_o_ald 0 14) := ab_s_aload_n (k := 0) (n := 0) ab_dk46_0.2.2.2.2.2.2.2.1 rfl
theorem ab_s46_14 : ab_Sn B 46 14 (ab_o_getr 5 15 7 17) := ab_s_getr (i := 28) (ci := 1) (N := 15) (k := 7) (C := RX1) (T := TX1) ab_dk46_0.2.2.2.2.2.2.2.2.1 rfl (by decide) rfl wf_83
theorem ab_s46_17 : ab_Sn B 46 17 (ab_o_ild 1 18) := ab_s_iload_n (k := 1) (n := 1) ab_dk46_0.2.2.2.2.2.2.2.2.2.1 rfl
theorem ab_s46_18 : ab_Sn B 46 18 (ab_o_call (some (5, 15)) [] 49 5 3 true 21) := ab_s_callV (M' := 49) (na := 2) (i := 58) (ci := 1) (N := 15) (C := RX1) (T := TX1) (v := true) (ab_hok_n (by decide +kernel)) (by decide +kernel) ab_dk46_0.2.2.2.2.2.2.2.2.2.2.1 rfl (by decide) (by decide +kernel) (by decide +kernel) (by decide) wf_97 wf_98 wf_99 wf_100 wf_94
theorem ab_s46_21 : ab_Sn B 46 21 (ab_o_iret false) := ab_s_iret (b := false) (ty := .int) ab_dk46_0.2.2.2.2.2.2.2.2.2.2.2.1 rfl (Or.inl ⟨rfl, rfl⟩)
set_option maxRecDepth 20000 in
theorem ab_sn46 : ab_all B 46 0 (ab_c46) := ⟨ab_s46_0, ab_s46_1, trivial, trivial, ab_s46_4, ab_s46_5, trivial, trivial, ab_s46_8, ab_s46_9, trivial, trivial, ab_s46_12, ab_s46_13, ab_s46_14, trivial, trivial, ab_s46_17, ab_s46_18, trivial, trivial, ab_s46_21, trivial⟩
theorem ab_dk47_0 : ab_dp 47 [(0, .aload_n 0, 1), (1, .getfield 25, 3), (4, .iconst (-1), 1), (5, .if_icmp .eq 18, 3), (8, .aload_n 0, 1), (9, .aload_n 0, 1), (10, .getfield 28, 3), (13, .invokevirtual 62, 3), (16, .ifCond .eq 7, 3), (19, .iconst 1, 1), (20, .goto 4, 3), (23, .iconst 0, 1), (24, .ireturn, 1)] := ab_da (by decide +kernel)
theorem ab_s47_0 : ab_Sn B 47 0 (ab_o_ald 0 1) := ab_s_aload_n (k := 0) (n := 0) ab_dk47_0.1 rfl
theorem ab_s47_1 : ab_Sn B 47 1 (ab_o_geti 5 15 6 4) := ab_s_geti (i := 25) (ci := 1) (N := 15) (k := 6) (C := RX1) (T := TX1) ab_dk47_0.2.1 rfl (by decide) rfl wf_82
theorem ab_s47_4 : ab_Sn B 47 4 (ab_o_const (-1) 5) := ab_s_iconst (n := (-1)) ab_dk47_0.2.2.1 rfl
theorem ab_s47_5 : ab_Sn B 47 5 (ab_o_icmp ab_eq 23 8) := ab_s_icmp_eq (tg := 23) (off := 18) ab_dk47_0.2.2.2.1 (by decide)
theorem ab_s47_8 : ab_Sn B 47 8 (ab_o_ald 0 9) := ab_s_aload_n (k := 0) (n := 0) ab_dk47_0.2.2.2.2.1 rfl
theorem ab_s47_9 : ab_Sn B 47 9 (ab_o_ald 0 10) := ab_s_aload_n (k := 0) (n := 0) ab_dk47_0.2.2.2.2.2.1 rfl
theorem ab_s47_10 : ab_Sn B 47 10 (ab_o_getr 5 15 7 13) := ab_s_getr (i := 28) (ci := 1) (N := 15) (k := 7) (C := RX1) (T := TX1) ab_dk47_0.2.2.2.2.2.2.1 rfl (by decide) rfl wf_83
theorem ab_s47_13 : ab_Sn B 47 13 (ab_o_call (some (5, 15)) [] 51 4 2 true 16) := ab_s_callV (M' := 51) (na := 1) (i := 62) (ci := 1) (N := 15) (C := RX1) (T := TX1) (v := true) (ab_hok_n (by decide +kernel)) (by decide +kernel) ab_dk47_0.2.2.2.2.2.2.2.1 rfl (by decide) (by decide +kernel) (by decide +kernel) (by decide) wf_101 wf_102 wf_103 wf_104 wf_94
theorem ab_s47_16 : ab_Sn B 47 16 (ab_o_if ab_eq 23 19) := ab_s_if_eq (tg := 23) (off := 7) ab_dk47_0.2.2.2.2.2.2.2.2.1 (by decide)
theorem ab_s47_19 : ab_Sn B 47 19 (ab_o_const 1 20) := ab_s_iconst (n := 1) ab_dk47_0.2.2.2.2.2.2.2.2.2.1 rfl
theorem ab_s47_20 : ab_Sn B 47 20 (ab_o_goto 24) := ab_s_goto (tg := 24) (off := 4) ab_dk47_0.2.2.2.2.2.2.2.2.2.2.1 (by decide)
theorem ab_s47_23 : ab_Sn B 47 23 (ab_o_const 0 24) := ab_s_iconst (n := 0) ab_dk47_0.2.2.2.2.2.2.2.2.2.2.2.1 rfl
theorem ab_s47_24 : ab_Sn B 47 24 (ab_o_iret true) := ab_s_iret (b := true) (ty := .boolean) ab_dk47_0.2.2.2.2.2.2.2.2.2.2.2.2.1 rfl (Or.inr (Or.inl ⟨rfl, rfl⟩))
set_option maxRecDepth 20000 in
theorem ab_sn47 : ab_all B 47 0 (ab_c47) := ⟨ab_s47_0, ab_s47_1, trivial, trivial, ab_s47_4, ab_s47_5, trivial, trivial, ab_s47_8, ab_s47_9, ab_s47_10, trivial, trivial, ab_s47_13, trivial, trivial, ab_s47_16, trivial, trivial, ab_s47_19, ab_s47_20, trivial, trivial, ab_s47_23, ab_s47_24, trivial⟩
theorem ab_dk48_0 : ab_dp 48 [(0, .iconst 0, 1), (1, .istore_n 2, 1), (2, .iconst (-1), 1), (3, .istore_n 3, 1), (4, .iconst 0, 1), (5, .istore 4, 2), (7, .iload 4, 2), (9, .aload_n 0, 1), (10, .getfield 49, 3), (13, .if_icmp .ge 29, 3), (16, .iload 4, 2), (18, .iconst 5, 1), (19, .if_icmp .ge 23, 3), (22, .aload_n 0, 1), (23, .getfield 46, 3), (26, .iload 4, 2)] := ab_da (by decide +kernel)
theorem ab_dk48_1 : ab_dp 48 [(28, .iload_n 2, 1), (29, .iastore, 1), (30, .iload_n 2, 1), (31, .istore_n 3, 1), (32, .iload_n 2, 1), (33, .iload_n 1, 1), (34, .iadd, 1), (35, .istore_n 2, 1), (36, .iinc 4 1, 3), (39, .goto (-32), 3), (42, .aload_n 0, 1), (43, .aload_n 0, 1), (44, .getfield 46, 3), (47, .invokevirtual 62, 3), (50, .ifCond .eq 7, 3), (53, .iconst (-1), 1)] := ab_da (by decide +kernel)
theorem ab_dk48_2 : ab_dp 48 [(54, .goto 4, 3), (57, .iload_n 3, 1), (58, .ireturn, 1)] := ab_da (by decide +kernel)
theorem ab_s48_0 : ab_Sn B 48 0 (ab_o_const 0 1) := ab_s_iconst (n := 0) ab_dk48_0.1 rfl
theorem ab_s48_1 : ab_Sn B 48 1 (ab_o_ist 2 2) := ab_s_istore_n (k := 2) (n := 2) ab_dk48_0.2.1 rfl
theorem ab_s48_2 : ab_Sn B 48 2 (ab_o_const (-1) 3) := ab_s_iconst (n := (-1)) ab_dk48_0.2.2.1 rfl
theorem ab_s48_3 : ab_Sn B 48 3 (ab_o_ist 3 4) := ab_s_istore_n (k := 3) (n := 3) ab_dk48_0.2.2.2.1 rfl
theorem ab_s48_4 : ab_Sn B 48 4 (ab_o_const 0 5) := ab_s_iconst (n := 0) ab_dk48_0.2.2.2.2.1 rfl
theorem ab_s48_5 : ab_Sn B 48 5 (ab_o_ist 4 7) := ab_s_istore (k := 4) ab_dk48_0.2.2.2.2.2.1
theorem ab_s48_7 : ab_Sn B 48 7 (ab_o_ild 4 9) := ab_s_iload (k := 4) ab_dk48_0.2.2.2.2.2.2.1
theorem ab_s48_9 : ab_Sn B 48 9 (ab_o_ald 0 10) := ab_s_aload_n (k := 0) (n := 0) ab_dk48_0.2.2.2.2.2.2.2.1 rfl
theorem ab_s48_10 : ab_Sn B 48 10 (ab_o_geti 5 15 2 13) := ab_s_geti (i := 49) (ci := 1) (N := 15) (k := 2) (C := RX1) (T := TX1) ab_dk48_0.2.2.2.2.2.2.2.2.1 rfl (by decide) rfl wf_90
theorem ab_s48_13 : ab_Sn B 48 13 (ab_o_icmp ab_ge 42 16) := ab_s_icmp_ge (tg := 42) (off := 29) ab_dk48_0.2.2.2.2.2.2.2.2.2.1 (by decide)
theorem ab_s48_16 : ab_Sn B 48 16 (ab_o_ild 4 18) := ab_s_iload (k := 4) ab_dk48_0.2.2.2.2.2.2.2.2.2.2.1
theorem ab_s48_18 : ab_Sn B 48 18 (ab_o_const 5 19) := ab_s_iconst (n := 5) ab_dk48_0.2.2.2.2.2.2.2.2.2.2.2.1 rfl
theorem ab_s48_19 : ab_Sn B 48 19 (ab_o_icmp ab_ge 42 22) := ab_s_icmp_ge (tg := 42) (off := 23) ab_dk48_0.2.2.2.2.2.2.2.2.2.2.2.2.1 (by decide)
theorem ab_s48_22 : ab_Sn B 48 22 (ab_o_ald 0 23) := ab_s_aload_n (k := 0) (n := 0) ab_dk48_0.2.2.2.2.2.2.2.2.2.2.2.2.2.1 rfl
theorem ab_s48_23 : ab_Sn B 48 23 (ab_o_getr 5 15 14 26) := ab_s_getr (i := 46) (ci := 1) (N := 15) (k := 14) (C := RX1) (T := TX1) ab_dk48_0.2.2.2.2.2.2.2.2.2.2.2.2.2.2.1 rfl (by decide) rfl wf_89
theorem ab_s48_26 : ab_Sn B 48 26 (ab_o_ild 4 28) := ab_s_iload (k := 4) ab_dk48_0.2.2.2.2.2.2.2.2.2.2.2.2.2.2.2.1
theorem ab_s48_28 : ab_Sn B 48 28 (ab_o_ild 2 29) := ab_s_iload_n (k := 2) (n := 2) ab_dk48_1.1 rfl
theorem ab_s48_29 : ab_Sn B 48 29 (ab_o_xst 0 30) := ab_s_iastore ab_dk48_1.2.1
theorem ab_s48_30 : ab_Sn B 48 30 (ab_o_ild 2 31) := ab_s_iload_n (k := 2) (n := 2) ab_dk48_1.2.2.1 rfl
theorem ab_s48_31 : ab_Sn B 48 31 (ab_o_ist 3 32) := ab_s_istore_n (k := 3) (n := 3) ab_dk48_1.2.2.2.1 rfl
theorem ab_s48_32 : ab_Sn B 48 32 (ab_o_ild 2 33) := ab_s_iload_n (k := 2) (n := 2) ab_dk48_1.2.2.2.2.1 rfl
theorem ab_s48_33 : ab_Sn B 48 33 (ab_o_ild 1 34) := ab_s_iload_n (k := 1) (n := 1) ab_dk48_1.2.2.2.2.2.1 rfl
theorem ab_s48_34 : ab_Sn B 48 34 (ab_o_bin (fun a b => a + b) 35) := ab_s_iadd ab_dk48_1.2.2.2.2.2.2.1
theorem ab_s48_35 : ab_Sn B 48 35 (ab_o_ist 2 36) := ab_s_istore_n (k := 2) (n := 2) ab_dk48_1.2.2.2.2.2.2.2.1 rfl
theorem ab_s48_36 : ab_Sn B 48 36 (ab_o_inc 4 1 39) := ab_s_iinc (k := 4) (n := 1) ab_dk48_1.2.2.2.2.2.2.2.2.1
theorem ab_s48_39 : ab_Sn B 48 39 (ab_o_goto 7) := ab_s_goto (tg := 7) (off := -32) ab_dk48_1.2.2.2.2.2.2.2.2.2.1 (by decide)
theorem ab_s48_42 : ab_Sn B 48 42 (ab_o_ald 0 43) := ab_s_aload_n (k := 0) (n := 0) ab_dk48_1.2.2.2.2.2.2.2.2.2.2.1 rfl
theorem ab_s48_43 : ab_Sn B 48 43 (ab_o_ald 0 44) := ab_s_aload_n (k := 0) (n := 0) ab_dk48_1.2.2.2.2.2.2.2.2.2.2.2.1 rfl
theorem ab_s48_44 : ab_Sn B 48 44 (ab_o_getr 5 15 14 47) := ab_s_getr (i := 46) (ci := 1) (N := 15) (k := 14) (C := RX1) (T := TX1) ab_dk48_1.2.2.2.2.2.2.2.2.2.2.2.2.1 rfl (by decide) rfl wf_89
theorem ab_s48_47 : ab_Sn B 48 47 (ab_o_call (some (5, 15)) [] 51 4 2 true 50) := ab_s_callV (M' := 51) (na := 1) (i := 62) (ci := 1) (N := 15) (C := RX1) (T := TX1) (v := true) (ab_hok_n (by decide +kernel)) (by decide +kernel) ab_dk48_1.2.2.2.2.2.2.2.2.2.2.2.2.2.1 rfl (by decide) (by decide +kernel) (by decide +kernel) (by decide) wf_101 wf_102 wf_103 wf_104 wf_94
theorem ab_s48_50 : ab_Sn B 48 50 (ab_o_if ab_eq 57 53) := ab_s_if_eq (tg := 57) (off := 7) ab_dk48_1.2.2.2.2.2.2.2.2.2.2.2.2.2.2.1 (by decide)
theorem ab_s48_53 : ab_Sn B 48 53 (ab_o_const (-1) 54) := ab_s_iconst (n := (-1)) ab_dk48_1.2.2.2.2.2.2.2.2.2.2.2.2.2.2.2.1 rfl
theorem ab_s48_54 : ab_Sn B 48 54 (ab_o_goto 58) := ab_s_goto (tg := 58) (off := 4) ab_dk48_2.1 (by decide)
theorem ab_s48_57 : ab_Sn B 48 57 (ab_o_ild 3 58) := ab_s_iload_n (k := 3) (n := 3) ab_dk48_2.2.1 rfl
theorem ab_s48_58 : ab_Sn B 48 58 (ab_o_iret false) := ab_s_iret (b := false) (ty := .int) ab_dk48_2.2.2.1 rfl (Or.inl ⟨rfl, rfl⟩)
set_option maxRecDepth 20000 in
theorem ab_sn48 : ab_all B 48 0 (ab_c48) := ⟨ab_s48_0, ab_s48_1, ab_s48_2, ab_s48_3, ab_s48_4, ab_s48_5, trivial, ab_s48_7, trivial, ab_s48_9, ab_s48_10, trivial, trivial, ab_s48_13, trivial, trivial, ab_s48_16, trivial, ab_s48_18, ab_s48_19, trivial, trivial, ab_s48_22, ab_s48_23, trivial, trivial, ab_s48_26, trivial, ab_s48_28, ab_s48_29, ab_s48_30, ab_s48_31, ab_s48_32, ab_s48_33, ab_s48_34, ab_s48_35, ab_s48_36, trivial, trivial, ab_s48_39, trivial, trivial, ab_s48_42, ab_s48_43, ab_s48_44, trivial, trivial, ab_s48_47, trivial, trivial, ab_s48_50, trivial, trivial, ab_s48_53, ab_s48_54, trivial, trivial, ab_s48_57, ab_s48_58, trivial⟩
theorem ab_dk49_0 : ab_dp 49 [(0, .iconst 0, 1), (1, .istore_n 3, 1), (2, .iconst 0, 1), (3, .istore 4, 2), (5, .iload 4, 2), (7, .aload_n 0, 1), (8, .getfield 49, 3), (11, .if_icmp .ge 39, 3), (14, .iload 4, 2), (16, .aload_n 1, 1), (17, .arraylength, 1), (18, .if_icmp .ge 32, 3), (21, .iload_n 2, 1), (22, .aload_n 1, 1), (23, .iload 4, 2), (25, .iaload, 1)] := ab_da (by decide +kernel)
theorem ab_dk49_1 : ab_dp 49 [(26, .if_icmp .lt 18, 3), (29, .iload_n 3, 1), (30, .aload_n 0, 1), (31, .iload 4, 2), (33, .iload_n 2, 1), (34, .aload_n 1, 1), (35, .iload 4, 2), (37, .iaload, 1), (38, .isub, 1), (39, .invokevirtual 66, 3), (42, .iadd, 1), (43, .istore_n 3, 1), (44, .iinc 4 1, 3), (47, .goto (-42), 3), (50, .iload_n 3, 1), (51, .ireturn, 1)] := ab_da (by decide +kernel)
theorem ab_s49_0 : ab_Sn B 49 0 (ab_o_const 0 1) := ab_s_iconst (n := 0) ab_dk49_0.1 rfl
theorem ab_s49_1 : ab_Sn B 49 1 (ab_o_ist 3 2) := ab_s_istore_n (k := 3) (n := 3) ab_dk49_0.2.1 rfl
theorem ab_s49_2 : ab_Sn B 49 2 (ab_o_const 0 3) := ab_s_iconst (n := 0) ab_dk49_0.2.2.1 rfl
theorem ab_s49_3 : ab_Sn B 49 3 (ab_o_ist 4 5) := ab_s_istore (k := 4) ab_dk49_0.2.2.2.1
theorem ab_s49_5 : ab_Sn B 49 5 (ab_o_ild 4 7) := ab_s_iload (k := 4) ab_dk49_0.2.2.2.2.1
theorem ab_s49_7 : ab_Sn B 49 7 (ab_o_ald 0 8) := ab_s_aload_n (k := 0) (n := 0) ab_dk49_0.2.2.2.2.2.1 rfl
theorem ab_s49_8 : ab_Sn B 49 8 (ab_o_geti 5 15 2 11) := ab_s_geti (i := 49) (ci := 1) (N := 15) (k := 2) (C := RX1) (T := TX1) ab_dk49_0.2.2.2.2.2.2.1 rfl (by decide) rfl wf_90
theorem ab_s49_11 : ab_Sn B 49 11 (ab_o_icmp ab_ge 50 14) := ab_s_icmp_ge (tg := 50) (off := 39) ab_dk49_0.2.2.2.2.2.2.2.1 (by decide)
theorem ab_s49_14 : ab_Sn B 49 14 (ab_o_ild 4 16) := ab_s_iload (k := 4) ab_dk49_0.2.2.2.2.2.2.2.2.1
theorem ab_s49_16 : ab_Sn B 49 16 (ab_o_ald 1 17) := ab_s_aload_n (k := 1) (n := 1) ab_dk49_0.2.2.2.2.2.2.2.2.2.1 rfl
theorem ab_s49_17 : ab_Sn B 49 17 (ab_o_alen 18) := ab_s_alen ab_dk49_0.2.2.2.2.2.2.2.2.2.2.1
theorem ab_s49_18 : ab_Sn B 49 18 (ab_o_icmp ab_ge 50 21) := ab_s_icmp_ge (tg := 50) (off := 32) ab_dk49_0.2.2.2.2.2.2.2.2.2.2.2.1 (by decide)
theorem ab_s49_21 : ab_Sn B 49 21 (ab_o_ild 2 22) := ab_s_iload_n (k := 2) (n := 2) ab_dk49_0.2.2.2.2.2.2.2.2.2.2.2.2.1 rfl
theorem ab_s49_22 : ab_Sn B 49 22 (ab_o_ald 1 23) := ab_s_aload_n (k := 1) (n := 1) ab_dk49_0.2.2.2.2.2.2.2.2.2.2.2.2.2.1 rfl
theorem ab_s49_23 : ab_Sn B 49 23 (ab_o_ild 4 25) := ab_s_iload (k := 4) ab_dk49_0.2.2.2.2.2.2.2.2.2.2.2.2.2.2.1
theorem ab_s49_25 : ab_Sn B 49 25 (ab_o_xld 0 26) := ab_s_iaload ab_dk49_0.2.2.2.2.2.2.2.2.2.2.2.2.2.2.2.1
theorem ab_s49_26 : ab_Sn B 49 26 (ab_o_icmp ab_lt 44 29) := ab_s_icmp_lt (tg := 44) (off := 18) ab_dk49_1.1 (by decide)
theorem ab_s49_29 : ab_Sn B 49 29 (ab_o_ild 3 30) := ab_s_iload_n (k := 3) (n := 3) ab_dk49_1.2.1 rfl
theorem ab_s49_30 : ab_Sn B 49 30 (ab_o_ald 0 31) := ab_s_aload_n (k := 0) (n := 0) ab_dk49_1.2.2.1 rfl
theorem ab_s49_31 : ab_Sn B 49 31 (ab_o_ild 4 33) := ab_s_iload (k := 4) ab_dk49_1.2.2.2.1
theorem ab_s49_33 : ab_Sn B 49 33 (ab_o_ild 2 34) := ab_s_iload_n (k := 2) (n := 2) ab_dk49_1.2.2.2.2.1 rfl
theorem ab_s49_34 : ab_Sn B 49 34 (ab_o_ald 1 35) := ab_s_aload_n (k := 1) (n := 1) ab_dk49_1.2.2.2.2.2.1 rfl
theorem ab_s49_35 : ab_Sn B 49 35 (ab_o_ild 4 37) := ab_s_iload (k := 4) ab_dk49_1.2.2.2.2.2.2.1
theorem ab_s49_37 : ab_Sn B 49 37 (ab_o_xld 0 38) := ab_s_iaload ab_dk49_1.2.2.2.2.2.2.2.1
theorem ab_s49_38 : ab_Sn B 49 38 (ab_o_bin (fun a b => a - b) 39) := ab_s_isub ab_dk49_1.2.2.2.2.2.2.2.2.1
theorem ab_s49_39 : ab_Sn B 49 39 (ab_o_call (some (5, 15)) [] 50 3 3 true 42) := ab_s_callV (M' := 50) (na := 2) (i := 66) (ci := 1) (N := 15) (C := RX1) (T := TX1) (v := true) (ab_hok_n (by decide +kernel)) (by decide +kernel) ab_dk49_1.2.2.2.2.2.2.2.2.2.1 rfl (by decide) (by decide +kernel) (by decide +kernel) (by decide) wf_105 wf_106 wf_107 wf_108 wf_94
theorem ab_s49_42 : ab_Sn B 49 42 (ab_o_bin (fun a b => a + b) 43) := ab_s_iadd ab_dk49_1.2.2.2.2.2.2.2.2.2.2.1
theorem ab_s49_43 : ab_Sn B 49 43 (ab_o_ist 3 44) := ab_s_istore_n (k := 3) (n := 3) ab_dk49_1.2.2.2.2.2.2.2.2.2.2.2.1 rfl
theorem ab_s49_44 : ab_Sn B 49 44 (ab_o_inc 4 1 47) := ab_s_iinc (k := 4) (n := 1) ab_dk49_1.2.2.2.2.2.2.2.2.2.2.2.2.1
theorem ab_s49_47 : ab_Sn B 49 47 (ab_o_goto 5) := ab_s_goto (tg := 5) (off := -42) ab_dk49_1.2.2.2.2.2.2.2.2.2.2.2.2.2.1 (by decide)
theorem ab_s49_50 : ab_Sn B 49 50 (ab_o_ild 3 51) := ab_s_iload_n (k := 3) (n := 3) ab_dk49_1.2.2.2.2.2.2.2.2.2.2.2.2.2.2.1 rfl
theorem ab_s49_51 : ab_Sn B 49 51 (ab_o_iret false) := ab_s_iret (b := false) (ty := .int) ab_dk49_1.2.2.2.2.2.2.2.2.2.2.2.2.2.2.2.1 rfl (Or.inl ⟨rfl, rfl⟩)
set_option maxRecDepth 20000 in
theorem ab_sn49 : ab_all B 49 0 (ab_c49) := ⟨ab_s49_0, ab_s49_1, ab_s49_2, ab_s49_3, trivial, ab_s49_5, trivial, ab_s49_7, ab_s49_8, trivial, trivial, ab_s49_11, trivial, trivial, ab_s49_14, trivial, ab_s49_16, ab_s49_17, ab_s49_18, trivial, trivial, ab_s49_21, ab_s49_22, ab_s49_23, trivial, ab_s49_25, ab_s49_26, trivial, trivial, ab_s49_29, ab_s49_30, ab_s49_31, trivial, ab_s49_33, ab_s49_34, ab_s49_35, trivial, ab_s49_37, ab_s49_38, ab_s49_39, trivial, trivial, ab_s49_42, ab_s49_43, ab_s49_44, trivial, trivial, ab_s49_47, trivial, trivial, ab_s49_50, ab_s49_51, trivial⟩
theorem ab_dk50_0 : ab_dp 50 [(0, .iload_n 1, 1), (1, .ifCond .lt 8, 3), (4, .iload_n 1, 1), (5, .iconst 5, 1), (6, .if_icmp .lt 5, 3), (9, .iconst 0, 1), (10, .ireturn, 1), (11, .iload_n 2, 1), (12, .aload_n 0, 1), (13, .getfield 19, 3), (16, .iload_n 1, 1), (17, .iaload, 1), (18, .if_icmp .ge 12, 3), (21, .aload_n 0, 1), (22, .getfield 15, 3), (25, .iload_n 1, 1)] := ab_da (by decide +kernel)
theorem ab_dk50_1 : ab_dp 50 [(26, .iaload, 1), (27, .goto 9, 3), (30, .aload_n 0, 1), (31, .getfield 22, 3), (34, .iload_n 1, 1), (35, .iaload, 1), (36, .ireturn, 1)] := ab_da (by decide +kernel)
theorem ab_s50_0 : ab_Sn B 50 0 (ab_o_ild 1 1) := ab_s_iload_n (k := 1) (n := 1) ab_dk50_0.1 rfl
theorem ab_s50_1 : ab_Sn B 50 1 (ab_o_if ab_lt 9 4) := ab_s_if_lt (tg := 9) (off := 8) ab_dk50_0.2.1 (by decide)
theorem ab_s50_4 : ab_Sn B 50 4 (ab_o_ild 1 5) := ab_s_iload_n (k := 1) (n := 1) ab_dk50_0.2.2.1 rfl
theorem ab_s50_5 : ab_Sn B 50 5 (ab_o_const 5 6) := ab_s_iconst (n := 5) ab_dk50_0.2.2.2.1 rfl
theorem ab_s50_6 : ab_Sn B 50 6 (ab_o_icmp ab_lt 11 9) := ab_s_icmp_lt (tg := 11) (off := 5) ab_dk50_0.2.2.2.2.1 (by decide)
theorem ab_s50_9 : ab_Sn B 50 9 (ab_o_const 0 10) := ab_s_iconst (n := 0) ab_dk50_0.2.2.2.2.2.1 rfl
theorem ab_s50_10 : ab_Sn B 50 10 (ab_o_iret false) := ab_s_iret (b := false) (ty := .int) ab_dk50_0.2.2.2.2.2.2.1 rfl (Or.inl ⟨rfl, rfl⟩)
theorem ab_s50_11 : ab_Sn B 50 11 (ab_o_ild 2 12) := ab_s_iload_n (k := 2) (n := 2) ab_dk50_0.2.2.2.2.2.2.2.1 rfl
theorem ab_s50_12 : ab_Sn B 50 12 (ab_o_ald 0 13) := ab_s_aload_n (k := 0) (n := 0) ab_dk50_0.2.2.2.2.2.2.2.2.1 rfl
theorem ab_s50_13 : ab_Sn B 50 13 (ab_o_getr 5 15 4 16) := ab_s_getr (i := 19) (ci := 1) (N := 15) (k := 4) (C := RX1) (T := TX1) ab_dk50_0.2.2.2.2.2.2.2.2.2.1 rfl (by decide) rfl wf_80
theorem ab_s50_16 : ab_Sn B 50 16 (ab_o_ild 1 17) := ab_s_iload_n (k := 1) (n := 1) ab_dk50_0.2.2.2.2.2.2.2.2.2.2.1 rfl
theorem ab_s50_17 : ab_Sn B 50 17 (ab_o_xld 0 18) := ab_s_iaload ab_dk50_0.2.2.2.2.2.2.2.2.2.2.2.1
theorem ab_s50_18 : ab_Sn B 50 18 (ab_o_icmp ab_ge 30 21) := ab_s_icmp_ge (tg := 30) (off := 12) ab_dk50_0.2.2.2.2.2.2.2.2.2.2.2.2.1 (by decide)
theorem ab_s50_21 : ab_Sn B 50 21 (ab_o_ald 0 22) := ab_s_aload_n (k := 0) (n := 0) ab_dk50_0.2.2.2.2.2.2.2.2.2.2.2.2.2.1 rfl
theorem ab_s50_22 : ab_Sn B 50 22 (ab_o_getr 5 15 3 25) := ab_s_getr (i := 15) (ci := 1) (N := 15) (k := 3) (C := RX1) (T := TX1) ab_dk50_0.2.2.2.2.2.2.2.2.2.2.2.2.2.2.1 rfl (by decide) rfl wf_79
theorem ab_s50_25 : ab_Sn B 50 25 (ab_o_ild 1 26) := ab_s_iload_n (k := 1) (n := 1) ab_dk50_0.2.2.2.2.2.2.2.2.2.2.2.2.2.2.2.1 rfl
theorem ab_s50_26 : ab_Sn B 50 26 (ab_o_xld 0 27) := ab_s_iaload ab_dk50_1.1
theorem ab_s50_27 : ab_Sn B 50 27 (ab_o_goto 36) := ab_s_goto (tg := 36) (off := 9) ab_dk50_1.2.1 (by decide)
theorem ab_s50_30 : ab_Sn B 50 30 (ab_o_ald 0 31) := ab_s_aload_n (k := 0) (n := 0) ab_dk50_1.2.2.1 rfl
theorem ab_s50_31 : ab_Sn B 50 31 (ab_o_getr 5 15 5 34) := ab_s_getr (i := 22) (ci := 1) (N := 15) (k := 5) (C := RX1) (T := TX1) ab_dk50_1.2.2.2.1 rfl (by decide) rfl wf_81
theorem ab_s50_34 : ab_Sn B 50 34 (ab_o_ild 1 35) := ab_s_iload_n (k := 1) (n := 1) ab_dk50_1.2.2.2.2.1 rfl
theorem ab_s50_35 : ab_Sn B 50 35 (ab_o_xld 0 36) := ab_s_iaload ab_dk50_1.2.2.2.2.2.1
theorem ab_s50_36 : ab_Sn B 50 36 (ab_o_iret false) := ab_s_iret (b := false) (ty := .int) ab_dk50_1.2.2.2.2.2.2.1 rfl (Or.inl ⟨rfl, rfl⟩)
set_option maxRecDepth 20000 in
theorem ab_sn50 : ab_all B 50 0 (ab_c50) := ⟨ab_s50_0, ab_s50_1, trivial, trivial, ab_s50_4, ab_s50_5, ab_s50_6, trivial, trivial, ab_s50_9, ab_s50_10, ab_s50_11, ab_s50_12, ab_s50_13, trivial, trivial, ab_s50_16, ab_s50_17, ab_s50_18, trivial, trivial, ab_s50_21, ab_s50_22, trivial, trivial, ab_s50_25, ab_s50_26, ab_s50_27, trivial, trivial, ab_s50_30, ab_s50_31, trivial, trivial, ab_s50_34, ab_s50_35, ab_s50_36, trivial⟩
theorem ab_dk51_0 : ab_dp 51 [(0, .iconst 0, 1), (1, .istore_n 2, 1), (2, .iconst 0, 1), (3, .istore_n 3, 1), (4, .iload_n 3, 1), (5, .bipush 99, 2), (7, .if_icmp .gt 40, 3), (10, .aload_n 0, 1), (11, .aload_n 1, 1), (12, .iload_n 3, 1), (13, .invokevirtual 58, 3), (16, .aload_n 0, 1), (17, .getfield 9, 3), (20, .if_icmp .le 9, 3), (23, .iload_n 2, 1), (24, .iconst 1, 1)] := ab_da (by decide +kernel)
theorem ab_dk51_1 : ab_dp 51 [(25, .iadd, 1), (26, .goto 4, 3), (29, .iconst 0, 1), (30, .istore_n 2, 1), (31, .iload_n 2, 1), (32, .aload_n 0, 1), (33, .getfield 55, 3), (36, .if_icmp .le 5, 3), (39, .iconst 1, 1), (40, .ireturn, 1), (41, .iinc 3 1, 3), (44, .goto (-40), 3), (47, .iconst 0, 1), (48, .ireturn, 1)] := ab_da (by decide +kernel)
theorem ab_s51_0 : ab_Sn B 51 0 (ab_o_const 0 1) := ab_s_iconst (n := 0) ab_dk51_0.1 rfl
theorem ab_s51_1 : ab_Sn B 51 1 (ab_o_ist 2 2) := ab_s_istore_n (k := 2) (n := 2) ab_dk51_0.2.1 rfl
theorem ab_s51_2 : ab_Sn B 51 2 (ab_o_const 0 3) := ab_s_iconst (n := 0) ab_dk51_0.2.2.1 rfl
theorem ab_s51_3 : ab_Sn B 51 3 (ab_o_ist 3 4) := ab_s_istore_n (k := 3) (n := 3) ab_dk51_0.2.2.2.1 rfl
theorem ab_s51_4 : ab_Sn B 51 4 (ab_o_ild 3 5) := ab_s_iload_n (k := 3) (n := 3) ab_dk51_0.2.2.2.2.1 rfl
theorem ab_s51_5 : ab_Sn B 51 5 (ab_o_const 99 7) := ab_s_bipush (n := 99) ab_dk51_0.2.2.2.2.2.1 (by decide)
theorem ab_s51_7 : ab_Sn B 51 7 (ab_o_icmp ab_gt 47 10) := ab_s_icmp_gt (tg := 47) (off := 40) ab_dk51_0.2.2.2.2.2.2.1 (by decide)
theorem ab_s51_10 : ab_Sn B 51 10 (ab_o_ald 0 11) := ab_s_aload_n (k := 0) (n := 0) ab_dk51_0.2.2.2.2.2.2.2.1 rfl
theorem ab_s51_11 : ab_Sn B 51 11 (ab_o_ald 1 12) := ab_s_aload_n (k := 1) (n := 1) ab_dk51_0.2.2.2.2.2.2.2.2.1 rfl
theorem ab_s51_12 : ab_Sn B 51 12 (ab_o_ild 3 13) := ab_s_iload_n (k := 3) (n := 3) ab_dk51_0.2.2.2.2.2.2.2.2.2.1 rfl
theorem ab_s51_13 : ab_Sn B 51 13 (ab_o_call (some (5, 15)) [] 49 5 3 true 16) := ab_s_callV (M' := 49) (na := 2) (i := 58) (ci := 1) (N := 15) (C := RX1) (T := TX1) (v := true) (ab_hok_n (by decide +kernel)) (by decide +kernel) ab_dk51_0.2.2.2.2.2.2.2.2.2.2.1 rfl (by decide) (by decide +kernel) (by decide +kernel) (by decide) wf_97 wf_98 wf_99 wf_100 wf_94
theorem ab_s51_16 : ab_Sn B 51 16 (ab_o_ald 0 17) := ab_s_aload_n (k := 0) (n := 0) ab_dk51_0.2.2.2.2.2.2.2.2.2.2.2.1 rfl
theorem ab_s51_17 : ab_Sn B 51 17 (ab_o_geti 5 15 0 20) := ab_s_geti (i := 9) (ci := 1) (N := 15) (k := 0) (C := RX1) (T := TX1) ab_dk51_0.2.2.2.2.2.2.2.2.2.2.2.2.1 rfl (by decide) rfl wf_78
theorem ab_s51_20 : ab_Sn B 51 20 (ab_o_icmp ab_le 29 23) := ab_s_icmp_le (tg := 29) (off := 9) ab_dk51_0.2.2.2.2.2.2.2.2.2.2.2.2.2.1 (by decide)
theorem ab_s51_23 : ab_Sn B 51 23 (ab_o_ild 2 24) := ab_s_iload_n (k := 2) (n := 2) ab_dk51_0.2.2.2.2.2.2.2.2.2.2.2.2.2.2.1 rfl
theorem ab_s51_24 : ab_Sn B 51 24 (ab_o_const 1 25) := ab_s_iconst (n := 1) ab_dk51_0.2.2.2.2.2.2.2.2.2.2.2.2.2.2.2.1 rfl
theorem ab_s51_25 : ab_Sn B 51 25 (ab_o_bin (fun a b => a + b) 26) := ab_s_iadd ab_dk51_1.1
theorem ab_s51_26 : ab_Sn B 51 26 (ab_o_goto 30) := ab_s_goto (tg := 30) (off := 4) ab_dk51_1.2.1 (by decide)
theorem ab_s51_29 : ab_Sn B 51 29 (ab_o_const 0 30) := ab_s_iconst (n := 0) ab_dk51_1.2.2.1 rfl
theorem ab_s51_30 : ab_Sn B 51 30 (ab_o_ist 2 31) := ab_s_istore_n (k := 2) (n := 2) ab_dk51_1.2.2.2.1 rfl
theorem ab_s51_31 : ab_Sn B 51 31 (ab_o_ild 2 32) := ab_s_iload_n (k := 2) (n := 2) ab_dk51_1.2.2.2.2.1 rfl
theorem ab_s51_32 : ab_Sn B 51 32 (ab_o_ald 0 33) := ab_s_aload_n (k := 0) (n := 0) ab_dk51_1.2.2.2.2.2.1 rfl
theorem ab_s51_33 : ab_Sn B 51 33 (ab_o_geti 5 15 1 36) := ab_s_geti (i := 55) (ci := 1) (N := 15) (k := 1) (C := RX1) (T := TX1) ab_dk51_1.2.2.2.2.2.2.1 rfl (by decide) rfl wf_96
theorem ab_s51_36 : ab_Sn B 51 36 (ab_o_icmp ab_le 41 39) := ab_s_icmp_le (tg := 41) (off := 5) ab_dk51_1.2.2.2.2.2.2.2.1 (by decide)
theorem ab_s51_39 : ab_Sn B 51 39 (ab_o_const 1 40) := ab_s_iconst (n := 1) ab_dk51_1.2.2.2.2.2.2.2.2.1 rfl
theorem ab_s51_40 : ab_Sn B 51 40 (ab_o_iret true) := ab_s_iret (b := true) (ty := .boolean) ab_dk51_1.2.2.2.2.2.2.2.2.2.1 rfl (Or.inr (Or.inl ⟨rfl, rfl⟩))
theorem ab_s51_41 : ab_Sn B 51 41 (ab_o_inc 3 1 44) := ab_s_iinc (k := 3) (n := 1) ab_dk51_1.2.2.2.2.2.2.2.2.2.2.1
theorem ab_s51_44 : ab_Sn B 51 44 (ab_o_goto 4) := ab_s_goto (tg := 4) (off := -40) ab_dk51_1.2.2.2.2.2.2.2.2.2.2.2.1 (by decide)
theorem ab_s51_47 : ab_Sn B 51 47 (ab_o_const 0 48) := ab_s_iconst (n := 0) ab_dk51_1.2.2.2.2.2.2.2.2.2.2.2.2.1 rfl
theorem ab_s51_48 : ab_Sn B 51 48 (ab_o_iret true) := ab_s_iret (b := true) (ty := .boolean) ab_dk51_1.2.2.2.2.2.2.2.2.2.2.2.2.2.1 rfl (Or.inr (Or.inl ⟨rfl, rfl⟩))
set_option maxRecDepth 20000 in
theorem ab_sn51 : ab_all B 51 0 (ab_c51) := ⟨ab_s51_0, ab_s51_1, ab_s51_2, ab_s51_3, ab_s51_4, ab_s51_5, trivial, ab_s51_7, trivial, trivial, ab_s51_10, ab_s51_11, ab_s51_12, ab_s51_13, trivial, trivial, ab_s51_16, ab_s51_17, trivial, trivial, ab_s51_20, trivial, trivial, ab_s51_23, ab_s51_24, ab_s51_25, ab_s51_26, trivial, trivial, ab_s51_29, ab_s51_30, ab_s51_31, ab_s51_32, ab_s51_33, trivial, trivial, ab_s51_36, trivial, trivial, ab_s51_39, ab_s51_40, ab_s51_41, trivial, trivial, ab_s51_44, trivial, trivial, ab_s51_47, ab_s51_48, trivial⟩
theorem ab_dk52_0 : ab_dp 52 [(0, .aload_n 0, 1), (1, .iconst (-1), 1), (2, .putfield 25, 3), (5, .iconst 0, 1), (6, .istore_n 1, 1), (7, .iload_n 1, 1), (8, .iconst 5, 1), (9, .if_icmp .ge 16, 3), (12, .aload_n 0, 1), (13, .getfield 37, 3), (16, .iload_n 1, 1), (17, .iconst (-1), 1), (18, .iastore, 1), (19, .iinc 1 1, 3), (22, .goto (-15), 3), (25, .aload_n 0, 1)] := ab_da (by decide +kernel)
theorem ab_dk52_1 : ab_dp 52 [(26, .getfield 49, 3), (29, .ifCond .le 21, 3), (32, .aload_n 0, 1), (33, .invokevirtual 70, 3), (36, .aload_n 0, 1), (37, .getfield 9, 3), (40, .if_icmp .gt 10, 3), (43, .aload_n 0, 1), (44, .iconst 0, 1), (45, .iconst 0, 1), (46, .iconst 0, 1), (47, .invokevirtual 74, 3), (50, .return_, 1)] := ab_da (by decide +kernel)
theorem ab_s52_0 : ab_Sn B 52 0 (ab_o_ald 0 1) := ab_s_aload_n (k := 0) (n := 0) ab_dk52_0.1 rfl
theorem ab_s52_1 : ab_Sn B 52 1 (ab_o_const (-1) 2) := ab_s_iconst (n := (-1)) ab_dk52_0.2.1 rfl
theorem ab_s52_2 : ab_Sn B 52 2 (ab_o_puti 5 15 6 false 5) := ab_s_puti (b := false) (ty := .int) (i := 25) (ci := 1) (N := 15) (k := 6) (C := RX1) (T := TX1) ab_dk52_0.2.2.1 rfl (by decide) rfl wf_82 rfl (by decide +kernel) (Or.inl ⟨rfl, rfl⟩)
theorem ab_s52_5 : ab_Sn B 52 5 (ab_o_const 0 6) := ab_s_iconst (n := 0) ab_dk52_0.2.2.2.1 rfl
theorem ab_s52_6 : ab_Sn B 52 6 (ab_o_ist 1 7) := ab_s_istore_n (k := 1) (n := 1) ab_dk52_0.2.2.2.2.1 rfl
theorem ab_s52_7 : ab_Sn B 52 7 (ab_o_ild 1 8) := ab_s_iload_n (k := 1) (n := 1) ab_dk52_0.2.2.2.2.2.1 rfl
theorem ab_s52_8 : ab_Sn B 52 8 (ab_o_const 5 9) := ab_s_iconst (n := 5) ab_dk52_0.2.2.2.2.2.2.1 rfl
theorem ab_s52_9 : ab_Sn B 52 9 (ab_o_icmp ab_ge 25 12) := ab_s_icmp_ge (tg := 25) (off := 16) ab_dk52_0.2.2.2.2.2.2.2.1 (by decide)
theorem ab_s52_12 : ab_Sn B 52 12 (ab_o_ald 0 13) := ab_s_aload_n (k := 0) (n := 0) ab_dk52_0.2.2.2.2.2.2.2.2.1 rfl
theorem ab_s52_13 : ab_Sn B 52 13 (ab_o_getr 5 15 10 16) := ab_s_getr (i := 37) (ci := 1) (N := 15) (k := 10) (C := RX1) (T := TX1) ab_dk52_0.2.2.2.2.2.2.2.2.2.1 rfl (by decide) rfl wf_86
theorem ab_s52_16 : ab_Sn B 52 16 (ab_o_ild 1 17) := ab_s_iload_n (k := 1) (n := 1) ab_dk52_0.2.2.2.2.2.2.2.2.2.2.1 rfl
theorem ab_s52_17 : ab_Sn B 52 17 (ab_o_const (-1) 18) := ab_s_iconst (n := (-1)) ab_dk52_0.2.2.2.2.2.2.2.2.2.2.2.1 rfl
theorem ab_s52_18 : ab_Sn B 52 18 (ab_o_xst 0 19) := ab_s_iastore ab_dk52_0.2.2.2.2.2.2.2.2.2.2.2.2.1
theorem ab_s52_19 : ab_Sn B 52 19 (ab_o_inc 1 1 22) := ab_s_iinc (k := 1) (n := 1) ab_dk52_0.2.2.2.2.2.2.2.2.2.2.2.2.2.1
theorem ab_s52_22 : ab_Sn B 52 22 (ab_o_goto 7) := ab_s_goto (tg := 7) (off := -15) ab_dk52_0.2.2.2.2.2.2.2.2.2.2.2.2.2.2.1 (by decide)
theorem ab_s52_25 : ab_Sn B 52 25 (ab_o_ald 0 26) := ab_s_aload_n (k := 0) (n := 0) ab_dk52_0.2.2.2.2.2.2.2.2.2.2.2.2.2.2.2.1 rfl
theorem ab_s52_26 : ab_Sn B 52 26 (ab_o_geti 5 15 2 29) := ab_s_geti (i := 49) (ci := 1) (N := 15) (k := 2) (C := RX1) (T := TX1) ab_dk52_1.1 rfl (by decide) rfl wf_90
theorem ab_s52_29 : ab_Sn B 52 29 (ab_o_if ab_le 50 32) := ab_s_if_le (tg := 50) (off := 21) ab_dk52_1.2.1 (by decide)
theorem ab_s52_32 : ab_Sn B 52 32 (ab_o_ald 0 33) := ab_s_aload_n (k := 0) (n := 0) ab_dk52_1.2.2.1 rfl
theorem ab_s52_33 : ab_Sn B 52 33 (ab_o_call (some (5, 15)) [] 53 3 1 true 36) := ab_s_callV (M' := 53) (na := 0) (i := 70) (ci := 1) (N := 15) (C := RX1) (T := TX1) (v := true) (ab_hok_n (by decide +kernel)) (by decide +kernel) ab_dk52_1.2.2.2.1 rfl (by decide) (by decide +kernel) (by decide +kernel) (by decide) wf_109 wf_110 wf_111 wf_112 wf_94
theorem ab_s52_36 : ab_Sn B 52 36 (ab_o_ald 0 37) := ab_s_aload_n (k := 0) (n := 0) ab_dk52_1.2.2.2.2.1 rfl
theorem ab_s52_37 : ab_Sn B 52 37 (ab_o_geti 5 15 0 40) := ab_s_geti (i := 9) (ci := 1) (N := 15) (k := 0) (C := RX1) (T := TX1) ab_dk52_1.2.2.2.2.2.1 rfl (by decide) rfl wf_78
theorem ab_s52_40 : ab_Sn B 52 40 (ab_o_icmp ab_gt 50 43) := ab_s_icmp_gt (tg := 50) (off := 10) ab_dk52_1.2.2.2.2.2.2.1 (by decide)
theorem ab_s52_43 : ab_Sn B 52 43 (ab_o_ald 0 44) := ab_s_aload_n (k := 0) (n := 0) ab_dk52_1.2.2.2.2.2.2.2.1 rfl
theorem ab_s52_44 : ab_Sn B 52 44 (ab_o_const 0 45) := ab_s_iconst (n := 0) ab_dk52_1.2.2.2.2.2.2.2.2.1 rfl
theorem ab_s52_45 : ab_Sn B 52 45 (ab_o_const 0 46) := ab_s_iconst (n := 0) ab_dk52_1.2.2.2.2.2.2.2.2.2.1 rfl
theorem ab_s52_46 : ab_Sn B 52 46 (ab_o_const 0 47) := ab_s_iconst (n := 0) ab_dk52_1.2.2.2.2.2.2.2.2.2.2.1 rfl
theorem ab_s52_47 : ab_Sn B 52 47 (ab_o_call (some (5, 15)) [] 54 5 4 false 50) := ab_s_callV (M' := 54) (na := 3) (i := 74) (ci := 1) (N := 15) (C := RX1) (T := TX1) (v := false) (ab_hok_n (by decide +kernel)) (by decide +kernel) ab_dk52_1.2.2.2.2.2.2.2.2.2.2.2.1 rfl (by decide) (by decide +kernel) (by decide +kernel) (by decide) wf_113 wf_114 wf_115 wf_116 wf_94
theorem ab_s52_50 : ab_Sn B 52 50 (ab_o_ret) := ab_s_ret ab_dk52_1.2.2.2.2.2.2.2.2.2.2.2.2.1 rfl
set_option maxRecDepth 20000 in
theorem ab_sn52 : ab_all B 52 0 (ab_c52) := ⟨ab_s52_0, ab_s52_1, ab_s52_2, trivial, trivial, ab_s52_5, ab_s52_6, ab_s52_7, ab_s52_8, ab_s52_9, trivial, trivial, ab_s52_12, ab_s52_13, trivial, trivial, ab_s52_16, ab_s52_17, ab_s52_18, ab_s52_19, trivial, trivial, ab_s52_22, trivial, trivial, ab_s52_25, ab_s52_26, trivial, trivial, ab_s52_29, trivial, trivial, ab_s52_32, ab_s52_33, trivial, trivial, ab_s52_36, ab_s52_37, trivial, trivial, ab_s52_40, trivial, trivial, ab_s52_43, ab_s52_44, ab_s52_45, ab_s52_46, ab_s52_47, trivial, trivial, ab_s52_50, trivial⟩
theorem ab_dk53_0 : ab_dp 53 [(0, .iconst 0, 1), (1, .istore_n 1, 1), (2, .iconst 0, 1), (3, .istore_n 2, 1), (4, .iload_n 2, 1), (5, .aload_n 0, 1), (6, .getfield 49, 3), (9, .if_icmp .ge 17, 3), (12, .iload_n 1, 1), (13, .aload_n 0, 1), (14, .iload_n 2, 1), (15, .invokevirtual 78, 3), (18, .iadd, 1), (19, .istore_n 1, 1), (20, .iinc 2 1, 3), (23, .goto (-19), 3)] := ab_da (by decide +kernel)
theorem ab_dk53_1 : ab_dp 53 [(26, .iload_n 1, 1), (27, .ireturn, 1)] := ab_da (by decide +kernel)
theorem ab_s53_0 : ab_Sn B 53 0 (ab_o_const 0 1) := ab_s_iconst (n := 0) ab_dk53_0.1 rfl
theorem ab_s53_1 : ab_Sn B 53 1 (ab_o_ist 1 2) := ab_s_istore_n (k := 1) (n := 1) ab_dk53_0.2.1 rfl
theorem ab_s53_2 : ab_Sn B 53 2 (ab_o_const 0 3) := ab_s_iconst (n := 0) ab_dk53_0.2.2.1 rfl
theorem ab_s53_3 : ab_Sn B 53 3 (ab_o_ist 2 4) := ab_s_istore_n (k := 2) (n := 2) ab_dk53_0.2.2.2.1 rfl
theorem ab_s53_4 : ab_Sn B 53 4 (ab_o_ild 2 5) := ab_s_iload_n (k := 2) (n := 2) ab_dk53_0.2.2.2.2.1 rfl
theorem ab_s53_5 : ab_Sn B 53 5 (ab_o_ald 0 6) := ab_s_aload_n (k := 0) (n := 0) ab_dk53_0.2.2.2.2.2.1 rfl
theorem ab_s53_6 : ab_Sn B 53 6 (ab_o_geti 5 15 2 9) := ab_s_geti (i := 49) (ci := 1) (N := 15) (k := 2) (C := RX1) (T := TX1) ab_dk53_0.2.2.2.2.2.2.1 rfl (by decide) rfl wf_90
theorem ab_s53_9 : ab_Sn B 53 9 (ab_o_icmp ab_ge 26 12) := ab_s_icmp_ge (tg := 26) (off := 17) ab_dk53_0.2.2.2.2.2.2.2.1 (by decide)
theorem ab_s53_12 : ab_Sn B 53 12 (ab_o_ild 1 13) := ab_s_iload_n (k := 1) (n := 1) ab_dk53_0.2.2.2.2.2.2.2.2.1 rfl
theorem ab_s53_13 : ab_Sn B 53 13 (ab_o_ald 0 14) := ab_s_aload_n (k := 0) (n := 0) ab_dk53_0.2.2.2.2.2.2.2.2.2.1 rfl
theorem ab_s53_14 : ab_Sn B 53 14 (ab_o_ild 2 15) := ab_s_iload_n (k := 2) (n := 2) ab_dk53_0.2.2.2.2.2.2.2.2.2.2.1 rfl
theorem ab_s53_15 : ab_Sn B 53 15 (ab_o_call (some (5, 15)) [] 42 2 2 true 18) := ab_s_callV (M' := 42) (na := 1) (i := 78) (ci := 1) (N := 15) (C := RX1) (T := TX1) (v := true) (ab_hok_n (by decide +kernel)) (by decide +kernel) ab_dk53_0.2.2.2.2.2.2.2.2.2.2.2.1 rfl (by decide) (by decide +kernel) (by decide +kernel) (by decide) wf_117 wf_118 wf_119 wf_120 wf_94
theorem ab_s53_18 : ab_Sn B 53 18 (ab_o_bin (fun a b => a + b) 19) := ab_s_iadd ab_dk53_0.2.2.2.2.2.2.2.2.2.2.2.2.1
theorem ab_s53_19 : ab_Sn B 53 19 (ab_o_ist 1 20) := ab_s_istore_n (k := 1) (n := 1) ab_dk53_0.2.2.2.2.2.2.2.2.2.2.2.2.2.1 rfl
theorem ab_s53_20 : ab_Sn B 53 20 (ab_o_inc 2 1 23) := ab_s_iinc (k := 2) (n := 1) ab_dk53_0.2.2.2.2.2.2.2.2.2.2.2.2.2.2.1
theorem ab_s53_23 : ab_Sn B 53 23 (ab_o_goto 4) := ab_s_goto (tg := 4) (off := -19) ab_dk53_0.2.2.2.2.2.2.2.2.2.2.2.2.2.2.2.1 (by decide)
theorem ab_s53_26 : ab_Sn B 53 26 (ab_o_ild 1 27) := ab_s_iload_n (k := 1) (n := 1) ab_dk53_1.1 rfl
theorem ab_s53_27 : ab_Sn B 53 27 (ab_o_iret false) := ab_s_iret (b := false) (ty := .int) ab_dk53_1.2.1 rfl (Or.inl ⟨rfl, rfl⟩)
set_option maxRecDepth 20000 in
theorem ab_sn53 : ab_all B 53 0 (ab_c53) := ⟨ab_s53_0, ab_s53_1, ab_s53_2, ab_s53_3, ab_s53_4, ab_s53_5, ab_s53_6, trivial, trivial, ab_s53_9, trivial, trivial, ab_s53_12, ab_s53_13, ab_s53_14, ab_s53_15, trivial, trivial, ab_s53_18, ab_s53_19, ab_s53_20, trivial, trivial, ab_s53_23, trivial, trivial, ab_s53_26, ab_s53_27, trivial⟩
theorem ab_dk54_0 : ab_dp 54 [(0, .iload_n 1, 1), (1, .aload_n 0, 1), (2, .getfield 49, 3), (5, .if_icmp .ge 8, 3), (8, .iload_n 1, 1), (9, .iconst 5, 1), (10, .if_icmp .lt 9, 3), (13, .aload_n 0, 1), (14, .iload_n 3, 1), (15, .invokevirtual 82, 3), (18, .return_, 1), (19, .iconst 0, 1), (20, .istore 4, 2), (22, .iload 4, 2), (24, .aload_n 0, 1), (25, .getfield 49, 3)] := ab_da (by decide +kernel)
theorem ab_dk54_1 : ab_dp 54 [(28, .if_icmp .ge 35, 3), (31, .iload 4, 2), (33, .iconst 5, 1), (34, .if_icmp .ge 29, 3), (37, .aload_n 0, 1), (38, .getfield 37, 3), (41, .iload 4, 2), (43, .iaload, 1), (44, .iconst (-1), 1), (45, .if_icmp .ne 12, 3), (48, .aload_n 0, 1), (49, .iload 4, 2), (51, .iload_n 1, 1), (52, .iload_n 2, 1), (53, .iload_n 3, 1), (54, .invokevirtual 86, 3)] := ab_da (by decide +kernel)
theorem ab_dk54_2 : ab_dp 54 [(57, .iinc 4 1, 3), (60, .goto (-38), 3), (63, .return_, 1)] := ab_da (by decide +kernel)
theorem ab_s54_0 : ab_Sn B 54 0 (ab_o_ild 1 1) := ab_s_iload_n (k := 1) (n := 1) ab_dk54_0.1 rfl
theorem ab_s54_1 : ab_Sn B 54 1 (ab_o_ald 0 2) := ab_s_aload_n (k := 0) (n := 0) ab_dk54_0.2.1 rfl
theorem ab_s54_2 : ab_Sn B 54 2 (ab_o_geti 5 15 2 5) := ab_s_geti (i := 49) (ci := 1) (N := 15) (k := 2) (C := RX1) (T := TX1) ab_dk54_0.2.2.1 rfl (by decide) rfl wf_90
theorem ab_s54_5 : ab_Sn B 54 5 (ab_o_icmp ab_ge 13 8) := ab_s_icmp_ge (tg := 13) (off := 8) ab_dk54_0.2.2.2.1 (by decide)
theorem ab_s54_8 : ab_Sn B 54 8 (ab_o_ild 1 9) := ab_s_iload_n (k := 1) (n := 1) ab_dk54_0.2.2.2.2.1 rfl
theorem ab_s54_9 : ab_Sn B 54 9 (ab_o_const 5 10) := ab_s_iconst (n := 5) ab_dk54_0.2.2.2.2.2.1 rfl
theorem ab_s54_10 : ab_Sn B 54 10 (ab_o_icmp ab_lt 19 13) := ab_s_icmp_lt (tg := 19) (off := 9) ab_dk54_0.2.2.2.2.2.2.1 (by decide)
theorem ab_s54_13 : ab_Sn B 54 13 (ab_o_ald 0 14) := ab_s_aload_n (k := 0) (n := 0) ab_dk54_0.2.2.2.2.2.2.2.1 rfl
theorem ab_s54_14 : ab_Sn B 54 14 (ab_o_ild 3 15) := ab_s_iload_n (k := 3) (n := 3) ab_dk54_0.2.2.2.2.2.2.2.2.1 rfl
theorem ab_s54_15 : ab_Sn B 54 15 (ab_o_call (some (5, 15)) [] 55 3 2 false 18) := ab_s_callV (M' := 55) (na := 1) (i := 82) (ci := 1) (N := 15) (C := RX1) (T := TX1) (v := false) (ab_hok_n (by decide +kernel)) (by decide +kernel) ab_dk54_0.2.2.2.2.2.2.2.2.2.1 rfl (by decide) (by decide +kernel) (by decide +kernel) (by decide) wf_121 wf_122 wf_123 wf_124 wf_94
theorem ab_s54_18 : ab_Sn B 54 18 (ab_o_ret) := ab_s_ret ab_dk54_0.2.2.2.2.2.2.2.2.2.2.1 rfl
theorem ab_s54_19 : ab_Sn B 54 19 (ab_o_const 0 20) := ab_s_iconst (n := 0) ab_dk54_0.2.2.2.2.2.2.2.2.2.2.2.1 rfl
theorem ab_s54_20 : ab_Sn B 54 20 (ab_o_ist 4 22) := ab_s_istore (k := 4) ab_dk54_0.2.2.2.2.2.2.2.2.2.2.2.2.1
theorem ab_s54_22 : ab_Sn B 54 22 (ab_o_ild 4 24) := ab_s_iload (k := 4) ab_dk54_0.2.2.2.2.2.2.2.2.2.2.2.2.2.1
theorem ab_s54_24 : ab_Sn B 54 24 (ab_o_ald 0 25) := ab_s_aload_n (k := 0) (n := 0) ab_dk54_0.2.2.2.2.2.2.2.2.2.2.2.2.2.2.1 rfl
theorem ab_s54_25 : ab_Sn B 54 25 (ab_o_geti 5 15 2 28) := ab_s_geti (i := 49) (ci := 1) (N := 15) (k := 2) (C := RX1) (T := TX1) ab_dk54_0.2.2.2.2.2.2.2.2.2.2.2.2.2.2.2.1 rfl (by decide) rfl wf_90
theorem ab_s54_28 : ab_Sn B 54 28 (ab_o_icmp ab_ge 63 31) := ab_s_icmp_ge (tg := 63) (off := 35) ab_dk54_1.1 (by decide)
theorem ab_s54_31 : ab_Sn B 54 31 (ab_o_ild 4 33) := ab_s_iload (k := 4) ab_dk54_1.2.1
theorem ab_s54_33 : ab_Sn B 54 33 (ab_o_const 5 34) := ab_s_iconst (n := 5) ab_dk54_1.2.2.1 rfl
theorem ab_s54_34 : ab_Sn B 54 34 (ab_o_icmp ab_ge 63 37) := ab_s_icmp_ge (tg := 63) (off := 29) ab_dk54_1.2.2.2.1 (by decide)
theorem ab_s54_37 : ab_Sn B 54 37 (ab_o_ald 0 38) := ab_s_aload_n (k := 0) (n := 0) ab_dk54_1.2.2.2.2.1 rfl
theorem ab_s54_38 : ab_Sn B 54 38 (ab_o_getr 5 15 10 41) := ab_s_getr (i := 37) (ci := 1) (N := 15) (k := 10) (C := RX1) (T := TX1) ab_dk54_1.2.2.2.2.2.1 rfl (by decide) rfl wf_86
theorem ab_s54_41 : ab_Sn B 54 41 (ab_o_ild 4 43) := ab_s_iload (k := 4) ab_dk54_1.2.2.2.2.2.2.1
theorem ab_s54_43 : ab_Sn B 54 43 (ab_o_xld 0 44) := ab_s_iaload ab_dk54_1.2.2.2.2.2.2.2.1
theorem ab_s54_44 : ab_Sn B 54 44 (ab_o_const (-1) 45) := ab_s_iconst (n := (-1)) ab_dk54_1.2.2.2.2.2.2.2.2.1 rfl
theorem ab_s54_45 : ab_Sn B 54 45 (ab_o_icmp ab_ne 57 48) := ab_s_icmp_ne (tg := 57) (off := 12) ab_dk54_1.2.2.2.2.2.2.2.2.2.1 (by decide)
theorem ab_s54_48 : ab_Sn B 54 48 (ab_o_ald 0 49) := ab_s_aload_n (k := 0) (n := 0) ab_dk54_1.2.2.2.2.2.2.2.2.2.2.1 rfl
theorem ab_s54_49 : ab_Sn B 54 49 (ab_o_ild 4 51) := ab_s_iload (k := 4) ab_dk54_1.2.2.2.2.2.2.2.2.2.2.2.1
theorem ab_s54_51 : ab_Sn B 54 51 (ab_o_ild 1 52) := ab_s_iload_n (k := 1) (n := 1) ab_dk54_1.2.2.2.2.2.2.2.2.2.2.2.2.1 rfl
theorem ab_s54_52 : ab_Sn B 54 52 (ab_o_ild 2 53) := ab_s_iload_n (k := 2) (n := 2) ab_dk54_1.2.2.2.2.2.2.2.2.2.2.2.2.2.1 rfl
theorem ab_s54_53 : ab_Sn B 54 53 (ab_o_ild 3 54) := ab_s_iload_n (k := 3) (n := 3) ab_dk54_1.2.2.2.2.2.2.2.2.2.2.2.2.2.2.1 rfl
theorem ab_s54_54 : ab_Sn B 54 54 (ab_o_call (some (5, 15)) [] 187 8 5 false 57) := ab_s_callV (M' := 187) (na := 4) (i := 86) (ci := 1) (N := 15) (C := RX1) (T := TX1) (v := false) (ab_hok_n (by decide +kernel)) (by decide +kernel) ab_dk54_1.2.2.2.2.2.2.2.2.2.2.2.2.2.2.2.1 rfl (by decide) (by decide +kernel) (by decide +kernel) (by decide) wf_125 wf_126 wf_127 wf_128 wf_94
theorem ab_s54_57 : ab_Sn B 54 57 (ab_o_inc 4 1 60) := ab_s_iinc (k := 4) (n := 1) ab_dk54_2.1
theorem ab_s54_60 : ab_Sn B 54 60 (ab_o_goto 22) := ab_s_goto (tg := 22) (off := -38) ab_dk54_2.2.1 (by decide)
theorem ab_s54_63 : ab_Sn B 54 63 (ab_o_ret) := ab_s_ret ab_dk54_2.2.2.1 rfl
set_option maxRecDepth 20000 in
theorem ab_sn54 : ab_all B 54 0 (ab_c54) := ⟨ab_s54_0, ab_s54_1, ab_s54_2, trivial, trivial, ab_s54_5, trivial, trivial, ab_s54_8, ab_s54_9, ab_s54_10, trivial, trivial, ab_s54_13, ab_s54_14, ab_s54_15, trivial, trivial, ab_s54_18, ab_s54_19, ab_s54_20, trivial, ab_s54_22, trivial, ab_s54_24, ab_s54_25, trivial, trivial, ab_s54_28, trivial, trivial, ab_s54_31, trivial, ab_s54_33, ab_s54_34, trivial, trivial, ab_s54_37, ab_s54_38, trivial, trivial, ab_s54_41, trivial, ab_s54_43, ab_s54_44, ab_s54_45, trivial, trivial, ab_s54_48, ab_s54_49, trivial, ab_s54_51, ab_s54_52, ab_s54_53, ab_s54_54, trivial, trivial, ab_s54_57, trivial, trivial, ab_s54_60, trivial, trivial, ab_s54_63, trivial⟩
theorem ab_dk187_0 : ab_dp 187 [(0, .aload_n 0, 1), (1, .iload_n 1, 1), (2, .iload_n 2, 1), (3, .iload_n 3, 1), (4, .iload 4, 2), (6, .invokevirtual 90, 3), (9, .istore 5, 2), (11, .iload 4, 2), (13, .iload 5, 2), (15, .aload_n 0, 1), (16, .iload_n 1, 1), (17, .invokevirtual 94, 3), (20, .iadd, 1), (21, .invokestatic 97, 3), (24, .istore 6, 2), (26, .aload_n 0, 1)] := ab_da (by decide +kernel)
theorem ab_dk187_1 : ab_dp 187 [(27, .getfield 25, 3), (30, .iconst (-1), 1), (31, .if_icmp .eq 16, 3), (34, .iload 6, 2), (36, .aload_n 0, 1), (37, .getfield 25, 3), (40, .if_icmp .lt 7, 3), (43, .iconst 1, 1), (44, .goto 4, 3), (47, .iconst 0, 1), (48, .istore 7, 2), (50, .iload 5, 2), (52, .iconst (-1), 1), (53, .if_icmp .eq 17, 3), (56, .iload 7, 2), (58, .ifCond .ne 12, 3)] := ab_da (by decide +kernel)
theorem ab_dk187_2 : ab_dp 187 [(61, .iload_n 1, 1), (62, .ifCond .lt 8, 3), (65, .iload_n 1, 1), (66, .iconst 5, 1), (67, .if_icmp .lt 4, 3), (70, .return_, 1), (71, .aload_n 0, 1), (72, .getfield 37, 3), (75, .iload_n 1, 1), (76, .iload_n 2, 1), (77, .iastore, 1), (78, .aload_n 0, 1), (79, .getfield 34, 3), (82, .iload_n 1, 1), (83, .iload 5, 2), (85, .iastore, 1)] := ab_da (by decide +kernel)
theorem ab_dk187_3 : ab_dp 187 [(86, .aload_n 0, 1), (87, .iload_n 1, 1), (88, .iload 5, 2), (90, .iconst 1, 1), (91, .invokevirtual 102, 3), (94, .aload_n 0, 1), (95, .iload_n 2, 1), (96, .iconst 1, 1), (97, .iadd, 1), (98, .iload 5, 2), (100, .iload 6, 2), (102, .invokevirtual 74, 3), (105, .aload_n 0, 1), (106, .iload_n 1, 1), (107, .iload 5, 2), (109, .iconst (-1), 1)] := ab_da (by decide +kernel)
theorem ab_dk187_4 : ab_dp 187 [(110, .invokevirtual 102, 3), (113, .aload_n 0, 1), (114, .getfield 37, 3), (117, .iload_n 1, 1), (118, .iconst (-1), 1), (119, .iastore, 1), (120, .return_, 1)] := ab_da (by decide +kernel)
theorem ab_s187_0 : ab_Sn B 187 0 (ab_o_ald 0 1) := ab_s_aload_n (k := 0) (n := 0) ab_dk187_0.1 rfl
theorem ab_s187_1 : ab_Sn B 187 1 (ab_o_ild 1 2) := ab_s_iload_n (k := 1) (n := 1) ab_dk187_0.2.1 rfl
theorem ab_s187_2 : ab_Sn B 187 2 (ab_o_ild 2 3) := ab_s_iload_n (k := 2) (n := 2) ab_dk187_0.2.2.1 rfl
theorem ab_s187_3 : ab_Sn B 187 3 (ab_o_ild 3 4) := ab_s_iload_n (k := 3) (n := 3) ab_dk187_0.2.2.2.1 rfl
theorem ab_s187_4 : ab_Sn B 187 4 (ab_o_ild 4 6) := ab_s_iload (k := 4) ab_dk187_0.2.2.2.2.1
theorem ab_s187_6 : ab_Sn B 187 6 (ab_o_call (some (5, 15)) [] 57 8 5 true 9) := ab_s_callV (M' := 57) (na := 4) (i := 90) (ci := 1) (N := 15) (C := RX1) (T := TX1) (v := true) (ab_hok_n (by decide +kernel)) (by decide +kernel) ab_dk187_0.2.2.2.2.2.1 rfl (by decide) (by decide +kernel) (by decide +kernel) (by decide) wf_129 wf_130 wf_131 wf_132 wf_94
theorem ab_s187_9 : ab_Sn B 187 9 (ab_o_ist 5 11) := ab_s_istore (k := 5) ab_dk187_0.2.2.2.2.2.2.1
theorem ab_s187_11 : ab_Sn B 187 11 (ab_o_ild 4 13) := ab_s_iload (k := 4) ab_dk187_0.2.2.2.2.2.2.2.1
theorem ab_s187_13 : ab_Sn B 187 13 (ab_o_ild 5 15) := ab_s_iload (k := 5) ab_dk187_0.2.2.2.2.2.2.2.2.1
theorem ab_s187_15 : ab_Sn B 187 15 (ab_o_ald 0 16) := ab_s_aload_n (k := 0) (n := 0) ab_dk187_0.2.2.2.2.2.2.2.2.2.1 rfl
theorem ab_s187_16 : ab_Sn B 187 16 (ab_o_ild 1 17) := ab_s_iload_n (k := 1) (n := 1) ab_dk187_0.2.2.2.2.2.2.2.2.2.2.1 rfl
theorem ab_s187_17 : ab_Sn B 187 17 (ab_o_call (some (5, 15)) [] 41 2 2 true 20) := ab_s_callV (M' := 41) (na := 1) (i := 94) (ci := 1) (N := 15) (C := RX1) (T := TX1) (v := true) (ab_hok_n (by decide +kernel)) (by decide +kernel) ab_dk187_0.2.2.2.2.2.2.2.2.2.2.2.1 rfl (by decide) (by decide +kernel) (by decide +kernel) (by decide) wf_133 wf_134 wf_135 wf_136 wf_94
theorem ab_s187_20 : ab_Sn B 187 20 (ab_o_bin (fun a b => a + b) 21) := ab_s_iadd ab_dk187_0.2.2.2.2.2.2.2.2.2.2.2.2.1
theorem ab_s187_21 : ab_Sn B 187 21 (ab_o_mx (fun a b => if a < b then b else a) 24) := ab_s_max (i := 97) ab_dk187_0.2.2.2.2.2.2.2.2.2.2.2.2.2.1 wf_137 wf_138 wf_139 wf_140
theorem ab_s187_24 : ab_Sn B 187 24 (ab_o_ist 6 26) := ab_s_istore (k := 6) ab_dk187_0.2.2.2.2.2.2.2.2.2.2.2.2.2.2.1
theorem ab_s187_26 : ab_Sn B 187 26 (ab_o_ald 0 27) := ab_s_aload_n (k := 0) (n := 0) ab_dk187_0.2.2.2.2.2.2.2.2.2.2.2.2.2.2.2.1 rfl
theorem ab_s187_27 : ab_Sn B 187 27 (ab_o_geti 5 15 6 30) := ab_s_geti (i := 25) (ci := 1) (N := 15) (k := 6) (C := RX1) (T := TX1) ab_dk187_1.1 rfl (by decide) rfl wf_82
theorem ab_s187_30 : ab_Sn B 187 30 (ab_o_const (-1) 31) := ab_s_iconst (n := (-1)) ab_dk187_1.2.1 rfl
theorem ab_s187_31 : ab_Sn B 187 31 (ab_o_icmp ab_eq 47 34) := ab_s_icmp_eq (tg := 47) (off := 16) ab_dk187_1.2.2.1 (by decide)
theorem ab_s187_34 : ab_Sn B 187 34 (ab_o_ild 6 36) := ab_s_iload (k := 6) ab_dk187_1.2.2.2.1
theorem ab_s187_36 : ab_Sn B 187 36 (ab_o_ald 0 37) := ab_s_aload_n (k := 0) (n := 0) ab_dk187_1.2.2.2.2.1 rfl
theorem ab_s187_37 : ab_Sn B 187 37 (ab_o_geti 5 15 6 40) := ab_s_geti (i := 25) (ci := 1) (N := 15) (k := 6) (C := RX1) (T := TX1) ab_dk187_1.2.2.2.2.2.1 rfl (by decide) rfl wf_82
theorem ab_s187_40 : ab_Sn B 187 40 (ab_o_icmp ab_lt 47 43) := ab_s_icmp_lt (tg := 47) (off := 7) ab_dk187_1.2.2.2.2.2.2.1 (by decide)
theorem ab_s187_43 : ab_Sn B 187 43 (ab_o_const 1 44) := ab_s_iconst (n := 1) ab_dk187_1.2.2.2.2.2.2.2.1 rfl
theorem ab_s187_44 : ab_Sn B 187 44 (ab_o_goto 48) := ab_s_goto (tg := 48) (off := 4) ab_dk187_1.2.2.2.2.2.2.2.2.1 (by decide)
theorem ab_s187_47 : ab_Sn B 187 47 (ab_o_const 0 48) := ab_s_iconst (n := 0) ab_dk187_1.2.2.2.2.2.2.2.2.2.1 rfl
theorem ab_s187_48 : ab_Sn B 187 48 (ab_o_ist 7 50) := ab_s_istore (k := 7) ab_dk187_1.2.2.2.2.2.2.2.2.2.2.1
theorem ab_s187_50 : ab_Sn B 187 50 (ab_o_ild 5 52) := ab_s_iload (k := 5) ab_dk187_1.2.2.2.2.2.2.2.2.2.2.2.1
theorem ab_s187_52 : ab_Sn B 187 52 (ab_o_const (-1) 53) := ab_s_iconst (n := (-1)) ab_dk187_1.2.2.2.2.2.2.2.2.2.2.2.2.1 rfl
theorem ab_s187_53 : ab_Sn B 187 53 (ab_o_icmp ab_eq 70 56) := ab_s_icmp_eq (tg := 70) (off := 17) ab_dk187_1.2.2.2.2.2.2.2.2.2.2.2.2.2.1 (by decide)
theorem ab_s187_56 : ab_Sn B 187 56 (ab_o_ild 7 58) := ab_s_iload (k := 7) ab_dk187_1.2.2.2.2.2.2.2.2.2.2.2.2.2.2.1
theorem ab_s187_58 : ab_Sn B 187 58 (ab_o_if ab_ne 70 61) := ab_s_if_ne (tg := 70) (off := 12) ab_dk187_1.2.2.2.2.2.2.2.2.2.2.2.2.2.2.2.1 (by decide)
theorem ab_s187_61 : ab_Sn B 187 61 (ab_o_ild 1 62) := ab_s_iload_n (k := 1) (n := 1) ab_dk187_2.1 rfl
theorem ab_s187_62 : ab_Sn B 187 62 (ab_o_if ab_lt 70 65) := ab_s_if_lt (tg := 70) (off := 8) ab_dk187_2.2.1 (by decide)
theorem ab_s187_65 : ab_Sn B 187 65 (ab_o_ild 1 66) := ab_s_iload_n (k := 1) (n := 1) ab_dk187_2.2.2.1 rfl
theorem ab_s187_66 : ab_Sn B 187 66 (ab_o_const 5 67) := ab_s_iconst (n := 5) ab_dk187_2.2.2.2.1 rfl
theorem ab_s187_67 : ab_Sn B 187 67 (ab_o_icmp ab_lt 71 70) := ab_s_icmp_lt (tg := 71) (off := 4) ab_dk187_2.2.2.2.2.1 (by decide)
theorem ab_s187_70 : ab_Sn B 187 70 (ab_o_ret) := ab_s_ret ab_dk187_2.2.2.2.2.2.1 rfl
theorem ab_s187_71 : ab_Sn B 187 71 (ab_o_ald 0 72) := ab_s_aload_n (k := 0) (n := 0) ab_dk187_2.2.2.2.2.2.2.1 rfl
theorem ab_s187_72 : ab_Sn B 187 72 (ab_o_getr 5 15 10 75) := ab_s_getr (i := 37) (ci := 1) (N := 15) (k := 10) (C := RX1) (T := TX1) ab_dk187_2.2.2.2.2.2.2.2.1 rfl (by decide) rfl wf_86
theorem ab_s187_75 : ab_Sn B 187 75 (ab_o_ild 1 76) := ab_s_iload_n (k := 1) (n := 1) ab_dk187_2.2.2.2.2.2.2.2.2.1 rfl
theorem ab_s187_76 : ab_Sn B 187 76 (ab_o_ild 2 77) := ab_s_iload_n (k := 2) (n := 2) ab_dk187_2.2.2.2.2.2.2.2.2.2.1 rfl
theorem ab_s187_77 : ab_Sn B 187 77 (ab_o_xst 0 78) := ab_s_iastore ab_dk187_2.2.2.2.2.2.2.2.2.2.2.1
theorem ab_s187_78 : ab_Sn B 187 78 (ab_o_ald 0 79) := ab_s_aload_n (k := 0) (n := 0) ab_dk187_2.2.2.2.2.2.2.2.2.2.2.2.1 rfl
theorem ab_s187_79 : ab_Sn B 187 79 (ab_o_getr 5 15 9 82) := ab_s_getr (i := 34) (ci := 1) (N := 15) (k := 9) (C := RX1) (T := TX1) ab_dk187_2.2.2.2.2.2.2.2.2.2.2.2.2.1 rfl (by decide) rfl wf_85
theorem ab_s187_82 : ab_Sn B 187 82 (ab_o_ild 1 83) := ab_s_iload_n (k := 1) (n := 1) ab_dk187_2.2.2.2.2.2.2.2.2.2.2.2.2.2.1 rfl
theorem ab_s187_83 : ab_Sn B 187 83 (ab_o_ild 5 85) := ab_s_iload (k := 5) ab_dk187_2.2.2.2.2.2.2.2.2.2.2.2.2.2.2.1
theorem ab_s187_85 : ab_Sn B 187 85 (ab_o_xst 0 86) := ab_s_iastore ab_dk187_2.2.2.2.2.2.2.2.2.2.2.2.2.2.2.2.1
theorem ab_s187_86 : ab_Sn B 187 86 (ab_o_ald 0 87) := ab_s_aload_n (k := 0) (n := 0) ab_dk187_3.1 rfl
theorem ab_s187_87 : ab_Sn B 187 87 (ab_o_ild 1 88) := ab_s_iload_n (k := 1) (n := 1) ab_dk187_3.2.1 rfl
theorem ab_s187_88 : ab_Sn B 187 88 (ab_o_ild 5 90) := ab_s_iload (k := 5) ab_dk187_3.2.2.1
theorem ab_s187_90 : ab_Sn B 187 90 (ab_o_const 1 91) := ab_s_iconst (n := 1) ab_dk187_3.2.2.2.1 rfl
theorem ab_s187_91 : ab_Sn B 187 91 (ab_o_call (some (5, 15)) [] 56 7 4 false 94) := ab_s_callV (M' := 56) (na := 3) (i := 102) (ci := 1) (N := 15) (C := RX1) (T := TX1) (v := false) (ab_hok_n (by decide +kernel)) (by decide +kernel) ab_dk187_3.2.2.2.2.1 rfl (by decide) (by decide +kernel) (by decide +kernel) (by decide) wf_141 wf_142 wf_143 wf_144 wf_94
theorem ab_s187_94 : ab_Sn B 187 94 (ab_o_ald 0 95) := ab_s_aload_n (k := 0) (n := 0) ab_dk187_3.2.2.2.2.2.1 rfl
theorem ab_s187_95 : ab_Sn B 187 95 (ab_o_ild 2 96) := ab_s_iload_n (k := 2) (n := 2) ab_dk187_3.2.2.2.2.2.2.1 rfl
theorem ab_s187_96 : ab_Sn B 187 96 (ab_o_const 1 97) := ab_s_iconst (n := 1) ab_dk187_3.2.2.2.2.2.2.2.1 rfl
theorem ab_s187_97 : ab_Sn B 187 97 (ab_o_bin (fun a b => a + b) 98) := ab_s_iadd ab_dk187_3.2.2.2.2.2.2.2.2.1
theorem ab_s187_98 : ab_Sn B 187 98 (ab_o_ild 5 100) := ab_s_iload (k := 5) ab_dk187_3.2.2.2.2.2.2.2.2.2.1
theorem ab_s187_100 : ab_Sn B 187 100 (ab_o_ild 6 102) := ab_s_iload (k := 6) ab_dk187_3.2.2.2.2.2.2.2.2.2.2.1
theorem ab_s187_102 : ab_Sn B 187 102 (ab_o_call (some (5, 15)) [] 54 5 4 false 105) := ab_s_callV (M' := 54) (na := 3) (i := 74) (ci := 1) (N := 15) (C := RX1) (T := TX1) (v := false) (ab_hok_n (by decide +kernel)) (by decide +kernel) ab_dk187_3.2.2.2.2.2.2.2.2.2.2.2.1 rfl (by decide) (by decide +kernel) (by decide +kernel) (by decide) wf_113 wf_114 wf_115 wf_116 wf_94
theorem ab_s187_105 : ab_Sn B 187 105 (ab_o_ald 0 106) := ab_s_aload_n (k := 0) (n := 0) ab_dk187_3.2.2.2.2.2.2.2.2.2.2.2.2.1 rfl
theorem ab_s187_106 : ab_Sn B 187 106 (ab_o_ild 1 107) := ab_s_iload_n (k := 1) (n := 1) ab_dk187_3.2.2.2.2.2.2.2.2.2.2.2.2.2.1 rfl
theorem ab_s187_107 : ab_Sn B 187 107 (ab_o_ild 5 109) := ab_s_iload (k := 5) ab_dk187_3.2.2.2.2.2.2.2.2.2.2.2.2.2.2.1
theorem ab_s187_109 : ab_Sn B 187 109 (ab_o_const (-1) 110) := ab_s_iconst (n := (-1)) ab_dk187_3.2.2.2.2.2.2.2.2.2.2.2.2.2.2.2.1 rfl
theorem ab_s187_110 : ab_Sn B 187 110 (ab_o_call (some (5, 15)) [] 56 7 4 false 113) := ab_s_callV (M' := 56) (na := 3) (i := 102) (ci := 1) (N := 15) (C := RX1) (T := TX1) (v := false) (ab_hok_n (by decide +kernel)) (by decide +kernel) ab_dk187_4.1 rfl (by decide) (by decide +kernel) (by decide +kernel) (by decide) wf_141 wf_142 wf_143 wf_144 wf_94
theorem ab_s187_113 : ab_Sn B 187 113 (ab_o_ald 0 114) := ab_s_aload_n (k := 0) (n := 0) ab_dk187_4.2.1 rfl
theorem ab_s187_114 : ab_Sn B 187 114 (ab_o_getr 5 15 10 117) := ab_s_getr (i := 37) (ci := 1) (N := 15) (k := 10) (C := RX1) (T := TX1) ab_dk187_4.2.2.1 rfl (by decide) rfl wf_86
theorem ab_s187_117 : ab_Sn B 187 117 (ab_o_ild 1 118) := ab_s_iload_n (k := 1) (n := 1) ab_dk187_4.2.2.2.1 rfl
theorem ab_s187_118 : ab_Sn B 187 118 (ab_o_const (-1) 119) := ab_s_iconst (n := (-1)) ab_dk187_4.2.2.2.2.1 rfl
theorem ab_s187_119 : ab_Sn B 187 119 (ab_o_xst 0 120) := ab_s_iastore ab_dk187_4.2.2.2.2.2.1
theorem ab_s187_120 : ab_Sn B 187 120 (ab_o_ret) := ab_s_ret ab_dk187_4.2.2.2.2.2.2.1 rfl
set_option maxRecDepth 20000 in
theorem ab_sn187 : ab_all B 187 0 (ab_c187) := ⟨ab_s187_0, ab_s187_1, ab_s187_2, ab_s187_3, ab_s187_4, trivial, ab_s187_6, trivial, trivial, ab_s187_9, trivial, ab_s187_11, trivial, ab_s187_13, trivial, ab_s187_15, ab_s187_16, ab_s187_17, trivial, trivial, ab_s187_20, ab_s187_21, trivial, trivial, ab_s187_24, trivial, ab_s187_26, ab_s187_27, trivial, trivial, ab_s187_30, ab_s187_31, trivial, trivial, ab_s187_34, trivial, ab_s187_36, ab_s187_37, trivial, trivial, ab_s187_40, trivial, trivial, ab_s187_43, ab_s187_44, trivial, trivial, ab_s187_47, ab_s187_48, trivial, ab_s187_50, trivial, ab_s187_52, ab_s187_53, trivial, trivial, ab_s187_56, trivial, ab_s187_58, trivial, trivial, ab_s187_61, ab_s187_62, trivial, trivial, ab_s187_65, ab_s187_66, ab_s187_67, trivial, trivial, ab_s187_70, ab_s187_71, ab_s187_72, trivial, trivial, ab_s187_75, ab_s187_76, ab_s187_77, ab_s187_78, ab_s187_79, trivial, trivial, ab_s187_82, ab_s187_83, trivial, ab_s187_85, ab_s187_86, ab_s187_87, ab_s187_88, trivial, ab_s187_90, ab_s187_91, trivial, trivial, ab_s187_94, ab_s187_95, ab_s187_96, ab_s187_97, ab_s187_98, trivial, ab_s187_100, trivial, ab_s187_102, trivial, trivial, ab_s187_105, ab_s187_106, ab_s187_107, trivial, ab_s187_109, ab_s187_110, trivial, trivial, ab_s187_113, ab_s187_114, trivial, trivial, ab_s187_117, ab_s187_118, ab_s187_119, ab_s187_120, trivial⟩
theorem ab_dk55_0 : ab_dp 55 [(0, .aload_n 0, 1), (1, .iload_n 1, 1), (2, .putfield 25, 3), (5, .iconst 0, 1), (6, .istore_n 2, 1), (7, .iload_n 2, 1), (8, .iconst 5, 1), (9, .if_icmp .ge 33, 3), (12, .aload_n 0, 1), (13, .getfield 28, 3), (16, .iload_n 2, 1), (17, .aload_n 0, 1), (18, .getfield 34, 3), (21, .iload_n 2, 1), (22, .iaload, 1), (23, .iastore, 1)] := ab_da (by decide +kernel)
theorem ab_dk55_1 : ab_dp 55 [(24, .aload_n 0, 1), (25, .getfield 31, 3), (28, .iload_n 2, 1), (29, .aload_n 0, 1), (30, .getfield 37, 3), (33, .iload_n 2, 1), (34, .iaload, 1), (35, .iastore, 1), (36, .iinc 2 1, 3), (39, .goto (-32), 3), (42, .return_, 1)] := ab_da (by decide +kernel)
theorem ab_s55_0 : ab_Sn B 55 0 (ab_o_ald 0 1) := ab_s_aload_n (k := 0) (n := 0) ab_dk55_0.1 rfl
theorem ab_s55_1 : ab_Sn B 55 1 (ab_o_ild 1 2) := ab_s_iload_n (k := 1) (n := 1) ab_dk55_0.2.1 rfl
theorem ab_s55_2 : ab_Sn B 55 2 (ab_o_puti 5 15 6 false 5) := ab_s_puti (b := false) (ty := .int) (i := 25) (ci := 1) (N := 15) (k := 6) (C := RX1) (T := TX1) ab_dk55_0.2.2.1 rfl (by decide) rfl wf_82 rfl (by decide +kernel) (Or.inl ⟨rfl, rfl⟩)
theorem ab_s55_5 : ab_Sn B 55 5 (ab_o_const 0 6) := ab_s_iconst (n := 0) ab_dk55_0.2.2.2.1 rfl
theorem ab_s55_6 : ab_Sn B 55 6 (ab_o_ist 2 7) := ab_s_istore_n (k := 2) (n := 2) ab_dk55_0.2.2.2.2.1 rfl
theorem ab_s55_7 : ab_Sn B 55 7 (ab_o_ild 2 8) := ab_s_iload_n (k := 2) (n := 2) ab_dk55_0.2.2.2.2.2.1 rfl
theorem ab_s55_8 : ab_Sn B 55 8 (ab_o_const 5 9) := ab_s_iconst (n := 5) ab_dk55_0.2.2.2.2.2.2.1 rfl
theorem ab_s55_9 : ab_Sn B 55 9 (ab_o_icmp ab_ge 42 12) := ab_s_icmp_ge (tg := 42) (off := 33) ab_dk55_0.2.2.2.2.2.2.2.1 (by decide)
theorem ab_s55_12 : ab_Sn B 55 12 (ab_o_ald 0 13) := ab_s_aload_n (k := 0) (n := 0) ab_dk55_0.2.2.2.2.2.2.2.2.1 rfl
theorem ab_s55_13 : ab_Sn B 55 13 (ab_o_getr 5 15 7 16) := ab_s_getr (i := 28) (ci := 1) (N := 15) (k := 7) (C := RX1) (T := TX1) ab_dk55_0.2.2.2.2.2.2.2.2.2.1 rfl (by decide) rfl wf_83
theorem ab_s55_16 : ab_Sn B 55 16 (ab_o_ild 2 17) := ab_s_iload_n (k := 2) (n := 2) ab_dk55_0.2.2.2.2.2.2.2.2.2.2.1 rfl
theorem ab_s55_17 : ab_Sn B 55 17 (ab_o_ald 0 18) := ab_s_aload_n (k := 0) (n := 0) ab_dk55_0.2.2.2.2.2.2.2.2.2.2.2.1 rfl
theorem ab_s55_18 : ab_Sn B 55 18 (ab_o_getr 5 15 9 21) := ab_s_getr (i := 34) (ci := 1) (N := 15) (k := 9) (C := RX1) (T := TX1) ab_dk55_0.2.2.2.2.2.2.2.2.2.2.2.2.1 rfl (by decide) rfl wf_85
theorem ab_s55_21 : ab_Sn B 55 21 (ab_o_ild 2 22) := ab_s_iload_n (k := 2) (n := 2) ab_dk55_0.2.2.2.2.2.2.2.2.2.2.2.2.2.1 rfl
theorem ab_s55_22 : ab_Sn B 55 22 (ab_o_xld 0 23) := ab_s_iaload ab_dk55_0.2.2.2.2.2.2.2.2.2.2.2.2.2.2.1
theorem ab_s55_23 : ab_Sn B 55 23 (ab_o_xst 0 24) := ab_s_iastore ab_dk55_0.2.2.2.2.2.2.2.2.2.2.2.2.2.2.2.1
theorem ab_s55_24 : ab_Sn B 55 24 (ab_o_ald 0 25) := ab_s_aload_n (k := 0) (n := 0) ab_dk55_1.1 rfl
theorem ab_s55_25 : ab_Sn B 55 25 (ab_o_getr 5 15 8 28) := ab_s_getr (i := 31) (ci := 1) (N := 15) (k := 8) (C := RX1) (T := TX1) ab_dk55_1.2.1 rfl (by decide) rfl wf_84
theorem ab_s55_28 : ab_Sn B 55 28 (ab_o_ild 2 29) := ab_s_iload_n (k := 2) (n := 2) ab_dk55_1.2.2.1 rfl
theorem ab_s55_29 : ab_Sn B 55 29 (ab_o_ald 0 30) := ab_s_aload_n (k := 0) (n := 0) ab_dk55_1.2.2.2.1 rfl
theorem ab_s55_30 : ab_Sn B 55 30 (ab_o_getr 5 15 10 33) := ab_s_getr (i := 37) (ci := 1) (N := 15) (k := 10) (C := RX1) (T := TX1) ab_dk55_1.2.2.2.2.1 rfl (by decide) rfl wf_86
theorem ab_s55_33 : ab_Sn B 55 33 (ab_o_ild 2 34) := ab_s_iload_n (k := 2) (n := 2) ab_dk55_1.2.2.2.2.2.1 rfl
theorem ab_s55_34 : ab_Sn B 55 34 (ab_o_xld 0 35) := ab_s_iaload ab_dk55_1.2.2.2.2.2.2.1
theorem ab_s55_35 : ab_Sn B 55 35 (ab_o_xst 0 36) := ab_s_iastore ab_dk55_1.2.2.2.2.2.2.2.1
theorem ab_s55_36 : ab_Sn B 55 36 (ab_o_inc 2 1 39) := ab_s_iinc (k := 2) (n := 1) ab_dk55_1.2.2.2.2.2.2.2.2.1
theorem ab_s55_39 : ab_Sn B 55 39 (ab_o_goto 7) := ab_s_goto (tg := 7) (off := -32) ab_dk55_1.2.2.2.2.2.2.2.2.2.1 (by decide)
theorem ab_s55_42 : ab_Sn B 55 42 (ab_o_ret) := ab_s_ret ab_dk55_1.2.2.2.2.2.2.2.2.2.2.1 rfl
set_option maxRecDepth 20000 in
theorem ab_sn55 : ab_all B 55 0 (ab_c55) := ⟨ab_s55_0, ab_s55_1, ab_s55_2, trivial, trivial, ab_s55_5, ab_s55_6, ab_s55_7, ab_s55_8, ab_s55_9, trivial, trivial, ab_s55_12, ab_s55_13, trivial, trivial, ab_s55_16, ab_s55_17, ab_s55_18, trivial, trivial, ab_s55_21, ab_s55_22, ab_s55_23, ab_s55_24, ab_s55_25, trivial, trivial, ab_s55_28, ab_s55_29, ab_s55_30, trivial, trivial, ab_s55_33, ab_s55_34, ab_s55_35, ab_s55_36, trivial, trivial, ab_s55_39, trivial, trivial, ab_s55_42, trivial⟩
theorem ab_dk56_0 : ab_dp 56 [(0, .aload_n 0, 1), (1, .iload_n 1, 1), (2, .invokevirtual 78, 3), (5, .istore 4, 2), (7, .iload_n 2, 1), (8, .aload_n 0, 1), (9, .iload_n 1, 1), (10, .invokevirtual 94, 3), (13, .iadd, 1), (14, .istore 5, 2), (16, .aload_n 0, 1), (17, .dup, 1), (18, .getfield 105, 3), (21, .iload_n 3, 1), (22, .iload 4, 2), (24, .imul, 1)] := ab_da (by decide +kernel)
theorem ab_dk56_1 : ab_dp 56 [(25, .iadd, 1), (26, .putfield 105, 3), (29, .iload_n 2, 1), (30, .iconst 0, 1), (31, .invokestatic 97, 3), (34, .istore 6, 2), (36, .iload 6, 2), (38, .iload 5, 2), (40, .if_icmp .ge 39, 3), (43, .iload 6, 2), (45, .aload_n 0, 1), (46, .getfield 43, 3), (49, .arraylength, 1), (50, .if_icmp .ge 29, 3), (53, .aload_n 0, 1), (54, .getfield 43, 3)] := ab_da (by decide +kernel)
theorem ab_dk56_2 : ab_dp 56 [(57, .iload 6, 2), (59, .dup2, 1), (60, .iaload, 1), (61, .iload_n 3, 1), (62, .aload_n 0, 1), (63, .iload_n 1, 1), (64, .invokevirtual 108, 3), (67, .iload 4, 2), (69, .isub, 1), (70, .imul, 1), (71, .iadd, 1), (72, .iastore, 1), (73, .iinc 6 1, 3), (76, .goto (-40), 3), (79, .return_, 1)] := ab_da (by decide +kernel)
theorem ab_s56_0 : ab_Sn B 56 0 (ab_o_ald 0 1) := ab_s_aload_n (k := 0) (n := 0) ab_dk56_0.1 rfl
theorem ab_s56_1 : ab_Sn B 56 1 (ab_o_ild 1 2) := ab_s_iload_n (k := 1) (n := 1) ab_dk56_0.2.1 rfl
theorem ab_s56_2 : ab_Sn B 56 2 (ab_o_call (some (5, 15)) [] 42 2 2 true 5) := ab_s_callV (M' := 42) (na := 1) (i := 78) (ci := 1) (N := 15) (C := RX1) (T := TX1) (v := true) (ab_hok_n (by decide +kernel)) (by decide +kernel) ab_dk56_0.2.2.1 rfl (by decide) (by decide +kernel) (by decide +kernel) (by decide) wf_117 wf_118 wf_119 wf_120 wf_94
theorem ab_s56_5 : ab_Sn B 56 5 (ab_o_ist 4 7) := ab_s_istore (k := 4) ab_dk56_0.2.2.2.1
theorem ab_s56_7 : ab_Sn B 56 7 (ab_o_ild 2 8) := ab_s_iload_n (k := 2) (n := 2) ab_dk56_0.2.2.2.2.1 rfl
theorem ab_s56_8 : ab_Sn B 56 8 (ab_o_ald 0 9) := ab_s_aload_n (k := 0) (n := 0) ab_dk56_0.2.2.2.2.2.1 rfl
theorem ab_s56_9 : ab_Sn B 56 9 (ab_o_ild 1 10) := ab_s_iload_n (k := 1) (n := 1) ab_dk56_0.2.2.2.2.2.2.1 rfl
theorem ab_s56_10 : ab_Sn B 56 10 (ab_o_call (some (5, 15)) [] 41 2 2 true 13) := ab_s_callV (M' := 41) (na := 1) (i := 94) (ci := 1) (N := 15) (C := RX1) (T := TX1) (v := true) (ab_hok_n (by decide +kernel)) (by decide +kernel) ab_dk56_0.2.2.2.2.2.2.2.1 rfl (by decide) (by decide +kernel) (by decide +kernel) (by decide) wf_133 wf_134 wf_135 wf_136 wf_94
theorem ab_s56_13 : ab_Sn B 56 13 (ab_o_bin (fun a b => a + b) 14) := ab_s_iadd ab_dk56_0.2.2.2.2.2.2.2.2.1
theorem ab_s56_14 : ab_Sn B 56 14 (ab_o_ist 5 16) := ab_s_istore (k := 5) ab_dk56_0.2.2.2.2.2.2.2.2.2.1
theorem ab_s56_16 : ab_Sn B 56 16 (ab_o_ald 0 17) := ab_s_aload_n (k := 0) (n := 0) ab_dk56_0.2.2.2.2.2.2.2.2.2.2.1 rfl
theorem ab_s56_17 : ab_Sn B 56 17 (ab_o_dup 18) := ab_s_dup ab_dk56_0.2.2.2.2.2.2.2.2.2.2.2.1
theorem ab_s56_18 : ab_Sn B 56 18 (ab_o_geti 5 15 12 21) := ab_s_geti (i := 105) (ci := 1) (N := 15) (k := 12) (C := RX1) (T := TX1) ab_dk56_0.2.2.2.2.2.2.2.2.2.2.2.2.1 rfl (by decide) rfl wf_145
theorem ab_s56_21 : ab_Sn B 56 21 (ab_o_ild 3 22) := ab_s_iload_n (k := 3) (n := 3) ab_dk56_0.2.2.2.2.2.2.2.2.2.2.2.2.2.1 rfl
theorem ab_s56_22 : ab_Sn B 56 22 (ab_o_ild 4 24) := ab_s_iload (k := 4) ab_dk56_0.2.2.2.2.2.2.2.2.2.2.2.2.2.2.1
theorem ab_s56_24 : ab_Sn B 56 24 (ab_o_bin (fun a b => a * b) 25) := ab_s_imul ab_dk56_0.2.2.2.2.2.2.2.2.2.2.2.2.2.2.2.1
theorem ab_s56_25 : ab_Sn B 56 25 (ab_o_bin (fun a b => a + b) 26) := ab_s_iadd ab_dk56_1.1
theorem ab_s56_26 : ab_Sn B 56 26 (ab_o_puti 5 15 12 false 29) := ab_s_puti (b := false) (ty := .int) (i := 105) (ci := 1) (N := 15) (k := 12) (C := RX1) (T := TX1) ab_dk56_1.2.1 rfl (by decide) rfl wf_145 rfl (by decide +kernel) (Or.inl ⟨rfl, rfl⟩)
theorem ab_s56_29 : ab_Sn B 56 29 (ab_o_ild 2 30) := ab_s_iload_n (k := 2) (n := 2) ab_dk56_1.2.2.1 rfl
theorem ab_s56_30 : ab_Sn B 56 30 (ab_o_const 0 31) := ab_s_iconst (n := 0) ab_dk56_1.2.2.2.1 rfl
theorem ab_s56_31 : ab_Sn B 56 31 (ab_o_mx (fun a b => if a < b then b else a) 34) := ab_s_max (i := 97) ab_dk56_1.2.2.2.2.1 wf_137 wf_138 wf_139 wf_140
theorem ab_s56_34 : ab_Sn B 56 34 (ab_o_ist 6 36) := ab_s_istore (k := 6) ab_dk56_1.2.2.2.2.2.1
theorem ab_s56_36 : ab_Sn B 56 36 (ab_o_ild 6 38) := ab_s_iload (k := 6) ab_dk56_1.2.2.2.2.2.2.1
theorem ab_s56_38 : ab_Sn B 56 38 (ab_o_ild 5 40) := ab_s_iload (k := 5) ab_dk56_1.2.2.2.2.2.2.2.1
theorem ab_s56_40 : ab_Sn B 56 40 (ab_o_icmp ab_ge 79 43) := ab_s_icmp_ge (tg := 79) (off := 39) ab_dk56_1.2.2.2.2.2.2.2.2.1 (by decide)
theorem ab_s56_43 : ab_Sn B 56 43 (ab_o_ild 6 45) := ab_s_iload (k := 6) ab_dk56_1.2.2.2.2.2.2.2.2.2.1
theorem ab_s56_45 : ab_Sn B 56 45 (ab_o_ald 0 46) := ab_s_aload_n (k := 0) (n := 0) ab_dk56_1.2.2.2.2.2.2.2.2.2.2.1 rfl
theorem ab_s56_46 : ab_Sn B 56 46 (ab_o_getr 5 15 13 49) := ab_s_getr (i := 43) (ci := 1) (N := 15) (k := 13) (C := RX1) (T := TX1) ab_dk56_1.2.2.2.2.2.2.2.2.2.2.2.1 rfl (by decide) rfl wf_88
theorem ab_s56_49 : ab_Sn B 56 49 (ab_o_alen 50) := ab_s_alen ab_dk56_1.2.2.2.2.2.2.2.2.2.2.2.2.1
theorem ab_s56_50 : ab_Sn B 56 50 (ab_o_icmp ab_ge 79 53) := ab_s_icmp_ge (tg := 79) (off := 29) ab_dk56_1.2.2.2.2.2.2.2.2.2.2.2.2.2.1 (by decide)
theorem ab_s56_53 : ab_Sn B 56 53 (ab_o_ald 0 54) := ab_s_aload_n (k := 0) (n := 0) ab_dk56_1.2.2.2.2.2.2.2.2.2.2.2.2.2.2.1 rfl
theorem ab_s56_54 : ab_Sn B 56 54 (ab_o_getr 5 15 13 57) := ab_s_getr (i := 43) (ci := 1) (N := 15) (k := 13) (C := RX1) (T := TX1) ab_dk56_1.2.2.2.2.2.2.2.2.2.2.2.2.2.2.2.1 rfl (by decide) rfl wf_88
theorem ab_s56_57 : ab_Sn B 56 57 (ab_o_ild 6 59) := ab_s_iload (k := 6) ab_dk56_2.1
theorem ab_s56_59 : ab_Sn B 56 59 (ab_o_dup2 60) := ab_s_dup2 ab_dk56_2.2.1
theorem ab_s56_60 : ab_Sn B 56 60 (ab_o_xld 0 61) := ab_s_iaload ab_dk56_2.2.2.1
theorem ab_s56_61 : ab_Sn B 56 61 (ab_o_ild 3 62) := ab_s_iload_n (k := 3) (n := 3) ab_dk56_2.2.2.2.1 rfl
theorem ab_s56_62 : ab_Sn B 56 62 (ab_o_ald 0 63) := ab_s_aload_n (k := 0) (n := 0) ab_dk56_2.2.2.2.2.1 rfl
theorem ab_s56_63 : ab_Sn B 56 63 (ab_o_ild 1 64) := ab_s_iload_n (k := 1) (n := 1) ab_dk56_2.2.2.2.2.2.1 rfl
theorem ab_s56_64 : ab_Sn B 56 64 (ab_o_call (some (5, 15)) [] 40 2 2 true 67) := ab_s_callV (M' := 40) (na := 1) (i := 108) (ci := 1) (N := 15) (C := RX1) (T := TX1) (v := true) (ab_hok_n (by decide +kernel)) (by decide +kernel) ab_dk56_2.2.2.2.2.2.2.1 rfl (by decide) (by decide +kernel) (by decide +kernel) (by decide) wf_146 wf_147 wf_148 wf_149 wf_94
theorem ab_s56_67 : ab_Sn B 56 67 (ab_o_ild 4 69) := ab_s_iload (k := 4) ab_dk56_2.2.2.2.2.2.2.2.1
theorem ab_s56_69 : ab_Sn B 56 69 (ab_o_bin (fun a b => a - b) 70) := ab_s_isub ab_dk56_2.2.2.2.2.2.2.2.2.1
theorem ab_s56_70 : ab_Sn B 56 70 (ab_o_bin (fun a b => a * b) 71) := ab_s_imul ab_dk56_2.2.2.2.2.2.2.2.2.2.1
theorem ab_s56_71 : ab_Sn B 56 71 (ab_o_bin (fun a b => a + b) 72) := ab_s_iadd ab_dk56_2.2.2.2.2.2.2.2.2.2.2.1
theorem ab_s56_72 : ab_Sn B 56 72 (ab_o_xst 0 73) := ab_s_iastore ab_dk56_2.2.2.2.2.2.2.2.2.2.2.2.1
theorem ab_s56_73 : ab_Sn B 56 73 (ab_o_inc 6 1 76) := ab_s_iinc (k := 6) (n := 1) ab_dk56_2.2.2.2.2.2.2.2.2.2.2.2.2.1
theorem ab_s56_76 : ab_Sn B 56 76 (ab_o_goto 36) := ab_s_goto (tg := 36) (off := -40) ab_dk56_2.2.2.2.2.2.2.2.2.2.2.2.2.2.1 (by decide)
theorem ab_s56_79 : ab_Sn B 56 79 (ab_o_ret) := ab_s_ret ab_dk56_2.2.2.2.2.2.2.2.2.2.2.2.2.2.2.1 rfl
set_option maxRecDepth 20000 in
theorem ab_sn56 : ab_all B 56 0 (ab_c56) := ⟨ab_s56_0, ab_s56_1, ab_s56_2, trivial, trivial, ab_s56_5, trivial, ab_s56_7, ab_s56_8, ab_s56_9, ab_s56_10, trivial, trivial, ab_s56_13, ab_s56_14, trivial, ab_s56_16, ab_s56_17, ab_s56_18, trivial, trivial, ab_s56_21, ab_s56_22, trivial, ab_s56_24, ab_s56_25, ab_s56_26, trivial, trivial, ab_s56_29, ab_s56_30, ab_s56_31, trivial, trivial, ab_s56_34, trivial, ab_s56_36, trivial, ab_s56_38, trivial, ab_s56_40, trivial, trivial, ab_s56_43, trivial, ab_s56_45, ab_s56_46, trivial, trivial, ab_s56_49, ab_s56_50, trivial, trivial, ab_s56_53, ab_s56_54, trivial, trivial, ab_s56_57, trivial, ab_s56_59, ab_s56_60, ab_s56_61, ab_s56_62, ab_s56_63, ab_s56_64, trivial, trivial, ab_s56_67, trivial, ab_s56_69, ab_s56_70, ab_s56_71, ab_s56_72, ab_s56_73, trivial, trivial, ab_s56_76, trivial, trivial, ab_s56_79, trivial⟩
theorem ab_dk57_0 : ab_dp 57 [(0, .iload_n 2, 1), (1, .ifCond .le 19, 3), (4, .iload_n 2, 1), (5, .iconst 5, 1), (6, .if_icmp .gt 14, 3), (9, .aload_n 0, 1), (10, .getfield 40, 3), (13, .iload_n 2, 1), (14, .iconst 1, 1), (15, .isub, 1), (16, .iaload, 1), (17, .goto 4, 3), (20, .iconst 0, 1), (21, .istore 5, 2), (23, .bipush 60, 2), (25, .iload 4, 2)] := ab_da (by decide +kernel)
theorem ab_dk57_1 : ab_dp 57 [(27, .iconst 1, 1), (28, .iadd, 1), (29, .invokestatic 111, 3), (32, .istore 6, 2), (34, .iload_n 3, 1), (35, .iconst 0, 1), (36, .invokestatic 97, 3), (39, .istore 7, 2), (41, .iload 7, 2), (43, .iload 6, 2), (45, .if_icmp .gt 83, 3), (48, .iload 7, 2), (50, .aload_n 0, 1), (51, .getfield 43, 3), (54, .arraylength, 1), (55, .if_icmp .ge 73, 3)] := ab_da (by decide +kernel)
theorem ab_dk57_2 : ab_dp 57 [(58, .aload_n 0, 1), (59, .iload_n 1, 1), (60, .iload 7, 2), (62, .iload 4, 2), (64, .iload 7, 2), (66, .aload_n 0, 1), (67, .iload_n 1, 1), (68, .invokevirtual 94, 3), (71, .iadd, 1), (72, .invokestatic 97, 3), (75, .iload 5, 2), (77, .invokevirtual 114, 3), (80, .ifCond .ne 13, 3), (83, .aload_n 0, 1), (84, .iload_n 2, 1), (85, .iload 5, 2)] := ab_da (by decide +kernel)
theorem ab_dk57_3 : ab_dp 57 [(87, .invokevirtual 118, 3), (90, .iload 7, 2), (92, .ireturn, 1), (93, .aload_n 0, 1), (94, .getfield 105, 3), (97, .aload_n 0, 1), (98, .getfield 43, 3), (101, .iload 7, 2), (103, .iaload, 1), (104, .iadd, 1), (105, .aload_n 0, 1), (106, .getfield 9, 3), (109, .if_icmp .le 10, 3), (112, .iload 5, 2), (114, .iconst 1, 1), (115, .iadd, 1)] := ab_da (by decide +kernel)
theorem ab_dk57_4 : ab_dp 57 [(116, .goto 4, 3), (119, .iconst 0, 1), (120, .istore 5, 2), (122, .iinc 7 1, 3), (125, .goto (-84), 3), (128, .iconst (-1), 1), (129, .ireturn, 1)] := ab_da (by decide +kernel)
theorem ab_s57_0 : ab_Sn B 57 0 (ab_o_ild 2 1) := ab_s_iload_n (k := 2) (n := 2) ab_dk57_0.1 rfl
theorem ab_s57_1 : ab_Sn B 57 1 (ab_o_if ab_le 20 4) := ab_s_if_le (tg := 20) (off := 19) ab_dk57_0.2.1 (by decide)
theorem ab_s57_4 : ab_Sn B 57 4 (ab_o_ild 2 5) := ab_s_iload_n (k := 2) (n := 2) ab_dk57_0.2.2.1 rfl
theorem ab_s57_5 : ab_Sn B 57 5 (ab_o_const 5 6) := ab_s_iconst (n := 5) ab_dk57_0.2.2.2.1 rfl
theorem ab_s57_6 : ab_Sn B 57 6 (ab_o_icmp ab_gt 20 9) := ab_s_icmp_gt (tg := 20) (off := 14) ab_dk57_0.2.2.2.2.1 (by decide)
theorem ab_s57_9 : ab_Sn B 57 9 (ab_o_ald 0 10) := ab_s_aload_n (k := 0) (n := 0) ab_dk57_0.2.2.2.2.2.1 rfl
theorem ab_s57_10 : ab_Sn B 57 10 (ab_o_getr 5 15 11 13) := ab_s_getr (i := 40) (ci := 1) (N := 15) (k := 11) (C := RX1) (T := TX1) ab_dk57_0.2.2.2.2.2.2.1 rfl (by decide) rfl wf_87
theorem ab_s57_13 : ab_Sn B 57 13 (ab_o_ild 2 14) := ab_s_iload_n (k := 2) (n := 2) ab_dk57_0.2.2.2.2.2.2.2.1 rfl
theorem ab_s57_14 : ab_Sn B 57 14 (ab_o_const 1 15) := ab_s_iconst (n := 1) ab_dk57_0.2.2.2.2.2.2.2.2.1 rfl
theorem ab_s57_15 : ab_Sn B 57 15 (ab_o_bin (fun a b => a - b) 16) := ab_s_isub ab_dk57_0.2.2.2.2.2.2.2.2.2.1
theorem ab_s57_16 : ab_Sn B 57 16 (ab_o_xld 0 17) := ab_s_iaload ab_dk57_0.2.2.2.2.2.2.2.2.2.2.1
theorem ab_s57_17 : ab_Sn B 57 17 (ab_o_goto 21) := ab_s_goto (tg := 21) (off := 4) ab_dk57_0.2.2.2.2.2.2.2.2.2.2.2.1 (by decide)
theorem ab_s57_20 : ab_Sn B 57 20 (ab_o_const 0 21) := ab_s_iconst (n := 0) ab_dk57_0.2.2.2.2.2.2.2.2.2.2.2.2.1 rfl
theorem ab_s57_21 : ab_Sn B 57 21 (ab_o_ist 5 23) := ab_s_istore (k := 5) ab_dk57_0.2.2.2.2.2.2.2.2.2.2.2.2.2.1
theorem ab_s57_23 : ab_Sn B 57 23 (ab_o_const 60 25) := ab_s_bipush (n := 60) ab_dk57_0.2.2.2.2.2.2.2.2.2.2.2.2.2.2.1 (by decide)
theorem ab_s57_25 : ab_Sn B 57 25 (ab_o_ild 4 27) := ab_s_iload (k := 4) ab_dk57_0.2.2.2.2.2.2.2.2.2.2.2.2.2.2.2.1
theorem ab_s57_27 : ab_Sn B 57 27 (ab_o_const 1 28) := ab_s_iconst (n := 1) ab_dk57_1.1 rfl
theorem ab_s57_28 : ab_Sn B 57 28 (ab_o_bin (fun a b => a + b) 29) := ab_s_iadd ab_dk57_1.2.1
theorem ab_s57_29 : ab_Sn B 57 29 (ab_o_mx (fun a b => if b < a then b else a) 32) := ab_s_min (i := 111) ab_dk57_1.2.2.1 wf_150 wf_151 wf_139 wf_152
theorem ab_s57_32 : ab_Sn B 57 32 (ab_o_ist 6 34) := ab_s_istore (k := 6) ab_dk57_1.2.2.2.1
theorem ab_s57_34 : ab_Sn B 57 34 (ab_o_ild 3 35) := ab_s_iload_n (k := 3) (n := 3) ab_dk57_1.2.2.2.2.1 rfl
theorem ab_s57_35 : ab_Sn B 57 35 (ab_o_const 0 36) := ab_s_iconst (n := 0) ab_dk57_1.2.2.2.2.2.1 rfl
theorem ab_s57_36 : ab_Sn B 57 36 (ab_o_mx (fun a b => if a < b then b else a) 39) := ab_s_max (i := 97) ab_dk57_1.2.2.2.2.2.2.1 wf_137 wf_138 wf_139 wf_140
theorem ab_s57_39 : ab_Sn B 57 39 (ab_o_ist 7 41) := ab_s_istore (k := 7) ab_dk57_1.2.2.2.2.2.2.2.1
theorem ab_s57_41 : ab_Sn B 57 41 (ab_o_ild 7 43) := ab_s_iload (k := 7) ab_dk57_1.2.2.2.2.2.2.2.2.1
theorem ab_s57_43 : ab_Sn B 57 43 (ab_o_ild 6 45) := ab_s_iload (k := 6) ab_dk57_1.2.2.2.2.2.2.2.2.2.1
theorem ab_s57_45 : ab_Sn B 57 45 (ab_o_icmp ab_gt 128 48) := ab_s_icmp_gt (tg := 128) (off := 83) ab_dk57_1.2.2.2.2.2.2.2.2.2.2.1 (by decide)
theorem ab_s57_48 : ab_Sn B 57 48 (ab_o_ild 7 50) := ab_s_iload (k := 7) ab_dk57_1.2.2.2.2.2.2.2.2.2.2.2.1
theorem ab_s57_50 : ab_Sn B 57 50 (ab_o_ald 0 51) := ab_s_aload_n (k := 0) (n := 0) ab_dk57_1.2.2.2.2.2.2.2.2.2.2.2.2.1 rfl
theorem ab_s57_51 : ab_Sn B 57 51 (ab_o_getr 5 15 13 54) := ab_s_getr (i := 43) (ci := 1) (N := 15) (k := 13) (C := RX1) (T := TX1) ab_dk57_1.2.2.2.2.2.2.2.2.2.2.2.2.2.1 rfl (by decide) rfl wf_88
theorem ab_s57_54 : ab_Sn B 57 54 (ab_o_alen 55) := ab_s_alen ab_dk57_1.2.2.2.2.2.2.2.2.2.2.2.2.2.2.1
theorem ab_s57_55 : ab_Sn B 57 55 (ab_o_icmp ab_ge 128 58) := ab_s_icmp_ge (tg := 128) (off := 73) ab_dk57_1.2.2.2.2.2.2.2.2.2.2.2.2.2.2.2.1 (by decide)
theorem ab_s57_58 : ab_Sn B 57 58 (ab_o_ald 0 59) := ab_s_aload_n (k := 0) (n := 0) ab_dk57_2.1 rfl
theorem ab_s57_59 : ab_Sn B 57 59 (ab_o_ild 1 60) := ab_s_iload_n (k := 1) (n := 1) ab_dk57_2.2.1 rfl
theorem ab_s57_60 : ab_Sn B 57 60 (ab_o_ild 7 62) := ab_s_iload (k := 7) ab_dk57_2.2.2.1
theorem ab_s57_62 : ab_Sn B 57 62 (ab_o_ild 4 64) := ab_s_iload (k := 4) ab_dk57_2.2.2.2.1
theorem ab_s57_64 : ab_Sn B 57 64 (ab_o_ild 7 66) := ab_s_iload (k := 7) ab_dk57_2.2.2.2.2.1
theorem ab_s57_66 : ab_Sn B 57 66 (ab_o_ald 0 67) := ab_s_aload_n (k := 0) (n := 0) ab_dk57_2.2.2.2.2.2.1 rfl
theorem ab_s57_67 : ab_Sn B 57 67 (ab_o_ild 1 68) := ab_s_iload_n (k := 1) (n := 1) ab_dk57_2.2.2.2.2.2.2.1 rfl
theorem ab_s57_68 : ab_Sn B 57 68 (ab_o_call (some (5, 15)) [] 41 2 2 true 71) := ab_s_callV (M' := 41) (na := 1) (i := 94) (ci := 1) (N := 15) (C := RX1) (T := TX1) (v := true) (ab_hok_n (by decide +kernel)) (by decide +kernel) ab_dk57_2.2.2.2.2.2.2.2.1 rfl (by decide) (by decide +kernel) (by decide +kernel) (by decide) wf_133 wf_134 wf_135 wf_136 wf_94
theorem ab_s57_71 : ab_Sn B 57 71 (ab_o_bin (fun a b => a + b) 72) := ab_s_iadd ab_dk57_2.2.2.2.2.2.2.2.2.1
theorem ab_s57_72 : ab_Sn B 57 72 (ab_o_mx (fun a b => if a < b then b else a) 75) := ab_s_max (i := 97) ab_dk57_2.2.2.2.2.2.2.2.2.2.1 wf_137 wf_138 wf_139 wf_140
theorem ab_s57_75 : ab_Sn B 57 75 (ab_o_ild 5 77) := ab_s_iload (k := 5) ab_dk57_2.2.2.2.2.2.2.2.2.2.2.1
theorem ab_s57_77 : ab_Sn B 57 77 (ab_o_call (some (5, 15)) [] 59 8 5 true 80) := ab_s_callV (M' := 59) (na := 4) (i := 114) (ci := 1) (N := 15) (C := RX1) (T := TX1) (v := true) (ab_hok_n (by decide +kernel)) (by decide +kernel) ab_dk57_2.2.2.2.2.2.2.2.2.2.2.2.1 rfl (by decide) (by decide +kernel) (by decide +kernel) (by decide) wf_153 wf_154 wf_155 wf_156 wf_94
theorem ab_s57_80 : ab_Sn B 57 80 (ab_o_if ab_ne 93 83) := ab_s_if_ne (tg := 93) (off := 13) ab_dk57_2.2.2.2.2.2.2.2.2.2.2.2.2.1 (by decide)
theorem ab_s57_83 : ab_Sn B 57 83 (ab_o_ald 0 84) := ab_s_aload_n (k := 0) (n := 0) ab_dk57_2.2.2.2.2.2.2.2.2.2.2.2.2.2.1 rfl
theorem ab_s57_84 : ab_Sn B 57 84 (ab_o_ild 2 85) := ab_s_iload_n (k := 2) (n := 2) ab_dk57_2.2.2.2.2.2.2.2.2.2.2.2.2.2.2.1 rfl
theorem ab_s57_85 : ab_Sn B 57 85 (ab_o_ild 5 87) := ab_s_iload (k := 5) ab_dk57_2.2.2.2.2.2.2.2.2.2.2.2.2.2.2.2.1
theorem ab_s57_87 : ab_Sn B 57 87 (ab_o_call (some (5, 15)) [] 58 3 3 false 90) := ab_s_callV (M' := 58) (na := 2) (i := 118) (ci := 1) (N := 15) (C := RX1) (T := TX1) (v := false) (ab_hok_n (by decide +kernel)) (by decide +kernel) ab_dk57_3.1 rfl (by decide) (by decide +kernel) (by decide +kernel) (by decide) wf_157 wf_158 wf_159 wf_160 wf_94
theorem ab_s57_90 : ab_Sn B 57 90 (ab_o_ild 7 92) := ab_s_iload (k := 7) ab_dk57_3.2.1
theorem ab_s57_92 : ab_Sn B 57 92 (ab_o_iret false) := ab_s_iret (b := false) (ty := .int) ab_dk57_3.2.2.1 rfl (Or.inl ⟨rfl, rfl⟩)
theorem ab_s57_93 : ab_Sn B 57 93 (ab_o_ald 0 94) := ab_s_aload_n (k := 0) (n := 0) ab_dk57_3.2.2.2.1 rfl
theorem ab_s57_94 : ab_Sn B 57 94 (ab_o_geti 5 15 12 97) := ab_s_geti (i := 105) (ci := 1) (N := 15) (k := 12) (C := RX1) (T := TX1) ab_dk57_3.2.2.2.2.1 rfl (by decide) rfl wf_145
theorem ab_s57_97 : ab_Sn B 57 97 (ab_o_ald 0 98) := ab_s_aload_n (k := 0) (n := 0) ab_dk57_3.2.2.2.2.2.1 rfl
theorem ab_s57_98 : ab_Sn B 57 98 (ab_o_getr 5 15 13 101) := ab_s_getr (i := 43) (ci := 1) (N := 15) (k := 13) (C := RX1) (T := TX1) ab_dk57_3.2.2.2.2.2.2.1 rfl (by decide) rfl wf_88
theorem ab_s57_101 : ab_Sn B 57 101 (ab_o_ild 7 103) := ab_s_iload (k := 7) ab_dk57_3.2.2.2.2.2.2.2.1
theorem ab_s57_103 : ab_Sn B 57 103 (ab_o_xld 0 104) := ab_s_iaload ab_dk57_3.2.2.2.2.2.2.2.2.1
theorem ab_s57_104 : ab_Sn B 57 104 (ab_o_bin (fun a b => a + b) 105) := ab_s_iadd ab_dk57_3.2.2.2.2.2.2.2.2.2.1
theorem ab_s57_105 : ab_Sn B 57 105 (ab_o_ald 0 106) := ab_s_aload_n (k := 0) (n := 0) ab_dk57_3.2.2.2.2.2.2.2.2.2.2.1 rfl
theorem ab_s57_106 : ab_Sn B 57 106 (ab_o_geti 5 15 0 109) := ab_s_geti (i := 9) (ci := 1) (N := 15) (k := 0) (C := RX1) (T := TX1) ab_dk57_3.2.2.2.2.2.2.2.2.2.2.2.1 rfl (by decide) rfl wf_78
theorem ab_s57_109 : ab_Sn B 57 109 (ab_o_icmp ab_le 119 112) := ab_s_icmp_le (tg := 119) (off := 10) ab_dk57_3.2.2.2.2.2.2.2.2.2.2.2.2.1 (by decide)
theorem ab_s57_112 : ab_Sn B 57 112 (ab_o_ild 5 114) := ab_s_iload (k := 5) ab_dk57_3.2.2.2.2.2.2.2.2.2.2.2.2.2.1
theorem ab_s57_114 : ab_Sn B 57 114 (ab_o_const 1 115) := ab_s_iconst (n := 1) ab_dk57_3.2.2.2.2.2.2.2.2.2.2.2.2.2.2.1 rfl
theorem ab_s57_115 : ab_Sn B 57 115 (ab_o_bin (fun a b => a + b) 116) := ab_s_iadd ab_dk57_3.2.2.2.2.2.2.2.2.2.2.2.2.2.2.2.1
theorem ab_s57_116 : ab_Sn B 57 116 (ab_o_goto 120) := ab_s_goto (tg := 120) (off := 4) ab_dk57_4.1 (by decide)
theorem ab_s57_119 : ab_Sn B 57 119 (ab_o_const 0 120) := ab_s_iconst (n := 0) ab_dk57_4.2.1 rfl
theorem ab_s57_120 : ab_Sn B 57 120 (ab_o_ist 5 122) := ab_s_istore (k := 5) ab_dk57_4.2.2.1
theorem ab_s57_122 : ab_Sn B 57 122 (ab_o_inc 7 1 125) := ab_s_iinc (k := 7) (n := 1) ab_dk57_4.2.2.2.1
theorem ab_s57_125 : ab_Sn B 57 125 (ab_o_goto 41) := ab_s_goto (tg := 41) (off := -84) ab_dk57_4.2.2.2.2.1 (by decide)
theorem ab_s57_128 : ab_Sn B 57 128 (ab_o_const (-1) 129) := ab_s_iconst (n := (-1)) ab_dk57_4.2.2.2.2.2.1 rfl
theorem ab_s57_129 : ab_Sn B 57 129 (ab_o_iret false) := ab_s_iret (b := false) (ty := .int) ab_dk57_4.2.2.2.2.2.2.1 rfl (Or.inl ⟨rfl, rfl⟩)
theorem ab_sc57_2 : ab_all B 57 128 (ab_d57_2) := ⟨ab_s57_128, ab_s57_129, trivial⟩
theorem ab_sc57_1 : ab_all B 57 64 (ab_d57_1) := ⟨ab_s57_64, trivial, ab_s57_66, ab_s57_67, ab_s57_68, trivial, trivial, ab_s57_71, ab_s57_72, trivial, trivial, ab_s57_75, trivial, ab_s57_77, trivial, trivial, ab_s57_80, trivial, trivial, ab_s57_83, ab_s57_84, ab_s57_85, trivial, ab_s57_87, trivial, trivial, ab_s57_90, trivial, ab_s57_92, ab_s57_93, ab_s57_94, trivial, trivial, ab_s57_97, ab_s57_98, trivial, trivial, ab_s57_101, trivial, ab_s57_103, ab_s57_104, ab_s57_105, ab_s57_106, trivial, trivial, ab_s57_109, trivial, trivial, ab_s57_112, trivial, ab_s57_114, ab_s57_115, ab_s57_116, trivial, trivial, ab_s57_119, ab_s57_120, trivial, ab_s57_122, trivial, trivial, ab_s57_125, trivial, trivial, ab_sc57_2⟩
theorem ab_sc57_0 : ab_all B 57 0 (ab_d57_0) := ⟨ab_s57_0, ab_s57_1, trivial, trivial, ab_s57_4, ab_s57_5, ab_s57_6, trivial, trivial, ab_s57_9, ab_s57_10, trivial, trivial, ab_s57_13, ab_s57_14, ab_s57_15, ab_s57_16, ab_s57_17, trivial, trivial, ab_s57_20, ab_s57_21, trivial, ab_s57_23, trivial, ab_s57_25, trivial, ab_s57_27, ab_s57_28, ab_s57_29, trivial, trivial, ab_s57_32, trivial, ab_s57_34, ab_s57_35, ab_s57_36, trivial, trivial, ab_s57_39, trivial, ab_s57_41, trivial, ab_s57_43, trivial, ab_s57_45, trivial, trivial, ab_s57_48, trivial, ab_s57_50, ab_s57_51, trivial, trivial, ab_s57_54, ab_s57_55, trivial, trivial, ab_s57_58, ab_s57_59, ab_s57_60, trivial, ab_s57_62, trivial, ab_sc57_1⟩
theorem ab_sn57 : ab_all B 57 0 (ab_c57) := by rw [ab_cd57]; exact ab_sc57_0
theorem ab_dk58_0 : ab_dp 58 [(0, .iload_n 1, 1), (1, .ifCond .lt 15, 3), (4, .iload_n 1, 1), (5, .iconst 5, 1), (6, .if_icmp .ge 10, 3), (9, .aload_n 0, 1), (10, .getfield 40, 3), (13, .iload_n 1, 1), (14, .iload_n 2, 1), (15, .iastore, 1), (16, .return_, 1)] := ab_da (by decide +kernel)
theorem ab_s58_0 : ab_Sn B 58 0 (ab_o_ild 1 1) := ab_s_iload_n (k := 1) (n := 1) ab_dk58_0.1 rfl
theorem ab_s58_1 : ab_Sn B 58 1 (ab_o_if ab_lt 16 4) := ab_s_if_lt (tg := 16) (off := 15) ab_dk58_0.2.1 (by decide)
theorem ab_s58_4 : ab_Sn B 58 4 (ab_o_ild 1 5) := ab_s_iload_n (k := 1) (n := 1) ab_dk58_0.2.2.1 rfl
theorem ab_s58_5 : ab_Sn B 58 5 (ab_o_const 5 6) := ab_s_iconst (n := 5) ab_dk58_0.2.2.2.1 rfl
theorem ab_s58_6 : ab_Sn B 58 6 (ab_o_icmp ab_ge 16 9) := ab_s_icmp_ge (tg := 16) (off := 10) ab_dk58_0.2.2.2.2.1 (by decide)
theorem ab_s58_9 : ab_Sn B 58 9 (ab_o_ald 0 10) := ab_s_aload_n (k := 0) (n := 0) ab_dk58_0.2.2.2.2.2.1 rfl
theorem ab_s58_10 : ab_Sn B 58 10 (ab_o_getr 5 15 11 13) := ab_s_getr (i := 40) (ci := 1) (N := 15) (k := 11) (C := RX1) (T := TX1) ab_dk58_0.2.2.2.2.2.2.1 rfl (by decide) rfl wf_87
theorem ab_s58_13 : ab_Sn B 58 13 (ab_o_ild 1 14) := ab_s_iload_n (k := 1) (n := 1) ab_dk58_0.2.2.2.2.2.2.2.1 rfl
theorem ab_s58_14 : ab_Sn B 58 14 (ab_o_ild 2 15) := ab_s_iload_n (k := 2) (n := 2) ab_dk58_0.2.2.2.2.2.2.2.2.1 rfl
theorem ab_s58_15 : ab_Sn B 58 15 (ab_o_xst 0 16) := ab_s_iastore ab_dk58_0.2.2.2.2.2.2.2.2.2.1
theorem ab_s58_16 : ab_Sn B 58 16 (ab_o_ret) := ab_s_ret ab_dk58_0.2.2.2.2.2.2.2.2.2.2.1 rfl
set_option maxRecDepth 20000 in
theorem ab_sn58 : ab_all B 58 0 (ab_c58) := ⟨ab_s58_0, ab_s58_1, trivial, trivial, ab_s58_4, ab_s58_5, ab_s58_6, trivial, trivial, ab_s58_9, ab_s58_10, trivial, trivial, ab_s58_13, ab_s58_14, ab_s58_15, ab_s58_16, trivial⟩
theorem ab_dk59_0 : ab_dp 59 [(0, .iload 4, 2), (2, .istore 5, 2), (4, .iload_n 2, 1), (5, .iconst 0, 1), (6, .invokestatic 97, 3), (9, .istore 6, 2), (11, .iload 6, 2), (13, .iload_n 3, 1), (14, .if_icmp .ge 73, 3), (17, .iload 6, 2), (19, .aload_n 0, 1), (20, .getfield 43, 3), (23, .arraylength, 1), (24, .if_icmp .ge 63, 3), (27, .aload_n 0, 1), (28, .getfield 105, 3)] := ab_da (by decide +kernel)
theorem ab_dk59_1 : ab_dp 59 [(31, .aload_n 0, 1), (32, .getfield 43, 3), (35, .iload 6, 2), (37, .iaload, 1), (38, .iadd, 1), (39, .aload_n 0, 1), (40, .iload_n 1, 1), (41, .iload 6, 2), (43, .iload_n 2, 1), (44, .isub, 1), (45, .invokevirtual 66, 3), (48, .iadd, 1), (49, .istore 7, 2), (51, .iload 7, 2), (53, .aload_n 0, 1), (54, .getfield 9, 3)] := ab_da (by decide +kernel)
theorem ab_dk59_2 : ab_dp 59 [(57, .if_icmp .le 10, 3), (60, .iload 5, 2), (62, .iconst 1, 1), (63, .iadd, 1), (64, .goto 4, 3), (67, .iconst 0, 1), (68, .istore 5, 2), (70, .iload 5, 2), (72, .aload_n 0, 1), (73, .getfield 55, 3), (76, .if_icmp .le 5, 3), (79, .iconst 1, 1), (80, .ireturn, 1), (81, .iinc 6 1, 3), (84, .goto (-73), 3), (87, .iconst 0, 1)] := ab_da (by decide +kernel)
theorem ab_dk59_3 : ab_dp 59 [(88, .ireturn, 1)] := ab_da (by decide +kernel)
theorem ab_s59_0 : ab_Sn B 59 0 (ab_o_ild 4 2) := ab_s_iload (k := 4) ab_dk59_0.1
theorem ab_s59_2 : ab_Sn B 59 2 (ab_o_ist 5 4) := ab_s_istore (k := 5) ab_dk59_0.2.1
theorem ab_s59_4 : ab_Sn B 59 4 (ab_o_ild 2 5) := ab_s_iload_n (k := 2) (n := 2) ab_dk59_0.2.2.1 rfl
theorem ab_s59_5 : ab_Sn B 59 5 (ab_o_const 0 6) := ab_s_iconst (n := 0) ab_dk59_0.2.2.2.1 rfl
theorem ab_s59_6 : ab_Sn B 59 6 (ab_o_mx (fun a b => if a < b then b else a) 9) := ab_s_max (i := 97) ab_dk59_0.2.2.2.2.1 wf_137 wf_138 wf_139 wf_140
theorem ab_s59_9 : ab_Sn B 59 9 (ab_o_ist 6 11) := ab_s_istore (k := 6) ab_dk59_0.2.2.2.2.2.1
theorem ab_s59_11 : ab_Sn B 59 11 (ab_o_ild 6 13) := ab_s_iload (k := 6) ab_dk59_0.2.2.2.2.2.2.1
theorem ab_s59_13 : ab_Sn B 59 13 (ab_o_ild 3 14) := ab_s_iload_n (k := 3) (n := 3) ab_dk59_0.2.2.2.2.2.2.2.1 rfl
theorem ab_s59_14 : ab_Sn B 59 14 (ab_o_icmp ab_ge 87 17) := ab_s_icmp_ge (tg := 87) (off := 73) ab_dk59_0.2.2.2.2.2.2.2.2.1 (by decide)
theorem ab_s59_17 : ab_Sn B 59 17 (ab_o_ild 6 19) := ab_s_iload (k := 6) ab_dk59_0.2.2.2.2.2.2.2.2.2.1
theorem ab_s59_19 : ab_Sn B 59 19 (ab_o_ald 0 20) := ab_s_aload_n (k := 0) (n := 0) ab_dk59_0.2.2.2.2.2.2.2.2.2.2.1 rfl
theorem ab_s59_20 : ab_Sn B 59 20 (ab_o_getr 5 15 13 23) := ab_s_getr (i := 43) (ci := 1) (N := 15) (k := 13) (C := RX1) (T := TX1) ab_dk59_0.2.2.2.2.2.2.2.2.2.2.2.1 rfl (by decide) rfl wf_88
theorem ab_s59_23 : ab_Sn B 59 23 (ab_o_alen 24) := ab_s_alen ab_dk59_0.2.2.2.2.2.2.2.2.2.2.2.2.1
theorem ab_s59_24 : ab_Sn B 59 24 (ab_o_icmp ab_ge 87 27) := ab_s_icmp_ge (tg := 87) (off := 63) ab_dk59_0.2.2.2.2.2.2.2.2.2.2.2.2.2.1 (by decide)
theorem ab_s59_27 : ab_Sn B 59 27 (ab_o_ald 0 28) := ab_s_aload_n (k := 0) (n := 0) ab_dk59_0.2.2.2.2.2.2.2.2.2.2.2.2.2.2.1 rfl
theorem ab_s59_28 : ab_Sn B 59 28 (ab_o_geti 5 15 12 31) := ab_s_geti (i := 105) (ci := 1) (N := 15) (k := 12) (C := RX1) (T := TX1) ab_dk59_0.2.2.2.2.2.2.2.2.2.2.2.2.2.2.2.1 rfl (by decide) rfl wf_145
theorem ab_s59_31 : ab_Sn B 59 31 (ab_o_ald 0 32) := ab_s_aload_n (k := 0) (n := 0) ab_dk59_1.1 rfl
theorem ab_s59_32 : ab_Sn B 59 32 (ab_o_getr 5 15 13 35) := ab_s_getr (i := 43) (ci := 1) (N := 15) (k := 13) (C := RX1) (T := TX1) ab_dk59_1.2.1 rfl (by decide) rfl wf_88
theorem ab_s59_35 : ab_Sn B 59 35 (ab_o_ild 6 37) := ab_s_iload (k := 6) ab_dk59_1.2.2.1
theorem ab_s59_37 : ab_Sn B 59 37 (ab_o_xld 0 38) := ab_s_iaload ab_dk59_1.2.2.2.1
theorem ab_s59_38 : ab_Sn B 59 38 (ab_o_bin (fun a b => a + b) 39) := ab_s_iadd ab_dk59_1.2.2.2.2.1
theorem ab_s59_39 : ab_Sn B 59 39 (ab_o_ald 0 40) := ab_s_aload_n (k := 0) (n := 0) ab_dk59_1.2.2.2.2.2.1 rfl
theorem ab_s59_40 : ab_Sn B 59 40 (ab_o_ild 1 41) := ab_s_iload_n (k := 1) (n := 1) ab_dk59_1.2.2.2.2.2.2.1 rfl
theorem ab_s59_41 : ab_Sn B 59 41 (ab_o_ild 6 43) := ab_s_iload (k := 6) ab_dk59_1.2.2.2.2.2.2.2.1
theorem ab_s59_43 : ab_Sn B 59 43 (ab_o_ild 2 44) := ab_s_iload_n (k := 2) (n := 2) ab_dk59_1.2.2.2.2.2.2.2.2.1 rfl
theorem ab_s59_44 : ab_Sn B 59 44 (ab_o_bin (fun a b => a - b) 45) := ab_s_isub ab_dk59_1.2.2.2.2.2.2.2.2.2.1
theorem ab_s59_45 : ab_Sn B 59 45 (ab_o_call (some (5, 15)) [] 50 3 3 true 48) := ab_s_callV (M' := 50) (na := 2) (i := 66) (ci := 1) (N := 15) (C := RX1) (T := TX1) (v := true) (ab_hok_n (by decide +kernel)) (by decide +kernel) ab_dk59_1.2.2.2.2.2.2.2.2.2.2.1 rfl (by decide) (by decide +kernel) (by decide +kernel) (by decide) wf_105 wf_106 wf_107 wf_108 wf_94
theorem ab_s59_48 : ab_Sn B 59 48 (ab_o_bin (fun a b => a + b) 49) := ab_s_iadd ab_dk59_1.2.2.2.2.2.2.2.2.2.2.2.1
theorem ab_s59_49 : ab_Sn B 59 49 (ab_o_ist 7 51) := ab_s_istore (k := 7) ab_dk59_1.2.2.2.2.2.2.2.2.2.2.2.2.1
theorem ab_s59_51 : ab_Sn B 59 51 (ab_o_ild 7 53) := ab_s_iload (k := 7) ab_dk59_1.2.2.2.2.2.2.2.2.2.2.2.2.2.1
theorem ab_s59_53 : ab_Sn B 59 53 (ab_o_ald 0 54) := ab_s_aload_n (k := 0) (n := 0) ab_dk59_1.2.2.2.2.2.2.2.2.2.2.2.2.2.2.1 rfl
theorem ab_s59_54 : ab_Sn B 59 54 (ab_o_geti 5 15 0 57) := ab_s_geti (i := 9) (ci := 1) (N := 15) (k := 0) (C := RX1) (T := TX1) ab_dk59_1.2.2.2.2.2.2.2.2.2.2.2.2.2.2.2.1 rfl (by decide) rfl wf_78
theorem ab_s59_57 : ab_Sn B 59 57 (ab_o_icmp ab_le 67 60) := ab_s_icmp_le (tg := 67) (off := 10) ab_dk59_2.1 (by decide)
theorem ab_s59_60 : ab_Sn B 59 60 (ab_o_ild 5 62) := ab_s_iload (k := 5) ab_dk59_2.2.1
theorem ab_s59_62 : ab_Sn B 59 62 (ab_o_const 1 63) := ab_s_iconst (n := 1) ab_dk59_2.2.2.1 rfl
theorem ab_s59_63 : ab_Sn B 59 63 (ab_o_bin (fun a b => a + b) 64) := ab_s_iadd ab_dk59_2.2.2.2.1
theorem ab_s59_64 : ab_Sn B 59 64 (ab_o_goto 68) := ab_s_goto (tg := 68) (off := 4) ab_dk59_2.2.2.2.2.1 (by decide)
theorem ab_s59_67 : ab_Sn B 59 67 (ab_o_const 0 68) := ab_s_iconst (n := 0) ab_dk59_2.2.2.2.2.2.1 rfl
theorem ab_s59_68 : ab_Sn B 59 68 (ab_o_ist 5 70) := ab_s_istore (k := 5) ab_dk59_2.2.2.2.2.2.2.1
theorem ab_s59_70 : ab_Sn B 59 70 (ab_o_ild 5 72) := ab_s_iload (k := 5) ab_dk59_2.2.2.2.2.2.2.2.1
theorem ab_s59_72 : ab_Sn B 59 72 (ab_o_ald 0 73) := ab_s_aload_n (k := 0) (n := 0) ab_dk59_2.2.2.2.2.2.2.2.2.1 rfl
theorem ab_s59_73 : ab_Sn B 59 73 (ab_o_geti 5 15 1 76) := ab_s_geti (i := 55) (ci := 1) (N := 15) (k := 1) (C := RX1) (T := TX1) ab_dk59_2.2.2.2.2.2.2.2.2.2.1 rfl (by decide) rfl wf_96
theorem ab_s59_76 : ab_Sn B 59 76 (ab_o_icmp ab_le 81 79) := ab_s_icmp_le (tg := 81) (off := 5) ab_dk59_2.2.2.2.2.2.2.2.2.2.2.1 (by decide)
theorem ab_s59_79 : ab_Sn B 59 79 (ab_o_const 1 80) := ab_s_iconst (n := 1) ab_dk59_2.2.2.2.2.2.2.2.2.2.2.2.1 rfl
theorem ab_s59_80 : ab_Sn B 59 80 (ab_o_iret true) := ab_s_iret (b := true) (ty := .boolean) ab_dk59_2.2.2.2.2.2.2.2.2.2.2.2.2.1 rfl (Or.inr (Or.inl ⟨rfl, rfl⟩))
theorem ab_s59_81 : ab_Sn B 59 81 (ab_o_inc 6 1 84) := ab_s_iinc (k := 6) (n := 1) ab_dk59_2.2.2.2.2.2.2.2.2.2.2.2.2.2.1
theorem ab_s59_84 : ab_Sn B 59 84 (ab_o_goto 11) := ab_s_goto (tg := 11) (off := -73) ab_dk59_2.2.2.2.2.2.2.2.2.2.2.2.2.2.2.1 (by decide)
theorem ab_s59_87 : ab_Sn B 59 87 (ab_o_const 0 88) := ab_s_iconst (n := 0) ab_dk59_2.2.2.2.2.2.2.2.2.2.2.2.2.2.2.2.1 rfl
theorem ab_s59_88 : ab_Sn B 59 88 (ab_o_iret true) := ab_s_iret (b := true) (ty := .boolean) ab_dk59_3.1 rfl (Or.inr (Or.inl ⟨rfl, rfl⟩))
set_option maxRecDepth 20000 in
theorem ab_sn59 : ab_all B 59 0 (ab_c59) := ⟨ab_s59_0, trivial, ab_s59_2, trivial, ab_s59_4, ab_s59_5, ab_s59_6, trivial, trivial, ab_s59_9, trivial, ab_s59_11, trivial, ab_s59_13, ab_s59_14, trivial, trivial, ab_s59_17, trivial, ab_s59_19, ab_s59_20, trivial, trivial, ab_s59_23, ab_s59_24, trivial, trivial, ab_s59_27, ab_s59_28, trivial, trivial, ab_s59_31, ab_s59_32, trivial, trivial, ab_s59_35, trivial, ab_s59_37, ab_s59_38, ab_s59_39, ab_s59_40, ab_s59_41, trivial, ab_s59_43, ab_s59_44, ab_s59_45, trivial, trivial, ab_s59_48, ab_s59_49, trivial, ab_s59_51, trivial, ab_s59_53, ab_s59_54, trivial, trivial, ab_s59_57, trivial, trivial, ab_s59_60, trivial, ab_s59_62, ab_s59_63, ab_s59_64, trivial, trivial, ab_s59_67, ab_s59_68, trivial, ab_s59_70, trivial, ab_s59_72, ab_s59_73, trivial, trivial, ab_s59_76, trivial, trivial, ab_s59_79, ab_s59_80, ab_s59_81, trivial, trivial, ab_s59_84, trivial, trivial, ab_s59_87, ab_s59_88, trivial⟩
end
