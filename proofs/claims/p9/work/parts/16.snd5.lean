/-! each instruction is sound; printed by wip/px/gen_code.py -/
section
variable {B : ab_B}
theorem ab_dk142_0 : ab_dp 142 [(0, .aload_n 0, 1), (1, .getfield 43, 3), (4, .newarray .int, 2), (6, .astore_n 2, 1), (7, .iconst 0, 1), (8, .istore_n 3, 1), (9, .iload_n 3, 1), (10, .aload_n 0, 1), (11, .getfield 43, 3), (14, .if_icmp .ge 15, 3), (17, .aload_n 2, 1), (18, .iload_n 3, 1), (19, .iload_n 3, 1), (20, .iload_n 1, 1), (21, .imul, 1), (22, .iastore, 1)] := ab_da (by decide +kernel)
theorem ab_dk142_1 : ab_dp 142 [(23, .iinc 3 1, 3), (26, .goto (-17), 3), (29, .aload_n 0, 1), (30, .aload_n 2, 1), (31, .invokevirtual 164, 3), (34, .ifCond .eq 7, 3), (37, .iconst (-1), 1), (38, .goto 11, 3), (41, .aload_n 0, 1), (42, .getfield 43, 3), (45, .iconst 1, 1), (46, .isub, 1), (47, .iload_n 1, 1), (48, .imul, 1), (49, .ireturn, 1)] := ab_da (by decide +kernel)
theorem ab_s142_0 : ab_Sn B 142 0 (ab_o_ald 0 1) := ab_s_aload_n (k := 0) (n := 0) ab_dk142_0.1 rfl
theorem ab_s142_1 : ab_Sn B 142 1 (ab_o_geti 8 22 1 4) := ab_s_geti (i := 43) (ci := 4) (N := 22) (k := 1) (C := RX4) (T := TX4) ab_dk142_0.2.1 rfl (by decide) rfl wf_461
theorem ab_s142_4 : ab_Sn B 142 4 (ab_o_newa 0 6) := ab_s_newa0 ab_dk142_0.2.2.1 wf_3
theorem ab_s142_6 : ab_Sn B 142 6 (ab_o_ast 2 7) := ab_s_astore_n (k := 2) (n := 2) ab_dk142_0.2.2.2.1 rfl
theorem ab_s142_7 : ab_Sn B 142 7 (ab_o_const 0 8) := ab_s_iconst (n := 0) ab_dk142_0.2.2.2.2.1 rfl
theorem ab_s142_8 : ab_Sn B 142 8 (ab_o_ist 3 9) := ab_s_istore_n (k := 3) (n := 3) ab_dk142_0.2.2.2.2.2.1 rfl
theorem ab_s142_9 : ab_Sn B 142 9 (ab_o_ild 3 10) := ab_s_iload_n (k := 3) (n := 3) ab_dk142_0.2.2.2.2.2.2.1 rfl
theorem ab_s142_10 : ab_Sn B 142 10 (ab_o_ald 0 11) := ab_s_aload_n (k := 0) (n := 0) ab_dk142_0.2.2.2.2.2.2.2.1 rfl
theorem ab_s142_11 : ab_Sn B 142 11 (ab_o_geti 8 22 1 14) := ab_s_geti (i := 43) (ci := 4) (N := 22) (k := 1) (C := RX4) (T := TX4) ab_dk142_0.2.2.2.2.2.2.2.2.1 rfl (by decide) rfl wf_461
theorem ab_s142_14 : ab_Sn B 142 14 (ab_o_icmp ab_ge 29 17) := ab_s_icmp_ge (tg := 29) (off := 15) ab_dk142_0.2.2.2.2.2.2.2.2.2.1 (by decide)
theorem ab_s142_17 : ab_Sn B 142 17 (ab_o_ald 2 18) := ab_s_aload_n (k := 2) (n := 2) ab_dk142_0.2.2.2.2.2.2.2.2.2.2.1 rfl
theorem ab_s142_18 : ab_Sn B 142 18 (ab_o_ild 3 19) := ab_s_iload_n (k := 3) (n := 3) ab_dk142_0.2.2.2.2.2.2.2.2.2.2.2.1 rfl
theorem ab_s142_19 : ab_Sn B 142 19 (ab_o_ild 3 20) := ab_s_iload_n (k := 3) (n := 3) ab_dk142_0.2.2.2.2.2.2.2.2.2.2.2.2.1 rfl
theorem ab_s142_20 : ab_Sn B 142 20 (ab_o_ild 1 21) := ab_s_iload_n (k := 1) (n := 1) ab_dk142_0.2.2.2.2.2.2.2.2.2.2.2.2.2.1 rfl
theorem ab_s142_21 : ab_Sn B 142 21 (ab_o_bin (fun a b => a * b) 22) := ab_s_imul ab_dk142_0.2.2.2.2.2.2.2.2.2.2.2.2.2.2.1
theorem ab_s142_22 : ab_Sn B 142 22 (ab_o_xst 0 23) := ab_s_iastore ab_dk142_0.2.2.2.2.2.2.2.2.2.2.2.2.2.2.2.1
theorem ab_s142_23 : ab_Sn B 142 23 (ab_o_inc 3 1 26) := ab_s_iinc (k := 3) (n := 1) ab_dk142_1.1
theorem ab_s142_26 : ab_Sn B 142 26 (ab_o_goto 9) := ab_s_goto (tg := 9) (off := -17) ab_dk142_1.2.1 (by decide)
theorem ab_s142_29 : ab_Sn B 142 29 (ab_o_ald 0 30) := ab_s_aload_n (k := 0) (n := 0) ab_dk142_1.2.2.1 rfl
theorem ab_s142_30 : ab_Sn B 142 30 (ab_o_ald 2 31) := ab_s_aload_n (k := 2) (n := 2) ab_dk142_1.2.2.2.1 rfl
theorem ab_s142_31 : ab_Sn B 142 31 (ab_o_call (some (8, 22)) [] 133 6 2 true 34) := ab_s_callV (M' := 133) (na := 1) (i := 164) (ci := 4) (N := 22) (C := RX4) (T := TX4) (v := true) (ab_hok_n (by decide +kernel)) (by decide +kernel) ab_dk142_1.2.2.2.2.1 rfl (by decide) (by decide +kernel) (by decide +kernel) (by decide) wf_567 wf_568 wf_569 wf_570 wf_459
theorem ab_s142_34 : ab_Sn B 142 34 (ab_o_if ab_eq 41 37) := ab_s_if_eq (tg := 41) (off := 7) ab_dk142_1.2.2.2.2.2.1 (by decide)
theorem ab_s142_37 : ab_Sn B 142 37 (ab_o_const (-1) 38) := ab_s_iconst (n := (-1)) ab_dk142_1.2.2.2.2.2.2.1 rfl
theorem ab_s142_38 : ab_Sn B 142 38 (ab_o_goto 49) := ab_s_goto (tg := 49) (off := 11) ab_dk142_1.2.2.2.2.2.2.2.1 (by decide)
theorem ab_s142_41 : ab_Sn B 142 41 (ab_o_ald 0 42) := ab_s_aload_n (k := 0) (n := 0) ab_dk142_1.2.2.2.2.2.2.2.2.1 rfl
theorem ab_s142_42 : ab_Sn B 142 42 (ab_o_geti 8 22 1 45) := ab_s_geti (i := 43) (ci := 4) (N := 22) (k := 1) (C := RX4) (T := TX4) ab_dk142_1.2.2.2.2.2.2.2.2.2.1 rfl (by decide) rfl wf_461
theorem ab_s142_45 : ab_Sn B 142 45 (ab_o_const 1 46) := ab_s_iconst (n := 1) ab_dk142_1.2.2.2.2.2.2.2.2.2.2.1 rfl
theorem ab_s142_46 : ab_Sn B 142 46 (ab_o_bin (fun a b => a - b) 47) := ab_s_isub ab_dk142_1.2.2.2.2.2.2.2.2.2.2.2.1
theorem ab_s142_47 : ab_Sn B 142 47 (ab_o_ild 1 48) := ab_s_iload_n (k := 1) (n := 1) ab_dk142_1.2.2.2.2.2.2.2.2.2.2.2.2.1 rfl
theorem ab_s142_48 : ab_Sn B 142 48 (ab_o_bin (fun a b => a * b) 49) := ab_s_imul ab_dk142_1.2.2.2.2.2.2.2.2.2.2.2.2.2.1
theorem ab_s142_49 : ab_Sn B 142 49 (ab_o_iret false) := ab_s_iret (b := false) (ty := .int) ab_dk142_1.2.2.2.2.2.2.2.2.2.2.2.2.2.2.1 rfl (Or.inl ⟨rfl, rfl⟩)
set_option maxRecDepth 20000 in
theorem ab_sn142 : ab_all B 142 0 (ab_c142) := ⟨ab_s142_0, ab_s142_1, trivial, trivial, ab_s142_4, trivial, ab_s142_6, ab_s142_7, ab_s142_8, ab_s142_9, ab_s142_10, ab_s142_11, trivial, trivial, ab_s142_14, trivial, trivial, ab_s142_17, ab_s142_18, ab_s142_19, ab_s142_20, ab_s142_21, ab_s142_22, ab_s142_23, trivial, trivial, ab_s142_26, trivial, trivial, ab_s142_29, ab_s142_30, ab_s142_31, trivial, trivial, ab_s142_34, trivial, trivial, ab_s142_37, ab_s142_38, trivial, trivial, ab_s142_41, ab_s142_42, trivial, trivial, ab_s142_45, ab_s142_46, ab_s142_47, ab_s142_48, ab_s142_49, trivial⟩
theorem ab_dk143_0 : ab_dp 143 [(0, .aload_n 0, 1), (1, .iload_n 1, 1), (2, .iconst 0, 1), (3, .bipush 20, 2), (5, .invokestatic 46, 3), (8, .ifCond .ne 7, 3), (11, .iconst 1, 1), (12, .goto 4, 3), (15, .iconst 0, 1), (16, .iconst 1, 1), (17, .invokevirtual 105, 3), (20, .ifCond .ne 30, 3), (23, .aload_n 0, 1), (24, .aload_n 0, 1), (25, .getfield 43, 3), (28, .ifCond .eq 10, 3)] := ab_da (by decide +kernel)
theorem ab_dk143_1 : ab_dp 143 [(31, .aload_n 0, 1), (32, .getfield 91, 3), (35, .ifCond .eq 7, 3), (38, .iconst 1, 1), (39, .goto 4, 3), (42, .iconst 0, 1), (43, .iconst 2, 1), (44, .invokevirtual 39, 3), (47, .ifCond .eq 5, 3), (50, .iconst 0, 1), (51, .ireturn, 1), (52, .aload_n 0, 1), (53, .iload_n 1, 1), (54, .invokevirtual 190, 3), (57, .istore_n 2, 1), (58, .iload_n 2, 1)] := ab_da (by decide +kernel)
theorem ab_dk143_2 : ab_dp 143 [(59, .iconst (-1), 1), (60, .if_icmp .eq 7, 3), (63, .aload_n 0, 1), (64, .invokevirtual 187, 3), (67, .iload_n 2, 1), (68, .ireturn, 1)] := ab_da (by decide +kernel)
theorem ab_s143_0 : ab_Sn B 143 0 (ab_o_ald 0 1) := ab_s_aload_n (k := 0) (n := 0) ab_dk143_0.1 rfl
theorem ab_s143_1 : ab_Sn B 143 1 (ab_o_ild 1 2) := ab_s_iload_n (k := 1) (n := 1) ab_dk143_0.2.1 rfl
theorem ab_s143_2 : ab_Sn B 143 2 (ab_o_const 0 3) := ab_s_iconst (n := 0) ab_dk143_0.2.2.1 rfl
theorem ab_s143_3 : ab_Sn B 143 3 (ab_o_const 20 5) := ab_s_bipush (n := 20) ab_dk143_0.2.2.2.1 (by decide)
theorem ab_s143_5 : ab_Sn B 143 5 (ab_o_call none [] 100 3 3 true 8) := ab_s_callS (M' := 100) (na := 3) (i := 46) (v := true) (ab_hok_n (by decide +kernel)) (by decide +kernel) ab_dk143_0.2.2.2.2.1 (by decide +kernel) (by decide +kernel) (by decide) wf_462 wf_463 wf_464 wf_459
theorem ab_s143_8 : ab_Sn B 143 8 (ab_o_if ab_ne 15 11) := ab_s_if_ne (tg := 15) (off := 7) ab_dk143_0.2.2.2.2.2.1 (by decide)
theorem ab_s143_11 : ab_Sn B 143 11 (ab_o_const 1 12) := ab_s_iconst (n := 1) ab_dk143_0.2.2.2.2.2.2.1 rfl
theorem ab_s143_12 : ab_Sn B 143 12 (ab_o_goto 16) := ab_s_goto (tg := 16) (off := 4) ab_dk143_0.2.2.2.2.2.2.2.1 (by decide)
theorem ab_s143_15 : ab_Sn B 143 15 (ab_o_const 0 16) := ab_s_iconst (n := 0) ab_dk143_0.2.2.2.2.2.2.2.2.1 rfl
theorem ab_s143_16 : ab_Sn B 143 16 (ab_o_const 1 17) := ab_s_iconst (n := 1) ab_dk143_0.2.2.2.2.2.2.2.2.2.1 rfl
theorem ab_s143_17 : ab_Sn B 143 17 (ab_o_call (some (8, 22)) [] 102 3 3 true 20) := ab_s_callV (M' := 102) (na := 2) (i := 105) (ci := 4) (N := 22) (C := RX4) (T := TX4) (v := true) (ab_hok_n (by decide +kernel)) (by decide +kernel) ab_dk143_0.2.2.2.2.2.2.2.2.2.2.1 rfl (by decide) (by decide +kernel) (by decide +kernel) (by decide) wf_514 wf_515 wf_516 wf_517 wf_459
theorem ab_s143_20 : ab_Sn B 143 20 (ab_o_if ab_ne 50 23) := ab_s_if_ne (tg := 50) (off := 30) ab_dk143_0.2.2.2.2.2.2.2.2.2.2.2.1 (by decide)
theorem ab_s143_23 : ab_Sn B 143 23 (ab_o_ald 0 24) := ab_s_aload_n (k := 0) (n := 0) ab_dk143_0.2.2.2.2.2.2.2.2.2.2.2.2.1 rfl
theorem ab_s143_24 : ab_Sn B 143 24 (ab_o_ald 0 25) := ab_s_aload_n (k := 0) (n := 0) ab_dk143_0.2.2.2.2.2.2.2.2.2.2.2.2.2.1 rfl
theorem ab_s143_25 : ab_Sn B 143 25 (ab_o_geti 8 22 1 28) := ab_s_geti (i := 43) (ci := 4) (N := 22) (k := 1) (C := RX4) (T := TX4) ab_dk143_0.2.2.2.2.2.2.2.2.2.2.2.2.2.2.1 rfl (by decide) rfl wf_461
theorem ab_s143_28 : ab_Sn B 143 28 (ab_o_if ab_eq 38 31) := ab_s_if_eq (tg := 38) (off := 10) ab_dk143_0.2.2.2.2.2.2.2.2.2.2.2.2.2.2.2.1 (by decide)
theorem ab_s143_31 : ab_Sn B 143 31 (ab_o_ald 0 32) := ab_s_aload_n (k := 0) (n := 0) ab_dk143_1.1 rfl
theorem ab_s143_32 : ab_Sn B 143 32 (ab_o_geti 8 22 3 35) := ab_s_geti (i := 91) (ci := 4) (N := 22) (k := 3) (C := RX4) (T := TX4) ab_dk143_1.2.1 rfl (by decide) rfl wf_507
theorem ab_s143_35 : ab_Sn B 143 35 (ab_o_if ab_eq 42 38) := ab_s_if_eq (tg := 42) (off := 7) ab_dk143_1.2.2.1 (by decide)
theorem ab_s143_38 : ab_Sn B 143 38 (ab_o_const 1 39) := ab_s_iconst (n := 1) ab_dk143_1.2.2.2.1 rfl
theorem ab_s143_39 : ab_Sn B 143 39 (ab_o_goto 43) := ab_s_goto (tg := 43) (off := 4) ab_dk143_1.2.2.2.2.1 (by decide)
theorem ab_s143_42 : ab_Sn B 143 42 (ab_o_const 0 43) := ab_s_iconst (n := 0) ab_dk143_1.2.2.2.2.2.1 rfl
theorem ab_s143_43 : ab_Sn B 143 43 (ab_o_const 2 44) := ab_s_iconst (n := 2) ab_dk143_1.2.2.2.2.2.2.1 rfl
theorem ab_s143_44 : ab_Sn B 143 44 (ab_o_call (some (8, 22)) [] 101 3 3 true 47) := ab_s_callV (M' := 101) (na := 2) (i := 39) (ci := 4) (N := 22) (C := RX4) (T := TX4) (v := true) (ab_hok_n (by decide +kernel)) (by decide +kernel) ab_dk143_1.2.2.2.2.2.2.2.1 rfl (by decide) (by decide +kernel) (by decide +kernel) (by decide) wf_456 wf_457 wf_458 wf_460 wf_459
theorem ab_s143_47 : ab_Sn B 143 47 (ab_o_if ab_eq 52 50) := ab_s_if_eq (tg := 52) (off := 5) ab_dk143_1.2.2.2.2.2.2.2.2.1 (by decide)
theorem ab_s143_50 : ab_Sn B 143 50 (ab_o_const 0 51) := ab_s_iconst (n := 0) ab_dk143_1.2.2.2.2.2.2.2.2.2.1 rfl
theorem ab_s143_51 : ab_Sn B 143 51 (ab_o_iret false) := ab_s_iret (b := false) (ty := .int) ab_dk143_1.2.2.2.2.2.2.2.2.2.2.1 rfl (Or.inl ⟨rfl, rfl⟩)
theorem ab_s143_52 : ab_Sn B 143 52 (ab_o_ald 0 53) := ab_s_aload_n (k := 0) (n := 0) ab_dk143_1.2.2.2.2.2.2.2.2.2.2.2.1 rfl
theorem ab_s143_53 : ab_Sn B 143 53 (ab_o_ild 1 54) := ab_s_iload_n (k := 1) (n := 1) ab_dk143_1.2.2.2.2.2.2.2.2.2.2.2.2.1 rfl
theorem ab_s143_54 : ab_Sn B 143 54 (ab_o_call (some (8, 22)) [] 142 4 2 true 57) := ab_s_callV (M' := 142) (na := 1) (i := 190) (ci := 4) (N := 22) (C := RX4) (T := TX4) (v := true) (ab_hok_n (by decide +kernel)) (by decide +kernel) ab_dk143_1.2.2.2.2.2.2.2.2.2.2.2.2.2.1 rfl (by decide) (by decide +kernel) (by decide +kernel) (by decide) wf_591 wf_592 wf_593 wf_594 wf_459
theorem ab_s143_57 : ab_Sn B 143 57 (ab_o_ist 2 58) := ab_s_istore_n (k := 2) (n := 2) ab_dk143_1.2.2.2.2.2.2.2.2.2.2.2.2.2.2.1 rfl
theorem ab_s143_58 : ab_Sn B 143 58 (ab_o_ild 2 59) := ab_s_iload_n (k := 2) (n := 2) ab_dk143_1.2.2.2.2.2.2.2.2.2.2.2.2.2.2.2.1 rfl
theorem ab_s143_59 : ab_Sn B 143 59 (ab_o_const (-1) 60) := ab_s_iconst (n := (-1)) ab_dk143_2.1 rfl
theorem ab_s143_60 : ab_Sn B 143 60 (ab_o_icmp ab_eq 67 63) := ab_s_icmp_eq (tg := 67) (off := 7) ab_dk143_2.2.1 (by decide)
theorem ab_s143_63 : ab_Sn B 143 63 (ab_o_ald 0 64) := ab_s_aload_n (k := 0) (n := 0) ab_dk143_2.2.2.1 rfl
theorem ab_s143_64 : ab_Sn B 143 64 (ab_o_call (some (8, 22)) [] 120 1 1 false 67) := ab_s_callV (M' := 120) (na := 0) (i := 187) (ci := 4) (N := 22) (C := RX4) (T := TX4) (v := false) (ab_hok_n (by decide +kernel)) (by decide +kernel) ab_dk143_2.2.2.2.1 rfl (by decide) (by decide +kernel) (by decide +kernel) (by decide) wf_587 wf_588 wf_589 wf_590 wf_459
theorem ab_s143_67 : ab_Sn B 143 67 (ab_o_ild 2 68) := ab_s_iload_n (k := 2) (n := 2) ab_dk143_2.2.2.2.2.1 rfl
theorem ab_s143_68 : ab_Sn B 143 68 (ab_o_iret false) := ab_s_iret (b := false) (ty := .int) ab_dk143_2.2.2.2.2.2.1 rfl (Or.inl ⟨rfl, rfl⟩)
set_option maxRecDepth 20000 in
theorem ab_sn143 : ab_all B 143 0 (ab_c143) := ⟨ab_s143_0, ab_s143_1, ab_s143_2, ab_s143_3, trivial, ab_s143_5, trivial, trivial, ab_s143_8, trivial, trivial, ab_s143_11, ab_s143_12, trivial, trivial, ab_s143_15, ab_s143_16, ab_s143_17, trivial, trivial, ab_s143_20, trivial, trivial, ab_s143_23, ab_s143_24, ab_s143_25, trivial, trivial, ab_s143_28, trivial, trivial, ab_s143_31, ab_s143_32, trivial, trivial, ab_s143_35, trivial, trivial, ab_s143_38, ab_s143_39, trivial, trivial, ab_s143_42, ab_s143_43, ab_s143_44, trivial, trivial, ab_s143_47, trivial, trivial, ab_s143_50, ab_s143_51, ab_s143_52, ab_s143_53, ab_s143_54, trivial, trivial, ab_s143_57, ab_s143_58, ab_s143_59, ab_s143_60, trivial, trivial, ab_s143_63, ab_s143_64, trivial, trivial, ab_s143_67, ab_s143_68, trivial⟩
theorem ab_dk144_0 : ab_dp 144 [(0, .iconst 5, 1), (1, .newarray .int, 2), (3, .dup, 1), (4, .iconst 0, 1), (5, .aload_n 0, 1), (6, .getfield 9, 3), (9, .iload_n 1, 1), (10, .aaload, 1), (11, .iload_n 2, 1), (12, .iaload, 1), (13, .iastore, 1), (14, .dup, 1), (15, .iconst 1, 1), (16, .aload_n 0, 1), (17, .getfield 14, 3), (20, .iload_n 1, 1)] := ab_da (by decide +kernel)
theorem ab_dk144_1 : ab_dp 144 [(21, .aaload, 1), (22, .iload_n 2, 1), (23, .iaload, 1), (24, .iastore, 1), (25, .dup, 1), (26, .iconst 2, 1), (27, .aload_n 0, 1), (28, .iload_n 1, 1), (29, .iload_n 2, 1), (30, .invokevirtual 64, 3), (33, .ifCond .eq 7, 3), (36, .iconst 1, 1), (37, .goto 4, 3), (40, .iconst 0, 1), (41, .iastore, 1), (42, .dup, 1)] := ab_da (by decide +kernel)
theorem ab_dk144_2 : ab_dp 144 [(43, .iconst 3, 1), (44, .aload_n 0, 1), (45, .iload_n 1, 1), (46, .iload_n 2, 1), (47, .invokevirtual 145, 3), (50, .iastore, 1), (51, .dup, 1), (52, .iconst 4, 1), (53, .aload_n 0, 1), (54, .iload_n 1, 1), (55, .iload_n 2, 1), (56, .invokevirtual 85, 3), (59, .iastore, 1), (60, .astore 4, 2), (62, .aload 4, 2), (64, .iload_n 3, 1)] := ab_da (by decide +kernel)
theorem ab_dk144_3 : ab_dp 144 [(65, .iaload, 1), (66, .ireturn, 1)] := ab_da (by decide +kernel)
theorem ab_s144_0 : ab_Sn B 144 0 (ab_o_const 5 1) := ab_s_iconst (n := 5) ab_dk144_0.1 rfl
theorem ab_s144_1 : ab_Sn B 144 1 (ab_o_newa 0 3) := ab_s_newa0 ab_dk144_0.2.1 wf_3
theorem ab_s144_3 : ab_Sn B 144 3 (ab_o_dup 4) := ab_s_dup ab_dk144_0.2.2.1
theorem ab_s144_4 : ab_Sn B 144 4 (ab_o_const 0 5) := ab_s_iconst (n := 0) ab_dk144_0.2.2.2.1 rfl
theorem ab_s144_5 : ab_Sn B 144 5 (ab_o_ald 0 6) := ab_s_aload_n (k := 0) (n := 0) ab_dk144_0.2.2.2.2.1 rfl
theorem ab_s144_6 : ab_Sn B 144 6 (ab_o_getr 8 22 4 9) := ab_s_getr (i := 9) (ci := 4) (N := 22) (k := 4) (C := RX4) (T := TX4) ab_dk144_0.2.2.2.2.2.1 rfl (by decide) rfl wf_447
theorem ab_s144_9 : ab_Sn B 144 9 (ab_o_ild 1 10) := ab_s_iload_n (k := 1) (n := 1) ab_dk144_0.2.2.2.2.2.2.1 rfl
theorem ab_s144_10 : ab_Sn B 144 10 (ab_o_aald 11) := ab_s_aald ab_dk144_0.2.2.2.2.2.2.2.1
theorem ab_s144_11 : ab_Sn B 144 11 (ab_o_ild 2 12) := ab_s_iload_n (k := 2) (n := 2) ab_dk144_0.2.2.2.2.2.2.2.2.1 rfl
theorem ab_s144_12 : ab_Sn B 144 12 (ab_o_xld 0 13) := ab_s_iaload ab_dk144_0.2.2.2.2.2.2.2.2.2.1
theorem ab_s144_13 : ab_Sn B 144 13 (ab_o_xst 0 14) := ab_s_iastore ab_dk144_0.2.2.2.2.2.2.2.2.2.2.1
theorem ab_s144_14 : ab_Sn B 144 14 (ab_o_dup 15) := ab_s_dup ab_dk144_0.2.2.2.2.2.2.2.2.2.2.2.1
theorem ab_s144_15 : ab_Sn B 144 15 (ab_o_const 1 16) := ab_s_iconst (n := 1) ab_dk144_0.2.2.2.2.2.2.2.2.2.2.2.2.1 rfl
theorem ab_s144_16 : ab_Sn B 144 16 (ab_o_ald 0 17) := ab_s_aload_n (k := 0) (n := 0) ab_dk144_0.2.2.2.2.2.2.2.2.2.2.2.2.2.1 rfl
theorem ab_s144_17 : ab_Sn B 144 17 (ab_o_getr 8 22 5 20) := ab_s_getr (i := 14) (ci := 4) (N := 22) (k := 5) (C := RX4) (T := TX4) ab_dk144_0.2.2.2.2.2.2.2.2.2.2.2.2.2.2.1 rfl (by decide) rfl wf_448
theorem ab_s144_20 : ab_Sn B 144 20 (ab_o_ild 1 21) := ab_s_iload_n (k := 1) (n := 1) ab_dk144_0.2.2.2.2.2.2.2.2.2.2.2.2.2.2.2.1 rfl
theorem ab_s144_21 : ab_Sn B 144 21 (ab_o_aald 22) := ab_s_aald ab_dk144_1.1
theorem ab_s144_22 : ab_Sn B 144 22 (ab_o_ild 2 23) := ab_s_iload_n (k := 2) (n := 2) ab_dk144_1.2.1 rfl
theorem ab_s144_23 : ab_Sn B 144 23 (ab_o_xld 0 24) := ab_s_iaload ab_dk144_1.2.2.1
theorem ab_s144_24 : ab_Sn B 144 24 (ab_o_xst 0 25) := ab_s_iastore ab_dk144_1.2.2.2.1
theorem ab_s144_25 : ab_Sn B 144 25 (ab_o_dup 26) := ab_s_dup ab_dk144_1.2.2.2.2.1
theorem ab_s144_26 : ab_Sn B 144 26 (ab_o_const 2 27) := ab_s_iconst (n := 2) ab_dk144_1.2.2.2.2.2.1 rfl
theorem ab_s144_27 : ab_Sn B 144 27 (ab_o_ald 0 28) := ab_s_aload_n (k := 0) (n := 0) ab_dk144_1.2.2.2.2.2.2.1 rfl
theorem ab_s144_28 : ab_Sn B 144 28 (ab_o_ild 1 29) := ab_s_iload_n (k := 1) (n := 1) ab_dk144_1.2.2.2.2.2.2.2.1 rfl
theorem ab_s144_29 : ab_Sn B 144 29 (ab_o_ild 2 30) := ab_s_iload_n (k := 2) (n := 2) ab_dk144_1.2.2.2.2.2.2.2.2.1 rfl
theorem ab_s144_30 : ab_Sn B 144 30 (ab_o_call (some (8, 22)) [] 111 3 3 true 33) := ab_s_callV (M' := 111) (na := 2) (i := 64) (ci := 4) (N := 22) (C := RX4) (T := TX4) (v := true) (ab_hok_n (by decide +kernel)) (by decide +kernel) ab_dk144_1.2.2.2.2.2.2.2.2.2.1 rfl (by decide) (by decide +kernel) (by decide +kernel) (by decide) wf_478 wf_479 wf_480 wf_481 wf_459
theorem ab_s144_33 : ab_Sn B 144 33 (ab_o_if ab_eq 40 36) := ab_s_if_eq (tg := 40) (off := 7) ab_dk144_1.2.2.2.2.2.2.2.2.2.2.1 (by decide)
theorem ab_s144_36 : ab_Sn B 144 36 (ab_o_const 1 37) := ab_s_iconst (n := 1) ab_dk144_1.2.2.2.2.2.2.2.2.2.2.2.1 rfl
theorem ab_s144_37 : ab_Sn B 144 37 (ab_o_goto 41) := ab_s_goto (tg := 41) (off := 4) ab_dk144_1.2.2.2.2.2.2.2.2.2.2.2.2.1 (by decide)
theorem ab_s144_40 : ab_Sn B 144 40 (ab_o_const 0 41) := ab_s_iconst (n := 0) ab_dk144_1.2.2.2.2.2.2.2.2.2.2.2.2.2.1 rfl
theorem ab_s144_41 : ab_Sn B 144 41 (ab_o_xst 0 42) := ab_s_iastore ab_dk144_1.2.2.2.2.2.2.2.2.2.2.2.2.2.2.1
theorem ab_s144_42 : ab_Sn B 144 42 (ab_o_dup 43) := ab_s_dup ab_dk144_1.2.2.2.2.2.2.2.2.2.2.2.2.2.2.2.1
theorem ab_s144_43 : ab_Sn B 144 43 (ab_o_const 3 44) := ab_s_iconst (n := 3) ab_dk144_2.1 rfl
theorem ab_s144_44 : ab_Sn B 144 44 (ab_o_ald 0 45) := ab_s_aload_n (k := 0) (n := 0) ab_dk144_2.2.1 rfl
theorem ab_s144_45 : ab_Sn B 144 45 (ab_o_ild 1 46) := ab_s_iload_n (k := 1) (n := 1) ab_dk144_2.2.2.1 rfl
theorem ab_s144_46 : ab_Sn B 144 46 (ab_o_ild 2 47) := ab_s_iload_n (k := 2) (n := 2) ab_dk144_2.2.2.2.1 rfl
theorem ab_s144_47 : ab_Sn B 144 47 (ab_o_call (some (8, 22)) [] 110 3 3 true 50) := ab_s_callV (M' := 110) (na := 2) (i := 145) (ci := 4) (N := 22) (C := RX4) (T := TX4) (v := true) (ab_hok_n (by decide +kernel)) (by decide +kernel) ab_dk144_2.2.2.2.2.1 rfl (by decide) (by decide +kernel) (by decide +kernel) (by decide) wf_551 wf_552 wf_553 wf_554 wf_459
theorem ab_s144_50 : ab_Sn B 144 50 (ab_o_xst 0 51) := ab_s_iastore ab_dk144_2.2.2.2.2.2.1
theorem ab_s144_51 : ab_Sn B 144 51 (ab_o_dup 52) := ab_s_dup ab_dk144_2.2.2.2.2.2.2.1
theorem ab_s144_52 : ab_Sn B 144 52 (ab_o_const 4 53) := ab_s_iconst (n := 4) ab_dk144_2.2.2.2.2.2.2.2.1 rfl
theorem ab_s144_53 : ab_Sn B 144 53 (ab_o_ald 0 54) := ab_s_aload_n (k := 0) (n := 0) ab_dk144_2.2.2.2.2.2.2.2.2.1 rfl
theorem ab_s144_54 : ab_Sn B 144 54 (ab_o_ild 1 55) := ab_s_iload_n (k := 1) (n := 1) ab_dk144_2.2.2.2.2.2.2.2.2.2.1 rfl
theorem ab_s144_55 : ab_Sn B 144 55 (ab_o_ild 2 56) := ab_s_iload_n (k := 2) (n := 2) ab_dk144_2.2.2.2.2.2.2.2.2.2.2.1 rfl
theorem ab_s144_56 : ab_Sn B 144 56 (ab_o_call (some (8, 22)) [] 115 3 3 true 59) := ab_s_callV (M' := 115) (na := 2) (i := 85) (ci := 4) (N := 22) (C := RX4) (T := TX4) (v := true) (ab_hok_n (by decide +kernel)) (by decide +kernel) ab_dk144_2.2.2.2.2.2.2.2.2.2.2.2.1 rfl (by decide) (by decide +kernel) (by decide +kernel) (by decide) wf_499 wf_500 wf_501 wf_502 wf_459
theorem ab_s144_59 : ab_Sn B 144 59 (ab_o_xst 0 60) := ab_s_iastore ab_dk144_2.2.2.2.2.2.2.2.2.2.2.2.2.1
theorem ab_s144_60 : ab_Sn B 144 60 (ab_o_ast 4 62) := ab_s_astore (k := 4) ab_dk144_2.2.2.2.2.2.2.2.2.2.2.2.2.2.1
theorem ab_s144_62 : ab_Sn B 144 62 (ab_o_ald 4 64) := ab_s_aload (k := 4) ab_dk144_2.2.2.2.2.2.2.2.2.2.2.2.2.2.2.1
theorem ab_s144_64 : ab_Sn B 144 64 (ab_o_ild 3 65) := ab_s_iload_n (k := 3) (n := 3) ab_dk144_2.2.2.2.2.2.2.2.2.2.2.2.2.2.2.2.1 rfl
theorem ab_s144_65 : ab_Sn B 144 65 (ab_o_xld 0 66) := ab_s_iaload ab_dk144_3.1
theorem ab_s144_66 : ab_Sn B 144 66 (ab_o_iret false) := ab_s_iret (b := false) (ty := .int) ab_dk144_3.2.1 rfl (Or.inl ⟨rfl, rfl⟩)
set_option maxRecDepth 20000 in
theorem ab_sn144 : ab_all B 144 0 (ab_c144) := ⟨ab_s144_0, ab_s144_1, trivial, ab_s144_3, ab_s144_4, ab_s144_5, ab_s144_6, trivial, trivial, ab_s144_9, ab_s144_10, ab_s144_11, ab_s144_12, ab_s144_13, ab_s144_14, ab_s144_15, ab_s144_16, ab_s144_17, trivial, trivial, ab_s144_20, ab_s144_21, ab_s144_22, ab_s144_23, ab_s144_24, ab_s144_25, ab_s144_26, ab_s144_27, ab_s144_28, ab_s144_29, ab_s144_30, trivial, trivial, ab_s144_33, trivial, trivial, ab_s144_36, ab_s144_37, trivial, trivial, ab_s144_40, ab_s144_41, ab_s144_42, ab_s144_43, ab_s144_44, ab_s144_45, ab_s144_46, ab_s144_47, trivial, trivial, ab_s144_50, ab_s144_51, ab_s144_52, ab_s144_53, ab_s144_54, ab_s144_55, ab_s144_56, trivial, trivial, ab_s144_59, ab_s144_60, trivial, ab_s144_62, trivial, ab_s144_64, ab_s144_65, ab_s144_66, trivial⟩
theorem ab_dk145_0 : ab_dp 145 [(0, .aload_n 0, 1), (1, .aload_n 0, 1), (2, .iload_n 1, 1), (3, .invokevirtual 133, 3), (6, .ifCond .ne 11, 3), (9, .aload_n 0, 1), (10, .iload_n 2, 1), (11, .invokevirtual 139, 3), (14, .ifCond .eq 7, 3), (17, .iconst 1, 1), (18, .goto 4, 3), (21, .iconst 0, 1), (22, .iconst 1, 1), (23, .invokevirtual 105, 3), (26, .ifCond .ne 25, 3), (29, .aload_n 0, 1)] := ab_da (by decide +kernel)
theorem ab_dk145_1 : ab_dp 145 [(30, .iload_n 3, 1), (31, .iconst 0, 1), (32, .iconst 4, 1), (33, .invokestatic 46, 3), (36, .ifCond .ne 7, 3), (39, .iconst 1, 1), (40, .goto 4, 3), (43, .iconst 0, 1), (44, .iconst 2, 1), (45, .invokevirtual 39, 3), (48, .ifCond .eq 7, 3), (51, .iconst 0, 1), (52, .goto 10, 3), (55, .aload_n 0, 1), (56, .iload_n 1, 1), (57, .iload_n 2, 1)] := ab_da (by decide +kernel)
theorem ab_dk145_2 : ab_dp 145 [(58, .iload_n 3, 1), (59, .invokevirtual 193, 3), (62, .ireturn, 1)] := ab_da (by decide +kernel)
theorem ab_s145_0 : ab_Sn B 145 0 (ab_o_ald 0 1) := ab_s_aload_n (k := 0) (n := 0) ab_dk145_0.1 rfl
theorem ab_s145_1 : ab_Sn B 145 1 (ab_o_ald 0 2) := ab_s_aload_n (k := 0) (n := 0) ab_dk145_0.2.1 rfl
theorem ab_s145_2 : ab_Sn B 145 2 (ab_o_ild 1 3) := ab_s_iload_n (k := 1) (n := 1) ab_dk145_0.2.2.1 rfl
theorem ab_s145_3 : ab_Sn B 145 3 (ab_o_call (some (8, 22)) [] 103 2 2 true 6) := ab_s_callV (M' := 103) (na := 1) (i := 133) (ci := 4) (N := 22) (C := RX4) (T := TX4) (v := true) (ab_hok_n (by decide +kernel)) (by decide +kernel) ab_dk145_0.2.2.2.1 rfl (by decide) (by decide +kernel) (by decide +kernel) (by decide) wf_535 wf_536 wf_537 wf_538 wf_459
theorem ab_s145_6 : ab_Sn B 145 6 (ab_o_if ab_ne 17 9) := ab_s_if_ne (tg := 17) (off := 11) ab_dk145_0.2.2.2.2.1 (by decide)
theorem ab_s145_9 : ab_Sn B 145 9 (ab_o_ald 0 10) := ab_s_aload_n (k := 0) (n := 0) ab_dk145_0.2.2.2.2.2.1 rfl
theorem ab_s145_10 : ab_Sn B 145 10 (ab_o_ild 2 11) := ab_s_iload_n (k := 2) (n := 2) ab_dk145_0.2.2.2.2.2.2.1 rfl
theorem ab_s145_11 : ab_Sn B 145 11 (ab_o_call (some (8, 22)) [] 104 2 2 true 14) := ab_s_callV (M' := 104) (na := 1) (i := 139) (ci := 4) (N := 22) (C := RX4) (T := TX4) (v := true) (ab_hok_n (by decide +kernel)) (by decide +kernel) ab_dk145_0.2.2.2.2.2.2.2.1 rfl (by decide) (by decide +kernel) (by decide +kernel) (by decide) wf_543 wf_544 wf_545 wf_546 wf_459
theorem ab_s145_14 : ab_Sn B 145 14 (ab_o_if ab_eq 21 17) := ab_s_if_eq (tg := 21) (off := 7) ab_dk145_0.2.2.2.2.2.2.2.2.1 (by decide)
theorem ab_s145_17 : ab_Sn B 145 17 (ab_o_const 1 18) := ab_s_iconst (n := 1) ab_dk145_0.2.2.2.2.2.2.2.2.2.1 rfl
theorem ab_s145_18 : ab_Sn B 145 18 (ab_o_goto 22) := ab_s_goto (tg := 22) (off := 4) ab_dk145_0.2.2.2.2.2.2.2.2.2.2.1 (by decide)
theorem ab_s145_21 : ab_Sn B 145 21 (ab_o_const 0 22) := ab_s_iconst (n := 0) ab_dk145_0.2.2.2.2.2.2.2.2.2.2.2.1 rfl
theorem ab_s145_22 : ab_Sn B 145 22 (ab_o_const 1 23) := ab_s_iconst (n := 1) ab_dk145_0.2.2.2.2.2.2.2.2.2.2.2.2.1 rfl
theorem ab_s145_23 : ab_Sn B 145 23 (ab_o_call (some (8, 22)) [] 102 3 3 true 26) := ab_s_callV (M' := 102) (na := 2) (i := 105) (ci := 4) (N := 22) (C := RX4) (T := TX4) (v := true) (ab_hok_n (by decide +kernel)) (by decide +kernel) ab_dk145_0.2.2.2.2.2.2.2.2.2.2.2.2.2.1 rfl (by decide) (by decide +kernel) (by decide +kernel) (by decide) wf_514 wf_515 wf_516 wf_517 wf_459
theorem ab_s145_26 : ab_Sn B 145 26 (ab_o_if ab_ne 51 29) := ab_s_if_ne (tg := 51) (off := 25) ab_dk145_0.2.2.2.2.2.2.2.2.2.2.2.2.2.2.1 (by decide)
theorem ab_s145_29 : ab_Sn B 145 29 (ab_o_ald 0 30) := ab_s_aload_n (k := 0) (n := 0) ab_dk145_0.2.2.2.2.2.2.2.2.2.2.2.2.2.2.2.1 rfl
theorem ab_s145_30 : ab_Sn B 145 30 (ab_o_ild 3 31) := ab_s_iload_n (k := 3) (n := 3) ab_dk145_1.1 rfl
theorem ab_s145_31 : ab_Sn B 145 31 (ab_o_const 0 32) := ab_s_iconst (n := 0) ab_dk145_1.2.1 rfl
theorem ab_s145_32 : ab_Sn B 145 32 (ab_o_const 4 33) := ab_s_iconst (n := 4) ab_dk145_1.2.2.1 rfl
theorem ab_s145_33 : ab_Sn B 145 33 (ab_o_call none [] 100 3 3 true 36) := ab_s_callS (M' := 100) (na := 3) (i := 46) (v := true) (ab_hok_n (by decide +kernel)) (by decide +kernel) ab_dk145_1.2.2.2.1 (by decide +kernel) (by decide +kernel) (by decide) wf_462 wf_463 wf_464 wf_459
theorem ab_s145_36 : ab_Sn B 145 36 (ab_o_if ab_ne 43 39) := ab_s_if_ne (tg := 43) (off := 7) ab_dk145_1.2.2.2.2.1 (by decide)
theorem ab_s145_39 : ab_Sn B 145 39 (ab_o_const 1 40) := ab_s_iconst (n := 1) ab_dk145_1.2.2.2.2.2.1 rfl
theorem ab_s145_40 : ab_Sn B 145 40 (ab_o_goto 44) := ab_s_goto (tg := 44) (off := 4) ab_dk145_1.2.2.2.2.2.2.1 (by decide)
theorem ab_s145_43 : ab_Sn B 145 43 (ab_o_const 0 44) := ab_s_iconst (n := 0) ab_dk145_1.2.2.2.2.2.2.2.1 rfl
theorem ab_s145_44 : ab_Sn B 145 44 (ab_o_const 2 45) := ab_s_iconst (n := 2) ab_dk145_1.2.2.2.2.2.2.2.2.1 rfl
theorem ab_s145_45 : ab_Sn B 145 45 (ab_o_call (some (8, 22)) [] 101 3 3 true 48) := ab_s_callV (M' := 101) (na := 2) (i := 39) (ci := 4) (N := 22) (C := RX4) (T := TX4) (v := true) (ab_hok_n (by decide +kernel)) (by decide +kernel) ab_dk145_1.2.2.2.2.2.2.2.2.2.1 rfl (by decide) (by decide +kernel) (by decide +kernel) (by decide) wf_456 wf_457 wf_458 wf_460 wf_459
theorem ab_s145_48 : ab_Sn B 145 48 (ab_o_if ab_eq 55 51) := ab_s_if_eq (tg := 55) (off := 7) ab_dk145_1.2.2.2.2.2.2.2.2.2.2.1 (by decide)
theorem ab_s145_51 : ab_Sn B 145 51 (ab_o_const 0 52) := ab_s_iconst (n := 0) ab_dk145_1.2.2.2.2.2.2.2.2.2.2.2.1 rfl
theorem ab_s145_52 : ab_Sn B 145 52 (ab_o_goto 62) := ab_s_goto (tg := 62) (off := 10) ab_dk145_1.2.2.2.2.2.2.2.2.2.2.2.2.1 (by decide)
theorem ab_s145_55 : ab_Sn B 145 55 (ab_o_ald 0 56) := ab_s_aload_n (k := 0) (n := 0) ab_dk145_1.2.2.2.2.2.2.2.2.2.2.2.2.2.1 rfl
theorem ab_s145_56 : ab_Sn B 145 56 (ab_o_ild 1 57) := ab_s_iload_n (k := 1) (n := 1) ab_dk145_1.2.2.2.2.2.2.2.2.2.2.2.2.2.2.1 rfl
theorem ab_s145_57 : ab_Sn B 145 57 (ab_o_ild 2 58) := ab_s_iload_n (k := 2) (n := 2) ab_dk145_1.2.2.2.2.2.2.2.2.2.2.2.2.2.2.2.1 rfl
theorem ab_s145_58 : ab_Sn B 145 58 (ab_o_ild 3 59) := ab_s_iload_n (k := 3) (n := 3) ab_dk145_2.1 rfl
theorem ab_s145_59 : ab_Sn B 145 59 (ab_o_call (some (8, 22)) [] 144 5 4 true 62) := ab_s_callV (M' := 144) (na := 3) (i := 193) (ci := 4) (N := 22) (C := RX4) (T := TX4) (v := true) (ab_hok_n (by decide +kernel)) (by decide +kernel) ab_dk145_2.2.1 rfl (by decide) (by decide +kernel) (by decide +kernel) (by decide) wf_595 wf_596 wf_597 wf_598 wf_459
theorem ab_s145_62 : ab_Sn B 145 62 (ab_o_iret false) := ab_s_iret (b := false) (ty := .int) ab_dk145_2.2.2.1 rfl (Or.inl ⟨rfl, rfl⟩)
set_option maxRecDepth 20000 in
theorem ab_sn145 : ab_all B 145 0 (ab_c145) := ⟨ab_s145_0, ab_s145_1, ab_s145_2, ab_s145_3, trivial, trivial, ab_s145_6, trivial, trivial, ab_s145_9, ab_s145_10, ab_s145_11, trivial, trivial, ab_s145_14, trivial, trivial, ab_s145_17, ab_s145_18, trivial, trivial, ab_s145_21, ab_s145_22, ab_s145_23, trivial, trivial, ab_s145_26, trivial, trivial, ab_s145_29, ab_s145_30, ab_s145_31, ab_s145_32, ab_s145_33, trivial, trivial, ab_s145_36, trivial, trivial, ab_s145_39, ab_s145_40, trivial, trivial, ab_s145_43, ab_s145_44, ab_s145_45, trivial, trivial, ab_s145_48, trivial, trivial, ab_s145_51, ab_s145_52, trivial, trivial, ab_s145_55, ab_s145_56, ab_s145_57, ab_s145_58, ab_s145_59, trivial, trivial, ab_s145_62, trivial⟩
theorem ab_dk146_0 : ab_dp 146 [(0, .iconst 0, 1), (1, .istore_n 3, 1), (2, .iconst 0, 1), (3, .istore 4, 2), (5, .iload 4, 2), (7, .aload_n 0, 1), (8, .getfield 50, 3), (11, .if_icmp .ge 27, 3), (14, .iload_n 3, 1), (15, .aload_n 0, 1), (16, .iload_n 1, 1), (17, .iload 4, 2), (19, .invokevirtual 64, 3), (22, .ifCond .eq 7, 3), (25, .iconst 1, 1), (26, .goto 4, 3)] := ab_da (by decide +kernel)
theorem ab_dk146_1 : ab_dp 146 [(29, .iconst 0, 1), (30, .iadd, 1), (31, .istore_n 3, 1), (32, .iinc 4 1, 3), (35, .goto (-30), 3), (38, .aload_n 0, 1), (39, .invokevirtual 183, 3), (42, .astore 4, 2), (44, .iconst (-1), 1), (45, .istore 5, 2), (47, .iconst 0, 1), (48, .istore 6, 2), (50, .aload 4, 2), (52, .ifnull 38, 3), (55, .iload 6, 2), (57, .aload_n 0, 1)] := ab_da (by decide +kernel)
theorem ab_dk146_2 : ab_dp 146 [(58, .getfield 43, 3), (61, .if_icmp .ge 29, 3), (64, .aload 4, 2), (66, .iconst 1, 1), (67, .aaload, 1), (68, .iload 6, 2), (70, .iaload, 1), (71, .iload_n 1, 1), (72, .if_icmp .ne 8, 3), (75, .iload 6, 2), (77, .goto 5, 3), (80, .iload 5, 2), (82, .istore 5, 2), (84, .iinc 6 1, 3), (87, .goto (-37), 3), (90, .bipush 8, 2)] := ab_da (by decide +kernel)
theorem ab_dk146_3 : ab_dp 146 [(92, .newarray .int, 2), (94, .dup, 1), (95, .iconst 0, 1), (96, .aload_n 0, 1), (97, .getfield 17, 3), (100, .iload_n 1, 1), (101, .baload, 1), (102, .ifCond .eq 7, 3), (105, .iconst 1, 1), (106, .goto 4, 3), (109, .iconst 0, 1), (110, .iastore, 1), (111, .dup, 1), (112, .iconst 1, 1), (113, .iload_n 3, 1), (114, .iastore, 1)] := ab_da (by decide +kernel)
theorem ab_dk146_4 : ab_dp 146 [(115, .dup, 1), (116, .iconst 2, 1), (117, .aload_n 0, 1), (118, .getfield 21, 3), (121, .iload_n 1, 1), (122, .iaload, 1), (123, .iastore, 1), (124, .dup, 1), (125, .iconst 3, 1), (126, .aload_n 0, 1), (127, .getfield 33, 3), (130, .iload_n 1, 1), (131, .aaload, 1), (132, .iconst 0, 1), (133, .iaload, 1), (134, .iastore, 1)] := ab_da (by decide +kernel)
theorem ab_dk146_5 : ab_dp 146 [(135, .dup, 1), (136, .iconst 4, 1), (137, .aload_n 0, 1), (138, .getfield 33, 3), (141, .iload_n 1, 1), (142, .aaload, 1), (143, .iconst 1, 1), (144, .iaload, 1), (145, .iastore, 1), (146, .dup, 1), (147, .iconst 5, 1), (148, .aload_n 0, 1), (149, .getfield 33, 3), (152, .iload_n 1, 1), (153, .aaload, 1), (154, .iconst 2, 1)] := ab_da (by decide +kernel)
theorem ab_dk146_6 : ab_dp 146 [(155, .iaload, 1), (156, .iastore, 1), (157, .dup, 1), (158, .bipush 6, 2), (160, .aload 4, 2), (162, .ifnonnull 7, 3), (165, .iconst (-1), 1), (166, .goto 9, 3), (169, .aload 4, 2), (171, .iconst 0, 1), (172, .aaload, 1), (173, .iload_n 1, 1), (174, .iaload, 1), (175, .iastore, 1), (176, .dup, 1), (177, .bipush 7, 2)] := ab_da (by decide +kernel)
theorem ab_dk146_7 : ab_dp 146 [(179, .iload 5, 2), (181, .iastore, 1), (182, .astore 6, 2), (184, .aload 6, 2), (186, .iload_n 2, 1), (187, .iaload, 1), (188, .ireturn, 1)] := ab_da (by decide +kernel)
theorem ab_s146_0 : ab_Sn B 146 0 (ab_o_const 0 1) := ab_s_iconst (n := 0) ab_dk146_0.1 rfl
theorem ab_s146_1 : ab_Sn B 146 1 (ab_o_ist 3 2) := ab_s_istore_n (k := 3) (n := 3) ab_dk146_0.2.1 rfl
theorem ab_s146_2 : ab_Sn B 146 2 (ab_o_const 0 3) := ab_s_iconst (n := 0) ab_dk146_0.2.2.1 rfl
theorem ab_s146_3 : ab_Sn B 146 3 (ab_o_ist 4 5) := ab_s_istore (k := 4) ab_dk146_0.2.2.2.1
theorem ab_s146_5 : ab_Sn B 146 5 (ab_o_ild 4 7) := ab_s_iload (k := 4) ab_dk146_0.2.2.2.2.1
theorem ab_s146_7 : ab_Sn B 146 7 (ab_o_ald 0 8) := ab_s_aload_n (k := 0) (n := 0) ab_dk146_0.2.2.2.2.2.1 rfl
theorem ab_s146_8 : ab_Sn B 146 8 (ab_o_geti 8 22 2 11) := ab_s_geti (i := 50) (ci := 4) (N := 22) (k := 2) (C := RX4) (T := TX4) ab_dk146_0.2.2.2.2.2.2.1 rfl (by decide) rfl wf_465
theorem ab_s146_11 : ab_Sn B 146 11 (ab_o_icmp ab_ge 38 14) := ab_s_icmp_ge (tg := 38) (off := 27) ab_dk146_0.2.2.2.2.2.2.2.1 (by decide)
theorem ab_s146_14 : ab_Sn B 146 14 (ab_o_ild 3 15) := ab_s_iload_n (k := 3) (n := 3) ab_dk146_0.2.2.2.2.2.2.2.2.1 rfl
theorem ab_s146_15 : ab_Sn B 146 15 (ab_o_ald 0 16) := ab_s_aload_n (k := 0) (n := 0) ab_dk146_0.2.2.2.2.2.2.2.2.2.1 rfl
theorem ab_s146_16 : ab_Sn B 146 16 (ab_o_ild 1 17) := ab_s_iload_n (k := 1) (n := 1) ab_dk146_0.2.2.2.2.2.2.2.2.2.2.1 rfl
theorem ab_s146_17 : ab_Sn B 146 17 (ab_o_ild 4 19) := ab_s_iload (k := 4) ab_dk146_0.2.2.2.2.2.2.2.2.2.2.2.1
theorem ab_s146_19 : ab_Sn B 146 19 (ab_o_call (some (8, 22)) [] 111 3 3 true 22) := ab_s_callV (M' := 111) (na := 2) (i := 64) (ci := 4) (N := 22) (C := RX4) (T := TX4) (v := true) (ab_hok_n (by decide +kernel)) (by decide +kernel) ab_dk146_0.2.2.2.2.2.2.2.2.2.2.2.2.1 rfl (by decide) (by decide +kernel) (by decide +kernel) (by decide) wf_478 wf_479 wf_480 wf_481 wf_459
theorem ab_s146_22 : ab_Sn B 146 22 (ab_o_if ab_eq 29 25) := ab_s_if_eq (tg := 29) (off := 7) ab_dk146_0.2.2.2.2.2.2.2.2.2.2.2.2.2.1 (by decide)
theorem ab_s146_25 : ab_Sn B 146 25 (ab_o_const 1 26) := ab_s_iconst (n := 1) ab_dk146_0.2.2.2.2.2.2.2.2.2.2.2.2.2.2.1 rfl
theorem ab_s146_26 : ab_Sn B 146 26 (ab_o_goto 30) := ab_s_goto (tg := 30) (off := 4) ab_dk146_0.2.2.2.2.2.2.2.2.2.2.2.2.2.2.2.1 (by decide)
theorem ab_s146_29 : ab_Sn B 146 29 (ab_o_const 0 30) := ab_s_iconst (n := 0) ab_dk146_1.1 rfl
theorem ab_s146_30 : ab_Sn B 146 30 (ab_o_bin (fun a b => a + b) 31) := ab_s_iadd ab_dk146_1.2.1
theorem ab_s146_31 : ab_Sn B 146 31 (ab_o_ist 3 32) := ab_s_istore_n (k := 3) (n := 3) ab_dk146_1.2.2.1 rfl
theorem ab_s146_32 : ab_Sn B 146 32 (ab_o_inc 4 1 35) := ab_s_iinc (k := 4) (n := 1) ab_dk146_1.2.2.2.1
theorem ab_s146_35 : ab_Sn B 146 35 (ab_o_goto 5) := ab_s_goto (tg := 5) (off := -30) ab_dk146_1.2.2.2.2.1 (by decide)
theorem ab_s146_38 : ab_Sn B 146 38 (ab_o_ald 0 39) := ab_s_aload_n (k := 0) (n := 0) ab_dk146_1.2.2.2.2.2.1 rfl
theorem ab_s146_39 : ab_Sn B 146 39 (ab_o_call (some (8, 22)) [] 137 1 1 true 42) := ab_s_callV (M' := 137) (na := 0) (i := 183) (ci := 4) (N := 22) (C := RX4) (T := TX4) (v := true) (ab_hok_n (by decide +kernel)) (by decide +kernel) ab_dk146_1.2.2.2.2.2.2.1 rfl (by decide) (by decide +kernel) (by decide +kernel) (by decide) wf_583 wf_584 wf_585 wf_586 wf_459
theorem ab_s146_42 : ab_Sn B 146 42 (ab_o_ast 4 44) := ab_s_astore (k := 4) ab_dk146_1.2.2.2.2.2.2.2.1
theorem ab_s146_44 : ab_Sn B 146 44 (ab_o_const (-1) 45) := ab_s_iconst (n := (-1)) ab_dk146_1.2.2.2.2.2.2.2.2.1 rfl
theorem ab_s146_45 : ab_Sn B 146 45 (ab_o_ist 5 47) := ab_s_istore (k := 5) ab_dk146_1.2.2.2.2.2.2.2.2.2.1
theorem ab_s146_47 : ab_Sn B 146 47 (ab_o_const 0 48) := ab_s_iconst (n := 0) ab_dk146_1.2.2.2.2.2.2.2.2.2.2.1 rfl
theorem ab_s146_48 : ab_Sn B 146 48 (ab_o_ist 6 50) := ab_s_istore (k := 6) ab_dk146_1.2.2.2.2.2.2.2.2.2.2.2.1
theorem ab_s146_50 : ab_Sn B 146 50 (ab_o_ald 4 52) := ab_s_aload (k := 4) ab_dk146_1.2.2.2.2.2.2.2.2.2.2.2.2.1
theorem ab_s146_52 : ab_Sn B 146 52 (ab_o_ifn true 90 55) := ab_s_ifnull (tg := 90) (off := 38) ab_dk146_1.2.2.2.2.2.2.2.2.2.2.2.2.2.1 (by decide)
theorem ab_s146_55 : ab_Sn B 146 55 (ab_o_ild 6 57) := ab_s_iload (k := 6) ab_dk146_1.2.2.2.2.2.2.2.2.2.2.2.2.2.2.1
theorem ab_s146_57 : ab_Sn B 146 57 (ab_o_ald 0 58) := ab_s_aload_n (k := 0) (n := 0) ab_dk146_1.2.2.2.2.2.2.2.2.2.2.2.2.2.2.2.1 rfl
theorem ab_s146_58 : ab_Sn B 146 58 (ab_o_geti 8 22 1 61) := ab_s_geti (i := 43) (ci := 4) (N := 22) (k := 1) (C := RX4) (T := TX4) ab_dk146_2.1 rfl (by decide) rfl wf_461
theorem ab_s146_61 : ab_Sn B 146 61 (ab_o_icmp ab_ge 90 64) := ab_s_icmp_ge (tg := 90) (off := 29) ab_dk146_2.2.1 (by decide)
theorem ab_s146_64 : ab_Sn B 146 64 (ab_o_ald 4 66) := ab_s_aload (k := 4) ab_dk146_2.2.2.1
theorem ab_s146_66 : ab_Sn B 146 66 (ab_o_const 1 67) := ab_s_iconst (n := 1) ab_dk146_2.2.2.2.1 rfl
theorem ab_s146_67 : ab_Sn B 146 67 (ab_o_aald 68) := ab_s_aald ab_dk146_2.2.2.2.2.1
theorem ab_s146_68 : ab_Sn B 146 68 (ab_o_ild 6 70) := ab_s_iload (k := 6) ab_dk146_2.2.2.2.2.2.1
theorem ab_s146_70 : ab_Sn B 146 70 (ab_o_xld 0 71) := ab_s_iaload ab_dk146_2.2.2.2.2.2.2.1
theorem ab_s146_71 : ab_Sn B 146 71 (ab_o_ild 1 72) := ab_s_iload_n (k := 1) (n := 1) ab_dk146_2.2.2.2.2.2.2.2.1 rfl
theorem ab_s146_72 : ab_Sn B 146 72 (ab_o_icmp ab_ne 80 75) := ab_s_icmp_ne (tg := 80) (off := 8) ab_dk146_2.2.2.2.2.2.2.2.2.1 (by decide)
theorem ab_s146_75 : ab_Sn B 146 75 (ab_o_ild 6 77) := ab_s_iload (k := 6) ab_dk146_2.2.2.2.2.2.2.2.2.2.1
theorem ab_s146_77 : ab_Sn B 146 77 (ab_o_goto 82) := ab_s_goto (tg := 82) (off := 5) ab_dk146_2.2.2.2.2.2.2.2.2.2.2.1 (by decide)
theorem ab_s146_80 : ab_Sn B 146 80 (ab_o_ild 5 82) := ab_s_iload (k := 5) ab_dk146_2.2.2.2.2.2.2.2.2.2.2.2.1
theorem ab_s146_82 : ab_Sn B 146 82 (ab_o_ist 5 84) := ab_s_istore (k := 5) ab_dk146_2.2.2.2.2.2.2.2.2.2.2.2.2.1
theorem ab_s146_84 : ab_Sn B 146 84 (ab_o_inc 6 1 87) := ab_s_iinc (k := 6) (n := 1) ab_dk146_2.2.2.2.2.2.2.2.2.2.2.2.2.2.1
theorem ab_s146_87 : ab_Sn B 146 87 (ab_o_goto 50) := ab_s_goto (tg := 50) (off := -37) ab_dk146_2.2.2.2.2.2.2.2.2.2.2.2.2.2.2.1 (by decide)
theorem ab_s146_90 : ab_Sn B 146 90 (ab_o_const 8 92) := ab_s_bipush (n := 8) ab_dk146_2.2.2.2.2.2.2.2.2.2.2.2.2.2.2.2.1 (by decide)
theorem ab_s146_92 : ab_Sn B 146 92 (ab_o_newa 0 94) := ab_s_newa0 ab_dk146_3.1 wf_3
theorem ab_s146_94 : ab_Sn B 146 94 (ab_o_dup 95) := ab_s_dup ab_dk146_3.2.1
theorem ab_s146_95 : ab_Sn B 146 95 (ab_o_const 0 96) := ab_s_iconst (n := 0) ab_dk146_3.2.2.1 rfl
theorem ab_s146_96 : ab_Sn B 146 96 (ab_o_ald 0 97) := ab_s_aload_n (k := 0) (n := 0) ab_dk146_3.2.2.2.1 rfl
theorem ab_s146_97 : ab_Sn B 146 97 (ab_o_getr 8 22 6 100) := ab_s_getr (i := 17) (ci := 4) (N := 22) (k := 6) (C := RX4) (T := TX4) ab_dk146_3.2.2.2.2.1 rfl (by decide) rfl wf_449
theorem ab_s146_100 : ab_Sn B 146 100 (ab_o_ild 1 101) := ab_s_iload_n (k := 1) (n := 1) ab_dk146_3.2.2.2.2.2.1 rfl
theorem ab_s146_101 : ab_Sn B 146 101 (ab_o_xld 1 102) := ab_s_baload ab_dk146_3.2.2.2.2.2.2.1
theorem ab_s146_102 : ab_Sn B 146 102 (ab_o_if ab_eq 109 105) := ab_s_if_eq (tg := 109) (off := 7) ab_dk146_3.2.2.2.2.2.2.2.1 (by decide)
theorem ab_s146_105 : ab_Sn B 146 105 (ab_o_const 1 106) := ab_s_iconst (n := 1) ab_dk146_3.2.2.2.2.2.2.2.2.1 rfl
theorem ab_s146_106 : ab_Sn B 146 106 (ab_o_goto 110) := ab_s_goto (tg := 110) (off := 4) ab_dk146_3.2.2.2.2.2.2.2.2.2.1 (by decide)
theorem ab_s146_109 : ab_Sn B 146 109 (ab_o_const 0 110) := ab_s_iconst (n := 0) ab_dk146_3.2.2.2.2.2.2.2.2.2.2.1 rfl
theorem ab_s146_110 : ab_Sn B 146 110 (ab_o_xst 0 111) := ab_s_iastore ab_dk146_3.2.2.2.2.2.2.2.2.2.2.2.1
theorem ab_s146_111 : ab_Sn B 146 111 (ab_o_dup 112) := ab_s_dup ab_dk146_3.2.2.2.2.2.2.2.2.2.2.2.2.1
theorem ab_s146_112 : ab_Sn B 146 112 (ab_o_const 1 113) := ab_s_iconst (n := 1) ab_dk146_3.2.2.2.2.2.2.2.2.2.2.2.2.2.1 rfl
theorem ab_s146_113 : ab_Sn B 146 113 (ab_o_ild 3 114) := ab_s_iload_n (k := 3) (n := 3) ab_dk146_3.2.2.2.2.2.2.2.2.2.2.2.2.2.2.1 rfl
theorem ab_s146_114 : ab_Sn B 146 114 (ab_o_xst 0 115) := ab_s_iastore ab_dk146_3.2.2.2.2.2.2.2.2.2.2.2.2.2.2.2.1
theorem ab_s146_115 : ab_Sn B 146 115 (ab_o_dup 116) := ab_s_dup ab_dk146_4.1
theorem ab_s146_116 : ab_Sn B 146 116 (ab_o_const 2 117) := ab_s_iconst (n := 2) ab_dk146_4.2.1 rfl
theorem ab_s146_117 : ab_Sn B 146 117 (ab_o_ald 0 118) := ab_s_aload_n (k := 0) (n := 0) ab_dk146_4.2.2.1 rfl
theorem ab_s146_118 : ab_Sn B 146 118 (ab_o_getr 8 22 7 121) := ab_s_getr (i := 21) (ci := 4) (N := 22) (k := 7) (C := RX4) (T := TX4) ab_dk146_4.2.2.2.1 rfl (by decide) rfl wf_450
theorem ab_s146_121 : ab_Sn B 146 121 (ab_o_ild 1 122) := ab_s_iload_n (k := 1) (n := 1) ab_dk146_4.2.2.2.2.1 rfl
theorem ab_s146_122 : ab_Sn B 146 122 (ab_o_xld 0 123) := ab_s_iaload ab_dk146_4.2.2.2.2.2.1
theorem ab_s146_123 : ab_Sn B 146 123 (ab_o_xst 0 124) := ab_s_iastore ab_dk146_4.2.2.2.2.2.2.1
theorem ab_s146_124 : ab_Sn B 146 124 (ab_o_dup 125) := ab_s_dup ab_dk146_4.2.2.2.2.2.2.2.1
theorem ab_s146_125 : ab_Sn B 146 125 (ab_o_const 3 126) := ab_s_iconst (n := 3) ab_dk146_4.2.2.2.2.2.2.2.2.1 rfl
theorem ab_s146_126 : ab_Sn B 146 126 (ab_o_ald 0 127) := ab_s_aload_n (k := 0) (n := 0) ab_dk146_4.2.2.2.2.2.2.2.2.2.1 rfl
theorem ab_s146_127 : ab_Sn B 146 127 (ab_o_getr 8 22 21 130) := ab_s_getr (i := 33) (ci := 4) (N := 22) (k := 21) (C := RX4) (T := TX4) ab_dk146_4.2.2.2.2.2.2.2.2.2.2.1 rfl (by decide) rfl wf_454
theorem ab_s146_130 : ab_Sn B 146 130 (ab_o_ild 1 131) := ab_s_iload_n (k := 1) (n := 1) ab_dk146_4.2.2.2.2.2.2.2.2.2.2.2.1 rfl
theorem ab_s146_131 : ab_Sn B 146 131 (ab_o_aald 132) := ab_s_aald ab_dk146_4.2.2.2.2.2.2.2.2.2.2.2.2.1
theorem ab_s146_132 : ab_Sn B 146 132 (ab_o_const 0 133) := ab_s_iconst (n := 0) ab_dk146_4.2.2.2.2.2.2.2.2.2.2.2.2.2.1 rfl
theorem ab_s146_133 : ab_Sn B 146 133 (ab_o_xld 0 134) := ab_s_iaload ab_dk146_4.2.2.2.2.2.2.2.2.2.2.2.2.2.2.1
theorem ab_s146_134 : ab_Sn B 146 134 (ab_o_xst 0 135) := ab_s_iastore ab_dk146_4.2.2.2.2.2.2.2.2.2.2.2.2.2.2.2.1
theorem ab_s146_135 : ab_Sn B 146 135 (ab_o_dup 136) := ab_s_dup ab_dk146_5.1
theorem ab_s146_136 : ab_Sn B 146 136 (ab_o_const 4 137) := ab_s_iconst (n := 4) ab_dk146_5.2.1 rfl
theorem ab_s146_137 : ab_Sn B 146 137 (ab_o_ald 0 138) := ab_s_aload_n (k := 0) (n := 0) ab_dk146_5.2.2.1 rfl
theorem ab_s146_138 : ab_Sn B 146 138 (ab_o_getr 8 22 21 141) := ab_s_getr (i := 33) (ci := 4) (N := 22) (k := 21) (C := RX4) (T := TX4) ab_dk146_5.2.2.2.1 rfl (by decide) rfl wf_454
theorem ab_s146_141 : ab_Sn B 146 141 (ab_o_ild 1 142) := ab_s_iload_n (k := 1) (n := 1) ab_dk146_5.2.2.2.2.1 rfl
theorem ab_s146_142 : ab_Sn B 146 142 (ab_o_aald 143) := ab_s_aald ab_dk146_5.2.2.2.2.2.1
theorem ab_s146_143 : ab_Sn B 146 143 (ab_o_const 1 144) := ab_s_iconst (n := 1) ab_dk146_5.2.2.2.2.2.2.1 rfl
theorem ab_s146_144 : ab_Sn B 146 144 (ab_o_xld 0 145) := ab_s_iaload ab_dk146_5.2.2.2.2.2.2.2.1
theorem ab_s146_145 : ab_Sn B 146 145 (ab_o_xst 0 146) := ab_s_iastore ab_dk146_5.2.2.2.2.2.2.2.2.1
theorem ab_s146_146 : ab_Sn B 146 146 (ab_o_dup 147) := ab_s_dup ab_dk146_5.2.2.2.2.2.2.2.2.2.1
theorem ab_s146_147 : ab_Sn B 146 147 (ab_o_const 5 148) := ab_s_iconst (n := 5) ab_dk146_5.2.2.2.2.2.2.2.2.2.2.1 rfl
theorem ab_s146_148 : ab_Sn B 146 148 (ab_o_ald 0 149) := ab_s_aload_n (k := 0) (n := 0) ab_dk146_5.2.2.2.2.2.2.2.2.2.2.2.1 rfl
theorem ab_s146_149 : ab_Sn B 146 149 (ab_o_getr 8 22 21 152) := ab_s_getr (i := 33) (ci := 4) (N := 22) (k := 21) (C := RX4) (T := TX4) ab_dk146_5.2.2.2.2.2.2.2.2.2.2.2.2.1 rfl (by decide) rfl wf_454
theorem ab_s146_152 : ab_Sn B 146 152 (ab_o_ild 1 153) := ab_s_iload_n (k := 1) (n := 1) ab_dk146_5.2.2.2.2.2.2.2.2.2.2.2.2.2.1 rfl
theorem ab_s146_153 : ab_Sn B 146 153 (ab_o_aald 154) := ab_s_aald ab_dk146_5.2.2.2.2.2.2.2.2.2.2.2.2.2.2.1
theorem ab_s146_154 : ab_Sn B 146 154 (ab_o_const 2 155) := ab_s_iconst (n := 2) ab_dk146_5.2.2.2.2.2.2.2.2.2.2.2.2.2.2.2.1 rfl
theorem ab_s146_155 : ab_Sn B 146 155 (ab_o_xld 0 156) := ab_s_iaload ab_dk146_6.1
theorem ab_s146_156 : ab_Sn B 146 156 (ab_o_xst 0 157) := ab_s_iastore ab_dk146_6.2.1
theorem ab_s146_157 : ab_Sn B 146 157 (ab_o_dup 158) := ab_s_dup ab_dk146_6.2.2.1
theorem ab_s146_158 : ab_Sn B 146 158 (ab_o_const 6 160) := ab_s_bipush (n := 6) ab_dk146_6.2.2.2.1 (by decide)
theorem ab_s146_160 : ab_Sn B 146 160 (ab_o_ald 4 162) := ab_s_aload (k := 4) ab_dk146_6.2.2.2.2.1
theorem ab_s146_162 : ab_Sn B 146 162 (ab_o_ifn false 169 165) := ab_s_ifnonnull (tg := 169) (off := 7) ab_dk146_6.2.2.2.2.2.1 (by decide)
theorem ab_s146_165 : ab_Sn B 146 165 (ab_o_const (-1) 166) := ab_s_iconst (n := (-1)) ab_dk146_6.2.2.2.2.2.2.1 rfl
theorem ab_s146_166 : ab_Sn B 146 166 (ab_o_goto 175) := ab_s_goto (tg := 175) (off := 9) ab_dk146_6.2.2.2.2.2.2.2.1 (by decide)
theorem ab_s146_169 : ab_Sn B 146 169 (ab_o_ald 4 171) := ab_s_aload (k := 4) ab_dk146_6.2.2.2.2.2.2.2.2.1
theorem ab_s146_171 : ab_Sn B 146 171 (ab_o_const 0 172) := ab_s_iconst (n := 0) ab_dk146_6.2.2.2.2.2.2.2.2.2.1 rfl
theorem ab_s146_172 : ab_Sn B 146 172 (ab_o_aald 173) := ab_s_aald ab_dk146_6.2.2.2.2.2.2.2.2.2.2.1
theorem ab_s146_173 : ab_Sn B 146 173 (ab_o_ild 1 174) := ab_s_iload_n (k := 1) (n := 1) ab_dk146_6.2.2.2.2.2.2.2.2.2.2.2.1 rfl
theorem ab_s146_174 : ab_Sn B 146 174 (ab_o_xld 0 175) := ab_s_iaload ab_dk146_6.2.2.2.2.2.2.2.2.2.2.2.2.1
theorem ab_s146_175 : ab_Sn B 146 175 (ab_o_xst 0 176) := ab_s_iastore ab_dk146_6.2.2.2.2.2.2.2.2.2.2.2.2.2.1
theorem ab_s146_176 : ab_Sn B 146 176 (ab_o_dup 177) := ab_s_dup ab_dk146_6.2.2.2.2.2.2.2.2.2.2.2.2.2.2.1
theorem ab_s146_177 : ab_Sn B 146 177 (ab_o_const 7 179) := ab_s_bipush (n := 7) ab_dk146_6.2.2.2.2.2.2.2.2.2.2.2.2.2.2.2.1 (by decide)
theorem ab_s146_179 : ab_Sn B 146 179 (ab_o_ild 5 181) := ab_s_iload (k := 5) ab_dk146_7.1
theorem ab_s146_181 : ab_Sn B 146 181 (ab_o_xst 0 182) := ab_s_iastore ab_dk146_7.2.1
theorem ab_s146_182 : ab_Sn B 146 182 (ab_o_ast 6 184) := ab_s_astore (k := 6) ab_dk146_7.2.2.1
theorem ab_s146_184 : ab_Sn B 146 184 (ab_o_ald 6 186) := ab_s_aload (k := 6) ab_dk146_7.2.2.2.1
theorem ab_s146_186 : ab_Sn B 146 186 (ab_o_ild 2 187) := ab_s_iload_n (k := 2) (n := 2) ab_dk146_7.2.2.2.2.1 rfl
theorem ab_s146_187 : ab_Sn B 146 187 (ab_o_xld 0 188) := ab_s_iaload ab_dk146_7.2.2.2.2.2.1
theorem ab_s146_188 : ab_Sn B 146 188 (ab_o_iret false) := ab_s_iret (b := false) (ty := .int) ab_dk146_7.2.2.2.2.2.2.1 rfl (Or.inl ⟨rfl, rfl⟩)
theorem ab_sc146_2 : ab_all B 146 128 (ab_d146_2) := ⟨trivial, trivial, ab_s146_130, ab_s146_131, ab_s146_132, ab_s146_133, ab_s146_134, ab_s146_135, ab_s146_136, ab_s146_137, ab_s146_138, trivial, trivial, ab_s146_141, ab_s146_142, ab_s146_143, ab_s146_144, ab_s146_145, ab_s146_146, ab_s146_147, ab_s146_148, ab_s146_149, trivial, trivial, ab_s146_152, ab_s146_153, ab_s146_154, ab_s146_155, ab_s146_156, ab_s146_157, ab_s146_158, trivial, ab_s146_160, trivial, ab_s146_162, trivial, trivial, ab_s146_165, ab_s146_166, trivial, trivial, ab_s146_169, trivial, ab_s146_171, ab_s146_172, ab_s146_173, ab_s146_174, ab_s146_175, ab_s146_176, ab_s146_177, trivial, ab_s146_179, trivial, ab_s146_181, ab_s146_182, trivial, ab_s146_184, trivial, ab_s146_186, ab_s146_187, ab_s146_188, trivial⟩
theorem ab_sc146_1 : ab_all B 146 64 (ab_d146_1) := ⟨ab_s146_64, trivial, ab_s146_66, ab_s146_67, ab_s146_68, trivial, ab_s146_70, ab_s146_71, ab_s146_72, trivial, trivial, ab_s146_75, trivial, ab_s146_77, trivial, trivial, ab_s146_80, trivial, ab_s146_82, trivial, ab_s146_84, trivial, trivial, ab_s146_87, trivial, trivial, ab_s146_90, trivial, ab_s146_92, trivial, ab_s146_94, ab_s146_95, ab_s146_96, ab_s146_97, trivial, trivial, ab_s146_100, ab_s146_101, ab_s146_102, trivial, trivial, ab_s146_105, ab_s146_106, trivial, trivial, ab_s146_109, ab_s146_110, ab_s146_111, ab_s146_112, ab_s146_113, ab_s146_114, ab_s146_115, ab_s146_116, ab_s146_117, ab_s146_118, trivial, trivial, ab_s146_121, ab_s146_122, ab_s146_123, ab_s146_124, ab_s146_125, ab_s146_126, ab_s146_127, ab_sc146_2⟩
theorem ab_sc146_0 : ab_all B 146 0 (ab_d146_0) := ⟨ab_s146_0, ab_s146_1, ab_s146_2, ab_s146_3, trivial, ab_s146_5, trivial, ab_s146_7, ab_s146_8, trivial, trivial, ab_s146_11, trivial, trivial, ab_s146_14, ab_s146_15, ab_s146_16, ab_s146_17, trivial, ab_s146_19, trivial, trivial, ab_s146_22, trivial, trivial, ab_s146_25, ab_s146_26, trivial, trivial, ab_s146_29, ab_s146_30, ab_s146_31, ab_s146_32, trivial, trivial, ab_s146_35, trivial, trivial, ab_s146_38, ab_s146_39, trivial, trivial, ab_s146_42, trivial, ab_s146_44, ab_s146_45, trivial, ab_s146_47, ab_s146_48, trivial, ab_s146_50, trivial, ab_s146_52, trivial, trivial, ab_s146_55, trivial, ab_s146_57, ab_s146_58, trivial, trivial, ab_s146_61, trivial, trivial, ab_sc146_1⟩
theorem ab_sn146 : ab_all B 146 0 (ab_c146) := by rw [ab_cd146]; exact ab_sc146_0
theorem ab_dk147_0 : ab_dp 147 [(0, .aload_n 0, 1), (1, .aload_n 0, 1), (2, .iload_n 1, 1), (3, .invokevirtual 133, 3), (6, .iconst 1, 1), (7, .invokevirtual 105, 3), (10, .ifCond .ne 26, 3), (13, .aload_n 0, 1), (14, .iload_n 2, 1), (15, .iconst 0, 1), (16, .bipush 7, 2), (18, .invokestatic 46, 3), (21, .ifCond .ne 7, 3), (24, .iconst 1, 1), (25, .goto 4, 3), (28, .iconst 0, 1)] := ab_da (by decide +kernel)
theorem ab_dk147_1 : ab_dp 147 [(29, .iconst 2, 1), (30, .invokevirtual 39, 3), (33, .ifCond .eq 7, 3), (36, .iconst 0, 1), (37, .goto 9, 3), (40, .aload_n 0, 1), (41, .iload_n 1, 1), (42, .iload_n 2, 1), (43, .invokevirtual 196, 3), (46, .ireturn, 1)] := ab_da (by decide +kernel)
theorem ab_s147_0 : ab_Sn B 147 0 (ab_o_ald 0 1) := ab_s_aload_n (k := 0) (n := 0) ab_dk147_0.1 rfl
theorem ab_s147_1 : ab_Sn B 147 1 (ab_o_ald 0 2) := ab_s_aload_n (k := 0) (n := 0) ab_dk147_0.2.1 rfl
theorem ab_s147_2 : ab_Sn B 147 2 (ab_o_ild 1 3) := ab_s_iload_n (k := 1) (n := 1) ab_dk147_0.2.2.1 rfl
theorem ab_s147_3 : ab_Sn B 147 3 (ab_o_call (some (8, 22)) [] 103 2 2 true 6) := ab_s_callV (M' := 103) (na := 1) (i := 133) (ci := 4) (N := 22) (C := RX4) (T := TX4) (v := true) (ab_hok_n (by decide +kernel)) (by decide +kernel) ab_dk147_0.2.2.2.1 rfl (by decide) (by decide +kernel) (by decide +kernel) (by decide) wf_535 wf_536 wf_537 wf_538 wf_459
theorem ab_s147_6 : ab_Sn B 147 6 (ab_o_const 1 7) := ab_s_iconst (n := 1) ab_dk147_0.2.2.2.2.1 rfl
theorem ab_s147_7 : ab_Sn B 147 7 (ab_o_call (some (8, 22)) [] 102 3 3 true 10) := ab_s_callV (M' := 102) (na := 2) (i := 105) (ci := 4) (N := 22) (C := RX4) (T := TX4) (v := true) (ab_hok_n (by decide +kernel)) (by decide +kernel) ab_dk147_0.2.2.2.2.2.1 rfl (by decide) (by decide +kernel) (by decide +kernel) (by decide) wf_514 wf_515 wf_516 wf_517 wf_459
theorem ab_s147_10 : ab_Sn B 147 10 (ab_o_if ab_ne 36 13) := ab_s_if_ne (tg := 36) (off := 26) ab_dk147_0.2.2.2.2.2.2.1 (by decide)
theorem ab_s147_13 : ab_Sn B 147 13 (ab_o_ald 0 14) := ab_s_aload_n (k := 0) (n := 0) ab_dk147_0.2.2.2.2.2.2.2.1 rfl
theorem ab_s147_14 : ab_Sn B 147 14 (ab_o_ild 2 15) := ab_s_iload_n (k := 2) (n := 2) ab_dk147_0.2.2.2.2.2.2.2.2.1 rfl
theorem ab_s147_15 : ab_Sn B 147 15 (ab_o_const 0 16) := ab_s_iconst (n := 0) ab_dk147_0.2.2.2.2.2.2.2.2.2.1 rfl
theorem ab_s147_16 : ab_Sn B 147 16 (ab_o_const 7 18) := ab_s_bipush (n := 7) ab_dk147_0.2.2.2.2.2.2.2.2.2.2.1 (by decide)
theorem ab_s147_18 : ab_Sn B 147 18 (ab_o_call none [] 100 3 3 true 21) := ab_s_callS (M' := 100) (na := 3) (i := 46) (v := true) (ab_hok_n (by decide +kernel)) (by decide +kernel) ab_dk147_0.2.2.2.2.2.2.2.2.2.2.2.1 (by decide +kernel) (by decide +kernel) (by decide) wf_462 wf_463 wf_464 wf_459
theorem ab_s147_21 : ab_Sn B 147 21 (ab_o_if ab_ne 28 24) := ab_s_if_ne (tg := 28) (off := 7) ab_dk147_0.2.2.2.2.2.2.2.2.2.2.2.2.1 (by decide)
theorem ab_s147_24 : ab_Sn B 147 24 (ab_o_const 1 25) := ab_s_iconst (n := 1) ab_dk147_0.2.2.2.2.2.2.2.2.2.2.2.2.2.1 rfl
theorem ab_s147_25 : ab_Sn B 147 25 (ab_o_goto 29) := ab_s_goto (tg := 29) (off := 4) ab_dk147_0.2.2.2.2.2.2.2.2.2.2.2.2.2.2.1 (by decide)
theorem ab_s147_28 : ab_Sn B 147 28 (ab_o_const 0 29) := ab_s_iconst (n := 0) ab_dk147_0.2.2.2.2.2.2.2.2.2.2.2.2.2.2.2.1 rfl
theorem ab_s147_29 : ab_Sn B 147 29 (ab_o_const 2 30) := ab_s_iconst (n := 2) ab_dk147_1.1 rfl
theorem ab_s147_30 : ab_Sn B 147 30 (ab_o_call (some (8, 22)) [] 101 3 3 true 33) := ab_s_callV (M' := 101) (na := 2) (i := 39) (ci := 4) (N := 22) (C := RX4) (T := TX4) (v := true) (ab_hok_n (by decide +kernel)) (by decide +kernel) ab_dk147_1.2.1 rfl (by decide) (by decide +kernel) (by decide +kernel) (by decide) wf_456 wf_457 wf_458 wf_460 wf_459
theorem ab_s147_33 : ab_Sn B 147 33 (ab_o_if ab_eq 40 36) := ab_s_if_eq (tg := 40) (off := 7) ab_dk147_1.2.2.1 (by decide)
theorem ab_s147_36 : ab_Sn B 147 36 (ab_o_const 0 37) := ab_s_iconst (n := 0) ab_dk147_1.2.2.2.1 rfl
theorem ab_s147_37 : ab_Sn B 147 37 (ab_o_goto 46) := ab_s_goto (tg := 46) (off := 9) ab_dk147_1.2.2.2.2.1 (by decide)
theorem ab_s147_40 : ab_Sn B 147 40 (ab_o_ald 0 41) := ab_s_aload_n (k := 0) (n := 0) ab_dk147_1.2.2.2.2.2.1 rfl
theorem ab_s147_41 : ab_Sn B 147 41 (ab_o_ild 1 42) := ab_s_iload_n (k := 1) (n := 1) ab_dk147_1.2.2.2.2.2.2.1 rfl
theorem ab_s147_42 : ab_Sn B 147 42 (ab_o_ild 2 43) := ab_s_iload_n (k := 2) (n := 2) ab_dk147_1.2.2.2.2.2.2.2.1 rfl
theorem ab_s147_43 : ab_Sn B 147 43 (ab_o_call (some (8, 22)) [] 146 7 3 true 46) := ab_s_callV (M' := 146) (na := 2) (i := 196) (ci := 4) (N := 22) (C := RX4) (T := TX4) (v := true) (ab_hok_n (by decide +kernel)) (by decide +kernel) ab_dk147_1.2.2.2.2.2.2.2.2.1 rfl (by decide) (by decide +kernel) (by decide +kernel) (by decide) wf_599 wf_600 wf_601 wf_602 wf_459
theorem ab_s147_46 : ab_Sn B 147 46 (ab_o_iret false) := ab_s_iret (b := false) (ty := .int) ab_dk147_1.2.2.2.2.2.2.2.2.2.1 rfl (Or.inl ⟨rfl, rfl⟩)
set_option maxRecDepth 20000 in
theorem ab_sn147 : ab_all B 147 0 (ab_c147) := ⟨ab_s147_0, ab_s147_1, ab_s147_2, ab_s147_3, trivial, trivial, ab_s147_6, ab_s147_7, trivial, trivial, ab_s147_10, trivial, trivial, ab_s147_13, ab_s147_14, ab_s147_15, ab_s147_16, trivial, ab_s147_18, trivial, trivial, ab_s147_21, trivial, trivial, ab_s147_24, ab_s147_25, trivial, trivial, ab_s147_28, ab_s147_29, ab_s147_30, trivial, trivial, ab_s147_33, trivial, trivial, ab_s147_36, ab_s147_37, trivial, trivial, ab_s147_40, ab_s147_41, ab_s147_42, ab_s147_43, trivial, trivial, ab_s147_46, trivial⟩
theorem ab_dk148_0 : ab_dp 148 [(0, .iconst 4, 1), (1, .newarray .int, 2), (3, .dup, 1), (4, .iconst 0, 1), (5, .aload_n 0, 1), (6, .iload_n 1, 1), (7, .invokevirtual 82, 3), (10, .iastore, 1), (11, .dup, 1), (12, .iconst 1, 1), (13, .aload_n 0, 1), (14, .iload_n 1, 1), (15, .invokevirtual 57, 3), (18, .iastore, 1), (19, .dup, 1), (20, .iconst 2, 1)] := ab_da (by decide +kernel)
theorem ab_dk148_1 : ab_dp 148 [(21, .aload_n 0, 1), (22, .iload_n 1, 1), (23, .invokevirtual 88, 3), (26, .iconst (-1), 1), (27, .if_icmp .ne 7, 3), (30, .iconst 1, 1), (31, .goto 4, 3), (34, .iconst 0, 1), (35, .iastore, 1), (36, .dup, 1), (37, .iconst 3, 1), (38, .aload_n 0, 1), (39, .iload_n 1, 1), (40, .invokevirtual 88, 3), (43, .iastore, 1), (44, .astore_n 3, 1)] := ab_da (by decide +kernel)
theorem ab_dk148_2 : ab_dp 148 [(45, .aload_n 3, 1), (46, .iload_n 2, 1), (47, .iaload, 1), (48, .ireturn, 1)] := ab_da (by decide +kernel)
theorem ab_s148_0 : ab_Sn B 148 0 (ab_o_const 4 1) := ab_s_iconst (n := 4) ab_dk148_0.1 rfl
theorem ab_s148_1 : ab_Sn B 148 1 (ab_o_newa 0 3) := ab_s_newa0 ab_dk148_0.2.1 wf_3
theorem ab_s148_3 : ab_Sn B 148 3 (ab_o_dup 4) := ab_s_dup ab_dk148_0.2.2.1
theorem ab_s148_4 : ab_Sn B 148 4 (ab_o_const 0 5) := ab_s_iconst (n := 0) ab_dk148_0.2.2.2.1 rfl
theorem ab_s148_5 : ab_Sn B 148 5 (ab_o_ald 0 6) := ab_s_aload_n (k := 0) (n := 0) ab_dk148_0.2.2.2.2.1 rfl
theorem ab_s148_6 : ab_Sn B 148 6 (ab_o_ild 1 7) := ab_s_iload_n (k := 1) (n := 1) ab_dk148_0.2.2.2.2.2.1 rfl
theorem ab_s148_7 : ab_Sn B 148 7 (ab_o_call (some (8, 22)) [] 109 3 2 true 10) := ab_s_callV (M' := 109) (na := 1) (i := 82) (ci := 4) (N := 22) (C := RX4) (T := TX4) (v := true) (ab_hok_n (by decide +kernel)) (by decide +kernel) ab_dk148_0.2.2.2.2.2.2.1 rfl (by decide) (by decide +kernel) (by decide +kernel) (by decide) wf_495 wf_496 wf_497 wf_498 wf_459
theorem ab_s148_10 : ab_Sn B 148 10 (ab_o_xst 0 11) := ab_s_iastore ab_dk148_0.2.2.2.2.2.2.2.1
theorem ab_s148_11 : ab_Sn B 148 11 (ab_o_dup 12) := ab_s_dup ab_dk148_0.2.2.2.2.2.2.2.2.1
theorem ab_s148_12 : ab_Sn B 148 12 (ab_o_const 1 13) := ab_s_iconst (n := 1) ab_dk148_0.2.2.2.2.2.2.2.2.2.1 rfl
theorem ab_s148_13 : ab_Sn B 148 13 (ab_o_ald 0 14) := ab_s_aload_n (k := 0) (n := 0) ab_dk148_0.2.2.2.2.2.2.2.2.2.2.1 rfl
theorem ab_s148_14 : ab_Sn B 148 14 (ab_o_ild 1 15) := ab_s_iload_n (k := 1) (n := 1) ab_dk148_0.2.2.2.2.2.2.2.2.2.2.2.1 rfl
theorem ab_s148_15 : ab_Sn B 148 15 (ab_o_call (some (8, 22)) [] 107 2 2 true 18) := ab_s_callV (M' := 107) (na := 1) (i := 57) (ci := 4) (N := 22) (C := RX4) (T := TX4) (v := true) (ab_hok_n (by decide +kernel)) (by decide +kernel) ab_dk148_0.2.2.2.2.2.2.2.2.2.2.2.2.1 rfl (by decide) (by decide +kernel) (by decide +kernel) (by decide) wf_470 wf_471 wf_472 wf_473 wf_459
theorem ab_s148_18 : ab_Sn B 148 18 (ab_o_xst 0 19) := ab_s_iastore ab_dk148_0.2.2.2.2.2.2.2.2.2.2.2.2.2.1
theorem ab_s148_19 : ab_Sn B 148 19 (ab_o_dup 20) := ab_s_dup ab_dk148_0.2.2.2.2.2.2.2.2.2.2.2.2.2.2.1
theorem ab_s148_20 : ab_Sn B 148 20 (ab_o_const 2 21) := ab_s_iconst (n := 2) ab_dk148_0.2.2.2.2.2.2.2.2.2.2.2.2.2.2.2.1 rfl
theorem ab_s148_21 : ab_Sn B 148 21 (ab_o_ald 0 22) := ab_s_aload_n (k := 0) (n := 0) ab_dk148_1.1 rfl
theorem ab_s148_22 : ab_Sn B 148 22 (ab_o_ild 1 23) := ab_s_iload_n (k := 1) (n := 1) ab_dk148_1.2.1 rfl
theorem ab_s148_23 : ab_Sn B 148 23 (ab_o_call (some (8, 22)) [] 117 2 2 true 26) := ab_s_callV (M' := 117) (na := 1) (i := 88) (ci := 4) (N := 22) (C := RX4) (T := TX4) (v := true) (ab_hok_n (by decide +kernel)) (by decide +kernel) ab_dk148_1.2.2.1 rfl (by decide) (by decide +kernel) (by decide +kernel) (by decide) wf_503 wf_504 wf_505 wf_506 wf_459
theorem ab_s148_26 : ab_Sn B 148 26 (ab_o_const (-1) 27) := ab_s_iconst (n := (-1)) ab_dk148_1.2.2.2.1 rfl
theorem ab_s148_27 : ab_Sn B 148 27 (ab_o_icmp ab_ne 34 30) := ab_s_icmp_ne (tg := 34) (off := 7) ab_dk148_1.2.2.2.2.1 (by decide)
theorem ab_s148_30 : ab_Sn B 148 30 (ab_o_const 1 31) := ab_s_iconst (n := 1) ab_dk148_1.2.2.2.2.2.1 rfl
theorem ab_s148_31 : ab_Sn B 148 31 (ab_o_goto 35) := ab_s_goto (tg := 35) (off := 4) ab_dk148_1.2.2.2.2.2.2.1 (by decide)
theorem ab_s148_34 : ab_Sn B 148 34 (ab_o_const 0 35) := ab_s_iconst (n := 0) ab_dk148_1.2.2.2.2.2.2.2.1 rfl
theorem ab_s148_35 : ab_Sn B 148 35 (ab_o_xst 0 36) := ab_s_iastore ab_dk148_1.2.2.2.2.2.2.2.2.1
theorem ab_s148_36 : ab_Sn B 148 36 (ab_o_dup 37) := ab_s_dup ab_dk148_1.2.2.2.2.2.2.2.2.2.1
theorem ab_s148_37 : ab_Sn B 148 37 (ab_o_const 3 38) := ab_s_iconst (n := 3) ab_dk148_1.2.2.2.2.2.2.2.2.2.2.1 rfl
theorem ab_s148_38 : ab_Sn B 148 38 (ab_o_ald 0 39) := ab_s_aload_n (k := 0) (n := 0) ab_dk148_1.2.2.2.2.2.2.2.2.2.2.2.1 rfl
theorem ab_s148_39 : ab_Sn B 148 39 (ab_o_ild 1 40) := ab_s_iload_n (k := 1) (n := 1) ab_dk148_1.2.2.2.2.2.2.2.2.2.2.2.2.1 rfl
theorem ab_s148_40 : ab_Sn B 148 40 (ab_o_call (some (8, 22)) [] 117 2 2 true 43) := ab_s_callV (M' := 117) (na := 1) (i := 88) (ci := 4) (N := 22) (C := RX4) (T := TX4) (v := true) (ab_hok_n (by decide +kernel)) (by decide +kernel) ab_dk148_1.2.2.2.2.2.2.2.2.2.2.2.2.2.1 rfl (by decide) (by decide +kernel) (by decide +kernel) (by decide) wf_503 wf_504 wf_505 wf_506 wf_459
theorem ab_s148_43 : ab_Sn B 148 43 (ab_o_xst 0 44) := ab_s_iastore ab_dk148_1.2.2.2.2.2.2.2.2.2.2.2.2.2.2.1
theorem ab_s148_44 : ab_Sn B 148 44 (ab_o_ast 3 45) := ab_s_astore_n (k := 3) (n := 3) ab_dk148_1.2.2.2.2.2.2.2.2.2.2.2.2.2.2.2.1 rfl
theorem ab_s148_45 : ab_Sn B 148 45 (ab_o_ald 3 46) := ab_s_aload_n (k := 3) (n := 3) ab_dk148_2.1 rfl
theorem ab_s148_46 : ab_Sn B 148 46 (ab_o_ild 2 47) := ab_s_iload_n (k := 2) (n := 2) ab_dk148_2.2.1 rfl
theorem ab_s148_47 : ab_Sn B 148 47 (ab_o_xld 0 48) := ab_s_iaload ab_dk148_2.2.2.1
theorem ab_s148_48 : ab_Sn B 148 48 (ab_o_iret false) := ab_s_iret (b := false) (ty := .int) ab_dk148_2.2.2.2.1 rfl (Or.inl ⟨rfl, rfl⟩)
set_option maxRecDepth 20000 in
theorem ab_sn148 : ab_all B 148 0 (ab_c148) := ⟨ab_s148_0, ab_s148_1, trivial, ab_s148_3, ab_s148_4, ab_s148_5, ab_s148_6, ab_s148_7, trivial, trivial, ab_s148_10, ab_s148_11, ab_s148_12, ab_s148_13, ab_s148_14, ab_s148_15, trivial, trivial, ab_s148_18, ab_s148_19, ab_s148_20, ab_s148_21, ab_s148_22, ab_s148_23, trivial, trivial, ab_s148_26, ab_s148_27, trivial, trivial, ab_s148_30, ab_s148_31, trivial, trivial, ab_s148_34, ab_s148_35, ab_s148_36, ab_s148_37, ab_s148_38, ab_s148_39, ab_s148_40, trivial, trivial, ab_s148_43, ab_s148_44, ab_s148_45, ab_s148_46, ab_s148_47, ab_s148_48, trivial⟩
theorem ab_dk149_0 : ab_dp 149 [(0, .aload_n 0, 1), (1, .aload_n 0, 1), (2, .iload_n 1, 1), (3, .invokevirtual 123, 3), (6, .iconst 1, 1), (7, .invokevirtual 105, 3), (10, .ifCond .ne 25, 3), (13, .aload_n 0, 1), (14, .iload_n 2, 1), (15, .iconst 0, 1), (16, .iconst 3, 1), (17, .invokestatic 46, 3), (20, .ifCond .ne 7, 3), (23, .iconst 1, 1), (24, .goto 4, 3), (27, .iconst 0, 1)] := ab_da (by decide +kernel)
theorem ab_dk149_1 : ab_dp 149 [(28, .iconst 2, 1), (29, .invokevirtual 39, 3), (32, .ifCond .eq 7, 3), (35, .iconst 0, 1), (36, .goto 9, 3), (39, .aload_n 0, 1), (40, .iload_n 1, 1), (41, .iload_n 2, 1), (42, .invokevirtual 199, 3), (45, .ireturn, 1)] := ab_da (by decide +kernel)
theorem ab_s149_0 : ab_Sn B 149 0 (ab_o_ald 0 1) := ab_s_aload_n (k := 0) (n := 0) ab_dk149_0.1 rfl
theorem ab_s149_1 : ab_Sn B 149 1 (ab_o_ald 0 2) := ab_s_aload_n (k := 0) (n := 0) ab_dk149_0.2.1 rfl
theorem ab_s149_2 : ab_Sn B 149 2 (ab_o_ild 1 3) := ab_s_iload_n (k := 1) (n := 1) ab_dk149_0.2.2.1 rfl
theorem ab_s149_3 : ab_Sn B 149 3 (ab_o_call (some (8, 22)) [] 105 2 2 true 6) := ab_s_callV (M' := 105) (na := 1) (i := 123) (ci := 4) (N := 22) (C := RX4) (T := TX4) (v := true) (ab_hok_n (by decide +kernel)) (by decide +kernel) ab_dk149_0.2.2.2.1 rfl (by decide) (by decide +kernel) (by decide +kernel) (by decide) wf_523 wf_524 wf_525 wf_526 wf_459
theorem ab_s149_6 : ab_Sn B 149 6 (ab_o_const 1 7) := ab_s_iconst (n := 1) ab_dk149_0.2.2.2.2.1 rfl
theorem ab_s149_7 : ab_Sn B 149 7 (ab_o_call (some (8, 22)) [] 102 3 3 true 10) := ab_s_callV (M' := 102) (na := 2) (i := 105) (ci := 4) (N := 22) (C := RX4) (T := TX4) (v := true) (ab_hok_n (by decide +kernel)) (by decide +kernel) ab_dk149_0.2.2.2.2.2.1 rfl (by decide) (by decide +kernel) (by decide +kernel) (by decide) wf_514 wf_515 wf_516 wf_517 wf_459
theorem ab_s149_10 : ab_Sn B 149 10 (ab_o_if ab_ne 35 13) := ab_s_if_ne (tg := 35) (off := 25) ab_dk149_0.2.2.2.2.2.2.1 (by decide)
theorem ab_s149_13 : ab_Sn B 149 13 (ab_o_ald 0 14) := ab_s_aload_n (k := 0) (n := 0) ab_dk149_0.2.2.2.2.2.2.2.1 rfl
theorem ab_s149_14 : ab_Sn B 149 14 (ab_o_ild 2 15) := ab_s_iload_n (k := 2) (n := 2) ab_dk149_0.2.2.2.2.2.2.2.2.1 rfl
theorem ab_s149_15 : ab_Sn B 149 15 (ab_o_const 0 16) := ab_s_iconst (n := 0) ab_dk149_0.2.2.2.2.2.2.2.2.2.1 rfl
theorem ab_s149_16 : ab_Sn B 149 16 (ab_o_const 3 17) := ab_s_iconst (n := 3) ab_dk149_0.2.2.2.2.2.2.2.2.2.2.1 rfl
theorem ab_s149_17 : ab_Sn B 149 17 (ab_o_call none [] 100 3 3 true 20) := ab_s_callS (M' := 100) (na := 3) (i := 46) (v := true) (ab_hok_n (by decide +kernel)) (by decide +kernel) ab_dk149_0.2.2.2.2.2.2.2.2.2.2.2.1 (by decide +kernel) (by decide +kernel) (by decide) wf_462 wf_463 wf_464 wf_459
theorem ab_s149_20 : ab_Sn B 149 20 (ab_o_if ab_ne 27 23) := ab_s_if_ne (tg := 27) (off := 7) ab_dk149_0.2.2.2.2.2.2.2.2.2.2.2.2.1 (by decide)
theorem ab_s149_23 : ab_Sn B 149 23 (ab_o_const 1 24) := ab_s_iconst (n := 1) ab_dk149_0.2.2.2.2.2.2.2.2.2.2.2.2.2.1 rfl
theorem ab_s149_24 : ab_Sn B 149 24 (ab_o_goto 28) := ab_s_goto (tg := 28) (off := 4) ab_dk149_0.2.2.2.2.2.2.2.2.2.2.2.2.2.2.1 (by decide)
theorem ab_s149_27 : ab_Sn B 149 27 (ab_o_const 0 28) := ab_s_iconst (n := 0) ab_dk149_0.2.2.2.2.2.2.2.2.2.2.2.2.2.2.2.1 rfl
theorem ab_s149_28 : ab_Sn B 149 28 (ab_o_const 2 29) := ab_s_iconst (n := 2) ab_dk149_1.1 rfl
theorem ab_s149_29 : ab_Sn B 149 29 (ab_o_call (some (8, 22)) [] 101 3 3 true 32) := ab_s_callV (M' := 101) (na := 2) (i := 39) (ci := 4) (N := 22) (C := RX4) (T := TX4) (v := true) (ab_hok_n (by decide +kernel)) (by decide +kernel) ab_dk149_1.2.1 rfl (by decide) (by decide +kernel) (by decide +kernel) (by decide) wf_456 wf_457 wf_458 wf_460 wf_459
theorem ab_s149_32 : ab_Sn B 149 32 (ab_o_if ab_eq 39 35) := ab_s_if_eq (tg := 39) (off := 7) ab_dk149_1.2.2.1 (by decide)
theorem ab_s149_35 : ab_Sn B 149 35 (ab_o_const 0 36) := ab_s_iconst (n := 0) ab_dk149_1.2.2.2.1 rfl
theorem ab_s149_36 : ab_Sn B 149 36 (ab_o_goto 45) := ab_s_goto (tg := 45) (off := 9) ab_dk149_1.2.2.2.2.1 (by decide)
theorem ab_s149_39 : ab_Sn B 149 39 (ab_o_ald 0 40) := ab_s_aload_n (k := 0) (n := 0) ab_dk149_1.2.2.2.2.2.1 rfl
theorem ab_s149_40 : ab_Sn B 149 40 (ab_o_ild 1 41) := ab_s_iload_n (k := 1) (n := 1) ab_dk149_1.2.2.2.2.2.2.1 rfl
theorem ab_s149_41 : ab_Sn B 149 41 (ab_o_ild 2 42) := ab_s_iload_n (k := 2) (n := 2) ab_dk149_1.2.2.2.2.2.2.2.1 rfl
theorem ab_s149_42 : ab_Sn B 149 42 (ab_o_call (some (8, 22)) [] 148 4 3 true 45) := ab_s_callV (M' := 148) (na := 2) (i := 199) (ci := 4) (N := 22) (C := RX4) (T := TX4) (v := true) (ab_hok_n (by decide +kernel)) (by decide +kernel) ab_dk149_1.2.2.2.2.2.2.2.2.1 rfl (by decide) (by decide +kernel) (by decide +kernel) (by decide) wf_603 wf_604 wf_605 wf_606 wf_459
theorem ab_s149_45 : ab_Sn B 149 45 (ab_o_iret false) := ab_s_iret (b := false) (ty := .int) ab_dk149_1.2.2.2.2.2.2.2.2.2.1 rfl (Or.inl ⟨rfl, rfl⟩)
set_option maxRecDepth 20000 in
theorem ab_sn149 : ab_all B 149 0 (ab_c149) := ⟨ab_s149_0, ab_s149_1, ab_s149_2, ab_s149_3, trivial, trivial, ab_s149_6, ab_s149_7, trivial, trivial, ab_s149_10, trivial, trivial, ab_s149_13, ab_s149_14, ab_s149_15, ab_s149_16, ab_s149_17, trivial, trivial, ab_s149_20, trivial, trivial, ab_s149_23, ab_s149_24, trivial, trivial, ab_s149_27, ab_s149_28, ab_s149_29, trivial, trivial, ab_s149_32, trivial, trivial, ab_s149_35, ab_s149_36, trivial, trivial, ab_s149_39, ab_s149_40, ab_s149_41, ab_s149_42, trivial, trivial, ab_s149_45, trivial⟩
theorem ab_dk150_0 : ab_dp 150 [(0, .aload_n 0, 1), (1, .getfield 98, 3), (4, .ifnonnull 7, 3), (7, .iconst (-1), 1), (8, .goto 9, 3), (11, .aload_n 0, 1), (12, .getfield 98, 3), (15, .iload_n 1, 1), (16, .iaload, 1), (17, .ireturn, 1)] := ab_da (by decide +kernel)
theorem ab_s150_0 : ab_Sn B 150 0 (ab_o_ald 0 1) := ab_s_aload_n (k := 0) (n := 0) ab_dk150_0.1 rfl
theorem ab_s150_1 : ab_Sn B 150 1 (ab_o_getr 8 22 9 4) := ab_s_getr (i := 98) (ci := 4) (N := 22) (k := 9) (C := RX4) (T := TX4) ab_dk150_0.2.1 rfl (by decide) rfl wf_509
theorem ab_s150_4 : ab_Sn B 150 4 (ab_o_ifn false 11 7) := ab_s_ifnonnull (tg := 11) (off := 7) ab_dk150_0.2.2.1 (by decide)
theorem ab_s150_7 : ab_Sn B 150 7 (ab_o_const (-1) 8) := ab_s_iconst (n := (-1)) ab_dk150_0.2.2.2.1 rfl
theorem ab_s150_8 : ab_Sn B 150 8 (ab_o_goto 17) := ab_s_goto (tg := 17) (off := 9) ab_dk150_0.2.2.2.2.1 (by decide)
theorem ab_s150_11 : ab_Sn B 150 11 (ab_o_ald 0 12) := ab_s_aload_n (k := 0) (n := 0) ab_dk150_0.2.2.2.2.2.1 rfl
theorem ab_s150_12 : ab_Sn B 150 12 (ab_o_getr 8 22 9 15) := ab_s_getr (i := 98) (ci := 4) (N := 22) (k := 9) (C := RX4) (T := TX4) ab_dk150_0.2.2.2.2.2.2.1 rfl (by decide) rfl wf_509
theorem ab_s150_15 : ab_Sn B 150 15 (ab_o_ild 1 16) := ab_s_iload_n (k := 1) (n := 1) ab_dk150_0.2.2.2.2.2.2.2.1 rfl
theorem ab_s150_16 : ab_Sn B 150 16 (ab_o_xld 0 17) := ab_s_iaload ab_dk150_0.2.2.2.2.2.2.2.2.1
theorem ab_s150_17 : ab_Sn B 150 17 (ab_o_iret false) := ab_s_iret (b := false) (ty := .int) ab_dk150_0.2.2.2.2.2.2.2.2.2.1 rfl (Or.inl ⟨rfl, rfl⟩)
set_option maxRecDepth 20000 in
theorem ab_sn150 : ab_all B 150 0 (ab_c150) := ⟨ab_s150_0, ab_s150_1, trivial, trivial, ab_s150_4, trivial, trivial, ab_s150_7, ab_s150_8, trivial, trivial, ab_s150_11, ab_s150_12, trivial, trivial, ab_s150_15, ab_s150_16, ab_s150_17, trivial⟩
theorem ab_dk151_0 : ab_dp 151 [(0, .aload_n 0, 1), (1, .iload_n 1, 1), (2, .iconst 0, 1), (3, .iconst 2, 1), (4, .invokestatic 46, 3), (7, .ifCond .ne 7, 3), (10, .iconst 1, 1), (11, .goto 4, 3), (14, .iconst 0, 1), (15, .iconst 1, 1), (16, .invokevirtual 105, 3), (19, .ifCond .eq 7, 3), (22, .iconst 0, 1), (23, .goto 8, 3), (26, .aload_n 0, 1), (27, .iload_n 1, 1)] := ab_da (by decide +kernel)
theorem ab_dk151_1 : ab_dp 151 [(28, .invokevirtual 202, 3), (31, .ireturn, 1)] := ab_da (by decide +kernel)
theorem ab_s151_0 : ab_Sn B 151 0 (ab_o_ald 0 1) := ab_s_aload_n (k := 0) (n := 0) ab_dk151_0.1 rfl
theorem ab_s151_1 : ab_Sn B 151 1 (ab_o_ild 1 2) := ab_s_iload_n (k := 1) (n := 1) ab_dk151_0.2.1 rfl
theorem ab_s151_2 : ab_Sn B 151 2 (ab_o_const 0 3) := ab_s_iconst (n := 0) ab_dk151_0.2.2.1 rfl
theorem ab_s151_3 : ab_Sn B 151 3 (ab_o_const 2 4) := ab_s_iconst (n := 2) ab_dk151_0.2.2.2.1 rfl
theorem ab_s151_4 : ab_Sn B 151 4 (ab_o_call none [] 100 3 3 true 7) := ab_s_callS (M' := 100) (na := 3) (i := 46) (v := true) (ab_hok_n (by decide +kernel)) (by decide +kernel) ab_dk151_0.2.2.2.2.1 (by decide +kernel) (by decide +kernel) (by decide) wf_462 wf_463 wf_464 wf_459
theorem ab_s151_7 : ab_Sn B 151 7 (ab_o_if ab_ne 14 10) := ab_s_if_ne (tg := 14) (off := 7) ab_dk151_0.2.2.2.2.2.1 (by decide)
theorem ab_s151_10 : ab_Sn B 151 10 (ab_o_const 1 11) := ab_s_iconst (n := 1) ab_dk151_0.2.2.2.2.2.2.1 rfl
theorem ab_s151_11 : ab_Sn B 151 11 (ab_o_goto 15) := ab_s_goto (tg := 15) (off := 4) ab_dk151_0.2.2.2.2.2.2.2.1 (by decide)
theorem ab_s151_14 : ab_Sn B 151 14 (ab_o_const 0 15) := ab_s_iconst (n := 0) ab_dk151_0.2.2.2.2.2.2.2.2.1 rfl
theorem ab_s151_15 : ab_Sn B 151 15 (ab_o_const 1 16) := ab_s_iconst (n := 1) ab_dk151_0.2.2.2.2.2.2.2.2.2.1 rfl
theorem ab_s151_16 : ab_Sn B 151 16 (ab_o_call (some (8, 22)) [] 102 3 3 true 19) := ab_s_callV (M' := 102) (na := 2) (i := 105) (ci := 4) (N := 22) (C := RX4) (T := TX4) (v := true) (ab_hok_n (by decide +kernel)) (by decide +kernel) ab_dk151_0.2.2.2.2.2.2.2.2.2.2.1 rfl (by decide) (by decide +kernel) (by decide +kernel) (by decide) wf_514 wf_515 wf_516 wf_517 wf_459
theorem ab_s151_19 : ab_Sn B 151 19 (ab_o_if ab_eq 26 22) := ab_s_if_eq (tg := 26) (off := 7) ab_dk151_0.2.2.2.2.2.2.2.2.2.2.2.1 (by decide)
theorem ab_s151_22 : ab_Sn B 151 22 (ab_o_const 0 23) := ab_s_iconst (n := 0) ab_dk151_0.2.2.2.2.2.2.2.2.2.2.2.2.1 rfl
theorem ab_s151_23 : ab_Sn B 151 23 (ab_o_goto 31) := ab_s_goto (tg := 31) (off := 8) ab_dk151_0.2.2.2.2.2.2.2.2.2.2.2.2.2.1 (by decide)
theorem ab_s151_26 : ab_Sn B 151 26 (ab_o_ald 0 27) := ab_s_aload_n (k := 0) (n := 0) ab_dk151_0.2.2.2.2.2.2.2.2.2.2.2.2.2.2.1 rfl
theorem ab_s151_27 : ab_Sn B 151 27 (ab_o_ild 1 28) := ab_s_iload_n (k := 1) (n := 1) ab_dk151_0.2.2.2.2.2.2.2.2.2.2.2.2.2.2.2.1 rfl
theorem ab_s151_28 : ab_Sn B 151 28 (ab_o_call (some (8, 22)) [] 150 2 2 true 31) := ab_s_callV (M' := 150) (na := 1) (i := 202) (ci := 4) (N := 22) (C := RX4) (T := TX4) (v := true) (ab_hok_n (by decide +kernel)) (by decide +kernel) ab_dk151_1.1 rfl (by decide) (by decide +kernel) (by decide +kernel) (by decide) wf_607 wf_608 wf_609 wf_610 wf_459
theorem ab_s151_31 : ab_Sn B 151 31 (ab_o_iret false) := ab_s_iret (b := false) (ty := .int) ab_dk151_1.2.1 rfl (Or.inl ⟨rfl, rfl⟩)
set_option maxRecDepth 20000 in
theorem ab_sn151 : ab_all B 151 0 (ab_c151) := ⟨ab_s151_0, ab_s151_1, ab_s151_2, ab_s151_3, ab_s151_4, trivial, trivial, ab_s151_7, trivial, trivial, ab_s151_10, ab_s151_11, trivial, trivial, ab_s151_14, ab_s151_15, ab_s151_16, trivial, trivial, ab_s151_19, trivial, trivial, ab_s151_22, ab_s151_23, trivial, trivial, ab_s151_26, ab_s151_27, ab_s151_28, trivial, trivial, ab_s151_31, trivial⟩
theorem ab_dk152_0 : ab_dp 152 [(0, .iconst 0, 1), (1, .istore_n 2, 1), (2, .aload_n 0, 1), (3, .getfield 17, 3), (6, .astore_n 3, 1), (7, .aload_n 3, 1), (8, .arraylength, 1), (9, .istore 4, 2), (11, .iconst 0, 1), (12, .istore 5, 2), (14, .iload 5, 2), (16, .iload 4, 2), (18, .if_icmp .ge 28, 3), (21, .aload_n 3, 1), (22, .iload 5, 2), (24, .baload, 1)] := ab_da (by decide +kernel)
theorem ab_dk152_1 : ab_dp 152 [(25, .istore 6, 2), (27, .iload_n 2, 1), (28, .iload 6, 2), (30, .ifCond .eq 7, 3), (33, .iconst 1, 1), (34, .goto 4, 3), (37, .iconst 0, 1), (38, .iadd, 1), (39, .istore_n 2, 1), (40, .iinc 5 1, 3), (43, .goto (-29), 3), (46, .iconst 0, 1), (47, .istore_n 3, 1), (48, .iconst 0, 1), (49, .istore 4, 2), (51, .iconst 0, 1)] := ab_da (by decide +kernel)
theorem ab_dk152_2 : ab_dp 152 [(52, .istore 5, 2), (54, .iconst 0, 1), (55, .istore 6, 2), (57, .iload 6, 2), (59, .aload_n 0, 1), (60, .getfield 50, 3), (63, .if_icmp .ge 58, 3), (66, .iload_n 3, 1), (67, .aload_n 0, 1), (68, .iload 6, 2), (70, .invokevirtual 68, 3), (73, .iadd, 1), (74, .istore_n 3, 1), (75, .iload 4, 2), (77, .aload_n 0, 1), (78, .iload 6, 2)] := ab_da (by decide +kernel)
theorem ab_dk152_3 : ab_dp 152 [(80, .invokevirtual 68, 3), (83, .iconst 1, 1), (84, .if_icmp .ne 7, 3), (87, .iconst 1, 1), (88, .goto 4, 3), (91, .iconst 0, 1), (92, .iadd, 1), (93, .istore 4, 2), (95, .iload 5, 2), (97, .aload_n 0, 1), (98, .iload 6, 2), (100, .invokevirtual 68, 3), (103, .iconst 1, 1), (104, .if_icmp .le 7, 3), (107, .iconst 1, 1), (108, .goto 4, 3)] := ab_da (by decide +kernel)
theorem ab_dk152_4 : ab_dp 152 [(111, .iconst 0, 1), (112, .iadd, 1), (113, .istore 5, 2), (115, .iinc 6 1, 3), (118, .goto (-61), 3), (121, .iload_n 1, 1), (122, .bipush 13, 2), (124, .if_icmp .ne 10, 3), (127, .aload_n 0, 1), (128, .invokevirtual 183, 3), (131, .goto 4, 3), (134, .aconst_null, 1), (135, .astore 6, 2), (137, .bipush 17, 2), (139, .newarray .int, 2), (141, .dup, 1)] := ab_da (by decide +kernel)
theorem ab_dk152_5 : ab_dp 152 [(142, .iconst 0, 1), (143, .aload_n 0, 1), (144, .getfield 43, 3), (147, .iastore, 1), (148, .dup, 1), (149, .iconst 1, 1), (150, .aload_n 0, 1), (151, .getfield 50, 3), (154, .iastore, 1), (155, .dup, 1), (156, .iconst 2, 1), (157, .aload_n 0, 1), (158, .invokevirtual 53, 3), (161, .iastore, 1), (162, .dup, 1), (163, .iconst 3, 1)] := ab_da (by decide +kernel)
theorem ab_dk152_6 : ab_dp 152 [(164, .aload_n 0, 1), (165, .getfield 91, 3), (168, .ifCond .eq 7, 3), (171, .iconst 1, 1), (172, .goto 4, 3), (175, .iconst 0, 1), (176, .iastore, 1), (177, .dup, 1), (178, .iconst 4, 1), (179, .iload_n 2, 1), (180, .iastore, 1), (181, .dup, 1), (182, .iconst 5, 1), (183, .iload_n 3, 1), (184, .iastore, 1), (185, .dup, 1)] := ab_da (by decide +kernel)
theorem ab_dk152_7 : ab_dp 152 [(186, .bipush 6, 2), (188, .iload 4, 2), (190, .iastore, 1), (191, .dup, 1), (192, .bipush 7, 2), (194, .iload 5, 2), (196, .iastore, 1), (197, .dup, 1), (198, .bipush 8, 2), (200, .aload_n 0, 1), (201, .invokevirtual 136, 3), (204, .iastore, 1), (205, .dup, 1), (206, .bipush 9, 2), (208, .aload_n 0, 1), (209, .getfield 117, 3)] := ab_da (by decide +kernel)
theorem ab_dk152_8 : ab_dp 152 [(212, .iastore, 1), (213, .dup, 1), (214, .bipush 10, 2), (216, .aload_n 0, 1), (217, .getfield 120, 3), (220, .iastore, 1), (221, .dup, 1), (222, .bipush 11, 2), (224, .aload_n 0, 1), (225, .getfield 79, 3), (228, .iastore, 1), (229, .dup, 1), (230, .bipush 12, 2), (232, .aload_n 0, 1), (233, .getfield 95, 3), (236, .iastore, 1)] := ab_da (by decide +kernel)
theorem ab_dk152_9 : ab_dp 152 [(237, .dup, 1), (238, .bipush 13, 2), (240, .aload 6, 2), (242, .ifnonnull 7, 3), (245, .iconst (-1), 1), (246, .goto 11, 3), (249, .aload_n 0, 1), (250, .aload 6, 2), (252, .iconst 0, 1), (253, .aaload, 1), (254, .invokevirtual 172, 3), (257, .iastore, 1), (258, .dup, 1), (259, .bipush 14, 2), (261, .aload_n 0, 1), (262, .getfield 111, 3)] := ab_da (by decide +kernel)
theorem ab_dk152_10 : ab_dp 152 [(265, .iastore, 1), (266, .dup, 1), (267, .bipush 15, 2), (269, .aload_n 0, 1), (270, .getfield 114, 3), (273, .iastore, 1), (274, .dup, 1), (275, .bipush 16, 2), (277, .aload_n 0, 1), (278, .getfield 205, 3), (281, .iastore, 1), (282, .astore 7, 2), (284, .aload 7, 2), (286, .iload_n 1, 1), (287, .iaload, 1), (288, .ireturn, 1)] := ab_da (by decide +kernel)
theorem ab_s152_0 : ab_Sn B 152 0 (ab_o_const 0 1) := ab_s_iconst (n := 0) ab_dk152_0.1 rfl
theorem ab_s152_1 : ab_Sn B 152 1 (ab_o_ist 2 2) := ab_s_istore_n (k := 2) (n := 2) ab_dk152_0.2.1 rfl
theorem ab_s152_2 : ab_Sn B 152 2 (ab_o_ald 0 3) := ab_s_aload_n (k := 0) (n := 0) ab_dk152_0.2.2.1 rfl
theorem ab_s152_3 : ab_Sn B 152 3 (ab_o_getr 8 22 6 6) := ab_s_getr (i := 17) (ci := 4) (N := 22) (k := 6) (C := RX4) (T := TX4) ab_dk152_0.2.2.2.1 rfl (by decide) rfl wf_449
theorem ab_s152_6 : ab_Sn B 152 6 (ab_o_ast 3 7) := ab_s_astore_n (k := 3) (n := 3) ab_dk152_0.2.2.2.2.1 rfl
theorem ab_s152_7 : ab_Sn B 152 7 (ab_o_ald 3 8) := ab_s_aload_n (k := 3) (n := 3) ab_dk152_0.2.2.2.2.2.1 rfl
theorem ab_s152_8 : ab_Sn B 152 8 (ab_o_alen 9) := ab_s_alen ab_dk152_0.2.2.2.2.2.2.1
theorem ab_s152_9 : ab_Sn B 152 9 (ab_o_ist 4 11) := ab_s_istore (k := 4) ab_dk152_0.2.2.2.2.2.2.2.1
theorem ab_s152_11 : ab_Sn B 152 11 (ab_o_const 0 12) := ab_s_iconst (n := 0) ab_dk152_0.2.2.2.2.2.2.2.2.1 rfl
theorem ab_s152_12 : ab_Sn B 152 12 (ab_o_ist 5 14) := ab_s_istore (k := 5) ab_dk152_0.2.2.2.2.2.2.2.2.2.1
theorem ab_s152_14 : ab_Sn B 152 14 (ab_o_ild 5 16) := ab_s_iload (k := 5) ab_dk152_0.2.2.2.2.2.2.2.2.2.2.1
theorem ab_s152_16 : ab_Sn B 152 16 (ab_o_ild 4 18) := ab_s_iload (k := 4) ab_dk152_0.2.2.2.2.2.2.2.2.2.2.2.1
theorem ab_s152_18 : ab_Sn B 152 18 (ab_o_icmp ab_ge 46 21) := ab_s_icmp_ge (tg := 46) (off := 28) ab_dk152_0.2.2.2.2.2.2.2.2.2.2.2.2.1 (by decide)
theorem ab_s152_21 : ab_Sn B 152 21 (ab_o_ald 3 22) := ab_s_aload_n (k := 3) (n := 3) ab_dk152_0.2.2.2.2.2.2.2.2.2.2.2.2.2.1 rfl
theorem ab_s152_22 : ab_Sn B 152 22 (ab_o_ild 5 24) := ab_s_iload (k := 5) ab_dk152_0.2.2.2.2.2.2.2.2.2.2.2.2.2.2.1
theorem ab_s152_24 : ab_Sn B 152 24 (ab_o_xld 1 25) := ab_s_baload ab_dk152_0.2.2.2.2.2.2.2.2.2.2.2.2.2.2.2.1
theorem ab_s152_25 : ab_Sn B 152 25 (ab_o_ist 6 27) := ab_s_istore (k := 6) ab_dk152_1.1
theorem ab_s152_27 : ab_Sn B 152 27 (ab_o_ild 2 28) := ab_s_iload_n (k := 2) (n := 2) ab_dk152_1.2.1 rfl
theorem ab_s152_28 : ab_Sn B 152 28 (ab_o_ild 6 30) := ab_s_iload (k := 6) ab_dk152_1.2.2.1
theorem ab_s152_30 : ab_Sn B 152 30 (ab_o_if ab_eq 37 33) := ab_s_if_eq (tg := 37) (off := 7) ab_dk152_1.2.2.2.1 (by decide)
theorem ab_s152_33 : ab_Sn B 152 33 (ab_o_const 1 34) := ab_s_iconst (n := 1) ab_dk152_1.2.2.2.2.1 rfl
theorem ab_s152_34 : ab_Sn B 152 34 (ab_o_goto 38) := ab_s_goto (tg := 38) (off := 4) ab_dk152_1.2.2.2.2.2.1 (by decide)
theorem ab_s152_37 : ab_Sn B 152 37 (ab_o_const 0 38) := ab_s_iconst (n := 0) ab_dk152_1.2.2.2.2.2.2.1 rfl
theorem ab_s152_38 : ab_Sn B 152 38 (ab_o_bin (fun a b => a + b) 39) := ab_s_iadd ab_dk152_1.2.2.2.2.2.2.2.1
theorem ab_s152_39 : ab_Sn B 152 39 (ab_o_ist 2 40) := ab_s_istore_n (k := 2) (n := 2) ab_dk152_1.2.2.2.2.2.2.2.2.1 rfl
theorem ab_s152_40 : ab_Sn B 152 40 (ab_o_inc 5 1 43) := ab_s_iinc (k := 5) (n := 1) ab_dk152_1.2.2.2.2.2.2.2.2.2.1
theorem ab_s152_43 : ab_Sn B 152 43 (ab_o_goto 14) := ab_s_goto (tg := 14) (off := -29) ab_dk152_1.2.2.2.2.2.2.2.2.2.2.1 (by decide)
theorem ab_s152_46 : ab_Sn B 152 46 (ab_o_const 0 47) := ab_s_iconst (n := 0) ab_dk152_1.2.2.2.2.2.2.2.2.2.2.2.1 rfl
theorem ab_s152_47 : ab_Sn B 152 47 (ab_o_ist 3 48) := ab_s_istore_n (k := 3) (n := 3) ab_dk152_1.2.2.2.2.2.2.2.2.2.2.2.2.1 rfl
theorem ab_s152_48 : ab_Sn B 152 48 (ab_o_const 0 49) := ab_s_iconst (n := 0) ab_dk152_1.2.2.2.2.2.2.2.2.2.2.2.2.2.1 rfl
theorem ab_s152_49 : ab_Sn B 152 49 (ab_o_ist 4 51) := ab_s_istore (k := 4) ab_dk152_1.2.2.2.2.2.2.2.2.2.2.2.2.2.2.1
theorem ab_s152_51 : ab_Sn B 152 51 (ab_o_const 0 52) := ab_s_iconst (n := 0) ab_dk152_1.2.2.2.2.2.2.2.2.2.2.2.2.2.2.2.1 rfl
theorem ab_s152_52 : ab_Sn B 152 52 (ab_o_ist 5 54) := ab_s_istore (k := 5) ab_dk152_2.1
theorem ab_s152_54 : ab_Sn B 152 54 (ab_o_const 0 55) := ab_s_iconst (n := 0) ab_dk152_2.2.1 rfl
theorem ab_s152_55 : ab_Sn B 152 55 (ab_o_ist 6 57) := ab_s_istore (k := 6) ab_dk152_2.2.2.1
theorem ab_s152_57 : ab_Sn B 152 57 (ab_o_ild 6 59) := ab_s_iload (k := 6) ab_dk152_2.2.2.2.1
theorem ab_s152_59 : ab_Sn B 152 59 (ab_o_ald 0 60) := ab_s_aload_n (k := 0) (n := 0) ab_dk152_2.2.2.2.2.1 rfl
theorem ab_s152_60 : ab_Sn B 152 60 (ab_o_geti 8 22 2 63) := ab_s_geti (i := 50) (ci := 4) (N := 22) (k := 2) (C := RX4) (T := TX4) ab_dk152_2.2.2.2.2.2.1 rfl (by decide) rfl wf_465
theorem ab_s152_63 : ab_Sn B 152 63 (ab_o_icmp ab_ge 121 66) := ab_s_icmp_ge (tg := 121) (off := 58) ab_dk152_2.2.2.2.2.2.2.1 (by decide)
theorem ab_s152_66 : ab_Sn B 152 66 (ab_o_ild 3 67) := ab_s_iload_n (k := 3) (n := 3) ab_dk152_2.2.2.2.2.2.2.2.1 rfl
theorem ab_s152_67 : ab_Sn B 152 67 (ab_o_ald 0 68) := ab_s_aload_n (k := 0) (n := 0) ab_dk152_2.2.2.2.2.2.2.2.2.1 rfl
theorem ab_s152_68 : ab_Sn B 152 68 (ab_o_ild 6 70) := ab_s_iload (k := 6) ab_dk152_2.2.2.2.2.2.2.2.2.2.1
theorem ab_s152_70 : ab_Sn B 152 70 (ab_o_call (some (8, 22)) [] 113 4 2 true 73) := ab_s_callV (M' := 113) (na := 1) (i := 68) (ci := 4) (N := 22) (C := RX4) (T := TX4) (v := true) (ab_hok_n (by decide +kernel)) (by decide +kernel) ab_dk152_2.2.2.2.2.2.2.2.2.2.2.1 rfl (by decide) (by decide +kernel) (by decide +kernel) (by decide) wf_482 wf_483 wf_484 wf_485 wf_459
theorem ab_s152_73 : ab_Sn B 152 73 (ab_o_bin (fun a b => a + b) 74) := ab_s_iadd ab_dk152_2.2.2.2.2.2.2.2.2.2.2.2.1
theorem ab_s152_74 : ab_Sn B 152 74 (ab_o_ist 3 75) := ab_s_istore_n (k := 3) (n := 3) ab_dk152_2.2.2.2.2.2.2.2.2.2.2.2.2.1 rfl
theorem ab_s152_75 : ab_Sn B 152 75 (ab_o_ild 4 77) := ab_s_iload (k := 4) ab_dk152_2.2.2.2.2.2.2.2.2.2.2.2.2.2.1
theorem ab_s152_77 : ab_Sn B 152 77 (ab_o_ald 0 78) := ab_s_aload_n (k := 0) (n := 0) ab_dk152_2.2.2.2.2.2.2.2.2.2.2.2.2.2.2.1 rfl
theorem ab_s152_78 : ab_Sn B 152 78 (ab_o_ild 6 80) := ab_s_iload (k := 6) ab_dk152_2.2.2.2.2.2.2.2.2.2.2.2.2.2.2.2.1
theorem ab_s152_80 : ab_Sn B 152 80 (ab_o_call (some (8, 22)) [] 113 4 2 true 83) := ab_s_callV (M' := 113) (na := 1) (i := 68) (ci := 4) (N := 22) (C := RX4) (T := TX4) (v := true) (ab_hok_n (by decide +kernel)) (by decide +kernel) ab_dk152_3.1 rfl (by decide) (by decide +kernel) (by decide +kernel) (by decide) wf_482 wf_483 wf_484 wf_485 wf_459
theorem ab_s152_83 : ab_Sn B 152 83 (ab_o_const 1 84) := ab_s_iconst (n := 1) ab_dk152_3.2.1 rfl
theorem ab_s152_84 : ab_Sn B 152 84 (ab_o_icmp ab_ne 91 87) := ab_s_icmp_ne (tg := 91) (off := 7) ab_dk152_3.2.2.1 (by decide)
theorem ab_s152_87 : ab_Sn B 152 87 (ab_o_const 1 88) := ab_s_iconst (n := 1) ab_dk152_3.2.2.2.1 rfl
theorem ab_s152_88 : ab_Sn B 152 88 (ab_o_goto 92) := ab_s_goto (tg := 92) (off := 4) ab_dk152_3.2.2.2.2.1 (by decide)
theorem ab_s152_91 : ab_Sn B 152 91 (ab_o_const 0 92) := ab_s_iconst (n := 0) ab_dk152_3.2.2.2.2.2.1 rfl
theorem ab_s152_92 : ab_Sn B 152 92 (ab_o_bin (fun a b => a + b) 93) := ab_s_iadd ab_dk152_3.2.2.2.2.2.2.1
theorem ab_s152_93 : ab_Sn B 152 93 (ab_o_ist 4 95) := ab_s_istore (k := 4) ab_dk152_3.2.2.2.2.2.2.2.1
theorem ab_s152_95 : ab_Sn B 152 95 (ab_o_ild 5 97) := ab_s_iload (k := 5) ab_dk152_3.2.2.2.2.2.2.2.2.1
theorem ab_s152_97 : ab_Sn B 152 97 (ab_o_ald 0 98) := ab_s_aload_n (k := 0) (n := 0) ab_dk152_3.2.2.2.2.2.2.2.2.2.1 rfl
theorem ab_s152_98 : ab_Sn B 152 98 (ab_o_ild 6 100) := ab_s_iload (k := 6) ab_dk152_3.2.2.2.2.2.2.2.2.2.2.1
theorem ab_s152_100 : ab_Sn B 152 100 (ab_o_call (some (8, 22)) [] 113 4 2 true 103) := ab_s_callV (M' := 113) (na := 1) (i := 68) (ci := 4) (N := 22) (C := RX4) (T := TX4) (v := true) (ab_hok_n (by decide +kernel)) (by decide +kernel) ab_dk152_3.2.2.2.2.2.2.2.2.2.2.2.1 rfl (by decide) (by decide +kernel) (by decide +kernel) (by decide) wf_482 wf_483 wf_484 wf_485 wf_459
theorem ab_s152_103 : ab_Sn B 152 103 (ab_o_const 1 104) := ab_s_iconst (n := 1) ab_dk152_3.2.2.2.2.2.2.2.2.2.2.2.2.1 rfl
theorem ab_s152_104 : ab_Sn B 152 104 (ab_o_icmp ab_le 111 107) := ab_s_icmp_le (tg := 111) (off := 7) ab_dk152_3.2.2.2.2.2.2.2.2.2.2.2.2.2.1 (by decide)
theorem ab_s152_107 : ab_Sn B 152 107 (ab_o_const 1 108) := ab_s_iconst (n := 1) ab_dk152_3.2.2.2.2.2.2.2.2.2.2.2.2.2.2.1 rfl
theorem ab_s152_108 : ab_Sn B 152 108 (ab_o_goto 112) := ab_s_goto (tg := 112) (off := 4) ab_dk152_3.2.2.2.2.2.2.2.2.2.2.2.2.2.2.2.1 (by decide)
theorem ab_s152_111 : ab_Sn B 152 111 (ab_o_const 0 112) := ab_s_iconst (n := 0) ab_dk152_4.1 rfl
theorem ab_s152_112 : ab_Sn B 152 112 (ab_o_bin (fun a b => a + b) 113) := ab_s_iadd ab_dk152_4.2.1
theorem ab_s152_113 : ab_Sn B 152 113 (ab_o_ist 5 115) := ab_s_istore (k := 5) ab_dk152_4.2.2.1
theorem ab_s152_115 : ab_Sn B 152 115 (ab_o_inc 6 1 118) := ab_s_iinc (k := 6) (n := 1) ab_dk152_4.2.2.2.1
theorem ab_s152_118 : ab_Sn B 152 118 (ab_o_goto 57) := ab_s_goto (tg := 57) (off := -61) ab_dk152_4.2.2.2.2.1 (by decide)
theorem ab_s152_121 : ab_Sn B 152 121 (ab_o_ild 1 122) := ab_s_iload_n (k := 1) (n := 1) ab_dk152_4.2.2.2.2.2.1 rfl
theorem ab_s152_122 : ab_Sn B 152 122 (ab_o_const 13 124) := ab_s_bipush (n := 13) ab_dk152_4.2.2.2.2.2.2.1 (by decide)
theorem ab_s152_124 : ab_Sn B 152 124 (ab_o_icmp ab_ne 134 127) := ab_s_icmp_ne (tg := 134) (off := 10) ab_dk152_4.2.2.2.2.2.2.2.1 (by decide)
theorem ab_s152_127 : ab_Sn B 152 127 (ab_o_ald 0 128) := ab_s_aload_n (k := 0) (n := 0) ab_dk152_4.2.2.2.2.2.2.2.2.1 rfl
theorem ab_s152_128 : ab_Sn B 152 128 (ab_o_call (some (8, 22)) [] 137 1 1 true 131) := ab_s_callV (M' := 137) (na := 0) (i := 183) (ci := 4) (N := 22) (C := RX4) (T := TX4) (v := true) (ab_hok_n (by decide +kernel)) (by decide +kernel) ab_dk152_4.2.2.2.2.2.2.2.2.2.1 rfl (by decide) (by decide +kernel) (by decide +kernel) (by decide) wf_583 wf_584 wf_585 wf_586 wf_459
theorem ab_s152_131 : ab_Sn B 152 131 (ab_o_goto 135) := ab_s_goto (tg := 135) (off := 4) ab_dk152_4.2.2.2.2.2.2.2.2.2.2.1 (by decide)
theorem ab_s152_134 : ab_Sn B 152 134 (ab_o_null 135) := ab_s_null ab_dk152_4.2.2.2.2.2.2.2.2.2.2.2.1
theorem ab_s152_135 : ab_Sn B 152 135 (ab_o_ast 6 137) := ab_s_astore (k := 6) ab_dk152_4.2.2.2.2.2.2.2.2.2.2.2.2.1
theorem ab_s152_137 : ab_Sn B 152 137 (ab_o_const 17 139) := ab_s_bipush (n := 17) ab_dk152_4.2.2.2.2.2.2.2.2.2.2.2.2.2.1 (by decide)
theorem ab_s152_139 : ab_Sn B 152 139 (ab_o_newa 0 141) := ab_s_newa0 ab_dk152_4.2.2.2.2.2.2.2.2.2.2.2.2.2.2.1 wf_3
theorem ab_s152_141 : ab_Sn B 152 141 (ab_o_dup 142) := ab_s_dup ab_dk152_4.2.2.2.2.2.2.2.2.2.2.2.2.2.2.2.1
theorem ab_s152_142 : ab_Sn B 152 142 (ab_o_const 0 143) := ab_s_iconst (n := 0) ab_dk152_5.1 rfl
theorem ab_s152_143 : ab_Sn B 152 143 (ab_o_ald 0 144) := ab_s_aload_n (k := 0) (n := 0) ab_dk152_5.2.1 rfl
theorem ab_s152_144 : ab_Sn B 152 144 (ab_o_geti 8 22 1 147) := ab_s_geti (i := 43) (ci := 4) (N := 22) (k := 1) (C := RX4) (T := TX4) ab_dk152_5.2.2.1 rfl (by decide) rfl wf_461
theorem ab_s152_147 : ab_Sn B 152 147 (ab_o_xst 0 148) := ab_s_iastore ab_dk152_5.2.2.2.1
theorem ab_s152_148 : ab_Sn B 152 148 (ab_o_dup 149) := ab_s_dup ab_dk152_5.2.2.2.2.1
theorem ab_s152_149 : ab_Sn B 152 149 (ab_o_const 1 150) := ab_s_iconst (n := 1) ab_dk152_5.2.2.2.2.2.1 rfl
theorem ab_s152_150 : ab_Sn B 152 150 (ab_o_ald 0 151) := ab_s_aload_n (k := 0) (n := 0) ab_dk152_5.2.2.2.2.2.2.1 rfl
theorem ab_s152_151 : ab_Sn B 152 151 (ab_o_geti 8 22 2 154) := ab_s_geti (i := 50) (ci := 4) (N := 22) (k := 2) (C := RX4) (T := TX4) ab_dk152_5.2.2.2.2.2.2.2.1 rfl (by decide) rfl wf_465
theorem ab_s152_154 : ab_Sn B 152 154 (ab_o_xst 0 155) := ab_s_iastore ab_dk152_5.2.2.2.2.2.2.2.2.1
theorem ab_s152_155 : ab_Sn B 152 155 (ab_o_dup 156) := ab_s_dup ab_dk152_5.2.2.2.2.2.2.2.2.2.1
theorem ab_s152_156 : ab_Sn B 152 156 (ab_o_const 2 157) := ab_s_iconst (n := 2) ab_dk152_5.2.2.2.2.2.2.2.2.2.2.1 rfl
theorem ab_s152_157 : ab_Sn B 152 157 (ab_o_ald 0 158) := ab_s_aload_n (k := 0) (n := 0) ab_dk152_5.2.2.2.2.2.2.2.2.2.2.2.1 rfl
theorem ab_s152_158 : ab_Sn B 152 158 (ab_o_call (some (8, 22)) [] 106 1 1 true 161) := ab_s_callV (M' := 106) (na := 0) (i := 53) (ci := 4) (N := 22) (C := RX4) (T := TX4) (v := true) (ab_hok_n (by decide +kernel)) (by decide +kernel) ab_dk152_5.2.2.2.2.2.2.2.2.2.2.2.2.1 rfl (by decide) (by decide +kernel) (by decide +kernel) (by decide) wf_466 wf_467 wf_468 wf_469 wf_459
theorem ab_s152_161 : ab_Sn B 152 161 (ab_o_xst 0 162) := ab_s_iastore ab_dk152_5.2.2.2.2.2.2.2.2.2.2.2.2.2.1
theorem ab_s152_162 : ab_Sn B 152 162 (ab_o_dup 163) := ab_s_dup ab_dk152_5.2.2.2.2.2.2.2.2.2.2.2.2.2.2.1
theorem ab_s152_163 : ab_Sn B 152 163 (ab_o_const 3 164) := ab_s_iconst (n := 3) ab_dk152_5.2.2.2.2.2.2.2.2.2.2.2.2.2.2.2.1 rfl
theorem ab_s152_164 : ab_Sn B 152 164 (ab_o_ald 0 165) := ab_s_aload_n (k := 0) (n := 0) ab_dk152_6.1 rfl
theorem ab_s152_165 : ab_Sn B 152 165 (ab_o_geti 8 22 3 168) := ab_s_geti (i := 91) (ci := 4) (N := 22) (k := 3) (C := RX4) (T := TX4) ab_dk152_6.2.1 rfl (by decide) rfl wf_507
theorem ab_s152_168 : ab_Sn B 152 168 (ab_o_if ab_eq 175 171) := ab_s_if_eq (tg := 175) (off := 7) ab_dk152_6.2.2.1 (by decide)
theorem ab_s152_171 : ab_Sn B 152 171 (ab_o_const 1 172) := ab_s_iconst (n := 1) ab_dk152_6.2.2.2.1 rfl
theorem ab_s152_172 : ab_Sn B 152 172 (ab_o_goto 176) := ab_s_goto (tg := 176) (off := 4) ab_dk152_6.2.2.2.2.1 (by decide)
theorem ab_s152_175 : ab_Sn B 152 175 (ab_o_const 0 176) := ab_s_iconst (n := 0) ab_dk152_6.2.2.2.2.2.1 rfl
theorem ab_s152_176 : ab_Sn B 152 176 (ab_o_xst 0 177) := ab_s_iastore ab_dk152_6.2.2.2.2.2.2.1
theorem ab_s152_177 : ab_Sn B 152 177 (ab_o_dup 178) := ab_s_dup ab_dk152_6.2.2.2.2.2.2.2.1
theorem ab_s152_178 : ab_Sn B 152 178 (ab_o_const 4 179) := ab_s_iconst (n := 4) ab_dk152_6.2.2.2.2.2.2.2.2.1 rfl
theorem ab_s152_179 : ab_Sn B 152 179 (ab_o_ild 2 180) := ab_s_iload_n (k := 2) (n := 2) ab_dk152_6.2.2.2.2.2.2.2.2.2.1 rfl
theorem ab_s152_180 : ab_Sn B 152 180 (ab_o_xst 0 181) := ab_s_iastore ab_dk152_6.2.2.2.2.2.2.2.2.2.2.1
theorem ab_s152_181 : ab_Sn B 152 181 (ab_o_dup 182) := ab_s_dup ab_dk152_6.2.2.2.2.2.2.2.2.2.2.2.1
theorem ab_s152_182 : ab_Sn B 152 182 (ab_o_const 5 183) := ab_s_iconst (n := 5) ab_dk152_6.2.2.2.2.2.2.2.2.2.2.2.2.1 rfl
theorem ab_s152_183 : ab_Sn B 152 183 (ab_o_ild 3 184) := ab_s_iload_n (k := 3) (n := 3) ab_dk152_6.2.2.2.2.2.2.2.2.2.2.2.2.2.1 rfl
theorem ab_s152_184 : ab_Sn B 152 184 (ab_o_xst 0 185) := ab_s_iastore ab_dk152_6.2.2.2.2.2.2.2.2.2.2.2.2.2.2.1
theorem ab_s152_185 : ab_Sn B 152 185 (ab_o_dup 186) := ab_s_dup ab_dk152_6.2.2.2.2.2.2.2.2.2.2.2.2.2.2.2.1
theorem ab_s152_186 : ab_Sn B 152 186 (ab_o_const 6 188) := ab_s_bipush (n := 6) ab_dk152_7.1 (by decide)
theorem ab_s152_188 : ab_Sn B 152 188 (ab_o_ild 4 190) := ab_s_iload (k := 4) ab_dk152_7.2.1
theorem ab_s152_190 : ab_Sn B 152 190 (ab_o_xst 0 191) := ab_s_iastore ab_dk152_7.2.2.1
theorem ab_s152_191 : ab_Sn B 152 191 (ab_o_dup 192) := ab_s_dup ab_dk152_7.2.2.2.1
theorem ab_s152_192 : ab_Sn B 152 192 (ab_o_const 7 194) := ab_s_bipush (n := 7) ab_dk152_7.2.2.2.2.1 (by decide)
theorem ab_s152_194 : ab_Sn B 152 194 (ab_o_ild 5 196) := ab_s_iload (k := 5) ab_dk152_7.2.2.2.2.2.1
theorem ab_s152_196 : ab_Sn B 152 196 (ab_o_xst 0 197) := ab_s_iastore ab_dk152_7.2.2.2.2.2.2.1
theorem ab_s152_197 : ab_Sn B 152 197 (ab_o_dup 198) := ab_s_dup ab_dk152_7.2.2.2.2.2.2.2.1
theorem ab_s152_198 : ab_Sn B 152 198 (ab_o_const 8 200) := ab_s_bipush (n := 8) ab_dk152_7.2.2.2.2.2.2.2.2.1 (by decide)
theorem ab_s152_200 : ab_Sn B 152 200 (ab_o_ald 0 201) := ab_s_aload_n (k := 0) (n := 0) ab_dk152_7.2.2.2.2.2.2.2.2.2.1 rfl
theorem ab_s152_201 : ab_Sn B 152 201 (ab_o_call (some (8, 22)) [] 118 3 1 true 204) := ab_s_callV (M' := 118) (na := 0) (i := 136) (ci := 4) (N := 22) (C := RX4) (T := TX4) (v := true) (ab_hok_n (by decide +kernel)) (by decide +kernel) ab_dk152_7.2.2.2.2.2.2.2.2.2.2.1 rfl (by decide) (by decide +kernel) (by decide +kernel) (by decide) wf_539 wf_540 wf_541 wf_542 wf_459
theorem ab_s152_204 : ab_Sn B 152 204 (ab_o_xst 0 205) := ab_s_iastore ab_dk152_7.2.2.2.2.2.2.2.2.2.2.2.1
theorem ab_s152_205 : ab_Sn B 152 205 (ab_o_dup 206) := ab_s_dup ab_dk152_7.2.2.2.2.2.2.2.2.2.2.2.2.1
theorem ab_s152_206 : ab_Sn B 152 206 (ab_o_const 9 208) := ab_s_bipush (n := 9) ab_dk152_7.2.2.2.2.2.2.2.2.2.2.2.2.2.1 (by decide)
theorem ab_s152_208 : ab_Sn B 152 208 (ab_o_ald 0 209) := ab_s_aload_n (k := 0) (n := 0) ab_dk152_7.2.2.2.2.2.2.2.2.2.2.2.2.2.2.1 rfl
theorem ab_s152_209 : ab_Sn B 152 209 (ab_o_geti 8 22 14 212) := ab_s_geti (i := 117) (ci := 4) (N := 22) (k := 14) (C := RX4) (T := TX4) ab_dk152_7.2.2.2.2.2.2.2.2.2.2.2.2.2.2.2.1 rfl (by decide) rfl wf_521
theorem ab_s152_212 : ab_Sn B 152 212 (ab_o_xst 0 213) := ab_s_iastore ab_dk152_8.1
theorem ab_s152_213 : ab_Sn B 152 213 (ab_o_dup 214) := ab_s_dup ab_dk152_8.2.1
theorem ab_s152_214 : ab_Sn B 152 214 (ab_o_const 10 216) := ab_s_bipush (n := 10) ab_dk152_8.2.2.1 (by decide)
theorem ab_s152_216 : ab_Sn B 152 216 (ab_o_ald 0 217) := ab_s_aload_n (k := 0) (n := 0) ab_dk152_8.2.2.2.1 rfl
theorem ab_s152_217 : ab_Sn B 152 217 (ab_o_geti 8 22 15 220) := ab_s_geti (i := 120) (ci := 4) (N := 22) (k := 15) (C := RX4) (T := TX4) ab_dk152_8.2.2.2.2.1 rfl (by decide) rfl wf_522
theorem ab_s152_220 : ab_Sn B 152 220 (ab_o_xst 0 221) := ab_s_iastore ab_dk152_8.2.2.2.2.2.1
theorem ab_s152_221 : ab_Sn B 152 221 (ab_o_dup 222) := ab_s_dup ab_dk152_8.2.2.2.2.2.2.1
theorem ab_s152_222 : ab_Sn B 152 222 (ab_o_const 11 224) := ab_s_bipush (n := 11) ab_dk152_8.2.2.2.2.2.2.2.1 (by decide)
theorem ab_s152_224 : ab_Sn B 152 224 (ab_o_ald 0 225) := ab_s_aload_n (k := 0) (n := 0) ab_dk152_8.2.2.2.2.2.2.2.2.1 rfl
theorem ab_s152_225 : ab_Sn B 152 225 (ab_o_geti 8 22 16 228) := ab_s_geti (i := 79) (ci := 4) (N := 22) (k := 16) (C := RX4) (T := TX4) ab_dk152_8.2.2.2.2.2.2.2.2.2.1 rfl (by decide) rfl wf_494
theorem ab_s152_228 : ab_Sn B 152 228 (ab_o_xst 0 229) := ab_s_iastore ab_dk152_8.2.2.2.2.2.2.2.2.2.2.1
theorem ab_s152_229 : ab_Sn B 152 229 (ab_o_dup 230) := ab_s_dup ab_dk152_8.2.2.2.2.2.2.2.2.2.2.2.1
theorem ab_s152_230 : ab_Sn B 152 230 (ab_o_const 12 232) := ab_s_bipush (n := 12) ab_dk152_8.2.2.2.2.2.2.2.2.2.2.2.2.1 (by decide)
theorem ab_s152_232 : ab_Sn B 152 232 (ab_o_ald 0 233) := ab_s_aload_n (k := 0) (n := 0) ab_dk152_8.2.2.2.2.2.2.2.2.2.2.2.2.2.1 rfl
theorem ab_s152_233 : ab_Sn B 152 233 (ab_o_geti 8 22 17 236) := ab_s_geti (i := 95) (ci := 4) (N := 22) (k := 17) (C := RX4) (T := TX4) ab_dk152_8.2.2.2.2.2.2.2.2.2.2.2.2.2.2.1 rfl (by decide) rfl wf_508
theorem ab_s152_236 : ab_Sn B 152 236 (ab_o_xst 0 237) := ab_s_iastore ab_dk152_8.2.2.2.2.2.2.2.2.2.2.2.2.2.2.2.1
theorem ab_s152_237 : ab_Sn B 152 237 (ab_o_dup 238) := ab_s_dup ab_dk152_9.1
theorem ab_s152_238 : ab_Sn B 152 238 (ab_o_const 13 240) := ab_s_bipush (n := 13) ab_dk152_9.2.1 (by decide)
theorem ab_s152_240 : ab_Sn B 152 240 (ab_o_ald 6 242) := ab_s_aload (k := 6) ab_dk152_9.2.2.1
theorem ab_s152_242 : ab_Sn B 152 242 (ab_o_ifn false 249 245) := ab_s_ifnonnull (tg := 249) (off := 7) ab_dk152_9.2.2.2.1 (by decide)
theorem ab_s152_245 : ab_Sn B 152 245 (ab_o_const (-1) 246) := ab_s_iconst (n := (-1)) ab_dk152_9.2.2.2.2.1 rfl
theorem ab_s152_246 : ab_Sn B 152 246 (ab_o_goto 257) := ab_s_goto (tg := 257) (off := 11) ab_dk152_9.2.2.2.2.2.1 (by decide)
theorem ab_s152_249 : ab_Sn B 152 249 (ab_o_ald 0 250) := ab_s_aload_n (k := 0) (n := 0) ab_dk152_9.2.2.2.2.2.2.1 rfl
theorem ab_s152_250 : ab_Sn B 152 250 (ab_o_ald 6 252) := ab_s_aload (k := 6) ab_dk152_9.2.2.2.2.2.2.2.1
theorem ab_s152_252 : ab_Sn B 152 252 (ab_o_const 0 253) := ab_s_iconst (n := 0) ab_dk152_9.2.2.2.2.2.2.2.2.1 rfl
theorem ab_s152_253 : ab_Sn B 152 253 (ab_o_aald 254) := ab_s_aald ab_dk152_9.2.2.2.2.2.2.2.2.2.1
theorem ab_s152_254 : ab_Sn B 152 254 (ab_o_call (some (8, 22)) [] 134 4 2 true 257) := ab_s_callV (M' := 134) (na := 1) (i := 172) (ci := 4) (N := 22) (C := RX4) (T := TX4) (v := true) (ab_hok_n (by decide +kernel)) (by decide +kernel) ab_dk152_9.2.2.2.2.2.2.2.2.2.2.1 rfl (by decide) (by decide +kernel) (by decide +kernel) (by decide) wf_575 wf_576 wf_577 wf_578 wf_459
theorem ab_s152_257 : ab_Sn B 152 257 (ab_o_xst 0 258) := ab_s_iastore ab_dk152_9.2.2.2.2.2.2.2.2.2.2.2.1
theorem ab_s152_258 : ab_Sn B 152 258 (ab_o_dup 259) := ab_s_dup ab_dk152_9.2.2.2.2.2.2.2.2.2.2.2.2.1
theorem ab_s152_259 : ab_Sn B 152 259 (ab_o_const 14 261) := ab_s_bipush (n := 14) ab_dk152_9.2.2.2.2.2.2.2.2.2.2.2.2.2.1 (by decide)
theorem ab_s152_261 : ab_Sn B 152 261 (ab_o_ald 0 262) := ab_s_aload_n (k := 0) (n := 0) ab_dk152_9.2.2.2.2.2.2.2.2.2.2.2.2.2.2.1 rfl
theorem ab_s152_262 : ab_Sn B 152 262 (ab_o_geti 8 22 12 265) := ab_s_geti (i := 111) (ci := 4) (N := 22) (k := 12) (C := RX4) (T := TX4) ab_dk152_9.2.2.2.2.2.2.2.2.2.2.2.2.2.2.2.1 rfl (by decide) rfl wf_519
theorem ab_s152_265 : ab_Sn B 152 265 (ab_o_xst 0 266) := ab_s_iastore ab_dk152_10.1
theorem ab_s152_266 : ab_Sn B 152 266 (ab_o_dup 267) := ab_s_dup ab_dk152_10.2.1
theorem ab_s152_267 : ab_Sn B 152 267 (ab_o_const 15 269) := ab_s_bipush (n := 15) ab_dk152_10.2.2.1 (by decide)
theorem ab_s152_269 : ab_Sn B 152 269 (ab_o_ald 0 270) := ab_s_aload_n (k := 0) (n := 0) ab_dk152_10.2.2.2.1 rfl
theorem ab_s152_270 : ab_Sn B 152 270 (ab_o_geti 8 22 13 273) := ab_s_geti (i := 114) (ci := 4) (N := 22) (k := 13) (C := RX4) (T := TX4) ab_dk152_10.2.2.2.2.1 rfl (by decide) rfl wf_520
theorem ab_s152_273 : ab_Sn B 152 273 (ab_o_xst 0 274) := ab_s_iastore ab_dk152_10.2.2.2.2.2.1
theorem ab_s152_274 : ab_Sn B 152 274 (ab_o_dup 275) := ab_s_dup ab_dk152_10.2.2.2.2.2.2.1
theorem ab_s152_275 : ab_Sn B 152 275 (ab_o_const 16 277) := ab_s_bipush (n := 16) ab_dk152_10.2.2.2.2.2.2.2.1 (by decide)
theorem ab_s152_277 : ab_Sn B 152 277 (ab_o_ald 0 278) := ab_s_aload_n (k := 0) (n := 0) ab_dk152_10.2.2.2.2.2.2.2.2.1 rfl
theorem ab_s152_278 : ab_Sn B 152 278 (ab_o_geti 8 22 18 281) := ab_s_geti (i := 205) (ci := 4) (N := 22) (k := 18) (C := RX4) (T := TX4) ab_dk152_10.2.2.2.2.2.2.2.2.2.1 rfl (by decide) rfl wf_611
theorem ab_s152_281 : ab_Sn B 152 281 (ab_o_xst 0 282) := ab_s_iastore ab_dk152_10.2.2.2.2.2.2.2.2.2.2.1
theorem ab_s152_282 : ab_Sn B 152 282 (ab_o_ast 7 284) := ab_s_astore (k := 7) ab_dk152_10.2.2.2.2.2.2.2.2.2.2.2.1
theorem ab_s152_284 : ab_Sn B 152 284 (ab_o_ald 7 286) := ab_s_aload (k := 7) ab_dk152_10.2.2.2.2.2.2.2.2.2.2.2.2.1
theorem ab_s152_286 : ab_Sn B 152 286 (ab_o_ild 1 287) := ab_s_iload_n (k := 1) (n := 1) ab_dk152_10.2.2.2.2.2.2.2.2.2.2.2.2.2.1 rfl
theorem ab_s152_287 : ab_Sn B 152 287 (ab_o_xld 0 288) := ab_s_iaload ab_dk152_10.2.2.2.2.2.2.2.2.2.2.2.2.2.2.1
theorem ab_s152_288 : ab_Sn B 152 288 (ab_o_iret false) := ab_s_iret (b := false) (ty := .int) ab_dk152_10.2.2.2.2.2.2.2.2.2.2.2.2.2.2.2.1 rfl (Or.inl ⟨rfl, rfl⟩)
theorem ab_sc152_4 : ab_all B 152 256 (ab_d152_4) := ⟨trivial, ab_s152_257, ab_s152_258, ab_s152_259, trivial, ab_s152_261, ab_s152_262, trivial, trivial, ab_s152_265, ab_s152_266, ab_s152_267, trivial, ab_s152_269, ab_s152_270, trivial, trivial, ab_s152_273, ab_s152_274, ab_s152_275, trivial, ab_s152_277, ab_s152_278, trivial, trivial, ab_s152_281, ab_s152_282, trivial, ab_s152_284, trivial, ab_s152_286, ab_s152_287, ab_s152_288, trivial⟩
theorem ab_sc152_3 : ab_all B 152 192 (ab_d152_3) := ⟨ab_s152_192, trivial, ab_s152_194, trivial, ab_s152_196, ab_s152_197, ab_s152_198, trivial, ab_s152_200, ab_s152_201, trivial, trivial, ab_s152_204, ab_s152_205, ab_s152_206, trivial, ab_s152_208, ab_s152_209, trivial, trivial, ab_s152_212, ab_s152_213, ab_s152_214, trivial, ab_s152_216, ab_s152_217, trivial, trivial, ab_s152_220, ab_s152_221, ab_s152_222, trivial, ab_s152_224, ab_s152_225, trivial, trivial, ab_s152_228, ab_s152_229, ab_s152_230, trivial, ab_s152_232, ab_s152_233, trivial, trivial, ab_s152_236, ab_s152_237, ab_s152_238, trivial, ab_s152_240, trivial, ab_s152_242, trivial, trivial, ab_s152_245, ab_s152_246, trivial, trivial, ab_s152_249, ab_s152_250, trivial, ab_s152_252, ab_s152_253, ab_s152_254, trivial, ab_sc152_4⟩
theorem ab_sc152_2 : ab_all B 152 128 (ab_d152_2) := ⟨ab_s152_128, trivial, trivial, ab_s152_131, trivial, trivial, ab_s152_134, ab_s152_135, trivial, ab_s152_137, trivial, ab_s152_139, trivial, ab_s152_141, ab_s152_142, ab_s152_143, ab_s152_144, trivial, trivial, ab_s152_147, ab_s152_148, ab_s152_149, ab_s152_150, ab_s152_151, trivial, trivial, ab_s152_154, ab_s152_155, ab_s152_156, ab_s152_157, ab_s152_158, trivial, trivial, ab_s152_161, ab_s152_162, ab_s152_163, ab_s152_164, ab_s152_165, trivial, trivial, ab_s152_168, trivial, trivial, ab_s152_171, ab_s152_172, trivial, trivial, ab_s152_175, ab_s152_176, ab_s152_177, ab_s152_178, ab_s152_179, ab_s152_180, ab_s152_181, ab_s152_182, ab_s152_183, ab_s152_184, ab_s152_185, ab_s152_186, trivial, ab_s152_188, trivial, ab_s152_190, ab_s152_191, ab_sc152_3⟩
theorem ab_sc152_1 : ab_all B 152 64 (ab_d152_1) := ⟨trivial, trivial, ab_s152_66, ab_s152_67, ab_s152_68, trivial, ab_s152_70, trivial, trivial, ab_s152_73, ab_s152_74, ab_s152_75, trivial, ab_s152_77, ab_s152_78, trivial, ab_s152_80, trivial, trivial, ab_s152_83, ab_s152_84, trivial, trivial, ab_s152_87, ab_s152_88, trivial, trivial, ab_s152_91, ab_s152_92, ab_s152_93, trivial, ab_s152_95, trivial, ab_s152_97, ab_s152_98, trivial, ab_s152_100, trivial, trivial, ab_s152_103, ab_s152_104, trivial, trivial, ab_s152_107, ab_s152_108, trivial, trivial, ab_s152_111, ab_s152_112, ab_s152_113, trivial, ab_s152_115, trivial, trivial, ab_s152_118, trivial, trivial, ab_s152_121, ab_s152_122, trivial, ab_s152_124, trivial, trivial, ab_s152_127, ab_sc152_2⟩
theorem ab_sc152_0 : ab_all B 152 0 (ab_d152_0) := ⟨ab_s152_0, ab_s152_1, ab_s152_2, ab_s152_3, trivial, trivial, ab_s152_6, ab_s152_7, ab_s152_8, ab_s152_9, trivial, ab_s152_11, ab_s152_12, trivial, ab_s152_14, trivial, ab_s152_16, trivial, ab_s152_18, trivial, trivial, ab_s152_21, ab_s152_22, trivial, ab_s152_24, ab_s152_25, trivial, ab_s152_27, ab_s152_28, trivial, ab_s152_30, trivial, trivial, ab_s152_33, ab_s152_34, trivial, trivial, ab_s152_37, ab_s152_38, ab_s152_39, ab_s152_40, trivial, trivial, ab_s152_43, trivial, trivial, ab_s152_46, ab_s152_47, ab_s152_48, ab_s152_49, trivial, ab_s152_51, ab_s152_52, trivial, ab_s152_54, ab_s152_55, trivial, ab_s152_57, trivial, ab_s152_59, ab_s152_60, trivial, trivial, ab_s152_63, ab_sc152_1⟩
theorem ab_sn152 : ab_all B 152 0 (ab_c152) := by rw [ab_cd152]; exact ab_sc152_0
theorem ab_dk153_0 : ab_dp 153 [(0, .aload_n 0, 1), (1, .iload_n 1, 1), (2, .iconst 0, 1), (3, .bipush 16, 2), (5, .invokestatic 46, 3), (8, .ifCond .ne 7, 3), (11, .iconst 1, 1), (12, .goto 4, 3), (15, .iconst 0, 1), (16, .iconst 1, 1), (17, .invokevirtual 105, 3), (20, .ifCond .eq 7, 3), (23, .iconst 0, 1), (24, .goto 8, 3), (27, .aload_n 0, 1), (28, .iload_n 1, 1)] := ab_da (by decide +kernel)
theorem ab_dk153_1 : ab_dp 153 [(29, .invokevirtual 208, 3), (32, .ireturn, 1)] := ab_da (by decide +kernel)
theorem ab_s153_0 : ab_Sn B 153 0 (ab_o_ald 0 1) := ab_s_aload_n (k := 0) (n := 0) ab_dk153_0.1 rfl
theorem ab_s153_1 : ab_Sn B 153 1 (ab_o_ild 1 2) := ab_s_iload_n (k := 1) (n := 1) ab_dk153_0.2.1 rfl
theorem ab_s153_2 : ab_Sn B 153 2 (ab_o_const 0 3) := ab_s_iconst (n := 0) ab_dk153_0.2.2.1 rfl
theorem ab_s153_3 : ab_Sn B 153 3 (ab_o_const 16 5) := ab_s_bipush (n := 16) ab_dk153_0.2.2.2.1 (by decide)
theorem ab_s153_5 : ab_Sn B 153 5 (ab_o_call none [] 100 3 3 true 8) := ab_s_callS (M' := 100) (na := 3) (i := 46) (v := true) (ab_hok_n (by decide +kernel)) (by decide +kernel) ab_dk153_0.2.2.2.2.1 (by decide +kernel) (by decide +kernel) (by decide) wf_462 wf_463 wf_464 wf_459
theorem ab_s153_8 : ab_Sn B 153 8 (ab_o_if ab_ne 15 11) := ab_s_if_ne (tg := 15) (off := 7) ab_dk153_0.2.2.2.2.2.1 (by decide)
theorem ab_s153_11 : ab_Sn B 153 11 (ab_o_const 1 12) := ab_s_iconst (n := 1) ab_dk153_0.2.2.2.2.2.2.1 rfl
theorem ab_s153_12 : ab_Sn B 153 12 (ab_o_goto 16) := ab_s_goto (tg := 16) (off := 4) ab_dk153_0.2.2.2.2.2.2.2.1 (by decide)
theorem ab_s153_15 : ab_Sn B 153 15 (ab_o_const 0 16) := ab_s_iconst (n := 0) ab_dk153_0.2.2.2.2.2.2.2.2.1 rfl
theorem ab_s153_16 : ab_Sn B 153 16 (ab_o_const 1 17) := ab_s_iconst (n := 1) ab_dk153_0.2.2.2.2.2.2.2.2.2.1 rfl
theorem ab_s153_17 : ab_Sn B 153 17 (ab_o_call (some (8, 22)) [] 102 3 3 true 20) := ab_s_callV (M' := 102) (na := 2) (i := 105) (ci := 4) (N := 22) (C := RX4) (T := TX4) (v := true) (ab_hok_n (by decide +kernel)) (by decide +kernel) ab_dk153_0.2.2.2.2.2.2.2.2.2.2.1 rfl (by decide) (by decide +kernel) (by decide +kernel) (by decide) wf_514 wf_515 wf_516 wf_517 wf_459
theorem ab_s153_20 : ab_Sn B 153 20 (ab_o_if ab_eq 27 23) := ab_s_if_eq (tg := 27) (off := 7) ab_dk153_0.2.2.2.2.2.2.2.2.2.2.2.1 (by decide)
theorem ab_s153_23 : ab_Sn B 153 23 (ab_o_const 0 24) := ab_s_iconst (n := 0) ab_dk153_0.2.2.2.2.2.2.2.2.2.2.2.2.1 rfl
theorem ab_s153_24 : ab_Sn B 153 24 (ab_o_goto 32) := ab_s_goto (tg := 32) (off := 8) ab_dk153_0.2.2.2.2.2.2.2.2.2.2.2.2.2.1 (by decide)
theorem ab_s153_27 : ab_Sn B 153 27 (ab_o_ald 0 28) := ab_s_aload_n (k := 0) (n := 0) ab_dk153_0.2.2.2.2.2.2.2.2.2.2.2.2.2.2.1 rfl
theorem ab_s153_28 : ab_Sn B 153 28 (ab_o_ild 1 29) := ab_s_iload_n (k := 1) (n := 1) ab_dk153_0.2.2.2.2.2.2.2.2.2.2.2.2.2.2.2.1 rfl
theorem ab_s153_29 : ab_Sn B 153 29 (ab_o_call (some (8, 22)) [] 152 8 2 true 32) := ab_s_callV (M' := 152) (na := 1) (i := 208) (ci := 4) (N := 22) (C := RX4) (T := TX4) (v := true) (ab_hok_n (by decide +kernel)) (by decide +kernel) ab_dk153_1.1 rfl (by decide) (by decide +kernel) (by decide +kernel) (by decide) wf_612 wf_613 wf_614 wf_615 wf_459
theorem ab_s153_32 : ab_Sn B 153 32 (ab_o_iret false) := ab_s_iret (b := false) (ty := .int) ab_dk153_1.2.1 rfl (Or.inl ⟨rfl, rfl⟩)
set_option maxRecDepth 20000 in
theorem ab_sn153 : ab_all B 153 0 (ab_c153) := ⟨ab_s153_0, ab_s153_1, ab_s153_2, ab_s153_3, trivial, ab_s153_5, trivial, trivial, ab_s153_8, trivial, trivial, ab_s153_11, ab_s153_12, trivial, trivial, ab_s153_15, ab_s153_16, ab_s153_17, trivial, trivial, ab_s153_20, trivial, trivial, ab_s153_23, ab_s153_24, trivial, trivial, ab_s153_27, ab_s153_28, ab_s153_29, trivial, trivial, ab_s153_32, trivial⟩
theorem ab_dk154_0 : ab_dp 154 [(0, .aload_n 0, 1), (1, .aload_n 0, 1), (2, .iload_n 1, 1), (3, .invokevirtual 139, 3), (6, .iconst 1, 1), (7, .invokevirtual 105, 3), (10, .ifCond .eq 6, 3), (13, .ldc 211, 2), (15, .areturn, 1), (16, .new 213, 3), (19, .dup, 1), (20, .invokespecial 215, 3), (23, .astore_n 2, 1), (24, .iconst 0, 1), (25, .istore_n 3, 1), (26, .iload_n 3, 1)] := ab_da (by decide +kernel)
theorem ab_dk154_1 : ab_dp 154 [(27, .aload_n 0, 1), (28, .getfield 43, 3), (31, .if_icmp .ge 58, 3), (34, .aload_n 2, 1), (35, .aload_n 0, 1), (36, .getfield 17, 3), (39, .iload_n 3, 1), (40, .baload, 1), (41, .ifCond .eq 8, 3), (44, .ldc 216, 2), (46, .goto 33, 3), (49, .aload_n 0, 1), (50, .iload_n 3, 1), (51, .iload_n 1, 1), (52, .invokevirtual 64, 3), (55, .ifCond .eq 8, 3)] := ab_da (by decide +kernel)
theorem ab_dk154_2 : ab_dp 154 [(58, .ldc 218, 2), (60, .goto 19, 3), (63, .iload_n 3, 1), (64, .aload_n 0, 1), (65, .iload_n 1, 1), (66, .invokevirtual 61, 3), (69, .if_icmp .ne 8, 3), (72, .ldc 220, 2), (74, .goto 5, 3), (77, .ldc 222, 2), (79, .invokevirtual 224, 3), (82, .pop, 1), (83, .iinc 3 1, 3), (86, .goto (-60), 3), (89, .aload_n 2, 1), (90, .invokevirtual 228, 3)] := ab_da (by decide +kernel)
theorem ab_dk154_3 : ab_dp 154 [(93, .areturn, 1)] := ab_da (by decide +kernel)
theorem ab_s154_0 : ab_Sn B 154 0 (ab_o_ald 0 1) := ab_s_aload_n (k := 0) (n := 0) ab_dk154_0.1 rfl
theorem ab_s154_1 : ab_Sn B 154 1 (ab_o_ald 0 2) := ab_s_aload_n (k := 0) (n := 0) ab_dk154_0.2.1 rfl
theorem ab_s154_2 : ab_Sn B 154 2 (ab_o_ild 1 3) := ab_s_iload_n (k := 1) (n := 1) ab_dk154_0.2.2.1 rfl
theorem ab_s154_3 : ab_Sn B 154 3 (ab_o_call (some (8, 22)) [] 104 2 2 true 6) := ab_s_callV (M' := 104) (na := 1) (i := 139) (ci := 4) (N := 22) (C := RX4) (T := TX4) (v := true) (ab_hok_n (by decide +kernel)) (by decide +kernel) ab_dk154_0.2.2.2.1 rfl (by decide) (by decide +kernel) (by decide +kernel) (by decide) wf_543 wf_544 wf_545 wf_546 wf_459
theorem ab_s154_6 : ab_Sn B 154 6 (ab_o_const 1 7) := ab_s_iconst (n := 1) ab_dk154_0.2.2.2.2.1 rfl
theorem ab_s154_7 : ab_Sn B 154 7 (ab_o_call (some (8, 22)) [] 102 3 3 true 10) := ab_s_callV (M' := 102) (na := 2) (i := 105) (ci := 4) (N := 22) (C := RX4) (T := TX4) (v := true) (ab_hok_n (by decide +kernel)) (by decide +kernel) ab_dk154_0.2.2.2.2.2.1 rfl (by decide) (by decide +kernel) (by decide +kernel) (by decide) wf_514 wf_515 wf_516 wf_517 wf_459
theorem ab_s154_10 : ab_Sn B 154 10 (ab_o_if ab_eq 16 13) := ab_s_if_eq (tg := 16) (off := 6) ab_dk154_0.2.2.2.2.2.2.1 (by decide)
theorem ab_s154_13 : ab_Sn B 154 13 (ab_o_txt 4 15) := ab_s_txt (i := 211) (k := 4) ab_dk154_0.2.2.2.2.2.2.2.1 wf_616
theorem ab_s154_15 : ab_Sn B 154 15 (ab_o_aret) := ab_s_aret (ty := (.object "java/lang/String")) ab_dk154_0.2.2.2.2.2.2.2.2.1 rfl (Or.inl ⟨_, rfl⟩)
theorem ab_s154_16 : ab_Sn B 154 16 (ab_o_new 9 4 19) := ab_s_new (i := 213) (ci := 5) (N := 4) (C := RJ4) (T := TJ4) ab_dk154_0.2.2.2.2.2.2.2.2.2.1 rfl (by decide) wf_617 wf_374 wf_375 (by decide +kernel)
theorem ab_s154_19 : ab_Sn B 154 19 (ab_o_dup 20) := ab_s_dup ab_dk154_0.2.2.2.2.2.2.2.2.2.2.1
theorem ab_s154_20 : ab_Sn B 154 20 (ab_o_call (some (9, 4)) [] 202 1 1 false 23) := ab_s_callI (M' := 202) (na := 0) (i := 215) (sh := (9, 4)) (by decide) (ab_hok_n (by decide +kernel)) (by decide +kernel) ab_dk154_0.2.2.2.2.2.2.2.2.2.2.2.1 (by decide +kernel) (by decide +kernel) (by decide) rfl rfl wf_376 wf_618 wf_377 wf_378
theorem ab_s154_23 : ab_Sn B 154 23 (ab_o_ast 2 24) := ab_s_astore_n (k := 2) (n := 2) ab_dk154_0.2.2.2.2.2.2.2.2.2.2.2.2.1 rfl
theorem ab_s154_24 : ab_Sn B 154 24 (ab_o_const 0 25) := ab_s_iconst (n := 0) ab_dk154_0.2.2.2.2.2.2.2.2.2.2.2.2.2.1 rfl
theorem ab_s154_25 : ab_Sn B 154 25 (ab_o_ist 3 26) := ab_s_istore_n (k := 3) (n := 3) ab_dk154_0.2.2.2.2.2.2.2.2.2.2.2.2.2.2.1 rfl
theorem ab_s154_26 : ab_Sn B 154 26 (ab_o_ild 3 27) := ab_s_iload_n (k := 3) (n := 3) ab_dk154_0.2.2.2.2.2.2.2.2.2.2.2.2.2.2.2.1 rfl
theorem ab_s154_27 : ab_Sn B 154 27 (ab_o_ald 0 28) := ab_s_aload_n (k := 0) (n := 0) ab_dk154_1.1 rfl
theorem ab_s154_28 : ab_Sn B 154 28 (ab_o_geti 8 22 1 31) := ab_s_geti (i := 43) (ci := 4) (N := 22) (k := 1) (C := RX4) (T := TX4) ab_dk154_1.2.1 rfl (by decide) rfl wf_461
theorem ab_s154_31 : ab_Sn B 154 31 (ab_o_icmp ab_ge 89 34) := ab_s_icmp_ge (tg := 89) (off := 58) ab_dk154_1.2.2.1 (by decide)
theorem ab_s154_34 : ab_Sn B 154 34 (ab_o_ald 2 35) := ab_s_aload_n (k := 2) (n := 2) ab_dk154_1.2.2.2.1 rfl
theorem ab_s154_35 : ab_Sn B 154 35 (ab_o_ald 0 36) := ab_s_aload_n (k := 0) (n := 0) ab_dk154_1.2.2.2.2.1 rfl
theorem ab_s154_36 : ab_Sn B 154 36 (ab_o_getr 8 22 6 39) := ab_s_getr (i := 17) (ci := 4) (N := 22) (k := 6) (C := RX4) (T := TX4) ab_dk154_1.2.2.2.2.2.1 rfl (by decide) rfl wf_449
theorem ab_s154_39 : ab_Sn B 154 39 (ab_o_ild 3 40) := ab_s_iload_n (k := 3) (n := 3) ab_dk154_1.2.2.2.2.2.2.1 rfl
theorem ab_s154_40 : ab_Sn B 154 40 (ab_o_xld 1 41) := ab_s_baload ab_dk154_1.2.2.2.2.2.2.2.1
theorem ab_s154_41 : ab_Sn B 154 41 (ab_o_if ab_eq 49 44) := ab_s_if_eq (tg := 49) (off := 8) ab_dk154_1.2.2.2.2.2.2.2.2.1 (by decide)
theorem ab_s154_44 : ab_Sn B 154 44 (ab_o_txt 0 46) := ab_s_txt (i := 216) (k := 0) ab_dk154_1.2.2.2.2.2.2.2.2.2.1 wf_619
theorem ab_s154_46 : ab_Sn B 154 46 (ab_o_goto 79) := ab_s_goto (tg := 79) (off := 33) ab_dk154_1.2.2.2.2.2.2.2.2.2.2.1 (by decide)
theorem ab_s154_49 : ab_Sn B 154 49 (ab_o_ald 0 50) := ab_s_aload_n (k := 0) (n := 0) ab_dk154_1.2.2.2.2.2.2.2.2.2.2.2.1 rfl
theorem ab_s154_50 : ab_Sn B 154 50 (ab_o_ild 3 51) := ab_s_iload_n (k := 3) (n := 3) ab_dk154_1.2.2.2.2.2.2.2.2.2.2.2.2.1 rfl
theorem ab_s154_51 : ab_Sn B 154 51 (ab_o_ild 1 52) := ab_s_iload_n (k := 1) (n := 1) ab_dk154_1.2.2.2.2.2.2.2.2.2.2.2.2.2.1 rfl
theorem ab_s154_52 : ab_Sn B 154 52 (ab_o_call (some (8, 22)) [] 111 3 3 true 55) := ab_s_callV (M' := 111) (na := 2) (i := 64) (ci := 4) (N := 22) (C := RX4) (T := TX4) (v := true) (ab_hok_n (by decide +kernel)) (by decide +kernel) ab_dk154_1.2.2.2.2.2.2.2.2.2.2.2.2.2.2.1 rfl (by decide) (by decide +kernel) (by decide +kernel) (by decide) wf_478 wf_479 wf_480 wf_481 wf_459
theorem ab_s154_55 : ab_Sn B 154 55 (ab_o_if ab_eq 63 58) := ab_s_if_eq (tg := 63) (off := 8) ab_dk154_1.2.2.2.2.2.2.2.2.2.2.2.2.2.2.2.1 (by decide)
theorem ab_s154_58 : ab_Sn B 154 58 (ab_o_txt 1 60) := ab_s_txt (i := 218) (k := 1) ab_dk154_2.1 wf_620
theorem ab_s154_60 : ab_Sn B 154 60 (ab_o_goto 79) := ab_s_goto (tg := 79) (off := 19) ab_dk154_2.2.1 (by decide)
theorem ab_s154_63 : ab_Sn B 154 63 (ab_o_ild 3 64) := ab_s_iload_n (k := 3) (n := 3) ab_dk154_2.2.2.1 rfl
theorem ab_s154_64 : ab_Sn B 154 64 (ab_o_ald 0 65) := ab_s_aload_n (k := 0) (n := 0) ab_dk154_2.2.2.2.1 rfl
theorem ab_s154_65 : ab_Sn B 154 65 (ab_o_ild 1 66) := ab_s_iload_n (k := 1) (n := 1) ab_dk154_2.2.2.2.2.1 rfl
theorem ab_s154_66 : ab_Sn B 154 66 (ab_o_call (some (8, 22)) [] 108 2 2 true 69) := ab_s_callV (M' := 108) (na := 1) (i := 61) (ci := 4) (N := 22) (C := RX4) (T := TX4) (v := true) (ab_hok_n (by decide +kernel)) (by decide +kernel) ab_dk154_2.2.2.2.2.2.1 rfl (by decide) (by decide +kernel) (by decide +kernel) (by decide) wf_474 wf_475 wf_476 wf_477 wf_459
theorem ab_s154_69 : ab_Sn B 154 69 (ab_o_icmp ab_ne 77 72) := ab_s_icmp_ne (tg := 77) (off := 8) ab_dk154_2.2.2.2.2.2.2.1 (by decide)
theorem ab_s154_72 : ab_Sn B 154 72 (ab_o_txt 2 74) := ab_s_txt (i := 220) (k := 2) ab_dk154_2.2.2.2.2.2.2.2.1 wf_621
theorem ab_s154_74 : ab_Sn B 154 74 (ab_o_goto 79) := ab_s_goto (tg := 79) (off := 5) ab_dk154_2.2.2.2.2.2.2.2.2.1 (by decide)
theorem ab_s154_77 : ab_Sn B 154 77 (ab_o_txt 3 79) := ab_s_txt (i := 222) (k := 3) ab_dk154_2.2.2.2.2.2.2.2.2.2.1 wf_622
theorem ab_s154_79 : ab_Sn B 154 79 (ab_o_call (some (9, 4)) [] 204 2 2 true 82) := ab_s_callV (M' := 204) (na := 1) (i := 224) (ci := 5) (N := 4) (C := RJ4) (T := TJ4) (v := true) (ab_hok_n (by decide +kernel)) (by decide +kernel) ab_dk154_2.2.2.2.2.2.2.2.2.2.2.1 rfl (by decide) (by decide +kernel) (by decide +kernel) (by decide) wf_623 wf_624 wf_625 wf_626 wf_378
theorem ab_s154_82 : ab_Sn B 154 82 (ab_o_pop 83) := ab_s_pop ab_dk154_2.2.2.2.2.2.2.2.2.2.2.2.1
theorem ab_s154_83 : ab_Sn B 154 83 (ab_o_inc 3 1 86) := ab_s_iinc (k := 3) (n := 1) ab_dk154_2.2.2.2.2.2.2.2.2.2.2.2.2.1
theorem ab_s154_86 : ab_Sn B 154 86 (ab_o_goto 26) := ab_s_goto (tg := 26) (off := -60) ab_dk154_2.2.2.2.2.2.2.2.2.2.2.2.2.2.1 (by decide)
theorem ab_s154_89 : ab_Sn B 154 89 (ab_o_ald 2 90) := ab_s_aload_n (k := 2) (n := 2) ab_dk154_2.2.2.2.2.2.2.2.2.2.2.2.2.2.2.1 rfl
theorem ab_s154_90 : ab_Sn B 154 90 (ab_o_call (some (9, 4)) [] 205 1 1 true 93) := ab_s_callV (M' := 205) (na := 0) (i := 228) (ci := 5) (N := 4) (C := RJ4) (T := TJ4) (v := true) (ab_hok_n (by decide +kernel)) (by decide +kernel) ab_dk154_2.2.2.2.2.2.2.2.2.2.2.2.2.2.2.2.1 rfl (by decide) (by decide +kernel) (by decide +kernel) (by decide) wf_388 wf_627 wf_390 wf_391 wf_378
theorem ab_s154_93 : ab_Sn B 154 93 (ab_o_aret) := ab_s_aret (ty := (.object "java/lang/String")) ab_dk154_3.1 rfl (Or.inl ⟨_, rfl⟩)
set_option maxRecDepth 20000 in
theorem ab_sn154 : ab_all B 154 0 (ab_c154) := ⟨ab_s154_0, ab_s154_1, ab_s154_2, ab_s154_3, trivial, trivial, ab_s154_6, ab_s154_7, trivial, trivial, ab_s154_10, trivial, trivial, ab_s154_13, trivial, ab_s154_15, ab_s154_16, trivial, trivial, ab_s154_19, ab_s154_20, trivial, trivial, ab_s154_23, ab_s154_24, ab_s154_25, ab_s154_26, ab_s154_27, ab_s154_28, trivial, trivial, ab_s154_31, trivial, trivial, ab_s154_34, ab_s154_35, ab_s154_36, trivial, trivial, ab_s154_39, ab_s154_40, ab_s154_41, trivial, trivial, ab_s154_44, trivial, ab_s154_46, trivial, trivial, ab_s154_49, ab_s154_50, ab_s154_51, ab_s154_52, trivial, trivial, ab_s154_55, trivial, trivial, ab_s154_58, trivial, ab_s154_60, trivial, trivial, ab_s154_63, ab_s154_64, ab_s154_65, ab_s154_66, trivial, trivial, ab_s154_69, trivial, trivial, ab_s154_72, trivial, ab_s154_74, trivial, trivial, ab_s154_77, trivial, ab_s154_79, trivial, trivial, ab_s154_82, ab_s154_83, trivial, trivial, ab_s154_86, trivial, trivial, ab_s154_89, ab_s154_90, trivial, trivial, ab_s154_93, trivial⟩
theorem ab_dk155_0 : ab_dp 155 [(0, .aload_n 0, 1), (1, .invokevirtual 183, 3), (4, .astore_n 2, 1), (5, .aload_n 2, 1), (6, .ifnonnull 5, 3), (9, .iconst (-1), 1), (10, .ireturn, 1), (11, .iconst 0, 1), (12, .istore_n 3, 1), (13, .iconst 0, 1), (14, .istore 4, 2), (16, .iload 4, 2), (18, .aload_n 0, 1), (19, .getfield 43, 3), (22, .if_icmp .ge 25, 3), (25, .iload_n 3, 1)] := ab_da (by decide +kernel)
theorem ab_dk155_1 : ab_dp 155 [(26, .aload_n 0, 1), (27, .iload 4, 2), (29, .aload_n 2, 1), (30, .iconst 0, 1), (31, .aaload, 1), (32, .iload 4, 2), (34, .iaload, 1), (35, .iload_n 1, 1), (36, .invokevirtual 148, 3), (39, .iadd, 1), (40, .istore_n 3, 1), (41, .iinc 4 1, 3), (44, .goto (-28), 3), (47, .iload_n 3, 1), (48, .ireturn, 1)] := ab_da (by decide +kernel)
theorem ab_s155_0 : ab_Sn B 155 0 (ab_o_ald 0 1) := ab_s_aload_n (k := 0) (n := 0) ab_dk155_0.1 rfl
theorem ab_s155_1 : ab_Sn B 155 1 (ab_o_call (some (8, 22)) [] 137 1 1 true 4) := ab_s_callV (M' := 137) (na := 0) (i := 183) (ci := 4) (N := 22) (C := RX4) (T := TX4) (v := true) (ab_hok_n (by decide +kernel)) (by decide +kernel) ab_dk155_0.2.1 rfl (by decide) (by decide +kernel) (by decide +kernel) (by decide) wf_583 wf_584 wf_585 wf_586 wf_459
theorem ab_s155_4 : ab_Sn B 155 4 (ab_o_ast 2 5) := ab_s_astore_n (k := 2) (n := 2) ab_dk155_0.2.2.1 rfl
theorem ab_s155_5 : ab_Sn B 155 5 (ab_o_ald 2 6) := ab_s_aload_n (k := 2) (n := 2) ab_dk155_0.2.2.2.1 rfl
theorem ab_s155_6 : ab_Sn B 155 6 (ab_o_ifn false 11 9) := ab_s_ifnonnull (tg := 11) (off := 5) ab_dk155_0.2.2.2.2.1 (by decide)
theorem ab_s155_9 : ab_Sn B 155 9 (ab_o_const (-1) 10) := ab_s_iconst (n := (-1)) ab_dk155_0.2.2.2.2.2.1 rfl
theorem ab_s155_10 : ab_Sn B 155 10 (ab_o_iret false) := ab_s_iret (b := false) (ty := .int) ab_dk155_0.2.2.2.2.2.2.1 rfl (Or.inl ⟨rfl, rfl⟩)
theorem ab_s155_11 : ab_Sn B 155 11 (ab_o_const 0 12) := ab_s_iconst (n := 0) ab_dk155_0.2.2.2.2.2.2.2.1 rfl
theorem ab_s155_12 : ab_Sn B 155 12 (ab_o_ist 3 13) := ab_s_istore_n (k := 3) (n := 3) ab_dk155_0.2.2.2.2.2.2.2.2.1 rfl
theorem ab_s155_13 : ab_Sn B 155 13 (ab_o_const 0 14) := ab_s_iconst (n := 0) ab_dk155_0.2.2.2.2.2.2.2.2.2.1 rfl
theorem ab_s155_14 : ab_Sn B 155 14 (ab_o_ist 4 16) := ab_s_istore (k := 4) ab_dk155_0.2.2.2.2.2.2.2.2.2.2.1
theorem ab_s155_16 : ab_Sn B 155 16 (ab_o_ild 4 18) := ab_s_iload (k := 4) ab_dk155_0.2.2.2.2.2.2.2.2.2.2.2.1
theorem ab_s155_18 : ab_Sn B 155 18 (ab_o_ald 0 19) := ab_s_aload_n (k := 0) (n := 0) ab_dk155_0.2.2.2.2.2.2.2.2.2.2.2.2.1 rfl
theorem ab_s155_19 : ab_Sn B 155 19 (ab_o_geti 8 22 1 22) := ab_s_geti (i := 43) (ci := 4) (N := 22) (k := 1) (C := RX4) (T := TX4) ab_dk155_0.2.2.2.2.2.2.2.2.2.2.2.2.2.1 rfl (by decide) rfl wf_461
theorem ab_s155_22 : ab_Sn B 155 22 (ab_o_icmp ab_ge 47 25) := ab_s_icmp_ge (tg := 47) (off := 25) ab_dk155_0.2.2.2.2.2.2.2.2.2.2.2.2.2.2.1 (by decide)
theorem ab_s155_25 : ab_Sn B 155 25 (ab_o_ild 3 26) := ab_s_iload_n (k := 3) (n := 3) ab_dk155_0.2.2.2.2.2.2.2.2.2.2.2.2.2.2.2.1 rfl
theorem ab_s155_26 : ab_Sn B 155 26 (ab_o_ald 0 27) := ab_s_aload_n (k := 0) (n := 0) ab_dk155_1.1 rfl
theorem ab_s155_27 : ab_Sn B 155 27 (ab_o_ild 4 29) := ab_s_iload (k := 4) ab_dk155_1.2.1
theorem ab_s155_29 : ab_Sn B 155 29 (ab_o_ald 2 30) := ab_s_aload_n (k := 2) (n := 2) ab_dk155_1.2.2.1 rfl
theorem ab_s155_30 : ab_Sn B 155 30 (ab_o_const 0 31) := ab_s_iconst (n := 0) ab_dk155_1.2.2.2.1 rfl
theorem ab_s155_31 : ab_Sn B 155 31 (ab_o_aald 32) := ab_s_aald ab_dk155_1.2.2.2.2.1
theorem ab_s155_32 : ab_Sn B 155 32 (ab_o_ild 4 34) := ab_s_iload (k := 4) ab_dk155_1.2.2.2.2.2.1
theorem ab_s155_34 : ab_Sn B 155 34 (ab_o_xld 0 35) := ab_s_iaload ab_dk155_1.2.2.2.2.2.2.1
theorem ab_s155_35 : ab_Sn B 155 35 (ab_o_ild 1 36) := ab_s_iload_n (k := 1) (n := 1) ab_dk155_1.2.2.2.2.2.2.2.1 rfl
theorem ab_s155_36 : ab_Sn B 155 36 (ab_o_call (some (8, 22)) [] 132 4 4 true 39) := ab_s_callV (M' := 132) (na := 3) (i := 148) (ci := 4) (N := 22) (C := RX4) (T := TX4) (v := true) (ab_hok_n (by decide +kernel)) (by decide +kernel) ab_dk155_1.2.2.2.2.2.2.2.2.1 rfl (by decide) (by decide +kernel) (by decide +kernel) (by decide) wf_555 wf_556 wf_557 wf_558 wf_459
theorem ab_s155_39 : ab_Sn B 155 39 (ab_o_bin (fun a b => a + b) 40) := ab_s_iadd ab_dk155_1.2.2.2.2.2.2.2.2.2.1
theorem ab_s155_40 : ab_Sn B 155 40 (ab_o_ist 3 41) := ab_s_istore_n (k := 3) (n := 3) ab_dk155_1.2.2.2.2.2.2.2.2.2.2.1 rfl
theorem ab_s155_41 : ab_Sn B 155 41 (ab_o_inc 4 1 44) := ab_s_iinc (k := 4) (n := 1) ab_dk155_1.2.2.2.2.2.2.2.2.2.2.2.1
theorem ab_s155_44 : ab_Sn B 155 44 (ab_o_goto 16) := ab_s_goto (tg := 16) (off := -28) ab_dk155_1.2.2.2.2.2.2.2.2.2.2.2.2.1 (by decide)
theorem ab_s155_47 : ab_Sn B 155 47 (ab_o_ild 3 48) := ab_s_iload_n (k := 3) (n := 3) ab_dk155_1.2.2.2.2.2.2.2.2.2.2.2.2.2.1 rfl
theorem ab_s155_48 : ab_Sn B 155 48 (ab_o_iret false) := ab_s_iret (b := false) (ty := .int) ab_dk155_1.2.2.2.2.2.2.2.2.2.2.2.2.2.2.1 rfl (Or.inl ⟨rfl, rfl⟩)
set_option maxRecDepth 20000 in
theorem ab_sn155 : ab_all B 155 0 (ab_c155) := ⟨ab_s155_0, ab_s155_1, trivial, trivial, ab_s155_4, ab_s155_5, ab_s155_6, trivial, trivial, ab_s155_9, ab_s155_10, ab_s155_11, ab_s155_12, ab_s155_13, ab_s155_14, trivial, ab_s155_16, trivial, ab_s155_18, ab_s155_19, trivial, trivial, ab_s155_22, trivial, trivial, ab_s155_25, ab_s155_26, ab_s155_27, trivial, ab_s155_29, ab_s155_30, ab_s155_31, ab_s155_32, trivial, ab_s155_34, ab_s155_35, ab_s155_36, trivial, trivial, ab_s155_39, ab_s155_40, ab_s155_41, trivial, trivial, ab_s155_44, trivial, trivial, ab_s155_47, ab_s155_48, trivial⟩
theorem ab_dk156_0 : ab_dp 156 [(0, .aload_n 0, 1), (1, .iload_n 1, 1), (2, .iconst 0, 1), (3, .sipush 999, 3), (6, .invokestatic 46, 3), (9, .ifCond .ne 7, 3), (12, .iconst 1, 1), (13, .goto 4, 3), (16, .iconst 0, 1), (17, .iconst 1, 1), (18, .invokevirtual 105, 3), (21, .ifCond .eq 7, 3), (24, .iconst 0, 1), (25, .goto 8, 3), (28, .aload_n 0, 1), (29, .iload_n 1, 1)] := ab_da (by decide +kernel)
theorem ab_dk156_1 : ab_dp 156 [(30, .invokevirtual 232, 3), (33, .ireturn, 1)] := ab_da (by decide +kernel)
theorem ab_s156_0 : ab_Sn B 156 0 (ab_o_ald 0 1) := ab_s_aload_n (k := 0) (n := 0) ab_dk156_0.1 rfl
theorem ab_s156_1 : ab_Sn B 156 1 (ab_o_ild 1 2) := ab_s_iload_n (k := 1) (n := 1) ab_dk156_0.2.1 rfl
theorem ab_s156_2 : ab_Sn B 156 2 (ab_o_const 0 3) := ab_s_iconst (n := 0) ab_dk156_0.2.2.1 rfl
theorem ab_s156_3 : ab_Sn B 156 3 (ab_o_const 999 6) := ab_s_sipush (n := 999) ab_dk156_0.2.2.2.1 (by decide)
theorem ab_s156_6 : ab_Sn B 156 6 (ab_o_call none [] 100 3 3 true 9) := ab_s_callS (M' := 100) (na := 3) (i := 46) (v := true) (ab_hok_n (by decide +kernel)) (by decide +kernel) ab_dk156_0.2.2.2.2.1 (by decide +kernel) (by decide +kernel) (by decide) wf_462 wf_463 wf_464 wf_459
theorem ab_s156_9 : ab_Sn B 156 9 (ab_o_if ab_ne 16 12) := ab_s_if_ne (tg := 16) (off := 7) ab_dk156_0.2.2.2.2.2.1 (by decide)
theorem ab_s156_12 : ab_Sn B 156 12 (ab_o_const 1 13) := ab_s_iconst (n := 1) ab_dk156_0.2.2.2.2.2.2.1 rfl
theorem ab_s156_13 : ab_Sn B 156 13 (ab_o_goto 17) := ab_s_goto (tg := 17) (off := 4) ab_dk156_0.2.2.2.2.2.2.2.1 (by decide)
theorem ab_s156_16 : ab_Sn B 156 16 (ab_o_const 0 17) := ab_s_iconst (n := 0) ab_dk156_0.2.2.2.2.2.2.2.2.1 rfl
theorem ab_s156_17 : ab_Sn B 156 17 (ab_o_const 1 18) := ab_s_iconst (n := 1) ab_dk156_0.2.2.2.2.2.2.2.2.2.1 rfl
theorem ab_s156_18 : ab_Sn B 156 18 (ab_o_call (some (8, 22)) [] 102 3 3 true 21) := ab_s_callV (M' := 102) (na := 2) (i := 105) (ci := 4) (N := 22) (C := RX4) (T := TX4) (v := true) (ab_hok_n (by decide +kernel)) (by decide +kernel) ab_dk156_0.2.2.2.2.2.2.2.2.2.2.1 rfl (by decide) (by decide +kernel) (by decide +kernel) (by decide) wf_514 wf_515 wf_516 wf_517 wf_459
theorem ab_s156_21 : ab_Sn B 156 21 (ab_o_if ab_eq 28 24) := ab_s_if_eq (tg := 28) (off := 7) ab_dk156_0.2.2.2.2.2.2.2.2.2.2.2.1 (by decide)
theorem ab_s156_24 : ab_Sn B 156 24 (ab_o_const 0 25) := ab_s_iconst (n := 0) ab_dk156_0.2.2.2.2.2.2.2.2.2.2.2.2.1 rfl
theorem ab_s156_25 : ab_Sn B 156 25 (ab_o_goto 33) := ab_s_goto (tg := 33) (off := 8) ab_dk156_0.2.2.2.2.2.2.2.2.2.2.2.2.2.1 (by decide)
theorem ab_s156_28 : ab_Sn B 156 28 (ab_o_ald 0 29) := ab_s_aload_n (k := 0) (n := 0) ab_dk156_0.2.2.2.2.2.2.2.2.2.2.2.2.2.2.1 rfl
theorem ab_s156_29 : ab_Sn B 156 29 (ab_o_ild 1 30) := ab_s_iload_n (k := 1) (n := 1) ab_dk156_0.2.2.2.2.2.2.2.2.2.2.2.2.2.2.2.1 rfl
theorem ab_s156_30 : ab_Sn B 156 30 (ab_o_call (some (8, 22)) [] 155 5 2 true 33) := ab_s_callV (M' := 155) (na := 1) (i := 232) (ci := 4) (N := 22) (C := RX4) (T := TX4) (v := true) (ab_hok_n (by decide +kernel)) (by decide +kernel) ab_dk156_1.1 rfl (by decide) (by decide +kernel) (by decide +kernel) (by decide) wf_628 wf_629 wf_630 wf_631 wf_459
theorem ab_s156_33 : ab_Sn B 156 33 (ab_o_iret false) := ab_s_iret (b := false) (ty := .int) ab_dk156_1.2.1 rfl (Or.inl ⟨rfl, rfl⟩)
set_option maxRecDepth 20000 in
theorem ab_sn156 : ab_all B 156 0 (ab_c156) := ⟨ab_s156_0, ab_s156_1, ab_s156_2, ab_s156_3, trivial, trivial, ab_s156_6, trivial, trivial, ab_s156_9, trivial, trivial, ab_s156_12, ab_s156_13, trivial, trivial, ab_s156_16, ab_s156_17, ab_s156_18, trivial, trivial, ab_s156_21, trivial, trivial, ab_s156_24, ab_s156_25, trivial, trivial, ab_s156_28, ab_s156_29, ab_s156_30, trivial, trivial, ab_s156_33, trivial⟩
theorem ab_dk157_0 : ab_dp 157 [(0, .aload_n 0, 1), (1, .iload_n 1, 1), (2, .iconst 0, 1), (3, .bipush 20, 2), (5, .invokestatic 46, 3), (8, .ifCond .ne 7, 3), (11, .iconst 1, 1), (12, .goto 4, 3), (15, .iconst 0, 1), (16, .iconst 1, 1), (17, .invokevirtual 105, 3), (20, .ifCond .ne 23, 3), (23, .aload_n 0, 1), (24, .aload_n 0, 1), (25, .getfield 43, 3), (28, .ifCond .ne 7, 3)] := ab_da (by decide +kernel)
theorem ab_dk157_1 : ab_dp 157 [(31, .iconst 1, 1), (32, .goto 4, 3), (35, .iconst 0, 1), (36, .iconst 2, 1), (37, .invokevirtual 39, 3), (40, .ifCond .eq 7, 3), (43, .iconst 0, 1), (44, .goto 8, 3), (47, .aload_n 0, 1), (48, .iload_n 1, 1), (49, .invokevirtual 190, 3), (52, .ireturn, 1)] := ab_da (by decide +kernel)
theorem ab_s157_0 : ab_Sn B 157 0 (ab_o_ald 0 1) := ab_s_aload_n (k := 0) (n := 0) ab_dk157_0.1 rfl
theorem ab_s157_1 : ab_Sn B 157 1 (ab_o_ild 1 2) := ab_s_iload_n (k := 1) (n := 1) ab_dk157_0.2.1 rfl
theorem ab_s157_2 : ab_Sn B 157 2 (ab_o_const 0 3) := ab_s_iconst (n := 0) ab_dk157_0.2.2.1 rfl
theorem ab_s157_3 : ab_Sn B 157 3 (ab_o_const 20 5) := ab_s_bipush (n := 20) ab_dk157_0.2.2.2.1 (by decide)
theorem ab_s157_5 : ab_Sn B 157 5 (ab_o_call none [] 100 3 3 true 8) := ab_s_callS (M' := 100) (na := 3) (i := 46) (v := true) (ab_hok_n (by decide +kernel)) (by decide +kernel) ab_dk157_0.2.2.2.2.1 (by decide +kernel) (by decide +kernel) (by decide) wf_462 wf_463 wf_464 wf_459
theorem ab_s157_8 : ab_Sn B 157 8 (ab_o_if ab_ne 15 11) := ab_s_if_ne (tg := 15) (off := 7) ab_dk157_0.2.2.2.2.2.1 (by decide)
theorem ab_s157_11 : ab_Sn B 157 11 (ab_o_const 1 12) := ab_s_iconst (n := 1) ab_dk157_0.2.2.2.2.2.2.1 rfl
theorem ab_s157_12 : ab_Sn B 157 12 (ab_o_goto 16) := ab_s_goto (tg := 16) (off := 4) ab_dk157_0.2.2.2.2.2.2.2.1 (by decide)
theorem ab_s157_15 : ab_Sn B 157 15 (ab_o_const 0 16) := ab_s_iconst (n := 0) ab_dk157_0.2.2.2.2.2.2.2.2.1 rfl
theorem ab_s157_16 : ab_Sn B 157 16 (ab_o_const 1 17) := ab_s_iconst (n := 1) ab_dk157_0.2.2.2.2.2.2.2.2.2.1 rfl
theorem ab_s157_17 : ab_Sn B 157 17 (ab_o_call (some (8, 22)) [] 102 3 3 true 20) := ab_s_callV (M' := 102) (na := 2) (i := 105) (ci := 4) (N := 22) (C := RX4) (T := TX4) (v := true) (ab_hok_n (by decide +kernel)) (by decide +kernel) ab_dk157_0.2.2.2.2.2.2.2.2.2.2.1 rfl (by decide) (by decide +kernel) (by decide +kernel) (by decide) wf_514 wf_515 wf_516 wf_517 wf_459
theorem ab_s157_20 : ab_Sn B 157 20 (ab_o_if ab_ne 43 23) := ab_s_if_ne (tg := 43) (off := 23) ab_dk157_0.2.2.2.2.2.2.2.2.2.2.2.1 (by decide)
theorem ab_s157_23 : ab_Sn B 157 23 (ab_o_ald 0 24) := ab_s_aload_n (k := 0) (n := 0) ab_dk157_0.2.2.2.2.2.2.2.2.2.2.2.2.1 rfl
theorem ab_s157_24 : ab_Sn B 157 24 (ab_o_ald 0 25) := ab_s_aload_n (k := 0) (n := 0) ab_dk157_0.2.2.2.2.2.2.2.2.2.2.2.2.2.1 rfl
theorem ab_s157_25 : ab_Sn B 157 25 (ab_o_geti 8 22 1 28) := ab_s_geti (i := 43) (ci := 4) (N := 22) (k := 1) (C := RX4) (T := TX4) ab_dk157_0.2.2.2.2.2.2.2.2.2.2.2.2.2.2.1 rfl (by decide) rfl wf_461
theorem ab_s157_28 : ab_Sn B 157 28 (ab_o_if ab_ne 35 31) := ab_s_if_ne (tg := 35) (off := 7) ab_dk157_0.2.2.2.2.2.2.2.2.2.2.2.2.2.2.2.1 (by decide)
theorem ab_s157_31 : ab_Sn B 157 31 (ab_o_const 1 32) := ab_s_iconst (n := 1) ab_dk157_1.1 rfl
theorem ab_s157_32 : ab_Sn B 157 32 (ab_o_goto 36) := ab_s_goto (tg := 36) (off := 4) ab_dk157_1.2.1 (by decide)
theorem ab_s157_35 : ab_Sn B 157 35 (ab_o_const 0 36) := ab_s_iconst (n := 0) ab_dk157_1.2.2.1 rfl
theorem ab_s157_36 : ab_Sn B 157 36 (ab_o_const 2 37) := ab_s_iconst (n := 2) ab_dk157_1.2.2.2.1 rfl
theorem ab_s157_37 : ab_Sn B 157 37 (ab_o_call (some (8, 22)) [] 101 3 3 true 40) := ab_s_callV (M' := 101) (na := 2) (i := 39) (ci := 4) (N := 22) (C := RX4) (T := TX4) (v := true) (ab_hok_n (by decide +kernel)) (by decide +kernel) ab_dk157_1.2.2.2.2.1 rfl (by decide) (by decide +kernel) (by decide +kernel) (by decide) wf_456 wf_457 wf_458 wf_460 wf_459
theorem ab_s157_40 : ab_Sn B 157 40 (ab_o_if ab_eq 47 43) := ab_s_if_eq (tg := 47) (off := 7) ab_dk157_1.2.2.2.2.2.1 (by decide)
theorem ab_s157_43 : ab_Sn B 157 43 (ab_o_const 0 44) := ab_s_iconst (n := 0) ab_dk157_1.2.2.2.2.2.2.1 rfl
theorem ab_s157_44 : ab_Sn B 157 44 (ab_o_goto 52) := ab_s_goto (tg := 52) (off := 8) ab_dk157_1.2.2.2.2.2.2.2.1 (by decide)
theorem ab_s157_47 : ab_Sn B 157 47 (ab_o_ald 0 48) := ab_s_aload_n (k := 0) (n := 0) ab_dk157_1.2.2.2.2.2.2.2.2.1 rfl
theorem ab_s157_48 : ab_Sn B 157 48 (ab_o_ild 1 49) := ab_s_iload_n (k := 1) (n := 1) ab_dk157_1.2.2.2.2.2.2.2.2.2.1 rfl
theorem ab_s157_49 : ab_Sn B 157 49 (ab_o_call (some (8, 22)) [] 142 4 2 true 52) := ab_s_callV (M' := 142) (na := 1) (i := 190) (ci := 4) (N := 22) (C := RX4) (T := TX4) (v := true) (ab_hok_n (by decide +kernel)) (by decide +kernel) ab_dk157_1.2.2.2.2.2.2.2.2.2.2.1 rfl (by decide) (by decide +kernel) (by decide +kernel) (by decide) wf_591 wf_592 wf_593 wf_594 wf_459
theorem ab_s157_52 : ab_Sn B 157 52 (ab_o_iret false) := ab_s_iret (b := false) (ty := .int) ab_dk157_1.2.2.2.2.2.2.2.2.2.2.2.1 rfl (Or.inl ⟨rfl, rfl⟩)
set_option maxRecDepth 20000 in
theorem ab_sn157 : ab_all B 157 0 (ab_c157) := ⟨ab_s157_0, ab_s157_1, ab_s157_2, ab_s157_3, trivial, ab_s157_5, trivial, trivial, ab_s157_8, trivial, trivial, ab_s157_11, ab_s157_12, trivial, trivial, ab_s157_15, ab_s157_16, ab_s157_17, trivial, trivial, ab_s157_20, trivial, trivial, ab_s157_23, ab_s157_24, ab_s157_25, trivial, trivial, ab_s157_28, trivial, trivial, ab_s157_31, ab_s157_32, trivial, trivial, ab_s157_35, ab_s157_36, ab_s157_37, trivial, trivial, ab_s157_40, trivial, trivial, ab_s157_43, ab_s157_44, trivial, trivial, ab_s157_47, ab_s157_48, ab_s157_49, trivial, trivial, ab_s157_52, trivial⟩
theorem ab_dk158_0 : ab_dp 158 [(0, .aload_n 0, 1), (1, .aload_n 0, 1), (2, .iload_n 1, 1), (3, .invokevirtual 133, 3), (6, .ifCond .ne 11, 3), (9, .aload_n 0, 1), (10, .iload_n 2, 1), (11, .invokevirtual 133, 3), (14, .ifCond .eq 7, 3), (17, .iconst 1, 1), (18, .goto 4, 3), (21, .iconst 0, 1), (22, .iconst 1, 1), (23, .invokevirtual 105, 3), (26, .ifCond .ne 21, 3), (29, .aload_n 0, 1)] := ab_da (by decide +kernel)
theorem ab_dk158_1 : ab_dp 158 [(30, .iload_n 1, 1), (31, .iload_n 2, 1), (32, .if_icmp .ne 7, 3), (35, .iconst 1, 1), (36, .goto 4, 3), (39, .iconst 0, 1), (40, .iconst 2, 1), (41, .invokevirtual 39, 3), (44, .ifCond .eq 5, 3), (47, .iconst 0, 1), (48, .ireturn, 1), (49, .aload_n 0, 1), (50, .getfield 17, 3), (53, .iload_n 1, 1), (54, .baload, 1), (55, .istore_n 3, 1)] := ab_da (by decide +kernel)
theorem ab_dk158_2 : ab_dp 158 [(56, .aload_n 0, 1), (57, .getfield 17, 3), (60, .iload_n 2, 1), (61, .baload, 1), (62, .istore 4, 2), (64, .aload_n 0, 1), (65, .getfield 17, 3), (68, .iload_n 1, 1), (69, .iconst 1, 1), (70, .bastore, 1), (71, .aload_n 0, 1), (72, .getfield 17, 3), (75, .iload_n 2, 1), (76, .iconst 1, 1), (77, .bastore, 1), (78, .aload_n 0, 1)] := ab_da (by decide +kernel)
theorem ab_dk158_3 : ab_dp 158 [(79, .invokevirtual 136, 3), (82, .istore 5, 2), (84, .aload_n 0, 1), (85, .getfield 17, 3), (88, .iload_n 1, 1), (89, .iload_n 3, 1), (90, .bastore, 1), (91, .aload_n 0, 1), (92, .getfield 17, 3), (95, .iload_n 2, 1), (96, .iload 4, 2), (98, .bastore, 1), (99, .iload 5, 2), (101, .ireturn, 1)] := ab_da (by decide +kernel)
theorem ab_s158_0 : ab_Sn B 158 0 (ab_o_ald 0 1) := ab_s_aload_n (k := 0) (n := 0) ab_dk158_0.1 rfl
theorem ab_s158_1 : ab_Sn B 158 1 (ab_o_ald 0 2) := ab_s_aload_n (k := 0) (n := 0) ab_dk158_0.2.1 rfl
theorem ab_s158_2 : ab_Sn B 158 2 (ab_o_ild 1 3) := ab_s_iload_n (k := 1) (n := 1) ab_dk158_0.2.2.1 rfl
theorem ab_s158_3 : ab_Sn B 158 3 (ab_o_call (some (8, 22)) [] 103 2 2 true 6) := ab_s_callV (M' := 103) (na := 1) (i := 133) (ci := 4) (N := 22) (C := RX4) (T := TX4) (v := true) (ab_hok_n (by decide +kernel)) (by decide +kernel) ab_dk158_0.2.2.2.1 rfl (by decide) (by decide +kernel) (by decide +kernel) (by decide) wf_535 wf_536 wf_537 wf_538 wf_459
theorem ab_s158_6 : ab_Sn B 158 6 (ab_o_if ab_ne 17 9) := ab_s_if_ne (tg := 17) (off := 11) ab_dk158_0.2.2.2.2.1 (by decide)
theorem ab_s158_9 : ab_Sn B 158 9 (ab_o_ald 0 10) := ab_s_aload_n (k := 0) (n := 0) ab_dk158_0.2.2.2.2.2.1 rfl
theorem ab_s158_10 : ab_Sn B 158 10 (ab_o_ild 2 11) := ab_s_iload_n (k := 2) (n := 2) ab_dk158_0.2.2.2.2.2.2.1 rfl
theorem ab_s158_11 : ab_Sn B 158 11 (ab_o_call (some (8, 22)) [] 103 2 2 true 14) := ab_s_callV (M' := 103) (na := 1) (i := 133) (ci := 4) (N := 22) (C := RX4) (T := TX4) (v := true) (ab_hok_n (by decide +kernel)) (by decide +kernel) ab_dk158_0.2.2.2.2.2.2.2.1 rfl (by decide) (by decide +kernel) (by decide +kernel) (by decide) wf_535 wf_536 wf_537 wf_538 wf_459
theorem ab_s158_14 : ab_Sn B 158 14 (ab_o_if ab_eq 21 17) := ab_s_if_eq (tg := 21) (off := 7) ab_dk158_0.2.2.2.2.2.2.2.2.1 (by decide)
theorem ab_s158_17 : ab_Sn B 158 17 (ab_o_const 1 18) := ab_s_iconst (n := 1) ab_dk158_0.2.2.2.2.2.2.2.2.2.1 rfl
theorem ab_s158_18 : ab_Sn B 158 18 (ab_o_goto 22) := ab_s_goto (tg := 22) (off := 4) ab_dk158_0.2.2.2.2.2.2.2.2.2.2.1 (by decide)
theorem ab_s158_21 : ab_Sn B 158 21 (ab_o_const 0 22) := ab_s_iconst (n := 0) ab_dk158_0.2.2.2.2.2.2.2.2.2.2.2.1 rfl
theorem ab_s158_22 : ab_Sn B 158 22 (ab_o_const 1 23) := ab_s_iconst (n := 1) ab_dk158_0.2.2.2.2.2.2.2.2.2.2.2.2.1 rfl
theorem ab_s158_23 : ab_Sn B 158 23 (ab_o_call (some (8, 22)) [] 102 3 3 true 26) := ab_s_callV (M' := 102) (na := 2) (i := 105) (ci := 4) (N := 22) (C := RX4) (T := TX4) (v := true) (ab_hok_n (by decide +kernel)) (by decide +kernel) ab_dk158_0.2.2.2.2.2.2.2.2.2.2.2.2.2.1 rfl (by decide) (by decide +kernel) (by decide +kernel) (by decide) wf_514 wf_515 wf_516 wf_517 wf_459
theorem ab_s158_26 : ab_Sn B 158 26 (ab_o_if ab_ne 47 29) := ab_s_if_ne (tg := 47) (off := 21) ab_dk158_0.2.2.2.2.2.2.2.2.2.2.2.2.2.2.1 (by decide)
theorem ab_s158_29 : ab_Sn B 158 29 (ab_o_ald 0 30) := ab_s_aload_n (k := 0) (n := 0) ab_dk158_0.2.2.2.2.2.2.2.2.2.2.2.2.2.2.2.1 rfl
theorem ab_s158_30 : ab_Sn B 158 30 (ab_o_ild 1 31) := ab_s_iload_n (k := 1) (n := 1) ab_dk158_1.1 rfl
theorem ab_s158_31 : ab_Sn B 158 31 (ab_o_ild 2 32) := ab_s_iload_n (k := 2) (n := 2) ab_dk158_1.2.1 rfl
theorem ab_s158_32 : ab_Sn B 158 32 (ab_o_icmp ab_ne 39 35) := ab_s_icmp_ne (tg := 39) (off := 7) ab_dk158_1.2.2.1 (by decide)
theorem ab_s158_35 : ab_Sn B 158 35 (ab_o_const 1 36) := ab_s_iconst (n := 1) ab_dk158_1.2.2.2.1 rfl
theorem ab_s158_36 : ab_Sn B 158 36 (ab_o_goto 40) := ab_s_goto (tg := 40) (off := 4) ab_dk158_1.2.2.2.2.1 (by decide)
theorem ab_s158_39 : ab_Sn B 158 39 (ab_o_const 0 40) := ab_s_iconst (n := 0) ab_dk158_1.2.2.2.2.2.1 rfl
theorem ab_s158_40 : ab_Sn B 158 40 (ab_o_const 2 41) := ab_s_iconst (n := 2) ab_dk158_1.2.2.2.2.2.2.1 rfl
theorem ab_s158_41 : ab_Sn B 158 41 (ab_o_call (some (8, 22)) [] 101 3 3 true 44) := ab_s_callV (M' := 101) (na := 2) (i := 39) (ci := 4) (N := 22) (C := RX4) (T := TX4) (v := true) (ab_hok_n (by decide +kernel)) (by decide +kernel) ab_dk158_1.2.2.2.2.2.2.2.1 rfl (by decide) (by decide +kernel) (by decide +kernel) (by decide) wf_456 wf_457 wf_458 wf_460 wf_459
theorem ab_s158_44 : ab_Sn B 158 44 (ab_o_if ab_eq 49 47) := ab_s_if_eq (tg := 49) (off := 5) ab_dk158_1.2.2.2.2.2.2.2.2.1 (by decide)
theorem ab_s158_47 : ab_Sn B 158 47 (ab_o_const 0 48) := ab_s_iconst (n := 0) ab_dk158_1.2.2.2.2.2.2.2.2.2.1 rfl
theorem ab_s158_48 : ab_Sn B 158 48 (ab_o_iret false) := ab_s_iret (b := false) (ty := .int) ab_dk158_1.2.2.2.2.2.2.2.2.2.2.1 rfl (Or.inl ⟨rfl, rfl⟩)
theorem ab_s158_49 : ab_Sn B 158 49 (ab_o_ald 0 50) := ab_s_aload_n (k := 0) (n := 0) ab_dk158_1.2.2.2.2.2.2.2.2.2.2.2.1 rfl
theorem ab_s158_50 : ab_Sn B 158 50 (ab_o_getr 8 22 6 53) := ab_s_getr (i := 17) (ci := 4) (N := 22) (k := 6) (C := RX4) (T := TX4) ab_dk158_1.2.2.2.2.2.2.2.2.2.2.2.2.1 rfl (by decide) rfl wf_449
theorem ab_s158_53 : ab_Sn B 158 53 (ab_o_ild 1 54) := ab_s_iload_n (k := 1) (n := 1) ab_dk158_1.2.2.2.2.2.2.2.2.2.2.2.2.2.1 rfl
theorem ab_s158_54 : ab_Sn B 158 54 (ab_o_xld 1 55) := ab_s_baload ab_dk158_1.2.2.2.2.2.2.2.2.2.2.2.2.2.2.1
theorem ab_s158_55 : ab_Sn B 158 55 (ab_o_ist 3 56) := ab_s_istore_n (k := 3) (n := 3) ab_dk158_1.2.2.2.2.2.2.2.2.2.2.2.2.2.2.2.1 rfl
theorem ab_s158_56 : ab_Sn B 158 56 (ab_o_ald 0 57) := ab_s_aload_n (k := 0) (n := 0) ab_dk158_2.1 rfl
theorem ab_s158_57 : ab_Sn B 158 57 (ab_o_getr 8 22 6 60) := ab_s_getr (i := 17) (ci := 4) (N := 22) (k := 6) (C := RX4) (T := TX4) ab_dk158_2.2.1 rfl (by decide) rfl wf_449
theorem ab_s158_60 : ab_Sn B 158 60 (ab_o_ild 2 61) := ab_s_iload_n (k := 2) (n := 2) ab_dk158_2.2.2.1 rfl
theorem ab_s158_61 : ab_Sn B 158 61 (ab_o_xld 1 62) := ab_s_baload ab_dk158_2.2.2.2.1
theorem ab_s158_62 : ab_Sn B 158 62 (ab_o_ist 4 64) := ab_s_istore (k := 4) ab_dk158_2.2.2.2.2.1
theorem ab_s158_64 : ab_Sn B 158 64 (ab_o_ald 0 65) := ab_s_aload_n (k := 0) (n := 0) ab_dk158_2.2.2.2.2.2.1 rfl
theorem ab_s158_65 : ab_Sn B 158 65 (ab_o_getr 8 22 6 68) := ab_s_getr (i := 17) (ci := 4) (N := 22) (k := 6) (C := RX4) (T := TX4) ab_dk158_2.2.2.2.2.2.2.1 rfl (by decide) rfl wf_449
theorem ab_s158_68 : ab_Sn B 158 68 (ab_o_ild 1 69) := ab_s_iload_n (k := 1) (n := 1) ab_dk158_2.2.2.2.2.2.2.2.1 rfl
theorem ab_s158_69 : ab_Sn B 158 69 (ab_o_const 1 70) := ab_s_iconst (n := 1) ab_dk158_2.2.2.2.2.2.2.2.2.1 rfl
theorem ab_s158_70 : ab_Sn B 158 70 (ab_o_xst 1 71) := ab_s_bastore ab_dk158_2.2.2.2.2.2.2.2.2.2.1
theorem ab_s158_71 : ab_Sn B 158 71 (ab_o_ald 0 72) := ab_s_aload_n (k := 0) (n := 0) ab_dk158_2.2.2.2.2.2.2.2.2.2.2.1 rfl
theorem ab_s158_72 : ab_Sn B 158 72 (ab_o_getr 8 22 6 75) := ab_s_getr (i := 17) (ci := 4) (N := 22) (k := 6) (C := RX4) (T := TX4) ab_dk158_2.2.2.2.2.2.2.2.2.2.2.2.1 rfl (by decide) rfl wf_449
theorem ab_s158_75 : ab_Sn B 158 75 (ab_o_ild 2 76) := ab_s_iload_n (k := 2) (n := 2) ab_dk158_2.2.2.2.2.2.2.2.2.2.2.2.2.1 rfl
theorem ab_s158_76 : ab_Sn B 158 76 (ab_o_const 1 77) := ab_s_iconst (n := 1) ab_dk158_2.2.2.2.2.2.2.2.2.2.2.2.2.2.1 rfl
theorem ab_s158_77 : ab_Sn B 158 77 (ab_o_xst 1 78) := ab_s_bastore ab_dk158_2.2.2.2.2.2.2.2.2.2.2.2.2.2.2.1
theorem ab_s158_78 : ab_Sn B 158 78 (ab_o_ald 0 79) := ab_s_aload_n (k := 0) (n := 0) ab_dk158_2.2.2.2.2.2.2.2.2.2.2.2.2.2.2.2.1 rfl
theorem ab_s158_79 : ab_Sn B 158 79 (ab_o_call (some (8, 22)) [] 118 3 1 true 82) := ab_s_callV (M' := 118) (na := 0) (i := 136) (ci := 4) (N := 22) (C := RX4) (T := TX4) (v := true) (ab_hok_n (by decide +kernel)) (by decide +kernel) ab_dk158_3.1 rfl (by decide) (by decide +kernel) (by decide +kernel) (by decide) wf_539 wf_540 wf_541 wf_542 wf_459
theorem ab_s158_82 : ab_Sn B 158 82 (ab_o_ist 5 84) := ab_s_istore (k := 5) ab_dk158_3.2.1
theorem ab_s158_84 : ab_Sn B 158 84 (ab_o_ald 0 85) := ab_s_aload_n (k := 0) (n := 0) ab_dk158_3.2.2.1 rfl
theorem ab_s158_85 : ab_Sn B 158 85 (ab_o_getr 8 22 6 88) := ab_s_getr (i := 17) (ci := 4) (N := 22) (k := 6) (C := RX4) (T := TX4) ab_dk158_3.2.2.2.1 rfl (by decide) rfl wf_449
theorem ab_s158_88 : ab_Sn B 158 88 (ab_o_ild 1 89) := ab_s_iload_n (k := 1) (n := 1) ab_dk158_3.2.2.2.2.1 rfl
theorem ab_s158_89 : ab_Sn B 158 89 (ab_o_ild 3 90) := ab_s_iload_n (k := 3) (n := 3) ab_dk158_3.2.2.2.2.2.1 rfl
theorem ab_s158_90 : ab_Sn B 158 90 (ab_o_xst 1 91) := ab_s_bastore ab_dk158_3.2.2.2.2.2.2.1
theorem ab_s158_91 : ab_Sn B 158 91 (ab_o_ald 0 92) := ab_s_aload_n (k := 0) (n := 0) ab_dk158_3.2.2.2.2.2.2.2.1 rfl
theorem ab_s158_92 : ab_Sn B 158 92 (ab_o_getr 8 22 6 95) := ab_s_getr (i := 17) (ci := 4) (N := 22) (k := 6) (C := RX4) (T := TX4) ab_dk158_3.2.2.2.2.2.2.2.2.1 rfl (by decide) rfl wf_449
theorem ab_s158_95 : ab_Sn B 158 95 (ab_o_ild 2 96) := ab_s_iload_n (k := 2) (n := 2) ab_dk158_3.2.2.2.2.2.2.2.2.2.1 rfl
theorem ab_s158_96 : ab_Sn B 158 96 (ab_o_ild 4 98) := ab_s_iload (k := 4) ab_dk158_3.2.2.2.2.2.2.2.2.2.2.1
theorem ab_s158_98 : ab_Sn B 158 98 (ab_o_xst 1 99) := ab_s_bastore ab_dk158_3.2.2.2.2.2.2.2.2.2.2.2.1
theorem ab_s158_99 : ab_Sn B 158 99 (ab_o_ild 5 101) := ab_s_iload (k := 5) ab_dk158_3.2.2.2.2.2.2.2.2.2.2.2.2.1
theorem ab_s158_101 : ab_Sn B 158 101 (ab_o_iret false) := ab_s_iret (b := false) (ty := .int) ab_dk158_3.2.2.2.2.2.2.2.2.2.2.2.2.2.1 rfl (Or.inl ⟨rfl, rfl⟩)
set_option maxRecDepth 20000 in
theorem ab_sn158 : ab_all B 158 0 (ab_c158) := ⟨ab_s158_0, ab_s158_1, ab_s158_2, ab_s158_3, trivial, trivial, ab_s158_6, trivial, trivial, ab_s158_9, ab_s158_10, ab_s158_11, trivial, trivial, ab_s158_14, trivial, trivial, ab_s158_17, ab_s158_18, trivial, trivial, ab_s158_21, ab_s158_22, ab_s158_23, trivial, trivial, ab_s158_26, trivial, trivial, ab_s158_29, ab_s158_30, ab_s158_31, ab_s158_32, trivial, trivial, ab_s158_35, ab_s158_36, trivial, trivial, ab_s158_39, ab_s158_40, ab_s158_41, trivial, trivial, ab_s158_44, trivial, trivial, ab_s158_47, ab_s158_48, ab_s158_49, ab_s158_50, trivial, trivial, ab_s158_53, ab_s158_54, ab_s158_55, ab_s158_56, ab_s158_57, trivial, trivial, ab_s158_60, ab_s158_61, ab_s158_62, trivial, ab_s158_64, ab_s158_65, trivial, trivial, ab_s158_68, ab_s158_69, ab_s158_70, ab_s158_71, ab_s158_72, trivial, trivial, ab_s158_75, ab_s158_76, ab_s158_77, ab_s158_78, ab_s158_79, trivial, trivial, ab_s158_82, trivial, ab_s158_84, ab_s158_85, trivial, trivial, ab_s158_88, ab_s158_89, ab_s158_90, ab_s158_91, ab_s158_92, trivial, trivial, ab_s158_95, ab_s158_96, trivial, ab_s158_98, ab_s158_99, trivial, ab_s158_101, trivial⟩
theorem ab_dk159_0 : ab_dp 159 [(0, .aload_n 0, 1), (1, .getfield 98, 3), (4, .ifnonnull 7, 3), (7, .iconst (-1), 1), (8, .goto 13, 3), (11, .aload_n 0, 1), (12, .aload_n 0, 1), (13, .getfield 98, 3), (16, .iconst 0, 1), (17, .iaload, 1), (18, .invokevirtual 57, 3), (21, .istore_n 1, 1), (22, .iconst 0, 1), (23, .istore_n 2, 1), (24, .iload_n 2, 1), (25, .aload_n 0, 1)] := ab_da (by decide +kernel)
theorem ab_dk159_1 : ab_dp 159 [(26, .getfield 50, 3), (29, .if_icmp .ge 49, 3), (32, .iload_n 2, 1), (33, .iload_n 1, 1), (34, .if_icmp .eq 38, 3), (37, .aload_n 0, 1), (38, .iload_n 2, 1), (39, .invokevirtual 68, 3), (42, .ifCond .ne 30, 3), (45, .aload_n 0, 1), (46, .aload_n 0, 1), (47, .iload_n 2, 1), (48, .invokevirtual 61, 3), (51, .iload_n 2, 1), (52, .invokevirtual 71, 3), (55, .aload_n 0, 1)] := ab_da (by decide +kernel)
theorem ab_dk159_2 : ab_dp 159 [(56, .getfield 9, 3), (59, .aload_n 0, 1), (60, .iload_n 2, 1), (61, .invokevirtual 61, 3), (64, .aaload, 1), (65, .iload_n 2, 1), (66, .iaload, 1), (67, .if_icmp .eq 5, 3), (70, .iconst 0, 1), (71, .ireturn, 1), (72, .iinc 2 1, 3), (75, .goto (-51), 3), (78, .iconst 0, 1), (79, .istore_n 2, 1), (80, .iload_n 2, 1), (81, .aload_n 0, 1)] := ab_da (by decide +kernel)
theorem ab_dk159_3 : ab_dp 159 [(82, .invokevirtual 53, 3), (85, .if_icmp .ge 43, 3), (88, .aload_n 0, 1), (89, .iload_n 2, 1), (90, .invokevirtual 57, 3), (93, .iload_n 1, 1), (94, .if_icmp .eq 28, 3), (97, .aload_n 0, 1), (98, .iload_n 2, 1), (99, .invokevirtual 88, 3), (102, .iconst (-1), 1), (103, .if_icmp .eq 19, 3), (106, .aload_n 0, 1), (107, .iload_n 2, 1), (108, .invokevirtual 88, 3), (111, .aload_n 0, 1)] := ab_da (by decide +kernel)
theorem ab_dk159_4 : ab_dp 159 [(112, .getfield 25, 3), (115, .iload_n 2, 1), (116, .iaload, 1), (117, .if_icmp .eq 5, 3), (120, .iconst 0, 1), (121, .ireturn, 1), (122, .iinc 2 1, 3), (125, .goto (-45), 3), (128, .aload_n 0, 1), (129, .invokevirtual 183, 3), (132, .astore_n 2, 1), (133, .aload_n 2, 1), (134, .ifnull 13, 3), (137, .aload_n 0, 1), (138, .aload_n 2, 1), (139, .iconst 0, 1)] := ab_da (by decide +kernel)
theorem ab_dk159_5 : ab_dp 159 [(140, .aaload, 1), (141, .invokevirtual 164, 3), (144, .ifCond .ne 7, 3), (147, .iconst 1, 1), (148, .goto 4, 3), (151, .iconst 0, 1), (152, .ireturn, 1)] := ab_da (by decide +kernel)
theorem ab_s159_0 : ab_Sn B 159 0 (ab_o_ald 0 1) := ab_s_aload_n (k := 0) (n := 0) ab_dk159_0.1 rfl
theorem ab_s159_1 : ab_Sn B 159 1 (ab_o_getr 8 22 9 4) := ab_s_getr (i := 98) (ci := 4) (N := 22) (k := 9) (C := RX4) (T := TX4) ab_dk159_0.2.1 rfl (by decide) rfl wf_509
theorem ab_s159_4 : ab_Sn B 159 4 (ab_o_ifn false 11 7) := ab_s_ifnonnull (tg := 11) (off := 7) ab_dk159_0.2.2.1 (by decide)
theorem ab_s159_7 : ab_Sn B 159 7 (ab_o_const (-1) 8) := ab_s_iconst (n := (-1)) ab_dk159_0.2.2.2.1 rfl
theorem ab_s159_8 : ab_Sn B 159 8 (ab_o_goto 21) := ab_s_goto (tg := 21) (off := 13) ab_dk159_0.2.2.2.2.1 (by decide)
theorem ab_s159_11 : ab_Sn B 159 11 (ab_o_ald 0 12) := ab_s_aload_n (k := 0) (n := 0) ab_dk159_0.2.2.2.2.2.1 rfl
theorem ab_s159_12 : ab_Sn B 159 12 (ab_o_ald 0 13) := ab_s_aload_n (k := 0) (n := 0) ab_dk159_0.2.2.2.2.2.2.1 rfl
theorem ab_s159_13 : ab_Sn B 159 13 (ab_o_getr 8 22 9 16) := ab_s_getr (i := 98) (ci := 4) (N := 22) (k := 9) (C := RX4) (T := TX4) ab_dk159_0.2.2.2.2.2.2.2.1 rfl (by decide) rfl wf_509
theorem ab_s159_16 : ab_Sn B 159 16 (ab_o_const 0 17) := ab_s_iconst (n := 0) ab_dk159_0.2.2.2.2.2.2.2.2.1 rfl
theorem ab_s159_17 : ab_Sn B 159 17 (ab_o_xld 0 18) := ab_s_iaload ab_dk159_0.2.2.2.2.2.2.2.2.2.1
theorem ab_s159_18 : ab_Sn B 159 18 (ab_o_call (some (8, 22)) [] 107 2 2 true 21) := ab_s_callV (M' := 107) (na := 1) (i := 57) (ci := 4) (N := 22) (C := RX4) (T := TX4) (v := true) (ab_hok_n (by decide +kernel)) (by decide +kernel) ab_dk159_0.2.2.2.2.2.2.2.2.2.2.1 rfl (by decide) (by decide +kernel) (by decide +kernel) (by decide) wf_470 wf_471 wf_472 wf_473 wf_459
theorem ab_s159_21 : ab_Sn B 159 21 (ab_o_ist 1 22) := ab_s_istore_n (k := 1) (n := 1) ab_dk159_0.2.2.2.2.2.2.2.2.2.2.2.1 rfl
theorem ab_s159_22 : ab_Sn B 159 22 (ab_o_const 0 23) := ab_s_iconst (n := 0) ab_dk159_0.2.2.2.2.2.2.2.2.2.2.2.2.1 rfl
theorem ab_s159_23 : ab_Sn B 159 23 (ab_o_ist 2 24) := ab_s_istore_n (k := 2) (n := 2) ab_dk159_0.2.2.2.2.2.2.2.2.2.2.2.2.2.1 rfl
theorem ab_s159_24 : ab_Sn B 159 24 (ab_o_ild 2 25) := ab_s_iload_n (k := 2) (n := 2) ab_dk159_0.2.2.2.2.2.2.2.2.2.2.2.2.2.2.1 rfl
theorem ab_s159_25 : ab_Sn B 159 25 (ab_o_ald 0 26) := ab_s_aload_n (k := 0) (n := 0) ab_dk159_0.2.2.2.2.2.2.2.2.2.2.2.2.2.2.2.1 rfl
theorem ab_s159_26 : ab_Sn B 159 26 (ab_o_geti 8 22 2 29) := ab_s_geti (i := 50) (ci := 4) (N := 22) (k := 2) (C := RX4) (T := TX4) ab_dk159_1.1 rfl (by decide) rfl wf_465
theorem ab_s159_29 : ab_Sn B 159 29 (ab_o_icmp ab_ge 78 32) := ab_s_icmp_ge (tg := 78) (off := 49) ab_dk159_1.2.1 (by decide)
theorem ab_s159_32 : ab_Sn B 159 32 (ab_o_ild 2 33) := ab_s_iload_n (k := 2) (n := 2) ab_dk159_1.2.2.1 rfl
theorem ab_s159_33 : ab_Sn B 159 33 (ab_o_ild 1 34) := ab_s_iload_n (k := 1) (n := 1) ab_dk159_1.2.2.2.1 rfl
theorem ab_s159_34 : ab_Sn B 159 34 (ab_o_icmp ab_eq 72 37) := ab_s_icmp_eq (tg := 72) (off := 38) ab_dk159_1.2.2.2.2.1 (by decide)
theorem ab_s159_37 : ab_Sn B 159 37 (ab_o_ald 0 38) := ab_s_aload_n (k := 0) (n := 0) ab_dk159_1.2.2.2.2.2.1 rfl
theorem ab_s159_38 : ab_Sn B 159 38 (ab_o_ild 2 39) := ab_s_iload_n (k := 2) (n := 2) ab_dk159_1.2.2.2.2.2.2.1 rfl
theorem ab_s159_39 : ab_Sn B 159 39 (ab_o_call (some (8, 22)) [] 113 4 2 true 42) := ab_s_callV (M' := 113) (na := 1) (i := 68) (ci := 4) (N := 22) (C := RX4) (T := TX4) (v := true) (ab_hok_n (by decide +kernel)) (by decide +kernel) ab_dk159_1.2.2.2.2.2.2.2.1 rfl (by decide) (by decide +kernel) (by decide +kernel) (by decide) wf_482 wf_483 wf_484 wf_485 wf_459
theorem ab_s159_42 : ab_Sn B 159 42 (ab_o_if ab_ne 72 45) := ab_s_if_ne (tg := 72) (off := 30) ab_dk159_1.2.2.2.2.2.2.2.2.1 (by decide)
theorem ab_s159_45 : ab_Sn B 159 45 (ab_o_ald 0 46) := ab_s_aload_n (k := 0) (n := 0) ab_dk159_1.2.2.2.2.2.2.2.2.2.1 rfl
theorem ab_s159_46 : ab_Sn B 159 46 (ab_o_ald 0 47) := ab_s_aload_n (k := 0) (n := 0) ab_dk159_1.2.2.2.2.2.2.2.2.2.2.1 rfl
theorem ab_s159_47 : ab_Sn B 159 47 (ab_o_ild 2 48) := ab_s_iload_n (k := 2) (n := 2) ab_dk159_1.2.2.2.2.2.2.2.2.2.2.2.1 rfl
theorem ab_s159_48 : ab_Sn B 159 48 (ab_o_call (some (8, 22)) [] 108 2 2 true 51) := ab_s_callV (M' := 108) (na := 1) (i := 61) (ci := 4) (N := 22) (C := RX4) (T := TX4) (v := true) (ab_hok_n (by decide +kernel)) (by decide +kernel) ab_dk159_1.2.2.2.2.2.2.2.2.2.2.2.2.1 rfl (by decide) (by decide +kernel) (by decide +kernel) (by decide) wf_474 wf_475 wf_476 wf_477 wf_459
theorem ab_s159_51 : ab_Sn B 159 51 (ab_o_ild 2 52) := ab_s_iload_n (k := 2) (n := 2) ab_dk159_1.2.2.2.2.2.2.2.2.2.2.2.2.2.1 rfl
theorem ab_s159_52 : ab_Sn B 159 52 (ab_o_call (some (8, 22)) [] 114 5 3 true 55) := ab_s_callV (M' := 114) (na := 2) (i := 71) (ci := 4) (N := 22) (C := RX4) (T := TX4) (v := true) (ab_hok_n (by decide +kernel)) (by decide +kernel) ab_dk159_1.2.2.2.2.2.2.2.2.2.2.2.2.2.2.1 rfl (by decide) (by decide +kernel) (by decide +kernel) (by decide) wf_486 wf_487 wf_488 wf_489 wf_459
theorem ab_s159_55 : ab_Sn B 159 55 (ab_o_ald 0 56) := ab_s_aload_n (k := 0) (n := 0) ab_dk159_1.2.2.2.2.2.2.2.2.2.2.2.2.2.2.2.1 rfl
theorem ab_s159_56 : ab_Sn B 159 56 (ab_o_getr 8 22 4 59) := ab_s_getr (i := 9) (ci := 4) (N := 22) (k := 4) (C := RX4) (T := TX4) ab_dk159_2.1 rfl (by decide) rfl wf_447
theorem ab_s159_59 : ab_Sn B 159 59 (ab_o_ald 0 60) := ab_s_aload_n (k := 0) (n := 0) ab_dk159_2.2.1 rfl
theorem ab_s159_60 : ab_Sn B 159 60 (ab_o_ild 2 61) := ab_s_iload_n (k := 2) (n := 2) ab_dk159_2.2.2.1 rfl
theorem ab_s159_61 : ab_Sn B 159 61 (ab_o_call (some (8, 22)) [] 108 2 2 true 64) := ab_s_callV (M' := 108) (na := 1) (i := 61) (ci := 4) (N := 22) (C := RX4) (T := TX4) (v := true) (ab_hok_n (by decide +kernel)) (by decide +kernel) ab_dk159_2.2.2.2.1 rfl (by decide) (by decide +kernel) (by decide +kernel) (by decide) wf_474 wf_475 wf_476 wf_477 wf_459
theorem ab_s159_64 : ab_Sn B 159 64 (ab_o_aald 65) := ab_s_aald ab_dk159_2.2.2.2.2.1
theorem ab_s159_65 : ab_Sn B 159 65 (ab_o_ild 2 66) := ab_s_iload_n (k := 2) (n := 2) ab_dk159_2.2.2.2.2.2.1 rfl
theorem ab_s159_66 : ab_Sn B 159 66 (ab_o_xld 0 67) := ab_s_iaload ab_dk159_2.2.2.2.2.2.2.1
theorem ab_s159_67 : ab_Sn B 159 67 (ab_o_icmp ab_eq 72 70) := ab_s_icmp_eq (tg := 72) (off := 5) ab_dk159_2.2.2.2.2.2.2.2.1 (by decide)
theorem ab_s159_70 : ab_Sn B 159 70 (ab_o_const 0 71) := ab_s_iconst (n := 0) ab_dk159_2.2.2.2.2.2.2.2.2.1 rfl
theorem ab_s159_71 : ab_Sn B 159 71 (ab_o_iret true) := ab_s_iret (b := true) (ty := .boolean) ab_dk159_2.2.2.2.2.2.2.2.2.2.1 rfl (Or.inr (Or.inl ⟨rfl, rfl⟩))
theorem ab_s159_72 : ab_Sn B 159 72 (ab_o_inc 2 1 75) := ab_s_iinc (k := 2) (n := 1) ab_dk159_2.2.2.2.2.2.2.2.2.2.2.1
theorem ab_s159_75 : ab_Sn B 159 75 (ab_o_goto 24) := ab_s_goto (tg := 24) (off := -51) ab_dk159_2.2.2.2.2.2.2.2.2.2.2.2.1 (by decide)
theorem ab_s159_78 : ab_Sn B 159 78 (ab_o_const 0 79) := ab_s_iconst (n := 0) ab_dk159_2.2.2.2.2.2.2.2.2.2.2.2.2.1 rfl
theorem ab_s159_79 : ab_Sn B 159 79 (ab_o_ist 2 80) := ab_s_istore_n (k := 2) (n := 2) ab_dk159_2.2.2.2.2.2.2.2.2.2.2.2.2.2.1 rfl
theorem ab_s159_80 : ab_Sn B 159 80 (ab_o_ild 2 81) := ab_s_iload_n (k := 2) (n := 2) ab_dk159_2.2.2.2.2.2.2.2.2.2.2.2.2.2.2.1 rfl
theorem ab_s159_81 : ab_Sn B 159 81 (ab_o_ald 0 82) := ab_s_aload_n (k := 0) (n := 0) ab_dk159_2.2.2.2.2.2.2.2.2.2.2.2.2.2.2.2.1 rfl
theorem ab_s159_82 : ab_Sn B 159 82 (ab_o_call (some (8, 22)) [] 106 1 1 true 85) := ab_s_callV (M' := 106) (na := 0) (i := 53) (ci := 4) (N := 22) (C := RX4) (T := TX4) (v := true) (ab_hok_n (by decide +kernel)) (by decide +kernel) ab_dk159_3.1 rfl (by decide) (by decide +kernel) (by decide +kernel) (by decide) wf_466 wf_467 wf_468 wf_469 wf_459
theorem ab_s159_85 : ab_Sn B 159 85 (ab_o_icmp ab_ge 128 88) := ab_s_icmp_ge (tg := 128) (off := 43) ab_dk159_3.2.1 (by decide)
theorem ab_s159_88 : ab_Sn B 159 88 (ab_o_ald 0 89) := ab_s_aload_n (k := 0) (n := 0) ab_dk159_3.2.2.1 rfl
theorem ab_s159_89 : ab_Sn B 159 89 (ab_o_ild 2 90) := ab_s_iload_n (k := 2) (n := 2) ab_dk159_3.2.2.2.1 rfl
theorem ab_s159_90 : ab_Sn B 159 90 (ab_o_call (some (8, 22)) [] 107 2 2 true 93) := ab_s_callV (M' := 107) (na := 1) (i := 57) (ci := 4) (N := 22) (C := RX4) (T := TX4) (v := true) (ab_hok_n (by decide +kernel)) (by decide +kernel) ab_dk159_3.2.2.2.2.1 rfl (by decide) (by decide +kernel) (by decide +kernel) (by decide) wf_470 wf_471 wf_472 wf_473 wf_459
theorem ab_s159_93 : ab_Sn B 159 93 (ab_o_ild 1 94) := ab_s_iload_n (k := 1) (n := 1) ab_dk159_3.2.2.2.2.2.1 rfl
theorem ab_s159_94 : ab_Sn B 159 94 (ab_o_icmp ab_eq 122 97) := ab_s_icmp_eq (tg := 122) (off := 28) ab_dk159_3.2.2.2.2.2.2.1 (by decide)
theorem ab_s159_97 : ab_Sn B 159 97 (ab_o_ald 0 98) := ab_s_aload_n (k := 0) (n := 0) ab_dk159_3.2.2.2.2.2.2.2.1 rfl
theorem ab_s159_98 : ab_Sn B 159 98 (ab_o_ild 2 99) := ab_s_iload_n (k := 2) (n := 2) ab_dk159_3.2.2.2.2.2.2.2.2.1 rfl
theorem ab_s159_99 : ab_Sn B 159 99 (ab_o_call (some (8, 22)) [] 117 2 2 true 102) := ab_s_callV (M' := 117) (na := 1) (i := 88) (ci := 4) (N := 22) (C := RX4) (T := TX4) (v := true) (ab_hok_n (by decide +kernel)) (by decide +kernel) ab_dk159_3.2.2.2.2.2.2.2.2.2.1 rfl (by decide) (by decide +kernel) (by decide +kernel) (by decide) wf_503 wf_504 wf_505 wf_506 wf_459
theorem ab_s159_102 : ab_Sn B 159 102 (ab_o_const (-1) 103) := ab_s_iconst (n := (-1)) ab_dk159_3.2.2.2.2.2.2.2.2.2.2.1 rfl
theorem ab_s159_103 : ab_Sn B 159 103 (ab_o_icmp ab_eq 122 106) := ab_s_icmp_eq (tg := 122) (off := 19) ab_dk159_3.2.2.2.2.2.2.2.2.2.2.2.1 (by decide)
theorem ab_s159_106 : ab_Sn B 159 106 (ab_o_ald 0 107) := ab_s_aload_n (k := 0) (n := 0) ab_dk159_3.2.2.2.2.2.2.2.2.2.2.2.2.1 rfl
theorem ab_s159_107 : ab_Sn B 159 107 (ab_o_ild 2 108) := ab_s_iload_n (k := 2) (n := 2) ab_dk159_3.2.2.2.2.2.2.2.2.2.2.2.2.2.1 rfl
theorem ab_s159_108 : ab_Sn B 159 108 (ab_o_call (some (8, 22)) [] 117 2 2 true 111) := ab_s_callV (M' := 117) (na := 1) (i := 88) (ci := 4) (N := 22) (C := RX4) (T := TX4) (v := true) (ab_hok_n (by decide +kernel)) (by decide +kernel) ab_dk159_3.2.2.2.2.2.2.2.2.2.2.2.2.2.2.1 rfl (by decide) (by decide +kernel) (by decide +kernel) (by decide) wf_503 wf_504 wf_505 wf_506 wf_459
theorem ab_s159_111 : ab_Sn B 159 111 (ab_o_ald 0 112) := ab_s_aload_n (k := 0) (n := 0) ab_dk159_3.2.2.2.2.2.2.2.2.2.2.2.2.2.2.2.1 rfl
theorem ab_s159_112 : ab_Sn B 159 112 (ab_o_getr 8 22 8 115) := ab_s_getr (i := 25) (ci := 4) (N := 22) (k := 8) (C := RX4) (T := TX4) ab_dk159_4.1 rfl (by decide) rfl wf_451
theorem ab_s159_115 : ab_Sn B 159 115 (ab_o_ild 2 116) := ab_s_iload_n (k := 2) (n := 2) ab_dk159_4.2.1 rfl
theorem ab_s159_116 : ab_Sn B 159 116 (ab_o_xld 0 117) := ab_s_iaload ab_dk159_4.2.2.1
theorem ab_s159_117 : ab_Sn B 159 117 (ab_o_icmp ab_eq 122 120) := ab_s_icmp_eq (tg := 122) (off := 5) ab_dk159_4.2.2.2.1 (by decide)
theorem ab_s159_120 : ab_Sn B 159 120 (ab_o_const 0 121) := ab_s_iconst (n := 0) ab_dk159_4.2.2.2.2.1 rfl
theorem ab_s159_121 : ab_Sn B 159 121 (ab_o_iret true) := ab_s_iret (b := true) (ty := .boolean) ab_dk159_4.2.2.2.2.2.1 rfl (Or.inr (Or.inl ⟨rfl, rfl⟩))
theorem ab_s159_122 : ab_Sn B 159 122 (ab_o_inc 2 1 125) := ab_s_iinc (k := 2) (n := 1) ab_dk159_4.2.2.2.2.2.2.1
theorem ab_s159_125 : ab_Sn B 159 125 (ab_o_goto 80) := ab_s_goto (tg := 80) (off := -45) ab_dk159_4.2.2.2.2.2.2.2.1 (by decide)
theorem ab_s159_128 : ab_Sn B 159 128 (ab_o_ald 0 129) := ab_s_aload_n (k := 0) (n := 0) ab_dk159_4.2.2.2.2.2.2.2.2.1 rfl
theorem ab_s159_129 : ab_Sn B 159 129 (ab_o_call (some (8, 22)) [] 137 1 1 true 132) := ab_s_callV (M' := 137) (na := 0) (i := 183) (ci := 4) (N := 22) (C := RX4) (T := TX4) (v := true) (ab_hok_n (by decide +kernel)) (by decide +kernel) ab_dk159_4.2.2.2.2.2.2.2.2.2.1 rfl (by decide) (by decide +kernel) (by decide +kernel) (by decide) wf_583 wf_584 wf_585 wf_586 wf_459
theorem ab_s159_132 : ab_Sn B 159 132 (ab_o_ast 2 133) := ab_s_astore_n (k := 2) (n := 2) ab_dk159_4.2.2.2.2.2.2.2.2.2.2.1 rfl
theorem ab_s159_133 : ab_Sn B 159 133 (ab_o_ald 2 134) := ab_s_aload_n (k := 2) (n := 2) ab_dk159_4.2.2.2.2.2.2.2.2.2.2.2.1 rfl
theorem ab_s159_134 : ab_Sn B 159 134 (ab_o_ifn true 147 137) := ab_s_ifnull (tg := 147) (off := 13) ab_dk159_4.2.2.2.2.2.2.2.2.2.2.2.2.1 (by decide)
theorem ab_s159_137 : ab_Sn B 159 137 (ab_o_ald 0 138) := ab_s_aload_n (k := 0) (n := 0) ab_dk159_4.2.2.2.2.2.2.2.2.2.2.2.2.2.1 rfl
theorem ab_s159_138 : ab_Sn B 159 138 (ab_o_ald 2 139) := ab_s_aload_n (k := 2) (n := 2) ab_dk159_4.2.2.2.2.2.2.2.2.2.2.2.2.2.2.1 rfl
theorem ab_s159_139 : ab_Sn B 159 139 (ab_o_const 0 140) := ab_s_iconst (n := 0) ab_dk159_4.2.2.2.2.2.2.2.2.2.2.2.2.2.2.2.1 rfl
theorem ab_s159_140 : ab_Sn B 159 140 (ab_o_aald 141) := ab_s_aald ab_dk159_5.1
theorem ab_s159_141 : ab_Sn B 159 141 (ab_o_call (some (8, 22)) [] 133 6 2 true 144) := ab_s_callV (M' := 133) (na := 1) (i := 164) (ci := 4) (N := 22) (C := RX4) (T := TX4) (v := true) (ab_hok_n (by decide +kernel)) (by decide +kernel) ab_dk159_5.2.1 rfl (by decide) (by decide +kernel) (by decide +kernel) (by decide) wf_567 wf_568 wf_569 wf_570 wf_459
theorem ab_s159_144 : ab_Sn B 159 144 (ab_o_if ab_ne 151 147) := ab_s_if_ne (tg := 151) (off := 7) ab_dk159_5.2.2.1 (by decide)
theorem ab_s159_147 : ab_Sn B 159 147 (ab_o_const 1 148) := ab_s_iconst (n := 1) ab_dk159_5.2.2.2.1 rfl
theorem ab_s159_148 : ab_Sn B 159 148 (ab_o_goto 152) := ab_s_goto (tg := 152) (off := 4) ab_dk159_5.2.2.2.2.1 (by decide)
theorem ab_s159_151 : ab_Sn B 159 151 (ab_o_const 0 152) := ab_s_iconst (n := 0) ab_dk159_5.2.2.2.2.2.1 rfl
theorem ab_s159_152 : ab_Sn B 159 152 (ab_o_iret true) := ab_s_iret (b := true) (ty := .boolean) ab_dk159_5.2.2.2.2.2.2.1 rfl (Or.inr (Or.inl ⟨rfl, rfl⟩))
theorem ab_sc159_2 : ab_all B 159 128 (ab_d159_2) := ⟨ab_s159_128, ab_s159_129, trivial, trivial, ab_s159_132, ab_s159_133, ab_s159_134, trivial, trivial, ab_s159_137, ab_s159_138, ab_s159_139, ab_s159_140, ab_s159_141, trivial, trivial, ab_s159_144, trivial, trivial, ab_s159_147, ab_s159_148, trivial, trivial, ab_s159_151, ab_s159_152, trivial⟩
theorem ab_sc159_1 : ab_all B 159 64 (ab_d159_1) := ⟨ab_s159_64, ab_s159_65, ab_s159_66, ab_s159_67, trivial, trivial, ab_s159_70, ab_s159_71, ab_s159_72, trivial, trivial, ab_s159_75, trivial, trivial, ab_s159_78, ab_s159_79, ab_s159_80, ab_s159_81, ab_s159_82, trivial, trivial, ab_s159_85, trivial, trivial, ab_s159_88, ab_s159_89, ab_s159_90, trivial, trivial, ab_s159_93, ab_s159_94, trivial, trivial, ab_s159_97, ab_s159_98, ab_s159_99, trivial, trivial, ab_s159_102, ab_s159_103, trivial, trivial, ab_s159_106, ab_s159_107, ab_s159_108, trivial, trivial, ab_s159_111, ab_s159_112, trivial, trivial, ab_s159_115, ab_s159_116, ab_s159_117, trivial, trivial, ab_s159_120, ab_s159_121, ab_s159_122, trivial, trivial, ab_s159_125, trivial, trivial, ab_sc159_2⟩
theorem ab_sc159_0 : ab_all B 159 0 (ab_d159_0) := ⟨ab_s159_0, ab_s159_1, trivial, trivial, ab_s159_4, trivial, trivial, ab_s159_7, ab_s159_8, trivial, trivial, ab_s159_11, ab_s159_12, ab_s159_13, trivial, trivial, ab_s159_16, ab_s159_17, ab_s159_18, trivial, trivial, ab_s159_21, ab_s159_22, ab_s159_23, ab_s159_24, ab_s159_25, ab_s159_26, trivial, trivial, ab_s159_29, trivial, trivial, ab_s159_32, ab_s159_33, ab_s159_34, trivial, trivial, ab_s159_37, ab_s159_38, ab_s159_39, trivial, trivial, ab_s159_42, trivial, trivial, ab_s159_45, ab_s159_46, ab_s159_47, ab_s159_48, trivial, trivial, ab_s159_51, ab_s159_52, trivial, trivial, ab_s159_55, ab_s159_56, trivial, trivial, ab_s159_59, ab_s159_60, ab_s159_61, trivial, trivial, ab_sc159_1⟩
theorem ab_sn159 : ab_all B 159 0 (ab_c159) := by rw [ab_cd159]; exact ab_sc159_0
theorem ab_dk160_0 : ab_dp 160 [(0, .aload_n 0, 1), (1, .iconst 0, 1), (2, .putfield 36, 3), (5, .aload_n 0, 1), (6, .invokevirtual 235, 3), (9, .ireturn, 1)] := ab_da (by decide +kernel)
theorem ab_s160_0 : ab_Sn B 160 0 (ab_o_ald 0 1) := ab_s_aload_n (k := 0) (n := 0) ab_dk160_0.1 rfl
theorem ab_s160_1 : ab_Sn B 160 1 (ab_o_const 0 2) := ab_s_iconst (n := 0) ab_dk160_0.2.1 rfl
theorem ab_s160_2 : ab_Sn B 160 2 (ab_o_puti 8 22 0 false 5) := ab_s_puti (b := false) (ty := .int) (i := 36) (ci := 4) (N := 22) (k := 0) (C := RX4) (T := TX4) ab_dk160_0.2.2.1 rfl (by decide) rfl wf_455 rfl (by decide +kernel) (Or.inl ⟨rfl, rfl⟩)
theorem ab_s160_5 : ab_Sn B 160 5 (ab_o_ald 0 6) := ab_s_aload_n (k := 0) (n := 0) ab_dk160_0.2.2.2.1 rfl
theorem ab_s160_6 : ab_Sn B 160 6 (ab_o_call (some (8, 22)) [] 159 3 1 true 9) := ab_s_callV (M' := 159) (na := 0) (i := 235) (ci := 4) (N := 22) (C := RX4) (T := TX4) (v := true) (ab_hok_n (by decide +kernel)) (by decide +kernel) ab_dk160_0.2.2.2.2.1 rfl (by decide) (by decide +kernel) (by decide +kernel) (by decide) wf_632 wf_633 wf_634 wf_635 wf_459
theorem ab_s160_9 : ab_Sn B 160 9 (ab_o_iret true) := ab_s_iret (b := true) (ty := .boolean) ab_dk160_0.2.2.2.2.2.1 rfl (Or.inr (Or.inl ⟨rfl, rfl⟩))
set_option maxRecDepth 20000 in
theorem ab_sn160 : ab_all B 160 0 (ab_c160) := ⟨ab_s160_0, ab_s160_1, ab_s160_2, trivial, trivial, ab_s160_5, ab_s160_6, trivial, trivial, ab_s160_9, trivial⟩
theorem ab_dk161_0 : ab_dp 161 [(0, .aload_n 0, 1), (1, .iconst 0, 1), (2, .putfield 36, 3), (5, .aload_n 0, 1), (6, .dup, 1), (7, .getfield 205, 3), (10, .iconst 1, 1), (11, .iadd, 1), (12, .dup_x1, 1), (13, .putfield 205, 3), (16, .ireturn, 1)] := ab_da (by decide +kernel)
theorem ab_s161_0 : ab_Sn B 161 0 (ab_o_ald 0 1) := ab_s_aload_n (k := 0) (n := 0) ab_dk161_0.1 rfl
theorem ab_s161_1 : ab_Sn B 161 1 (ab_o_const 0 2) := ab_s_iconst (n := 0) ab_dk161_0.2.1 rfl
theorem ab_s161_2 : ab_Sn B 161 2 (ab_o_puti 8 22 0 false 5) := ab_s_puti (b := false) (ty := .int) (i := 36) (ci := 4) (N := 22) (k := 0) (C := RX4) (T := TX4) ab_dk161_0.2.2.1 rfl (by decide) rfl wf_455 rfl (by decide +kernel) (Or.inl ⟨rfl, rfl⟩)
theorem ab_s161_5 : ab_Sn B 161 5 (ab_o_ald 0 6) := ab_s_aload_n (k := 0) (n := 0) ab_dk161_0.2.2.2.1 rfl
theorem ab_s161_6 : ab_Sn B 161 6 (ab_o_dup 7) := ab_s_dup ab_dk161_0.2.2.2.2.1
theorem ab_s161_7 : ab_Sn B 161 7 (ab_o_geti 8 22 18 10) := ab_s_geti (i := 205) (ci := 4) (N := 22) (k := 18) (C := RX4) (T := TX4) ab_dk161_0.2.2.2.2.2.1 rfl (by decide) rfl wf_611
theorem ab_s161_10 : ab_Sn B 161 10 (ab_o_const 1 11) := ab_s_iconst (n := 1) ab_dk161_0.2.2.2.2.2.2.1 rfl
theorem ab_s161_11 : ab_Sn B 161 11 (ab_o_bin (fun a b => a + b) 12) := ab_s_iadd ab_dk161_0.2.2.2.2.2.2.2.1
theorem ab_s161_12 : ab_Sn B 161 12 (ab_o_dupx1 13) := ab_s_dupx1 ab_dk161_0.2.2.2.2.2.2.2.2.1
theorem ab_s161_13 : ab_Sn B 161 13 (ab_o_puti 8 22 18 false 16) := ab_s_puti (b := false) (ty := .int) (i := 205) (ci := 4) (N := 22) (k := 18) (C := RX4) (T := TX4) ab_dk161_0.2.2.2.2.2.2.2.2.2.1 rfl (by decide) rfl wf_611 rfl (by decide +kernel) (Or.inl ⟨rfl, rfl⟩)
theorem ab_s161_16 : ab_Sn B 161 16 (ab_o_iret false) := ab_s_iret (b := false) (ty := .int) ab_dk161_0.2.2.2.2.2.2.2.2.2.2.1 rfl (Or.inl ⟨rfl, rfl⟩)
set_option maxRecDepth 20000 in
theorem ab_sn161 : ab_all B 161 0 (ab_c161) := ⟨ab_s161_0, ab_s161_1, ab_s161_2, trivial, trivial, ab_s161_5, ab_s161_6, ab_s161_7, trivial, trivial, ab_s161_10, ab_s161_11, ab_s161_12, ab_s161_13, trivial, trivial, ab_s161_16, trivial⟩
theorem ab_dk162_0 : ab_dp 162 [(0, .aload_n 0, 1), (1, .iconst 0, 1), (2, .putfield 36, 3), (5, .ldc2_w 239, 3), (8, .lstore_n 1, 1), (9, .iconst 0, 1), (10, .istore_n 3, 1), (11, .iload_n 3, 1), (12, .bipush 16, 2), (14, .if_icmp .gt 22, 3), (17, .lload_n 1, 1), (18, .ldc2_w 241, 3), (21, .lmul, 1), (22, .aload_n 0, 1), (23, .iload_n 3, 1), (24, .invokevirtual 208, 3)] := ab_da (by decide +kernel)
theorem ab_dk162_1 : ab_dp 162 [(27, .i2l, 1), (28, .ladd, 1), (29, .lstore_n 1, 1), (30, .iinc 3 1, 3), (33, .goto (-22), 3), (36, .iconst 0, 1), (37, .istore_n 3, 1), (38, .iload_n 3, 1), (39, .aload_n 0, 1), (40, .getfield 43, 3), (43, .if_icmp .ge 40, 3), (46, .iconst 0, 1), (47, .istore 4, 2), (49, .iload 4, 2), (51, .bipush 7, 2), (53, .if_icmp .gt 24, 3)] := ab_da (by decide +kernel)
theorem ab_dk162_2 : ab_dp 162 [(56, .lload_n 1, 1), (57, .ldc2_w 241, 3), (60, .lmul, 1), (61, .aload_n 0, 1), (62, .iload_n 3, 1), (63, .iload 4, 2), (65, .invokevirtual 196, 3), (68, .i2l, 1), (69, .ladd, 1), (70, .lstore_n 1, 1), (71, .iinc 4 1, 3), (74, .goto (-25), 3), (77, .iinc 3 1, 3), (80, .goto (-42), 3), (83, .iconst 0, 1), (84, .istore_n 3, 1)] := ab_da (by decide +kernel)
theorem ab_dk162_3 : ab_dp 162 [(85, .iload_n 3, 1), (86, .aload_n 0, 1), (87, .getfield 50, 3), (90, .if_icmp .ge 59, 3), (93, .iconst 0, 1), (94, .istore 4, 2), (96, .iload 4, 2), (98, .aload_n 0, 1), (99, .getfield 43, 3), (102, .if_icmp .ge 41, 3), (105, .iconst 0, 1), (106, .istore 5, 2), (108, .iload 5, 2), (110, .iconst 4, 1), (111, .if_icmp .gt 26, 3), (114, .lload_n 1, 1)] := ab_da (by decide +kernel)
theorem ab_dk162_4 : ab_dp 162 [(115, .ldc2_w 241, 3), (118, .lmul, 1), (119, .aload_n 0, 1), (120, .iload 4, 2), (122, .iload_n 3, 1), (123, .iload 5, 2), (125, .invokevirtual 193, 3), (128, .i2l, 1), (129, .ladd, 1), (130, .lstore_n 1, 1), (131, .iinc 5 1, 3), (134, .goto (-26), 3), (137, .iinc 4 1, 3), (140, .goto (-44), 3), (143, .iinc 3 1, 3), (146, .goto (-61), 3)] := ab_da (by decide +kernel)
theorem ab_dk162_5 : ab_dp 162 [(149, .iconst 0, 1), (150, .istore_n 3, 1), (151, .iload_n 3, 1), (152, .aload_n 0, 1), (153, .invokevirtual 53, 3), (156, .if_icmp .ge 39, 3), (159, .iconst 0, 1), (160, .istore 4, 2), (162, .iload 4, 2), (164, .iconst 3, 1), (165, .if_icmp .gt 24, 3), (168, .lload_n 1, 1), (169, .ldc2_w 241, 3), (172, .lmul, 1), (173, .aload_n 0, 1), (174, .iload_n 3, 1)] := ab_da (by decide +kernel)
theorem ab_dk162_6 : ab_dp 162 [(175, .iload 4, 2), (177, .invokevirtual 199, 3), (180, .i2l, 1), (181, .ladd, 1), (182, .lstore_n 1, 1), (183, .iinc 4 1, 3), (186, .goto (-24), 3), (189, .iinc 3 1, 3), (192, .goto (-41), 3), (195, .iconst 0, 1), (196, .istore_n 3, 1), (197, .iload_n 3, 1), (198, .iconst 2, 1), (199, .if_icmp .gt 22, 3), (202, .lload_n 1, 1), (203, .ldc2_w 241, 3)] := ab_da (by decide +kernel)
theorem ab_dk162_7 : ab_dp 162 [(206, .lmul, 1), (207, .aload_n 0, 1), (208, .iload_n 3, 1), (209, .invokevirtual 202, 3), (212, .i2l, 1), (213, .ladd, 1), (214, .lstore_n 1, 1), (215, .iinc 3 1, 3), (218, .goto (-21), 3), (221, .iconst 0, 1), (222, .istore_n 3, 1), (223, .iload_n 3, 1), (224, .bipush 9, 2), (226, .if_icmp .gt 22, 3), (229, .lload_n 1, 1), (230, .ldc2_w 241, 3)] := ab_da (by decide +kernel)
theorem ab_dk162_8 : ab_dp 162 [(233, .lmul, 1), (234, .aload_n 0, 1), (235, .iload_n 3, 1), (236, .invokevirtual 232, 3), (239, .i2l, 1), (240, .ladd, 1), (241, .lstore_n 1, 1), (242, .iinc 3 1, 3), (245, .goto (-22), 3), (248, .lload_n 1, 1), (249, .ldc2_w 241, 3), (252, .lmul, 1), (253, .aload_n 0, 1), (254, .invokevirtual 235, 3), (257, .ifCond .eq 7, 3), (260, .iconst 1, 1)] := ab_da (by decide +kernel)
theorem ab_dk162_9 : ab_dp 162 [(261, .goto 4, 3), (264, .iconst 0, 1), (265, .i2l, 1), (266, .ladd, 1), (267, .lreturn, 1)] := ab_da (by decide +kernel)
theorem ab_s162_0 : ab_Sn B 162 0 (ab_o_ald 0 1) := ab_s_aload_n (k := 0) (n := 0) ab_dk162_0.1 rfl
theorem ab_s162_1 : ab_Sn B 162 1 (ab_o_const 0 2) := ab_s_iconst (n := 0) ab_dk162_0.2.1 rfl
theorem ab_s162_2 : ab_Sn B 162 2 (ab_o_puti 8 22 0 false 5) := ab_s_puti (b := false) (ty := .int) (i := 36) (ci := 4) (N := 22) (k := 0) (C := RX4) (T := TX4) ab_dk162_0.2.2.1 rfl (by decide) rfl wf_455 rfl (by decide +kernel) (Or.inl ⟨rfl, rfl⟩)
theorem ab_s162_5 : ab_Sn B 162 5 (ab_o_lconst 6661 8) := ab_s_ldc2 (i := 239) ab_dk162_0.2.2.2.1 wf_636
theorem ab_s162_8 : ab_Sn B 162 8 (ab_o_lst 1 9) := ab_s_lstore_n (k := 1) (n := 1) ab_dk162_0.2.2.2.2.1 rfl
theorem ab_s162_9 : ab_Sn B 162 9 (ab_o_const 0 10) := ab_s_iconst (n := 0) ab_dk162_0.2.2.2.2.2.1 rfl
theorem ab_s162_10 : ab_Sn B 162 10 (ab_o_ist 3 11) := ab_s_istore_n (k := 3) (n := 3) ab_dk162_0.2.2.2.2.2.2.1 rfl
theorem ab_s162_11 : ab_Sn B 162 11 (ab_o_ild 3 12) := ab_s_iload_n (k := 3) (n := 3) ab_dk162_0.2.2.2.2.2.2.2.1 rfl
theorem ab_s162_12 : ab_Sn B 162 12 (ab_o_const 16 14) := ab_s_bipush (n := 16) ab_dk162_0.2.2.2.2.2.2.2.2.1 (by decide)
theorem ab_s162_14 : ab_Sn B 162 14 (ab_o_icmp ab_gt 36 17) := ab_s_icmp_gt (tg := 36) (off := 22) ab_dk162_0.2.2.2.2.2.2.2.2.2.1 (by decide)
theorem ab_s162_17 : ab_Sn B 162 17 (ab_o_lld 1 18) := ab_s_lload_n (k := 1) (n := 1) ab_dk162_0.2.2.2.2.2.2.2.2.2.2.1 rfl
theorem ab_s162_18 : ab_Sn B 162 18 (ab_o_lconst 31 21) := ab_s_ldc2 (i := 241) ab_dk162_0.2.2.2.2.2.2.2.2.2.2.2.1 wf_637
theorem ab_s162_21 : ab_Sn B 162 21 (ab_o_lbin (fun a b => a * b) 22) := ab_s_lmul ab_dk162_0.2.2.2.2.2.2.2.2.2.2.2.2.1
theorem ab_s162_22 : ab_Sn B 162 22 (ab_o_ald 0 23) := ab_s_aload_n (k := 0) (n := 0) ab_dk162_0.2.2.2.2.2.2.2.2.2.2.2.2.2.1 rfl
theorem ab_s162_23 : ab_Sn B 162 23 (ab_o_ild 3 24) := ab_s_iload_n (k := 3) (n := 3) ab_dk162_0.2.2.2.2.2.2.2.2.2.2.2.2.2.2.1 rfl
theorem ab_s162_24 : ab_Sn B 162 24 (ab_o_call (some (8, 22)) [] 152 8 2 true 27) := ab_s_callV (M' := 152) (na := 1) (i := 208) (ci := 4) (N := 22) (C := RX4) (T := TX4) (v := true) (ab_hok_n (by decide +kernel)) (by decide +kernel) ab_dk162_0.2.2.2.2.2.2.2.2.2.2.2.2.2.2.2.1 rfl (by decide) (by decide +kernel) (by decide +kernel) (by decide) wf_612 wf_613 wf_614 wf_615 wf_459
theorem ab_s162_27 : ab_Sn B 162 27 (ab_o_i2l 28) := ab_s_i2l ab_dk162_1.1
theorem ab_s162_28 : ab_Sn B 162 28 (ab_o_lbin (fun a b => a + b) 29) := ab_s_ladd ab_dk162_1.2.1
theorem ab_s162_29 : ab_Sn B 162 29 (ab_o_lst 1 30) := ab_s_lstore_n (k := 1) (n := 1) ab_dk162_1.2.2.1 rfl
theorem ab_s162_30 : ab_Sn B 162 30 (ab_o_inc 3 1 33) := ab_s_iinc (k := 3) (n := 1) ab_dk162_1.2.2.2.1
theorem ab_s162_33 : ab_Sn B 162 33 (ab_o_goto 11) := ab_s_goto (tg := 11) (off := -22) ab_dk162_1.2.2.2.2.1 (by decide)
theorem ab_s162_36 : ab_Sn B 162 36 (ab_o_const 0 37) := ab_s_iconst (n := 0) ab_dk162_1.2.2.2.2.2.1 rfl
theorem ab_s162_37 : ab_Sn B 162 37 (ab_o_ist 3 38) := ab_s_istore_n (k := 3) (n := 3) ab_dk162_1.2.2.2.2.2.2.1 rfl
theorem ab_s162_38 : ab_Sn B 162 38 (ab_o_ild 3 39) := ab_s_iload_n (k := 3) (n := 3) ab_dk162_1.2.2.2.2.2.2.2.1 rfl
theorem ab_s162_39 : ab_Sn B 162 39 (ab_o_ald 0 40) := ab_s_aload_n (k := 0) (n := 0) ab_dk162_1.2.2.2.2.2.2.2.2.1 rfl
theorem ab_s162_40 : ab_Sn B 162 40 (ab_o_geti 8 22 1 43) := ab_s_geti (i := 43) (ci := 4) (N := 22) (k := 1) (C := RX4) (T := TX4) ab_dk162_1.2.2.2.2.2.2.2.2.2.1 rfl (by decide) rfl wf_461
theorem ab_s162_43 : ab_Sn B 162 43 (ab_o_icmp ab_ge 83 46) := ab_s_icmp_ge (tg := 83) (off := 40) ab_dk162_1.2.2.2.2.2.2.2.2.2.2.1 (by decide)
theorem ab_s162_46 : ab_Sn B 162 46 (ab_o_const 0 47) := ab_s_iconst (n := 0) ab_dk162_1.2.2.2.2.2.2.2.2.2.2.2.1 rfl
theorem ab_s162_47 : ab_Sn B 162 47 (ab_o_ist 4 49) := ab_s_istore (k := 4) ab_dk162_1.2.2.2.2.2.2.2.2.2.2.2.2.1
theorem ab_s162_49 : ab_Sn B 162 49 (ab_o_ild 4 51) := ab_s_iload (k := 4) ab_dk162_1.2.2.2.2.2.2.2.2.2.2.2.2.2.1
theorem ab_s162_51 : ab_Sn B 162 51 (ab_o_const 7 53) := ab_s_bipush (n := 7) ab_dk162_1.2.2.2.2.2.2.2.2.2.2.2.2.2.2.1 (by decide)
theorem ab_s162_53 : ab_Sn B 162 53 (ab_o_icmp ab_gt 77 56) := ab_s_icmp_gt (tg := 77) (off := 24) ab_dk162_1.2.2.2.2.2.2.2.2.2.2.2.2.2.2.2.1 (by decide)
theorem ab_s162_56 : ab_Sn B 162 56 (ab_o_lld 1 57) := ab_s_lload_n (k := 1) (n := 1) ab_dk162_2.1 rfl
theorem ab_s162_57 : ab_Sn B 162 57 (ab_o_lconst 31 60) := ab_s_ldc2 (i := 241) ab_dk162_2.2.1 wf_637
theorem ab_s162_60 : ab_Sn B 162 60 (ab_o_lbin (fun a b => a * b) 61) := ab_s_lmul ab_dk162_2.2.2.1
theorem ab_s162_61 : ab_Sn B 162 61 (ab_o_ald 0 62) := ab_s_aload_n (k := 0) (n := 0) ab_dk162_2.2.2.2.1 rfl
theorem ab_s162_62 : ab_Sn B 162 62 (ab_o_ild 3 63) := ab_s_iload_n (k := 3) (n := 3) ab_dk162_2.2.2.2.2.1 rfl
theorem ab_s162_63 : ab_Sn B 162 63 (ab_o_ild 4 65) := ab_s_iload (k := 4) ab_dk162_2.2.2.2.2.2.1
theorem ab_s162_65 : ab_Sn B 162 65 (ab_o_call (some (8, 22)) [] 146 7 3 true 68) := ab_s_callV (M' := 146) (na := 2) (i := 196) (ci := 4) (N := 22) (C := RX4) (T := TX4) (v := true) (ab_hok_n (by decide +kernel)) (by decide +kernel) ab_dk162_2.2.2.2.2.2.2.1 rfl (by decide) (by decide +kernel) (by decide +kernel) (by decide) wf_599 wf_600 wf_601 wf_602 wf_459
theorem ab_s162_68 : ab_Sn B 162 68 (ab_o_i2l 69) := ab_s_i2l ab_dk162_2.2.2.2.2.2.2.2.1
theorem ab_s162_69 : ab_Sn B 162 69 (ab_o_lbin (fun a b => a + b) 70) := ab_s_ladd ab_dk162_2.2.2.2.2.2.2.2.2.1
theorem ab_s162_70 : ab_Sn B 162 70 (ab_o_lst 1 71) := ab_s_lstore_n (k := 1) (n := 1) ab_dk162_2.2.2.2.2.2.2.2.2.2.1 rfl
theorem ab_s162_71 : ab_Sn B 162 71 (ab_o_inc 4 1 74) := ab_s_iinc (k := 4) (n := 1) ab_dk162_2.2.2.2.2.2.2.2.2.2.2.1
theorem ab_s162_74 : ab_Sn B 162 74 (ab_o_goto 49) := ab_s_goto (tg := 49) (off := -25) ab_dk162_2.2.2.2.2.2.2.2.2.2.2.2.1 (by decide)
theorem ab_s162_77 : ab_Sn B 162 77 (ab_o_inc 3 1 80) := ab_s_iinc (k := 3) (n := 1) ab_dk162_2.2.2.2.2.2.2.2.2.2.2.2.2.1
theorem ab_s162_80 : ab_Sn B 162 80 (ab_o_goto 38) := ab_s_goto (tg := 38) (off := -42) ab_dk162_2.2.2.2.2.2.2.2.2.2.2.2.2.2.1 (by decide)
theorem ab_s162_83 : ab_Sn B 162 83 (ab_o_const 0 84) := ab_s_iconst (n := 0) ab_dk162_2.2.2.2.2.2.2.2.2.2.2.2.2.2.2.1 rfl
theorem ab_s162_84 : ab_Sn B 162 84 (ab_o_ist 3 85) := ab_s_istore_n (k := 3) (n := 3) ab_dk162_2.2.2.2.2.2.2.2.2.2.2.2.2.2.2.2.1 rfl
theorem ab_s162_85 : ab_Sn B 162 85 (ab_o_ild 3 86) := ab_s_iload_n (k := 3) (n := 3) ab_dk162_3.1 rfl
theorem ab_s162_86 : ab_Sn B 162 86 (ab_o_ald 0 87) := ab_s_aload_n (k := 0) (n := 0) ab_dk162_3.2.1 rfl
theorem ab_s162_87 : ab_Sn B 162 87 (ab_o_geti 8 22 2 90) := ab_s_geti (i := 50) (ci := 4) (N := 22) (k := 2) (C := RX4) (T := TX4) ab_dk162_3.2.2.1 rfl (by decide) rfl wf_465
theorem ab_s162_90 : ab_Sn B 162 90 (ab_o_icmp ab_ge 149 93) := ab_s_icmp_ge (tg := 149) (off := 59) ab_dk162_3.2.2.2.1 (by decide)
theorem ab_s162_93 : ab_Sn B 162 93 (ab_o_const 0 94) := ab_s_iconst (n := 0) ab_dk162_3.2.2.2.2.1 rfl
theorem ab_s162_94 : ab_Sn B 162 94 (ab_o_ist 4 96) := ab_s_istore (k := 4) ab_dk162_3.2.2.2.2.2.1
theorem ab_s162_96 : ab_Sn B 162 96 (ab_o_ild 4 98) := ab_s_iload (k := 4) ab_dk162_3.2.2.2.2.2.2.1
theorem ab_s162_98 : ab_Sn B 162 98 (ab_o_ald 0 99) := ab_s_aload_n (k := 0) (n := 0) ab_dk162_3.2.2.2.2.2.2.2.1 rfl
theorem ab_s162_99 : ab_Sn B 162 99 (ab_o_geti 8 22 1 102) := ab_s_geti (i := 43) (ci := 4) (N := 22) (k := 1) (C := RX4) (T := TX4) ab_dk162_3.2.2.2.2.2.2.2.2.1 rfl (by decide) rfl wf_461
theorem ab_s162_102 : ab_Sn B 162 102 (ab_o_icmp ab_ge 143 105) := ab_s_icmp_ge (tg := 143) (off := 41) ab_dk162_3.2.2.2.2.2.2.2.2.2.1 (by decide)
theorem ab_s162_105 : ab_Sn B 162 105 (ab_o_const 0 106) := ab_s_iconst (n := 0) ab_dk162_3.2.2.2.2.2.2.2.2.2.2.1 rfl
theorem ab_s162_106 : ab_Sn B 162 106 (ab_o_ist 5 108) := ab_s_istore (k := 5) ab_dk162_3.2.2.2.2.2.2.2.2.2.2.2.1
theorem ab_s162_108 : ab_Sn B 162 108 (ab_o_ild 5 110) := ab_s_iload (k := 5) ab_dk162_3.2.2.2.2.2.2.2.2.2.2.2.2.1
theorem ab_s162_110 : ab_Sn B 162 110 (ab_o_const 4 111) := ab_s_iconst (n := 4) ab_dk162_3.2.2.2.2.2.2.2.2.2.2.2.2.2.1 rfl
theorem ab_s162_111 : ab_Sn B 162 111 (ab_o_icmp ab_gt 137 114) := ab_s_icmp_gt (tg := 137) (off := 26) ab_dk162_3.2.2.2.2.2.2.2.2.2.2.2.2.2.2.1 (by decide)
theorem ab_s162_114 : ab_Sn B 162 114 (ab_o_lld 1 115) := ab_s_lload_n (k := 1) (n := 1) ab_dk162_3.2.2.2.2.2.2.2.2.2.2.2.2.2.2.2.1 rfl
theorem ab_s162_115 : ab_Sn B 162 115 (ab_o_lconst 31 118) := ab_s_ldc2 (i := 241) ab_dk162_4.1 wf_637
theorem ab_s162_118 : ab_Sn B 162 118 (ab_o_lbin (fun a b => a * b) 119) := ab_s_lmul ab_dk162_4.2.1
theorem ab_s162_119 : ab_Sn B 162 119 (ab_o_ald 0 120) := ab_s_aload_n (k := 0) (n := 0) ab_dk162_4.2.2.1 rfl
theorem ab_s162_120 : ab_Sn B 162 120 (ab_o_ild 4 122) := ab_s_iload (k := 4) ab_dk162_4.2.2.2.1
theorem ab_s162_122 : ab_Sn B 162 122 (ab_o_ild 3 123) := ab_s_iload_n (k := 3) (n := 3) ab_dk162_4.2.2.2.2.1 rfl
theorem ab_s162_123 : ab_Sn B 162 123 (ab_o_ild 5 125) := ab_s_iload (k := 5) ab_dk162_4.2.2.2.2.2.1
theorem ab_s162_125 : ab_Sn B 162 125 (ab_o_call (some (8, 22)) [] 144 5 4 true 128) := ab_s_callV (M' := 144) (na := 3) (i := 193) (ci := 4) (N := 22) (C := RX4) (T := TX4) (v := true) (ab_hok_n (by decide +kernel)) (by decide +kernel) ab_dk162_4.2.2.2.2.2.2.1 rfl (by decide) (by decide +kernel) (by decide +kernel) (by decide) wf_595 wf_596 wf_597 wf_598 wf_459
theorem ab_s162_128 : ab_Sn B 162 128 (ab_o_i2l 129) := ab_s_i2l ab_dk162_4.2.2.2.2.2.2.2.1
theorem ab_s162_129 : ab_Sn B 162 129 (ab_o_lbin (fun a b => a + b) 130) := ab_s_ladd ab_dk162_4.2.2.2.2.2.2.2.2.1
theorem ab_s162_130 : ab_Sn B 162 130 (ab_o_lst 1 131) := ab_s_lstore_n (k := 1) (n := 1) ab_dk162_4.2.2.2.2.2.2.2.2.2.1 rfl
theorem ab_s162_131 : ab_Sn B 162 131 (ab_o_inc 5 1 134) := ab_s_iinc (k := 5) (n := 1) ab_dk162_4.2.2.2.2.2.2.2.2.2.2.1
theorem ab_s162_134 : ab_Sn B 162 134 (ab_o_goto 108) := ab_s_goto (tg := 108) (off := -26) ab_dk162_4.2.2.2.2.2.2.2.2.2.2.2.1 (by decide)
theorem ab_s162_137 : ab_Sn B 162 137 (ab_o_inc 4 1 140) := ab_s_iinc (k := 4) (n := 1) ab_dk162_4.2.2.2.2.2.2.2.2.2.2.2.2.1
theorem ab_s162_140 : ab_Sn B 162 140 (ab_o_goto 96) := ab_s_goto (tg := 96) (off := -44) ab_dk162_4.2.2.2.2.2.2.2.2.2.2.2.2.2.1 (by decide)
theorem ab_s162_143 : ab_Sn B 162 143 (ab_o_inc 3 1 146) := ab_s_iinc (k := 3) (n := 1) ab_dk162_4.2.2.2.2.2.2.2.2.2.2.2.2.2.2.1
theorem ab_s162_146 : ab_Sn B 162 146 (ab_o_goto 85) := ab_s_goto (tg := 85) (off := -61) ab_dk162_4.2.2.2.2.2.2.2.2.2.2.2.2.2.2.2.1 (by decide)
theorem ab_s162_149 : ab_Sn B 162 149 (ab_o_const 0 150) := ab_s_iconst (n := 0) ab_dk162_5.1 rfl
theorem ab_s162_150 : ab_Sn B 162 150 (ab_o_ist 3 151) := ab_s_istore_n (k := 3) (n := 3) ab_dk162_5.2.1 rfl
theorem ab_s162_151 : ab_Sn B 162 151 (ab_o_ild 3 152) := ab_s_iload_n (k := 3) (n := 3) ab_dk162_5.2.2.1 rfl
theorem ab_s162_152 : ab_Sn B 162 152 (ab_o_ald 0 153) := ab_s_aload_n (k := 0) (n := 0) ab_dk162_5.2.2.2.1 rfl
theorem ab_s162_153 : ab_Sn B 162 153 (ab_o_call (some (8, 22)) [] 106 1 1 true 156) := ab_s_callV (M' := 106) (na := 0) (i := 53) (ci := 4) (N := 22) (C := RX4) (T := TX4) (v := true) (ab_hok_n (by decide +kernel)) (by decide +kernel) ab_dk162_5.2.2.2.2.1 rfl (by decide) (by decide +kernel) (by decide +kernel) (by decide) wf_466 wf_467 wf_468 wf_469 wf_459
theorem ab_s162_156 : ab_Sn B 162 156 (ab_o_icmp ab_ge 195 159) := ab_s_icmp_ge (tg := 195) (off := 39) ab_dk162_5.2.2.2.2.2.1 (by decide)
theorem ab_s162_159 : ab_Sn B 162 159 (ab_o_const 0 160) := ab_s_iconst (n := 0) ab_dk162_5.2.2.2.2.2.2.1 rfl
theorem ab_s162_160 : ab_Sn B 162 160 (ab_o_ist 4 162) := ab_s_istore (k := 4) ab_dk162_5.2.2.2.2.2.2.2.1
theorem ab_s162_162 : ab_Sn B 162 162 (ab_o_ild 4 164) := ab_s_iload (k := 4) ab_dk162_5.2.2.2.2.2.2.2.2.1
theorem ab_s162_164 : ab_Sn B 162 164 (ab_o_const 3 165) := ab_s_iconst (n := 3) ab_dk162_5.2.2.2.2.2.2.2.2.2.1 rfl
theorem ab_s162_165 : ab_Sn B 162 165 (ab_o_icmp ab_gt 189 168) := ab_s_icmp_gt (tg := 189) (off := 24) ab_dk162_5.2.2.2.2.2.2.2.2.2.2.1 (by decide)
theorem ab_s162_168 : ab_Sn B 162 168 (ab_o_lld 1 169) := ab_s_lload_n (k := 1) (n := 1) ab_dk162_5.2.2.2.2.2.2.2.2.2.2.2.1 rfl
theorem ab_s162_169 : ab_Sn B 162 169 (ab_o_lconst 31 172) := ab_s_ldc2 (i := 241) ab_dk162_5.2.2.2.2.2.2.2.2.2.2.2.2.1 wf_637
theorem ab_s162_172 : ab_Sn B 162 172 (ab_o_lbin (fun a b => a * b) 173) := ab_s_lmul ab_dk162_5.2.2.2.2.2.2.2.2.2.2.2.2.2.1
theorem ab_s162_173 : ab_Sn B 162 173 (ab_o_ald 0 174) := ab_s_aload_n (k := 0) (n := 0) ab_dk162_5.2.2.2.2.2.2.2.2.2.2.2.2.2.2.1 rfl
theorem ab_s162_174 : ab_Sn B 162 174 (ab_o_ild 3 175) := ab_s_iload_n (k := 3) (n := 3) ab_dk162_5.2.2.2.2.2.2.2.2.2.2.2.2.2.2.2.1 rfl
theorem ab_s162_175 : ab_Sn B 162 175 (ab_o_ild 4 177) := ab_s_iload (k := 4) ab_dk162_6.1
theorem ab_s162_177 : ab_Sn B 162 177 (ab_o_call (some (8, 22)) [] 148 4 3 true 180) := ab_s_callV (M' := 148) (na := 2) (i := 199) (ci := 4) (N := 22) (C := RX4) (T := TX4) (v := true) (ab_hok_n (by decide +kernel)) (by decide +kernel) ab_dk162_6.2.1 rfl (by decide) (by decide +kernel) (by decide +kernel) (by decide) wf_603 wf_604 wf_605 wf_606 wf_459
theorem ab_s162_180 : ab_Sn B 162 180 (ab_o_i2l 181) := ab_s_i2l ab_dk162_6.2.2.1
theorem ab_s162_181 : ab_Sn B 162 181 (ab_o_lbin (fun a b => a + b) 182) := ab_s_ladd ab_dk162_6.2.2.2.1
theorem ab_s162_182 : ab_Sn B 162 182 (ab_o_lst 1 183) := ab_s_lstore_n (k := 1) (n := 1) ab_dk162_6.2.2.2.2.1 rfl
theorem ab_s162_183 : ab_Sn B 162 183 (ab_o_inc 4 1 186) := ab_s_iinc (k := 4) (n := 1) ab_dk162_6.2.2.2.2.2.1
theorem ab_s162_186 : ab_Sn B 162 186 (ab_o_goto 162) := ab_s_goto (tg := 162) (off := -24) ab_dk162_6.2.2.2.2.2.2.1 (by decide)
theorem ab_s162_189 : ab_Sn B 162 189 (ab_o_inc 3 1 192) := ab_s_iinc (k := 3) (n := 1) ab_dk162_6.2.2.2.2.2.2.2.1
theorem ab_s162_192 : ab_Sn B 162 192 (ab_o_goto 151) := ab_s_goto (tg := 151) (off := -41) ab_dk162_6.2.2.2.2.2.2.2.2.1 (by decide)
theorem ab_s162_195 : ab_Sn B 162 195 (ab_o_const 0 196) := ab_s_iconst (n := 0) ab_dk162_6.2.2.2.2.2.2.2.2.2.1 rfl
theorem ab_s162_196 : ab_Sn B 162 196 (ab_o_ist 3 197) := ab_s_istore_n (k := 3) (n := 3) ab_dk162_6.2.2.2.2.2.2.2.2.2.2.1 rfl
theorem ab_s162_197 : ab_Sn B 162 197 (ab_o_ild 3 198) := ab_s_iload_n (k := 3) (n := 3) ab_dk162_6.2.2.2.2.2.2.2.2.2.2.2.1 rfl
theorem ab_s162_198 : ab_Sn B 162 198 (ab_o_const 2 199) := ab_s_iconst (n := 2) ab_dk162_6.2.2.2.2.2.2.2.2.2.2.2.2.1 rfl
theorem ab_s162_199 : ab_Sn B 162 199 (ab_o_icmp ab_gt 221 202) := ab_s_icmp_gt (tg := 221) (off := 22) ab_dk162_6.2.2.2.2.2.2.2.2.2.2.2.2.2.1 (by decide)
theorem ab_s162_202 : ab_Sn B 162 202 (ab_o_lld 1 203) := ab_s_lload_n (k := 1) (n := 1) ab_dk162_6.2.2.2.2.2.2.2.2.2.2.2.2.2.2.1 rfl
theorem ab_s162_203 : ab_Sn B 162 203 (ab_o_lconst 31 206) := ab_s_ldc2 (i := 241) ab_dk162_6.2.2.2.2.2.2.2.2.2.2.2.2.2.2.2.1 wf_637
theorem ab_s162_206 : ab_Sn B 162 206 (ab_o_lbin (fun a b => a * b) 207) := ab_s_lmul ab_dk162_7.1
theorem ab_s162_207 : ab_Sn B 162 207 (ab_o_ald 0 208) := ab_s_aload_n (k := 0) (n := 0) ab_dk162_7.2.1 rfl
theorem ab_s162_208 : ab_Sn B 162 208 (ab_o_ild 3 209) := ab_s_iload_n (k := 3) (n := 3) ab_dk162_7.2.2.1 rfl
theorem ab_s162_209 : ab_Sn B 162 209 (ab_o_call (some (8, 22)) [] 150 2 2 true 212) := ab_s_callV (M' := 150) (na := 1) (i := 202) (ci := 4) (N := 22) (C := RX4) (T := TX4) (v := true) (ab_hok_n (by decide +kernel)) (by decide +kernel) ab_dk162_7.2.2.2.1 rfl (by decide) (by decide +kernel) (by decide +kernel) (by decide) wf_607 wf_608 wf_609 wf_610 wf_459
theorem ab_s162_212 : ab_Sn B 162 212 (ab_o_i2l 213) := ab_s_i2l ab_dk162_7.2.2.2.2.1
theorem ab_s162_213 : ab_Sn B 162 213 (ab_o_lbin (fun a b => a + b) 214) := ab_s_ladd ab_dk162_7.2.2.2.2.2.1
theorem ab_s162_214 : ab_Sn B 162 214 (ab_o_lst 1 215) := ab_s_lstore_n (k := 1) (n := 1) ab_dk162_7.2.2.2.2.2.2.1 rfl
theorem ab_s162_215 : ab_Sn B 162 215 (ab_o_inc 3 1 218) := ab_s_iinc (k := 3) (n := 1) ab_dk162_7.2.2.2.2.2.2.2.1
theorem ab_s162_218 : ab_Sn B 162 218 (ab_o_goto 197) := ab_s_goto (tg := 197) (off := -21) ab_dk162_7.2.2.2.2.2.2.2.2.1 (by decide)
theorem ab_s162_221 : ab_Sn B 162 221 (ab_o_const 0 222) := ab_s_iconst (n := 0) ab_dk162_7.2.2.2.2.2.2.2.2.2.1 rfl
theorem ab_s162_222 : ab_Sn B 162 222 (ab_o_ist 3 223) := ab_s_istore_n (k := 3) (n := 3) ab_dk162_7.2.2.2.2.2.2.2.2.2.2.1 rfl
theorem ab_s162_223 : ab_Sn B 162 223 (ab_o_ild 3 224) := ab_s_iload_n (k := 3) (n := 3) ab_dk162_7.2.2.2.2.2.2.2.2.2.2.2.1 rfl
theorem ab_s162_224 : ab_Sn B 162 224 (ab_o_const 9 226) := ab_s_bipush (n := 9) ab_dk162_7.2.2.2.2.2.2.2.2.2.2.2.2.1 (by decide)
theorem ab_s162_226 : ab_Sn B 162 226 (ab_o_icmp ab_gt 248 229) := ab_s_icmp_gt (tg := 248) (off := 22) ab_dk162_7.2.2.2.2.2.2.2.2.2.2.2.2.2.1 (by decide)
theorem ab_s162_229 : ab_Sn B 162 229 (ab_o_lld 1 230) := ab_s_lload_n (k := 1) (n := 1) ab_dk162_7.2.2.2.2.2.2.2.2.2.2.2.2.2.2.1 rfl
theorem ab_s162_230 : ab_Sn B 162 230 (ab_o_lconst 31 233) := ab_s_ldc2 (i := 241) ab_dk162_7.2.2.2.2.2.2.2.2.2.2.2.2.2.2.2.1 wf_637
theorem ab_s162_233 : ab_Sn B 162 233 (ab_o_lbin (fun a b => a * b) 234) := ab_s_lmul ab_dk162_8.1
theorem ab_s162_234 : ab_Sn B 162 234 (ab_o_ald 0 235) := ab_s_aload_n (k := 0) (n := 0) ab_dk162_8.2.1 rfl
theorem ab_s162_235 : ab_Sn B 162 235 (ab_o_ild 3 236) := ab_s_iload_n (k := 3) (n := 3) ab_dk162_8.2.2.1 rfl
theorem ab_s162_236 : ab_Sn B 162 236 (ab_o_call (some (8, 22)) [] 155 5 2 true 239) := ab_s_callV (M' := 155) (na := 1) (i := 232) (ci := 4) (N := 22) (C := RX4) (T := TX4) (v := true) (ab_hok_n (by decide +kernel)) (by decide +kernel) ab_dk162_8.2.2.2.1 rfl (by decide) (by decide +kernel) (by decide +kernel) (by decide) wf_628 wf_629 wf_630 wf_631 wf_459
theorem ab_s162_239 : ab_Sn B 162 239 (ab_o_i2l 240) := ab_s_i2l ab_dk162_8.2.2.2.2.1
theorem ab_s162_240 : ab_Sn B 162 240 (ab_o_lbin (fun a b => a + b) 241) := ab_s_ladd ab_dk162_8.2.2.2.2.2.1
theorem ab_s162_241 : ab_Sn B 162 241 (ab_o_lst 1 242) := ab_s_lstore_n (k := 1) (n := 1) ab_dk162_8.2.2.2.2.2.2.1 rfl
theorem ab_s162_242 : ab_Sn B 162 242 (ab_o_inc 3 1 245) := ab_s_iinc (k := 3) (n := 1) ab_dk162_8.2.2.2.2.2.2.2.1
theorem ab_s162_245 : ab_Sn B 162 245 (ab_o_goto 223) := ab_s_goto (tg := 223) (off := -22) ab_dk162_8.2.2.2.2.2.2.2.2.1 (by decide)
theorem ab_s162_248 : ab_Sn B 162 248 (ab_o_lld 1 249) := ab_s_lload_n (k := 1) (n := 1) ab_dk162_8.2.2.2.2.2.2.2.2.2.1 rfl
theorem ab_s162_249 : ab_Sn B 162 249 (ab_o_lconst 31 252) := ab_s_ldc2 (i := 241) ab_dk162_8.2.2.2.2.2.2.2.2.2.2.1 wf_637
theorem ab_s162_252 : ab_Sn B 162 252 (ab_o_lbin (fun a b => a * b) 253) := ab_s_lmul ab_dk162_8.2.2.2.2.2.2.2.2.2.2.2.1
theorem ab_s162_253 : ab_Sn B 162 253 (ab_o_ald 0 254) := ab_s_aload_n (k := 0) (n := 0) ab_dk162_8.2.2.2.2.2.2.2.2.2.2.2.2.1 rfl
theorem ab_s162_254 : ab_Sn B 162 254 (ab_o_call (some (8, 22)) [] 159 3 1 true 257) := ab_s_callV (M' := 159) (na := 0) (i := 235) (ci := 4) (N := 22) (C := RX4) (T := TX4) (v := true) (ab_hok_n (by decide +kernel)) (by decide +kernel) ab_dk162_8.2.2.2.2.2.2.2.2.2.2.2.2.2.1 rfl (by decide) (by decide +kernel) (by decide +kernel) (by decide) wf_632 wf_633 wf_634 wf_635 wf_459
theorem ab_s162_257 : ab_Sn B 162 257 (ab_o_if ab_eq 264 260) := ab_s_if_eq (tg := 264) (off := 7) ab_dk162_8.2.2.2.2.2.2.2.2.2.2.2.2.2.2.1 (by decide)
theorem ab_s162_260 : ab_Sn B 162 260 (ab_o_const 1 261) := ab_s_iconst (n := 1) ab_dk162_8.2.2.2.2.2.2.2.2.2.2.2.2.2.2.2.1 rfl
theorem ab_s162_261 : ab_Sn B 162 261 (ab_o_goto 265) := ab_s_goto (tg := 265) (off := 4) ab_dk162_9.1 (by decide)
theorem ab_s162_264 : ab_Sn B 162 264 (ab_o_const 0 265) := ab_s_iconst (n := 0) ab_dk162_9.2.1 rfl
theorem ab_s162_265 : ab_Sn B 162 265 (ab_o_i2l 266) := ab_s_i2l ab_dk162_9.2.2.1
theorem ab_s162_266 : ab_Sn B 162 266 (ab_o_lbin (fun a b => a + b) 267) := ab_s_ladd ab_dk162_9.2.2.2.1
theorem ab_s162_267 : ab_Sn B 162 267 (ab_o_lret) := ab_s_lret ab_dk162_9.2.2.2.2.1 rfl
theorem ab_sc162_4 : ab_all B 162 256 (ab_d162_4) := ⟨trivial, ab_s162_257, trivial, trivial, ab_s162_260, ab_s162_261, trivial, trivial, ab_s162_264, ab_s162_265, ab_s162_266, ab_s162_267, trivial⟩
theorem ab_sc162_3 : ab_all B 162 192 (ab_d162_3) := ⟨ab_s162_192, trivial, trivial, ab_s162_195, ab_s162_196, ab_s162_197, ab_s162_198, ab_s162_199, trivial, trivial, ab_s162_202, ab_s162_203, trivial, trivial, ab_s162_206, ab_s162_207, ab_s162_208, ab_s162_209, trivial, trivial, ab_s162_212, ab_s162_213, ab_s162_214, ab_s162_215, trivial, trivial, ab_s162_218, trivial, trivial, ab_s162_221, ab_s162_222, ab_s162_223, ab_s162_224, trivial, ab_s162_226, trivial, trivial, ab_s162_229, ab_s162_230, trivial, trivial, ab_s162_233, ab_s162_234, ab_s162_235, ab_s162_236, trivial, trivial, ab_s162_239, ab_s162_240, ab_s162_241, ab_s162_242, trivial, trivial, ab_s162_245, trivial, trivial, ab_s162_248, ab_s162_249, trivial, trivial, ab_s162_252, ab_s162_253, ab_s162_254, trivial, ab_sc162_4⟩
theorem ab_sc162_2 : ab_all B 162 128 (ab_d162_2) := ⟨ab_s162_128, ab_s162_129, ab_s162_130, ab_s162_131, trivial, trivial, ab_s162_134, trivial, trivial, ab_s162_137, trivial, trivial, ab_s162_140, trivial, trivial, ab_s162_143, trivial, trivial, ab_s162_146, trivial, trivial, ab_s162_149, ab_s162_150, ab_s162_151, ab_s162_152, ab_s162_153, trivial, trivial, ab_s162_156, trivial, trivial, ab_s162_159, ab_s162_160, trivial, ab_s162_162, trivial, ab_s162_164, ab_s162_165, trivial, trivial, ab_s162_168, ab_s162_169, trivial, trivial, ab_s162_172, ab_s162_173, ab_s162_174, ab_s162_175, trivial, ab_s162_177, trivial, trivial, ab_s162_180, ab_s162_181, ab_s162_182, ab_s162_183, trivial, trivial, ab_s162_186, trivial, trivial, ab_s162_189, trivial, trivial, ab_sc162_3⟩
theorem ab_sc162_1 : ab_all B 162 64 (ab_d162_1) := ⟨trivial, ab_s162_65, trivial, trivial, ab_s162_68, ab_s162_69, ab_s162_70, ab_s162_71, trivial, trivial, ab_s162_74, trivial, trivial, ab_s162_77, trivial, trivial, ab_s162_80, trivial, trivial, ab_s162_83, ab_s162_84, ab_s162_85, ab_s162_86, ab_s162_87, trivial, trivial, ab_s162_90, trivial, trivial, ab_s162_93, ab_s162_94, trivial, ab_s162_96, trivial, ab_s162_98, ab_s162_99, trivial, trivial, ab_s162_102, trivial, trivial, ab_s162_105, ab_s162_106, trivial, ab_s162_108, trivial, ab_s162_110, ab_s162_111, trivial, trivial, ab_s162_114, ab_s162_115, trivial, trivial, ab_s162_118, ab_s162_119, ab_s162_120, trivial, ab_s162_122, ab_s162_123, trivial, ab_s162_125, trivial, trivial, ab_sc162_2⟩
theorem ab_sc162_0 : ab_all B 162 0 (ab_d162_0) := ⟨ab_s162_0, ab_s162_1, ab_s162_2, trivial, trivial, ab_s162_5, trivial, trivial, ab_s162_8, ab_s162_9, ab_s162_10, ab_s162_11, ab_s162_12, trivial, ab_s162_14, trivial, trivial, ab_s162_17, ab_s162_18, trivial, trivial, ab_s162_21, ab_s162_22, ab_s162_23, ab_s162_24, trivial, trivial, ab_s162_27, ab_s162_28, ab_s162_29, ab_s162_30, trivial, trivial, ab_s162_33, trivial, trivial, ab_s162_36, ab_s162_37, ab_s162_38, ab_s162_39, ab_s162_40, trivial, trivial, ab_s162_43, trivial, trivial, ab_s162_46, ab_s162_47, trivial, ab_s162_49, trivial, ab_s162_51, trivial, ab_s162_53, trivial, trivial, ab_s162_56, ab_s162_57, trivial, trivial, ab_s162_60, ab_s162_61, ab_s162_62, ab_s162_63, ab_sc162_1⟩
theorem ab_sn162 : ab_all B 162 0 (ab_c162) := by rw [ab_cd162]; exact ab_sc162_0
end
