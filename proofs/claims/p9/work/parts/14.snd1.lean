/-! each instruction is sound; printed by wip/px/gen_code.py -/
section
variable {B : ab_B}
theorem ab_dk0_0 : ab_dp 0 [(0, .aload_n 0, 1), (1, .invokespecial 3, 3), (4, .aload_n 0, 1), (5, .bipush 40, 2), (7, .newarray .int, 2), (9, .putfield 9, 3), (12, .aload_n 0, 1), (13, .bipush 40, 2), (15, .newarray .int, 2), (17, .putfield 15, 3), (20, .aload_n 0, 1), (21, .bipush 40, 2), (23, .newarray .int, 2), (25, .putfield 18, 3), (28, .aload_n 0, 1), (29, .iconst 5, 1)] := ab_da (by decide +kernel)
theorem ab_dk0_1 : ab_dp 0 [(30, .newarray .boolean, 2), (32, .putfield 21, 3), (35, .aload_n 0, 1), (36, .iconst 5, 1), (37, .newarray .int, 2), (39, .putfield 25, 3), (42, .return_, 1)] := ab_da (by decide +kernel)
theorem ab_s0_0 : ab_Sn B 0 0 (ab_o_ald 0 1) := ab_s_aload_n (k := 0) (n := 0) ab_dk0_0.1 rfl
theorem ab_s0_1 : ab_Sn B 0 1 (ab_o_obj 4) := ab_s_obj (i := 3) ab_dk0_0.2.1 wf_0 wf_1 wf_2
theorem ab_s0_4 : ab_Sn B 0 4 (ab_o_ald 0 5) := ab_s_aload_n (k := 0) (n := 0) ab_dk0_0.2.2.1 rfl
theorem ab_s0_5 : ab_Sn B 0 5 (ab_o_const 40 7) := ab_s_bipush (n := 40) ab_dk0_0.2.2.2.1 (by decide)
theorem ab_s0_7 : ab_Sn B 0 7 (ab_o_newa 0 9) := ab_s_newa0 ab_dk0_0.2.2.2.2.1 wf_3
theorem ab_s0_9 : ab_Sn B 0 9 (ab_o_putr 4 7 2 12) := ab_s_putrF (ty := .array .int) (i := 9) (ci := 0) (N := 7) (k := 2) (C := RX0) (T := TX0) ab_dk0_0.2.2.2.2.2.1 rfl (by decide) rfl wf_4 rfl rfl rfl (by decide +kernel) (Or.inr ⟨_, rfl⟩)
theorem ab_s0_12 : ab_Sn B 0 12 (ab_o_ald 0 13) := ab_s_aload_n (k := 0) (n := 0) ab_dk0_0.2.2.2.2.2.2.1 rfl
theorem ab_s0_13 : ab_Sn B 0 13 (ab_o_const 40 15) := ab_s_bipush (n := 40) ab_dk0_0.2.2.2.2.2.2.2.1 (by decide)
theorem ab_s0_15 : ab_Sn B 0 15 (ab_o_newa 0 17) := ab_s_newa0 ab_dk0_0.2.2.2.2.2.2.2.2.1 wf_3
theorem ab_s0_17 : ab_Sn B 0 17 (ab_o_putr 4 7 3 20) := ab_s_putrF (ty := .array .int) (i := 15) (ci := 0) (N := 7) (k := 3) (C := RX0) (T := TX0) ab_dk0_0.2.2.2.2.2.2.2.2.2.1 rfl (by decide) rfl wf_5 rfl rfl rfl (by decide +kernel) (Or.inr ⟨_, rfl⟩)
theorem ab_s0_20 : ab_Sn B 0 20 (ab_o_ald 0 21) := ab_s_aload_n (k := 0) (n := 0) ab_dk0_0.2.2.2.2.2.2.2.2.2.2.1 rfl
theorem ab_s0_21 : ab_Sn B 0 21 (ab_o_const 40 23) := ab_s_bipush (n := 40) ab_dk0_0.2.2.2.2.2.2.2.2.2.2.2.1 (by decide)
theorem ab_s0_23 : ab_Sn B 0 23 (ab_o_newa 0 25) := ab_s_newa0 ab_dk0_0.2.2.2.2.2.2.2.2.2.2.2.2.1 wf_3
theorem ab_s0_25 : ab_Sn B 0 25 (ab_o_putr 4 7 4 28) := ab_s_putrF (ty := .array .int) (i := 18) (ci := 0) (N := 7) (k := 4) (C := RX0) (T := TX0) ab_dk0_0.2.2.2.2.2.2.2.2.2.2.2.2.2.1 rfl (by decide) rfl wf_6 rfl rfl rfl (by decide +kernel) (Or.inr ⟨_, rfl⟩)
theorem ab_s0_28 : ab_Sn B 0 28 (ab_o_ald 0 29) := ab_s_aload_n (k := 0) (n := 0) ab_dk0_0.2.2.2.2.2.2.2.2.2.2.2.2.2.2.1 rfl
theorem ab_s0_29 : ab_Sn B 0 29 (ab_o_const 5 30) := ab_s_iconst (n := 5) ab_dk0_0.2.2.2.2.2.2.2.2.2.2.2.2.2.2.2.1 rfl
theorem ab_s0_30 : ab_Sn B 0 30 (ab_o_newa 1 32) := ab_s_newa1 ab_dk0_1.1 wf_7
theorem ab_s0_32 : ab_Sn B 0 32 (ab_o_putr 4 7 5 35) := ab_s_putrF (ty := .array .boolean) (i := 21) (ci := 0) (N := 7) (k := 5) (C := RX0) (T := TX0) ab_dk0_1.2.1 rfl (by decide) rfl wf_8 rfl rfl rfl (by decide +kernel) (Or.inr ⟨_, rfl⟩)
theorem ab_s0_35 : ab_Sn B 0 35 (ab_o_ald 0 36) := ab_s_aload_n (k := 0) (n := 0) ab_dk0_1.2.2.1 rfl
theorem ab_s0_36 : ab_Sn B 0 36 (ab_o_const 5 37) := ab_s_iconst (n := 5) ab_dk0_1.2.2.2.1 rfl
theorem ab_s0_37 : ab_Sn B 0 37 (ab_o_newa 0 39) := ab_s_newa0 ab_dk0_1.2.2.2.2.1 wf_3
theorem ab_s0_39 : ab_Sn B 0 39 (ab_o_putr 4 7 6 42) := ab_s_putrF (ty := .array .int) (i := 25) (ci := 0) (N := 7) (k := 6) (C := RX0) (T := TX0) ab_dk0_1.2.2.2.2.2.1 rfl (by decide) rfl wf_9 rfl rfl rfl (by decide +kernel) (Or.inr ⟨_, rfl⟩)
theorem ab_s0_42 : ab_Sn B 0 42 (ab_o_ret) := ab_s_ret ab_dk0_1.2.2.2.2.2.2.1 rfl
set_option maxRecDepth 20000 in
theorem ab_sn0 : ab_all B 0 0 (ab_c0) := ⟨ab_s0_0, ab_s0_1, trivial, trivial, ab_s0_4, ab_s0_5, trivial, ab_s0_7, trivial, ab_s0_9, trivial, trivial, ab_s0_12, ab_s0_13, trivial, ab_s0_15, trivial, ab_s0_17, trivial, trivial, ab_s0_20, ab_s0_21, trivial, ab_s0_23, trivial, ab_s0_25, trivial, trivial, ab_s0_28, ab_s0_29, ab_s0_30, trivial, ab_s0_32, trivial, trivial, ab_s0_35, ab_s0_36, ab_s0_37, trivial, ab_s0_39, trivial, trivial, ab_s0_42, trivial⟩
theorem ab_dk1_0 : ab_dp 1 [(0, .aload_n 0, 1), (1, .iload_n 1, 1), (2, .putfield 28, 3), (5, .aload_n 0, 1), (6, .iload_n 2, 1), (7, .putfield 32, 3), (10, .iconst 0, 1), (11, .istore_n 3, 1), (12, .iload_n 3, 1), (13, .iconst 5, 1), (14, .if_icmp .ge 60, 3), (17, .aload_n 0, 1), (18, .getfield 21, 3), (21, .iload_n 3, 1), (22, .iconst 0, 1), (23, .bastore, 1)] := ab_da (by decide +kernel)
theorem ab_dk1_1 : ab_dp 1 [(24, .aload_n 0, 1), (25, .getfield 25, 3), (28, .iload_n 3, 1), (29, .iconst 0, 1), (30, .iastore, 1), (31, .iconst 0, 1), (32, .istore 4, 2), (34, .iload 4, 2), (36, .bipush 8, 2), (38, .if_icmp .ge 30, 3), (41, .aload_n 0, 1), (42, .getfield 18, 3), (45, .iload_n 3, 1), (46, .bipush 8, 2), (48, .imul, 1), (49, .iload 4, 2)] := ab_da (by decide +kernel)
theorem ab_dk1_2 : ab_dp 1 [(51, .iadd, 1), (52, .iconst 0, 1), (53, .iastore, 1), (54, .aload_n 0, 1), (55, .iload_n 3, 1), (56, .iload 4, 2), (58, .iconst 0, 1), (59, .invokevirtual 35, 3), (62, .iinc 4 1, 3), (65, .goto (-31), 3), (68, .iinc 3 1, 3), (71, .goto (-59), 3), (74, .return_, 1)] := ab_da (by decide +kernel)
theorem ab_s1_0 : ab_Sn B 1 0 (ab_o_ald 0 1) := ab_s_aload_n (k := 0) (n := 0) ab_dk1_0.1 rfl
theorem ab_s1_1 : ab_Sn B 1 1 (ab_o_ild 1 2) := ab_s_iload_n (k := 1) (n := 1) ab_dk1_0.2.1 rfl
theorem ab_s1_2 : ab_Sn B 1 2 (ab_o_puti 4 7 0 false 5) := ab_s_puti (b := false) (ty := .int) (i := 28) (ci := 0) (N := 7) (k := 0) (C := RX0) (T := TX0) ab_dk1_0.2.2.1 rfl (by decide) rfl wf_10 rfl (by decide +kernel) (Or.inl ⟨rfl, rfl⟩)
theorem ab_s1_5 : ab_Sn B 1 5 (ab_o_ald 0 6) := ab_s_aload_n (k := 0) (n := 0) ab_dk1_0.2.2.2.1 rfl
theorem ab_s1_6 : ab_Sn B 1 6 (ab_o_ild 2 7) := ab_s_iload_n (k := 2) (n := 2) ab_dk1_0.2.2.2.2.1 rfl
theorem ab_s1_7 : ab_Sn B 1 7 (ab_o_puti 4 7 1 false 10) := ab_s_puti (b := false) (ty := .int) (i := 32) (ci := 0) (N := 7) (k := 1) (C := RX0) (T := TX0) ab_dk1_0.2.2.2.2.2.1 rfl (by decide) rfl wf_11 rfl (by decide +kernel) (Or.inl ⟨rfl, rfl⟩)
theorem ab_s1_10 : ab_Sn B 1 10 (ab_o_const 0 11) := ab_s_iconst (n := 0) ab_dk1_0.2.2.2.2.2.2.1 rfl
theorem ab_s1_11 : ab_Sn B 1 11 (ab_o_ist 3 12) := ab_s_istore_n (k := 3) (n := 3) ab_dk1_0.2.2.2.2.2.2.2.1 rfl
theorem ab_s1_12 : ab_Sn B 1 12 (ab_o_ild 3 13) := ab_s_iload_n (k := 3) (n := 3) ab_dk1_0.2.2.2.2.2.2.2.2.1 rfl
theorem ab_s1_13 : ab_Sn B 1 13 (ab_o_const 5 14) := ab_s_iconst (n := 5) ab_dk1_0.2.2.2.2.2.2.2.2.2.1 rfl
theorem ab_s1_14 : ab_Sn B 1 14 (ab_o_icmp ab_ge 74 17) := ab_s_icmp_ge (tg := 74) (off := 60) ab_dk1_0.2.2.2.2.2.2.2.2.2.2.1 (by decide)
theorem ab_s1_17 : ab_Sn B 1 17 (ab_o_ald 0 18) := ab_s_aload_n (k := 0) (n := 0) ab_dk1_0.2.2.2.2.2.2.2.2.2.2.2.1 rfl
theorem ab_s1_18 : ab_Sn B 1 18 (ab_o_getr 4 7 5 21) := ab_s_getr (i := 21) (ci := 0) (N := 7) (k := 5) (C := RX0) (T := TX0) ab_dk1_0.2.2.2.2.2.2.2.2.2.2.2.2.1 rfl (by decide) rfl wf_8
theorem ab_s1_21 : ab_Sn B 1 21 (ab_o_ild 3 22) := ab_s_iload_n (k := 3) (n := 3) ab_dk1_0.2.2.2.2.2.2.2.2.2.2.2.2.2.1 rfl
theorem ab_s1_22 : ab_Sn B 1 22 (ab_o_const 0 23) := ab_s_iconst (n := 0) ab_dk1_0.2.2.2.2.2.2.2.2.2.2.2.2.2.2.1 rfl
theorem ab_s1_23 : ab_Sn B 1 23 (ab_o_xst 1 24) := ab_s_bastore ab_dk1_0.2.2.2.2.2.2.2.2.2.2.2.2.2.2.2.1
theorem ab_s1_24 : ab_Sn B 1 24 (ab_o_ald 0 25) := ab_s_aload_n (k := 0) (n := 0) ab_dk1_1.1 rfl
theorem ab_s1_25 : ab_Sn B 1 25 (ab_o_getr 4 7 6 28) := ab_s_getr (i := 25) (ci := 0) (N := 7) (k := 6) (C := RX0) (T := TX0) ab_dk1_1.2.1 rfl (by decide) rfl wf_9
theorem ab_s1_28 : ab_Sn B 1 28 (ab_o_ild 3 29) := ab_s_iload_n (k := 3) (n := 3) ab_dk1_1.2.2.1 rfl
theorem ab_s1_29 : ab_Sn B 1 29 (ab_o_const 0 30) := ab_s_iconst (n := 0) ab_dk1_1.2.2.2.1 rfl
theorem ab_s1_30 : ab_Sn B 1 30 (ab_o_xst 0 31) := ab_s_iastore ab_dk1_1.2.2.2.2.1
theorem ab_s1_31 : ab_Sn B 1 31 (ab_o_const 0 32) := ab_s_iconst (n := 0) ab_dk1_1.2.2.2.2.2.1 rfl
theorem ab_s1_32 : ab_Sn B 1 32 (ab_o_ist 4 34) := ab_s_istore (k := 4) ab_dk1_1.2.2.2.2.2.2.1
theorem ab_s1_34 : ab_Sn B 1 34 (ab_o_ild 4 36) := ab_s_iload (k := 4) ab_dk1_1.2.2.2.2.2.2.2.1
theorem ab_s1_36 : ab_Sn B 1 36 (ab_o_const 8 38) := ab_s_bipush (n := 8) ab_dk1_1.2.2.2.2.2.2.2.2.1 (by decide)
theorem ab_s1_38 : ab_Sn B 1 38 (ab_o_icmp ab_ge 68 41) := ab_s_icmp_ge (tg := 68) (off := 30) ab_dk1_1.2.2.2.2.2.2.2.2.2.1 (by decide)
theorem ab_s1_41 : ab_Sn B 1 41 (ab_o_ald 0 42) := ab_s_aload_n (k := 0) (n := 0) ab_dk1_1.2.2.2.2.2.2.2.2.2.2.1 rfl
theorem ab_s1_42 : ab_Sn B 1 42 (ab_o_getr 4 7 4 45) := ab_s_getr (i := 18) (ci := 0) (N := 7) (k := 4) (C := RX0) (T := TX0) ab_dk1_1.2.2.2.2.2.2.2.2.2.2.2.1 rfl (by decide) rfl wf_6
theorem ab_s1_45 : ab_Sn B 1 45 (ab_o_ild 3 46) := ab_s_iload_n (k := 3) (n := 3) ab_dk1_1.2.2.2.2.2.2.2.2.2.2.2.2.1 rfl
theorem ab_s1_46 : ab_Sn B 1 46 (ab_o_const 8 48) := ab_s_bipush (n := 8) ab_dk1_1.2.2.2.2.2.2.2.2.2.2.2.2.2.1 (by decide)
theorem ab_s1_48 : ab_Sn B 1 48 (ab_o_bin (fun a b => a * b) 49) := ab_s_imul ab_dk1_1.2.2.2.2.2.2.2.2.2.2.2.2.2.2.1
theorem ab_s1_49 : ab_Sn B 1 49 (ab_o_ild 4 51) := ab_s_iload (k := 4) ab_dk1_1.2.2.2.2.2.2.2.2.2.2.2.2.2.2.2.1
theorem ab_s1_51 : ab_Sn B 1 51 (ab_o_bin (fun a b => a + b) 52) := ab_s_iadd ab_dk1_2.1
theorem ab_s1_52 : ab_Sn B 1 52 (ab_o_const 0 53) := ab_s_iconst (n := 0) ab_dk1_2.2.1 rfl
theorem ab_s1_53 : ab_Sn B 1 53 (ab_o_xst 0 54) := ab_s_iastore ab_dk1_2.2.2.1
theorem ab_s1_54 : ab_Sn B 1 54 (ab_o_ald 0 55) := ab_s_aload_n (k := 0) (n := 0) ab_dk1_2.2.2.2.1 rfl
theorem ab_s1_55 : ab_Sn B 1 55 (ab_o_ild 3 56) := ab_s_iload_n (k := 3) (n := 3) ab_dk1_2.2.2.2.2.1 rfl
theorem ab_s1_56 : ab_Sn B 1 56 (ab_o_ild 4 58) := ab_s_iload (k := 4) ab_dk1_2.2.2.2.2.2.1
theorem ab_s1_58 : ab_Sn B 1 58 (ab_o_const 0 59) := ab_s_iconst (n := 0) ab_dk1_2.2.2.2.2.2.2.1 rfl
theorem ab_s1_59 : ab_Sn B 1 59 (ab_o_call (some (4, 7)) [] 26 5 4 false 62) := ab_s_callV (M' := 26) (na := 3) (i := 35) (ci := 0) (N := 7) (C := RX0) (T := TX0) (v := false) (ab_hok_n (by decide +kernel)) (by decide +kernel) ab_dk1_2.2.2.2.2.2.2.2.1 rfl (by decide) (by decide +kernel) (by decide +kernel) (by decide) wf_12 wf_13 wf_14 wf_16 wf_15
theorem ab_s1_62 : ab_Sn B 1 62 (ab_o_inc 4 1 65) := ab_s_iinc (k := 4) (n := 1) ab_dk1_2.2.2.2.2.2.2.2.2.1
theorem ab_s1_65 : ab_Sn B 1 65 (ab_o_goto 34) := ab_s_goto (tg := 34) (off := -31) ab_dk1_2.2.2.2.2.2.2.2.2.2.1 (by decide)
theorem ab_s1_68 : ab_Sn B 1 68 (ab_o_inc 3 1 71) := ab_s_iinc (k := 3) (n := 1) ab_dk1_2.2.2.2.2.2.2.2.2.2.2.1
theorem ab_s1_71 : ab_Sn B 1 71 (ab_o_goto 12) := ab_s_goto (tg := 12) (off := -59) ab_dk1_2.2.2.2.2.2.2.2.2.2.2.2.1 (by decide)
theorem ab_s1_74 : ab_Sn B 1 74 (ab_o_ret) := ab_s_ret ab_dk1_2.2.2.2.2.2.2.2.2.2.2.2.2.1 rfl
set_option maxRecDepth 20000 in
theorem ab_sn1 : ab_all B 1 0 (ab_c1) := ⟨ab_s1_0, ab_s1_1, ab_s1_2, trivial, trivial, ab_s1_5, ab_s1_6, ab_s1_7, trivial, trivial, ab_s1_10, ab_s1_11, ab_s1_12, ab_s1_13, ab_s1_14, trivial, trivial, ab_s1_17, ab_s1_18, trivial, trivial, ab_s1_21, ab_s1_22, ab_s1_23, ab_s1_24, ab_s1_25, trivial, trivial, ab_s1_28, ab_s1_29, ab_s1_30, ab_s1_31, ab_s1_32, trivial, ab_s1_34, trivial, ab_s1_36, trivial, ab_s1_38, trivial, trivial, ab_s1_41, ab_s1_42, trivial, trivial, ab_s1_45, ab_s1_46, trivial, ab_s1_48, ab_s1_49, trivial, ab_s1_51, ab_s1_52, ab_s1_53, ab_s1_54, ab_s1_55, ab_s1_56, trivial, ab_s1_58, ab_s1_59, trivial, trivial, ab_s1_62, trivial, trivial, ab_s1_65, trivial, trivial, ab_s1_68, trivial, trivial, ab_s1_71, trivial, trivial, ab_s1_74, trivial⟩
theorem ab_dk2_0 : ab_dp 2 [(0, .iload_n 1, 1), (1, .ifCond .lt 15, 3), (4, .iload_n 1, 1), (5, .aload_n 0, 1), (6, .getfield 28, 3), (9, .if_icmp .ge 7, 3), (12, .iconst 1, 1), (13, .goto 4, 3), (16, .iconst 0, 1), (17, .ireturn, 1)] := ab_da (by decide +kernel)
theorem ab_s2_0 : ab_Sn B 2 0 (ab_o_ild 1 1) := ab_s_iload_n (k := 1) (n := 1) ab_dk2_0.1 rfl
theorem ab_s2_1 : ab_Sn B 2 1 (ab_o_if ab_lt 16 4) := ab_s_if_lt (tg := 16) (off := 15) ab_dk2_0.2.1 (by decide)
theorem ab_s2_4 : ab_Sn B 2 4 (ab_o_ild 1 5) := ab_s_iload_n (k := 1) (n := 1) ab_dk2_0.2.2.1 rfl
theorem ab_s2_5 : ab_Sn B 2 5 (ab_o_ald 0 6) := ab_s_aload_n (k := 0) (n := 0) ab_dk2_0.2.2.2.1 rfl
theorem ab_s2_6 : ab_Sn B 2 6 (ab_o_geti 4 7 0 9) := ab_s_geti (i := 28) (ci := 0) (N := 7) (k := 0) (C := RX0) (T := TX0) ab_dk2_0.2.2.2.2.1 rfl (by decide) rfl wf_10
theorem ab_s2_9 : ab_Sn B 2 9 (ab_o_icmp ab_ge 16 12) := ab_s_icmp_ge (tg := 16) (off := 7) ab_dk2_0.2.2.2.2.2.1 (by decide)
theorem ab_s2_12 : ab_Sn B 2 12 (ab_o_const 1 13) := ab_s_iconst (n := 1) ab_dk2_0.2.2.2.2.2.2.1 rfl
theorem ab_s2_13 : ab_Sn B 2 13 (ab_o_goto 17) := ab_s_goto (tg := 17) (off := 4) ab_dk2_0.2.2.2.2.2.2.2.1 (by decide)
theorem ab_s2_16 : ab_Sn B 2 16 (ab_o_const 0 17) := ab_s_iconst (n := 0) ab_dk2_0.2.2.2.2.2.2.2.2.1 rfl
theorem ab_s2_17 : ab_Sn B 2 17 (ab_o_iret true) := ab_s_iret (b := true) (ty := .boolean) ab_dk2_0.2.2.2.2.2.2.2.2.2.1 rfl (Or.inr (Or.inl ⟨rfl, rfl⟩))
set_option maxRecDepth 20000 in
theorem ab_sn2 : ab_all B 2 0 (ab_c2) := ⟨ab_s2_0, ab_s2_1, trivial, trivial, ab_s2_4, ab_s2_5, ab_s2_6, trivial, trivial, ab_s2_9, trivial, trivial, ab_s2_12, ab_s2_13, trivial, trivial, ab_s2_16, ab_s2_17, trivial⟩
theorem ab_dk3_0 : ab_dp 3 [(0, .iload_n 1, 1), (1, .ifCond .lt 15, 3), (4, .iload_n 1, 1), (5, .aload_n 0, 1), (6, .getfield 32, 3), (9, .if_icmp .ge 7, 3), (12, .iconst 1, 1), (13, .goto 4, 3), (16, .iconst 0, 1), (17, .ireturn, 1)] := ab_da (by decide +kernel)
theorem ab_s3_0 : ab_Sn B 3 0 (ab_o_ild 1 1) := ab_s_iload_n (k := 1) (n := 1) ab_dk3_0.1 rfl
theorem ab_s3_1 : ab_Sn B 3 1 (ab_o_if ab_lt 16 4) := ab_s_if_lt (tg := 16) (off := 15) ab_dk3_0.2.1 (by decide)
theorem ab_s3_4 : ab_Sn B 3 4 (ab_o_ild 1 5) := ab_s_iload_n (k := 1) (n := 1) ab_dk3_0.2.2.1 rfl
theorem ab_s3_5 : ab_Sn B 3 5 (ab_o_ald 0 6) := ab_s_aload_n (k := 0) (n := 0) ab_dk3_0.2.2.2.1 rfl
theorem ab_s3_6 : ab_Sn B 3 6 (ab_o_geti 4 7 1 9) := ab_s_geti (i := 32) (ci := 0) (N := 7) (k := 1) (C := RX0) (T := TX0) ab_dk3_0.2.2.2.2.1 rfl (by decide) rfl wf_11
theorem ab_s3_9 : ab_Sn B 3 9 (ab_o_icmp ab_ge 16 12) := ab_s_icmp_ge (tg := 16) (off := 7) ab_dk3_0.2.2.2.2.2.1 (by decide)
theorem ab_s3_12 : ab_Sn B 3 12 (ab_o_const 1 13) := ab_s_iconst (n := 1) ab_dk3_0.2.2.2.2.2.2.1 rfl
theorem ab_s3_13 : ab_Sn B 3 13 (ab_o_goto 17) := ab_s_goto (tg := 17) (off := 4) ab_dk3_0.2.2.2.2.2.2.2.1 (by decide)
theorem ab_s3_16 : ab_Sn B 3 16 (ab_o_const 0 17) := ab_s_iconst (n := 0) ab_dk3_0.2.2.2.2.2.2.2.2.1 rfl
theorem ab_s3_17 : ab_Sn B 3 17 (ab_o_iret true) := ab_s_iret (b := true) (ty := .boolean) ab_dk3_0.2.2.2.2.2.2.2.2.2.1 rfl (Or.inr (Or.inl ⟨rfl, rfl⟩))
set_option maxRecDepth 20000 in
theorem ab_sn3 : ab_all B 3 0 (ab_c3) := ⟨ab_s3_0, ab_s3_1, trivial, trivial, ab_s3_4, ab_s3_5, ab_s3_6, trivial, trivial, ab_s3_9, trivial, trivial, ab_s3_12, ab_s3_13, trivial, trivial, ab_s3_16, ab_s3_17, trivial⟩
theorem ab_dk4_0 : ab_dp 4 [(0, .iload_n 1, 1), (1, .ifCond .lt 15, 3), (4, .iload_n 1, 1), (5, .aload_n 0, 1), (6, .invokevirtual 39, 3), (9, .if_icmp .ge 7, 3), (12, .iconst 1, 1), (13, .goto 4, 3), (16, .iconst 0, 1), (17, .ireturn, 1)] := ab_da (by decide +kernel)
theorem ab_s4_0 : ab_Sn B 4 0 (ab_o_ild 1 1) := ab_s_iload_n (k := 1) (n := 1) ab_dk4_0.1 rfl
theorem ab_s4_1 : ab_Sn B 4 1 (ab_o_if ab_lt 16 4) := ab_s_if_lt (tg := 16) (off := 15) ab_dk4_0.2.1 (by decide)
theorem ab_s4_4 : ab_Sn B 4 4 (ab_o_ild 1 5) := ab_s_iload_n (k := 1) (n := 1) ab_dk4_0.2.2.1 rfl
theorem ab_s4_5 : ab_Sn B 4 5 (ab_o_ald 0 6) := ab_s_aload_n (k := 0) (n := 0) ab_dk4_0.2.2.2.1 rfl
theorem ab_s4_6 : ab_Sn B 4 6 (ab_o_call (some (4, 7)) [] 5 1 1 true 9) := ab_s_callV (M' := 5) (na := 0) (i := 39) (ci := 0) (N := 7) (C := RX0) (T := TX0) (v := true) (ab_hok_n (by decide +kernel)) (by decide +kernel) ab_dk4_0.2.2.2.2.1 rfl (by decide) (by decide +kernel) (by decide +kernel) (by decide) wf_17 wf_18 wf_19 wf_20 wf_15
theorem ab_s4_9 : ab_Sn B 4 9 (ab_o_icmp ab_ge 16 12) := ab_s_icmp_ge (tg := 16) (off := 7) ab_dk4_0.2.2.2.2.2.1 (by decide)
theorem ab_s4_12 : ab_Sn B 4 12 (ab_o_const 1 13) := ab_s_iconst (n := 1) ab_dk4_0.2.2.2.2.2.2.1 rfl
theorem ab_s4_13 : ab_Sn B 4 13 (ab_o_goto 17) := ab_s_goto (tg := 17) (off := 4) ab_dk4_0.2.2.2.2.2.2.2.1 (by decide)
theorem ab_s4_16 : ab_Sn B 4 16 (ab_o_const 0 17) := ab_s_iconst (n := 0) ab_dk4_0.2.2.2.2.2.2.2.2.1 rfl
theorem ab_s4_17 : ab_Sn B 4 17 (ab_o_iret true) := ab_s_iret (b := true) (ty := .boolean) ab_dk4_0.2.2.2.2.2.2.2.2.2.1 rfl (Or.inr (Or.inl ⟨rfl, rfl⟩))
set_option maxRecDepth 20000 in
theorem ab_sn4 : ab_all B 4 0 (ab_c4) := ⟨ab_s4_0, ab_s4_1, trivial, trivial, ab_s4_4, ab_s4_5, ab_s4_6, trivial, trivial, ab_s4_9, trivial, trivial, ab_s4_12, ab_s4_13, trivial, trivial, ab_s4_16, ab_s4_17, trivial⟩
theorem ab_dk5_0 : ab_dp 5 [(0, .aload_n 0, 1), (1, .getfield 28, 3), (4, .ifCond .le 17, 3), (7, .aload_n 0, 1), (8, .getfield 28, 3), (11, .iconst 1, 1), (12, .isub, 1), (13, .aload_n 0, 1), (14, .getfield 32, 3), (17, .imul, 1), (18, .goto 4, 3), (21, .iconst 0, 1), (22, .ireturn, 1)] := ab_da (by decide +kernel)
theorem ab_s5_0 : ab_Sn B 5 0 (ab_o_ald 0 1) := ab_s_aload_n (k := 0) (n := 0) ab_dk5_0.1 rfl
theorem ab_s5_1 : ab_Sn B 5 1 (ab_o_geti 4 7 0 4) := ab_s_geti (i := 28) (ci := 0) (N := 7) (k := 0) (C := RX0) (T := TX0) ab_dk5_0.2.1 rfl (by decide) rfl wf_10
theorem ab_s5_4 : ab_Sn B 5 4 (ab_o_if ab_le 21 7) := ab_s_if_le (tg := 21) (off := 17) ab_dk5_0.2.2.1 (by decide)
theorem ab_s5_7 : ab_Sn B 5 7 (ab_o_ald 0 8) := ab_s_aload_n (k := 0) (n := 0) ab_dk5_0.2.2.2.1 rfl
theorem ab_s5_8 : ab_Sn B 5 8 (ab_o_geti 4 7 0 11) := ab_s_geti (i := 28) (ci := 0) (N := 7) (k := 0) (C := RX0) (T := TX0) ab_dk5_0.2.2.2.2.1 rfl (by decide) rfl wf_10
theorem ab_s5_11 : ab_Sn B 5 11 (ab_o_const 1 12) := ab_s_iconst (n := 1) ab_dk5_0.2.2.2.2.2.1 rfl
theorem ab_s5_12 : ab_Sn B 5 12 (ab_o_bin (fun a b => a - b) 13) := ab_s_isub ab_dk5_0.2.2.2.2.2.2.1
theorem ab_s5_13 : ab_Sn B 5 13 (ab_o_ald 0 14) := ab_s_aload_n (k := 0) (n := 0) ab_dk5_0.2.2.2.2.2.2.2.1 rfl
theorem ab_s5_14 : ab_Sn B 5 14 (ab_o_geti 4 7 1 17) := ab_s_geti (i := 32) (ci := 0) (N := 7) (k := 1) (C := RX0) (T := TX0) ab_dk5_0.2.2.2.2.2.2.2.2.1 rfl (by decide) rfl wf_11
theorem ab_s5_17 : ab_Sn B 5 17 (ab_o_bin (fun a b => a * b) 18) := ab_s_imul ab_dk5_0.2.2.2.2.2.2.2.2.2.1
theorem ab_s5_18 : ab_Sn B 5 18 (ab_o_goto 22) := ab_s_goto (tg := 22) (off := 4) ab_dk5_0.2.2.2.2.2.2.2.2.2.2.1 (by decide)
theorem ab_s5_21 : ab_Sn B 5 21 (ab_o_const 0 22) := ab_s_iconst (n := 0) ab_dk5_0.2.2.2.2.2.2.2.2.2.2.2.1 rfl
theorem ab_s5_22 : ab_Sn B 5 22 (ab_o_iret false) := ab_s_iret (b := false) (ty := .int) ab_dk5_0.2.2.2.2.2.2.2.2.2.2.2.2.1 rfl (Or.inl ⟨rfl, rfl⟩)
set_option maxRecDepth 20000 in
theorem ab_sn5 : ab_all B 5 0 (ab_c5) := ⟨ab_s5_0, ab_s5_1, trivial, trivial, ab_s5_4, trivial, trivial, ab_s5_7, ab_s5_8, trivial, trivial, ab_s5_11, ab_s5_12, ab_s5_13, ab_s5_14, trivial, trivial, ab_s5_17, ab_s5_18, trivial, trivial, ab_s5_21, ab_s5_22, trivial⟩
theorem ab_dk6_0 : ab_dp 6 [(0, .aload_n 0, 1), (1, .getfield 28, 3), (4, .iconst 1, 1), (5, .if_icmp .le 14, 3), (8, .iload_n 1, 1), (9, .aload_n 0, 1), (10, .getfield 28, 3), (13, .iconst 1, 1), (14, .isub, 1), (15, .idiv, 1), (16, .goto 4, 3), (19, .iconst 0, 1), (20, .ireturn, 1)] := ab_da (by decide +kernel)
theorem ab_s6_0 : ab_Sn B 6 0 (ab_o_ald 0 1) := ab_s_aload_n (k := 0) (n := 0) ab_dk6_0.1 rfl
theorem ab_s6_1 : ab_Sn B 6 1 (ab_o_geti 4 7 0 4) := ab_s_geti (i := 28) (ci := 0) (N := 7) (k := 0) (C := RX0) (T := TX0) ab_dk6_0.2.1 rfl (by decide) rfl wf_10
theorem ab_s6_4 : ab_Sn B 6 4 (ab_o_const 1 5) := ab_s_iconst (n := 1) ab_dk6_0.2.2.1 rfl
theorem ab_s6_5 : ab_Sn B 6 5 (ab_o_icmp ab_le 19 8) := ab_s_icmp_le (tg := 19) (off := 14) ab_dk6_0.2.2.2.1 (by decide)
theorem ab_s6_8 : ab_Sn B 6 8 (ab_o_ild 1 9) := ab_s_iload_n (k := 1) (n := 1) ab_dk6_0.2.2.2.2.1 rfl
theorem ab_s6_9 : ab_Sn B 6 9 (ab_o_ald 0 10) := ab_s_aload_n (k := 0) (n := 0) ab_dk6_0.2.2.2.2.2.1 rfl
theorem ab_s6_10 : ab_Sn B 6 10 (ab_o_geti 4 7 0 13) := ab_s_geti (i := 28) (ci := 0) (N := 7) (k := 0) (C := RX0) (T := TX0) ab_dk6_0.2.2.2.2.2.2.1 rfl (by decide) rfl wf_10
theorem ab_s6_13 : ab_Sn B 6 13 (ab_o_const 1 14) := ab_s_iconst (n := 1) ab_dk6_0.2.2.2.2.2.2.2.1 rfl
theorem ab_s6_14 : ab_Sn B 6 14 (ab_o_bin (fun a b => a - b) 15) := ab_s_isub ab_dk6_0.2.2.2.2.2.2.2.2.1
theorem ab_s6_15 : ab_Sn B 6 15 (ab_o_div ab_idiv 16) := ab_s_idiv ab_dk6_0.2.2.2.2.2.2.2.2.2.1
theorem ab_s6_16 : ab_Sn B 6 16 (ab_o_goto 20) := ab_s_goto (tg := 20) (off := 4) ab_dk6_0.2.2.2.2.2.2.2.2.2.2.1 (by decide)
theorem ab_s6_19 : ab_Sn B 6 19 (ab_o_const 0 20) := ab_s_iconst (n := 0) ab_dk6_0.2.2.2.2.2.2.2.2.2.2.2.1 rfl
theorem ab_s6_20 : ab_Sn B 6 20 (ab_o_iret false) := ab_s_iret (b := false) (ty := .int) ab_dk6_0.2.2.2.2.2.2.2.2.2.2.2.2.1 rfl (Or.inl ⟨rfl, rfl⟩)
set_option maxRecDepth 20000 in
theorem ab_sn6 : ab_all B 6 0 (ab_c6) := ⟨ab_s6_0, ab_s6_1, trivial, trivial, ab_s6_4, ab_s6_5, trivial, trivial, ab_s6_8, ab_s6_9, ab_s6_10, trivial, trivial, ab_s6_13, ab_s6_14, ab_s6_15, ab_s6_16, trivial, trivial, ab_s6_19, ab_s6_20, trivial⟩
theorem ab_dk7_0 : ab_dp 7 [(0, .aload_n 0, 1), (1, .getfield 28, 3), (4, .iconst 1, 1), (5, .if_icmp .le 14, 3), (8, .iload_n 1, 1), (9, .aload_n 0, 1), (10, .getfield 28, 3), (13, .iconst 1, 1), (14, .isub, 1), (15, .irem, 1), (16, .goto 4, 3), (19, .iconst 0, 1), (20, .istore_n 2, 1), (21, .iload_n 2, 1), (22, .aload_n 0, 1), (23, .aload_n 0, 1)] := ab_da (by decide +kernel)
theorem ab_dk7_1 : ab_dp 7 [(24, .iload_n 1, 1), (25, .invokevirtual 43, 3), (28, .invokevirtual 47, 3), (31, .if_icmp .ge 7, 3), (34, .iload_n 2, 1), (35, .goto 6, 3), (38, .iload_n 2, 1), (39, .iconst 1, 1), (40, .iadd, 1), (41, .ireturn, 1)] := ab_da (by decide +kernel)
theorem ab_s7_0 : ab_Sn B 7 0 (ab_o_ald 0 1) := ab_s_aload_n (k := 0) (n := 0) ab_dk7_0.1 rfl
theorem ab_s7_1 : ab_Sn B 7 1 (ab_o_geti 4 7 0 4) := ab_s_geti (i := 28) (ci := 0) (N := 7) (k := 0) (C := RX0) (T := TX0) ab_dk7_0.2.1 rfl (by decide) rfl wf_10
theorem ab_s7_4 : ab_Sn B 7 4 (ab_o_const 1 5) := ab_s_iconst (n := 1) ab_dk7_0.2.2.1 rfl
theorem ab_s7_5 : ab_Sn B 7 5 (ab_o_icmp ab_le 19 8) := ab_s_icmp_le (tg := 19) (off := 14) ab_dk7_0.2.2.2.1 (by decide)
theorem ab_s7_8 : ab_Sn B 7 8 (ab_o_ild 1 9) := ab_s_iload_n (k := 1) (n := 1) ab_dk7_0.2.2.2.2.1 rfl
theorem ab_s7_9 : ab_Sn B 7 9 (ab_o_ald 0 10) := ab_s_aload_n (k := 0) (n := 0) ab_dk7_0.2.2.2.2.2.1 rfl
theorem ab_s7_10 : ab_Sn B 7 10 (ab_o_geti 4 7 0 13) := ab_s_geti (i := 28) (ci := 0) (N := 7) (k := 0) (C := RX0) (T := TX0) ab_dk7_0.2.2.2.2.2.2.1 rfl (by decide) rfl wf_10
theorem ab_s7_13 : ab_Sn B 7 13 (ab_o_const 1 14) := ab_s_iconst (n := 1) ab_dk7_0.2.2.2.2.2.2.2.1 rfl
theorem ab_s7_14 : ab_Sn B 7 14 (ab_o_bin (fun a b => a - b) 15) := ab_s_isub ab_dk7_0.2.2.2.2.2.2.2.2.1
theorem ab_s7_15 : ab_Sn B 7 15 (ab_o_div ab_irem 16) := ab_s_irem ab_dk7_0.2.2.2.2.2.2.2.2.2.1
theorem ab_s7_16 : ab_Sn B 7 16 (ab_o_goto 20) := ab_s_goto (tg := 20) (off := 4) ab_dk7_0.2.2.2.2.2.2.2.2.2.2.1 (by decide)
theorem ab_s7_19 : ab_Sn B 7 19 (ab_o_const 0 20) := ab_s_iconst (n := 0) ab_dk7_0.2.2.2.2.2.2.2.2.2.2.2.1 rfl
theorem ab_s7_20 : ab_Sn B 7 20 (ab_o_ist 2 21) := ab_s_istore_n (k := 2) (n := 2) ab_dk7_0.2.2.2.2.2.2.2.2.2.2.2.2.1 rfl
theorem ab_s7_21 : ab_Sn B 7 21 (ab_o_ild 2 22) := ab_s_iload_n (k := 2) (n := 2) ab_dk7_0.2.2.2.2.2.2.2.2.2.2.2.2.2.1 rfl
theorem ab_s7_22 : ab_Sn B 7 22 (ab_o_ald 0 23) := ab_s_aload_n (k := 0) (n := 0) ab_dk7_0.2.2.2.2.2.2.2.2.2.2.2.2.2.2.1 rfl
theorem ab_s7_23 : ab_Sn B 7 23 (ab_o_ald 0 24) := ab_s_aload_n (k := 0) (n := 0) ab_dk7_0.2.2.2.2.2.2.2.2.2.2.2.2.2.2.2.1 rfl
theorem ab_s7_24 : ab_Sn B 7 24 (ab_o_ild 1 25) := ab_s_iload_n (k := 1) (n := 1) ab_dk7_1.1 rfl
theorem ab_s7_25 : ab_Sn B 7 25 (ab_o_call (some (4, 7)) [] 6 2 2 true 28) := ab_s_callV (M' := 6) (na := 1) (i := 43) (ci := 0) (N := 7) (C := RX0) (T := TX0) (v := true) (ab_hok_n (by decide +kernel)) (by decide +kernel) ab_dk7_1.2.1 rfl (by decide) (by decide +kernel) (by decide +kernel) (by decide) wf_21 wf_22 wf_23 wf_24 wf_15
theorem ab_s7_28 : ab_Sn B 7 28 (ab_o_call (some (4, 7)) [] 9 2 2 true 31) := ab_s_callV (M' := 9) (na := 1) (i := 47) (ci := 0) (N := 7) (C := RX0) (T := TX0) (v := true) (ab_hok_n (by decide +kernel)) (by decide +kernel) ab_dk7_1.2.2.1 rfl (by decide) (by decide +kernel) (by decide +kernel) (by decide) wf_25 wf_26 wf_27 wf_28 wf_15
theorem ab_s7_31 : ab_Sn B 7 31 (ab_o_icmp ab_ge 38 34) := ab_s_icmp_ge (tg := 38) (off := 7) ab_dk7_1.2.2.2.1 (by decide)
theorem ab_s7_34 : ab_Sn B 7 34 (ab_o_ild 2 35) := ab_s_iload_n (k := 2) (n := 2) ab_dk7_1.2.2.2.2.1 rfl
theorem ab_s7_35 : ab_Sn B 7 35 (ab_o_goto 41) := ab_s_goto (tg := 41) (off := 6) ab_dk7_1.2.2.2.2.2.1 (by decide)
theorem ab_s7_38 : ab_Sn B 7 38 (ab_o_ild 2 39) := ab_s_iload_n (k := 2) (n := 2) ab_dk7_1.2.2.2.2.2.2.1 rfl
theorem ab_s7_39 : ab_Sn B 7 39 (ab_o_const 1 40) := ab_s_iconst (n := 1) ab_dk7_1.2.2.2.2.2.2.2.1 rfl
theorem ab_s7_40 : ab_Sn B 7 40 (ab_o_bin (fun a b => a + b) 41) := ab_s_iadd ab_dk7_1.2.2.2.2.2.2.2.2.1
theorem ab_s7_41 : ab_Sn B 7 41 (ab_o_iret false) := ab_s_iret (b := false) (ty := .int) ab_dk7_1.2.2.2.2.2.2.2.2.2.1 rfl (Or.inl ⟨rfl, rfl⟩)
set_option maxRecDepth 20000 in
theorem ab_sn7 : ab_all B 7 0 (ab_c7) := ⟨ab_s7_0, ab_s7_1, trivial, trivial, ab_s7_4, ab_s7_5, trivial, trivial, ab_s7_8, ab_s7_9, ab_s7_10, trivial, trivial, ab_s7_13, ab_s7_14, ab_s7_15, ab_s7_16, trivial, trivial, ab_s7_19, ab_s7_20, ab_s7_21, ab_s7_22, ab_s7_23, ab_s7_24, ab_s7_25, trivial, trivial, ab_s7_28, trivial, trivial, ab_s7_31, trivial, trivial, ab_s7_34, ab_s7_35, trivial, trivial, ab_s7_38, ab_s7_39, ab_s7_40, ab_s7_41, trivial⟩
theorem ab_dk8_0 : ab_dp 8 [(0, .aload_n 0, 1), (1, .iload_n 2, 1), (2, .invokevirtual 47, 3), (5, .istore_n 3, 1), (6, .iload_n 1, 1), (7, .iload_n 3, 1), (8, .if_icmp .ne 5, 3), (11, .iconst (-1), 1), (12, .ireturn, 1), (13, .iload_n 2, 1), (14, .aload_n 0, 1), (15, .getfield 28, 3), (18, .iconst 1, 1), (19, .isub, 1), (20, .imul, 1), (21, .iload_n 1, 1)] := ab_da (by decide +kernel)
theorem ab_dk8_1 : ab_dp 8 [(22, .iload_n 3, 1), (23, .if_icmp .ge 7, 3), (26, .iload_n 1, 1), (27, .goto 6, 3), (30, .iload_n 1, 1), (31, .iconst 1, 1), (32, .isub, 1), (33, .iadd, 1), (34, .ireturn, 1)] := ab_da (by decide +kernel)
theorem ab_s8_0 : ab_Sn B 8 0 (ab_o_ald 0 1) := ab_s_aload_n (k := 0) (n := 0) ab_dk8_0.1 rfl
theorem ab_s8_1 : ab_Sn B 8 1 (ab_o_ild 2 2) := ab_s_iload_n (k := 2) (n := 2) ab_dk8_0.2.1 rfl
theorem ab_s8_2 : ab_Sn B 8 2 (ab_o_call (some (4, 7)) [] 9 2 2 true 5) := ab_s_callV (M' := 9) (na := 1) (i := 47) (ci := 0) (N := 7) (C := RX0) (T := TX0) (v := true) (ab_hok_n (by decide +kernel)) (by decide +kernel) ab_dk8_0.2.2.1 rfl (by decide) (by decide +kernel) (by decide +kernel) (by decide) wf_25 wf_26 wf_27 wf_28 wf_15
theorem ab_s8_5 : ab_Sn B 8 5 (ab_o_ist 3 6) := ab_s_istore_n (k := 3) (n := 3) ab_dk8_0.2.2.2.1 rfl
theorem ab_s8_6 : ab_Sn B 8 6 (ab_o_ild 1 7) := ab_s_iload_n (k := 1) (n := 1) ab_dk8_0.2.2.2.2.1 rfl
theorem ab_s8_7 : ab_Sn B 8 7 (ab_o_ild 3 8) := ab_s_iload_n (k := 3) (n := 3) ab_dk8_0.2.2.2.2.2.1 rfl
theorem ab_s8_8 : ab_Sn B 8 8 (ab_o_icmp ab_ne 13 11) := ab_s_icmp_ne (tg := 13) (off := 5) ab_dk8_0.2.2.2.2.2.2.1 (by decide)
theorem ab_s8_11 : ab_Sn B 8 11 (ab_o_const (-1) 12) := ab_s_iconst (n := (-1)) ab_dk8_0.2.2.2.2.2.2.2.1 rfl
theorem ab_s8_12 : ab_Sn B 8 12 (ab_o_iret false) := ab_s_iret (b := false) (ty := .int) ab_dk8_0.2.2.2.2.2.2.2.2.1 rfl (Or.inl ⟨rfl, rfl⟩)
theorem ab_s8_13 : ab_Sn B 8 13 (ab_o_ild 2 14) := ab_s_iload_n (k := 2) (n := 2) ab_dk8_0.2.2.2.2.2.2.2.2.2.1 rfl
theorem ab_s8_14 : ab_Sn B 8 14 (ab_o_ald 0 15) := ab_s_aload_n (k := 0) (n := 0) ab_dk8_0.2.2.2.2.2.2.2.2.2.2.1 rfl
theorem ab_s8_15 : ab_Sn B 8 15 (ab_o_geti 4 7 0 18) := ab_s_geti (i := 28) (ci := 0) (N := 7) (k := 0) (C := RX0) (T := TX0) ab_dk8_0.2.2.2.2.2.2.2.2.2.2.2.1 rfl (by decide) rfl wf_10
theorem ab_s8_18 : ab_Sn B 8 18 (ab_o_const 1 19) := ab_s_iconst (n := 1) ab_dk8_0.2.2.2.2.2.2.2.2.2.2.2.2.1 rfl
theorem ab_s8_19 : ab_Sn B 8 19 (ab_o_bin (fun a b => a - b) 20) := ab_s_isub ab_dk8_0.2.2.2.2.2.2.2.2.2.2.2.2.2.1
theorem ab_s8_20 : ab_Sn B 8 20 (ab_o_bin (fun a b => a * b) 21) := ab_s_imul ab_dk8_0.2.2.2.2.2.2.2.2.2.2.2.2.2.2.1
theorem ab_s8_21 : ab_Sn B 8 21 (ab_o_ild 1 22) := ab_s_iload_n (k := 1) (n := 1) ab_dk8_0.2.2.2.2.2.2.2.2.2.2.2.2.2.2.2.1 rfl
theorem ab_s8_22 : ab_Sn B 8 22 (ab_o_ild 3 23) := ab_s_iload_n (k := 3) (n := 3) ab_dk8_1.1 rfl
theorem ab_s8_23 : ab_Sn B 8 23 (ab_o_icmp ab_ge 30 26) := ab_s_icmp_ge (tg := 30) (off := 7) ab_dk8_1.2.1 (by decide)
theorem ab_s8_26 : ab_Sn B 8 26 (ab_o_ild 1 27) := ab_s_iload_n (k := 1) (n := 1) ab_dk8_1.2.2.1 rfl
theorem ab_s8_27 : ab_Sn B 8 27 (ab_o_goto 33) := ab_s_goto (tg := 33) (off := 6) ab_dk8_1.2.2.2.1 (by decide)
theorem ab_s8_30 : ab_Sn B 8 30 (ab_o_ild 1 31) := ab_s_iload_n (k := 1) (n := 1) ab_dk8_1.2.2.2.2.1 rfl
theorem ab_s8_31 : ab_Sn B 8 31 (ab_o_const 1 32) := ab_s_iconst (n := 1) ab_dk8_1.2.2.2.2.2.1 rfl
theorem ab_s8_32 : ab_Sn B 8 32 (ab_o_bin (fun a b => a - b) 33) := ab_s_isub ab_dk8_1.2.2.2.2.2.2.1
theorem ab_s8_33 : ab_Sn B 8 33 (ab_o_bin (fun a b => a + b) 34) := ab_s_iadd ab_dk8_1.2.2.2.2.2.2.2.1
theorem ab_s8_34 : ab_Sn B 8 34 (ab_o_iret false) := ab_s_iret (b := false) (ty := .int) ab_dk8_1.2.2.2.2.2.2.2.2.1 rfl (Or.inl ⟨rfl, rfl⟩)
set_option maxRecDepth 20000 in
theorem ab_sn8 : ab_all B 8 0 (ab_c8) := ⟨ab_s8_0, ab_s8_1, ab_s8_2, trivial, trivial, ab_s8_5, ab_s8_6, ab_s8_7, ab_s8_8, trivial, trivial, ab_s8_11, ab_s8_12, ab_s8_13, ab_s8_14, ab_s8_15, trivial, trivial, ab_s8_18, ab_s8_19, ab_s8_20, ab_s8_21, ab_s8_22, ab_s8_23, trivial, trivial, ab_s8_26, ab_s8_27, trivial, trivial, ab_s8_30, ab_s8_31, ab_s8_32, ab_s8_33, ab_s8_34, trivial⟩
theorem ab_dk9_0 : ab_dp 9 [(0, .aload_n 0, 1), (1, .getfield 28, 3), (4, .ifCond .le 12, 3), (7, .iload_n 1, 1), (8, .aload_n 0, 1), (9, .getfield 28, 3), (12, .irem, 1), (13, .goto 4, 3), (16, .iconst 0, 1), (17, .ireturn, 1)] := ab_da (by decide +kernel)
theorem ab_s9_0 : ab_Sn B 9 0 (ab_o_ald 0 1) := ab_s_aload_n (k := 0) (n := 0) ab_dk9_0.1 rfl
theorem ab_s9_1 : ab_Sn B 9 1 (ab_o_geti 4 7 0 4) := ab_s_geti (i := 28) (ci := 0) (N := 7) (k := 0) (C := RX0) (T := TX0) ab_dk9_0.2.1 rfl (by decide) rfl wf_10
theorem ab_s9_4 : ab_Sn B 9 4 (ab_o_if ab_le 16 7) := ab_s_if_le (tg := 16) (off := 12) ab_dk9_0.2.2.1 (by decide)
theorem ab_s9_7 : ab_Sn B 9 7 (ab_o_ild 1 8) := ab_s_iload_n (k := 1) (n := 1) ab_dk9_0.2.2.2.1 rfl
theorem ab_s9_8 : ab_Sn B 9 8 (ab_o_ald 0 9) := ab_s_aload_n (k := 0) (n := 0) ab_dk9_0.2.2.2.2.1 rfl
theorem ab_s9_9 : ab_Sn B 9 9 (ab_o_geti 4 7 0 12) := ab_s_geti (i := 28) (ci := 0) (N := 7) (k := 0) (C := RX0) (T := TX0) ab_dk9_0.2.2.2.2.2.1 rfl (by decide) rfl wf_10
theorem ab_s9_12 : ab_Sn B 9 12 (ab_o_div ab_irem 13) := ab_s_irem ab_dk9_0.2.2.2.2.2.2.1
theorem ab_s9_13 : ab_Sn B 9 13 (ab_o_goto 17) := ab_s_goto (tg := 17) (off := 4) ab_dk9_0.2.2.2.2.2.2.2.1 (by decide)
theorem ab_s9_16 : ab_Sn B 9 16 (ab_o_const 0 17) := ab_s_iconst (n := 0) ab_dk9_0.2.2.2.2.2.2.2.2.1 rfl
theorem ab_s9_17 : ab_Sn B 9 17 (ab_o_iret false) := ab_s_iret (b := false) (ty := .int) ab_dk9_0.2.2.2.2.2.2.2.2.2.1 rfl (Or.inl ⟨rfl, rfl⟩)
set_option maxRecDepth 20000 in
theorem ab_sn9 : ab_all B 9 0 (ab_c9) := ⟨ab_s9_0, ab_s9_1, trivial, trivial, ab_s9_4, trivial, trivial, ab_s9_7, ab_s9_8, ab_s9_9, trivial, trivial, ab_s9_12, ab_s9_13, trivial, trivial, ab_s9_16, ab_s9_17, trivial⟩
theorem ab_dk10_0 : ab_dp 10 [(0, .aload_n 0, 1), (1, .getfield 32, 3), (4, .ifCond .le 14, 3), (7, .iload_n 1, 1), (8, .iload_n 2, 1), (9, .iadd, 1), (10, .aload_n 0, 1), (11, .getfield 32, 3), (14, .irem, 1), (15, .goto 4, 3), (18, .iconst 0, 1), (19, .ireturn, 1)] := ab_da (by decide +kernel)
theorem ab_s10_0 : ab_Sn B 10 0 (ab_o_ald 0 1) := ab_s_aload_n (k := 0) (n := 0) ab_dk10_0.1 rfl
theorem ab_s10_1 : ab_Sn B 10 1 (ab_o_geti 4 7 1 4) := ab_s_geti (i := 32) (ci := 0) (N := 7) (k := 1) (C := RX0) (T := TX0) ab_dk10_0.2.1 rfl (by decide) rfl wf_11
theorem ab_s10_4 : ab_Sn B 10 4 (ab_o_if ab_le 18 7) := ab_s_if_le (tg := 18) (off := 14) ab_dk10_0.2.2.1 (by decide)
theorem ab_s10_7 : ab_Sn B 10 7 (ab_o_ild 1 8) := ab_s_iload_n (k := 1) (n := 1) ab_dk10_0.2.2.2.1 rfl
theorem ab_s10_8 : ab_Sn B 10 8 (ab_o_ild 2 9) := ab_s_iload_n (k := 2) (n := 2) ab_dk10_0.2.2.2.2.1 rfl
theorem ab_s10_9 : ab_Sn B 10 9 (ab_o_bin (fun a b => a + b) 10) := ab_s_iadd ab_dk10_0.2.2.2.2.2.1
theorem ab_s10_10 : ab_Sn B 10 10 (ab_o_ald 0 11) := ab_s_aload_n (k := 0) (n := 0) ab_dk10_0.2.2.2.2.2.2.1 rfl
theorem ab_s10_11 : ab_Sn B 10 11 (ab_o_geti 4 7 1 14) := ab_s_geti (i := 32) (ci := 0) (N := 7) (k := 1) (C := RX0) (T := TX0) ab_dk10_0.2.2.2.2.2.2.2.1 rfl (by decide) rfl wf_11
theorem ab_s10_14 : ab_Sn B 10 14 (ab_o_div ab_irem 15) := ab_s_irem ab_dk10_0.2.2.2.2.2.2.2.2.1
theorem ab_s10_15 : ab_Sn B 10 15 (ab_o_goto 19) := ab_s_goto (tg := 19) (off := 4) ab_dk10_0.2.2.2.2.2.2.2.2.2.1 (by decide)
theorem ab_s10_18 : ab_Sn B 10 18 (ab_o_const 0 19) := ab_s_iconst (n := 0) ab_dk10_0.2.2.2.2.2.2.2.2.2.2.1 rfl
theorem ab_s10_19 : ab_Sn B 10 19 (ab_o_iret false) := ab_s_iret (b := false) (ty := .int) ab_dk10_0.2.2.2.2.2.2.2.2.2.2.2.1 rfl (Or.inl ⟨rfl, rfl⟩)
set_option maxRecDepth 20000 in
theorem ab_sn10 : ab_all B 10 0 (ab_c10) := ⟨ab_s10_0, ab_s10_1, trivial, trivial, ab_s10_4, trivial, trivial, ab_s10_7, ab_s10_8, ab_s10_9, ab_s10_10, ab_s10_11, trivial, trivial, ab_s10_14, ab_s10_15, trivial, trivial, ab_s10_18, ab_s10_19, trivial⟩
theorem ab_dk11_0 : ab_dp 11 [(0, .aload_n 0, 1), (1, .iload_n 1, 1), (2, .iload_n 2, 1), (3, .invokevirtual 50, 3), (6, .istore_n 3, 1), (7, .iload_n 3, 1), (8, .iconst (-1), 1), (9, .if_icmp .ne 7, 3), (12, .iconst 0, 1), (13, .goto 9, 3), (16, .aload_n 0, 1), (17, .getfield 9, 3), (20, .iload_n 3, 1), (21, .iaload, 1), (22, .ireturn, 1)] := ab_da (by decide +kernel)
theorem ab_s11_0 : ab_Sn B 11 0 (ab_o_ald 0 1) := ab_s_aload_n (k := 0) (n := 0) ab_dk11_0.1 rfl
theorem ab_s11_1 : ab_Sn B 11 1 (ab_o_ild 1 2) := ab_s_iload_n (k := 1) (n := 1) ab_dk11_0.2.1 rfl
theorem ab_s11_2 : ab_Sn B 11 2 (ab_o_ild 2 3) := ab_s_iload_n (k := 2) (n := 2) ab_dk11_0.2.2.1 rfl
theorem ab_s11_3 : ab_Sn B 11 3 (ab_o_call (some (4, 7)) [] 35 4 3 true 6) := ab_s_callV (M' := 35) (na := 2) (i := 50) (ci := 0) (N := 7) (C := RX0) (T := TX0) (v := true) (ab_hok_n (by decide +kernel)) (by decide +kernel) ab_dk11_0.2.2.2.1 rfl (by decide) (by decide +kernel) (by decide +kernel) (by decide) wf_29 wf_30 wf_31 wf_32 wf_15
theorem ab_s11_6 : ab_Sn B 11 6 (ab_o_ist 3 7) := ab_s_istore_n (k := 3) (n := 3) ab_dk11_0.2.2.2.2.1 rfl
theorem ab_s11_7 : ab_Sn B 11 7 (ab_o_ild 3 8) := ab_s_iload_n (k := 3) (n := 3) ab_dk11_0.2.2.2.2.2.1 rfl
theorem ab_s11_8 : ab_Sn B 11 8 (ab_o_const (-1) 9) := ab_s_iconst (n := (-1)) ab_dk11_0.2.2.2.2.2.2.1 rfl
theorem ab_s11_9 : ab_Sn B 11 9 (ab_o_icmp ab_ne 16 12) := ab_s_icmp_ne (tg := 16) (off := 7) ab_dk11_0.2.2.2.2.2.2.2.1 (by decide)
theorem ab_s11_12 : ab_Sn B 11 12 (ab_o_const 0 13) := ab_s_iconst (n := 0) ab_dk11_0.2.2.2.2.2.2.2.2.1 rfl
theorem ab_s11_13 : ab_Sn B 11 13 (ab_o_goto 22) := ab_s_goto (tg := 22) (off := 9) ab_dk11_0.2.2.2.2.2.2.2.2.2.1 (by decide)
theorem ab_s11_16 : ab_Sn B 11 16 (ab_o_ald 0 17) := ab_s_aload_n (k := 0) (n := 0) ab_dk11_0.2.2.2.2.2.2.2.2.2.2.1 rfl
theorem ab_s11_17 : ab_Sn B 11 17 (ab_o_getr 4 7 2 20) := ab_s_getr (i := 9) (ci := 0) (N := 7) (k := 2) (C := RX0) (T := TX0) ab_dk11_0.2.2.2.2.2.2.2.2.2.2.2.1 rfl (by decide) rfl wf_4
theorem ab_s11_20 : ab_Sn B 11 20 (ab_o_ild 3 21) := ab_s_iload_n (k := 3) (n := 3) ab_dk11_0.2.2.2.2.2.2.2.2.2.2.2.2.1 rfl
theorem ab_s11_21 : ab_Sn B 11 21 (ab_o_xld 0 22) := ab_s_iaload ab_dk11_0.2.2.2.2.2.2.2.2.2.2.2.2.2.1
theorem ab_s11_22 : ab_Sn B 11 22 (ab_o_iret false) := ab_s_iret (b := false) (ty := .int) ab_dk11_0.2.2.2.2.2.2.2.2.2.2.2.2.2.2.1 rfl (Or.inl ⟨rfl, rfl⟩)
set_option maxRecDepth 20000 in
theorem ab_sn11 : ab_all B 11 0 (ab_c11) := ⟨ab_s11_0, ab_s11_1, ab_s11_2, ab_s11_3, trivial, trivial, ab_s11_6, ab_s11_7, ab_s11_8, ab_s11_9, trivial, trivial, ab_s11_12, ab_s11_13, trivial, trivial, ab_s11_16, ab_s11_17, trivial, trivial, ab_s11_20, ab_s11_21, ab_s11_22, trivial⟩
theorem ab_dk12_0 : ab_dp 12 [(0, .aload_n 0, 1), (1, .iload_n 1, 1), (2, .iload_n 2, 1), (3, .invokevirtual 50, 3), (6, .istore_n 3, 1), (7, .iload_n 3, 1), (8, .iconst (-1), 1), (9, .if_icmp .ne 7, 3), (12, .iconst (-1), 1), (13, .goto 9, 3), (16, .aload_n 0, 1), (17, .getfield 15, 3), (20, .iload_n 3, 1), (21, .iaload, 1), (22, .ireturn, 1)] := ab_da (by decide +kernel)
theorem ab_s12_0 : ab_Sn B 12 0 (ab_o_ald 0 1) := ab_s_aload_n (k := 0) (n := 0) ab_dk12_0.1 rfl
theorem ab_s12_1 : ab_Sn B 12 1 (ab_o_ild 1 2) := ab_s_iload_n (k := 1) (n := 1) ab_dk12_0.2.1 rfl
theorem ab_s12_2 : ab_Sn B 12 2 (ab_o_ild 2 3) := ab_s_iload_n (k := 2) (n := 2) ab_dk12_0.2.2.1 rfl
theorem ab_s12_3 : ab_Sn B 12 3 (ab_o_call (some (4, 7)) [] 35 4 3 true 6) := ab_s_callV (M' := 35) (na := 2) (i := 50) (ci := 0) (N := 7) (C := RX0) (T := TX0) (v := true) (ab_hok_n (by decide +kernel)) (by decide +kernel) ab_dk12_0.2.2.2.1 rfl (by decide) (by decide +kernel) (by decide +kernel) (by decide) wf_29 wf_30 wf_31 wf_32 wf_15
theorem ab_s12_6 : ab_Sn B 12 6 (ab_o_ist 3 7) := ab_s_istore_n (k := 3) (n := 3) ab_dk12_0.2.2.2.2.1 rfl
theorem ab_s12_7 : ab_Sn B 12 7 (ab_o_ild 3 8) := ab_s_iload_n (k := 3) (n := 3) ab_dk12_0.2.2.2.2.2.1 rfl
theorem ab_s12_8 : ab_Sn B 12 8 (ab_o_const (-1) 9) := ab_s_iconst (n := (-1)) ab_dk12_0.2.2.2.2.2.2.1 rfl
theorem ab_s12_9 : ab_Sn B 12 9 (ab_o_icmp ab_ne 16 12) := ab_s_icmp_ne (tg := 16) (off := 7) ab_dk12_0.2.2.2.2.2.2.2.1 (by decide)
theorem ab_s12_12 : ab_Sn B 12 12 (ab_o_const (-1) 13) := ab_s_iconst (n := (-1)) ab_dk12_0.2.2.2.2.2.2.2.2.1 rfl
theorem ab_s12_13 : ab_Sn B 12 13 (ab_o_goto 22) := ab_s_goto (tg := 22) (off := 9) ab_dk12_0.2.2.2.2.2.2.2.2.2.1 (by decide)
theorem ab_s12_16 : ab_Sn B 12 16 (ab_o_ald 0 17) := ab_s_aload_n (k := 0) (n := 0) ab_dk12_0.2.2.2.2.2.2.2.2.2.2.1 rfl
theorem ab_s12_17 : ab_Sn B 12 17 (ab_o_getr 4 7 3 20) := ab_s_getr (i := 15) (ci := 0) (N := 7) (k := 3) (C := RX0) (T := TX0) ab_dk12_0.2.2.2.2.2.2.2.2.2.2.2.1 rfl (by decide) rfl wf_5
theorem ab_s12_20 : ab_Sn B 12 20 (ab_o_ild 3 21) := ab_s_iload_n (k := 3) (n := 3) ab_dk12_0.2.2.2.2.2.2.2.2.2.2.2.2.1 rfl
theorem ab_s12_21 : ab_Sn B 12 21 (ab_o_xld 0 22) := ab_s_iaload ab_dk12_0.2.2.2.2.2.2.2.2.2.2.2.2.2.1
theorem ab_s12_22 : ab_Sn B 12 22 (ab_o_iret false) := ab_s_iret (b := false) (ty := .int) ab_dk12_0.2.2.2.2.2.2.2.2.2.2.2.2.2.2.1 rfl (Or.inl ⟨rfl, rfl⟩)
set_option maxRecDepth 20000 in
theorem ab_sn12 : ab_all B 12 0 (ab_c12) := ⟨ab_s12_0, ab_s12_1, ab_s12_2, ab_s12_3, trivial, trivial, ab_s12_6, ab_s12_7, ab_s12_8, ab_s12_9, trivial, trivial, ab_s12_12, ab_s12_13, trivial, trivial, ab_s12_16, ab_s12_17, trivial, trivial, ab_s12_20, ab_s12_21, ab_s12_22, trivial⟩
theorem ab_dk13_0 : ab_dp 13 [(0, .iload_n 1, 1), (1, .ifCond .lt 21, 3), (4, .iload_n 1, 1), (5, .iconst 5, 1), (6, .if_icmp .ge 16, 3), (9, .aload_n 0, 1), (10, .getfield 21, 3), (13, .iload_n 1, 1), (14, .baload, 1), (15, .ifCond .eq 7, 3), (18, .iconst 1, 1), (19, .goto 4, 3), (22, .iconst 0, 1), (23, .ireturn, 1)] := ab_da (by decide +kernel)
theorem ab_s13_0 : ab_Sn B 13 0 (ab_o_ild 1 1) := ab_s_iload_n (k := 1) (n := 1) ab_dk13_0.1 rfl
theorem ab_s13_1 : ab_Sn B 13 1 (ab_o_if ab_lt 22 4) := ab_s_if_lt (tg := 22) (off := 21) ab_dk13_0.2.1 (by decide)
theorem ab_s13_4 : ab_Sn B 13 4 (ab_o_ild 1 5) := ab_s_iload_n (k := 1) (n := 1) ab_dk13_0.2.2.1 rfl
theorem ab_s13_5 : ab_Sn B 13 5 (ab_o_const 5 6) := ab_s_iconst (n := 5) ab_dk13_0.2.2.2.1 rfl
theorem ab_s13_6 : ab_Sn B 13 6 (ab_o_icmp ab_ge 22 9) := ab_s_icmp_ge (tg := 22) (off := 16) ab_dk13_0.2.2.2.2.1 (by decide)
theorem ab_s13_9 : ab_Sn B 13 9 (ab_o_ald 0 10) := ab_s_aload_n (k := 0) (n := 0) ab_dk13_0.2.2.2.2.2.1 rfl
theorem ab_s13_10 : ab_Sn B 13 10 (ab_o_getr 4 7 5 13) := ab_s_getr (i := 21) (ci := 0) (N := 7) (k := 5) (C := RX0) (T := TX0) ab_dk13_0.2.2.2.2.2.2.1 rfl (by decide) rfl wf_8
theorem ab_s13_13 : ab_Sn B 13 13 (ab_o_ild 1 14) := ab_s_iload_n (k := 1) (n := 1) ab_dk13_0.2.2.2.2.2.2.2.1 rfl
theorem ab_s13_14 : ab_Sn B 13 14 (ab_o_xld 1 15) := ab_s_baload ab_dk13_0.2.2.2.2.2.2.2.2.1
theorem ab_s13_15 : ab_Sn B 13 15 (ab_o_if ab_eq 22 18) := ab_s_if_eq (tg := 22) (off := 7) ab_dk13_0.2.2.2.2.2.2.2.2.2.1 (by decide)
theorem ab_s13_18 : ab_Sn B 13 18 (ab_o_const 1 19) := ab_s_iconst (n := 1) ab_dk13_0.2.2.2.2.2.2.2.2.2.2.1 rfl
theorem ab_s13_19 : ab_Sn B 13 19 (ab_o_goto 23) := ab_s_goto (tg := 23) (off := 4) ab_dk13_0.2.2.2.2.2.2.2.2.2.2.2.1 (by decide)
theorem ab_s13_22 : ab_Sn B 13 22 (ab_o_const 0 23) := ab_s_iconst (n := 0) ab_dk13_0.2.2.2.2.2.2.2.2.2.2.2.2.1 rfl
theorem ab_s13_23 : ab_Sn B 13 23 (ab_o_iret true) := ab_s_iret (b := true) (ty := .boolean) ab_dk13_0.2.2.2.2.2.2.2.2.2.2.2.2.2.1 rfl (Or.inr (Or.inl ⟨rfl, rfl⟩))
set_option maxRecDepth 20000 in
theorem ab_sn13 : ab_all B 13 0 (ab_c13) := ⟨ab_s13_0, ab_s13_1, trivial, trivial, ab_s13_4, ab_s13_5, ab_s13_6, trivial, trivial, ab_s13_9, ab_s13_10, trivial, trivial, ab_s13_13, ab_s13_14, ab_s13_15, trivial, trivial, ab_s13_18, ab_s13_19, trivial, trivial, ab_s13_22, ab_s13_23, trivial⟩
theorem ab_dk14_0 : ab_dp 14 [(0, .iload_n 1, 1), (1, .ifCond .lt 17, 3), (4, .iload_n 1, 1), (5, .iconst 5, 1), (6, .if_icmp .ge 12, 3), (9, .aload_n 0, 1), (10, .getfield 25, 3), (13, .iload_n 1, 1), (14, .iaload, 1), (15, .goto 4, 3), (18, .iconst 0, 1), (19, .ireturn, 1)] := ab_da (by decide +kernel)
theorem ab_s14_0 : ab_Sn B 14 0 (ab_o_ild 1 1) := ab_s_iload_n (k := 1) (n := 1) ab_dk14_0.1 rfl
theorem ab_s14_1 : ab_Sn B 14 1 (ab_o_if ab_lt 18 4) := ab_s_if_lt (tg := 18) (off := 17) ab_dk14_0.2.1 (by decide)
theorem ab_s14_4 : ab_Sn B 14 4 (ab_o_ild 1 5) := ab_s_iload_n (k := 1) (n := 1) ab_dk14_0.2.2.1 rfl
theorem ab_s14_5 : ab_Sn B 14 5 (ab_o_const 5 6) := ab_s_iconst (n := 5) ab_dk14_0.2.2.2.1 rfl
theorem ab_s14_6 : ab_Sn B 14 6 (ab_o_icmp ab_ge 18 9) := ab_s_icmp_ge (tg := 18) (off := 12) ab_dk14_0.2.2.2.2.1 (by decide)
theorem ab_s14_9 : ab_Sn B 14 9 (ab_o_ald 0 10) := ab_s_aload_n (k := 0) (n := 0) ab_dk14_0.2.2.2.2.2.1 rfl
theorem ab_s14_10 : ab_Sn B 14 10 (ab_o_getr 4 7 6 13) := ab_s_getr (i := 25) (ci := 0) (N := 7) (k := 6) (C := RX0) (T := TX0) ab_dk14_0.2.2.2.2.2.2.1 rfl (by decide) rfl wf_9
theorem ab_s14_13 : ab_Sn B 14 13 (ab_o_ild 1 14) := ab_s_iload_n (k := 1) (n := 1) ab_dk14_0.2.2.2.2.2.2.2.1 rfl
theorem ab_s14_14 : ab_Sn B 14 14 (ab_o_xld 0 15) := ab_s_iaload ab_dk14_0.2.2.2.2.2.2.2.2.1
theorem ab_s14_15 : ab_Sn B 14 15 (ab_o_goto 19) := ab_s_goto (tg := 19) (off := 4) ab_dk14_0.2.2.2.2.2.2.2.2.2.1 (by decide)
theorem ab_s14_18 : ab_Sn B 14 18 (ab_o_const 0 19) := ab_s_iconst (n := 0) ab_dk14_0.2.2.2.2.2.2.2.2.2.2.1 rfl
theorem ab_s14_19 : ab_Sn B 14 19 (ab_o_iret false) := ab_s_iret (b := false) (ty := .int) ab_dk14_0.2.2.2.2.2.2.2.2.2.2.2.1 rfl (Or.inl ⟨rfl, rfl⟩)
set_option maxRecDepth 20000 in
theorem ab_sn14 : ab_all B 14 0 (ab_c14) := ⟨ab_s14_0, ab_s14_1, trivial, trivial, ab_s14_4, ab_s14_5, ab_s14_6, trivial, trivial, ab_s14_9, ab_s14_10, trivial, trivial, ab_s14_13, ab_s14_14, ab_s14_15, trivial, trivial, ab_s14_18, ab_s14_19, trivial⟩
theorem ab_dk15_0 : ab_dp 15 [(0, .aload_n 0, 1), (1, .iload_n 1, 1), (2, .iload_n 2, 1), (3, .invokevirtual 50, 3), (6, .istore_n 3, 1), (7, .iload_n 3, 1), (8, .iconst (-1), 1), (9, .if_icmp .eq 31, 3), (12, .aload_n 0, 1), (13, .iload_n 1, 1), (14, .invokevirtual 54, 3), (17, .ifCond .ne 23, 3), (20, .aload_n 0, 1), (21, .getfield 15, 3), (24, .iload_n 3, 1), (25, .iaload, 1)] := ab_da (by decide +kernel)
theorem ab_dk15_1 : ab_dp 15 [(26, .aload_n 0, 1), (27, .aload_n 0, 1), (28, .getfield 9, 3), (31, .iload_n 3, 1), (32, .iaload, 1), (33, .iload_n 2, 1), (34, .invokevirtual 58, 3), (37, .if_icmp .eq 7, 3), (40, .iconst 1, 1), (41, .goto 4, 3), (44, .iconst 0, 1), (45, .ireturn, 1)] := ab_da (by decide +kernel)
theorem ab_s15_0 : ab_Sn B 15 0 (ab_o_ald 0 1) := ab_s_aload_n (k := 0) (n := 0) ab_dk15_0.1 rfl
theorem ab_s15_1 : ab_Sn B 15 1 (ab_o_ild 1 2) := ab_s_iload_n (k := 1) (n := 1) ab_dk15_0.2.1 rfl
theorem ab_s15_2 : ab_Sn B 15 2 (ab_o_ild 2 3) := ab_s_iload_n (k := 2) (n := 2) ab_dk15_0.2.2.1 rfl
theorem ab_s15_3 : ab_Sn B 15 3 (ab_o_call (some (4, 7)) [] 35 4 3 true 6) := ab_s_callV (M' := 35) (na := 2) (i := 50) (ci := 0) (N := 7) (C := RX0) (T := TX0) (v := true) (ab_hok_n (by decide +kernel)) (by decide +kernel) ab_dk15_0.2.2.2.1 rfl (by decide) (by decide +kernel) (by decide +kernel) (by decide) wf_29 wf_30 wf_31 wf_32 wf_15
theorem ab_s15_6 : ab_Sn B 15 6 (ab_o_ist 3 7) := ab_s_istore_n (k := 3) (n := 3) ab_dk15_0.2.2.2.2.1 rfl
theorem ab_s15_7 : ab_Sn B 15 7 (ab_o_ild 3 8) := ab_s_iload_n (k := 3) (n := 3) ab_dk15_0.2.2.2.2.2.1 rfl
theorem ab_s15_8 : ab_Sn B 15 8 (ab_o_const (-1) 9) := ab_s_iconst (n := (-1)) ab_dk15_0.2.2.2.2.2.2.1 rfl
theorem ab_s15_9 : ab_Sn B 15 9 (ab_o_icmp ab_eq 40 12) := ab_s_icmp_eq (tg := 40) (off := 31) ab_dk15_0.2.2.2.2.2.2.2.1 (by decide)
theorem ab_s15_12 : ab_Sn B 15 12 (ab_o_ald 0 13) := ab_s_aload_n (k := 0) (n := 0) ab_dk15_0.2.2.2.2.2.2.2.2.1 rfl
theorem ab_s15_13 : ab_Sn B 15 13 (ab_o_ild 1 14) := ab_s_iload_n (k := 1) (n := 1) ab_dk15_0.2.2.2.2.2.2.2.2.2.1 rfl
theorem ab_s15_14 : ab_Sn B 15 14 (ab_o_call (some (4, 7)) [] 13 2 2 true 17) := ab_s_callV (M' := 13) (na := 1) (i := 54) (ci := 0) (N := 7) (C := RX0) (T := TX0) (v := true) (ab_hok_n (by decide +kernel)) (by decide +kernel) ab_dk15_0.2.2.2.2.2.2.2.2.2.2.1 rfl (by decide) (by decide +kernel) (by decide +kernel) (by decide) wf_33 wf_34 wf_35 wf_36 wf_15
theorem ab_s15_17 : ab_Sn B 15 17 (ab_o_if ab_ne 40 20) := ab_s_if_ne (tg := 40) (off := 23) ab_dk15_0.2.2.2.2.2.2.2.2.2.2.2.1 (by decide)
theorem ab_s15_20 : ab_Sn B 15 20 (ab_o_ald 0 21) := ab_s_aload_n (k := 0) (n := 0) ab_dk15_0.2.2.2.2.2.2.2.2.2.2.2.2.1 rfl
theorem ab_s15_21 : ab_Sn B 15 21 (ab_o_getr 4 7 3 24) := ab_s_getr (i := 15) (ci := 0) (N := 7) (k := 3) (C := RX0) (T := TX0) ab_dk15_0.2.2.2.2.2.2.2.2.2.2.2.2.2.1 rfl (by decide) rfl wf_5
theorem ab_s15_24 : ab_Sn B 15 24 (ab_o_ild 3 25) := ab_s_iload_n (k := 3) (n := 3) ab_dk15_0.2.2.2.2.2.2.2.2.2.2.2.2.2.2.1 rfl
theorem ab_s15_25 : ab_Sn B 15 25 (ab_o_xld 0 26) := ab_s_iaload ab_dk15_0.2.2.2.2.2.2.2.2.2.2.2.2.2.2.2.1
theorem ab_s15_26 : ab_Sn B 15 26 (ab_o_ald 0 27) := ab_s_aload_n (k := 0) (n := 0) ab_dk15_1.1 rfl
theorem ab_s15_27 : ab_Sn B 15 27 (ab_o_ald 0 28) := ab_s_aload_n (k := 0) (n := 0) ab_dk15_1.2.1 rfl
theorem ab_s15_28 : ab_Sn B 15 28 (ab_o_getr 4 7 2 31) := ab_s_getr (i := 9) (ci := 0) (N := 7) (k := 2) (C := RX0) (T := TX0) ab_dk15_1.2.2.1 rfl (by decide) rfl wf_4
theorem ab_s15_31 : ab_Sn B 15 31 (ab_o_ild 3 32) := ab_s_iload_n (k := 3) (n := 3) ab_dk15_1.2.2.2.1 rfl
theorem ab_s15_32 : ab_Sn B 15 32 (ab_o_xld 0 33) := ab_s_iaload ab_dk15_1.2.2.2.2.1
theorem ab_s15_33 : ab_Sn B 15 33 (ab_o_ild 2 34) := ab_s_iload_n (k := 2) (n := 2) ab_dk15_1.2.2.2.2.2.1 rfl
theorem ab_s15_34 : ab_Sn B 15 34 (ab_o_call (some (4, 7)) [] 34 3 3 true 37) := ab_s_callV (M' := 34) (na := 2) (i := 58) (ci := 0) (N := 7) (C := RX0) (T := TX0) (v := true) (ab_hok_n (by decide +kernel)) (by decide +kernel) ab_dk15_1.2.2.2.2.2.2.1 rfl (by decide) (by decide +kernel) (by decide +kernel) (by decide) wf_37 wf_38 wf_39 wf_40 wf_15
theorem ab_s15_37 : ab_Sn B 15 37 (ab_o_icmp ab_eq 44 40) := ab_s_icmp_eq (tg := 44) (off := 7) ab_dk15_1.2.2.2.2.2.2.2.1 (by decide)
theorem ab_s15_40 : ab_Sn B 15 40 (ab_o_const 1 41) := ab_s_iconst (n := 1) ab_dk15_1.2.2.2.2.2.2.2.2.1 rfl
theorem ab_s15_41 : ab_Sn B 15 41 (ab_o_goto 45) := ab_s_goto (tg := 45) (off := 4) ab_dk15_1.2.2.2.2.2.2.2.2.2.1 (by decide)
theorem ab_s15_44 : ab_Sn B 15 44 (ab_o_const 0 45) := ab_s_iconst (n := 0) ab_dk15_1.2.2.2.2.2.2.2.2.2.2.1 rfl
theorem ab_s15_45 : ab_Sn B 15 45 (ab_o_iret true) := ab_s_iret (b := true) (ty := .boolean) ab_dk15_1.2.2.2.2.2.2.2.2.2.2.2.1 rfl (Or.inr (Or.inl ⟨rfl, rfl⟩))
set_option maxRecDepth 20000 in
theorem ab_sn15 : ab_all B 15 0 (ab_c15) := ⟨ab_s15_0, ab_s15_1, ab_s15_2, ab_s15_3, trivial, trivial, ab_s15_6, ab_s15_7, ab_s15_8, ab_s15_9, trivial, trivial, ab_s15_12, ab_s15_13, ab_s15_14, trivial, trivial, ab_s15_17, trivial, trivial, ab_s15_20, ab_s15_21, trivial, trivial, ab_s15_24, ab_s15_25, ab_s15_26, ab_s15_27, ab_s15_28, trivial, trivial, ab_s15_31, ab_s15_32, ab_s15_33, ab_s15_34, trivial, trivial, ab_s15_37, trivial, trivial, ab_s15_40, ab_s15_41, trivial, trivial, ab_s15_44, ab_s15_45, trivial⟩
theorem ab_dk16_0 : ab_dp 16 [(0, .aload_n 0, 1), (1, .iload_n 1, 1), (2, .iload_n 2, 1), (3, .invokevirtual 61, 3), (6, .ifCond .eq 16, 3), (9, .aload_n 0, 1), (10, .iload_n 2, 1), (11, .invokevirtual 65, 3), (14, .iconst 1, 1), (15, .if_icmp .le 7, 3), (18, .iconst 1, 1), (19, .goto 4, 3), (22, .iconst 0, 1), (23, .ireturn, 1)] := ab_da (by decide +kernel)
theorem ab_s16_0 : ab_Sn B 16 0 (ab_o_ald 0 1) := ab_s_aload_n (k := 0) (n := 0) ab_dk16_0.1 rfl
theorem ab_s16_1 : ab_Sn B 16 1 (ab_o_ild 1 2) := ab_s_iload_n (k := 1) (n := 1) ab_dk16_0.2.1 rfl
theorem ab_s16_2 : ab_Sn B 16 2 (ab_o_ild 2 3) := ab_s_iload_n (k := 2) (n := 2) ab_dk16_0.2.2.1 rfl
theorem ab_s16_3 : ab_Sn B 16 3 (ab_o_call (some (4, 7)) [] 15 4 3 true 6) := ab_s_callV (M' := 15) (na := 2) (i := 61) (ci := 0) (N := 7) (C := RX0) (T := TX0) (v := true) (ab_hok_n (by decide +kernel)) (by decide +kernel) ab_dk16_0.2.2.2.1 rfl (by decide) (by decide +kernel) (by decide +kernel) (by decide) wf_41 wf_42 wf_43 wf_44 wf_15
theorem ab_s16_6 : ab_Sn B 16 6 (ab_o_if ab_eq 22 9) := ab_s_if_eq (tg := 22) (off := 16) ab_dk16_0.2.2.2.2.1 (by decide)
theorem ab_s16_9 : ab_Sn B 16 9 (ab_o_ald 0 10) := ab_s_aload_n (k := 0) (n := 0) ab_dk16_0.2.2.2.2.2.1 rfl
theorem ab_s16_10 : ab_Sn B 16 10 (ab_o_ild 2 11) := ab_s_iload_n (k := 2) (n := 2) ab_dk16_0.2.2.2.2.2.2.1 rfl
theorem ab_s16_11 : ab_Sn B 16 11 (ab_o_call (some (4, 7)) [] 17 4 2 true 14) := ab_s_callV (M' := 17) (na := 1) (i := 65) (ci := 0) (N := 7) (C := RX0) (T := TX0) (v := true) (ab_hok_n (by decide +kernel)) (by decide +kernel) ab_dk16_0.2.2.2.2.2.2.2.1 rfl (by decide) (by decide +kernel) (by decide +kernel) (by decide) wf_45 wf_46 wf_47 wf_48 wf_15
theorem ab_s16_14 : ab_Sn B 16 14 (ab_o_const 1 15) := ab_s_iconst (n := 1) ab_dk16_0.2.2.2.2.2.2.2.2.1 rfl
theorem ab_s16_15 : ab_Sn B 16 15 (ab_o_icmp ab_le 22 18) := ab_s_icmp_le (tg := 22) (off := 7) ab_dk16_0.2.2.2.2.2.2.2.2.2.1 (by decide)
theorem ab_s16_18 : ab_Sn B 16 18 (ab_o_const 1 19) := ab_s_iconst (n := 1) ab_dk16_0.2.2.2.2.2.2.2.2.2.2.1 rfl
theorem ab_s16_19 : ab_Sn B 16 19 (ab_o_goto 23) := ab_s_goto (tg := 23) (off := 4) ab_dk16_0.2.2.2.2.2.2.2.2.2.2.2.1 (by decide)
theorem ab_s16_22 : ab_Sn B 16 22 (ab_o_const 0 23) := ab_s_iconst (n := 0) ab_dk16_0.2.2.2.2.2.2.2.2.2.2.2.2.1 rfl
theorem ab_s16_23 : ab_Sn B 16 23 (ab_o_iret true) := ab_s_iret (b := true) (ty := .boolean) ab_dk16_0.2.2.2.2.2.2.2.2.2.2.2.2.2.1 rfl (Or.inr (Or.inl ⟨rfl, rfl⟩))
set_option maxRecDepth 20000 in
theorem ab_sn16 : ab_all B 16 0 (ab_c16) := ⟨ab_s16_0, ab_s16_1, ab_s16_2, ab_s16_3, trivial, trivial, ab_s16_6, trivial, trivial, ab_s16_9, ab_s16_10, ab_s16_11, trivial, trivial, ab_s16_14, ab_s16_15, trivial, trivial, ab_s16_18, ab_s16_19, trivial, trivial, ab_s16_22, ab_s16_23, trivial⟩
theorem ab_dk17_0 : ab_dp 17 [(0, .iconst 0, 1), (1, .istore_n 2, 1), (2, .iconst 0, 1), (3, .istore_n 3, 1), (4, .iload_n 3, 1), (5, .aload_n 0, 1), (6, .getfield 28, 3), (9, .if_icmp .ge 26, 3), (12, .iload_n 2, 1), (13, .aload_n 0, 1), (14, .iload_n 3, 1), (15, .iload_n 1, 1), (16, .invokevirtual 61, 3), (19, .ifCond .eq 7, 3), (22, .iconst 1, 1), (23, .goto 4, 3)] := ab_da (by decide +kernel)
theorem ab_dk17_1 : ab_dp 17 [(26, .iconst 0, 1), (27, .iadd, 1), (28, .istore_n 2, 1), (29, .iinc 3 1, 3), (32, .goto (-28), 3), (35, .iload_n 2, 1), (36, .ireturn, 1)] := ab_da (by decide +kernel)
theorem ab_s17_0 : ab_Sn B 17 0 (ab_o_const 0 1) := ab_s_iconst (n := 0) ab_dk17_0.1 rfl
theorem ab_s17_1 : ab_Sn B 17 1 (ab_o_ist 2 2) := ab_s_istore_n (k := 2) (n := 2) ab_dk17_0.2.1 rfl
theorem ab_s17_2 : ab_Sn B 17 2 (ab_o_const 0 3) := ab_s_iconst (n := 0) ab_dk17_0.2.2.1 rfl
theorem ab_s17_3 : ab_Sn B 17 3 (ab_o_ist 3 4) := ab_s_istore_n (k := 3) (n := 3) ab_dk17_0.2.2.2.1 rfl
theorem ab_s17_4 : ab_Sn B 17 4 (ab_o_ild 3 5) := ab_s_iload_n (k := 3) (n := 3) ab_dk17_0.2.2.2.2.1 rfl
theorem ab_s17_5 : ab_Sn B 17 5 (ab_o_ald 0 6) := ab_s_aload_n (k := 0) (n := 0) ab_dk17_0.2.2.2.2.2.1 rfl
theorem ab_s17_6 : ab_Sn B 17 6 (ab_o_geti 4 7 0 9) := ab_s_geti (i := 28) (ci := 0) (N := 7) (k := 0) (C := RX0) (T := TX0) ab_dk17_0.2.2.2.2.2.2.1 rfl (by decide) rfl wf_10
theorem ab_s17_9 : ab_Sn B 17 9 (ab_o_icmp ab_ge 35 12) := ab_s_icmp_ge (tg := 35) (off := 26) ab_dk17_0.2.2.2.2.2.2.2.1 (by decide)
theorem ab_s17_12 : ab_Sn B 17 12 (ab_o_ild 2 13) := ab_s_iload_n (k := 2) (n := 2) ab_dk17_0.2.2.2.2.2.2.2.2.1 rfl
theorem ab_s17_13 : ab_Sn B 17 13 (ab_o_ald 0 14) := ab_s_aload_n (k := 0) (n := 0) ab_dk17_0.2.2.2.2.2.2.2.2.2.1 rfl
theorem ab_s17_14 : ab_Sn B 17 14 (ab_o_ild 3 15) := ab_s_iload_n (k := 3) (n := 3) ab_dk17_0.2.2.2.2.2.2.2.2.2.2.1 rfl
theorem ab_s17_15 : ab_Sn B 17 15 (ab_o_ild 1 16) := ab_s_iload_n (k := 1) (n := 1) ab_dk17_0.2.2.2.2.2.2.2.2.2.2.2.1 rfl
theorem ab_s17_16 : ab_Sn B 17 16 (ab_o_call (some (4, 7)) [] 15 4 3 true 19) := ab_s_callV (M' := 15) (na := 2) (i := 61) (ci := 0) (N := 7) (C := RX0) (T := TX0) (v := true) (ab_hok_n (by decide +kernel)) (by decide +kernel) ab_dk17_0.2.2.2.2.2.2.2.2.2.2.2.2.1 rfl (by decide) (by decide +kernel) (by decide +kernel) (by decide) wf_41 wf_42 wf_43 wf_44 wf_15
theorem ab_s17_19 : ab_Sn B 17 19 (ab_o_if ab_eq 26 22) := ab_s_if_eq (tg := 26) (off := 7) ab_dk17_0.2.2.2.2.2.2.2.2.2.2.2.2.2.1 (by decide)
theorem ab_s17_22 : ab_Sn B 17 22 (ab_o_const 1 23) := ab_s_iconst (n := 1) ab_dk17_0.2.2.2.2.2.2.2.2.2.2.2.2.2.2.1 rfl
theorem ab_s17_23 : ab_Sn B 17 23 (ab_o_goto 27) := ab_s_goto (tg := 27) (off := 4) ab_dk17_0.2.2.2.2.2.2.2.2.2.2.2.2.2.2.2.1 (by decide)
theorem ab_s17_26 : ab_Sn B 17 26 (ab_o_const 0 27) := ab_s_iconst (n := 0) ab_dk17_1.1 rfl
theorem ab_s17_27 : ab_Sn B 17 27 (ab_o_bin (fun a b => a + b) 28) := ab_s_iadd ab_dk17_1.2.1
theorem ab_s17_28 : ab_Sn B 17 28 (ab_o_ist 2 29) := ab_s_istore_n (k := 2) (n := 2) ab_dk17_1.2.2.1 rfl
theorem ab_s17_29 : ab_Sn B 17 29 (ab_o_inc 3 1 32) := ab_s_iinc (k := 3) (n := 1) ab_dk17_1.2.2.2.1
theorem ab_s17_32 : ab_Sn B 17 32 (ab_o_goto 4) := ab_s_goto (tg := 4) (off := -28) ab_dk17_1.2.2.2.2.1 (by decide)
theorem ab_s17_35 : ab_Sn B 17 35 (ab_o_ild 2 36) := ab_s_iload_n (k := 2) (n := 2) ab_dk17_1.2.2.2.2.2.1 rfl
theorem ab_s17_36 : ab_Sn B 17 36 (ab_o_iret false) := ab_s_iret (b := false) (ty := .int) ab_dk17_1.2.2.2.2.2.2.1 rfl (Or.inl ⟨rfl, rfl⟩)
set_option maxRecDepth 20000 in
theorem ab_sn17 : ab_all B 17 0 (ab_c17) := ⟨ab_s17_0, ab_s17_1, ab_s17_2, ab_s17_3, ab_s17_4, ab_s17_5, ab_s17_6, trivial, trivial, ab_s17_9, trivial, trivial, ab_s17_12, ab_s17_13, ab_s17_14, ab_s17_15, ab_s17_16, trivial, trivial, ab_s17_19, trivial, trivial, ab_s17_22, ab_s17_23, trivial, trivial, ab_s17_26, ab_s17_27, ab_s17_28, ab_s17_29, trivial, trivial, ab_s17_32, trivial, trivial, ab_s17_35, ab_s17_36, trivial⟩
theorem ab_dk18_0 : ab_dp 18 [(0, .iconst 0, 1), (1, .istore_n 2, 1), (2, .iconst 0, 1), (3, .istore_n 3, 1), (4, .iload_n 3, 1), (5, .aload_n 0, 1), (6, .getfield 32, 3), (9, .if_icmp .ge 26, 3), (12, .iload_n 2, 1), (13, .aload_n 0, 1), (14, .iload_n 1, 1), (15, .iload_n 3, 1), (16, .invokevirtual 61, 3), (19, .ifCond .eq 7, 3), (22, .iconst 1, 1), (23, .goto 4, 3)] := ab_da (by decide +kernel)
theorem ab_dk18_1 : ab_dp 18 [(26, .iconst 0, 1), (27, .iadd, 1), (28, .istore_n 2, 1), (29, .iinc 3 1, 3), (32, .goto (-28), 3), (35, .iload_n 2, 1), (36, .ireturn, 1)] := ab_da (by decide +kernel)
theorem ab_s18_0 : ab_Sn B 18 0 (ab_o_const 0 1) := ab_s_iconst (n := 0) ab_dk18_0.1 rfl
theorem ab_s18_1 : ab_Sn B 18 1 (ab_o_ist 2 2) := ab_s_istore_n (k := 2) (n := 2) ab_dk18_0.2.1 rfl
theorem ab_s18_2 : ab_Sn B 18 2 (ab_o_const 0 3) := ab_s_iconst (n := 0) ab_dk18_0.2.2.1 rfl
theorem ab_s18_3 : ab_Sn B 18 3 (ab_o_ist 3 4) := ab_s_istore_n (k := 3) (n := 3) ab_dk18_0.2.2.2.1 rfl
theorem ab_s18_4 : ab_Sn B 18 4 (ab_o_ild 3 5) := ab_s_iload_n (k := 3) (n := 3) ab_dk18_0.2.2.2.2.1 rfl
theorem ab_s18_5 : ab_Sn B 18 5 (ab_o_ald 0 6) := ab_s_aload_n (k := 0) (n := 0) ab_dk18_0.2.2.2.2.2.1 rfl
theorem ab_s18_6 : ab_Sn B 18 6 (ab_o_geti 4 7 1 9) := ab_s_geti (i := 32) (ci := 0) (N := 7) (k := 1) (C := RX0) (T := TX0) ab_dk18_0.2.2.2.2.2.2.1 rfl (by decide) rfl wf_11
theorem ab_s18_9 : ab_Sn B 18 9 (ab_o_icmp ab_ge 35 12) := ab_s_icmp_ge (tg := 35) (off := 26) ab_dk18_0.2.2.2.2.2.2.2.1 (by decide)
theorem ab_s18_12 : ab_Sn B 18 12 (ab_o_ild 2 13) := ab_s_iload_n (k := 2) (n := 2) ab_dk18_0.2.2.2.2.2.2.2.2.1 rfl
theorem ab_s18_13 : ab_Sn B 18 13 (ab_o_ald 0 14) := ab_s_aload_n (k := 0) (n := 0) ab_dk18_0.2.2.2.2.2.2.2.2.2.1 rfl
theorem ab_s18_14 : ab_Sn B 18 14 (ab_o_ild 1 15) := ab_s_iload_n (k := 1) (n := 1) ab_dk18_0.2.2.2.2.2.2.2.2.2.2.1 rfl
theorem ab_s18_15 : ab_Sn B 18 15 (ab_o_ild 3 16) := ab_s_iload_n (k := 3) (n := 3) ab_dk18_0.2.2.2.2.2.2.2.2.2.2.2.1 rfl
theorem ab_s18_16 : ab_Sn B 18 16 (ab_o_call (some (4, 7)) [] 15 4 3 true 19) := ab_s_callV (M' := 15) (na := 2) (i := 61) (ci := 0) (N := 7) (C := RX0) (T := TX0) (v := true) (ab_hok_n (by decide +kernel)) (by decide +kernel) ab_dk18_0.2.2.2.2.2.2.2.2.2.2.2.2.1 rfl (by decide) (by decide +kernel) (by decide +kernel) (by decide) wf_41 wf_42 wf_43 wf_44 wf_15
theorem ab_s18_19 : ab_Sn B 18 19 (ab_o_if ab_eq 26 22) := ab_s_if_eq (tg := 26) (off := 7) ab_dk18_0.2.2.2.2.2.2.2.2.2.2.2.2.2.1 (by decide)
theorem ab_s18_22 : ab_Sn B 18 22 (ab_o_const 1 23) := ab_s_iconst (n := 1) ab_dk18_0.2.2.2.2.2.2.2.2.2.2.2.2.2.2.1 rfl
theorem ab_s18_23 : ab_Sn B 18 23 (ab_o_goto 27) := ab_s_goto (tg := 27) (off := 4) ab_dk18_0.2.2.2.2.2.2.2.2.2.2.2.2.2.2.2.1 (by decide)
theorem ab_s18_26 : ab_Sn B 18 26 (ab_o_const 0 27) := ab_s_iconst (n := 0) ab_dk18_1.1 rfl
theorem ab_s18_27 : ab_Sn B 18 27 (ab_o_bin (fun a b => a + b) 28) := ab_s_iadd ab_dk18_1.2.1
theorem ab_s18_28 : ab_Sn B 18 28 (ab_o_ist 2 29) := ab_s_istore_n (k := 2) (n := 2) ab_dk18_1.2.2.1 rfl
theorem ab_s18_29 : ab_Sn B 18 29 (ab_o_inc 3 1 32) := ab_s_iinc (k := 3) (n := 1) ab_dk18_1.2.2.2.1
theorem ab_s18_32 : ab_Sn B 18 32 (ab_o_goto 4) := ab_s_goto (tg := 4) (off := -28) ab_dk18_1.2.2.2.2.1 (by decide)
theorem ab_s18_35 : ab_Sn B 18 35 (ab_o_ild 2 36) := ab_s_iload_n (k := 2) (n := 2) ab_dk18_1.2.2.2.2.2.1 rfl
theorem ab_s18_36 : ab_Sn B 18 36 (ab_o_iret false) := ab_s_iret (b := false) (ty := .int) ab_dk18_1.2.2.2.2.2.2.1 rfl (Or.inl ⟨rfl, rfl⟩)
set_option maxRecDepth 20000 in
theorem ab_sn18 : ab_all B 18 0 (ab_c18) := ⟨ab_s18_0, ab_s18_1, ab_s18_2, ab_s18_3, ab_s18_4, ab_s18_5, ab_s18_6, trivial, trivial, ab_s18_9, trivial, trivial, ab_s18_12, ab_s18_13, ab_s18_14, ab_s18_15, ab_s18_16, trivial, trivial, ab_s18_19, trivial, trivial, ab_s18_22, ab_s18_23, trivial, trivial, ab_s18_26, ab_s18_27, ab_s18_28, ab_s18_29, trivial, trivial, ab_s18_32, trivial, trivial, ab_s18_35, ab_s18_36, trivial⟩
theorem ab_dk19_0 : ab_dp 19 [(0, .iconst 0, 1), (1, .istore_n 1, 1), (2, .iconst 0, 1), (3, .istore_n 2, 1), (4, .iload_n 2, 1), (5, .aload_n 0, 1), (6, .getfield 32, 3), (9, .if_icmp .ge 17, 3), (12, .iload_n 1, 1), (13, .aload_n 0, 1), (14, .iload_n 2, 1), (15, .invokevirtual 65, 3), (18, .iadd, 1), (19, .istore_n 1, 1), (20, .iinc 2 1, 3), (23, .goto (-19), 3)] := ab_da (by decide +kernel)
theorem ab_dk19_1 : ab_dp 19 [(26, .iload_n 1, 1), (27, .ireturn, 1)] := ab_da (by decide +kernel)
theorem ab_s19_0 : ab_Sn B 19 0 (ab_o_const 0 1) := ab_s_iconst (n := 0) ab_dk19_0.1 rfl
theorem ab_s19_1 : ab_Sn B 19 1 (ab_o_ist 1 2) := ab_s_istore_n (k := 1) (n := 1) ab_dk19_0.2.1 rfl
theorem ab_s19_2 : ab_Sn B 19 2 (ab_o_const 0 3) := ab_s_iconst (n := 0) ab_dk19_0.2.2.1 rfl
theorem ab_s19_3 : ab_Sn B 19 3 (ab_o_ist 2 4) := ab_s_istore_n (k := 2) (n := 2) ab_dk19_0.2.2.2.1 rfl
theorem ab_s19_4 : ab_Sn B 19 4 (ab_o_ild 2 5) := ab_s_iload_n (k := 2) (n := 2) ab_dk19_0.2.2.2.2.1 rfl
theorem ab_s19_5 : ab_Sn B 19 5 (ab_o_ald 0 6) := ab_s_aload_n (k := 0) (n := 0) ab_dk19_0.2.2.2.2.2.1 rfl
theorem ab_s19_6 : ab_Sn B 19 6 (ab_o_geti 4 7 1 9) := ab_s_geti (i := 32) (ci := 0) (N := 7) (k := 1) (C := RX0) (T := TX0) ab_dk19_0.2.2.2.2.2.2.1 rfl (by decide) rfl wf_11
theorem ab_s19_9 : ab_Sn B 19 9 (ab_o_icmp ab_ge 26 12) := ab_s_icmp_ge (tg := 26) (off := 17) ab_dk19_0.2.2.2.2.2.2.2.1 (by decide)
theorem ab_s19_12 : ab_Sn B 19 12 (ab_o_ild 1 13) := ab_s_iload_n (k := 1) (n := 1) ab_dk19_0.2.2.2.2.2.2.2.2.1 rfl
theorem ab_s19_13 : ab_Sn B 19 13 (ab_o_ald 0 14) := ab_s_aload_n (k := 0) (n := 0) ab_dk19_0.2.2.2.2.2.2.2.2.2.1 rfl
theorem ab_s19_14 : ab_Sn B 19 14 (ab_o_ild 2 15) := ab_s_iload_n (k := 2) (n := 2) ab_dk19_0.2.2.2.2.2.2.2.2.2.2.1 rfl
theorem ab_s19_15 : ab_Sn B 19 15 (ab_o_call (some (4, 7)) [] 17 4 2 true 18) := ab_s_callV (M' := 17) (na := 1) (i := 65) (ci := 0) (N := 7) (C := RX0) (T := TX0) (v := true) (ab_hok_n (by decide +kernel)) (by decide +kernel) ab_dk19_0.2.2.2.2.2.2.2.2.2.2.2.1 rfl (by decide) (by decide +kernel) (by decide +kernel) (by decide) wf_45 wf_46 wf_47 wf_48 wf_15
theorem ab_s19_18 : ab_Sn B 19 18 (ab_o_bin (fun a b => a + b) 19) := ab_s_iadd ab_dk19_0.2.2.2.2.2.2.2.2.2.2.2.2.1
theorem ab_s19_19 : ab_Sn B 19 19 (ab_o_ist 1 20) := ab_s_istore_n (k := 1) (n := 1) ab_dk19_0.2.2.2.2.2.2.2.2.2.2.2.2.2.1 rfl
theorem ab_s19_20 : ab_Sn B 19 20 (ab_o_inc 2 1 23) := ab_s_iinc (k := 2) (n := 1) ab_dk19_0.2.2.2.2.2.2.2.2.2.2.2.2.2.2.1
theorem ab_s19_23 : ab_Sn B 19 23 (ab_o_goto 4) := ab_s_goto (tg := 4) (off := -19) ab_dk19_0.2.2.2.2.2.2.2.2.2.2.2.2.2.2.2.1 (by decide)
theorem ab_s19_26 : ab_Sn B 19 26 (ab_o_ild 1 27) := ab_s_iload_n (k := 1) (n := 1) ab_dk19_1.1 rfl
theorem ab_s19_27 : ab_Sn B 19 27 (ab_o_iret false) := ab_s_iret (b := false) (ty := .int) ab_dk19_1.2.1 rfl (Or.inl ⟨rfl, rfl⟩)
set_option maxRecDepth 20000 in
theorem ab_sn19 : ab_all B 19 0 (ab_c19) := ⟨ab_s19_0, ab_s19_1, ab_s19_2, ab_s19_3, ab_s19_4, ab_s19_5, ab_s19_6, trivial, trivial, ab_s19_9, trivial, trivial, ab_s19_12, ab_s19_13, ab_s19_14, ab_s19_15, trivial, trivial, ab_s19_18, ab_s19_19, ab_s19_20, trivial, trivial, ab_s19_23, trivial, trivial, ab_s19_26, ab_s19_27, trivial⟩
theorem ab_dk20_0 : ab_dp 20 [(0, .iconst 0, 1), (1, .istore_n 1, 1), (2, .iconst 0, 1), (3, .istore_n 2, 1), (4, .iload_n 2, 1), (5, .aload_n 0, 1), (6, .getfield 32, 3), (9, .if_icmp .ge 26, 3), (12, .iload_n 1, 1), (13, .aload_n 0, 1), (14, .iload_n 2, 1), (15, .invokevirtual 65, 3), (18, .iconst 1, 1), (19, .if_icmp .ne 7, 3), (22, .iconst 1, 1), (23, .goto 4, 3)] := ab_da (by decide +kernel)
theorem ab_dk20_1 : ab_dp 20 [(26, .iconst 0, 1), (27, .iadd, 1), (28, .istore_n 1, 1), (29, .iinc 2 1, 3), (32, .goto (-28), 3), (35, .iload_n 1, 1), (36, .ireturn, 1)] := ab_da (by decide +kernel)
theorem ab_s20_0 : ab_Sn B 20 0 (ab_o_const 0 1) := ab_s_iconst (n := 0) ab_dk20_0.1 rfl
theorem ab_s20_1 : ab_Sn B 20 1 (ab_o_ist 1 2) := ab_s_istore_n (k := 1) (n := 1) ab_dk20_0.2.1 rfl
theorem ab_s20_2 : ab_Sn B 20 2 (ab_o_const 0 3) := ab_s_iconst (n := 0) ab_dk20_0.2.2.1 rfl
theorem ab_s20_3 : ab_Sn B 20 3 (ab_o_ist 2 4) := ab_s_istore_n (k := 2) (n := 2) ab_dk20_0.2.2.2.1 rfl
theorem ab_s20_4 : ab_Sn B 20 4 (ab_o_ild 2 5) := ab_s_iload_n (k := 2) (n := 2) ab_dk20_0.2.2.2.2.1 rfl
theorem ab_s20_5 : ab_Sn B 20 5 (ab_o_ald 0 6) := ab_s_aload_n (k := 0) (n := 0) ab_dk20_0.2.2.2.2.2.1 rfl
theorem ab_s20_6 : ab_Sn B 20 6 (ab_o_geti 4 7 1 9) := ab_s_geti (i := 32) (ci := 0) (N := 7) (k := 1) (C := RX0) (T := TX0) ab_dk20_0.2.2.2.2.2.2.1 rfl (by decide) rfl wf_11
theorem ab_s20_9 : ab_Sn B 20 9 (ab_o_icmp ab_ge 35 12) := ab_s_icmp_ge (tg := 35) (off := 26) ab_dk20_0.2.2.2.2.2.2.2.1 (by decide)
theorem ab_s20_12 : ab_Sn B 20 12 (ab_o_ild 1 13) := ab_s_iload_n (k := 1) (n := 1) ab_dk20_0.2.2.2.2.2.2.2.2.1 rfl
theorem ab_s20_13 : ab_Sn B 20 13 (ab_o_ald 0 14) := ab_s_aload_n (k := 0) (n := 0) ab_dk20_0.2.2.2.2.2.2.2.2.2.1 rfl
theorem ab_s20_14 : ab_Sn B 20 14 (ab_o_ild 2 15) := ab_s_iload_n (k := 2) (n := 2) ab_dk20_0.2.2.2.2.2.2.2.2.2.2.1 rfl
theorem ab_s20_15 : ab_Sn B 20 15 (ab_o_call (some (4, 7)) [] 17 4 2 true 18) := ab_s_callV (M' := 17) (na := 1) (i := 65) (ci := 0) (N := 7) (C := RX0) (T := TX0) (v := true) (ab_hok_n (by decide +kernel)) (by decide +kernel) ab_dk20_0.2.2.2.2.2.2.2.2.2.2.2.1 rfl (by decide) (by decide +kernel) (by decide +kernel) (by decide) wf_45 wf_46 wf_47 wf_48 wf_15
theorem ab_s20_18 : ab_Sn B 20 18 (ab_o_const 1 19) := ab_s_iconst (n := 1) ab_dk20_0.2.2.2.2.2.2.2.2.2.2.2.2.1 rfl
theorem ab_s20_19 : ab_Sn B 20 19 (ab_o_icmp ab_ne 26 22) := ab_s_icmp_ne (tg := 26) (off := 7) ab_dk20_0.2.2.2.2.2.2.2.2.2.2.2.2.2.1 (by decide)
theorem ab_s20_22 : ab_Sn B 20 22 (ab_o_const 1 23) := ab_s_iconst (n := 1) ab_dk20_0.2.2.2.2.2.2.2.2.2.2.2.2.2.2.1 rfl
theorem ab_s20_23 : ab_Sn B 20 23 (ab_o_goto 27) := ab_s_goto (tg := 27) (off := 4) ab_dk20_0.2.2.2.2.2.2.2.2.2.2.2.2.2.2.2.1 (by decide)
theorem ab_s20_26 : ab_Sn B 20 26 (ab_o_const 0 27) := ab_s_iconst (n := 0) ab_dk20_1.1 rfl
theorem ab_s20_27 : ab_Sn B 20 27 (ab_o_bin (fun a b => a + b) 28) := ab_s_iadd ab_dk20_1.2.1
theorem ab_s20_28 : ab_Sn B 20 28 (ab_o_ist 1 29) := ab_s_istore_n (k := 1) (n := 1) ab_dk20_1.2.2.1 rfl
theorem ab_s20_29 : ab_Sn B 20 29 (ab_o_inc 2 1 32) := ab_s_iinc (k := 2) (n := 1) ab_dk20_1.2.2.2.1
theorem ab_s20_32 : ab_Sn B 20 32 (ab_o_goto 4) := ab_s_goto (tg := 4) (off := -28) ab_dk20_1.2.2.2.2.1 (by decide)
theorem ab_s20_35 : ab_Sn B 20 35 (ab_o_ild 1 36) := ab_s_iload_n (k := 1) (n := 1) ab_dk20_1.2.2.2.2.2.1 rfl
theorem ab_s20_36 : ab_Sn B 20 36 (ab_o_iret false) := ab_s_iret (b := false) (ty := .int) ab_dk20_1.2.2.2.2.2.2.1 rfl (Or.inl ⟨rfl, rfl⟩)
set_option maxRecDepth 20000 in
theorem ab_sn20 : ab_all B 20 0 (ab_c20) := ⟨ab_s20_0, ab_s20_1, ab_s20_2, ab_s20_3, ab_s20_4, ab_s20_5, ab_s20_6, trivial, trivial, ab_s20_9, trivial, trivial, ab_s20_12, ab_s20_13, ab_s20_14, ab_s20_15, trivial, trivial, ab_s20_18, ab_s20_19, trivial, trivial, ab_s20_22, ab_s20_23, trivial, trivial, ab_s20_26, ab_s20_27, ab_s20_28, ab_s20_29, trivial, trivial, ab_s20_32, trivial, trivial, ab_s20_35, ab_s20_36, trivial⟩
theorem ab_dk21_0 : ab_dp 21 [(0, .iconst 0, 1), (1, .istore_n 1, 1), (2, .iconst 0, 1), (3, .istore_n 2, 1), (4, .iload_n 2, 1), (5, .aload_n 0, 1), (6, .getfield 32, 3), (9, .if_icmp .ge 26, 3), (12, .iload_n 1, 1), (13, .aload_n 0, 1), (14, .iload_n 2, 1), (15, .invokevirtual 65, 3), (18, .iconst 1, 1), (19, .if_icmp .le 7, 3), (22, .iconst 1, 1), (23, .goto 4, 3)] := ab_da (by decide +kernel)
theorem ab_dk21_1 : ab_dp 21 [(26, .iconst 0, 1), (27, .iadd, 1), (28, .istore_n 1, 1), (29, .iinc 2 1, 3), (32, .goto (-28), 3), (35, .iload_n 1, 1), (36, .ireturn, 1)] := ab_da (by decide +kernel)
theorem ab_s21_0 : ab_Sn B 21 0 (ab_o_const 0 1) := ab_s_iconst (n := 0) ab_dk21_0.1 rfl
theorem ab_s21_1 : ab_Sn B 21 1 (ab_o_ist 1 2) := ab_s_istore_n (k := 1) (n := 1) ab_dk21_0.2.1 rfl
theorem ab_s21_2 : ab_Sn B 21 2 (ab_o_const 0 3) := ab_s_iconst (n := 0) ab_dk21_0.2.2.1 rfl
theorem ab_s21_3 : ab_Sn B 21 3 (ab_o_ist 2 4) := ab_s_istore_n (k := 2) (n := 2) ab_dk21_0.2.2.2.1 rfl
theorem ab_s21_4 : ab_Sn B 21 4 (ab_o_ild 2 5) := ab_s_iload_n (k := 2) (n := 2) ab_dk21_0.2.2.2.2.1 rfl
theorem ab_s21_5 : ab_Sn B 21 5 (ab_o_ald 0 6) := ab_s_aload_n (k := 0) (n := 0) ab_dk21_0.2.2.2.2.2.1 rfl
theorem ab_s21_6 : ab_Sn B 21 6 (ab_o_geti 4 7 1 9) := ab_s_geti (i := 32) (ci := 0) (N := 7) (k := 1) (C := RX0) (T := TX0) ab_dk21_0.2.2.2.2.2.2.1 rfl (by decide) rfl wf_11
theorem ab_s21_9 : ab_Sn B 21 9 (ab_o_icmp ab_ge 35 12) := ab_s_icmp_ge (tg := 35) (off := 26) ab_dk21_0.2.2.2.2.2.2.2.1 (by decide)
theorem ab_s21_12 : ab_Sn B 21 12 (ab_o_ild 1 13) := ab_s_iload_n (k := 1) (n := 1) ab_dk21_0.2.2.2.2.2.2.2.2.1 rfl
theorem ab_s21_13 : ab_Sn B 21 13 (ab_o_ald 0 14) := ab_s_aload_n (k := 0) (n := 0) ab_dk21_0.2.2.2.2.2.2.2.2.2.1 rfl
theorem ab_s21_14 : ab_Sn B 21 14 (ab_o_ild 2 15) := ab_s_iload_n (k := 2) (n := 2) ab_dk21_0.2.2.2.2.2.2.2.2.2.2.1 rfl
theorem ab_s21_15 : ab_Sn B 21 15 (ab_o_call (some (4, 7)) [] 17 4 2 true 18) := ab_s_callV (M' := 17) (na := 1) (i := 65) (ci := 0) (N := 7) (C := RX0) (T := TX0) (v := true) (ab_hok_n (by decide +kernel)) (by decide +kernel) ab_dk21_0.2.2.2.2.2.2.2.2.2.2.2.1 rfl (by decide) (by decide +kernel) (by decide +kernel) (by decide) wf_45 wf_46 wf_47 wf_48 wf_15
theorem ab_s21_18 : ab_Sn B 21 18 (ab_o_const 1 19) := ab_s_iconst (n := 1) ab_dk21_0.2.2.2.2.2.2.2.2.2.2.2.2.1 rfl
theorem ab_s21_19 : ab_Sn B 21 19 (ab_o_icmp ab_le 26 22) := ab_s_icmp_le (tg := 26) (off := 7) ab_dk21_0.2.2.2.2.2.2.2.2.2.2.2.2.2.1 (by decide)
theorem ab_s21_22 : ab_Sn B 21 22 (ab_o_const 1 23) := ab_s_iconst (n := 1) ab_dk21_0.2.2.2.2.2.2.2.2.2.2.2.2.2.2.1 rfl
theorem ab_s21_23 : ab_Sn B 21 23 (ab_o_goto 27) := ab_s_goto (tg := 27) (off := 4) ab_dk21_0.2.2.2.2.2.2.2.2.2.2.2.2.2.2.2.1 (by decide)
theorem ab_s21_26 : ab_Sn B 21 26 (ab_o_const 0 27) := ab_s_iconst (n := 0) ab_dk21_1.1 rfl
theorem ab_s21_27 : ab_Sn B 21 27 (ab_o_bin (fun a b => a + b) 28) := ab_s_iadd ab_dk21_1.2.1
theorem ab_s21_28 : ab_Sn B 21 28 (ab_o_ist 1 29) := ab_s_istore_n (k := 1) (n := 1) ab_dk21_1.2.2.1 rfl
theorem ab_s21_29 : ab_Sn B 21 29 (ab_o_inc 2 1 32) := ab_s_iinc (k := 2) (n := 1) ab_dk21_1.2.2.2.1
theorem ab_s21_32 : ab_Sn B 21 32 (ab_o_goto 4) := ab_s_goto (tg := 4) (off := -28) ab_dk21_1.2.2.2.2.1 (by decide)
theorem ab_s21_35 : ab_Sn B 21 35 (ab_o_ild 1 36) := ab_s_iload_n (k := 1) (n := 1) ab_dk21_1.2.2.2.2.2.1 rfl
theorem ab_s21_36 : ab_Sn B 21 36 (ab_o_iret false) := ab_s_iret (b := false) (ty := .int) ab_dk21_1.2.2.2.2.2.2.1 rfl (Or.inl ⟨rfl, rfl⟩)
set_option maxRecDepth 20000 in
theorem ab_sn21 : ab_all B 21 0 (ab_c21) := ⟨ab_s21_0, ab_s21_1, ab_s21_2, ab_s21_3, ab_s21_4, ab_s21_5, ab_s21_6, trivial, trivial, ab_s21_9, trivial, trivial, ab_s21_12, ab_s21_13, ab_s21_14, ab_s21_15, trivial, trivial, ab_s21_18, ab_s21_19, trivial, trivial, ab_s21_22, ab_s21_23, trivial, trivial, ab_s21_26, ab_s21_27, ab_s21_28, ab_s21_29, trivial, trivial, ab_s21_32, trivial, trivial, ab_s21_35, ab_s21_36, trivial⟩
theorem ab_dk22_0 : ab_dp 22 [(0, .iconst 0, 1), (1, .istore_n 1, 1), (2, .iconst 0, 1), (3, .istore_n 2, 1), (4, .iload_n 2, 1), (5, .aload_n 0, 1), (6, .getfield 28, 3), (9, .if_icmp .ge 25, 3), (12, .iload_n 1, 1), (13, .aload_n 0, 1), (14, .iload_n 2, 1), (15, .invokevirtual 54, 3), (18, .ifCond .eq 7, 3), (21, .iconst 1, 1), (22, .goto 4, 3), (25, .iconst 0, 1)] := ab_da (by decide +kernel)
theorem ab_dk22_1 : ab_dp 22 [(26, .iadd, 1), (27, .istore_n 1, 1), (28, .iinc 2 1, 3), (31, .goto (-27), 3), (34, .iload_n 1, 1), (35, .ireturn, 1)] := ab_da (by decide +kernel)
theorem ab_s22_0 : ab_Sn B 22 0 (ab_o_const 0 1) := ab_s_iconst (n := 0) ab_dk22_0.1 rfl
theorem ab_s22_1 : ab_Sn B 22 1 (ab_o_ist 1 2) := ab_s_istore_n (k := 1) (n := 1) ab_dk22_0.2.1 rfl
theorem ab_s22_2 : ab_Sn B 22 2 (ab_o_const 0 3) := ab_s_iconst (n := 0) ab_dk22_0.2.2.1 rfl
theorem ab_s22_3 : ab_Sn B 22 3 (ab_o_ist 2 4) := ab_s_istore_n (k := 2) (n := 2) ab_dk22_0.2.2.2.1 rfl
theorem ab_s22_4 : ab_Sn B 22 4 (ab_o_ild 2 5) := ab_s_iload_n (k := 2) (n := 2) ab_dk22_0.2.2.2.2.1 rfl
theorem ab_s22_5 : ab_Sn B 22 5 (ab_o_ald 0 6) := ab_s_aload_n (k := 0) (n := 0) ab_dk22_0.2.2.2.2.2.1 rfl
theorem ab_s22_6 : ab_Sn B 22 6 (ab_o_geti 4 7 0 9) := ab_s_geti (i := 28) (ci := 0) (N := 7) (k := 0) (C := RX0) (T := TX0) ab_dk22_0.2.2.2.2.2.2.1 rfl (by decide) rfl wf_10
theorem ab_s22_9 : ab_Sn B 22 9 (ab_o_icmp ab_ge 34 12) := ab_s_icmp_ge (tg := 34) (off := 25) ab_dk22_0.2.2.2.2.2.2.2.1 (by decide)
theorem ab_s22_12 : ab_Sn B 22 12 (ab_o_ild 1 13) := ab_s_iload_n (k := 1) (n := 1) ab_dk22_0.2.2.2.2.2.2.2.2.1 rfl
theorem ab_s22_13 : ab_Sn B 22 13 (ab_o_ald 0 14) := ab_s_aload_n (k := 0) (n := 0) ab_dk22_0.2.2.2.2.2.2.2.2.2.1 rfl
theorem ab_s22_14 : ab_Sn B 22 14 (ab_o_ild 2 15) := ab_s_iload_n (k := 2) (n := 2) ab_dk22_0.2.2.2.2.2.2.2.2.2.2.1 rfl
theorem ab_s22_15 : ab_Sn B 22 15 (ab_o_call (some (4, 7)) [] 13 2 2 true 18) := ab_s_callV (M' := 13) (na := 1) (i := 54) (ci := 0) (N := 7) (C := RX0) (T := TX0) (v := true) (ab_hok_n (by decide +kernel)) (by decide +kernel) ab_dk22_0.2.2.2.2.2.2.2.2.2.2.2.1 rfl (by decide) (by decide +kernel) (by decide +kernel) (by decide) wf_33 wf_34 wf_35 wf_36 wf_15
theorem ab_s22_18 : ab_Sn B 22 18 (ab_o_if ab_eq 25 21) := ab_s_if_eq (tg := 25) (off := 7) ab_dk22_0.2.2.2.2.2.2.2.2.2.2.2.2.1 (by decide)
theorem ab_s22_21 : ab_Sn B 22 21 (ab_o_const 1 22) := ab_s_iconst (n := 1) ab_dk22_0.2.2.2.2.2.2.2.2.2.2.2.2.2.1 rfl
theorem ab_s22_22 : ab_Sn B 22 22 (ab_o_goto 26) := ab_s_goto (tg := 26) (off := 4) ab_dk22_0.2.2.2.2.2.2.2.2.2.2.2.2.2.2.1 (by decide)
theorem ab_s22_25 : ab_Sn B 22 25 (ab_o_const 0 26) := ab_s_iconst (n := 0) ab_dk22_0.2.2.2.2.2.2.2.2.2.2.2.2.2.2.2.1 rfl
theorem ab_s22_26 : ab_Sn B 22 26 (ab_o_bin (fun a b => a + b) 27) := ab_s_iadd ab_dk22_1.1
theorem ab_s22_27 : ab_Sn B 22 27 (ab_o_ist 1 28) := ab_s_istore_n (k := 1) (n := 1) ab_dk22_1.2.1 rfl
theorem ab_s22_28 : ab_Sn B 22 28 (ab_o_inc 2 1 31) := ab_s_iinc (k := 2) (n := 1) ab_dk22_1.2.2.1
theorem ab_s22_31 : ab_Sn B 22 31 (ab_o_goto 4) := ab_s_goto (tg := 4) (off := -27) ab_dk22_1.2.2.2.1 (by decide)
theorem ab_s22_34 : ab_Sn B 22 34 (ab_o_ild 1 35) := ab_s_iload_n (k := 1) (n := 1) ab_dk22_1.2.2.2.2.1 rfl
theorem ab_s22_35 : ab_Sn B 22 35 (ab_o_iret false) := ab_s_iret (b := false) (ty := .int) ab_dk22_1.2.2.2.2.2.1 rfl (Or.inl ⟨rfl, rfl⟩)
set_option maxRecDepth 20000 in
theorem ab_sn22 : ab_all B 22 0 (ab_c22) := ⟨ab_s22_0, ab_s22_1, ab_s22_2, ab_s22_3, ab_s22_4, ab_s22_5, ab_s22_6, trivial, trivial, ab_s22_9, trivial, trivial, ab_s22_12, ab_s22_13, ab_s22_14, ab_s22_15, trivial, trivial, ab_s22_18, trivial, trivial, ab_s22_21, ab_s22_22, trivial, trivial, ab_s22_25, ab_s22_26, ab_s22_27, ab_s22_28, trivial, trivial, ab_s22_31, trivial, trivial, ab_s22_34, ab_s22_35, trivial⟩
theorem ab_dk23_0 : ab_dp 23 [(0, .iconst 0, 1), (1, .istore_n 3, 1), (2, .iconst 0, 1), (3, .istore 4, 2), (5, .iload 4, 2), (7, .aload_n 0, 1), (8, .getfield 32, 3), (11, .if_icmp .ge 95, 3), (14, .iconst 0, 1), (15, .istore 5, 2), (17, .iconst 0, 1), (18, .istore 6, 2), (20, .iconst 0, 1), (21, .istore 7, 2), (23, .iload 7, 2), (25, .aload_n 0, 1)] := ab_da (by decide +kernel)
theorem ab_dk23_1 : ab_dp 23 [(26, .getfield 28, 3), (29, .if_icmp .ge 56, 3), (32, .iload 7, 2), (34, .iload_n 1, 1), (35, .if_icmp .eq 20, 3), (38, .iload 7, 2), (40, .iload_n 2, 1), (41, .if_icmp .eq 14, 3), (44, .aload_n 0, 1), (45, .iload 7, 2), (47, .iload 4, 2), (49, .invokevirtual 61, 3), (52, .ifCond .eq 27, 3), (55, .iinc 5 1, 3), (58, .iload 6, 2), (60, .iload 7, 2)] := ab_da (by decide +kernel)
theorem ab_dk23_2 : ab_dp 23 [(62, .aload_n 0, 1), (63, .iload 4, 2), (65, .invokevirtual 47, 3), (68, .if_icmp .ne 7, 3), (71, .iconst 0, 1), (72, .goto 4, 3), (75, .iconst 1, 1), (76, .iadd, 1), (77, .istore 6, 2), (79, .iinc 7 1, 3), (82, .goto (-59), 3), (85, .iload_n 3, 1), (86, .iload 5, 2), (88, .iconst 1, 1), (89, .if_icmp .le 8, 3), (92, .iload 6, 2)] := ab_da (by decide +kernel)
theorem ab_dk23_3 : ab_dp 23 [(94, .goto 4, 3), (97, .iconst 0, 1), (98, .iadd, 1), (99, .istore_n 3, 1), (100, .iinc 4 1, 3), (103, .goto (-98), 3), (106, .iload_n 3, 1), (107, .ireturn, 1)] := ab_da (by decide +kernel)
theorem ab_s23_0 : ab_Sn B 23 0 (ab_o_const 0 1) := ab_s_iconst (n := 0) ab_dk23_0.1 rfl
theorem ab_s23_1 : ab_Sn B 23 1 (ab_o_ist 3 2) := ab_s_istore_n (k := 3) (n := 3) ab_dk23_0.2.1 rfl
theorem ab_s23_2 : ab_Sn B 23 2 (ab_o_const 0 3) := ab_s_iconst (n := 0) ab_dk23_0.2.2.1 rfl
theorem ab_s23_3 : ab_Sn B 23 3 (ab_o_ist 4 5) := ab_s_istore (k := 4) ab_dk23_0.2.2.2.1
theorem ab_s23_5 : ab_Sn B 23 5 (ab_o_ild 4 7) := ab_s_iload (k := 4) ab_dk23_0.2.2.2.2.1
theorem ab_s23_7 : ab_Sn B 23 7 (ab_o_ald 0 8) := ab_s_aload_n (k := 0) (n := 0) ab_dk23_0.2.2.2.2.2.1 rfl
theorem ab_s23_8 : ab_Sn B 23 8 (ab_o_geti 4 7 1 11) := ab_s_geti (i := 32) (ci := 0) (N := 7) (k := 1) (C := RX0) (T := TX0) ab_dk23_0.2.2.2.2.2.2.1 rfl (by decide) rfl wf_11
theorem ab_s23_11 : ab_Sn B 23 11 (ab_o_icmp ab_ge 106 14) := ab_s_icmp_ge (tg := 106) (off := 95) ab_dk23_0.2.2.2.2.2.2.2.1 (by decide)
theorem ab_s23_14 : ab_Sn B 23 14 (ab_o_const 0 15) := ab_s_iconst (n := 0) ab_dk23_0.2.2.2.2.2.2.2.2.1 rfl
theorem ab_s23_15 : ab_Sn B 23 15 (ab_o_ist 5 17) := ab_s_istore (k := 5) ab_dk23_0.2.2.2.2.2.2.2.2.2.1
theorem ab_s23_17 : ab_Sn B 23 17 (ab_o_const 0 18) := ab_s_iconst (n := 0) ab_dk23_0.2.2.2.2.2.2.2.2.2.2.1 rfl
theorem ab_s23_18 : ab_Sn B 23 18 (ab_o_ist 6 20) := ab_s_istore (k := 6) ab_dk23_0.2.2.2.2.2.2.2.2.2.2.2.1
theorem ab_s23_20 : ab_Sn B 23 20 (ab_o_const 0 21) := ab_s_iconst (n := 0) ab_dk23_0.2.2.2.2.2.2.2.2.2.2.2.2.1 rfl
theorem ab_s23_21 : ab_Sn B 23 21 (ab_o_ist 7 23) := ab_s_istore (k := 7) ab_dk23_0.2.2.2.2.2.2.2.2.2.2.2.2.2.1
theorem ab_s23_23 : ab_Sn B 23 23 (ab_o_ild 7 25) := ab_s_iload (k := 7) ab_dk23_0.2.2.2.2.2.2.2.2.2.2.2.2.2.2.1
theorem ab_s23_25 : ab_Sn B 23 25 (ab_o_ald 0 26) := ab_s_aload_n (k := 0) (n := 0) ab_dk23_0.2.2.2.2.2.2.2.2.2.2.2.2.2.2.2.1 rfl
theorem ab_s23_26 : ab_Sn B 23 26 (ab_o_geti 4 7 0 29) := ab_s_geti (i := 28) (ci := 0) (N := 7) (k := 0) (C := RX0) (T := TX0) ab_dk23_1.1 rfl (by decide) rfl wf_10
theorem ab_s23_29 : ab_Sn B 23 29 (ab_o_icmp ab_ge 85 32) := ab_s_icmp_ge (tg := 85) (off := 56) ab_dk23_1.2.1 (by decide)
theorem ab_s23_32 : ab_Sn B 23 32 (ab_o_ild 7 34) := ab_s_iload (k := 7) ab_dk23_1.2.2.1
theorem ab_s23_34 : ab_Sn B 23 34 (ab_o_ild 1 35) := ab_s_iload_n (k := 1) (n := 1) ab_dk23_1.2.2.2.1 rfl
theorem ab_s23_35 : ab_Sn B 23 35 (ab_o_icmp ab_eq 55 38) := ab_s_icmp_eq (tg := 55) (off := 20) ab_dk23_1.2.2.2.2.1 (by decide)
theorem ab_s23_38 : ab_Sn B 23 38 (ab_o_ild 7 40) := ab_s_iload (k := 7) ab_dk23_1.2.2.2.2.2.1
theorem ab_s23_40 : ab_Sn B 23 40 (ab_o_ild 2 41) := ab_s_iload_n (k := 2) (n := 2) ab_dk23_1.2.2.2.2.2.2.1 rfl
theorem ab_s23_41 : ab_Sn B 23 41 (ab_o_icmp ab_eq 55 44) := ab_s_icmp_eq (tg := 55) (off := 14) ab_dk23_1.2.2.2.2.2.2.2.1 (by decide)
theorem ab_s23_44 : ab_Sn B 23 44 (ab_o_ald 0 45) := ab_s_aload_n (k := 0) (n := 0) ab_dk23_1.2.2.2.2.2.2.2.2.1 rfl
theorem ab_s23_45 : ab_Sn B 23 45 (ab_o_ild 7 47) := ab_s_iload (k := 7) ab_dk23_1.2.2.2.2.2.2.2.2.2.1
theorem ab_s23_47 : ab_Sn B 23 47 (ab_o_ild 4 49) := ab_s_iload (k := 4) ab_dk23_1.2.2.2.2.2.2.2.2.2.2.1
theorem ab_s23_49 : ab_Sn B 23 49 (ab_o_call (some (4, 7)) [] 15 4 3 true 52) := ab_s_callV (M' := 15) (na := 2) (i := 61) (ci := 0) (N := 7) (C := RX0) (T := TX0) (v := true) (ab_hok_n (by decide +kernel)) (by decide +kernel) ab_dk23_1.2.2.2.2.2.2.2.2.2.2.2.1 rfl (by decide) (by decide +kernel) (by decide +kernel) (by decide) wf_41 wf_42 wf_43 wf_44 wf_15
theorem ab_s23_52 : ab_Sn B 23 52 (ab_o_if ab_eq 79 55) := ab_s_if_eq (tg := 79) (off := 27) ab_dk23_1.2.2.2.2.2.2.2.2.2.2.2.2.1 (by decide)
theorem ab_s23_55 : ab_Sn B 23 55 (ab_o_inc 5 1 58) := ab_s_iinc (k := 5) (n := 1) ab_dk23_1.2.2.2.2.2.2.2.2.2.2.2.2.2.1
theorem ab_s23_58 : ab_Sn B 23 58 (ab_o_ild 6 60) := ab_s_iload (k := 6) ab_dk23_1.2.2.2.2.2.2.2.2.2.2.2.2.2.2.1
theorem ab_s23_60 : ab_Sn B 23 60 (ab_o_ild 7 62) := ab_s_iload (k := 7) ab_dk23_1.2.2.2.2.2.2.2.2.2.2.2.2.2.2.2.1
theorem ab_s23_62 : ab_Sn B 23 62 (ab_o_ald 0 63) := ab_s_aload_n (k := 0) (n := 0) ab_dk23_2.1 rfl
theorem ab_s23_63 : ab_Sn B 23 63 (ab_o_ild 4 65) := ab_s_iload (k := 4) ab_dk23_2.2.1
theorem ab_s23_65 : ab_Sn B 23 65 (ab_o_call (some (4, 7)) [] 9 2 2 true 68) := ab_s_callV (M' := 9) (na := 1) (i := 47) (ci := 0) (N := 7) (C := RX0) (T := TX0) (v := true) (ab_hok_n (by decide +kernel)) (by decide +kernel) ab_dk23_2.2.2.1 rfl (by decide) (by decide +kernel) (by decide +kernel) (by decide) wf_25 wf_26 wf_27 wf_28 wf_15
theorem ab_s23_68 : ab_Sn B 23 68 (ab_o_icmp ab_ne 75 71) := ab_s_icmp_ne (tg := 75) (off := 7) ab_dk23_2.2.2.2.1 (by decide)
theorem ab_s23_71 : ab_Sn B 23 71 (ab_o_const 0 72) := ab_s_iconst (n := 0) ab_dk23_2.2.2.2.2.1 rfl
theorem ab_s23_72 : ab_Sn B 23 72 (ab_o_goto 76) := ab_s_goto (tg := 76) (off := 4) ab_dk23_2.2.2.2.2.2.1 (by decide)
theorem ab_s23_75 : ab_Sn B 23 75 (ab_o_const 1 76) := ab_s_iconst (n := 1) ab_dk23_2.2.2.2.2.2.2.1 rfl
theorem ab_s23_76 : ab_Sn B 23 76 (ab_o_bin (fun a b => a + b) 77) := ab_s_iadd ab_dk23_2.2.2.2.2.2.2.2.1
theorem ab_s23_77 : ab_Sn B 23 77 (ab_o_ist 6 79) := ab_s_istore (k := 6) ab_dk23_2.2.2.2.2.2.2.2.2.1
theorem ab_s23_79 : ab_Sn B 23 79 (ab_o_inc 7 1 82) := ab_s_iinc (k := 7) (n := 1) ab_dk23_2.2.2.2.2.2.2.2.2.2.1
theorem ab_s23_82 : ab_Sn B 23 82 (ab_o_goto 23) := ab_s_goto (tg := 23) (off := -59) ab_dk23_2.2.2.2.2.2.2.2.2.2.2.1 (by decide)
theorem ab_s23_85 : ab_Sn B 23 85 (ab_o_ild 3 86) := ab_s_iload_n (k := 3) (n := 3) ab_dk23_2.2.2.2.2.2.2.2.2.2.2.2.1 rfl
theorem ab_s23_86 : ab_Sn B 23 86 (ab_o_ild 5 88) := ab_s_iload (k := 5) ab_dk23_2.2.2.2.2.2.2.2.2.2.2.2.2.1
theorem ab_s23_88 : ab_Sn B 23 88 (ab_o_const 1 89) := ab_s_iconst (n := 1) ab_dk23_2.2.2.2.2.2.2.2.2.2.2.2.2.2.1 rfl
theorem ab_s23_89 : ab_Sn B 23 89 (ab_o_icmp ab_le 97 92) := ab_s_icmp_le (tg := 97) (off := 8) ab_dk23_2.2.2.2.2.2.2.2.2.2.2.2.2.2.2.1 (by decide)
theorem ab_s23_92 : ab_Sn B 23 92 (ab_o_ild 6 94) := ab_s_iload (k := 6) ab_dk23_2.2.2.2.2.2.2.2.2.2.2.2.2.2.2.2.1
theorem ab_s23_94 : ab_Sn B 23 94 (ab_o_goto 98) := ab_s_goto (tg := 98) (off := 4) ab_dk23_3.1 (by decide)
theorem ab_s23_97 : ab_Sn B 23 97 (ab_o_const 0 98) := ab_s_iconst (n := 0) ab_dk23_3.2.1 rfl
theorem ab_s23_98 : ab_Sn B 23 98 (ab_o_bin (fun a b => a + b) 99) := ab_s_iadd ab_dk23_3.2.2.1
theorem ab_s23_99 : ab_Sn B 23 99 (ab_o_ist 3 100) := ab_s_istore_n (k := 3) (n := 3) ab_dk23_3.2.2.2.1 rfl
theorem ab_s23_100 : ab_Sn B 23 100 (ab_o_inc 4 1 103) := ab_s_iinc (k := 4) (n := 1) ab_dk23_3.2.2.2.2.1
theorem ab_s23_103 : ab_Sn B 23 103 (ab_o_goto 5) := ab_s_goto (tg := 5) (off := -98) ab_dk23_3.2.2.2.2.2.1 (by decide)
theorem ab_s23_106 : ab_Sn B 23 106 (ab_o_ild 3 107) := ab_s_iload_n (k := 3) (n := 3) ab_dk23_3.2.2.2.2.2.2.1 rfl
theorem ab_s23_107 : ab_Sn B 23 107 (ab_o_iret false) := ab_s_iret (b := false) (ty := .int) ab_dk23_3.2.2.2.2.2.2.2.1 rfl (Or.inl ⟨rfl, rfl⟩)
set_option maxRecDepth 20000 in
theorem ab_sn23 : ab_all B 23 0 (ab_c23) := ⟨ab_s23_0, ab_s23_1, ab_s23_2, ab_s23_3, trivial, ab_s23_5, trivial, ab_s23_7, ab_s23_8, trivial, trivial, ab_s23_11, trivial, trivial, ab_s23_14, ab_s23_15, trivial, ab_s23_17, ab_s23_18, trivial, ab_s23_20, ab_s23_21, trivial, ab_s23_23, trivial, ab_s23_25, ab_s23_26, trivial, trivial, ab_s23_29, trivial, trivial, ab_s23_32, trivial, ab_s23_34, ab_s23_35, trivial, trivial, ab_s23_38, trivial, ab_s23_40, ab_s23_41, trivial, trivial, ab_s23_44, ab_s23_45, trivial, ab_s23_47, trivial, ab_s23_49, trivial, trivial, ab_s23_52, trivial, trivial, ab_s23_55, trivial, trivial, ab_s23_58, trivial, ab_s23_60, trivial, ab_s23_62, ab_s23_63, trivial, ab_s23_65, trivial, trivial, ab_s23_68, trivial, trivial, ab_s23_71, ab_s23_72, trivial, trivial, ab_s23_75, ab_s23_76, ab_s23_77, trivial, ab_s23_79, trivial, trivial, ab_s23_82, trivial, trivial, ab_s23_85, ab_s23_86, trivial, ab_s23_88, ab_s23_89, trivial, trivial, ab_s23_92, trivial, ab_s23_94, trivial, trivial, ab_s23_97, ab_s23_98, ab_s23_99, ab_s23_100, trivial, trivial, ab_s23_103, trivial, trivial, ab_s23_106, ab_s23_107, trivial⟩
theorem ab_dk24_0 : ab_dp 24 [(0, .aload_n 0, 1), (1, .iload_n 1, 1), (2, .iload_n 2, 1), (3, .invokevirtual 61, 3), (6, .ifCond .ne 10, 3), (9, .aload_n 0, 1), (10, .iload_n 1, 1), (11, .iload_n 2, 1), (12, .invokevirtual 68, 3), (15, .ireturn, 1), (16, .aload_n 0, 1), (17, .iload_n 2, 1), (18, .invokevirtual 65, 3), (21, .iconst 1, 1), (22, .if_icmp .le 7, 3), (25, .iconst (-1), 1)] := ab_da (by decide +kernel)
theorem ab_dk24_1 : ab_dp 24 [(26, .goto 9, 3), (29, .aload_n 0, 1), (30, .iload_n 1, 1), (31, .iload_n 2, 1), (32, .invokevirtual 71, 3), (35, .ireturn, 1)] := ab_da (by decide +kernel)
theorem ab_s24_0 : ab_Sn B 24 0 (ab_o_ald 0 1) := ab_s_aload_n (k := 0) (n := 0) ab_dk24_0.1 rfl
theorem ab_s24_1 : ab_Sn B 24 1 (ab_o_ild 1 2) := ab_s_iload_n (k := 1) (n := 1) ab_dk24_0.2.1 rfl
theorem ab_s24_2 : ab_Sn B 24 2 (ab_o_ild 2 3) := ab_s_iload_n (k := 2) (n := 2) ab_dk24_0.2.2.1 rfl
theorem ab_s24_3 : ab_Sn B 24 3 (ab_o_call (some (4, 7)) [] 15 4 3 true 6) := ab_s_callV (M' := 15) (na := 2) (i := 61) (ci := 0) (N := 7) (C := RX0) (T := TX0) (v := true) (ab_hok_n (by decide +kernel)) (by decide +kernel) ab_dk24_0.2.2.2.1 rfl (by decide) (by decide +kernel) (by decide +kernel) (by decide) wf_41 wf_42 wf_43 wf_44 wf_15
theorem ab_s24_6 : ab_Sn B 24 6 (ab_o_if ab_ne 16 9) := ab_s_if_ne (tg := 16) (off := 10) ab_dk24_0.2.2.2.2.1 (by decide)
theorem ab_s24_9 : ab_Sn B 24 9 (ab_o_ald 0 10) := ab_s_aload_n (k := 0) (n := 0) ab_dk24_0.2.2.2.2.2.1 rfl
theorem ab_s24_10 : ab_Sn B 24 10 (ab_o_ild 1 11) := ab_s_iload_n (k := 1) (n := 1) ab_dk24_0.2.2.2.2.2.2.1 rfl
theorem ab_s24_11 : ab_Sn B 24 11 (ab_o_ild 2 12) := ab_s_iload_n (k := 2) (n := 2) ab_dk24_0.2.2.2.2.2.2.2.1 rfl
theorem ab_s24_12 : ab_Sn B 24 12 (ab_o_call (some (4, 7)) [] 11 4 3 true 15) := ab_s_callV (M' := 11) (na := 2) (i := 68) (ci := 0) (N := 7) (C := RX0) (T := TX0) (v := true) (ab_hok_n (by decide +kernel)) (by decide +kernel) ab_dk24_0.2.2.2.2.2.2.2.2.1 rfl (by decide) (by decide +kernel) (by decide +kernel) (by decide) wf_49 wf_50 wf_51 wf_52 wf_15
theorem ab_s24_15 : ab_Sn B 24 15 (ab_o_iret false) := ab_s_iret (b := false) (ty := .int) ab_dk24_0.2.2.2.2.2.2.2.2.2.1 rfl (Or.inl ⟨rfl, rfl⟩)
theorem ab_s24_16 : ab_Sn B 24 16 (ab_o_ald 0 17) := ab_s_aload_n (k := 0) (n := 0) ab_dk24_0.2.2.2.2.2.2.2.2.2.2.1 rfl
theorem ab_s24_17 : ab_Sn B 24 17 (ab_o_ild 2 18) := ab_s_iload_n (k := 2) (n := 2) ab_dk24_0.2.2.2.2.2.2.2.2.2.2.2.1 rfl
theorem ab_s24_18 : ab_Sn B 24 18 (ab_o_call (some (4, 7)) [] 17 4 2 true 21) := ab_s_callV (M' := 17) (na := 1) (i := 65) (ci := 0) (N := 7) (C := RX0) (T := TX0) (v := true) (ab_hok_n (by decide +kernel)) (by decide +kernel) ab_dk24_0.2.2.2.2.2.2.2.2.2.2.2.2.1 rfl (by decide) (by decide +kernel) (by decide +kernel) (by decide) wf_45 wf_46 wf_47 wf_48 wf_15
theorem ab_s24_21 : ab_Sn B 24 21 (ab_o_const 1 22) := ab_s_iconst (n := 1) ab_dk24_0.2.2.2.2.2.2.2.2.2.2.2.2.2.1 rfl
theorem ab_s24_22 : ab_Sn B 24 22 (ab_o_icmp ab_le 29 25) := ab_s_icmp_le (tg := 29) (off := 7) ab_dk24_0.2.2.2.2.2.2.2.2.2.2.2.2.2.2.1 (by decide)
theorem ab_s24_25 : ab_Sn B 24 25 (ab_o_const (-1) 26) := ab_s_iconst (n := (-1)) ab_dk24_0.2.2.2.2.2.2.2.2.2.2.2.2.2.2.2.1 rfl
theorem ab_s24_26 : ab_Sn B 24 26 (ab_o_goto 35) := ab_s_goto (tg := 35) (off := 9) ab_dk24_1.1 (by decide)
theorem ab_s24_29 : ab_Sn B 24 29 (ab_o_ald 0 30) := ab_s_aload_n (k := 0) (n := 0) ab_dk24_1.2.1 rfl
theorem ab_s24_30 : ab_Sn B 24 30 (ab_o_ild 1 31) := ab_s_iload_n (k := 1) (n := 1) ab_dk24_1.2.2.1 rfl
theorem ab_s24_31 : ab_Sn B 24 31 (ab_o_ild 2 32) := ab_s_iload_n (k := 2) (n := 2) ab_dk24_1.2.2.2.1 rfl
theorem ab_s24_32 : ab_Sn B 24 32 (ab_o_call (some (4, 7)) [] 25 5 3 true 35) := ab_s_callV (M' := 25) (na := 2) (i := 71) (ci := 0) (N := 7) (C := RX0) (T := TX0) (v := true) (ab_hok_n (by decide +kernel)) (by decide +kernel) ab_dk24_1.2.2.2.2.1 rfl (by decide) (by decide +kernel) (by decide +kernel) (by decide) wf_53 wf_54 wf_55 wf_56 wf_15
theorem ab_s24_35 : ab_Sn B 24 35 (ab_o_iret false) := ab_s_iret (b := false) (ty := .int) ab_dk24_1.2.2.2.2.2.1 rfl (Or.inl ⟨rfl, rfl⟩)
set_option maxRecDepth 20000 in
theorem ab_sn24 : ab_all B 24 0 (ab_c24) := ⟨ab_s24_0, ab_s24_1, ab_s24_2, ab_s24_3, trivial, trivial, ab_s24_6, trivial, trivial, ab_s24_9, ab_s24_10, ab_s24_11, ab_s24_12, trivial, trivial, ab_s24_15, ab_s24_16, ab_s24_17, ab_s24_18, trivial, trivial, ab_s24_21, ab_s24_22, trivial, trivial, ab_s24_25, ab_s24_26, trivial, trivial, ab_s24_29, ab_s24_30, ab_s24_31, ab_s24_32, trivial, trivial, ab_s24_35, trivial⟩
theorem ab_dk25_0 : ab_dp 25 [(0, .iconst 0, 1), (1, .istore_n 3, 1), (2, .iconst 0, 1), (3, .istore 4, 2), (5, .iload 4, 2), (7, .aload_n 0, 1), (8, .getfield 28, 3), (11, .if_icmp .ge 29, 3), (14, .iload_n 3, 1), (15, .iload 4, 2), (17, .iload_n 1, 1), (18, .if_icmp .ne 7, 3), (21, .iconst 0, 1), (22, .goto 10, 3), (25, .aload_n 0, 1), (26, .iload 4, 2)] := ab_da (by decide +kernel)
theorem ab_dk25_1 : ab_dp 25 [(28, .iload_n 2, 1), (29, .invokevirtual 68, 3), (32, .ixor, 1), (33, .istore_n 3, 1), (34, .iinc 4 1, 3), (37, .goto (-32), 3), (40, .iload_n 3, 1), (41, .ireturn, 1)] := ab_da (by decide +kernel)
theorem ab_s25_0 : ab_Sn B 25 0 (ab_o_const 0 1) := ab_s_iconst (n := 0) ab_dk25_0.1 rfl
theorem ab_s25_1 : ab_Sn B 25 1 (ab_o_ist 3 2) := ab_s_istore_n (k := 3) (n := 3) ab_dk25_0.2.1 rfl
theorem ab_s25_2 : ab_Sn B 25 2 (ab_o_const 0 3) := ab_s_iconst (n := 0) ab_dk25_0.2.2.1 rfl
theorem ab_s25_3 : ab_Sn B 25 3 (ab_o_ist 4 5) := ab_s_istore (k := 4) ab_dk25_0.2.2.2.1
theorem ab_s25_5 : ab_Sn B 25 5 (ab_o_ild 4 7) := ab_s_iload (k := 4) ab_dk25_0.2.2.2.2.1
theorem ab_s25_7 : ab_Sn B 25 7 (ab_o_ald 0 8) := ab_s_aload_n (k := 0) (n := 0) ab_dk25_0.2.2.2.2.2.1 rfl
theorem ab_s25_8 : ab_Sn B 25 8 (ab_o_geti 4 7 0 11) := ab_s_geti (i := 28) (ci := 0) (N := 7) (k := 0) (C := RX0) (T := TX0) ab_dk25_0.2.2.2.2.2.2.1 rfl (by decide) rfl wf_10
theorem ab_s25_11 : ab_Sn B 25 11 (ab_o_icmp ab_ge 40 14) := ab_s_icmp_ge (tg := 40) (off := 29) ab_dk25_0.2.2.2.2.2.2.2.1 (by decide)
theorem ab_s25_14 : ab_Sn B 25 14 (ab_o_ild 3 15) := ab_s_iload_n (k := 3) (n := 3) ab_dk25_0.2.2.2.2.2.2.2.2.1 rfl
theorem ab_s25_15 : ab_Sn B 25 15 (ab_o_ild 4 17) := ab_s_iload (k := 4) ab_dk25_0.2.2.2.2.2.2.2.2.2.1
theorem ab_s25_17 : ab_Sn B 25 17 (ab_o_ild 1 18) := ab_s_iload_n (k := 1) (n := 1) ab_dk25_0.2.2.2.2.2.2.2.2.2.2.1 rfl
theorem ab_s25_18 : ab_Sn B 25 18 (ab_o_icmp ab_ne 25 21) := ab_s_icmp_ne (tg := 25) (off := 7) ab_dk25_0.2.2.2.2.2.2.2.2.2.2.2.1 (by decide)
theorem ab_s25_21 : ab_Sn B 25 21 (ab_o_const 0 22) := ab_s_iconst (n := 0) ab_dk25_0.2.2.2.2.2.2.2.2.2.2.2.2.1 rfl
theorem ab_s25_22 : ab_Sn B 25 22 (ab_o_goto 32) := ab_s_goto (tg := 32) (off := 10) ab_dk25_0.2.2.2.2.2.2.2.2.2.2.2.2.2.1 (by decide)
theorem ab_s25_25 : ab_Sn B 25 25 (ab_o_ald 0 26) := ab_s_aload_n (k := 0) (n := 0) ab_dk25_0.2.2.2.2.2.2.2.2.2.2.2.2.2.2.1 rfl
theorem ab_s25_26 : ab_Sn B 25 26 (ab_o_ild 4 28) := ab_s_iload (k := 4) ab_dk25_0.2.2.2.2.2.2.2.2.2.2.2.2.2.2.2.1
theorem ab_s25_28 : ab_Sn B 25 28 (ab_o_ild 2 29) := ab_s_iload_n (k := 2) (n := 2) ab_dk25_1.1 rfl
theorem ab_s25_29 : ab_Sn B 25 29 (ab_o_call (some (4, 7)) [] 11 4 3 true 32) := ab_s_callV (M' := 11) (na := 2) (i := 68) (ci := 0) (N := 7) (C := RX0) (T := TX0) (v := true) (ab_hok_n (by decide +kernel)) (by decide +kernel) ab_dk25_1.2.1 rfl (by decide) (by decide +kernel) (by decide +kernel) (by decide) wf_49 wf_50 wf_51 wf_52 wf_15
theorem ab_s25_32 : ab_Sn B 25 32 (ab_o_bin ab_ixor 33) := ab_s_ixor ab_dk25_1.2.2.1
theorem ab_s25_33 : ab_Sn B 25 33 (ab_o_ist 3 34) := ab_s_istore_n (k := 3) (n := 3) ab_dk25_1.2.2.2.1 rfl
theorem ab_s25_34 : ab_Sn B 25 34 (ab_o_inc 4 1 37) := ab_s_iinc (k := 4) (n := 1) ab_dk25_1.2.2.2.2.1
theorem ab_s25_37 : ab_Sn B 25 37 (ab_o_goto 5) := ab_s_goto (tg := 5) (off := -32) ab_dk25_1.2.2.2.2.2.1 (by decide)
theorem ab_s25_40 : ab_Sn B 25 40 (ab_o_ild 3 41) := ab_s_iload_n (k := 3) (n := 3) ab_dk25_1.2.2.2.2.2.2.1 rfl
theorem ab_s25_41 : ab_Sn B 25 41 (ab_o_iret false) := ab_s_iret (b := false) (ty := .int) ab_dk25_1.2.2.2.2.2.2.2.1 rfl (Or.inl ⟨rfl, rfl⟩)
set_option maxRecDepth 20000 in
theorem ab_sn25 : ab_all B 25 0 (ab_c25) := ⟨ab_s25_0, ab_s25_1, ab_s25_2, ab_s25_3, trivial, ab_s25_5, trivial, ab_s25_7, ab_s25_8, trivial, trivial, ab_s25_11, trivial, trivial, ab_s25_14, ab_s25_15, trivial, ab_s25_17, ab_s25_18, trivial, trivial, ab_s25_21, ab_s25_22, trivial, trivial, ab_s25_25, ab_s25_26, trivial, ab_s25_28, ab_s25_29, trivial, trivial, ab_s25_32, ab_s25_33, ab_s25_34, trivial, trivial, ab_s25_37, trivial, trivial, ab_s25_40, ab_s25_41, trivial⟩
theorem ab_dk26_0 : ab_dp 26 [(0, .aload_n 0, 1), (1, .iload_n 1, 1), (2, .iload_n 2, 1), (3, .invokevirtual 50, 3), (6, .istore 4, 2), (8, .iload 4, 2), (10, .iconst (-1), 1), (11, .if_icmp .eq 32, 3), (14, .aload_n 0, 1), (15, .iload_n 1, 1), (16, .invokevirtual 54, 3), (19, .ifCond .ne 24, 3), (22, .aload_n 0, 1), (23, .getfield 9, 3), (26, .iload 4, 2), (28, .iload_n 3, 1)] := ab_da (by decide +kernel)
theorem ab_dk26_1 : ab_dp 26 [(29, .iastore, 1), (30, .aload_n 0, 1), (31, .getfield 15, 3), (34, .iload 4, 2), (36, .aload_n 0, 1), (37, .iload_n 3, 1), (38, .iload_n 2, 1), (39, .invokevirtual 58, 3), (42, .iastore, 1), (43, .return_, 1)] := ab_da (by decide +kernel)
theorem ab_s26_0 : ab_Sn B 26 0 (ab_o_ald 0 1) := ab_s_aload_n (k := 0) (n := 0) ab_dk26_0.1 rfl
theorem ab_s26_1 : ab_Sn B 26 1 (ab_o_ild 1 2) := ab_s_iload_n (k := 1) (n := 1) ab_dk26_0.2.1 rfl
theorem ab_s26_2 : ab_Sn B 26 2 (ab_o_ild 2 3) := ab_s_iload_n (k := 2) (n := 2) ab_dk26_0.2.2.1 rfl
theorem ab_s26_3 : ab_Sn B 26 3 (ab_o_call (some (4, 7)) [] 35 4 3 true 6) := ab_s_callV (M' := 35) (na := 2) (i := 50) (ci := 0) (N := 7) (C := RX0) (T := TX0) (v := true) (ab_hok_n (by decide +kernel)) (by decide +kernel) ab_dk26_0.2.2.2.1 rfl (by decide) (by decide +kernel) (by decide +kernel) (by decide) wf_29 wf_30 wf_31 wf_32 wf_15
theorem ab_s26_6 : ab_Sn B 26 6 (ab_o_ist 4 8) := ab_s_istore (k := 4) ab_dk26_0.2.2.2.2.1
theorem ab_s26_8 : ab_Sn B 26 8 (ab_o_ild 4 10) := ab_s_iload (k := 4) ab_dk26_0.2.2.2.2.2.1
theorem ab_s26_10 : ab_Sn B 26 10 (ab_o_const (-1) 11) := ab_s_iconst (n := (-1)) ab_dk26_0.2.2.2.2.2.2.1 rfl
theorem ab_s26_11 : ab_Sn B 26 11 (ab_o_icmp ab_eq 43 14) := ab_s_icmp_eq (tg := 43) (off := 32) ab_dk26_0.2.2.2.2.2.2.2.1 (by decide)
theorem ab_s26_14 : ab_Sn B 26 14 (ab_o_ald 0 15) := ab_s_aload_n (k := 0) (n := 0) ab_dk26_0.2.2.2.2.2.2.2.2.1 rfl
theorem ab_s26_15 : ab_Sn B 26 15 (ab_o_ild 1 16) := ab_s_iload_n (k := 1) (n := 1) ab_dk26_0.2.2.2.2.2.2.2.2.2.1 rfl
theorem ab_s26_16 : ab_Sn B 26 16 (ab_o_call (some (4, 7)) [] 13 2 2 true 19) := ab_s_callV (M' := 13) (na := 1) (i := 54) (ci := 0) (N := 7) (C := RX0) (T := TX0) (v := true) (ab_hok_n (by decide +kernel)) (by decide +kernel) ab_dk26_0.2.2.2.2.2.2.2.2.2.2.1 rfl (by decide) (by decide +kernel) (by decide +kernel) (by decide) wf_33 wf_34 wf_35 wf_36 wf_15
theorem ab_s26_19 : ab_Sn B 26 19 (ab_o_if ab_ne 43 22) := ab_s_if_ne (tg := 43) (off := 24) ab_dk26_0.2.2.2.2.2.2.2.2.2.2.2.1 (by decide)
theorem ab_s26_22 : ab_Sn B 26 22 (ab_o_ald 0 23) := ab_s_aload_n (k := 0) (n := 0) ab_dk26_0.2.2.2.2.2.2.2.2.2.2.2.2.1 rfl
theorem ab_s26_23 : ab_Sn B 26 23 (ab_o_getr 4 7 2 26) := ab_s_getr (i := 9) (ci := 0) (N := 7) (k := 2) (C := RX0) (T := TX0) ab_dk26_0.2.2.2.2.2.2.2.2.2.2.2.2.2.1 rfl (by decide) rfl wf_4
theorem ab_s26_26 : ab_Sn B 26 26 (ab_o_ild 4 28) := ab_s_iload (k := 4) ab_dk26_0.2.2.2.2.2.2.2.2.2.2.2.2.2.2.1
theorem ab_s26_28 : ab_Sn B 26 28 (ab_o_ild 3 29) := ab_s_iload_n (k := 3) (n := 3) ab_dk26_0.2.2.2.2.2.2.2.2.2.2.2.2.2.2.2.1 rfl
theorem ab_s26_29 : ab_Sn B 26 29 (ab_o_xst 0 30) := ab_s_iastore ab_dk26_1.1
theorem ab_s26_30 : ab_Sn B 26 30 (ab_o_ald 0 31) := ab_s_aload_n (k := 0) (n := 0) ab_dk26_1.2.1 rfl
theorem ab_s26_31 : ab_Sn B 26 31 (ab_o_getr 4 7 3 34) := ab_s_getr (i := 15) (ci := 0) (N := 7) (k := 3) (C := RX0) (T := TX0) ab_dk26_1.2.2.1 rfl (by decide) rfl wf_5
theorem ab_s26_34 : ab_Sn B 26 34 (ab_o_ild 4 36) := ab_s_iload (k := 4) ab_dk26_1.2.2.2.1
theorem ab_s26_36 : ab_Sn B 26 36 (ab_o_ald 0 37) := ab_s_aload_n (k := 0) (n := 0) ab_dk26_1.2.2.2.2.1 rfl
theorem ab_s26_37 : ab_Sn B 26 37 (ab_o_ild 3 38) := ab_s_iload_n (k := 3) (n := 3) ab_dk26_1.2.2.2.2.2.1 rfl
theorem ab_s26_38 : ab_Sn B 26 38 (ab_o_ild 2 39) := ab_s_iload_n (k := 2) (n := 2) ab_dk26_1.2.2.2.2.2.2.1 rfl
theorem ab_s26_39 : ab_Sn B 26 39 (ab_o_call (some (4, 7)) [] 34 3 3 true 42) := ab_s_callV (M' := 34) (na := 2) (i := 58) (ci := 0) (N := 7) (C := RX0) (T := TX0) (v := true) (ab_hok_n (by decide +kernel)) (by decide +kernel) ab_dk26_1.2.2.2.2.2.2.2.1 rfl (by decide) (by decide +kernel) (by decide +kernel) (by decide) wf_37 wf_38 wf_39 wf_40 wf_15
theorem ab_s26_42 : ab_Sn B 26 42 (ab_o_xst 0 43) := ab_s_iastore ab_dk26_1.2.2.2.2.2.2.2.2.1
theorem ab_s26_43 : ab_Sn B 26 43 (ab_o_ret) := ab_s_ret ab_dk26_1.2.2.2.2.2.2.2.2.2.1 rfl
set_option maxRecDepth 20000 in
theorem ab_sn26 : ab_all B 26 0 (ab_c26) := ⟨ab_s26_0, ab_s26_1, ab_s26_2, ab_s26_3, trivial, trivial, ab_s26_6, trivial, ab_s26_8, trivial, ab_s26_10, ab_s26_11, trivial, trivial, ab_s26_14, ab_s26_15, ab_s26_16, trivial, trivial, ab_s26_19, trivial, trivial, ab_s26_22, ab_s26_23, trivial, trivial, ab_s26_26, trivial, ab_s26_28, ab_s26_29, ab_s26_30, ab_s26_31, trivial, trivial, ab_s26_34, trivial, ab_s26_36, ab_s26_37, ab_s26_38, ab_s26_39, trivial, trivial, ab_s26_42, ab_s26_43, trivial⟩
theorem ab_dk27_0 : ab_dp 27 [(0, .aload_n 0, 1), (1, .iload_n 1, 1), (2, .invokevirtual 65, 3), (5, .iconst 1, 1), (6, .if_icmp .eq 5, 3), (9, .iconst 0, 1), (10, .ireturn, 1), (11, .iconst 0, 1), (12, .istore_n 2, 1), (13, .iload_n 2, 1), (14, .aload_n 0, 1), (15, .getfield 28, 3), (18, .if_icmp .ge 40, 3), (21, .aload_n 0, 1), (22, .iload_n 2, 1), (23, .iload_n 1, 1)] := ab_da (by decide +kernel)
theorem ab_dk27_1 : ab_dp 27 [(24, .invokevirtual 61, 3), (27, .ifCond .eq 25, 3), (30, .aload_n 0, 1), (31, .iload_n 2, 1), (32, .invokevirtual 54, 3), (35, .ifCond .ne 17, 3), (38, .aload_n 0, 1), (39, .iload_n 2, 1), (40, .iload_n 1, 1), (41, .aload_n 0, 1), (42, .iload_n 2, 1), (43, .iload_n 1, 1), (44, .invokevirtual 71, 3), (47, .invokevirtual 35, 3), (50, .iconst 1, 1), (51, .ireturn, 1)] := ab_da (by decide +kernel)
theorem ab_dk27_2 : ab_dp 27 [(52, .iinc 2 1, 3), (55, .goto (-42), 3), (58, .iconst 0, 1), (59, .ireturn, 1)] := ab_da (by decide +kernel)
theorem ab_s27_0 : ab_Sn B 27 0 (ab_o_ald 0 1) := ab_s_aload_n (k := 0) (n := 0) ab_dk27_0.1 rfl
theorem ab_s27_1 : ab_Sn B 27 1 (ab_o_ild 1 2) := ab_s_iload_n (k := 1) (n := 1) ab_dk27_0.2.1 rfl
theorem ab_s27_2 : ab_Sn B 27 2 (ab_o_call (some (4, 7)) [] 17 4 2 true 5) := ab_s_callV (M' := 17) (na := 1) (i := 65) (ci := 0) (N := 7) (C := RX0) (T := TX0) (v := true) (ab_hok_n (by decide +kernel)) (by decide +kernel) ab_dk27_0.2.2.1 rfl (by decide) (by decide +kernel) (by decide +kernel) (by decide) wf_45 wf_46 wf_47 wf_48 wf_15
theorem ab_s27_5 : ab_Sn B 27 5 (ab_o_const 1 6) := ab_s_iconst (n := 1) ab_dk27_0.2.2.2.1 rfl
theorem ab_s27_6 : ab_Sn B 27 6 (ab_o_icmp ab_eq 11 9) := ab_s_icmp_eq (tg := 11) (off := 5) ab_dk27_0.2.2.2.2.1 (by decide)
theorem ab_s27_9 : ab_Sn B 27 9 (ab_o_const 0 10) := ab_s_iconst (n := 0) ab_dk27_0.2.2.2.2.2.1 rfl
theorem ab_s27_10 : ab_Sn B 27 10 (ab_o_iret false) := ab_s_iret (b := false) (ty := .int) ab_dk27_0.2.2.2.2.2.2.1 rfl (Or.inl ⟨rfl, rfl⟩)
theorem ab_s27_11 : ab_Sn B 27 11 (ab_o_const 0 12) := ab_s_iconst (n := 0) ab_dk27_0.2.2.2.2.2.2.2.1 rfl
theorem ab_s27_12 : ab_Sn B 27 12 (ab_o_ist 2 13) := ab_s_istore_n (k := 2) (n := 2) ab_dk27_0.2.2.2.2.2.2.2.2.1 rfl
theorem ab_s27_13 : ab_Sn B 27 13 (ab_o_ild 2 14) := ab_s_iload_n (k := 2) (n := 2) ab_dk27_0.2.2.2.2.2.2.2.2.2.1 rfl
theorem ab_s27_14 : ab_Sn B 27 14 (ab_o_ald 0 15) := ab_s_aload_n (k := 0) (n := 0) ab_dk27_0.2.2.2.2.2.2.2.2.2.2.1 rfl
theorem ab_s27_15 : ab_Sn B 27 15 (ab_o_geti 4 7 0 18) := ab_s_geti (i := 28) (ci := 0) (N := 7) (k := 0) (C := RX0) (T := TX0) ab_dk27_0.2.2.2.2.2.2.2.2.2.2.2.1 rfl (by decide) rfl wf_10
theorem ab_s27_18 : ab_Sn B 27 18 (ab_o_icmp ab_ge 58 21) := ab_s_icmp_ge (tg := 58) (off := 40) ab_dk27_0.2.2.2.2.2.2.2.2.2.2.2.2.1 (by decide)
theorem ab_s27_21 : ab_Sn B 27 21 (ab_o_ald 0 22) := ab_s_aload_n (k := 0) (n := 0) ab_dk27_0.2.2.2.2.2.2.2.2.2.2.2.2.2.1 rfl
theorem ab_s27_22 : ab_Sn B 27 22 (ab_o_ild 2 23) := ab_s_iload_n (k := 2) (n := 2) ab_dk27_0.2.2.2.2.2.2.2.2.2.2.2.2.2.2.1 rfl
theorem ab_s27_23 : ab_Sn B 27 23 (ab_o_ild 1 24) := ab_s_iload_n (k := 1) (n := 1) ab_dk27_0.2.2.2.2.2.2.2.2.2.2.2.2.2.2.2.1 rfl
theorem ab_s27_24 : ab_Sn B 27 24 (ab_o_call (some (4, 7)) [] 15 4 3 true 27) := ab_s_callV (M' := 15) (na := 2) (i := 61) (ci := 0) (N := 7) (C := RX0) (T := TX0) (v := true) (ab_hok_n (by decide +kernel)) (by decide +kernel) ab_dk27_1.1 rfl (by decide) (by decide +kernel) (by decide +kernel) (by decide) wf_41 wf_42 wf_43 wf_44 wf_15
theorem ab_s27_27 : ab_Sn B 27 27 (ab_o_if ab_eq 52 30) := ab_s_if_eq (tg := 52) (off := 25) ab_dk27_1.2.1 (by decide)
theorem ab_s27_30 : ab_Sn B 27 30 (ab_o_ald 0 31) := ab_s_aload_n (k := 0) (n := 0) ab_dk27_1.2.2.1 rfl
theorem ab_s27_31 : ab_Sn B 27 31 (ab_o_ild 2 32) := ab_s_iload_n (k := 2) (n := 2) ab_dk27_1.2.2.2.1 rfl
theorem ab_s27_32 : ab_Sn B 27 32 (ab_o_call (some (4, 7)) [] 13 2 2 true 35) := ab_s_callV (M' := 13) (na := 1) (i := 54) (ci := 0) (N := 7) (C := RX0) (T := TX0) (v := true) (ab_hok_n (by decide +kernel)) (by decide +kernel) ab_dk27_1.2.2.2.2.1 rfl (by decide) (by decide +kernel) (by decide +kernel) (by decide) wf_33 wf_34 wf_35 wf_36 wf_15
theorem ab_s27_35 : ab_Sn B 27 35 (ab_o_if ab_ne 52 38) := ab_s_if_ne (tg := 52) (off := 17) ab_dk27_1.2.2.2.2.2.1 (by decide)
theorem ab_s27_38 : ab_Sn B 27 38 (ab_o_ald 0 39) := ab_s_aload_n (k := 0) (n := 0) ab_dk27_1.2.2.2.2.2.2.1 rfl
theorem ab_s27_39 : ab_Sn B 27 39 (ab_o_ild 2 40) := ab_s_iload_n (k := 2) (n := 2) ab_dk27_1.2.2.2.2.2.2.2.1 rfl
theorem ab_s27_40 : ab_Sn B 27 40 (ab_o_ild 1 41) := ab_s_iload_n (k := 1) (n := 1) ab_dk27_1.2.2.2.2.2.2.2.2.1 rfl
theorem ab_s27_41 : ab_Sn B 27 41 (ab_o_ald 0 42) := ab_s_aload_n (k := 0) (n := 0) ab_dk27_1.2.2.2.2.2.2.2.2.2.1 rfl
theorem ab_s27_42 : ab_Sn B 27 42 (ab_o_ild 2 43) := ab_s_iload_n (k := 2) (n := 2) ab_dk27_1.2.2.2.2.2.2.2.2.2.2.1 rfl
theorem ab_s27_43 : ab_Sn B 27 43 (ab_o_ild 1 44) := ab_s_iload_n (k := 1) (n := 1) ab_dk27_1.2.2.2.2.2.2.2.2.2.2.2.1 rfl
theorem ab_s27_44 : ab_Sn B 27 44 (ab_o_call (some (4, 7)) [] 25 5 3 true 47) := ab_s_callV (M' := 25) (na := 2) (i := 71) (ci := 0) (N := 7) (C := RX0) (T := TX0) (v := true) (ab_hok_n (by decide +kernel)) (by decide +kernel) ab_dk27_1.2.2.2.2.2.2.2.2.2.2.2.2.1 rfl (by decide) (by decide +kernel) (by decide +kernel) (by decide) wf_53 wf_54 wf_55 wf_56 wf_15
theorem ab_s27_47 : ab_Sn B 27 47 (ab_o_call (some (4, 7)) [] 26 5 4 false 50) := ab_s_callV (M' := 26) (na := 3) (i := 35) (ci := 0) (N := 7) (C := RX0) (T := TX0) (v := false) (ab_hok_n (by decide +kernel)) (by decide +kernel) ab_dk27_1.2.2.2.2.2.2.2.2.2.2.2.2.2.1 rfl (by decide) (by decide +kernel) (by decide +kernel) (by decide) wf_12 wf_13 wf_14 wf_16 wf_15
theorem ab_s27_50 : ab_Sn B 27 50 (ab_o_const 1 51) := ab_s_iconst (n := 1) ab_dk27_1.2.2.2.2.2.2.2.2.2.2.2.2.2.2.1 rfl
theorem ab_s27_51 : ab_Sn B 27 51 (ab_o_iret false) := ab_s_iret (b := false) (ty := .int) ab_dk27_1.2.2.2.2.2.2.2.2.2.2.2.2.2.2.2.1 rfl (Or.inl ⟨rfl, rfl⟩)
theorem ab_s27_52 : ab_Sn B 27 52 (ab_o_inc 2 1 55) := ab_s_iinc (k := 2) (n := 1) ab_dk27_2.1
theorem ab_s27_55 : ab_Sn B 27 55 (ab_o_goto 13) := ab_s_goto (tg := 13) (off := -42) ab_dk27_2.2.1 (by decide)
theorem ab_s27_58 : ab_Sn B 27 58 (ab_o_const 0 59) := ab_s_iconst (n := 0) ab_dk27_2.2.2.1 rfl
theorem ab_s27_59 : ab_Sn B 27 59 (ab_o_iret false) := ab_s_iret (b := false) (ty := .int) ab_dk27_2.2.2.2.1 rfl (Or.inl ⟨rfl, rfl⟩)
set_option maxRecDepth 20000 in
theorem ab_sn27 : ab_all B 27 0 (ab_c27) := ⟨ab_s27_0, ab_s27_1, ab_s27_2, trivial, trivial, ab_s27_5, ab_s27_6, trivial, trivial, ab_s27_9, ab_s27_10, ab_s27_11, ab_s27_12, ab_s27_13, ab_s27_14, ab_s27_15, trivial, trivial, ab_s27_18, trivial, trivial, ab_s27_21, ab_s27_22, ab_s27_23, ab_s27_24, trivial, trivial, ab_s27_27, trivial, trivial, ab_s27_30, ab_s27_31, ab_s27_32, trivial, trivial, ab_s27_35, trivial, trivial, ab_s27_38, ab_s27_39, ab_s27_40, ab_s27_41, ab_s27_42, ab_s27_43, ab_s27_44, trivial, trivial, ab_s27_47, trivial, trivial, ab_s27_50, ab_s27_51, ab_s27_52, trivial, trivial, ab_s27_55, trivial, trivial, ab_s27_58, ab_s27_59, trivial⟩
theorem ab_dk28_0 : ab_dp 28 [(0, .aload_n 0, 1), (1, .iload_n 1, 1), (2, .invokevirtual 74, 3), (5, .ifCond .eq 10, 3), (8, .aload_n 0, 1), (9, .getfield 21, 3), (12, .iload_n 1, 1), (13, .iconst 1, 1), (14, .bastore, 1), (15, .return_, 1)] := ab_da (by decide +kernel)
theorem ab_s28_0 : ab_Sn B 28 0 (ab_o_ald 0 1) := ab_s_aload_n (k := 0) (n := 0) ab_dk28_0.1 rfl
theorem ab_s28_1 : ab_Sn B 28 1 (ab_o_ild 1 2) := ab_s_iload_n (k := 1) (n := 1) ab_dk28_0.2.1 rfl
theorem ab_s28_2 : ab_Sn B 28 2 (ab_o_call (some (4, 7)) [] 2 2 2 true 5) := ab_s_callV (M' := 2) (na := 1) (i := 74) (ci := 0) (N := 7) (C := RX0) (T := TX0) (v := true) (ab_hok_n (by decide +kernel)) (by decide +kernel) ab_dk28_0.2.2.1 rfl (by decide) (by decide +kernel) (by decide +kernel) (by decide) wf_57 wf_58 wf_59 wf_60 wf_15
theorem ab_s28_5 : ab_Sn B 28 5 (ab_o_if ab_eq 15 8) := ab_s_if_eq (tg := 15) (off := 10) ab_dk28_0.2.2.2.1 (by decide)
theorem ab_s28_8 : ab_Sn B 28 8 (ab_o_ald 0 9) := ab_s_aload_n (k := 0) (n := 0) ab_dk28_0.2.2.2.2.1 rfl
theorem ab_s28_9 : ab_Sn B 28 9 (ab_o_getr 4 7 5 12) := ab_s_getr (i := 21) (ci := 0) (N := 7) (k := 5) (C := RX0) (T := TX0) ab_dk28_0.2.2.2.2.2.1 rfl (by decide) rfl wf_8
theorem ab_s28_12 : ab_Sn B 28 12 (ab_o_ild 1 13) := ab_s_iload_n (k := 1) (n := 1) ab_dk28_0.2.2.2.2.2.2.1 rfl
theorem ab_s28_13 : ab_Sn B 28 13 (ab_o_const 1 14) := ab_s_iconst (n := 1) ab_dk28_0.2.2.2.2.2.2.2.1 rfl
theorem ab_s28_14 : ab_Sn B 28 14 (ab_o_xst 1 15) := ab_s_bastore ab_dk28_0.2.2.2.2.2.2.2.2.1
theorem ab_s28_15 : ab_Sn B 28 15 (ab_o_ret) := ab_s_ret ab_dk28_0.2.2.2.2.2.2.2.2.2.1 rfl
set_option maxRecDepth 20000 in
theorem ab_sn28 : ab_all B 28 0 (ab_c28) := ⟨ab_s28_0, ab_s28_1, ab_s28_2, trivial, trivial, ab_s28_5, trivial, trivial, ab_s28_8, ab_s28_9, trivial, trivial, ab_s28_12, ab_s28_13, ab_s28_14, ab_s28_15, trivial⟩
theorem ab_dk29_0 : ab_dp 29 [(0, .aload_n 0, 1), (1, .iload_n 1, 1), (2, .invokevirtual 74, 3), (5, .ifCond .ne 4, 3), (8, .return_, 1), (9, .aload_n 0, 1), (10, .getfield 21, 3), (13, .iload_n 1, 1), (14, .iconst 0, 1), (15, .bastore, 1), (16, .aload_n 0, 1), (17, .getfield 25, 3), (20, .iload_n 1, 1), (21, .dup2, 1), (22, .iaload, 1), (23, .iconst 1, 1)] := ab_da (by decide +kernel)
theorem ab_dk29_1 : ab_dp 29 [(24, .iadd, 1), (25, .iastore, 1), (26, .iconst 0, 1), (27, .istore_n 2, 1), (28, .iload_n 2, 1), (29, .aload_n 0, 1), (30, .getfield 32, 3), (33, .if_icmp .ge 35, 3), (36, .aload_n 0, 1), (37, .iload_n 1, 1), (38, .iload_n 2, 1), (39, .invokevirtual 50, 3), (42, .istore_n 3, 1), (43, .iload_n 3, 1), (44, .iconst (-1), 1), (45, .if_icmp .eq 17, 3)] := ab_da (by decide +kernel)
theorem ab_dk29_2 : ab_dp 29 [(48, .aload_n 0, 1), (49, .getfield 9, 3), (52, .iload_n 3, 1), (53, .iconst 0, 1), (54, .iastore, 1), (55, .aload_n 0, 1), (56, .getfield 15, 3), (59, .iload_n 3, 1), (60, .iconst (-1), 1), (61, .iastore, 1), (62, .iinc 2 1, 3), (65, .goto (-37), 3), (68, .return_, 1)] := ab_da (by decide +kernel)
theorem ab_s29_0 : ab_Sn B 29 0 (ab_o_ald 0 1) := ab_s_aload_n (k := 0) (n := 0) ab_dk29_0.1 rfl
theorem ab_s29_1 : ab_Sn B 29 1 (ab_o_ild 1 2) := ab_s_iload_n (k := 1) (n := 1) ab_dk29_0.2.1 rfl
theorem ab_s29_2 : ab_Sn B 29 2 (ab_o_call (some (4, 7)) [] 2 2 2 true 5) := ab_s_callV (M' := 2) (na := 1) (i := 74) (ci := 0) (N := 7) (C := RX0) (T := TX0) (v := true) (ab_hok_n (by decide +kernel)) (by decide +kernel) ab_dk29_0.2.2.1 rfl (by decide) (by decide +kernel) (by decide +kernel) (by decide) wf_57 wf_58 wf_59 wf_60 wf_15
theorem ab_s29_5 : ab_Sn B 29 5 (ab_o_if ab_ne 9 8) := ab_s_if_ne (tg := 9) (off := 4) ab_dk29_0.2.2.2.1 (by decide)
theorem ab_s29_8 : ab_Sn B 29 8 (ab_o_ret) := ab_s_ret ab_dk29_0.2.2.2.2.1 rfl
theorem ab_s29_9 : ab_Sn B 29 9 (ab_o_ald 0 10) := ab_s_aload_n (k := 0) (n := 0) ab_dk29_0.2.2.2.2.2.1 rfl
theorem ab_s29_10 : ab_Sn B 29 10 (ab_o_getr 4 7 5 13) := ab_s_getr (i := 21) (ci := 0) (N := 7) (k := 5) (C := RX0) (T := TX0) ab_dk29_0.2.2.2.2.2.2.1 rfl (by decide) rfl wf_8
theorem ab_s29_13 : ab_Sn B 29 13 (ab_o_ild 1 14) := ab_s_iload_n (k := 1) (n := 1) ab_dk29_0.2.2.2.2.2.2.2.1 rfl
theorem ab_s29_14 : ab_Sn B 29 14 (ab_o_const 0 15) := ab_s_iconst (n := 0) ab_dk29_0.2.2.2.2.2.2.2.2.1 rfl
theorem ab_s29_15 : ab_Sn B 29 15 (ab_o_xst 1 16) := ab_s_bastore ab_dk29_0.2.2.2.2.2.2.2.2.2.1
theorem ab_s29_16 : ab_Sn B 29 16 (ab_o_ald 0 17) := ab_s_aload_n (k := 0) (n := 0) ab_dk29_0.2.2.2.2.2.2.2.2.2.2.1 rfl
theorem ab_s29_17 : ab_Sn B 29 17 (ab_o_getr 4 7 6 20) := ab_s_getr (i := 25) (ci := 0) (N := 7) (k := 6) (C := RX0) (T := TX0) ab_dk29_0.2.2.2.2.2.2.2.2.2.2.2.1 rfl (by decide) rfl wf_9
theorem ab_s29_20 : ab_Sn B 29 20 (ab_o_ild 1 21) := ab_s_iload_n (k := 1) (n := 1) ab_dk29_0.2.2.2.2.2.2.2.2.2.2.2.2.1 rfl
theorem ab_s29_21 : ab_Sn B 29 21 (ab_o_dup2 22) := ab_s_dup2 ab_dk29_0.2.2.2.2.2.2.2.2.2.2.2.2.2.1
theorem ab_s29_22 : ab_Sn B 29 22 (ab_o_xld 0 23) := ab_s_iaload ab_dk29_0.2.2.2.2.2.2.2.2.2.2.2.2.2.2.1
theorem ab_s29_23 : ab_Sn B 29 23 (ab_o_const 1 24) := ab_s_iconst (n := 1) ab_dk29_0.2.2.2.2.2.2.2.2.2.2.2.2.2.2.2.1 rfl
theorem ab_s29_24 : ab_Sn B 29 24 (ab_o_bin (fun a b => a + b) 25) := ab_s_iadd ab_dk29_1.1
theorem ab_s29_25 : ab_Sn B 29 25 (ab_o_xst 0 26) := ab_s_iastore ab_dk29_1.2.1
theorem ab_s29_26 : ab_Sn B 29 26 (ab_o_const 0 27) := ab_s_iconst (n := 0) ab_dk29_1.2.2.1 rfl
theorem ab_s29_27 : ab_Sn B 29 27 (ab_o_ist 2 28) := ab_s_istore_n (k := 2) (n := 2) ab_dk29_1.2.2.2.1 rfl
theorem ab_s29_28 : ab_Sn B 29 28 (ab_o_ild 2 29) := ab_s_iload_n (k := 2) (n := 2) ab_dk29_1.2.2.2.2.1 rfl
theorem ab_s29_29 : ab_Sn B 29 29 (ab_o_ald 0 30) := ab_s_aload_n (k := 0) (n := 0) ab_dk29_1.2.2.2.2.2.1 rfl
theorem ab_s29_30 : ab_Sn B 29 30 (ab_o_geti 4 7 1 33) := ab_s_geti (i := 32) (ci := 0) (N := 7) (k := 1) (C := RX0) (T := TX0) ab_dk29_1.2.2.2.2.2.2.1 rfl (by decide) rfl wf_11
theorem ab_s29_33 : ab_Sn B 29 33 (ab_o_icmp ab_ge 68 36) := ab_s_icmp_ge (tg := 68) (off := 35) ab_dk29_1.2.2.2.2.2.2.2.1 (by decide)
theorem ab_s29_36 : ab_Sn B 29 36 (ab_o_ald 0 37) := ab_s_aload_n (k := 0) (n := 0) ab_dk29_1.2.2.2.2.2.2.2.2.1 rfl
theorem ab_s29_37 : ab_Sn B 29 37 (ab_o_ild 1 38) := ab_s_iload_n (k := 1) (n := 1) ab_dk29_1.2.2.2.2.2.2.2.2.2.1 rfl
theorem ab_s29_38 : ab_Sn B 29 38 (ab_o_ild 2 39) := ab_s_iload_n (k := 2) (n := 2) ab_dk29_1.2.2.2.2.2.2.2.2.2.2.1 rfl
theorem ab_s29_39 : ab_Sn B 29 39 (ab_o_call (some (4, 7)) [] 35 4 3 true 42) := ab_s_callV (M' := 35) (na := 2) (i := 50) (ci := 0) (N := 7) (C := RX0) (T := TX0) (v := true) (ab_hok_n (by decide +kernel)) (by decide +kernel) ab_dk29_1.2.2.2.2.2.2.2.2.2.2.2.1 rfl (by decide) (by decide +kernel) (by decide +kernel) (by decide) wf_29 wf_30 wf_31 wf_32 wf_15
theorem ab_s29_42 : ab_Sn B 29 42 (ab_o_ist 3 43) := ab_s_istore_n (k := 3) (n := 3) ab_dk29_1.2.2.2.2.2.2.2.2.2.2.2.2.1 rfl
theorem ab_s29_43 : ab_Sn B 29 43 (ab_o_ild 3 44) := ab_s_iload_n (k := 3) (n := 3) ab_dk29_1.2.2.2.2.2.2.2.2.2.2.2.2.2.1 rfl
theorem ab_s29_44 : ab_Sn B 29 44 (ab_o_const (-1) 45) := ab_s_iconst (n := (-1)) ab_dk29_1.2.2.2.2.2.2.2.2.2.2.2.2.2.2.1 rfl
theorem ab_s29_45 : ab_Sn B 29 45 (ab_o_icmp ab_eq 62 48) := ab_s_icmp_eq (tg := 62) (off := 17) ab_dk29_1.2.2.2.2.2.2.2.2.2.2.2.2.2.2.2.1 (by decide)
theorem ab_s29_48 : ab_Sn B 29 48 (ab_o_ald 0 49) := ab_s_aload_n (k := 0) (n := 0) ab_dk29_2.1 rfl
theorem ab_s29_49 : ab_Sn B 29 49 (ab_o_getr 4 7 2 52) := ab_s_getr (i := 9) (ci := 0) (N := 7) (k := 2) (C := RX0) (T := TX0) ab_dk29_2.2.1 rfl (by decide) rfl wf_4
theorem ab_s29_52 : ab_Sn B 29 52 (ab_o_ild 3 53) := ab_s_iload_n (k := 3) (n := 3) ab_dk29_2.2.2.1 rfl
theorem ab_s29_53 : ab_Sn B 29 53 (ab_o_const 0 54) := ab_s_iconst (n := 0) ab_dk29_2.2.2.2.1 rfl
theorem ab_s29_54 : ab_Sn B 29 54 (ab_o_xst 0 55) := ab_s_iastore ab_dk29_2.2.2.2.2.1
theorem ab_s29_55 : ab_Sn B 29 55 (ab_o_ald 0 56) := ab_s_aload_n (k := 0) (n := 0) ab_dk29_2.2.2.2.2.2.1 rfl
theorem ab_s29_56 : ab_Sn B 29 56 (ab_o_getr 4 7 3 59) := ab_s_getr (i := 15) (ci := 0) (N := 7) (k := 3) (C := RX0) (T := TX0) ab_dk29_2.2.2.2.2.2.2.1 rfl (by decide) rfl wf_5
theorem ab_s29_59 : ab_Sn B 29 59 (ab_o_ild 3 60) := ab_s_iload_n (k := 3) (n := 3) ab_dk29_2.2.2.2.2.2.2.2.1 rfl
theorem ab_s29_60 : ab_Sn B 29 60 (ab_o_const (-1) 61) := ab_s_iconst (n := (-1)) ab_dk29_2.2.2.2.2.2.2.2.2.1 rfl
theorem ab_s29_61 : ab_Sn B 29 61 (ab_o_xst 0 62) := ab_s_iastore ab_dk29_2.2.2.2.2.2.2.2.2.2.1
theorem ab_s29_62 : ab_Sn B 29 62 (ab_o_inc 2 1 65) := ab_s_iinc (k := 2) (n := 1) ab_dk29_2.2.2.2.2.2.2.2.2.2.2.1
theorem ab_s29_65 : ab_Sn B 29 65 (ab_o_goto 28) := ab_s_goto (tg := 28) (off := -37) ab_dk29_2.2.2.2.2.2.2.2.2.2.2.2.1 (by decide)
theorem ab_s29_68 : ab_Sn B 29 68 (ab_o_ret) := ab_s_ret ab_dk29_2.2.2.2.2.2.2.2.2.2.2.2.2.1 rfl
set_option maxRecDepth 20000 in
theorem ab_sn29 : ab_all B 29 0 (ab_c29) := ⟨ab_s29_0, ab_s29_1, ab_s29_2, trivial, trivial, ab_s29_5, trivial, trivial, ab_s29_8, ab_s29_9, ab_s29_10, trivial, trivial, ab_s29_13, ab_s29_14, ab_s29_15, ab_s29_16, ab_s29_17, trivial, trivial, ab_s29_20, ab_s29_21, ab_s29_22, ab_s29_23, ab_s29_24, ab_s29_25, ab_s29_26, ab_s29_27, ab_s29_28, ab_s29_29, ab_s29_30, trivial, trivial, ab_s29_33, trivial, trivial, ab_s29_36, ab_s29_37, ab_s29_38, ab_s29_39, trivial, trivial, ab_s29_42, ab_s29_43, ab_s29_44, ab_s29_45, trivial, trivial, ab_s29_48, ab_s29_49, trivial, trivial, ab_s29_52, ab_s29_53, ab_s29_54, ab_s29_55, ab_s29_56, trivial, trivial, ab_s29_59, ab_s29_60, ab_s29_61, ab_s29_62, trivial, trivial, ab_s29_65, trivial, trivial, ab_s29_68, trivial⟩
theorem ab_dk30_0 : ab_dp 30 [(0, .aload_n 0, 1), (1, .iload_n 1, 1), (2, .iload_n 2, 1), (3, .invokevirtual 50, 3), (6, .istore 4, 2), (8, .iload 4, 2), (10, .iconst (-1), 1), (11, .if_icmp .eq 14, 3), (14, .aload_n 0, 1), (15, .getfield 9, 3), (18, .iload 4, 2), (20, .dup2, 1), (21, .iaload, 1), (22, .iload_n 3, 1), (23, .ixor, 1), (24, .iastore, 1)] := ab_da (by decide +kernel)
theorem ab_dk30_1 : ab_dp 30 [(25, .return_, 1)] := ab_da (by decide +kernel)
theorem ab_s30_0 : ab_Sn B 30 0 (ab_o_ald 0 1) := ab_s_aload_n (k := 0) (n := 0) ab_dk30_0.1 rfl
theorem ab_s30_1 : ab_Sn B 30 1 (ab_o_ild 1 2) := ab_s_iload_n (k := 1) (n := 1) ab_dk30_0.2.1 rfl
theorem ab_s30_2 : ab_Sn B 30 2 (ab_o_ild 2 3) := ab_s_iload_n (k := 2) (n := 2) ab_dk30_0.2.2.1 rfl
theorem ab_s30_3 : ab_Sn B 30 3 (ab_o_call (some (4, 7)) [] 35 4 3 true 6) := ab_s_callV (M' := 35) (na := 2) (i := 50) (ci := 0) (N := 7) (C := RX0) (T := TX0) (v := true) (ab_hok_n (by decide +kernel)) (by decide +kernel) ab_dk30_0.2.2.2.1 rfl (by decide) (by decide +kernel) (by decide +kernel) (by decide) wf_29 wf_30 wf_31 wf_32 wf_15
theorem ab_s30_6 : ab_Sn B 30 6 (ab_o_ist 4 8) := ab_s_istore (k := 4) ab_dk30_0.2.2.2.2.1
theorem ab_s30_8 : ab_Sn B 30 8 (ab_o_ild 4 10) := ab_s_iload (k := 4) ab_dk30_0.2.2.2.2.2.1
theorem ab_s30_10 : ab_Sn B 30 10 (ab_o_const (-1) 11) := ab_s_iconst (n := (-1)) ab_dk30_0.2.2.2.2.2.2.1 rfl
theorem ab_s30_11 : ab_Sn B 30 11 (ab_o_icmp ab_eq 25 14) := ab_s_icmp_eq (tg := 25) (off := 14) ab_dk30_0.2.2.2.2.2.2.2.1 (by decide)
theorem ab_s30_14 : ab_Sn B 30 14 (ab_o_ald 0 15) := ab_s_aload_n (k := 0) (n := 0) ab_dk30_0.2.2.2.2.2.2.2.2.1 rfl
theorem ab_s30_15 : ab_Sn B 30 15 (ab_o_getr 4 7 2 18) := ab_s_getr (i := 9) (ci := 0) (N := 7) (k := 2) (C := RX0) (T := TX0) ab_dk30_0.2.2.2.2.2.2.2.2.2.1 rfl (by decide) rfl wf_4
theorem ab_s30_18 : ab_Sn B 30 18 (ab_o_ild 4 20) := ab_s_iload (k := 4) ab_dk30_0.2.2.2.2.2.2.2.2.2.2.1
theorem ab_s30_20 : ab_Sn B 30 20 (ab_o_dup2 21) := ab_s_dup2 ab_dk30_0.2.2.2.2.2.2.2.2.2.2.2.1
theorem ab_s30_21 : ab_Sn B 30 21 (ab_o_xld 0 22) := ab_s_iaload ab_dk30_0.2.2.2.2.2.2.2.2.2.2.2.2.1
theorem ab_s30_22 : ab_Sn B 30 22 (ab_o_ild 3 23) := ab_s_iload_n (k := 3) (n := 3) ab_dk30_0.2.2.2.2.2.2.2.2.2.2.2.2.2.1 rfl
theorem ab_s30_23 : ab_Sn B 30 23 (ab_o_bin ab_ixor 24) := ab_s_ixor ab_dk30_0.2.2.2.2.2.2.2.2.2.2.2.2.2.2.1
theorem ab_s30_24 : ab_Sn B 30 24 (ab_o_xst 0 25) := ab_s_iastore ab_dk30_0.2.2.2.2.2.2.2.2.2.2.2.2.2.2.2.1
theorem ab_s30_25 : ab_Sn B 30 25 (ab_o_ret) := ab_s_ret ab_dk30_1.1 rfl
set_option maxRecDepth 20000 in
theorem ab_sn30 : ab_all B 30 0 (ab_c30) := ⟨ab_s30_0, ab_s30_1, ab_s30_2, ab_s30_3, trivial, trivial, ab_s30_6, trivial, ab_s30_8, trivial, ab_s30_10, ab_s30_11, trivial, trivial, ab_s30_14, ab_s30_15, trivial, trivial, ab_s30_18, trivial, ab_s30_20, ab_s30_21, ab_s30_22, ab_s30_23, ab_s30_24, ab_s30_25, trivial⟩
theorem ab_dk31_0 : ab_dp 31 [(0, .aload_n 0, 1), (1, .aload_n 0, 1), (2, .iload_n 1, 1), (3, .invokevirtual 77, 3), (6, .aload_n 0, 1), (7, .iload_n 1, 1), (8, .invokevirtual 43, 3), (11, .invokevirtual 50, 3), (14, .istore_n 3, 1), (15, .iload_n 3, 1), (16, .iconst (-1), 1), (17, .if_icmp .eq 10, 3), (20, .aload_n 0, 1), (21, .getfield 18, 3), (24, .iload_n 3, 1), (25, .iload_n 2, 1)] := ab_da (by decide +kernel)
theorem ab_dk31_1 : ab_dp 31 [(26, .iastore, 1), (27, .return_, 1)] := ab_da (by decide +kernel)
theorem ab_s31_0 : ab_Sn B 31 0 (ab_o_ald 0 1) := ab_s_aload_n (k := 0) (n := 0) ab_dk31_0.1 rfl
theorem ab_s31_1 : ab_Sn B 31 1 (ab_o_ald 0 2) := ab_s_aload_n (k := 0) (n := 0) ab_dk31_0.2.1 rfl
theorem ab_s31_2 : ab_Sn B 31 2 (ab_o_ild 1 3) := ab_s_iload_n (k := 1) (n := 1) ab_dk31_0.2.2.1 rfl
theorem ab_s31_3 : ab_Sn B 31 3 (ab_o_call (some (4, 7)) [] 7 3 2 true 6) := ab_s_callV (M' := 7) (na := 1) (i := 77) (ci := 0) (N := 7) (C := RX0) (T := TX0) (v := true) (ab_hok_n (by decide +kernel)) (by decide +kernel) ab_dk31_0.2.2.2.1 rfl (by decide) (by decide +kernel) (by decide +kernel) (by decide) wf_61 wf_62 wf_63 wf_64 wf_15
theorem ab_s31_6 : ab_Sn B 31 6 (ab_o_ald 0 7) := ab_s_aload_n (k := 0) (n := 0) ab_dk31_0.2.2.2.2.1 rfl
theorem ab_s31_7 : ab_Sn B 31 7 (ab_o_ild 1 8) := ab_s_iload_n (k := 1) (n := 1) ab_dk31_0.2.2.2.2.2.1 rfl
theorem ab_s31_8 : ab_Sn B 31 8 (ab_o_call (some (4, 7)) [] 6 2 2 true 11) := ab_s_callV (M' := 6) (na := 1) (i := 43) (ci := 0) (N := 7) (C := RX0) (T := TX0) (v := true) (ab_hok_n (by decide +kernel)) (by decide +kernel) ab_dk31_0.2.2.2.2.2.2.1 rfl (by decide) (by decide +kernel) (by decide +kernel) (by decide) wf_21 wf_22 wf_23 wf_24 wf_15
theorem ab_s31_11 : ab_Sn B 31 11 (ab_o_call (some (4, 7)) [] 35 4 3 true 14) := ab_s_callV (M' := 35) (na := 2) (i := 50) (ci := 0) (N := 7) (C := RX0) (T := TX0) (v := true) (ab_hok_n (by decide +kernel)) (by decide +kernel) ab_dk31_0.2.2.2.2.2.2.2.1 rfl (by decide) (by decide +kernel) (by decide +kernel) (by decide) wf_29 wf_30 wf_31 wf_32 wf_15
theorem ab_s31_14 : ab_Sn B 31 14 (ab_o_ist 3 15) := ab_s_istore_n (k := 3) (n := 3) ab_dk31_0.2.2.2.2.2.2.2.2.1 rfl
theorem ab_s31_15 : ab_Sn B 31 15 (ab_o_ild 3 16) := ab_s_iload_n (k := 3) (n := 3) ab_dk31_0.2.2.2.2.2.2.2.2.2.1 rfl
theorem ab_s31_16 : ab_Sn B 31 16 (ab_o_const (-1) 17) := ab_s_iconst (n := (-1)) ab_dk31_0.2.2.2.2.2.2.2.2.2.2.1 rfl
theorem ab_s31_17 : ab_Sn B 31 17 (ab_o_icmp ab_eq 27 20) := ab_s_icmp_eq (tg := 27) (off := 10) ab_dk31_0.2.2.2.2.2.2.2.2.2.2.2.1 (by decide)
theorem ab_s31_20 : ab_Sn B 31 20 (ab_o_ald 0 21) := ab_s_aload_n (k := 0) (n := 0) ab_dk31_0.2.2.2.2.2.2.2.2.2.2.2.2.1 rfl
theorem ab_s31_21 : ab_Sn B 31 21 (ab_o_getr 4 7 4 24) := ab_s_getr (i := 18) (ci := 0) (N := 7) (k := 4) (C := RX0) (T := TX0) ab_dk31_0.2.2.2.2.2.2.2.2.2.2.2.2.2.1 rfl (by decide) rfl wf_6
theorem ab_s31_24 : ab_Sn B 31 24 (ab_o_ild 3 25) := ab_s_iload_n (k := 3) (n := 3) ab_dk31_0.2.2.2.2.2.2.2.2.2.2.2.2.2.2.1 rfl
theorem ab_s31_25 : ab_Sn B 31 25 (ab_o_ild 2 26) := ab_s_iload_n (k := 2) (n := 2) ab_dk31_0.2.2.2.2.2.2.2.2.2.2.2.2.2.2.2.1 rfl
theorem ab_s31_26 : ab_Sn B 31 26 (ab_o_xst 0 27) := ab_s_iastore ab_dk31_1.1
theorem ab_s31_27 : ab_Sn B 31 27 (ab_o_ret) := ab_s_ret ab_dk31_1.2.1 rfl
set_option maxRecDepth 20000 in
theorem ab_sn31 : ab_all B 31 0 (ab_c31) := ⟨ab_s31_0, ab_s31_1, ab_s31_2, ab_s31_3, trivial, trivial, ab_s31_6, ab_s31_7, ab_s31_8, trivial, trivial, ab_s31_11, trivial, trivial, ab_s31_14, ab_s31_15, ab_s31_16, ab_s31_17, trivial, trivial, ab_s31_20, ab_s31_21, trivial, trivial, ab_s31_24, ab_s31_25, ab_s31_26, ab_s31_27, trivial⟩
theorem ab_dk32_0 : ab_dp 32 [(0, .aload_n 0, 1), (1, .iload_n 1, 1), (2, .invokevirtual 47, 3), (5, .istore_n 2, 1), (6, .iconst 0, 1), (7, .istore_n 3, 1), (8, .iconst 0, 1), (9, .istore 4, 2), (11, .iconst 0, 1), (12, .istore 5, 2), (14, .iload 5, 2), (16, .aload_n 0, 1), (17, .getfield 28, 3), (20, .if_icmp .ge 70, 3), (23, .iload 5, 2), (25, .iload_n 2, 1)] := ab_da (by decide +kernel)
theorem ab_dk32_1 : ab_dp 32 [(26, .if_icmp .ne 6, 3), (29, .goto 55, 3), (32, .aload_n 0, 1), (33, .iload 5, 2), (35, .iload_n 1, 1), (36, .invokevirtual 61, 3), (39, .ifCond .eq 33, 3), (42, .iload_n 3, 1), (43, .iconst 1, 1), (44, .iload 5, 2), (46, .ishl, 1), (47, .ior, 1), (48, .istore_n 3, 1), (49, .aload_n 0, 1), (50, .aload_n 0, 1), (51, .iload 5, 2)] := ab_da (by decide +kernel)
theorem ab_dk32_2 : ab_dp 32 [(53, .iload_n 1, 1), (54, .invokevirtual 80, 3), (57, .iconst 0, 1), (58, .invokevirtual 83, 3), (61, .aload_n 0, 1), (62, .iload 5, 2), (64, .iload_n 1, 1), (65, .iconst 0, 1), (66, .invokevirtual 35, 3), (69, .goto 15, 3), (72, .iload 4, 2), (74, .aload_n 0, 1), (75, .iload 5, 2), (77, .iload_n 1, 1), (78, .invokevirtual 68, 3), (81, .ixor, 1)] := ab_da (by decide +kernel)
theorem ab_dk32_3 : ab_dp 32 [(82, .istore 4, 2), (84, .iinc 5 1, 3), (87, .goto (-73), 3), (90, .aload_n 0, 1), (91, .iload_n 2, 1), (92, .iload_n 1, 1), (93, .iload 4, 2), (95, .invokevirtual 35, 3), (98, .iload_n 3, 1), (99, .ireturn, 1)] := ab_da (by decide +kernel)
theorem ab_s32_0 : ab_Sn B 32 0 (ab_o_ald 0 1) := ab_s_aload_n (k := 0) (n := 0) ab_dk32_0.1 rfl
theorem ab_s32_1 : ab_Sn B 32 1 (ab_o_ild 1 2) := ab_s_iload_n (k := 1) (n := 1) ab_dk32_0.2.1 rfl
theorem ab_s32_2 : ab_Sn B 32 2 (ab_o_call (some (4, 7)) [] 9 2 2 true 5) := ab_s_callV (M' := 9) (na := 1) (i := 47) (ci := 0) (N := 7) (C := RX0) (T := TX0) (v := true) (ab_hok_n (by decide +kernel)) (by decide +kernel) ab_dk32_0.2.2.1 rfl (by decide) (by decide +kernel) (by decide +kernel) (by decide) wf_25 wf_26 wf_27 wf_28 wf_15
theorem ab_s32_5 : ab_Sn B 32 5 (ab_o_ist 2 6) := ab_s_istore_n (k := 2) (n := 2) ab_dk32_0.2.2.2.1 rfl
theorem ab_s32_6 : ab_Sn B 32 6 (ab_o_const 0 7) := ab_s_iconst (n := 0) ab_dk32_0.2.2.2.2.1 rfl
theorem ab_s32_7 : ab_Sn B 32 7 (ab_o_ist 3 8) := ab_s_istore_n (k := 3) (n := 3) ab_dk32_0.2.2.2.2.2.1 rfl
theorem ab_s32_8 : ab_Sn B 32 8 (ab_o_const 0 9) := ab_s_iconst (n := 0) ab_dk32_0.2.2.2.2.2.2.1 rfl
theorem ab_s32_9 : ab_Sn B 32 9 (ab_o_ist 4 11) := ab_s_istore (k := 4) ab_dk32_0.2.2.2.2.2.2.2.1
theorem ab_s32_11 : ab_Sn B 32 11 (ab_o_const 0 12) := ab_s_iconst (n := 0) ab_dk32_0.2.2.2.2.2.2.2.2.1 rfl
theorem ab_s32_12 : ab_Sn B 32 12 (ab_o_ist 5 14) := ab_s_istore (k := 5) ab_dk32_0.2.2.2.2.2.2.2.2.2.1
theorem ab_s32_14 : ab_Sn B 32 14 (ab_o_ild 5 16) := ab_s_iload (k := 5) ab_dk32_0.2.2.2.2.2.2.2.2.2.2.1
theorem ab_s32_16 : ab_Sn B 32 16 (ab_o_ald 0 17) := ab_s_aload_n (k := 0) (n := 0) ab_dk32_0.2.2.2.2.2.2.2.2.2.2.2.1 rfl
theorem ab_s32_17 : ab_Sn B 32 17 (ab_o_geti 4 7 0 20) := ab_s_geti (i := 28) (ci := 0) (N := 7) (k := 0) (C := RX0) (T := TX0) ab_dk32_0.2.2.2.2.2.2.2.2.2.2.2.2.1 rfl (by decide) rfl wf_10
theorem ab_s32_20 : ab_Sn B 32 20 (ab_o_icmp ab_ge 90 23) := ab_s_icmp_ge (tg := 90) (off := 70) ab_dk32_0.2.2.2.2.2.2.2.2.2.2.2.2.2.1 (by decide)
theorem ab_s32_23 : ab_Sn B 32 23 (ab_o_ild 5 25) := ab_s_iload (k := 5) ab_dk32_0.2.2.2.2.2.2.2.2.2.2.2.2.2.2.1
theorem ab_s32_25 : ab_Sn B 32 25 (ab_o_ild 2 26) := ab_s_iload_n (k := 2) (n := 2) ab_dk32_0.2.2.2.2.2.2.2.2.2.2.2.2.2.2.2.1 rfl
theorem ab_s32_26 : ab_Sn B 32 26 (ab_o_icmp ab_ne 32 29) := ab_s_icmp_ne (tg := 32) (off := 6) ab_dk32_1.1 (by decide)
theorem ab_s32_29 : ab_Sn B 32 29 (ab_o_goto 84) := ab_s_goto (tg := 84) (off := 55) ab_dk32_1.2.1 (by decide)
theorem ab_s32_32 : ab_Sn B 32 32 (ab_o_ald 0 33) := ab_s_aload_n (k := 0) (n := 0) ab_dk32_1.2.2.1 rfl
theorem ab_s32_33 : ab_Sn B 32 33 (ab_o_ild 5 35) := ab_s_iload (k := 5) ab_dk32_1.2.2.2.1
theorem ab_s32_35 : ab_Sn B 32 35 (ab_o_ild 1 36) := ab_s_iload_n (k := 1) (n := 1) ab_dk32_1.2.2.2.2.1 rfl
theorem ab_s32_36 : ab_Sn B 32 36 (ab_o_call (some (4, 7)) [] 15 4 3 true 39) := ab_s_callV (M' := 15) (na := 2) (i := 61) (ci := 0) (N := 7) (C := RX0) (T := TX0) (v := true) (ab_hok_n (by decide +kernel)) (by decide +kernel) ab_dk32_1.2.2.2.2.2.1 rfl (by decide) (by decide +kernel) (by decide +kernel) (by decide) wf_41 wf_42 wf_43 wf_44 wf_15
theorem ab_s32_39 : ab_Sn B 32 39 (ab_o_if ab_eq 72 42) := ab_s_if_eq (tg := 72) (off := 33) ab_dk32_1.2.2.2.2.2.2.1 (by decide)
theorem ab_s32_42 : ab_Sn B 32 42 (ab_o_ild 3 43) := ab_s_iload_n (k := 3) (n := 3) ab_dk32_1.2.2.2.2.2.2.2.1 rfl
theorem ab_s32_43 : ab_Sn B 32 43 (ab_o_const 1 44) := ab_s_iconst (n := 1) ab_dk32_1.2.2.2.2.2.2.2.2.1 rfl
theorem ab_s32_44 : ab_Sn B 32 44 (ab_o_ild 5 46) := ab_s_iload (k := 5) ab_dk32_1.2.2.2.2.2.2.2.2.2.1
theorem ab_s32_46 : ab_Sn B 32 46 (ab_o_bin ab_ishl 47) := ab_s_ishl ab_dk32_1.2.2.2.2.2.2.2.2.2.2.1
theorem ab_s32_47 : ab_Sn B 32 47 (ab_o_bin ab_ior 48) := ab_s_ior ab_dk32_1.2.2.2.2.2.2.2.2.2.2.2.1
theorem ab_s32_48 : ab_Sn B 32 48 (ab_o_ist 3 49) := ab_s_istore_n (k := 3) (n := 3) ab_dk32_1.2.2.2.2.2.2.2.2.2.2.2.2.1 rfl
theorem ab_s32_49 : ab_Sn B 32 49 (ab_o_ald 0 50) := ab_s_aload_n (k := 0) (n := 0) ab_dk32_1.2.2.2.2.2.2.2.2.2.2.2.2.2.1 rfl
theorem ab_s32_50 : ab_Sn B 32 50 (ab_o_ald 0 51) := ab_s_aload_n (k := 0) (n := 0) ab_dk32_1.2.2.2.2.2.2.2.2.2.2.2.2.2.2.1 rfl
theorem ab_s32_51 : ab_Sn B 32 51 (ab_o_ild 5 53) := ab_s_iload (k := 5) ab_dk32_1.2.2.2.2.2.2.2.2.2.2.2.2.2.2.2.1
theorem ab_s32_53 : ab_Sn B 32 53 (ab_o_ild 1 54) := ab_s_iload_n (k := 1) (n := 1) ab_dk32_2.1 rfl
theorem ab_s32_54 : ab_Sn B 32 54 (ab_o_call (some (4, 7)) [] 8 4 3 true 57) := ab_s_callV (M' := 8) (na := 2) (i := 80) (ci := 0) (N := 7) (C := RX0) (T := TX0) (v := true) (ab_hok_n (by decide +kernel)) (by decide +kernel) ab_dk32_2.2.1 rfl (by decide) (by decide +kernel) (by decide +kernel) (by decide) wf_65 wf_66 wf_67 wf_68 wf_15
theorem ab_s32_57 : ab_Sn B 32 57 (ab_o_const 0 58) := ab_s_iconst (n := 0) ab_dk32_2.2.2.1 rfl
theorem ab_s32_58 : ab_Sn B 32 58 (ab_o_call (some (4, 7)) [] 31 4 3 false 61) := ab_s_callV (M' := 31) (na := 2) (i := 83) (ci := 0) (N := 7) (C := RX0) (T := TX0) (v := false) (ab_hok_n (by decide +kernel)) (by decide +kernel) ab_dk32_2.2.2.2.1 rfl (by decide) (by decide +kernel) (by decide +kernel) (by decide) wf_69 wf_70 wf_71 wf_72 wf_15
theorem ab_s32_61 : ab_Sn B 32 61 (ab_o_ald 0 62) := ab_s_aload_n (k := 0) (n := 0) ab_dk32_2.2.2.2.2.1 rfl
theorem ab_s32_62 : ab_Sn B 32 62 (ab_o_ild 5 64) := ab_s_iload (k := 5) ab_dk32_2.2.2.2.2.2.1
theorem ab_s32_64 : ab_Sn B 32 64 (ab_o_ild 1 65) := ab_s_iload_n (k := 1) (n := 1) ab_dk32_2.2.2.2.2.2.2.1 rfl
theorem ab_s32_65 : ab_Sn B 32 65 (ab_o_const 0 66) := ab_s_iconst (n := 0) ab_dk32_2.2.2.2.2.2.2.2.1 rfl
theorem ab_s32_66 : ab_Sn B 32 66 (ab_o_call (some (4, 7)) [] 26 5 4 false 69) := ab_s_callV (M' := 26) (na := 3) (i := 35) (ci := 0) (N := 7) (C := RX0) (T := TX0) (v := false) (ab_hok_n (by decide +kernel)) (by decide +kernel) ab_dk32_2.2.2.2.2.2.2.2.2.1 rfl (by decide) (by decide +kernel) (by decide +kernel) (by decide) wf_12 wf_13 wf_14 wf_16 wf_15
theorem ab_s32_69 : ab_Sn B 32 69 (ab_o_goto 84) := ab_s_goto (tg := 84) (off := 15) ab_dk32_2.2.2.2.2.2.2.2.2.2.1 (by decide)
theorem ab_s32_72 : ab_Sn B 32 72 (ab_o_ild 4 74) := ab_s_iload (k := 4) ab_dk32_2.2.2.2.2.2.2.2.2.2.2.1
theorem ab_s32_74 : ab_Sn B 32 74 (ab_o_ald 0 75) := ab_s_aload_n (k := 0) (n := 0) ab_dk32_2.2.2.2.2.2.2.2.2.2.2.2.1 rfl
theorem ab_s32_75 : ab_Sn B 32 75 (ab_o_ild 5 77) := ab_s_iload (k := 5) ab_dk32_2.2.2.2.2.2.2.2.2.2.2.2.2.1
theorem ab_s32_77 : ab_Sn B 32 77 (ab_o_ild 1 78) := ab_s_iload_n (k := 1) (n := 1) ab_dk32_2.2.2.2.2.2.2.2.2.2.2.2.2.2.1 rfl
theorem ab_s32_78 : ab_Sn B 32 78 (ab_o_call (some (4, 7)) [] 11 4 3 true 81) := ab_s_callV (M' := 11) (na := 2) (i := 68) (ci := 0) (N := 7) (C := RX0) (T := TX0) (v := true) (ab_hok_n (by decide +kernel)) (by decide +kernel) ab_dk32_2.2.2.2.2.2.2.2.2.2.2.2.2.2.2.1 rfl (by decide) (by decide +kernel) (by decide +kernel) (by decide) wf_49 wf_50 wf_51 wf_52 wf_15
theorem ab_s32_81 : ab_Sn B 32 81 (ab_o_bin ab_ixor 82) := ab_s_ixor ab_dk32_2.2.2.2.2.2.2.2.2.2.2.2.2.2.2.2.1
theorem ab_s32_82 : ab_Sn B 32 82 (ab_o_ist 4 84) := ab_s_istore (k := 4) ab_dk32_3.1
theorem ab_s32_84 : ab_Sn B 32 84 (ab_o_inc 5 1 87) := ab_s_iinc (k := 5) (n := 1) ab_dk32_3.2.1
theorem ab_s32_87 : ab_Sn B 32 87 (ab_o_goto 14) := ab_s_goto (tg := 14) (off := -73) ab_dk32_3.2.2.1 (by decide)
theorem ab_s32_90 : ab_Sn B 32 90 (ab_o_ald 0 91) := ab_s_aload_n (k := 0) (n := 0) ab_dk32_3.2.2.2.1 rfl
theorem ab_s32_91 : ab_Sn B 32 91 (ab_o_ild 2 92) := ab_s_iload_n (k := 2) (n := 2) ab_dk32_3.2.2.2.2.1 rfl
theorem ab_s32_92 : ab_Sn B 32 92 (ab_o_ild 1 93) := ab_s_iload_n (k := 1) (n := 1) ab_dk32_3.2.2.2.2.2.1 rfl
theorem ab_s32_93 : ab_Sn B 32 93 (ab_o_ild 4 95) := ab_s_iload (k := 4) ab_dk32_3.2.2.2.2.2.2.1
theorem ab_s32_95 : ab_Sn B 32 95 (ab_o_call (some (4, 7)) [] 26 5 4 false 98) := ab_s_callV (M' := 26) (na := 3) (i := 35) (ci := 0) (N := 7) (C := RX0) (T := TX0) (v := false) (ab_hok_n (by decide +kernel)) (by decide +kernel) ab_dk32_3.2.2.2.2.2.2.2.1 rfl (by decide) (by decide +kernel) (by decide +kernel) (by decide) wf_12 wf_13 wf_14 wf_16 wf_15
theorem ab_s32_98 : ab_Sn B 32 98 (ab_o_ild 3 99) := ab_s_iload_n (k := 3) (n := 3) ab_dk32_3.2.2.2.2.2.2.2.2.1 rfl
theorem ab_s32_99 : ab_Sn B 32 99 (ab_o_iret false) := ab_s_iret (b := false) (ty := .int) ab_dk32_3.2.2.2.2.2.2.2.2.2.1 rfl (Or.inl ⟨rfl, rfl⟩)
set_option maxRecDepth 20000 in
theorem ab_sn32 : ab_all B 32 0 (ab_c32) := ⟨ab_s32_0, ab_s32_1, ab_s32_2, trivial, trivial, ab_s32_5, ab_s32_6, ab_s32_7, ab_s32_8, ab_s32_9, trivial, ab_s32_11, ab_s32_12, trivial, ab_s32_14, trivial, ab_s32_16, ab_s32_17, trivial, trivial, ab_s32_20, trivial, trivial, ab_s32_23, trivial, ab_s32_25, ab_s32_26, trivial, trivial, ab_s32_29, trivial, trivial, ab_s32_32, ab_s32_33, trivial, ab_s32_35, ab_s32_36, trivial, trivial, ab_s32_39, trivial, trivial, ab_s32_42, ab_s32_43, ab_s32_44, trivial, ab_s32_46, ab_s32_47, ab_s32_48, ab_s32_49, ab_s32_50, ab_s32_51, trivial, ab_s32_53, ab_s32_54, trivial, trivial, ab_s32_57, ab_s32_58, trivial, trivial, ab_s32_61, ab_s32_62, trivial, ab_s32_64, ab_s32_65, ab_s32_66, trivial, trivial, ab_s32_69, trivial, trivial, ab_s32_72, trivial, ab_s32_74, ab_s32_75, trivial, ab_s32_77, ab_s32_78, trivial, trivial, ab_s32_81, ab_s32_82, trivial, ab_s32_84, trivial, trivial, ab_s32_87, trivial, trivial, ab_s32_90, ab_s32_91, ab_s32_92, ab_s32_93, trivial, ab_s32_95, trivial, trivial, ab_s32_98, ab_s32_99, trivial⟩
theorem ab_dk33_0 : ab_dp 33 [(0, .aload_n 0, 1), (1, .iload_n 1, 1), (2, .invokevirtual 47, 3), (5, .istore_n 2, 1), (6, .aload_n 0, 1), (7, .iload_n 1, 1), (8, .invokevirtual 65, 3), (11, .istore_n 3, 1), (12, .iload_n 3, 1), (13, .ifCond .ne 20, 3), (16, .aload_n 0, 1), (17, .iload_n 2, 1), (18, .iload_n 1, 1), (19, .invokevirtual 68, 3), (22, .aload_n 0, 1), (23, .iload_n 2, 1)] := ab_da (by decide +kernel)
theorem ab_dk33_1 : ab_dp 33 [(24, .iload_n 1, 1), (25, .invokevirtual 71, 3), (28, .if_icmp .eq 5, 3), (31, .iconst 0, 1), (32, .ireturn, 1), (33, .iconst 0, 1), (34, .istore 4, 2), (36, .iload 4, 2), (38, .aload_n 0, 1), (39, .getfield 28, 3), (42, .if_icmp .ge 76, 3), (45, .aload_n 0, 1), (46, .iload 4, 2), (48, .iload_n 1, 1), (49, .invokevirtual 50, 3), (52, .istore 5, 2)] := ab_da (by decide +kernel)
theorem ab_dk33_2 : ab_dp 33 [(54, .iload_n 3, 1), (55, .iconst 1, 1), (56, .if_icmp .le 17, 3), (59, .aload_n 0, 1), (60, .iload 4, 2), (62, .iload_n 1, 1), (63, .invokevirtual 61, 3), (66, .ifCond .eq 7, 3), (69, .iconst 1, 1), (70, .goto 4, 3), (73, .iconst 0, 1), (74, .istore 6, 2), (76, .iload 4, 2), (78, .iload_n 2, 1), (79, .if_icmp .eq 33, 3), (82, .iload 5, 2)] := ab_da (by decide +kernel)
theorem ab_dk33_3 : ab_dp 33 [(84, .iconst (-1), 1), (85, .if_icmp .eq 27, 3), (88, .iload 6, 2), (90, .ifCond .ne 22, 3), (93, .aload_n 0, 1), (94, .iload 4, 2), (96, .iload_n 1, 1), (97, .invokevirtual 87, 3), (100, .aload_n 0, 1), (101, .getfield 18, 3), (104, .iload 5, 2), (106, .iaload, 1), (107, .if_icmp .eq 5, 3), (110, .iconst 0, 1), (111, .ireturn, 1), (112, .iinc 4 1, 3)] := ab_da (by decide +kernel)
theorem ab_dk33_4 : ab_dp 33 [(115, .goto (-79), 3), (118, .iconst 1, 1), (119, .ireturn, 1)] := ab_da (by decide +kernel)
theorem ab_s33_0 : ab_Sn B 33 0 (ab_o_ald 0 1) := ab_s_aload_n (k := 0) (n := 0) ab_dk33_0.1 rfl
theorem ab_s33_1 : ab_Sn B 33 1 (ab_o_ild 1 2) := ab_s_iload_n (k := 1) (n := 1) ab_dk33_0.2.1 rfl
theorem ab_s33_2 : ab_Sn B 33 2 (ab_o_call (some (4, 7)) [] 9 2 2 true 5) := ab_s_callV (M' := 9) (na := 1) (i := 47) (ci := 0) (N := 7) (C := RX0) (T := TX0) (v := true) (ab_hok_n (by decide +kernel)) (by decide +kernel) ab_dk33_0.2.2.1 rfl (by decide) (by decide +kernel) (by decide +kernel) (by decide) wf_25 wf_26 wf_27 wf_28 wf_15
theorem ab_s33_5 : ab_Sn B 33 5 (ab_o_ist 2 6) := ab_s_istore_n (k := 2) (n := 2) ab_dk33_0.2.2.2.1 rfl
theorem ab_s33_6 : ab_Sn B 33 6 (ab_o_ald 0 7) := ab_s_aload_n (k := 0) (n := 0) ab_dk33_0.2.2.2.2.1 rfl
theorem ab_s33_7 : ab_Sn B 33 7 (ab_o_ild 1 8) := ab_s_iload_n (k := 1) (n := 1) ab_dk33_0.2.2.2.2.2.1 rfl
theorem ab_s33_8 : ab_Sn B 33 8 (ab_o_call (some (4, 7)) [] 17 4 2 true 11) := ab_s_callV (M' := 17) (na := 1) (i := 65) (ci := 0) (N := 7) (C := RX0) (T := TX0) (v := true) (ab_hok_n (by decide +kernel)) (by decide +kernel) ab_dk33_0.2.2.2.2.2.2.1 rfl (by decide) (by decide +kernel) (by decide +kernel) (by decide) wf_45 wf_46 wf_47 wf_48 wf_15
theorem ab_s33_11 : ab_Sn B 33 11 (ab_o_ist 3 12) := ab_s_istore_n (k := 3) (n := 3) ab_dk33_0.2.2.2.2.2.2.2.1 rfl
theorem ab_s33_12 : ab_Sn B 33 12 (ab_o_ild 3 13) := ab_s_iload_n (k := 3) (n := 3) ab_dk33_0.2.2.2.2.2.2.2.2.1 rfl
theorem ab_s33_13 : ab_Sn B 33 13 (ab_o_if ab_ne 33 16) := ab_s_if_ne (tg := 33) (off := 20) ab_dk33_0.2.2.2.2.2.2.2.2.2.1 (by decide)
theorem ab_s33_16 : ab_Sn B 33 16 (ab_o_ald 0 17) := ab_s_aload_n (k := 0) (n := 0) ab_dk33_0.2.2.2.2.2.2.2.2.2.2.1 rfl
theorem ab_s33_17 : ab_Sn B 33 17 (ab_o_ild 2 18) := ab_s_iload_n (k := 2) (n := 2) ab_dk33_0.2.2.2.2.2.2.2.2.2.2.2.1 rfl
theorem ab_s33_18 : ab_Sn B 33 18 (ab_o_ild 1 19) := ab_s_iload_n (k := 1) (n := 1) ab_dk33_0.2.2.2.2.2.2.2.2.2.2.2.2.1 rfl
theorem ab_s33_19 : ab_Sn B 33 19 (ab_o_call (some (4, 7)) [] 11 4 3 true 22) := ab_s_callV (M' := 11) (na := 2) (i := 68) (ci := 0) (N := 7) (C := RX0) (T := TX0) (v := true) (ab_hok_n (by decide +kernel)) (by decide +kernel) ab_dk33_0.2.2.2.2.2.2.2.2.2.2.2.2.2.1 rfl (by decide) (by decide +kernel) (by decide +kernel) (by decide) wf_49 wf_50 wf_51 wf_52 wf_15
theorem ab_s33_22 : ab_Sn B 33 22 (ab_o_ald 0 23) := ab_s_aload_n (k := 0) (n := 0) ab_dk33_0.2.2.2.2.2.2.2.2.2.2.2.2.2.2.1 rfl
theorem ab_s33_23 : ab_Sn B 33 23 (ab_o_ild 2 24) := ab_s_iload_n (k := 2) (n := 2) ab_dk33_0.2.2.2.2.2.2.2.2.2.2.2.2.2.2.2.1 rfl
theorem ab_s33_24 : ab_Sn B 33 24 (ab_o_ild 1 25) := ab_s_iload_n (k := 1) (n := 1) ab_dk33_1.1 rfl
theorem ab_s33_25 : ab_Sn B 33 25 (ab_o_call (some (4, 7)) [] 25 5 3 true 28) := ab_s_callV (M' := 25) (na := 2) (i := 71) (ci := 0) (N := 7) (C := RX0) (T := TX0) (v := true) (ab_hok_n (by decide +kernel)) (by decide +kernel) ab_dk33_1.2.1 rfl (by decide) (by decide +kernel) (by decide +kernel) (by decide) wf_53 wf_54 wf_55 wf_56 wf_15
theorem ab_s33_28 : ab_Sn B 33 28 (ab_o_icmp ab_eq 33 31) := ab_s_icmp_eq (tg := 33) (off := 5) ab_dk33_1.2.2.1 (by decide)
theorem ab_s33_31 : ab_Sn B 33 31 (ab_o_const 0 32) := ab_s_iconst (n := 0) ab_dk33_1.2.2.2.1 rfl
theorem ab_s33_32 : ab_Sn B 33 32 (ab_o_iret true) := ab_s_iret (b := true) (ty := .boolean) ab_dk33_1.2.2.2.2.1 rfl (Or.inr (Or.inl ⟨rfl, rfl⟩))
theorem ab_s33_33 : ab_Sn B 33 33 (ab_o_const 0 34) := ab_s_iconst (n := 0) ab_dk33_1.2.2.2.2.2.1 rfl
theorem ab_s33_34 : ab_Sn B 33 34 (ab_o_ist 4 36) := ab_s_istore (k := 4) ab_dk33_1.2.2.2.2.2.2.1
theorem ab_s33_36 : ab_Sn B 33 36 (ab_o_ild 4 38) := ab_s_iload (k := 4) ab_dk33_1.2.2.2.2.2.2.2.1
theorem ab_s33_38 : ab_Sn B 33 38 (ab_o_ald 0 39) := ab_s_aload_n (k := 0) (n := 0) ab_dk33_1.2.2.2.2.2.2.2.2.1 rfl
theorem ab_s33_39 : ab_Sn B 33 39 (ab_o_geti 4 7 0 42) := ab_s_geti (i := 28) (ci := 0) (N := 7) (k := 0) (C := RX0) (T := TX0) ab_dk33_1.2.2.2.2.2.2.2.2.2.1 rfl (by decide) rfl wf_10
theorem ab_s33_42 : ab_Sn B 33 42 (ab_o_icmp ab_ge 118 45) := ab_s_icmp_ge (tg := 118) (off := 76) ab_dk33_1.2.2.2.2.2.2.2.2.2.2.1 (by decide)
theorem ab_s33_45 : ab_Sn B 33 45 (ab_o_ald 0 46) := ab_s_aload_n (k := 0) (n := 0) ab_dk33_1.2.2.2.2.2.2.2.2.2.2.2.1 rfl
theorem ab_s33_46 : ab_Sn B 33 46 (ab_o_ild 4 48) := ab_s_iload (k := 4) ab_dk33_1.2.2.2.2.2.2.2.2.2.2.2.2.1
theorem ab_s33_48 : ab_Sn B 33 48 (ab_o_ild 1 49) := ab_s_iload_n (k := 1) (n := 1) ab_dk33_1.2.2.2.2.2.2.2.2.2.2.2.2.2.1 rfl
theorem ab_s33_49 : ab_Sn B 33 49 (ab_o_call (some (4, 7)) [] 35 4 3 true 52) := ab_s_callV (M' := 35) (na := 2) (i := 50) (ci := 0) (N := 7) (C := RX0) (T := TX0) (v := true) (ab_hok_n (by decide +kernel)) (by decide +kernel) ab_dk33_1.2.2.2.2.2.2.2.2.2.2.2.2.2.2.1 rfl (by decide) (by decide +kernel) (by decide +kernel) (by decide) wf_29 wf_30 wf_31 wf_32 wf_15
theorem ab_s33_52 : ab_Sn B 33 52 (ab_o_ist 5 54) := ab_s_istore (k := 5) ab_dk33_1.2.2.2.2.2.2.2.2.2.2.2.2.2.2.2.1
theorem ab_s33_54 : ab_Sn B 33 54 (ab_o_ild 3 55) := ab_s_iload_n (k := 3) (n := 3) ab_dk33_2.1 rfl
theorem ab_s33_55 : ab_Sn B 33 55 (ab_o_const 1 56) := ab_s_iconst (n := 1) ab_dk33_2.2.1 rfl
theorem ab_s33_56 : ab_Sn B 33 56 (ab_o_icmp ab_le 73 59) := ab_s_icmp_le (tg := 73) (off := 17) ab_dk33_2.2.2.1 (by decide)
theorem ab_s33_59 : ab_Sn B 33 59 (ab_o_ald 0 60) := ab_s_aload_n (k := 0) (n := 0) ab_dk33_2.2.2.2.1 rfl
theorem ab_s33_60 : ab_Sn B 33 60 (ab_o_ild 4 62) := ab_s_iload (k := 4) ab_dk33_2.2.2.2.2.1
theorem ab_s33_62 : ab_Sn B 33 62 (ab_o_ild 1 63) := ab_s_iload_n (k := 1) (n := 1) ab_dk33_2.2.2.2.2.2.1 rfl
theorem ab_s33_63 : ab_Sn B 33 63 (ab_o_call (some (4, 7)) [] 15 4 3 true 66) := ab_s_callV (M' := 15) (na := 2) (i := 61) (ci := 0) (N := 7) (C := RX0) (T := TX0) (v := true) (ab_hok_n (by decide +kernel)) (by decide +kernel) ab_dk33_2.2.2.2.2.2.2.1 rfl (by decide) (by decide +kernel) (by decide +kernel) (by decide) wf_41 wf_42 wf_43 wf_44 wf_15
theorem ab_s33_66 : ab_Sn B 33 66 (ab_o_if ab_eq 73 69) := ab_s_if_eq (tg := 73) (off := 7) ab_dk33_2.2.2.2.2.2.2.2.1 (by decide)
theorem ab_s33_69 : ab_Sn B 33 69 (ab_o_const 1 70) := ab_s_iconst (n := 1) ab_dk33_2.2.2.2.2.2.2.2.2.1 rfl
theorem ab_s33_70 : ab_Sn B 33 70 (ab_o_goto 74) := ab_s_goto (tg := 74) (off := 4) ab_dk33_2.2.2.2.2.2.2.2.2.2.1 (by decide)
theorem ab_s33_73 : ab_Sn B 33 73 (ab_o_const 0 74) := ab_s_iconst (n := 0) ab_dk33_2.2.2.2.2.2.2.2.2.2.2.1 rfl
theorem ab_s33_74 : ab_Sn B 33 74 (ab_o_ist 6 76) := ab_s_istore (k := 6) ab_dk33_2.2.2.2.2.2.2.2.2.2.2.2.1
theorem ab_s33_76 : ab_Sn B 33 76 (ab_o_ild 4 78) := ab_s_iload (k := 4) ab_dk33_2.2.2.2.2.2.2.2.2.2.2.2.2.1
theorem ab_s33_78 : ab_Sn B 33 78 (ab_o_ild 2 79) := ab_s_iload_n (k := 2) (n := 2) ab_dk33_2.2.2.2.2.2.2.2.2.2.2.2.2.2.1 rfl
theorem ab_s33_79 : ab_Sn B 33 79 (ab_o_icmp ab_eq 112 82) := ab_s_icmp_eq (tg := 112) (off := 33) ab_dk33_2.2.2.2.2.2.2.2.2.2.2.2.2.2.2.1 (by decide)
theorem ab_s33_82 : ab_Sn B 33 82 (ab_o_ild 5 84) := ab_s_iload (k := 5) ab_dk33_2.2.2.2.2.2.2.2.2.2.2.2.2.2.2.2.1
theorem ab_s33_84 : ab_Sn B 33 84 (ab_o_const (-1) 85) := ab_s_iconst (n := (-1)) ab_dk33_3.1 rfl
theorem ab_s33_85 : ab_Sn B 33 85 (ab_o_icmp ab_eq 112 88) := ab_s_icmp_eq (tg := 112) (off := 27) ab_dk33_3.2.1 (by decide)
theorem ab_s33_88 : ab_Sn B 33 88 (ab_o_ild 6 90) := ab_s_iload (k := 6) ab_dk33_3.2.2.1
theorem ab_s33_90 : ab_Sn B 33 90 (ab_o_if ab_ne 112 93) := ab_s_if_ne (tg := 112) (off := 22) ab_dk33_3.2.2.2.1 (by decide)
theorem ab_s33_93 : ab_Sn B 33 93 (ab_o_ald 0 94) := ab_s_aload_n (k := 0) (n := 0) ab_dk33_3.2.2.2.2.1 rfl
theorem ab_s33_94 : ab_Sn B 33 94 (ab_o_ild 4 96) := ab_s_iload (k := 4) ab_dk33_3.2.2.2.2.2.1
theorem ab_s33_96 : ab_Sn B 33 96 (ab_o_ild 1 97) := ab_s_iload_n (k := 1) (n := 1) ab_dk33_3.2.2.2.2.2.2.1 rfl
theorem ab_s33_97 : ab_Sn B 33 97 (ab_o_call (some (4, 7)) [] 24 3 3 true 100) := ab_s_callV (M' := 24) (na := 2) (i := 87) (ci := 0) (N := 7) (C := RX0) (T := TX0) (v := true) (ab_hok_n (by decide +kernel)) (by decide +kernel) ab_dk33_3.2.2.2.2.2.2.2.1 rfl (by decide) (by decide +kernel) (by decide +kernel) (by decide) wf_73 wf_74 wf_75 wf_76 wf_15
theorem ab_s33_100 : ab_Sn B 33 100 (ab_o_ald 0 101) := ab_s_aload_n (k := 0) (n := 0) ab_dk33_3.2.2.2.2.2.2.2.2.1 rfl
theorem ab_s33_101 : ab_Sn B 33 101 (ab_o_getr 4 7 4 104) := ab_s_getr (i := 18) (ci := 0) (N := 7) (k := 4) (C := RX0) (T := TX0) ab_dk33_3.2.2.2.2.2.2.2.2.2.1 rfl (by decide) rfl wf_6
theorem ab_s33_104 : ab_Sn B 33 104 (ab_o_ild 5 106) := ab_s_iload (k := 5) ab_dk33_3.2.2.2.2.2.2.2.2.2.2.1
theorem ab_s33_106 : ab_Sn B 33 106 (ab_o_xld 0 107) := ab_s_iaload ab_dk33_3.2.2.2.2.2.2.2.2.2.2.2.1
theorem ab_s33_107 : ab_Sn B 33 107 (ab_o_icmp ab_eq 112 110) := ab_s_icmp_eq (tg := 112) (off := 5) ab_dk33_3.2.2.2.2.2.2.2.2.2.2.2.2.1 (by decide)
theorem ab_s33_110 : ab_Sn B 33 110 (ab_o_const 0 111) := ab_s_iconst (n := 0) ab_dk33_3.2.2.2.2.2.2.2.2.2.2.2.2.2.1 rfl
theorem ab_s33_111 : ab_Sn B 33 111 (ab_o_iret true) := ab_s_iret (b := true) (ty := .boolean) ab_dk33_3.2.2.2.2.2.2.2.2.2.2.2.2.2.2.1 rfl (Or.inr (Or.inl ⟨rfl, rfl⟩))
theorem ab_s33_112 : ab_Sn B 33 112 (ab_o_inc 4 1 115) := ab_s_iinc (k := 4) (n := 1) ab_dk33_3.2.2.2.2.2.2.2.2.2.2.2.2.2.2.2.1
theorem ab_s33_115 : ab_Sn B 33 115 (ab_o_goto 36) := ab_s_goto (tg := 36) (off := -79) ab_dk33_4.1 (by decide)
theorem ab_s33_118 : ab_Sn B 33 118 (ab_o_const 1 119) := ab_s_iconst (n := 1) ab_dk33_4.2.1 rfl
theorem ab_s33_119 : ab_Sn B 33 119 (ab_o_iret true) := ab_s_iret (b := true) (ty := .boolean) ab_dk33_4.2.2.1 rfl (Or.inr (Or.inl ⟨rfl, rfl⟩))
set_option maxRecDepth 20000 in
theorem ab_sn33 : ab_all B 33 0 (ab_c33) := ⟨ab_s33_0, ab_s33_1, ab_s33_2, trivial, trivial, ab_s33_5, ab_s33_6, ab_s33_7, ab_s33_8, trivial, trivial, ab_s33_11, ab_s33_12, ab_s33_13, trivial, trivial, ab_s33_16, ab_s33_17, ab_s33_18, ab_s33_19, trivial, trivial, ab_s33_22, ab_s33_23, ab_s33_24, ab_s33_25, trivial, trivial, ab_s33_28, trivial, trivial, ab_s33_31, ab_s33_32, ab_s33_33, ab_s33_34, trivial, ab_s33_36, trivial, ab_s33_38, ab_s33_39, trivial, trivial, ab_s33_42, trivial, trivial, ab_s33_45, ab_s33_46, trivial, ab_s33_48, ab_s33_49, trivial, trivial, ab_s33_52, trivial, ab_s33_54, ab_s33_55, ab_s33_56, trivial, trivial, ab_s33_59, ab_s33_60, trivial, ab_s33_62, ab_s33_63, trivial, trivial, ab_s33_66, trivial, trivial, ab_s33_69, ab_s33_70, trivial, trivial, ab_s33_73, ab_s33_74, trivial, ab_s33_76, trivial, ab_s33_78, ab_s33_79, trivial, trivial, ab_s33_82, trivial, ab_s33_84, ab_s33_85, trivial, trivial, ab_s33_88, trivial, ab_s33_90, trivial, trivial, ab_s33_93, ab_s33_94, trivial, ab_s33_96, ab_s33_97, trivial, trivial, ab_s33_100, ab_s33_101, trivial, trivial, ab_s33_104, trivial, ab_s33_106, ab_s33_107, trivial, trivial, ab_s33_110, ab_s33_111, ab_s33_112, trivial, trivial, ab_s33_115, trivial, trivial, ab_s33_118, ab_s33_119, trivial⟩
theorem ab_dk34_0 : ab_dp 34 [(0, .bipush 7, 2), (2, .iload_n 1, 1), (3, .imul, 1), (4, .iload_n 2, 1), (5, .iadd, 1), (6, .sipush 256, 3), (9, .irem, 1), (10, .ireturn, 1)] := ab_da (by decide +kernel)
theorem ab_s34_0 : ab_Sn B 34 0 (ab_o_const 7 2) := ab_s_bipush (n := 7) ab_dk34_0.1 (by decide)
theorem ab_s34_2 : ab_Sn B 34 2 (ab_o_ild 1 3) := ab_s_iload_n (k := 1) (n := 1) ab_dk34_0.2.1 rfl
theorem ab_s34_3 : ab_Sn B 34 3 (ab_o_bin (fun a b => a * b) 4) := ab_s_imul ab_dk34_0.2.2.1
theorem ab_s34_4 : ab_Sn B 34 4 (ab_o_ild 2 5) := ab_s_iload_n (k := 2) (n := 2) ab_dk34_0.2.2.2.1 rfl
theorem ab_s34_5 : ab_Sn B 34 5 (ab_o_bin (fun a b => a + b) 6) := ab_s_iadd ab_dk34_0.2.2.2.2.1
theorem ab_s34_6 : ab_Sn B 34 6 (ab_o_const 256 9) := ab_s_sipush (n := 256) ab_dk34_0.2.2.2.2.2.1 (by decide)
theorem ab_s34_9 : ab_Sn B 34 9 (ab_o_div ab_irem 10) := ab_s_irem ab_dk34_0.2.2.2.2.2.2.1
theorem ab_s34_10 : ab_Sn B 34 10 (ab_o_iret false) := ab_s_iret (b := false) (ty := .int) ab_dk34_0.2.2.2.2.2.2.2.1 rfl (Or.inl ⟨rfl, rfl⟩)
set_option maxRecDepth 20000 in
theorem ab_sn34 : ab_all B 34 0 (ab_c34) := ⟨ab_s34_0, trivial, ab_s34_2, ab_s34_3, ab_s34_4, ab_s34_5, ab_s34_6, trivial, trivial, ab_s34_9, ab_s34_10, trivial⟩
theorem ab_dk35_0 : ab_dp 35 [(0, .iload_n 1, 1), (1, .ifCond .lt 27, 3), (4, .iload_n 1, 1), (5, .aload_n 0, 1), (6, .getfield 28, 3), (9, .if_icmp .ge 19, 3), (12, .iload_n 2, 1), (13, .ifCond .lt 15, 3), (16, .iload_n 2, 1), (17, .aload_n 0, 1), (18, .getfield 32, 3), (21, .if_icmp .ge 7, 3), (24, .iconst 1, 1), (25, .goto 4, 3), (28, .iconst 0, 1), (29, .istore_n 3, 1)] := ab_da (by decide +kernel)
theorem ab_dk35_1 : ab_dp 35 [(30, .iload_n 3, 1), (31, .ifCond .eq 12, 3), (34, .iload_n 1, 1), (35, .bipush 8, 2), (37, .imul, 1), (38, .iload_n 2, 1), (39, .iadd, 1), (40, .goto 4, 3), (43, .iconst (-1), 1), (44, .ireturn, 1)] := ab_da (by decide +kernel)
theorem ab_s35_0 : ab_Sn B 35 0 (ab_o_ild 1 1) := ab_s_iload_n (k := 1) (n := 1) ab_dk35_0.1 rfl
theorem ab_s35_1 : ab_Sn B 35 1 (ab_o_if ab_lt 28 4) := ab_s_if_lt (tg := 28) (off := 27) ab_dk35_0.2.1 (by decide)
theorem ab_s35_4 : ab_Sn B 35 4 (ab_o_ild 1 5) := ab_s_iload_n (k := 1) (n := 1) ab_dk35_0.2.2.1 rfl
theorem ab_s35_5 : ab_Sn B 35 5 (ab_o_ald 0 6) := ab_s_aload_n (k := 0) (n := 0) ab_dk35_0.2.2.2.1 rfl
theorem ab_s35_6 : ab_Sn B 35 6 (ab_o_geti 4 7 0 9) := ab_s_geti (i := 28) (ci := 0) (N := 7) (k := 0) (C := RX0) (T := TX0) ab_dk35_0.2.2.2.2.1 rfl (by decide) rfl wf_10
theorem ab_s35_9 : ab_Sn B 35 9 (ab_o_icmp ab_ge 28 12) := ab_s_icmp_ge (tg := 28) (off := 19) ab_dk35_0.2.2.2.2.2.1 (by decide)
theorem ab_s35_12 : ab_Sn B 35 12 (ab_o_ild 2 13) := ab_s_iload_n (k := 2) (n := 2) ab_dk35_0.2.2.2.2.2.2.1 rfl
theorem ab_s35_13 : ab_Sn B 35 13 (ab_o_if ab_lt 28 16) := ab_s_if_lt (tg := 28) (off := 15) ab_dk35_0.2.2.2.2.2.2.2.1 (by decide)
theorem ab_s35_16 : ab_Sn B 35 16 (ab_o_ild 2 17) := ab_s_iload_n (k := 2) (n := 2) ab_dk35_0.2.2.2.2.2.2.2.2.1 rfl
theorem ab_s35_17 : ab_Sn B 35 17 (ab_o_ald 0 18) := ab_s_aload_n (k := 0) (n := 0) ab_dk35_0.2.2.2.2.2.2.2.2.2.1 rfl
theorem ab_s35_18 : ab_Sn B 35 18 (ab_o_geti 4 7 1 21) := ab_s_geti (i := 32) (ci := 0) (N := 7) (k := 1) (C := RX0) (T := TX0) ab_dk35_0.2.2.2.2.2.2.2.2.2.2.1 rfl (by decide) rfl wf_11
theorem ab_s35_21 : ab_Sn B 35 21 (ab_o_icmp ab_ge 28 24) := ab_s_icmp_ge (tg := 28) (off := 7) ab_dk35_0.2.2.2.2.2.2.2.2.2.2.2.1 (by decide)
theorem ab_s35_24 : ab_Sn B 35 24 (ab_o_const 1 25) := ab_s_iconst (n := 1) ab_dk35_0.2.2.2.2.2.2.2.2.2.2.2.2.1 rfl
theorem ab_s35_25 : ab_Sn B 35 25 (ab_o_goto 29) := ab_s_goto (tg := 29) (off := 4) ab_dk35_0.2.2.2.2.2.2.2.2.2.2.2.2.2.1 (by decide)
theorem ab_s35_28 : ab_Sn B 35 28 (ab_o_const 0 29) := ab_s_iconst (n := 0) ab_dk35_0.2.2.2.2.2.2.2.2.2.2.2.2.2.2.1 rfl
theorem ab_s35_29 : ab_Sn B 35 29 (ab_o_ist 3 30) := ab_s_istore_n (k := 3) (n := 3) ab_dk35_0.2.2.2.2.2.2.2.2.2.2.2.2.2.2.2.1 rfl
theorem ab_s35_30 : ab_Sn B 35 30 (ab_o_ild 3 31) := ab_s_iload_n (k := 3) (n := 3) ab_dk35_1.1 rfl
theorem ab_s35_31 : ab_Sn B 35 31 (ab_o_if ab_eq 43 34) := ab_s_if_eq (tg := 43) (off := 12) ab_dk35_1.2.1 (by decide)
theorem ab_s35_34 : ab_Sn B 35 34 (ab_o_ild 1 35) := ab_s_iload_n (k := 1) (n := 1) ab_dk35_1.2.2.1 rfl
theorem ab_s35_35 : ab_Sn B 35 35 (ab_o_const 8 37) := ab_s_bipush (n := 8) ab_dk35_1.2.2.2.1 (by decide)
theorem ab_s35_37 : ab_Sn B 35 37 (ab_o_bin (fun a b => a * b) 38) := ab_s_imul ab_dk35_1.2.2.2.2.1
theorem ab_s35_38 : ab_Sn B 35 38 (ab_o_ild 2 39) := ab_s_iload_n (k := 2) (n := 2) ab_dk35_1.2.2.2.2.2.1 rfl
theorem ab_s35_39 : ab_Sn B 35 39 (ab_o_bin (fun a b => a + b) 40) := ab_s_iadd ab_dk35_1.2.2.2.2.2.2.1
theorem ab_s35_40 : ab_Sn B 35 40 (ab_o_goto 44) := ab_s_goto (tg := 44) (off := 4) ab_dk35_1.2.2.2.2.2.2.2.1 (by decide)
theorem ab_s35_43 : ab_Sn B 35 43 (ab_o_const (-1) 44) := ab_s_iconst (n := (-1)) ab_dk35_1.2.2.2.2.2.2.2.2.1 rfl
theorem ab_s35_44 : ab_Sn B 35 44 (ab_o_iret false) := ab_s_iret (b := false) (ty := .int) ab_dk35_1.2.2.2.2.2.2.2.2.2.1 rfl (Or.inl ⟨rfl, rfl⟩)
set_option maxRecDepth 20000 in
theorem ab_sn35 : ab_all B 35 0 (ab_c35) := ⟨ab_s35_0, ab_s35_1, trivial, trivial, ab_s35_4, ab_s35_5, ab_s35_6, trivial, trivial, ab_s35_9, trivial, trivial, ab_s35_12, ab_s35_13, trivial, trivial, ab_s35_16, ab_s35_17, ab_s35_18, trivial, trivial, ab_s35_21, trivial, trivial, ab_s35_24, ab_s35_25, trivial, trivial, ab_s35_28, ab_s35_29, ab_s35_30, ab_s35_31, trivial, trivial, ab_s35_34, ab_s35_35, trivial, ab_s35_37, ab_s35_38, ab_s35_39, ab_s35_40, trivial, trivial, ab_s35_43, ab_s35_44, trivial⟩
end
