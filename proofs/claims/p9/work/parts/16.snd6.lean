/-! each instruction is sound; printed by wip/px/gen_code.py -/
section
variable {B : ab_B}
theorem ab_dk188_0 : ab_dp 188 [(0, .aload_n 0, 1), (1, .invokespecial 3, 3), (4, .getstatic 18, 3), (7, .ifCond .eq 18, 3), (10, .aload_n 0, 1), (11, .iload_n 1, 1), (12, .newarray .byte, 2), (14, .putfield 15, 3), (17, .aload_n 0, 1), (18, .iconst 0, 1), (19, .putfield 22, 3), (22, .goto 16, 3), (25, .aload_n 0, 1), (26, .iload_n 1, 1), (30, .putfield 15, 3), (33, .aload_n 0, 1)] := ab_da (by decide +kernel)
theorem ab_dk188_1 : ab_dp 188 [(34, .iconst 1, 1), (35, .putfield 22, 3), (38, .return_, 1)] := ab_da (by decide +kernel)
theorem ab_s188_0 : ab_Sn B 188 0 (ab_o_ald 0 1) := ab_s_aload_n (k := 0) (n := 0) ab_dk188_0.1 rfl
theorem ab_s188_1 : ab_Sn B 188 1 (ab_o_obj 4) := ab_s_obj (i := 3) ab_dk188_0.2.1 wf_638 wf_1 wf_2
theorem ab_s188_4 : ab_Sn B 188 4 (ab_o_const 1 7) := ab_s_cmp (i := 18) ab_dk188_0.2.2.1 wf_639
theorem ab_s188_7 : ab_Sn B 188 7 (ab_o_if ab_eq 25 10) := ab_s_if_eq (tg := 25) (off := 18) ab_dk188_0.2.2.2.1 (by decide)
theorem ab_s188_10 : ab_Sn B 188 10 (ab_o_ald 0 11) := ab_s_aload_n (k := 0) (n := 0) ab_dk188_0.2.2.2.2.1 rfl
theorem ab_s188_11 : ab_Sn B 188 11 (ab_o_ild 1 12) := ab_s_iload_n (k := 1) (n := 1) ab_dk188_0.2.2.2.2.2.1 rfl
theorem ab_s188_12 : ab_Sn B 188 12 (ab_o_newa 3 14) := ab_s_newa3 ab_dk188_0.2.2.2.2.2.2.1 wf_640
theorem ab_s188_14 : ab_Sn B 188 14 (ab_o_putr 9 4 0 17) := ab_s_putr (ty := .array .byte) (i := 15) (ci := 5) (N := 4) (k := 0) (C := RJ4) (T := TJ4) ab_dk188_0.2.2.2.2.2.2.2.1 rfl (by decide) rfl wf_641 rfl (by decide +kernel) (Or.inr ⟨_, rfl⟩)
theorem ab_s188_17 : ab_Sn B 188 17 (ab_o_ald 0 18) := ab_s_aload_n (k := 0) (n := 0) ab_dk188_0.2.2.2.2.2.2.2.2.1 rfl
theorem ab_s188_18 : ab_Sn B 188 18 (ab_o_const 0 19) := ab_s_iconst (n := 0) ab_dk188_0.2.2.2.2.2.2.2.2.2.1 rfl
theorem ab_s188_19 : ab_Sn B 188 19 (ab_o_puti 9 4 1 true 22) := ab_s_puti (b := true) (ty := .byte) (i := 22) (ci := 5) (N := 4) (k := 1) (C := RJ4) (T := TJ4) ab_dk188_0.2.2.2.2.2.2.2.2.2.2.1 rfl (by decide) rfl wf_642 rfl (by decide +kernel) (Or.inr (Or.inr ⟨rfl, rfl⟩))
theorem ab_s188_22 : ab_Sn B 188 22 (ab_o_goto 38) := ab_s_goto (tg := 38) (off := 16) ab_dk188_0.2.2.2.2.2.2.2.2.2.2.2.1 (by decide)
theorem ab_s188_25 : ab_Sn B 188 25 (ab_o_ald 0 26) := ab_s_aload_n (k := 0) (n := 0) ab_dk188_0.2.2.2.2.2.2.2.2.2.2.2.2.1 rfl
theorem ab_s188_26 : ab_Sn B 188 26 (ab_o_ild 1 27) := ab_s_iload_n (k := 1) (n := 1) ab_dk188_0.2.2.2.2.2.2.2.2.2.2.2.2.2.1 rfl
theorem ab_s188_30 : ab_Sn B 188 30 (ab_o_putr 9 4 0 33) := ab_s_putr (ty := .array .byte) (i := 15) (ci := 5) (N := 4) (k := 0) (C := RJ4) (T := TJ4) ab_dk188_0.2.2.2.2.2.2.2.2.2.2.2.2.2.2.1 rfl (by decide) rfl wf_641 rfl (by decide +kernel) (Or.inr ⟨_, rfl⟩)
theorem ab_s188_33 : ab_Sn B 188 33 (ab_o_ald 0 34) := ab_s_aload_n (k := 0) (n := 0) ab_dk188_0.2.2.2.2.2.2.2.2.2.2.2.2.2.2.2.1 rfl
theorem ab_s188_34 : ab_Sn B 188 34 (ab_o_const 1 35) := ab_s_iconst (n := 1) ab_dk188_1.1 rfl
theorem ab_s188_35 : ab_Sn B 188 35 (ab_o_puti 9 4 1 true 38) := ab_s_puti (b := true) (ty := .byte) (i := 22) (ci := 5) (N := 4) (k := 1) (C := RJ4) (T := TJ4) ab_dk188_1.2.1 rfl (by decide) rfl wf_642 rfl (by decide +kernel) (Or.inr (Or.inr ⟨rfl, rfl⟩))
theorem ab_s188_38 : ab_Sn B 188 38 (ab_o_ret) := ab_s_ret ab_dk188_1.2.2.1 rfl
set_option maxRecDepth 20000 in
theorem ab_sn188 : ab_all B 188 0 (ab_c188) := ⟨ab_s188_0, ab_s188_1, trivial, trivial, ab_s188_4, trivial, trivial, ab_s188_7, trivial, trivial, ab_s188_10, ab_s188_11, ab_s188_12, trivial, ab_s188_14, trivial, trivial, ab_s188_17, ab_s188_18, ab_s188_19, trivial, trivial, ab_s188_22, trivial, trivial, ab_s188_25, ab_s188_26, trivial, trivial, trivial, ab_s188_30, trivial, trivial, ab_s188_33, ab_s188_34, ab_s188_35, trivial, trivial, ab_s188_38, trivial⟩
theorem ab_dk189_0 : ab_dp 189 [(0, .aload_n 0, 1), (1, .aload_n 0, 1), (2, .getfield 79, 3), (5, .iconst 1, 1), (6, .iadd, 1), (7, .invokevirtual 100, 3), (10, .aload_n 0, 1), (11, .invokevirtual 83, 3), (14, .ifCond .eq 31, 3), (17, .iload_n 1, 1), (18, .invokestatic 191, 3), (21, .ifCond .eq 24, 3), (24, .aload_n 0, 1), (25, .getfield 15, 3), (28, .aload_n 0, 1), (29, .dup, 1)] := ab_da (by decide +kernel)
theorem ab_dk189_1 : ab_dp 189 [(30, .getfield 79, 3), (33, .dup_x1, 1), (34, .iconst 1, 1), (35, .iadd, 1), (36, .putfield 79, 3), (39, .iload_n 1, 1), (40, .i2b, 1), (41, .bastore, 1), (42, .goto 33, 3), (45, .aload_n 0, 1), (46, .invokevirtual 83, 3), (49, .ifCond .eq 7, 3), (52, .aload_n 0, 1), (56, .aload_n 0, 1), (57, .getfield 15, 3), (60, .aload_n 0, 1)] := ab_da (by decide +kernel)
theorem ab_dk189_2 : ab_dp 189 [(61, .dup, 1), (62, .getfield 79, 3), (65, .dup_x1, 1), (66, .iconst 1, 1), (67, .iadd, 1), (68, .putfield 79, 3), (71, .iload_n 1, 1), (75, .aload_n 0, 1), (76, .areturn, 1)] := ab_da (by decide +kernel)
theorem ab_s189_0 : ab_Sn B 189 0 (ab_o_ald 0 1) := ab_s_aload_n (k := 0) (n := 0) ab_dk189_0.1 rfl
theorem ab_s189_1 : ab_Sn B 189 1 (ab_o_ald 0 2) := ab_s_aload_n (k := 0) (n := 0) ab_dk189_0.2.1 rfl
theorem ab_s189_2 : ab_Sn B 189 2 (ab_o_geti 9 4 3 5) := ab_s_geti (i := 79) (ci := 5) (N := 4) (k := 3) (C := RJ4) (T := TJ4) ab_dk189_0.2.2.1 rfl (by decide) rfl wf_643
theorem ab_s189_5 : ab_Sn B 189 5 (ab_o_const 1 6) := ab_s_iconst (n := 1) ab_dk189_0.2.2.2.1 rfl
theorem ab_s189_6 : ab_Sn B 189 6 (ab_o_bin (fun a b => a + b) 7) := ab_s_iadd ab_dk189_0.2.2.2.2.1
theorem ab_s189_7 : ab_Sn B 189 7 (ab_o_call (some (9, 4)) [] 191 3 2 false 10) := ab_s_callV (M' := 191) (na := 1) (i := 100) (ci := 5) (N := 4) (C := RJ4) (T := TJ4) (v := false) (ab_hok_n (by decide +kernel)) (by decide +kernel) ab_dk189_0.2.2.2.2.2.1 rfl (by decide) (by decide +kernel) (by decide +kernel) (by decide) wf_644 wf_645 wf_646 wf_648 wf_647
theorem ab_s189_10 : ab_Sn B 189 10 (ab_o_ald 0 11) := ab_s_aload_n (k := 0) (n := 0) ab_dk189_0.2.2.2.2.2.2.1 rfl
theorem ab_s189_11 : ab_Sn B 189 11 (ab_o_call (some (9, 4)) [] 194 1 1 true 14) := ab_s_callV (M' := 194) (na := 0) (i := 83) (ci := 5) (N := 4) (C := RJ4) (T := TJ4) (v := true) (ab_hok_n (by decide +kernel)) (by decide +kernel) ab_dk189_0.2.2.2.2.2.2.2.1 rfl (by decide) (by decide +kernel) (by decide +kernel) (by decide) wf_649 wf_650 wf_651 wf_652 wf_647
theorem ab_s189_14 : ab_Sn B 189 14 (ab_o_if ab_eq 45 17) := ab_s_if_eq (tg := 45) (off := 31) ab_dk189_0.2.2.2.2.2.2.2.2.1 (by decide)
theorem ab_s189_17 : ab_Sn B 189 17 (ab_o_ild 1 18) := ab_s_iload_n (k := 1) (n := 1) ab_dk189_0.2.2.2.2.2.2.2.2.2.1 rfl
theorem ab_s189_18 : ab_Sn B 189 18 (ab_o_call none [] 207 1 1 true 21) := ab_s_callS (M' := 207) (na := 1) (i := 191) (v := true) (ab_hok_n (by decide +kernel)) (by decide +kernel) ab_dk189_0.2.2.2.2.2.2.2.2.2.2.1 (by decide +kernel) (by decide +kernel) (by decide) wf_653 wf_654 wf_655 wf_656
theorem ab_s189_21 : ab_Sn B 189 21 (ab_o_if ab_eq 45 24) := ab_s_if_eq (tg := 45) (off := 24) ab_dk189_0.2.2.2.2.2.2.2.2.2.2.2.1 (by decide)
theorem ab_s189_24 : ab_Sn B 189 24 (ab_o_ald 0 25) := ab_s_aload_n (k := 0) (n := 0) ab_dk189_0.2.2.2.2.2.2.2.2.2.2.2.2.1 rfl
theorem ab_s189_25 : ab_Sn B 189 25 (ab_o_getr 9 4 0 28) := ab_s_getr (i := 15) (ci := 5) (N := 4) (k := 0) (C := RJ4) (T := TJ4) ab_dk189_0.2.2.2.2.2.2.2.2.2.2.2.2.2.1 rfl (by decide) rfl wf_641
theorem ab_s189_28 : ab_Sn B 189 28 (ab_o_ald 0 29) := ab_s_aload_n (k := 0) (n := 0) ab_dk189_0.2.2.2.2.2.2.2.2.2.2.2.2.2.2.1 rfl
theorem ab_s189_29 : ab_Sn B 189 29 (ab_o_dup 30) := ab_s_dup ab_dk189_0.2.2.2.2.2.2.2.2.2.2.2.2.2.2.2.1
theorem ab_s189_30 : ab_Sn B 189 30 (ab_o_geti 9 4 3 33) := ab_s_geti (i := 79) (ci := 5) (N := 4) (k := 3) (C := RJ4) (T := TJ4) ab_dk189_1.1 rfl (by decide) rfl wf_643
theorem ab_s189_33 : ab_Sn B 189 33 (ab_o_dupx1 34) := ab_s_dupx1 ab_dk189_1.2.1
theorem ab_s189_34 : ab_Sn B 189 34 (ab_o_const 1 35) := ab_s_iconst (n := 1) ab_dk189_1.2.2.1 rfl
theorem ab_s189_35 : ab_Sn B 189 35 (ab_o_bin (fun a b => a + b) 36) := ab_s_iadd ab_dk189_1.2.2.2.1
theorem ab_s189_36 : ab_Sn B 189 36 (ab_o_puti 9 4 3 false 39) := ab_s_puti (b := false) (ty := .int) (i := 79) (ci := 5) (N := 4) (k := 3) (C := RJ4) (T := TJ4) ab_dk189_1.2.2.2.2.1 rfl (by decide) rfl wf_643 rfl (by decide +kernel) (Or.inl ⟨rfl, rfl⟩)
theorem ab_s189_39 : ab_Sn B 189 39 (ab_o_ild 1 40) := ab_s_iload_n (k := 1) (n := 1) ab_dk189_1.2.2.2.2.2.1 rfl
theorem ab_s189_40 : ab_Sn B 189 40 (ab_o_i2b 41) := ab_s_i2b ab_dk189_1.2.2.2.2.2.2.1
theorem ab_s189_41 : ab_Sn B 189 41 (ab_o_xst 3 42) := ab_s_bastore3 ab_dk189_1.2.2.2.2.2.2.2.1
theorem ab_s189_42 : ab_Sn B 189 42 (ab_o_goto 75) := ab_s_goto (tg := 75) (off := 33) ab_dk189_1.2.2.2.2.2.2.2.2.1 (by decide)
theorem ab_s189_45 : ab_Sn B 189 45 (ab_o_ald 0 46) := ab_s_aload_n (k := 0) (n := 0) ab_dk189_1.2.2.2.2.2.2.2.2.2.1 rfl
theorem ab_s189_46 : ab_Sn B 189 46 (ab_o_call (some (9, 4)) [] 194 1 1 true 49) := ab_s_callV (M' := 194) (na := 0) (i := 83) (ci := 5) (N := 4) (C := RJ4) (T := TJ4) (v := true) (ab_hok_n (by decide +kernel)) (by decide +kernel) ab_dk189_1.2.2.2.2.2.2.2.2.2.2.1 rfl (by decide) (by decide +kernel) (by decide +kernel) (by decide) wf_649 wf_650 wf_651 wf_652 wf_647
theorem ab_s189_49 : ab_Sn B 189 49 (ab_o_if ab_eq 56 52) := ab_s_if_eq (tg := 56) (off := 7) ab_dk189_1.2.2.2.2.2.2.2.2.2.2.2.1 (by decide)
theorem ab_s189_52 : ab_Sn B 189 52 (ab_o_ald 0 53) := ab_s_aload_n (k := 0) (n := 0) ab_dk189_1.2.2.2.2.2.2.2.2.2.2.2.2.1 rfl
theorem ab_s189_56 : ab_Sn B 189 56 (ab_o_ald 0 57) := ab_s_aload_n (k := 0) (n := 0) ab_dk189_1.2.2.2.2.2.2.2.2.2.2.2.2.2.1 rfl
theorem ab_s189_57 : ab_Sn B 189 57 (ab_o_getr 9 4 0 60) := ab_s_getr (i := 15) (ci := 5) (N := 4) (k := 0) (C := RJ4) (T := TJ4) ab_dk189_1.2.2.2.2.2.2.2.2.2.2.2.2.2.2.1 rfl (by decide) rfl wf_641
theorem ab_s189_60 : ab_Sn B 189 60 (ab_o_ald 0 61) := ab_s_aload_n (k := 0) (n := 0) ab_dk189_1.2.2.2.2.2.2.2.2.2.2.2.2.2.2.2.1 rfl
theorem ab_s189_61 : ab_Sn B 189 61 (ab_o_dup 62) := ab_s_dup ab_dk189_2.1
theorem ab_s189_62 : ab_Sn B 189 62 (ab_o_geti 9 4 3 65) := ab_s_geti (i := 79) (ci := 5) (N := 4) (k := 3) (C := RJ4) (T := TJ4) ab_dk189_2.2.1 rfl (by decide) rfl wf_643
theorem ab_s189_65 : ab_Sn B 189 65 (ab_o_dupx1 66) := ab_s_dupx1 ab_dk189_2.2.2.1
theorem ab_s189_66 : ab_Sn B 189 66 (ab_o_const 1 67) := ab_s_iconst (n := 1) ab_dk189_2.2.2.2.1 rfl
theorem ab_s189_67 : ab_Sn B 189 67 (ab_o_bin (fun a b => a + b) 68) := ab_s_iadd ab_dk189_2.2.2.2.2.1
theorem ab_s189_68 : ab_Sn B 189 68 (ab_o_puti 9 4 3 false 71) := ab_s_puti (b := false) (ty := .int) (i := 79) (ci := 5) (N := 4) (k := 3) (C := RJ4) (T := TJ4) ab_dk189_2.2.2.2.2.2.1 rfl (by decide) rfl wf_643 rfl (by decide +kernel) (Or.inl ⟨rfl, rfl⟩)
theorem ab_s189_71 : ab_Sn B 189 71 (ab_o_ild 1 72) := ab_s_iload_n (k := 1) (n := 1) ab_dk189_2.2.2.2.2.2.2.1 rfl
theorem ab_s189_75 : ab_Sn B 189 75 (ab_o_ald 0 76) := ab_s_aload_n (k := 0) (n := 0) ab_dk189_2.2.2.2.2.2.2.2.1 rfl
theorem ab_s189_76 : ab_Sn B 189 76 (ab_o_aret) := ab_s_aret (ty := (.object "java/lang/AbstractStringBuilder")) ab_dk189_2.2.2.2.2.2.2.2.2.1 rfl (Or.inl ⟨_, rfl⟩)
set_option maxRecDepth 20000 in
theorem ab_sn189 : ab_all B 189 0 (ab_c189) := ⟨ab_s189_0, ab_s189_1, ab_s189_2, trivial, trivial, ab_s189_5, ab_s189_6, ab_s189_7, trivial, trivial, ab_s189_10, ab_s189_11, trivial, trivial, ab_s189_14, trivial, trivial, ab_s189_17, ab_s189_18, trivial, trivial, ab_s189_21, trivial, trivial, ab_s189_24, ab_s189_25, trivial, trivial, ab_s189_28, ab_s189_29, ab_s189_30, trivial, trivial, ab_s189_33, ab_s189_34, ab_s189_35, ab_s189_36, trivial, trivial, ab_s189_39, ab_s189_40, ab_s189_41, ab_s189_42, trivial, trivial, ab_s189_45, ab_s189_46, trivial, trivial, ab_s189_49, trivial, trivial, ab_s189_52, trivial, trivial, trivial, ab_s189_56, ab_s189_57, trivial, trivial, ab_s189_60, ab_s189_61, ab_s189_62, trivial, trivial, ab_s189_65, ab_s189_66, ab_s189_67, ab_s189_68, trivial, trivial, ab_s189_71, trivial, trivial, trivial, ab_s189_75, ab_s189_76, trivial⟩
theorem ab_dk190_0 : ab_dp 190 [(0, .aload_n 1, 1), (1, .ifnonnull 8, 3), (4, .aload_n 0, 1), (8, .areturn, 1), (9, .aload_n 1, 1), (10, .invokevirtual 32, 3), (13, .istore_n 2, 1), (14, .aload_n 0, 1), (15, .aload_n 0, 1), (16, .getfield 79, 3), (19, .iload_n 2, 1), (20, .iadd, 1), (21, .invokevirtual 100, 3), (24, .aload_n 0, 1), (25, .aload_n 0, 1), (26, .getfield 79, 3)] := ab_da (by decide +kernel)
theorem ab_dk190_1 : ab_dp 190 [(29, .aload_n 1, 1), (30, .invokevirtual 208, 3), (33, .aload_n 0, 1), (34, .dup, 1), (35, .getfield 79, 3), (38, .iload_n 2, 1), (39, .iadd, 1), (40, .putfield 79, 3), (43, .aload_n 0, 1), (44, .areturn, 1)] := ab_da (by decide +kernel)
theorem ab_s190_0 : ab_Sn B 190 0 (ab_o_ald 1 1) := ab_s_aload_n (k := 1) (n := 1) ab_dk190_0.1 rfl
theorem ab_s190_1 : ab_Sn B 190 1 (ab_o_ifn false 9 4) := ab_s_ifnonnull (tg := 9) (off := 8) ab_dk190_0.2.1 (by decide)
theorem ab_s190_4 : ab_Sn B 190 4 (ab_o_ald 0 5) := ab_s_aload_n (k := 0) (n := 0) ab_dk190_0.2.2.1 rfl
theorem ab_s190_8 : ab_Sn B 190 8 (ab_o_aret) := ab_s_aret (ty := (.object "java/lang/AbstractStringBuilder")) ab_dk190_0.2.2.2.1 rfl (Or.inl ⟨_, rfl⟩)
theorem ab_s190_9 : ab_Sn B 190 9 (ab_o_ald 1 10) := ab_s_aload_n (k := 1) (n := 1) ab_dk190_0.2.2.2.2.1 rfl
theorem ab_s190_10 : ab_Sn B 190 10 (ab_o_call (some (1000, 4)) [] 201 1 1 true 13) := ab_s_callT (M' := 201) (na := 0) (i := 32) (v := true) (ab_hok_n (by decide +kernel)) (by decide +kernel) ab_dk190_0.2.2.2.2.2.1 (by decide +kernel) (by decide +kernel) (by decide) wf_657 wf_658 wf_659 wf_660 wf_661
theorem ab_s190_13 : ab_Sn B 190 13 (ab_o_ist 2 14) := ab_s_istore_n (k := 2) (n := 2) ab_dk190_0.2.2.2.2.2.2.1 rfl
theorem ab_s190_14 : ab_Sn B 190 14 (ab_o_ald 0 15) := ab_s_aload_n (k := 0) (n := 0) ab_dk190_0.2.2.2.2.2.2.2.1 rfl
theorem ab_s190_15 : ab_Sn B 190 15 (ab_o_ald 0 16) := ab_s_aload_n (k := 0) (n := 0) ab_dk190_0.2.2.2.2.2.2.2.2.1 rfl
theorem ab_s190_16 : ab_Sn B 190 16 (ab_o_geti 9 4 3 19) := ab_s_geti (i := 79) (ci := 5) (N := 4) (k := 3) (C := RJ4) (T := TJ4) ab_dk190_0.2.2.2.2.2.2.2.2.2.1 rfl (by decide) rfl wf_643
theorem ab_s190_19 : ab_Sn B 190 19 (ab_o_ild 2 20) := ab_s_iload_n (k := 2) (n := 2) ab_dk190_0.2.2.2.2.2.2.2.2.2.2.1 rfl
theorem ab_s190_20 : ab_Sn B 190 20 (ab_o_bin (fun a b => a + b) 21) := ab_s_iadd ab_dk190_0.2.2.2.2.2.2.2.2.2.2.2.1
theorem ab_s190_21 : ab_Sn B 190 21 (ab_o_call (some (9, 4)) [] 191 3 2 false 24) := ab_s_callV (M' := 191) (na := 1) (i := 100) (ci := 5) (N := 4) (C := RJ4) (T := TJ4) (v := false) (ab_hok_n (by decide +kernel)) (by decide +kernel) ab_dk190_0.2.2.2.2.2.2.2.2.2.2.2.2.1 rfl (by decide) (by decide +kernel) (by decide +kernel) (by decide) wf_644 wf_645 wf_646 wf_648 wf_647
theorem ab_s190_24 : ab_Sn B 190 24 (ab_o_ald 0 25) := ab_s_aload_n (k := 0) (n := 0) ab_dk190_0.2.2.2.2.2.2.2.2.2.2.2.2.2.1 rfl
theorem ab_s190_25 : ab_Sn B 190 25 (ab_o_ald 0 26) := ab_s_aload_n (k := 0) (n := 0) ab_dk190_0.2.2.2.2.2.2.2.2.2.2.2.2.2.2.1 rfl
theorem ab_s190_26 : ab_Sn B 190 26 (ab_o_geti 9 4 3 29) := ab_s_geti (i := 79) (ci := 5) (N := 4) (k := 3) (C := RJ4) (T := TJ4) ab_dk190_0.2.2.2.2.2.2.2.2.2.2.2.2.2.2.2.1 rfl (by decide) rfl wf_643
theorem ab_s190_29 : ab_Sn B 190 29 (ab_o_ald 1 30) := ab_s_aload_n (k := 1) (n := 1) ab_dk190_1.1 rfl
theorem ab_s190_30 : ab_Sn B 190 30 (ab_o_call (some (9, 4)) [] 196 3 3 false 33) := ab_s_callV (M' := 196) (na := 2) (i := 208) (ci := 5) (N := 4) (C := RJ4) (T := TJ4) (v := false) (ab_hok_n (by decide +kernel)) (by decide +kernel) ab_dk190_1.2.1 rfl (by decide) (by decide +kernel) (by decide +kernel) (by decide) wf_662 wf_663 wf_664 wf_665 wf_647
theorem ab_s190_33 : ab_Sn B 190 33 (ab_o_ald 0 34) := ab_s_aload_n (k := 0) (n := 0) ab_dk190_1.2.2.1 rfl
theorem ab_s190_34 : ab_Sn B 190 34 (ab_o_dup 35) := ab_s_dup ab_dk190_1.2.2.2.1
theorem ab_s190_35 : ab_Sn B 190 35 (ab_o_geti 9 4 3 38) := ab_s_geti (i := 79) (ci := 5) (N := 4) (k := 3) (C := RJ4) (T := TJ4) ab_dk190_1.2.2.2.2.1 rfl (by decide) rfl wf_643
theorem ab_s190_38 : ab_Sn B 190 38 (ab_o_ild 2 39) := ab_s_iload_n (k := 2) (n := 2) ab_dk190_1.2.2.2.2.2.1 rfl
theorem ab_s190_39 : ab_Sn B 190 39 (ab_o_bin (fun a b => a + b) 40) := ab_s_iadd ab_dk190_1.2.2.2.2.2.2.1
theorem ab_s190_40 : ab_Sn B 190 40 (ab_o_puti 9 4 3 false 43) := ab_s_puti (b := false) (ty := .int) (i := 79) (ci := 5) (N := 4) (k := 3) (C := RJ4) (T := TJ4) ab_dk190_1.2.2.2.2.2.2.2.1 rfl (by decide) rfl wf_643 rfl (by decide +kernel) (Or.inl ⟨rfl, rfl⟩)
theorem ab_s190_43 : ab_Sn B 190 43 (ab_o_ald 0 44) := ab_s_aload_n (k := 0) (n := 0) ab_dk190_1.2.2.2.2.2.2.2.2.1 rfl
theorem ab_s190_44 : ab_Sn B 190 44 (ab_o_aret) := ab_s_aret (ty := (.object "java/lang/AbstractStringBuilder")) ab_dk190_1.2.2.2.2.2.2.2.2.2.1 rfl (Or.inl ⟨_, rfl⟩)
set_option maxRecDepth 20000 in
theorem ab_sn190 : ab_all B 190 0 (ab_c190) := ⟨ab_s190_0, ab_s190_1, trivial, trivial, ab_s190_4, trivial, trivial, trivial, ab_s190_8, ab_s190_9, ab_s190_10, trivial, trivial, ab_s190_13, ab_s190_14, ab_s190_15, ab_s190_16, trivial, trivial, ab_s190_19, ab_s190_20, ab_s190_21, trivial, trivial, ab_s190_24, ab_s190_25, ab_s190_26, trivial, trivial, ab_s190_29, ab_s190_30, trivial, trivial, ab_s190_33, ab_s190_34, ab_s190_35, trivial, trivial, ab_s190_38, ab_s190_39, ab_s190_40, trivial, trivial, ab_s190_43, ab_s190_44, trivial⟩
theorem ab_dk191_0 : ab_dp 191 [(0, .aload_n 0, 1), (1, .getfield 15, 3), (4, .arraylength, 1), (5, .aload_n 0, 1), (6, .getfield 22, 3), (9, .ishr, 1), (10, .istore_n 2, 1), (11, .iload_n 1, 1), (12, .iload_n 2, 1), (13, .isub, 1), (14, .ifCond .le 24, 3), (17, .aload_n 0, 1), (18, .aload_n 0, 1), (19, .getfield 15, 3), (22, .aload_n 0, 1), (23, .iload_n 1, 1)] := ab_da (by decide +kernel)
theorem ab_dk191_1 : ab_dp 191 [(27, .aload_n 0, 1), (28, .getfield 22, 3), (31, .ishl, 1), (35, .putfield 15, 3), (38, .return_, 1)] := ab_da (by decide +kernel)
theorem ab_s191_0 : ab_Sn B 191 0 (ab_o_ald 0 1) := ab_s_aload_n (k := 0) (n := 0) ab_dk191_0.1 rfl
theorem ab_s191_1 : ab_Sn B 191 1 (ab_o_getr 9 4 0 4) := ab_s_getr (i := 15) (ci := 5) (N := 4) (k := 0) (C := RJ4) (T := TJ4) ab_dk191_0.2.1 rfl (by decide) rfl wf_641
theorem ab_s191_4 : ab_Sn B 191 4 (ab_o_alen 5) := ab_s_alen ab_dk191_0.2.2.1
theorem ab_s191_5 : ab_Sn B 191 5 (ab_o_ald 0 6) := ab_s_aload_n (k := 0) (n := 0) ab_dk191_0.2.2.2.1 rfl
theorem ab_s191_6 : ab_Sn B 191 6 (ab_o_geti 9 4 1 9) := ab_s_geti (i := 22) (ci := 5) (N := 4) (k := 1) (C := RJ4) (T := TJ4) ab_dk191_0.2.2.2.2.1 rfl (by decide) rfl wf_642
theorem ab_s191_9 : ab_Sn B 191 9 (ab_o_bin ab_ishr 10) := ab_s_ishr ab_dk191_0.2.2.2.2.2.1
theorem ab_s191_10 : ab_Sn B 191 10 (ab_o_ist 2 11) := ab_s_istore_n (k := 2) (n := 2) ab_dk191_0.2.2.2.2.2.2.1 rfl
theorem ab_s191_11 : ab_Sn B 191 11 (ab_o_ild 1 12) := ab_s_iload_n (k := 1) (n := 1) ab_dk191_0.2.2.2.2.2.2.2.1 rfl
theorem ab_s191_12 : ab_Sn B 191 12 (ab_o_ild 2 13) := ab_s_iload_n (k := 2) (n := 2) ab_dk191_0.2.2.2.2.2.2.2.2.1 rfl
theorem ab_s191_13 : ab_Sn B 191 13 (ab_o_bin (fun a b => a - b) 14) := ab_s_isub ab_dk191_0.2.2.2.2.2.2.2.2.2.1
theorem ab_s191_14 : ab_Sn B 191 14 (ab_o_if ab_le 38 17) := ab_s_if_le (tg := 38) (off := 24) ab_dk191_0.2.2.2.2.2.2.2.2.2.2.1 (by decide)
theorem ab_s191_17 : ab_Sn B 191 17 (ab_o_ald 0 18) := ab_s_aload_n (k := 0) (n := 0) ab_dk191_0.2.2.2.2.2.2.2.2.2.2.2.1 rfl
theorem ab_s191_18 : ab_Sn B 191 18 (ab_o_ald 0 19) := ab_s_aload_n (k := 0) (n := 0) ab_dk191_0.2.2.2.2.2.2.2.2.2.2.2.2.1 rfl
theorem ab_s191_19 : ab_Sn B 191 19 (ab_o_getr 9 4 0 22) := ab_s_getr (i := 15) (ci := 5) (N := 4) (k := 0) (C := RJ4) (T := TJ4) ab_dk191_0.2.2.2.2.2.2.2.2.2.2.2.2.2.1 rfl (by decide) rfl wf_641
theorem ab_s191_22 : ab_Sn B 191 22 (ab_o_ald 0 23) := ab_s_aload_n (k := 0) (n := 0) ab_dk191_0.2.2.2.2.2.2.2.2.2.2.2.2.2.2.1 rfl
theorem ab_s191_23 : ab_Sn B 191 23 (ab_o_ild 1 24) := ab_s_iload_n (k := 1) (n := 1) ab_dk191_0.2.2.2.2.2.2.2.2.2.2.2.2.2.2.2.1 rfl
theorem ab_s191_27 : ab_Sn B 191 27 (ab_o_ald 0 28) := ab_s_aload_n (k := 0) (n := 0) ab_dk191_1.1 rfl
theorem ab_s191_28 : ab_Sn B 191 28 (ab_o_geti 9 4 1 31) := ab_s_geti (i := 22) (ci := 5) (N := 4) (k := 1) (C := RJ4) (T := TJ4) ab_dk191_1.2.1 rfl (by decide) rfl wf_642
theorem ab_s191_31 : ab_Sn B 191 31 (ab_o_bin ab_ishl 32) := ab_s_ishl ab_dk191_1.2.2.1
theorem ab_s191_35 : ab_Sn B 191 35 (ab_o_putr 9 4 0 38) := ab_s_putr (ty := .array .byte) (i := 15) (ci := 5) (N := 4) (k := 0) (C := RJ4) (T := TJ4) ab_dk191_1.2.2.2.1 rfl (by decide) rfl wf_641 rfl (by decide +kernel) (Or.inr ⟨_, rfl⟩)
theorem ab_s191_38 : ab_Sn B 191 38 (ab_o_ret) := ab_s_ret ab_dk191_1.2.2.2.2.1 rfl
set_option maxRecDepth 20000 in
theorem ab_sn191 : ab_all B 191 0 (ab_c191) := ⟨ab_s191_0, ab_s191_1, trivial, trivial, ab_s191_4, ab_s191_5, ab_s191_6, trivial, trivial, ab_s191_9, ab_s191_10, ab_s191_11, ab_s191_12, ab_s191_13, ab_s191_14, trivial, trivial, ab_s191_17, ab_s191_18, ab_s191_19, trivial, trivial, ab_s191_22, ab_s191_23, trivial, trivial, trivial, ab_s191_27, ab_s191_28, trivial, trivial, ab_s191_31, trivial, trivial, trivial, ab_s191_35, trivial, trivial, ab_s191_38, trivial⟩
theorem ab_dk192_0 : ab_dp 192 [(0, .aload_n 0, 1), (1, .getfield 15, 3), (4, .areturn, 1)] := ab_da (by decide +kernel)
theorem ab_s192_0 : ab_Sn B 192 0 (ab_o_ald 0 1) := ab_s_aload_n (k := 0) (n := 0) ab_dk192_0.1 rfl
theorem ab_s192_1 : ab_Sn B 192 1 (ab_o_getr 9 4 0 4) := ab_s_getr (i := 15) (ci := 5) (N := 4) (k := 0) (C := RJ4) (T := TJ4) ab_dk192_0.2.1 rfl (by decide) rfl wf_641
theorem ab_s192_4 : ab_Sn B 192 4 (ab_o_aret) := ab_s_aret (ty := (.array .byte)) ab_dk192_0.2.2.1 rfl (Or.inr ⟨_, rfl⟩)
set_option maxRecDepth 20000 in
theorem ab_sn192 : ab_all B 192 0 (ab_c192) := ⟨ab_s192_0, ab_s192_1, trivial, trivial, ab_s192_4, trivial⟩
theorem ab_dk193_0 : ab_dp 193 [(0, .getstatic 18, 3), (3, .ifCond .eq 18, 3), (6, .aload_n 0, 1), (7, .getfield 22, 3), (10, .aload_n 1, 1), (11, .invokevirtual 40, 3), (14, .if_icmp .eq 7, 3), (17, .aload_n 0, 1), (21, .return_, 1)] := ab_da (by decide +kernel)
theorem ab_s193_0 : ab_Sn B 193 0 (ab_o_const 1 3) := ab_s_cmp (i := 18) ab_dk193_0.1 wf_639
theorem ab_s193_3 : ab_Sn B 193 3 (ab_o_if ab_eq 21 6) := ab_s_if_eq (tg := 21) (off := 18) ab_dk193_0.2.1 (by decide)
theorem ab_s193_6 : ab_Sn B 193 6 (ab_o_ald 0 7) := ab_s_aload_n (k := 0) (n := 0) ab_dk193_0.2.2.1 rfl
theorem ab_s193_7 : ab_Sn B 193 7 (ab_o_geti 9 4 1 10) := ab_s_geti (i := 22) (ci := 5) (N := 4) (k := 1) (C := RJ4) (T := TJ4) ab_dk193_0.2.2.2.1 rfl (by decide) rfl wf_642
theorem ab_s193_10 : ab_Sn B 193 10 (ab_o_ald 1 11) := ab_s_aload_n (k := 1) (n := 1) ab_dk193_0.2.2.2.2.1 rfl
theorem ab_s193_11 : ab_Sn B 193 11 (ab_o_call (some (1000, 4)) [] 199 1 1 true 14) := ab_s_callT (M' := 199) (na := 0) (i := 40) (v := true) (ab_hok_n (by decide +kernel)) (by decide +kernel) ab_dk193_0.2.2.2.2.2.1 (by decide +kernel) (by decide +kernel) (by decide) wf_666 wf_667 wf_668 wf_669 wf_661
theorem ab_s193_14 : ab_Sn B 193 14 (ab_o_icmp ab_eq 21 17) := ab_s_icmp_eq (tg := 21) (off := 7) ab_dk193_0.2.2.2.2.2.2.1 (by decide)
theorem ab_s193_17 : ab_Sn B 193 17 (ab_o_ald 0 18) := ab_s_aload_n (k := 0) (n := 0) ab_dk193_0.2.2.2.2.2.2.2.1 rfl
theorem ab_s193_21 : ab_Sn B 193 21 (ab_o_ret) := ab_s_ret ab_dk193_0.2.2.2.2.2.2.2.2.1 rfl
set_option maxRecDepth 20000 in
theorem ab_sn193 : ab_all B 193 0 (ab_c193) := ⟨ab_s193_0, trivial, trivial, ab_s193_3, trivial, trivial, ab_s193_6, ab_s193_7, trivial, trivial, ab_s193_10, ab_s193_11, trivial, trivial, ab_s193_14, trivial, trivial, ab_s193_17, trivial, trivial, trivial, ab_s193_21, trivial⟩
theorem ab_dk194_0 : ab_dp 194 [(0, .getstatic 18, 3), (3, .ifCond .eq 14, 3), (6, .aload_n 0, 1), (7, .getfield 22, 3), (10, .ifCond .ne 7, 3), (13, .iconst 1, 1), (14, .goto 4, 3), (17, .iconst 0, 1), (18, .ireturn, 1)] := ab_da (by decide +kernel)
theorem ab_s194_0 : ab_Sn B 194 0 (ab_o_const 1 3) := ab_s_cmp (i := 18) ab_dk194_0.1 wf_639
theorem ab_s194_3 : ab_Sn B 194 3 (ab_o_if ab_eq 17 6) := ab_s_if_eq (tg := 17) (off := 14) ab_dk194_0.2.1 (by decide)
theorem ab_s194_6 : ab_Sn B 194 6 (ab_o_ald 0 7) := ab_s_aload_n (k := 0) (n := 0) ab_dk194_0.2.2.1 rfl
theorem ab_s194_7 : ab_Sn B 194 7 (ab_o_geti 9 4 1 10) := ab_s_geti (i := 22) (ci := 5) (N := 4) (k := 1) (C := RJ4) (T := TJ4) ab_dk194_0.2.2.2.1 rfl (by decide) rfl wf_642
theorem ab_s194_10 : ab_Sn B 194 10 (ab_o_if ab_ne 17 13) := ab_s_if_ne (tg := 17) (off := 7) ab_dk194_0.2.2.2.2.1 (by decide)
theorem ab_s194_13 : ab_Sn B 194 13 (ab_o_const 1 14) := ab_s_iconst (n := 1) ab_dk194_0.2.2.2.2.2.1 rfl
theorem ab_s194_14 : ab_Sn B 194 14 (ab_o_goto 18) := ab_s_goto (tg := 18) (off := 4) ab_dk194_0.2.2.2.2.2.2.1 (by decide)
theorem ab_s194_17 : ab_Sn B 194 17 (ab_o_const 0 18) := ab_s_iconst (n := 0) ab_dk194_0.2.2.2.2.2.2.2.1 rfl
theorem ab_s194_18 : ab_Sn B 194 18 (ab_o_iret true) := ab_s_iret (b := true) (ty := .boolean) ab_dk194_0.2.2.2.2.2.2.2.2.1 rfl (Or.inr (Or.inl ⟨rfl, rfl⟩))
set_option maxRecDepth 20000 in
theorem ab_sn194 : ab_all B 194 0 (ab_c194) := ⟨ab_s194_0, trivial, trivial, ab_s194_3, trivial, trivial, ab_s194_6, ab_s194_7, trivial, trivial, ab_s194_10, trivial, trivial, ab_s194_13, ab_s194_14, trivial, trivial, ab_s194_17, ab_s194_18, trivial⟩
theorem ab_dk195_0 : ab_dp 195 [(0, .aload_n 0, 1), (1, .getfield 79, 3), (4, .ireturn, 1)] := ab_da (by decide +kernel)
theorem ab_s195_0 : ab_Sn B 195 0 (ab_o_ald 0 1) := ab_s_aload_n (k := 0) (n := 0) ab_dk195_0.1 rfl
theorem ab_s195_1 : ab_Sn B 195 1 (ab_o_geti 9 4 3 4) := ab_s_geti (i := 79) (ci := 5) (N := 4) (k := 3) (C := RJ4) (T := TJ4) ab_dk195_0.2.1 rfl (by decide) rfl wf_643
theorem ab_s195_4 : ab_Sn B 195 4 (ab_o_iret false) := ab_s_iret (b := false) (ty := .int) ab_dk195_0.2.2.1 rfl (Or.inl ⟨rfl, rfl⟩)
set_option maxRecDepth 20000 in
theorem ab_sn195 : ab_all B 195 0 (ab_c195) := ⟨ab_s195_0, ab_s195_1, trivial, trivial, ab_s195_4, trivial⟩
theorem ab_dk196_0 : ab_dp 196 [(0, .aload_n 0, 1), (1, .aload_n 2, 1), (2, .invokevirtual 397, 3), (5, .aload_n 2, 1), (6, .aload_n 0, 1), (7, .getfield 15, 3), (10, .iload_n 1, 1), (11, .aload_n 0, 1), (12, .getfield 22, 3), (15, .invokevirtual 399, 3), (18, .return_, 1)] := ab_da (by decide +kernel)
theorem ab_s196_0 : ab_Sn B 196 0 (ab_o_ald 0 1) := ab_s_aload_n (k := 0) (n := 0) ab_dk196_0.1 rfl
theorem ab_s196_1 : ab_Sn B 196 1 (ab_o_ald 2 2) := ab_s_aload_n (k := 2) (n := 2) ab_dk196_0.2.1 rfl
theorem ab_s196_2 : ab_Sn B 196 2 (ab_o_call (some (9, 4)) [] 193 2 2 false 5) := ab_s_callV (M' := 193) (na := 1) (i := 397) (ci := 5) (N := 4) (C := RJ4) (T := TJ4) (v := false) (ab_hok_n (by decide +kernel)) (by decide +kernel) ab_dk196_0.2.2.1 rfl (by decide) (by decide +kernel) (by decide +kernel) (by decide) wf_670 wf_671 wf_672 wf_673 wf_647
theorem ab_s196_5 : ab_Sn B 196 5 (ab_o_ald 2 6) := ab_s_aload_n (k := 2) (n := 2) ab_dk196_0.2.2.2.1 rfl
theorem ab_s196_6 : ab_Sn B 196 6 (ab_o_ald 0 7) := ab_s_aload_n (k := 0) (n := 0) ab_dk196_0.2.2.2.2.1 rfl
theorem ab_s196_7 : ab_Sn B 196 7 (ab_o_getr 9 4 0 10) := ab_s_getr (i := 15) (ci := 5) (N := 4) (k := 0) (C := RJ4) (T := TJ4) ab_dk196_0.2.2.2.2.2.1 rfl (by decide) rfl wf_641
theorem ab_s196_10 : ab_Sn B 196 10 (ab_o_ild 1 11) := ab_s_iload_n (k := 1) (n := 1) ab_dk196_0.2.2.2.2.2.2.1 rfl
theorem ab_s196_11 : ab_Sn B 196 11 (ab_o_ald 0 12) := ab_s_aload_n (k := 0) (n := 0) ab_dk196_0.2.2.2.2.2.2.2.1 rfl
theorem ab_s196_12 : ab_Sn B 196 12 (ab_o_geti 9 4 1 15) := ab_s_geti (i := 22) (ci := 5) (N := 4) (k := 1) (C := RJ4) (T := TJ4) ab_dk196_0.2.2.2.2.2.2.2.2.1 rfl (by decide) rfl wf_642
theorem ab_s196_15 : ab_Sn B 196 15 (ab_o_call (some (1000, 4)) [] 200 4 4 false 18) := ab_s_callT (M' := 200) (na := 3) (i := 399) (v := false) (ab_hok_n (by decide +kernel)) (by decide +kernel) ab_dk196_0.2.2.2.2.2.2.2.2.2.1 (by decide +kernel) (by decide +kernel) (by decide) wf_674 wf_675 wf_676 wf_677 wf_661
theorem ab_s196_18 : ab_Sn B 196 18 (ab_o_ret) := ab_s_ret ab_dk196_0.2.2.2.2.2.2.2.2.2.2.1 rfl
set_option maxRecDepth 20000 in
theorem ab_sn196 : ab_all B 196 0 (ab_c196) := ⟨ab_s196_0, ab_s196_1, ab_s196_2, trivial, trivial, ab_s196_5, ab_s196_6, ab_s196_7, trivial, trivial, ab_s196_10, ab_s196_11, ab_s196_12, trivial, trivial, ab_s196_15, trivial, trivial, ab_s196_18, trivial⟩
theorem ab_dk197_0 : ab_dp 197 [(0, .aload_n 0, 1), (1, .invokespecial 1, 3), (4, .aload_n 1, 1), (5, .invokevirtual 552, 3), (8, .astore_n 3, 1), (9, .aload_n 1, 1), (10, .invokevirtual 549, 3), (13, .istore 4, 2), (15, .aload_n 1, 1), (16, .invokevirtual 1047, 3), (19, .ifCond .eq 22, 3), (22, .aload_n 0, 1), (23, .iconst 0, 1), (24, .putfield 15, 3), (27, .aload_n 0, 1), (28, .aload_n 3, 1)] := ab_da (by decide +kernel)
theorem ab_dk197_1 : ab_dp 197 [(29, .iconst 0, 1), (30, .iload 4, 2), (32, .invokestatic 54, 3), (35, .putfield 9, 3), (38, .goto 59, 3), (41, .getstatic 38, 3), (44, .ifCond .eq 35, 3), (47, .aload_n 1, 1), (48, .getfield 1048, 3), (51, .ifCond .eq 28, 3), (54, .aload_n 0, 1), (55, .aload_n 3, 1), (56, .iconst 0, 1), (57, .iload 4, 2), (62, .putfield 9, 3), (65, .aload_n 0, 1)] := ab_da (by decide +kernel)
theorem ab_dk197_2 : ab_dp 197 [(66, .aload_n 0, 1), (70, .iload 4, 2), (75, .putfield 15, 3), (78, .return_, 1), (79, .aload_n 0, 1), (80, .iconst 1, 1), (81, .putfield 15, 3), (84, .aload_n 0, 1), (85, .aload_n 3, 1), (86, .iconst 0, 1), (87, .iload 4, 2), (89, .iconst 1, 1), (90, .ishl, 1), (91, .invokestatic 54, 3), (94, .putfield 9, 3), (97, .return_, 1)] := ab_da (by decide +kernel)
theorem ab_s197_0 : ab_Sn B 197 0 (ab_o_ald 0 1) := ab_s_aload_n (k := 0) (n := 0) ab_dk197_0.1 rfl
theorem ab_s197_1 : ab_Sn B 197 1 (ab_o_obj 4) := ab_s_obj (i := 1) ab_dk197_0.2.1 wf_678 wf_1 wf_2
theorem ab_s197_4 : ab_Sn B 197 4 (ab_o_ald 1 5) := ab_s_aload_n (k := 1) (n := 1) ab_dk197_0.2.2.1 rfl
theorem ab_s197_5 : ab_Sn B 197 5 (ab_o_call (some (9, 4)) [] 192 1 1 true 8) := ab_s_callV (M' := 192) (na := 0) (i := 552) (ci := 5) (N := 4) (C := RJ4) (T := TJ4) (v := true) (ab_hok_n (by decide +kernel)) (by decide +kernel) ab_dk197_0.2.2.2.1 rfl (by decide) (by decide +kernel) (by decide +kernel) (by decide) wf_679 wf_680 wf_681 wf_682 wf_647
theorem ab_s197_8 : ab_Sn B 197 8 (ab_o_ast 3 9) := ab_s_astore_n (k := 3) (n := 3) ab_dk197_0.2.2.2.2.1 rfl
theorem ab_s197_9 : ab_Sn B 197 9 (ab_o_ald 1 10) := ab_s_aload_n (k := 1) (n := 1) ab_dk197_0.2.2.2.2.2.1 rfl
theorem ab_s197_10 : ab_Sn B 197 10 (ab_o_call (some (9, 4)) [] 206 1 1 true 13) := ab_s_callO (M' := 206) (na := 0) (i := 549) (ci := 5) (N := 4) (C := RJ4) (T := TJ4) (x := ab_my 195) (v := true) (ab_hok_n (by decide +kernel)) (by decide +kernel) ab_dk197_0.2.2.2.2.2.2.1 rfl (by decide) (by decide +kernel) (by decide +kernel) (by decide) wf_684 wf_685 wf_686 wf_687 wf_378 wf_688 wf_689 wf_690
theorem ab_s197_13 : ab_Sn B 197 13 (ab_o_ist 4 15) := ab_s_istore (k := 4) ab_dk197_0.2.2.2.2.2.2.2.1
theorem ab_s197_15 : ab_Sn B 197 15 (ab_o_ald 1 16) := ab_s_aload_n (k := 1) (n := 1) ab_dk197_0.2.2.2.2.2.2.2.2.1 rfl
theorem ab_s197_16 : ab_Sn B 197 16 (ab_o_call (some (9, 4)) [] 194 1 1 true 19) := ab_s_callV (M' := 194) (na := 0) (i := 1047) (ci := 5) (N := 4) (C := RJ4) (T := TJ4) (v := true) (ab_hok_n (by decide +kernel)) (by decide +kernel) ab_dk197_0.2.2.2.2.2.2.2.2.2.1 rfl (by decide) (by decide +kernel) (by decide +kernel) (by decide) wf_649 wf_691 wf_651 wf_652 wf_647
theorem ab_s197_19 : ab_Sn B 197 19 (ab_o_if ab_eq 41 22) := ab_s_if_eq (tg := 41) (off := 22) ab_dk197_0.2.2.2.2.2.2.2.2.2.2.1 (by decide)
theorem ab_s197_22 : ab_Sn B 197 22 (ab_o_ald 0 23) := ab_s_aload_n (k := 0) (n := 0) ab_dk197_0.2.2.2.2.2.2.2.2.2.2.2.1 rfl
theorem ab_s197_23 : ab_Sn B 197 23 (ab_o_const 0 24) := ab_s_iconst (n := 0) ab_dk197_0.2.2.2.2.2.2.2.2.2.2.2.2.1 rfl
theorem ab_s197_24 : ab_Sn B 197 24 (ab_o_puti 10 4 1 true 27) := ab_s_putiF (b := true) (ty := .byte) (i := 15) (ci := 6) (N := 4) (k := 1) (C := RJ0) (T := TJ0) ab_dk197_0.2.2.2.2.2.2.2.2.2.2.2.2.2.1 rfl (by decide) rfl wf_692 rfl rfl rfl (by decide +kernel) (Or.inr (Or.inr ⟨rfl, rfl⟩))
theorem ab_s197_27 : ab_Sn B 197 27 (ab_o_ald 0 28) := ab_s_aload_n (k := 0) (n := 0) ab_dk197_0.2.2.2.2.2.2.2.2.2.2.2.2.2.2.1 rfl
theorem ab_s197_28 : ab_Sn B 197 28 (ab_o_ald 3 29) := ab_s_aload_n (k := 3) (n := 3) ab_dk197_0.2.2.2.2.2.2.2.2.2.2.2.2.2.2.2.1 rfl
theorem ab_s197_29 : ab_Sn B 197 29 (ab_o_const 0 30) := ab_s_iconst (n := 0) ab_dk197_1.1 rfl
theorem ab_s197_30 : ab_Sn B 197 30 (ab_o_ild 4 32) := ab_s_iload (k := 4) ab_dk197_1.2.1
theorem ab_s197_32 : ab_Sn B 197 32 (ab_o_call none [] 208 3 3 true 35) := ab_s_callS (M' := 208) (na := 3) (i := 54) (v := true) (ab_hok_n (by decide +kernel)) (by decide +kernel) ab_dk197_1.2.2.1 (by decide +kernel) (by decide +kernel) (by decide) wf_693 wf_694 wf_695 wf_696
theorem ab_s197_35 : ab_Sn B 197 35 (ab_o_putr 10 4 0 38) := ab_s_putrF (ty := .array .byte) (i := 9) (ci := 6) (N := 4) (k := 0) (C := RJ0) (T := TJ0) ab_dk197_1.2.2.2.1 rfl (by decide) rfl wf_697 rfl rfl rfl (by decide +kernel) (Or.inr ⟨_, rfl⟩)
theorem ab_s197_38 : ab_Sn B 197 38 (ab_o_goto 97) := ab_s_goto (tg := 97) (off := 59) ab_dk197_1.2.2.2.2.1 (by decide)
theorem ab_s197_41 : ab_Sn B 197 41 (ab_o_const 1 44) := ab_s_cmp (i := 38) ab_dk197_1.2.2.2.2.2.1 wf_698
theorem ab_s197_44 : ab_Sn B 197 44 (ab_o_if ab_eq 79 47) := ab_s_if_eq (tg := 79) (off := 35) ab_dk197_1.2.2.2.2.2.2.1 (by decide)
theorem ab_s197_47 : ab_Sn B 197 47 (ab_o_ald 1 48) := ab_s_aload_n (k := 1) (n := 1) ab_dk197_1.2.2.2.2.2.2.2.1 rfl
theorem ab_s197_48 : ab_Sn B 197 48 (ab_o_geti 9 4 2 51) := ab_s_geti (i := 1048) (ci := 5) (N := 4) (k := 2) (C := RJ4) (T := TJ4) ab_dk197_1.2.2.2.2.2.2.2.2.1 rfl (by decide) rfl wf_699
theorem ab_s197_51 : ab_Sn B 197 51 (ab_o_if ab_eq 79 54) := ab_s_if_eq (tg := 79) (off := 28) ab_dk197_1.2.2.2.2.2.2.2.2.2.1 (by decide)
theorem ab_s197_54 : ab_Sn B 197 54 (ab_o_ald 0 55) := ab_s_aload_n (k := 0) (n := 0) ab_dk197_1.2.2.2.2.2.2.2.2.2.2.1 rfl
theorem ab_s197_55 : ab_Sn B 197 55 (ab_o_ald 3 56) := ab_s_aload_n (k := 3) (n := 3) ab_dk197_1.2.2.2.2.2.2.2.2.2.2.2.1 rfl
theorem ab_s197_56 : ab_Sn B 197 56 (ab_o_const 0 57) := ab_s_iconst (n := 0) ab_dk197_1.2.2.2.2.2.2.2.2.2.2.2.2.1 rfl
theorem ab_s197_57 : ab_Sn B 197 57 (ab_o_ild 4 59) := ab_s_iload (k := 4) ab_dk197_1.2.2.2.2.2.2.2.2.2.2.2.2.2.1
theorem ab_s197_62 : ab_Sn B 197 62 (ab_o_putr 10 4 0 65) := ab_s_putrF (ty := .array .byte) (i := 9) (ci := 6) (N := 4) (k := 0) (C := RJ0) (T := TJ0) ab_dk197_1.2.2.2.2.2.2.2.2.2.2.2.2.2.2.1 rfl (by decide) rfl wf_697 rfl rfl rfl (by decide +kernel) (Or.inr ⟨_, rfl⟩)
theorem ab_s197_65 : ab_Sn B 197 65 (ab_o_ald 0 66) := ab_s_aload_n (k := 0) (n := 0) ab_dk197_1.2.2.2.2.2.2.2.2.2.2.2.2.2.2.2.1 rfl
theorem ab_s197_66 : ab_Sn B 197 66 (ab_o_ald 0 67) := ab_s_aload_n (k := 0) (n := 0) ab_dk197_2.1 rfl
theorem ab_s197_70 : ab_Sn B 197 70 (ab_o_ild 4 72) := ab_s_iload (k := 4) ab_dk197_2.2.1
theorem ab_s197_75 : ab_Sn B 197 75 (ab_o_puti 10 4 1 true 78) := ab_s_putiF (b := true) (ty := .byte) (i := 15) (ci := 6) (N := 4) (k := 1) (C := RJ0) (T := TJ0) ab_dk197_2.2.2.1 rfl (by decide) rfl wf_692 rfl rfl rfl (by decide +kernel) (Or.inr (Or.inr ⟨rfl, rfl⟩))
theorem ab_s197_78 : ab_Sn B 197 78 (ab_o_ret) := ab_s_ret ab_dk197_2.2.2.2.1 rfl
theorem ab_s197_79 : ab_Sn B 197 79 (ab_o_ald 0 80) := ab_s_aload_n (k := 0) (n := 0) ab_dk197_2.2.2.2.2.1 rfl
theorem ab_s197_80 : ab_Sn B 197 80 (ab_o_const 1 81) := ab_s_iconst (n := 1) ab_dk197_2.2.2.2.2.2.1 rfl
theorem ab_s197_81 : ab_Sn B 197 81 (ab_o_puti 10 4 1 true 84) := ab_s_putiF (b := true) (ty := .byte) (i := 15) (ci := 6) (N := 4) (k := 1) (C := RJ0) (T := TJ0) ab_dk197_2.2.2.2.2.2.2.1 rfl (by decide) rfl wf_692 rfl rfl rfl (by decide +kernel) (Or.inr (Or.inr ⟨rfl, rfl⟩))
theorem ab_s197_84 : ab_Sn B 197 84 (ab_o_ald 0 85) := ab_s_aload_n (k := 0) (n := 0) ab_dk197_2.2.2.2.2.2.2.2.1 rfl
theorem ab_s197_85 : ab_Sn B 197 85 (ab_o_ald 3 86) := ab_s_aload_n (k := 3) (n := 3) ab_dk197_2.2.2.2.2.2.2.2.2.1 rfl
theorem ab_s197_86 : ab_Sn B 197 86 (ab_o_const 0 87) := ab_s_iconst (n := 0) ab_dk197_2.2.2.2.2.2.2.2.2.2.1 rfl
theorem ab_s197_87 : ab_Sn B 197 87 (ab_o_ild 4 89) := ab_s_iload (k := 4) ab_dk197_2.2.2.2.2.2.2.2.2.2.2.1
theorem ab_s197_89 : ab_Sn B 197 89 (ab_o_const 1 90) := ab_s_iconst (n := 1) ab_dk197_2.2.2.2.2.2.2.2.2.2.2.2.1 rfl
theorem ab_s197_90 : ab_Sn B 197 90 (ab_o_bin ab_ishl 91) := ab_s_ishl ab_dk197_2.2.2.2.2.2.2.2.2.2.2.2.2.1
theorem ab_s197_91 : ab_Sn B 197 91 (ab_o_call none [] 208 3 3 true 94) := ab_s_callS (M' := 208) (na := 3) (i := 54) (v := true) (ab_hok_n (by decide +kernel)) (by decide +kernel) ab_dk197_2.2.2.2.2.2.2.2.2.2.2.2.2.2.1 (by decide +kernel) (by decide +kernel) (by decide) wf_693 wf_694 wf_695 wf_696
theorem ab_s197_94 : ab_Sn B 197 94 (ab_o_putr 10 4 0 97) := ab_s_putrF (ty := .array .byte) (i := 9) (ci := 6) (N := 4) (k := 0) (C := RJ0) (T := TJ0) ab_dk197_2.2.2.2.2.2.2.2.2.2.2.2.2.2.2.1 rfl (by decide) rfl wf_697 rfl rfl rfl (by decide +kernel) (Or.inr ⟨_, rfl⟩)
theorem ab_s197_97 : ab_Sn B 197 97 (ab_o_ret) := ab_s_ret ab_dk197_2.2.2.2.2.2.2.2.2.2.2.2.2.2.2.2.1 rfl
set_option maxRecDepth 20000 in
theorem ab_sn197 : ab_all B 197 0 (ab_c197) := ⟨ab_s197_0, ab_s197_1, trivial, trivial, ab_s197_4, ab_s197_5, trivial, trivial, ab_s197_8, ab_s197_9, ab_s197_10, trivial, trivial, ab_s197_13, trivial, ab_s197_15, ab_s197_16, trivial, trivial, ab_s197_19, trivial, trivial, ab_s197_22, ab_s197_23, ab_s197_24, trivial, trivial, ab_s197_27, ab_s197_28, ab_s197_29, ab_s197_30, trivial, ab_s197_32, trivial, trivial, ab_s197_35, trivial, trivial, ab_s197_38, trivial, trivial, ab_s197_41, trivial, trivial, ab_s197_44, trivial, trivial, ab_s197_47, ab_s197_48, trivial, trivial, ab_s197_51, trivial, trivial, ab_s197_54, ab_s197_55, ab_s197_56, ab_s197_57, trivial, trivial, trivial, trivial, ab_s197_62, trivial, trivial, ab_s197_65, ab_s197_66, trivial, trivial, trivial, ab_s197_70, trivial, trivial, trivial, trivial, ab_s197_75, trivial, trivial, ab_s197_78, ab_s197_79, ab_s197_80, ab_s197_81, trivial, trivial, ab_s197_84, ab_s197_85, ab_s197_86, ab_s197_87, trivial, ab_s197_89, ab_s197_90, ab_s197_91, trivial, trivial, ab_s197_94, trivial, trivial, ab_s197_97, trivial⟩
theorem ab_dk198_0 : ab_dp 198 [(0, .aload_n 0, 1), (1, .aload_n 1, 1), (2, .aconst_null, 1), (3, .invokespecial 489, 3), (6, .return_, 1)] := ab_da (by decide +kernel)
theorem ab_s198_0 : ab_Sn B 198 0 (ab_o_ald 0 1) := ab_s_aload_n (k := 0) (n := 0) ab_dk198_0.1 rfl
theorem ab_s198_1 : ab_Sn B 198 1 (ab_o_ald 1 2) := ab_s_aload_n (k := 1) (n := 1) ab_dk198_0.2.1 rfl
theorem ab_s198_2 : ab_Sn B 198 2 (ab_o_null 3) := ab_s_null ab_dk198_0.2.2.1
theorem ab_s198_3 : ab_Sn B 198 3 (ab_o_call (some (10, 4)) [] 197 5 3 false 6) := ab_s_callI (M' := 197) (na := 2) (i := 489) (sh := (10, 4)) (by decide) (ab_hok_n (by decide +kernel)) (by decide +kernel) ab_dk198_0.2.2.2.1 (by decide +kernel) (by decide +kernel) (by decide) rfl rfl wf_701 wf_703 wf_702 wf_661
theorem ab_s198_6 : ab_Sn B 198 6 (ab_o_ret) := ab_s_ret ab_dk198_0.2.2.2.2.1 rfl
set_option maxRecDepth 20000 in
theorem ab_sn198 : ab_all B 198 0 (ab_c198) := ⟨ab_s198_0, ab_s198_1, ab_s198_2, ab_s198_3, trivial, trivial, ab_s198_6, trivial⟩
theorem ab_dk199_0 : ab_dp 199 [(0, .getstatic 38, 3), (3, .ifCond .eq 10, 3), (6, .aload_n 0, 1), (7, .getfield 15, 3), (10, .goto 4, 3), (13, .iconst 1, 1), (14, .ireturn, 1)] := ab_da (by decide +kernel)
theorem ab_s199_0 : ab_Sn B 199 0 (ab_o_const 1 3) := ab_s_cmp (i := 38) ab_dk199_0.1 wf_698
theorem ab_s199_3 : ab_Sn B 199 3 (ab_o_if ab_eq 13 6) := ab_s_if_eq (tg := 13) (off := 10) ab_dk199_0.2.1 (by decide)
theorem ab_s199_6 : ab_Sn B 199 6 (ab_o_ald 0 7) := ab_s_aload_n (k := 0) (n := 0) ab_dk199_0.2.2.1 rfl
theorem ab_s199_7 : ab_Sn B 199 7 (ab_o_txc 4 10) := ab_s_txc (i := 15) ab_dk199_0.2.2.2.1 wf_704
theorem ab_s199_10 : ab_Sn B 199 10 (ab_o_goto 14) := ab_s_goto (tg := 14) (off := 4) ab_dk199_0.2.2.2.2.1 (by decide)
theorem ab_s199_13 : ab_Sn B 199 13 (ab_o_const 1 14) := ab_s_iconst (n := 1) ab_dk199_0.2.2.2.2.2.1 rfl
theorem ab_s199_14 : ab_Sn B 199 14 (ab_o_iret true) := ab_s_iret (b := true) (ty := .byte) ab_dk199_0.2.2.2.2.2.2.1 rfl (Or.inr (Or.inr ⟨rfl, rfl⟩))
set_option maxRecDepth 20000 in
theorem ab_sn199 : ab_all B 199 0 (ab_c199) := ⟨ab_s199_0, trivial, trivial, ab_s199_3, trivial, trivial, ab_s199_6, ab_s199_7, trivial, trivial, ab_s199_10, trivial, trivial, ab_s199_13, ab_s199_14, trivial⟩
theorem ab_dk200_0 : ab_dp 200 [(0, .aload_n 0, 1), (1, .invokevirtual 335, 3), (4, .iload_n 3, 1), (5, .if_icmp .ne 23, 3), (8, .aload_n 0, 1), (9, .getfield 9, 3), (12, .iconst 0, 1), (13, .aload_n 1, 1), (14, .iload_n 2, 1), (15, .iload_n 3, 1), (16, .ishl, 1), (17, .aload_n 0, 1), (18, .getfield 9, 3), (21, .arraylength, 1), (22, .invokestatic 212, 3), (25, .goto 18, 3)] := ab_da (by decide +kernel)
theorem ab_dk200_1 : ab_dp 200 [(28, .aload_n 0, 1), (29, .getfield 9, 3), (32, .iconst 0, 1), (33, .aload_n 1, 1), (34, .iload_n 2, 1), (35, .aload_n 0, 1), (36, .getfield 9, 3), (39, .arraylength, 1), (43, .return_, 1)] := ab_da (by decide +kernel)
theorem ab_s200_0 : ab_Sn B 200 0 (ab_o_ald 0 1) := ab_s_aload_n (k := 0) (n := 0) ab_dk200_0.1 rfl
theorem ab_s200_1 : ab_Sn B 200 1 (ab_o_call (some (1000, 4)) [] 199 1 1 true 4) := ab_s_callT (M' := 199) (na := 0) (i := 335) (v := true) (ab_hok_n (by decide +kernel)) (by decide +kernel) ab_dk200_0.2.1 (by decide +kernel) (by decide +kernel) (by decide) wf_666 wf_705 wf_668 wf_669 wf_661
theorem ab_s200_4 : ab_Sn B 200 4 (ab_o_ild 3 5) := ab_s_iload_n (k := 3) (n := 3) ab_dk200_0.2.2.1 rfl
theorem ab_s200_5 : ab_Sn B 200 5 (ab_o_icmp ab_ne 28 8) := ab_s_icmp_ne (tg := 28) (off := 23) ab_dk200_0.2.2.2.1 (by decide)
theorem ab_s200_8 : ab_Sn B 200 8 (ab_o_ald 0 9) := ab_s_aload_n (k := 0) (n := 0) ab_dk200_0.2.2.2.2.1 rfl
theorem ab_s200_9 : ab_Sn B 200 9 (ab_o_txv 4 12) := ab_s_txv (i := 9) ab_dk200_0.2.2.2.2.2.1 wf_700
theorem ab_s200_12 : ab_Sn B 200 12 (ab_o_const 0 13) := ab_s_iconst (n := 0) ab_dk200_0.2.2.2.2.2.2.1 rfl
theorem ab_s200_13 : ab_Sn B 200 13 (ab_o_ald 1 14) := ab_s_aload_n (k := 1) (n := 1) ab_dk200_0.2.2.2.2.2.2.2.1 rfl
theorem ab_s200_14 : ab_Sn B 200 14 (ab_o_ild 2 15) := ab_s_iload_n (k := 2) (n := 2) ab_dk200_0.2.2.2.2.2.2.2.2.1 rfl
theorem ab_s200_15 : ab_Sn B 200 15 (ab_o_ild 3 16) := ab_s_iload_n (k := 3) (n := 3) ab_dk200_0.2.2.2.2.2.2.2.2.2.1 rfl
theorem ab_s200_16 : ab_Sn B 200 16 (ab_o_bin ab_ishl 17) := ab_s_ishl ab_dk200_0.2.2.2.2.2.2.2.2.2.2.1
theorem ab_s200_17 : ab_Sn B 200 17 (ab_o_ald 0 18) := ab_s_aload_n (k := 0) (n := 0) ab_dk200_0.2.2.2.2.2.2.2.2.2.2.2.1 rfl
theorem ab_s200_18 : ab_Sn B 200 18 (ab_o_txv 4 21) := ab_s_txv (i := 9) ab_dk200_0.2.2.2.2.2.2.2.2.2.2.2.2.1 wf_700
theorem ab_s200_21 : ab_Sn B 200 21 (ab_o_txn 4 22) := ab_s_txn ab_dk200_0.2.2.2.2.2.2.2.2.2.2.2.2.2.1
theorem ab_s200_22 : ab_Sn B 200 22 (ab_o_cpt 4 25) := ab_s_cpt (i := 212) ab_dk200_0.2.2.2.2.2.2.2.2.2.2.2.2.2.2.1 wf_706 wf_707 wf_708 wf_709
theorem ab_s200_25 : ab_Sn B 200 25 (ab_o_goto 43) := ab_s_goto (tg := 43) (off := 18) ab_dk200_0.2.2.2.2.2.2.2.2.2.2.2.2.2.2.2.1 (by decide)
theorem ab_s200_28 : ab_Sn B 200 28 (ab_o_ald 0 29) := ab_s_aload_n (k := 0) (n := 0) ab_dk200_1.1 rfl
theorem ab_s200_29 : ab_Sn B 200 29 (ab_o_txv 4 32) := ab_s_txv (i := 9) ab_dk200_1.2.1 wf_700
theorem ab_s200_32 : ab_Sn B 200 32 (ab_o_const 0 33) := ab_s_iconst (n := 0) ab_dk200_1.2.2.1 rfl
theorem ab_s200_33 : ab_Sn B 200 33 (ab_o_ald 1 34) := ab_s_aload_n (k := 1) (n := 1) ab_dk200_1.2.2.2.1 rfl
theorem ab_s200_34 : ab_Sn B 200 34 (ab_o_ild 2 35) := ab_s_iload_n (k := 2) (n := 2) ab_dk200_1.2.2.2.2.1 rfl
theorem ab_s200_35 : ab_Sn B 200 35 (ab_o_ald 0 36) := ab_s_aload_n (k := 0) (n := 0) ab_dk200_1.2.2.2.2.2.1 rfl
theorem ab_s200_36 : ab_Sn B 200 36 (ab_o_txv 4 39) := ab_s_txv (i := 9) ab_dk200_1.2.2.2.2.2.2.1 wf_700
theorem ab_s200_39 : ab_Sn B 200 39 (ab_o_txn 4 40) := ab_s_txn ab_dk200_1.2.2.2.2.2.2.2.1
theorem ab_s200_43 : ab_Sn B 200 43 (ab_o_ret) := ab_s_ret ab_dk200_1.2.2.2.2.2.2.2.2.1 rfl
set_option maxRecDepth 20000 in
theorem ab_sn200 : ab_all B 200 0 (ab_c200) := ⟨ab_s200_0, ab_s200_1, trivial, trivial, ab_s200_4, ab_s200_5, trivial, trivial, ab_s200_8, ab_s200_9, trivial, trivial, ab_s200_12, ab_s200_13, ab_s200_14, ab_s200_15, ab_s200_16, ab_s200_17, ab_s200_18, trivial, trivial, ab_s200_21, ab_s200_22, trivial, trivial, ab_s200_25, trivial, trivial, ab_s200_28, ab_s200_29, trivial, trivial, ab_s200_32, ab_s200_33, ab_s200_34, ab_s200_35, ab_s200_36, trivial, trivial, ab_s200_39, trivial, trivial, trivial, ab_s200_43, trivial⟩
theorem ab_dk201_0 : ab_dp 201 [(0, .aload_n 0, 1), (1, .getfield 9, 3), (4, .arraylength, 1), (5, .aload_n 0, 1), (6, .invokevirtual 335, 3), (9, .ishr, 1), (10, .ireturn, 1)] := ab_da (by decide +kernel)
theorem ab_s201_0 : ab_Sn B 201 0 (ab_o_ald 0 1) := ab_s_aload_n (k := 0) (n := 0) ab_dk201_0.1 rfl
theorem ab_s201_1 : ab_Sn B 201 1 (ab_o_txv 4 4) := ab_s_txv (i := 9) ab_dk201_0.2.1 wf_700
theorem ab_s201_4 : ab_Sn B 201 4 (ab_o_txn 4 5) := ab_s_txn ab_dk201_0.2.2.1
theorem ab_s201_5 : ab_Sn B 201 5 (ab_o_ald 0 6) := ab_s_aload_n (k := 0) (n := 0) ab_dk201_0.2.2.2.1 rfl
theorem ab_s201_6 : ab_Sn B 201 6 (ab_o_call (some (1000, 4)) [] 199 1 1 true 9) := ab_s_callT (M' := 199) (na := 0) (i := 335) (v := true) (ab_hok_n (by decide +kernel)) (by decide +kernel) ab_dk201_0.2.2.2.2.1 (by decide +kernel) (by decide +kernel) (by decide) wf_666 wf_705 wf_668 wf_669 wf_661
theorem ab_s201_9 : ab_Sn B 201 9 (ab_o_bin ab_ishr 10) := ab_s_ishr ab_dk201_0.2.2.2.2.2.1
theorem ab_s201_10 : ab_Sn B 201 10 (ab_o_iret false) := ab_s_iret (b := false) (ty := .int) ab_dk201_0.2.2.2.2.2.2.1 rfl (Or.inl ⟨rfl, rfl⟩)
set_option maxRecDepth 20000 in
theorem ab_sn201 : ab_all B 201 0 (ab_c201) := ⟨ab_s201_0, ab_s201_1, trivial, trivial, ab_s201_4, ab_s201_5, ab_s201_6, trivial, trivial, ab_s201_9, ab_s201_10, trivial⟩
theorem ab_dk202_0 : ab_dp 202 [(0, .aload_n 0, 1), (1, .bipush 16, 2), (3, .invokespecial 1, 3), (6, .return_, 1)] := ab_da (by decide +kernel)
theorem ab_s202_0 : ab_Sn B 202 0 (ab_o_ald 0 1) := ab_s_aload_n (k := 0) (n := 0) ab_dk202_0.1 rfl
theorem ab_s202_1 : ab_Sn B 202 1 (ab_o_const 16 3) := ab_s_bipush (n := 16) ab_dk202_0.2.1 (by decide)
theorem ab_s202_3 : ab_Sn B 202 3 (ab_o_call (some (9, 4)) [] 188 2 2 false 6) := ab_s_callI (M' := 188) (na := 1) (i := 1) (sh := (9, 4)) (by decide) (ab_hok_n (by decide +kernel)) (by decide +kernel) ab_dk202_0.2.2.1 (by decide +kernel) (by decide +kernel) (by decide) rfl rfl wf_710 wf_712 wf_711 wf_647
theorem ab_s202_6 : ab_Sn B 202 6 (ab_o_ret) := ab_s_ret ab_dk202_0.2.2.2.1 rfl
set_option maxRecDepth 20000 in
theorem ab_sn202 : ab_all B 202 0 (ab_c202) := ⟨ab_s202_0, ab_s202_1, trivial, ab_s202_3, trivial, trivial, ab_s202_6, trivial⟩
theorem ab_dk203_0 : ab_dp 203 [(0, .aload_n 0, 1), (1, .iload_n 1, 1), (2, .invokespecial 50, 3), (5, .pop, 1), (6, .aload_n 0, 1), (7, .areturn, 1)] := ab_da (by decide +kernel)
theorem ab_s203_0 : ab_Sn B 203 0 (ab_o_ald 0 1) := ab_s_aload_n (k := 0) (n := 0) ab_dk203_0.1 rfl
theorem ab_s203_1 : ab_Sn B 203 1 (ab_o_ild 1 2) := ab_s_iload_n (k := 1) (n := 1) ab_dk203_0.2.1 rfl
theorem ab_s203_2 : ab_Sn B 203 2 (ab_o_call (some (9, 4)) [] 189 2 2 true 5) := ab_s_callSU (M' := 189) (na := 1) (i := 50) (ci := 5) (N := 4) (C := RJ4) (T := TJ4) (v := true) (ab_hok_n (by decide +kernel)) (by decide +kernel) ab_dk203_0.2.2.1 rfl (by decide) (by decide +kernel) (by decide +kernel) (by decide +kernel) (by decide) wf_713 wf_714 wf_715 wf_716 wf_647 wf_717
theorem ab_s203_5 : ab_Sn B 203 5 (ab_o_pop 6) := ab_s_pop ab_dk203_0.2.2.2.1
theorem ab_s203_6 : ab_Sn B 203 6 (ab_o_ald 0 7) := ab_s_aload_n (k := 0) (n := 0) ab_dk203_0.2.2.2.2.1 rfl
theorem ab_s203_7 : ab_Sn B 203 7 (ab_o_aret) := ab_s_aret (ty := (.object "java/lang/StringBuilder")) ab_dk203_0.2.2.2.2.2.1 rfl (Or.inl ⟨_, rfl⟩)
set_option maxRecDepth 20000 in
theorem ab_sn203 : ab_all B 203 0 (ab_c203) := ⟨ab_s203_0, ab_s203_1, ab_s203_2, trivial, trivial, ab_s203_5, ab_s203_6, ab_s203_7, trivial⟩
theorem ab_dk204_0 : ab_dp 204 [(0, .aload_n 0, 1), (1, .aload_n 1, 1), (2, .invokespecial 29, 3), (5, .pop, 1), (6, .aload_n 0, 1), (7, .areturn, 1)] := ab_da (by decide +kernel)
theorem ab_s204_0 : ab_Sn B 204 0 (ab_o_ald 0 1) := ab_s_aload_n (k := 0) (n := 0) ab_dk204_0.1 rfl
theorem ab_s204_1 : ab_Sn B 204 1 (ab_o_ald 1 2) := ab_s_aload_n (k := 1) (n := 1) ab_dk204_0.2.1 rfl
theorem ab_s204_2 : ab_Sn B 204 2 (ab_o_call (some (9, 4)) [] 190 3 2 true 5) := ab_s_callSU (M' := 190) (na := 1) (i := 29) (ci := 5) (N := 4) (C := RJ4) (T := TJ4) (v := true) (ab_hok_n (by decide +kernel)) (by decide +kernel) ab_dk204_0.2.2.1 rfl (by decide) (by decide +kernel) (by decide +kernel) (by decide +kernel) (by decide) wf_718 wf_719 wf_720 wf_721 wf_647 wf_717
theorem ab_s204_5 : ab_Sn B 204 5 (ab_o_pop 6) := ab_s_pop ab_dk204_0.2.2.2.1
theorem ab_s204_6 : ab_Sn B 204 6 (ab_o_ald 0 7) := ab_s_aload_n (k := 0) (n := 0) ab_dk204_0.2.2.2.2.1 rfl
theorem ab_s204_7 : ab_Sn B 204 7 (ab_o_aret) := ab_s_aret (ty := (.object "java/lang/StringBuilder")) ab_dk204_0.2.2.2.2.2.1 rfl (Or.inl ⟨_, rfl⟩)
set_option maxRecDepth 20000 in
theorem ab_sn204 : ab_all B 204 0 (ab_c204) := ⟨ab_s204_0, ab_s204_1, ab_s204_2, trivial, trivial, ab_s204_5, ab_s204_6, ab_s204_7, trivial⟩
theorem ab_dk205_0 : ab_dp 205 [(0, .new 18, 3), (3, .dup, 1), (4, .aload_n 0, 1), (5, .invokespecial 137, 3), (8, .areturn, 1)] := ab_da (by decide +kernel)
theorem ab_s205_0 : ab_Sn B 205 0 (ab_o_new 10 4 3) := ab_s_new (i := 18) (ci := 6) (N := 4) (C := RJ0) (T := TJ0) ab_dk205_0.1 rfl (by decide) wf_722 wf_723 wf_724 (by decide +kernel)
theorem ab_s205_3 : ab_Sn B 205 3 (ab_o_dup 4) := ab_s_dup ab_dk205_0.2.1
theorem ab_s205_4 : ab_Sn B 205 4 (ab_o_ald 0 5) := ab_s_aload_n (k := 0) (n := 0) ab_dk205_0.2.2.1 rfl
theorem ab_s205_5 : ab_Sn B 205 5 (ab_o_call (some (10, 4)) [] 198 2 2 false 8) := ab_s_callI (M' := 198) (na := 1) (i := 137) (sh := (10, 4)) (by decide) (ab_hok_n (by decide +kernel)) (by decide +kernel) ab_dk205_0.2.2.2.1 (by decide +kernel) (by decide +kernel) (by decide) rfl rfl wf_725 wf_727 wf_726 wf_661
theorem ab_s205_8 : ab_Sn B 205 8 (ab_o_aret) := ab_s_aret (ty := (.object "java/lang/String")) ab_dk205_0.2.2.2.2.1 rfl (Or.inl ⟨_, rfl⟩)
set_option maxRecDepth 20000 in
theorem ab_sn205 : ab_all B 205 0 (ab_c205) := ⟨ab_s205_0, trivial, trivial, ab_s205_3, ab_s205_4, ab_s205_5, trivial, trivial, ab_s205_8, trivial⟩
theorem ab_dk206_0 : ab_dp 206 [(0, .aload_n 0, 1), (1, .invokespecial 343, 3), (4, .ireturn, 1)] := ab_da (by decide +kernel)
theorem ab_s206_0 : ab_Sn B 206 0 (ab_o_ald 0 1) := ab_s_aload_n (k := 0) (n := 0) ab_dk206_0.1 rfl
theorem ab_s206_1 : ab_Sn B 206 1 (ab_o_call (some (9, 4)) [] 195 1 1 true 4) := ab_s_callSU (M' := 195) (na := 0) (i := 343) (ci := 5) (N := 4) (C := RJ4) (T := TJ4) (v := true) (ab_hok_n (by decide +kernel)) (by decide +kernel) ab_dk206_0.2.1 rfl (by decide) (by decide +kernel) (by decide +kernel) (by decide +kernel) (by decide) wf_683 wf_728 wf_729 wf_687 wf_647 wf_717
theorem ab_s206_4 : ab_Sn B 206 4 (ab_o_iret false) := ab_s_iret (b := false) (ty := .int) ab_dk206_0.2.2.1 rfl (Or.inl ⟨rfl, rfl⟩)
set_option maxRecDepth 20000 in
theorem ab_sn206 : ab_all B 206 0 (ab_c206) := ⟨ab_s206_0, ab_s206_1, trivial, trivial, ab_s206_4, trivial⟩
theorem ab_dk207_0 : ab_dp 207 [(0, .iload_n 0, 1), (1, .sipush 255, 3), (4, .if_icmp .gt 7, 3), (7, .iconst 1, 1), (8, .goto 4, 3), (11, .iconst 0, 1), (12, .ireturn, 1)] := ab_da (by decide +kernel)
theorem ab_s207_0 : ab_Sn B 207 0 (ab_o_ild 0 1) := ab_s_iload_n (k := 0) (n := 0) ab_dk207_0.1 rfl
theorem ab_s207_1 : ab_Sn B 207 1 (ab_o_const 255 4) := ab_s_sipush (n := 255) ab_dk207_0.2.1 (by decide)
theorem ab_s207_4 : ab_Sn B 207 4 (ab_o_icmp ab_gt 11 7) := ab_s_icmp_gt (tg := 11) (off := 7) ab_dk207_0.2.2.1 (by decide)
theorem ab_s207_7 : ab_Sn B 207 7 (ab_o_const 1 8) := ab_s_iconst (n := 1) ab_dk207_0.2.2.2.1 rfl
theorem ab_s207_8 : ab_Sn B 207 8 (ab_o_goto 12) := ab_s_goto (tg := 12) (off := 4) ab_dk207_0.2.2.2.2.1 (by decide)
theorem ab_s207_11 : ab_Sn B 207 11 (ab_o_const 0 12) := ab_s_iconst (n := 0) ab_dk207_0.2.2.2.2.2.1 rfl
theorem ab_s207_12 : ab_Sn B 207 12 (ab_o_iret true) := ab_s_iret (b := true) (ty := .boolean) ab_dk207_0.2.2.2.2.2.2.1 rfl (Or.inr (Or.inl ⟨rfl, rfl⟩))
set_option maxRecDepth 20000 in
theorem ab_sn207 : ab_all B 207 0 (ab_c207) := ⟨ab_s207_0, ab_s207_1, trivial, trivial, ab_s207_4, trivial, trivial, ab_s207_7, ab_s207_8, trivial, trivial, ab_s207_11, ab_s207_12, trivial⟩
theorem ab_dk208_0 : ab_dp 208 [(0, .iload_n 1, 1), (1, .ifCond .ne 9, 3), (4, .iload_n 2, 1), (5, .aload_n 0, 1), (6, .arraylength, 1), (7, .if_icmp .eq 10, 3), (10, .aload_n 0, 1), (11, .iload_n 1, 1), (12, .iload_n 2, 1), (13, .invokestatic 339, 3), (16, .areturn, 1), (17, .aload_n 0, 1), (24, .areturn, 1)] := ab_da (by decide +kernel)
theorem ab_s208_0 : ab_Sn B 208 0 (ab_o_ild 1 1) := ab_s_iload_n (k := 1) (n := 1) ab_dk208_0.1 rfl
theorem ab_s208_1 : ab_Sn B 208 1 (ab_o_if ab_ne 10 4) := ab_s_if_ne (tg := 10) (off := 9) ab_dk208_0.2.1 (by decide)
theorem ab_s208_4 : ab_Sn B 208 4 (ab_o_ild 2 5) := ab_s_iload_n (k := 2) (n := 2) ab_dk208_0.2.2.1 rfl
theorem ab_s208_5 : ab_Sn B 208 5 (ab_o_ald 0 6) := ab_s_aload_n (k := 0) (n := 0) ab_dk208_0.2.2.2.1 rfl
theorem ab_s208_6 : ab_Sn B 208 6 (ab_o_alen 7) := ab_s_alen ab_dk208_0.2.2.2.2.1
theorem ab_s208_7 : ab_Sn B 208 7 (ab_o_icmp ab_eq 17 10) := ab_s_icmp_eq (tg := 17) (off := 10) ab_dk208_0.2.2.2.2.2.1 (by decide)
theorem ab_s208_10 : ab_Sn B 208 10 (ab_o_ald 0 11) := ab_s_aload_n (k := 0) (n := 0) ab_dk208_0.2.2.2.2.2.2.1 rfl
theorem ab_s208_11 : ab_Sn B 208 11 (ab_o_ild 1 12) := ab_s_iload_n (k := 1) (n := 1) ab_dk208_0.2.2.2.2.2.2.2.1 rfl
theorem ab_s208_12 : ab_Sn B 208 12 (ab_o_ild 2 13) := ab_s_iload_n (k := 2) (n := 2) ab_dk208_0.2.2.2.2.2.2.2.2.1 rfl
theorem ab_s208_13 : ab_Sn B 208 13 (ab_o_call none [] 209 5 3 true 16) := ab_s_callS (M' := 209) (na := 3) (i := 339) (v := true) (ab_hok_n (by decide +kernel)) (by decide +kernel) ab_dk208_0.2.2.2.2.2.2.2.2.2.1 (by decide +kernel) (by decide +kernel) (by decide) wf_730 wf_731 wf_732 wf_696
theorem ab_s208_16 : ab_Sn B 208 16 (ab_o_aret) := ab_s_aret (ty := (.array .byte)) ab_dk208_0.2.2.2.2.2.2.2.2.2.2.1 rfl (Or.inr ⟨_, rfl⟩)
theorem ab_s208_17 : ab_Sn B 208 17 (ab_o_ald 0 18) := ab_s_aload_n (k := 0) (n := 0) ab_dk208_0.2.2.2.2.2.2.2.2.2.2.2.1 rfl
theorem ab_s208_24 : ab_Sn B 208 24 (ab_o_aret) := ab_s_aret (ty := (.array .byte)) ab_dk208_0.2.2.2.2.2.2.2.2.2.2.2.2.1 rfl (Or.inr ⟨_, rfl⟩)
set_option maxRecDepth 20000 in
theorem ab_sn208 : ab_all B 208 0 (ab_c208) := ⟨ab_s208_0, ab_s208_1, trivial, trivial, ab_s208_4, ab_s208_5, ab_s208_6, ab_s208_7, trivial, trivial, ab_s208_10, ab_s208_11, ab_s208_12, ab_s208_13, trivial, trivial, ab_s208_16, ab_s208_17, trivial, trivial, trivial, trivial, trivial, trivial, ab_s208_24, trivial⟩
theorem ab_dk209_0 : ab_dp 209 [(0, .iload_n 1, 1), (1, .iload_n 2, 1), (2, .invokestatic 343, 3), (5, .iload_n 2, 1), (6, .iload_n 1, 1), (7, .isub, 1), (8, .istore_n 3, 1), (9, .iload_n 3, 1), (10, .newarray .byte, 2), (12, .astore 4, 2), (14, .aload_n 0, 1), (15, .iload_n 1, 1), (16, .aload 4, 2), (18, .iconst 0, 1), (19, .aload_n 0, 1), (20, .arraylength, 1)] := ab_da (by decide +kernel)
theorem ab_dk209_1 : ab_dp 209 [(21, .iload_n 1, 1), (22, .isub, 1), (23, .iload_n 3, 1), (24, .invokestatic 304, 3), (27, .invokestatic 150, 3), (30, .aload 4, 2), (32, .areturn, 1)] := ab_da (by decide +kernel)
theorem ab_s209_0 : ab_Sn B 209 0 (ab_o_ild 1 1) := ab_s_iload_n (k := 1) (n := 1) ab_dk209_0.1 rfl
theorem ab_s209_1 : ab_Sn B 209 1 (ab_o_ild 2 2) := ab_s_iload_n (k := 2) (n := 2) ab_dk209_0.2.1 rfl
theorem ab_s209_2 : ab_Sn B 209 2 (ab_o_call none [] 210 2 2 false 5) := ab_s_callS (M' := 210) (na := 2) (i := 343) (v := false) (ab_hok_n (by decide +kernel)) (by decide +kernel) ab_dk209_0.2.2.1 (by decide +kernel) (by decide +kernel) (by decide) wf_733 wf_734 wf_735 wf_696
theorem ab_s209_5 : ab_Sn B 209 5 (ab_o_ild 2 6) := ab_s_iload_n (k := 2) (n := 2) ab_dk209_0.2.2.2.1 rfl
theorem ab_s209_6 : ab_Sn B 209 6 (ab_o_ild 1 7) := ab_s_iload_n (k := 1) (n := 1) ab_dk209_0.2.2.2.2.1 rfl
theorem ab_s209_7 : ab_Sn B 209 7 (ab_o_bin (fun a b => a - b) 8) := ab_s_isub ab_dk209_0.2.2.2.2.2.1
theorem ab_s209_8 : ab_Sn B 209 8 (ab_o_ist 3 9) := ab_s_istore_n (k := 3) (n := 3) ab_dk209_0.2.2.2.2.2.2.1 rfl
theorem ab_s209_9 : ab_Sn B 209 9 (ab_o_ild 3 10) := ab_s_iload_n (k := 3) (n := 3) ab_dk209_0.2.2.2.2.2.2.2.1 rfl
theorem ab_s209_10 : ab_Sn B 209 10 (ab_o_newa 3 12) := ab_s_newa3 ab_dk209_0.2.2.2.2.2.2.2.2.1 wf_640
theorem ab_s209_12 : ab_Sn B 209 12 (ab_o_ast 4 14) := ab_s_astore (k := 4) ab_dk209_0.2.2.2.2.2.2.2.2.2.1
theorem ab_s209_14 : ab_Sn B 209 14 (ab_o_ald 0 15) := ab_s_aload_n (k := 0) (n := 0) ab_dk209_0.2.2.2.2.2.2.2.2.2.2.1 rfl
theorem ab_s209_15 : ab_Sn B 209 15 (ab_o_ild 1 16) := ab_s_iload_n (k := 1) (n := 1) ab_dk209_0.2.2.2.2.2.2.2.2.2.2.2.1 rfl
theorem ab_s209_16 : ab_Sn B 209 16 (ab_o_ald 4 18) := ab_s_aload (k := 4) ab_dk209_0.2.2.2.2.2.2.2.2.2.2.2.2.1
theorem ab_s209_18 : ab_Sn B 209 18 (ab_o_const 0 19) := ab_s_iconst (n := 0) ab_dk209_0.2.2.2.2.2.2.2.2.2.2.2.2.2.1 rfl
theorem ab_s209_19 : ab_Sn B 209 19 (ab_o_ald 0 20) := ab_s_aload_n (k := 0) (n := 0) ab_dk209_0.2.2.2.2.2.2.2.2.2.2.2.2.2.2.1 rfl
theorem ab_s209_20 : ab_Sn B 209 20 (ab_o_alen 21) := ab_s_alen ab_dk209_0.2.2.2.2.2.2.2.2.2.2.2.2.2.2.2.1
theorem ab_s209_21 : ab_Sn B 209 21 (ab_o_ild 1 22) := ab_s_iload_n (k := 1) (n := 1) ab_dk209_1.1 rfl
theorem ab_s209_22 : ab_Sn B 209 22 (ab_o_bin (fun a b => a - b) 23) := ab_s_isub ab_dk209_1.2.1
theorem ab_s209_23 : ab_Sn B 209 23 (ab_o_ild 3 24) := ab_s_iload_n (k := 3) (n := 3) ab_dk209_1.2.2.1 rfl
theorem ab_s209_24 : ab_Sn B 209 24 (ab_o_mx (fun a b => if b < a then b else a) 27) := ab_s_min (i := 304) ab_dk209_1.2.2.2.1 wf_736 wf_151 wf_139 wf_152
theorem ab_s209_27 : ab_Sn B 209 27 (ab_o_cpb 30) := ab_s_cpb (i := 150) ab_dk209_1.2.2.2.2.1 wf_737 wf_707 wf_708 wf_709
theorem ab_s209_30 : ab_Sn B 209 30 (ab_o_ald 4 32) := ab_s_aload (k := 4) ab_dk209_1.2.2.2.2.2.1
theorem ab_s209_32 : ab_Sn B 209 32 (ab_o_aret) := ab_s_aret (ty := (.array .byte)) ab_dk209_1.2.2.2.2.2.2.1 rfl (Or.inr ⟨_, rfl⟩)
set_option maxRecDepth 20000 in
theorem ab_sn209 : ab_all B 209 0 (ab_c209) := ⟨ab_s209_0, ab_s209_1, ab_s209_2, trivial, trivial, ab_s209_5, ab_s209_6, ab_s209_7, ab_s209_8, ab_s209_9, ab_s209_10, trivial, ab_s209_12, trivial, ab_s209_14, ab_s209_15, ab_s209_16, trivial, ab_s209_18, ab_s209_19, ab_s209_20, ab_s209_21, ab_s209_22, ab_s209_23, ab_s209_24, trivial, trivial, ab_s209_27, trivial, trivial, ab_s209_30, trivial, ab_s209_32, trivial⟩
theorem ab_dk210_0 : ab_dp 210 [(0, .iload_n 1, 1), (1, .iload_n 0, 1), (2, .if_icmp .ge 35, 3), (8, .dup, 1), (12, .dup, 1), (13, .invokespecial 47, 3), (16, .iload_n 0, 1), (23, .invokevirtual 50, 3), (26, .iload_n 1, 1), (30, .invokevirtual 61, 3), (37, .return_, 1)] := ab_da (by decide +kernel)
theorem ab_s210_0 : ab_Sn B 210 0 (ab_o_ild 1 1) := ab_s_iload_n (k := 1) (n := 1) ab_dk210_0.1 rfl
theorem ab_s210_1 : ab_Sn B 210 1 (ab_o_ild 0 2) := ab_s_iload_n (k := 0) (n := 0) ab_dk210_0.2.1 rfl
theorem ab_s210_2 : ab_Sn B 210 2 (ab_o_icmp ab_ge 37 5) := ab_s_icmp_ge (tg := 37) (off := 35) ab_dk210_0.2.2.1 (by decide)
theorem ab_s210_8 : ab_Sn B 210 8 (ab_o_dup 9) := ab_s_dup ab_dk210_0.2.2.2.1
theorem ab_s210_12 : ab_Sn B 210 12 (ab_o_dup 13) := ab_s_dup ab_dk210_0.2.2.2.2.1
theorem ab_s210_13 : ab_Sn B 210 13 (ab_o_call (some (9, 4)) [] 202 1 1 false 16) := ab_s_callI (M' := 202) (na := 0) (i := 47) (sh := (9, 4)) (by decide) (ab_hok_n (by decide +kernel)) (by decide +kernel) ab_dk210_0.2.2.2.2.2.1 (by decide +kernel) (by decide +kernel) (by decide) rfl rfl wf_376 wf_738 wf_377 wf_378
theorem ab_s210_16 : ab_Sn B 210 16 (ab_o_ild 0 17) := ab_s_iload_n (k := 0) (n := 0) ab_dk210_0.2.2.2.2.2.2.1 rfl
theorem ab_s210_23 : ab_Sn B 210 23 (ab_o_call (some (9, 4)) [] 204 2 2 true 26) := ab_s_callV (M' := 204) (na := 1) (i := 50) (ci := 5) (N := 4) (C := RJ4) (T := TJ4) (v := true) (ab_hok_n (by decide +kernel)) (by decide +kernel) ab_dk210_0.2.2.2.2.2.2.2.1 rfl (by decide) (by decide +kernel) (by decide +kernel) (by decide) wf_623 wf_739 wf_625 wf_626 wf_378
theorem ab_s210_26 : ab_Sn B 210 26 (ab_o_ild 1 27) := ab_s_iload_n (k := 1) (n := 1) ab_dk210_0.2.2.2.2.2.2.2.2.1 rfl
theorem ab_s210_30 : ab_Sn B 210 30 (ab_o_call (some (9, 4)) [] 205 1 1 true 33) := ab_s_callV (M' := 205) (na := 0) (i := 61) (ci := 5) (N := 4) (C := RJ4) (T := TJ4) (v := true) (ab_hok_n (by decide +kernel)) (by decide +kernel) ab_dk210_0.2.2.2.2.2.2.2.2.2.1 rfl (by decide) (by decide +kernel) (by decide +kernel) (by decide) wf_388 wf_740 wf_390 wf_391 wf_378
theorem ab_s210_37 : ab_Sn B 210 37 (ab_o_ret) := ab_s_ret ab_dk210_0.2.2.2.2.2.2.2.2.2.2.1 rfl
set_option maxRecDepth 20000 in
theorem ab_sn210 : ab_all B 210 0 (ab_c210) := ⟨ab_s210_0, ab_s210_1, ab_s210_2, trivial, trivial, trivial, trivial, trivial, ab_s210_8, trivial, trivial, trivial, ab_s210_12, ab_s210_13, trivial, trivial, ab_s210_16, trivial, trivial, trivial, trivial, trivial, trivial, ab_s210_23, trivial, trivial, ab_s210_26, trivial, trivial, trivial, ab_s210_30, trivial, trivial, trivial, trivial, trivial, trivial, ab_s210_37, trivial⟩
theorem ab_dk163_0 : ab_dp 163 [(0, .aload_n 3, 1), (1, .aload_n 0, 1), (2, .iload_n 1, 1), (3, .iload_n 2, 1), (4, .invokevirtual 7, 3), (7, .i2l, 1), (8, .putfield 13, 3), (11, .goto 7, 3), (14, .astore 4, 2), (16, .iconst 1, 1), (17, .ireturn, 1), (18, .iconst 0, 1), (19, .ireturn, 1)] := ab_da (by decide +kernel)
theorem ab_s163_0 : ab_Sn B 163 0 (ab_o_ald 3 1) := ab_s_aload_n (k := 3) (n := 3) ab_dk163_0.1 rfl
theorem ab_s163_1 : ab_Sn B 163 1 (ab_o_ald 0 2) := ab_s_aload_n (k := 0) (n := 0) ab_dk163_0.2.1 rfl
theorem ab_s163_2 : ab_Sn B 163 2 (ab_o_ild 1 3) := ab_s_iload_n (k := 1) (n := 1) ab_dk163_0.2.2.1 rfl
theorem ab_s163_3 : ab_Sn B 163 3 (ab_o_ild 2 4) := ab_s_iload_n (k := 2) (n := 2) ab_dk163_0.2.2.2.1 rfl
theorem ab_s163_4 : ab_Sn B 163 4 (ab_o_call (some (6, 13)) [(1, 16, 4)] 61 3 3 true 7) := ab_s_callV (M' := 61) (na := 2) (i := 7) (ci := 2) (N := 13) (C := RX2) (T := TX2) (v := true) ab_hk163_4 (by decide +kernel) ab_dk163_0.2.2.2.2.1 rfl (by decide) (by decide +kernel) (by decide +kernel) (by decide) wf_741 wf_744 wf_745 wf_746 wf_197
theorem ab_s163_7 : ab_Sn B 163 7 (ab_o_i2l 8) := ab_s_i2l ab_dk163_0.2.2.2.2.2.1
theorem ab_s163_8 : ab_Sn B 163 8 (ab_o_putl 7 2 0 11) := ab_s_putlN (i := 13) (ci := 3) (N := 2) (k := 0) (C := RX3) (T := TX3) ab_dk163_0.2.2.2.2.2.2.1 rfl (by decide) rfl wf_747 rfl (by decide +kernel)
theorem ab_s163_11 : ab_Sn B 163 11 (ab_o_goto 18) := ab_s_goto (tg := 18) (off := 7) ab_dk163_0.2.2.2.2.2.2.2.1 (by decide)
theorem ab_s163_14 : ab_Sn B 163 14 (ab_o_ast 4 16) := ab_s_astore (k := 4) ab_dk163_0.2.2.2.2.2.2.2.2.1
theorem ab_s163_16 : ab_Sn B 163 16 (ab_o_const 1 17) := ab_s_iconst (n := 1) ab_dk163_0.2.2.2.2.2.2.2.2.2.1 rfl
theorem ab_s163_17 : ab_Sn B 163 17 (ab_o_iret false) := ab_s_iret (b := false) (ty := .int) ab_dk163_0.2.2.2.2.2.2.2.2.2.2.1 rfl (Or.inl ⟨rfl, rfl⟩)
theorem ab_s163_18 : ab_Sn B 163 18 (ab_o_const 0 19) := ab_s_iconst (n := 0) ab_dk163_0.2.2.2.2.2.2.2.2.2.2.2.1 rfl
theorem ab_s163_19 : ab_Sn B 163 19 (ab_o_iret false) := ab_s_iret (b := false) (ty := .int) ab_dk163_0.2.2.2.2.2.2.2.2.2.2.2.2.1 rfl (Or.inl ⟨rfl, rfl⟩)
set_option maxRecDepth 20000 in
theorem ab_sn163 : ab_all B 163 0 (ab_c163) := ⟨ab_s163_0, ab_s163_1, ab_s163_2, ab_s163_3, ab_s163_4, trivial, trivial, ab_s163_7, ab_s163_8, trivial, trivial, ab_s163_11, trivial, trivial, ab_s163_14, trivial, ab_s163_16, ab_s163_17, ab_s163_18, ab_s163_19, trivial⟩
theorem ab_dk164_0 : ab_dp 164 [(0, .aload 4, 2), (2, .aload_n 0, 1), (3, .iload_n 1, 1), (4, .iload_n 2, 1), (5, .iload_n 3, 1), (6, .invokevirtual 21, 3), (9, .ifCond .eq 7, 3), (12, .lconst 1, 1), (13, .goto 4, 3), (16, .lconst 0, 1), (17, .putfield 13, 3), (20, .goto 15, 3), (23, .astore 5, 2), (25, .iconst 1, 1), (26, .ireturn, 1), (27, .astore 5, 2)] := ab_da (by decide +kernel)
theorem ab_dk164_1 : ab_dp 164 [(29, .iconst 2, 1), (30, .ireturn, 1), (31, .astore 5, 2), (33, .iconst 3, 1), (34, .ireturn, 1), (35, .iconst 0, 1), (36, .ireturn, 1)] := ab_da (by decide +kernel)
theorem ab_s164_0 : ab_Sn B 164 0 (ab_o_ald 4 2) := ab_s_aload (k := 4) ab_dk164_0.1
theorem ab_s164_2 : ab_Sn B 164 2 (ab_o_ald 0 3) := ab_s_aload_n (k := 0) (n := 0) ab_dk164_0.2.1 rfl
theorem ab_s164_3 : ab_Sn B 164 3 (ab_o_ild 1 4) := ab_s_iload_n (k := 1) (n := 1) ab_dk164_0.2.2.1 rfl
theorem ab_s164_4 : ab_Sn B 164 4 (ab_o_ild 2 5) := ab_s_iload_n (k := 2) (n := 2) ab_dk164_0.2.2.2.1 rfl
theorem ab_s164_5 : ab_Sn B 164 5 (ab_o_ild 3 6) := ab_s_iload_n (k := 3) (n := 3) ab_dk164_0.2.2.2.2.1 rfl
theorem ab_s164_6 : ab_Sn B 164 6 (ab_o_call (some (6, 13)) [(2, 25, 5), (1, 29, 5), (3, 33, 5)] 62 5 4 true 9) := ab_s_callV (M' := 62) (na := 3) (i := 21) (ci := 2) (N := 13) (C := RX2) (T := TX2) (v := true) ab_hk164_6 (by decide +kernel) ab_dk164_0.2.2.2.2.2.1 rfl (by decide) (by decide +kernel) (by decide +kernel) (by decide) wf_748 wf_753 wf_754 wf_755 wf_197
theorem ab_s164_9 : ab_Sn B 164 9 (ab_o_if ab_eq 16 12) := ab_s_if_eq (tg := 16) (off := 7) ab_dk164_0.2.2.2.2.2.2.1 (by decide)
theorem ab_s164_12 : ab_Sn B 164 12 (ab_o_lconst 1 13) := ab_s_lconst (n := 1) ab_dk164_0.2.2.2.2.2.2.2.1 rfl
theorem ab_s164_13 : ab_Sn B 164 13 (ab_o_goto 17) := ab_s_goto (tg := 17) (off := 4) ab_dk164_0.2.2.2.2.2.2.2.2.1 (by decide)
theorem ab_s164_16 : ab_Sn B 164 16 (ab_o_lconst 0 17) := ab_s_lconst (n := 0) ab_dk164_0.2.2.2.2.2.2.2.2.2.1 rfl
theorem ab_s164_17 : ab_Sn B 164 17 (ab_o_putl 7 2 0 20) := ab_s_putlN (i := 13) (ci := 3) (N := 2) (k := 0) (C := RX3) (T := TX3) ab_dk164_0.2.2.2.2.2.2.2.2.2.2.1 rfl (by decide) rfl wf_747 rfl (by decide +kernel)
theorem ab_s164_20 : ab_Sn B 164 20 (ab_o_goto 35) := ab_s_goto (tg := 35) (off := 15) ab_dk164_0.2.2.2.2.2.2.2.2.2.2.2.1 (by decide)
theorem ab_s164_23 : ab_Sn B 164 23 (ab_o_ast 5 25) := ab_s_astore (k := 5) ab_dk164_0.2.2.2.2.2.2.2.2.2.2.2.2.1
theorem ab_s164_25 : ab_Sn B 164 25 (ab_o_const 1 26) := ab_s_iconst (n := 1) ab_dk164_0.2.2.2.2.2.2.2.2.2.2.2.2.2.1 rfl
theorem ab_s164_26 : ab_Sn B 164 26 (ab_o_iret false) := ab_s_iret (b := false) (ty := .int) ab_dk164_0.2.2.2.2.2.2.2.2.2.2.2.2.2.2.1 rfl (Or.inl ⟨rfl, rfl⟩)
theorem ab_s164_27 : ab_Sn B 164 27 (ab_o_ast 5 29) := ab_s_astore (k := 5) ab_dk164_0.2.2.2.2.2.2.2.2.2.2.2.2.2.2.2.1
theorem ab_s164_29 : ab_Sn B 164 29 (ab_o_const 2 30) := ab_s_iconst (n := 2) ab_dk164_1.1 rfl
theorem ab_s164_30 : ab_Sn B 164 30 (ab_o_iret false) := ab_s_iret (b := false) (ty := .int) ab_dk164_1.2.1 rfl (Or.inl ⟨rfl, rfl⟩)
theorem ab_s164_31 : ab_Sn B 164 31 (ab_o_ast 5 33) := ab_s_astore (k := 5) ab_dk164_1.2.2.1
theorem ab_s164_33 : ab_Sn B 164 33 (ab_o_const 3 34) := ab_s_iconst (n := 3) ab_dk164_1.2.2.2.1 rfl
theorem ab_s164_34 : ab_Sn B 164 34 (ab_o_iret false) := ab_s_iret (b := false) (ty := .int) ab_dk164_1.2.2.2.2.1 rfl (Or.inl ⟨rfl, rfl⟩)
theorem ab_s164_35 : ab_Sn B 164 35 (ab_o_const 0 36) := ab_s_iconst (n := 0) ab_dk164_1.2.2.2.2.2.1 rfl
theorem ab_s164_36 : ab_Sn B 164 36 (ab_o_iret false) := ab_s_iret (b := false) (ty := .int) ab_dk164_1.2.2.2.2.2.2.1 rfl (Or.inl ⟨rfl, rfl⟩)
set_option maxRecDepth 20000 in
theorem ab_sn164 : ab_all B 164 0 (ab_c164) := ⟨ab_s164_0, trivial, ab_s164_2, ab_s164_3, ab_s164_4, ab_s164_5, ab_s164_6, trivial, trivial, ab_s164_9, trivial, trivial, ab_s164_12, ab_s164_13, trivial, trivial, ab_s164_16, ab_s164_17, trivial, trivial, ab_s164_20, trivial, trivial, ab_s164_23, trivial, ab_s164_25, ab_s164_26, ab_s164_27, trivial, ab_s164_29, ab_s164_30, ab_s164_31, trivial, ab_s164_33, ab_s164_34, ab_s164_35, ab_s164_36, trivial⟩
theorem ab_dk165_0 : ab_dp 165 [(0, .aload_n 2, 1), (1, .aload_n 0, 1), (2, .iload_n 1, 1), (3, .invokevirtual 29, 3), (6, .i2l, 1), (7, .putfield 13, 3), (10, .goto 9, 3), (13, .astore_n 3, 1), (14, .iconst 1, 1), (15, .ireturn, 1), (16, .astore_n 3, 1), (17, .iconst 2, 1), (18, .ireturn, 1), (19, .iconst 0, 1), (20, .ireturn, 1)] := ab_da (by decide +kernel)
theorem ab_s165_0 : ab_Sn B 165 0 (ab_o_ald 2 1) := ab_s_aload_n (k := 2) (n := 2) ab_dk165_0.1 rfl
theorem ab_s165_1 : ab_Sn B 165 1 (ab_o_ald 0 2) := ab_s_aload_n (k := 0) (n := 0) ab_dk165_0.2.1 rfl
theorem ab_s165_2 : ab_Sn B 165 2 (ab_o_ild 1 3) := ab_s_iload_n (k := 1) (n := 1) ab_dk165_0.2.2.1 rfl
theorem ab_s165_3 : ab_Sn B 165 3 (ab_o_call (some (6, 13)) [(2, 14, 3), (3, 17, 3)] 63 5 2 true 6) := ab_s_callV (M' := 63) (na := 1) (i := 29) (ci := 2) (N := 13) (C := RX2) (T := TX2) (v := true) ab_hk165_3 (by decide +kernel) ab_dk165_0.2.2.2.1 rfl (by decide) (by decide +kernel) (by decide +kernel) (by decide) wf_756 wf_757 wf_758 wf_759 wf_197
theorem ab_s165_6 : ab_Sn B 165 6 (ab_o_i2l 7) := ab_s_i2l ab_dk165_0.2.2.2.2.1
theorem ab_s165_7 : ab_Sn B 165 7 (ab_o_putl 7 2 0 10) := ab_s_putlN (i := 13) (ci := 3) (N := 2) (k := 0) (C := RX3) (T := TX3) ab_dk165_0.2.2.2.2.2.1 rfl (by decide) rfl wf_747 rfl (by decide +kernel)
theorem ab_s165_10 : ab_Sn B 165 10 (ab_o_goto 19) := ab_s_goto (tg := 19) (off := 9) ab_dk165_0.2.2.2.2.2.2.1 (by decide)
theorem ab_s165_13 : ab_Sn B 165 13 (ab_o_ast 3 14) := ab_s_astore_n (k := 3) (n := 3) ab_dk165_0.2.2.2.2.2.2.2.1 rfl
theorem ab_s165_14 : ab_Sn B 165 14 (ab_o_const 1 15) := ab_s_iconst (n := 1) ab_dk165_0.2.2.2.2.2.2.2.2.1 rfl
theorem ab_s165_15 : ab_Sn B 165 15 (ab_o_iret false) := ab_s_iret (b := false) (ty := .int) ab_dk165_0.2.2.2.2.2.2.2.2.2.1 rfl (Or.inl ⟨rfl, rfl⟩)
theorem ab_s165_16 : ab_Sn B 165 16 (ab_o_ast 3 17) := ab_s_astore_n (k := 3) (n := 3) ab_dk165_0.2.2.2.2.2.2.2.2.2.2.1 rfl
theorem ab_s165_17 : ab_Sn B 165 17 (ab_o_const 2 18) := ab_s_iconst (n := 2) ab_dk165_0.2.2.2.2.2.2.2.2.2.2.2.1 rfl
theorem ab_s165_18 : ab_Sn B 165 18 (ab_o_iret false) := ab_s_iret (b := false) (ty := .int) ab_dk165_0.2.2.2.2.2.2.2.2.2.2.2.2.1 rfl (Or.inl ⟨rfl, rfl⟩)
theorem ab_s165_19 : ab_Sn B 165 19 (ab_o_const 0 20) := ab_s_iconst (n := 0) ab_dk165_0.2.2.2.2.2.2.2.2.2.2.2.2.2.1 rfl
theorem ab_s165_20 : ab_Sn B 165 20 (ab_o_iret false) := ab_s_iret (b := false) (ty := .int) ab_dk165_0.2.2.2.2.2.2.2.2.2.2.2.2.2.2.1 rfl (Or.inl ⟨rfl, rfl⟩)
set_option maxRecDepth 20000 in
theorem ab_sn165 : ab_all B 165 0 (ab_c165) := ⟨ab_s165_0, ab_s165_1, ab_s165_2, ab_s165_3, trivial, trivial, ab_s165_6, ab_s165_7, trivial, trivial, ab_s165_10, trivial, trivial, ab_s165_13, ab_s165_14, ab_s165_15, ab_s165_16, ab_s165_17, ab_s165_18, ab_s165_19, ab_s165_20, trivial⟩
theorem ab_dk166_0 : ab_dp 166 [(0, .aload_n 2, 1), (1, .aload_n 0, 1), (2, .iload_n 1, 1), (3, .invokevirtual 33, 3), (6, .i2l, 1), (7, .putfield 13, 3), (10, .goto 9, 3), (13, .astore_n 3, 1), (14, .iconst 1, 1), (15, .ireturn, 1), (16, .astore_n 3, 1), (17, .iconst 2, 1), (18, .ireturn, 1), (19, .iconst 0, 1), (20, .ireturn, 1)] := ab_da (by decide +kernel)
theorem ab_s166_0 : ab_Sn B 166 0 (ab_o_ald 2 1) := ab_s_aload_n (k := 2) (n := 2) ab_dk166_0.1 rfl
theorem ab_s166_1 : ab_Sn B 166 1 (ab_o_ald 0 2) := ab_s_aload_n (k := 0) (n := 0) ab_dk166_0.2.1 rfl
theorem ab_s166_2 : ab_Sn B 166 2 (ab_o_ild 1 3) := ab_s_iload_n (k := 1) (n := 1) ab_dk166_0.2.2.1 rfl
theorem ab_s166_3 : ab_Sn B 166 3 (ab_o_call (some (6, 13)) [(2, 14, 3), (3, 17, 3)] 64 2 2 true 6) := ab_s_callV (M' := 64) (na := 1) (i := 33) (ci := 2) (N := 13) (C := RX2) (T := TX2) (v := true) ab_hk166_3 (by decide +kernel) ab_dk166_0.2.2.2.1 rfl (by decide) (by decide +kernel) (by decide +kernel) (by decide) wf_760 wf_761 wf_762 wf_763 wf_197
theorem ab_s166_6 : ab_Sn B 166 6 (ab_o_i2l 7) := ab_s_i2l ab_dk166_0.2.2.2.2.1
theorem ab_s166_7 : ab_Sn B 166 7 (ab_o_putl 7 2 0 10) := ab_s_putlN (i := 13) (ci := 3) (N := 2) (k := 0) (C := RX3) (T := TX3) ab_dk166_0.2.2.2.2.2.1 rfl (by decide) rfl wf_747 rfl (by decide +kernel)
theorem ab_s166_10 : ab_Sn B 166 10 (ab_o_goto 19) := ab_s_goto (tg := 19) (off := 9) ab_dk166_0.2.2.2.2.2.2.1 (by decide)
theorem ab_s166_13 : ab_Sn B 166 13 (ab_o_ast 3 14) := ab_s_astore_n (k := 3) (n := 3) ab_dk166_0.2.2.2.2.2.2.2.1 rfl
theorem ab_s166_14 : ab_Sn B 166 14 (ab_o_const 1 15) := ab_s_iconst (n := 1) ab_dk166_0.2.2.2.2.2.2.2.2.1 rfl
theorem ab_s166_15 : ab_Sn B 166 15 (ab_o_iret false) := ab_s_iret (b := false) (ty := .int) ab_dk166_0.2.2.2.2.2.2.2.2.2.1 rfl (Or.inl ⟨rfl, rfl⟩)
theorem ab_s166_16 : ab_Sn B 166 16 (ab_o_ast 3 17) := ab_s_astore_n (k := 3) (n := 3) ab_dk166_0.2.2.2.2.2.2.2.2.2.2.1 rfl
theorem ab_s166_17 : ab_Sn B 166 17 (ab_o_const 2 18) := ab_s_iconst (n := 2) ab_dk166_0.2.2.2.2.2.2.2.2.2.2.2.1 rfl
theorem ab_s166_18 : ab_Sn B 166 18 (ab_o_iret false) := ab_s_iret (b := false) (ty := .int) ab_dk166_0.2.2.2.2.2.2.2.2.2.2.2.2.1 rfl (Or.inl ⟨rfl, rfl⟩)
theorem ab_s166_19 : ab_Sn B 166 19 (ab_o_const 0 20) := ab_s_iconst (n := 0) ab_dk166_0.2.2.2.2.2.2.2.2.2.2.2.2.2.1 rfl
theorem ab_s166_20 : ab_Sn B 166 20 (ab_o_iret false) := ab_s_iret (b := false) (ty := .int) ab_dk166_0.2.2.2.2.2.2.2.2.2.2.2.2.2.2.1 rfl (Or.inl ⟨rfl, rfl⟩)
set_option maxRecDepth 20000 in
theorem ab_sn166 : ab_all B 166 0 (ab_c166) := ⟨ab_s166_0, ab_s166_1, ab_s166_2, ab_s166_3, trivial, trivial, ab_s166_6, ab_s166_7, trivial, trivial, ab_s166_10, trivial, trivial, ab_s166_13, ab_s166_14, ab_s166_15, ab_s166_16, ab_s166_17, ab_s166_18, ab_s166_19, ab_s166_20, trivial⟩
theorem ab_dk167_0 : ab_dp 167 [(0, .aload_n 2, 1), (1, .aload_n 0, 1), (2, .iload_n 1, 1), (3, .invokevirtual 36, 3), (6, .i2l, 1), (7, .putfield 13, 3), (10, .goto 6, 3), (13, .astore_n 3, 1), (14, .iconst 1, 1), (15, .ireturn, 1), (16, .iconst 0, 1), (17, .ireturn, 1)] := ab_da (by decide +kernel)
theorem ab_s167_0 : ab_Sn B 167 0 (ab_o_ald 2 1) := ab_s_aload_n (k := 2) (n := 2) ab_dk167_0.1 rfl
theorem ab_s167_1 : ab_Sn B 167 1 (ab_o_ald 0 2) := ab_s_aload_n (k := 0) (n := 0) ab_dk167_0.2.1 rfl
theorem ab_s167_2 : ab_Sn B 167 2 (ab_o_ild 1 3) := ab_s_iload_n (k := 1) (n := 1) ab_dk167_0.2.2.1 rfl
theorem ab_s167_3 : ab_Sn B 167 3 (ab_o_call (some (6, 13)) [(2, 14, 3)] 65 2 2 true 6) := ab_s_callV (M' := 65) (na := 1) (i := 36) (ci := 2) (N := 13) (C := RX2) (T := TX2) (v := true) ab_hk167_3 (by decide +kernel) ab_dk167_0.2.2.2.1 rfl (by decide) (by decide +kernel) (by decide +kernel) (by decide) wf_764 wf_765 wf_766 wf_767 wf_197
theorem ab_s167_6 : ab_Sn B 167 6 (ab_o_i2l 7) := ab_s_i2l ab_dk167_0.2.2.2.2.1
theorem ab_s167_7 : ab_Sn B 167 7 (ab_o_putl 7 2 0 10) := ab_s_putlN (i := 13) (ci := 3) (N := 2) (k := 0) (C := RX3) (T := TX3) ab_dk167_0.2.2.2.2.2.1 rfl (by decide) rfl wf_747 rfl (by decide +kernel)
theorem ab_s167_10 : ab_Sn B 167 10 (ab_o_goto 16) := ab_s_goto (tg := 16) (off := 6) ab_dk167_0.2.2.2.2.2.2.1 (by decide)
theorem ab_s167_13 : ab_Sn B 167 13 (ab_o_ast 3 14) := ab_s_astore_n (k := 3) (n := 3) ab_dk167_0.2.2.2.2.2.2.2.1 rfl
theorem ab_s167_14 : ab_Sn B 167 14 (ab_o_const 1 15) := ab_s_iconst (n := 1) ab_dk167_0.2.2.2.2.2.2.2.2.1 rfl
theorem ab_s167_15 : ab_Sn B 167 15 (ab_o_iret false) := ab_s_iret (b := false) (ty := .int) ab_dk167_0.2.2.2.2.2.2.2.2.2.1 rfl (Or.inl ⟨rfl, rfl⟩)
theorem ab_s167_16 : ab_Sn B 167 16 (ab_o_const 0 17) := ab_s_iconst (n := 0) ab_dk167_0.2.2.2.2.2.2.2.2.2.2.1 rfl
theorem ab_s167_17 : ab_Sn B 167 17 (ab_o_iret false) := ab_s_iret (b := false) (ty := .int) ab_dk167_0.2.2.2.2.2.2.2.2.2.2.2.1 rfl (Or.inl ⟨rfl, rfl⟩)
set_option maxRecDepth 20000 in
theorem ab_sn167 : ab_all B 167 0 (ab_c167) := ⟨ab_s167_0, ab_s167_1, ab_s167_2, ab_s167_3, trivial, trivial, ab_s167_6, ab_s167_7, trivial, trivial, ab_s167_10, trivial, trivial, ab_s167_13, ab_s167_14, ab_s167_15, ab_s167_16, ab_s167_17, trivial⟩
theorem ab_dk168_0 : ab_dp 168 [(0, .aload 4, 2), (2, .aload_n 0, 1), (3, .iload_n 1, 1), (4, .iload_n 2, 1), (5, .iload_n 3, 1), (6, .invokevirtual 39, 3), (9, .i2l, 1), (10, .putfield 13, 3), (13, .goto 15, 3), (16, .astore 5, 2), (18, .iconst 1, 1), (19, .ireturn, 1), (20, .astore 5, 2), (22, .iconst 2, 1), (23, .ireturn, 1), (24, .astore 5, 2)] := ab_da (by decide +kernel)
theorem ab_dk168_1 : ab_dp 168 [(26, .iconst 3, 1), (27, .ireturn, 1), (28, .iconst 0, 1), (29, .ireturn, 1)] := ab_da (by decide +kernel)
theorem ab_s168_0 : ab_Sn B 168 0 (ab_o_ald 4 2) := ab_s_aload (k := 4) ab_dk168_0.1
theorem ab_s168_2 : ab_Sn B 168 2 (ab_o_ald 0 3) := ab_s_aload_n (k := 0) (n := 0) ab_dk168_0.2.1 rfl
theorem ab_s168_3 : ab_Sn B 168 3 (ab_o_ild 1 4) := ab_s_iload_n (k := 1) (n := 1) ab_dk168_0.2.2.1 rfl
theorem ab_s168_4 : ab_Sn B 168 4 (ab_o_ild 2 5) := ab_s_iload_n (k := 2) (n := 2) ab_dk168_0.2.2.2.1 rfl
theorem ab_s168_5 : ab_Sn B 168 5 (ab_o_ild 3 6) := ab_s_iload_n (k := 3) (n := 3) ab_dk168_0.2.2.2.2.1 rfl
theorem ab_s168_6 : ab_Sn B 168 6 (ab_o_call (some (6, 13)) [(2, 18, 5), (1, 22, 5), (3, 26, 5)] 66 4 4 true 9) := ab_s_callV (M' := 66) (na := 3) (i := 39) (ci := 2) (N := 13) (C := RX2) (T := TX2) (v := true) ab_hk168_6 (by decide +kernel) ab_dk168_0.2.2.2.2.2.1 rfl (by decide) (by decide +kernel) (by decide +kernel) (by decide) wf_768 wf_769 wf_770 wf_771 wf_197
theorem ab_s168_9 : ab_Sn B 168 9 (ab_o_i2l 10) := ab_s_i2l ab_dk168_0.2.2.2.2.2.2.1
theorem ab_s168_10 : ab_Sn B 168 10 (ab_o_putl 7 2 0 13) := ab_s_putlN (i := 13) (ci := 3) (N := 2) (k := 0) (C := RX3) (T := TX3) ab_dk168_0.2.2.2.2.2.2.2.1 rfl (by decide) rfl wf_747 rfl (by decide +kernel)
theorem ab_s168_13 : ab_Sn B 168 13 (ab_o_goto 28) := ab_s_goto (tg := 28) (off := 15) ab_dk168_0.2.2.2.2.2.2.2.2.1 (by decide)
theorem ab_s168_16 : ab_Sn B 168 16 (ab_o_ast 5 18) := ab_s_astore (k := 5) ab_dk168_0.2.2.2.2.2.2.2.2.2.1
theorem ab_s168_18 : ab_Sn B 168 18 (ab_o_const 1 19) := ab_s_iconst (n := 1) ab_dk168_0.2.2.2.2.2.2.2.2.2.2.1 rfl
theorem ab_s168_19 : ab_Sn B 168 19 (ab_o_iret false) := ab_s_iret (b := false) (ty := .int) ab_dk168_0.2.2.2.2.2.2.2.2.2.2.2.1 rfl (Or.inl ⟨rfl, rfl⟩)
theorem ab_s168_20 : ab_Sn B 168 20 (ab_o_ast 5 22) := ab_s_astore (k := 5) ab_dk168_0.2.2.2.2.2.2.2.2.2.2.2.2.1
theorem ab_s168_22 : ab_Sn B 168 22 (ab_o_const 2 23) := ab_s_iconst (n := 2) ab_dk168_0.2.2.2.2.2.2.2.2.2.2.2.2.2.1 rfl
theorem ab_s168_23 : ab_Sn B 168 23 (ab_o_iret false) := ab_s_iret (b := false) (ty := .int) ab_dk168_0.2.2.2.2.2.2.2.2.2.2.2.2.2.2.1 rfl (Or.inl ⟨rfl, rfl⟩)
theorem ab_s168_24 : ab_Sn B 168 24 (ab_o_ast 5 26) := ab_s_astore (k := 5) ab_dk168_0.2.2.2.2.2.2.2.2.2.2.2.2.2.2.2.1
theorem ab_s168_26 : ab_Sn B 168 26 (ab_o_const 3 27) := ab_s_iconst (n := 3) ab_dk168_1.1 rfl
theorem ab_s168_27 : ab_Sn B 168 27 (ab_o_iret false) := ab_s_iret (b := false) (ty := .int) ab_dk168_1.2.1 rfl (Or.inl ⟨rfl, rfl⟩)
theorem ab_s168_28 : ab_Sn B 168 28 (ab_o_const 0 29) := ab_s_iconst (n := 0) ab_dk168_1.2.2.1 rfl
theorem ab_s168_29 : ab_Sn B 168 29 (ab_o_iret false) := ab_s_iret (b := false) (ty := .int) ab_dk168_1.2.2.2.1 rfl (Or.inl ⟨rfl, rfl⟩)
set_option maxRecDepth 20000 in
theorem ab_sn168 : ab_all B 168 0 (ab_c168) := ⟨ab_s168_0, trivial, ab_s168_2, ab_s168_3, ab_s168_4, ab_s168_5, ab_s168_6, trivial, trivial, ab_s168_9, ab_s168_10, trivial, trivial, ab_s168_13, trivial, trivial, ab_s168_16, trivial, ab_s168_18, ab_s168_19, ab_s168_20, trivial, ab_s168_22, ab_s168_23, ab_s168_24, trivial, ab_s168_26, ab_s168_27, ab_s168_28, ab_s168_29, trivial⟩
theorem ab_dk169_0 : ab_dp 169 [(0, .aload_n 2, 1), (1, .aload_n 0, 1), (2, .iload_n 1, 1), (3, .invokevirtual 43, 3), (6, .i2l, 1), (7, .putfield 13, 3), (10, .goto 9, 3), (13, .astore_n 3, 1), (14, .iconst 1, 1), (15, .ireturn, 1), (16, .astore_n 3, 1), (17, .iconst 2, 1), (18, .ireturn, 1), (19, .iconst 0, 1), (20, .ireturn, 1)] := ab_da (by decide +kernel)
theorem ab_s169_0 : ab_Sn B 169 0 (ab_o_ald 2 1) := ab_s_aload_n (k := 2) (n := 2) ab_dk169_0.1 rfl
theorem ab_s169_1 : ab_Sn B 169 1 (ab_o_ald 0 2) := ab_s_aload_n (k := 0) (n := 0) ab_dk169_0.2.1 rfl
theorem ab_s169_2 : ab_Sn B 169 2 (ab_o_ild 1 3) := ab_s_iload_n (k := 1) (n := 1) ab_dk169_0.2.2.1 rfl
theorem ab_s169_3 : ab_Sn B 169 3 (ab_o_call (some (6, 13)) [(1, 14, 3), (3, 17, 3)] 67 3 2 true 6) := ab_s_callV (M' := 67) (na := 1) (i := 43) (ci := 2) (N := 13) (C := RX2) (T := TX2) (v := true) ab_hk169_3 (by decide +kernel) ab_dk169_0.2.2.2.1 rfl (by decide) (by decide +kernel) (by decide +kernel) (by decide) wf_772 wf_773 wf_774 wf_775 wf_197
theorem ab_s169_6 : ab_Sn B 169 6 (ab_o_i2l 7) := ab_s_i2l ab_dk169_0.2.2.2.2.1
theorem ab_s169_7 : ab_Sn B 169 7 (ab_o_putl 7 2 0 10) := ab_s_putlN (i := 13) (ci := 3) (N := 2) (k := 0) (C := RX3) (T := TX3) ab_dk169_0.2.2.2.2.2.1 rfl (by decide) rfl wf_747 rfl (by decide +kernel)
theorem ab_s169_10 : ab_Sn B 169 10 (ab_o_goto 19) := ab_s_goto (tg := 19) (off := 9) ab_dk169_0.2.2.2.2.2.2.1 (by decide)
theorem ab_s169_13 : ab_Sn B 169 13 (ab_o_ast 3 14) := ab_s_astore_n (k := 3) (n := 3) ab_dk169_0.2.2.2.2.2.2.2.1 rfl
theorem ab_s169_14 : ab_Sn B 169 14 (ab_o_const 1 15) := ab_s_iconst (n := 1) ab_dk169_0.2.2.2.2.2.2.2.2.1 rfl
theorem ab_s169_15 : ab_Sn B 169 15 (ab_o_iret false) := ab_s_iret (b := false) (ty := .int) ab_dk169_0.2.2.2.2.2.2.2.2.2.1 rfl (Or.inl ⟨rfl, rfl⟩)
theorem ab_s169_16 : ab_Sn B 169 16 (ab_o_ast 3 17) := ab_s_astore_n (k := 3) (n := 3) ab_dk169_0.2.2.2.2.2.2.2.2.2.2.1 rfl
theorem ab_s169_17 : ab_Sn B 169 17 (ab_o_const 2 18) := ab_s_iconst (n := 2) ab_dk169_0.2.2.2.2.2.2.2.2.2.2.2.1 rfl
theorem ab_s169_18 : ab_Sn B 169 18 (ab_o_iret false) := ab_s_iret (b := false) (ty := .int) ab_dk169_0.2.2.2.2.2.2.2.2.2.2.2.2.1 rfl (Or.inl ⟨rfl, rfl⟩)
theorem ab_s169_19 : ab_Sn B 169 19 (ab_o_const 0 20) := ab_s_iconst (n := 0) ab_dk169_0.2.2.2.2.2.2.2.2.2.2.2.2.2.1 rfl
theorem ab_s169_20 : ab_Sn B 169 20 (ab_o_iret false) := ab_s_iret (b := false) (ty := .int) ab_dk169_0.2.2.2.2.2.2.2.2.2.2.2.2.2.2.1 rfl (Or.inl ⟨rfl, rfl⟩)
set_option maxRecDepth 20000 in
theorem ab_sn169 : ab_all B 169 0 (ab_c169) := ⟨ab_s169_0, ab_s169_1, ab_s169_2, ab_s169_3, trivial, trivial, ab_s169_6, ab_s169_7, trivial, trivial, ab_s169_10, trivial, trivial, ab_s169_13, ab_s169_14, ab_s169_15, ab_s169_16, ab_s169_17, ab_s169_18, ab_s169_19, ab_s169_20, trivial⟩
theorem ab_dk170_0 : ab_dp 170 [(0, .aload_n 2, 1), (1, .aload_n 0, 1), (2, .iload_n 1, 1), (3, .invokevirtual 46, 3), (6, .i2l, 1), (7, .putfield 13, 3), (10, .goto 9, 3), (13, .astore_n 3, 1), (14, .iconst 1, 1), (15, .ireturn, 1), (16, .astore_n 3, 1), (17, .iconst 2, 1), (18, .ireturn, 1), (19, .iconst 0, 1), (20, .ireturn, 1)] := ab_da (by decide +kernel)
theorem ab_s170_0 : ab_Sn B 170 0 (ab_o_ald 2 1) := ab_s_aload_n (k := 2) (n := 2) ab_dk170_0.1 rfl
theorem ab_s170_1 : ab_Sn B 170 1 (ab_o_ald 0 2) := ab_s_aload_n (k := 0) (n := 0) ab_dk170_0.2.1 rfl
theorem ab_s170_2 : ab_Sn B 170 2 (ab_o_ild 1 3) := ab_s_iload_n (k := 1) (n := 1) ab_dk170_0.2.2.1 rfl
theorem ab_s170_3 : ab_Sn B 170 3 (ab_o_call (some (6, 13)) [(1, 14, 3), (3, 17, 3)] 68 3 2 true 6) := ab_s_callV (M' := 68) (na := 1) (i := 46) (ci := 2) (N := 13) (C := RX2) (T := TX2) (v := true) ab_hk170_3 (by decide +kernel) ab_dk170_0.2.2.2.1 rfl (by decide) (by decide +kernel) (by decide +kernel) (by decide) wf_776 wf_777 wf_778 wf_779 wf_197
theorem ab_s170_6 : ab_Sn B 170 6 (ab_o_i2l 7) := ab_s_i2l ab_dk170_0.2.2.2.2.1
theorem ab_s170_7 : ab_Sn B 170 7 (ab_o_putl 7 2 0 10) := ab_s_putlN (i := 13) (ci := 3) (N := 2) (k := 0) (C := RX3) (T := TX3) ab_dk170_0.2.2.2.2.2.1 rfl (by decide) rfl wf_747 rfl (by decide +kernel)
theorem ab_s170_10 : ab_Sn B 170 10 (ab_o_goto 19) := ab_s_goto (tg := 19) (off := 9) ab_dk170_0.2.2.2.2.2.2.1 (by decide)
theorem ab_s170_13 : ab_Sn B 170 13 (ab_o_ast 3 14) := ab_s_astore_n (k := 3) (n := 3) ab_dk170_0.2.2.2.2.2.2.2.1 rfl
theorem ab_s170_14 : ab_Sn B 170 14 (ab_o_const 1 15) := ab_s_iconst (n := 1) ab_dk170_0.2.2.2.2.2.2.2.2.1 rfl
theorem ab_s170_15 : ab_Sn B 170 15 (ab_o_iret false) := ab_s_iret (b := false) (ty := .int) ab_dk170_0.2.2.2.2.2.2.2.2.2.1 rfl (Or.inl ⟨rfl, rfl⟩)
theorem ab_s170_16 : ab_Sn B 170 16 (ab_o_ast 3 17) := ab_s_astore_n (k := 3) (n := 3) ab_dk170_0.2.2.2.2.2.2.2.2.2.2.1 rfl
theorem ab_s170_17 : ab_Sn B 170 17 (ab_o_const 2 18) := ab_s_iconst (n := 2) ab_dk170_0.2.2.2.2.2.2.2.2.2.2.2.1 rfl
theorem ab_s170_18 : ab_Sn B 170 18 (ab_o_iret false) := ab_s_iret (b := false) (ty := .int) ab_dk170_0.2.2.2.2.2.2.2.2.2.2.2.2.1 rfl (Or.inl ⟨rfl, rfl⟩)
theorem ab_s170_19 : ab_Sn B 170 19 (ab_o_const 0 20) := ab_s_iconst (n := 0) ab_dk170_0.2.2.2.2.2.2.2.2.2.2.2.2.2.1 rfl
theorem ab_s170_20 : ab_Sn B 170 20 (ab_o_iret false) := ab_s_iret (b := false) (ty := .int) ab_dk170_0.2.2.2.2.2.2.2.2.2.2.2.2.2.2.1 rfl (Or.inl ⟨rfl, rfl⟩)
set_option maxRecDepth 20000 in
theorem ab_sn170 : ab_all B 170 0 (ab_c170) := ⟨ab_s170_0, ab_s170_1, ab_s170_2, ab_s170_3, trivial, trivial, ab_s170_6, ab_s170_7, trivial, trivial, ab_s170_10, trivial, trivial, ab_s170_13, ab_s170_14, ab_s170_15, ab_s170_16, ab_s170_17, ab_s170_18, ab_s170_19, ab_s170_20, trivial⟩
theorem ab_dk171_0 : ab_dp 171 [(0, .aload_n 2, 1), (1, .aload_n 0, 1), (2, .iload_n 1, 1), (3, .invokevirtual 49, 3), (6, .i2l, 1), (7, .putfield 13, 3), (10, .goto 9, 3), (13, .astore_n 3, 1), (14, .iconst 1, 1), (15, .ireturn, 1), (16, .astore_n 3, 1), (17, .iconst 2, 1), (18, .ireturn, 1), (19, .iconst 0, 1), (20, .ireturn, 1)] := ab_da (by decide +kernel)
theorem ab_s171_0 : ab_Sn B 171 0 (ab_o_ald 2 1) := ab_s_aload_n (k := 2) (n := 2) ab_dk171_0.1 rfl
theorem ab_s171_1 : ab_Sn B 171 1 (ab_o_ald 0 2) := ab_s_aload_n (k := 0) (n := 0) ab_dk171_0.2.1 rfl
theorem ab_s171_2 : ab_Sn B 171 2 (ab_o_ild 1 3) := ab_s_iload_n (k := 1) (n := 1) ab_dk171_0.2.2.1 rfl
theorem ab_s171_3 : ab_Sn B 171 3 (ab_o_call (some (6, 13)) [(2, 14, 3), (3, 17, 3)] 69 2 2 true 6) := ab_s_callV (M' := 69) (na := 1) (i := 49) (ci := 2) (N := 13) (C := RX2) (T := TX2) (v := true) ab_hk171_3 (by decide +kernel) ab_dk171_0.2.2.2.1 rfl (by decide) (by decide +kernel) (by decide +kernel) (by decide) wf_780 wf_781 wf_782 wf_783 wf_197
theorem ab_s171_6 : ab_Sn B 171 6 (ab_o_i2l 7) := ab_s_i2l ab_dk171_0.2.2.2.2.1
theorem ab_s171_7 : ab_Sn B 171 7 (ab_o_putl 7 2 0 10) := ab_s_putlN (i := 13) (ci := 3) (N := 2) (k := 0) (C := RX3) (T := TX3) ab_dk171_0.2.2.2.2.2.1 rfl (by decide) rfl wf_747 rfl (by decide +kernel)
theorem ab_s171_10 : ab_Sn B 171 10 (ab_o_goto 19) := ab_s_goto (tg := 19) (off := 9) ab_dk171_0.2.2.2.2.2.2.1 (by decide)
theorem ab_s171_13 : ab_Sn B 171 13 (ab_o_ast 3 14) := ab_s_astore_n (k := 3) (n := 3) ab_dk171_0.2.2.2.2.2.2.2.1 rfl
theorem ab_s171_14 : ab_Sn B 171 14 (ab_o_const 1 15) := ab_s_iconst (n := 1) ab_dk171_0.2.2.2.2.2.2.2.2.1 rfl
theorem ab_s171_15 : ab_Sn B 171 15 (ab_o_iret false) := ab_s_iret (b := false) (ty := .int) ab_dk171_0.2.2.2.2.2.2.2.2.2.1 rfl (Or.inl ⟨rfl, rfl⟩)
theorem ab_s171_16 : ab_Sn B 171 16 (ab_o_ast 3 17) := ab_s_astore_n (k := 3) (n := 3) ab_dk171_0.2.2.2.2.2.2.2.2.2.2.1 rfl
theorem ab_s171_17 : ab_Sn B 171 17 (ab_o_const 2 18) := ab_s_iconst (n := 2) ab_dk171_0.2.2.2.2.2.2.2.2.2.2.2.1 rfl
theorem ab_s171_18 : ab_Sn B 171 18 (ab_o_iret false) := ab_s_iret (b := false) (ty := .int) ab_dk171_0.2.2.2.2.2.2.2.2.2.2.2.2.1 rfl (Or.inl ⟨rfl, rfl⟩)
theorem ab_s171_19 : ab_Sn B 171 19 (ab_o_const 0 20) := ab_s_iconst (n := 0) ab_dk171_0.2.2.2.2.2.2.2.2.2.2.2.2.2.1 rfl
theorem ab_s171_20 : ab_Sn B 171 20 (ab_o_iret false) := ab_s_iret (b := false) (ty := .int) ab_dk171_0.2.2.2.2.2.2.2.2.2.2.2.2.2.2.1 rfl (Or.inl ⟨rfl, rfl⟩)
set_option maxRecDepth 20000 in
theorem ab_sn171 : ab_all B 171 0 (ab_c171) := ⟨ab_s171_0, ab_s171_1, ab_s171_2, ab_s171_3, trivial, trivial, ab_s171_6, ab_s171_7, trivial, trivial, ab_s171_10, trivial, trivial, ab_s171_13, ab_s171_14, ab_s171_15, ab_s171_16, ab_s171_17, ab_s171_18, ab_s171_19, ab_s171_20, trivial⟩
theorem ab_dk172_0 : ab_dp 172 [(0, .aload 5, 2), (2, .aload_n 0, 1), (3, .iload_n 1, 1), (4, .iload_n 2, 1), (5, .iload_n 3, 1), (6, .iload 4, 2), (8, .invokevirtual 52, 3), (11, .i2l, 1), (12, .putfield 13, 3), (15, .goto 11, 3), (18, .astore 6, 2), (20, .iconst 1, 1), (21, .ireturn, 1), (22, .astore 6, 2), (24, .iconst 2, 1), (25, .ireturn, 1)] := ab_da (by decide +kernel)
theorem ab_dk172_1 : ab_dp 172 [(26, .iconst 0, 1), (27, .ireturn, 1)] := ab_da (by decide +kernel)
theorem ab_s172_0 : ab_Sn B 172 0 (ab_o_ald 5 2) := ab_s_aload (k := 5) ab_dk172_0.1
theorem ab_s172_2 : ab_Sn B 172 2 (ab_o_ald 0 3) := ab_s_aload_n (k := 0) (n := 0) ab_dk172_0.2.1 rfl
theorem ab_s172_3 : ab_Sn B 172 3 (ab_o_ild 1 4) := ab_s_iload_n (k := 1) (n := 1) ab_dk172_0.2.2.1 rfl
theorem ab_s172_4 : ab_Sn B 172 4 (ab_o_ild 2 5) := ab_s_iload_n (k := 2) (n := 2) ab_dk172_0.2.2.2.1 rfl
theorem ab_s172_5 : ab_Sn B 172 5 (ab_o_ild 3 6) := ab_s_iload_n (k := 3) (n := 3) ab_dk172_0.2.2.2.2.1 rfl
theorem ab_s172_6 : ab_Sn B 172 6 (ab_o_ild 4 8) := ab_s_iload (k := 4) ab_dk172_0.2.2.2.2.2.1
theorem ab_s172_8 : ab_Sn B 172 8 (ab_o_call (some (6, 13)) [(2, 20, 6), (1, 24, 6)] 70 6 5 true 11) := ab_s_callV (M' := 70) (na := 4) (i := 52) (ci := 2) (N := 13) (C := RX2) (T := TX2) (v := true) ab_hk172_8 (by decide +kernel) ab_dk172_0.2.2.2.2.2.2.1 rfl (by decide) (by decide +kernel) (by decide +kernel) (by decide) wf_784 wf_785 wf_786 wf_787 wf_197
theorem ab_s172_11 : ab_Sn B 172 11 (ab_o_i2l 12) := ab_s_i2l ab_dk172_0.2.2.2.2.2.2.2.1
theorem ab_s172_12 : ab_Sn B 172 12 (ab_o_putl 7 2 0 15) := ab_s_putlN (i := 13) (ci := 3) (N := 2) (k := 0) (C := RX3) (T := TX3) ab_dk172_0.2.2.2.2.2.2.2.2.1 rfl (by decide) rfl wf_747 rfl (by decide +kernel)
theorem ab_s172_15 : ab_Sn B 172 15 (ab_o_goto 26) := ab_s_goto (tg := 26) (off := 11) ab_dk172_0.2.2.2.2.2.2.2.2.2.1 (by decide)
theorem ab_s172_18 : ab_Sn B 172 18 (ab_o_ast 6 20) := ab_s_astore (k := 6) ab_dk172_0.2.2.2.2.2.2.2.2.2.2.1
theorem ab_s172_20 : ab_Sn B 172 20 (ab_o_const 1 21) := ab_s_iconst (n := 1) ab_dk172_0.2.2.2.2.2.2.2.2.2.2.2.1 rfl
theorem ab_s172_21 : ab_Sn B 172 21 (ab_o_iret false) := ab_s_iret (b := false) (ty := .int) ab_dk172_0.2.2.2.2.2.2.2.2.2.2.2.2.1 rfl (Or.inl ⟨rfl, rfl⟩)
theorem ab_s172_22 : ab_Sn B 172 22 (ab_o_ast 6 24) := ab_s_astore (k := 6) ab_dk172_0.2.2.2.2.2.2.2.2.2.2.2.2.2.1
theorem ab_s172_24 : ab_Sn B 172 24 (ab_o_const 2 25) := ab_s_iconst (n := 2) ab_dk172_0.2.2.2.2.2.2.2.2.2.2.2.2.2.2.1 rfl
theorem ab_s172_25 : ab_Sn B 172 25 (ab_o_iret false) := ab_s_iret (b := false) (ty := .int) ab_dk172_0.2.2.2.2.2.2.2.2.2.2.2.2.2.2.2.1 rfl (Or.inl ⟨rfl, rfl⟩)
theorem ab_s172_26 : ab_Sn B 172 26 (ab_o_const 0 27) := ab_s_iconst (n := 0) ab_dk172_1.1 rfl
theorem ab_s172_27 : ab_Sn B 172 27 (ab_o_iret false) := ab_s_iret (b := false) (ty := .int) ab_dk172_1.2.1 rfl (Or.inl ⟨rfl, rfl⟩)
set_option maxRecDepth 20000 in
theorem ab_sn172 : ab_all B 172 0 (ab_c172) := ⟨ab_s172_0, trivial, ab_s172_2, ab_s172_3, ab_s172_4, ab_s172_5, ab_s172_6, trivial, ab_s172_8, trivial, trivial, ab_s172_11, ab_s172_12, trivial, trivial, ab_s172_15, trivial, trivial, ab_s172_18, trivial, ab_s172_20, ab_s172_21, ab_s172_22, trivial, ab_s172_24, ab_s172_25, ab_s172_26, ab_s172_27, trivial⟩
theorem ab_dk173_0 : ab_dp 173 [(0, .aload_n 3, 1), (1, .aload_n 0, 1), (2, .iload_n 1, 1), (3, .iload_n 2, 1), (4, .invokevirtual 56, 3), (7, .i2l, 1), (8, .putfield 13, 3), (11, .goto 7, 3), (14, .astore 4, 2), (16, .iconst 1, 1), (17, .ireturn, 1), (18, .iconst 0, 1), (19, .ireturn, 1)] := ab_da (by decide +kernel)
theorem ab_s173_0 : ab_Sn B 173 0 (ab_o_ald 3 1) := ab_s_aload_n (k := 3) (n := 3) ab_dk173_0.1 rfl
theorem ab_s173_1 : ab_Sn B 173 1 (ab_o_ald 0 2) := ab_s_aload_n (k := 0) (n := 0) ab_dk173_0.2.1 rfl
theorem ab_s173_2 : ab_Sn B 173 2 (ab_o_ild 1 3) := ab_s_iload_n (k := 1) (n := 1) ab_dk173_0.2.2.1 rfl
theorem ab_s173_3 : ab_Sn B 173 3 (ab_o_ild 2 4) := ab_s_iload_n (k := 2) (n := 2) ab_dk173_0.2.2.2.1 rfl
theorem ab_s173_4 : ab_Sn B 173 4 (ab_o_call (some (6, 13)) [(1, 16, 4)] 71 4 3 true 7) := ab_s_callV (M' := 71) (na := 2) (i := 56) (ci := 2) (N := 13) (C := RX2) (T := TX2) (v := true) ab_hk173_4 (by decide +kernel) ab_dk173_0.2.2.2.2.1 rfl (by decide) (by decide +kernel) (by decide +kernel) (by decide) wf_788 wf_789 wf_790 wf_791 wf_197
theorem ab_s173_7 : ab_Sn B 173 7 (ab_o_i2l 8) := ab_s_i2l ab_dk173_0.2.2.2.2.2.1
theorem ab_s173_8 : ab_Sn B 173 8 (ab_o_putl 7 2 0 11) := ab_s_putlN (i := 13) (ci := 3) (N := 2) (k := 0) (C := RX3) (T := TX3) ab_dk173_0.2.2.2.2.2.2.1 rfl (by decide) rfl wf_747 rfl (by decide +kernel)
theorem ab_s173_11 : ab_Sn B 173 11 (ab_o_goto 18) := ab_s_goto (tg := 18) (off := 7) ab_dk173_0.2.2.2.2.2.2.2.1 (by decide)
theorem ab_s173_14 : ab_Sn B 173 14 (ab_o_ast 4 16) := ab_s_astore (k := 4) ab_dk173_0.2.2.2.2.2.2.2.2.1
theorem ab_s173_16 : ab_Sn B 173 16 (ab_o_const 1 17) := ab_s_iconst (n := 1) ab_dk173_0.2.2.2.2.2.2.2.2.2.1 rfl
theorem ab_s173_17 : ab_Sn B 173 17 (ab_o_iret false) := ab_s_iret (b := false) (ty := .int) ab_dk173_0.2.2.2.2.2.2.2.2.2.2.1 rfl (Or.inl ⟨rfl, rfl⟩)
theorem ab_s173_18 : ab_Sn B 173 18 (ab_o_const 0 19) := ab_s_iconst (n := 0) ab_dk173_0.2.2.2.2.2.2.2.2.2.2.2.1 rfl
theorem ab_s173_19 : ab_Sn B 173 19 (ab_o_iret false) := ab_s_iret (b := false) (ty := .int) ab_dk173_0.2.2.2.2.2.2.2.2.2.2.2.2.1 rfl (Or.inl ⟨rfl, rfl⟩)
set_option maxRecDepth 20000 in
theorem ab_sn173 : ab_all B 173 0 (ab_c173) := ⟨ab_s173_0, ab_s173_1, ab_s173_2, ab_s173_3, ab_s173_4, trivial, trivial, ab_s173_7, ab_s173_8, trivial, trivial, ab_s173_11, trivial, trivial, ab_s173_14, trivial, ab_s173_16, ab_s173_17, ab_s173_18, ab_s173_19, trivial⟩
theorem ab_dk174_0 : ab_dp 174 [(0, .aload_n 1, 1), (1, .aload_n 0, 1), (2, .invokevirtual 59, 3), (5, .ifCond .eq 7, 3), (8, .lconst 1, 1), (9, .goto 4, 3), (12, .lconst 0, 1), (13, .putfield 13, 3), (16, .goto 6, 3), (19, .astore_n 2, 1), (20, .iconst 1, 1), (21, .ireturn, 1), (22, .iconst 0, 1), (23, .ireturn, 1)] := ab_da (by decide +kernel)
theorem ab_s174_0 : ab_Sn B 174 0 (ab_o_ald 1 1) := ab_s_aload_n (k := 1) (n := 1) ab_dk174_0.1 rfl
theorem ab_s174_1 : ab_Sn B 174 1 (ab_o_ald 0 2) := ab_s_aload_n (k := 0) (n := 0) ab_dk174_0.2.1 rfl
theorem ab_s174_2 : ab_Sn B 174 2 (ab_o_call (some (6, 13)) [(3, 20, 2)] 72 2 1 true 5) := ab_s_callV (M' := 72) (na := 0) (i := 59) (ci := 2) (N := 13) (C := RX2) (T := TX2) (v := true) ab_hk174_2 (by decide +kernel) ab_dk174_0.2.2.1 rfl (by decide) (by decide +kernel) (by decide +kernel) (by decide) wf_792 wf_793 wf_794 wf_795 wf_197
theorem ab_s174_5 : ab_Sn B 174 5 (ab_o_if ab_eq 12 8) := ab_s_if_eq (tg := 12) (off := 7) ab_dk174_0.2.2.2.1 (by decide)
theorem ab_s174_8 : ab_Sn B 174 8 (ab_o_lconst 1 9) := ab_s_lconst (n := 1) ab_dk174_0.2.2.2.2.1 rfl
theorem ab_s174_9 : ab_Sn B 174 9 (ab_o_goto 13) := ab_s_goto (tg := 13) (off := 4) ab_dk174_0.2.2.2.2.2.1 (by decide)
theorem ab_s174_12 : ab_Sn B 174 12 (ab_o_lconst 0 13) := ab_s_lconst (n := 0) ab_dk174_0.2.2.2.2.2.2.1 rfl
theorem ab_s174_13 : ab_Sn B 174 13 (ab_o_putl 7 2 0 16) := ab_s_putlN (i := 13) (ci := 3) (N := 2) (k := 0) (C := RX3) (T := TX3) ab_dk174_0.2.2.2.2.2.2.2.1 rfl (by decide) rfl wf_747 rfl (by decide +kernel)
theorem ab_s174_16 : ab_Sn B 174 16 (ab_o_goto 22) := ab_s_goto (tg := 22) (off := 6) ab_dk174_0.2.2.2.2.2.2.2.2.1 (by decide)
theorem ab_s174_19 : ab_Sn B 174 19 (ab_o_ast 2 20) := ab_s_astore_n (k := 2) (n := 2) ab_dk174_0.2.2.2.2.2.2.2.2.2.1 rfl
theorem ab_s174_20 : ab_Sn B 174 20 (ab_o_const 1 21) := ab_s_iconst (n := 1) ab_dk174_0.2.2.2.2.2.2.2.2.2.2.1 rfl
theorem ab_s174_21 : ab_Sn B 174 21 (ab_o_iret false) := ab_s_iret (b := false) (ty := .int) ab_dk174_0.2.2.2.2.2.2.2.2.2.2.2.1 rfl (Or.inl ⟨rfl, rfl⟩)
theorem ab_s174_22 : ab_Sn B 174 22 (ab_o_const 0 23) := ab_s_iconst (n := 0) ab_dk174_0.2.2.2.2.2.2.2.2.2.2.2.2.1 rfl
theorem ab_s174_23 : ab_Sn B 174 23 (ab_o_iret false) := ab_s_iret (b := false) (ty := .int) ab_dk174_0.2.2.2.2.2.2.2.2.2.2.2.2.2.1 rfl (Or.inl ⟨rfl, rfl⟩)
set_option maxRecDepth 20000 in
theorem ab_sn174 : ab_all B 174 0 (ab_c174) := ⟨ab_s174_0, ab_s174_1, ab_s174_2, trivial, trivial, ab_s174_5, trivial, trivial, ab_s174_8, ab_s174_9, trivial, trivial, ab_s174_12, ab_s174_13, trivial, trivial, ab_s174_16, trivial, trivial, ab_s174_19, ab_s174_20, ab_s174_21, ab_s174_22, ab_s174_23, trivial⟩
theorem ab_dk175_0 : ab_dp 175 [(0, .aload_n 1, 1), (1, .aload_n 0, 1), (2, .invokevirtual 63, 3), (5, .i2l, 1), (6, .putfield 13, 3), (9, .goto 6, 3), (12, .astore_n 2, 1), (13, .iconst 1, 1), (14, .ireturn, 1), (15, .iconst 0, 1), (16, .ireturn, 1)] := ab_da (by decide +kernel)
theorem ab_s175_0 : ab_Sn B 175 0 (ab_o_ald 1 1) := ab_s_aload_n (k := 1) (n := 1) ab_dk175_0.1 rfl
theorem ab_s175_1 : ab_Sn B 175 1 (ab_o_ald 0 2) := ab_s_aload_n (k := 0) (n := 0) ab_dk175_0.2.1 rfl
theorem ab_s175_2 : ab_Sn B 175 2 (ab_o_call (some (6, 13)) [(3, 13, 2)] 73 1 1 true 5) := ab_s_callV (M' := 73) (na := 0) (i := 63) (ci := 2) (N := 13) (C := RX2) (T := TX2) (v := true) ab_hk175_2 (by decide +kernel) ab_dk175_0.2.2.1 rfl (by decide) (by decide +kernel) (by decide +kernel) (by decide) wf_796 wf_797 wf_798 wf_799 wf_197
theorem ab_s175_5 : ab_Sn B 175 5 (ab_o_i2l 6) := ab_s_i2l ab_dk175_0.2.2.2.1
theorem ab_s175_6 : ab_Sn B 175 6 (ab_o_putl 7 2 0 9) := ab_s_putlN (i := 13) (ci := 3) (N := 2) (k := 0) (C := RX3) (T := TX3) ab_dk175_0.2.2.2.2.1 rfl (by decide) rfl wf_747 rfl (by decide +kernel)
theorem ab_s175_9 : ab_Sn B 175 9 (ab_o_goto 15) := ab_s_goto (tg := 15) (off := 6) ab_dk175_0.2.2.2.2.2.1 (by decide)
theorem ab_s175_12 : ab_Sn B 175 12 (ab_o_ast 2 13) := ab_s_astore_n (k := 2) (n := 2) ab_dk175_0.2.2.2.2.2.2.1 rfl
theorem ab_s175_13 : ab_Sn B 175 13 (ab_o_const 1 14) := ab_s_iconst (n := 1) ab_dk175_0.2.2.2.2.2.2.2.1 rfl
theorem ab_s175_14 : ab_Sn B 175 14 (ab_o_iret false) := ab_s_iret (b := false) (ty := .int) ab_dk175_0.2.2.2.2.2.2.2.2.1 rfl (Or.inl ⟨rfl, rfl⟩)
theorem ab_s175_15 : ab_Sn B 175 15 (ab_o_const 0 16) := ab_s_iconst (n := 0) ab_dk175_0.2.2.2.2.2.2.2.2.2.1 rfl
theorem ab_s175_16 : ab_Sn B 175 16 (ab_o_iret false) := ab_s_iret (b := false) (ty := .int) ab_dk175_0.2.2.2.2.2.2.2.2.2.2.1 rfl (Or.inl ⟨rfl, rfl⟩)
set_option maxRecDepth 20000 in
theorem ab_sn175 : ab_all B 175 0 (ab_c175) := ⟨ab_s175_0, ab_s175_1, ab_s175_2, trivial, trivial, ab_s175_5, ab_s175_6, trivial, trivial, ab_s175_9, trivial, trivial, ab_s175_12, ab_s175_13, ab_s175_14, ab_s175_15, ab_s175_16, trivial⟩
theorem ab_dk176_0 : ab_dp 176 [(0, .aload_n 2, 1), (1, .aload_n 0, 1), (2, .iload_n 1, 1), (3, .invokevirtual 67, 3), (6, .i2l, 1), (7, .putfield 13, 3), (10, .goto 9, 3), (13, .astore_n 3, 1), (14, .iconst 1, 1), (15, .ireturn, 1), (16, .astore_n 3, 1), (17, .iconst 2, 1), (18, .ireturn, 1), (19, .iconst 0, 1), (20, .ireturn, 1)] := ab_da (by decide +kernel)
theorem ab_s176_0 : ab_Sn B 176 0 (ab_o_ald 2 1) := ab_s_aload_n (k := 2) (n := 2) ab_dk176_0.1 rfl
theorem ab_s176_1 : ab_Sn B 176 1 (ab_o_ald 0 2) := ab_s_aload_n (k := 0) (n := 0) ab_dk176_0.2.1 rfl
theorem ab_s176_2 : ab_Sn B 176 2 (ab_o_ild 1 3) := ab_s_iload_n (k := 1) (n := 1) ab_dk176_0.2.2.1 rfl
theorem ab_s176_3 : ab_Sn B 176 3 (ab_o_call (some (6, 13)) [(1, 14, 3), (3, 17, 3)] 74 3 2 true 6) := ab_s_callV (M' := 74) (na := 1) (i := 67) (ci := 2) (N := 13) (C := RX2) (T := TX2) (v := true) ab_hk176_3 (by decide +kernel) ab_dk176_0.2.2.2.1 rfl (by decide) (by decide +kernel) (by decide +kernel) (by decide) wf_800 wf_801 wf_802 wf_803 wf_197
theorem ab_s176_6 : ab_Sn B 176 6 (ab_o_i2l 7) := ab_s_i2l ab_dk176_0.2.2.2.2.1
theorem ab_s176_7 : ab_Sn B 176 7 (ab_o_putl 7 2 0 10) := ab_s_putlN (i := 13) (ci := 3) (N := 2) (k := 0) (C := RX3) (T := TX3) ab_dk176_0.2.2.2.2.2.1 rfl (by decide) rfl wf_747 rfl (by decide +kernel)
theorem ab_s176_10 : ab_Sn B 176 10 (ab_o_goto 19) := ab_s_goto (tg := 19) (off := 9) ab_dk176_0.2.2.2.2.2.2.1 (by decide)
theorem ab_s176_13 : ab_Sn B 176 13 (ab_o_ast 3 14) := ab_s_astore_n (k := 3) (n := 3) ab_dk176_0.2.2.2.2.2.2.2.1 rfl
theorem ab_s176_14 : ab_Sn B 176 14 (ab_o_const 1 15) := ab_s_iconst (n := 1) ab_dk176_0.2.2.2.2.2.2.2.2.1 rfl
theorem ab_s176_15 : ab_Sn B 176 15 (ab_o_iret false) := ab_s_iret (b := false) (ty := .int) ab_dk176_0.2.2.2.2.2.2.2.2.2.1 rfl (Or.inl ⟨rfl, rfl⟩)
theorem ab_s176_16 : ab_Sn B 176 16 (ab_o_ast 3 17) := ab_s_astore_n (k := 3) (n := 3) ab_dk176_0.2.2.2.2.2.2.2.2.2.2.1 rfl
theorem ab_s176_17 : ab_Sn B 176 17 (ab_o_const 2 18) := ab_s_iconst (n := 2) ab_dk176_0.2.2.2.2.2.2.2.2.2.2.2.1 rfl
theorem ab_s176_18 : ab_Sn B 176 18 (ab_o_iret false) := ab_s_iret (b := false) (ty := .int) ab_dk176_0.2.2.2.2.2.2.2.2.2.2.2.2.1 rfl (Or.inl ⟨rfl, rfl⟩)
theorem ab_s176_19 : ab_Sn B 176 19 (ab_o_const 0 20) := ab_s_iconst (n := 0) ab_dk176_0.2.2.2.2.2.2.2.2.2.2.2.2.2.1 rfl
theorem ab_s176_20 : ab_Sn B 176 20 (ab_o_iret false) := ab_s_iret (b := false) (ty := .int) ab_dk176_0.2.2.2.2.2.2.2.2.2.2.2.2.2.2.1 rfl (Or.inl ⟨rfl, rfl⟩)
set_option maxRecDepth 20000 in
theorem ab_sn176 : ab_all B 176 0 (ab_c176) := ⟨ab_s176_0, ab_s176_1, ab_s176_2, ab_s176_3, trivial, trivial, ab_s176_6, ab_s176_7, trivial, trivial, ab_s176_10, trivial, trivial, ab_s176_13, ab_s176_14, ab_s176_15, ab_s176_16, ab_s176_17, ab_s176_18, ab_s176_19, ab_s176_20, trivial⟩
theorem ab_dk177_0 : ab_dp 177 [(0, .aload 4, 2), (2, .aload_n 0, 1), (3, .iload_n 1, 1), (4, .iload_n 2, 1), (5, .iload_n 3, 1), (6, .invokevirtual 70, 3), (9, .i2l, 1), (10, .putfield 13, 3), (13, .goto 11, 3), (16, .astore 5, 2), (18, .iconst 1, 1), (19, .ireturn, 1), (20, .astore 5, 2), (22, .iconst 2, 1), (23, .ireturn, 1), (24, .iconst 0, 1)] := ab_da (by decide +kernel)
theorem ab_dk177_1 : ab_dp 177 [(25, .ireturn, 1)] := ab_da (by decide +kernel)
theorem ab_s177_0 : ab_Sn B 177 0 (ab_o_ald 4 2) := ab_s_aload (k := 4) ab_dk177_0.1
theorem ab_s177_2 : ab_Sn B 177 2 (ab_o_ald 0 3) := ab_s_aload_n (k := 0) (n := 0) ab_dk177_0.2.1 rfl
theorem ab_s177_3 : ab_Sn B 177 3 (ab_o_ild 1 4) := ab_s_iload_n (k := 1) (n := 1) ab_dk177_0.2.2.1 rfl
theorem ab_s177_4 : ab_Sn B 177 4 (ab_o_ild 2 5) := ab_s_iload_n (k := 2) (n := 2) ab_dk177_0.2.2.2.1 rfl
theorem ab_s177_5 : ab_Sn B 177 5 (ab_o_ild 3 6) := ab_s_iload_n (k := 3) (n := 3) ab_dk177_0.2.2.2.2.1 rfl
theorem ab_s177_6 : ab_Sn B 177 6 (ab_o_call (some (6, 13)) [(2, 18, 5), (1, 22, 5)] 75 4 4 true 9) := ab_s_callV (M' := 75) (na := 3) (i := 70) (ci := 2) (N := 13) (C := RX2) (T := TX2) (v := true) ab_hk177_6 (by decide +kernel) ab_dk177_0.2.2.2.2.2.1 rfl (by decide) (by decide +kernel) (by decide +kernel) (by decide) wf_436 wf_804 wf_438 wf_439 wf_197
theorem ab_s177_9 : ab_Sn B 177 9 (ab_o_i2l 10) := ab_s_i2l ab_dk177_0.2.2.2.2.2.2.1
theorem ab_s177_10 : ab_Sn B 177 10 (ab_o_putl 7 2 0 13) := ab_s_putlN (i := 13) (ci := 3) (N := 2) (k := 0) (C := RX3) (T := TX3) ab_dk177_0.2.2.2.2.2.2.2.1 rfl (by decide) rfl wf_747 rfl (by decide +kernel)
theorem ab_s177_13 : ab_Sn B 177 13 (ab_o_goto 24) := ab_s_goto (tg := 24) (off := 11) ab_dk177_0.2.2.2.2.2.2.2.2.1 (by decide)
theorem ab_s177_16 : ab_Sn B 177 16 (ab_o_ast 5 18) := ab_s_astore (k := 5) ab_dk177_0.2.2.2.2.2.2.2.2.2.1
theorem ab_s177_18 : ab_Sn B 177 18 (ab_o_const 1 19) := ab_s_iconst (n := 1) ab_dk177_0.2.2.2.2.2.2.2.2.2.2.1 rfl
theorem ab_s177_19 : ab_Sn B 177 19 (ab_o_iret false) := ab_s_iret (b := false) (ty := .int) ab_dk177_0.2.2.2.2.2.2.2.2.2.2.2.1 rfl (Or.inl ⟨rfl, rfl⟩)
theorem ab_s177_20 : ab_Sn B 177 20 (ab_o_ast 5 22) := ab_s_astore (k := 5) ab_dk177_0.2.2.2.2.2.2.2.2.2.2.2.2.1
theorem ab_s177_22 : ab_Sn B 177 22 (ab_o_const 2 23) := ab_s_iconst (n := 2) ab_dk177_0.2.2.2.2.2.2.2.2.2.2.2.2.2.1 rfl
theorem ab_s177_23 : ab_Sn B 177 23 (ab_o_iret false) := ab_s_iret (b := false) (ty := .int) ab_dk177_0.2.2.2.2.2.2.2.2.2.2.2.2.2.2.1 rfl (Or.inl ⟨rfl, rfl⟩)
theorem ab_s177_24 : ab_Sn B 177 24 (ab_o_const 0 25) := ab_s_iconst (n := 0) ab_dk177_0.2.2.2.2.2.2.2.2.2.2.2.2.2.2.2.1 rfl
theorem ab_s177_25 : ab_Sn B 177 25 (ab_o_iret false) := ab_s_iret (b := false) (ty := .int) ab_dk177_1.1 rfl (Or.inl ⟨rfl, rfl⟩)
set_option maxRecDepth 20000 in
theorem ab_sn177 : ab_all B 177 0 (ab_c177) := ⟨ab_s177_0, trivial, ab_s177_2, ab_s177_3, ab_s177_4, ab_s177_5, ab_s177_6, trivial, trivial, ab_s177_9, ab_s177_10, trivial, trivial, ab_s177_13, trivial, trivial, ab_s177_16, trivial, ab_s177_18, ab_s177_19, ab_s177_20, trivial, ab_s177_22, ab_s177_23, ab_s177_24, ab_s177_25, trivial⟩
theorem ab_dk178_0 : ab_dp 178 [(0, .aload_n 3, 1), (1, .aload_n 0, 1), (2, .iload_n 1, 1), (3, .iload_n 2, 1), (4, .invokevirtual 73, 3), (7, .i2l, 1), (8, .putfield 13, 3), (11, .goto 11, 3), (14, .astore 4, 2), (16, .iconst 1, 1), (17, .ireturn, 1), (18, .astore 4, 2), (20, .iconst 2, 1), (21, .ireturn, 1), (22, .iconst 0, 1), (23, .ireturn, 1)] := ab_da (by decide +kernel)
theorem ab_s178_0 : ab_Sn B 178 0 (ab_o_ald 3 1) := ab_s_aload_n (k := 3) (n := 3) ab_dk178_0.1 rfl
theorem ab_s178_1 : ab_Sn B 178 1 (ab_o_ald 0 2) := ab_s_aload_n (k := 0) (n := 0) ab_dk178_0.2.1 rfl
theorem ab_s178_2 : ab_Sn B 178 2 (ab_o_ild 1 3) := ab_s_iload_n (k := 1) (n := 1) ab_dk178_0.2.2.1 rfl
theorem ab_s178_3 : ab_Sn B 178 3 (ab_o_ild 2 4) := ab_s_iload_n (k := 2) (n := 2) ab_dk178_0.2.2.2.1 rfl
theorem ab_s178_4 : ab_Sn B 178 4 (ab_o_call (some (6, 13)) [(2, 16, 4), (1, 20, 4)] 76 3 3 true 7) := ab_s_callV (M' := 76) (na := 2) (i := 73) (ci := 2) (N := 13) (C := RX2) (T := TX2) (v := true) ab_hk178_4 (by decide +kernel) ab_dk178_0.2.2.2.2.1 rfl (by decide) (by decide +kernel) (by decide +kernel) (by decide) wf_412 wf_805 wf_414 wf_415 wf_197
theorem ab_s178_7 : ab_Sn B 178 7 (ab_o_i2l 8) := ab_s_i2l ab_dk178_0.2.2.2.2.2.1
theorem ab_s178_8 : ab_Sn B 178 8 (ab_o_putl 7 2 0 11) := ab_s_putlN (i := 13) (ci := 3) (N := 2) (k := 0) (C := RX3) (T := TX3) ab_dk178_0.2.2.2.2.2.2.1 rfl (by decide) rfl wf_747 rfl (by decide +kernel)
theorem ab_s178_11 : ab_Sn B 178 11 (ab_o_goto 22) := ab_s_goto (tg := 22) (off := 11) ab_dk178_0.2.2.2.2.2.2.2.1 (by decide)
theorem ab_s178_14 : ab_Sn B 178 14 (ab_o_ast 4 16) := ab_s_astore (k := 4) ab_dk178_0.2.2.2.2.2.2.2.2.1
theorem ab_s178_16 : ab_Sn B 178 16 (ab_o_const 1 17) := ab_s_iconst (n := 1) ab_dk178_0.2.2.2.2.2.2.2.2.2.1 rfl
theorem ab_s178_17 : ab_Sn B 178 17 (ab_o_iret false) := ab_s_iret (b := false) (ty := .int) ab_dk178_0.2.2.2.2.2.2.2.2.2.2.1 rfl (Or.inl ⟨rfl, rfl⟩)
theorem ab_s178_18 : ab_Sn B 178 18 (ab_o_ast 4 20) := ab_s_astore (k := 4) ab_dk178_0.2.2.2.2.2.2.2.2.2.2.2.1
theorem ab_s178_20 : ab_Sn B 178 20 (ab_o_const 2 21) := ab_s_iconst (n := 2) ab_dk178_0.2.2.2.2.2.2.2.2.2.2.2.2.1 rfl
theorem ab_s178_21 : ab_Sn B 178 21 (ab_o_iret false) := ab_s_iret (b := false) (ty := .int) ab_dk178_0.2.2.2.2.2.2.2.2.2.2.2.2.2.1 rfl (Or.inl ⟨rfl, rfl⟩)
theorem ab_s178_22 : ab_Sn B 178 22 (ab_o_const 0 23) := ab_s_iconst (n := 0) ab_dk178_0.2.2.2.2.2.2.2.2.2.2.2.2.2.2.1 rfl
theorem ab_s178_23 : ab_Sn B 178 23 (ab_o_iret false) := ab_s_iret (b := false) (ty := .int) ab_dk178_0.2.2.2.2.2.2.2.2.2.2.2.2.2.2.2.1 rfl (Or.inl ⟨rfl, rfl⟩)
set_option maxRecDepth 20000 in
theorem ab_sn178 : ab_all B 178 0 (ab_c178) := ⟨ab_s178_0, ab_s178_1, ab_s178_2, ab_s178_3, ab_s178_4, trivial, trivial, ab_s178_7, ab_s178_8, trivial, trivial, ab_s178_11, trivial, trivial, ab_s178_14, trivial, ab_s178_16, ab_s178_17, ab_s178_18, trivial, ab_s178_20, ab_s178_21, ab_s178_22, ab_s178_23, trivial⟩
theorem ab_dk179_0 : ab_dp 179 [(0, .aload_n 3, 1), (1, .aload_n 0, 1), (2, .iload_n 1, 1), (3, .iload_n 2, 1), (4, .invokevirtual 76, 3), (7, .i2l, 1), (8, .putfield 13, 3), (11, .goto 11, 3), (14, .astore 4, 2), (16, .iconst 1, 1), (17, .ireturn, 1), (18, .astore 4, 2), (20, .iconst 2, 1), (21, .ireturn, 1), (22, .iconst 0, 1), (23, .ireturn, 1)] := ab_da (by decide +kernel)
theorem ab_s179_0 : ab_Sn B 179 0 (ab_o_ald 3 1) := ab_s_aload_n (k := 3) (n := 3) ab_dk179_0.1 rfl
theorem ab_s179_1 : ab_Sn B 179 1 (ab_o_ald 0 2) := ab_s_aload_n (k := 0) (n := 0) ab_dk179_0.2.1 rfl
theorem ab_s179_2 : ab_Sn B 179 2 (ab_o_ild 1 3) := ab_s_iload_n (k := 1) (n := 1) ab_dk179_0.2.2.1 rfl
theorem ab_s179_3 : ab_Sn B 179 3 (ab_o_ild 2 4) := ab_s_iload_n (k := 2) (n := 2) ab_dk179_0.2.2.2.1 rfl
theorem ab_s179_4 : ab_Sn B 179 4 (ab_o_call (some (6, 13)) [(2, 16, 4), (1, 20, 4)] 77 5 3 true 7) := ab_s_callV (M' := 77) (na := 2) (i := 76) (ci := 2) (N := 13) (C := RX2) (T := TX2) (v := true) ab_hk179_4 (by decide +kernel) ab_dk179_0.2.2.2.2.1 rfl (by decide) (by decide +kernel) (by decide +kernel) (by decide) wf_420 wf_806 wf_422 wf_423 wf_197
theorem ab_s179_7 : ab_Sn B 179 7 (ab_o_i2l 8) := ab_s_i2l ab_dk179_0.2.2.2.2.2.1
theorem ab_s179_8 : ab_Sn B 179 8 (ab_o_putl 7 2 0 11) := ab_s_putlN (i := 13) (ci := 3) (N := 2) (k := 0) (C := RX3) (T := TX3) ab_dk179_0.2.2.2.2.2.2.1 rfl (by decide) rfl wf_747 rfl (by decide +kernel)
theorem ab_s179_11 : ab_Sn B 179 11 (ab_o_goto 22) := ab_s_goto (tg := 22) (off := 11) ab_dk179_0.2.2.2.2.2.2.2.1 (by decide)
theorem ab_s179_14 : ab_Sn B 179 14 (ab_o_ast 4 16) := ab_s_astore (k := 4) ab_dk179_0.2.2.2.2.2.2.2.2.1
theorem ab_s179_16 : ab_Sn B 179 16 (ab_o_const 1 17) := ab_s_iconst (n := 1) ab_dk179_0.2.2.2.2.2.2.2.2.2.1 rfl
theorem ab_s179_17 : ab_Sn B 179 17 (ab_o_iret false) := ab_s_iret (b := false) (ty := .int) ab_dk179_0.2.2.2.2.2.2.2.2.2.2.1 rfl (Or.inl ⟨rfl, rfl⟩)
theorem ab_s179_18 : ab_Sn B 179 18 (ab_o_ast 4 20) := ab_s_astore (k := 4) ab_dk179_0.2.2.2.2.2.2.2.2.2.2.2.1
theorem ab_s179_20 : ab_Sn B 179 20 (ab_o_const 2 21) := ab_s_iconst (n := 2) ab_dk179_0.2.2.2.2.2.2.2.2.2.2.2.2.1 rfl
theorem ab_s179_21 : ab_Sn B 179 21 (ab_o_iret false) := ab_s_iret (b := false) (ty := .int) ab_dk179_0.2.2.2.2.2.2.2.2.2.2.2.2.2.1 rfl (Or.inl ⟨rfl, rfl⟩)
theorem ab_s179_22 : ab_Sn B 179 22 (ab_o_const 0 23) := ab_s_iconst (n := 0) ab_dk179_0.2.2.2.2.2.2.2.2.2.2.2.2.2.2.1 rfl
theorem ab_s179_23 : ab_Sn B 179 23 (ab_o_iret false) := ab_s_iret (b := false) (ty := .int) ab_dk179_0.2.2.2.2.2.2.2.2.2.2.2.2.2.2.2.1 rfl (Or.inl ⟨rfl, rfl⟩)
set_option maxRecDepth 20000 in
theorem ab_sn179 : ab_all B 179 0 (ab_c179) := ⟨ab_s179_0, ab_s179_1, ab_s179_2, ab_s179_3, ab_s179_4, trivial, trivial, ab_s179_7, ab_s179_8, trivial, trivial, ab_s179_11, trivial, trivial, ab_s179_14, trivial, ab_s179_16, ab_s179_17, ab_s179_18, trivial, ab_s179_20, ab_s179_21, ab_s179_22, ab_s179_23, trivial⟩
theorem ab_dk180_0 : ab_dp 180 [(0, .aload_n 2, 1), (1, .aload_n 0, 1), (2, .iload_n 1, 1), (3, .invokevirtual 79, 3), (6, .i2l, 1), (7, .putfield 13, 3), (10, .goto 6, 3), (13, .astore_n 3, 1), (14, .iconst 1, 1), (15, .ireturn, 1), (16, .iconst 0, 1), (17, .ireturn, 1)] := ab_da (by decide +kernel)
theorem ab_s180_0 : ab_Sn B 180 0 (ab_o_ald 2 1) := ab_s_aload_n (k := 2) (n := 2) ab_dk180_0.1 rfl
theorem ab_s180_1 : ab_Sn B 180 1 (ab_o_ald 0 2) := ab_s_aload_n (k := 0) (n := 0) ab_dk180_0.2.1 rfl
theorem ab_s180_2 : ab_Sn B 180 2 (ab_o_ild 1 3) := ab_s_iload_n (k := 1) (n := 1) ab_dk180_0.2.2.1 rfl
theorem ab_s180_3 : ab_Sn B 180 3 (ab_o_call (some (6, 13)) [(1, 14, 3)] 78 2 2 true 6) := ab_s_callV (M' := 78) (na := 1) (i := 79) (ci := 2) (N := 13) (C := RX2) (T := TX2) (v := true) ab_hk180_3 (by decide +kernel) ab_dk180_0.2.2.2.1 rfl (by decide) (by decide +kernel) (by decide +kernel) (by decide) wf_424 wf_807 wf_426 wf_427 wf_197
theorem ab_s180_6 : ab_Sn B 180 6 (ab_o_i2l 7) := ab_s_i2l ab_dk180_0.2.2.2.2.1
theorem ab_s180_7 : ab_Sn B 180 7 (ab_o_putl 7 2 0 10) := ab_s_putlN (i := 13) (ci := 3) (N := 2) (k := 0) (C := RX3) (T := TX3) ab_dk180_0.2.2.2.2.2.1 rfl (by decide) rfl wf_747 rfl (by decide +kernel)
theorem ab_s180_10 : ab_Sn B 180 10 (ab_o_goto 16) := ab_s_goto (tg := 16) (off := 6) ab_dk180_0.2.2.2.2.2.2.1 (by decide)
theorem ab_s180_13 : ab_Sn B 180 13 (ab_o_ast 3 14) := ab_s_astore_n (k := 3) (n := 3) ab_dk180_0.2.2.2.2.2.2.2.1 rfl
theorem ab_s180_14 : ab_Sn B 180 14 (ab_o_const 1 15) := ab_s_iconst (n := 1) ab_dk180_0.2.2.2.2.2.2.2.2.1 rfl
theorem ab_s180_15 : ab_Sn B 180 15 (ab_o_iret false) := ab_s_iret (b := false) (ty := .int) ab_dk180_0.2.2.2.2.2.2.2.2.2.1 rfl (Or.inl ⟨rfl, rfl⟩)
theorem ab_s180_16 : ab_Sn B 180 16 (ab_o_const 0 17) := ab_s_iconst (n := 0) ab_dk180_0.2.2.2.2.2.2.2.2.2.2.1 rfl
theorem ab_s180_17 : ab_Sn B 180 17 (ab_o_iret false) := ab_s_iret (b := false) (ty := .int) ab_dk180_0.2.2.2.2.2.2.2.2.2.2.2.1 rfl (Or.inl ⟨rfl, rfl⟩)
set_option maxRecDepth 20000 in
theorem ab_sn180 : ab_all B 180 0 (ab_c180) := ⟨ab_s180_0, ab_s180_1, ab_s180_2, ab_s180_3, trivial, trivial, ab_s180_6, ab_s180_7, trivial, trivial, ab_s180_10, trivial, trivial, ab_s180_13, ab_s180_14, ab_s180_15, ab_s180_16, ab_s180_17, trivial⟩
theorem ab_dk181_0 : ab_dp 181 [(0, .aload_n 2, 1), (1, .aload_n 0, 1), (2, .iload_n 1, 1), (3, .invokevirtual 82, 3), (6, .i2l, 1), (7, .putfield 13, 3), (10, .goto 6, 3), (13, .astore_n 3, 1), (14, .iconst 1, 1), (15, .ireturn, 1), (16, .iconst 0, 1), (17, .ireturn, 1)] := ab_da (by decide +kernel)
theorem ab_s181_0 : ab_Sn B 181 0 (ab_o_ald 2 1) := ab_s_aload_n (k := 2) (n := 2) ab_dk181_0.1 rfl
theorem ab_s181_1 : ab_Sn B 181 1 (ab_o_ald 0 2) := ab_s_aload_n (k := 0) (n := 0) ab_dk181_0.2.1 rfl
theorem ab_s181_2 : ab_Sn B 181 2 (ab_o_ild 1 3) := ab_s_iload_n (k := 1) (n := 1) ab_dk181_0.2.2.1 rfl
theorem ab_s181_3 : ab_Sn B 181 3 (ab_o_call (some (6, 13)) [(1, 14, 3)] 79 2 2 true 6) := ab_s_callV (M' := 79) (na := 1) (i := 82) (ci := 2) (N := 13) (C := RX2) (T := TX2) (v := true) ab_hk181_3 (by decide +kernel) ab_dk181_0.2.2.2.1 rfl (by decide) (by decide +kernel) (by decide +kernel) (by decide) wf_408 wf_808 wf_410 wf_411 wf_197
theorem ab_s181_6 : ab_Sn B 181 6 (ab_o_i2l 7) := ab_s_i2l ab_dk181_0.2.2.2.2.1
theorem ab_s181_7 : ab_Sn B 181 7 (ab_o_putl 7 2 0 10) := ab_s_putlN (i := 13) (ci := 3) (N := 2) (k := 0) (C := RX3) (T := TX3) ab_dk181_0.2.2.2.2.2.1 rfl (by decide) rfl wf_747 rfl (by decide +kernel)
theorem ab_s181_10 : ab_Sn B 181 10 (ab_o_goto 16) := ab_s_goto (tg := 16) (off := 6) ab_dk181_0.2.2.2.2.2.2.1 (by decide)
theorem ab_s181_13 : ab_Sn B 181 13 (ab_o_ast 3 14) := ab_s_astore_n (k := 3) (n := 3) ab_dk181_0.2.2.2.2.2.2.2.1 rfl
theorem ab_s181_14 : ab_Sn B 181 14 (ab_o_const 1 15) := ab_s_iconst (n := 1) ab_dk181_0.2.2.2.2.2.2.2.2.1 rfl
theorem ab_s181_15 : ab_Sn B 181 15 (ab_o_iret false) := ab_s_iret (b := false) (ty := .int) ab_dk181_0.2.2.2.2.2.2.2.2.2.1 rfl (Or.inl ⟨rfl, rfl⟩)
theorem ab_s181_16 : ab_Sn B 181 16 (ab_o_const 0 17) := ab_s_iconst (n := 0) ab_dk181_0.2.2.2.2.2.2.2.2.2.2.1 rfl
theorem ab_s181_17 : ab_Sn B 181 17 (ab_o_iret false) := ab_s_iret (b := false) (ty := .int) ab_dk181_0.2.2.2.2.2.2.2.2.2.2.2.1 rfl (Or.inl ⟨rfl, rfl⟩)
set_option maxRecDepth 20000 in
theorem ab_sn181 : ab_all B 181 0 (ab_c181) := ⟨ab_s181_0, ab_s181_1, ab_s181_2, ab_s181_3, trivial, trivial, ab_s181_6, ab_s181_7, trivial, trivial, ab_s181_10, trivial, trivial, ab_s181_13, ab_s181_14, ab_s181_15, ab_s181_16, ab_s181_17, trivial⟩
theorem ab_dk182_0 : ab_dp 182 [(0, .aload_n 2, 1), (1, .aload_n 0, 1), (2, .iload_n 1, 1), (3, .invokevirtual 85, 3), (6, .putfield 89, 3), (9, .goto 6, 3), (12, .astore_n 3, 1), (13, .iconst 1, 1), (14, .ireturn, 1), (15, .iconst 0, 1), (16, .ireturn, 1)] := ab_da (by decide +kernel)
theorem ab_s182_0 : ab_Sn B 182 0 (ab_o_ald 2 1) := ab_s_aload_n (k := 2) (n := 2) ab_dk182_0.1 rfl
theorem ab_s182_1 : ab_Sn B 182 1 (ab_o_ald 0 2) := ab_s_aload_n (k := 0) (n := 0) ab_dk182_0.2.1 rfl
theorem ab_s182_2 : ab_Sn B 182 2 (ab_o_ild 1 3) := ab_s_iload_n (k := 1) (n := 1) ab_dk182_0.2.2.1 rfl
theorem ab_s182_3 : ab_Sn B 182 3 (ab_o_call (some (6, 13)) [(2, 13, 3)] 80 4 2 true 6) := ab_s_callV (M' := 80) (na := 1) (i := 85) (ci := 2) (N := 13) (C := RX2) (T := TX2) (v := true) ab_hk182_3 (by decide +kernel) ab_dk182_0.2.2.2.1 rfl (by decide) (by decide +kernel) (by decide +kernel) (by decide) wf_809 wf_810 wf_811 wf_812 wf_197
theorem ab_s182_6 : ab_Sn B 182 6 (ab_o_putr 7 2 1 9) := ab_s_putrN (ty := .object "java/lang/String") (i := 89) (ci := 3) (N := 2) (k := 1) (C := RX3) (T := TX3) ab_dk182_0.2.2.2.2.1 rfl (by decide) rfl wf_813 rfl (by decide +kernel) (Or.inl ⟨_, rfl⟩)
theorem ab_s182_9 : ab_Sn B 182 9 (ab_o_goto 15) := ab_s_goto (tg := 15) (off := 6) ab_dk182_0.2.2.2.2.2.1 (by decide)
theorem ab_s182_12 : ab_Sn B 182 12 (ab_o_ast 3 13) := ab_s_astore_n (k := 3) (n := 3) ab_dk182_0.2.2.2.2.2.2.1 rfl
theorem ab_s182_13 : ab_Sn B 182 13 (ab_o_const 1 14) := ab_s_iconst (n := 1) ab_dk182_0.2.2.2.2.2.2.2.1 rfl
theorem ab_s182_14 : ab_Sn B 182 14 (ab_o_iret false) := ab_s_iret (b := false) (ty := .int) ab_dk182_0.2.2.2.2.2.2.2.2.1 rfl (Or.inl ⟨rfl, rfl⟩)
theorem ab_s182_15 : ab_Sn B 182 15 (ab_o_const 0 16) := ab_s_iconst (n := 0) ab_dk182_0.2.2.2.2.2.2.2.2.2.1 rfl
theorem ab_s182_16 : ab_Sn B 182 16 (ab_o_iret false) := ab_s_iret (b := false) (ty := .int) ab_dk182_0.2.2.2.2.2.2.2.2.2.2.1 rfl (Or.inl ⟨rfl, rfl⟩)
set_option maxRecDepth 20000 in
theorem ab_sn182 : ab_all B 182 0 (ab_c182) := ⟨ab_s182_0, ab_s182_1, ab_s182_2, ab_s182_3, trivial, trivial, ab_s182_6, trivial, trivial, ab_s182_9, trivial, trivial, ab_s182_12, ab_s182_13, ab_s182_14, ab_s182_15, ab_s182_16, trivial⟩
theorem ab_dk183_0 : ab_dp 183 [(0, .aload_n 2, 1), (1, .aload_n 0, 1), (2, .iload_n 1, 1), (3, .invokevirtual 93, 3), (6, .i2l, 1), (7, .putfield 13, 3), (10, .goto 6, 3), (13, .astore_n 3, 1), (14, .iconst 1, 1), (15, .ireturn, 1), (16, .iconst 0, 1), (17, .ireturn, 1)] := ab_da (by decide +kernel)
theorem ab_s183_0 : ab_Sn B 183 0 (ab_o_ald 2 1) := ab_s_aload_n (k := 2) (n := 2) ab_dk183_0.1 rfl
theorem ab_s183_1 : ab_Sn B 183 1 (ab_o_ald 0 2) := ab_s_aload_n (k := 0) (n := 0) ab_dk183_0.2.1 rfl
theorem ab_s183_2 : ab_Sn B 183 2 (ab_o_ild 1 3) := ab_s_iload_n (k := 1) (n := 1) ab_dk183_0.2.2.1 rfl
theorem ab_s183_3 : ab_Sn B 183 3 (ab_o_call (some (6, 13)) [(1, 14, 3)] 81 2 2 true 6) := ab_s_callV (M' := 81) (na := 1) (i := 93) (ci := 2) (N := 13) (C := RX2) (T := TX2) (v := true) ab_hk183_3 (by decide +kernel) ab_dk183_0.2.2.2.1 rfl (by decide) (by decide +kernel) (by decide +kernel) (by decide) wf_428 wf_814 wf_430 wf_431 wf_197
theorem ab_s183_6 : ab_Sn B 183 6 (ab_o_i2l 7) := ab_s_i2l ab_dk183_0.2.2.2.2.1
theorem ab_s183_7 : ab_Sn B 183 7 (ab_o_putl 7 2 0 10) := ab_s_putlN (i := 13) (ci := 3) (N := 2) (k := 0) (C := RX3) (T := TX3) ab_dk183_0.2.2.2.2.2.1 rfl (by decide) rfl wf_747 rfl (by decide +kernel)
theorem ab_s183_10 : ab_Sn B 183 10 (ab_o_goto 16) := ab_s_goto (tg := 16) (off := 6) ab_dk183_0.2.2.2.2.2.2.1 (by decide)
theorem ab_s183_13 : ab_Sn B 183 13 (ab_o_ast 3 14) := ab_s_astore_n (k := 3) (n := 3) ab_dk183_0.2.2.2.2.2.2.2.1 rfl
theorem ab_s183_14 : ab_Sn B 183 14 (ab_o_const 1 15) := ab_s_iconst (n := 1) ab_dk183_0.2.2.2.2.2.2.2.2.1 rfl
theorem ab_s183_15 : ab_Sn B 183 15 (ab_o_iret false) := ab_s_iret (b := false) (ty := .int) ab_dk183_0.2.2.2.2.2.2.2.2.2.1 rfl (Or.inl ⟨rfl, rfl⟩)
theorem ab_s183_16 : ab_Sn B 183 16 (ab_o_const 0 17) := ab_s_iconst (n := 0) ab_dk183_0.2.2.2.2.2.2.2.2.2.2.1 rfl
theorem ab_s183_17 : ab_Sn B 183 17 (ab_o_iret false) := ab_s_iret (b := false) (ty := .int) ab_dk183_0.2.2.2.2.2.2.2.2.2.2.2.1 rfl (Or.inl ⟨rfl, rfl⟩)
set_option maxRecDepth 20000 in
theorem ab_sn183 : ab_all B 183 0 (ab_c183) := ⟨ab_s183_0, ab_s183_1, ab_s183_2, ab_s183_3, trivial, trivial, ab_s183_6, ab_s183_7, trivial, trivial, ab_s183_10, trivial, trivial, ab_s183_13, ab_s183_14, ab_s183_15, ab_s183_16, ab_s183_17, trivial⟩
theorem ab_dk184_0 : ab_dp 184 [(0, .aload_n 2, 1), (1, .aload_n 0, 1), (2, .iload_n 1, 1), (3, .invokevirtual 96, 3), (6, .i2l, 1), (7, .putfield 13, 3), (10, .goto 9, 3), (13, .astore_n 3, 1), (14, .iconst 1, 1), (15, .ireturn, 1), (16, .astore_n 3, 1), (17, .iconst 2, 1), (18, .ireturn, 1), (19, .iconst 0, 1), (20, .ireturn, 1)] := ab_da (by decide +kernel)
theorem ab_s184_0 : ab_Sn B 184 0 (ab_o_ald 2 1) := ab_s_aload_n (k := 2) (n := 2) ab_dk184_0.1 rfl
theorem ab_s184_1 : ab_Sn B 184 1 (ab_o_ald 0 2) := ab_s_aload_n (k := 0) (n := 0) ab_dk184_0.2.1 rfl
theorem ab_s184_2 : ab_Sn B 184 2 (ab_o_ild 1 3) := ab_s_iload_n (k := 1) (n := 1) ab_dk184_0.2.2.1 rfl
theorem ab_s184_3 : ab_Sn B 184 3 (ab_o_call (some (6, 13)) [(1, 14, 3), (3, 17, 3)] 82 2 2 true 6) := ab_s_callV (M' := 82) (na := 1) (i := 96) (ci := 2) (N := 13) (C := RX2) (T := TX2) (v := true) ab_hk184_3 (by decide +kernel) ab_dk184_0.2.2.2.1 rfl (by decide) (by decide +kernel) (by decide +kernel) (by decide) wf_815 wf_816 wf_817 wf_818 wf_197
theorem ab_s184_6 : ab_Sn B 184 6 (ab_o_i2l 7) := ab_s_i2l ab_dk184_0.2.2.2.2.1
theorem ab_s184_7 : ab_Sn B 184 7 (ab_o_putl 7 2 0 10) := ab_s_putlN (i := 13) (ci := 3) (N := 2) (k := 0) (C := RX3) (T := TX3) ab_dk184_0.2.2.2.2.2.1 rfl (by decide) rfl wf_747 rfl (by decide +kernel)
theorem ab_s184_10 : ab_Sn B 184 10 (ab_o_goto 19) := ab_s_goto (tg := 19) (off := 9) ab_dk184_0.2.2.2.2.2.2.1 (by decide)
theorem ab_s184_13 : ab_Sn B 184 13 (ab_o_ast 3 14) := ab_s_astore_n (k := 3) (n := 3) ab_dk184_0.2.2.2.2.2.2.2.1 rfl
theorem ab_s184_14 : ab_Sn B 184 14 (ab_o_const 1 15) := ab_s_iconst (n := 1) ab_dk184_0.2.2.2.2.2.2.2.2.1 rfl
theorem ab_s184_15 : ab_Sn B 184 15 (ab_o_iret false) := ab_s_iret (b := false) (ty := .int) ab_dk184_0.2.2.2.2.2.2.2.2.2.1 rfl (Or.inl ⟨rfl, rfl⟩)
theorem ab_s184_16 : ab_Sn B 184 16 (ab_o_ast 3 17) := ab_s_astore_n (k := 3) (n := 3) ab_dk184_0.2.2.2.2.2.2.2.2.2.2.1 rfl
theorem ab_s184_17 : ab_Sn B 184 17 (ab_o_const 2 18) := ab_s_iconst (n := 2) ab_dk184_0.2.2.2.2.2.2.2.2.2.2.2.1 rfl
theorem ab_s184_18 : ab_Sn B 184 18 (ab_o_iret false) := ab_s_iret (b := false) (ty := .int) ab_dk184_0.2.2.2.2.2.2.2.2.2.2.2.2.1 rfl (Or.inl ⟨rfl, rfl⟩)
theorem ab_s184_19 : ab_Sn B 184 19 (ab_o_const 0 20) := ab_s_iconst (n := 0) ab_dk184_0.2.2.2.2.2.2.2.2.2.2.2.2.2.1 rfl
theorem ab_s184_20 : ab_Sn B 184 20 (ab_o_iret false) := ab_s_iret (b := false) (ty := .int) ab_dk184_0.2.2.2.2.2.2.2.2.2.2.2.2.2.2.1 rfl (Or.inl ⟨rfl, rfl⟩)
set_option maxRecDepth 20000 in
theorem ab_sn184 : ab_all B 184 0 (ab_c184) := ⟨ab_s184_0, ab_s184_1, ab_s184_2, ab_s184_3, trivial, trivial, ab_s184_6, ab_s184_7, trivial, trivial, ab_s184_10, trivial, trivial, ab_s184_13, ab_s184_14, ab_s184_15, ab_s184_16, ab_s184_17, ab_s184_18, ab_s184_19, ab_s184_20, trivial⟩
theorem ab_dk185_0 : ab_dp 185 [(0, .aload_n 3, 1), (1, .aload_n 0, 1), (2, .iload_n 1, 1), (3, .iload_n 2, 1), (4, .invokevirtual 99, 3), (7, .i2l, 1), (8, .putfield 13, 3), (11, .goto 11, 3), (14, .astore 4, 2), (16, .iconst 1, 1), (17, .ireturn, 1), (18, .astore 4, 2), (20, .iconst 2, 1), (21, .ireturn, 1), (22, .iconst 0, 1), (23, .ireturn, 1)] := ab_da (by decide +kernel)
theorem ab_s185_0 : ab_Sn B 185 0 (ab_o_ald 3 1) := ab_s_aload_n (k := 3) (n := 3) ab_dk185_0.1 rfl
theorem ab_s185_1 : ab_Sn B 185 1 (ab_o_ald 0 2) := ab_s_aload_n (k := 0) (n := 0) ab_dk185_0.2.1 rfl
theorem ab_s185_2 : ab_Sn B 185 2 (ab_o_ild 1 3) := ab_s_iload_n (k := 1) (n := 1) ab_dk185_0.2.2.1 rfl
theorem ab_s185_3 : ab_Sn B 185 3 (ab_o_ild 2 4) := ab_s_iload_n (k := 2) (n := 2) ab_dk185_0.2.2.2.1 rfl
theorem ab_s185_4 : ab_Sn B 185 4 (ab_o_call (some (6, 13)) [(2, 16, 4), (1, 20, 4)] 83 3 3 true 7) := ab_s_callV (M' := 83) (na := 2) (i := 99) (ci := 2) (N := 13) (C := RX2) (T := TX2) (v := true) ab_hk185_4 (by decide +kernel) ab_dk185_0.2.2.2.2.1 rfl (by decide) (by decide +kernel) (by decide +kernel) (by decide) wf_819 wf_820 wf_821 wf_822 wf_197
theorem ab_s185_7 : ab_Sn B 185 7 (ab_o_i2l 8) := ab_s_i2l ab_dk185_0.2.2.2.2.2.1
theorem ab_s185_8 : ab_Sn B 185 8 (ab_o_putl 7 2 0 11) := ab_s_putlN (i := 13) (ci := 3) (N := 2) (k := 0) (C := RX3) (T := TX3) ab_dk185_0.2.2.2.2.2.2.1 rfl (by decide) rfl wf_747 rfl (by decide +kernel)
theorem ab_s185_11 : ab_Sn B 185 11 (ab_o_goto 22) := ab_s_goto (tg := 22) (off := 11) ab_dk185_0.2.2.2.2.2.2.2.1 (by decide)
theorem ab_s185_14 : ab_Sn B 185 14 (ab_o_ast 4 16) := ab_s_astore (k := 4) ab_dk185_0.2.2.2.2.2.2.2.2.1
theorem ab_s185_16 : ab_Sn B 185 16 (ab_o_const 1 17) := ab_s_iconst (n := 1) ab_dk185_0.2.2.2.2.2.2.2.2.2.1 rfl
theorem ab_s185_17 : ab_Sn B 185 17 (ab_o_iret false) := ab_s_iret (b := false) (ty := .int) ab_dk185_0.2.2.2.2.2.2.2.2.2.2.1 rfl (Or.inl ⟨rfl, rfl⟩)
theorem ab_s185_18 : ab_Sn B 185 18 (ab_o_ast 4 20) := ab_s_astore (k := 4) ab_dk185_0.2.2.2.2.2.2.2.2.2.2.2.1
theorem ab_s185_20 : ab_Sn B 185 20 (ab_o_const 2 21) := ab_s_iconst (n := 2) ab_dk185_0.2.2.2.2.2.2.2.2.2.2.2.2.1 rfl
theorem ab_s185_21 : ab_Sn B 185 21 (ab_o_iret false) := ab_s_iret (b := false) (ty := .int) ab_dk185_0.2.2.2.2.2.2.2.2.2.2.2.2.2.1 rfl (Or.inl ⟨rfl, rfl⟩)
theorem ab_s185_22 : ab_Sn B 185 22 (ab_o_const 0 23) := ab_s_iconst (n := 0) ab_dk185_0.2.2.2.2.2.2.2.2.2.2.2.2.2.2.1 rfl
theorem ab_s185_23 : ab_Sn B 185 23 (ab_o_iret false) := ab_s_iret (b := false) (ty := .int) ab_dk185_0.2.2.2.2.2.2.2.2.2.2.2.2.2.2.2.1 rfl (Or.inl ⟨rfl, rfl⟩)
set_option maxRecDepth 20000 in
theorem ab_sn185 : ab_all B 185 0 (ab_c185) := ⟨ab_s185_0, ab_s185_1, ab_s185_2, ab_s185_3, ab_s185_4, trivial, trivial, ab_s185_7, ab_s185_8, trivial, trivial, ab_s185_11, trivial, trivial, ab_s185_14, trivial, ab_s185_16, ab_s185_17, ab_s185_18, trivial, ab_s185_20, ab_s185_21, ab_s185_22, ab_s185_23, trivial⟩
theorem ab_dk186_0 : ab_dp 186 [(0, .new 8, 3), (3, .dup, 1), (4, .invokespecial 102, 3), (7, .astore_n 1, 1), (8, .new 103, 3), (11, .dup, 1), (12, .invokespecial 105, 3), (15, .astore_n 2, 1), (16, .new 14, 3), (19, .dup, 1), (20, .invokespecial 106, 3), (23, .astore_n 3, 1), (24, .iconst 0, 1), (25, .istore 4, 2), (27, .iload 4, 2), (29, .aload_n 0, 1)] := ab_da (by decide +kernel)
theorem ab_dk186_1 : ab_dp 186 [(30, .arraylength, 1), (31, .iconst 5, 1), (32, .isub, 1), (33, .if_icmp .gt 989, 3), (36, .aload_n 0, 1), (37, .iload 4, 2), (39, .iaload, 1), (40, .bipush 31, 2), (42, .iand, 1), (43, .tableswitch 973 0 25 #[117, 157, 209, 237, 265, 293, 345, 373, 430, 458, 522, 562, 578, 594, 622, 674, 714, 754, 782, 810, 838, 866, 894, 934, 947, 960], 117), (160, .aload_n 1, 1), (161, .aload_n 0, 1), (162, .iload 4, 2), (164, .iconst 1, 1), (165, .iadd, 1), (166, .iaload, 1)] := ab_da (by decide +kernel)
theorem ab_dk186_2 : ab_dp 186 [(167, .aload_n 0, 1), (168, .iload 4, 2), (170, .iconst 2, 1), (171, .iadd, 1), (172, .iaload, 1), (173, .aload_n 3, 1), (174, .invokestatic 107, 3), (177, .istore 5, 2), (179, .aload_n 2, 1), (180, .aload_n 0, 1), (181, .iload 4, 2), (183, .iconst 1, 1), (184, .iadd, 1), (185, .iaload, 1), (186, .aload_n 0, 1), (187, .iload 4, 2)] := ab_da (by decide +kernel)
theorem ab_dk186_3 : ab_dp 186 [(189, .iconst 2, 1), (190, .iadd, 1), (191, .iaload, 1), (192, .invokevirtual 112, 3), (195, .istore 6, 2), (197, .goto 819, 3), (200, .aload_n 1, 1), (201, .aload_n 0, 1), (202, .iload 4, 2), (204, .iconst 1, 1), (205, .iadd, 1), (206, .iaload, 1), (207, .aload_n 0, 1), (208, .iload 4, 2), (210, .iconst 2, 1), (211, .iadd, 1)] := ab_da (by decide +kernel)
theorem ab_dk186_4 : ab_dp 186 [(212, .iaload, 1), (213, .aload_n 0, 1), (214, .iload 4, 2), (216, .iconst 3, 1), (217, .iadd, 1), (218, .iaload, 1), (219, .aload_n 3, 1), (220, .invokestatic 113, 3), (223, .istore 5, 2), (225, .aload_n 2, 1), (226, .aload_n 0, 1), (227, .iload 4, 2), (229, .iconst 1, 1), (230, .iadd, 1), (231, .iaload, 1), (232, .aload_n 0, 1)] := ab_da (by decide +kernel)
theorem ab_dk186_5 : ab_dp 186 [(233, .iload 4, 2), (235, .iconst 2, 1), (236, .iadd, 1), (237, .iaload, 1), (238, .aload_n 0, 1), (239, .iload 4, 2), (241, .iconst 3, 1), (242, .iadd, 1), (243, .iaload, 1), (244, .invokevirtual 116, 3), (247, .istore 6, 2), (249, .goto 767, 3), (252, .aload_n 1, 1), (253, .aload_n 0, 1), (254, .iload 4, 2), (256, .iconst 1, 1)] := ab_da (by decide +kernel)
theorem ab_dk186_6 : ab_dp 186 [(257, .iadd, 1), (258, .iaload, 1), (259, .aload_n 3, 1), (260, .invokestatic 117, 3), (263, .istore 5, 2), (265, .aload_n 2, 1), (266, .aload_n 0, 1), (267, .iload 4, 2), (269, .iconst 1, 1), (270, .iadd, 1), (271, .iaload, 1), (272, .invokevirtual 120, 3), (275, .istore 6, 2), (277, .goto 739, 3), (280, .aload_n 1, 1), (281, .aload_n 0, 1)] := ab_da (by decide +kernel)
theorem ab_dk186_7 : ab_dp 186 [(282, .iload 4, 2), (284, .iconst 1, 1), (285, .iadd, 1), (286, .iaload, 1), (287, .aload_n 3, 1), (288, .invokestatic 121, 3), (291, .istore 5, 2), (293, .aload_n 2, 1), (294, .aload_n 0, 1), (295, .iload 4, 2), (297, .iconst 1, 1), (298, .iadd, 1), (299, .iaload, 1), (300, .invokevirtual 123, 3), (303, .istore 6, 2), (305, .goto 711, 3)] := ab_da (by decide +kernel)
theorem ab_dk186_8 : ab_dp 186 [(308, .aload_n 1, 1), (309, .aload_n 0, 1), (310, .iload 4, 2), (312, .iconst 1, 1), (313, .iadd, 1), (314, .iaload, 1), (315, .aload_n 3, 1), (316, .invokestatic 124, 3), (319, .istore 5, 2), (321, .aload_n 2, 1), (322, .aload_n 0, 1), (323, .iload 4, 2), (325, .iconst 1, 1), (326, .iadd, 1), (327, .iaload, 1), (328, .invokevirtual 126, 3)] := ab_da (by decide +kernel)
theorem ab_dk186_9 : ab_dp 186 [(331, .istore 6, 2), (333, .goto 683, 3), (336, .aload_n 1, 1), (337, .aload_n 0, 1), (338, .iload 4, 2), (340, .iconst 1, 1), (341, .iadd, 1), (342, .iaload, 1), (343, .aload_n 0, 1), (344, .iload 4, 2), (346, .iconst 2, 1), (347, .iadd, 1), (348, .iaload, 1), (349, .aload_n 0, 1), (350, .iload 4, 2), (352, .iconst 3, 1)] := ab_da (by decide +kernel)
theorem ab_dk186_10 : ab_dp 186 [(353, .iadd, 1), (354, .iaload, 1), (355, .aload_n 3, 1), (356, .invokestatic 127, 3), (359, .istore 5, 2), (361, .aload_n 2, 1), (362, .aload_n 0, 1), (363, .iload 4, 2), (365, .iconst 1, 1), (366, .iadd, 1), (367, .iaload, 1), (368, .aload_n 0, 1), (369, .iload 4, 2), (371, .iconst 2, 1), (372, .iadd, 1), (373, .iaload, 1)] := ab_da (by decide +kernel)
theorem ab_dk186_11 : ab_dp 186 [(374, .aload_n 0, 1), (375, .iload 4, 2), (377, .iconst 3, 1), (378, .iadd, 1), (379, .iaload, 1), (380, .invokevirtual 129, 3), (383, .istore 6, 2), (385, .goto 631, 3), (388, .aload_n 1, 1), (389, .aload_n 0, 1), (390, .iload 4, 2), (392, .iconst 1, 1), (393, .iadd, 1), (394, .iaload, 1), (395, .aload_n 3, 1), (396, .invokestatic 130, 3)] := ab_da (by decide +kernel)
theorem ab_dk186_12 : ab_dp 186 [(399, .istore 5, 2), (401, .aload_n 2, 1), (402, .aload_n 0, 1), (403, .iload 4, 2), (405, .iconst 1, 1), (406, .iadd, 1), (407, .iaload, 1), (408, .invokevirtual 132, 3), (411, .istore 6, 2), (413, .goto 603, 3), (416, .aload_n 1, 1), (417, .aload_n 0, 1), (418, .iload 4, 2), (420, .iconst 1, 1), (421, .iadd, 1), (422, .iaload, 1)] := ab_da (by decide +kernel)
theorem ab_dk186_13 : ab_dp 186 [(423, .aload_n 3, 1), (424, .invokestatic 133, 3), (427, .istore 5, 2), (429, .aload_n 2, 1), (430, .aload_n 0, 1), (431, .iload 4, 2), (433, .iconst 1, 1), (434, .iadd, 1), (435, .iaload, 1), (436, .invokevirtual 135, 3), (439, .istore 6, 2), (441, .aload_n 2, 1), (442, .invokevirtual 136, 3), (445, .iload 5, 2), (447, .if_icmp .eq 5, 3), (450, .iconst 0, 1)] := ab_da (by decide +kernel)
theorem ab_dk186_14 : ab_dp 186 [(451, .ireturn, 1), (452, .iload 5, 2), (454, .ifCond .ne 16, 3), (457, .aload_n 3, 1), (458, .getfield 13, 3), (461, .iload 6, 2), (463, .i2l, 1), (464, .lcmp, 1), (465, .ifCond .eq 5, 3), (468, .iconst 0, 1), (469, .ireturn, 1), (470, .goto 546, 3), (473, .aload_n 1, 1), (474, .aload_n 0, 1), (475, .iload 4, 2), (477, .iconst 1, 1)] := ab_da (by decide +kernel)
theorem ab_dk186_15 : ab_dp 186 [(478, .iadd, 1), (479, .iaload, 1), (480, .aload_n 3, 1), (481, .invokestatic 139, 3), (484, .istore 5, 2), (486, .aload_n 2, 1), (487, .aload_n 0, 1), (488, .iload 4, 2), (490, .iconst 1, 1), (491, .iadd, 1), (492, .iaload, 1), (493, .invokevirtual 141, 3), (496, .istore 6, 2), (498, .goto 518, 3), (501, .aload_n 1, 1), (502, .aload_n 0, 1)] := ab_da (by decide +kernel)
theorem ab_dk186_16 : ab_dp 186 [(503, .iload 4, 2), (505, .iconst 1, 1), (506, .iadd, 1), (507, .iaload, 1), (508, .aload_n 0, 1), (509, .iload 4, 2), (511, .iconst 2, 1), (512, .iadd, 1), (513, .iaload, 1), (514, .aload_n 0, 1), (515, .iload 4, 2), (517, .iconst 3, 1), (518, .iadd, 1), (519, .iaload, 1), (520, .aload_n 0, 1), (521, .iload 4, 2)] := ab_da (by decide +kernel)
theorem ab_dk186_17 : ab_dp 186 [(523, .iconst 4, 1), (524, .iadd, 1), (525, .iaload, 1), (526, .aload_n 3, 1), (527, .invokestatic 142, 3), (530, .istore 5, 2), (532, .aload_n 2, 1), (533, .aload_n 0, 1), (534, .iload 4, 2), (536, .iconst 1, 1), (537, .iadd, 1), (538, .iaload, 1), (539, .aload_n 0, 1), (540, .iload 4, 2), (542, .iconst 2, 1), (543, .iadd, 1)] := ab_da (by decide +kernel)
theorem ab_dk186_18 : ab_dp 186 [(544, .iaload, 1), (545, .aload_n 0, 1), (546, .iload 4, 2), (548, .iconst 3, 1), (549, .iadd, 1), (550, .iaload, 1), (551, .aload_n 0, 1), (552, .iload 4, 2), (554, .iconst 4, 1), (555, .iadd, 1), (556, .iaload, 1), (557, .invokevirtual 145, 3), (560, .istore 6, 2), (562, .goto 454, 3), (565, .aload_n 1, 1), (566, .aload_n 0, 1)] := ab_da (by decide +kernel)
theorem ab_dk186_19 : ab_dp 186 [(567, .iload 4, 2), (569, .iconst 1, 1), (570, .iadd, 1), (571, .iaload, 1), (572, .aload_n 0, 1), (573, .iload 4, 2), (575, .iconst 2, 1), (576, .iadd, 1), (577, .iaload, 1), (578, .aload_n 3, 1), (579, .invokestatic 146, 3), (582, .istore 5, 2), (584, .aload_n 2, 1), (585, .aload_n 0, 1), (586, .iload 4, 2), (588, .iconst 1, 1)] := ab_da (by decide +kernel)
theorem ab_dk186_20 : ab_dp 186 [(589, .iadd, 1), (590, .iaload, 1), (591, .aload_n 0, 1), (592, .iload 4, 2), (594, .iconst 2, 1), (595, .iadd, 1), (596, .iaload, 1), (597, .invokevirtual 148, 3), (600, .istore 6, 2), (602, .goto 414, 3), (605, .aload_n 1, 1), (606, .aload_n 3, 1), (607, .invokestatic 149, 3), (610, .istore 5, 2), (612, .aload_n 2, 1), (613, .invokevirtual 152, 3)] := ab_da (by decide +kernel)
theorem ab_dk186_21 : ab_dp 186 [(616, .istore 6, 2), (618, .goto 398, 3), (621, .aload_n 1, 1), (622, .aload_n 3, 1), (623, .invokestatic 153, 3), (626, .istore 5, 2), (628, .aload_n 2, 1), (629, .invokevirtual 155, 3), (632, .istore 6, 2), (634, .goto 382, 3), (637, .aload_n 1, 1), (638, .aload_n 0, 1), (639, .iload 4, 2), (641, .iconst 1, 1), (642, .iadd, 1), (643, .iaload, 1)] := ab_da (by decide +kernel)
theorem ab_dk186_22 : ab_dp 186 [(644, .aload_n 3, 1), (645, .invokestatic 156, 3), (648, .istore 5, 2), (650, .aload_n 2, 1), (651, .aload_n 0, 1), (652, .iload 4, 2), (654, .iconst 1, 1), (655, .iadd, 1), (656, .iaload, 1), (657, .invokevirtual 158, 3), (660, .istore 6, 2), (662, .goto 354, 3), (665, .aload_n 1, 1), (666, .aload_n 0, 1), (667, .iload 4, 2), (669, .iconst 1, 1)] := ab_da (by decide +kernel)
theorem ab_dk186_23 : ab_dp 186 [(670, .iadd, 1), (671, .iaload, 1), (672, .aload_n 0, 1), (673, .iload 4, 2), (675, .iconst 2, 1), (676, .iadd, 1), (677, .iaload, 1), (678, .aload_n 0, 1), (679, .iload 4, 2), (681, .iconst 3, 1), (682, .iadd, 1), (683, .iaload, 1), (684, .aload_n 3, 1), (685, .invokestatic 159, 3), (688, .istore 5, 2), (690, .aload_n 2, 1)] := ab_da (by decide +kernel)
theorem ab_dk186_24 : ab_dp 186 [(691, .aload_n 0, 1), (692, .iload 4, 2), (694, .iconst 1, 1), (695, .iadd, 1), (696, .iaload, 1), (697, .aload_n 0, 1), (698, .iload 4, 2), (700, .iconst 2, 1), (701, .iadd, 1), (702, .iaload, 1), (703, .aload_n 0, 1), (704, .iload 4, 2), (706, .iconst 3, 1), (707, .iadd, 1), (708, .iaload, 1), (709, .invokevirtual 161, 3)] := ab_da (by decide +kernel)
theorem ab_dk186_25 : ab_dp 186 [(712, .istore 6, 2), (714, .goto 302, 3), (717, .aload_n 1, 1), (718, .aload_n 0, 1), (719, .iload 4, 2), (721, .iconst 1, 1), (722, .iadd, 1), (723, .iaload, 1), (724, .aload_n 0, 1), (725, .iload 4, 2), (727, .iconst 2, 1), (728, .iadd, 1), (729, .iaload, 1), (730, .aload_n 3, 1), (731, .invokestatic 162, 3), (734, .istore 5, 2)] := ab_da (by decide +kernel)
theorem ab_dk186_26 : ab_dp 186 [(736, .aload_n 2, 1), (737, .aload_n 0, 1), (738, .iload 4, 2), (740, .iconst 1, 1), (741, .iadd, 1), (742, .iaload, 1), (743, .aload_n 0, 1), (744, .iload 4, 2), (746, .iconst 2, 1), (747, .iadd, 1), (748, .iaload, 1), (749, .invokevirtual 164, 3), (752, .istore 6, 2), (754, .goto 262, 3), (757, .aload_n 1, 1), (758, .aload_n 0, 1)] := ab_da (by decide +kernel)
theorem ab_dk186_27 : ab_dp 186 [(759, .iload 4, 2), (761, .iconst 1, 1), (762, .iadd, 1), (763, .iaload, 1), (764, .aload_n 0, 1), (765, .iload 4, 2), (767, .iconst 2, 1), (768, .iadd, 1), (769, .iaload, 1), (770, .aload_n 3, 1), (771, .invokestatic 165, 3), (774, .istore 5, 2), (776, .aload_n 2, 1), (777, .aload_n 0, 1), (778, .iload 4, 2), (780, .iconst 1, 1)] := ab_da (by decide +kernel)
theorem ab_dk186_28 : ab_dp 186 [(781, .iadd, 1), (782, .iaload, 1), (783, .aload_n 0, 1), (784, .iload 4, 2), (786, .iconst 2, 1), (787, .iadd, 1), (788, .iaload, 1), (789, .invokevirtual 167, 3), (792, .istore 6, 2), (794, .goto 222, 3), (797, .aload_n 1, 1), (798, .aload_n 0, 1), (799, .iload 4, 2), (801, .iconst 1, 1), (802, .iadd, 1), (803, .iaload, 1)] := ab_da (by decide +kernel)
theorem ab_dk186_29 : ab_dp 186 [(804, .aload_n 3, 1), (805, .invokestatic 168, 3), (808, .istore 5, 2), (810, .aload_n 2, 1), (811, .aload_n 0, 1), (812, .iload 4, 2), (814, .iconst 1, 1), (815, .iadd, 1), (816, .iaload, 1), (817, .invokevirtual 170, 3), (820, .istore 6, 2), (822, .goto 194, 3), (825, .aload_n 1, 1), (826, .aload_n 0, 1), (827, .iload 4, 2), (829, .iconst 1, 1)] := ab_da (by decide +kernel)
theorem ab_dk186_30 : ab_dp 186 [(830, .iadd, 1), (831, .iaload, 1), (832, .aload_n 3, 1), (833, .invokestatic 171, 3), (836, .istore 5, 2), (838, .aload_n 2, 1), (839, .aload_n 0, 1), (840, .iload 4, 2), (842, .iconst 1, 1), (843, .iadd, 1), (844, .iaload, 1), (845, .invokevirtual 173, 3), (848, .istore 6, 2), (850, .goto 166, 3), (853, .aload_n 1, 1), (854, .aload_n 0, 1)] := ab_da (by decide +kernel)
theorem ab_dk186_31 : ab_dp 186 [(855, .iload 4, 2), (857, .iconst 1, 1), (858, .iadd, 1), (859, .iaload, 1), (860, .aload_n 3, 1), (861, .invokestatic 174, 3), (864, .istore 5, 2), (866, .aload_n 2, 1), (867, .aload_n 0, 1), (868, .iload 4, 2), (870, .iconst 1, 1), (871, .iadd, 1), (872, .iaload, 1), (873, .invokevirtual 176, 3), (876, .astore 6, 2), (878, .goto 138, 3)] := ab_da (by decide +kernel)
theorem ab_dk186_32 : ab_dp 186 [(881, .aload_n 1, 1), (882, .aload_n 0, 1), (883, .iload 4, 2), (885, .iconst 1, 1), (886, .iadd, 1), (887, .iaload, 1), (888, .aload_n 3, 1), (889, .invokestatic 177, 3), (892, .istore 5, 2), (894, .aload_n 2, 1), (895, .aload_n 0, 1), (896, .iload 4, 2), (898, .iconst 1, 1), (899, .iadd, 1), (900, .iaload, 1), (901, .invokevirtual 179, 3)] := ab_da (by decide +kernel)
theorem ab_dk186_33 : ab_dp 186 [(904, .istore 6, 2), (906, .goto 110, 3), (909, .aload_n 1, 1), (910, .aload_n 0, 1), (911, .iload 4, 2), (913, .iconst 1, 1), (914, .iadd, 1), (915, .iaload, 1), (916, .aload_n 3, 1), (917, .invokestatic 180, 3), (920, .istore 5, 2), (922, .aload_n 2, 1), (923, .aload_n 0, 1), (924, .iload 4, 2), (926, .iconst 1, 1), (927, .iadd, 1)] := ab_da (by decide +kernel)
theorem ab_dk186_34 : ab_dp 186 [(928, .iaload, 1), (929, .invokevirtual 182, 3), (932, .istore 6, 2), (934, .goto 82, 3), (937, .aload_n 1, 1), (938, .aload_n 0, 1), (939, .iload 4, 2), (941, .iconst 1, 1), (942, .iadd, 1), (943, .iaload, 1), (944, .aload_n 0, 1), (945, .iload 4, 2), (947, .iconst 2, 1), (948, .iadd, 1), (949, .iaload, 1), (950, .aload_n 3, 1)] := ab_da (by decide +kernel)
theorem ab_dk186_35 : ab_dp 186 [(951, .invokestatic 183, 3), (954, .istore 5, 2), (956, .aload_n 2, 1), (957, .aload_n 0, 1), (958, .iload 4, 2), (960, .iconst 1, 1), (961, .iadd, 1), (962, .iaload, 1), (963, .aload_n 0, 1), (964, .iload 4, 2), (966, .iconst 2, 1), (967, .iadd, 1), (968, .iaload, 1), (969, .invokevirtual 185, 3), (972, .istore 6, 2), (974, .goto 42, 3)] := ab_da (by decide +kernel)
theorem ab_dk186_36 : ab_dp 186 [(977, .aload_n 1, 1), (978, .invokevirtual 186, 3), (981, .pop, 1), (982, .aload_n 2, 1), (983, .invokevirtual 189, 3), (986, .pop, 1), (987, .goto 29, 3), (990, .aload_n 1, 1), (991, .invokevirtual 190, 3), (994, .pop, 1), (995, .aload_n 2, 1), (996, .invokevirtual 193, 3), (999, .pop, 1), (1000, .goto 16, 3), (1003, .aload_n 1, 1), (1004, .invokevirtual 194, 3)] := ab_da (by decide +kernel)
theorem ab_dk186_37 : ab_dp 186 [(1007, .pop2, 1), (1008, .aload_n 2, 1), (1009, .invokevirtual 198, 3), (1012, .pop2, 1), (1013, .goto 3, 3), (1016, .iinc 4 5, 3), (1019, .goto (-992), 3), (1022, .iconst 1, 1), (1023, .ireturn, 1)] := ab_da (by decide +kernel)
theorem ab_s186_0 : ab_Sn B 186 0 (ab_o_new 6 13 3) := ab_s_new (i := 8) (ci := 2) (N := 13) (C := RX2) (T := TX2) ab_dk186_0.1 rfl (by decide) wf_823 wf_824 wf_825 (by decide +kernel)
theorem ab_s186_3 : ab_Sn B 186 3 (ab_o_dup 4) := ab_s_dup ab_dk186_0.2.1
theorem ab_s186_4 : ab_Sn B 186 4 (ab_o_call (some (6, 13)) [] 60 1 1 false 7) := ab_s_callI (M' := 60) (na := 0) (i := 102) (sh := (6, 13)) (by decide) (ab_hok_n (by decide +kernel)) (by decide +kernel) ab_dk186_0.2.2.1 (by decide +kernel) (by decide +kernel) (by decide) rfl rfl wf_826 wf_828 wf_827 wf_197
theorem ab_s186_7 : ab_Sn B 186 7 (ab_o_ast 1 8) := ab_s_astore_n (k := 1) (n := 1) ab_dk186_0.2.2.2.1 rfl
theorem ab_s186_8 : ab_Sn B 186 8 (ab_o_new 8 22 11) := ab_s_new (i := 103) (ci := 4) (N := 22) (C := RX4) (T := TX4) ab_dk186_0.2.2.2.2.1 rfl (by decide) wf_829 wf_830 wf_831 (by decide +kernel)
theorem ab_s186_11 : ab_Sn B 186 11 (ab_o_dup 12) := ab_s_dup ab_dk186_0.2.2.2.2.2.1
theorem ab_s186_12 : ab_Sn B 186 12 (ab_o_call (some (8, 22)) [] 98 1 1 false 15) := ab_s_callI (M' := 98) (na := 0) (i := 105) (sh := (8, 22)) (by decide) (ab_hok_n (by decide +kernel)) (by decide +kernel) ab_dk186_0.2.2.2.2.2.2.1 (by decide +kernel) (by decide +kernel) (by decide) rfl rfl wf_832 wf_834 wf_833 wf_459
theorem ab_s186_15 : ab_Sn B 186 15 (ab_o_ast 2 16) := ab_s_astore_n (k := 2) (n := 2) ab_dk186_0.2.2.2.2.2.2.2.1 rfl
theorem ab_s186_16 : ab_Sn B 186 16 (ab_o_new 7 2 19) := ab_s_new (i := 14) (ci := 3) (N := 2) (C := RX3) (T := TX3) ab_dk186_0.2.2.2.2.2.2.2.2.1 rfl (by decide) wf_835 wf_836 wf_837 (by decide +kernel)
theorem ab_s186_19 : ab_Sn B 186 19 (ab_o_dup 20) := ab_s_dup ab_dk186_0.2.2.2.2.2.2.2.2.2.1
theorem ab_s186_20 : ab_Sn B 186 20 (ab_o_call (some (7, 2)) [] 97 1 1 false 23) := ab_s_callIN (M' := 97) (na := 0) (i := 106) (sh := (7, 2)) (host := "StaggershelfLaw") (by decide) (ab_hok_n (by decide +kernel)) (by decide +kernel) ab_dk186_0.2.2.2.2.2.2.2.2.2.2.1 (by decide +kernel) (by decide +kernel) (by decide) rfl rfl wf_838 wf_841 wf_839 wf_840
theorem ab_s186_23 : ab_Sn B 186 23 (ab_o_ast 3 24) := ab_s_astore_n (k := 3) (n := 3) ab_dk186_0.2.2.2.2.2.2.2.2.2.2.2.1 rfl
theorem ab_s186_24 : ab_Sn B 186 24 (ab_o_const 0 25) := ab_s_iconst (n := 0) ab_dk186_0.2.2.2.2.2.2.2.2.2.2.2.2.1 rfl
theorem ab_s186_25 : ab_Sn B 186 25 (ab_o_ist 4 27) := ab_s_istore (k := 4) ab_dk186_0.2.2.2.2.2.2.2.2.2.2.2.2.2.1
theorem ab_s186_27 : ab_Sn B 186 27 (ab_o_ild 4 29) := ab_s_iload (k := 4) ab_dk186_0.2.2.2.2.2.2.2.2.2.2.2.2.2.2.1
theorem ab_s186_29 : ab_Sn B 186 29 (ab_o_ald 0 30) := ab_s_aload_n (k := 0) (n := 0) ab_dk186_0.2.2.2.2.2.2.2.2.2.2.2.2.2.2.2.1 rfl
theorem ab_s186_30 : ab_Sn B 186 30 (ab_o_slen B 31) := ab_s_slen ab_dk186_1.1
theorem ab_s186_31 : ab_Sn B 186 31 (ab_o_const 5 32) := ab_s_iconst (n := 5) ab_dk186_1.2.1 rfl
theorem ab_s186_32 : ab_Sn B 186 32 (ab_o_bin (fun a b => a - b) 33) := ab_s_isub ab_dk186_1.2.2.1
theorem ab_s186_33 : ab_Sn B 186 33 (ab_o_icmp ab_gt 1022 36) := ab_s_icmp_gt (tg := 1022) (off := 989) ab_dk186_1.2.2.2.1 (by decide)
theorem ab_s186_36 : ab_Sn B 186 36 (ab_o_ald 0 37) := ab_s_aload_n (k := 0) (n := 0) ab_dk186_1.2.2.2.2.1 rfl
theorem ab_s186_37 : ab_Sn B 186 37 (ab_o_ild 4 39) := ab_s_iload (k := 4) ab_dk186_1.2.2.2.2.2.1
theorem ab_s186_39 : ab_Sn B 186 39 (ab_o_sld B 40) := ab_s_sld ab_dk186_1.2.2.2.2.2.2.1
theorem ab_s186_40 : ab_Sn B 186 40 (ab_o_const 31 42) := ab_s_bipush (n := 31) ab_dk186_1.2.2.2.2.2.2.2.1 (by decide)
theorem ab_s186_42 : ab_Sn B 186 42 (ab_o_bin ab_iand 43) := ab_s_iand ab_dk186_1.2.2.2.2.2.2.2.2.1
theorem ab_s186_43 : ab_Sn B 186 43 (ab_o_sw 0 [160, 200, 252, 280, 308, 336, 388, 416, 473, 501, 565, 605, 621, 637, 665, 717, 757, 797, 825, 853, 881, 909, 937, 977, 990, 1003] 1016) := ab_s_sw (dflt := 973) (lo := 0) (hi := 25) (offs := #[117, 157, 209, 237, 265, 293, 345, 373, 430, 458, 522, 562, 578, 594, 622, 674, 714, 754, 782, 810, 838, 866, 894, 934, 947, 960]) (len := 117) ab_dk186_1.2.2.2.2.2.2.2.2.2.1 (by decide) (by decide) (by intro i hi; match i, hi with | 0, _ => exact ⟨117, rfl, rfl⟩ | 1, _ => exact ⟨157, rfl, rfl⟩ | 2, _ => exact ⟨209, rfl, rfl⟩ | 3, _ => exact ⟨237, rfl, rfl⟩ | 4, _ => exact ⟨265, rfl, rfl⟩ | 5, _ => exact ⟨293, rfl, rfl⟩ | 6, _ => exact ⟨345, rfl, rfl⟩ | 7, _ => exact ⟨373, rfl, rfl⟩ | 8, _ => exact ⟨430, rfl, rfl⟩ | 9, _ => exact ⟨458, rfl, rfl⟩ | 10, _ => exact ⟨522, rfl, rfl⟩ | 11, _ => exact ⟨562, rfl, rfl⟩ | 12, _ => exact ⟨578, rfl, rfl⟩ | 13, _ => exact ⟨594, rfl, rfl⟩ | 14, _ => exact ⟨622, rfl, rfl⟩ | 15, _ => exact ⟨674, rfl, rfl⟩ | 16, _ => exact ⟨714, rfl, rfl⟩ | 17, _ => exact ⟨754, rfl, rfl⟩ | 18, _ => exact ⟨782, rfl, rfl⟩ | 19, _ => exact ⟨810, rfl, rfl⟩ | 20, _ => exact ⟨838, rfl, rfl⟩ | 21, _ => exact ⟨866, rfl, rfl⟩ | 22, _ => exact ⟨894, rfl, rfl⟩ | 23, _ => exact ⟨934, rfl, rfl⟩ | 24, _ => exact ⟨947, rfl, rfl⟩ | 25, _ => exact ⟨960, rfl, rfl⟩ | i + 26, hi => exact absurd hi (by simp))
theorem ab_s186_160 : ab_Sn B 186 160 (ab_o_ald 1 161) := ab_s_aload_n (k := 1) (n := 1) ab_dk186_1.2.2.2.2.2.2.2.2.2.2.1 rfl
theorem ab_s186_161 : ab_Sn B 186 161 (ab_o_ald 0 162) := ab_s_aload_n (k := 0) (n := 0) ab_dk186_1.2.2.2.2.2.2.2.2.2.2.2.1 rfl
theorem ab_s186_162 : ab_Sn B 186 162 (ab_o_ild 4 164) := ab_s_iload (k := 4) ab_dk186_1.2.2.2.2.2.2.2.2.2.2.2.2.1
theorem ab_s186_164 : ab_Sn B 186 164 (ab_o_const 1 165) := ab_s_iconst (n := 1) ab_dk186_1.2.2.2.2.2.2.2.2.2.2.2.2.2.1 rfl
theorem ab_s186_165 : ab_Sn B 186 165 (ab_o_bin (fun a b => a + b) 166) := ab_s_iadd ab_dk186_1.2.2.2.2.2.2.2.2.2.2.2.2.2.2.1
theorem ab_s186_166 : ab_Sn B 186 166 (ab_o_sld B 167) := ab_s_sld ab_dk186_1.2.2.2.2.2.2.2.2.2.2.2.2.2.2.2.1
theorem ab_s186_167 : ab_Sn B 186 167 (ab_o_ald 0 168) := ab_s_aload_n (k := 0) (n := 0) ab_dk186_2.1 rfl
theorem ab_s186_168 : ab_Sn B 186 168 (ab_o_ild 4 170) := ab_s_iload (k := 4) ab_dk186_2.2.1
theorem ab_s186_170 : ab_Sn B 186 170 (ab_o_const 2 171) := ab_s_iconst (n := 2) ab_dk186_2.2.2.1 rfl
theorem ab_s186_171 : ab_Sn B 186 171 (ab_o_bin (fun a b => a + b) 172) := ab_s_iadd ab_dk186_2.2.2.2.1
theorem ab_s186_172 : ab_Sn B 186 172 (ab_o_sld B 173) := ab_s_sld ab_dk186_2.2.2.2.2.1
theorem ab_s186_173 : ab_Sn B 186 173 (ab_o_ald 3 174) := ab_s_aload_n (k := 3) (n := 3) ab_dk186_2.2.2.2.2.2.1 rfl
theorem ab_s186_174 : ab_Sn B 186 174 (ab_o_call none [] 163 5 4 true 177) := ab_s_callSX (M' := 163) (na := 4) (i := 107) (v := true) (ab_hok_n (by decide +kernel)) (by decide +kernel) ab_dk186_2.2.2.2.2.2.2.1 (by decide +kernel) (by decide +kernel) (by decide) wf_842 wf_843 wf_844 wf_845
theorem ab_s186_177 : ab_Sn B 186 177 (ab_o_ist 5 179) := ab_s_istore (k := 5) ab_dk186_2.2.2.2.2.2.2.2.1
theorem ab_s186_179 : ab_Sn B 186 179 (ab_o_ald 2 180) := ab_s_aload_n (k := 2) (n := 2) ab_dk186_2.2.2.2.2.2.2.2.2.1 rfl
theorem ab_s186_180 : ab_Sn B 186 180 (ab_o_ald 0 181) := ab_s_aload_n (k := 0) (n := 0) ab_dk186_2.2.2.2.2.2.2.2.2.2.1 rfl
theorem ab_s186_181 : ab_Sn B 186 181 (ab_o_ild 4 183) := ab_s_iload (k := 4) ab_dk186_2.2.2.2.2.2.2.2.2.2.2.1
theorem ab_s186_183 : ab_Sn B 186 183 (ab_o_const 1 184) := ab_s_iconst (n := 1) ab_dk186_2.2.2.2.2.2.2.2.2.2.2.2.1 rfl
theorem ab_s186_184 : ab_Sn B 186 184 (ab_o_bin (fun a b => a + b) 185) := ab_s_iadd ab_dk186_2.2.2.2.2.2.2.2.2.2.2.2.2.1
theorem ab_s186_185 : ab_Sn B 186 185 (ab_o_sld B 186) := ab_s_sld ab_dk186_2.2.2.2.2.2.2.2.2.2.2.2.2.2.1
theorem ab_s186_186 : ab_Sn B 186 186 (ab_o_ald 0 187) := ab_s_aload_n (k := 0) (n := 0) ab_dk186_2.2.2.2.2.2.2.2.2.2.2.2.2.2.2.1 rfl
theorem ab_s186_187 : ab_Sn B 186 187 (ab_o_ild 4 189) := ab_s_iload (k := 4) ab_dk186_2.2.2.2.2.2.2.2.2.2.2.2.2.2.2.2.1
theorem ab_s186_189 : ab_Sn B 186 189 (ab_o_const 2 190) := ab_s_iconst (n := 2) ab_dk186_3.1 rfl
theorem ab_s186_190 : ab_Sn B 186 190 (ab_o_bin (fun a b => a + b) 191) := ab_s_iadd ab_dk186_3.2.1
theorem ab_s186_191 : ab_Sn B 186 191 (ab_o_sld B 192) := ab_s_sld ab_dk186_3.2.2.1
theorem ab_s186_192 : ab_Sn B 186 192 (ab_o_call (some (8, 22)) [] 122 5 3 true 195) := ab_s_callV (M' := 122) (na := 2) (i := 112) (ci := 4) (N := 22) (C := RX4) (T := TX4) (v := true) (ab_hok_n (by decide +kernel)) (by decide +kernel) ab_dk186_3.2.2.2.1 rfl (by decide) (by decide +kernel) (by decide +kernel) (by decide) wf_846 wf_847 wf_848 wf_849 wf_459
theorem ab_s186_195 : ab_Sn B 186 195 (ab_o_ist 6 197) := ab_s_istore (k := 6) ab_dk186_3.2.2.2.2.1
theorem ab_s186_197 : ab_Sn B 186 197 (ab_o_goto 1016) := ab_s_goto (tg := 1016) (off := 819) ab_dk186_3.2.2.2.2.2.1 (by decide)
theorem ab_s186_200 : ab_Sn B 186 200 (ab_o_ald 1 201) := ab_s_aload_n (k := 1) (n := 1) ab_dk186_3.2.2.2.2.2.2.1 rfl
theorem ab_s186_201 : ab_Sn B 186 201 (ab_o_ald 0 202) := ab_s_aload_n (k := 0) (n := 0) ab_dk186_3.2.2.2.2.2.2.2.1 rfl
theorem ab_s186_202 : ab_Sn B 186 202 (ab_o_ild 4 204) := ab_s_iload (k := 4) ab_dk186_3.2.2.2.2.2.2.2.2.1
theorem ab_s186_204 : ab_Sn B 186 204 (ab_o_const 1 205) := ab_s_iconst (n := 1) ab_dk186_3.2.2.2.2.2.2.2.2.2.1 rfl
theorem ab_s186_205 : ab_Sn B 186 205 (ab_o_bin (fun a b => a + b) 206) := ab_s_iadd ab_dk186_3.2.2.2.2.2.2.2.2.2.2.1
theorem ab_s186_206 : ab_Sn B 186 206 (ab_o_sld B 207) := ab_s_sld ab_dk186_3.2.2.2.2.2.2.2.2.2.2.2.1
theorem ab_s186_207 : ab_Sn B 186 207 (ab_o_ald 0 208) := ab_s_aload_n (k := 0) (n := 0) ab_dk186_3.2.2.2.2.2.2.2.2.2.2.2.2.1 rfl
theorem ab_s186_208 : ab_Sn B 186 208 (ab_o_ild 4 210) := ab_s_iload (k := 4) ab_dk186_3.2.2.2.2.2.2.2.2.2.2.2.2.2.1
theorem ab_s186_210 : ab_Sn B 186 210 (ab_o_const 2 211) := ab_s_iconst (n := 2) ab_dk186_3.2.2.2.2.2.2.2.2.2.2.2.2.2.2.1 rfl
theorem ab_s186_211 : ab_Sn B 186 211 (ab_o_bin (fun a b => a + b) 212) := ab_s_iadd ab_dk186_3.2.2.2.2.2.2.2.2.2.2.2.2.2.2.2.1
theorem ab_s186_212 : ab_Sn B 186 212 (ab_o_sld B 213) := ab_s_sld ab_dk186_4.1
theorem ab_s186_213 : ab_Sn B 186 213 (ab_o_ald 0 214) := ab_s_aload_n (k := 0) (n := 0) ab_dk186_4.2.1 rfl
theorem ab_s186_214 : ab_Sn B 186 214 (ab_o_ild 4 216) := ab_s_iload (k := 4) ab_dk186_4.2.2.1
theorem ab_s186_216 : ab_Sn B 186 216 (ab_o_const 3 217) := ab_s_iconst (n := 3) ab_dk186_4.2.2.2.1 rfl
theorem ab_s186_217 : ab_Sn B 186 217 (ab_o_bin (fun a b => a + b) 218) := ab_s_iadd ab_dk186_4.2.2.2.2.1
theorem ab_s186_218 : ab_Sn B 186 218 (ab_o_sld B 219) := ab_s_sld ab_dk186_4.2.2.2.2.2.1
theorem ab_s186_219 : ab_Sn B 186 219 (ab_o_ald 3 220) := ab_s_aload_n (k := 3) (n := 3) ab_dk186_4.2.2.2.2.2.2.1 rfl
theorem ab_s186_220 : ab_Sn B 186 220 (ab_o_call none [] 164 6 5 true 223) := ab_s_callSX (M' := 164) (na := 5) (i := 113) (v := true) (ab_hok_n (by decide +kernel)) (by decide +kernel) ab_dk186_4.2.2.2.2.2.2.2.1 (by decide +kernel) (by decide +kernel) (by decide) wf_850 wf_851 wf_852 wf_845
theorem ab_s186_223 : ab_Sn B 186 223 (ab_o_ist 5 225) := ab_s_istore (k := 5) ab_dk186_4.2.2.2.2.2.2.2.2.1
theorem ab_s186_225 : ab_Sn B 186 225 (ab_o_ald 2 226) := ab_s_aload_n (k := 2) (n := 2) ab_dk186_4.2.2.2.2.2.2.2.2.2.1 rfl
theorem ab_s186_226 : ab_Sn B 186 226 (ab_o_ald 0 227) := ab_s_aload_n (k := 0) (n := 0) ab_dk186_4.2.2.2.2.2.2.2.2.2.2.1 rfl
theorem ab_s186_227 : ab_Sn B 186 227 (ab_o_ild 4 229) := ab_s_iload (k := 4) ab_dk186_4.2.2.2.2.2.2.2.2.2.2.2.1
theorem ab_s186_229 : ab_Sn B 186 229 (ab_o_const 1 230) := ab_s_iconst (n := 1) ab_dk186_4.2.2.2.2.2.2.2.2.2.2.2.2.1 rfl
theorem ab_s186_230 : ab_Sn B 186 230 (ab_o_bin (fun a b => a + b) 231) := ab_s_iadd ab_dk186_4.2.2.2.2.2.2.2.2.2.2.2.2.2.1
theorem ab_s186_231 : ab_Sn B 186 231 (ab_o_sld B 232) := ab_s_sld ab_dk186_4.2.2.2.2.2.2.2.2.2.2.2.2.2.2.1
theorem ab_s186_232 : ab_Sn B 186 232 (ab_o_ald 0 233) := ab_s_aload_n (k := 0) (n := 0) ab_dk186_4.2.2.2.2.2.2.2.2.2.2.2.2.2.2.2.1 rfl
theorem ab_s186_233 : ab_Sn B 186 233 (ab_o_ild 4 235) := ab_s_iload (k := 4) ab_dk186_5.1
theorem ab_s186_235 : ab_Sn B 186 235 (ab_o_const 2 236) := ab_s_iconst (n := 2) ab_dk186_5.2.1 rfl
theorem ab_s186_236 : ab_Sn B 186 236 (ab_o_bin (fun a b => a + b) 237) := ab_s_iadd ab_dk186_5.2.2.1
theorem ab_s186_237 : ab_Sn B 186 237 (ab_o_sld B 238) := ab_s_sld ab_dk186_5.2.2.2.1
theorem ab_s186_238 : ab_Sn B 186 238 (ab_o_ald 0 239) := ab_s_aload_n (k := 0) (n := 0) ab_dk186_5.2.2.2.2.1 rfl
theorem ab_s186_239 : ab_Sn B 186 239 (ab_o_ild 4 241) := ab_s_iload (k := 4) ab_dk186_5.2.2.2.2.2.1
theorem ab_s186_241 : ab_Sn B 186 241 (ab_o_const 3 242) := ab_s_iconst (n := 3) ab_dk186_5.2.2.2.2.2.2.1 rfl
theorem ab_s186_242 : ab_Sn B 186 242 (ab_o_bin (fun a b => a + b) 243) := ab_s_iadd ab_dk186_5.2.2.2.2.2.2.2.1
theorem ab_s186_243 : ab_Sn B 186 243 (ab_o_sld B 244) := ab_s_sld ab_dk186_5.2.2.2.2.2.2.2.2.1
theorem ab_s186_244 : ab_Sn B 186 244 (ab_o_call (some (8, 22)) [] 123 5 4 true 247) := ab_s_callV (M' := 123) (na := 3) (i := 116) (ci := 4) (N := 22) (C := RX4) (T := TX4) (v := true) (ab_hok_n (by decide +kernel)) (by decide +kernel) ab_dk186_5.2.2.2.2.2.2.2.2.2.1 rfl (by decide) (by decide +kernel) (by decide +kernel) (by decide) wf_853 wf_854 wf_855 wf_856 wf_459
theorem ab_s186_247 : ab_Sn B 186 247 (ab_o_ist 6 249) := ab_s_istore (k := 6) ab_dk186_5.2.2.2.2.2.2.2.2.2.2.1
theorem ab_s186_249 : ab_Sn B 186 249 (ab_o_goto 1016) := ab_s_goto (tg := 1016) (off := 767) ab_dk186_5.2.2.2.2.2.2.2.2.2.2.2.1 (by decide)
theorem ab_s186_252 : ab_Sn B 186 252 (ab_o_ald 1 253) := ab_s_aload_n (k := 1) (n := 1) ab_dk186_5.2.2.2.2.2.2.2.2.2.2.2.2.1 rfl
theorem ab_s186_253 : ab_Sn B 186 253 (ab_o_ald 0 254) := ab_s_aload_n (k := 0) (n := 0) ab_dk186_5.2.2.2.2.2.2.2.2.2.2.2.2.2.1 rfl
theorem ab_s186_254 : ab_Sn B 186 254 (ab_o_ild 4 256) := ab_s_iload (k := 4) ab_dk186_5.2.2.2.2.2.2.2.2.2.2.2.2.2.2.1
theorem ab_s186_256 : ab_Sn B 186 256 (ab_o_const 1 257) := ab_s_iconst (n := 1) ab_dk186_5.2.2.2.2.2.2.2.2.2.2.2.2.2.2.2.1 rfl
theorem ab_s186_257 : ab_Sn B 186 257 (ab_o_bin (fun a b => a + b) 258) := ab_s_iadd ab_dk186_6.1
theorem ab_s186_258 : ab_Sn B 186 258 (ab_o_sld B 259) := ab_s_sld ab_dk186_6.2.1
theorem ab_s186_259 : ab_Sn B 186 259 (ab_o_ald 3 260) := ab_s_aload_n (k := 3) (n := 3) ab_dk186_6.2.2.1 rfl
theorem ab_s186_260 : ab_Sn B 186 260 (ab_o_call none [] 165 4 3 true 263) := ab_s_callSX (M' := 165) (na := 3) (i := 117) (v := true) (ab_hok_n (by decide +kernel)) (by decide +kernel) ab_dk186_6.2.2.2.1 (by decide +kernel) (by decide +kernel) (by decide) wf_857 wf_858 wf_859 wf_845
theorem ab_s186_263 : ab_Sn B 186 263 (ab_o_ist 5 265) := ab_s_istore (k := 5) ab_dk186_6.2.2.2.2.1
theorem ab_s186_265 : ab_Sn B 186 265 (ab_o_ald 2 266) := ab_s_aload_n (k := 2) (n := 2) ab_dk186_6.2.2.2.2.2.1 rfl
theorem ab_s186_266 : ab_Sn B 186 266 (ab_o_ald 0 267) := ab_s_aload_n (k := 0) (n := 0) ab_dk186_6.2.2.2.2.2.2.1 rfl
theorem ab_s186_267 : ab_Sn B 186 267 (ab_o_ild 4 269) := ab_s_iload (k := 4) ab_dk186_6.2.2.2.2.2.2.2.1
theorem ab_s186_269 : ab_Sn B 186 269 (ab_o_const 1 270) := ab_s_iconst (n := 1) ab_dk186_6.2.2.2.2.2.2.2.2.1 rfl
theorem ab_s186_270 : ab_Sn B 186 270 (ab_o_bin (fun a b => a + b) 271) := ab_s_iadd ab_dk186_6.2.2.2.2.2.2.2.2.2.1
theorem ab_s186_271 : ab_Sn B 186 271 (ab_o_sld B 272) := ab_s_sld ab_dk186_6.2.2.2.2.2.2.2.2.2.2.1
theorem ab_s186_272 : ab_Sn B 186 272 (ab_o_call (some (8, 22)) [] 124 3 2 true 275) := ab_s_callV (M' := 124) (na := 1) (i := 120) (ci := 4) (N := 22) (C := RX4) (T := TX4) (v := true) (ab_hok_n (by decide +kernel)) (by decide +kernel) ab_dk186_6.2.2.2.2.2.2.2.2.2.2.2.1 rfl (by decide) (by decide +kernel) (by decide +kernel) (by decide) wf_860 wf_861 wf_862 wf_863 wf_459
theorem ab_s186_275 : ab_Sn B 186 275 (ab_o_ist 6 277) := ab_s_istore (k := 6) ab_dk186_6.2.2.2.2.2.2.2.2.2.2.2.2.1
theorem ab_s186_277 : ab_Sn B 186 277 (ab_o_goto 1016) := ab_s_goto (tg := 1016) (off := 739) ab_dk186_6.2.2.2.2.2.2.2.2.2.2.2.2.2.1 (by decide)
theorem ab_s186_280 : ab_Sn B 186 280 (ab_o_ald 1 281) := ab_s_aload_n (k := 1) (n := 1) ab_dk186_6.2.2.2.2.2.2.2.2.2.2.2.2.2.2.1 rfl
theorem ab_s186_281 : ab_Sn B 186 281 (ab_o_ald 0 282) := ab_s_aload_n (k := 0) (n := 0) ab_dk186_6.2.2.2.2.2.2.2.2.2.2.2.2.2.2.2.1 rfl
theorem ab_s186_282 : ab_Sn B 186 282 (ab_o_ild 4 284) := ab_s_iload (k := 4) ab_dk186_7.1
theorem ab_s186_284 : ab_Sn B 186 284 (ab_o_const 1 285) := ab_s_iconst (n := 1) ab_dk186_7.2.1 rfl
theorem ab_s186_285 : ab_Sn B 186 285 (ab_o_bin (fun a b => a + b) 286) := ab_s_iadd ab_dk186_7.2.2.1
theorem ab_s186_286 : ab_Sn B 186 286 (ab_o_sld B 287) := ab_s_sld ab_dk186_7.2.2.2.1
theorem ab_s186_287 : ab_Sn B 186 287 (ab_o_ald 3 288) := ab_s_aload_n (k := 3) (n := 3) ab_dk186_7.2.2.2.2.1 rfl
theorem ab_s186_288 : ab_Sn B 186 288 (ab_o_call none [] 166 4 3 true 291) := ab_s_callSX (M' := 166) (na := 3) (i := 121) (v := true) (ab_hok_n (by decide +kernel)) (by decide +kernel) ab_dk186_7.2.2.2.2.2.1 (by decide +kernel) (by decide +kernel) (by decide) wf_864 wf_865 wf_866 wf_845
theorem ab_s186_291 : ab_Sn B 186 291 (ab_o_ist 5 293) := ab_s_istore (k := 5) ab_dk186_7.2.2.2.2.2.2.1
theorem ab_s186_293 : ab_Sn B 186 293 (ab_o_ald 2 294) := ab_s_aload_n (k := 2) (n := 2) ab_dk186_7.2.2.2.2.2.2.2.1 rfl
theorem ab_s186_294 : ab_Sn B 186 294 (ab_o_ald 0 295) := ab_s_aload_n (k := 0) (n := 0) ab_dk186_7.2.2.2.2.2.2.2.2.1 rfl
theorem ab_s186_295 : ab_Sn B 186 295 (ab_o_ild 4 297) := ab_s_iload (k := 4) ab_dk186_7.2.2.2.2.2.2.2.2.2.1
theorem ab_s186_297 : ab_Sn B 186 297 (ab_o_const 1 298) := ab_s_iconst (n := 1) ab_dk186_7.2.2.2.2.2.2.2.2.2.2.1 rfl
theorem ab_s186_298 : ab_Sn B 186 298 (ab_o_bin (fun a b => a + b) 299) := ab_s_iadd ab_dk186_7.2.2.2.2.2.2.2.2.2.2.2.1
theorem ab_s186_299 : ab_Sn B 186 299 (ab_o_sld B 300) := ab_s_sld ab_dk186_7.2.2.2.2.2.2.2.2.2.2.2.2.1
theorem ab_s186_300 : ab_Sn B 186 300 (ab_o_call (some (8, 22)) [] 125 2 2 true 303) := ab_s_callV (M' := 125) (na := 1) (i := 123) (ci := 4) (N := 22) (C := RX4) (T := TX4) (v := true) (ab_hok_n (by decide +kernel)) (by decide +kernel) ab_dk186_7.2.2.2.2.2.2.2.2.2.2.2.2.2.1 rfl (by decide) (by decide +kernel) (by decide +kernel) (by decide) wf_867 wf_868 wf_869 wf_870 wf_459
theorem ab_s186_303 : ab_Sn B 186 303 (ab_o_ist 6 305) := ab_s_istore (k := 6) ab_dk186_7.2.2.2.2.2.2.2.2.2.2.2.2.2.2.1
theorem ab_s186_305 : ab_Sn B 186 305 (ab_o_goto 1016) := ab_s_goto (tg := 1016) (off := 711) ab_dk186_7.2.2.2.2.2.2.2.2.2.2.2.2.2.2.2.1 (by decide)
theorem ab_s186_308 : ab_Sn B 186 308 (ab_o_ald 1 309) := ab_s_aload_n (k := 1) (n := 1) ab_dk186_8.1 rfl
theorem ab_s186_309 : ab_Sn B 186 309 (ab_o_ald 0 310) := ab_s_aload_n (k := 0) (n := 0) ab_dk186_8.2.1 rfl
theorem ab_s186_310 : ab_Sn B 186 310 (ab_o_ild 4 312) := ab_s_iload (k := 4) ab_dk186_8.2.2.1
theorem ab_s186_312 : ab_Sn B 186 312 (ab_o_const 1 313) := ab_s_iconst (n := 1) ab_dk186_8.2.2.2.1 rfl
theorem ab_s186_313 : ab_Sn B 186 313 (ab_o_bin (fun a b => a + b) 314) := ab_s_iadd ab_dk186_8.2.2.2.2.1
theorem ab_s186_314 : ab_Sn B 186 314 (ab_o_sld B 315) := ab_s_sld ab_dk186_8.2.2.2.2.2.1
theorem ab_s186_315 : ab_Sn B 186 315 (ab_o_ald 3 316) := ab_s_aload_n (k := 3) (n := 3) ab_dk186_8.2.2.2.2.2.2.1 rfl
theorem ab_s186_316 : ab_Sn B 186 316 (ab_o_call none [] 167 4 3 true 319) := ab_s_callSX (M' := 167) (na := 3) (i := 124) (v := true) (ab_hok_n (by decide +kernel)) (by decide +kernel) ab_dk186_8.2.2.2.2.2.2.2.1 (by decide +kernel) (by decide +kernel) (by decide) wf_871 wf_872 wf_873 wf_845
theorem ab_s186_319 : ab_Sn B 186 319 (ab_o_ist 5 321) := ab_s_istore (k := 5) ab_dk186_8.2.2.2.2.2.2.2.2.1
theorem ab_s186_321 : ab_Sn B 186 321 (ab_o_ald 2 322) := ab_s_aload_n (k := 2) (n := 2) ab_dk186_8.2.2.2.2.2.2.2.2.2.1 rfl
theorem ab_s186_322 : ab_Sn B 186 322 (ab_o_ald 0 323) := ab_s_aload_n (k := 0) (n := 0) ab_dk186_8.2.2.2.2.2.2.2.2.2.2.1 rfl
theorem ab_s186_323 : ab_Sn B 186 323 (ab_o_ild 4 325) := ab_s_iload (k := 4) ab_dk186_8.2.2.2.2.2.2.2.2.2.2.2.1
theorem ab_s186_325 : ab_Sn B 186 325 (ab_o_const 1 326) := ab_s_iconst (n := 1) ab_dk186_8.2.2.2.2.2.2.2.2.2.2.2.2.1 rfl
theorem ab_s186_326 : ab_Sn B 186 326 (ab_o_bin (fun a b => a + b) 327) := ab_s_iadd ab_dk186_8.2.2.2.2.2.2.2.2.2.2.2.2.2.1
theorem ab_s186_327 : ab_Sn B 186 327 (ab_o_sld B 328) := ab_s_sld ab_dk186_8.2.2.2.2.2.2.2.2.2.2.2.2.2.2.1
theorem ab_s186_328 : ab_Sn B 186 328 (ab_o_call (some (8, 22)) [] 126 3 2 true 331) := ab_s_callV (M' := 126) (na := 1) (i := 126) (ci := 4) (N := 22) (C := RX4) (T := TX4) (v := true) (ab_hok_n (by decide +kernel)) (by decide +kernel) ab_dk186_8.2.2.2.2.2.2.2.2.2.2.2.2.2.2.2.1 rfl (by decide) (by decide +kernel) (by decide +kernel) (by decide) wf_874 wf_875 wf_876 wf_877 wf_459
theorem ab_s186_331 : ab_Sn B 186 331 (ab_o_ist 6 333) := ab_s_istore (k := 6) ab_dk186_9.1
theorem ab_s186_333 : ab_Sn B 186 333 (ab_o_goto 1016) := ab_s_goto (tg := 1016) (off := 683) ab_dk186_9.2.1 (by decide)
theorem ab_s186_336 : ab_Sn B 186 336 (ab_o_ald 1 337) := ab_s_aload_n (k := 1) (n := 1) ab_dk186_9.2.2.1 rfl
theorem ab_s186_337 : ab_Sn B 186 337 (ab_o_ald 0 338) := ab_s_aload_n (k := 0) (n := 0) ab_dk186_9.2.2.2.1 rfl
theorem ab_s186_338 : ab_Sn B 186 338 (ab_o_ild 4 340) := ab_s_iload (k := 4) ab_dk186_9.2.2.2.2.1
theorem ab_s186_340 : ab_Sn B 186 340 (ab_o_const 1 341) := ab_s_iconst (n := 1) ab_dk186_9.2.2.2.2.2.1 rfl
theorem ab_s186_341 : ab_Sn B 186 341 (ab_o_bin (fun a b => a + b) 342) := ab_s_iadd ab_dk186_9.2.2.2.2.2.2.1
theorem ab_s186_342 : ab_Sn B 186 342 (ab_o_sld B 343) := ab_s_sld ab_dk186_9.2.2.2.2.2.2.2.1
theorem ab_s186_343 : ab_Sn B 186 343 (ab_o_ald 0 344) := ab_s_aload_n (k := 0) (n := 0) ab_dk186_9.2.2.2.2.2.2.2.2.1 rfl
theorem ab_s186_344 : ab_Sn B 186 344 (ab_o_ild 4 346) := ab_s_iload (k := 4) ab_dk186_9.2.2.2.2.2.2.2.2.2.1
theorem ab_s186_346 : ab_Sn B 186 346 (ab_o_const 2 347) := ab_s_iconst (n := 2) ab_dk186_9.2.2.2.2.2.2.2.2.2.2.1 rfl
theorem ab_s186_347 : ab_Sn B 186 347 (ab_o_bin (fun a b => a + b) 348) := ab_s_iadd ab_dk186_9.2.2.2.2.2.2.2.2.2.2.2.1
theorem ab_s186_348 : ab_Sn B 186 348 (ab_o_sld B 349) := ab_s_sld ab_dk186_9.2.2.2.2.2.2.2.2.2.2.2.2.1
theorem ab_s186_349 : ab_Sn B 186 349 (ab_o_ald 0 350) := ab_s_aload_n (k := 0) (n := 0) ab_dk186_9.2.2.2.2.2.2.2.2.2.2.2.2.2.1 rfl
theorem ab_s186_350 : ab_Sn B 186 350 (ab_o_ild 4 352) := ab_s_iload (k := 4) ab_dk186_9.2.2.2.2.2.2.2.2.2.2.2.2.2.2.1
theorem ab_s186_352 : ab_Sn B 186 352 (ab_o_const 3 353) := ab_s_iconst (n := 3) ab_dk186_9.2.2.2.2.2.2.2.2.2.2.2.2.2.2.2.1 rfl
theorem ab_s186_353 : ab_Sn B 186 353 (ab_o_bin (fun a b => a + b) 354) := ab_s_iadd ab_dk186_10.1
theorem ab_s186_354 : ab_Sn B 186 354 (ab_o_sld B 355) := ab_s_sld ab_dk186_10.2.1
theorem ab_s186_355 : ab_Sn B 186 355 (ab_o_ald 3 356) := ab_s_aload_n (k := 3) (n := 3) ab_dk186_10.2.2.1 rfl
theorem ab_s186_356 : ab_Sn B 186 356 (ab_o_call none [] 168 6 5 true 359) := ab_s_callSX (M' := 168) (na := 5) (i := 127) (v := true) (ab_hok_n (by decide +kernel)) (by decide +kernel) ab_dk186_10.2.2.2.1 (by decide +kernel) (by decide +kernel) (by decide) wf_878 wf_879 wf_880 wf_845
theorem ab_s186_359 : ab_Sn B 186 359 (ab_o_ist 5 361) := ab_s_istore (k := 5) ab_dk186_10.2.2.2.2.1
theorem ab_s186_361 : ab_Sn B 186 361 (ab_o_ald 2 362) := ab_s_aload_n (k := 2) (n := 2) ab_dk186_10.2.2.2.2.2.1 rfl
theorem ab_s186_362 : ab_Sn B 186 362 (ab_o_ald 0 363) := ab_s_aload_n (k := 0) (n := 0) ab_dk186_10.2.2.2.2.2.2.1 rfl
theorem ab_s186_363 : ab_Sn B 186 363 (ab_o_ild 4 365) := ab_s_iload (k := 4) ab_dk186_10.2.2.2.2.2.2.2.1
theorem ab_s186_365 : ab_Sn B 186 365 (ab_o_const 1 366) := ab_s_iconst (n := 1) ab_dk186_10.2.2.2.2.2.2.2.2.1 rfl
theorem ab_s186_366 : ab_Sn B 186 366 (ab_o_bin (fun a b => a + b) 367) := ab_s_iadd ab_dk186_10.2.2.2.2.2.2.2.2.2.1
theorem ab_s186_367 : ab_Sn B 186 367 (ab_o_sld B 368) := ab_s_sld ab_dk186_10.2.2.2.2.2.2.2.2.2.2.1
theorem ab_s186_368 : ab_Sn B 186 368 (ab_o_ald 0 369) := ab_s_aload_n (k := 0) (n := 0) ab_dk186_10.2.2.2.2.2.2.2.2.2.2.2.1 rfl
theorem ab_s186_369 : ab_Sn B 186 369 (ab_o_ild 4 371) := ab_s_iload (k := 4) ab_dk186_10.2.2.2.2.2.2.2.2.2.2.2.2.1
theorem ab_s186_371 : ab_Sn B 186 371 (ab_o_const 2 372) := ab_s_iconst (n := 2) ab_dk186_10.2.2.2.2.2.2.2.2.2.2.2.2.2.1 rfl
theorem ab_s186_372 : ab_Sn B 186 372 (ab_o_bin (fun a b => a + b) 373) := ab_s_iadd ab_dk186_10.2.2.2.2.2.2.2.2.2.2.2.2.2.2.1
theorem ab_s186_373 : ab_Sn B 186 373 (ab_o_sld B 374) := ab_s_sld ab_dk186_10.2.2.2.2.2.2.2.2.2.2.2.2.2.2.2.1
theorem ab_s186_374 : ab_Sn B 186 374 (ab_o_ald 0 375) := ab_s_aload_n (k := 0) (n := 0) ab_dk186_11.1 rfl
theorem ab_s186_375 : ab_Sn B 186 375 (ab_o_ild 4 377) := ab_s_iload (k := 4) ab_dk186_11.2.1
theorem ab_s186_377 : ab_Sn B 186 377 (ab_o_const 3 378) := ab_s_iconst (n := 3) ab_dk186_11.2.2.1 rfl
theorem ab_s186_378 : ab_Sn B 186 378 (ab_o_bin (fun a b => a + b) 379) := ab_s_iadd ab_dk186_11.2.2.2.1
theorem ab_s186_379 : ab_Sn B 186 379 (ab_o_sld B 380) := ab_s_sld ab_dk186_11.2.2.2.2.1
theorem ab_s186_380 : ab_Sn B 186 380 (ab_o_call (some (8, 22)) [] 127 4 4 true 383) := ab_s_callV (M' := 127) (na := 3) (i := 129) (ci := 4) (N := 22) (C := RX4) (T := TX4) (v := true) (ab_hok_n (by decide +kernel)) (by decide +kernel) ab_dk186_11.2.2.2.2.2.1 rfl (by decide) (by decide +kernel) (by decide +kernel) (by decide) wf_881 wf_882 wf_883 wf_884 wf_459
theorem ab_s186_383 : ab_Sn B 186 383 (ab_o_ist 6 385) := ab_s_istore (k := 6) ab_dk186_11.2.2.2.2.2.2.1
theorem ab_s186_385 : ab_Sn B 186 385 (ab_o_goto 1016) := ab_s_goto (tg := 1016) (off := 631) ab_dk186_11.2.2.2.2.2.2.2.1 (by decide)
theorem ab_s186_388 : ab_Sn B 186 388 (ab_o_ald 1 389) := ab_s_aload_n (k := 1) (n := 1) ab_dk186_11.2.2.2.2.2.2.2.2.1 rfl
theorem ab_s186_389 : ab_Sn B 186 389 (ab_o_ald 0 390) := ab_s_aload_n (k := 0) (n := 0) ab_dk186_11.2.2.2.2.2.2.2.2.2.1 rfl
theorem ab_s186_390 : ab_Sn B 186 390 (ab_o_ild 4 392) := ab_s_iload (k := 4) ab_dk186_11.2.2.2.2.2.2.2.2.2.2.1
theorem ab_s186_392 : ab_Sn B 186 392 (ab_o_const 1 393) := ab_s_iconst (n := 1) ab_dk186_11.2.2.2.2.2.2.2.2.2.2.2.1 rfl
theorem ab_s186_393 : ab_Sn B 186 393 (ab_o_bin (fun a b => a + b) 394) := ab_s_iadd ab_dk186_11.2.2.2.2.2.2.2.2.2.2.2.2.1
theorem ab_s186_394 : ab_Sn B 186 394 (ab_o_sld B 395) := ab_s_sld ab_dk186_11.2.2.2.2.2.2.2.2.2.2.2.2.2.1
theorem ab_s186_395 : ab_Sn B 186 395 (ab_o_ald 3 396) := ab_s_aload_n (k := 3) (n := 3) ab_dk186_11.2.2.2.2.2.2.2.2.2.2.2.2.2.2.1 rfl
theorem ab_s186_396 : ab_Sn B 186 396 (ab_o_call none [] 169 4 3 true 399) := ab_s_callSX (M' := 169) (na := 3) (i := 130) (v := true) (ab_hok_n (by decide +kernel)) (by decide +kernel) ab_dk186_11.2.2.2.2.2.2.2.2.2.2.2.2.2.2.2.1 (by decide +kernel) (by decide +kernel) (by decide) wf_885 wf_886 wf_887 wf_845
theorem ab_s186_399 : ab_Sn B 186 399 (ab_o_ist 5 401) := ab_s_istore (k := 5) ab_dk186_12.1
theorem ab_s186_401 : ab_Sn B 186 401 (ab_o_ald 2 402) := ab_s_aload_n (k := 2) (n := 2) ab_dk186_12.2.1 rfl
theorem ab_s186_402 : ab_Sn B 186 402 (ab_o_ald 0 403) := ab_s_aload_n (k := 0) (n := 0) ab_dk186_12.2.2.1 rfl
theorem ab_s186_403 : ab_Sn B 186 403 (ab_o_ild 4 405) := ab_s_iload (k := 4) ab_dk186_12.2.2.2.1
theorem ab_s186_405 : ab_Sn B 186 405 (ab_o_const 1 406) := ab_s_iconst (n := 1) ab_dk186_12.2.2.2.2.1 rfl
theorem ab_s186_406 : ab_Sn B 186 406 (ab_o_bin (fun a b => a + b) 407) := ab_s_iadd ab_dk186_12.2.2.2.2.2.1
theorem ab_s186_407 : ab_Sn B 186 407 (ab_o_sld B 408) := ab_s_sld ab_dk186_12.2.2.2.2.2.2.1
theorem ab_s186_408 : ab_Sn B 186 408 (ab_o_call (some (8, 22)) [] 129 3 2 true 411) := ab_s_callV (M' := 129) (na := 1) (i := 132) (ci := 4) (N := 22) (C := RX4) (T := TX4) (v := true) (ab_hok_n (by decide +kernel)) (by decide +kernel) ab_dk186_12.2.2.2.2.2.2.2.1 rfl (by decide) (by decide +kernel) (by decide +kernel) (by decide) wf_888 wf_889 wf_890 wf_891 wf_459
theorem ab_s186_411 : ab_Sn B 186 411 (ab_o_ist 6 413) := ab_s_istore (k := 6) ab_dk186_12.2.2.2.2.2.2.2.2.1
theorem ab_s186_413 : ab_Sn B 186 413 (ab_o_goto 1016) := ab_s_goto (tg := 1016) (off := 603) ab_dk186_12.2.2.2.2.2.2.2.2.2.1 (by decide)
theorem ab_s186_416 : ab_Sn B 186 416 (ab_o_ald 1 417) := ab_s_aload_n (k := 1) (n := 1) ab_dk186_12.2.2.2.2.2.2.2.2.2.2.1 rfl
theorem ab_s186_417 : ab_Sn B 186 417 (ab_o_ald 0 418) := ab_s_aload_n (k := 0) (n := 0) ab_dk186_12.2.2.2.2.2.2.2.2.2.2.2.1 rfl
theorem ab_s186_418 : ab_Sn B 186 418 (ab_o_ild 4 420) := ab_s_iload (k := 4) ab_dk186_12.2.2.2.2.2.2.2.2.2.2.2.2.1
theorem ab_s186_420 : ab_Sn B 186 420 (ab_o_const 1 421) := ab_s_iconst (n := 1) ab_dk186_12.2.2.2.2.2.2.2.2.2.2.2.2.2.1 rfl
theorem ab_s186_421 : ab_Sn B 186 421 (ab_o_bin (fun a b => a + b) 422) := ab_s_iadd ab_dk186_12.2.2.2.2.2.2.2.2.2.2.2.2.2.2.1
theorem ab_s186_422 : ab_Sn B 186 422 (ab_o_sld B 423) := ab_s_sld ab_dk186_12.2.2.2.2.2.2.2.2.2.2.2.2.2.2.2.1
theorem ab_s186_423 : ab_Sn B 186 423 (ab_o_ald 3 424) := ab_s_aload_n (k := 3) (n := 3) ab_dk186_13.1 rfl
theorem ab_s186_424 : ab_Sn B 186 424 (ab_o_call none [] 170 4 3 true 427) := ab_s_callSX (M' := 170) (na := 3) (i := 133) (v := true) (ab_hok_n (by decide +kernel)) (by decide +kernel) ab_dk186_13.2.1 (by decide +kernel) (by decide +kernel) (by decide) wf_892 wf_893 wf_894 wf_845
theorem ab_s186_427 : ab_Sn B 186 427 (ab_o_ist 5 429) := ab_s_istore (k := 5) ab_dk186_13.2.2.1
theorem ab_s186_429 : ab_Sn B 186 429 (ab_o_ald 2 430) := ab_s_aload_n (k := 2) (n := 2) ab_dk186_13.2.2.2.1 rfl
theorem ab_s186_430 : ab_Sn B 186 430 (ab_o_ald 0 431) := ab_s_aload_n (k := 0) (n := 0) ab_dk186_13.2.2.2.2.1 rfl
theorem ab_s186_431 : ab_Sn B 186 431 (ab_o_ild 4 433) := ab_s_iload (k := 4) ab_dk186_13.2.2.2.2.2.1
theorem ab_s186_433 : ab_Sn B 186 433 (ab_o_const 1 434) := ab_s_iconst (n := 1) ab_dk186_13.2.2.2.2.2.2.1 rfl
theorem ab_s186_434 : ab_Sn B 186 434 (ab_o_bin (fun a b => a + b) 435) := ab_s_iadd ab_dk186_13.2.2.2.2.2.2.2.1
theorem ab_s186_435 : ab_Sn B 186 435 (ab_o_sld B 436) := ab_s_sld ab_dk186_13.2.2.2.2.2.2.2.2.1
theorem ab_s186_436 : ab_Sn B 186 436 (ab_o_call (some (8, 22)) [] 130 3 2 true 439) := ab_s_callV (M' := 130) (na := 1) (i := 135) (ci := 4) (N := 22) (C := RX4) (T := TX4) (v := true) (ab_hok_n (by decide +kernel)) (by decide +kernel) ab_dk186_13.2.2.2.2.2.2.2.2.2.1 rfl (by decide) (by decide +kernel) (by decide +kernel) (by decide) wf_895 wf_896 wf_897 wf_898 wf_459
theorem ab_s186_439 : ab_Sn B 186 439 (ab_o_ist 6 441) := ab_s_istore (k := 6) ab_dk186_13.2.2.2.2.2.2.2.2.2.2.1
theorem ab_s186_441 : ab_Sn B 186 441 (ab_o_ald 2 442) := ab_s_aload_n (k := 2) (n := 2) ab_dk186_13.2.2.2.2.2.2.2.2.2.2.2.1 rfl
theorem ab_s186_442 : ab_Sn B 186 442 (ab_o_call (some (8, 22)) [] 99 1 1 true 445) := ab_s_callV (M' := 99) (na := 0) (i := 136) (ci := 4) (N := 22) (C := RX4) (T := TX4) (v := true) (ab_hok_n (by decide +kernel)) (by decide +kernel) ab_dk186_13.2.2.2.2.2.2.2.2.2.2.2.2.1 rfl (by decide) (by decide +kernel) (by decide +kernel) (by decide) wf_899 wf_900 wf_901 wf_902 wf_459
theorem ab_s186_445 : ab_Sn B 186 445 (ab_o_ild 5 447) := ab_s_iload (k := 5) ab_dk186_13.2.2.2.2.2.2.2.2.2.2.2.2.2.1
theorem ab_s186_447 : ab_Sn B 186 447 (ab_o_icmp ab_eq 452 450) := ab_s_icmp_eq (tg := 452) (off := 5) ab_dk186_13.2.2.2.2.2.2.2.2.2.2.2.2.2.2.1 (by decide)
theorem ab_s186_450 : ab_Sn B 186 450 (ab_o_const 0 451) := ab_s_iconst (n := 0) ab_dk186_13.2.2.2.2.2.2.2.2.2.2.2.2.2.2.2.1 rfl
theorem ab_s186_451 : ab_Sn B 186 451 (ab_o_iret true) := ab_s_iret (b := true) (ty := .boolean) ab_dk186_14.1 rfl (Or.inr (Or.inl ⟨rfl, rfl⟩))
theorem ab_s186_452 : ab_Sn B 186 452 (ab_o_ild 5 454) := ab_s_iload (k := 5) ab_dk186_14.2.1
theorem ab_s186_454 : ab_Sn B 186 454 (ab_o_if ab_ne 470 457) := ab_s_if_ne (tg := 470) (off := 16) ab_dk186_14.2.2.1 (by decide)
theorem ab_s186_457 : ab_Sn B 186 457 (ab_o_ald 3 458) := ab_s_aload_n (k := 3) (n := 3) ab_dk186_14.2.2.2.1 rfl
theorem ab_s186_458 : ab_Sn B 186 458 (ab_o_getl 7 2 0 461) := ab_s_getlN (i := 13) (ci := 3) (N := 2) (k := 0) (C := RX3) (T := TX3) ab_dk186_14.2.2.2.2.1 rfl (by decide) rfl wf_747
theorem ab_s186_461 : ab_Sn B 186 461 (ab_o_ild 6 463) := ab_s_iload (k := 6) ab_dk186_14.2.2.2.2.2.1
theorem ab_s186_463 : ab_Sn B 186 463 (ab_o_i2l 464) := ab_s_i2l ab_dk186_14.2.2.2.2.2.2.1
theorem ab_s186_464 : ab_Sn B 186 464 (ab_o_lcmp 465) := ab_s_lcmp ab_dk186_14.2.2.2.2.2.2.2.1
theorem ab_s186_465 : ab_Sn B 186 465 (ab_o_if ab_eq 470 468) := ab_s_if_eq (tg := 470) (off := 5) ab_dk186_14.2.2.2.2.2.2.2.2.1 (by decide)
theorem ab_s186_468 : ab_Sn B 186 468 (ab_o_const 0 469) := ab_s_iconst (n := 0) ab_dk186_14.2.2.2.2.2.2.2.2.2.1 rfl
theorem ab_s186_469 : ab_Sn B 186 469 (ab_o_iret true) := ab_s_iret (b := true) (ty := .boolean) ab_dk186_14.2.2.2.2.2.2.2.2.2.2.1 rfl (Or.inr (Or.inl ⟨rfl, rfl⟩))
theorem ab_s186_470 : ab_Sn B 186 470 (ab_o_goto 1016) := ab_s_goto (tg := 1016) (off := 546) ab_dk186_14.2.2.2.2.2.2.2.2.2.2.2.1 (by decide)
theorem ab_s186_473 : ab_Sn B 186 473 (ab_o_ald 1 474) := ab_s_aload_n (k := 1) (n := 1) ab_dk186_14.2.2.2.2.2.2.2.2.2.2.2.2.1 rfl
theorem ab_s186_474 : ab_Sn B 186 474 (ab_o_ald 0 475) := ab_s_aload_n (k := 0) (n := 0) ab_dk186_14.2.2.2.2.2.2.2.2.2.2.2.2.2.1 rfl
theorem ab_s186_475 : ab_Sn B 186 475 (ab_o_ild 4 477) := ab_s_iload (k := 4) ab_dk186_14.2.2.2.2.2.2.2.2.2.2.2.2.2.2.1
theorem ab_s186_477 : ab_Sn B 186 477 (ab_o_const 1 478) := ab_s_iconst (n := 1) ab_dk186_14.2.2.2.2.2.2.2.2.2.2.2.2.2.2.2.1 rfl
theorem ab_s186_478 : ab_Sn B 186 478 (ab_o_bin (fun a b => a + b) 479) := ab_s_iadd ab_dk186_15.1
theorem ab_s186_479 : ab_Sn B 186 479 (ab_o_sld B 480) := ab_s_sld ab_dk186_15.2.1
theorem ab_s186_480 : ab_Sn B 186 480 (ab_o_ald 3 481) := ab_s_aload_n (k := 3) (n := 3) ab_dk186_15.2.2.1 rfl
theorem ab_s186_481 : ab_Sn B 186 481 (ab_o_call none [] 171 4 3 true 484) := ab_s_callSX (M' := 171) (na := 3) (i := 139) (v := true) (ab_hok_n (by decide +kernel)) (by decide +kernel) ab_dk186_15.2.2.2.1 (by decide +kernel) (by decide +kernel) (by decide) wf_903 wf_904 wf_905 wf_845
theorem ab_s186_484 : ab_Sn B 186 484 (ab_o_ist 5 486) := ab_s_istore (k := 5) ab_dk186_15.2.2.2.2.1
theorem ab_s186_486 : ab_Sn B 186 486 (ab_o_ald 2 487) := ab_s_aload_n (k := 2) (n := 2) ab_dk186_15.2.2.2.2.2.1 rfl
theorem ab_s186_487 : ab_Sn B 186 487 (ab_o_ald 0 488) := ab_s_aload_n (k := 0) (n := 0) ab_dk186_15.2.2.2.2.2.2.1 rfl
theorem ab_s186_488 : ab_Sn B 186 488 (ab_o_ild 4 490) := ab_s_iload (k := 4) ab_dk186_15.2.2.2.2.2.2.2.1
theorem ab_s186_490 : ab_Sn B 186 490 (ab_o_const 1 491) := ab_s_iconst (n := 1) ab_dk186_15.2.2.2.2.2.2.2.2.1 rfl
theorem ab_s186_491 : ab_Sn B 186 491 (ab_o_bin (fun a b => a + b) 492) := ab_s_iadd ab_dk186_15.2.2.2.2.2.2.2.2.2.1
theorem ab_s186_492 : ab_Sn B 186 492 (ab_o_sld B 493) := ab_s_sld ab_dk186_15.2.2.2.2.2.2.2.2.2.2.1
theorem ab_s186_493 : ab_Sn B 186 493 (ab_o_call (some (8, 22)) [] 131 5 2 true 496) := ab_s_callV (M' := 131) (na := 1) (i := 141) (ci := 4) (N := 22) (C := RX4) (T := TX4) (v := true) (ab_hok_n (by decide +kernel)) (by decide +kernel) ab_dk186_15.2.2.2.2.2.2.2.2.2.2.2.1 rfl (by decide) (by decide +kernel) (by decide +kernel) (by decide) wf_906 wf_907 wf_908 wf_909 wf_459
theorem ab_s186_496 : ab_Sn B 186 496 (ab_o_ist 6 498) := ab_s_istore (k := 6) ab_dk186_15.2.2.2.2.2.2.2.2.2.2.2.2.1
theorem ab_s186_498 : ab_Sn B 186 498 (ab_o_goto 1016) := ab_s_goto (tg := 1016) (off := 518) ab_dk186_15.2.2.2.2.2.2.2.2.2.2.2.2.2.1 (by decide)
theorem ab_s186_501 : ab_Sn B 186 501 (ab_o_ald 1 502) := ab_s_aload_n (k := 1) (n := 1) ab_dk186_15.2.2.2.2.2.2.2.2.2.2.2.2.2.2.1 rfl
theorem ab_s186_502 : ab_Sn B 186 502 (ab_o_ald 0 503) := ab_s_aload_n (k := 0) (n := 0) ab_dk186_15.2.2.2.2.2.2.2.2.2.2.2.2.2.2.2.1 rfl
theorem ab_s186_503 : ab_Sn B 186 503 (ab_o_ild 4 505) := ab_s_iload (k := 4) ab_dk186_16.1
theorem ab_s186_505 : ab_Sn B 186 505 (ab_o_const 1 506) := ab_s_iconst (n := 1) ab_dk186_16.2.1 rfl
theorem ab_s186_506 : ab_Sn B 186 506 (ab_o_bin (fun a b => a + b) 507) := ab_s_iadd ab_dk186_16.2.2.1
theorem ab_s186_507 : ab_Sn B 186 507 (ab_o_sld B 508) := ab_s_sld ab_dk186_16.2.2.2.1
theorem ab_s186_508 : ab_Sn B 186 508 (ab_o_ald 0 509) := ab_s_aload_n (k := 0) (n := 0) ab_dk186_16.2.2.2.2.1 rfl
theorem ab_s186_509 : ab_Sn B 186 509 (ab_o_ild 4 511) := ab_s_iload (k := 4) ab_dk186_16.2.2.2.2.2.1
theorem ab_s186_511 : ab_Sn B 186 511 (ab_o_const 2 512) := ab_s_iconst (n := 2) ab_dk186_16.2.2.2.2.2.2.1 rfl
theorem ab_s186_512 : ab_Sn B 186 512 (ab_o_bin (fun a b => a + b) 513) := ab_s_iadd ab_dk186_16.2.2.2.2.2.2.2.1
theorem ab_s186_513 : ab_Sn B 186 513 (ab_o_sld B 514) := ab_s_sld ab_dk186_16.2.2.2.2.2.2.2.2.1
theorem ab_s186_514 : ab_Sn B 186 514 (ab_o_ald 0 515) := ab_s_aload_n (k := 0) (n := 0) ab_dk186_16.2.2.2.2.2.2.2.2.2.1 rfl
theorem ab_s186_515 : ab_Sn B 186 515 (ab_o_ild 4 517) := ab_s_iload (k := 4) ab_dk186_16.2.2.2.2.2.2.2.2.2.2.1
theorem ab_s186_517 : ab_Sn B 186 517 (ab_o_const 3 518) := ab_s_iconst (n := 3) ab_dk186_16.2.2.2.2.2.2.2.2.2.2.2.1 rfl
theorem ab_s186_518 : ab_Sn B 186 518 (ab_o_bin (fun a b => a + b) 519) := ab_s_iadd ab_dk186_16.2.2.2.2.2.2.2.2.2.2.2.2.1
theorem ab_s186_519 : ab_Sn B 186 519 (ab_o_sld B 520) := ab_s_sld ab_dk186_16.2.2.2.2.2.2.2.2.2.2.2.2.2.1
theorem ab_s186_520 : ab_Sn B 186 520 (ab_o_ald 0 521) := ab_s_aload_n (k := 0) (n := 0) ab_dk186_16.2.2.2.2.2.2.2.2.2.2.2.2.2.2.1 rfl
theorem ab_s186_521 : ab_Sn B 186 521 (ab_o_ild 4 523) := ab_s_iload (k := 4) ab_dk186_16.2.2.2.2.2.2.2.2.2.2.2.2.2.2.2.1
theorem ab_s186_523 : ab_Sn B 186 523 (ab_o_const 4 524) := ab_s_iconst (n := 4) ab_dk186_17.1 rfl
theorem ab_s186_524 : ab_Sn B 186 524 (ab_o_bin (fun a b => a + b) 525) := ab_s_iadd ab_dk186_17.2.1
theorem ab_s186_525 : ab_Sn B 186 525 (ab_o_sld B 526) := ab_s_sld ab_dk186_17.2.2.1
theorem ab_s186_526 : ab_Sn B 186 526 (ab_o_ald 3 527) := ab_s_aload_n (k := 3) (n := 3) ab_dk186_17.2.2.2.1 rfl
theorem ab_s186_527 : ab_Sn B 186 527 (ab_o_call none [] 172 7 6 true 530) := ab_s_callSX (M' := 172) (na := 6) (i := 142) (v := true) (ab_hok_n (by decide +kernel)) (by decide +kernel) ab_dk186_17.2.2.2.2.1 (by decide +kernel) (by decide +kernel) (by decide) wf_910 wf_911 wf_912 wf_845
theorem ab_s186_530 : ab_Sn B 186 530 (ab_o_ist 5 532) := ab_s_istore (k := 5) ab_dk186_17.2.2.2.2.2.1
theorem ab_s186_532 : ab_Sn B 186 532 (ab_o_ald 2 533) := ab_s_aload_n (k := 2) (n := 2) ab_dk186_17.2.2.2.2.2.2.1 rfl
theorem ab_s186_533 : ab_Sn B 186 533 (ab_o_ald 0 534) := ab_s_aload_n (k := 0) (n := 0) ab_dk186_17.2.2.2.2.2.2.2.1 rfl
theorem ab_s186_534 : ab_Sn B 186 534 (ab_o_ild 4 536) := ab_s_iload (k := 4) ab_dk186_17.2.2.2.2.2.2.2.2.1
theorem ab_s186_536 : ab_Sn B 186 536 (ab_o_const 1 537) := ab_s_iconst (n := 1) ab_dk186_17.2.2.2.2.2.2.2.2.2.1 rfl
theorem ab_s186_537 : ab_Sn B 186 537 (ab_o_bin (fun a b => a + b) 538) := ab_s_iadd ab_dk186_17.2.2.2.2.2.2.2.2.2.2.1
theorem ab_s186_538 : ab_Sn B 186 538 (ab_o_sld B 539) := ab_s_sld ab_dk186_17.2.2.2.2.2.2.2.2.2.2.2.1
theorem ab_s186_539 : ab_Sn B 186 539 (ab_o_ald 0 540) := ab_s_aload_n (k := 0) (n := 0) ab_dk186_17.2.2.2.2.2.2.2.2.2.2.2.2.1 rfl
theorem ab_s186_540 : ab_Sn B 186 540 (ab_o_ild 4 542) := ab_s_iload (k := 4) ab_dk186_17.2.2.2.2.2.2.2.2.2.2.2.2.2.1
theorem ab_s186_542 : ab_Sn B 186 542 (ab_o_const 2 543) := ab_s_iconst (n := 2) ab_dk186_17.2.2.2.2.2.2.2.2.2.2.2.2.2.2.1 rfl
theorem ab_s186_543 : ab_Sn B 186 543 (ab_o_bin (fun a b => a + b) 544) := ab_s_iadd ab_dk186_17.2.2.2.2.2.2.2.2.2.2.2.2.2.2.2.1
theorem ab_s186_544 : ab_Sn B 186 544 (ab_o_sld B 545) := ab_s_sld ab_dk186_18.1
theorem ab_s186_545 : ab_Sn B 186 545 (ab_o_ald 0 546) := ab_s_aload_n (k := 0) (n := 0) ab_dk186_18.2.1 rfl
theorem ab_s186_546 : ab_Sn B 186 546 (ab_o_ild 4 548) := ab_s_iload (k := 4) ab_dk186_18.2.2.1
theorem ab_s186_548 : ab_Sn B 186 548 (ab_o_const 3 549) := ab_s_iconst (n := 3) ab_dk186_18.2.2.2.1 rfl
theorem ab_s186_549 : ab_Sn B 186 549 (ab_o_bin (fun a b => a + b) 550) := ab_s_iadd ab_dk186_18.2.2.2.2.1
theorem ab_s186_550 : ab_Sn B 186 550 (ab_o_sld B 551) := ab_s_sld ab_dk186_18.2.2.2.2.2.1
theorem ab_s186_551 : ab_Sn B 186 551 (ab_o_ald 0 552) := ab_s_aload_n (k := 0) (n := 0) ab_dk186_18.2.2.2.2.2.2.1 rfl
theorem ab_s186_552 : ab_Sn B 186 552 (ab_o_ild 4 554) := ab_s_iload (k := 4) ab_dk186_18.2.2.2.2.2.2.2.1
theorem ab_s186_554 : ab_Sn B 186 554 (ab_o_const 4 555) := ab_s_iconst (n := 4) ab_dk186_18.2.2.2.2.2.2.2.2.1 rfl
theorem ab_s186_555 : ab_Sn B 186 555 (ab_o_bin (fun a b => a + b) 556) := ab_s_iadd ab_dk186_18.2.2.2.2.2.2.2.2.2.1
theorem ab_s186_556 : ab_Sn B 186 556 (ab_o_sld B 557) := ab_s_sld ab_dk186_18.2.2.2.2.2.2.2.2.2.2.1
theorem ab_s186_557 : ab_Sn B 186 557 (ab_o_call (some (8, 22)) [] 138 6 5 true 560) := ab_s_callV (M' := 138) (na := 4) (i := 145) (ci := 4) (N := 22) (C := RX4) (T := TX4) (v := true) (ab_hok_n (by decide +kernel)) (by decide +kernel) ab_dk186_18.2.2.2.2.2.2.2.2.2.2.2.1 rfl (by decide) (by decide +kernel) (by decide +kernel) (by decide) wf_913 wf_914 wf_915 wf_916 wf_459
theorem ab_s186_560 : ab_Sn B 186 560 (ab_o_ist 6 562) := ab_s_istore (k := 6) ab_dk186_18.2.2.2.2.2.2.2.2.2.2.2.2.1
theorem ab_s186_562 : ab_Sn B 186 562 (ab_o_goto 1016) := ab_s_goto (tg := 1016) (off := 454) ab_dk186_18.2.2.2.2.2.2.2.2.2.2.2.2.2.1 (by decide)
theorem ab_s186_565 : ab_Sn B 186 565 (ab_o_ald 1 566) := ab_s_aload_n (k := 1) (n := 1) ab_dk186_18.2.2.2.2.2.2.2.2.2.2.2.2.2.2.1 rfl
theorem ab_s186_566 : ab_Sn B 186 566 (ab_o_ald 0 567) := ab_s_aload_n (k := 0) (n := 0) ab_dk186_18.2.2.2.2.2.2.2.2.2.2.2.2.2.2.2.1 rfl
theorem ab_s186_567 : ab_Sn B 186 567 (ab_o_ild 4 569) := ab_s_iload (k := 4) ab_dk186_19.1
theorem ab_s186_569 : ab_Sn B 186 569 (ab_o_const 1 570) := ab_s_iconst (n := 1) ab_dk186_19.2.1 rfl
theorem ab_s186_570 : ab_Sn B 186 570 (ab_o_bin (fun a b => a + b) 571) := ab_s_iadd ab_dk186_19.2.2.1
theorem ab_s186_571 : ab_Sn B 186 571 (ab_o_sld B 572) := ab_s_sld ab_dk186_19.2.2.2.1
theorem ab_s186_572 : ab_Sn B 186 572 (ab_o_ald 0 573) := ab_s_aload_n (k := 0) (n := 0) ab_dk186_19.2.2.2.2.1 rfl
theorem ab_s186_573 : ab_Sn B 186 573 (ab_o_ild 4 575) := ab_s_iload (k := 4) ab_dk186_19.2.2.2.2.2.1
theorem ab_s186_575 : ab_Sn B 186 575 (ab_o_const 2 576) := ab_s_iconst (n := 2) ab_dk186_19.2.2.2.2.2.2.1 rfl
theorem ab_s186_576 : ab_Sn B 186 576 (ab_o_bin (fun a b => a + b) 577) := ab_s_iadd ab_dk186_19.2.2.2.2.2.2.2.1
theorem ab_s186_577 : ab_Sn B 186 577 (ab_o_sld B 578) := ab_s_sld ab_dk186_19.2.2.2.2.2.2.2.2.1
theorem ab_s186_578 : ab_Sn B 186 578 (ab_o_ald 3 579) := ab_s_aload_n (k := 3) (n := 3) ab_dk186_19.2.2.2.2.2.2.2.2.2.1 rfl
theorem ab_s186_579 : ab_Sn B 186 579 (ab_o_call none [] 173 5 4 true 582) := ab_s_callSX (M' := 173) (na := 4) (i := 146) (v := true) (ab_hok_n (by decide +kernel)) (by decide +kernel) ab_dk186_19.2.2.2.2.2.2.2.2.2.2.1 (by decide +kernel) (by decide +kernel) (by decide) wf_917 wf_918 wf_919 wf_845
theorem ab_s186_582 : ab_Sn B 186 582 (ab_o_ist 5 584) := ab_s_istore (k := 5) ab_dk186_19.2.2.2.2.2.2.2.2.2.2.2.1
theorem ab_s186_584 : ab_Sn B 186 584 (ab_o_ald 2 585) := ab_s_aload_n (k := 2) (n := 2) ab_dk186_19.2.2.2.2.2.2.2.2.2.2.2.2.1 rfl
theorem ab_s186_585 : ab_Sn B 186 585 (ab_o_ald 0 586) := ab_s_aload_n (k := 0) (n := 0) ab_dk186_19.2.2.2.2.2.2.2.2.2.2.2.2.2.1 rfl
theorem ab_s186_586 : ab_Sn B 186 586 (ab_o_ild 4 588) := ab_s_iload (k := 4) ab_dk186_19.2.2.2.2.2.2.2.2.2.2.2.2.2.2.1
theorem ab_s186_588 : ab_Sn B 186 588 (ab_o_const 1 589) := ab_s_iconst (n := 1) ab_dk186_19.2.2.2.2.2.2.2.2.2.2.2.2.2.2.2.1 rfl
theorem ab_s186_589 : ab_Sn B 186 589 (ab_o_bin (fun a b => a + b) 590) := ab_s_iadd ab_dk186_20.1
theorem ab_s186_590 : ab_Sn B 186 590 (ab_o_sld B 591) := ab_s_sld ab_dk186_20.2.1
theorem ab_s186_591 : ab_Sn B 186 591 (ab_o_ald 0 592) := ab_s_aload_n (k := 0) (n := 0) ab_dk186_20.2.2.1 rfl
theorem ab_s186_592 : ab_Sn B 186 592 (ab_o_ild 4 594) := ab_s_iload (k := 4) ab_dk186_20.2.2.2.1
theorem ab_s186_594 : ab_Sn B 186 594 (ab_o_const 2 595) := ab_s_iconst (n := 2) ab_dk186_20.2.2.2.2.1 rfl
theorem ab_s186_595 : ab_Sn B 186 595 (ab_o_bin (fun a b => a + b) 596) := ab_s_iadd ab_dk186_20.2.2.2.2.2.1
theorem ab_s186_596 : ab_Sn B 186 596 (ab_o_sld B 597) := ab_s_sld ab_dk186_20.2.2.2.2.2.2.1
theorem ab_s186_597 : ab_Sn B 186 597 (ab_o_call (some (8, 22)) [] 139 4 3 true 600) := ab_s_callV (M' := 139) (na := 2) (i := 148) (ci := 4) (N := 22) (C := RX4) (T := TX4) (v := true) (ab_hok_n (by decide +kernel)) (by decide +kernel) ab_dk186_20.2.2.2.2.2.2.2.1 rfl (by decide) (by decide +kernel) (by decide +kernel) (by decide) wf_920 wf_921 wf_922 wf_923 wf_459
theorem ab_s186_600 : ab_Sn B 186 600 (ab_o_ist 6 602) := ab_s_istore (k := 6) ab_dk186_20.2.2.2.2.2.2.2.2.1
theorem ab_s186_602 : ab_Sn B 186 602 (ab_o_goto 1016) := ab_s_goto (tg := 1016) (off := 414) ab_dk186_20.2.2.2.2.2.2.2.2.2.1 (by decide)
theorem ab_s186_605 : ab_Sn B 186 605 (ab_o_ald 1 606) := ab_s_aload_n (k := 1) (n := 1) ab_dk186_20.2.2.2.2.2.2.2.2.2.2.1 rfl
theorem ab_s186_606 : ab_Sn B 186 606 (ab_o_ald 3 607) := ab_s_aload_n (k := 3) (n := 3) ab_dk186_20.2.2.2.2.2.2.2.2.2.2.2.1 rfl
theorem ab_s186_607 : ab_Sn B 186 607 (ab_o_call none [] 174 3 2 true 610) := ab_s_callSX (M' := 174) (na := 2) (i := 149) (v := true) (ab_hok_n (by decide +kernel)) (by decide +kernel) ab_dk186_20.2.2.2.2.2.2.2.2.2.2.2.2.1 (by decide +kernel) (by decide +kernel) (by decide) wf_924 wf_925 wf_926 wf_845
theorem ab_s186_610 : ab_Sn B 186 610 (ab_o_ist 5 612) := ab_s_istore (k := 5) ab_dk186_20.2.2.2.2.2.2.2.2.2.2.2.2.2.1
theorem ab_s186_612 : ab_Sn B 186 612 (ab_o_ald 2 613) := ab_s_aload_n (k := 2) (n := 2) ab_dk186_20.2.2.2.2.2.2.2.2.2.2.2.2.2.2.1 rfl
theorem ab_s186_613 : ab_Sn B 186 613 (ab_o_call (some (8, 22)) [] 140 2 1 true 616) := ab_s_callV (M' := 140) (na := 0) (i := 152) (ci := 4) (N := 22) (C := RX4) (T := TX4) (v := true) (ab_hok_n (by decide +kernel)) (by decide +kernel) ab_dk186_20.2.2.2.2.2.2.2.2.2.2.2.2.2.2.2.1 rfl (by decide) (by decide +kernel) (by decide +kernel) (by decide) wf_927 wf_928 wf_929 wf_930 wf_459
theorem ab_s186_616 : ab_Sn B 186 616 (ab_o_ist 6 618) := ab_s_istore (k := 6) ab_dk186_21.1
theorem ab_s186_618 : ab_Sn B 186 618 (ab_o_goto 1016) := ab_s_goto (tg := 1016) (off := 398) ab_dk186_21.2.1 (by decide)
theorem ab_s186_621 : ab_Sn B 186 621 (ab_o_ald 1 622) := ab_s_aload_n (k := 1) (n := 1) ab_dk186_21.2.2.1 rfl
theorem ab_s186_622 : ab_Sn B 186 622 (ab_o_ald 3 623) := ab_s_aload_n (k := 3) (n := 3) ab_dk186_21.2.2.2.1 rfl
theorem ab_s186_623 : ab_Sn B 186 623 (ab_o_call none [] 175 3 2 true 626) := ab_s_callSX (M' := 175) (na := 2) (i := 153) (v := true) (ab_hok_n (by decide +kernel)) (by decide +kernel) ab_dk186_21.2.2.2.2.1 (by decide +kernel) (by decide +kernel) (by decide) wf_931 wf_932 wf_933 wf_845
theorem ab_s186_626 : ab_Sn B 186 626 (ab_o_ist 5 628) := ab_s_istore (k := 5) ab_dk186_21.2.2.2.2.2.1
theorem ab_s186_628 : ab_Sn B 186 628 (ab_o_ald 2 629) := ab_s_aload_n (k := 2) (n := 2) ab_dk186_21.2.2.2.2.2.2.1 rfl
theorem ab_s186_629 : ab_Sn B 186 629 (ab_o_call (some (8, 22)) [] 141 1 1 true 632) := ab_s_callV (M' := 141) (na := 0) (i := 155) (ci := 4) (N := 22) (C := RX4) (T := TX4) (v := true) (ab_hok_n (by decide +kernel)) (by decide +kernel) ab_dk186_21.2.2.2.2.2.2.2.1 rfl (by decide) (by decide +kernel) (by decide +kernel) (by decide) wf_934 wf_935 wf_936 wf_937 wf_459
theorem ab_s186_632 : ab_Sn B 186 632 (ab_o_ist 6 634) := ab_s_istore (k := 6) ab_dk186_21.2.2.2.2.2.2.2.2.1
theorem ab_s186_634 : ab_Sn B 186 634 (ab_o_goto 1016) := ab_s_goto (tg := 1016) (off := 382) ab_dk186_21.2.2.2.2.2.2.2.2.2.1 (by decide)
theorem ab_s186_637 : ab_Sn B 186 637 (ab_o_ald 1 638) := ab_s_aload_n (k := 1) (n := 1) ab_dk186_21.2.2.2.2.2.2.2.2.2.2.1 rfl
theorem ab_s186_638 : ab_Sn B 186 638 (ab_o_ald 0 639) := ab_s_aload_n (k := 0) (n := 0) ab_dk186_21.2.2.2.2.2.2.2.2.2.2.2.1 rfl
theorem ab_s186_639 : ab_Sn B 186 639 (ab_o_ild 4 641) := ab_s_iload (k := 4) ab_dk186_21.2.2.2.2.2.2.2.2.2.2.2.2.1
theorem ab_s186_641 : ab_Sn B 186 641 (ab_o_const 1 642) := ab_s_iconst (n := 1) ab_dk186_21.2.2.2.2.2.2.2.2.2.2.2.2.2.1 rfl
theorem ab_s186_642 : ab_Sn B 186 642 (ab_o_bin (fun a b => a + b) 643) := ab_s_iadd ab_dk186_21.2.2.2.2.2.2.2.2.2.2.2.2.2.2.1
theorem ab_s186_643 : ab_Sn B 186 643 (ab_o_sld B 644) := ab_s_sld ab_dk186_21.2.2.2.2.2.2.2.2.2.2.2.2.2.2.2.1
theorem ab_s186_644 : ab_Sn B 186 644 (ab_o_ald 3 645) := ab_s_aload_n (k := 3) (n := 3) ab_dk186_22.1 rfl
theorem ab_s186_645 : ab_Sn B 186 645 (ab_o_call none [] 176 4 3 true 648) := ab_s_callSX (M' := 176) (na := 3) (i := 156) (v := true) (ab_hok_n (by decide +kernel)) (by decide +kernel) ab_dk186_22.2.1 (by decide +kernel) (by decide +kernel) (by decide) wf_938 wf_939 wf_940 wf_845
theorem ab_s186_648 : ab_Sn B 186 648 (ab_o_ist 5 650) := ab_s_istore (k := 5) ab_dk186_22.2.2.1
theorem ab_s186_650 : ab_Sn B 186 650 (ab_o_ald 2 651) := ab_s_aload_n (k := 2) (n := 2) ab_dk186_22.2.2.2.1 rfl
theorem ab_s186_651 : ab_Sn B 186 651 (ab_o_ald 0 652) := ab_s_aload_n (k := 0) (n := 0) ab_dk186_22.2.2.2.2.1 rfl
theorem ab_s186_652 : ab_Sn B 186 652 (ab_o_ild 4 654) := ab_s_iload (k := 4) ab_dk186_22.2.2.2.2.2.1
theorem ab_s186_654 : ab_Sn B 186 654 (ab_o_const 1 655) := ab_s_iconst (n := 1) ab_dk186_22.2.2.2.2.2.2.1 rfl
theorem ab_s186_655 : ab_Sn B 186 655 (ab_o_bin (fun a b => a + b) 656) := ab_s_iadd ab_dk186_22.2.2.2.2.2.2.2.1
theorem ab_s186_656 : ab_Sn B 186 656 (ab_o_sld B 657) := ab_s_sld ab_dk186_22.2.2.2.2.2.2.2.2.1
theorem ab_s186_657 : ab_Sn B 186 657 (ab_o_call (some (8, 22)) [] 143 3 2 true 660) := ab_s_callV (M' := 143) (na := 1) (i := 158) (ci := 4) (N := 22) (C := RX4) (T := TX4) (v := true) (ab_hok_n (by decide +kernel)) (by decide +kernel) ab_dk186_22.2.2.2.2.2.2.2.2.2.1 rfl (by decide) (by decide +kernel) (by decide +kernel) (by decide) wf_941 wf_942 wf_943 wf_944 wf_459
theorem ab_s186_660 : ab_Sn B 186 660 (ab_o_ist 6 662) := ab_s_istore (k := 6) ab_dk186_22.2.2.2.2.2.2.2.2.2.2.1
theorem ab_s186_662 : ab_Sn B 186 662 (ab_o_goto 1016) := ab_s_goto (tg := 1016) (off := 354) ab_dk186_22.2.2.2.2.2.2.2.2.2.2.2.1 (by decide)
theorem ab_s186_665 : ab_Sn B 186 665 (ab_o_ald 1 666) := ab_s_aload_n (k := 1) (n := 1) ab_dk186_22.2.2.2.2.2.2.2.2.2.2.2.2.1 rfl
theorem ab_s186_666 : ab_Sn B 186 666 (ab_o_ald 0 667) := ab_s_aload_n (k := 0) (n := 0) ab_dk186_22.2.2.2.2.2.2.2.2.2.2.2.2.2.1 rfl
theorem ab_s186_667 : ab_Sn B 186 667 (ab_o_ild 4 669) := ab_s_iload (k := 4) ab_dk186_22.2.2.2.2.2.2.2.2.2.2.2.2.2.2.1
theorem ab_s186_669 : ab_Sn B 186 669 (ab_o_const 1 670) := ab_s_iconst (n := 1) ab_dk186_22.2.2.2.2.2.2.2.2.2.2.2.2.2.2.2.1 rfl
theorem ab_s186_670 : ab_Sn B 186 670 (ab_o_bin (fun a b => a + b) 671) := ab_s_iadd ab_dk186_23.1
theorem ab_s186_671 : ab_Sn B 186 671 (ab_o_sld B 672) := ab_s_sld ab_dk186_23.2.1
theorem ab_s186_672 : ab_Sn B 186 672 (ab_o_ald 0 673) := ab_s_aload_n (k := 0) (n := 0) ab_dk186_23.2.2.1 rfl
theorem ab_s186_673 : ab_Sn B 186 673 (ab_o_ild 4 675) := ab_s_iload (k := 4) ab_dk186_23.2.2.2.1
theorem ab_s186_675 : ab_Sn B 186 675 (ab_o_const 2 676) := ab_s_iconst (n := 2) ab_dk186_23.2.2.2.2.1 rfl
theorem ab_s186_676 : ab_Sn B 186 676 (ab_o_bin (fun a b => a + b) 677) := ab_s_iadd ab_dk186_23.2.2.2.2.2.1
theorem ab_s186_677 : ab_Sn B 186 677 (ab_o_sld B 678) := ab_s_sld ab_dk186_23.2.2.2.2.2.2.1
theorem ab_s186_678 : ab_Sn B 186 678 (ab_o_ald 0 679) := ab_s_aload_n (k := 0) (n := 0) ab_dk186_23.2.2.2.2.2.2.2.1 rfl
theorem ab_s186_679 : ab_Sn B 186 679 (ab_o_ild 4 681) := ab_s_iload (k := 4) ab_dk186_23.2.2.2.2.2.2.2.2.1
theorem ab_s186_681 : ab_Sn B 186 681 (ab_o_const 3 682) := ab_s_iconst (n := 3) ab_dk186_23.2.2.2.2.2.2.2.2.2.1 rfl
theorem ab_s186_682 : ab_Sn B 186 682 (ab_o_bin (fun a b => a + b) 683) := ab_s_iadd ab_dk186_23.2.2.2.2.2.2.2.2.2.2.1
theorem ab_s186_683 : ab_Sn B 186 683 (ab_o_sld B 684) := ab_s_sld ab_dk186_23.2.2.2.2.2.2.2.2.2.2.2.1
theorem ab_s186_684 : ab_Sn B 186 684 (ab_o_ald 3 685) := ab_s_aload_n (k := 3) (n := 3) ab_dk186_23.2.2.2.2.2.2.2.2.2.2.2.2.1 rfl
theorem ab_s186_685 : ab_Sn B 186 685 (ab_o_call none [] 177 6 5 true 688) := ab_s_callSX (M' := 177) (na := 5) (i := 159) (v := true) (ab_hok_n (by decide +kernel)) (by decide +kernel) ab_dk186_23.2.2.2.2.2.2.2.2.2.2.2.2.2.1 (by decide +kernel) (by decide +kernel) (by decide) wf_945 wf_946 wf_947 wf_845
theorem ab_s186_688 : ab_Sn B 186 688 (ab_o_ist 5 690) := ab_s_istore (k := 5) ab_dk186_23.2.2.2.2.2.2.2.2.2.2.2.2.2.2.1
theorem ab_s186_690 : ab_Sn B 186 690 (ab_o_ald 2 691) := ab_s_aload_n (k := 2) (n := 2) ab_dk186_23.2.2.2.2.2.2.2.2.2.2.2.2.2.2.2.1 rfl
theorem ab_s186_691 : ab_Sn B 186 691 (ab_o_ald 0 692) := ab_s_aload_n (k := 0) (n := 0) ab_dk186_24.1 rfl
theorem ab_s186_692 : ab_Sn B 186 692 (ab_o_ild 4 694) := ab_s_iload (k := 4) ab_dk186_24.2.1
theorem ab_s186_694 : ab_Sn B 186 694 (ab_o_const 1 695) := ab_s_iconst (n := 1) ab_dk186_24.2.2.1 rfl
theorem ab_s186_695 : ab_Sn B 186 695 (ab_o_bin (fun a b => a + b) 696) := ab_s_iadd ab_dk186_24.2.2.2.1
theorem ab_s186_696 : ab_Sn B 186 696 (ab_o_sld B 697) := ab_s_sld ab_dk186_24.2.2.2.2.1
theorem ab_s186_697 : ab_Sn B 186 697 (ab_o_ald 0 698) := ab_s_aload_n (k := 0) (n := 0) ab_dk186_24.2.2.2.2.2.1 rfl
theorem ab_s186_698 : ab_Sn B 186 698 (ab_o_ild 4 700) := ab_s_iload (k := 4) ab_dk186_24.2.2.2.2.2.2.1
theorem ab_s186_700 : ab_Sn B 186 700 (ab_o_const 2 701) := ab_s_iconst (n := 2) ab_dk186_24.2.2.2.2.2.2.2.1 rfl
theorem ab_s186_701 : ab_Sn B 186 701 (ab_o_bin (fun a b => a + b) 702) := ab_s_iadd ab_dk186_24.2.2.2.2.2.2.2.2.1
theorem ab_s186_702 : ab_Sn B 186 702 (ab_o_sld B 703) := ab_s_sld ab_dk186_24.2.2.2.2.2.2.2.2.2.1
theorem ab_s186_703 : ab_Sn B 186 703 (ab_o_ald 0 704) := ab_s_aload_n (k := 0) (n := 0) ab_dk186_24.2.2.2.2.2.2.2.2.2.2.1 rfl
theorem ab_s186_704 : ab_Sn B 186 704 (ab_o_ild 4 706) := ab_s_iload (k := 4) ab_dk186_24.2.2.2.2.2.2.2.2.2.2.2.1
theorem ab_s186_706 : ab_Sn B 186 706 (ab_o_const 3 707) := ab_s_iconst (n := 3) ab_dk186_24.2.2.2.2.2.2.2.2.2.2.2.2.1 rfl
theorem ab_s186_707 : ab_Sn B 186 707 (ab_o_bin (fun a b => a + b) 708) := ab_s_iadd ab_dk186_24.2.2.2.2.2.2.2.2.2.2.2.2.2.1
theorem ab_s186_708 : ab_Sn B 186 708 (ab_o_sld B 709) := ab_s_sld ab_dk186_24.2.2.2.2.2.2.2.2.2.2.2.2.2.2.1
theorem ab_s186_709 : ab_Sn B 186 709 (ab_o_call (some (8, 22)) [] 145 4 4 true 712) := ab_s_callV (M' := 145) (na := 3) (i := 161) (ci := 4) (N := 22) (C := RX4) (T := TX4) (v := true) (ab_hok_n (by decide +kernel)) (by decide +kernel) ab_dk186_24.2.2.2.2.2.2.2.2.2.2.2.2.2.2.2.1 rfl (by decide) (by decide +kernel) (by decide +kernel) (by decide) wf_948 wf_949 wf_950 wf_951 wf_459
theorem ab_s186_712 : ab_Sn B 186 712 (ab_o_ist 6 714) := ab_s_istore (k := 6) ab_dk186_25.1
theorem ab_s186_714 : ab_Sn B 186 714 (ab_o_goto 1016) := ab_s_goto (tg := 1016) (off := 302) ab_dk186_25.2.1 (by decide)
theorem ab_s186_717 : ab_Sn B 186 717 (ab_o_ald 1 718) := ab_s_aload_n (k := 1) (n := 1) ab_dk186_25.2.2.1 rfl
theorem ab_s186_718 : ab_Sn B 186 718 (ab_o_ald 0 719) := ab_s_aload_n (k := 0) (n := 0) ab_dk186_25.2.2.2.1 rfl
theorem ab_s186_719 : ab_Sn B 186 719 (ab_o_ild 4 721) := ab_s_iload (k := 4) ab_dk186_25.2.2.2.2.1
theorem ab_s186_721 : ab_Sn B 186 721 (ab_o_const 1 722) := ab_s_iconst (n := 1) ab_dk186_25.2.2.2.2.2.1 rfl
theorem ab_s186_722 : ab_Sn B 186 722 (ab_o_bin (fun a b => a + b) 723) := ab_s_iadd ab_dk186_25.2.2.2.2.2.2.1
theorem ab_s186_723 : ab_Sn B 186 723 (ab_o_sld B 724) := ab_s_sld ab_dk186_25.2.2.2.2.2.2.2.1
theorem ab_s186_724 : ab_Sn B 186 724 (ab_o_ald 0 725) := ab_s_aload_n (k := 0) (n := 0) ab_dk186_25.2.2.2.2.2.2.2.2.1 rfl
theorem ab_s186_725 : ab_Sn B 186 725 (ab_o_ild 4 727) := ab_s_iload (k := 4) ab_dk186_25.2.2.2.2.2.2.2.2.2.1
theorem ab_s186_727 : ab_Sn B 186 727 (ab_o_const 2 728) := ab_s_iconst (n := 2) ab_dk186_25.2.2.2.2.2.2.2.2.2.2.1 rfl
theorem ab_s186_728 : ab_Sn B 186 728 (ab_o_bin (fun a b => a + b) 729) := ab_s_iadd ab_dk186_25.2.2.2.2.2.2.2.2.2.2.2.1
theorem ab_s186_729 : ab_Sn B 186 729 (ab_o_sld B 730) := ab_s_sld ab_dk186_25.2.2.2.2.2.2.2.2.2.2.2.2.1
theorem ab_s186_730 : ab_Sn B 186 730 (ab_o_ald 3 731) := ab_s_aload_n (k := 3) (n := 3) ab_dk186_25.2.2.2.2.2.2.2.2.2.2.2.2.2.1 rfl
theorem ab_s186_731 : ab_Sn B 186 731 (ab_o_call none [] 178 5 4 true 734) := ab_s_callSX (M' := 178) (na := 4) (i := 162) (v := true) (ab_hok_n (by decide +kernel)) (by decide +kernel) ab_dk186_25.2.2.2.2.2.2.2.2.2.2.2.2.2.2.1 (by decide +kernel) (by decide +kernel) (by decide) wf_952 wf_953 wf_954 wf_845
theorem ab_s186_734 : ab_Sn B 186 734 (ab_o_ist 5 736) := ab_s_istore (k := 5) ab_dk186_25.2.2.2.2.2.2.2.2.2.2.2.2.2.2.2.1
theorem ab_s186_736 : ab_Sn B 186 736 (ab_o_ald 2 737) := ab_s_aload_n (k := 2) (n := 2) ab_dk186_26.1 rfl
theorem ab_s186_737 : ab_Sn B 186 737 (ab_o_ald 0 738) := ab_s_aload_n (k := 0) (n := 0) ab_dk186_26.2.1 rfl
theorem ab_s186_738 : ab_Sn B 186 738 (ab_o_ild 4 740) := ab_s_iload (k := 4) ab_dk186_26.2.2.1
theorem ab_s186_740 : ab_Sn B 186 740 (ab_o_const 1 741) := ab_s_iconst (n := 1) ab_dk186_26.2.2.2.1 rfl
theorem ab_s186_741 : ab_Sn B 186 741 (ab_o_bin (fun a b => a + b) 742) := ab_s_iadd ab_dk186_26.2.2.2.2.1
theorem ab_s186_742 : ab_Sn B 186 742 (ab_o_sld B 743) := ab_s_sld ab_dk186_26.2.2.2.2.2.1
theorem ab_s186_743 : ab_Sn B 186 743 (ab_o_ald 0 744) := ab_s_aload_n (k := 0) (n := 0) ab_dk186_26.2.2.2.2.2.2.1 rfl
theorem ab_s186_744 : ab_Sn B 186 744 (ab_o_ild 4 746) := ab_s_iload (k := 4) ab_dk186_26.2.2.2.2.2.2.2.1
theorem ab_s186_746 : ab_Sn B 186 746 (ab_o_const 2 747) := ab_s_iconst (n := 2) ab_dk186_26.2.2.2.2.2.2.2.2.1 rfl
theorem ab_s186_747 : ab_Sn B 186 747 (ab_o_bin (fun a b => a + b) 748) := ab_s_iadd ab_dk186_26.2.2.2.2.2.2.2.2.2.1
theorem ab_s186_748 : ab_Sn B 186 748 (ab_o_sld B 749) := ab_s_sld ab_dk186_26.2.2.2.2.2.2.2.2.2.2.1
theorem ab_s186_749 : ab_Sn B 186 749 (ab_o_call (some (8, 22)) [] 147 3 3 true 752) := ab_s_callV (M' := 147) (na := 2) (i := 164) (ci := 4) (N := 22) (C := RX4) (T := TX4) (v := true) (ab_hok_n (by decide +kernel)) (by decide +kernel) ab_dk186_26.2.2.2.2.2.2.2.2.2.2.2.1 rfl (by decide) (by decide +kernel) (by decide +kernel) (by decide) wf_955 wf_956 wf_957 wf_958 wf_459
theorem ab_s186_752 : ab_Sn B 186 752 (ab_o_ist 6 754) := ab_s_istore (k := 6) ab_dk186_26.2.2.2.2.2.2.2.2.2.2.2.2.1
theorem ab_s186_754 : ab_Sn B 186 754 (ab_o_goto 1016) := ab_s_goto (tg := 1016) (off := 262) ab_dk186_26.2.2.2.2.2.2.2.2.2.2.2.2.2.1 (by decide)
theorem ab_s186_757 : ab_Sn B 186 757 (ab_o_ald 1 758) := ab_s_aload_n (k := 1) (n := 1) ab_dk186_26.2.2.2.2.2.2.2.2.2.2.2.2.2.2.1 rfl
theorem ab_s186_758 : ab_Sn B 186 758 (ab_o_ald 0 759) := ab_s_aload_n (k := 0) (n := 0) ab_dk186_26.2.2.2.2.2.2.2.2.2.2.2.2.2.2.2.1 rfl
theorem ab_s186_759 : ab_Sn B 186 759 (ab_o_ild 4 761) := ab_s_iload (k := 4) ab_dk186_27.1
theorem ab_s186_761 : ab_Sn B 186 761 (ab_o_const 1 762) := ab_s_iconst (n := 1) ab_dk186_27.2.1 rfl
theorem ab_s186_762 : ab_Sn B 186 762 (ab_o_bin (fun a b => a + b) 763) := ab_s_iadd ab_dk186_27.2.2.1
theorem ab_s186_763 : ab_Sn B 186 763 (ab_o_sld B 764) := ab_s_sld ab_dk186_27.2.2.2.1
theorem ab_s186_764 : ab_Sn B 186 764 (ab_o_ald 0 765) := ab_s_aload_n (k := 0) (n := 0) ab_dk186_27.2.2.2.2.1 rfl
theorem ab_s186_765 : ab_Sn B 186 765 (ab_o_ild 4 767) := ab_s_iload (k := 4) ab_dk186_27.2.2.2.2.2.1
theorem ab_s186_767 : ab_Sn B 186 767 (ab_o_const 2 768) := ab_s_iconst (n := 2) ab_dk186_27.2.2.2.2.2.2.1 rfl
theorem ab_s186_768 : ab_Sn B 186 768 (ab_o_bin (fun a b => a + b) 769) := ab_s_iadd ab_dk186_27.2.2.2.2.2.2.2.1
theorem ab_s186_769 : ab_Sn B 186 769 (ab_o_sld B 770) := ab_s_sld ab_dk186_27.2.2.2.2.2.2.2.2.1
theorem ab_s186_770 : ab_Sn B 186 770 (ab_o_ald 3 771) := ab_s_aload_n (k := 3) (n := 3) ab_dk186_27.2.2.2.2.2.2.2.2.2.1 rfl
theorem ab_s186_771 : ab_Sn B 186 771 (ab_o_call none [] 179 5 4 true 774) := ab_s_callSX (M' := 179) (na := 4) (i := 165) (v := true) (ab_hok_n (by decide +kernel)) (by decide +kernel) ab_dk186_27.2.2.2.2.2.2.2.2.2.2.1 (by decide +kernel) (by decide +kernel) (by decide) wf_959 wf_960 wf_961 wf_845
theorem ab_s186_774 : ab_Sn B 186 774 (ab_o_ist 5 776) := ab_s_istore (k := 5) ab_dk186_27.2.2.2.2.2.2.2.2.2.2.2.1
theorem ab_s186_776 : ab_Sn B 186 776 (ab_o_ald 2 777) := ab_s_aload_n (k := 2) (n := 2) ab_dk186_27.2.2.2.2.2.2.2.2.2.2.2.2.1 rfl
theorem ab_s186_777 : ab_Sn B 186 777 (ab_o_ald 0 778) := ab_s_aload_n (k := 0) (n := 0) ab_dk186_27.2.2.2.2.2.2.2.2.2.2.2.2.2.1 rfl
theorem ab_s186_778 : ab_Sn B 186 778 (ab_o_ild 4 780) := ab_s_iload (k := 4) ab_dk186_27.2.2.2.2.2.2.2.2.2.2.2.2.2.2.1
theorem ab_s186_780 : ab_Sn B 186 780 (ab_o_const 1 781) := ab_s_iconst (n := 1) ab_dk186_27.2.2.2.2.2.2.2.2.2.2.2.2.2.2.2.1 rfl
theorem ab_s186_781 : ab_Sn B 186 781 (ab_o_bin (fun a b => a + b) 782) := ab_s_iadd ab_dk186_28.1
theorem ab_s186_782 : ab_Sn B 186 782 (ab_o_sld B 783) := ab_s_sld ab_dk186_28.2.1
theorem ab_s186_783 : ab_Sn B 186 783 (ab_o_ald 0 784) := ab_s_aload_n (k := 0) (n := 0) ab_dk186_28.2.2.1 rfl
theorem ab_s186_784 : ab_Sn B 186 784 (ab_o_ild 4 786) := ab_s_iload (k := 4) ab_dk186_28.2.2.2.1
theorem ab_s186_786 : ab_Sn B 186 786 (ab_o_const 2 787) := ab_s_iconst (n := 2) ab_dk186_28.2.2.2.2.1 rfl
theorem ab_s186_787 : ab_Sn B 186 787 (ab_o_bin (fun a b => a + b) 788) := ab_s_iadd ab_dk186_28.2.2.2.2.2.1
theorem ab_s186_788 : ab_Sn B 186 788 (ab_o_sld B 789) := ab_s_sld ab_dk186_28.2.2.2.2.2.2.1
theorem ab_s186_789 : ab_Sn B 186 789 (ab_o_call (some (8, 22)) [] 149 3 3 true 792) := ab_s_callV (M' := 149) (na := 2) (i := 167) (ci := 4) (N := 22) (C := RX4) (T := TX4) (v := true) (ab_hok_n (by decide +kernel)) (by decide +kernel) ab_dk186_28.2.2.2.2.2.2.2.1 rfl (by decide) (by decide +kernel) (by decide +kernel) (by decide) wf_962 wf_963 wf_964 wf_965 wf_459
theorem ab_s186_792 : ab_Sn B 186 792 (ab_o_ist 6 794) := ab_s_istore (k := 6) ab_dk186_28.2.2.2.2.2.2.2.2.1
theorem ab_s186_794 : ab_Sn B 186 794 (ab_o_goto 1016) := ab_s_goto (tg := 1016) (off := 222) ab_dk186_28.2.2.2.2.2.2.2.2.2.1 (by decide)
theorem ab_s186_797 : ab_Sn B 186 797 (ab_o_ald 1 798) := ab_s_aload_n (k := 1) (n := 1) ab_dk186_28.2.2.2.2.2.2.2.2.2.2.1 rfl
theorem ab_s186_798 : ab_Sn B 186 798 (ab_o_ald 0 799) := ab_s_aload_n (k := 0) (n := 0) ab_dk186_28.2.2.2.2.2.2.2.2.2.2.2.1 rfl
theorem ab_s186_799 : ab_Sn B 186 799 (ab_o_ild 4 801) := ab_s_iload (k := 4) ab_dk186_28.2.2.2.2.2.2.2.2.2.2.2.2.1
theorem ab_s186_801 : ab_Sn B 186 801 (ab_o_const 1 802) := ab_s_iconst (n := 1) ab_dk186_28.2.2.2.2.2.2.2.2.2.2.2.2.2.1 rfl
theorem ab_s186_802 : ab_Sn B 186 802 (ab_o_bin (fun a b => a + b) 803) := ab_s_iadd ab_dk186_28.2.2.2.2.2.2.2.2.2.2.2.2.2.2.1
theorem ab_s186_803 : ab_Sn B 186 803 (ab_o_sld B 804) := ab_s_sld ab_dk186_28.2.2.2.2.2.2.2.2.2.2.2.2.2.2.2.1
theorem ab_s186_804 : ab_Sn B 186 804 (ab_o_ald 3 805) := ab_s_aload_n (k := 3) (n := 3) ab_dk186_29.1 rfl
theorem ab_s186_805 : ab_Sn B 186 805 (ab_o_call none [] 180 4 3 true 808) := ab_s_callSX (M' := 180) (na := 3) (i := 168) (v := true) (ab_hok_n (by decide +kernel)) (by decide +kernel) ab_dk186_29.2.1 (by decide +kernel) (by decide +kernel) (by decide) wf_966 wf_967 wf_968 wf_845
theorem ab_s186_808 : ab_Sn B 186 808 (ab_o_ist 5 810) := ab_s_istore (k := 5) ab_dk186_29.2.2.1
theorem ab_s186_810 : ab_Sn B 186 810 (ab_o_ald 2 811) := ab_s_aload_n (k := 2) (n := 2) ab_dk186_29.2.2.2.1 rfl
theorem ab_s186_811 : ab_Sn B 186 811 (ab_o_ald 0 812) := ab_s_aload_n (k := 0) (n := 0) ab_dk186_29.2.2.2.2.1 rfl
theorem ab_s186_812 : ab_Sn B 186 812 (ab_o_ild 4 814) := ab_s_iload (k := 4) ab_dk186_29.2.2.2.2.2.1
theorem ab_s186_814 : ab_Sn B 186 814 (ab_o_const 1 815) := ab_s_iconst (n := 1) ab_dk186_29.2.2.2.2.2.2.1 rfl
theorem ab_s186_815 : ab_Sn B 186 815 (ab_o_bin (fun a b => a + b) 816) := ab_s_iadd ab_dk186_29.2.2.2.2.2.2.2.1
theorem ab_s186_816 : ab_Sn B 186 816 (ab_o_sld B 817) := ab_s_sld ab_dk186_29.2.2.2.2.2.2.2.2.1
theorem ab_s186_817 : ab_Sn B 186 817 (ab_o_call (some (8, 22)) [] 151 2 2 true 820) := ab_s_callV (M' := 151) (na := 1) (i := 170) (ci := 4) (N := 22) (C := RX4) (T := TX4) (v := true) (ab_hok_n (by decide +kernel)) (by decide +kernel) ab_dk186_29.2.2.2.2.2.2.2.2.2.1 rfl (by decide) (by decide +kernel) (by decide +kernel) (by decide) wf_969 wf_970 wf_971 wf_972 wf_459
theorem ab_s186_820 : ab_Sn B 186 820 (ab_o_ist 6 822) := ab_s_istore (k := 6) ab_dk186_29.2.2.2.2.2.2.2.2.2.2.1
theorem ab_s186_822 : ab_Sn B 186 822 (ab_o_goto 1016) := ab_s_goto (tg := 1016) (off := 194) ab_dk186_29.2.2.2.2.2.2.2.2.2.2.2.1 (by decide)
theorem ab_s186_825 : ab_Sn B 186 825 (ab_o_ald 1 826) := ab_s_aload_n (k := 1) (n := 1) ab_dk186_29.2.2.2.2.2.2.2.2.2.2.2.2.1 rfl
theorem ab_s186_826 : ab_Sn B 186 826 (ab_o_ald 0 827) := ab_s_aload_n (k := 0) (n := 0) ab_dk186_29.2.2.2.2.2.2.2.2.2.2.2.2.2.1 rfl
theorem ab_s186_827 : ab_Sn B 186 827 (ab_o_ild 4 829) := ab_s_iload (k := 4) ab_dk186_29.2.2.2.2.2.2.2.2.2.2.2.2.2.2.1
theorem ab_s186_829 : ab_Sn B 186 829 (ab_o_const 1 830) := ab_s_iconst (n := 1) ab_dk186_29.2.2.2.2.2.2.2.2.2.2.2.2.2.2.2.1 rfl
theorem ab_s186_830 : ab_Sn B 186 830 (ab_o_bin (fun a b => a + b) 831) := ab_s_iadd ab_dk186_30.1
theorem ab_s186_831 : ab_Sn B 186 831 (ab_o_sld B 832) := ab_s_sld ab_dk186_30.2.1
theorem ab_s186_832 : ab_Sn B 186 832 (ab_o_ald 3 833) := ab_s_aload_n (k := 3) (n := 3) ab_dk186_30.2.2.1 rfl
theorem ab_s186_833 : ab_Sn B 186 833 (ab_o_call none [] 181 4 3 true 836) := ab_s_callSX (M' := 181) (na := 3) (i := 171) (v := true) (ab_hok_n (by decide +kernel)) (by decide +kernel) ab_dk186_30.2.2.2.1 (by decide +kernel) (by decide +kernel) (by decide) wf_973 wf_974 wf_975 wf_845
theorem ab_s186_836 : ab_Sn B 186 836 (ab_o_ist 5 838) := ab_s_istore (k := 5) ab_dk186_30.2.2.2.2.1
theorem ab_s186_838 : ab_Sn B 186 838 (ab_o_ald 2 839) := ab_s_aload_n (k := 2) (n := 2) ab_dk186_30.2.2.2.2.2.1 rfl
theorem ab_s186_839 : ab_Sn B 186 839 (ab_o_ald 0 840) := ab_s_aload_n (k := 0) (n := 0) ab_dk186_30.2.2.2.2.2.2.1 rfl
theorem ab_s186_840 : ab_Sn B 186 840 (ab_o_ild 4 842) := ab_s_iload (k := 4) ab_dk186_30.2.2.2.2.2.2.2.1
theorem ab_s186_842 : ab_Sn B 186 842 (ab_o_const 1 843) := ab_s_iconst (n := 1) ab_dk186_30.2.2.2.2.2.2.2.2.1 rfl
theorem ab_s186_843 : ab_Sn B 186 843 (ab_o_bin (fun a b => a + b) 844) := ab_s_iadd ab_dk186_30.2.2.2.2.2.2.2.2.2.1
theorem ab_s186_844 : ab_Sn B 186 844 (ab_o_sld B 845) := ab_s_sld ab_dk186_30.2.2.2.2.2.2.2.2.2.2.1
theorem ab_s186_845 : ab_Sn B 186 845 (ab_o_call (some (8, 22)) [] 153 2 2 true 848) := ab_s_callV (M' := 153) (na := 1) (i := 173) (ci := 4) (N := 22) (C := RX4) (T := TX4) (v := true) (ab_hok_n (by decide +kernel)) (by decide +kernel) ab_dk186_30.2.2.2.2.2.2.2.2.2.2.2.1 rfl (by decide) (by decide +kernel) (by decide +kernel) (by decide) wf_976 wf_977 wf_978 wf_979 wf_459
theorem ab_s186_848 : ab_Sn B 186 848 (ab_o_ist 6 850) := ab_s_istore (k := 6) ab_dk186_30.2.2.2.2.2.2.2.2.2.2.2.2.1
theorem ab_s186_850 : ab_Sn B 186 850 (ab_o_goto 1016) := ab_s_goto (tg := 1016) (off := 166) ab_dk186_30.2.2.2.2.2.2.2.2.2.2.2.2.2.1 (by decide)
theorem ab_s186_853 : ab_Sn B 186 853 (ab_o_ald 1 854) := ab_s_aload_n (k := 1) (n := 1) ab_dk186_30.2.2.2.2.2.2.2.2.2.2.2.2.2.2.1 rfl
theorem ab_s186_854 : ab_Sn B 186 854 (ab_o_ald 0 855) := ab_s_aload_n (k := 0) (n := 0) ab_dk186_30.2.2.2.2.2.2.2.2.2.2.2.2.2.2.2.1 rfl
theorem ab_s186_855 : ab_Sn B 186 855 (ab_o_ild 4 857) := ab_s_iload (k := 4) ab_dk186_31.1
theorem ab_s186_857 : ab_Sn B 186 857 (ab_o_const 1 858) := ab_s_iconst (n := 1) ab_dk186_31.2.1 rfl
theorem ab_s186_858 : ab_Sn B 186 858 (ab_o_bin (fun a b => a + b) 859) := ab_s_iadd ab_dk186_31.2.2.1
theorem ab_s186_859 : ab_Sn B 186 859 (ab_o_sld B 860) := ab_s_sld ab_dk186_31.2.2.2.1
theorem ab_s186_860 : ab_Sn B 186 860 (ab_o_ald 3 861) := ab_s_aload_n (k := 3) (n := 3) ab_dk186_31.2.2.2.2.1 rfl
theorem ab_s186_861 : ab_Sn B 186 861 (ab_o_call none [] 182 4 3 true 864) := ab_s_callSX (M' := 182) (na := 3) (i := 174) (v := true) (ab_hok_n (by decide +kernel)) (by decide +kernel) ab_dk186_31.2.2.2.2.2.1 (by decide +kernel) (by decide +kernel) (by decide) wf_980 wf_981 wf_982 wf_845
theorem ab_s186_864 : ab_Sn B 186 864 (ab_o_ist 5 866) := ab_s_istore (k := 5) ab_dk186_31.2.2.2.2.2.2.1
theorem ab_s186_866 : ab_Sn B 186 866 (ab_o_ald 2 867) := ab_s_aload_n (k := 2) (n := 2) ab_dk186_31.2.2.2.2.2.2.2.1 rfl
theorem ab_s186_867 : ab_Sn B 186 867 (ab_o_ald 0 868) := ab_s_aload_n (k := 0) (n := 0) ab_dk186_31.2.2.2.2.2.2.2.2.1 rfl
theorem ab_s186_868 : ab_Sn B 186 868 (ab_o_ild 4 870) := ab_s_iload (k := 4) ab_dk186_31.2.2.2.2.2.2.2.2.2.1
theorem ab_s186_870 : ab_Sn B 186 870 (ab_o_const 1 871) := ab_s_iconst (n := 1) ab_dk186_31.2.2.2.2.2.2.2.2.2.2.1 rfl
theorem ab_s186_871 : ab_Sn B 186 871 (ab_o_bin (fun a b => a + b) 872) := ab_s_iadd ab_dk186_31.2.2.2.2.2.2.2.2.2.2.2.1
theorem ab_s186_872 : ab_Sn B 186 872 (ab_o_sld B 873) := ab_s_sld ab_dk186_31.2.2.2.2.2.2.2.2.2.2.2.2.1
theorem ab_s186_873 : ab_Sn B 186 873 (ab_o_call (some (8, 22)) [] 154 4 2 true 876) := ab_s_callV (M' := 154) (na := 1) (i := 176) (ci := 4) (N := 22) (C := RX4) (T := TX4) (v := true) (ab_hok_n (by decide +kernel)) (by decide +kernel) ab_dk186_31.2.2.2.2.2.2.2.2.2.2.2.2.2.1 rfl (by decide) (by decide +kernel) (by decide +kernel) (by decide) wf_983 wf_984 wf_985 wf_986 wf_459
theorem ab_s186_876 : ab_Sn B 186 876 (ab_o_ast 6 878) := ab_s_astore (k := 6) ab_dk186_31.2.2.2.2.2.2.2.2.2.2.2.2.2.2.1
theorem ab_s186_878 : ab_Sn B 186 878 (ab_o_goto 1016) := ab_s_goto (tg := 1016) (off := 138) ab_dk186_31.2.2.2.2.2.2.2.2.2.2.2.2.2.2.2.1 (by decide)
theorem ab_s186_881 : ab_Sn B 186 881 (ab_o_ald 1 882) := ab_s_aload_n (k := 1) (n := 1) ab_dk186_32.1 rfl
theorem ab_s186_882 : ab_Sn B 186 882 (ab_o_ald 0 883) := ab_s_aload_n (k := 0) (n := 0) ab_dk186_32.2.1 rfl
theorem ab_s186_883 : ab_Sn B 186 883 (ab_o_ild 4 885) := ab_s_iload (k := 4) ab_dk186_32.2.2.1
theorem ab_s186_885 : ab_Sn B 186 885 (ab_o_const 1 886) := ab_s_iconst (n := 1) ab_dk186_32.2.2.2.1 rfl
theorem ab_s186_886 : ab_Sn B 186 886 (ab_o_bin (fun a b => a + b) 887) := ab_s_iadd ab_dk186_32.2.2.2.2.1
theorem ab_s186_887 : ab_Sn B 186 887 (ab_o_sld B 888) := ab_s_sld ab_dk186_32.2.2.2.2.2.1
theorem ab_s186_888 : ab_Sn B 186 888 (ab_o_ald 3 889) := ab_s_aload_n (k := 3) (n := 3) ab_dk186_32.2.2.2.2.2.2.1 rfl
theorem ab_s186_889 : ab_Sn B 186 889 (ab_o_call none [] 183 4 3 true 892) := ab_s_callSX (M' := 183) (na := 3) (i := 177) (v := true) (ab_hok_n (by decide +kernel)) (by decide +kernel) ab_dk186_32.2.2.2.2.2.2.2.1 (by decide +kernel) (by decide +kernel) (by decide) wf_987 wf_988 wf_989 wf_845
theorem ab_s186_892 : ab_Sn B 186 892 (ab_o_ist 5 894) := ab_s_istore (k := 5) ab_dk186_32.2.2.2.2.2.2.2.2.1
theorem ab_s186_894 : ab_Sn B 186 894 (ab_o_ald 2 895) := ab_s_aload_n (k := 2) (n := 2) ab_dk186_32.2.2.2.2.2.2.2.2.2.1 rfl
theorem ab_s186_895 : ab_Sn B 186 895 (ab_o_ald 0 896) := ab_s_aload_n (k := 0) (n := 0) ab_dk186_32.2.2.2.2.2.2.2.2.2.2.1 rfl
theorem ab_s186_896 : ab_Sn B 186 896 (ab_o_ild 4 898) := ab_s_iload (k := 4) ab_dk186_32.2.2.2.2.2.2.2.2.2.2.2.1
theorem ab_s186_898 : ab_Sn B 186 898 (ab_o_const 1 899) := ab_s_iconst (n := 1) ab_dk186_32.2.2.2.2.2.2.2.2.2.2.2.2.1 rfl
theorem ab_s186_899 : ab_Sn B 186 899 (ab_o_bin (fun a b => a + b) 900) := ab_s_iadd ab_dk186_32.2.2.2.2.2.2.2.2.2.2.2.2.2.1
theorem ab_s186_900 : ab_Sn B 186 900 (ab_o_sld B 901) := ab_s_sld ab_dk186_32.2.2.2.2.2.2.2.2.2.2.2.2.2.2.1
theorem ab_s186_901 : ab_Sn B 186 901 (ab_o_call (some (8, 22)) [] 156 2 2 true 904) := ab_s_callV (M' := 156) (na := 1) (i := 179) (ci := 4) (N := 22) (C := RX4) (T := TX4) (v := true) (ab_hok_n (by decide +kernel)) (by decide +kernel) ab_dk186_32.2.2.2.2.2.2.2.2.2.2.2.2.2.2.2.1 rfl (by decide) (by decide +kernel) (by decide +kernel) (by decide) wf_990 wf_991 wf_992 wf_993 wf_459
theorem ab_s186_904 : ab_Sn B 186 904 (ab_o_ist 6 906) := ab_s_istore (k := 6) ab_dk186_33.1
theorem ab_s186_906 : ab_Sn B 186 906 (ab_o_goto 1016) := ab_s_goto (tg := 1016) (off := 110) ab_dk186_33.2.1 (by decide)
theorem ab_s186_909 : ab_Sn B 186 909 (ab_o_ald 1 910) := ab_s_aload_n (k := 1) (n := 1) ab_dk186_33.2.2.1 rfl
theorem ab_s186_910 : ab_Sn B 186 910 (ab_o_ald 0 911) := ab_s_aload_n (k := 0) (n := 0) ab_dk186_33.2.2.2.1 rfl
theorem ab_s186_911 : ab_Sn B 186 911 (ab_o_ild 4 913) := ab_s_iload (k := 4) ab_dk186_33.2.2.2.2.1
theorem ab_s186_913 : ab_Sn B 186 913 (ab_o_const 1 914) := ab_s_iconst (n := 1) ab_dk186_33.2.2.2.2.2.1 rfl
theorem ab_s186_914 : ab_Sn B 186 914 (ab_o_bin (fun a b => a + b) 915) := ab_s_iadd ab_dk186_33.2.2.2.2.2.2.1
theorem ab_s186_915 : ab_Sn B 186 915 (ab_o_sld B 916) := ab_s_sld ab_dk186_33.2.2.2.2.2.2.2.1
theorem ab_s186_916 : ab_Sn B 186 916 (ab_o_ald 3 917) := ab_s_aload_n (k := 3) (n := 3) ab_dk186_33.2.2.2.2.2.2.2.2.1 rfl
theorem ab_s186_917 : ab_Sn B 186 917 (ab_o_call none [] 184 4 3 true 920) := ab_s_callSX (M' := 184) (na := 3) (i := 180) (v := true) (ab_hok_n (by decide +kernel)) (by decide +kernel) ab_dk186_33.2.2.2.2.2.2.2.2.2.1 (by decide +kernel) (by decide +kernel) (by decide) wf_994 wf_995 wf_996 wf_845
theorem ab_s186_920 : ab_Sn B 186 920 (ab_o_ist 5 922) := ab_s_istore (k := 5) ab_dk186_33.2.2.2.2.2.2.2.2.2.2.1
theorem ab_s186_922 : ab_Sn B 186 922 (ab_o_ald 2 923) := ab_s_aload_n (k := 2) (n := 2) ab_dk186_33.2.2.2.2.2.2.2.2.2.2.2.1 rfl
theorem ab_s186_923 : ab_Sn B 186 923 (ab_o_ald 0 924) := ab_s_aload_n (k := 0) (n := 0) ab_dk186_33.2.2.2.2.2.2.2.2.2.2.2.2.1 rfl
theorem ab_s186_924 : ab_Sn B 186 924 (ab_o_ild 4 926) := ab_s_iload (k := 4) ab_dk186_33.2.2.2.2.2.2.2.2.2.2.2.2.2.1
theorem ab_s186_926 : ab_Sn B 186 926 (ab_o_const 1 927) := ab_s_iconst (n := 1) ab_dk186_33.2.2.2.2.2.2.2.2.2.2.2.2.2.2.1 rfl
theorem ab_s186_927 : ab_Sn B 186 927 (ab_o_bin (fun a b => a + b) 928) := ab_s_iadd ab_dk186_33.2.2.2.2.2.2.2.2.2.2.2.2.2.2.2.1
theorem ab_s186_928 : ab_Sn B 186 928 (ab_o_sld B 929) := ab_s_sld ab_dk186_34.1
theorem ab_s186_929 : ab_Sn B 186 929 (ab_o_call (some (8, 22)) [] 157 2 2 true 932) := ab_s_callV (M' := 157) (na := 1) (i := 182) (ci := 4) (N := 22) (C := RX4) (T := TX4) (v := true) (ab_hok_n (by decide +kernel)) (by decide +kernel) ab_dk186_34.2.1 rfl (by decide) (by decide +kernel) (by decide +kernel) (by decide) wf_997 wf_998 wf_999 wf_1000 wf_459
theorem ab_s186_932 : ab_Sn B 186 932 (ab_o_ist 6 934) := ab_s_istore (k := 6) ab_dk186_34.2.2.1
theorem ab_s186_934 : ab_Sn B 186 934 (ab_o_goto 1016) := ab_s_goto (tg := 1016) (off := 82) ab_dk186_34.2.2.2.1 (by decide)
theorem ab_s186_937 : ab_Sn B 186 937 (ab_o_ald 1 938) := ab_s_aload_n (k := 1) (n := 1) ab_dk186_34.2.2.2.2.1 rfl
theorem ab_s186_938 : ab_Sn B 186 938 (ab_o_ald 0 939) := ab_s_aload_n (k := 0) (n := 0) ab_dk186_34.2.2.2.2.2.1 rfl
theorem ab_s186_939 : ab_Sn B 186 939 (ab_o_ild 4 941) := ab_s_iload (k := 4) ab_dk186_34.2.2.2.2.2.2.1
theorem ab_s186_941 : ab_Sn B 186 941 (ab_o_const 1 942) := ab_s_iconst (n := 1) ab_dk186_34.2.2.2.2.2.2.2.1 rfl
theorem ab_s186_942 : ab_Sn B 186 942 (ab_o_bin (fun a b => a + b) 943) := ab_s_iadd ab_dk186_34.2.2.2.2.2.2.2.2.1
theorem ab_s186_943 : ab_Sn B 186 943 (ab_o_sld B 944) := ab_s_sld ab_dk186_34.2.2.2.2.2.2.2.2.2.1
theorem ab_s186_944 : ab_Sn B 186 944 (ab_o_ald 0 945) := ab_s_aload_n (k := 0) (n := 0) ab_dk186_34.2.2.2.2.2.2.2.2.2.2.1 rfl
theorem ab_s186_945 : ab_Sn B 186 945 (ab_o_ild 4 947) := ab_s_iload (k := 4) ab_dk186_34.2.2.2.2.2.2.2.2.2.2.2.1
theorem ab_s186_947 : ab_Sn B 186 947 (ab_o_const 2 948) := ab_s_iconst (n := 2) ab_dk186_34.2.2.2.2.2.2.2.2.2.2.2.2.1 rfl
theorem ab_s186_948 : ab_Sn B 186 948 (ab_o_bin (fun a b => a + b) 949) := ab_s_iadd ab_dk186_34.2.2.2.2.2.2.2.2.2.2.2.2.2.1
theorem ab_s186_949 : ab_Sn B 186 949 (ab_o_sld B 950) := ab_s_sld ab_dk186_34.2.2.2.2.2.2.2.2.2.2.2.2.2.2.1
theorem ab_s186_950 : ab_Sn B 186 950 (ab_o_ald 3 951) := ab_s_aload_n (k := 3) (n := 3) ab_dk186_34.2.2.2.2.2.2.2.2.2.2.2.2.2.2.2.1 rfl
theorem ab_s186_951 : ab_Sn B 186 951 (ab_o_call none [] 185 5 4 true 954) := ab_s_callSX (M' := 185) (na := 4) (i := 183) (v := true) (ab_hok_n (by decide +kernel)) (by decide +kernel) ab_dk186_35.1 (by decide +kernel) (by decide +kernel) (by decide) wf_1001 wf_1002 wf_1003 wf_845
theorem ab_s186_954 : ab_Sn B 186 954 (ab_o_ist 5 956) := ab_s_istore (k := 5) ab_dk186_35.2.1
theorem ab_s186_956 : ab_Sn B 186 956 (ab_o_ald 2 957) := ab_s_aload_n (k := 2) (n := 2) ab_dk186_35.2.2.1 rfl
theorem ab_s186_957 : ab_Sn B 186 957 (ab_o_ald 0 958) := ab_s_aload_n (k := 0) (n := 0) ab_dk186_35.2.2.2.1 rfl
theorem ab_s186_958 : ab_Sn B 186 958 (ab_o_ild 4 960) := ab_s_iload (k := 4) ab_dk186_35.2.2.2.2.1
theorem ab_s186_960 : ab_Sn B 186 960 (ab_o_const 1 961) := ab_s_iconst (n := 1) ab_dk186_35.2.2.2.2.2.1 rfl
theorem ab_s186_961 : ab_Sn B 186 961 (ab_o_bin (fun a b => a + b) 962) := ab_s_iadd ab_dk186_35.2.2.2.2.2.2.1
theorem ab_s186_962 : ab_Sn B 186 962 (ab_o_sld B 963) := ab_s_sld ab_dk186_35.2.2.2.2.2.2.2.1
theorem ab_s186_963 : ab_Sn B 186 963 (ab_o_ald 0 964) := ab_s_aload_n (k := 0) (n := 0) ab_dk186_35.2.2.2.2.2.2.2.2.1 rfl
theorem ab_s186_964 : ab_Sn B 186 964 (ab_o_ild 4 966) := ab_s_iload (k := 4) ab_dk186_35.2.2.2.2.2.2.2.2.2.1
theorem ab_s186_966 : ab_Sn B 186 966 (ab_o_const 2 967) := ab_s_iconst (n := 2) ab_dk186_35.2.2.2.2.2.2.2.2.2.2.1 rfl
theorem ab_s186_967 : ab_Sn B 186 967 (ab_o_bin (fun a b => a + b) 968) := ab_s_iadd ab_dk186_35.2.2.2.2.2.2.2.2.2.2.2.1
theorem ab_s186_968 : ab_Sn B 186 968 (ab_o_sld B 969) := ab_s_sld ab_dk186_35.2.2.2.2.2.2.2.2.2.2.2.2.1
theorem ab_s186_969 : ab_Sn B 186 969 (ab_o_call (some (8, 22)) [] 158 6 3 true 972) := ab_s_callV (M' := 158) (na := 2) (i := 185) (ci := 4) (N := 22) (C := RX4) (T := TX4) (v := true) (ab_hok_n (by decide +kernel)) (by decide +kernel) ab_dk186_35.2.2.2.2.2.2.2.2.2.2.2.2.2.1 rfl (by decide) (by decide +kernel) (by decide +kernel) (by decide) wf_1004 wf_1005 wf_1006 wf_1007 wf_459
theorem ab_s186_972 : ab_Sn B 186 972 (ab_o_ist 6 974) := ab_s_istore (k := 6) ab_dk186_35.2.2.2.2.2.2.2.2.2.2.2.2.2.2.1
theorem ab_s186_974 : ab_Sn B 186 974 (ab_o_goto 1016) := ab_s_goto (tg := 1016) (off := 42) ab_dk186_35.2.2.2.2.2.2.2.2.2.2.2.2.2.2.2.1 (by decide)
theorem ab_s186_977 : ab_Sn B 186 977 (ab_o_ald 1 978) := ab_s_aload_n (k := 1) (n := 1) ab_dk186_36.1 rfl
theorem ab_s186_978 : ab_Sn B 186 978 (ab_o_call (some (6, 13)) [] 84 3 1 true 981) := ab_s_callV (M' := 84) (na := 0) (i := 186) (ci := 2) (N := 13) (C := RX2) (T := TX2) (v := true) (ab_hok_n (by decide +kernel)) (by decide +kernel) ab_dk186_36.2.1 rfl (by decide) (by decide +kernel) (by decide +kernel) (by decide) wf_432 wf_1008 wf_434 wf_435 wf_197
theorem ab_s186_981 : ab_Sn B 186 981 (ab_o_pop 982) := ab_s_pop ab_dk186_36.2.2.1
theorem ab_s186_982 : ab_Sn B 186 982 (ab_o_ald 2 983) := ab_s_aload_n (k := 2) (n := 2) ab_dk186_36.2.2.2.1 rfl
theorem ab_s186_983 : ab_Sn B 186 983 (ab_o_call (some (8, 22)) [] 160 1 1 true 986) := ab_s_callV (M' := 160) (na := 0) (i := 189) (ci := 4) (N := 22) (C := RX4) (T := TX4) (v := true) (ab_hok_n (by decide +kernel)) (by decide +kernel) ab_dk186_36.2.2.2.2.1 rfl (by decide) (by decide +kernel) (by decide +kernel) (by decide) wf_1009 wf_1010 wf_1011 wf_1012 wf_459
theorem ab_s186_986 : ab_Sn B 186 986 (ab_o_pop 987) := ab_s_pop ab_dk186_36.2.2.2.2.2.1
theorem ab_s186_987 : ab_Sn B 186 987 (ab_o_goto 1016) := ab_s_goto (tg := 1016) (off := 29) ab_dk186_36.2.2.2.2.2.2.1 (by decide)
theorem ab_s186_990 : ab_Sn B 186 990 (ab_o_ald 1 991) := ab_s_aload_n (k := 1) (n := 1) ab_dk186_36.2.2.2.2.2.2.2.1 rfl
theorem ab_s186_991 : ab_Sn B 186 991 (ab_o_call (some (6, 13)) [] 85 1 1 true 994) := ab_s_callV (M' := 85) (na := 0) (i := 190) (ci := 2) (N := 13) (C := RX2) (T := TX2) (v := true) (ab_hok_n (by decide +kernel)) (by decide +kernel) ab_dk186_36.2.2.2.2.2.2.2.2.1 rfl (by decide) (by decide +kernel) (by decide +kernel) (by decide) wf_1013 wf_1014 wf_1015 wf_1016 wf_197
theorem ab_s186_994 : ab_Sn B 186 994 (ab_o_pop 995) := ab_s_pop ab_dk186_36.2.2.2.2.2.2.2.2.2.1
theorem ab_s186_995 : ab_Sn B 186 995 (ab_o_ald 2 996) := ab_s_aload_n (k := 2) (n := 2) ab_dk186_36.2.2.2.2.2.2.2.2.2.2.1 rfl
theorem ab_s186_996 : ab_Sn B 186 996 (ab_o_call (some (8, 22)) [] 161 1 1 true 999) := ab_s_callV (M' := 161) (na := 0) (i := 193) (ci := 4) (N := 22) (C := RX4) (T := TX4) (v := true) (ab_hok_n (by decide +kernel)) (by decide +kernel) ab_dk186_36.2.2.2.2.2.2.2.2.2.2.2.1 rfl (by decide) (by decide +kernel) (by decide +kernel) (by decide) wf_1017 wf_1018 wf_1019 wf_1020 wf_459
theorem ab_s186_999 : ab_Sn B 186 999 (ab_o_pop 1000) := ab_s_pop ab_dk186_36.2.2.2.2.2.2.2.2.2.2.2.2.1
theorem ab_s186_1000 : ab_Sn B 186 1000 (ab_o_goto 1016) := ab_s_goto (tg := 1016) (off := 16) ab_dk186_36.2.2.2.2.2.2.2.2.2.2.2.2.2.1 (by decide)
theorem ab_s186_1003 : ab_Sn B 186 1003 (ab_o_ald 1 1004) := ab_s_aload_n (k := 1) (n := 1) ab_dk186_36.2.2.2.2.2.2.2.2.2.2.2.2.2.2.1 rfl
theorem ab_s186_1004 : ab_Sn B 186 1004 (ab_o_call (some (6, 13)) [] 86 5 1 true 1007) := ab_s_callV (M' := 86) (na := 0) (i := 194) (ci := 2) (N := 13) (C := RX2) (T := TX2) (v := true) (ab_hok_n (by decide +kernel)) (by decide +kernel) ab_dk186_36.2.2.2.2.2.2.2.2.2.2.2.2.2.2.2.1 rfl (by decide) (by decide +kernel) (by decide +kernel) (by decide) wf_1021 wf_1022 wf_1023 wf_1024 wf_197
theorem ab_s186_1007 : ab_Sn B 186 1007 (ab_o_pop2 1008) := ab_s_pop2 ab_dk186_37.1
theorem ab_s186_1008 : ab_Sn B 186 1008 (ab_o_ald 2 1009) := ab_s_aload_n (k := 2) (n := 2) ab_dk186_37.2.1 rfl
theorem ab_s186_1009 : ab_Sn B 186 1009 (ab_o_call (some (8, 22)) [] 162 6 1 true 1012) := ab_s_callV (M' := 162) (na := 0) (i := 198) (ci := 4) (N := 22) (C := RX4) (T := TX4) (v := true) (ab_hok_n (by decide +kernel)) (by decide +kernel) ab_dk186_37.2.2.1 rfl (by decide) (by decide +kernel) (by decide +kernel) (by decide) wf_1025 wf_1026 wf_1027 wf_1028 wf_459
theorem ab_s186_1012 : ab_Sn B 186 1012 (ab_o_pop2 1013) := ab_s_pop2 ab_dk186_37.2.2.2.1
theorem ab_s186_1013 : ab_Sn B 186 1013 (ab_o_goto 1016) := ab_s_goto (tg := 1016) (off := 3) ab_dk186_37.2.2.2.2.1 (by decide)
theorem ab_s186_1016 : ab_Sn B 186 1016 (ab_o_inc 4 5 1019) := ab_s_iinc (k := 4) (n := 5) ab_dk186_37.2.2.2.2.2.1
theorem ab_s186_1019 : ab_Sn B 186 1019 (ab_o_goto 27) := ab_s_goto (tg := 27) (off := -992) ab_dk186_37.2.2.2.2.2.2.1 (by decide)
theorem ab_s186_1022 : ab_Sn B 186 1022 (ab_o_const 1 1023) := ab_s_iconst (n := 1) ab_dk186_37.2.2.2.2.2.2.2.1 rfl
theorem ab_s186_1023 : ab_Sn B 186 1023 (ab_o_iret true) := ab_s_iret (b := true) (ty := .boolean) ab_dk186_37.2.2.2.2.2.2.2.2.1 rfl (Or.inr (Or.inl ⟨rfl, rfl⟩))
theorem ab_sc186_15 : ab_all B 186 960 (ab_d186_15 B) := ⟨ab_s186_960, ab_s186_961, ab_s186_962, ab_s186_963, ab_s186_964, trivial, ab_s186_966, ab_s186_967, ab_s186_968, ab_s186_969, trivial, trivial, ab_s186_972, trivial, ab_s186_974, trivial, trivial, ab_s186_977, ab_s186_978, trivial, trivial, ab_s186_981, ab_s186_982, ab_s186_983, trivial, trivial, ab_s186_986, ab_s186_987, trivial, trivial, ab_s186_990, ab_s186_991, trivial, trivial, ab_s186_994, ab_s186_995, ab_s186_996, trivial, trivial, ab_s186_999, ab_s186_1000, trivial, trivial, ab_s186_1003, ab_s186_1004, trivial, trivial, ab_s186_1007, ab_s186_1008, ab_s186_1009, trivial, trivial, ab_s186_1012, ab_s186_1013, trivial, trivial, ab_s186_1016, trivial, trivial, ab_s186_1019, trivial, trivial, ab_s186_1022, ab_s186_1023, trivial⟩
theorem ab_sc186_14 : ab_all B 186 896 (ab_d186_14 B) := ⟨ab_s186_896, trivial, ab_s186_898, ab_s186_899, ab_s186_900, ab_s186_901, trivial, trivial, ab_s186_904, trivial, ab_s186_906, trivial, trivial, ab_s186_909, ab_s186_910, ab_s186_911, trivial, ab_s186_913, ab_s186_914, ab_s186_915, ab_s186_916, ab_s186_917, trivial, trivial, ab_s186_920, trivial, ab_s186_922, ab_s186_923, ab_s186_924, trivial, ab_s186_926, ab_s186_927, ab_s186_928, ab_s186_929, trivial, trivial, ab_s186_932, trivial, ab_s186_934, trivial, trivial, ab_s186_937, ab_s186_938, ab_s186_939, trivial, ab_s186_941, ab_s186_942, ab_s186_943, ab_s186_944, ab_s186_945, trivial, ab_s186_947, ab_s186_948, ab_s186_949, ab_s186_950, ab_s186_951, trivial, trivial, ab_s186_954, trivial, ab_s186_956, ab_s186_957, ab_s186_958, trivial, ab_sc186_15⟩
theorem ab_sc186_13 : ab_all B 186 832 (ab_d186_13 B) := ⟨ab_s186_832, ab_s186_833, trivial, trivial, ab_s186_836, trivial, ab_s186_838, ab_s186_839, ab_s186_840, trivial, ab_s186_842, ab_s186_843, ab_s186_844, ab_s186_845, trivial, trivial, ab_s186_848, trivial, ab_s186_850, trivial, trivial, ab_s186_853, ab_s186_854, ab_s186_855, trivial, ab_s186_857, ab_s186_858, ab_s186_859, ab_s186_860, ab_s186_861, trivial, trivial, ab_s186_864, trivial, ab_s186_866, ab_s186_867, ab_s186_868, trivial, ab_s186_870, ab_s186_871, ab_s186_872, ab_s186_873, trivial, trivial, ab_s186_876, trivial, ab_s186_878, trivial, trivial, ab_s186_881, ab_s186_882, ab_s186_883, trivial, ab_s186_885, ab_s186_886, ab_s186_887, ab_s186_888, ab_s186_889, trivial, trivial, ab_s186_892, trivial, ab_s186_894, ab_s186_895, ab_sc186_14⟩
theorem ab_sc186_12 : ab_all B 186 768 (ab_d186_12 B) := ⟨ab_s186_768, ab_s186_769, ab_s186_770, ab_s186_771, trivial, trivial, ab_s186_774, trivial, ab_s186_776, ab_s186_777, ab_s186_778, trivial, ab_s186_780, ab_s186_781, ab_s186_782, ab_s186_783, ab_s186_784, trivial, ab_s186_786, ab_s186_787, ab_s186_788, ab_s186_789, trivial, trivial, ab_s186_792, trivial, ab_s186_794, trivial, trivial, ab_s186_797, ab_s186_798, ab_s186_799, trivial, ab_s186_801, ab_s186_802, ab_s186_803, ab_s186_804, ab_s186_805, trivial, trivial, ab_s186_808, trivial, ab_s186_810, ab_s186_811, ab_s186_812, trivial, ab_s186_814, ab_s186_815, ab_s186_816, ab_s186_817, trivial, trivial, ab_s186_820, trivial, ab_s186_822, trivial, trivial, ab_s186_825, ab_s186_826, ab_s186_827, trivial, ab_s186_829, ab_s186_830, ab_s186_831, ab_sc186_13⟩
theorem ab_sc186_11 : ab_all B 186 704 (ab_d186_11 B) := ⟨ab_s186_704, trivial, ab_s186_706, ab_s186_707, ab_s186_708, ab_s186_709, trivial, trivial, ab_s186_712, trivial, ab_s186_714, trivial, trivial, ab_s186_717, ab_s186_718, ab_s186_719, trivial, ab_s186_721, ab_s186_722, ab_s186_723, ab_s186_724, ab_s186_725, trivial, ab_s186_727, ab_s186_728, ab_s186_729, ab_s186_730, ab_s186_731, trivial, trivial, ab_s186_734, trivial, ab_s186_736, ab_s186_737, ab_s186_738, trivial, ab_s186_740, ab_s186_741, ab_s186_742, ab_s186_743, ab_s186_744, trivial, ab_s186_746, ab_s186_747, ab_s186_748, ab_s186_749, trivial, trivial, ab_s186_752, trivial, ab_s186_754, trivial, trivial, ab_s186_757, ab_s186_758, ab_s186_759, trivial, ab_s186_761, ab_s186_762, ab_s186_763, ab_s186_764, ab_s186_765, trivial, ab_s186_767, ab_sc186_12⟩
theorem ab_sc186_10 : ab_all B 186 640 (ab_d186_10 B) := ⟨trivial, ab_s186_641, ab_s186_642, ab_s186_643, ab_s186_644, ab_s186_645, trivial, trivial, ab_s186_648, trivial, ab_s186_650, ab_s186_651, ab_s186_652, trivial, ab_s186_654, ab_s186_655, ab_s186_656, ab_s186_657, trivial, trivial, ab_s186_660, trivial, ab_s186_662, trivial, trivial, ab_s186_665, ab_s186_666, ab_s186_667, trivial, ab_s186_669, ab_s186_670, ab_s186_671, ab_s186_672, ab_s186_673, trivial, ab_s186_675, ab_s186_676, ab_s186_677, ab_s186_678, ab_s186_679, trivial, ab_s186_681, ab_s186_682, ab_s186_683, ab_s186_684, ab_s186_685, trivial, trivial, ab_s186_688, trivial, ab_s186_690, ab_s186_691, ab_s186_692, trivial, ab_s186_694, ab_s186_695, ab_s186_696, ab_s186_697, ab_s186_698, trivial, ab_s186_700, ab_s186_701, ab_s186_702, ab_s186_703, ab_sc186_11⟩
theorem ab_sc186_9 : ab_all B 186 576 (ab_d186_9 B) := ⟨ab_s186_576, ab_s186_577, ab_s186_578, ab_s186_579, trivial, trivial, ab_s186_582, trivial, ab_s186_584, ab_s186_585, ab_s186_586, trivial, ab_s186_588, ab_s186_589, ab_s186_590, ab_s186_591, ab_s186_592, trivial, ab_s186_594, ab_s186_595, ab_s186_596, ab_s186_597, trivial, trivial, ab_s186_600, trivial, ab_s186_602, trivial, trivial, ab_s186_605, ab_s186_606, ab_s186_607, trivial, trivial, ab_s186_610, trivial, ab_s186_612, ab_s186_613, trivial, trivial, ab_s186_616, trivial, ab_s186_618, trivial, trivial, ab_s186_621, ab_s186_622, ab_s186_623, trivial, trivial, ab_s186_626, trivial, ab_s186_628, ab_s186_629, trivial, trivial, ab_s186_632, trivial, ab_s186_634, trivial, trivial, ab_s186_637, ab_s186_638, ab_s186_639, ab_sc186_10⟩
theorem ab_sc186_8 : ab_all B 186 512 (ab_d186_8 B) := ⟨ab_s186_512, ab_s186_513, ab_s186_514, ab_s186_515, trivial, ab_s186_517, ab_s186_518, ab_s186_519, ab_s186_520, ab_s186_521, trivial, ab_s186_523, ab_s186_524, ab_s186_525, ab_s186_526, ab_s186_527, trivial, trivial, ab_s186_530, trivial, ab_s186_532, ab_s186_533, ab_s186_534, trivial, ab_s186_536, ab_s186_537, ab_s186_538, ab_s186_539, ab_s186_540, trivial, ab_s186_542, ab_s186_543, ab_s186_544, ab_s186_545, ab_s186_546, trivial, ab_s186_548, ab_s186_549, ab_s186_550, ab_s186_551, ab_s186_552, trivial, ab_s186_554, ab_s186_555, ab_s186_556, ab_s186_557, trivial, trivial, ab_s186_560, trivial, ab_s186_562, trivial, trivial, ab_s186_565, ab_s186_566, ab_s186_567, trivial, ab_s186_569, ab_s186_570, ab_s186_571, ab_s186_572, ab_s186_573, trivial, ab_s186_575, ab_sc186_9⟩
theorem ab_sc186_7 : ab_all B 186 448 (ab_d186_7 B) := ⟨trivial, trivial, ab_s186_450, ab_s186_451, ab_s186_452, trivial, ab_s186_454, trivial, trivial, ab_s186_457, ab_s186_458, trivial, trivial, ab_s186_461, trivial, ab_s186_463, ab_s186_464, ab_s186_465, trivial, trivial, ab_s186_468, ab_s186_469, ab_s186_470, trivial, trivial, ab_s186_473, ab_s186_474, ab_s186_475, trivial, ab_s186_477, ab_s186_478, ab_s186_479, ab_s186_480, ab_s186_481, trivial, trivial, ab_s186_484, trivial, ab_s186_486, ab_s186_487, ab_s186_488, trivial, ab_s186_490, ab_s186_491, ab_s186_492, ab_s186_493, trivial, trivial, ab_s186_496, trivial, ab_s186_498, trivial, trivial, ab_s186_501, ab_s186_502, ab_s186_503, trivial, ab_s186_505, ab_s186_506, ab_s186_507, ab_s186_508, ab_s186_509, trivial, ab_s186_511, ab_sc186_8⟩
theorem ab_sc186_6 : ab_all B 186 384 (ab_d186_6 B) := ⟨trivial, ab_s186_385, trivial, trivial, ab_s186_388, ab_s186_389, ab_s186_390, trivial, ab_s186_392, ab_s186_393, ab_s186_394, ab_s186_395, ab_s186_396, trivial, trivial, ab_s186_399, trivial, ab_s186_401, ab_s186_402, ab_s186_403, trivial, ab_s186_405, ab_s186_406, ab_s186_407, ab_s186_408, trivial, trivial, ab_s186_411, trivial, ab_s186_413, trivial, trivial, ab_s186_416, ab_s186_417, ab_s186_418, trivial, ab_s186_420, ab_s186_421, ab_s186_422, ab_s186_423, ab_s186_424, trivial, trivial, ab_s186_427, trivial, ab_s186_429, ab_s186_430, ab_s186_431, trivial, ab_s186_433, ab_s186_434, ab_s186_435, ab_s186_436, trivial, trivial, ab_s186_439, trivial, ab_s186_441, ab_s186_442, trivial, trivial, ab_s186_445, trivial, ab_s186_447, ab_sc186_7⟩
theorem ab_sc186_5 : ab_all B 186 320 (ab_d186_5 B) := ⟨trivial, ab_s186_321, ab_s186_322, ab_s186_323, trivial, ab_s186_325, ab_s186_326, ab_s186_327, ab_s186_328, trivial, trivial, ab_s186_331, trivial, ab_s186_333, trivial, trivial, ab_s186_336, ab_s186_337, ab_s186_338, trivial, ab_s186_340, ab_s186_341, ab_s186_342, ab_s186_343, ab_s186_344, trivial, ab_s186_346, ab_s186_347, ab_s186_348, ab_s186_349, ab_s186_350, trivial, ab_s186_352, ab_s186_353, ab_s186_354, ab_s186_355, ab_s186_356, trivial, trivial, ab_s186_359, trivial, ab_s186_361, ab_s186_362, ab_s186_363, trivial, ab_s186_365, ab_s186_366, ab_s186_367, ab_s186_368, ab_s186_369, trivial, ab_s186_371, ab_s186_372, ab_s186_373, ab_s186_374, ab_s186_375, trivial, ab_s186_377, ab_s186_378, ab_s186_379, ab_s186_380, trivial, trivial, ab_s186_383, ab_sc186_6⟩
theorem ab_sc186_4 : ab_all B 186 256 (ab_d186_4 B) := ⟨ab_s186_256, ab_s186_257, ab_s186_258, ab_s186_259, ab_s186_260, trivial, trivial, ab_s186_263, trivial, ab_s186_265, ab_s186_266, ab_s186_267, trivial, ab_s186_269, ab_s186_270, ab_s186_271, ab_s186_272, trivial, trivial, ab_s186_275, trivial, ab_s186_277, trivial, trivial, ab_s186_280, ab_s186_281, ab_s186_282, trivial, ab_s186_284, ab_s186_285, ab_s186_286, ab_s186_287, ab_s186_288, trivial, trivial, ab_s186_291, trivial, ab_s186_293, ab_s186_294, ab_s186_295, trivial, ab_s186_297, ab_s186_298, ab_s186_299, ab_s186_300, trivial, trivial, ab_s186_303, trivial, ab_s186_305, trivial, trivial, ab_s186_308, ab_s186_309, ab_s186_310, trivial, ab_s186_312, ab_s186_313, ab_s186_314, ab_s186_315, ab_s186_316, trivial, trivial, ab_s186_319, ab_sc186_5⟩
theorem ab_sc186_3 : ab_all B 186 192 (ab_d186_3 B) := ⟨ab_s186_192, trivial, trivial, ab_s186_195, trivial, ab_s186_197, trivial, trivial, ab_s186_200, ab_s186_201, ab_s186_202, trivial, ab_s186_204, ab_s186_205, ab_s186_206, ab_s186_207, ab_s186_208, trivial, ab_s186_210, ab_s186_211, ab_s186_212, ab_s186_213, ab_s186_214, trivial, ab_s186_216, ab_s186_217, ab_s186_218, ab_s186_219, ab_s186_220, trivial, trivial, ab_s186_223, trivial, ab_s186_225, ab_s186_226, ab_s186_227, trivial, ab_s186_229, ab_s186_230, ab_s186_231, ab_s186_232, ab_s186_233, trivial, ab_s186_235, ab_s186_236, ab_s186_237, ab_s186_238, ab_s186_239, trivial, ab_s186_241, ab_s186_242, ab_s186_243, ab_s186_244, trivial, trivial, ab_s186_247, trivial, ab_s186_249, trivial, trivial, ab_s186_252, ab_s186_253, ab_s186_254, trivial, ab_sc186_4⟩
theorem ab_sc186_2 : ab_all B 186 128 (ab_d186_2 B) := ⟨trivial, trivial, trivial, trivial, trivial, trivial, trivial, trivial, trivial, trivial, trivial, trivial, trivial, trivial, trivial, trivial, trivial, trivial, trivial, trivial, trivial, trivial, trivial, trivial, trivial, trivial, trivial, trivial, trivial, trivial, trivial, trivial, ab_s186_160, ab_s186_161, ab_s186_162, trivial, ab_s186_164, ab_s186_165, ab_s186_166, ab_s186_167, ab_s186_168, trivial, ab_s186_170, ab_s186_171, ab_s186_172, ab_s186_173, ab_s186_174, trivial, trivial, ab_s186_177, trivial, ab_s186_179, ab_s186_180, ab_s186_181, trivial, ab_s186_183, ab_s186_184, ab_s186_185, ab_s186_186, ab_s186_187, trivial, ab_s186_189, ab_s186_190, ab_s186_191, ab_sc186_3⟩
theorem ab_sc186_1 : ab_all B 186 64 (ab_d186_1 B) := ⟨trivial, trivial, trivial, trivial, trivial, trivial, trivial, trivial, trivial, trivial, trivial, trivial, trivial, trivial, trivial, trivial, trivial, trivial, trivial, trivial, trivial, trivial, trivial, trivial, trivial, trivial, trivial, trivial, trivial, trivial, trivial, trivial, trivial, trivial, trivial, trivial, trivial, trivial, trivial, trivial, trivial, trivial, trivial, trivial, trivial, trivial, trivial, trivial, trivial, trivial, trivial, trivial, trivial, trivial, trivial, trivial, trivial, trivial, trivial, trivial, trivial, trivial, trivial, trivial, ab_sc186_2⟩
theorem ab_sc186_0 : ab_all B 186 0 (ab_d186_0 B) := ⟨ab_s186_0, trivial, trivial, ab_s186_3, ab_s186_4, trivial, trivial, ab_s186_7, ab_s186_8, trivial, trivial, ab_s186_11, ab_s186_12, trivial, trivial, ab_s186_15, ab_s186_16, trivial, trivial, ab_s186_19, ab_s186_20, trivial, trivial, ab_s186_23, ab_s186_24, ab_s186_25, trivial, ab_s186_27, trivial, ab_s186_29, ab_s186_30, ab_s186_31, ab_s186_32, ab_s186_33, trivial, trivial, ab_s186_36, ab_s186_37, trivial, ab_s186_39, ab_s186_40, trivial, ab_s186_42, ab_s186_43, trivial, trivial, trivial, trivial, trivial, trivial, trivial, trivial, trivial, trivial, trivial, trivial, trivial, trivial, trivial, trivial, trivial, trivial, trivial, trivial, ab_sc186_1⟩
theorem ab_sn186 : ab_all B 186 0 (ab_c186 B) := by rw [ab_cd186]; exact ab_sc186_0
end
