/-! each instruction is sound; printed by wip/px/gen_code.py -/
section
variable {B : ab_B}
theorem ab_dk60_0 : ab_dp 60 [(0, .aload_n 0, 1), (1, .invokespecial 1, 3), (4, .aload_n 0, 1), (5, .new 7, 3), (8, .dup, 1), (9, .invokespecial 9, 3), (12, .putfield 10, 3), (15, .aload_n 0, 1), (16, .new 16, 3), (19, .dup, 1), (20, .invokespecial 18, 3), (23, .putfield 19, 3), (26, .aload_n 0, 1), (27, .iconst (-1), 1), (28, .putfield 23, 3), (31, .aload_n 0, 1)] := ab_da (by decide +kernel)
theorem ab_dk60_1 : ab_dp 60 [(32, .iconst (-1), 1), (33, .putfield 27, 3), (36, .aload_n 0, 1), (37, .iconst (-1), 1), (38, .putfield 30, 3), (41, .return_, 1)] := ab_da (by decide +kernel)
theorem ab_s60_0 : ab_Sn B 60 0 (ab_o_ald 0 1) := ab_s_aload_n (k := 0) (n := 0) ab_dk60_0.1 rfl
theorem ab_s60_1 : ab_Sn B 60 1 (ab_o_obj 4) := ab_s_obj (i := 1) ab_dk60_0.2.1 wf_161 wf_1 wf_2
theorem ab_s60_4 : ab_Sn B 60 4 (ab_o_ald 0 5) := ab_s_aload_n (k := 0) (n := 0) ab_dk60_0.2.2.1 rfl
theorem ab_s60_5 : ab_Sn B 60 5 (ab_o_new 4 7 8) := ab_s_new (i := 7) (ci := 0) (N := 7) (C := RX0) (T := TX0) ab_dk60_0.2.2.2.1 rfl (by decide) wf_162 wf_163 wf_164 (by decide +kernel)
theorem ab_s60_8 : ab_Sn B 60 8 (ab_o_dup 9) := ab_s_dup ab_dk60_0.2.2.2.2.1
theorem ab_s60_9 : ab_Sn B 60 9 (ab_o_call (some (4, 7)) [] 0 1 1 false 12) := ab_s_callIN (M' := 0) (na := 0) (i := 9) (sh := (4, 7)) (host := "Staggershelf") (by decide) (ab_hok_n (by decide +kernel)) (by decide +kernel) ab_dk60_0.2.2.2.2.2.1 (by decide +kernel) (by decide +kernel) (by decide) rfl rfl wf_165 wf_167 wf_166 wf_15
theorem ab_s60_12 : ab_Sn B 60 12 (ab_o_putr 6 13 0 15) := ab_s_putrF (ty := .object "Staggershelf$Rack") (i := 10) (ci := 2) (N := 13) (k := 0) (C := RX2) (T := TX2) ab_dk60_0.2.2.2.2.2.2.1 rfl (by decide) rfl wf_168 rfl rfl rfl (by decide +kernel) (Or.inl ⟨_, rfl⟩)
theorem ab_s60_15 : ab_Sn B 60 15 (ab_o_ald 0 16) := ab_s_aload_n (k := 0) (n := 0) ab_dk60_0.2.2.2.2.2.2.2.1 rfl
theorem ab_s60_16 : ab_Sn B 60 16 (ab_o_new 5 15 19) := ab_s_new (i := 16) (ci := 1) (N := 15) (C := RX1) (T := TX1) ab_dk60_0.2.2.2.2.2.2.2.2.1 rfl (by decide) wf_169 wf_170 wf_171 (by decide +kernel)
theorem ab_s60_19 : ab_Sn B 60 19 (ab_o_dup 20) := ab_s_dup ab_dk60_0.2.2.2.2.2.2.2.2.2.1
theorem ab_s60_20 : ab_Sn B 60 20 (ab_o_call (some (5, 15)) [] 36 1 1 false 23) := ab_s_callIN (M' := 36) (na := 0) (i := 18) (sh := (5, 15)) (host := "Staggershelf") (by decide) (ab_hok_n (by decide +kernel)) (by decide +kernel) ab_dk60_0.2.2.2.2.2.2.2.2.2.2.1 (by decide +kernel) (by decide +kernel) (by decide) rfl rfl wf_172 wf_174 wf_173 wf_94
theorem ab_s60_23 : ab_Sn B 60 23 (ab_o_putr 6 13 1 26) := ab_s_putrF (ty := .object "Staggershelf$Starts") (i := 19) (ci := 2) (N := 13) (k := 1) (C := RX2) (T := TX2) ab_dk60_0.2.2.2.2.2.2.2.2.2.2.2.1 rfl (by decide) rfl wf_175 rfl rfl rfl (by decide +kernel) (Or.inl ⟨_, rfl⟩)
theorem ab_s60_26 : ab_Sn B 60 26 (ab_o_ald 0 27) := ab_s_aload_n (k := 0) (n := 0) ab_dk60_0.2.2.2.2.2.2.2.2.2.2.2.2.1 rfl
theorem ab_s60_27 : ab_Sn B 60 27 (ab_o_const (-1) 28) := ab_s_iconst (n := (-1)) ab_dk60_0.2.2.2.2.2.2.2.2.2.2.2.2.2.1 rfl
theorem ab_s60_28 : ab_Sn B 60 28 (ab_o_puti 6 13 3 false 31) := ab_s_puti (b := false) (ty := .int) (i := 23) (ci := 2) (N := 13) (k := 3) (C := RX2) (T := TX2) ab_dk60_0.2.2.2.2.2.2.2.2.2.2.2.2.2.2.1 rfl (by decide) rfl wf_176 rfl (by decide +kernel) (Or.inl ⟨rfl, rfl⟩)
theorem ab_s60_31 : ab_Sn B 60 31 (ab_o_ald 0 32) := ab_s_aload_n (k := 0) (n := 0) ab_dk60_0.2.2.2.2.2.2.2.2.2.2.2.2.2.2.2.1 rfl
theorem ab_s60_32 : ab_Sn B 60 32 (ab_o_const (-1) 33) := ab_s_iconst (n := (-1)) ab_dk60_1.1 rfl
theorem ab_s60_33 : ab_Sn B 60 33 (ab_o_puti 6 13 4 false 36) := ab_s_puti (b := false) (ty := .int) (i := 27) (ci := 2) (N := 13) (k := 4) (C := RX2) (T := TX2) ab_dk60_1.2.1 rfl (by decide) rfl wf_177 rfl (by decide +kernel) (Or.inl ⟨rfl, rfl⟩)
theorem ab_s60_36 : ab_Sn B 60 36 (ab_o_ald 0 37) := ab_s_aload_n (k := 0) (n := 0) ab_dk60_1.2.2.1 rfl
theorem ab_s60_37 : ab_Sn B 60 37 (ab_o_const (-1) 38) := ab_s_iconst (n := (-1)) ab_dk60_1.2.2.2.1 rfl
theorem ab_s60_38 : ab_Sn B 60 38 (ab_o_puti 6 13 5 false 41) := ab_s_puti (b := false) (ty := .int) (i := 30) (ci := 2) (N := 13) (k := 5) (C := RX2) (T := TX2) ab_dk60_1.2.2.2.2.1 rfl (by decide) rfl wf_178 rfl (by decide +kernel) (Or.inl ⟨rfl, rfl⟩)
theorem ab_s60_41 : ab_Sn B 60 41 (ab_o_ret) := ab_s_ret ab_dk60_1.2.2.2.2.2.1 rfl
set_option maxRecDepth 20000 in
theorem ab_sn60 : ab_all B 60 0 (ab_c60) := ⟨ab_s60_0, ab_s60_1, trivial, trivial, ab_s60_4, ab_s60_5, trivial, trivial, ab_s60_8, ab_s60_9, trivial, trivial, ab_s60_12, trivial, trivial, ab_s60_15, ab_s60_16, trivial, trivial, ab_s60_19, ab_s60_20, trivial, trivial, ab_s60_23, trivial, trivial, ab_s60_26, ab_s60_27, ab_s60_28, trivial, trivial, ab_s60_31, ab_s60_32, ab_s60_33, trivial, trivial, ab_s60_36, ab_s60_37, ab_s60_38, trivial, trivial, ab_s60_41, trivial⟩
theorem ab_dk61_0 : ab_dp 61 [(0, .iload_n 1, 1), (1, .iconst 3, 1), (2, .if_icmp .lt 8, 3), (5, .iload_n 1, 1), (6, .iconst 5, 1), (7, .if_icmp .le 13, 3), (20, .iload_n 2, 1), (21, .iconst 1, 1), (22, .if_icmp .lt 9, 3), (25, .iload_n 2, 1), (26, .bipush 8, 2), (28, .if_icmp .le 13, 3), (41, .aload_n 0, 1), (42, .getfield 10, 3), (45, .iload_n 1, 1), (46, .iload_n 2, 1)] := ab_da (by decide +kernel)
theorem ab_dk61_1 : ab_dp 61 [(47, .invokevirtual 42, 3), (50, .aload_n 0, 1), (51, .getfield 19, 3), (54, .iload_n 1, 1), (55, .invokevirtual 46, 3), (58, .aload_n 0, 1), (59, .iconst 1, 1), (60, .putfield 50, 3), (63, .aload_n 0, 1), (64, .invokevirtual 54, 3), (67, .aload_n 0, 1), (68, .iconst 0, 1), (69, .putfield 57, 3), (72, .aload_n 0, 1), (73, .iconst 0, 1), (74, .putfield 60, 3)] := ab_da (by decide +kernel)
theorem ab_dk61_2 : ab_dp 61 [(77, .aload_n 0, 1), (78, .iconst 0, 1), (79, .putfield 63, 3), (82, .aload_n 0, 1), (83, .iconst 0, 1), (84, .putfield 66, 3), (87, .aload_n 0, 1), (88, .iconst 0, 1), (89, .putfield 69, 3), (92, .aload_n 0, 1), (93, .iconst 0, 1), (94, .putfield 72, 3), (97, .aload_n 0, 1), (98, .getfield 10, 3), (101, .invokevirtual 75, 3), (104, .ireturn, 1)] := ab_da (by decide +kernel)
theorem ab_s61_0 : ab_Sn B 61 0 (ab_o_ild 1 1) := ab_s_iload_n (k := 1) (n := 1) ab_dk61_0.1 rfl
theorem ab_s61_1 : ab_Sn B 61 1 (ab_o_const 3 2) := ab_s_iconst (n := 3) ab_dk61_0.2.1 rfl
theorem ab_s61_2 : ab_Sn B 61 2 (ab_o_icmp ab_lt 10 5) := ab_s_icmp_lt (tg := 10) (off := 8) ab_dk61_0.2.2.1 (by decide)
theorem ab_s61_5 : ab_Sn B 61 5 (ab_o_ild 1 6) := ab_s_iload_n (k := 1) (n := 1) ab_dk61_0.2.2.2.1 rfl
theorem ab_s61_6 : ab_Sn B 61 6 (ab_o_const 5 7) := ab_s_iconst (n := 5) ab_dk61_0.2.2.2.2.1 rfl
theorem ab_s61_7 : ab_Sn B 61 7 (ab_o_icmp ab_le 20 10) := ab_s_icmp_le (tg := 20) (off := 13) ab_dk61_0.2.2.2.2.2.1 (by decide)
theorem ab_s61_10 : ab_Sn B 61 10 (ab_o_throw 1) := ab_s_throw (ik := 33) (is := 35) (ic := 37) (text := "disks must be 3 to 5") (Or.inl rfl) (by decide +kernel) (by decide +kernel) (by decide +kernel) (by decide +kernel) (by decide +kernel) wf_179 wf_180 wf_181 wf_182 wf_183 (by decide +kernel)
theorem ab_s61_20 : ab_Sn B 61 20 (ab_o_ild 2 21) := ab_s_iload_n (k := 2) (n := 2) ab_dk61_0.2.2.2.2.2.2.1 rfl
theorem ab_s61_21 : ab_Sn B 61 21 (ab_o_const 1 22) := ab_s_iconst (n := 1) ab_dk61_0.2.2.2.2.2.2.2.1 rfl
theorem ab_s61_22 : ab_Sn B 61 22 (ab_o_icmp ab_lt 31 25) := ab_s_icmp_lt (tg := 31) (off := 9) ab_dk61_0.2.2.2.2.2.2.2.2.1 (by decide)
theorem ab_s61_25 : ab_Sn B 61 25 (ab_o_ild 2 26) := ab_s_iload_n (k := 2) (n := 2) ab_dk61_0.2.2.2.2.2.2.2.2.2.1 rfl
theorem ab_s61_26 : ab_Sn B 61 26 (ab_o_const 8 28) := ab_s_bipush (n := 8) ab_dk61_0.2.2.2.2.2.2.2.2.2.2.1 (by decide)
theorem ab_s61_28 : ab_Sn B 61 28 (ab_o_icmp ab_le 41 31) := ab_s_icmp_le (tg := 41) (off := 13) ab_dk61_0.2.2.2.2.2.2.2.2.2.2.2.1 (by decide)
theorem ab_s61_31 : ab_Sn B 61 31 (ab_o_throw 1) := ab_s_throw (ik := 33) (is := 40) (ic := 37) (text := "stripes must be 1 to 8") (Or.inl rfl) (by decide +kernel) (by decide +kernel) (by decide +kernel) (by decide +kernel) (by decide +kernel) wf_179 wf_180 wf_184 wf_182 wf_183 (by decide +kernel)
theorem ab_s61_41 : ab_Sn B 61 41 (ab_o_ald 0 42) := ab_s_aload_n (k := 0) (n := 0) ab_dk61_0.2.2.2.2.2.2.2.2.2.2.2.2.1 rfl
theorem ab_s61_42 : ab_Sn B 61 42 (ab_o_getr 6 13 0 45) := ab_s_getr (i := 10) (ci := 2) (N := 13) (k := 0) (C := RX2) (T := TX2) ab_dk61_0.2.2.2.2.2.2.2.2.2.2.2.2.2.1 rfl (by decide) rfl wf_168
theorem ab_s61_45 : ab_Sn B 61 45 (ab_o_ild 1 46) := ab_s_iload_n (k := 1) (n := 1) ab_dk61_0.2.2.2.2.2.2.2.2.2.2.2.2.2.2.1 rfl
theorem ab_s61_46 : ab_Sn B 61 46 (ab_o_ild 2 47) := ab_s_iload_n (k := 2) (n := 2) ab_dk61_0.2.2.2.2.2.2.2.2.2.2.2.2.2.2.2.1 rfl
theorem ab_s61_47 : ab_Sn B 61 47 (ab_o_call (some (4, 7)) [] 1 5 3 false 50) := ab_s_callV (M' := 1) (na := 2) (i := 42) (ci := 0) (N := 7) (C := RX0) (T := TX0) (v := false) (ab_hok_n (by decide +kernel)) (by decide +kernel) ab_dk61_1.1 rfl (by decide) (by decide +kernel) (by decide +kernel) (by decide) wf_185 wf_186 wf_187 wf_188 wf_15
theorem ab_s61_50 : ab_Sn B 61 50 (ab_o_ald 0 51) := ab_s_aload_n (k := 0) (n := 0) ab_dk61_1.2.1 rfl
theorem ab_s61_51 : ab_Sn B 61 51 (ab_o_getr 6 13 1 54) := ab_s_getr (i := 19) (ci := 2) (N := 13) (k := 1) (C := RX2) (T := TX2) ab_dk61_1.2.2.1 rfl (by decide) rfl wf_175
theorem ab_s61_54 : ab_Sn B 61 54 (ab_o_ild 1 55) := ab_s_iload_n (k := 1) (n := 1) ab_dk61_1.2.2.2.1 rfl
theorem ab_s61_55 : ab_Sn B 61 55 (ab_o_call (some (5, 15)) [] 37 2 2 false 58) := ab_s_callV (M' := 37) (na := 1) (i := 46) (ci := 1) (N := 15) (C := RX1) (T := TX1) (v := false) (ab_hok_n (by decide +kernel)) (by decide +kernel) ab_dk61_1.2.2.2.2.1 rfl (by decide) (by decide +kernel) (by decide +kernel) (by decide) wf_189 wf_190 wf_191 wf_192 wf_94
theorem ab_s61_58 : ab_Sn B 61 58 (ab_o_ald 0 59) := ab_s_aload_n (k := 0) (n := 0) ab_dk61_1.2.2.2.2.2.1 rfl
theorem ab_s61_59 : ab_Sn B 61 59 (ab_o_const 1 60) := ab_s_iconst (n := 1) ab_dk61_1.2.2.2.2.2.2.1 rfl
theorem ab_s61_60 : ab_Sn B 61 60 (ab_o_puti 6 13 2 true 63) := ab_s_puti (b := true) (ty := .boolean) (i := 50) (ci := 2) (N := 13) (k := 2) (C := RX2) (T := TX2) ab_dk61_1.2.2.2.2.2.2.2.1 rfl (by decide) rfl wf_193 rfl (by decide +kernel) (Or.inr (Or.inl ⟨rfl, rfl⟩))
theorem ab_s61_63 : ab_Sn B 61 63 (ab_o_ald 0 64) := ab_s_aload_n (k := 0) (n := 0) ab_dk61_1.2.2.2.2.2.2.2.2.1 rfl
theorem ab_s61_64 : ab_Sn B 61 64 (ab_o_call (some (6, 13)) [] 92 1 1 false 67) := ab_s_callV (M' := 92) (na := 0) (i := 54) (ci := 2) (N := 13) (C := RX2) (T := TX2) (v := false) (ab_hok_n (by decide +kernel)) (by decide +kernel) ab_dk61_1.2.2.2.2.2.2.2.2.2.1 rfl (by decide) (by decide +kernel) (by decide +kernel) (by decide) wf_194 wf_195 wf_196 wf_198 wf_197
theorem ab_s61_67 : ab_Sn B 61 67 (ab_o_ald 0 68) := ab_s_aload_n (k := 0) (n := 0) ab_dk61_1.2.2.2.2.2.2.2.2.2.2.1 rfl
theorem ab_s61_68 : ab_Sn B 61 68 (ab_o_const 0 69) := ab_s_iconst (n := 0) ab_dk61_1.2.2.2.2.2.2.2.2.2.2.2.1 rfl
theorem ab_s61_69 : ab_Sn B 61 69 (ab_o_puti 6 13 6 false 72) := ab_s_puti (b := false) (ty := .int) (i := 57) (ci := 2) (N := 13) (k := 6) (C := RX2) (T := TX2) ab_dk61_1.2.2.2.2.2.2.2.2.2.2.2.2.1 rfl (by decide) rfl wf_199 rfl (by decide +kernel) (Or.inl ⟨rfl, rfl⟩)
theorem ab_s61_72 : ab_Sn B 61 72 (ab_o_ald 0 73) := ab_s_aload_n (k := 0) (n := 0) ab_dk61_1.2.2.2.2.2.2.2.2.2.2.2.2.2.1 rfl
theorem ab_s61_73 : ab_Sn B 61 73 (ab_o_const 0 74) := ab_s_iconst (n := 0) ab_dk61_1.2.2.2.2.2.2.2.2.2.2.2.2.2.2.1 rfl
theorem ab_s61_74 : ab_Sn B 61 74 (ab_o_puti 6 13 7 false 77) := ab_s_puti (b := false) (ty := .int) (i := 60) (ci := 2) (N := 13) (k := 7) (C := RX2) (T := TX2) ab_dk61_1.2.2.2.2.2.2.2.2.2.2.2.2.2.2.2.1 rfl (by decide) rfl wf_200 rfl (by decide +kernel) (Or.inl ⟨rfl, rfl⟩)
theorem ab_s61_77 : ab_Sn B 61 77 (ab_o_ald 0 78) := ab_s_aload_n (k := 0) (n := 0) ab_dk61_2.1 rfl
theorem ab_s61_78 : ab_Sn B 61 78 (ab_o_const 0 79) := ab_s_iconst (n := 0) ab_dk61_2.2.1 rfl
theorem ab_s61_79 : ab_Sn B 61 79 (ab_o_puti 6 13 8 false 82) := ab_s_puti (b := false) (ty := .int) (i := 63) (ci := 2) (N := 13) (k := 8) (C := RX2) (T := TX2) ab_dk61_2.2.2.1 rfl (by decide) rfl wf_201 rfl (by decide +kernel) (Or.inl ⟨rfl, rfl⟩)
theorem ab_s61_82 : ab_Sn B 61 82 (ab_o_ald 0 83) := ab_s_aload_n (k := 0) (n := 0) ab_dk61_2.2.2.2.1 rfl
theorem ab_s61_83 : ab_Sn B 61 83 (ab_o_const 0 84) := ab_s_iconst (n := 0) ab_dk61_2.2.2.2.2.1 rfl
theorem ab_s61_84 : ab_Sn B 61 84 (ab_o_puti 6 13 9 false 87) := ab_s_puti (b := false) (ty := .int) (i := 66) (ci := 2) (N := 13) (k := 9) (C := RX2) (T := TX2) ab_dk61_2.2.2.2.2.2.1 rfl (by decide) rfl wf_202 rfl (by decide +kernel) (Or.inl ⟨rfl, rfl⟩)
theorem ab_s61_87 : ab_Sn B 61 87 (ab_o_ald 0 88) := ab_s_aload_n (k := 0) (n := 0) ab_dk61_2.2.2.2.2.2.2.1 rfl
theorem ab_s61_88 : ab_Sn B 61 88 (ab_o_const 0 89) := ab_s_iconst (n := 0) ab_dk61_2.2.2.2.2.2.2.2.1 rfl
theorem ab_s61_89 : ab_Sn B 61 89 (ab_o_puti 6 13 10 false 92) := ab_s_puti (b := false) (ty := .int) (i := 69) (ci := 2) (N := 13) (k := 10) (C := RX2) (T := TX2) ab_dk61_2.2.2.2.2.2.2.2.2.1 rfl (by decide) rfl wf_203 rfl (by decide +kernel) (Or.inl ⟨rfl, rfl⟩)
theorem ab_s61_92 : ab_Sn B 61 92 (ab_o_ald 0 93) := ab_s_aload_n (k := 0) (n := 0) ab_dk61_2.2.2.2.2.2.2.2.2.2.1 rfl
theorem ab_s61_93 : ab_Sn B 61 93 (ab_o_const 0 94) := ab_s_iconst (n := 0) ab_dk61_2.2.2.2.2.2.2.2.2.2.2.1 rfl
theorem ab_s61_94 : ab_Sn B 61 94 (ab_o_puti 6 13 11 false 97) := ab_s_puti (b := false) (ty := .int) (i := 72) (ci := 2) (N := 13) (k := 11) (C := RX2) (T := TX2) ab_dk61_2.2.2.2.2.2.2.2.2.2.2.2.1 rfl (by decide) rfl wf_204 rfl (by decide +kernel) (Or.inl ⟨rfl, rfl⟩)
theorem ab_s61_97 : ab_Sn B 61 97 (ab_o_ald 0 98) := ab_s_aload_n (k := 0) (n := 0) ab_dk61_2.2.2.2.2.2.2.2.2.2.2.2.2.1 rfl
theorem ab_s61_98 : ab_Sn B 61 98 (ab_o_getr 6 13 0 101) := ab_s_getr (i := 10) (ci := 2) (N := 13) (k := 0) (C := RX2) (T := TX2) ab_dk61_2.2.2.2.2.2.2.2.2.2.2.2.2.2.1 rfl (by decide) rfl wf_168
theorem ab_s61_101 : ab_Sn B 61 101 (ab_o_call (some (4, 7)) [] 5 1 1 true 104) := ab_s_callV (M' := 5) (na := 0) (i := 75) (ci := 0) (N := 7) (C := RX0) (T := TX0) (v := true) (ab_hok_n (by decide +kernel)) (by decide +kernel) ab_dk61_2.2.2.2.2.2.2.2.2.2.2.2.2.2.2.1 rfl (by decide) (by decide +kernel) (by decide +kernel) (by decide) wf_17 wf_205 wf_19 wf_20 wf_15
theorem ab_s61_104 : ab_Sn B 61 104 (ab_o_iret false) := ab_s_iret (b := false) (ty := .int) ab_dk61_2.2.2.2.2.2.2.2.2.2.2.2.2.2.2.2.1 rfl (Or.inl ⟨rfl, rfl⟩)
set_option maxRecDepth 20000 in
theorem ab_sn61 : ab_all B 61 0 (ab_c61) := ⟨ab_s61_0, ab_s61_1, ab_s61_2, trivial, trivial, ab_s61_5, ab_s61_6, ab_s61_7, trivial, trivial, ab_s61_10, trivial, trivial, trivial, trivial, trivial, trivial, trivial, trivial, trivial, ab_s61_20, ab_s61_21, ab_s61_22, trivial, trivial, ab_s61_25, ab_s61_26, trivial, ab_s61_28, trivial, trivial, ab_s61_31, trivial, trivial, trivial, trivial, trivial, trivial, trivial, trivial, trivial, ab_s61_41, ab_s61_42, trivial, trivial, ab_s61_45, ab_s61_46, ab_s61_47, trivial, trivial, ab_s61_50, ab_s61_51, trivial, trivial, ab_s61_54, ab_s61_55, trivial, trivial, ab_s61_58, ab_s61_59, ab_s61_60, trivial, trivial, ab_s61_63, ab_s61_64, trivial, trivial, ab_s61_67, ab_s61_68, ab_s61_69, trivial, trivial, ab_s61_72, ab_s61_73, ab_s61_74, trivial, trivial, ab_s61_77, ab_s61_78, ab_s61_79, trivial, trivial, ab_s61_82, ab_s61_83, ab_s61_84, trivial, trivial, ab_s61_87, ab_s61_88, ab_s61_89, trivial, trivial, ab_s61_92, ab_s61_93, ab_s61_94, trivial, trivial, ab_s61_97, ab_s61_98, trivial, trivial, ab_s61_101, trivial, trivial, ab_s61_104, trivial⟩
theorem ab_dk62_0 : ab_dp 62 [(0, .aload_n 0, 1), (1, .getfield 10, 3), (4, .iload_n 1, 1), (5, .invokevirtual 79, 3), (8, .ifCond .ne 13, 3), (21, .iload_n 2, 1), (22, .ifCond .lt 19, 3), (25, .iload_n 2, 1), (26, .sipush 255, 3), (29, .if_icmp .gt 12, 3), (32, .iload_n 3, 1), (33, .ifCond .lt 8, 3), (36, .iload_n 3, 1), (37, .iconst 4, 1), (38, .if_icmp .le 13, 3), (51, .aload_n 0, 1)] := ab_da (by decide +kernel)
theorem ab_dk62_1 : ab_dp 62 [(52, .getfield 10, 3), (55, .iload_n 1, 1), (56, .invokevirtual 90, 3), (59, .istore 4, 2), (61, .aload_n 0, 1), (62, .getfield 50, 3), (65, .ifCond .eq 16, 3), (68, .aload_n 0, 1), (69, .getfield 10, 3), (72, .iload 4, 2), (74, .invokevirtual 94, 3), (77, .iconst 1, 1), (78, .if_icmp .le 13, 3), (91, .aload_n 0, 1), (92, .dup, 1), (93, .getfield 69, 3)] := ab_da (by decide +kernel)
theorem ab_dk62_2 : ab_dp 62 [(96, .aload_n 0, 1), (97, .getfield 10, 3), (100, .iload 4, 2), (102, .invokevirtual 102, 3), (105, .iadd, 1), (106, .putfield 69, 3), (109, .iload_n 3, 1), (110, .iconst 1, 1), (111, .if_icmp .lt 9, 3), (114, .aload_n 0, 1), (115, .iload_n 1, 1), (116, .iload_n 2, 1), (117, .invokevirtual 105, 3), (120, .iload_n 3, 1), (121, .iconst 2, 1), (122, .if_icmp .lt 7, 3)] := ab_da (by decide +kernel)
theorem ab_dk62_3 : ab_dp 62 [(125, .aload_n 0, 1), (126, .invokevirtual 108, 3), (129, .iload_n 3, 1), (130, .iconst 3, 1), (131, .if_icmp .lt 7, 3), (134, .aload_n 0, 1), (135, .invokevirtual 111, 3), (138, .iload_n 3, 1), (139, .iconst 4, 1), (140, .if_icmp .lt 10, 3), (143, .aload_n 0, 1), (144, .invokevirtual 54, 3), (147, .goto 7, 3), (150, .aload_n 0, 1), (151, .invokevirtual 114, 3), (154, .iload_n 3, 1)] := ab_da (by decide +kernel)
theorem ab_dk62_4 : ab_dp 62 [(155, .iconst 1, 1), (156, .if_icmp .lt 7, 3), (159, .iconst 1, 1), (160, .goto 4, 3), (163, .iconst 0, 1), (164, .ireturn, 1)] := ab_da (by decide +kernel)
theorem ab_s62_0 : ab_Sn B 62 0 (ab_o_ald 0 1) := ab_s_aload_n (k := 0) (n := 0) ab_dk62_0.1 rfl
theorem ab_s62_1 : ab_Sn B 62 1 (ab_o_getr 6 13 0 4) := ab_s_getr (i := 10) (ci := 2) (N := 13) (k := 0) (C := RX2) (T := TX2) ab_dk62_0.2.1 rfl (by decide) rfl wf_168
theorem ab_s62_4 : ab_Sn B 62 4 (ab_o_ild 1 5) := ab_s_iload_n (k := 1) (n := 1) ab_dk62_0.2.2.1 rfl
theorem ab_s62_5 : ab_Sn B 62 5 (ab_o_call (some (4, 7)) [] 4 2 2 true 8) := ab_s_callV (M' := 4) (na := 1) (i := 79) (ci := 0) (N := 7) (C := RX0) (T := TX0) (v := true) (ab_hok_n (by decide +kernel)) (by decide +kernel) ab_dk62_0.2.2.2.1 rfl (by decide) (by decide +kernel) (by decide +kernel) (by decide) wf_206 wf_207 wf_208 wf_209 wf_15
theorem ab_s62_8 : ab_Sn B 62 8 (ab_o_if ab_ne 21 11) := ab_s_if_ne (tg := 21) (off := 13) ab_dk62_0.2.2.2.2.1 (by decide)
theorem ab_s62_11 : ab_Sn B 62 11 (ab_o_throw 2) := ab_s_throw (ik := 83) (is := 85) (ic := 87) (text := "no such block") (Or.inr (Or.inl rfl)) (by decide +kernel) (by decide +kernel) (by decide +kernel) (by decide +kernel) (by decide +kernel) wf_210 wf_211 wf_212 wf_213 wf_214 (by decide +kernel)
theorem ab_s62_21 : ab_Sn B 62 21 (ab_o_ild 2 22) := ab_s_iload_n (k := 2) (n := 2) ab_dk62_0.2.2.2.2.2.1 rfl
theorem ab_s62_22 : ab_Sn B 62 22 (ab_o_if ab_lt 41 25) := ab_s_if_lt (tg := 41) (off := 19) ab_dk62_0.2.2.2.2.2.2.1 (by decide)
theorem ab_s62_25 : ab_Sn B 62 25 (ab_o_ild 2 26) := ab_s_iload_n (k := 2) (n := 2) ab_dk62_0.2.2.2.2.2.2.2.1 rfl
theorem ab_s62_26 : ab_Sn B 62 26 (ab_o_const 255 29) := ab_s_sipush (n := 255) ab_dk62_0.2.2.2.2.2.2.2.2.1 (by decide)
theorem ab_s62_29 : ab_Sn B 62 29 (ab_o_icmp ab_gt 41 32) := ab_s_icmp_gt (tg := 41) (off := 12) ab_dk62_0.2.2.2.2.2.2.2.2.2.1 (by decide)
theorem ab_s62_32 : ab_Sn B 62 32 (ab_o_ild 3 33) := ab_s_iload_n (k := 3) (n := 3) ab_dk62_0.2.2.2.2.2.2.2.2.2.2.1 rfl
theorem ab_s62_33 : ab_Sn B 62 33 (ab_o_if ab_lt 41 36) := ab_s_if_lt (tg := 41) (off := 8) ab_dk62_0.2.2.2.2.2.2.2.2.2.2.2.1 (by decide)
theorem ab_s62_36 : ab_Sn B 62 36 (ab_o_ild 3 37) := ab_s_iload_n (k := 3) (n := 3) ab_dk62_0.2.2.2.2.2.2.2.2.2.2.2.2.1 rfl
theorem ab_s62_37 : ab_Sn B 62 37 (ab_o_const 4 38) := ab_s_iconst (n := 4) ab_dk62_0.2.2.2.2.2.2.2.2.2.2.2.2.2.1 rfl
theorem ab_s62_38 : ab_Sn B 62 38 (ab_o_icmp ab_le 51 41) := ab_s_icmp_le (tg := 51) (off := 13) ab_dk62_0.2.2.2.2.2.2.2.2.2.2.2.2.2.2.1 (by decide)
theorem ab_s62_41 : ab_Sn B 62 41 (ab_o_throw 1) := ab_s_throw (ik := 33) (is := 88) (ic := 37) (text := "value must be 0 to 255, steps 0 to 4") (Or.inl rfl) (by decide +kernel) (by decide +kernel) (by decide +kernel) (by decide +kernel) (by decide +kernel) wf_179 wf_180 wf_215 wf_182 wf_183 (by decide +kernel)
theorem ab_s62_51 : ab_Sn B 62 51 (ab_o_ald 0 52) := ab_s_aload_n (k := 0) (n := 0) ab_dk62_0.2.2.2.2.2.2.2.2.2.2.2.2.2.2.2.1 rfl
theorem ab_s62_52 : ab_Sn B 62 52 (ab_o_getr 6 13 0 55) := ab_s_getr (i := 10) (ci := 2) (N := 13) (k := 0) (C := RX2) (T := TX2) ab_dk62_1.1 rfl (by decide) rfl wf_168
theorem ab_s62_55 : ab_Sn B 62 55 (ab_o_ild 1 56) := ab_s_iload_n (k := 1) (n := 1) ab_dk62_1.2.1 rfl
theorem ab_s62_56 : ab_Sn B 62 56 (ab_o_call (some (4, 7)) [] 6 2 2 true 59) := ab_s_callV (M' := 6) (na := 1) (i := 90) (ci := 0) (N := 7) (C := RX0) (T := TX0) (v := true) (ab_hok_n (by decide +kernel)) (by decide +kernel) ab_dk62_1.2.2.1 rfl (by decide) (by decide +kernel) (by decide +kernel) (by decide) wf_21 wf_216 wf_23 wf_24 wf_15
theorem ab_s62_59 : ab_Sn B 62 59 (ab_o_ist 4 61) := ab_s_istore (k := 4) ab_dk62_1.2.2.2.1
theorem ab_s62_61 : ab_Sn B 62 61 (ab_o_ald 0 62) := ab_s_aload_n (k := 0) (n := 0) ab_dk62_1.2.2.2.2.1 rfl
theorem ab_s62_62 : ab_Sn B 62 62 (ab_o_geti 6 13 2 65) := ab_s_geti (i := 50) (ci := 2) (N := 13) (k := 2) (C := RX2) (T := TX2) ab_dk62_1.2.2.2.2.2.1 rfl (by decide) rfl wf_193
theorem ab_s62_65 : ab_Sn B 62 65 (ab_o_if ab_eq 81 68) := ab_s_if_eq (tg := 81) (off := 16) ab_dk62_1.2.2.2.2.2.2.1 (by decide)
theorem ab_s62_68 : ab_Sn B 62 68 (ab_o_ald 0 69) := ab_s_aload_n (k := 0) (n := 0) ab_dk62_1.2.2.2.2.2.2.2.1 rfl
theorem ab_s62_69 : ab_Sn B 62 69 (ab_o_getr 6 13 0 72) := ab_s_getr (i := 10) (ci := 2) (N := 13) (k := 0) (C := RX2) (T := TX2) ab_dk62_1.2.2.2.2.2.2.2.2.1 rfl (by decide) rfl wf_168
theorem ab_s62_72 : ab_Sn B 62 72 (ab_o_ild 4 74) := ab_s_iload (k := 4) ab_dk62_1.2.2.2.2.2.2.2.2.2.1
theorem ab_s62_74 : ab_Sn B 62 74 (ab_o_call (some (4, 7)) [] 17 4 2 true 77) := ab_s_callV (M' := 17) (na := 1) (i := 94) (ci := 0) (N := 7) (C := RX0) (T := TX0) (v := true) (ab_hok_n (by decide +kernel)) (by decide +kernel) ab_dk62_1.2.2.2.2.2.2.2.2.2.2.1 rfl (by decide) (by decide +kernel) (by decide +kernel) (by decide) wf_45 wf_217 wf_47 wf_48 wf_15
theorem ab_s62_77 : ab_Sn B 62 77 (ab_o_const 1 78) := ab_s_iconst (n := 1) ab_dk62_1.2.2.2.2.2.2.2.2.2.2.2.1 rfl
theorem ab_s62_78 : ab_Sn B 62 78 (ab_o_icmp ab_le 91 81) := ab_s_icmp_le (tg := 91) (off := 13) ab_dk62_1.2.2.2.2.2.2.2.2.2.2.2.2.1 (by decide)
theorem ab_s62_81 : ab_Sn B 62 81 (ab_o_throw 3) := ab_s_throw (ik := 97) (is := 99) (ic := 101) (text := "the power is off, or the stripe is broken") (Or.inr (Or.inr rfl)) (by decide +kernel) (by decide +kernel) (by decide +kernel) (by decide +kernel) (by decide +kernel) wf_218 wf_219 wf_220 wf_221 wf_222 (by decide +kernel)
theorem ab_s62_91 : ab_Sn B 62 91 (ab_o_ald 0 92) := ab_s_aload_n (k := 0) (n := 0) ab_dk62_1.2.2.2.2.2.2.2.2.2.2.2.2.2.1 rfl
theorem ab_s62_92 : ab_Sn B 62 92 (ab_o_dup 93) := ab_s_dup ab_dk62_1.2.2.2.2.2.2.2.2.2.2.2.2.2.2.1
theorem ab_s62_93 : ab_Sn B 62 93 (ab_o_geti 6 13 10 96) := ab_s_geti (i := 69) (ci := 2) (N := 13) (k := 10) (C := RX2) (T := TX2) ab_dk62_1.2.2.2.2.2.2.2.2.2.2.2.2.2.2.2.1 rfl (by decide) rfl wf_203
theorem ab_s62_96 : ab_Sn B 62 96 (ab_o_ald 0 97) := ab_s_aload_n (k := 0) (n := 0) ab_dk62_2.1 rfl
theorem ab_s62_97 : ab_Sn B 62 97 (ab_o_getr 6 13 0 100) := ab_s_getr (i := 10) (ci := 2) (N := 13) (k := 0) (C := RX2) (T := TX2) ab_dk62_2.2.1 rfl (by decide) rfl wf_168
theorem ab_s62_100 : ab_Sn B 62 100 (ab_o_ild 4 102) := ab_s_iload (k := 4) ab_dk62_2.2.2.1
theorem ab_s62_102 : ab_Sn B 62 102 (ab_o_call (some (4, 7)) [] 27 3 2 true 105) := ab_s_callV (M' := 27) (na := 1) (i := 102) (ci := 0) (N := 7) (C := RX0) (T := TX0) (v := true) (ab_hok_n (by decide +kernel)) (by decide +kernel) ab_dk62_2.2.2.2.1 rfl (by decide) (by decide +kernel) (by decide +kernel) (by decide) wf_223 wf_224 wf_225 wf_226 wf_15
theorem ab_s62_105 : ab_Sn B 62 105 (ab_o_bin (fun a b => a + b) 106) := ab_s_iadd ab_dk62_2.2.2.2.2.1
theorem ab_s62_106 : ab_Sn B 62 106 (ab_o_puti 6 13 10 false 109) := ab_s_puti (b := false) (ty := .int) (i := 69) (ci := 2) (N := 13) (k := 10) (C := RX2) (T := TX2) ab_dk62_2.2.2.2.2.2.1 rfl (by decide) rfl wf_203 rfl (by decide +kernel) (Or.inl ⟨rfl, rfl⟩)
theorem ab_s62_109 : ab_Sn B 62 109 (ab_o_ild 3 110) := ab_s_iload_n (k := 3) (n := 3) ab_dk62_2.2.2.2.2.2.2.1 rfl
theorem ab_s62_110 : ab_Sn B 62 110 (ab_o_const 1 111) := ab_s_iconst (n := 1) ab_dk62_2.2.2.2.2.2.2.2.1 rfl
theorem ab_s62_111 : ab_Sn B 62 111 (ab_o_icmp ab_lt 120 114) := ab_s_icmp_lt (tg := 120) (off := 9) ab_dk62_2.2.2.2.2.2.2.2.2.1 (by decide)
theorem ab_s62_114 : ab_Sn B 62 114 (ab_o_ald 0 115) := ab_s_aload_n (k := 0) (n := 0) ab_dk62_2.2.2.2.2.2.2.2.2.2.1 rfl
theorem ab_s62_115 : ab_Sn B 62 115 (ab_o_ild 1 116) := ab_s_iload_n (k := 1) (n := 1) ab_dk62_2.2.2.2.2.2.2.2.2.2.2.1 rfl
theorem ab_s62_116 : ab_Sn B 62 116 (ab_o_ild 2 117) := ab_s_iload_n (k := 2) (n := 2) ab_dk62_2.2.2.2.2.2.2.2.2.2.2.2.1 rfl
theorem ab_s62_117 : ab_Sn B 62 117 (ab_o_call (some (6, 13)) [] 89 6 3 false 120) := ab_s_callV (M' := 89) (na := 2) (i := 105) (ci := 2) (N := 13) (C := RX2) (T := TX2) (v := false) (ab_hok_n (by decide +kernel)) (by decide +kernel) ab_dk62_2.2.2.2.2.2.2.2.2.2.2.2.2.1 rfl (by decide) (by decide +kernel) (by decide +kernel) (by decide) wf_227 wf_228 wf_229 wf_230 wf_197
theorem ab_s62_120 : ab_Sn B 62 120 (ab_o_ild 3 121) := ab_s_iload_n (k := 3) (n := 3) ab_dk62_2.2.2.2.2.2.2.2.2.2.2.2.2.2.1 rfl
theorem ab_s62_121 : ab_Sn B 62 121 (ab_o_const 2 122) := ab_s_iconst (n := 2) ab_dk62_2.2.2.2.2.2.2.2.2.2.2.2.2.2.2.1 rfl
theorem ab_s62_122 : ab_Sn B 62 122 (ab_o_icmp ab_lt 129 125) := ab_s_icmp_lt (tg := 129) (off := 7) ab_dk62_2.2.2.2.2.2.2.2.2.2.2.2.2.2.2.2.1 (by decide)
theorem ab_s62_125 : ab_Sn B 62 125 (ab_o_ald 0 126) := ab_s_aload_n (k := 0) (n := 0) ab_dk62_3.1 rfl
theorem ab_s62_126 : ab_Sn B 62 126 (ab_o_call (some (6, 13)) [] 90 1 1 false 129) := ab_s_callV (M' := 90) (na := 0) (i := 108) (ci := 2) (N := 13) (C := RX2) (T := TX2) (v := false) (ab_hok_n (by decide +kernel)) (by decide +kernel) ab_dk62_3.2.1 rfl (by decide) (by decide +kernel) (by decide +kernel) (by decide) wf_231 wf_232 wf_233 wf_234 wf_197
theorem ab_s62_129 : ab_Sn B 62 129 (ab_o_ild 3 130) := ab_s_iload_n (k := 3) (n := 3) ab_dk62_3.2.2.1 rfl
theorem ab_s62_130 : ab_Sn B 62 130 (ab_o_const 3 131) := ab_s_iconst (n := 3) ab_dk62_3.2.2.2.1 rfl
theorem ab_s62_131 : ab_Sn B 62 131 (ab_o_icmp ab_lt 138 134) := ab_s_icmp_lt (tg := 138) (off := 7) ab_dk62_3.2.2.2.2.1 (by decide)
theorem ab_s62_134 : ab_Sn B 62 134 (ab_o_ald 0 135) := ab_s_aload_n (k := 0) (n := 0) ab_dk62_3.2.2.2.2.2.1 rfl
theorem ab_s62_135 : ab_Sn B 62 135 (ab_o_call (some (6, 13)) [] 91 2 1 false 138) := ab_s_callV (M' := 91) (na := 0) (i := 111) (ci := 2) (N := 13) (C := RX2) (T := TX2) (v := false) (ab_hok_n (by decide +kernel)) (by decide +kernel) ab_dk62_3.2.2.2.2.2.2.1 rfl (by decide) (by decide +kernel) (by decide +kernel) (by decide) wf_235 wf_236 wf_237 wf_238 wf_197
theorem ab_s62_138 : ab_Sn B 62 138 (ab_o_ild 3 139) := ab_s_iload_n (k := 3) (n := 3) ab_dk62_3.2.2.2.2.2.2.2.1 rfl
theorem ab_s62_139 : ab_Sn B 62 139 (ab_o_const 4 140) := ab_s_iconst (n := 4) ab_dk62_3.2.2.2.2.2.2.2.2.1 rfl
theorem ab_s62_140 : ab_Sn B 62 140 (ab_o_icmp ab_lt 150 143) := ab_s_icmp_lt (tg := 150) (off := 10) ab_dk62_3.2.2.2.2.2.2.2.2.2.1 (by decide)
theorem ab_s62_143 : ab_Sn B 62 143 (ab_o_ald 0 144) := ab_s_aload_n (k := 0) (n := 0) ab_dk62_3.2.2.2.2.2.2.2.2.2.2.1 rfl
theorem ab_s62_144 : ab_Sn B 62 144 (ab_o_call (some (6, 13)) [] 92 1 1 false 147) := ab_s_callV (M' := 92) (na := 0) (i := 54) (ci := 2) (N := 13) (C := RX2) (T := TX2) (v := false) (ab_hok_n (by decide +kernel)) (by decide +kernel) ab_dk62_3.2.2.2.2.2.2.2.2.2.2.2.1 rfl (by decide) (by decide +kernel) (by decide +kernel) (by decide) wf_194 wf_195 wf_196 wf_198 wf_197
theorem ab_s62_147 : ab_Sn B 62 147 (ab_o_goto 154) := ab_s_goto (tg := 154) (off := 7) ab_dk62_3.2.2.2.2.2.2.2.2.2.2.2.2.1 (by decide)
theorem ab_s62_150 : ab_Sn B 62 150 (ab_o_ald 0 151) := ab_s_aload_n (k := 0) (n := 0) ab_dk62_3.2.2.2.2.2.2.2.2.2.2.2.2.2.1 rfl
theorem ab_s62_151 : ab_Sn B 62 151 (ab_o_call (some (6, 13)) [] 93 1 1 false 154) := ab_s_callV (M' := 93) (na := 0) (i := 114) (ci := 2) (N := 13) (C := RX2) (T := TX2) (v := false) (ab_hok_n (by decide +kernel)) (by decide +kernel) ab_dk62_3.2.2.2.2.2.2.2.2.2.2.2.2.2.2.1 rfl (by decide) (by decide +kernel) (by decide +kernel) (by decide) wf_239 wf_240 wf_241 wf_242 wf_197
theorem ab_s62_154 : ab_Sn B 62 154 (ab_o_ild 3 155) := ab_s_iload_n (k := 3) (n := 3) ab_dk62_3.2.2.2.2.2.2.2.2.2.2.2.2.2.2.2.1 rfl
theorem ab_s62_155 : ab_Sn B 62 155 (ab_o_const 1 156) := ab_s_iconst (n := 1) ab_dk62_4.1 rfl
theorem ab_s62_156 : ab_Sn B 62 156 (ab_o_icmp ab_lt 163 159) := ab_s_icmp_lt (tg := 163) (off := 7) ab_dk62_4.2.1 (by decide)
theorem ab_s62_159 : ab_Sn B 62 159 (ab_o_const 1 160) := ab_s_iconst (n := 1) ab_dk62_4.2.2.1 rfl
theorem ab_s62_160 : ab_Sn B 62 160 (ab_o_goto 164) := ab_s_goto (tg := 164) (off := 4) ab_dk62_4.2.2.2.1 (by decide)
theorem ab_s62_163 : ab_Sn B 62 163 (ab_o_const 0 164) := ab_s_iconst (n := 0) ab_dk62_4.2.2.2.2.1 rfl
theorem ab_s62_164 : ab_Sn B 62 164 (ab_o_iret true) := ab_s_iret (b := true) (ty := .boolean) ab_dk62_4.2.2.2.2.2.1 rfl (Or.inr (Or.inl ⟨rfl, rfl⟩))
theorem ab_sc62_2 : ab_all B 62 128 (ab_d62_2) := ⟨trivial, ab_s62_129, ab_s62_130, ab_s62_131, trivial, trivial, ab_s62_134, ab_s62_135, trivial, trivial, ab_s62_138, ab_s62_139, ab_s62_140, trivial, trivial, ab_s62_143, ab_s62_144, trivial, trivial, ab_s62_147, trivial, trivial, ab_s62_150, ab_s62_151, trivial, trivial, ab_s62_154, ab_s62_155, ab_s62_156, trivial, trivial, ab_s62_159, ab_s62_160, trivial, trivial, ab_s62_163, ab_s62_164, trivial⟩
theorem ab_sc62_1 : ab_all B 62 64 (ab_d62_1) := ⟨trivial, ab_s62_65, trivial, trivial, ab_s62_68, ab_s62_69, trivial, trivial, ab_s62_72, trivial, ab_s62_74, trivial, trivial, ab_s62_77, ab_s62_78, trivial, trivial, ab_s62_81, trivial, trivial, trivial, trivial, trivial, trivial, trivial, trivial, trivial, ab_s62_91, ab_s62_92, ab_s62_93, trivial, trivial, ab_s62_96, ab_s62_97, trivial, trivial, ab_s62_100, trivial, ab_s62_102, trivial, trivial, ab_s62_105, ab_s62_106, trivial, trivial, ab_s62_109, ab_s62_110, ab_s62_111, trivial, trivial, ab_s62_114, ab_s62_115, ab_s62_116, ab_s62_117, trivial, trivial, ab_s62_120, ab_s62_121, ab_s62_122, trivial, trivial, ab_s62_125, ab_s62_126, trivial, ab_sc62_2⟩
theorem ab_sc62_0 : ab_all B 62 0 (ab_d62_0) := ⟨ab_s62_0, ab_s62_1, trivial, trivial, ab_s62_4, ab_s62_5, trivial, trivial, ab_s62_8, trivial, trivial, ab_s62_11, trivial, trivial, trivial, trivial, trivial, trivial, trivial, trivial, trivial, ab_s62_21, ab_s62_22, trivial, trivial, ab_s62_25, ab_s62_26, trivial, trivial, ab_s62_29, trivial, trivial, ab_s62_32, ab_s62_33, trivial, trivial, ab_s62_36, ab_s62_37, ab_s62_38, trivial, trivial, ab_s62_41, trivial, trivial, trivial, trivial, trivial, trivial, trivial, trivial, trivial, ab_s62_51, ab_s62_52, trivial, trivial, ab_s62_55, ab_s62_56, trivial, trivial, ab_s62_59, trivial, ab_s62_61, ab_s62_62, trivial, ab_sc62_1⟩
theorem ab_sn62 : ab_all B 62 0 (ab_c62) := by rw [ab_cd62]; exact ab_sc62_0
theorem ab_dk63_0 : ab_dp 63 [(0, .aload_n 0, 1), (1, .getfield 10, 3), (4, .iload_n 1, 1), (5, .invokevirtual 79, 3), (8, .ifCond .ne 13, 3), (21, .aload_n 0, 1), (22, .getfield 50, 3), (25, .ifCond .ne 13, 3), (38, .aload_n 0, 1), (39, .getfield 10, 3), (42, .iload_n 1, 1), (43, .invokevirtual 119, 3), (46, .istore_n 2, 1), (47, .aload_n 0, 1), (48, .getfield 10, 3), (51, .iload_n 1, 1)] := ab_da (by decide +kernel)
theorem ab_dk63_1 : ab_dp 63 [(52, .invokevirtual 90, 3), (55, .istore_n 3, 1), (56, .aload_n 0, 1), (57, .getfield 10, 3), (60, .iload_n 2, 1), (61, .iload_n 3, 1), (62, .invokevirtual 122, 3), (65, .istore 4, 2), (67, .aload_n 0, 1), (68, .getfield 10, 3), (71, .iload_n 2, 1), (72, .iload_n 3, 1), (73, .invokevirtual 126, 3), (76, .ifCond .eq 20, 3), (79, .aload_n 0, 1), (80, .dup, 1)] := ab_da (by decide +kernel)
theorem ab_dk63_2 : ab_dp 63 [(81, .getfield 69, 3), (84, .aload_n 0, 1), (85, .getfield 10, 3), (88, .iload_n 3, 1), (89, .invokevirtual 102, 3), (92, .iadd, 1), (93, .putfield 69, 3), (96, .aload_n 0, 1), (97, .dup, 1), (98, .getfield 66, 3), (101, .iconst 1, 1), (102, .iadd, 1), (103, .putfield 66, 3), (106, .iload 4, 2), (108, .ireturn, 1)] := ab_da (by decide +kernel)
theorem ab_s63_0 : ab_Sn B 63 0 (ab_o_ald 0 1) := ab_s_aload_n (k := 0) (n := 0) ab_dk63_0.1 rfl
theorem ab_s63_1 : ab_Sn B 63 1 (ab_o_getr 6 13 0 4) := ab_s_getr (i := 10) (ci := 2) (N := 13) (k := 0) (C := RX2) (T := TX2) ab_dk63_0.2.1 rfl (by decide) rfl wf_168
theorem ab_s63_4 : ab_Sn B 63 4 (ab_o_ild 1 5) := ab_s_iload_n (k := 1) (n := 1) ab_dk63_0.2.2.1 rfl
theorem ab_s63_5 : ab_Sn B 63 5 (ab_o_call (some (4, 7)) [] 4 2 2 true 8) := ab_s_callV (M' := 4) (na := 1) (i := 79) (ci := 0) (N := 7) (C := RX0) (T := TX0) (v := true) (ab_hok_n (by decide +kernel)) (by decide +kernel) ab_dk63_0.2.2.2.1 rfl (by decide) (by decide +kernel) (by decide +kernel) (by decide) wf_206 wf_207 wf_208 wf_209 wf_15
theorem ab_s63_8 : ab_Sn B 63 8 (ab_o_if ab_ne 21 11) := ab_s_if_ne (tg := 21) (off := 13) ab_dk63_0.2.2.2.2.1 (by decide)
theorem ab_s63_11 : ab_Sn B 63 11 (ab_o_throw 2) := ab_s_throw (ik := 83) (is := 85) (ic := 87) (text := "no such block") (Or.inr (Or.inl rfl)) (by decide +kernel) (by decide +kernel) (by decide +kernel) (by decide +kernel) (by decide +kernel) wf_210 wf_211 wf_212 wf_213 wf_214 (by decide +kernel)
theorem ab_s63_21 : ab_Sn B 63 21 (ab_o_ald 0 22) := ab_s_aload_n (k := 0) (n := 0) ab_dk63_0.2.2.2.2.2.1 rfl
theorem ab_s63_22 : ab_Sn B 63 22 (ab_o_geti 6 13 2 25) := ab_s_geti (i := 50) (ci := 2) (N := 13) (k := 2) (C := RX2) (T := TX2) ab_dk63_0.2.2.2.2.2.2.1 rfl (by decide) rfl wf_193
theorem ab_s63_25 : ab_Sn B 63 25 (ab_o_if ab_ne 38 28) := ab_s_if_ne (tg := 38) (off := 13) ab_dk63_0.2.2.2.2.2.2.2.1 (by decide)
theorem ab_s63_28 : ab_Sn B 63 28 (ab_o_throw 3) := ab_s_throw (ik := 97) (is := 117) (ic := 101) (text := "the power is off") (Or.inr (Or.inr rfl)) (by decide +kernel) (by decide +kernel) (by decide +kernel) (by decide +kernel) (by decide +kernel) wf_218 wf_219 wf_243 wf_221 wf_222 (by decide +kernel)
theorem ab_s63_38 : ab_Sn B 63 38 (ab_o_ald 0 39) := ab_s_aload_n (k := 0) (n := 0) ab_dk63_0.2.2.2.2.2.2.2.2.1 rfl
theorem ab_s63_39 : ab_Sn B 63 39 (ab_o_getr 6 13 0 42) := ab_s_getr (i := 10) (ci := 2) (N := 13) (k := 0) (C := RX2) (T := TX2) ab_dk63_0.2.2.2.2.2.2.2.2.2.1 rfl (by decide) rfl wf_168
theorem ab_s63_42 : ab_Sn B 63 42 (ab_o_ild 1 43) := ab_s_iload_n (k := 1) (n := 1) ab_dk63_0.2.2.2.2.2.2.2.2.2.2.1 rfl
theorem ab_s63_43 : ab_Sn B 63 43 (ab_o_call (some (4, 7)) [] 7 3 2 true 46) := ab_s_callV (M' := 7) (na := 1) (i := 119) (ci := 0) (N := 7) (C := RX0) (T := TX0) (v := true) (ab_hok_n (by decide +kernel)) (by decide +kernel) ab_dk63_0.2.2.2.2.2.2.2.2.2.2.2.1 rfl (by decide) (by decide +kernel) (by decide +kernel) (by decide) wf_61 wf_244 wf_63 wf_64 wf_15
theorem ab_s63_46 : ab_Sn B 63 46 (ab_o_ist 2 47) := ab_s_istore_n (k := 2) (n := 2) ab_dk63_0.2.2.2.2.2.2.2.2.2.2.2.2.1 rfl
theorem ab_s63_47 : ab_Sn B 63 47 (ab_o_ald 0 48) := ab_s_aload_n (k := 0) (n := 0) ab_dk63_0.2.2.2.2.2.2.2.2.2.2.2.2.2.1 rfl
theorem ab_s63_48 : ab_Sn B 63 48 (ab_o_getr 6 13 0 51) := ab_s_getr (i := 10) (ci := 2) (N := 13) (k := 0) (C := RX2) (T := TX2) ab_dk63_0.2.2.2.2.2.2.2.2.2.2.2.2.2.2.1 rfl (by decide) rfl wf_168
theorem ab_s63_51 : ab_Sn B 63 51 (ab_o_ild 1 52) := ab_s_iload_n (k := 1) (n := 1) ab_dk63_0.2.2.2.2.2.2.2.2.2.2.2.2.2.2.2.1 rfl
theorem ab_s63_52 : ab_Sn B 63 52 (ab_o_call (some (4, 7)) [] 6 2 2 true 55) := ab_s_callV (M' := 6) (na := 1) (i := 90) (ci := 0) (N := 7) (C := RX0) (T := TX0) (v := true) (ab_hok_n (by decide +kernel)) (by decide +kernel) ab_dk63_1.1 rfl (by decide) (by decide +kernel) (by decide +kernel) (by decide) wf_21 wf_216 wf_23 wf_24 wf_15
theorem ab_s63_55 : ab_Sn B 63 55 (ab_o_ist 3 56) := ab_s_istore_n (k := 3) (n := 3) ab_dk63_1.2.1 rfl
theorem ab_s63_56 : ab_Sn B 63 56 (ab_o_ald 0 57) := ab_s_aload_n (k := 0) (n := 0) ab_dk63_1.2.2.1 rfl
theorem ab_s63_57 : ab_Sn B 63 57 (ab_o_getr 6 13 0 60) := ab_s_getr (i := 10) (ci := 2) (N := 13) (k := 0) (C := RX2) (T := TX2) ab_dk63_1.2.2.2.1 rfl (by decide) rfl wf_168
theorem ab_s63_60 : ab_Sn B 63 60 (ab_o_ild 2 61) := ab_s_iload_n (k := 2) (n := 2) ab_dk63_1.2.2.2.2.1 rfl
theorem ab_s63_61 : ab_Sn B 63 61 (ab_o_ild 3 62) := ab_s_iload_n (k := 3) (n := 3) ab_dk63_1.2.2.2.2.2.1 rfl
theorem ab_s63_62 : ab_Sn B 63 62 (ab_o_call (some (4, 7)) [] 24 3 3 true 65) := ab_s_callV (M' := 24) (na := 2) (i := 122) (ci := 0) (N := 7) (C := RX0) (T := TX0) (v := true) (ab_hok_n (by decide +kernel)) (by decide +kernel) ab_dk63_1.2.2.2.2.2.2.1 rfl (by decide) (by decide +kernel) (by decide +kernel) (by decide) wf_73 wf_245 wf_75 wf_76 wf_15
theorem ab_s63_65 : ab_Sn B 63 65 (ab_o_ist 4 67) := ab_s_istore (k := 4) ab_dk63_1.2.2.2.2.2.2.2.1
theorem ab_s63_67 : ab_Sn B 63 67 (ab_o_ald 0 68) := ab_s_aload_n (k := 0) (n := 0) ab_dk63_1.2.2.2.2.2.2.2.2.1 rfl
theorem ab_s63_68 : ab_Sn B 63 68 (ab_o_getr 6 13 0 71) := ab_s_getr (i := 10) (ci := 2) (N := 13) (k := 0) (C := RX2) (T := TX2) ab_dk63_1.2.2.2.2.2.2.2.2.2.1 rfl (by decide) rfl wf_168
theorem ab_s63_71 : ab_Sn B 63 71 (ab_o_ild 2 72) := ab_s_iload_n (k := 2) (n := 2) ab_dk63_1.2.2.2.2.2.2.2.2.2.2.1 rfl
theorem ab_s63_72 : ab_Sn B 63 72 (ab_o_ild 3 73) := ab_s_iload_n (k := 3) (n := 3) ab_dk63_1.2.2.2.2.2.2.2.2.2.2.2.1 rfl
theorem ab_s63_73 : ab_Sn B 63 73 (ab_o_call (some (4, 7)) [] 15 4 3 true 76) := ab_s_callV (M' := 15) (na := 2) (i := 126) (ci := 0) (N := 7) (C := RX0) (T := TX0) (v := true) (ab_hok_n (by decide +kernel)) (by decide +kernel) ab_dk63_1.2.2.2.2.2.2.2.2.2.2.2.2.1 rfl (by decide) (by decide +kernel) (by decide +kernel) (by decide) wf_41 wf_246 wf_43 wf_44 wf_15
theorem ab_s63_76 : ab_Sn B 63 76 (ab_o_if ab_eq 96 79) := ab_s_if_eq (tg := 96) (off := 20) ab_dk63_1.2.2.2.2.2.2.2.2.2.2.2.2.2.1 (by decide)
theorem ab_s63_79 : ab_Sn B 63 79 (ab_o_ald 0 80) := ab_s_aload_n (k := 0) (n := 0) ab_dk63_1.2.2.2.2.2.2.2.2.2.2.2.2.2.2.1 rfl
theorem ab_s63_80 : ab_Sn B 63 80 (ab_o_dup 81) := ab_s_dup ab_dk63_1.2.2.2.2.2.2.2.2.2.2.2.2.2.2.2.1
theorem ab_s63_81 : ab_Sn B 63 81 (ab_o_geti 6 13 10 84) := ab_s_geti (i := 69) (ci := 2) (N := 13) (k := 10) (C := RX2) (T := TX2) ab_dk63_2.1 rfl (by decide) rfl wf_203
theorem ab_s63_84 : ab_Sn B 63 84 (ab_o_ald 0 85) := ab_s_aload_n (k := 0) (n := 0) ab_dk63_2.2.1 rfl
theorem ab_s63_85 : ab_Sn B 63 85 (ab_o_getr 6 13 0 88) := ab_s_getr (i := 10) (ci := 2) (N := 13) (k := 0) (C := RX2) (T := TX2) ab_dk63_2.2.2.1 rfl (by decide) rfl wf_168
theorem ab_s63_88 : ab_Sn B 63 88 (ab_o_ild 3 89) := ab_s_iload_n (k := 3) (n := 3) ab_dk63_2.2.2.2.1 rfl
theorem ab_s63_89 : ab_Sn B 63 89 (ab_o_call (some (4, 7)) [] 27 3 2 true 92) := ab_s_callV (M' := 27) (na := 1) (i := 102) (ci := 0) (N := 7) (C := RX0) (T := TX0) (v := true) (ab_hok_n (by decide +kernel)) (by decide +kernel) ab_dk63_2.2.2.2.2.1 rfl (by decide) (by decide +kernel) (by decide +kernel) (by decide) wf_223 wf_224 wf_225 wf_226 wf_15
theorem ab_s63_92 : ab_Sn B 63 92 (ab_o_bin (fun a b => a + b) 93) := ab_s_iadd ab_dk63_2.2.2.2.2.2.1
theorem ab_s63_93 : ab_Sn B 63 93 (ab_o_puti 6 13 10 false 96) := ab_s_puti (b := false) (ty := .int) (i := 69) (ci := 2) (N := 13) (k := 10) (C := RX2) (T := TX2) ab_dk63_2.2.2.2.2.2.2.1 rfl (by decide) rfl wf_203 rfl (by decide +kernel) (Or.inl ⟨rfl, rfl⟩)
theorem ab_s63_96 : ab_Sn B 63 96 (ab_o_ald 0 97) := ab_s_aload_n (k := 0) (n := 0) ab_dk63_2.2.2.2.2.2.2.2.1 rfl
theorem ab_s63_97 : ab_Sn B 63 97 (ab_o_dup 98) := ab_s_dup ab_dk63_2.2.2.2.2.2.2.2.2.1
theorem ab_s63_98 : ab_Sn B 63 98 (ab_o_geti 6 13 9 101) := ab_s_geti (i := 66) (ci := 2) (N := 13) (k := 9) (C := RX2) (T := TX2) ab_dk63_2.2.2.2.2.2.2.2.2.2.1 rfl (by decide) rfl wf_202
theorem ab_s63_101 : ab_Sn B 63 101 (ab_o_const 1 102) := ab_s_iconst (n := 1) ab_dk63_2.2.2.2.2.2.2.2.2.2.2.1 rfl
theorem ab_s63_102 : ab_Sn B 63 102 (ab_o_bin (fun a b => a + b) 103) := ab_s_iadd ab_dk63_2.2.2.2.2.2.2.2.2.2.2.2.1
theorem ab_s63_103 : ab_Sn B 63 103 (ab_o_puti 6 13 9 false 106) := ab_s_puti (b := false) (ty := .int) (i := 66) (ci := 2) (N := 13) (k := 9) (C := RX2) (T := TX2) ab_dk63_2.2.2.2.2.2.2.2.2.2.2.2.2.1 rfl (by decide) rfl wf_202 rfl (by decide +kernel) (Or.inl ⟨rfl, rfl⟩)
theorem ab_s63_106 : ab_Sn B 63 106 (ab_o_ild 4 108) := ab_s_iload (k := 4) ab_dk63_2.2.2.2.2.2.2.2.2.2.2.2.2.2.1
theorem ab_s63_108 : ab_Sn B 63 108 (ab_o_iret false) := ab_s_iret (b := false) (ty := .int) ab_dk63_2.2.2.2.2.2.2.2.2.2.2.2.2.2.2.1 rfl (Or.inl ⟨rfl, rfl⟩)
set_option maxRecDepth 20000 in
theorem ab_sn63 : ab_all B 63 0 (ab_c63) := ⟨ab_s63_0, ab_s63_1, trivial, trivial, ab_s63_4, ab_s63_5, trivial, trivial, ab_s63_8, trivial, trivial, ab_s63_11, trivial, trivial, trivial, trivial, trivial, trivial, trivial, trivial, trivial, ab_s63_21, ab_s63_22, trivial, trivial, ab_s63_25, trivial, trivial, ab_s63_28, trivial, trivial, trivial, trivial, trivial, trivial, trivial, trivial, trivial, ab_s63_38, ab_s63_39, trivial, trivial, ab_s63_42, ab_s63_43, trivial, trivial, ab_s63_46, ab_s63_47, ab_s63_48, trivial, trivial, ab_s63_51, ab_s63_52, trivial, trivial, ab_s63_55, ab_s63_56, ab_s63_57, trivial, trivial, ab_s63_60, ab_s63_61, ab_s63_62, trivial, trivial, ab_s63_65, trivial, ab_s63_67, ab_s63_68, trivial, trivial, ab_s63_71, ab_s63_72, ab_s63_73, trivial, trivial, ab_s63_76, trivial, trivial, ab_s63_79, ab_s63_80, ab_s63_81, trivial, trivial, ab_s63_84, ab_s63_85, trivial, trivial, ab_s63_88, ab_s63_89, trivial, trivial, ab_s63_92, ab_s63_93, trivial, trivial, ab_s63_96, ab_s63_97, ab_s63_98, trivial, trivial, ab_s63_101, ab_s63_102, ab_s63_103, trivial, trivial, ab_s63_106, trivial, ab_s63_108, trivial⟩
theorem ab_dk64_0 : ab_dp 64 [(0, .aload_n 0, 1), (1, .getfield 10, 3), (4, .iload_n 1, 1), (5, .invokevirtual 130, 3), (8, .ifCond .ne 13, 3), (21, .aload_n 0, 1), (22, .getfield 10, 3), (25, .iload_n 1, 1), (26, .invokevirtual 135, 3), (29, .ifCond .eq 13, 3), (42, .aload_n 0, 1), (43, .getfield 10, 3), (46, .iload_n 1, 1), (47, .invokevirtual 140, 3), (50, .aload_n 0, 1), (51, .getfield 10, 3)] := ab_da (by decide +kernel)
theorem ab_dk64_1 : ab_dp 64 [(54, .iconst (-1), 1), (55, .iconst (-1), 1), (56, .invokevirtual 143, 3), (59, .ireturn, 1)] := ab_da (by decide +kernel)
theorem ab_s64_0 : ab_Sn B 64 0 (ab_o_ald 0 1) := ab_s_aload_n (k := 0) (n := 0) ab_dk64_0.1 rfl
theorem ab_s64_1 : ab_Sn B 64 1 (ab_o_getr 6 13 0 4) := ab_s_getr (i := 10) (ci := 2) (N := 13) (k := 0) (C := RX2) (T := TX2) ab_dk64_0.2.1 rfl (by decide) rfl wf_168
theorem ab_s64_4 : ab_Sn B 64 4 (ab_o_ild 1 5) := ab_s_iload_n (k := 1) (n := 1) ab_dk64_0.2.2.1 rfl
theorem ab_s64_5 : ab_Sn B 64 5 (ab_o_call (some (4, 7)) [] 2 2 2 true 8) := ab_s_callV (M' := 2) (na := 1) (i := 130) (ci := 0) (N := 7) (C := RX0) (T := TX0) (v := true) (ab_hok_n (by decide +kernel)) (by decide +kernel) ab_dk64_0.2.2.2.1 rfl (by decide) (by decide +kernel) (by decide +kernel) (by decide) wf_57 wf_247 wf_59 wf_60 wf_15
theorem ab_s64_8 : ab_Sn B 64 8 (ab_o_if ab_ne 21 11) := ab_s_if_ne (tg := 21) (off := 13) ab_dk64_0.2.2.2.2.1 (by decide)
theorem ab_s64_11 : ab_Sn B 64 11 (ab_o_throw 2) := ab_s_throw (ik := 83) (is := 133) (ic := 87) (text := "no such disk") (Or.inr (Or.inl rfl)) (by decide +kernel) (by decide +kernel) (by decide +kernel) (by decide +kernel) (by decide +kernel) wf_210 wf_211 wf_248 wf_213 wf_214 (by decide +kernel)
theorem ab_s64_21 : ab_Sn B 64 21 (ab_o_ald 0 22) := ab_s_aload_n (k := 0) (n := 0) ab_dk64_0.2.2.2.2.2.1 rfl
theorem ab_s64_22 : ab_Sn B 64 22 (ab_o_getr 6 13 0 25) := ab_s_getr (i := 10) (ci := 2) (N := 13) (k := 0) (C := RX2) (T := TX2) ab_dk64_0.2.2.2.2.2.2.1 rfl (by decide) rfl wf_168
theorem ab_s64_25 : ab_Sn B 64 25 (ab_o_ild 1 26) := ab_s_iload_n (k := 1) (n := 1) ab_dk64_0.2.2.2.2.2.2.2.1 rfl
theorem ab_s64_26 : ab_Sn B 64 26 (ab_o_call (some (4, 7)) [] 13 2 2 true 29) := ab_s_callV (M' := 13) (na := 1) (i := 135) (ci := 0) (N := 7) (C := RX0) (T := TX0) (v := true) (ab_hok_n (by decide +kernel)) (by decide +kernel) ab_dk64_0.2.2.2.2.2.2.2.2.1 rfl (by decide) (by decide +kernel) (by decide +kernel) (by decide) wf_33 wf_249 wf_35 wf_36 wf_15
theorem ab_s64_29 : ab_Sn B 64 29 (ab_o_if ab_eq 42 32) := ab_s_if_eq (tg := 42) (off := 13) ab_dk64_0.2.2.2.2.2.2.2.2.2.1 (by decide)
theorem ab_s64_32 : ab_Sn B 64 32 (ab_o_throw 3) := ab_s_throw (ik := 97) (is := 138) (ic := 101) (text := "the disk has failed already") (Or.inr (Or.inr rfl)) (by decide +kernel) (by decide +kernel) (by decide +kernel) (by decide +kernel) (by decide +kernel) wf_218 wf_219 wf_250 wf_221 wf_222 (by decide +kernel)
theorem ab_s64_42 : ab_Sn B 64 42 (ab_o_ald 0 43) := ab_s_aload_n (k := 0) (n := 0) ab_dk64_0.2.2.2.2.2.2.2.2.2.2.1 rfl
theorem ab_s64_43 : ab_Sn B 64 43 (ab_o_getr 6 13 0 46) := ab_s_getr (i := 10) (ci := 2) (N := 13) (k := 0) (C := RX2) (T := TX2) ab_dk64_0.2.2.2.2.2.2.2.2.2.2.2.1 rfl (by decide) rfl wf_168
theorem ab_s64_46 : ab_Sn B 64 46 (ab_o_ild 1 47) := ab_s_iload_n (k := 1) (n := 1) ab_dk64_0.2.2.2.2.2.2.2.2.2.2.2.2.1 rfl
theorem ab_s64_47 : ab_Sn B 64 47 (ab_o_call (some (4, 7)) [] 28 2 2 false 50) := ab_s_callV (M' := 28) (na := 1) (i := 140) (ci := 0) (N := 7) (C := RX0) (T := TX0) (v := false) (ab_hok_n (by decide +kernel)) (by decide +kernel) ab_dk64_0.2.2.2.2.2.2.2.2.2.2.2.2.2.1 rfl (by decide) (by decide +kernel) (by decide +kernel) (by decide) wf_251 wf_252 wf_253 wf_254 wf_15
theorem ab_s64_50 : ab_Sn B 64 50 (ab_o_ald 0 51) := ab_s_aload_n (k := 0) (n := 0) ab_dk64_0.2.2.2.2.2.2.2.2.2.2.2.2.2.2.1 rfl
theorem ab_s64_51 : ab_Sn B 64 51 (ab_o_getr 6 13 0 54) := ab_s_getr (i := 10) (ci := 2) (N := 13) (k := 0) (C := RX2) (T := TX2) ab_dk64_0.2.2.2.2.2.2.2.2.2.2.2.2.2.2.2.1 rfl (by decide) rfl wf_168
theorem ab_s64_54 : ab_Sn B 64 54 (ab_o_const (-1) 55) := ab_s_iconst (n := (-1)) ab_dk64_1.1 rfl
theorem ab_s64_55 : ab_Sn B 64 55 (ab_o_const (-1) 56) := ab_s_iconst (n := (-1)) ab_dk64_1.2.1 rfl
theorem ab_s64_56 : ab_Sn B 64 56 (ab_o_call (some (4, 7)) [] 23 8 3 true 59) := ab_s_callV (M' := 23) (na := 2) (i := 143) (ci := 0) (N := 7) (C := RX0) (T := TX0) (v := true) (ab_hok_n (by decide +kernel)) (by decide +kernel) ab_dk64_1.2.2.1 rfl (by decide) (by decide +kernel) (by decide +kernel) (by decide) wf_255 wf_256 wf_257 wf_258 wf_15
theorem ab_s64_59 : ab_Sn B 64 59 (ab_o_iret false) := ab_s_iret (b := false) (ty := .int) ab_dk64_1.2.2.2.1 rfl (Or.inl ⟨rfl, rfl⟩)
set_option maxRecDepth 20000 in
theorem ab_sn64 : ab_all B 64 0 (ab_c64) := ⟨ab_s64_0, ab_s64_1, trivial, trivial, ab_s64_4, ab_s64_5, trivial, trivial, ab_s64_8, trivial, trivial, ab_s64_11, trivial, trivial, trivial, trivial, trivial, trivial, trivial, trivial, trivial, ab_s64_21, ab_s64_22, trivial, trivial, ab_s64_25, ab_s64_26, trivial, trivial, ab_s64_29, trivial, trivial, ab_s64_32, trivial, trivial, trivial, trivial, trivial, trivial, trivial, trivial, trivial, ab_s64_42, ab_s64_43, trivial, trivial, ab_s64_46, ab_s64_47, trivial, trivial, ab_s64_50, ab_s64_51, trivial, trivial, ab_s64_54, ab_s64_55, ab_s64_56, trivial, trivial, ab_s64_59, trivial⟩
theorem ab_dk65_0 : ab_dp 65 [(0, .aload_n 0, 1), (1, .getfield 10, 3), (4, .iload_n 1, 1), (5, .invokevirtual 130, 3), (8, .ifCond .ne 13, 3), (21, .aload_n 0, 1), (22, .getfield 10, 3), (25, .iload_n 1, 1), (26, .invokevirtual 146, 3), (29, .aload_n 0, 1), (30, .iconst 0, 1), (31, .putfield 57, 3), (34, .aload_n 0, 1), (35, .getfield 10, 3), (38, .iconst (-1), 1), (39, .iconst (-1), 1)] := ab_da (by decide +kernel)
theorem ab_dk65_1 : ab_dp 65 [(40, .invokevirtual 143, 3), (43, .ireturn, 1)] := ab_da (by decide +kernel)
theorem ab_s65_0 : ab_Sn B 65 0 (ab_o_ald 0 1) := ab_s_aload_n (k := 0) (n := 0) ab_dk65_0.1 rfl
theorem ab_s65_1 : ab_Sn B 65 1 (ab_o_getr 6 13 0 4) := ab_s_getr (i := 10) (ci := 2) (N := 13) (k := 0) (C := RX2) (T := TX2) ab_dk65_0.2.1 rfl (by decide) rfl wf_168
theorem ab_s65_4 : ab_Sn B 65 4 (ab_o_ild 1 5) := ab_s_iload_n (k := 1) (n := 1) ab_dk65_0.2.2.1 rfl
theorem ab_s65_5 : ab_Sn B 65 5 (ab_o_call (some (4, 7)) [] 2 2 2 true 8) := ab_s_callV (M' := 2) (na := 1) (i := 130) (ci := 0) (N := 7) (C := RX0) (T := TX0) (v := true) (ab_hok_n (by decide +kernel)) (by decide +kernel) ab_dk65_0.2.2.2.1 rfl (by decide) (by decide +kernel) (by decide +kernel) (by decide) wf_57 wf_247 wf_59 wf_60 wf_15
theorem ab_s65_8 : ab_Sn B 65 8 (ab_o_if ab_ne 21 11) := ab_s_if_ne (tg := 21) (off := 13) ab_dk65_0.2.2.2.2.1 (by decide)
theorem ab_s65_11 : ab_Sn B 65 11 (ab_o_throw 2) := ab_s_throw (ik := 83) (is := 133) (ic := 87) (text := "no such disk") (Or.inr (Or.inl rfl)) (by decide +kernel) (by decide +kernel) (by decide +kernel) (by decide +kernel) (by decide +kernel) wf_210 wf_211 wf_248 wf_213 wf_214 (by decide +kernel)
theorem ab_s65_21 : ab_Sn B 65 21 (ab_o_ald 0 22) := ab_s_aload_n (k := 0) (n := 0) ab_dk65_0.2.2.2.2.2.1 rfl
theorem ab_s65_22 : ab_Sn B 65 22 (ab_o_getr 6 13 0 25) := ab_s_getr (i := 10) (ci := 2) (N := 13) (k := 0) (C := RX2) (T := TX2) ab_dk65_0.2.2.2.2.2.2.1 rfl (by decide) rfl wf_168
theorem ab_s65_25 : ab_Sn B 65 25 (ab_o_ild 1 26) := ab_s_iload_n (k := 1) (n := 1) ab_dk65_0.2.2.2.2.2.2.2.1 rfl
theorem ab_s65_26 : ab_Sn B 65 26 (ab_o_call (some (4, 7)) [] 29 4 2 false 29) := ab_s_callV (M' := 29) (na := 1) (i := 146) (ci := 0) (N := 7) (C := RX0) (T := TX0) (v := false) (ab_hok_n (by decide +kernel)) (by decide +kernel) ab_dk65_0.2.2.2.2.2.2.2.2.1 rfl (by decide) (by decide +kernel) (by decide +kernel) (by decide) wf_259 wf_260 wf_261 wf_262 wf_15
theorem ab_s65_29 : ab_Sn B 65 29 (ab_o_ald 0 30) := ab_s_aload_n (k := 0) (n := 0) ab_dk65_0.2.2.2.2.2.2.2.2.2.1 rfl
theorem ab_s65_30 : ab_Sn B 65 30 (ab_o_const 0 31) := ab_s_iconst (n := 0) ab_dk65_0.2.2.2.2.2.2.2.2.2.2.1 rfl
theorem ab_s65_31 : ab_Sn B 65 31 (ab_o_puti 6 13 6 false 34) := ab_s_puti (b := false) (ty := .int) (i := 57) (ci := 2) (N := 13) (k := 6) (C := RX2) (T := TX2) ab_dk65_0.2.2.2.2.2.2.2.2.2.2.2.1 rfl (by decide) rfl wf_199 rfl (by decide +kernel) (Or.inl ⟨rfl, rfl⟩)
theorem ab_s65_34 : ab_Sn B 65 34 (ab_o_ald 0 35) := ab_s_aload_n (k := 0) (n := 0) ab_dk65_0.2.2.2.2.2.2.2.2.2.2.2.2.1 rfl
theorem ab_s65_35 : ab_Sn B 65 35 (ab_o_getr 6 13 0 38) := ab_s_getr (i := 10) (ci := 2) (N := 13) (k := 0) (C := RX2) (T := TX2) ab_dk65_0.2.2.2.2.2.2.2.2.2.2.2.2.2.1 rfl (by decide) rfl wf_168
theorem ab_s65_38 : ab_Sn B 65 38 (ab_o_const (-1) 39) := ab_s_iconst (n := (-1)) ab_dk65_0.2.2.2.2.2.2.2.2.2.2.2.2.2.2.1 rfl
theorem ab_s65_39 : ab_Sn B 65 39 (ab_o_const (-1) 40) := ab_s_iconst (n := (-1)) ab_dk65_0.2.2.2.2.2.2.2.2.2.2.2.2.2.2.2.1 rfl
theorem ab_s65_40 : ab_Sn B 65 40 (ab_o_call (some (4, 7)) [] 23 8 3 true 43) := ab_s_callV (M' := 23) (na := 2) (i := 143) (ci := 0) (N := 7) (C := RX0) (T := TX0) (v := true) (ab_hok_n (by decide +kernel)) (by decide +kernel) ab_dk65_1.1 rfl (by decide) (by decide +kernel) (by decide +kernel) (by decide) wf_255 wf_256 wf_257 wf_258 wf_15
theorem ab_s65_43 : ab_Sn B 65 43 (ab_o_iret false) := ab_s_iret (b := false) (ty := .int) ab_dk65_1.2.1 rfl (Or.inl ⟨rfl, rfl⟩)
set_option maxRecDepth 20000 in
theorem ab_sn65 : ab_all B 65 0 (ab_c65) := ⟨ab_s65_0, ab_s65_1, trivial, trivial, ab_s65_4, ab_s65_5, trivial, trivial, ab_s65_8, trivial, trivial, ab_s65_11, trivial, trivial, trivial, trivial, trivial, trivial, trivial, trivial, trivial, ab_s65_21, ab_s65_22, trivial, trivial, ab_s65_25, ab_s65_26, trivial, trivial, ab_s65_29, ab_s65_30, ab_s65_31, trivial, trivial, ab_s65_34, ab_s65_35, trivial, trivial, ab_s65_38, ab_s65_39, ab_s65_40, trivial, trivial, ab_s65_43, trivial⟩
theorem ab_dk66_0 : ab_dp 66 [(0, .aload_n 0, 1), (1, .getfield 10, 3), (4, .iload_n 1, 1), (5, .invokevirtual 130, 3), (8, .ifCond .eq 14, 3), (11, .aload_n 0, 1), (12, .getfield 10, 3), (15, .iload_n 2, 1), (16, .invokevirtual 149, 3), (19, .ifCond .ne 13, 3), (32, .iload_n 3, 1), (33, .iconst 1, 1), (34, .if_icmp .lt 10, 3), (37, .iload_n 3, 1), (38, .sipush 255, 3), (41, .if_icmp .le 13, 3)] := ab_da (by decide +kernel)
theorem ab_dk66_1 : ab_dp 66 [(54, .aload_n 0, 1), (55, .getfield 10, 3), (58, .iload_n 1, 1), (59, .invokevirtual 135, 3), (62, .ifCond .eq 13, 3), (75, .aload_n 0, 1), (76, .getfield 10, 3), (79, .iload_n 1, 1), (80, .iload_n 2, 1), (81, .iload_n 3, 1), (82, .invokevirtual 158, 3), (85, .aload_n 0, 1), (86, .getfield 10, 3), (89, .iload_n 1, 1), (90, .iload_n 2, 1), (91, .invokevirtual 162, 3)] := ab_da (by decide +kernel)
theorem ab_dk66_2 : ab_dp 66 [(94, .ireturn, 1)] := ab_da (by decide +kernel)
theorem ab_s66_0 : ab_Sn B 66 0 (ab_o_ald 0 1) := ab_s_aload_n (k := 0) (n := 0) ab_dk66_0.1 rfl
theorem ab_s66_1 : ab_Sn B 66 1 (ab_o_getr 6 13 0 4) := ab_s_getr (i := 10) (ci := 2) (N := 13) (k := 0) (C := RX2) (T := TX2) ab_dk66_0.2.1 rfl (by decide) rfl wf_168
theorem ab_s66_4 : ab_Sn B 66 4 (ab_o_ild 1 5) := ab_s_iload_n (k := 1) (n := 1) ab_dk66_0.2.2.1 rfl
theorem ab_s66_5 : ab_Sn B 66 5 (ab_o_call (some (4, 7)) [] 2 2 2 true 8) := ab_s_callV (M' := 2) (na := 1) (i := 130) (ci := 0) (N := 7) (C := RX0) (T := TX0) (v := true) (ab_hok_n (by decide +kernel)) (by decide +kernel) ab_dk66_0.2.2.2.1 rfl (by decide) (by decide +kernel) (by decide +kernel) (by decide) wf_57 wf_247 wf_59 wf_60 wf_15
theorem ab_s66_8 : ab_Sn B 66 8 (ab_o_if ab_eq 22 11) := ab_s_if_eq (tg := 22) (off := 14) ab_dk66_0.2.2.2.2.1 (by decide)
theorem ab_s66_11 : ab_Sn B 66 11 (ab_o_ald 0 12) := ab_s_aload_n (k := 0) (n := 0) ab_dk66_0.2.2.2.2.2.1 rfl
theorem ab_s66_12 : ab_Sn B 66 12 (ab_o_getr 6 13 0 15) := ab_s_getr (i := 10) (ci := 2) (N := 13) (k := 0) (C := RX2) (T := TX2) ab_dk66_0.2.2.2.2.2.2.1 rfl (by decide) rfl wf_168
theorem ab_s66_15 : ab_Sn B 66 15 (ab_o_ild 2 16) := ab_s_iload_n (k := 2) (n := 2) ab_dk66_0.2.2.2.2.2.2.2.1 rfl
theorem ab_s66_16 : ab_Sn B 66 16 (ab_o_call (some (4, 7)) [] 3 2 2 true 19) := ab_s_callV (M' := 3) (na := 1) (i := 149) (ci := 0) (N := 7) (C := RX0) (T := TX0) (v := true) (ab_hok_n (by decide +kernel)) (by decide +kernel) ab_dk66_0.2.2.2.2.2.2.2.2.1 rfl (by decide) (by decide +kernel) (by decide +kernel) (by decide) wf_263 wf_264 wf_265 wf_266 wf_15
theorem ab_s66_19 : ab_Sn B 66 19 (ab_o_if ab_ne 32 22) := ab_s_if_ne (tg := 32) (off := 13) ab_dk66_0.2.2.2.2.2.2.2.2.2.1 (by decide)
theorem ab_s66_22 : ab_Sn B 66 22 (ab_o_throw 2) := ab_s_throw (ik := 83) (is := 152) (ic := 87) (text := "no such disk, or stripe") (Or.inr (Or.inl rfl)) (by decide +kernel) (by decide +kernel) (by decide +kernel) (by decide +kernel) (by decide +kernel) wf_210 wf_211 wf_267 wf_213 wf_214 (by decide +kernel)
theorem ab_s66_32 : ab_Sn B 66 32 (ab_o_ild 3 33) := ab_s_iload_n (k := 3) (n := 3) ab_dk66_0.2.2.2.2.2.2.2.2.2.2.1 rfl
theorem ab_s66_33 : ab_Sn B 66 33 (ab_o_const 1 34) := ab_s_iconst (n := 1) ab_dk66_0.2.2.2.2.2.2.2.2.2.2.2.1 rfl
theorem ab_s66_34 : ab_Sn B 66 34 (ab_o_icmp ab_lt 44 37) := ab_s_icmp_lt (tg := 44) (off := 10) ab_dk66_0.2.2.2.2.2.2.2.2.2.2.2.2.1 (by decide)
theorem ab_s66_37 : ab_Sn B 66 37 (ab_o_ild 3 38) := ab_s_iload_n (k := 3) (n := 3) ab_dk66_0.2.2.2.2.2.2.2.2.2.2.2.2.2.1 rfl
theorem ab_s66_38 : ab_Sn B 66 38 (ab_o_const 255 41) := ab_s_sipush (n := 255) ab_dk66_0.2.2.2.2.2.2.2.2.2.2.2.2.2.2.1 (by decide)
theorem ab_s66_41 : ab_Sn B 66 41 (ab_o_icmp ab_le 54 44) := ab_s_icmp_le (tg := 54) (off := 13) ab_dk66_0.2.2.2.2.2.2.2.2.2.2.2.2.2.2.2.1 (by decide)
theorem ab_s66_44 : ab_Sn B 66 44 (ab_o_throw 1) := ab_s_throw (ik := 33) (is := 154) (ic := 37) (text := "bits must be 1 to 255") (Or.inl rfl) (by decide +kernel) (by decide +kernel) (by decide +kernel) (by decide +kernel) (by decide +kernel) wf_179 wf_180 wf_268 wf_182 wf_183 (by decide +kernel)
theorem ab_s66_54 : ab_Sn B 66 54 (ab_o_ald 0 55) := ab_s_aload_n (k := 0) (n := 0) ab_dk66_1.1 rfl
theorem ab_s66_55 : ab_Sn B 66 55 (ab_o_getr 6 13 0 58) := ab_s_getr (i := 10) (ci := 2) (N := 13) (k := 0) (C := RX2) (T := TX2) ab_dk66_1.2.1 rfl (by decide) rfl wf_168
theorem ab_s66_58 : ab_Sn B 66 58 (ab_o_ild 1 59) := ab_s_iload_n (k := 1) (n := 1) ab_dk66_1.2.2.1 rfl
theorem ab_s66_59 : ab_Sn B 66 59 (ab_o_call (some (4, 7)) [] 13 2 2 true 62) := ab_s_callV (M' := 13) (na := 1) (i := 135) (ci := 0) (N := 7) (C := RX0) (T := TX0) (v := true) (ab_hok_n (by decide +kernel)) (by decide +kernel) ab_dk66_1.2.2.2.1 rfl (by decide) (by decide +kernel) (by decide +kernel) (by decide) wf_33 wf_249 wf_35 wf_36 wf_15
theorem ab_s66_62 : ab_Sn B 66 62 (ab_o_if ab_eq 75 65) := ab_s_if_eq (tg := 75) (off := 13) ab_dk66_1.2.2.2.2.1 (by decide)
theorem ab_s66_65 : ab_Sn B 66 65 (ab_o_throw 3) := ab_s_throw (ik := 97) (is := 156) (ic := 101) (text := "the disk has failed") (Or.inr (Or.inr rfl)) (by decide +kernel) (by decide +kernel) (by decide +kernel) (by decide +kernel) (by decide +kernel) wf_218 wf_219 wf_269 wf_221 wf_222 (by decide +kernel)
theorem ab_s66_75 : ab_Sn B 66 75 (ab_o_ald 0 76) := ab_s_aload_n (k := 0) (n := 0) ab_dk66_1.2.2.2.2.2.1 rfl
theorem ab_s66_76 : ab_Sn B 66 76 (ab_o_getr 6 13 0 79) := ab_s_getr (i := 10) (ci := 2) (N := 13) (k := 0) (C := RX2) (T := TX2) ab_dk66_1.2.2.2.2.2.2.1 rfl (by decide) rfl wf_168
theorem ab_s66_79 : ab_Sn B 66 79 (ab_o_ild 1 80) := ab_s_iload_n (k := 1) (n := 1) ab_dk66_1.2.2.2.2.2.2.2.1 rfl
theorem ab_s66_80 : ab_Sn B 66 80 (ab_o_ild 2 81) := ab_s_iload_n (k := 2) (n := 2) ab_dk66_1.2.2.2.2.2.2.2.2.1 rfl
theorem ab_s66_81 : ab_Sn B 66 81 (ab_o_ild 3 82) := ab_s_iload_n (k := 3) (n := 3) ab_dk66_1.2.2.2.2.2.2.2.2.2.1 rfl
theorem ab_s66_82 : ab_Sn B 66 82 (ab_o_call (some (4, 7)) [] 30 5 4 false 85) := ab_s_callV (M' := 30) (na := 3) (i := 158) (ci := 0) (N := 7) (C := RX0) (T := TX0) (v := false) (ab_hok_n (by decide +kernel)) (by decide +kernel) ab_dk66_1.2.2.2.2.2.2.2.2.2.2.1 rfl (by decide) (by decide +kernel) (by decide +kernel) (by decide) wf_270 wf_271 wf_272 wf_273 wf_15
theorem ab_s66_85 : ab_Sn B 66 85 (ab_o_ald 0 86) := ab_s_aload_n (k := 0) (n := 0) ab_dk66_1.2.2.2.2.2.2.2.2.2.2.2.1 rfl
theorem ab_s66_86 : ab_Sn B 66 86 (ab_o_getr 6 13 0 89) := ab_s_getr (i := 10) (ci := 2) (N := 13) (k := 0) (C := RX2) (T := TX2) ab_dk66_1.2.2.2.2.2.2.2.2.2.2.2.2.1 rfl (by decide) rfl wf_168
theorem ab_s66_89 : ab_Sn B 66 89 (ab_o_ild 1 90) := ab_s_iload_n (k := 1) (n := 1) ab_dk66_1.2.2.2.2.2.2.2.2.2.2.2.2.2.1 rfl
theorem ab_s66_90 : ab_Sn B 66 90 (ab_o_ild 2 91) := ab_s_iload_n (k := 2) (n := 2) ab_dk66_1.2.2.2.2.2.2.2.2.2.2.2.2.2.2.1 rfl
theorem ab_s66_91 : ab_Sn B 66 91 (ab_o_call (some (4, 7)) [] 11 4 3 true 94) := ab_s_callV (M' := 11) (na := 2) (i := 162) (ci := 0) (N := 7) (C := RX0) (T := TX0) (v := true) (ab_hok_n (by decide +kernel)) (by decide +kernel) ab_dk66_1.2.2.2.2.2.2.2.2.2.2.2.2.2.2.2.1 rfl (by decide) (by decide +kernel) (by decide +kernel) (by decide) wf_49 wf_274 wf_51 wf_52 wf_15
theorem ab_s66_94 : ab_Sn B 66 94 (ab_o_iret false) := ab_s_iret (b := false) (ty := .int) ab_dk66_2.1 rfl (Or.inl ⟨rfl, rfl⟩)
set_option maxRecDepth 20000 in
theorem ab_sn66 : ab_all B 66 0 (ab_c66) := ⟨ab_s66_0, ab_s66_1, trivial, trivial, ab_s66_4, ab_s66_5, trivial, trivial, ab_s66_8, trivial, trivial, ab_s66_11, ab_s66_12, trivial, trivial, ab_s66_15, ab_s66_16, trivial, trivial, ab_s66_19, trivial, trivial, ab_s66_22, trivial, trivial, trivial, trivial, trivial, trivial, trivial, trivial, trivial, ab_s66_32, ab_s66_33, ab_s66_34, trivial, trivial, ab_s66_37, ab_s66_38, trivial, trivial, ab_s66_41, trivial, trivial, ab_s66_44, trivial, trivial, trivial, trivial, trivial, trivial, trivial, trivial, trivial, ab_s66_54, ab_s66_55, trivial, trivial, ab_s66_58, ab_s66_59, trivial, trivial, ab_s66_62, trivial, trivial, ab_s66_65, trivial, trivial, trivial, trivial, trivial, trivial, trivial, trivial, trivial, ab_s66_75, ab_s66_76, trivial, trivial, ab_s66_79, ab_s66_80, ab_s66_81, ab_s66_82, trivial, trivial, ab_s66_85, ab_s66_86, trivial, trivial, ab_s66_89, ab_s66_90, ab_s66_91, trivial, trivial, ab_s66_94, trivial⟩
theorem ab_dk67_0 : ab_dp 67 [(0, .aload_n 0, 1), (1, .iload_n 1, 1), (2, .invokevirtual 165, 3), (5, .aload_n 0, 1), (6, .aload_n 0, 1), (7, .getfield 57, 3), (10, .iload_n 1, 1), (11, .invokevirtual 168, 3), (14, .istore_n 2, 1), (15, .aload_n 0, 1), (16, .aload_n 0, 1), (17, .getfield 10, 3), (20, .aload_n 0, 1), (21, .getfield 57, 3), (24, .iload_n 1, 1), (25, .invokevirtual 171, 3)] := ab_da (by decide +kernel)
theorem ab_dk67_1 : ab_dp 67 [(28, .putfield 57, 3), (31, .iload_n 2, 1), (32, .ireturn, 1)] := ab_da (by decide +kernel)
theorem ab_s67_0 : ab_Sn B 67 0 (ab_o_ald 0 1) := ab_s_aload_n (k := 0) (n := 0) ab_dk67_0.1 rfl
theorem ab_s67_1 : ab_Sn B 67 1 (ab_o_ild 1 2) := ab_s_iload_n (k := 1) (n := 1) ab_dk67_0.2.1 rfl
theorem ab_s67_2 : ab_Sn B 67 2 (ab_o_call (some (6, 13)) [] 95 2 2 false 5) := ab_s_callV (M' := 95) (na := 1) (i := 165) (ci := 2) (N := 13) (C := RX2) (T := TX2) (v := false) (ab_hok_n (by decide +kernel)) (by decide +kernel) ab_dk67_0.2.2.1 rfl (by decide) (by decide +kernel) (by decide +kernel) (by decide) wf_275 wf_276 wf_277 wf_278 wf_197
theorem ab_s67_5 : ab_Sn B 67 5 (ab_o_ald 0 6) := ab_s_aload_n (k := 0) (n := 0) ab_dk67_0.2.2.2.1 rfl
theorem ab_s67_6 : ab_Sn B 67 6 (ab_o_ald 0 7) := ab_s_aload_n (k := 0) (n := 0) ab_dk67_0.2.2.2.2.1 rfl
theorem ab_s67_7 : ab_Sn B 67 7 (ab_o_geti 6 13 6 10) := ab_s_geti (i := 57) (ci := 2) (N := 13) (k := 6) (C := RX2) (T := TX2) ab_dk67_0.2.2.2.2.2.1 rfl (by decide) rfl wf_199
theorem ab_s67_10 : ab_Sn B 67 10 (ab_o_ild 1 11) := ab_s_iload_n (k := 1) (n := 1) ab_dk67_0.2.2.2.2.2.2.1 rfl
theorem ab_s67_11 : ab_Sn B 67 11 (ab_o_call (some (6, 13)) [] 96 5 3 true 14) := ab_s_callV (M' := 96) (na := 2) (i := 168) (ci := 2) (N := 13) (C := RX2) (T := TX2) (v := true) (ab_hok_n (by decide +kernel)) (by decide +kernel) ab_dk67_0.2.2.2.2.2.2.2.1 rfl (by decide) (by decide +kernel) (by decide +kernel) (by decide) wf_279 wf_280 wf_281 wf_282 wf_197
theorem ab_s67_14 : ab_Sn B 67 14 (ab_o_ist 2 15) := ab_s_istore_n (k := 2) (n := 2) ab_dk67_0.2.2.2.2.2.2.2.2.1 rfl
theorem ab_s67_15 : ab_Sn B 67 15 (ab_o_ald 0 16) := ab_s_aload_n (k := 0) (n := 0) ab_dk67_0.2.2.2.2.2.2.2.2.2.1 rfl
theorem ab_s67_16 : ab_Sn B 67 16 (ab_o_ald 0 17) := ab_s_aload_n (k := 0) (n := 0) ab_dk67_0.2.2.2.2.2.2.2.2.2.2.1 rfl
theorem ab_s67_17 : ab_Sn B 67 17 (ab_o_getr 6 13 0 20) := ab_s_getr (i := 10) (ci := 2) (N := 13) (k := 0) (C := RX2) (T := TX2) ab_dk67_0.2.2.2.2.2.2.2.2.2.2.2.1 rfl (by decide) rfl wf_168
theorem ab_s67_20 : ab_Sn B 67 20 (ab_o_ald 0 21) := ab_s_aload_n (k := 0) (n := 0) ab_dk67_0.2.2.2.2.2.2.2.2.2.2.2.2.1 rfl
theorem ab_s67_21 : ab_Sn B 67 21 (ab_o_geti 6 13 6 24) := ab_s_geti (i := 57) (ci := 2) (N := 13) (k := 6) (C := RX2) (T := TX2) ab_dk67_0.2.2.2.2.2.2.2.2.2.2.2.2.2.1 rfl (by decide) rfl wf_199
theorem ab_s67_24 : ab_Sn B 67 24 (ab_o_ild 1 25) := ab_s_iload_n (k := 1) (n := 1) ab_dk67_0.2.2.2.2.2.2.2.2.2.2.2.2.2.2.1 rfl
theorem ab_s67_25 : ab_Sn B 67 25 (ab_o_call (some (4, 7)) [] 10 3 3 true 28) := ab_s_callV (M' := 10) (na := 2) (i := 171) (ci := 0) (N := 7) (C := RX0) (T := TX0) (v := true) (ab_hok_n (by decide +kernel)) (by decide +kernel) ab_dk67_0.2.2.2.2.2.2.2.2.2.2.2.2.2.2.2.1 rfl (by decide) (by decide +kernel) (by decide +kernel) (by decide) wf_283 wf_284 wf_285 wf_286 wf_15
theorem ab_s67_28 : ab_Sn B 67 28 (ab_o_puti 6 13 6 false 31) := ab_s_puti (b := false) (ty := .int) (i := 57) (ci := 2) (N := 13) (k := 6) (C := RX2) (T := TX2) ab_dk67_1.1 rfl (by decide) rfl wf_199 rfl (by decide +kernel) (Or.inl ⟨rfl, rfl⟩)
theorem ab_s67_31 : ab_Sn B 67 31 (ab_o_ild 2 32) := ab_s_iload_n (k := 2) (n := 2) ab_dk67_1.2.1 rfl
theorem ab_s67_32 : ab_Sn B 67 32 (ab_o_iret false) := ab_s_iret (b := false) (ty := .int) ab_dk67_1.2.2.1 rfl (Or.inl ⟨rfl, rfl⟩)
set_option maxRecDepth 20000 in
theorem ab_sn67 : ab_all B 67 0 (ab_c67) := ⟨ab_s67_0, ab_s67_1, ab_s67_2, trivial, trivial, ab_s67_5, ab_s67_6, ab_s67_7, trivial, trivial, ab_s67_10, ab_s67_11, trivial, trivial, ab_s67_14, ab_s67_15, ab_s67_16, ab_s67_17, trivial, trivial, ab_s67_20, ab_s67_21, trivial, trivial, ab_s67_24, ab_s67_25, trivial, trivial, ab_s67_28, trivial, trivial, ab_s67_31, ab_s67_32, trivial⟩
theorem ab_dk68_0 : ab_dp 68 [(0, .aload_n 0, 1), (1, .iload_n 1, 1), (2, .invokevirtual 165, 3), (5, .aload_n 0, 1), (6, .aload_n 0, 1), (7, .getfield 60, 3), (10, .iload_n 1, 1), (11, .invokevirtual 168, 3), (14, .istore_n 2, 1), (15, .aload_n 0, 1), (16, .aload_n 0, 1), (17, .getfield 10, 3), (20, .aload_n 0, 1), (21, .getfield 60, 3), (24, .iload_n 1, 1), (25, .invokevirtual 171, 3)] := ab_da (by decide +kernel)
theorem ab_dk68_1 : ab_dp 68 [(28, .putfield 60, 3), (31, .iload_n 2, 1), (32, .ireturn, 1)] := ab_da (by decide +kernel)
theorem ab_s68_0 : ab_Sn B 68 0 (ab_o_ald 0 1) := ab_s_aload_n (k := 0) (n := 0) ab_dk68_0.1 rfl
theorem ab_s68_1 : ab_Sn B 68 1 (ab_o_ild 1 2) := ab_s_iload_n (k := 1) (n := 1) ab_dk68_0.2.1 rfl
theorem ab_s68_2 : ab_Sn B 68 2 (ab_o_call (some (6, 13)) [] 95 2 2 false 5) := ab_s_callV (M' := 95) (na := 1) (i := 165) (ci := 2) (N := 13) (C := RX2) (T := TX2) (v := false) (ab_hok_n (by decide +kernel)) (by decide +kernel) ab_dk68_0.2.2.1 rfl (by decide) (by decide +kernel) (by decide +kernel) (by decide) wf_275 wf_276 wf_277 wf_278 wf_197
theorem ab_s68_5 : ab_Sn B 68 5 (ab_o_ald 0 6) := ab_s_aload_n (k := 0) (n := 0) ab_dk68_0.2.2.2.1 rfl
theorem ab_s68_6 : ab_Sn B 68 6 (ab_o_ald 0 7) := ab_s_aload_n (k := 0) (n := 0) ab_dk68_0.2.2.2.2.1 rfl
theorem ab_s68_7 : ab_Sn B 68 7 (ab_o_geti 6 13 7 10) := ab_s_geti (i := 60) (ci := 2) (N := 13) (k := 7) (C := RX2) (T := TX2) ab_dk68_0.2.2.2.2.2.1 rfl (by decide) rfl wf_200
theorem ab_s68_10 : ab_Sn B 68 10 (ab_o_ild 1 11) := ab_s_iload_n (k := 1) (n := 1) ab_dk68_0.2.2.2.2.2.2.1 rfl
theorem ab_s68_11 : ab_Sn B 68 11 (ab_o_call (some (6, 13)) [] 96 5 3 true 14) := ab_s_callV (M' := 96) (na := 2) (i := 168) (ci := 2) (N := 13) (C := RX2) (T := TX2) (v := true) (ab_hok_n (by decide +kernel)) (by decide +kernel) ab_dk68_0.2.2.2.2.2.2.2.1 rfl (by decide) (by decide +kernel) (by decide +kernel) (by decide) wf_279 wf_280 wf_281 wf_282 wf_197
theorem ab_s68_14 : ab_Sn B 68 14 (ab_o_ist 2 15) := ab_s_istore_n (k := 2) (n := 2) ab_dk68_0.2.2.2.2.2.2.2.2.1 rfl
theorem ab_s68_15 : ab_Sn B 68 15 (ab_o_ald 0 16) := ab_s_aload_n (k := 0) (n := 0) ab_dk68_0.2.2.2.2.2.2.2.2.2.1 rfl
theorem ab_s68_16 : ab_Sn B 68 16 (ab_o_ald 0 17) := ab_s_aload_n (k := 0) (n := 0) ab_dk68_0.2.2.2.2.2.2.2.2.2.2.1 rfl
theorem ab_s68_17 : ab_Sn B 68 17 (ab_o_getr 6 13 0 20) := ab_s_getr (i := 10) (ci := 2) (N := 13) (k := 0) (C := RX2) (T := TX2) ab_dk68_0.2.2.2.2.2.2.2.2.2.2.2.1 rfl (by decide) rfl wf_168
theorem ab_s68_20 : ab_Sn B 68 20 (ab_o_ald 0 21) := ab_s_aload_n (k := 0) (n := 0) ab_dk68_0.2.2.2.2.2.2.2.2.2.2.2.2.1 rfl
theorem ab_s68_21 : ab_Sn B 68 21 (ab_o_geti 6 13 7 24) := ab_s_geti (i := 60) (ci := 2) (N := 13) (k := 7) (C := RX2) (T := TX2) ab_dk68_0.2.2.2.2.2.2.2.2.2.2.2.2.2.1 rfl (by decide) rfl wf_200
theorem ab_s68_24 : ab_Sn B 68 24 (ab_o_ild 1 25) := ab_s_iload_n (k := 1) (n := 1) ab_dk68_0.2.2.2.2.2.2.2.2.2.2.2.2.2.2.1 rfl
theorem ab_s68_25 : ab_Sn B 68 25 (ab_o_call (some (4, 7)) [] 10 3 3 true 28) := ab_s_callV (M' := 10) (na := 2) (i := 171) (ci := 0) (N := 7) (C := RX0) (T := TX0) (v := true) (ab_hok_n (by decide +kernel)) (by decide +kernel) ab_dk68_0.2.2.2.2.2.2.2.2.2.2.2.2.2.2.2.1 rfl (by decide) (by decide +kernel) (by decide +kernel) (by decide) wf_283 wf_284 wf_285 wf_286 wf_15
theorem ab_s68_28 : ab_Sn B 68 28 (ab_o_puti 6 13 7 false 31) := ab_s_puti (b := false) (ty := .int) (i := 60) (ci := 2) (N := 13) (k := 7) (C := RX2) (T := TX2) ab_dk68_1.1 rfl (by decide) rfl wf_200 rfl (by decide +kernel) (Or.inl ⟨rfl, rfl⟩)
theorem ab_s68_31 : ab_Sn B 68 31 (ab_o_ild 2 32) := ab_s_iload_n (k := 2) (n := 2) ab_dk68_1.2.1 rfl
theorem ab_s68_32 : ab_Sn B 68 32 (ab_o_iret false) := ab_s_iret (b := false) (ty := .int) ab_dk68_1.2.2.1 rfl (Or.inl ⟨rfl, rfl⟩)
set_option maxRecDepth 20000 in
theorem ab_sn68 : ab_all B 68 0 (ab_c68) := ⟨ab_s68_0, ab_s68_1, ab_s68_2, trivial, trivial, ab_s68_5, ab_s68_6, ab_s68_7, trivial, trivial, ab_s68_10, ab_s68_11, trivial, trivial, ab_s68_14, ab_s68_15, ab_s68_16, ab_s68_17, trivial, trivial, ab_s68_20, ab_s68_21, trivial, trivial, ab_s68_24, ab_s68_25, trivial, trivial, ab_s68_28, trivial, trivial, ab_s68_31, ab_s68_32, trivial⟩
theorem ab_dk69_0 : ab_dp 69 [(0, .aload_n 0, 1), (1, .getfield 10, 3), (4, .iload_n 1, 1), (5, .invokevirtual 149, 3), (8, .ifCond .ne 13, 3), (21, .aload_n 0, 1), (22, .getfield 50, 3), (25, .ifCond .eq 15, 3), (28, .aload_n 0, 1), (29, .getfield 10, 3), (32, .iload_n 1, 1), (33, .invokevirtual 94, 3), (36, .iconst 2, 1), (37, .if_icmp .ge 13, 3), (50, .aload_n 0, 1), (51, .getfield 10, 3)] := ab_da (by decide +kernel)
theorem ab_dk69_1 : ab_dp 69 [(54, .iload_n 1, 1), (55, .invokevirtual 178, 3), (58, .ireturn, 1)] := ab_da (by decide +kernel)
theorem ab_s69_0 : ab_Sn B 69 0 (ab_o_ald 0 1) := ab_s_aload_n (k := 0) (n := 0) ab_dk69_0.1 rfl
theorem ab_s69_1 : ab_Sn B 69 1 (ab_o_getr 6 13 0 4) := ab_s_getr (i := 10) (ci := 2) (N := 13) (k := 0) (C := RX2) (T := TX2) ab_dk69_0.2.1 rfl (by decide) rfl wf_168
theorem ab_s69_4 : ab_Sn B 69 4 (ab_o_ild 1 5) := ab_s_iload_n (k := 1) (n := 1) ab_dk69_0.2.2.1 rfl
theorem ab_s69_5 : ab_Sn B 69 5 (ab_o_call (some (4, 7)) [] 3 2 2 true 8) := ab_s_callV (M' := 3) (na := 1) (i := 149) (ci := 0) (N := 7) (C := RX0) (T := TX0) (v := true) (ab_hok_n (by decide +kernel)) (by decide +kernel) ab_dk69_0.2.2.2.1 rfl (by decide) (by decide +kernel) (by decide +kernel) (by decide) wf_263 wf_264 wf_265 wf_266 wf_15
theorem ab_s69_8 : ab_Sn B 69 8 (ab_o_if ab_ne 21 11) := ab_s_if_ne (tg := 21) (off := 13) ab_dk69_0.2.2.2.2.1 (by decide)
theorem ab_s69_11 : ab_Sn B 69 11 (ab_o_throw 2) := ab_s_throw (ik := 83) (is := 174) (ic := 87) (text := "no such stripe") (Or.inr (Or.inl rfl)) (by decide +kernel) (by decide +kernel) (by decide +kernel) (by decide +kernel) (by decide +kernel) wf_210 wf_211 wf_287 wf_213 wf_214 (by decide +kernel)
theorem ab_s69_21 : ab_Sn B 69 21 (ab_o_ald 0 22) := ab_s_aload_n (k := 0) (n := 0) ab_dk69_0.2.2.2.2.2.1 rfl
theorem ab_s69_22 : ab_Sn B 69 22 (ab_o_geti 6 13 2 25) := ab_s_geti (i := 50) (ci := 2) (N := 13) (k := 2) (C := RX2) (T := TX2) ab_dk69_0.2.2.2.2.2.2.1 rfl (by decide) rfl wf_193
theorem ab_s69_25 : ab_Sn B 69 25 (ab_o_if ab_eq 40 28) := ab_s_if_eq (tg := 40) (off := 15) ab_dk69_0.2.2.2.2.2.2.2.1 (by decide)
theorem ab_s69_28 : ab_Sn B 69 28 (ab_o_ald 0 29) := ab_s_aload_n (k := 0) (n := 0) ab_dk69_0.2.2.2.2.2.2.2.2.1 rfl
theorem ab_s69_29 : ab_Sn B 69 29 (ab_o_getr 6 13 0 32) := ab_s_getr (i := 10) (ci := 2) (N := 13) (k := 0) (C := RX2) (T := TX2) ab_dk69_0.2.2.2.2.2.2.2.2.2.1 rfl (by decide) rfl wf_168
theorem ab_s69_32 : ab_Sn B 69 32 (ab_o_ild 1 33) := ab_s_iload_n (k := 1) (n := 1) ab_dk69_0.2.2.2.2.2.2.2.2.2.2.1 rfl
theorem ab_s69_33 : ab_Sn B 69 33 (ab_o_call (some (4, 7)) [] 17 4 2 true 36) := ab_s_callV (M' := 17) (na := 1) (i := 94) (ci := 0) (N := 7) (C := RX0) (T := TX0) (v := true) (ab_hok_n (by decide +kernel)) (by decide +kernel) ab_dk69_0.2.2.2.2.2.2.2.2.2.2.2.1 rfl (by decide) (by decide +kernel) (by decide +kernel) (by decide) wf_45 wf_217 wf_47 wf_48 wf_15
theorem ab_s69_36 : ab_Sn B 69 36 (ab_o_const 2 37) := ab_s_iconst (n := 2) ab_dk69_0.2.2.2.2.2.2.2.2.2.2.2.2.1 rfl
theorem ab_s69_37 : ab_Sn B 69 37 (ab_o_icmp ab_ge 50 40) := ab_s_icmp_ge (tg := 50) (off := 13) ab_dk69_0.2.2.2.2.2.2.2.2.2.2.2.2.2.1 (by decide)
theorem ab_s69_40 : ab_Sn B 69 40 (ab_o_throw 3) := ab_s_throw (ik := 97) (is := 176) (ic := 101) (text := "the power is off, or the stripe is not broken") (Or.inr (Or.inr rfl)) (by decide +kernel) (by decide +kernel) (by decide +kernel) (by decide +kernel) (by decide +kernel) wf_218 wf_219 wf_288 wf_221 wf_222 (by decide +kernel)
theorem ab_s69_50 : ab_Sn B 69 50 (ab_o_ald 0 51) := ab_s_aload_n (k := 0) (n := 0) ab_dk69_0.2.2.2.2.2.2.2.2.2.2.2.2.2.2.1 rfl
theorem ab_s69_51 : ab_Sn B 69 51 (ab_o_getr 6 13 0 54) := ab_s_getr (i := 10) (ci := 2) (N := 13) (k := 0) (C := RX2) (T := TX2) ab_dk69_0.2.2.2.2.2.2.2.2.2.2.2.2.2.2.2.1 rfl (by decide) rfl wf_168
theorem ab_s69_54 : ab_Sn B 69 54 (ab_o_ild 1 55) := ab_s_iload_n (k := 1) (n := 1) ab_dk69_1.1 rfl
theorem ab_s69_55 : ab_Sn B 69 55 (ab_o_call (some (4, 7)) [] 32 6 2 true 58) := ab_s_callV (M' := 32) (na := 1) (i := 178) (ci := 0) (N := 7) (C := RX0) (T := TX0) (v := true) (ab_hok_n (by decide +kernel)) (by decide +kernel) ab_dk69_1.2.1 rfl (by decide) (by decide +kernel) (by decide +kernel) (by decide) wf_289 wf_290 wf_291 wf_292 wf_15
theorem ab_s69_58 : ab_Sn B 69 58 (ab_o_iret false) := ab_s_iret (b := false) (ty := .int) ab_dk69_1.2.2.1 rfl (Or.inl ⟨rfl, rfl⟩)
set_option maxRecDepth 20000 in
theorem ab_sn69 : ab_all B 69 0 (ab_c69) := ⟨ab_s69_0, ab_s69_1, trivial, trivial, ab_s69_4, ab_s69_5, trivial, trivial, ab_s69_8, trivial, trivial, ab_s69_11, trivial, trivial, trivial, trivial, trivial, trivial, trivial, trivial, trivial, ab_s69_21, ab_s69_22, trivial, trivial, ab_s69_25, trivial, trivial, ab_s69_28, ab_s69_29, trivial, trivial, ab_s69_32, ab_s69_33, trivial, trivial, ab_s69_36, ab_s69_37, trivial, trivial, ab_s69_40, trivial, trivial, trivial, trivial, trivial, trivial, trivial, trivial, trivial, ab_s69_50, ab_s69_51, trivial, trivial, ab_s69_54, ab_s69_55, trivial, trivial, ab_s69_58, trivial⟩
theorem ab_dk70_0 : ab_dp 70 [(0, .iload_n 1, 1), (1, .ifCond .lt 8, 3), (4, .iload_n 1, 1), (5, .iconst 5, 1), (6, .if_icmp .lt 13, 3), (19, .iload_n 2, 1), (20, .iconst 1, 1), (21, .if_icmp .lt 32, 3), (24, .iload_n 2, 1), (25, .bipush 30, 2), (27, .if_icmp .gt 26, 3), (30, .iload_n 3, 1), (31, .iconst 1, 1), (32, .if_icmp .lt 21, 3), (35, .iload_n 3, 1), (36, .bipush 9, 2)] := ab_da (by decide +kernel)
theorem ab_dk70_1 : ab_dp 70 [(38, .if_icmp .gt 15, 3), (41, .iload 4, 2), (43, .ifCond .lt 10, 3), (46, .iload 4, 2), (48, .bipush 9, 2), (50, .if_icmp .le 13, 3), (63, .aload_n 0, 1), (64, .getfield 19, 3), (67, .iload_n 1, 1), (68, .invokevirtual 185, 3), (71, .istore 5, 2), (73, .aload_n 0, 1), (74, .getfield 19, 3), (77, .iload_n 1, 1), (78, .iload_n 2, 1), (79, .iload_n 3, 1)] := ab_da (by decide +kernel)
theorem ab_dk70_2 : ab_dp 70 [(80, .iload 4, 2), (82, .invokevirtual 188, 3), (85, .iload 5, 2), (87, .ireturn, 1)] := ab_da (by decide +kernel)
theorem ab_s70_0 : ab_Sn B 70 0 (ab_o_ild 1 1) := ab_s_iload_n (k := 1) (n := 1) ab_dk70_0.1 rfl
theorem ab_s70_1 : ab_Sn B 70 1 (ab_o_if ab_lt 9 4) := ab_s_if_lt (tg := 9) (off := 8) ab_dk70_0.2.1 (by decide)
theorem ab_s70_4 : ab_Sn B 70 4 (ab_o_ild 1 5) := ab_s_iload_n (k := 1) (n := 1) ab_dk70_0.2.2.1 rfl
theorem ab_s70_5 : ab_Sn B 70 5 (ab_o_const 5 6) := ab_s_iconst (n := 5) ab_dk70_0.2.2.2.1 rfl
theorem ab_s70_6 : ab_Sn B 70 6 (ab_o_icmp ab_lt 19 9) := ab_s_icmp_lt (tg := 19) (off := 13) ab_dk70_0.2.2.2.2.1 (by decide)
theorem ab_s70_9 : ab_Sn B 70 9 (ab_o_throw 2) := ab_s_throw (ik := 83) (is := 181) (ic := 87) (text := "disk must be 0 to 4") (Or.inr (Or.inl rfl)) (by decide +kernel) (by decide +kernel) (by decide +kernel) (by decide +kernel) (by decide +kernel) wf_210 wf_211 wf_293 wf_213 wf_214 (by decide +kernel)
theorem ab_s70_19 : ab_Sn B 70 19 (ab_o_ild 2 20) := ab_s_iload_n (k := 2) (n := 2) ab_dk70_0.2.2.2.2.2.1 rfl
theorem ab_s70_20 : ab_Sn B 70 20 (ab_o_const 1 21) := ab_s_iconst (n := 1) ab_dk70_0.2.2.2.2.2.2.1 rfl
theorem ab_s70_21 : ab_Sn B 70 21 (ab_o_icmp ab_lt 53 24) := ab_s_icmp_lt (tg := 53) (off := 32) ab_dk70_0.2.2.2.2.2.2.2.1 (by decide)
theorem ab_s70_24 : ab_Sn B 70 24 (ab_o_ild 2 25) := ab_s_iload_n (k := 2) (n := 2) ab_dk70_0.2.2.2.2.2.2.2.2.1 rfl
theorem ab_s70_25 : ab_Sn B 70 25 (ab_o_const 30 27) := ab_s_bipush (n := 30) ab_dk70_0.2.2.2.2.2.2.2.2.2.1 (by decide)
theorem ab_s70_27 : ab_Sn B 70 27 (ab_o_icmp ab_gt 53 30) := ab_s_icmp_gt (tg := 53) (off := 26) ab_dk70_0.2.2.2.2.2.2.2.2.2.2.1 (by decide)
theorem ab_s70_30 : ab_Sn B 70 30 (ab_o_ild 3 31) := ab_s_iload_n (k := 3) (n := 3) ab_dk70_0.2.2.2.2.2.2.2.2.2.2.2.1 rfl
theorem ab_s70_31 : ab_Sn B 70 31 (ab_o_const 1 32) := ab_s_iconst (n := 1) ab_dk70_0.2.2.2.2.2.2.2.2.2.2.2.2.1 rfl
theorem ab_s70_32 : ab_Sn B 70 32 (ab_o_icmp ab_lt 53 35) := ab_s_icmp_lt (tg := 53) (off := 21) ab_dk70_0.2.2.2.2.2.2.2.2.2.2.2.2.2.1 (by decide)
theorem ab_s70_35 : ab_Sn B 70 35 (ab_o_ild 3 36) := ab_s_iload_n (k := 3) (n := 3) ab_dk70_0.2.2.2.2.2.2.2.2.2.2.2.2.2.2.1 rfl
theorem ab_s70_36 : ab_Sn B 70 36 (ab_o_const 9 38) := ab_s_bipush (n := 9) ab_dk70_0.2.2.2.2.2.2.2.2.2.2.2.2.2.2.2.1 (by decide)
theorem ab_s70_38 : ab_Sn B 70 38 (ab_o_icmp ab_gt 53 41) := ab_s_icmp_gt (tg := 53) (off := 15) ab_dk70_1.1 (by decide)
theorem ab_s70_41 : ab_Sn B 70 41 (ab_o_ild 4 43) := ab_s_iload (k := 4) ab_dk70_1.2.1
theorem ab_s70_43 : ab_Sn B 70 43 (ab_o_if ab_lt 53 46) := ab_s_if_lt (tg := 53) (off := 10) ab_dk70_1.2.2.1 (by decide)
theorem ab_s70_46 : ab_Sn B 70 46 (ab_o_ild 4 48) := ab_s_iload (k := 4) ab_dk70_1.2.2.2.1
theorem ab_s70_48 : ab_Sn B 70 48 (ab_o_const 9 50) := ab_s_bipush (n := 9) ab_dk70_1.2.2.2.2.1 (by decide)
theorem ab_s70_50 : ab_Sn B 70 50 (ab_o_icmp ab_le 63 53) := ab_s_icmp_le (tg := 63) (off := 13) ab_dk70_1.2.2.2.2.2.1 (by decide)
theorem ab_s70_53 : ab_Sn B 70 53 (ab_o_throw 1) := ab_s_throw (ik := 33) (is := 183) (ic := 37) (text := "peak must be 1 to 30, spin 1 to 9, idle 0 to 9") (Or.inl rfl) (by decide +kernel) (by decide +kernel) (by decide +kernel) (by decide +kernel) (by decide +kernel) wf_179 wf_180 wf_294 wf_182 wf_183 (by decide +kernel)
theorem ab_s70_63 : ab_Sn B 70 63 (ab_o_ald 0 64) := ab_s_aload_n (k := 0) (n := 0) ab_dk70_1.2.2.2.2.2.2.1 rfl
theorem ab_s70_64 : ab_Sn B 70 64 (ab_o_getr 6 13 1 67) := ab_s_getr (i := 19) (ci := 2) (N := 13) (k := 1) (C := RX2) (T := TX2) ab_dk70_1.2.2.2.2.2.2.2.1 rfl (by decide) rfl wf_175
theorem ab_s70_67 : ab_Sn B 70 67 (ab_o_ild 1 68) := ab_s_iload_n (k := 1) (n := 1) ab_dk70_1.2.2.2.2.2.2.2.2.1 rfl
theorem ab_s70_68 : ab_Sn B 70 68 (ab_o_call (some (5, 15)) [] 40 2 2 true 71) := ab_s_callV (M' := 40) (na := 1) (i := 185) (ci := 1) (N := 15) (C := RX1) (T := TX1) (v := true) (ab_hok_n (by decide +kernel)) (by decide +kernel) ab_dk70_1.2.2.2.2.2.2.2.2.2.1 rfl (by decide) (by decide +kernel) (by decide +kernel) (by decide) wf_146 wf_295 wf_148 wf_149 wf_94
theorem ab_s70_71 : ab_Sn B 70 71 (ab_o_ist 5 73) := ab_s_istore (k := 5) ab_dk70_1.2.2.2.2.2.2.2.2.2.2.1
theorem ab_s70_73 : ab_Sn B 70 73 (ab_o_ald 0 74) := ab_s_aload_n (k := 0) (n := 0) ab_dk70_1.2.2.2.2.2.2.2.2.2.2.2.1 rfl
theorem ab_s70_74 : ab_Sn B 70 74 (ab_o_getr 6 13 1 77) := ab_s_getr (i := 19) (ci := 2) (N := 13) (k := 1) (C := RX2) (T := TX2) ab_dk70_1.2.2.2.2.2.2.2.2.2.2.2.2.1 rfl (by decide) rfl wf_175
theorem ab_s70_77 : ab_Sn B 70 77 (ab_o_ild 1 78) := ab_s_iload_n (k := 1) (n := 1) ab_dk70_1.2.2.2.2.2.2.2.2.2.2.2.2.2.1 rfl
theorem ab_s70_78 : ab_Sn B 70 78 (ab_o_ild 2 79) := ab_s_iload_n (k := 2) (n := 2) ab_dk70_1.2.2.2.2.2.2.2.2.2.2.2.2.2.2.1 rfl
theorem ab_s70_79 : ab_Sn B 70 79 (ab_o_ild 3 80) := ab_s_iload_n (k := 3) (n := 3) ab_dk70_1.2.2.2.2.2.2.2.2.2.2.2.2.2.2.2.1 rfl
theorem ab_s70_80 : ab_Sn B 70 80 (ab_o_ild 4 82) := ab_s_iload (k := 4) ab_dk70_2.1
theorem ab_s70_82 : ab_Sn B 70 82 (ab_o_call (some (5, 15)) [] 38 5 5 false 85) := ab_s_callV (M' := 38) (na := 4) (i := 188) (ci := 1) (N := 15) (C := RX1) (T := TX1) (v := false) (ab_hok_n (by decide +kernel)) (by decide +kernel) ab_dk70_2.2.1 rfl (by decide) (by decide +kernel) (by decide +kernel) (by decide) wf_296 wf_297 wf_298 wf_299 wf_94
theorem ab_s70_85 : ab_Sn B 70 85 (ab_o_ild 5 87) := ab_s_iload (k := 5) ab_dk70_2.2.2.1
theorem ab_s70_87 : ab_Sn B 70 87 (ab_o_iret false) := ab_s_iret (b := false) (ty := .int) ab_dk70_2.2.2.2.1 rfl (Or.inl ⟨rfl, rfl⟩)
set_option maxRecDepth 20000 in
theorem ab_sn70 : ab_all B 70 0 (ab_c70) := ⟨ab_s70_0, ab_s70_1, trivial, trivial, ab_s70_4, ab_s70_5, ab_s70_6, trivial, trivial, ab_s70_9, trivial, trivial, trivial, trivial, trivial, trivial, trivial, trivial, trivial, ab_s70_19, ab_s70_20, ab_s70_21, trivial, trivial, ab_s70_24, ab_s70_25, trivial, ab_s70_27, trivial, trivial, ab_s70_30, ab_s70_31, ab_s70_32, trivial, trivial, ab_s70_35, ab_s70_36, trivial, ab_s70_38, trivial, trivial, ab_s70_41, trivial, ab_s70_43, trivial, trivial, ab_s70_46, trivial, ab_s70_48, trivial, ab_s70_50, trivial, trivial, ab_s70_53, trivial, trivial, trivial, trivial, trivial, trivial, trivial, trivial, trivial, ab_s70_63, ab_s70_64, trivial, trivial, ab_s70_67, ab_s70_68, trivial, trivial, ab_s70_71, trivial, ab_s70_73, ab_s70_74, trivial, trivial, ab_s70_77, ab_s70_78, ab_s70_79, ab_s70_80, trivial, ab_s70_82, trivial, trivial, ab_s70_85, trivial, ab_s70_87, trivial⟩
theorem ab_dk71_0 : ab_dp 71 [(0, .iload_n 1, 1), (1, .iconst 1, 1), (2, .if_icmp .lt 19, 3), (5, .iload_n 1, 1), (6, .bipush 90, 2), (8, .if_icmp .gt 13, 3), (11, .iload_n 2, 1), (12, .ifCond .lt 9, 3), (15, .iload_n 2, 1), (16, .bipush 9, 2), (18, .if_icmp .le 13, 3), (31, .aload_n 0, 1), (32, .getfield 19, 3), (35, .getfield 194, 3), (38, .istore_n 3, 1), (39, .aload_n 0, 1)] := ab_da (by decide +kernel)
theorem ab_dk71_1 : ab_dp 71 [(40, .getfield 19, 3), (43, .iload_n 1, 1), (44, .iload_n 2, 1), (45, .invokevirtual 197, 3), (48, .iload_n 3, 1), (49, .ireturn, 1)] := ab_da (by decide +kernel)
theorem ab_s71_0 : ab_Sn B 71 0 (ab_o_ild 1 1) := ab_s_iload_n (k := 1) (n := 1) ab_dk71_0.1 rfl
theorem ab_s71_1 : ab_Sn B 71 1 (ab_o_const 1 2) := ab_s_iconst (n := 1) ab_dk71_0.2.1 rfl
theorem ab_s71_2 : ab_Sn B 71 2 (ab_o_icmp ab_lt 21 5) := ab_s_icmp_lt (tg := 21) (off := 19) ab_dk71_0.2.2.1 (by decide)
theorem ab_s71_5 : ab_Sn B 71 5 (ab_o_ild 1 6) := ab_s_iload_n (k := 1) (n := 1) ab_dk71_0.2.2.2.1 rfl
theorem ab_s71_6 : ab_Sn B 71 6 (ab_o_const 90 8) := ab_s_bipush (n := 90) ab_dk71_0.2.2.2.2.1 (by decide)
theorem ab_s71_8 : ab_Sn B 71 8 (ab_o_icmp ab_gt 21 11) := ab_s_icmp_gt (tg := 21) (off := 13) ab_dk71_0.2.2.2.2.2.1 (by decide)
theorem ab_s71_11 : ab_Sn B 71 11 (ab_o_ild 2 12) := ab_s_iload_n (k := 2) (n := 2) ab_dk71_0.2.2.2.2.2.2.1 rfl
theorem ab_s71_12 : ab_Sn B 71 12 (ab_o_if ab_lt 21 15) := ab_s_if_lt (tg := 21) (off := 9) ab_dk71_0.2.2.2.2.2.2.2.1 (by decide)
theorem ab_s71_15 : ab_Sn B 71 15 (ab_o_ild 2 16) := ab_s_iload_n (k := 2) (n := 2) ab_dk71_0.2.2.2.2.2.2.2.2.1 rfl
theorem ab_s71_16 : ab_Sn B 71 16 (ab_o_const 9 18) := ab_s_bipush (n := 9) ab_dk71_0.2.2.2.2.2.2.2.2.2.1 (by decide)
theorem ab_s71_18 : ab_Sn B 71 18 (ab_o_icmp ab_le 31 21) := ab_s_icmp_le (tg := 31) (off := 13) ab_dk71_0.2.2.2.2.2.2.2.2.2.2.1 (by decide)
theorem ab_s71_21 : ab_Sn B 71 21 (ab_o_throw 1) := ab_s_throw (ik := 33) (is := 192) (ic := 37) (text := "limit must be 1 to 90, patience 0 to 9") (Or.inl rfl) (by decide +kernel) (by decide +kernel) (by decide +kernel) (by decide +kernel) (by decide +kernel) wf_179 wf_180 wf_300 wf_182 wf_183 (by decide +kernel)
theorem ab_s71_31 : ab_Sn B 71 31 (ab_o_ald 0 32) := ab_s_aload_n (k := 0) (n := 0) ab_dk71_0.2.2.2.2.2.2.2.2.2.2.2.1 rfl
theorem ab_s71_32 : ab_Sn B 71 32 (ab_o_getr 6 13 1 35) := ab_s_getr (i := 19) (ci := 2) (N := 13) (k := 1) (C := RX2) (T := TX2) ab_dk71_0.2.2.2.2.2.2.2.2.2.2.2.2.1 rfl (by decide) rfl wf_175
theorem ab_s71_35 : ab_Sn B 71 35 (ab_o_geti 5 15 0 38) := ab_s_geti (i := 194) (ci := 1) (N := 15) (k := 0) (C := RX1) (T := TX1) ab_dk71_0.2.2.2.2.2.2.2.2.2.2.2.2.2.1 rfl (by decide) rfl wf_301
theorem ab_s71_38 : ab_Sn B 71 38 (ab_o_ist 3 39) := ab_s_istore_n (k := 3) (n := 3) ab_dk71_0.2.2.2.2.2.2.2.2.2.2.2.2.2.2.1 rfl
theorem ab_s71_39 : ab_Sn B 71 39 (ab_o_ald 0 40) := ab_s_aload_n (k := 0) (n := 0) ab_dk71_0.2.2.2.2.2.2.2.2.2.2.2.2.2.2.2.1 rfl
theorem ab_s71_40 : ab_Sn B 71 40 (ab_o_getr 6 13 1 43) := ab_s_getr (i := 19) (ci := 2) (N := 13) (k := 1) (C := RX2) (T := TX2) ab_dk71_1.1 rfl (by decide) rfl wf_175
theorem ab_s71_43 : ab_Sn B 71 43 (ab_o_ild 1 44) := ab_s_iload_n (k := 1) (n := 1) ab_dk71_1.2.1 rfl
theorem ab_s71_44 : ab_Sn B 71 44 (ab_o_ild 2 45) := ab_s_iload_n (k := 2) (n := 2) ab_dk71_1.2.2.1 rfl
theorem ab_s71_45 : ab_Sn B 71 45 (ab_o_call (some (5, 15)) [] 39 3 3 false 48) := ab_s_callV (M' := 39) (na := 2) (i := 197) (ci := 1) (N := 15) (C := RX1) (T := TX1) (v := false) (ab_hok_n (by decide +kernel)) (by decide +kernel) ab_dk71_1.2.2.2.1 rfl (by decide) (by decide +kernel) (by decide +kernel) (by decide) wf_302 wf_303 wf_304 wf_305 wf_94
theorem ab_s71_48 : ab_Sn B 71 48 (ab_o_ild 3 49) := ab_s_iload_n (k := 3) (n := 3) ab_dk71_1.2.2.2.2.1 rfl
theorem ab_s71_49 : ab_Sn B 71 49 (ab_o_iret false) := ab_s_iret (b := false) (ty := .int) ab_dk71_1.2.2.2.2.2.1 rfl (Or.inl ⟨rfl, rfl⟩)
set_option maxRecDepth 20000 in
theorem ab_sn71 : ab_all B 71 0 (ab_c71) := ⟨ab_s71_0, ab_s71_1, ab_s71_2, trivial, trivial, ab_s71_5, ab_s71_6, trivial, ab_s71_8, trivial, trivial, ab_s71_11, ab_s71_12, trivial, trivial, ab_s71_15, ab_s71_16, trivial, ab_s71_18, trivial, trivial, ab_s71_21, trivial, trivial, trivial, trivial, trivial, trivial, trivial, trivial, trivial, ab_s71_31, ab_s71_32, trivial, trivial, ab_s71_35, trivial, trivial, ab_s71_38, ab_s71_39, ab_s71_40, trivial, trivial, ab_s71_43, ab_s71_44, ab_s71_45, trivial, trivial, ab_s71_48, ab_s71_49, trivial⟩
theorem ab_dk72_0 : ab_dp 72 [(0, .aload_n 0, 1), (1, .getfield 10, 3), (4, .getfield 200, 3), (7, .ifCond .ne 13, 3), (20, .aload_n 0, 1), (21, .getfield 50, 3), (24, .istore_n 1, 1), (25, .iload_n 1, 1), (26, .ifCond .eq 7, 3), (29, .aload_n 0, 1), (30, .invokevirtual 114, 3), (33, .iload_n 1, 1), (34, .ireturn, 1)] := ab_da (by decide +kernel)
theorem ab_s72_0 : ab_Sn B 72 0 (ab_o_ald 0 1) := ab_s_aload_n (k := 0) (n := 0) ab_dk72_0.1 rfl
theorem ab_s72_1 : ab_Sn B 72 1 (ab_o_getr 6 13 0 4) := ab_s_getr (i := 10) (ci := 2) (N := 13) (k := 0) (C := RX2) (T := TX2) ab_dk72_0.2.1 rfl (by decide) rfl wf_168
theorem ab_s72_4 : ab_Sn B 72 4 (ab_o_geti 4 7 0 7) := ab_s_geti (i := 200) (ci := 0) (N := 7) (k := 0) (C := RX0) (T := TX0) ab_dk72_0.2.2.1 rfl (by decide) rfl wf_306
theorem ab_s72_7 : ab_Sn B 72 7 (ab_o_if ab_ne 20 10) := ab_s_if_ne (tg := 20) (off := 13) ab_dk72_0.2.2.2.1 (by decide)
theorem ab_s72_10 : ab_Sn B 72 10 (ab_o_throw 3) := ab_s_throw (ik := 97) (is := 203) (ic := 101) (text := "there is no shelf") (Or.inr (Or.inr rfl)) (by decide +kernel) (by decide +kernel) (by decide +kernel) (by decide +kernel) (by decide +kernel) wf_218 wf_219 wf_307 wf_221 wf_222 (by decide +kernel)
theorem ab_s72_20 : ab_Sn B 72 20 (ab_o_ald 0 21) := ab_s_aload_n (k := 0) (n := 0) ab_dk72_0.2.2.2.2.1 rfl
theorem ab_s72_21 : ab_Sn B 72 21 (ab_o_geti 6 13 2 24) := ab_s_geti (i := 50) (ci := 2) (N := 13) (k := 2) (C := RX2) (T := TX2) ab_dk72_0.2.2.2.2.2.1 rfl (by decide) rfl wf_193
theorem ab_s72_24 : ab_Sn B 72 24 (ab_o_ist 1 25) := ab_s_istore_n (k := 1) (n := 1) ab_dk72_0.2.2.2.2.2.2.1 rfl
theorem ab_s72_25 : ab_Sn B 72 25 (ab_o_ild 1 26) := ab_s_iload_n (k := 1) (n := 1) ab_dk72_0.2.2.2.2.2.2.2.1 rfl
theorem ab_s72_26 : ab_Sn B 72 26 (ab_o_if ab_eq 33 29) := ab_s_if_eq (tg := 33) (off := 7) ab_dk72_0.2.2.2.2.2.2.2.2.1 (by decide)
theorem ab_s72_29 : ab_Sn B 72 29 (ab_o_ald 0 30) := ab_s_aload_n (k := 0) (n := 0) ab_dk72_0.2.2.2.2.2.2.2.2.2.1 rfl
theorem ab_s72_30 : ab_Sn B 72 30 (ab_o_call (some (6, 13)) [] 93 1 1 false 33) := ab_s_callV (M' := 93) (na := 0) (i := 114) (ci := 2) (N := 13) (C := RX2) (T := TX2) (v := false) (ab_hok_n (by decide +kernel)) (by decide +kernel) ab_dk72_0.2.2.2.2.2.2.2.2.2.2.1 rfl (by decide) (by decide +kernel) (by decide +kernel) (by decide) wf_239 wf_240 wf_241 wf_242 wf_197
theorem ab_s72_33 : ab_Sn B 72 33 (ab_o_ild 1 34) := ab_s_iload_n (k := 1) (n := 1) ab_dk72_0.2.2.2.2.2.2.2.2.2.2.2.1 rfl
theorem ab_s72_34 : ab_Sn B 72 34 (ab_o_iret true) := ab_s_iret (b := true) (ty := .boolean) ab_dk72_0.2.2.2.2.2.2.2.2.2.2.2.2.1 rfl (Or.inr (Or.inl ⟨rfl, rfl⟩))
set_option maxRecDepth 20000 in
theorem ab_sn72 : ab_all B 72 0 (ab_c72) := ⟨ab_s72_0, ab_s72_1, trivial, trivial, ab_s72_4, trivial, trivial, ab_s72_7, trivial, trivial, ab_s72_10, trivial, trivial, trivial, trivial, trivial, trivial, trivial, trivial, trivial, ab_s72_20, ab_s72_21, trivial, trivial, ab_s72_24, ab_s72_25, ab_s72_26, trivial, trivial, ab_s72_29, ab_s72_30, trivial, trivial, ab_s72_33, ab_s72_34, trivial⟩
theorem ab_dk73_0 : ab_dp 73 [(0, .aload_n 0, 1), (1, .getfield 10, 3), (4, .getfield 200, 3), (7, .ifCond .eq 21, 3), (10, .aload_n 0, 1), (11, .getfield 50, 3), (14, .ifCond .ne 14, 3), (17, .aload_n 0, 1), (18, .getfield 19, 3), (21, .invokevirtual 205, 3), (24, .iconst (-1), 1), (25, .if_icmp .ne 13, 3), (38, .aload_n 0, 1), (39, .invokevirtual 210, 3), (42, .aload_n 0, 1), (43, .getfield 19, 3)] := ab_da (by decide +kernel)
theorem ab_dk73_1 : ab_dp 73 [(46, .invokevirtual 205, 3), (49, .ireturn, 1)] := ab_da (by decide +kernel)
theorem ab_s73_0 : ab_Sn B 73 0 (ab_o_ald 0 1) := ab_s_aload_n (k := 0) (n := 0) ab_dk73_0.1 rfl
theorem ab_s73_1 : ab_Sn B 73 1 (ab_o_getr 6 13 0 4) := ab_s_getr (i := 10) (ci := 2) (N := 13) (k := 0) (C := RX2) (T := TX2) ab_dk73_0.2.1 rfl (by decide) rfl wf_168
theorem ab_s73_4 : ab_Sn B 73 4 (ab_o_geti 4 7 0 7) := ab_s_geti (i := 200) (ci := 0) (N := 7) (k := 0) (C := RX0) (T := TX0) ab_dk73_0.2.2.1 rfl (by decide) rfl wf_306
theorem ab_s73_7 : ab_Sn B 73 7 (ab_o_if ab_eq 28 10) := ab_s_if_eq (tg := 28) (off := 21) ab_dk73_0.2.2.2.1 (by decide)
theorem ab_s73_10 : ab_Sn B 73 10 (ab_o_ald 0 11) := ab_s_aload_n (k := 0) (n := 0) ab_dk73_0.2.2.2.2.1 rfl
theorem ab_s73_11 : ab_Sn B 73 11 (ab_o_geti 6 13 2 14) := ab_s_geti (i := 50) (ci := 2) (N := 13) (k := 2) (C := RX2) (T := TX2) ab_dk73_0.2.2.2.2.2.1 rfl (by decide) rfl wf_193
theorem ab_s73_14 : ab_Sn B 73 14 (ab_o_if ab_ne 28 17) := ab_s_if_ne (tg := 28) (off := 14) ab_dk73_0.2.2.2.2.2.2.1 (by decide)
theorem ab_s73_17 : ab_Sn B 73 17 (ab_o_ald 0 18) := ab_s_aload_n (k := 0) (n := 0) ab_dk73_0.2.2.2.2.2.2.2.1 rfl
theorem ab_s73_18 : ab_Sn B 73 18 (ab_o_getr 6 13 1 21) := ab_s_getr (i := 19) (ci := 2) (N := 13) (k := 1) (C := RX2) (T := TX2) ab_dk73_0.2.2.2.2.2.2.2.2.1 rfl (by decide) rfl wf_175
theorem ab_s73_21 : ab_Sn B 73 21 (ab_o_call (some (5, 15)) [] 43 1 1 true 24) := ab_s_callV (M' := 43) (na := 0) (i := 205) (ci := 1) (N := 15) (C := RX1) (T := TX1) (v := true) (ab_hok_n (by decide +kernel)) (by decide +kernel) ab_dk73_0.2.2.2.2.2.2.2.2.2.1 rfl (by decide) (by decide +kernel) (by decide +kernel) (by decide) wf_308 wf_309 wf_310 wf_311 wf_94
theorem ab_s73_24 : ab_Sn B 73 24 (ab_o_const (-1) 25) := ab_s_iconst (n := (-1)) ab_dk73_0.2.2.2.2.2.2.2.2.2.2.1 rfl
theorem ab_s73_25 : ab_Sn B 73 25 (ab_o_icmp ab_ne 38 28) := ab_s_icmp_ne (tg := 38) (off := 13) ab_dk73_0.2.2.2.2.2.2.2.2.2.2.2.1 (by decide)
theorem ab_s73_28 : ab_Sn B 73 28 (ab_o_throw 3) := ab_s_throw (ik := 97) (is := 208) (ic := 101) (text := "there is no shelf, the power is on, or there is no plan") (Or.inr (Or.inr rfl)) (by decide +kernel) (by decide +kernel) (by decide +kernel) (by decide +kernel) (by decide +kernel) wf_218 wf_219 wf_312 wf_221 wf_222 (by decide +kernel)
theorem ab_s73_38 : ab_Sn B 73 38 (ab_o_ald 0 39) := ab_s_aload_n (k := 0) (n := 0) ab_dk73_0.2.2.2.2.2.2.2.2.2.2.2.2.1 rfl
theorem ab_s73_39 : ab_Sn B 73 39 (ab_o_call (some (6, 13)) [] 94 1 1 false 42) := ab_s_callV (M' := 94) (na := 0) (i := 210) (ci := 2) (N := 13) (C := RX2) (T := TX2) (v := false) (ab_hok_n (by decide +kernel)) (by decide +kernel) ab_dk73_0.2.2.2.2.2.2.2.2.2.2.2.2.2.1 rfl (by decide) (by decide +kernel) (by decide +kernel) (by decide) wf_313 wf_314 wf_315 wf_316 wf_197
theorem ab_s73_42 : ab_Sn B 73 42 (ab_o_ald 0 43) := ab_s_aload_n (k := 0) (n := 0) ab_dk73_0.2.2.2.2.2.2.2.2.2.2.2.2.2.2.1 rfl
theorem ab_s73_43 : ab_Sn B 73 43 (ab_o_getr 6 13 1 46) := ab_s_getr (i := 19) (ci := 2) (N := 13) (k := 1) (C := RX2) (T := TX2) ab_dk73_0.2.2.2.2.2.2.2.2.2.2.2.2.2.2.2.1 rfl (by decide) rfl wf_175
theorem ab_s73_46 : ab_Sn B 73 46 (ab_o_call (some (5, 15)) [] 43 1 1 true 49) := ab_s_callV (M' := 43) (na := 0) (i := 205) (ci := 1) (N := 15) (C := RX1) (T := TX1) (v := true) (ab_hok_n (by decide +kernel)) (by decide +kernel) ab_dk73_1.1 rfl (by decide) (by decide +kernel) (by decide +kernel) (by decide) wf_308 wf_309 wf_310 wf_311 wf_94
theorem ab_s73_49 : ab_Sn B 73 49 (ab_o_iret false) := ab_s_iret (b := false) (ty := .int) ab_dk73_1.2.1 rfl (Or.inl ⟨rfl, rfl⟩)
set_option maxRecDepth 20000 in
theorem ab_sn73 : ab_all B 73 0 (ab_c73) := ⟨ab_s73_0, ab_s73_1, trivial, trivial, ab_s73_4, trivial, trivial, ab_s73_7, trivial, trivial, ab_s73_10, ab_s73_11, trivial, trivial, ab_s73_14, trivial, trivial, ab_s73_17, ab_s73_18, trivial, trivial, ab_s73_21, trivial, trivial, ab_s73_24, ab_s73_25, trivial, trivial, ab_s73_28, trivial, trivial, trivial, trivial, trivial, trivial, trivial, trivial, trivial, ab_s73_38, ab_s73_39, trivial, trivial, ab_s73_42, ab_s73_43, trivial, trivial, ab_s73_46, trivial, trivial, ab_s73_49, trivial⟩
theorem ab_dk74_0 : ab_dp 74 [(0, .iload_n 1, 1), (1, .ifCond .lt 9, 3), (4, .iload_n 1, 1), (5, .bipush 20, 2), (7, .if_icmp .le 13, 3), (20, .aload_n 0, 1), (21, .getfield 10, 3), (24, .getfield 200, 3), (27, .ifCond .eq 10, 3), (30, .aload_n 0, 1), (31, .getfield 50, 3), (34, .ifCond .eq 13, 3), (47, .aload_n 0, 1), (48, .getfield 19, 3), (51, .iload_n 1, 1), (52, .invokevirtual 217, 3)] := ab_da (by decide +kernel)
theorem ab_dk74_1 : ab_dp 74 [(55, .istore_n 2, 1), (56, .iload_n 2, 1), (57, .iconst (-1), 1), (58, .if_icmp .eq 7, 3), (61, .aload_n 0, 1), (62, .invokevirtual 210, 3), (65, .iload_n 2, 1), (66, .ireturn, 1)] := ab_da (by decide +kernel)
theorem ab_s74_0 : ab_Sn B 74 0 (ab_o_ild 1 1) := ab_s_iload_n (k := 1) (n := 1) ab_dk74_0.1 rfl
theorem ab_s74_1 : ab_Sn B 74 1 (ab_o_if ab_lt 10 4) := ab_s_if_lt (tg := 10) (off := 9) ab_dk74_0.2.1 (by decide)
theorem ab_s74_4 : ab_Sn B 74 4 (ab_o_ild 1 5) := ab_s_iload_n (k := 1) (n := 1) ab_dk74_0.2.2.1 rfl
theorem ab_s74_5 : ab_Sn B 74 5 (ab_o_const 20 7) := ab_s_bipush (n := 20) ab_dk74_0.2.2.2.1 (by decide)
theorem ab_s74_7 : ab_Sn B 74 7 (ab_o_icmp ab_le 20 10) := ab_s_icmp_le (tg := 20) (off := 13) ab_dk74_0.2.2.2.2.1 (by decide)
theorem ab_s74_10 : ab_Sn B 74 10 (ab_o_throw 1) := ab_s_throw (ik := 33) (is := 213) (ic := 37) (text := "gap must be 0 to 20") (Or.inl rfl) (by decide +kernel) (by decide +kernel) (by decide +kernel) (by decide +kernel) (by decide +kernel) wf_179 wf_180 wf_317 wf_182 wf_183 (by decide +kernel)
theorem ab_s74_20 : ab_Sn B 74 20 (ab_o_ald 0 21) := ab_s_aload_n (k := 0) (n := 0) ab_dk74_0.2.2.2.2.2.1 rfl
theorem ab_s74_21 : ab_Sn B 74 21 (ab_o_getr 6 13 0 24) := ab_s_getr (i := 10) (ci := 2) (N := 13) (k := 0) (C := RX2) (T := TX2) ab_dk74_0.2.2.2.2.2.2.1 rfl (by decide) rfl wf_168
theorem ab_s74_24 : ab_Sn B 74 24 (ab_o_geti 4 7 0 27) := ab_s_geti (i := 200) (ci := 0) (N := 7) (k := 0) (C := RX0) (T := TX0) ab_dk74_0.2.2.2.2.2.2.2.1 rfl (by decide) rfl wf_306
theorem ab_s74_27 : ab_Sn B 74 27 (ab_o_if ab_eq 37 30) := ab_s_if_eq (tg := 37) (off := 10) ab_dk74_0.2.2.2.2.2.2.2.2.1 (by decide)
theorem ab_s74_30 : ab_Sn B 74 30 (ab_o_ald 0 31) := ab_s_aload_n (k := 0) (n := 0) ab_dk74_0.2.2.2.2.2.2.2.2.2.1 rfl
theorem ab_s74_31 : ab_Sn B 74 31 (ab_o_geti 6 13 2 34) := ab_s_geti (i := 50) (ci := 2) (N := 13) (k := 2) (C := RX2) (T := TX2) ab_dk74_0.2.2.2.2.2.2.2.2.2.2.1 rfl (by decide) rfl wf_193
theorem ab_s74_34 : ab_Sn B 74 34 (ab_o_if ab_eq 47 37) := ab_s_if_eq (tg := 47) (off := 13) ab_dk74_0.2.2.2.2.2.2.2.2.2.2.2.1 (by decide)
theorem ab_s74_37 : ab_Sn B 74 37 (ab_o_throw 3) := ab_s_throw (ik := 97) (is := 215) (ic := 101) (text := "there is no shelf, or the power is on") (Or.inr (Or.inr rfl)) (by decide +kernel) (by decide +kernel) (by decide +kernel) (by decide +kernel) (by decide +kernel) wf_218 wf_219 wf_318 wf_221 wf_222 (by decide +kernel)
theorem ab_s74_47 : ab_Sn B 74 47 (ab_o_ald 0 48) := ab_s_aload_n (k := 0) (n := 0) ab_dk74_0.2.2.2.2.2.2.2.2.2.2.2.2.1 rfl
theorem ab_s74_48 : ab_Sn B 74 48 (ab_o_getr 6 13 1 51) := ab_s_getr (i := 19) (ci := 2) (N := 13) (k := 1) (C := RX2) (T := TX2) ab_dk74_0.2.2.2.2.2.2.2.2.2.2.2.2.2.1 rfl (by decide) rfl wf_175
theorem ab_s74_51 : ab_Sn B 74 51 (ab_o_ild 1 52) := ab_s_iload_n (k := 1) (n := 1) ab_dk74_0.2.2.2.2.2.2.2.2.2.2.2.2.2.2.1 rfl
theorem ab_s74_52 : ab_Sn B 74 52 (ab_o_call (some (5, 15)) [] 48 5 2 true 55) := ab_s_callV (M' := 48) (na := 1) (i := 217) (ci := 1) (N := 15) (C := RX1) (T := TX1) (v := true) (ab_hok_n (by decide +kernel)) (by decide +kernel) ab_dk74_0.2.2.2.2.2.2.2.2.2.2.2.2.2.2.2.1 rfl (by decide) (by decide +kernel) (by decide +kernel) (by decide) wf_319 wf_320 wf_321 wf_322 wf_94
theorem ab_s74_55 : ab_Sn B 74 55 (ab_o_ist 2 56) := ab_s_istore_n (k := 2) (n := 2) ab_dk74_1.1 rfl
theorem ab_s74_56 : ab_Sn B 74 56 (ab_o_ild 2 57) := ab_s_iload_n (k := 2) (n := 2) ab_dk74_1.2.1 rfl
theorem ab_s74_57 : ab_Sn B 74 57 (ab_o_const (-1) 58) := ab_s_iconst (n := (-1)) ab_dk74_1.2.2.1 rfl
theorem ab_s74_58 : ab_Sn B 74 58 (ab_o_icmp ab_eq 65 61) := ab_s_icmp_eq (tg := 65) (off := 7) ab_dk74_1.2.2.2.1 (by decide)
theorem ab_s74_61 : ab_Sn B 74 61 (ab_o_ald 0 62) := ab_s_aload_n (k := 0) (n := 0) ab_dk74_1.2.2.2.2.1 rfl
theorem ab_s74_62 : ab_Sn B 74 62 (ab_o_call (some (6, 13)) [] 94 1 1 false 65) := ab_s_callV (M' := 94) (na := 0) (i := 210) (ci := 2) (N := 13) (C := RX2) (T := TX2) (v := false) (ab_hok_n (by decide +kernel)) (by decide +kernel) ab_dk74_1.2.2.2.2.2.1 rfl (by decide) (by decide +kernel) (by decide +kernel) (by decide) wf_313 wf_314 wf_315 wf_316 wf_197
theorem ab_s74_65 : ab_Sn B 74 65 (ab_o_ild 2 66) := ab_s_iload_n (k := 2) (n := 2) ab_dk74_1.2.2.2.2.2.2.1 rfl
theorem ab_s74_66 : ab_Sn B 74 66 (ab_o_iret false) := ab_s_iret (b := false) (ty := .int) ab_dk74_1.2.2.2.2.2.2.2.1 rfl (Or.inl ⟨rfl, rfl⟩)
set_option maxRecDepth 20000 in
theorem ab_sn74 : ab_all B 74 0 (ab_c74) := ⟨ab_s74_0, ab_s74_1, trivial, trivial, ab_s74_4, ab_s74_5, trivial, ab_s74_7, trivial, trivial, ab_s74_10, trivial, trivial, trivial, trivial, trivial, trivial, trivial, trivial, trivial, ab_s74_20, ab_s74_21, trivial, trivial, ab_s74_24, trivial, trivial, ab_s74_27, trivial, trivial, ab_s74_30, ab_s74_31, trivial, trivial, ab_s74_34, trivial, trivial, ab_s74_37, trivial, trivial, trivial, trivial, trivial, trivial, trivial, trivial, trivial, ab_s74_47, ab_s74_48, trivial, trivial, ab_s74_51, ab_s74_52, trivial, trivial, ab_s74_55, ab_s74_56, ab_s74_57, ab_s74_58, trivial, trivial, ab_s74_61, ab_s74_62, trivial, trivial, ab_s74_65, ab_s74_66, trivial⟩
theorem ab_dk75_0 : ab_dp 75 [(0, .aload_n 0, 1), (1, .getfield 10, 3), (4, .iload_n 1, 1), (5, .invokevirtual 130, 3), (8, .ifCond .eq 14, 3), (11, .aload_n 0, 1), (12, .getfield 10, 3), (15, .iload_n 2, 1), (16, .invokevirtual 149, 3), (19, .ifCond .ne 13, 3), (32, .iload_n 3, 1), (33, .tableswitch 93 0 4 #[35, 45, 55, 73, 83], 35), (68, .aload_n 0, 1), (69, .getfield 10, 3), (72, .iload_n 1, 1), (73, .iload_n 2, 1)] := ab_da (by decide +kernel)
theorem ab_dk75_1 : ab_dp 75 [(74, .invokevirtual 162, 3), (77, .ireturn, 1), (78, .aload_n 0, 1), (79, .getfield 10, 3), (82, .iload_n 1, 1), (83, .iload_n 2, 1), (84, .invokevirtual 220, 3), (87, .ireturn, 1), (88, .aload_n 0, 1), (89, .getfield 10, 3), (92, .iload_n 1, 1), (93, .iload_n 2, 1), (94, .invokevirtual 126, 3), (97, .ifCond .eq 7, 3), (100, .iconst 1, 1), (101, .goto 4, 3)] := ab_da (by decide +kernel)
theorem ab_dk75_2 : ab_dp 75 [(104, .iconst 0, 1), (105, .ireturn, 1), (106, .aload_n 0, 1), (107, .getfield 10, 3), (110, .iload_n 1, 1), (111, .iload_n 2, 1), (112, .invokevirtual 223, 3), (115, .ireturn, 1), (116, .aload_n 0, 1), (117, .getfield 10, 3), (120, .iload_n 1, 1), (121, .iload_n 2, 1), (122, .invokevirtual 122, 3), (125, .ireturn, 1)] := ab_da (by decide +kernel)
theorem ab_s75_0 : ab_Sn B 75 0 (ab_o_ald 0 1) := ab_s_aload_n (k := 0) (n := 0) ab_dk75_0.1 rfl
theorem ab_s75_1 : ab_Sn B 75 1 (ab_o_getr 6 13 0 4) := ab_s_getr (i := 10) (ci := 2) (N := 13) (k := 0) (C := RX2) (T := TX2) ab_dk75_0.2.1 rfl (by decide) rfl wf_168
theorem ab_s75_4 : ab_Sn B 75 4 (ab_o_ild 1 5) := ab_s_iload_n (k := 1) (n := 1) ab_dk75_0.2.2.1 rfl
theorem ab_s75_5 : ab_Sn B 75 5 (ab_o_call (some (4, 7)) [] 2 2 2 true 8) := ab_s_callV (M' := 2) (na := 1) (i := 130) (ci := 0) (N := 7) (C := RX0) (T := TX0) (v := true) (ab_hok_n (by decide +kernel)) (by decide +kernel) ab_dk75_0.2.2.2.1 rfl (by decide) (by decide +kernel) (by decide +kernel) (by decide) wf_57 wf_247 wf_59 wf_60 wf_15
theorem ab_s75_8 : ab_Sn B 75 8 (ab_o_if ab_eq 22 11) := ab_s_if_eq (tg := 22) (off := 14) ab_dk75_0.2.2.2.2.1 (by decide)
theorem ab_s75_11 : ab_Sn B 75 11 (ab_o_ald 0 12) := ab_s_aload_n (k := 0) (n := 0) ab_dk75_0.2.2.2.2.2.1 rfl
theorem ab_s75_12 : ab_Sn B 75 12 (ab_o_getr 6 13 0 15) := ab_s_getr (i := 10) (ci := 2) (N := 13) (k := 0) (C := RX2) (T := TX2) ab_dk75_0.2.2.2.2.2.2.1 rfl (by decide) rfl wf_168
theorem ab_s75_15 : ab_Sn B 75 15 (ab_o_ild 2 16) := ab_s_iload_n (k := 2) (n := 2) ab_dk75_0.2.2.2.2.2.2.2.1 rfl
theorem ab_s75_16 : ab_Sn B 75 16 (ab_o_call (some (4, 7)) [] 3 2 2 true 19) := ab_s_callV (M' := 3) (na := 1) (i := 149) (ci := 0) (N := 7) (C := RX0) (T := TX0) (v := true) (ab_hok_n (by decide +kernel)) (by decide +kernel) ab_dk75_0.2.2.2.2.2.2.2.2.1 rfl (by decide) (by decide +kernel) (by decide +kernel) (by decide) wf_263 wf_264 wf_265 wf_266 wf_15
theorem ab_s75_19 : ab_Sn B 75 19 (ab_o_if ab_ne 32 22) := ab_s_if_ne (tg := 32) (off := 13) ab_dk75_0.2.2.2.2.2.2.2.2.2.1 (by decide)
theorem ab_s75_22 : ab_Sn B 75 22 (ab_o_throw 2) := ab_s_throw (ik := 83) (is := 152) (ic := 87) (text := "no such disk, or stripe") (Or.inr (Or.inl rfl)) (by decide +kernel) (by decide +kernel) (by decide +kernel) (by decide +kernel) (by decide +kernel) wf_210 wf_211 wf_267 wf_213 wf_214 (by decide +kernel)
theorem ab_s75_32 : ab_Sn B 75 32 (ab_o_ild 3 33) := ab_s_iload_n (k := 3) (n := 3) ab_dk75_0.2.2.2.2.2.2.2.2.2.2.1 rfl
theorem ab_s75_33 : ab_Sn B 75 33 (ab_o_sw 0 [68, 78, 88, 106, 116] 126) := ab_s_sw (dflt := 93) (lo := 0) (hi := 4) (offs := #[35, 45, 55, 73, 83]) (len := 35) ab_dk75_0.2.2.2.2.2.2.2.2.2.2.2.1 (by decide) (by decide) (by intro i hi; match i, hi with | 0, _ => exact ⟨35, rfl, rfl⟩ | 1, _ => exact ⟨45, rfl, rfl⟩ | 2, _ => exact ⟨55, rfl, rfl⟩ | 3, _ => exact ⟨73, rfl, rfl⟩ | 4, _ => exact ⟨83, rfl, rfl⟩ | i + 5, hi => exact absurd hi (by simp))
theorem ab_s75_68 : ab_Sn B 75 68 (ab_o_ald 0 69) := ab_s_aload_n (k := 0) (n := 0) ab_dk75_0.2.2.2.2.2.2.2.2.2.2.2.2.1 rfl
theorem ab_s75_69 : ab_Sn B 75 69 (ab_o_getr 6 13 0 72) := ab_s_getr (i := 10) (ci := 2) (N := 13) (k := 0) (C := RX2) (T := TX2) ab_dk75_0.2.2.2.2.2.2.2.2.2.2.2.2.2.1 rfl (by decide) rfl wf_168
theorem ab_s75_72 : ab_Sn B 75 72 (ab_o_ild 1 73) := ab_s_iload_n (k := 1) (n := 1) ab_dk75_0.2.2.2.2.2.2.2.2.2.2.2.2.2.2.1 rfl
theorem ab_s75_73 : ab_Sn B 75 73 (ab_o_ild 2 74) := ab_s_iload_n (k := 2) (n := 2) ab_dk75_0.2.2.2.2.2.2.2.2.2.2.2.2.2.2.2.1 rfl
theorem ab_s75_74 : ab_Sn B 75 74 (ab_o_call (some (4, 7)) [] 11 4 3 true 77) := ab_s_callV (M' := 11) (na := 2) (i := 162) (ci := 0) (N := 7) (C := RX0) (T := TX0) (v := true) (ab_hok_n (by decide +kernel)) (by decide +kernel) ab_dk75_1.1 rfl (by decide) (by decide +kernel) (by decide +kernel) (by decide) wf_49 wf_274 wf_51 wf_52 wf_15
theorem ab_s75_77 : ab_Sn B 75 77 (ab_o_iret false) := ab_s_iret (b := false) (ty := .int) ab_dk75_1.2.1 rfl (Or.inl ⟨rfl, rfl⟩)
theorem ab_s75_78 : ab_Sn B 75 78 (ab_o_ald 0 79) := ab_s_aload_n (k := 0) (n := 0) ab_dk75_1.2.2.1 rfl
theorem ab_s75_79 : ab_Sn B 75 79 (ab_o_getr 6 13 0 82) := ab_s_getr (i := 10) (ci := 2) (N := 13) (k := 0) (C := RX2) (T := TX2) ab_dk75_1.2.2.2.1 rfl (by decide) rfl wf_168
theorem ab_s75_82 : ab_Sn B 75 82 (ab_o_ild 1 83) := ab_s_iload_n (k := 1) (n := 1) ab_dk75_1.2.2.2.2.1 rfl
theorem ab_s75_83 : ab_Sn B 75 83 (ab_o_ild 2 84) := ab_s_iload_n (k := 2) (n := 2) ab_dk75_1.2.2.2.2.2.1 rfl
theorem ab_s75_84 : ab_Sn B 75 84 (ab_o_call (some (4, 7)) [] 12 4 3 true 87) := ab_s_callV (M' := 12) (na := 2) (i := 220) (ci := 0) (N := 7) (C := RX0) (T := TX0) (v := true) (ab_hok_n (by decide +kernel)) (by decide +kernel) ab_dk75_1.2.2.2.2.2.2.1 rfl (by decide) (by decide +kernel) (by decide +kernel) (by decide) wf_323 wf_324 wf_325 wf_326 wf_15
theorem ab_s75_87 : ab_Sn B 75 87 (ab_o_iret false) := ab_s_iret (b := false) (ty := .int) ab_dk75_1.2.2.2.2.2.2.2.1 rfl (Or.inl ⟨rfl, rfl⟩)
theorem ab_s75_88 : ab_Sn B 75 88 (ab_o_ald 0 89) := ab_s_aload_n (k := 0) (n := 0) ab_dk75_1.2.2.2.2.2.2.2.2.1 rfl
theorem ab_s75_89 : ab_Sn B 75 89 (ab_o_getr 6 13 0 92) := ab_s_getr (i := 10) (ci := 2) (N := 13) (k := 0) (C := RX2) (T := TX2) ab_dk75_1.2.2.2.2.2.2.2.2.2.1 rfl (by decide) rfl wf_168
theorem ab_s75_92 : ab_Sn B 75 92 (ab_o_ild 1 93) := ab_s_iload_n (k := 1) (n := 1) ab_dk75_1.2.2.2.2.2.2.2.2.2.2.1 rfl
theorem ab_s75_93 : ab_Sn B 75 93 (ab_o_ild 2 94) := ab_s_iload_n (k := 2) (n := 2) ab_dk75_1.2.2.2.2.2.2.2.2.2.2.2.1 rfl
theorem ab_s75_94 : ab_Sn B 75 94 (ab_o_call (some (4, 7)) [] 15 4 3 true 97) := ab_s_callV (M' := 15) (na := 2) (i := 126) (ci := 0) (N := 7) (C := RX0) (T := TX0) (v := true) (ab_hok_n (by decide +kernel)) (by decide +kernel) ab_dk75_1.2.2.2.2.2.2.2.2.2.2.2.2.1 rfl (by decide) (by decide +kernel) (by decide +kernel) (by decide) wf_41 wf_246 wf_43 wf_44 wf_15
theorem ab_s75_97 : ab_Sn B 75 97 (ab_o_if ab_eq 104 100) := ab_s_if_eq (tg := 104) (off := 7) ab_dk75_1.2.2.2.2.2.2.2.2.2.2.2.2.2.1 (by decide)
theorem ab_s75_100 : ab_Sn B 75 100 (ab_o_const 1 101) := ab_s_iconst (n := 1) ab_dk75_1.2.2.2.2.2.2.2.2.2.2.2.2.2.2.1 rfl
theorem ab_s75_101 : ab_Sn B 75 101 (ab_o_goto 105) := ab_s_goto (tg := 105) (off := 4) ab_dk75_1.2.2.2.2.2.2.2.2.2.2.2.2.2.2.2.1 (by decide)
theorem ab_s75_104 : ab_Sn B 75 104 (ab_o_const 0 105) := ab_s_iconst (n := 0) ab_dk75_2.1 rfl
theorem ab_s75_105 : ab_Sn B 75 105 (ab_o_iret false) := ab_s_iret (b := false) (ty := .int) ab_dk75_2.2.1 rfl (Or.inl ⟨rfl, rfl⟩)
theorem ab_s75_106 : ab_Sn B 75 106 (ab_o_ald 0 107) := ab_s_aload_n (k := 0) (n := 0) ab_dk75_2.2.2.1 rfl
theorem ab_s75_107 : ab_Sn B 75 107 (ab_o_getr 6 13 0 110) := ab_s_getr (i := 10) (ci := 2) (N := 13) (k := 0) (C := RX2) (T := TX2) ab_dk75_2.2.2.2.1 rfl (by decide) rfl wf_168
theorem ab_s75_110 : ab_Sn B 75 110 (ab_o_ild 1 111) := ab_s_iload_n (k := 1) (n := 1) ab_dk75_2.2.2.2.2.1 rfl
theorem ab_s75_111 : ab_Sn B 75 111 (ab_o_ild 2 112) := ab_s_iload_n (k := 2) (n := 2) ab_dk75_2.2.2.2.2.2.1 rfl
theorem ab_s75_112 : ab_Sn B 75 112 (ab_o_call (some (4, 7)) [] 8 4 3 true 115) := ab_s_callV (M' := 8) (na := 2) (i := 223) (ci := 0) (N := 7) (C := RX0) (T := TX0) (v := true) (ab_hok_n (by decide +kernel)) (by decide +kernel) ab_dk75_2.2.2.2.2.2.2.1 rfl (by decide) (by decide +kernel) (by decide +kernel) (by decide) wf_65 wf_327 wf_67 wf_68 wf_15
theorem ab_s75_115 : ab_Sn B 75 115 (ab_o_iret false) := ab_s_iret (b := false) (ty := .int) ab_dk75_2.2.2.2.2.2.2.2.1 rfl (Or.inl ⟨rfl, rfl⟩)
theorem ab_s75_116 : ab_Sn B 75 116 (ab_o_ald 0 117) := ab_s_aload_n (k := 0) (n := 0) ab_dk75_2.2.2.2.2.2.2.2.2.1 rfl
theorem ab_s75_117 : ab_Sn B 75 117 (ab_o_getr 6 13 0 120) := ab_s_getr (i := 10) (ci := 2) (N := 13) (k := 0) (C := RX2) (T := TX2) ab_dk75_2.2.2.2.2.2.2.2.2.2.1 rfl (by decide) rfl wf_168
theorem ab_s75_120 : ab_Sn B 75 120 (ab_o_ild 1 121) := ab_s_iload_n (k := 1) (n := 1) ab_dk75_2.2.2.2.2.2.2.2.2.2.2.1 rfl
theorem ab_s75_121 : ab_Sn B 75 121 (ab_o_ild 2 122) := ab_s_iload_n (k := 2) (n := 2) ab_dk75_2.2.2.2.2.2.2.2.2.2.2.2.1 rfl
theorem ab_s75_122 : ab_Sn B 75 122 (ab_o_call (some (4, 7)) [] 24 3 3 true 125) := ab_s_callV (M' := 24) (na := 2) (i := 122) (ci := 0) (N := 7) (C := RX0) (T := TX0) (v := true) (ab_hok_n (by decide +kernel)) (by decide +kernel) ab_dk75_2.2.2.2.2.2.2.2.2.2.2.2.2.1 rfl (by decide) (by decide +kernel) (by decide +kernel) (by decide) wf_73 wf_245 wf_75 wf_76 wf_15
theorem ab_s75_125 : ab_Sn B 75 125 (ab_o_iret false) := ab_s_iret (b := false) (ty := .int) ab_dk75_2.2.2.2.2.2.2.2.2.2.2.2.2.2.1 rfl (Or.inl ⟨rfl, rfl⟩)
theorem ab_s75_126 : ab_Sn B 75 126 (ab_o_throw 1) := ab_s_throw (ik := 33) (is := 226) (ic := 37) (text := "what must be 0 to 4") (Or.inl rfl) (by decide +kernel) (by decide +kernel) (by decide +kernel) (by decide +kernel) (by decide +kernel) wf_179 wf_180 wf_328 wf_182 wf_183 (by decide +kernel)
set_option maxRecDepth 20000 in
theorem ab_sn75 : ab_all B 75 0 (ab_c75) := ⟨ab_s75_0, ab_s75_1, trivial, trivial, ab_s75_4, ab_s75_5, trivial, trivial, ab_s75_8, trivial, trivial, ab_s75_11, ab_s75_12, trivial, trivial, ab_s75_15, ab_s75_16, trivial, trivial, ab_s75_19, trivial, trivial, ab_s75_22, trivial, trivial, trivial, trivial, trivial, trivial, trivial, trivial, trivial, ab_s75_32, ab_s75_33, trivial, trivial, trivial, trivial, trivial, trivial, trivial, trivial, trivial, trivial, trivial, trivial, trivial, trivial, trivial, trivial, trivial, trivial, trivial, trivial, trivial, trivial, trivial, trivial, trivial, trivial, trivial, trivial, trivial, trivial, trivial, trivial, trivial, trivial, ab_s75_68, ab_s75_69, trivial, trivial, ab_s75_72, ab_s75_73, ab_s75_74, trivial, trivial, ab_s75_77, ab_s75_78, ab_s75_79, trivial, trivial, ab_s75_82, ab_s75_83, ab_s75_84, trivial, trivial, ab_s75_87, ab_s75_88, ab_s75_89, trivial, trivial, ab_s75_92, ab_s75_93, ab_s75_94, trivial, trivial, ab_s75_97, trivial, trivial, ab_s75_100, ab_s75_101, trivial, trivial, ab_s75_104, ab_s75_105, ab_s75_106, ab_s75_107, trivial, trivial, ab_s75_110, ab_s75_111, ab_s75_112, trivial, trivial, ab_s75_115, ab_s75_116, ab_s75_117, trivial, trivial, ab_s75_120, ab_s75_121, ab_s75_122, trivial, trivial, ab_s75_125, ab_s75_126, trivial⟩
theorem ab_dk76_0 : ab_dp 76 [(0, .aload_n 0, 1), (1, .getfield 10, 3), (4, .iload_n 1, 1), (5, .invokevirtual 130, 3), (8, .ifCond .ne 13, 3), (21, .iload_n 2, 1), (22, .tableswitch 126 0 7 #[46, 63, 72, 81, 90, 99, 108, 117], 46), (68, .aload_n 0, 1), (69, .getfield 10, 3), (72, .iload_n 1, 1), (73, .invokevirtual 135, 3), (76, .ifCond .eq 7, 3), (79, .iconst 1, 1), (80, .goto 4, 3), (83, .iconst 0, 1), (84, .ireturn, 1)] := ab_da (by decide +kernel)
theorem ab_dk76_1 : ab_dp 76 [(85, .aload_n 0, 1), (86, .getfield 10, 3), (89, .iload_n 1, 1), (90, .invokevirtual 228, 3), (93, .ireturn, 1), (94, .aload_n 0, 1), (95, .getfield 10, 3), (98, .iload_n 1, 1), (99, .invokevirtual 231, 3), (102, .ireturn, 1), (103, .aload_n 0, 1), (104, .getfield 19, 3), (107, .iload_n 1, 1), (108, .invokevirtual 185, 3), (111, .ireturn, 1), (112, .aload_n 0, 1)] := ab_da (by decide +kernel)
theorem ab_dk76_2 : ab_dp 76 [(113, .getfield 19, 3), (116, .iload_n 1, 1), (117, .invokevirtual 234, 3), (120, .ireturn, 1), (121, .aload_n 0, 1), (122, .getfield 19, 3), (125, .iload_n 1, 1), (126, .invokevirtual 237, 3), (129, .ireturn, 1), (130, .aload_n 0, 1), (131, .getfield 19, 3), (134, .iload_n 1, 1), (135, .invokevirtual 240, 3), (138, .ireturn, 1), (139, .aload_n 0, 1), (140, .getfield 19, 3)] := ab_da (by decide +kernel)
theorem ab_dk76_3 : ab_dp 76 [(143, .iload_n 1, 1), (144, .invokevirtual 243, 3), (147, .ireturn, 1)] := ab_da (by decide +kernel)
theorem ab_s76_0 : ab_Sn B 76 0 (ab_o_ald 0 1) := ab_s_aload_n (k := 0) (n := 0) ab_dk76_0.1 rfl
theorem ab_s76_1 : ab_Sn B 76 1 (ab_o_getr 6 13 0 4) := ab_s_getr (i := 10) (ci := 2) (N := 13) (k := 0) (C := RX2) (T := TX2) ab_dk76_0.2.1 rfl (by decide) rfl wf_168
theorem ab_s76_4 : ab_Sn B 76 4 (ab_o_ild 1 5) := ab_s_iload_n (k := 1) (n := 1) ab_dk76_0.2.2.1 rfl
theorem ab_s76_5 : ab_Sn B 76 5 (ab_o_call (some (4, 7)) [] 2 2 2 true 8) := ab_s_callV (M' := 2) (na := 1) (i := 130) (ci := 0) (N := 7) (C := RX0) (T := TX0) (v := true) (ab_hok_n (by decide +kernel)) (by decide +kernel) ab_dk76_0.2.2.2.1 rfl (by decide) (by decide +kernel) (by decide +kernel) (by decide) wf_57 wf_247 wf_59 wf_60 wf_15
theorem ab_s76_8 : ab_Sn B 76 8 (ab_o_if ab_ne 21 11) := ab_s_if_ne (tg := 21) (off := 13) ab_dk76_0.2.2.2.2.1 (by decide)
theorem ab_s76_11 : ab_Sn B 76 11 (ab_o_throw 2) := ab_s_throw (ik := 83) (is := 133) (ic := 87) (text := "no such disk") (Or.inr (Or.inl rfl)) (by decide +kernel) (by decide +kernel) (by decide +kernel) (by decide +kernel) (by decide +kernel) wf_210 wf_211 wf_248 wf_213 wf_214 (by decide +kernel)
theorem ab_s76_21 : ab_Sn B 76 21 (ab_o_ild 2 22) := ab_s_iload_n (k := 2) (n := 2) ab_dk76_0.2.2.2.2.2.1 rfl
theorem ab_s76_22 : ab_Sn B 76 22 (ab_o_sw 0 [68, 85, 94, 103, 112, 121, 130, 139] 148) := ab_s_sw (dflt := 126) (lo := 0) (hi := 7) (offs := #[46, 63, 72, 81, 90, 99, 108, 117]) (len := 46) ab_dk76_0.2.2.2.2.2.2.1 (by decide) (by decide) (by intro i hi; match i, hi with | 0, _ => exact ⟨46, rfl, rfl⟩ | 1, _ => exact ⟨63, rfl, rfl⟩ | 2, _ => exact ⟨72, rfl, rfl⟩ | 3, _ => exact ⟨81, rfl, rfl⟩ | 4, _ => exact ⟨90, rfl, rfl⟩ | 5, _ => exact ⟨99, rfl, rfl⟩ | 6, _ => exact ⟨108, rfl, rfl⟩ | 7, _ => exact ⟨117, rfl, rfl⟩ | i + 8, hi => exact absurd hi (by simp))
theorem ab_s76_68 : ab_Sn B 76 68 (ab_o_ald 0 69) := ab_s_aload_n (k := 0) (n := 0) ab_dk76_0.2.2.2.2.2.2.2.1 rfl
theorem ab_s76_69 : ab_Sn B 76 69 (ab_o_getr 6 13 0 72) := ab_s_getr (i := 10) (ci := 2) (N := 13) (k := 0) (C := RX2) (T := TX2) ab_dk76_0.2.2.2.2.2.2.2.2.1 rfl (by decide) rfl wf_168
theorem ab_s76_72 : ab_Sn B 76 72 (ab_o_ild 1 73) := ab_s_iload_n (k := 1) (n := 1) ab_dk76_0.2.2.2.2.2.2.2.2.2.1 rfl
theorem ab_s76_73 : ab_Sn B 76 73 (ab_o_call (some (4, 7)) [] 13 2 2 true 76) := ab_s_callV (M' := 13) (na := 1) (i := 135) (ci := 0) (N := 7) (C := RX0) (T := TX0) (v := true) (ab_hok_n (by decide +kernel)) (by decide +kernel) ab_dk76_0.2.2.2.2.2.2.2.2.2.2.1 rfl (by decide) (by decide +kernel) (by decide +kernel) (by decide) wf_33 wf_249 wf_35 wf_36 wf_15
theorem ab_s76_76 : ab_Sn B 76 76 (ab_o_if ab_eq 83 79) := ab_s_if_eq (tg := 83) (off := 7) ab_dk76_0.2.2.2.2.2.2.2.2.2.2.2.1 (by decide)
theorem ab_s76_79 : ab_Sn B 76 79 (ab_o_const 1 80) := ab_s_iconst (n := 1) ab_dk76_0.2.2.2.2.2.2.2.2.2.2.2.2.1 rfl
theorem ab_s76_80 : ab_Sn B 76 80 (ab_o_goto 84) := ab_s_goto (tg := 84) (off := 4) ab_dk76_0.2.2.2.2.2.2.2.2.2.2.2.2.2.1 (by decide)
theorem ab_s76_83 : ab_Sn B 76 83 (ab_o_const 0 84) := ab_s_iconst (n := 0) ab_dk76_0.2.2.2.2.2.2.2.2.2.2.2.2.2.2.1 rfl
theorem ab_s76_84 : ab_Sn B 76 84 (ab_o_iret false) := ab_s_iret (b := false) (ty := .int) ab_dk76_0.2.2.2.2.2.2.2.2.2.2.2.2.2.2.2.1 rfl (Or.inl ⟨rfl, rfl⟩)
theorem ab_s76_85 : ab_Sn B 76 85 (ab_o_ald 0 86) := ab_s_aload_n (k := 0) (n := 0) ab_dk76_1.1 rfl
theorem ab_s76_86 : ab_Sn B 76 86 (ab_o_getr 6 13 0 89) := ab_s_getr (i := 10) (ci := 2) (N := 13) (k := 0) (C := RX2) (T := TX2) ab_dk76_1.2.1 rfl (by decide) rfl wf_168
theorem ab_s76_89 : ab_Sn B 76 89 (ab_o_ild 1 90) := ab_s_iload_n (k := 1) (n := 1) ab_dk76_1.2.2.1 rfl
theorem ab_s76_90 : ab_Sn B 76 90 (ab_o_call (some (4, 7)) [] 18 4 2 true 93) := ab_s_callV (M' := 18) (na := 1) (i := 228) (ci := 0) (N := 7) (C := RX0) (T := TX0) (v := true) (ab_hok_n (by decide +kernel)) (by decide +kernel) ab_dk76_1.2.2.2.1 rfl (by decide) (by decide +kernel) (by decide +kernel) (by decide) wf_329 wf_330 wf_331 wf_332 wf_15
theorem ab_s76_93 : ab_Sn B 76 93 (ab_o_iret false) := ab_s_iret (b := false) (ty := .int) ab_dk76_1.2.2.2.2.1 rfl (Or.inl ⟨rfl, rfl⟩)
theorem ab_s76_94 : ab_Sn B 76 94 (ab_o_ald 0 95) := ab_s_aload_n (k := 0) (n := 0) ab_dk76_1.2.2.2.2.2.1 rfl
theorem ab_s76_95 : ab_Sn B 76 95 (ab_o_getr 6 13 0 98) := ab_s_getr (i := 10) (ci := 2) (N := 13) (k := 0) (C := RX2) (T := TX2) ab_dk76_1.2.2.2.2.2.2.1 rfl (by decide) rfl wf_168
theorem ab_s76_98 : ab_Sn B 76 98 (ab_o_ild 1 99) := ab_s_iload_n (k := 1) (n := 1) ab_dk76_1.2.2.2.2.2.2.2.1 rfl
theorem ab_s76_99 : ab_Sn B 76 99 (ab_o_call (some (4, 7)) [] 14 2 2 true 102) := ab_s_callV (M' := 14) (na := 1) (i := 231) (ci := 0) (N := 7) (C := RX0) (T := TX0) (v := true) (ab_hok_n (by decide +kernel)) (by decide +kernel) ab_dk76_1.2.2.2.2.2.2.2.2.1 rfl (by decide) (by decide +kernel) (by decide +kernel) (by decide) wf_333 wf_334 wf_335 wf_336 wf_15
theorem ab_s76_102 : ab_Sn B 76 102 (ab_o_iret false) := ab_s_iret (b := false) (ty := .int) ab_dk76_1.2.2.2.2.2.2.2.2.2.1 rfl (Or.inl ⟨rfl, rfl⟩)
theorem ab_s76_103 : ab_Sn B 76 103 (ab_o_ald 0 104) := ab_s_aload_n (k := 0) (n := 0) ab_dk76_1.2.2.2.2.2.2.2.2.2.2.1 rfl
theorem ab_s76_104 : ab_Sn B 76 104 (ab_o_getr 6 13 1 107) := ab_s_getr (i := 19) (ci := 2) (N := 13) (k := 1) (C := RX2) (T := TX2) ab_dk76_1.2.2.2.2.2.2.2.2.2.2.2.1 rfl (by decide) rfl wf_175
theorem ab_s76_107 : ab_Sn B 76 107 (ab_o_ild 1 108) := ab_s_iload_n (k := 1) (n := 1) ab_dk76_1.2.2.2.2.2.2.2.2.2.2.2.2.1 rfl
theorem ab_s76_108 : ab_Sn B 76 108 (ab_o_call (some (5, 15)) [] 40 2 2 true 111) := ab_s_callV (M' := 40) (na := 1) (i := 185) (ci := 1) (N := 15) (C := RX1) (T := TX1) (v := true) (ab_hok_n (by decide +kernel)) (by decide +kernel) ab_dk76_1.2.2.2.2.2.2.2.2.2.2.2.2.2.1 rfl (by decide) (by decide +kernel) (by decide +kernel) (by decide) wf_146 wf_295 wf_148 wf_149 wf_94
theorem ab_s76_111 : ab_Sn B 76 111 (ab_o_iret false) := ab_s_iret (b := false) (ty := .int) ab_dk76_1.2.2.2.2.2.2.2.2.2.2.2.2.2.2.1 rfl (Or.inl ⟨rfl, rfl⟩)
theorem ab_s76_112 : ab_Sn B 76 112 (ab_o_ald 0 113) := ab_s_aload_n (k := 0) (n := 0) ab_dk76_1.2.2.2.2.2.2.2.2.2.2.2.2.2.2.2.1 rfl
theorem ab_s76_113 : ab_Sn B 76 113 (ab_o_getr 6 13 1 116) := ab_s_getr (i := 19) (ci := 2) (N := 13) (k := 1) (C := RX2) (T := TX2) ab_dk76_2.1 rfl (by decide) rfl wf_175
theorem ab_s76_116 : ab_Sn B 76 116 (ab_o_ild 1 117) := ab_s_iload_n (k := 1) (n := 1) ab_dk76_2.2.1 rfl
theorem ab_s76_117 : ab_Sn B 76 117 (ab_o_call (some (5, 15)) [] 41 2 2 true 120) := ab_s_callV (M' := 41) (na := 1) (i := 234) (ci := 1) (N := 15) (C := RX1) (T := TX1) (v := true) (ab_hok_n (by decide +kernel)) (by decide +kernel) ab_dk76_2.2.2.1 rfl (by decide) (by decide +kernel) (by decide +kernel) (by decide) wf_133 wf_337 wf_135 wf_136 wf_94
theorem ab_s76_120 : ab_Sn B 76 120 (ab_o_iret false) := ab_s_iret (b := false) (ty := .int) ab_dk76_2.2.2.2.1 rfl (Or.inl ⟨rfl, rfl⟩)
theorem ab_s76_121 : ab_Sn B 76 121 (ab_o_ald 0 122) := ab_s_aload_n (k := 0) (n := 0) ab_dk76_2.2.2.2.2.1 rfl
theorem ab_s76_122 : ab_Sn B 76 122 (ab_o_getr 6 13 1 125) := ab_s_getr (i := 19) (ci := 2) (N := 13) (k := 1) (C := RX2) (T := TX2) ab_dk76_2.2.2.2.2.2.1 rfl (by decide) rfl wf_175
theorem ab_s76_125 : ab_Sn B 76 125 (ab_o_ild 1 126) := ab_s_iload_n (k := 1) (n := 1) ab_dk76_2.2.2.2.2.2.2.1 rfl
theorem ab_s76_126 : ab_Sn B 76 126 (ab_o_call (some (5, 15)) [] 42 2 2 true 129) := ab_s_callV (M' := 42) (na := 1) (i := 237) (ci := 1) (N := 15) (C := RX1) (T := TX1) (v := true) (ab_hok_n (by decide +kernel)) (by decide +kernel) ab_dk76_2.2.2.2.2.2.2.2.1 rfl (by decide) (by decide +kernel) (by decide +kernel) (by decide) wf_117 wf_338 wf_119 wf_120 wf_94
theorem ab_s76_129 : ab_Sn B 76 129 (ab_o_iret false) := ab_s_iret (b := false) (ty := .int) ab_dk76_2.2.2.2.2.2.2.2.2.1 rfl (Or.inl ⟨rfl, rfl⟩)
theorem ab_s76_130 : ab_Sn B 76 130 (ab_o_ald 0 131) := ab_s_aload_n (k := 0) (n := 0) ab_dk76_2.2.2.2.2.2.2.2.2.2.1 rfl
theorem ab_s76_131 : ab_Sn B 76 131 (ab_o_getr 6 13 1 134) := ab_s_getr (i := 19) (ci := 2) (N := 13) (k := 1) (C := RX2) (T := TX2) ab_dk76_2.2.2.2.2.2.2.2.2.2.2.1 rfl (by decide) rfl wf_175
theorem ab_s76_134 : ab_Sn B 76 134 (ab_o_ild 1 135) := ab_s_iload_n (k := 1) (n := 1) ab_dk76_2.2.2.2.2.2.2.2.2.2.2.2.1 rfl
theorem ab_s76_135 : ab_Sn B 76 135 (ab_o_call (some (5, 15)) [] 44 2 2 true 138) := ab_s_callV (M' := 44) (na := 1) (i := 240) (ci := 1) (N := 15) (C := RX1) (T := TX1) (v := true) (ab_hok_n (by decide +kernel)) (by decide +kernel) ab_dk76_2.2.2.2.2.2.2.2.2.2.2.2.2.1 rfl (by decide) (by decide +kernel) (by decide +kernel) (by decide) wf_339 wf_340 wf_341 wf_342 wf_94
theorem ab_s76_138 : ab_Sn B 76 138 (ab_o_iret false) := ab_s_iret (b := false) (ty := .int) ab_dk76_2.2.2.2.2.2.2.2.2.2.2.2.2.2.1 rfl (Or.inl ⟨rfl, rfl⟩)
theorem ab_s76_139 : ab_Sn B 76 139 (ab_o_ald 0 140) := ab_s_aload_n (k := 0) (n := 0) ab_dk76_2.2.2.2.2.2.2.2.2.2.2.2.2.2.2.1 rfl
theorem ab_s76_140 : ab_Sn B 76 140 (ab_o_getr 6 13 1 143) := ab_s_getr (i := 19) (ci := 2) (N := 13) (k := 1) (C := RX2) (T := TX2) ab_dk76_2.2.2.2.2.2.2.2.2.2.2.2.2.2.2.2.1 rfl (by decide) rfl wf_175
theorem ab_s76_143 : ab_Sn B 76 143 (ab_o_ild 1 144) := ab_s_iload_n (k := 1) (n := 1) ab_dk76_3.1 rfl
theorem ab_s76_144 : ab_Sn B 76 144 (ab_o_call (some (5, 15)) [] 45 2 2 true 147) := ab_s_callV (M' := 45) (na := 1) (i := 243) (ci := 1) (N := 15) (C := RX1) (T := TX1) (v := true) (ab_hok_n (by decide +kernel)) (by decide +kernel) ab_dk76_3.2.1 rfl (by decide) (by decide +kernel) (by decide +kernel) (by decide) wf_343 wf_344 wf_345 wf_346 wf_94
theorem ab_s76_147 : ab_Sn B 76 147 (ab_o_iret false) := ab_s_iret (b := false) (ty := .int) ab_dk76_3.2.2.1 rfl (Or.inl ⟨rfl, rfl⟩)
theorem ab_s76_148 : ab_Sn B 76 148 (ab_o_throw 1) := ab_s_throw (ik := 33) (is := 246) (ic := 37) (text := "what must be 0 to 7") (Or.inl rfl) (by decide +kernel) (by decide +kernel) (by decide +kernel) (by decide +kernel) (by decide +kernel) wf_179 wf_180 wf_347 wf_182 wf_183 (by decide +kernel)
theorem ab_sc76_2 : ab_all B 76 128 (ab_d76_2) := ⟨trivial, ab_s76_129, ab_s76_130, ab_s76_131, trivial, trivial, ab_s76_134, ab_s76_135, trivial, trivial, ab_s76_138, ab_s76_139, ab_s76_140, trivial, trivial, ab_s76_143, ab_s76_144, trivial, trivial, ab_s76_147, ab_s76_148, trivial⟩
theorem ab_sc76_1 : ab_all B 76 64 (ab_d76_1) := ⟨trivial, trivial, trivial, trivial, ab_s76_68, ab_s76_69, trivial, trivial, ab_s76_72, ab_s76_73, trivial, trivial, ab_s76_76, trivial, trivial, ab_s76_79, ab_s76_80, trivial, trivial, ab_s76_83, ab_s76_84, ab_s76_85, ab_s76_86, trivial, trivial, ab_s76_89, ab_s76_90, trivial, trivial, ab_s76_93, ab_s76_94, ab_s76_95, trivial, trivial, ab_s76_98, ab_s76_99, trivial, trivial, ab_s76_102, ab_s76_103, ab_s76_104, trivial, trivial, ab_s76_107, ab_s76_108, trivial, trivial, ab_s76_111, ab_s76_112, ab_s76_113, trivial, trivial, ab_s76_116, ab_s76_117, trivial, trivial, ab_s76_120, ab_s76_121, ab_s76_122, trivial, trivial, ab_s76_125, ab_s76_126, trivial, ab_sc76_2⟩
theorem ab_sc76_0 : ab_all B 76 0 (ab_d76_0) := ⟨ab_s76_0, ab_s76_1, trivial, trivial, ab_s76_4, ab_s76_5, trivial, trivial, ab_s76_8, trivial, trivial, ab_s76_11, trivial, trivial, trivial, trivial, trivial, trivial, trivial, trivial, trivial, ab_s76_21, ab_s76_22, trivial, trivial, trivial, trivial, trivial, trivial, trivial, trivial, trivial, trivial, trivial, trivial, trivial, trivial, trivial, trivial, trivial, trivial, trivial, trivial, trivial, trivial, trivial, trivial, trivial, trivial, trivial, trivial, trivial, trivial, trivial, trivial, trivial, trivial, trivial, trivial, trivial, trivial, trivial, trivial, trivial, ab_sc76_1⟩
theorem ab_sn76 : ab_all B 76 0 (ab_c76) := by rw [ab_cd76]; exact ab_sc76_0
theorem ab_dk77_0 : ab_dp 77 [(0, .aload_n 0, 1), (1, .getfield 10, 3), (4, .iload_n 1, 1), (5, .invokevirtual 79, 3), (8, .ifCond .ne 13, 3), (21, .aload_n 0, 1), (22, .getfield 10, 3), (25, .iload_n 1, 1), (26, .invokevirtual 119, 3), (29, .istore_n 3, 1), (30, .aload_n 0, 1), (31, .getfield 10, 3), (34, .iload_n 1, 1), (35, .invokevirtual 90, 3), (38, .istore 4, 2), (40, .iload_n 2, 1)] := ab_da (by decide +kernel)
theorem ab_dk77_1 : ab_dp 77 [(41, .tableswitch 66 0 3 #[31, 33, 36, 55], 31), (72, .iload_n 3, 1), (73, .ireturn, 1), (74, .iload 4, 2), (76, .ireturn, 1), (77, .aload_n 0, 1), (78, .getfield 10, 3), (81, .iload_n 3, 1), (82, .iload 4, 2), (84, .invokevirtual 248, 3), (87, .ifCond .eq 7, 3), (90, .iconst 1, 1), (91, .goto 4, 3), (94, .iconst 0, 1), (95, .ireturn, 1), (96, .aload_n 0, 1)] := ab_da (by decide +kernel)
theorem ab_dk77_2 : ab_dp 77 [(97, .getfield 10, 3), (100, .iload_n 3, 1), (101, .iload 4, 2), (103, .invokevirtual 122, 3), (106, .ireturn, 1)] := ab_da (by decide +kernel)
theorem ab_s77_0 : ab_Sn B 77 0 (ab_o_ald 0 1) := ab_s_aload_n (k := 0) (n := 0) ab_dk77_0.1 rfl
theorem ab_s77_1 : ab_Sn B 77 1 (ab_o_getr 6 13 0 4) := ab_s_getr (i := 10) (ci := 2) (N := 13) (k := 0) (C := RX2) (T := TX2) ab_dk77_0.2.1 rfl (by decide) rfl wf_168
theorem ab_s77_4 : ab_Sn B 77 4 (ab_o_ild 1 5) := ab_s_iload_n (k := 1) (n := 1) ab_dk77_0.2.2.1 rfl
theorem ab_s77_5 : ab_Sn B 77 5 (ab_o_call (some (4, 7)) [] 4 2 2 true 8) := ab_s_callV (M' := 4) (na := 1) (i := 79) (ci := 0) (N := 7) (C := RX0) (T := TX0) (v := true) (ab_hok_n (by decide +kernel)) (by decide +kernel) ab_dk77_0.2.2.2.1 rfl (by decide) (by decide +kernel) (by decide +kernel) (by decide) wf_206 wf_207 wf_208 wf_209 wf_15
theorem ab_s77_8 : ab_Sn B 77 8 (ab_o_if ab_ne 21 11) := ab_s_if_ne (tg := 21) (off := 13) ab_dk77_0.2.2.2.2.1 (by decide)
theorem ab_s77_11 : ab_Sn B 77 11 (ab_o_throw 2) := ab_s_throw (ik := 83) (is := 85) (ic := 87) (text := "no such block") (Or.inr (Or.inl rfl)) (by decide +kernel) (by decide +kernel) (by decide +kernel) (by decide +kernel) (by decide +kernel) wf_210 wf_211 wf_212 wf_213 wf_214 (by decide +kernel)
theorem ab_s77_21 : ab_Sn B 77 21 (ab_o_ald 0 22) := ab_s_aload_n (k := 0) (n := 0) ab_dk77_0.2.2.2.2.2.1 rfl
theorem ab_s77_22 : ab_Sn B 77 22 (ab_o_getr 6 13 0 25) := ab_s_getr (i := 10) (ci := 2) (N := 13) (k := 0) (C := RX2) (T := TX2) ab_dk77_0.2.2.2.2.2.2.1 rfl (by decide) rfl wf_168
theorem ab_s77_25 : ab_Sn B 77 25 (ab_o_ild 1 26) := ab_s_iload_n (k := 1) (n := 1) ab_dk77_0.2.2.2.2.2.2.2.1 rfl
theorem ab_s77_26 : ab_Sn B 77 26 (ab_o_call (some (4, 7)) [] 7 3 2 true 29) := ab_s_callV (M' := 7) (na := 1) (i := 119) (ci := 0) (N := 7) (C := RX0) (T := TX0) (v := true) (ab_hok_n (by decide +kernel)) (by decide +kernel) ab_dk77_0.2.2.2.2.2.2.2.2.1 rfl (by decide) (by decide +kernel) (by decide +kernel) (by decide) wf_61 wf_244 wf_63 wf_64 wf_15
theorem ab_s77_29 : ab_Sn B 77 29 (ab_o_ist 3 30) := ab_s_istore_n (k := 3) (n := 3) ab_dk77_0.2.2.2.2.2.2.2.2.2.1 rfl
theorem ab_s77_30 : ab_Sn B 77 30 (ab_o_ald 0 31) := ab_s_aload_n (k := 0) (n := 0) ab_dk77_0.2.2.2.2.2.2.2.2.2.2.1 rfl
theorem ab_s77_31 : ab_Sn B 77 31 (ab_o_getr 6 13 0 34) := ab_s_getr (i := 10) (ci := 2) (N := 13) (k := 0) (C := RX2) (T := TX2) ab_dk77_0.2.2.2.2.2.2.2.2.2.2.2.1 rfl (by decide) rfl wf_168
theorem ab_s77_34 : ab_Sn B 77 34 (ab_o_ild 1 35) := ab_s_iload_n (k := 1) (n := 1) ab_dk77_0.2.2.2.2.2.2.2.2.2.2.2.2.1 rfl
theorem ab_s77_35 : ab_Sn B 77 35 (ab_o_call (some (4, 7)) [] 6 2 2 true 38) := ab_s_callV (M' := 6) (na := 1) (i := 90) (ci := 0) (N := 7) (C := RX0) (T := TX0) (v := true) (ab_hok_n (by decide +kernel)) (by decide +kernel) ab_dk77_0.2.2.2.2.2.2.2.2.2.2.2.2.2.1 rfl (by decide) (by decide +kernel) (by decide +kernel) (by decide) wf_21 wf_216 wf_23 wf_24 wf_15
theorem ab_s77_38 : ab_Sn B 77 38 (ab_o_ist 4 40) := ab_s_istore (k := 4) ab_dk77_0.2.2.2.2.2.2.2.2.2.2.2.2.2.2.1
theorem ab_s77_40 : ab_Sn B 77 40 (ab_o_ild 2 41) := ab_s_iload_n (k := 2) (n := 2) ab_dk77_0.2.2.2.2.2.2.2.2.2.2.2.2.2.2.2.1 rfl
theorem ab_s77_41 : ab_Sn B 77 41 (ab_o_sw 0 [72, 74, 77, 96] 107) := ab_s_sw (dflt := 66) (lo := 0) (hi := 3) (offs := #[31, 33, 36, 55]) (len := 31) ab_dk77_1.1 (by decide) (by decide) (by intro i hi; match i, hi with | 0, _ => exact ⟨31, rfl, rfl⟩ | 1, _ => exact ⟨33, rfl, rfl⟩ | 2, _ => exact ⟨36, rfl, rfl⟩ | 3, _ => exact ⟨55, rfl, rfl⟩ | i + 4, hi => exact absurd hi (by simp))
theorem ab_s77_72 : ab_Sn B 77 72 (ab_o_ild 3 73) := ab_s_iload_n (k := 3) (n := 3) ab_dk77_1.2.1 rfl
theorem ab_s77_73 : ab_Sn B 77 73 (ab_o_iret false) := ab_s_iret (b := false) (ty := .int) ab_dk77_1.2.2.1 rfl (Or.inl ⟨rfl, rfl⟩)
theorem ab_s77_74 : ab_Sn B 77 74 (ab_o_ild 4 76) := ab_s_iload (k := 4) ab_dk77_1.2.2.2.1
theorem ab_s77_76 : ab_Sn B 77 76 (ab_o_iret false) := ab_s_iret (b := false) (ty := .int) ab_dk77_1.2.2.2.2.1 rfl (Or.inl ⟨rfl, rfl⟩)
theorem ab_s77_77 : ab_Sn B 77 77 (ab_o_ald 0 78) := ab_s_aload_n (k := 0) (n := 0) ab_dk77_1.2.2.2.2.2.1 rfl
theorem ab_s77_78 : ab_Sn B 77 78 (ab_o_getr 6 13 0 81) := ab_s_getr (i := 10) (ci := 2) (N := 13) (k := 0) (C := RX2) (T := TX2) ab_dk77_1.2.2.2.2.2.2.1 rfl (by decide) rfl wf_168
theorem ab_s77_81 : ab_Sn B 77 81 (ab_o_ild 3 82) := ab_s_iload_n (k := 3) (n := 3) ab_dk77_1.2.2.2.2.2.2.2.1 rfl
theorem ab_s77_82 : ab_Sn B 77 82 (ab_o_ild 4 84) := ab_s_iload (k := 4) ab_dk77_1.2.2.2.2.2.2.2.2.1
theorem ab_s77_84 : ab_Sn B 77 84 (ab_o_call (some (4, 7)) [] 16 3 3 true 87) := ab_s_callV (M' := 16) (na := 2) (i := 248) (ci := 0) (N := 7) (C := RX0) (T := TX0) (v := true) (ab_hok_n (by decide +kernel)) (by decide +kernel) ab_dk77_1.2.2.2.2.2.2.2.2.2.1 rfl (by decide) (by decide +kernel) (by decide +kernel) (by decide) wf_348 wf_349 wf_350 wf_351 wf_15
theorem ab_s77_87 : ab_Sn B 77 87 (ab_o_if ab_eq 94 90) := ab_s_if_eq (tg := 94) (off := 7) ab_dk77_1.2.2.2.2.2.2.2.2.2.2.1 (by decide)
theorem ab_s77_90 : ab_Sn B 77 90 (ab_o_const 1 91) := ab_s_iconst (n := 1) ab_dk77_1.2.2.2.2.2.2.2.2.2.2.2.1 rfl
theorem ab_s77_91 : ab_Sn B 77 91 (ab_o_goto 95) := ab_s_goto (tg := 95) (off := 4) ab_dk77_1.2.2.2.2.2.2.2.2.2.2.2.2.1 (by decide)
theorem ab_s77_94 : ab_Sn B 77 94 (ab_o_const 0 95) := ab_s_iconst (n := 0) ab_dk77_1.2.2.2.2.2.2.2.2.2.2.2.2.2.1 rfl
theorem ab_s77_95 : ab_Sn B 77 95 (ab_o_iret false) := ab_s_iret (b := false) (ty := .int) ab_dk77_1.2.2.2.2.2.2.2.2.2.2.2.2.2.2.1 rfl (Or.inl ⟨rfl, rfl⟩)
theorem ab_s77_96 : ab_Sn B 77 96 (ab_o_ald 0 97) := ab_s_aload_n (k := 0) (n := 0) ab_dk77_1.2.2.2.2.2.2.2.2.2.2.2.2.2.2.2.1 rfl
theorem ab_s77_97 : ab_Sn B 77 97 (ab_o_getr 6 13 0 100) := ab_s_getr (i := 10) (ci := 2) (N := 13) (k := 0) (C := RX2) (T := TX2) ab_dk77_2.1 rfl (by decide) rfl wf_168
theorem ab_s77_100 : ab_Sn B 77 100 (ab_o_ild 3 101) := ab_s_iload_n (k := 3) (n := 3) ab_dk77_2.2.1 rfl
theorem ab_s77_101 : ab_Sn B 77 101 (ab_o_ild 4 103) := ab_s_iload (k := 4) ab_dk77_2.2.2.1
theorem ab_s77_103 : ab_Sn B 77 103 (ab_o_call (some (4, 7)) [] 24 3 3 true 106) := ab_s_callV (M' := 24) (na := 2) (i := 122) (ci := 0) (N := 7) (C := RX0) (T := TX0) (v := true) (ab_hok_n (by decide +kernel)) (by decide +kernel) ab_dk77_2.2.2.2.1 rfl (by decide) (by decide +kernel) (by decide +kernel) (by decide) wf_73 wf_245 wf_75 wf_76 wf_15
theorem ab_s77_106 : ab_Sn B 77 106 (ab_o_iret false) := ab_s_iret (b := false) (ty := .int) ab_dk77_2.2.2.2.2.1 rfl (Or.inl ⟨rfl, rfl⟩)
theorem ab_s77_107 : ab_Sn B 77 107 (ab_o_throw 1) := ab_s_throw (ik := 33) (is := 251) (ic := 37) (text := "what must be 0 to 3") (Or.inl rfl) (by decide +kernel) (by decide +kernel) (by decide +kernel) (by decide +kernel) (by decide +kernel) wf_179 wf_180 wf_352 wf_182 wf_183 (by decide +kernel)
set_option maxRecDepth 20000 in
theorem ab_sn77 : ab_all B 77 0 (ab_c77) := ⟨ab_s77_0, ab_s77_1, trivial, trivial, ab_s77_4, ab_s77_5, trivial, trivial, ab_s77_8, trivial, trivial, ab_s77_11, trivial, trivial, trivial, trivial, trivial, trivial, trivial, trivial, trivial, ab_s77_21, ab_s77_22, trivial, trivial, ab_s77_25, ab_s77_26, trivial, trivial, ab_s77_29, ab_s77_30, ab_s77_31, trivial, trivial, ab_s77_34, ab_s77_35, trivial, trivial, ab_s77_38, trivial, ab_s77_40, ab_s77_41, trivial, trivial, trivial, trivial, trivial, trivial, trivial, trivial, trivial, trivial, trivial, trivial, trivial, trivial, trivial, trivial, trivial, trivial, trivial, trivial, trivial, trivial, trivial, trivial, trivial, trivial, trivial, trivial, trivial, trivial, ab_s77_72, ab_s77_73, ab_s77_74, trivial, ab_s77_76, ab_s77_77, ab_s77_78, trivial, trivial, ab_s77_81, ab_s77_82, trivial, ab_s77_84, trivial, trivial, ab_s77_87, trivial, trivial, ab_s77_90, ab_s77_91, trivial, trivial, ab_s77_94, ab_s77_95, ab_s77_96, ab_s77_97, trivial, trivial, ab_s77_100, ab_s77_101, trivial, ab_s77_103, trivial, trivial, ab_s77_106, ab_s77_107, trivial⟩
theorem ab_dk78_0 : ab_dp 78 [(0, .iload_n 1, 1), (1, .tableswitch 42 0 2 #[27, 32, 37], 27), (28, .aload_n 0, 1), (29, .getfield 23, 3), (32, .ireturn, 1), (33, .aload_n 0, 1), (34, .getfield 27, 3), (37, .ireturn, 1), (38, .aload_n 0, 1), (39, .getfield 30, 3), (42, .ireturn, 1)] := ab_da (by decide +kernel)
theorem ab_s78_0 : ab_Sn B 78 0 (ab_o_ild 1 1) := ab_s_iload_n (k := 1) (n := 1) ab_dk78_0.1 rfl
theorem ab_s78_1 : ab_Sn B 78 1 (ab_o_sw 0 [28, 33, 38] 43) := ab_s_sw (dflt := 42) (lo := 0) (hi := 2) (offs := #[27, 32, 37]) (len := 27) ab_dk78_0.2.1 (by decide) (by decide) (by intro i hi; match i, hi with | 0, _ => exact ⟨27, rfl, rfl⟩ | 1, _ => exact ⟨32, rfl, rfl⟩ | 2, _ => exact ⟨37, rfl, rfl⟩ | i + 3, hi => exact absurd hi (by simp))
theorem ab_s78_28 : ab_Sn B 78 28 (ab_o_ald 0 29) := ab_s_aload_n (k := 0) (n := 0) ab_dk78_0.2.2.1 rfl
theorem ab_s78_29 : ab_Sn B 78 29 (ab_o_geti 6 13 3 32) := ab_s_geti (i := 23) (ci := 2) (N := 13) (k := 3) (C := RX2) (T := TX2) ab_dk78_0.2.2.2.1 rfl (by decide) rfl wf_176
theorem ab_s78_32 : ab_Sn B 78 32 (ab_o_iret false) := ab_s_iret (b := false) (ty := .int) ab_dk78_0.2.2.2.2.1 rfl (Or.inl ⟨rfl, rfl⟩)
theorem ab_s78_33 : ab_Sn B 78 33 (ab_o_ald 0 34) := ab_s_aload_n (k := 0) (n := 0) ab_dk78_0.2.2.2.2.2.1 rfl
theorem ab_s78_34 : ab_Sn B 78 34 (ab_o_geti 6 13 4 37) := ab_s_geti (i := 27) (ci := 2) (N := 13) (k := 4) (C := RX2) (T := TX2) ab_dk78_0.2.2.2.2.2.2.1 rfl (by decide) rfl wf_177
theorem ab_s78_37 : ab_Sn B 78 37 (ab_o_iret false) := ab_s_iret (b := false) (ty := .int) ab_dk78_0.2.2.2.2.2.2.2.1 rfl (Or.inl ⟨rfl, rfl⟩)
theorem ab_s78_38 : ab_Sn B 78 38 (ab_o_ald 0 39) := ab_s_aload_n (k := 0) (n := 0) ab_dk78_0.2.2.2.2.2.2.2.2.1 rfl
theorem ab_s78_39 : ab_Sn B 78 39 (ab_o_geti 6 13 5 42) := ab_s_geti (i := 30) (ci := 2) (N := 13) (k := 5) (C := RX2) (T := TX2) ab_dk78_0.2.2.2.2.2.2.2.2.2.1 rfl (by decide) rfl wf_178
theorem ab_s78_42 : ab_Sn B 78 42 (ab_o_iret false) := ab_s_iret (b := false) (ty := .int) ab_dk78_0.2.2.2.2.2.2.2.2.2.2.1 rfl (Or.inl ⟨rfl, rfl⟩)
theorem ab_s78_43 : ab_Sn B 78 43 (ab_o_throw 1) := ab_s_throw (ik := 33) (is := 253) (ic := 37) (text := "what must be 0 to 2") (Or.inl rfl) (by decide +kernel) (by decide +kernel) (by decide +kernel) (by decide +kernel) (by decide +kernel) wf_179 wf_180 wf_353 wf_182 wf_183 (by decide +kernel)
set_option maxRecDepth 20000 in
theorem ab_sn78 : ab_all B 78 0 (ab_c78) := ⟨ab_s78_0, ab_s78_1, trivial, trivial, trivial, trivial, trivial, trivial, trivial, trivial, trivial, trivial, trivial, trivial, trivial, trivial, trivial, trivial, trivial, trivial, trivial, trivial, trivial, trivial, trivial, trivial, trivial, trivial, ab_s78_28, ab_s78_29, trivial, trivial, ab_s78_32, ab_s78_33, ab_s78_34, trivial, trivial, ab_s78_37, ab_s78_38, ab_s78_39, trivial, trivial, ab_s78_42, ab_s78_43, trivial⟩
theorem ab_dk79_0 : ab_dp 79 [(0, .iload_n 1, 1), (1, .tableswitch 205 0 16 #[83, 91, 99, 107, 120, 128, 136, 144, 152, 162, 167, 172, 177, 182, 190, 195, 200], 83), (84, .aload_n 0, 1), (85, .getfield 10, 3), (88, .getfield 200, 3), (91, .ireturn, 1), (92, .aload_n 0, 1), (93, .getfield 10, 3), (96, .getfield 255, 3), (99, .ireturn, 1), (100, .aload_n 0, 1), (101, .getfield 10, 3), (104, .invokevirtual 75, 3), (107, .ireturn, 1), (108, .aload_n 0, 1), (109, .getfield 50, 3)] := ab_da (by decide +kernel)
theorem ab_dk79_1 : ab_dp 79 [(112, .ifCond .eq 7, 3), (115, .iconst 1, 1), (116, .goto 4, 3), (119, .iconst 0, 1), (120, .ireturn, 1), (121, .aload_n 0, 1), (122, .getfield 10, 3), (125, .invokevirtual 258, 3), (128, .ireturn, 1), (129, .aload_n 0, 1), (130, .getfield 10, 3), (133, .invokevirtual 261, 3), (136, .ireturn, 1), (137, .aload_n 0, 1), (138, .getfield 10, 3), (141, .invokevirtual 264, 3)] := ab_da (by decide +kernel)
theorem ab_dk79_2 : ab_dp 79 [(144, .ireturn, 1), (145, .aload_n 0, 1), (146, .getfield 10, 3), (149, .invokevirtual 267, 3), (152, .ireturn, 1), (153, .aload_n 0, 1), (154, .getfield 10, 3), (157, .iconst (-1), 1), (158, .iconst (-1), 1), (159, .invokevirtual 143, 3), (162, .ireturn, 1), (163, .aload_n 0, 1), (164, .getfield 63, 3), (167, .ireturn, 1), (168, .aload_n 0, 1), (169, .getfield 66, 3)] := ab_da (by decide +kernel)
theorem ab_dk79_3 : ab_dp 79 [(172, .ireturn, 1), (173, .aload_n 0, 1), (174, .getfield 69, 3), (177, .ireturn, 1), (178, .aload_n 0, 1), (179, .getfield 72, 3), (182, .ireturn, 1), (183, .aload_n 0, 1), (184, .getfield 19, 3), (187, .invokevirtual 205, 3), (190, .ireturn, 1), (191, .aload_n 0, 1), (192, .getfield 57, 3), (195, .ireturn, 1), (196, .aload_n 0, 1), (197, .getfield 60, 3)] := ab_da (by decide +kernel)
theorem ab_dk79_4 : ab_dp 79 [(200, .ireturn, 1), (201, .aload_n 0, 1), (202, .getfield 270, 3), (205, .ireturn, 1)] := ab_da (by decide +kernel)
theorem ab_s79_0 : ab_Sn B 79 0 (ab_o_ild 1 1) := ab_s_iload_n (k := 1) (n := 1) ab_dk79_0.1 rfl
theorem ab_s79_1 : ab_Sn B 79 1 (ab_o_sw 0 [84, 92, 100, 108, 121, 129, 137, 145, 153, 163, 168, 173, 178, 183, 191, 196, 201] 206) := ab_s_sw (dflt := 205) (lo := 0) (hi := 16) (offs := #[83, 91, 99, 107, 120, 128, 136, 144, 152, 162, 167, 172, 177, 182, 190, 195, 200]) (len := 83) ab_dk79_0.2.1 (by decide) (by decide) (by intro i hi; match i, hi with | 0, _ => exact ⟨83, rfl, rfl⟩ | 1, _ => exact ⟨91, rfl, rfl⟩ | 2, _ => exact ⟨99, rfl, rfl⟩ | 3, _ => exact ⟨107, rfl, rfl⟩ | 4, _ => exact ⟨120, rfl, rfl⟩ | 5, _ => exact ⟨128, rfl, rfl⟩ | 6, _ => exact ⟨136, rfl, rfl⟩ | 7, _ => exact ⟨144, rfl, rfl⟩ | 8, _ => exact ⟨152, rfl, rfl⟩ | 9, _ => exact ⟨162, rfl, rfl⟩ | 10, _ => exact ⟨167, rfl, rfl⟩ | 11, _ => exact ⟨172, rfl, rfl⟩ | 12, _ => exact ⟨177, rfl, rfl⟩ | 13, _ => exact ⟨182, rfl, rfl⟩ | 14, _ => exact ⟨190, rfl, rfl⟩ | 15, _ => exact ⟨195, rfl, rfl⟩ | 16, _ => exact ⟨200, rfl, rfl⟩ | i + 17, hi => exact absurd hi (by simp))
theorem ab_s79_84 : ab_Sn B 79 84 (ab_o_ald 0 85) := ab_s_aload_n (k := 0) (n := 0) ab_dk79_0.2.2.1 rfl
theorem ab_s79_85 : ab_Sn B 79 85 (ab_o_getr 6 13 0 88) := ab_s_getr (i := 10) (ci := 2) (N := 13) (k := 0) (C := RX2) (T := TX2) ab_dk79_0.2.2.2.1 rfl (by decide) rfl wf_168
theorem ab_s79_88 : ab_Sn B 79 88 (ab_o_geti 4 7 0 91) := ab_s_geti (i := 200) (ci := 0) (N := 7) (k := 0) (C := RX0) (T := TX0) ab_dk79_0.2.2.2.2.1 rfl (by decide) rfl wf_306
theorem ab_s79_91 : ab_Sn B 79 91 (ab_o_iret false) := ab_s_iret (b := false) (ty := .int) ab_dk79_0.2.2.2.2.2.1 rfl (Or.inl ⟨rfl, rfl⟩)
theorem ab_s79_92 : ab_Sn B 79 92 (ab_o_ald 0 93) := ab_s_aload_n (k := 0) (n := 0) ab_dk79_0.2.2.2.2.2.2.1 rfl
theorem ab_s79_93 : ab_Sn B 79 93 (ab_o_getr 6 13 0 96) := ab_s_getr (i := 10) (ci := 2) (N := 13) (k := 0) (C := RX2) (T := TX2) ab_dk79_0.2.2.2.2.2.2.2.1 rfl (by decide) rfl wf_168
theorem ab_s79_96 : ab_Sn B 79 96 (ab_o_geti 4 7 1 99) := ab_s_geti (i := 255) (ci := 0) (N := 7) (k := 1) (C := RX0) (T := TX0) ab_dk79_0.2.2.2.2.2.2.2.2.1 rfl (by decide) rfl wf_354
theorem ab_s79_99 : ab_Sn B 79 99 (ab_o_iret false) := ab_s_iret (b := false) (ty := .int) ab_dk79_0.2.2.2.2.2.2.2.2.2.1 rfl (Or.inl ⟨rfl, rfl⟩)
theorem ab_s79_100 : ab_Sn B 79 100 (ab_o_ald 0 101) := ab_s_aload_n (k := 0) (n := 0) ab_dk79_0.2.2.2.2.2.2.2.2.2.2.1 rfl
theorem ab_s79_101 : ab_Sn B 79 101 (ab_o_getr 6 13 0 104) := ab_s_getr (i := 10) (ci := 2) (N := 13) (k := 0) (C := RX2) (T := TX2) ab_dk79_0.2.2.2.2.2.2.2.2.2.2.2.1 rfl (by decide) rfl wf_168
theorem ab_s79_104 : ab_Sn B 79 104 (ab_o_call (some (4, 7)) [] 5 1 1 true 107) := ab_s_callV (M' := 5) (na := 0) (i := 75) (ci := 0) (N := 7) (C := RX0) (T := TX0) (v := true) (ab_hok_n (by decide +kernel)) (by decide +kernel) ab_dk79_0.2.2.2.2.2.2.2.2.2.2.2.2.1 rfl (by decide) (by decide +kernel) (by decide +kernel) (by decide) wf_17 wf_205 wf_19 wf_20 wf_15
theorem ab_s79_107 : ab_Sn B 79 107 (ab_o_iret false) := ab_s_iret (b := false) (ty := .int) ab_dk79_0.2.2.2.2.2.2.2.2.2.2.2.2.2.1 rfl (Or.inl ⟨rfl, rfl⟩)
theorem ab_s79_108 : ab_Sn B 79 108 (ab_o_ald 0 109) := ab_s_aload_n (k := 0) (n := 0) ab_dk79_0.2.2.2.2.2.2.2.2.2.2.2.2.2.2.1 rfl
theorem ab_s79_109 : ab_Sn B 79 109 (ab_o_geti 6 13 2 112) := ab_s_geti (i := 50) (ci := 2) (N := 13) (k := 2) (C := RX2) (T := TX2) ab_dk79_0.2.2.2.2.2.2.2.2.2.2.2.2.2.2.2.1 rfl (by decide) rfl wf_193
theorem ab_s79_112 : ab_Sn B 79 112 (ab_o_if ab_eq 119 115) := ab_s_if_eq (tg := 119) (off := 7) ab_dk79_1.1 (by decide)
theorem ab_s79_115 : ab_Sn B 79 115 (ab_o_const 1 116) := ab_s_iconst (n := 1) ab_dk79_1.2.1 rfl
theorem ab_s79_116 : ab_Sn B 79 116 (ab_o_goto 120) := ab_s_goto (tg := 120) (off := 4) ab_dk79_1.2.2.1 (by decide)
theorem ab_s79_119 : ab_Sn B 79 119 (ab_o_const 0 120) := ab_s_iconst (n := 0) ab_dk79_1.2.2.2.1 rfl
theorem ab_s79_120 : ab_Sn B 79 120 (ab_o_iret false) := ab_s_iret (b := false) (ty := .int) ab_dk79_1.2.2.2.2.1 rfl (Or.inl ⟨rfl, rfl⟩)
theorem ab_s79_121 : ab_Sn B 79 121 (ab_o_ald 0 122) := ab_s_aload_n (k := 0) (n := 0) ab_dk79_1.2.2.2.2.2.1 rfl
theorem ab_s79_122 : ab_Sn B 79 122 (ab_o_getr 6 13 0 125) := ab_s_getr (i := 10) (ci := 2) (N := 13) (k := 0) (C := RX2) (T := TX2) ab_dk79_1.2.2.2.2.2.2.1 rfl (by decide) rfl wf_168
theorem ab_s79_125 : ab_Sn B 79 125 (ab_o_call (some (4, 7)) [] 22 3 1 true 128) := ab_s_callV (M' := 22) (na := 0) (i := 258) (ci := 0) (N := 7) (C := RX0) (T := TX0) (v := true) (ab_hok_n (by decide +kernel)) (by decide +kernel) ab_dk79_1.2.2.2.2.2.2.2.1 rfl (by decide) (by decide +kernel) (by decide +kernel) (by decide) wf_355 wf_356 wf_357 wf_358 wf_15
theorem ab_s79_128 : ab_Sn B 79 128 (ab_o_iret false) := ab_s_iret (b := false) (ty := .int) ab_dk79_1.2.2.2.2.2.2.2.2.1 rfl (Or.inl ⟨rfl, rfl⟩)
theorem ab_s79_129 : ab_Sn B 79 129 (ab_o_ald 0 130) := ab_s_aload_n (k := 0) (n := 0) ab_dk79_1.2.2.2.2.2.2.2.2.2.1 rfl
theorem ab_s79_130 : ab_Sn B 79 130 (ab_o_getr 6 13 0 133) := ab_s_getr (i := 10) (ci := 2) (N := 13) (k := 0) (C := RX2) (T := TX2) ab_dk79_1.2.2.2.2.2.2.2.2.2.2.1 rfl (by decide) rfl wf_168
theorem ab_s79_133 : ab_Sn B 79 133 (ab_o_call (some (4, 7)) [] 19 3 1 true 136) := ab_s_callV (M' := 19) (na := 0) (i := 261) (ci := 0) (N := 7) (C := RX0) (T := TX0) (v := true) (ab_hok_n (by decide +kernel)) (by decide +kernel) ab_dk79_1.2.2.2.2.2.2.2.2.2.2.2.1 rfl (by decide) (by decide +kernel) (by decide +kernel) (by decide) wf_359 wf_360 wf_361 wf_362 wf_15
theorem ab_s79_136 : ab_Sn B 79 136 (ab_o_iret false) := ab_s_iret (b := false) (ty := .int) ab_dk79_1.2.2.2.2.2.2.2.2.2.2.2.2.1 rfl (Or.inl ⟨rfl, rfl⟩)
theorem ab_s79_137 : ab_Sn B 79 137 (ab_o_ald 0 138) := ab_s_aload_n (k := 0) (n := 0) ab_dk79_1.2.2.2.2.2.2.2.2.2.2.2.2.2.1 rfl
theorem ab_s79_138 : ab_Sn B 79 138 (ab_o_getr 6 13 0 141) := ab_s_getr (i := 10) (ci := 2) (N := 13) (k := 0) (C := RX2) (T := TX2) ab_dk79_1.2.2.2.2.2.2.2.2.2.2.2.2.2.2.1 rfl (by decide) rfl wf_168
theorem ab_s79_141 : ab_Sn B 79 141 (ab_o_call (some (4, 7)) [] 20 3 1 true 144) := ab_s_callV (M' := 20) (na := 0) (i := 264) (ci := 0) (N := 7) (C := RX0) (T := TX0) (v := true) (ab_hok_n (by decide +kernel)) (by decide +kernel) ab_dk79_1.2.2.2.2.2.2.2.2.2.2.2.2.2.2.2.1 rfl (by decide) (by decide +kernel) (by decide +kernel) (by decide) wf_363 wf_364 wf_365 wf_366 wf_15
theorem ab_s79_144 : ab_Sn B 79 144 (ab_o_iret false) := ab_s_iret (b := false) (ty := .int) ab_dk79_2.1 rfl (Or.inl ⟨rfl, rfl⟩)
theorem ab_s79_145 : ab_Sn B 79 145 (ab_o_ald 0 146) := ab_s_aload_n (k := 0) (n := 0) ab_dk79_2.2.1 rfl
theorem ab_s79_146 : ab_Sn B 79 146 (ab_o_getr 6 13 0 149) := ab_s_getr (i := 10) (ci := 2) (N := 13) (k := 0) (C := RX2) (T := TX2) ab_dk79_2.2.2.1 rfl (by decide) rfl wf_168
theorem ab_s79_149 : ab_Sn B 79 149 (ab_o_call (some (4, 7)) [] 21 3 1 true 152) := ab_s_callV (M' := 21) (na := 0) (i := 267) (ci := 0) (N := 7) (C := RX0) (T := TX0) (v := true) (ab_hok_n (by decide +kernel)) (by decide +kernel) ab_dk79_2.2.2.2.1 rfl (by decide) (by decide +kernel) (by decide +kernel) (by decide) wf_367 wf_368 wf_369 wf_370 wf_15
theorem ab_s79_152 : ab_Sn B 79 152 (ab_o_iret false) := ab_s_iret (b := false) (ty := .int) ab_dk79_2.2.2.2.2.1 rfl (Or.inl ⟨rfl, rfl⟩)
theorem ab_s79_153 : ab_Sn B 79 153 (ab_o_ald 0 154) := ab_s_aload_n (k := 0) (n := 0) ab_dk79_2.2.2.2.2.2.1 rfl
theorem ab_s79_154 : ab_Sn B 79 154 (ab_o_getr 6 13 0 157) := ab_s_getr (i := 10) (ci := 2) (N := 13) (k := 0) (C := RX2) (T := TX2) ab_dk79_2.2.2.2.2.2.2.1 rfl (by decide) rfl wf_168
theorem ab_s79_157 : ab_Sn B 79 157 (ab_o_const (-1) 158) := ab_s_iconst (n := (-1)) ab_dk79_2.2.2.2.2.2.2.2.1 rfl
theorem ab_s79_158 : ab_Sn B 79 158 (ab_o_const (-1) 159) := ab_s_iconst (n := (-1)) ab_dk79_2.2.2.2.2.2.2.2.2.1 rfl
theorem ab_s79_159 : ab_Sn B 79 159 (ab_o_call (some (4, 7)) [] 23 8 3 true 162) := ab_s_callV (M' := 23) (na := 2) (i := 143) (ci := 0) (N := 7) (C := RX0) (T := TX0) (v := true) (ab_hok_n (by decide +kernel)) (by decide +kernel) ab_dk79_2.2.2.2.2.2.2.2.2.2.1 rfl (by decide) (by decide +kernel) (by decide +kernel) (by decide) wf_255 wf_256 wf_257 wf_258 wf_15
theorem ab_s79_162 : ab_Sn B 79 162 (ab_o_iret false) := ab_s_iret (b := false) (ty := .int) ab_dk79_2.2.2.2.2.2.2.2.2.2.2.1 rfl (Or.inl ⟨rfl, rfl⟩)
theorem ab_s79_163 : ab_Sn B 79 163 (ab_o_ald 0 164) := ab_s_aload_n (k := 0) (n := 0) ab_dk79_2.2.2.2.2.2.2.2.2.2.2.2.1 rfl
theorem ab_s79_164 : ab_Sn B 79 164 (ab_o_geti 6 13 8 167) := ab_s_geti (i := 63) (ci := 2) (N := 13) (k := 8) (C := RX2) (T := TX2) ab_dk79_2.2.2.2.2.2.2.2.2.2.2.2.2.1 rfl (by decide) rfl wf_201
theorem ab_s79_167 : ab_Sn B 79 167 (ab_o_iret false) := ab_s_iret (b := false) (ty := .int) ab_dk79_2.2.2.2.2.2.2.2.2.2.2.2.2.2.1 rfl (Or.inl ⟨rfl, rfl⟩)
theorem ab_s79_168 : ab_Sn B 79 168 (ab_o_ald 0 169) := ab_s_aload_n (k := 0) (n := 0) ab_dk79_2.2.2.2.2.2.2.2.2.2.2.2.2.2.2.1 rfl
theorem ab_s79_169 : ab_Sn B 79 169 (ab_o_geti 6 13 9 172) := ab_s_geti (i := 66) (ci := 2) (N := 13) (k := 9) (C := RX2) (T := TX2) ab_dk79_2.2.2.2.2.2.2.2.2.2.2.2.2.2.2.2.1 rfl (by decide) rfl wf_202
theorem ab_s79_172 : ab_Sn B 79 172 (ab_o_iret false) := ab_s_iret (b := false) (ty := .int) ab_dk79_3.1 rfl (Or.inl ⟨rfl, rfl⟩)
theorem ab_s79_173 : ab_Sn B 79 173 (ab_o_ald 0 174) := ab_s_aload_n (k := 0) (n := 0) ab_dk79_3.2.1 rfl
theorem ab_s79_174 : ab_Sn B 79 174 (ab_o_geti 6 13 10 177) := ab_s_geti (i := 69) (ci := 2) (N := 13) (k := 10) (C := RX2) (T := TX2) ab_dk79_3.2.2.1 rfl (by decide) rfl wf_203
theorem ab_s79_177 : ab_Sn B 79 177 (ab_o_iret false) := ab_s_iret (b := false) (ty := .int) ab_dk79_3.2.2.2.1 rfl (Or.inl ⟨rfl, rfl⟩)
theorem ab_s79_178 : ab_Sn B 79 178 (ab_o_ald 0 179) := ab_s_aload_n (k := 0) (n := 0) ab_dk79_3.2.2.2.2.1 rfl
theorem ab_s79_179 : ab_Sn B 79 179 (ab_o_geti 6 13 11 182) := ab_s_geti (i := 72) (ci := 2) (N := 13) (k := 11) (C := RX2) (T := TX2) ab_dk79_3.2.2.2.2.2.1 rfl (by decide) rfl wf_204
theorem ab_s79_182 : ab_Sn B 79 182 (ab_o_iret false) := ab_s_iret (b := false) (ty := .int) ab_dk79_3.2.2.2.2.2.2.1 rfl (Or.inl ⟨rfl, rfl⟩)
theorem ab_s79_183 : ab_Sn B 79 183 (ab_o_ald 0 184) := ab_s_aload_n (k := 0) (n := 0) ab_dk79_3.2.2.2.2.2.2.2.1 rfl
theorem ab_s79_184 : ab_Sn B 79 184 (ab_o_getr 6 13 1 187) := ab_s_getr (i := 19) (ci := 2) (N := 13) (k := 1) (C := RX2) (T := TX2) ab_dk79_3.2.2.2.2.2.2.2.2.1 rfl (by decide) rfl wf_175
theorem ab_s79_187 : ab_Sn B 79 187 (ab_o_call (some (5, 15)) [] 43 1 1 true 190) := ab_s_callV (M' := 43) (na := 0) (i := 205) (ci := 1) (N := 15) (C := RX1) (T := TX1) (v := true) (ab_hok_n (by decide +kernel)) (by decide +kernel) ab_dk79_3.2.2.2.2.2.2.2.2.2.1 rfl (by decide) (by decide +kernel) (by decide +kernel) (by decide) wf_308 wf_309 wf_310 wf_311 wf_94
theorem ab_s79_190 : ab_Sn B 79 190 (ab_o_iret false) := ab_s_iret (b := false) (ty := .int) ab_dk79_3.2.2.2.2.2.2.2.2.2.2.1 rfl (Or.inl ⟨rfl, rfl⟩)
theorem ab_s79_191 : ab_Sn B 79 191 (ab_o_ald 0 192) := ab_s_aload_n (k := 0) (n := 0) ab_dk79_3.2.2.2.2.2.2.2.2.2.2.2.1 rfl
theorem ab_s79_192 : ab_Sn B 79 192 (ab_o_geti 6 13 6 195) := ab_s_geti (i := 57) (ci := 2) (N := 13) (k := 6) (C := RX2) (T := TX2) ab_dk79_3.2.2.2.2.2.2.2.2.2.2.2.2.1 rfl (by decide) rfl wf_199
theorem ab_s79_195 : ab_Sn B 79 195 (ab_o_iret false) := ab_s_iret (b := false) (ty := .int) ab_dk79_3.2.2.2.2.2.2.2.2.2.2.2.2.2.1 rfl (Or.inl ⟨rfl, rfl⟩)
theorem ab_s79_196 : ab_Sn B 79 196 (ab_o_ald 0 197) := ab_s_aload_n (k := 0) (n := 0) ab_dk79_3.2.2.2.2.2.2.2.2.2.2.2.2.2.2.1 rfl
theorem ab_s79_197 : ab_Sn B 79 197 (ab_o_geti 6 13 7 200) := ab_s_geti (i := 60) (ci := 2) (N := 13) (k := 7) (C := RX2) (T := TX2) ab_dk79_3.2.2.2.2.2.2.2.2.2.2.2.2.2.2.2.1 rfl (by decide) rfl wf_200
theorem ab_s79_200 : ab_Sn B 79 200 (ab_o_iret false) := ab_s_iret (b := false) (ty := .int) ab_dk79_4.1 rfl (Or.inl ⟨rfl, rfl⟩)
theorem ab_s79_201 : ab_Sn B 79 201 (ab_o_ald 0 202) := ab_s_aload_n (k := 0) (n := 0) ab_dk79_4.2.1 rfl
theorem ab_s79_202 : ab_Sn B 79 202 (ab_o_geti 6 13 12 205) := ab_s_geti (i := 270) (ci := 2) (N := 13) (k := 12) (C := RX2) (T := TX2) ab_dk79_4.2.2.1 rfl (by decide) rfl wf_371
theorem ab_s79_205 : ab_Sn B 79 205 (ab_o_iret false) := ab_s_iret (b := false) (ty := .int) ab_dk79_4.2.2.2.1 rfl (Or.inl ⟨rfl, rfl⟩)
theorem ab_s79_206 : ab_Sn B 79 206 (ab_o_throw 1) := ab_s_throwW (ik := 33) (is := 273) (ic := 37) (text := "what must be 0 to 16") (Or.inl rfl) (by decide +kernel) (by decide +kernel) (by decide +kernel) (by decide +kernel) (by decide +kernel) wf_179 wf_180 wf_372 wf_182 wf_183 (by decide +kernel)
theorem ab_sc79_3 : ab_all B 79 192 (ab_d79_3) := ⟨ab_s79_192, trivial, trivial, ab_s79_195, ab_s79_196, ab_s79_197, trivial, trivial, ab_s79_200, ab_s79_201, ab_s79_202, trivial, trivial, ab_s79_205, ab_s79_206, trivial⟩
theorem ab_sc79_2 : ab_all B 79 128 (ab_d79_2) := ⟨ab_s79_128, ab_s79_129, ab_s79_130, trivial, trivial, ab_s79_133, trivial, trivial, ab_s79_136, ab_s79_137, ab_s79_138, trivial, trivial, ab_s79_141, trivial, trivial, ab_s79_144, ab_s79_145, ab_s79_146, trivial, trivial, ab_s79_149, trivial, trivial, ab_s79_152, ab_s79_153, ab_s79_154, trivial, trivial, ab_s79_157, ab_s79_158, ab_s79_159, trivial, trivial, ab_s79_162, ab_s79_163, ab_s79_164, trivial, trivial, ab_s79_167, ab_s79_168, ab_s79_169, trivial, trivial, ab_s79_172, ab_s79_173, ab_s79_174, trivial, trivial, ab_s79_177, ab_s79_178, ab_s79_179, trivial, trivial, ab_s79_182, ab_s79_183, ab_s79_184, trivial, trivial, ab_s79_187, trivial, trivial, ab_s79_190, ab_s79_191, ab_sc79_3⟩
theorem ab_sc79_1 : ab_all B 79 64 (ab_d79_1) := ⟨trivial, trivial, trivial, trivial, trivial, trivial, trivial, trivial, trivial, trivial, trivial, trivial, trivial, trivial, trivial, trivial, trivial, trivial, trivial, trivial, ab_s79_84, ab_s79_85, trivial, trivial, ab_s79_88, trivial, trivial, ab_s79_91, ab_s79_92, ab_s79_93, trivial, trivial, ab_s79_96, trivial, trivial, ab_s79_99, ab_s79_100, ab_s79_101, trivial, trivial, ab_s79_104, trivial, trivial, ab_s79_107, ab_s79_108, ab_s79_109, trivial, trivial, ab_s79_112, trivial, trivial, ab_s79_115, ab_s79_116, trivial, trivial, ab_s79_119, ab_s79_120, ab_s79_121, ab_s79_122, trivial, trivial, ab_s79_125, trivial, trivial, ab_sc79_2⟩
theorem ab_sc79_0 : ab_all B 79 0 (ab_d79_0) := ⟨ab_s79_0, ab_s79_1, trivial, trivial, trivial, trivial, trivial, trivial, trivial, trivial, trivial, trivial, trivial, trivial, trivial, trivial, trivial, trivial, trivial, trivial, trivial, trivial, trivial, trivial, trivial, trivial, trivial, trivial, trivial, trivial, trivial, trivial, trivial, trivial, trivial, trivial, trivial, trivial, trivial, trivial, trivial, trivial, trivial, trivial, trivial, trivial, trivial, trivial, trivial, trivial, trivial, trivial, trivial, trivial, trivial, trivial, trivial, trivial, trivial, trivial, trivial, trivial, trivial, trivial, ab_sc79_1⟩
theorem ab_sn79 : ab_all B 79 0 (ab_c79) := by rw [ab_cd79]; exact ab_sc79_0
theorem ab_dk80_0 : ab_dp 80 [(0, .aload_n 0, 1), (1, .getfield 10, 3), (4, .iload_n 1, 1), (5, .invokevirtual 149, 3), (8, .ifCond .ne 13, 3), (21, .new 275, 3), (24, .dup, 1), (25, .invokespecial 277, 3), (28, .astore_n 2, 1), (29, .iconst 0, 1), (30, .istore_n 3, 1), (31, .iload_n 3, 1), (32, .aload_n 0, 1), (33, .getfield 10, 3), (36, .getfield 200, 3), (39, .if_icmp .ge 20, 3)] := ab_da (by decide +kernel)
theorem ab_dk80_1 : ab_dp 80 [(42, .aload_n 2, 1), (43, .aload_n 0, 1), (44, .iload_n 3, 1), (45, .iload_n 1, 1), (46, .invokevirtual 278, 3), (49, .invokevirtual 282, 3), (52, .pop, 1), (53, .iinc 3 1, 3), (56, .goto (-25), 3), (59, .aload_n 2, 1), (60, .invokevirtual 286, 3), (63, .areturn, 1)] := ab_da (by decide +kernel)
theorem ab_s80_0 : ab_Sn B 80 0 (ab_o_ald 0 1) := ab_s_aload_n (k := 0) (n := 0) ab_dk80_0.1 rfl
theorem ab_s80_1 : ab_Sn B 80 1 (ab_o_getr 6 13 0 4) := ab_s_getr (i := 10) (ci := 2) (N := 13) (k := 0) (C := RX2) (T := TX2) ab_dk80_0.2.1 rfl (by decide) rfl wf_168
theorem ab_s80_4 : ab_Sn B 80 4 (ab_o_ild 1 5) := ab_s_iload_n (k := 1) (n := 1) ab_dk80_0.2.2.1 rfl
theorem ab_s80_5 : ab_Sn B 80 5 (ab_o_call (some (4, 7)) [] 3 2 2 true 8) := ab_s_callV (M' := 3) (na := 1) (i := 149) (ci := 0) (N := 7) (C := RX0) (T := TX0) (v := true) (ab_hok_n (by decide +kernel)) (by decide +kernel) ab_dk80_0.2.2.2.1 rfl (by decide) (by decide +kernel) (by decide +kernel) (by decide) wf_263 wf_264 wf_265 wf_266 wf_15
theorem ab_s80_8 : ab_Sn B 80 8 (ab_o_if ab_ne 21 11) := ab_s_if_ne (tg := 21) (off := 13) ab_dk80_0.2.2.2.2.1 (by decide)
theorem ab_s80_11 : ab_Sn B 80 11 (ab_o_throw 2) := ab_s_throw (ik := 83) (is := 174) (ic := 87) (text := "no such stripe") (Or.inr (Or.inl rfl)) (by decide +kernel) (by decide +kernel) (by decide +kernel) (by decide +kernel) (by decide +kernel) wf_210 wf_211 wf_287 wf_213 wf_214 (by decide +kernel)
theorem ab_s80_21 : ab_Sn B 80 21 (ab_o_new 9 4 24) := ab_s_new (i := 275) (ci := 5) (N := 4) (C := RJ4) (T := TJ4) ab_dk80_0.2.2.2.2.2.1 rfl (by decide) wf_373 wf_374 wf_375 (by decide +kernel)
theorem ab_s80_24 : ab_Sn B 80 24 (ab_o_dup 25) := ab_s_dup ab_dk80_0.2.2.2.2.2.2.1
theorem ab_s80_25 : ab_Sn B 80 25 (ab_o_call (some (9, 4)) [] 202 1 1 false 28) := ab_s_callI (M' := 202) (na := 0) (i := 277) (sh := (9, 4)) (by decide) (ab_hok_n (by decide +kernel)) (by decide +kernel) ab_dk80_0.2.2.2.2.2.2.2.1 (by decide +kernel) (by decide +kernel) (by decide) rfl rfl wf_376 wf_379 wf_377 wf_378
theorem ab_s80_28 : ab_Sn B 80 28 (ab_o_ast 2 29) := ab_s_astore_n (k := 2) (n := 2) ab_dk80_0.2.2.2.2.2.2.2.2.1 rfl
theorem ab_s80_29 : ab_Sn B 80 29 (ab_o_const 0 30) := ab_s_iconst (n := 0) ab_dk80_0.2.2.2.2.2.2.2.2.2.1 rfl
theorem ab_s80_30 : ab_Sn B 80 30 (ab_o_ist 3 31) := ab_s_istore_n (k := 3) (n := 3) ab_dk80_0.2.2.2.2.2.2.2.2.2.2.1 rfl
theorem ab_s80_31 : ab_Sn B 80 31 (ab_o_ild 3 32) := ab_s_iload_n (k := 3) (n := 3) ab_dk80_0.2.2.2.2.2.2.2.2.2.2.2.1 rfl
theorem ab_s80_32 : ab_Sn B 80 32 (ab_o_ald 0 33) := ab_s_aload_n (k := 0) (n := 0) ab_dk80_0.2.2.2.2.2.2.2.2.2.2.2.2.1 rfl
theorem ab_s80_33 : ab_Sn B 80 33 (ab_o_getr 6 13 0 36) := ab_s_getr (i := 10) (ci := 2) (N := 13) (k := 0) (C := RX2) (T := TX2) ab_dk80_0.2.2.2.2.2.2.2.2.2.2.2.2.2.1 rfl (by decide) rfl wf_168
theorem ab_s80_36 : ab_Sn B 80 36 (ab_o_geti 4 7 0 39) := ab_s_geti (i := 200) (ci := 0) (N := 7) (k := 0) (C := RX0) (T := TX0) ab_dk80_0.2.2.2.2.2.2.2.2.2.2.2.2.2.2.1 rfl (by decide) rfl wf_306
theorem ab_s80_39 : ab_Sn B 80 39 (ab_o_icmp ab_ge 59 42) := ab_s_icmp_ge (tg := 59) (off := 20) ab_dk80_0.2.2.2.2.2.2.2.2.2.2.2.2.2.2.2.1 (by decide)
theorem ab_s80_42 : ab_Sn B 80 42 (ab_o_ald 2 43) := ab_s_aload_n (k := 2) (n := 2) ab_dk80_1.1 rfl
theorem ab_s80_43 : ab_Sn B 80 43 (ab_o_ald 0 44) := ab_s_aload_n (k := 0) (n := 0) ab_dk80_1.2.1 rfl
theorem ab_s80_44 : ab_Sn B 80 44 (ab_o_ild 3 45) := ab_s_iload_n (k := 3) (n := 3) ab_dk80_1.2.2.1 rfl
theorem ab_s80_45 : ab_Sn B 80 45 (ab_o_ild 1 46) := ab_s_iload_n (k := 1) (n := 1) ab_dk80_1.2.2.2.1 rfl
theorem ab_s80_46 : ab_Sn B 80 46 (ab_o_call (some (6, 13)) [] 88 3 3 true 49) := ab_s_callV (M' := 88) (na := 2) (i := 278) (ci := 2) (N := 13) (C := RX2) (T := TX2) (v := true) (ab_hok_n (by decide +kernel)) (by decide +kernel) ab_dk80_1.2.2.2.2.1 rfl (by decide) (by decide +kernel) (by decide +kernel) (by decide) wf_380 wf_381 wf_382 wf_383 wf_197
theorem ab_s80_49 : ab_Sn B 80 49 (ab_o_call (some (9, 4)) [] 203 2 2 true 52) := ab_s_callV (M' := 203) (na := 1) (i := 282) (ci := 5) (N := 4) (C := RJ4) (T := TJ4) (v := true) (ab_hok_n (by decide +kernel)) (by decide +kernel) ab_dk80_1.2.2.2.2.2.1 rfl (by decide) (by decide +kernel) (by decide +kernel) (by decide) wf_384 wf_385 wf_386 wf_387 wf_378
theorem ab_s80_52 : ab_Sn B 80 52 (ab_o_pop 53) := ab_s_pop ab_dk80_1.2.2.2.2.2.2.1
theorem ab_s80_53 : ab_Sn B 80 53 (ab_o_inc 3 1 56) := ab_s_iinc (k := 3) (n := 1) ab_dk80_1.2.2.2.2.2.2.2.1
theorem ab_s80_56 : ab_Sn B 80 56 (ab_o_goto 31) := ab_s_goto (tg := 31) (off := -25) ab_dk80_1.2.2.2.2.2.2.2.2.1 (by decide)
theorem ab_s80_59 : ab_Sn B 80 59 (ab_o_ald 2 60) := ab_s_aload_n (k := 2) (n := 2) ab_dk80_1.2.2.2.2.2.2.2.2.2.1 rfl
theorem ab_s80_60 : ab_Sn B 80 60 (ab_o_call (some (9, 4)) [] 205 1 1 true 63) := ab_s_callV (M' := 205) (na := 0) (i := 286) (ci := 5) (N := 4) (C := RJ4) (T := TJ4) (v := true) (ab_hok_n (by decide +kernel)) (by decide +kernel) ab_dk80_1.2.2.2.2.2.2.2.2.2.2.1 rfl (by decide) (by decide +kernel) (by decide +kernel) (by decide) wf_388 wf_389 wf_390 wf_391 wf_378
theorem ab_s80_63 : ab_Sn B 80 63 (ab_o_aret) := ab_s_aret (ty := (.object "java/lang/String")) ab_dk80_1.2.2.2.2.2.2.2.2.2.2.2.1 rfl (Or.inl ⟨_, rfl⟩)
set_option maxRecDepth 20000 in
theorem ab_sn80 : ab_all B 80 0 (ab_c80) := ⟨ab_s80_0, ab_s80_1, trivial, trivial, ab_s80_4, ab_s80_5, trivial, trivial, ab_s80_8, trivial, trivial, ab_s80_11, trivial, trivial, trivial, trivial, trivial, trivial, trivial, trivial, trivial, ab_s80_21, trivial, trivial, ab_s80_24, ab_s80_25, trivial, trivial, ab_s80_28, ab_s80_29, ab_s80_30, ab_s80_31, ab_s80_32, ab_s80_33, trivial, trivial, ab_s80_36, trivial, trivial, ab_s80_39, trivial, trivial, ab_s80_42, ab_s80_43, ab_s80_44, ab_s80_45, ab_s80_46, trivial, trivial, ab_s80_49, trivial, trivial, ab_s80_52, ab_s80_53, trivial, trivial, ab_s80_56, trivial, trivial, ab_s80_59, ab_s80_60, trivial, trivial, ab_s80_63, trivial⟩
theorem ab_dk81_0 : ab_dp 81 [(0, .iload_n 1, 1), (1, .ifCond .lt 10, 3), (4, .iload_n 1, 1), (5, .sipush 999, 3), (8, .if_icmp .le 14, 3), (22, .aload_n 0, 1), (23, .getfield 19, 3), (26, .iload_n 1, 1), (27, .invokevirtual 292, 3), (30, .ireturn, 1)] := ab_da (by decide +kernel)
theorem ab_s81_0 : ab_Sn B 81 0 (ab_o_ild 1 1) := ab_s_iload_n (k := 1) (n := 1) ab_dk81_0.1 rfl
theorem ab_s81_1 : ab_Sn B 81 1 (ab_o_if ab_lt 11 4) := ab_s_if_lt (tg := 11) (off := 10) ab_dk81_0.2.1 (by decide)
theorem ab_s81_4 : ab_Sn B 81 4 (ab_o_ild 1 5) := ab_s_iload_n (k := 1) (n := 1) ab_dk81_0.2.2.1 rfl
theorem ab_s81_5 : ab_Sn B 81 5 (ab_o_const 999 8) := ab_s_sipush (n := 999) ab_dk81_0.2.2.2.1 (by decide)
theorem ab_s81_8 : ab_Sn B 81 8 (ab_o_icmp ab_le 22 11) := ab_s_icmp_le (tg := 22) (off := 14) ab_dk81_0.2.2.2.2.1 (by decide)
theorem ab_s81_11 : ab_Sn B 81 11 (ab_o_throw 1) := ab_s_throwW (ik := 33) (is := 290) (ic := 37) (text := "tenth must be 0 to 999") (Or.inl rfl) (by decide +kernel) (by decide +kernel) (by decide +kernel) (by decide +kernel) (by decide +kernel) wf_179 wf_180 wf_392 wf_182 wf_183 (by decide +kernel)
theorem ab_s81_22 : ab_Sn B 81 22 (ab_o_ald 0 23) := ab_s_aload_n (k := 0) (n := 0) ab_dk81_0.2.2.2.2.2.1 rfl
theorem ab_s81_23 : ab_Sn B 81 23 (ab_o_getr 6 13 1 26) := ab_s_getr (i := 19) (ci := 2) (N := 13) (k := 1) (C := RX2) (T := TX2) ab_dk81_0.2.2.2.2.2.2.1 rfl (by decide) rfl wf_175
theorem ab_s81_26 : ab_Sn B 81 26 (ab_o_ild 1 27) := ab_s_iload_n (k := 1) (n := 1) ab_dk81_0.2.2.2.2.2.2.2.1 rfl
theorem ab_s81_27 : ab_Sn B 81 27 (ab_o_call (some (5, 15)) [] 46 2 2 true 30) := ab_s_callV (M' := 46) (na := 1) (i := 292) (ci := 1) (N := 15) (C := RX1) (T := TX1) (v := true) (ab_hok_n (by decide +kernel)) (by decide +kernel) ab_dk81_0.2.2.2.2.2.2.2.2.1 rfl (by decide) (by decide +kernel) (by decide +kernel) (by decide) wf_393 wf_394 wf_395 wf_396 wf_94
theorem ab_s81_30 : ab_Sn B 81 30 (ab_o_iret false) := ab_s_iret (b := false) (ty := .int) ab_dk81_0.2.2.2.2.2.2.2.2.2.1 rfl (Or.inl ⟨rfl, rfl⟩)
set_option maxRecDepth 20000 in
theorem ab_sn81 : ab_all B 81 0 (ab_c81) := ⟨ab_s81_0, ab_s81_1, trivial, trivial, ab_s81_4, ab_s81_5, trivial, trivial, ab_s81_8, trivial, trivial, ab_s81_11, trivial, trivial, trivial, trivial, trivial, trivial, trivial, trivial, trivial, trivial, ab_s81_22, ab_s81_23, trivial, trivial, ab_s81_26, ab_s81_27, trivial, trivial, ab_s81_30, trivial⟩
theorem ab_dk82_0 : ab_dp 82 [(0, .iload_n 1, 1), (1, .ifCond .lt 9, 3), (4, .iload_n 1, 1), (5, .bipush 20, 2), (7, .if_icmp .le 13, 3), (20, .aload_n 0, 1), (21, .getfield 10, 3), (24, .getfield 200, 3), (27, .ifCond .ne 13, 3), (40, .aload_n 0, 1), (41, .getfield 19, 3), (44, .iload_n 1, 1), (45, .invokevirtual 217, 3), (48, .ireturn, 1)] := ab_da (by decide +kernel)
theorem ab_s82_0 : ab_Sn B 82 0 (ab_o_ild 1 1) := ab_s_iload_n (k := 1) (n := 1) ab_dk82_0.1 rfl
theorem ab_s82_1 : ab_Sn B 82 1 (ab_o_if ab_lt 10 4) := ab_s_if_lt (tg := 10) (off := 9) ab_dk82_0.2.1 (by decide)
theorem ab_s82_4 : ab_Sn B 82 4 (ab_o_ild 1 5) := ab_s_iload_n (k := 1) (n := 1) ab_dk82_0.2.2.1 rfl
theorem ab_s82_5 : ab_Sn B 82 5 (ab_o_const 20 7) := ab_s_bipush (n := 20) ab_dk82_0.2.2.2.1 (by decide)
theorem ab_s82_7 : ab_Sn B 82 7 (ab_o_icmp ab_le 20 10) := ab_s_icmp_le (tg := 20) (off := 13) ab_dk82_0.2.2.2.2.1 (by decide)
theorem ab_s82_10 : ab_Sn B 82 10 (ab_o_throw 1) := ab_s_throw (ik := 33) (is := 213) (ic := 37) (text := "gap must be 0 to 20") (Or.inl rfl) (by decide +kernel) (by decide +kernel) (by decide +kernel) (by decide +kernel) (by decide +kernel) wf_179 wf_180 wf_317 wf_182 wf_183 (by decide +kernel)
theorem ab_s82_20 : ab_Sn B 82 20 (ab_o_ald 0 21) := ab_s_aload_n (k := 0) (n := 0) ab_dk82_0.2.2.2.2.2.1 rfl
theorem ab_s82_21 : ab_Sn B 82 21 (ab_o_getr 6 13 0 24) := ab_s_getr (i := 10) (ci := 2) (N := 13) (k := 0) (C := RX2) (T := TX2) ab_dk82_0.2.2.2.2.2.2.1 rfl (by decide) rfl wf_168
theorem ab_s82_24 : ab_Sn B 82 24 (ab_o_geti 4 7 0 27) := ab_s_geti (i := 200) (ci := 0) (N := 7) (k := 0) (C := RX0) (T := TX0) ab_dk82_0.2.2.2.2.2.2.2.1 rfl (by decide) rfl wf_306
theorem ab_s82_27 : ab_Sn B 82 27 (ab_o_if ab_ne 40 30) := ab_s_if_ne (tg := 40) (off := 13) ab_dk82_0.2.2.2.2.2.2.2.2.1 (by decide)
theorem ab_s82_30 : ab_Sn B 82 30 (ab_o_throw 3) := ab_s_throw (ik := 97) (is := 203) (ic := 101) (text := "there is no shelf") (Or.inr (Or.inr rfl)) (by decide +kernel) (by decide +kernel) (by decide +kernel) (by decide +kernel) (by decide +kernel) wf_218 wf_219 wf_307 wf_221 wf_222 (by decide +kernel)
theorem ab_s82_40 : ab_Sn B 82 40 (ab_o_ald 0 41) := ab_s_aload_n (k := 0) (n := 0) ab_dk82_0.2.2.2.2.2.2.2.2.2.1 rfl
theorem ab_s82_41 : ab_Sn B 82 41 (ab_o_getr 6 13 1 44) := ab_s_getr (i := 19) (ci := 2) (N := 13) (k := 1) (C := RX2) (T := TX2) ab_dk82_0.2.2.2.2.2.2.2.2.2.2.1 rfl (by decide) rfl wf_175
theorem ab_s82_44 : ab_Sn B 82 44 (ab_o_ild 1 45) := ab_s_iload_n (k := 1) (n := 1) ab_dk82_0.2.2.2.2.2.2.2.2.2.2.2.1 rfl
theorem ab_s82_45 : ab_Sn B 82 45 (ab_o_call (some (5, 15)) [] 48 5 2 true 48) := ab_s_callV (M' := 48) (na := 1) (i := 217) (ci := 1) (N := 15) (C := RX1) (T := TX1) (v := true) (ab_hok_n (by decide +kernel)) (by decide +kernel) ab_dk82_0.2.2.2.2.2.2.2.2.2.2.2.2.1 rfl (by decide) (by decide +kernel) (by decide +kernel) (by decide) wf_319 wf_320 wf_321 wf_322 wf_94
theorem ab_s82_48 : ab_Sn B 82 48 (ab_o_iret false) := ab_s_iret (b := false) (ty := .int) ab_dk82_0.2.2.2.2.2.2.2.2.2.2.2.2.2.1 rfl (Or.inl ⟨rfl, rfl⟩)
set_option maxRecDepth 20000 in
theorem ab_sn82 : ab_all B 82 0 (ab_c82) := ⟨ab_s82_0, ab_s82_1, trivial, trivial, ab_s82_4, ab_s82_5, trivial, ab_s82_7, trivial, trivial, ab_s82_10, trivial, trivial, trivial, trivial, trivial, trivial, trivial, trivial, trivial, ab_s82_20, ab_s82_21, trivial, trivial, ab_s82_24, trivial, trivial, ab_s82_27, trivial, trivial, ab_s82_30, trivial, trivial, trivial, trivial, trivial, trivial, trivial, trivial, trivial, ab_s82_40, ab_s82_41, trivial, trivial, ab_s82_44, ab_s82_45, trivial, trivial, ab_s82_48, trivial⟩
theorem ab_dk83_0 : ab_dp 83 [(0, .aload_n 0, 1), (1, .getfield 10, 3), (4, .iload_n 1, 1), (5, .invokevirtual 130, 3), (8, .ifCond .eq 14, 3), (11, .aload_n 0, 1), (12, .getfield 10, 3), (15, .iload_n 2, 1), (16, .invokevirtual 130, 3), (19, .ifCond .ne 13, 3), (32, .iload_n 1, 1), (33, .iload_n 2, 1), (34, .if_icmp .ne 14, 3), (48, .aload_n 0, 1), (49, .getfield 10, 3), (52, .iload_n 1, 1)] := ab_da (by decide +kernel)
theorem ab_dk83_1 : ab_dp 83 [(53, .iload_n 2, 1), (54, .invokevirtual 143, 3), (57, .ireturn, 1)] := ab_da (by decide +kernel)
theorem ab_s83_0 : ab_Sn B 83 0 (ab_o_ald 0 1) := ab_s_aload_n (k := 0) (n := 0) ab_dk83_0.1 rfl
theorem ab_s83_1 : ab_Sn B 83 1 (ab_o_getr 6 13 0 4) := ab_s_getr (i := 10) (ci := 2) (N := 13) (k := 0) (C := RX2) (T := TX2) ab_dk83_0.2.1 rfl (by decide) rfl wf_168
theorem ab_s83_4 : ab_Sn B 83 4 (ab_o_ild 1 5) := ab_s_iload_n (k := 1) (n := 1) ab_dk83_0.2.2.1 rfl
theorem ab_s83_5 : ab_Sn B 83 5 (ab_o_call (some (4, 7)) [] 2 2 2 true 8) := ab_s_callV (M' := 2) (na := 1) (i := 130) (ci := 0) (N := 7) (C := RX0) (T := TX0) (v := true) (ab_hok_n (by decide +kernel)) (by decide +kernel) ab_dk83_0.2.2.2.1 rfl (by decide) (by decide +kernel) (by decide +kernel) (by decide) wf_57 wf_247 wf_59 wf_60 wf_15
theorem ab_s83_8 : ab_Sn B 83 8 (ab_o_if ab_eq 22 11) := ab_s_if_eq (tg := 22) (off := 14) ab_dk83_0.2.2.2.2.1 (by decide)
theorem ab_s83_11 : ab_Sn B 83 11 (ab_o_ald 0 12) := ab_s_aload_n (k := 0) (n := 0) ab_dk83_0.2.2.2.2.2.1 rfl
theorem ab_s83_12 : ab_Sn B 83 12 (ab_o_getr 6 13 0 15) := ab_s_getr (i := 10) (ci := 2) (N := 13) (k := 0) (C := RX2) (T := TX2) ab_dk83_0.2.2.2.2.2.2.1 rfl (by decide) rfl wf_168
theorem ab_s83_15 : ab_Sn B 83 15 (ab_o_ild 2 16) := ab_s_iload_n (k := 2) (n := 2) ab_dk83_0.2.2.2.2.2.2.2.1 rfl
theorem ab_s83_16 : ab_Sn B 83 16 (ab_o_call (some (4, 7)) [] 2 2 2 true 19) := ab_s_callV (M' := 2) (na := 1) (i := 130) (ci := 0) (N := 7) (C := RX0) (T := TX0) (v := true) (ab_hok_n (by decide +kernel)) (by decide +kernel) ab_dk83_0.2.2.2.2.2.2.2.2.1 rfl (by decide) (by decide +kernel) (by decide +kernel) (by decide) wf_57 wf_247 wf_59 wf_60 wf_15
theorem ab_s83_19 : ab_Sn B 83 19 (ab_o_if ab_ne 32 22) := ab_s_if_ne (tg := 32) (off := 13) ab_dk83_0.2.2.2.2.2.2.2.2.2.1 (by decide)
theorem ab_s83_22 : ab_Sn B 83 22 (ab_o_throw 2) := ab_s_throw (ik := 83) (is := 133) (ic := 87) (text := "no such disk") (Or.inr (Or.inl rfl)) (by decide +kernel) (by decide +kernel) (by decide +kernel) (by decide +kernel) (by decide +kernel) wf_210 wf_211 wf_248 wf_213 wf_214 (by decide +kernel)
theorem ab_s83_32 : ab_Sn B 83 32 (ab_o_ild 1 33) := ab_s_iload_n (k := 1) (n := 1) ab_dk83_0.2.2.2.2.2.2.2.2.2.2.1 rfl
theorem ab_s83_33 : ab_Sn B 83 33 (ab_o_ild 2 34) := ab_s_iload_n (k := 2) (n := 2) ab_dk83_0.2.2.2.2.2.2.2.2.2.2.2.1 rfl
theorem ab_s83_34 : ab_Sn B 83 34 (ab_o_icmp ab_ne 48 37) := ab_s_icmp_ne (tg := 48) (off := 14) ab_dk83_0.2.2.2.2.2.2.2.2.2.2.2.2.1 (by decide)
theorem ab_s83_37 : ab_Sn B 83 37 (ab_o_throw 1) := ab_s_throwW (ik := 33) (is := 295) (ic := 37) (text := "both are the same disk") (Or.inl rfl) (by decide +kernel) (by decide +kernel) (by decide +kernel) (by decide +kernel) (by decide +kernel) wf_179 wf_180 wf_397 wf_182 wf_183 (by decide +kernel)
theorem ab_s83_48 : ab_Sn B 83 48 (ab_o_ald 0 49) := ab_s_aload_n (k := 0) (n := 0) ab_dk83_0.2.2.2.2.2.2.2.2.2.2.2.2.2.1 rfl
theorem ab_s83_49 : ab_Sn B 83 49 (ab_o_getr 6 13 0 52) := ab_s_getr (i := 10) (ci := 2) (N := 13) (k := 0) (C := RX2) (T := TX2) ab_dk83_0.2.2.2.2.2.2.2.2.2.2.2.2.2.2.1 rfl (by decide) rfl wf_168
theorem ab_s83_52 : ab_Sn B 83 52 (ab_o_ild 1 53) := ab_s_iload_n (k := 1) (n := 1) ab_dk83_0.2.2.2.2.2.2.2.2.2.2.2.2.2.2.2.1 rfl
theorem ab_s83_53 : ab_Sn B 83 53 (ab_o_ild 2 54) := ab_s_iload_n (k := 2) (n := 2) ab_dk83_1.1 rfl
theorem ab_s83_54 : ab_Sn B 83 54 (ab_o_call (some (4, 7)) [] 23 8 3 true 57) := ab_s_callV (M' := 23) (na := 2) (i := 143) (ci := 0) (N := 7) (C := RX0) (T := TX0) (v := true) (ab_hok_n (by decide +kernel)) (by decide +kernel) ab_dk83_1.2.1 rfl (by decide) (by decide +kernel) (by decide +kernel) (by decide) wf_255 wf_256 wf_257 wf_258 wf_15
theorem ab_s83_57 : ab_Sn B 83 57 (ab_o_iret false) := ab_s_iret (b := false) (ty := .int) ab_dk83_1.2.2.1 rfl (Or.inl ⟨rfl, rfl⟩)
set_option maxRecDepth 20000 in
theorem ab_sn83 : ab_all B 83 0 (ab_c83) := ⟨ab_s83_0, ab_s83_1, trivial, trivial, ab_s83_4, ab_s83_5, trivial, trivial, ab_s83_8, trivial, trivial, ab_s83_11, ab_s83_12, trivial, trivial, ab_s83_15, ab_s83_16, trivial, trivial, ab_s83_19, trivial, trivial, ab_s83_22, trivial, trivial, trivial, trivial, trivial, trivial, trivial, trivial, trivial, ab_s83_32, ab_s83_33, ab_s83_34, trivial, trivial, ab_s83_37, trivial, trivial, trivial, trivial, trivial, trivial, trivial, trivial, trivial, trivial, ab_s83_48, ab_s83_49, trivial, trivial, ab_s83_52, ab_s83_53, ab_s83_54, trivial, trivial, ab_s83_57, trivial⟩
theorem ab_dk84_0 : ab_dp 84 [(0, .aload_n 0, 1), (1, .getfield 10, 3), (4, .aload_n 0, 1), (5, .getfield 23, 3), (8, .invokevirtual 79, 3), (11, .ifCond .eq 17, 3), (14, .aload_n 0, 1), (15, .getfield 10, 3), (18, .aload_n 0, 1), (19, .getfield 23, 3), (22, .invokevirtual 90, 3), (25, .goto 4, 3), (28, .iconst (-1), 1), (29, .istore_n 1, 1), (30, .iconst 0, 1), (31, .istore_n 2, 1)] := ab_da (by decide +kernel)
theorem ab_dk84_1 : ab_dp 84 [(32, .iload_n 2, 1), (33, .aload_n 0, 1), (34, .getfield 10, 3), (37, .getfield 255, 3), (40, .if_icmp .ge 27, 3), (43, .iload_n 2, 1), (44, .iload_n 1, 1), (45, .if_icmp .eq 16, 3), (48, .aload_n 0, 1), (49, .getfield 10, 3), (52, .iload_n 2, 1), (53, .invokevirtual 297, 3), (56, .ifCond .ne 5, 3), (59, .iconst 0, 1), (60, .ireturn, 1), (61, .iinc 2 1, 3)] := ab_da (by decide +kernel)
theorem ab_dk84_2 : ab_dp 84 [(64, .goto (-32), 3), (67, .aload_n 0, 1), (68, .getfield 19, 3), (71, .invokevirtual 300, 3), (74, .ifCond .ne 7, 3), (77, .iconst 1, 1), (78, .goto 4, 3), (81, .iconst 0, 1), (82, .ireturn, 1)] := ab_da (by decide +kernel)
theorem ab_s84_0 : ab_Sn B 84 0 (ab_o_ald 0 1) := ab_s_aload_n (k := 0) (n := 0) ab_dk84_0.1 rfl
theorem ab_s84_1 : ab_Sn B 84 1 (ab_o_getr 6 13 0 4) := ab_s_getr (i := 10) (ci := 2) (N := 13) (k := 0) (C := RX2) (T := TX2) ab_dk84_0.2.1 rfl (by decide) rfl wf_168
theorem ab_s84_4 : ab_Sn B 84 4 (ab_o_ald 0 5) := ab_s_aload_n (k := 0) (n := 0) ab_dk84_0.2.2.1 rfl
theorem ab_s84_5 : ab_Sn B 84 5 (ab_o_geti 6 13 3 8) := ab_s_geti (i := 23) (ci := 2) (N := 13) (k := 3) (C := RX2) (T := TX2) ab_dk84_0.2.2.2.1 rfl (by decide) rfl wf_176
theorem ab_s84_8 : ab_Sn B 84 8 (ab_o_call (some (4, 7)) [] 4 2 2 true 11) := ab_s_callV (M' := 4) (na := 1) (i := 79) (ci := 0) (N := 7) (C := RX0) (T := TX0) (v := true) (ab_hok_n (by decide +kernel)) (by decide +kernel) ab_dk84_0.2.2.2.2.1 rfl (by decide) (by decide +kernel) (by decide +kernel) (by decide) wf_206 wf_207 wf_208 wf_209 wf_15
theorem ab_s84_11 : ab_Sn B 84 11 (ab_o_if ab_eq 28 14) := ab_s_if_eq (tg := 28) (off := 17) ab_dk84_0.2.2.2.2.2.1 (by decide)
theorem ab_s84_14 : ab_Sn B 84 14 (ab_o_ald 0 15) := ab_s_aload_n (k := 0) (n := 0) ab_dk84_0.2.2.2.2.2.2.1 rfl
theorem ab_s84_15 : ab_Sn B 84 15 (ab_o_getr 6 13 0 18) := ab_s_getr (i := 10) (ci := 2) (N := 13) (k := 0) (C := RX2) (T := TX2) ab_dk84_0.2.2.2.2.2.2.2.1 rfl (by decide) rfl wf_168
theorem ab_s84_18 : ab_Sn B 84 18 (ab_o_ald 0 19) := ab_s_aload_n (k := 0) (n := 0) ab_dk84_0.2.2.2.2.2.2.2.2.1 rfl
theorem ab_s84_19 : ab_Sn B 84 19 (ab_o_geti 6 13 3 22) := ab_s_geti (i := 23) (ci := 2) (N := 13) (k := 3) (C := RX2) (T := TX2) ab_dk84_0.2.2.2.2.2.2.2.2.2.1 rfl (by decide) rfl wf_176
theorem ab_s84_22 : ab_Sn B 84 22 (ab_o_call (some (4, 7)) [] 6 2 2 true 25) := ab_s_callV (M' := 6) (na := 1) (i := 90) (ci := 0) (N := 7) (C := RX0) (T := TX0) (v := true) (ab_hok_n (by decide +kernel)) (by decide +kernel) ab_dk84_0.2.2.2.2.2.2.2.2.2.2.1 rfl (by decide) (by decide +kernel) (by decide +kernel) (by decide) wf_21 wf_216 wf_23 wf_24 wf_15
theorem ab_s84_25 : ab_Sn B 84 25 (ab_o_goto 29) := ab_s_goto (tg := 29) (off := 4) ab_dk84_0.2.2.2.2.2.2.2.2.2.2.2.1 (by decide)
theorem ab_s84_28 : ab_Sn B 84 28 (ab_o_const (-1) 29) := ab_s_iconst (n := (-1)) ab_dk84_0.2.2.2.2.2.2.2.2.2.2.2.2.1 rfl
theorem ab_s84_29 : ab_Sn B 84 29 (ab_o_ist 1 30) := ab_s_istore_n (k := 1) (n := 1) ab_dk84_0.2.2.2.2.2.2.2.2.2.2.2.2.2.1 rfl
theorem ab_s84_30 : ab_Sn B 84 30 (ab_o_const 0 31) := ab_s_iconst (n := 0) ab_dk84_0.2.2.2.2.2.2.2.2.2.2.2.2.2.2.1 rfl
theorem ab_s84_31 : ab_Sn B 84 31 (ab_o_ist 2 32) := ab_s_istore_n (k := 2) (n := 2) ab_dk84_0.2.2.2.2.2.2.2.2.2.2.2.2.2.2.2.1 rfl
theorem ab_s84_32 : ab_Sn B 84 32 (ab_o_ild 2 33) := ab_s_iload_n (k := 2) (n := 2) ab_dk84_1.1 rfl
theorem ab_s84_33 : ab_Sn B 84 33 (ab_o_ald 0 34) := ab_s_aload_n (k := 0) (n := 0) ab_dk84_1.2.1 rfl
theorem ab_s84_34 : ab_Sn B 84 34 (ab_o_getr 6 13 0 37) := ab_s_getr (i := 10) (ci := 2) (N := 13) (k := 0) (C := RX2) (T := TX2) ab_dk84_1.2.2.1 rfl (by decide) rfl wf_168
theorem ab_s84_37 : ab_Sn B 84 37 (ab_o_geti 4 7 1 40) := ab_s_geti (i := 255) (ci := 0) (N := 7) (k := 1) (C := RX0) (T := TX0) ab_dk84_1.2.2.2.1 rfl (by decide) rfl wf_354
theorem ab_s84_40 : ab_Sn B 84 40 (ab_o_icmp ab_ge 67 43) := ab_s_icmp_ge (tg := 67) (off := 27) ab_dk84_1.2.2.2.2.1 (by decide)
theorem ab_s84_43 : ab_Sn B 84 43 (ab_o_ild 2 44) := ab_s_iload_n (k := 2) (n := 2) ab_dk84_1.2.2.2.2.2.1 rfl
theorem ab_s84_44 : ab_Sn B 84 44 (ab_o_ild 1 45) := ab_s_iload_n (k := 1) (n := 1) ab_dk84_1.2.2.2.2.2.2.1 rfl
theorem ab_s84_45 : ab_Sn B 84 45 (ab_o_icmp ab_eq 61 48) := ab_s_icmp_eq (tg := 61) (off := 16) ab_dk84_1.2.2.2.2.2.2.2.1 (by decide)
theorem ab_s84_48 : ab_Sn B 84 48 (ab_o_ald 0 49) := ab_s_aload_n (k := 0) (n := 0) ab_dk84_1.2.2.2.2.2.2.2.2.1 rfl
theorem ab_s84_49 : ab_Sn B 84 49 (ab_o_getr 6 13 0 52) := ab_s_getr (i := 10) (ci := 2) (N := 13) (k := 0) (C := RX2) (T := TX2) ab_dk84_1.2.2.2.2.2.2.2.2.2.1 rfl (by decide) rfl wf_168
theorem ab_s84_52 : ab_Sn B 84 52 (ab_o_ild 2 53) := ab_s_iload_n (k := 2) (n := 2) ab_dk84_1.2.2.2.2.2.2.2.2.2.2.1 rfl
theorem ab_s84_53 : ab_Sn B 84 53 (ab_o_call (some (4, 7)) [] 33 7 2 true 56) := ab_s_callV (M' := 33) (na := 1) (i := 297) (ci := 0) (N := 7) (C := RX0) (T := TX0) (v := true) (ab_hok_n (by decide +kernel)) (by decide +kernel) ab_dk84_1.2.2.2.2.2.2.2.2.2.2.2.1 rfl (by decide) (by decide +kernel) (by decide +kernel) (by decide) wf_398 wf_399 wf_400 wf_401 wf_15
theorem ab_s84_56 : ab_Sn B 84 56 (ab_o_if ab_ne 61 59) := ab_s_if_ne (tg := 61) (off := 5) ab_dk84_1.2.2.2.2.2.2.2.2.2.2.2.2.1 (by decide)
theorem ab_s84_59 : ab_Sn B 84 59 (ab_o_const 0 60) := ab_s_iconst (n := 0) ab_dk84_1.2.2.2.2.2.2.2.2.2.2.2.2.2.1 rfl
theorem ab_s84_60 : ab_Sn B 84 60 (ab_o_iret true) := ab_s_iret (b := true) (ty := .boolean) ab_dk84_1.2.2.2.2.2.2.2.2.2.2.2.2.2.2.1 rfl (Or.inr (Or.inl ⟨rfl, rfl⟩))
theorem ab_s84_61 : ab_Sn B 84 61 (ab_o_inc 2 1 64) := ab_s_iinc (k := 2) (n := 1) ab_dk84_1.2.2.2.2.2.2.2.2.2.2.2.2.2.2.2.1
theorem ab_s84_64 : ab_Sn B 84 64 (ab_o_goto 32) := ab_s_goto (tg := 32) (off := -32) ab_dk84_2.1 (by decide)
theorem ab_s84_67 : ab_Sn B 84 67 (ab_o_ald 0 68) := ab_s_aload_n (k := 0) (n := 0) ab_dk84_2.2.1 rfl
theorem ab_s84_68 : ab_Sn B 84 68 (ab_o_getr 6 13 1 71) := ab_s_getr (i := 19) (ci := 2) (N := 13) (k := 1) (C := RX2) (T := TX2) ab_dk84_2.2.2.1 rfl (by decide) rfl wf_175
theorem ab_s84_71 : ab_Sn B 84 71 (ab_o_call (some (5, 15)) [] 47 1 1 true 74) := ab_s_callV (M' := 47) (na := 0) (i := 300) (ci := 1) (N := 15) (C := RX1) (T := TX1) (v := true) (ab_hok_n (by decide +kernel)) (by decide +kernel) ab_dk84_2.2.2.2.1 rfl (by decide) (by decide +kernel) (by decide +kernel) (by decide) wf_402 wf_403 wf_404 wf_405 wf_94
theorem ab_s84_74 : ab_Sn B 84 74 (ab_o_if ab_ne 81 77) := ab_s_if_ne (tg := 81) (off := 7) ab_dk84_2.2.2.2.2.1 (by decide)
theorem ab_s84_77 : ab_Sn B 84 77 (ab_o_const 1 78) := ab_s_iconst (n := 1) ab_dk84_2.2.2.2.2.2.1 rfl
theorem ab_s84_78 : ab_Sn B 84 78 (ab_o_goto 82) := ab_s_goto (tg := 82) (off := 4) ab_dk84_2.2.2.2.2.2.2.1 (by decide)
theorem ab_s84_81 : ab_Sn B 84 81 (ab_o_const 0 82) := ab_s_iconst (n := 0) ab_dk84_2.2.2.2.2.2.2.2.1 rfl
theorem ab_s84_82 : ab_Sn B 84 82 (ab_o_iret true) := ab_s_iret (b := true) (ty := .boolean) ab_dk84_2.2.2.2.2.2.2.2.2.1 rfl (Or.inr (Or.inl ⟨rfl, rfl⟩))
set_option maxRecDepth 20000 in
theorem ab_sn84 : ab_all B 84 0 (ab_c84) := ⟨ab_s84_0, ab_s84_1, trivial, trivial, ab_s84_4, ab_s84_5, trivial, trivial, ab_s84_8, trivial, trivial, ab_s84_11, trivial, trivial, ab_s84_14, ab_s84_15, trivial, trivial, ab_s84_18, ab_s84_19, trivial, trivial, ab_s84_22, trivial, trivial, ab_s84_25, trivial, trivial, ab_s84_28, ab_s84_29, ab_s84_30, ab_s84_31, ab_s84_32, ab_s84_33, ab_s84_34, trivial, trivial, ab_s84_37, trivial, trivial, ab_s84_40, trivial, trivial, ab_s84_43, ab_s84_44, ab_s84_45, trivial, trivial, ab_s84_48, ab_s84_49, trivial, trivial, ab_s84_52, ab_s84_53, trivial, trivial, ab_s84_56, trivial, trivial, ab_s84_59, ab_s84_60, ab_s84_61, trivial, trivial, ab_s84_64, trivial, trivial, ab_s84_67, ab_s84_68, trivial, trivial, ab_s84_71, trivial, trivial, ab_s84_74, trivial, trivial, ab_s84_77, ab_s84_78, trivial, trivial, ab_s84_81, ab_s84_82, trivial⟩
theorem ab_dk85_0 : ab_dp 85 [(0, .aload_n 0, 1), (1, .dup, 1), (2, .getfield 270, 3), (5, .iconst 1, 1), (6, .iadd, 1), (7, .putfield 270, 3), (10, .aload_n 0, 1), (11, .getfield 270, 3), (14, .ireturn, 1)] := ab_da (by decide +kernel)
theorem ab_s85_0 : ab_Sn B 85 0 (ab_o_ald 0 1) := ab_s_aload_n (k := 0) (n := 0) ab_dk85_0.1 rfl
theorem ab_s85_1 : ab_Sn B 85 1 (ab_o_dup 2) := ab_s_dup ab_dk85_0.2.1
theorem ab_s85_2 : ab_Sn B 85 2 (ab_o_geti 6 13 12 5) := ab_s_geti (i := 270) (ci := 2) (N := 13) (k := 12) (C := RX2) (T := TX2) ab_dk85_0.2.2.1 rfl (by decide) rfl wf_371
theorem ab_s85_5 : ab_Sn B 85 5 (ab_o_const 1 6) := ab_s_iconst (n := 1) ab_dk85_0.2.2.2.1 rfl
theorem ab_s85_6 : ab_Sn B 85 6 (ab_o_bin (fun a b => a + b) 7) := ab_s_iadd ab_dk85_0.2.2.2.2.1
theorem ab_s85_7 : ab_Sn B 85 7 (ab_o_puti 6 13 12 false 10) := ab_s_puti (b := false) (ty := .int) (i := 270) (ci := 2) (N := 13) (k := 12) (C := RX2) (T := TX2) ab_dk85_0.2.2.2.2.2.1 rfl (by decide) rfl wf_371 rfl (by decide +kernel) (Or.inl ⟨rfl, rfl⟩)
theorem ab_s85_10 : ab_Sn B 85 10 (ab_o_ald 0 11) := ab_s_aload_n (k := 0) (n := 0) ab_dk85_0.2.2.2.2.2.2.1 rfl
theorem ab_s85_11 : ab_Sn B 85 11 (ab_o_geti 6 13 12 14) := ab_s_geti (i := 270) (ci := 2) (N := 13) (k := 12) (C := RX2) (T := TX2) ab_dk85_0.2.2.2.2.2.2.2.1 rfl (by decide) rfl wf_371
theorem ab_s85_14 : ab_Sn B 85 14 (ab_o_iret false) := ab_s_iret (b := false) (ty := .int) ab_dk85_0.2.2.2.2.2.2.2.2.1 rfl (Or.inl ⟨rfl, rfl⟩)
set_option maxRecDepth 20000 in
theorem ab_sn85 : ab_all B 85 0 (ab_c85) := ⟨ab_s85_0, ab_s85_1, ab_s85_2, trivial, trivial, ab_s85_5, ab_s85_6, ab_s85_7, trivial, trivial, ab_s85_10, ab_s85_11, trivial, trivial, ab_s85_14, trivial⟩
theorem ab_dk86_0 : ab_dp 86 [(0, .ldc2_w 304, 3), (3, .lstore_n 1, 1), (4, .iconst 0, 1), (5, .istore_n 3, 1), (6, .iload_n 3, 1), (7, .bipush 16, 2), (9, .if_icmp .gt 22, 3), (12, .lload_n 1, 1), (13, .ldc2_w 306, 3), (16, .lmul, 1), (17, .aload_n 0, 1), (18, .iload_n 3, 1), (19, .invokevirtual 308, 3), (22, .i2l, 1), (23, .ladd, 1), (24, .lstore_n 1, 1)] := ab_da (by decide +kernel)
theorem ab_dk86_1 : ab_dp 86 [(25, .iinc 3 1, 3), (28, .goto (-22), 3), (31, .iconst 0, 1), (32, .istore_n 3, 1), (33, .iload_n 3, 1), (34, .aload_n 0, 1), (35, .getfield 10, 3), (38, .getfield 200, 3), (41, .if_icmp .ge 40, 3), (44, .iconst 0, 1), (45, .istore 4, 2), (47, .iload 4, 2), (49, .bipush 7, 2), (51, .if_icmp .gt 24, 3), (54, .lload_n 1, 1), (55, .ldc2_w 306, 3)] := ab_da (by decide +kernel)
theorem ab_dk86_2 : ab_dp 86 [(58, .lmul, 1), (59, .aload_n 0, 1), (60, .iload_n 3, 1), (61, .iload 4, 2), (63, .invokevirtual 311, 3), (66, .i2l, 1), (67, .ladd, 1), (68, .lstore_n 1, 1), (69, .iinc 4 1, 3), (72, .goto (-25), 3), (75, .iinc 3 1, 3), (78, .goto (-45), 3), (81, .aload_n 0, 1), (82, .lload_n 1, 1), (83, .invokevirtual 314, 3), (86, .lstore_n 1, 1)] := ab_da (by decide +kernel)
theorem ab_dk86_3 : ab_dp 86 [(87, .iconst 0, 1), (88, .istore_n 3, 1), (89, .iload_n 3, 1), (90, .aload_n 0, 1), (91, .getfield 10, 3), (94, .invokevirtual 75, 3), (97, .if_icmp .ge 39, 3), (100, .iconst 0, 1), (101, .istore 4, 2), (103, .iload 4, 2), (105, .iconst 3, 1), (106, .if_icmp .gt 24, 3), (109, .lload_n 1, 1), (110, .ldc2_w 306, 3), (113, .lmul, 1), (114, .aload_n 0, 1)] := ab_da (by decide +kernel)
theorem ab_dk86_4 : ab_dp 86 [(115, .iload_n 3, 1), (116, .iload 4, 2), (118, .invokevirtual 318, 3), (121, .i2l, 1), (122, .ladd, 1), (123, .lstore_n 1, 1), (124, .iinc 4 1, 3), (127, .goto (-24), 3), (130, .iinc 3 1, 3), (133, .goto (-44), 3), (136, .iconst 0, 1), (137, .istore_n 3, 1), (138, .iload_n 3, 1), (139, .iconst 2, 1), (140, .if_icmp .gt 22, 3), (143, .lload_n 1, 1)] := ab_da (by decide +kernel)
theorem ab_dk86_5 : ab_dp 86 [(144, .ldc2_w 306, 3), (147, .lmul, 1), (148, .aload_n 0, 1), (149, .iload_n 3, 1), (150, .invokevirtual 321, 3), (153, .i2l, 1), (154, .ladd, 1), (155, .lstore_n 1, 1), (156, .iinc 3 1, 3), (159, .goto (-21), 3), (162, .iconst 0, 1), (163, .istore_n 3, 1), (164, .iload_n 3, 1), (165, .bipush 9, 2), (167, .if_icmp .gt 22, 3), (170, .lload_n 1, 1)] := ab_da (by decide +kernel)
theorem ab_dk86_6 : ab_dp 86 [(171, .ldc2_w 306, 3), (174, .lmul, 1), (175, .aload_n 0, 1), (176, .iload_n 3, 1), (177, .invokevirtual 324, 3), (180, .i2l, 1), (181, .ladd, 1), (182, .lstore_n 1, 1), (183, .iinc 3 1, 3), (186, .goto (-22), 3), (189, .lload_n 1, 1), (190, .ldc2_w 306, 3), (193, .lmul, 1), (194, .aload_n 0, 1), (195, .invokevirtual 327, 3), (198, .ifCond .eq 7, 3)] := ab_da (by decide +kernel)
theorem ab_dk86_7 : ab_dp 86 [(201, .iconst 1, 1), (202, .goto 4, 3), (205, .iconst 0, 1), (206, .i2l, 1), (207, .ladd, 1), (208, .lreturn, 1)] := ab_da (by decide +kernel)
theorem ab_s86_0 : ab_Sn B 86 0 (ab_o_lconst 6661 3) := ab_s_ldc2 (i := 304) ab_dk86_0.1 wf_406
theorem ab_s86_3 : ab_Sn B 86 3 (ab_o_lst 1 4) := ab_s_lstore_n (k := 1) (n := 1) ab_dk86_0.2.1 rfl
theorem ab_s86_4 : ab_Sn B 86 4 (ab_o_const 0 5) := ab_s_iconst (n := 0) ab_dk86_0.2.2.1 rfl
theorem ab_s86_5 : ab_Sn B 86 5 (ab_o_ist 3 6) := ab_s_istore_n (k := 3) (n := 3) ab_dk86_0.2.2.2.1 rfl
theorem ab_s86_6 : ab_Sn B 86 6 (ab_o_ild 3 7) := ab_s_iload_n (k := 3) (n := 3) ab_dk86_0.2.2.2.2.1 rfl
theorem ab_s86_7 : ab_Sn B 86 7 (ab_o_const 16 9) := ab_s_bipush (n := 16) ab_dk86_0.2.2.2.2.2.1 (by decide)
theorem ab_s86_9 : ab_Sn B 86 9 (ab_o_icmp ab_gt 31 12) := ab_s_icmp_gt (tg := 31) (off := 22) ab_dk86_0.2.2.2.2.2.2.1 (by decide)
theorem ab_s86_12 : ab_Sn B 86 12 (ab_o_lld 1 13) := ab_s_lload_n (k := 1) (n := 1) ab_dk86_0.2.2.2.2.2.2.2.1 rfl
theorem ab_s86_13 : ab_Sn B 86 13 (ab_o_lconst 31 16) := ab_s_ldc2 (i := 306) ab_dk86_0.2.2.2.2.2.2.2.2.1 wf_407
theorem ab_s86_16 : ab_Sn B 86 16 (ab_o_lbin (fun a b => a * b) 17) := ab_s_lmul ab_dk86_0.2.2.2.2.2.2.2.2.2.1
theorem ab_s86_17 : ab_Sn B 86 17 (ab_o_ald 0 18) := ab_s_aload_n (k := 0) (n := 0) ab_dk86_0.2.2.2.2.2.2.2.2.2.2.1 rfl
theorem ab_s86_18 : ab_Sn B 86 18 (ab_o_ild 3 19) := ab_s_iload_n (k := 3) (n := 3) ab_dk86_0.2.2.2.2.2.2.2.2.2.2.2.1 rfl
theorem ab_s86_19 : ab_Sn B 86 19 (ab_o_call (some (6, 13)) [] 79 2 2 true 22) := ab_s_callV (M' := 79) (na := 1) (i := 308) (ci := 2) (N := 13) (C := RX2) (T := TX2) (v := true) (ab_hok_n (by decide +kernel)) (by decide +kernel) ab_dk86_0.2.2.2.2.2.2.2.2.2.2.2.2.1 rfl (by decide) (by decide +kernel) (by decide +kernel) (by decide) wf_408 wf_409 wf_410 wf_411 wf_197
theorem ab_s86_22 : ab_Sn B 86 22 (ab_o_i2l 23) := ab_s_i2l ab_dk86_0.2.2.2.2.2.2.2.2.2.2.2.2.2.1
theorem ab_s86_23 : ab_Sn B 86 23 (ab_o_lbin (fun a b => a + b) 24) := ab_s_ladd ab_dk86_0.2.2.2.2.2.2.2.2.2.2.2.2.2.2.1
theorem ab_s86_24 : ab_Sn B 86 24 (ab_o_lst 1 25) := ab_s_lstore_n (k := 1) (n := 1) ab_dk86_0.2.2.2.2.2.2.2.2.2.2.2.2.2.2.2.1 rfl
theorem ab_s86_25 : ab_Sn B 86 25 (ab_o_inc 3 1 28) := ab_s_iinc (k := 3) (n := 1) ab_dk86_1.1
theorem ab_s86_28 : ab_Sn B 86 28 (ab_o_goto 6) := ab_s_goto (tg := 6) (off := -22) ab_dk86_1.2.1 (by decide)
theorem ab_s86_31 : ab_Sn B 86 31 (ab_o_const 0 32) := ab_s_iconst (n := 0) ab_dk86_1.2.2.1 rfl
theorem ab_s86_32 : ab_Sn B 86 32 (ab_o_ist 3 33) := ab_s_istore_n (k := 3) (n := 3) ab_dk86_1.2.2.2.1 rfl
theorem ab_s86_33 : ab_Sn B 86 33 (ab_o_ild 3 34) := ab_s_iload_n (k := 3) (n := 3) ab_dk86_1.2.2.2.2.1 rfl
theorem ab_s86_34 : ab_Sn B 86 34 (ab_o_ald 0 35) := ab_s_aload_n (k := 0) (n := 0) ab_dk86_1.2.2.2.2.2.1 rfl
theorem ab_s86_35 : ab_Sn B 86 35 (ab_o_getr 6 13 0 38) := ab_s_getr (i := 10) (ci := 2) (N := 13) (k := 0) (C := RX2) (T := TX2) ab_dk86_1.2.2.2.2.2.2.1 rfl (by decide) rfl wf_168
theorem ab_s86_38 : ab_Sn B 86 38 (ab_o_geti 4 7 0 41) := ab_s_geti (i := 200) (ci := 0) (N := 7) (k := 0) (C := RX0) (T := TX0) ab_dk86_1.2.2.2.2.2.2.2.1 rfl (by decide) rfl wf_306
theorem ab_s86_41 : ab_Sn B 86 41 (ab_o_icmp ab_ge 81 44) := ab_s_icmp_ge (tg := 81) (off := 40) ab_dk86_1.2.2.2.2.2.2.2.2.1 (by decide)
theorem ab_s86_44 : ab_Sn B 86 44 (ab_o_const 0 45) := ab_s_iconst (n := 0) ab_dk86_1.2.2.2.2.2.2.2.2.2.1 rfl
theorem ab_s86_45 : ab_Sn B 86 45 (ab_o_ist 4 47) := ab_s_istore (k := 4) ab_dk86_1.2.2.2.2.2.2.2.2.2.2.1
theorem ab_s86_47 : ab_Sn B 86 47 (ab_o_ild 4 49) := ab_s_iload (k := 4) ab_dk86_1.2.2.2.2.2.2.2.2.2.2.2.1
theorem ab_s86_49 : ab_Sn B 86 49 (ab_o_const 7 51) := ab_s_bipush (n := 7) ab_dk86_1.2.2.2.2.2.2.2.2.2.2.2.2.1 (by decide)
theorem ab_s86_51 : ab_Sn B 86 51 (ab_o_icmp ab_gt 75 54) := ab_s_icmp_gt (tg := 75) (off := 24) ab_dk86_1.2.2.2.2.2.2.2.2.2.2.2.2.2.1 (by decide)
theorem ab_s86_54 : ab_Sn B 86 54 (ab_o_lld 1 55) := ab_s_lload_n (k := 1) (n := 1) ab_dk86_1.2.2.2.2.2.2.2.2.2.2.2.2.2.2.1 rfl
theorem ab_s86_55 : ab_Sn B 86 55 (ab_o_lconst 31 58) := ab_s_ldc2 (i := 306) ab_dk86_1.2.2.2.2.2.2.2.2.2.2.2.2.2.2.2.1 wf_407
theorem ab_s86_58 : ab_Sn B 86 58 (ab_o_lbin (fun a b => a * b) 59) := ab_s_lmul ab_dk86_2.1
theorem ab_s86_59 : ab_Sn B 86 59 (ab_o_ald 0 60) := ab_s_aload_n (k := 0) (n := 0) ab_dk86_2.2.1 rfl
theorem ab_s86_60 : ab_Sn B 86 60 (ab_o_ild 3 61) := ab_s_iload_n (k := 3) (n := 3) ab_dk86_2.2.2.1 rfl
theorem ab_s86_61 : ab_Sn B 86 61 (ab_o_ild 4 63) := ab_s_iload (k := 4) ab_dk86_2.2.2.2.1
theorem ab_s86_63 : ab_Sn B 86 63 (ab_o_call (some (6, 13)) [] 76 3 3 true 66) := ab_s_callV (M' := 76) (na := 2) (i := 311) (ci := 2) (N := 13) (C := RX2) (T := TX2) (v := true) (ab_hok_n (by decide +kernel)) (by decide +kernel) ab_dk86_2.2.2.2.2.1 rfl (by decide) (by decide +kernel) (by decide +kernel) (by decide) wf_412 wf_413 wf_414 wf_415 wf_197
theorem ab_s86_66 : ab_Sn B 86 66 (ab_o_i2l 67) := ab_s_i2l ab_dk86_2.2.2.2.2.2.1
theorem ab_s86_67 : ab_Sn B 86 67 (ab_o_lbin (fun a b => a + b) 68) := ab_s_ladd ab_dk86_2.2.2.2.2.2.2.1
theorem ab_s86_68 : ab_Sn B 86 68 (ab_o_lst 1 69) := ab_s_lstore_n (k := 1) (n := 1) ab_dk86_2.2.2.2.2.2.2.2.1 rfl
theorem ab_s86_69 : ab_Sn B 86 69 (ab_o_inc 4 1 72) := ab_s_iinc (k := 4) (n := 1) ab_dk86_2.2.2.2.2.2.2.2.2.1
theorem ab_s86_72 : ab_Sn B 86 72 (ab_o_goto 47) := ab_s_goto (tg := 47) (off := -25) ab_dk86_2.2.2.2.2.2.2.2.2.2.1 (by decide)
theorem ab_s86_75 : ab_Sn B 86 75 (ab_o_inc 3 1 78) := ab_s_iinc (k := 3) (n := 1) ab_dk86_2.2.2.2.2.2.2.2.2.2.2.1
theorem ab_s86_78 : ab_Sn B 86 78 (ab_o_goto 33) := ab_s_goto (tg := 33) (off := -45) ab_dk86_2.2.2.2.2.2.2.2.2.2.2.2.1 (by decide)
theorem ab_s86_81 : ab_Sn B 86 81 (ab_o_ald 0 82) := ab_s_aload_n (k := 0) (n := 0) ab_dk86_2.2.2.2.2.2.2.2.2.2.2.2.2.1 rfl
theorem ab_s86_82 : ab_Sn B 86 82 (ab_o_lld 1 83) := ab_s_lload_n (k := 1) (n := 1) ab_dk86_2.2.2.2.2.2.2.2.2.2.2.2.2.2.1 rfl
theorem ab_s86_83 : ab_Sn B 86 83 (ab_o_call (some (6, 13)) [] 87 8 2 true 86) := ab_s_callV (M' := 87) (na := 1) (i := 314) (ci := 2) (N := 13) (C := RX2) (T := TX2) (v := true) (ab_hok_n (by decide +kernel)) (by decide +kernel) ab_dk86_2.2.2.2.2.2.2.2.2.2.2.2.2.2.2.1 rfl (by decide) (by decide +kernel) (by decide +kernel) (by decide) wf_416 wf_417 wf_418 wf_419 wf_197
theorem ab_s86_86 : ab_Sn B 86 86 (ab_o_lst 1 87) := ab_s_lstore_n (k := 1) (n := 1) ab_dk86_2.2.2.2.2.2.2.2.2.2.2.2.2.2.2.2.1 rfl
theorem ab_s86_87 : ab_Sn B 86 87 (ab_o_const 0 88) := ab_s_iconst (n := 0) ab_dk86_3.1 rfl
theorem ab_s86_88 : ab_Sn B 86 88 (ab_o_ist 3 89) := ab_s_istore_n (k := 3) (n := 3) ab_dk86_3.2.1 rfl
theorem ab_s86_89 : ab_Sn B 86 89 (ab_o_ild 3 90) := ab_s_iload_n (k := 3) (n := 3) ab_dk86_3.2.2.1 rfl
theorem ab_s86_90 : ab_Sn B 86 90 (ab_o_ald 0 91) := ab_s_aload_n (k := 0) (n := 0) ab_dk86_3.2.2.2.1 rfl
theorem ab_s86_91 : ab_Sn B 86 91 (ab_o_getr 6 13 0 94) := ab_s_getr (i := 10) (ci := 2) (N := 13) (k := 0) (C := RX2) (T := TX2) ab_dk86_3.2.2.2.2.1 rfl (by decide) rfl wf_168
theorem ab_s86_94 : ab_Sn B 86 94 (ab_o_call (some (4, 7)) [] 5 1 1 true 97) := ab_s_callV (M' := 5) (na := 0) (i := 75) (ci := 0) (N := 7) (C := RX0) (T := TX0) (v := true) (ab_hok_n (by decide +kernel)) (by decide +kernel) ab_dk86_3.2.2.2.2.2.1 rfl (by decide) (by decide +kernel) (by decide +kernel) (by decide) wf_17 wf_205 wf_19 wf_20 wf_15
theorem ab_s86_97 : ab_Sn B 86 97 (ab_o_icmp ab_ge 136 100) := ab_s_icmp_ge (tg := 136) (off := 39) ab_dk86_3.2.2.2.2.2.2.1 (by decide)
theorem ab_s86_100 : ab_Sn B 86 100 (ab_o_const 0 101) := ab_s_iconst (n := 0) ab_dk86_3.2.2.2.2.2.2.2.1 rfl
theorem ab_s86_101 : ab_Sn B 86 101 (ab_o_ist 4 103) := ab_s_istore (k := 4) ab_dk86_3.2.2.2.2.2.2.2.2.1
theorem ab_s86_103 : ab_Sn B 86 103 (ab_o_ild 4 105) := ab_s_iload (k := 4) ab_dk86_3.2.2.2.2.2.2.2.2.2.1
theorem ab_s86_105 : ab_Sn B 86 105 (ab_o_const 3 106) := ab_s_iconst (n := 3) ab_dk86_3.2.2.2.2.2.2.2.2.2.2.1 rfl
theorem ab_s86_106 : ab_Sn B 86 106 (ab_o_icmp ab_gt 130 109) := ab_s_icmp_gt (tg := 130) (off := 24) ab_dk86_3.2.2.2.2.2.2.2.2.2.2.2.1 (by decide)
theorem ab_s86_109 : ab_Sn B 86 109 (ab_o_lld 1 110) := ab_s_lload_n (k := 1) (n := 1) ab_dk86_3.2.2.2.2.2.2.2.2.2.2.2.2.1 rfl
theorem ab_s86_110 : ab_Sn B 86 110 (ab_o_lconst 31 113) := ab_s_ldc2 (i := 306) ab_dk86_3.2.2.2.2.2.2.2.2.2.2.2.2.2.1 wf_407
theorem ab_s86_113 : ab_Sn B 86 113 (ab_o_lbin (fun a b => a * b) 114) := ab_s_lmul ab_dk86_3.2.2.2.2.2.2.2.2.2.2.2.2.2.2.1
theorem ab_s86_114 : ab_Sn B 86 114 (ab_o_ald 0 115) := ab_s_aload_n (k := 0) (n := 0) ab_dk86_3.2.2.2.2.2.2.2.2.2.2.2.2.2.2.2.1 rfl
theorem ab_s86_115 : ab_Sn B 86 115 (ab_o_ild 3 116) := ab_s_iload_n (k := 3) (n := 3) ab_dk86_4.1 rfl
theorem ab_s86_116 : ab_Sn B 86 116 (ab_o_ild 4 118) := ab_s_iload (k := 4) ab_dk86_4.2.1
theorem ab_s86_118 : ab_Sn B 86 118 (ab_o_call (some (6, 13)) [] 77 5 3 true 121) := ab_s_callV (M' := 77) (na := 2) (i := 318) (ci := 2) (N := 13) (C := RX2) (T := TX2) (v := true) (ab_hok_n (by decide +kernel)) (by decide +kernel) ab_dk86_4.2.2.1 rfl (by decide) (by decide +kernel) (by decide +kernel) (by decide) wf_420 wf_421 wf_422 wf_423 wf_197
theorem ab_s86_121 : ab_Sn B 86 121 (ab_o_i2l 122) := ab_s_i2l ab_dk86_4.2.2.2.1
theorem ab_s86_122 : ab_Sn B 86 122 (ab_o_lbin (fun a b => a + b) 123) := ab_s_ladd ab_dk86_4.2.2.2.2.1
theorem ab_s86_123 : ab_Sn B 86 123 (ab_o_lst 1 124) := ab_s_lstore_n (k := 1) (n := 1) ab_dk86_4.2.2.2.2.2.1 rfl
theorem ab_s86_124 : ab_Sn B 86 124 (ab_o_inc 4 1 127) := ab_s_iinc (k := 4) (n := 1) ab_dk86_4.2.2.2.2.2.2.1
theorem ab_s86_127 : ab_Sn B 86 127 (ab_o_goto 103) := ab_s_goto (tg := 103) (off := -24) ab_dk86_4.2.2.2.2.2.2.2.1 (by decide)
theorem ab_s86_130 : ab_Sn B 86 130 (ab_o_inc 3 1 133) := ab_s_iinc (k := 3) (n := 1) ab_dk86_4.2.2.2.2.2.2.2.2.1
theorem ab_s86_133 : ab_Sn B 86 133 (ab_o_goto 89) := ab_s_goto (tg := 89) (off := -44) ab_dk86_4.2.2.2.2.2.2.2.2.2.1 (by decide)
theorem ab_s86_136 : ab_Sn B 86 136 (ab_o_const 0 137) := ab_s_iconst (n := 0) ab_dk86_4.2.2.2.2.2.2.2.2.2.2.1 rfl
theorem ab_s86_137 : ab_Sn B 86 137 (ab_o_ist 3 138) := ab_s_istore_n (k := 3) (n := 3) ab_dk86_4.2.2.2.2.2.2.2.2.2.2.2.1 rfl
theorem ab_s86_138 : ab_Sn B 86 138 (ab_o_ild 3 139) := ab_s_iload_n (k := 3) (n := 3) ab_dk86_4.2.2.2.2.2.2.2.2.2.2.2.2.1 rfl
theorem ab_s86_139 : ab_Sn B 86 139 (ab_o_const 2 140) := ab_s_iconst (n := 2) ab_dk86_4.2.2.2.2.2.2.2.2.2.2.2.2.2.1 rfl
theorem ab_s86_140 : ab_Sn B 86 140 (ab_o_icmp ab_gt 162 143) := ab_s_icmp_gt (tg := 162) (off := 22) ab_dk86_4.2.2.2.2.2.2.2.2.2.2.2.2.2.2.1 (by decide)
theorem ab_s86_143 : ab_Sn B 86 143 (ab_o_lld 1 144) := ab_s_lload_n (k := 1) (n := 1) ab_dk86_4.2.2.2.2.2.2.2.2.2.2.2.2.2.2.2.1 rfl
theorem ab_s86_144 : ab_Sn B 86 144 (ab_o_lconst 31 147) := ab_s_ldc2 (i := 306) ab_dk86_5.1 wf_407
theorem ab_s86_147 : ab_Sn B 86 147 (ab_o_lbin (fun a b => a * b) 148) := ab_s_lmul ab_dk86_5.2.1
theorem ab_s86_148 : ab_Sn B 86 148 (ab_o_ald 0 149) := ab_s_aload_n (k := 0) (n := 0) ab_dk86_5.2.2.1 rfl
theorem ab_s86_149 : ab_Sn B 86 149 (ab_o_ild 3 150) := ab_s_iload_n (k := 3) (n := 3) ab_dk86_5.2.2.2.1 rfl
theorem ab_s86_150 : ab_Sn B 86 150 (ab_o_call (some (6, 13)) [] 78 2 2 true 153) := ab_s_callV (M' := 78) (na := 1) (i := 321) (ci := 2) (N := 13) (C := RX2) (T := TX2) (v := true) (ab_hok_n (by decide +kernel)) (by decide +kernel) ab_dk86_5.2.2.2.2.1 rfl (by decide) (by decide +kernel) (by decide +kernel) (by decide) wf_424 wf_425 wf_426 wf_427 wf_197
theorem ab_s86_153 : ab_Sn B 86 153 (ab_o_i2l 154) := ab_s_i2l ab_dk86_5.2.2.2.2.2.1
theorem ab_s86_154 : ab_Sn B 86 154 (ab_o_lbin (fun a b => a + b) 155) := ab_s_ladd ab_dk86_5.2.2.2.2.2.2.1
theorem ab_s86_155 : ab_Sn B 86 155 (ab_o_lst 1 156) := ab_s_lstore_n (k := 1) (n := 1) ab_dk86_5.2.2.2.2.2.2.2.1 rfl
theorem ab_s86_156 : ab_Sn B 86 156 (ab_o_inc 3 1 159) := ab_s_iinc (k := 3) (n := 1) ab_dk86_5.2.2.2.2.2.2.2.2.1
theorem ab_s86_159 : ab_Sn B 86 159 (ab_o_goto 138) := ab_s_goto (tg := 138) (off := -21) ab_dk86_5.2.2.2.2.2.2.2.2.2.1 (by decide)
theorem ab_s86_162 : ab_Sn B 86 162 (ab_o_const 0 163) := ab_s_iconst (n := 0) ab_dk86_5.2.2.2.2.2.2.2.2.2.2.1 rfl
theorem ab_s86_163 : ab_Sn B 86 163 (ab_o_ist 3 164) := ab_s_istore_n (k := 3) (n := 3) ab_dk86_5.2.2.2.2.2.2.2.2.2.2.2.1 rfl
theorem ab_s86_164 : ab_Sn B 86 164 (ab_o_ild 3 165) := ab_s_iload_n (k := 3) (n := 3) ab_dk86_5.2.2.2.2.2.2.2.2.2.2.2.2.1 rfl
theorem ab_s86_165 : ab_Sn B 86 165 (ab_o_const 9 167) := ab_s_bipush (n := 9) ab_dk86_5.2.2.2.2.2.2.2.2.2.2.2.2.2.1 (by decide)
theorem ab_s86_167 : ab_Sn B 86 167 (ab_o_icmp ab_gt 189 170) := ab_s_icmp_gt (tg := 189) (off := 22) ab_dk86_5.2.2.2.2.2.2.2.2.2.2.2.2.2.2.1 (by decide)
theorem ab_s86_170 : ab_Sn B 86 170 (ab_o_lld 1 171) := ab_s_lload_n (k := 1) (n := 1) ab_dk86_5.2.2.2.2.2.2.2.2.2.2.2.2.2.2.2.1 rfl
theorem ab_s86_171 : ab_Sn B 86 171 (ab_o_lconst 31 174) := ab_s_ldc2 (i := 306) ab_dk86_6.1 wf_407
theorem ab_s86_174 : ab_Sn B 86 174 (ab_o_lbin (fun a b => a * b) 175) := ab_s_lmul ab_dk86_6.2.1
theorem ab_s86_175 : ab_Sn B 86 175 (ab_o_ald 0 176) := ab_s_aload_n (k := 0) (n := 0) ab_dk86_6.2.2.1 rfl
theorem ab_s86_176 : ab_Sn B 86 176 (ab_o_ild 3 177) := ab_s_iload_n (k := 3) (n := 3) ab_dk86_6.2.2.2.1 rfl
theorem ab_s86_177 : ab_Sn B 86 177 (ab_o_call (some (6, 13)) [] 81 2 2 true 180) := ab_s_callV (M' := 81) (na := 1) (i := 324) (ci := 2) (N := 13) (C := RX2) (T := TX2) (v := true) (ab_hok_n (by decide +kernel)) (by decide +kernel) ab_dk86_6.2.2.2.2.1 rfl (by decide) (by decide +kernel) (by decide +kernel) (by decide) wf_428 wf_429 wf_430 wf_431 wf_197
theorem ab_s86_180 : ab_Sn B 86 180 (ab_o_i2l 181) := ab_s_i2l ab_dk86_6.2.2.2.2.2.1
theorem ab_s86_181 : ab_Sn B 86 181 (ab_o_lbin (fun a b => a + b) 182) := ab_s_ladd ab_dk86_6.2.2.2.2.2.2.1
theorem ab_s86_182 : ab_Sn B 86 182 (ab_o_lst 1 183) := ab_s_lstore_n (k := 1) (n := 1) ab_dk86_6.2.2.2.2.2.2.2.1 rfl
theorem ab_s86_183 : ab_Sn B 86 183 (ab_o_inc 3 1 186) := ab_s_iinc (k := 3) (n := 1) ab_dk86_6.2.2.2.2.2.2.2.2.1
theorem ab_s86_186 : ab_Sn B 86 186 (ab_o_goto 164) := ab_s_goto (tg := 164) (off := -22) ab_dk86_6.2.2.2.2.2.2.2.2.2.1 (by decide)
theorem ab_s86_189 : ab_Sn B 86 189 (ab_o_lld 1 190) := ab_s_lload_n (k := 1) (n := 1) ab_dk86_6.2.2.2.2.2.2.2.2.2.2.1 rfl
theorem ab_s86_190 : ab_Sn B 86 190 (ab_o_lconst 31 193) := ab_s_ldc2 (i := 306) ab_dk86_6.2.2.2.2.2.2.2.2.2.2.2.1 wf_407
theorem ab_s86_193 : ab_Sn B 86 193 (ab_o_lbin (fun a b => a * b) 194) := ab_s_lmul ab_dk86_6.2.2.2.2.2.2.2.2.2.2.2.2.1
theorem ab_s86_194 : ab_Sn B 86 194 (ab_o_ald 0 195) := ab_s_aload_n (k := 0) (n := 0) ab_dk86_6.2.2.2.2.2.2.2.2.2.2.2.2.2.1 rfl
theorem ab_s86_195 : ab_Sn B 86 195 (ab_o_call (some (6, 13)) [] 84 3 1 true 198) := ab_s_callV (M' := 84) (na := 0) (i := 327) (ci := 2) (N := 13) (C := RX2) (T := TX2) (v := true) (ab_hok_n (by decide +kernel)) (by decide +kernel) ab_dk86_6.2.2.2.2.2.2.2.2.2.2.2.2.2.2.1 rfl (by decide) (by decide +kernel) (by decide +kernel) (by decide) wf_432 wf_433 wf_434 wf_435 wf_197
theorem ab_s86_198 : ab_Sn B 86 198 (ab_o_if ab_eq 205 201) := ab_s_if_eq (tg := 205) (off := 7) ab_dk86_6.2.2.2.2.2.2.2.2.2.2.2.2.2.2.2.1 (by decide)
theorem ab_s86_201 : ab_Sn B 86 201 (ab_o_const 1 202) := ab_s_iconst (n := 1) ab_dk86_7.1 rfl
theorem ab_s86_202 : ab_Sn B 86 202 (ab_o_goto 206) := ab_s_goto (tg := 206) (off := 4) ab_dk86_7.2.1 (by decide)
theorem ab_s86_205 : ab_Sn B 86 205 (ab_o_const 0 206) := ab_s_iconst (n := 0) ab_dk86_7.2.2.1 rfl
theorem ab_s86_206 : ab_Sn B 86 206 (ab_o_i2l 207) := ab_s_i2l ab_dk86_7.2.2.2.1
theorem ab_s86_207 : ab_Sn B 86 207 (ab_o_lbin (fun a b => a + b) 208) := ab_s_ladd ab_dk86_7.2.2.2.2.1
theorem ab_s86_208 : ab_Sn B 86 208 (ab_o_lret) := ab_s_lret ab_dk86_7.2.2.2.2.2.1 rfl
theorem ab_sc86_3 : ab_all B 86 192 (ab_d86_3) := ⟨trivial, ab_s86_193, ab_s86_194, ab_s86_195, trivial, trivial, ab_s86_198, trivial, trivial, ab_s86_201, ab_s86_202, trivial, trivial, ab_s86_205, ab_s86_206, ab_s86_207, ab_s86_208, trivial⟩
theorem ab_sc86_2 : ab_all B 86 128 (ab_d86_2) := ⟨trivial, trivial, ab_s86_130, trivial, trivial, ab_s86_133, trivial, trivial, ab_s86_136, ab_s86_137, ab_s86_138, ab_s86_139, ab_s86_140, trivial, trivial, ab_s86_143, ab_s86_144, trivial, trivial, ab_s86_147, ab_s86_148, ab_s86_149, ab_s86_150, trivial, trivial, ab_s86_153, ab_s86_154, ab_s86_155, ab_s86_156, trivial, trivial, ab_s86_159, trivial, trivial, ab_s86_162, ab_s86_163, ab_s86_164, ab_s86_165, trivial, ab_s86_167, trivial, trivial, ab_s86_170, ab_s86_171, trivial, trivial, ab_s86_174, ab_s86_175, ab_s86_176, ab_s86_177, trivial, trivial, ab_s86_180, ab_s86_181, ab_s86_182, ab_s86_183, trivial, trivial, ab_s86_186, trivial, trivial, ab_s86_189, ab_s86_190, trivial, ab_sc86_3⟩
theorem ab_sc86_1 : ab_all B 86 64 (ab_d86_1) := ⟨trivial, trivial, ab_s86_66, ab_s86_67, ab_s86_68, ab_s86_69, trivial, trivial, ab_s86_72, trivial, trivial, ab_s86_75, trivial, trivial, ab_s86_78, trivial, trivial, ab_s86_81, ab_s86_82, ab_s86_83, trivial, trivial, ab_s86_86, ab_s86_87, ab_s86_88, ab_s86_89, ab_s86_90, ab_s86_91, trivial, trivial, ab_s86_94, trivial, trivial, ab_s86_97, trivial, trivial, ab_s86_100, ab_s86_101, trivial, ab_s86_103, trivial, ab_s86_105, ab_s86_106, trivial, trivial, ab_s86_109, ab_s86_110, trivial, trivial, ab_s86_113, ab_s86_114, ab_s86_115, ab_s86_116, trivial, ab_s86_118, trivial, trivial, ab_s86_121, ab_s86_122, ab_s86_123, ab_s86_124, trivial, trivial, ab_s86_127, ab_sc86_2⟩
theorem ab_sc86_0 : ab_all B 86 0 (ab_d86_0) := ⟨ab_s86_0, trivial, trivial, ab_s86_3, ab_s86_4, ab_s86_5, ab_s86_6, ab_s86_7, trivial, ab_s86_9, trivial, trivial, ab_s86_12, ab_s86_13, trivial, trivial, ab_s86_16, ab_s86_17, ab_s86_18, ab_s86_19, trivial, trivial, ab_s86_22, ab_s86_23, ab_s86_24, ab_s86_25, trivial, trivial, ab_s86_28, trivial, trivial, ab_s86_31, ab_s86_32, ab_s86_33, ab_s86_34, ab_s86_35, trivial, trivial, ab_s86_38, trivial, trivial, ab_s86_41, trivial, trivial, ab_s86_44, ab_s86_45, trivial, ab_s86_47, trivial, ab_s86_49, trivial, ab_s86_51, trivial, trivial, ab_s86_54, ab_s86_55, trivial, trivial, ab_s86_58, ab_s86_59, ab_s86_60, ab_s86_61, trivial, ab_s86_63, ab_sc86_1⟩
theorem ab_sn86 : ab_all B 86 0 (ab_c86) := by rw [ab_cd86]; exact ab_sc86_0
theorem ab_dk87_0 : ab_dp 87 [(0, .lload_n 1, 1), (1, .lstore_n 3, 1), (2, .iconst 0, 1), (3, .istore 5, 2), (5, .iload 5, 2), (7, .aload_n 0, 1), (8, .getfield 10, 3), (11, .getfield 255, 3), (14, .if_icmp .ge 63, 3), (17, .iconst 0, 1), (18, .istore 6, 2), (20, .iload 6, 2), (22, .aload_n 0, 1), (23, .getfield 10, 3), (26, .getfield 200, 3), (29, .if_icmp .ge 42, 3)] := ab_da (by decide +kernel)
theorem ab_dk87_1 : ab_dp 87 [(32, .iconst 0, 1), (33, .istore 7, 2), (35, .iload 7, 2), (37, .iconst 4, 1), (38, .if_icmp .gt 27, 3), (41, .lload_n 3, 1), (42, .ldc2_w 306, 3), (45, .lmul, 1), (46, .aload_n 0, 1), (47, .iload 6, 2), (49, .iload 5, 2), (51, .iload 7, 2), (53, .invokevirtual 330, 3), (56, .i2l, 1), (57, .ladd, 1), (58, .lstore_n 3, 1)] := ab_da (by decide +kernel)
theorem ab_dk87_2 : ab_dp 87 [(59, .iinc 7 1, 3), (62, .goto (-27), 3), (65, .iinc 6 1, 3), (68, .goto (-48), 3), (71, .iinc 5 1, 3), (74, .goto (-69), 3), (77, .lload_n 3, 1), (78, .lreturn, 1)] := ab_da (by decide +kernel)
theorem ab_s87_0 : ab_Sn B 87 0 (ab_o_lld 1 1) := ab_s_lload_n (k := 1) (n := 1) ab_dk87_0.1 rfl
theorem ab_s87_1 : ab_Sn B 87 1 (ab_o_lst 3 2) := ab_s_lstore_n (k := 3) (n := 3) ab_dk87_0.2.1 rfl
theorem ab_s87_2 : ab_Sn B 87 2 (ab_o_const 0 3) := ab_s_iconst (n := 0) ab_dk87_0.2.2.1 rfl
theorem ab_s87_3 : ab_Sn B 87 3 (ab_o_ist 5 5) := ab_s_istore (k := 5) ab_dk87_0.2.2.2.1
theorem ab_s87_5 : ab_Sn B 87 5 (ab_o_ild 5 7) := ab_s_iload (k := 5) ab_dk87_0.2.2.2.2.1
theorem ab_s87_7 : ab_Sn B 87 7 (ab_o_ald 0 8) := ab_s_aload_n (k := 0) (n := 0) ab_dk87_0.2.2.2.2.2.1 rfl
theorem ab_s87_8 : ab_Sn B 87 8 (ab_o_getr 6 13 0 11) := ab_s_getr (i := 10) (ci := 2) (N := 13) (k := 0) (C := RX2) (T := TX2) ab_dk87_0.2.2.2.2.2.2.1 rfl (by decide) rfl wf_168
theorem ab_s87_11 : ab_Sn B 87 11 (ab_o_geti 4 7 1 14) := ab_s_geti (i := 255) (ci := 0) (N := 7) (k := 1) (C := RX0) (T := TX0) ab_dk87_0.2.2.2.2.2.2.2.1 rfl (by decide) rfl wf_354
theorem ab_s87_14 : ab_Sn B 87 14 (ab_o_icmp ab_ge 77 17) := ab_s_icmp_ge (tg := 77) (off := 63) ab_dk87_0.2.2.2.2.2.2.2.2.1 (by decide)
theorem ab_s87_17 : ab_Sn B 87 17 (ab_o_const 0 18) := ab_s_iconst (n := 0) ab_dk87_0.2.2.2.2.2.2.2.2.2.1 rfl
theorem ab_s87_18 : ab_Sn B 87 18 (ab_o_ist 6 20) := ab_s_istore (k := 6) ab_dk87_0.2.2.2.2.2.2.2.2.2.2.1
theorem ab_s87_20 : ab_Sn B 87 20 (ab_o_ild 6 22) := ab_s_iload (k := 6) ab_dk87_0.2.2.2.2.2.2.2.2.2.2.2.1
theorem ab_s87_22 : ab_Sn B 87 22 (ab_o_ald 0 23) := ab_s_aload_n (k := 0) (n := 0) ab_dk87_0.2.2.2.2.2.2.2.2.2.2.2.2.1 rfl
theorem ab_s87_23 : ab_Sn B 87 23 (ab_o_getr 6 13 0 26) := ab_s_getr (i := 10) (ci := 2) (N := 13) (k := 0) (C := RX2) (T := TX2) ab_dk87_0.2.2.2.2.2.2.2.2.2.2.2.2.2.1 rfl (by decide) rfl wf_168
theorem ab_s87_26 : ab_Sn B 87 26 (ab_o_geti 4 7 0 29) := ab_s_geti (i := 200) (ci := 0) (N := 7) (k := 0) (C := RX0) (T := TX0) ab_dk87_0.2.2.2.2.2.2.2.2.2.2.2.2.2.2.1 rfl (by decide) rfl wf_306
theorem ab_s87_29 : ab_Sn B 87 29 (ab_o_icmp ab_ge 71 32) := ab_s_icmp_ge (tg := 71) (off := 42) ab_dk87_0.2.2.2.2.2.2.2.2.2.2.2.2.2.2.2.1 (by decide)
theorem ab_s87_32 : ab_Sn B 87 32 (ab_o_const 0 33) := ab_s_iconst (n := 0) ab_dk87_1.1 rfl
theorem ab_s87_33 : ab_Sn B 87 33 (ab_o_ist 7 35) := ab_s_istore (k := 7) ab_dk87_1.2.1
theorem ab_s87_35 : ab_Sn B 87 35 (ab_o_ild 7 37) := ab_s_iload (k := 7) ab_dk87_1.2.2.1
theorem ab_s87_37 : ab_Sn B 87 37 (ab_o_const 4 38) := ab_s_iconst (n := 4) ab_dk87_1.2.2.2.1 rfl
theorem ab_s87_38 : ab_Sn B 87 38 (ab_o_icmp ab_gt 65 41) := ab_s_icmp_gt (tg := 65) (off := 27) ab_dk87_1.2.2.2.2.1 (by decide)
theorem ab_s87_41 : ab_Sn B 87 41 (ab_o_lld 3 42) := ab_s_lload_n (k := 3) (n := 3) ab_dk87_1.2.2.2.2.2.1 rfl
theorem ab_s87_42 : ab_Sn B 87 42 (ab_o_lconst 31 45) := ab_s_ldc2 (i := 306) ab_dk87_1.2.2.2.2.2.2.1 wf_407
theorem ab_s87_45 : ab_Sn B 87 45 (ab_o_lbin (fun a b => a * b) 46) := ab_s_lmul ab_dk87_1.2.2.2.2.2.2.2.1
theorem ab_s87_46 : ab_Sn B 87 46 (ab_o_ald 0 47) := ab_s_aload_n (k := 0) (n := 0) ab_dk87_1.2.2.2.2.2.2.2.2.1 rfl
theorem ab_s87_47 : ab_Sn B 87 47 (ab_o_ild 6 49) := ab_s_iload (k := 6) ab_dk87_1.2.2.2.2.2.2.2.2.2.1
theorem ab_s87_49 : ab_Sn B 87 49 (ab_o_ild 5 51) := ab_s_iload (k := 5) ab_dk87_1.2.2.2.2.2.2.2.2.2.2.1
theorem ab_s87_51 : ab_Sn B 87 51 (ab_o_ild 7 53) := ab_s_iload (k := 7) ab_dk87_1.2.2.2.2.2.2.2.2.2.2.2.1
theorem ab_s87_53 : ab_Sn B 87 53 (ab_o_call (some (6, 13)) [] 75 4 4 true 56) := ab_s_callV (M' := 75) (na := 3) (i := 330) (ci := 2) (N := 13) (C := RX2) (T := TX2) (v := true) (ab_hok_n (by decide +kernel)) (by decide +kernel) ab_dk87_1.2.2.2.2.2.2.2.2.2.2.2.2.1 rfl (by decide) (by decide +kernel) (by decide +kernel) (by decide) wf_436 wf_437 wf_438 wf_439 wf_197
theorem ab_s87_56 : ab_Sn B 87 56 (ab_o_i2l 57) := ab_s_i2l ab_dk87_1.2.2.2.2.2.2.2.2.2.2.2.2.2.1
theorem ab_s87_57 : ab_Sn B 87 57 (ab_o_lbin (fun a b => a + b) 58) := ab_s_ladd ab_dk87_1.2.2.2.2.2.2.2.2.2.2.2.2.2.2.1
theorem ab_s87_58 : ab_Sn B 87 58 (ab_o_lst 3 59) := ab_s_lstore_n (k := 3) (n := 3) ab_dk87_1.2.2.2.2.2.2.2.2.2.2.2.2.2.2.2.1 rfl
theorem ab_s87_59 : ab_Sn B 87 59 (ab_o_inc 7 1 62) := ab_s_iinc (k := 7) (n := 1) ab_dk87_2.1
theorem ab_s87_62 : ab_Sn B 87 62 (ab_o_goto 35) := ab_s_goto (tg := 35) (off := -27) ab_dk87_2.2.1 (by decide)
theorem ab_s87_65 : ab_Sn B 87 65 (ab_o_inc 6 1 68) := ab_s_iinc (k := 6) (n := 1) ab_dk87_2.2.2.1
theorem ab_s87_68 : ab_Sn B 87 68 (ab_o_goto 20) := ab_s_goto (tg := 20) (off := -48) ab_dk87_2.2.2.2.1 (by decide)
theorem ab_s87_71 : ab_Sn B 87 71 (ab_o_inc 5 1 74) := ab_s_iinc (k := 5) (n := 1) ab_dk87_2.2.2.2.2.1
theorem ab_s87_74 : ab_Sn B 87 74 (ab_o_goto 5) := ab_s_goto (tg := 5) (off := -69) ab_dk87_2.2.2.2.2.2.1 (by decide)
theorem ab_s87_77 : ab_Sn B 87 77 (ab_o_lld 3 78) := ab_s_lload_n (k := 3) (n := 3) ab_dk87_2.2.2.2.2.2.2.1 rfl
theorem ab_s87_78 : ab_Sn B 87 78 (ab_o_lret) := ab_s_lret ab_dk87_2.2.2.2.2.2.2.2.1 rfl
set_option maxRecDepth 20000 in
theorem ab_sn87 : ab_all B 87 0 (ab_c87) := ⟨ab_s87_0, ab_s87_1, ab_s87_2, ab_s87_3, trivial, ab_s87_5, trivial, ab_s87_7, ab_s87_8, trivial, trivial, ab_s87_11, trivial, trivial, ab_s87_14, trivial, trivial, ab_s87_17, ab_s87_18, trivial, ab_s87_20, trivial, ab_s87_22, ab_s87_23, trivial, trivial, ab_s87_26, trivial, trivial, ab_s87_29, trivial, trivial, ab_s87_32, ab_s87_33, trivial, ab_s87_35, trivial, ab_s87_37, ab_s87_38, trivial, trivial, ab_s87_41, ab_s87_42, trivial, trivial, ab_s87_45, ab_s87_46, ab_s87_47, trivial, ab_s87_49, trivial, ab_s87_51, trivial, ab_s87_53, trivial, trivial, ab_s87_56, ab_s87_57, ab_s87_58, ab_s87_59, trivial, trivial, ab_s87_62, trivial, trivial, ab_s87_65, trivial, trivial, ab_s87_68, trivial, trivial, ab_s87_71, trivial, trivial, ab_s87_74, trivial, trivial, ab_s87_77, ab_s87_78, trivial⟩
theorem ab_dk88_0 : ab_dp 88 [(0, .aload_n 0, 1), (1, .getfield 10, 3), (4, .iload_n 1, 1), (5, .invokevirtual 135, 3), (8, .ifCond .eq 6, 3), (11, .bipush 120, 2), (13, .ireturn, 1), (14, .aload_n 0, 1), (15, .getfield 10, 3), (18, .iload_n 1, 1), (19, .iload_n 2, 1), (20, .invokevirtual 126, 3), (23, .ifCond .eq 6, 3), (26, .bipush 63, 2), (28, .ireturn, 1), (29, .aload_n 0, 1)] := ab_da (by decide +kernel)
theorem ab_dk88_1 : ab_dp 88 [(30, .getfield 10, 3), (33, .iload_n 2, 1), (34, .invokevirtual 334, 3), (37, .iload_n 1, 1), (38, .if_icmp .ne 8, 3), (41, .bipush 43, 2), (43, .goto 5, 3), (46, .bipush 46, 2), (48, .ireturn, 1)] := ab_da (by decide +kernel)
theorem ab_s88_0 : ab_Sn B 88 0 (ab_o_ald 0 1) := ab_s_aload_n (k := 0) (n := 0) ab_dk88_0.1 rfl
theorem ab_s88_1 : ab_Sn B 88 1 (ab_o_getr 6 13 0 4) := ab_s_getr (i := 10) (ci := 2) (N := 13) (k := 0) (C := RX2) (T := TX2) ab_dk88_0.2.1 rfl (by decide) rfl wf_168
theorem ab_s88_4 : ab_Sn B 88 4 (ab_o_ild 1 5) := ab_s_iload_n (k := 1) (n := 1) ab_dk88_0.2.2.1 rfl
theorem ab_s88_5 : ab_Sn B 88 5 (ab_o_call (some (4, 7)) [] 13 2 2 true 8) := ab_s_callV (M' := 13) (na := 1) (i := 135) (ci := 0) (N := 7) (C := RX0) (T := TX0) (v := true) (ab_hok_n (by decide +kernel)) (by decide +kernel) ab_dk88_0.2.2.2.1 rfl (by decide) (by decide +kernel) (by decide +kernel) (by decide) wf_33 wf_249 wf_35 wf_36 wf_15
theorem ab_s88_8 : ab_Sn B 88 8 (ab_o_if ab_eq 14 11) := ab_s_if_eq (tg := 14) (off := 6) ab_dk88_0.2.2.2.2.1 (by decide)
theorem ab_s88_11 : ab_Sn B 88 11 (ab_o_const 120 13) := ab_s_bipush (n := 120) ab_dk88_0.2.2.2.2.2.1 (by decide)
theorem ab_s88_13 : ab_Sn B 88 13 (ab_o_cret) := ab_s_cret ab_dk88_0.2.2.2.2.2.2.1 rfl
theorem ab_s88_14 : ab_Sn B 88 14 (ab_o_ald 0 15) := ab_s_aload_n (k := 0) (n := 0) ab_dk88_0.2.2.2.2.2.2.2.1 rfl
theorem ab_s88_15 : ab_Sn B 88 15 (ab_o_getr 6 13 0 18) := ab_s_getr (i := 10) (ci := 2) (N := 13) (k := 0) (C := RX2) (T := TX2) ab_dk88_0.2.2.2.2.2.2.2.2.1 rfl (by decide) rfl wf_168
theorem ab_s88_18 : ab_Sn B 88 18 (ab_o_ild 1 19) := ab_s_iload_n (k := 1) (n := 1) ab_dk88_0.2.2.2.2.2.2.2.2.2.1 rfl
theorem ab_s88_19 : ab_Sn B 88 19 (ab_o_ild 2 20) := ab_s_iload_n (k := 2) (n := 2) ab_dk88_0.2.2.2.2.2.2.2.2.2.2.1 rfl
theorem ab_s88_20 : ab_Sn B 88 20 (ab_o_call (some (4, 7)) [] 15 4 3 true 23) := ab_s_callV (M' := 15) (na := 2) (i := 126) (ci := 0) (N := 7) (C := RX0) (T := TX0) (v := true) (ab_hok_n (by decide +kernel)) (by decide +kernel) ab_dk88_0.2.2.2.2.2.2.2.2.2.2.2.1 rfl (by decide) (by decide +kernel) (by decide +kernel) (by decide) wf_41 wf_246 wf_43 wf_44 wf_15
theorem ab_s88_23 : ab_Sn B 88 23 (ab_o_if ab_eq 29 26) := ab_s_if_eq (tg := 29) (off := 6) ab_dk88_0.2.2.2.2.2.2.2.2.2.2.2.2.1 (by decide)
theorem ab_s88_26 : ab_Sn B 88 26 (ab_o_const 63 28) := ab_s_bipush (n := 63) ab_dk88_0.2.2.2.2.2.2.2.2.2.2.2.2.2.1 (by decide)
theorem ab_s88_28 : ab_Sn B 88 28 (ab_o_cret) := ab_s_cret ab_dk88_0.2.2.2.2.2.2.2.2.2.2.2.2.2.2.1 rfl
theorem ab_s88_29 : ab_Sn B 88 29 (ab_o_ald 0 30) := ab_s_aload_n (k := 0) (n := 0) ab_dk88_0.2.2.2.2.2.2.2.2.2.2.2.2.2.2.2.1 rfl
theorem ab_s88_30 : ab_Sn B 88 30 (ab_o_getr 6 13 0 33) := ab_s_getr (i := 10) (ci := 2) (N := 13) (k := 0) (C := RX2) (T := TX2) ab_dk88_1.1 rfl (by decide) rfl wf_168
theorem ab_s88_33 : ab_Sn B 88 33 (ab_o_ild 2 34) := ab_s_iload_n (k := 2) (n := 2) ab_dk88_1.2.1 rfl
theorem ab_s88_34 : ab_Sn B 88 34 (ab_o_call (some (4, 7)) [] 9 2 2 true 37) := ab_s_callV (M' := 9) (na := 1) (i := 334) (ci := 0) (N := 7) (C := RX0) (T := TX0) (v := true) (ab_hok_n (by decide +kernel)) (by decide +kernel) ab_dk88_1.2.2.1 rfl (by decide) (by decide +kernel) (by decide +kernel) (by decide) wf_25 wf_440 wf_27 wf_28 wf_15
theorem ab_s88_37 : ab_Sn B 88 37 (ab_o_ild 1 38) := ab_s_iload_n (k := 1) (n := 1) ab_dk88_1.2.2.2.1 rfl
theorem ab_s88_38 : ab_Sn B 88 38 (ab_o_icmp ab_ne 46 41) := ab_s_icmp_ne (tg := 46) (off := 8) ab_dk88_1.2.2.2.2.1 (by decide)
theorem ab_s88_41 : ab_Sn B 88 41 (ab_o_const 43 43) := ab_s_bipush (n := 43) ab_dk88_1.2.2.2.2.2.1 (by decide)
theorem ab_s88_43 : ab_Sn B 88 43 (ab_o_goto 48) := ab_s_goto (tg := 48) (off := 5) ab_dk88_1.2.2.2.2.2.2.1 (by decide)
theorem ab_s88_46 : ab_Sn B 88 46 (ab_o_const 46 48) := ab_s_bipush (n := 46) ab_dk88_1.2.2.2.2.2.2.2.1 (by decide)
theorem ab_s88_48 : ab_Sn B 88 48 (ab_o_cret) := ab_s_cret ab_dk88_1.2.2.2.2.2.2.2.2.1 rfl
set_option maxRecDepth 20000 in
theorem ab_sn88 : ab_all B 88 0 (ab_c88) := ⟨ab_s88_0, ab_s88_1, trivial, trivial, ab_s88_4, ab_s88_5, trivial, trivial, ab_s88_8, trivial, trivial, ab_s88_11, trivial, ab_s88_13, ab_s88_14, ab_s88_15, trivial, trivial, ab_s88_18, ab_s88_19, ab_s88_20, trivial, trivial, ab_s88_23, trivial, trivial, ab_s88_26, trivial, ab_s88_28, ab_s88_29, ab_s88_30, trivial, trivial, ab_s88_33, ab_s88_34, trivial, trivial, ab_s88_37, ab_s88_38, trivial, trivial, ab_s88_41, trivial, ab_s88_43, trivial, trivial, ab_s88_46, trivial, ab_s88_48, trivial⟩
theorem ab_dk89_0 : ab_dp 89 [(0, .aload_n 0, 1), (1, .getfield 10, 3), (4, .iload_n 1, 1), (5, .invokevirtual 90, 3), (8, .istore_n 3, 1), (9, .aload_n 0, 1), (10, .getfield 10, 3), (13, .aload_n 0, 1), (14, .getfield 10, 3), (17, .iload_n 3, 1), (18, .invokevirtual 334, 3), (21, .iload_n 3, 1), (22, .invokevirtual 122, 3), (25, .istore 4, 2), (27, .aload_n 0, 1), (28, .getfield 10, 3)] := ab_da (by decide +kernel)
theorem ab_dk89_1 : ab_dp 89 [(31, .aload_n 0, 1), (32, .getfield 10, 3), (35, .iload_n 1, 1), (36, .invokevirtual 119, 3), (39, .iload_n 3, 1), (40, .invokevirtual 122, 3), (43, .istore 5, 2), (45, .aload_n 0, 1), (46, .iload_n 1, 1), (47, .putfield 23, 3), (50, .aload_n 0, 1), (51, .iload_n 2, 1), (52, .putfield 27, 3), (55, .aload_n 0, 1), (56, .iload 4, 2), (58, .iload 5, 2)] := ab_da (by decide +kernel)
theorem ab_dk89_2 : ab_dp 89 [(60, .ixor, 1), (61, .iload_n 2, 1), (62, .ixor, 1), (63, .putfield 30, 3), (66, .aload_n 0, 1), (67, .getfield 10, 3), (70, .iload_n 1, 1), (71, .iload_n 2, 1), (72, .invokevirtual 337, 3), (75, .aload_n 0, 1), (76, .dup, 1), (77, .getfield 63, 3), (80, .iconst 1, 1), (81, .iadd, 1), (82, .putfield 63, 3), (85, .return_, 1)] := ab_da (by decide +kernel)
theorem ab_s89_0 : ab_Sn B 89 0 (ab_o_ald 0 1) := ab_s_aload_n (k := 0) (n := 0) ab_dk89_0.1 rfl
theorem ab_s89_1 : ab_Sn B 89 1 (ab_o_getr 6 13 0 4) := ab_s_getr (i := 10) (ci := 2) (N := 13) (k := 0) (C := RX2) (T := TX2) ab_dk89_0.2.1 rfl (by decide) rfl wf_168
theorem ab_s89_4 : ab_Sn B 89 4 (ab_o_ild 1 5) := ab_s_iload_n (k := 1) (n := 1) ab_dk89_0.2.2.1 rfl
theorem ab_s89_5 : ab_Sn B 89 5 (ab_o_call (some (4, 7)) [] 6 2 2 true 8) := ab_s_callV (M' := 6) (na := 1) (i := 90) (ci := 0) (N := 7) (C := RX0) (T := TX0) (v := true) (ab_hok_n (by decide +kernel)) (by decide +kernel) ab_dk89_0.2.2.2.1 rfl (by decide) (by decide +kernel) (by decide +kernel) (by decide) wf_21 wf_216 wf_23 wf_24 wf_15
theorem ab_s89_8 : ab_Sn B 89 8 (ab_o_ist 3 9) := ab_s_istore_n (k := 3) (n := 3) ab_dk89_0.2.2.2.2.1 rfl
theorem ab_s89_9 : ab_Sn B 89 9 (ab_o_ald 0 10) := ab_s_aload_n (k := 0) (n := 0) ab_dk89_0.2.2.2.2.2.1 rfl
theorem ab_s89_10 : ab_Sn B 89 10 (ab_o_getr 6 13 0 13) := ab_s_getr (i := 10) (ci := 2) (N := 13) (k := 0) (C := RX2) (T := TX2) ab_dk89_0.2.2.2.2.2.2.1 rfl (by decide) rfl wf_168
theorem ab_s89_13 : ab_Sn B 89 13 (ab_o_ald 0 14) := ab_s_aload_n (k := 0) (n := 0) ab_dk89_0.2.2.2.2.2.2.2.1 rfl
theorem ab_s89_14 : ab_Sn B 89 14 (ab_o_getr 6 13 0 17) := ab_s_getr (i := 10) (ci := 2) (N := 13) (k := 0) (C := RX2) (T := TX2) ab_dk89_0.2.2.2.2.2.2.2.2.1 rfl (by decide) rfl wf_168
theorem ab_s89_17 : ab_Sn B 89 17 (ab_o_ild 3 18) := ab_s_iload_n (k := 3) (n := 3) ab_dk89_0.2.2.2.2.2.2.2.2.2.1 rfl
theorem ab_s89_18 : ab_Sn B 89 18 (ab_o_call (some (4, 7)) [] 9 2 2 true 21) := ab_s_callV (M' := 9) (na := 1) (i := 334) (ci := 0) (N := 7) (C := RX0) (T := TX0) (v := true) (ab_hok_n (by decide +kernel)) (by decide +kernel) ab_dk89_0.2.2.2.2.2.2.2.2.2.2.1 rfl (by decide) (by decide +kernel) (by decide +kernel) (by decide) wf_25 wf_440 wf_27 wf_28 wf_15
theorem ab_s89_21 : ab_Sn B 89 21 (ab_o_ild 3 22) := ab_s_iload_n (k := 3) (n := 3) ab_dk89_0.2.2.2.2.2.2.2.2.2.2.2.1 rfl
theorem ab_s89_22 : ab_Sn B 89 22 (ab_o_call (some (4, 7)) [] 24 3 3 true 25) := ab_s_callV (M' := 24) (na := 2) (i := 122) (ci := 0) (N := 7) (C := RX0) (T := TX0) (v := true) (ab_hok_n (by decide +kernel)) (by decide +kernel) ab_dk89_0.2.2.2.2.2.2.2.2.2.2.2.2.1 rfl (by decide) (by decide +kernel) (by decide +kernel) (by decide) wf_73 wf_245 wf_75 wf_76 wf_15
theorem ab_s89_25 : ab_Sn B 89 25 (ab_o_ist 4 27) := ab_s_istore (k := 4) ab_dk89_0.2.2.2.2.2.2.2.2.2.2.2.2.2.1
theorem ab_s89_27 : ab_Sn B 89 27 (ab_o_ald 0 28) := ab_s_aload_n (k := 0) (n := 0) ab_dk89_0.2.2.2.2.2.2.2.2.2.2.2.2.2.2.1 rfl
theorem ab_s89_28 : ab_Sn B 89 28 (ab_o_getr 6 13 0 31) := ab_s_getr (i := 10) (ci := 2) (N := 13) (k := 0) (C := RX2) (T := TX2) ab_dk89_0.2.2.2.2.2.2.2.2.2.2.2.2.2.2.2.1 rfl (by decide) rfl wf_168
theorem ab_s89_31 : ab_Sn B 89 31 (ab_o_ald 0 32) := ab_s_aload_n (k := 0) (n := 0) ab_dk89_1.1 rfl
theorem ab_s89_32 : ab_Sn B 89 32 (ab_o_getr 6 13 0 35) := ab_s_getr (i := 10) (ci := 2) (N := 13) (k := 0) (C := RX2) (T := TX2) ab_dk89_1.2.1 rfl (by decide) rfl wf_168
theorem ab_s89_35 : ab_Sn B 89 35 (ab_o_ild 1 36) := ab_s_iload_n (k := 1) (n := 1) ab_dk89_1.2.2.1 rfl
theorem ab_s89_36 : ab_Sn B 89 36 (ab_o_call (some (4, 7)) [] 7 3 2 true 39) := ab_s_callV (M' := 7) (na := 1) (i := 119) (ci := 0) (N := 7) (C := RX0) (T := TX0) (v := true) (ab_hok_n (by decide +kernel)) (by decide +kernel) ab_dk89_1.2.2.2.1 rfl (by decide) (by decide +kernel) (by decide +kernel) (by decide) wf_61 wf_244 wf_63 wf_64 wf_15
theorem ab_s89_39 : ab_Sn B 89 39 (ab_o_ild 3 40) := ab_s_iload_n (k := 3) (n := 3) ab_dk89_1.2.2.2.2.1 rfl
theorem ab_s89_40 : ab_Sn B 89 40 (ab_o_call (some (4, 7)) [] 24 3 3 true 43) := ab_s_callV (M' := 24) (na := 2) (i := 122) (ci := 0) (N := 7) (C := RX0) (T := TX0) (v := true) (ab_hok_n (by decide +kernel)) (by decide +kernel) ab_dk89_1.2.2.2.2.2.1 rfl (by decide) (by decide +kernel) (by decide +kernel) (by decide) wf_73 wf_245 wf_75 wf_76 wf_15
theorem ab_s89_43 : ab_Sn B 89 43 (ab_o_ist 5 45) := ab_s_istore (k := 5) ab_dk89_1.2.2.2.2.2.2.1
theorem ab_s89_45 : ab_Sn B 89 45 (ab_o_ald 0 46) := ab_s_aload_n (k := 0) (n := 0) ab_dk89_1.2.2.2.2.2.2.2.1 rfl
theorem ab_s89_46 : ab_Sn B 89 46 (ab_o_ild 1 47) := ab_s_iload_n (k := 1) (n := 1) ab_dk89_1.2.2.2.2.2.2.2.2.1 rfl
theorem ab_s89_47 : ab_Sn B 89 47 (ab_o_puti 6 13 3 false 50) := ab_s_puti (b := false) (ty := .int) (i := 23) (ci := 2) (N := 13) (k := 3) (C := RX2) (T := TX2) ab_dk89_1.2.2.2.2.2.2.2.2.2.1 rfl (by decide) rfl wf_176 rfl (by decide +kernel) (Or.inl ⟨rfl, rfl⟩)
theorem ab_s89_50 : ab_Sn B 89 50 (ab_o_ald 0 51) := ab_s_aload_n (k := 0) (n := 0) ab_dk89_1.2.2.2.2.2.2.2.2.2.2.1 rfl
theorem ab_s89_51 : ab_Sn B 89 51 (ab_o_ild 2 52) := ab_s_iload_n (k := 2) (n := 2) ab_dk89_1.2.2.2.2.2.2.2.2.2.2.2.1 rfl
theorem ab_s89_52 : ab_Sn B 89 52 (ab_o_puti 6 13 4 false 55) := ab_s_puti (b := false) (ty := .int) (i := 27) (ci := 2) (N := 13) (k := 4) (C := RX2) (T := TX2) ab_dk89_1.2.2.2.2.2.2.2.2.2.2.2.2.1 rfl (by decide) rfl wf_177 rfl (by decide +kernel) (Or.inl ⟨rfl, rfl⟩)
theorem ab_s89_55 : ab_Sn B 89 55 (ab_o_ald 0 56) := ab_s_aload_n (k := 0) (n := 0) ab_dk89_1.2.2.2.2.2.2.2.2.2.2.2.2.2.1 rfl
theorem ab_s89_56 : ab_Sn B 89 56 (ab_o_ild 4 58) := ab_s_iload (k := 4) ab_dk89_1.2.2.2.2.2.2.2.2.2.2.2.2.2.2.1
theorem ab_s89_58 : ab_Sn B 89 58 (ab_o_ild 5 60) := ab_s_iload (k := 5) ab_dk89_1.2.2.2.2.2.2.2.2.2.2.2.2.2.2.2.1
theorem ab_s89_60 : ab_Sn B 89 60 (ab_o_bin ab_ixor 61) := ab_s_ixor ab_dk89_2.1
theorem ab_s89_61 : ab_Sn B 89 61 (ab_o_ild 2 62) := ab_s_iload_n (k := 2) (n := 2) ab_dk89_2.2.1 rfl
theorem ab_s89_62 : ab_Sn B 89 62 (ab_o_bin ab_ixor 63) := ab_s_ixor ab_dk89_2.2.2.1
theorem ab_s89_63 : ab_Sn B 89 63 (ab_o_puti 6 13 5 false 66) := ab_s_puti (b := false) (ty := .int) (i := 30) (ci := 2) (N := 13) (k := 5) (C := RX2) (T := TX2) ab_dk89_2.2.2.2.1 rfl (by decide) rfl wf_178 rfl (by decide +kernel) (Or.inl ⟨rfl, rfl⟩)
theorem ab_s89_66 : ab_Sn B 89 66 (ab_o_ald 0 67) := ab_s_aload_n (k := 0) (n := 0) ab_dk89_2.2.2.2.2.1 rfl
theorem ab_s89_67 : ab_Sn B 89 67 (ab_o_getr 6 13 0 70) := ab_s_getr (i := 10) (ci := 2) (N := 13) (k := 0) (C := RX2) (T := TX2) ab_dk89_2.2.2.2.2.2.1 rfl (by decide) rfl wf_168
theorem ab_s89_70 : ab_Sn B 89 70 (ab_o_ild 1 71) := ab_s_iload_n (k := 1) (n := 1) ab_dk89_2.2.2.2.2.2.2.1 rfl
theorem ab_s89_71 : ab_Sn B 89 71 (ab_o_ild 2 72) := ab_s_iload_n (k := 2) (n := 2) ab_dk89_2.2.2.2.2.2.2.2.1 rfl
theorem ab_s89_72 : ab_Sn B 89 72 (ab_o_call (some (4, 7)) [] 31 4 3 false 75) := ab_s_callV (M' := 31) (na := 2) (i := 337) (ci := 0) (N := 7) (C := RX0) (T := TX0) (v := false) (ab_hok_n (by decide +kernel)) (by decide +kernel) ab_dk89_2.2.2.2.2.2.2.2.2.1 rfl (by decide) (by decide +kernel) (by decide +kernel) (by decide) wf_69 wf_441 wf_71 wf_72 wf_15
theorem ab_s89_75 : ab_Sn B 89 75 (ab_o_ald 0 76) := ab_s_aload_n (k := 0) (n := 0) ab_dk89_2.2.2.2.2.2.2.2.2.2.1 rfl
theorem ab_s89_76 : ab_Sn B 89 76 (ab_o_dup 77) := ab_s_dup ab_dk89_2.2.2.2.2.2.2.2.2.2.2.1
theorem ab_s89_77 : ab_Sn B 89 77 (ab_o_geti 6 13 8 80) := ab_s_geti (i := 63) (ci := 2) (N := 13) (k := 8) (C := RX2) (T := TX2) ab_dk89_2.2.2.2.2.2.2.2.2.2.2.2.1 rfl (by decide) rfl wf_201
theorem ab_s89_80 : ab_Sn B 89 80 (ab_o_const 1 81) := ab_s_iconst (n := 1) ab_dk89_2.2.2.2.2.2.2.2.2.2.2.2.2.1 rfl
theorem ab_s89_81 : ab_Sn B 89 81 (ab_o_bin (fun a b => a + b) 82) := ab_s_iadd ab_dk89_2.2.2.2.2.2.2.2.2.2.2.2.2.2.1
theorem ab_s89_82 : ab_Sn B 89 82 (ab_o_puti 6 13 8 false 85) := ab_s_puti (b := false) (ty := .int) (i := 63) (ci := 2) (N := 13) (k := 8) (C := RX2) (T := TX2) ab_dk89_2.2.2.2.2.2.2.2.2.2.2.2.2.2.2.1 rfl (by decide) rfl wf_201 rfl (by decide +kernel) (Or.inl ⟨rfl, rfl⟩)
theorem ab_s89_85 : ab_Sn B 89 85 (ab_o_ret) := ab_s_ret ab_dk89_2.2.2.2.2.2.2.2.2.2.2.2.2.2.2.2.1 rfl
set_option maxRecDepth 20000 in
theorem ab_sn89 : ab_all B 89 0 (ab_c89) := ⟨ab_s89_0, ab_s89_1, trivial, trivial, ab_s89_4, ab_s89_5, trivial, trivial, ab_s89_8, ab_s89_9, ab_s89_10, trivial, trivial, ab_s89_13, ab_s89_14, trivial, trivial, ab_s89_17, ab_s89_18, trivial, trivial, ab_s89_21, ab_s89_22, trivial, trivial, ab_s89_25, trivial, ab_s89_27, ab_s89_28, trivial, trivial, ab_s89_31, ab_s89_32, trivial, trivial, ab_s89_35, ab_s89_36, trivial, trivial, ab_s89_39, ab_s89_40, trivial, trivial, ab_s89_43, trivial, ab_s89_45, ab_s89_46, ab_s89_47, trivial, trivial, ab_s89_50, ab_s89_51, ab_s89_52, trivial, trivial, ab_s89_55, ab_s89_56, trivial, ab_s89_58, trivial, ab_s89_60, ab_s89_61, ab_s89_62, ab_s89_63, trivial, trivial, ab_s89_66, ab_s89_67, trivial, trivial, ab_s89_70, ab_s89_71, ab_s89_72, trivial, trivial, ab_s89_75, ab_s89_76, ab_s89_77, trivial, trivial, ab_s89_80, ab_s89_81, ab_s89_82, trivial, trivial, ab_s89_85, trivial⟩
theorem ab_dk90_0 : ab_dp 90 [(0, .aload_n 0, 1), (1, .getfield 10, 3), (4, .aload_n 0, 1), (5, .getfield 10, 3), (8, .aload_n 0, 1), (9, .getfield 23, 3), (12, .invokevirtual 119, 3), (15, .aload_n 0, 1), (16, .getfield 10, 3), (19, .aload_n 0, 1), (20, .getfield 23, 3), (23, .invokevirtual 90, 3), (26, .aload_n 0, 1), (27, .getfield 27, 3), (30, .invokevirtual 340, 3), (33, .return_, 1)] := ab_da (by decide +kernel)
theorem ab_s90_0 : ab_Sn B 90 0 (ab_o_ald 0 1) := ab_s_aload_n (k := 0) (n := 0) ab_dk90_0.1 rfl
theorem ab_s90_1 : ab_Sn B 90 1 (ab_o_getr 6 13 0 4) := ab_s_getr (i := 10) (ci := 2) (N := 13) (k := 0) (C := RX2) (T := TX2) ab_dk90_0.2.1 rfl (by decide) rfl wf_168
theorem ab_s90_4 : ab_Sn B 90 4 (ab_o_ald 0 5) := ab_s_aload_n (k := 0) (n := 0) ab_dk90_0.2.2.1 rfl
theorem ab_s90_5 : ab_Sn B 90 5 (ab_o_getr 6 13 0 8) := ab_s_getr (i := 10) (ci := 2) (N := 13) (k := 0) (C := RX2) (T := TX2) ab_dk90_0.2.2.2.1 rfl (by decide) rfl wf_168
theorem ab_s90_8 : ab_Sn B 90 8 (ab_o_ald 0 9) := ab_s_aload_n (k := 0) (n := 0) ab_dk90_0.2.2.2.2.1 rfl
theorem ab_s90_9 : ab_Sn B 90 9 (ab_o_geti 6 13 3 12) := ab_s_geti (i := 23) (ci := 2) (N := 13) (k := 3) (C := RX2) (T := TX2) ab_dk90_0.2.2.2.2.2.1 rfl (by decide) rfl wf_176
theorem ab_s90_12 : ab_Sn B 90 12 (ab_o_call (some (4, 7)) [] 7 3 2 true 15) := ab_s_callV (M' := 7) (na := 1) (i := 119) (ci := 0) (N := 7) (C := RX0) (T := TX0) (v := true) (ab_hok_n (by decide +kernel)) (by decide +kernel) ab_dk90_0.2.2.2.2.2.2.1 rfl (by decide) (by decide +kernel) (by decide +kernel) (by decide) wf_61 wf_244 wf_63 wf_64 wf_15
theorem ab_s90_15 : ab_Sn B 90 15 (ab_o_ald 0 16) := ab_s_aload_n (k := 0) (n := 0) ab_dk90_0.2.2.2.2.2.2.2.1 rfl
theorem ab_s90_16 : ab_Sn B 90 16 (ab_o_getr 6 13 0 19) := ab_s_getr (i := 10) (ci := 2) (N := 13) (k := 0) (C := RX2) (T := TX2) ab_dk90_0.2.2.2.2.2.2.2.2.1 rfl (by decide) rfl wf_168
theorem ab_s90_19 : ab_Sn B 90 19 (ab_o_ald 0 20) := ab_s_aload_n (k := 0) (n := 0) ab_dk90_0.2.2.2.2.2.2.2.2.2.1 rfl
theorem ab_s90_20 : ab_Sn B 90 20 (ab_o_geti 6 13 3 23) := ab_s_geti (i := 23) (ci := 2) (N := 13) (k := 3) (C := RX2) (T := TX2) ab_dk90_0.2.2.2.2.2.2.2.2.2.2.1 rfl (by decide) rfl wf_176
theorem ab_s90_23 : ab_Sn B 90 23 (ab_o_call (some (4, 7)) [] 6 2 2 true 26) := ab_s_callV (M' := 6) (na := 1) (i := 90) (ci := 0) (N := 7) (C := RX0) (T := TX0) (v := true) (ab_hok_n (by decide +kernel)) (by decide +kernel) ab_dk90_0.2.2.2.2.2.2.2.2.2.2.2.1 rfl (by decide) (by decide +kernel) (by decide +kernel) (by decide) wf_21 wf_216 wf_23 wf_24 wf_15
theorem ab_s90_26 : ab_Sn B 90 26 (ab_o_ald 0 27) := ab_s_aload_n (k := 0) (n := 0) ab_dk90_0.2.2.2.2.2.2.2.2.2.2.2.2.1 rfl
theorem ab_s90_27 : ab_Sn B 90 27 (ab_o_geti 6 13 4 30) := ab_s_geti (i := 27) (ci := 2) (N := 13) (k := 4) (C := RX2) (T := TX2) ab_dk90_0.2.2.2.2.2.2.2.2.2.2.2.2.2.1 rfl (by decide) rfl wf_177
theorem ab_s90_30 : ab_Sn B 90 30 (ab_o_call (some (4, 7)) [] 26 5 4 false 33) := ab_s_callV (M' := 26) (na := 3) (i := 340) (ci := 0) (N := 7) (C := RX0) (T := TX0) (v := false) (ab_hok_n (by decide +kernel)) (by decide +kernel) ab_dk90_0.2.2.2.2.2.2.2.2.2.2.2.2.2.2.1 rfl (by decide) (by decide +kernel) (by decide +kernel) (by decide) wf_12 wf_442 wf_14 wf_16 wf_15
theorem ab_s90_33 : ab_Sn B 90 33 (ab_o_ret) := ab_s_ret ab_dk90_0.2.2.2.2.2.2.2.2.2.2.2.2.2.2.2.1 rfl
set_option maxRecDepth 20000 in
theorem ab_sn90 : ab_all B 90 0 (ab_c90) := ⟨ab_s90_0, ab_s90_1, trivial, trivial, ab_s90_4, ab_s90_5, trivial, trivial, ab_s90_8, ab_s90_9, trivial, trivial, ab_s90_12, trivial, trivial, ab_s90_15, ab_s90_16, trivial, trivial, ab_s90_19, ab_s90_20, trivial, trivial, ab_s90_23, trivial, trivial, ab_s90_26, ab_s90_27, trivial, trivial, ab_s90_30, trivial, trivial, ab_s90_33, trivial⟩
theorem ab_dk91_0 : ab_dp 91 [(0, .aload_n 0, 1), (1, .getfield 10, 3), (4, .aload_n 0, 1), (5, .getfield 23, 3), (8, .invokevirtual 90, 3), (11, .istore_n 1, 1), (12, .aload_n 0, 1), (13, .getfield 10, 3), (16, .aload_n 0, 1), (17, .getfield 10, 3), (20, .iload_n 1, 1), (21, .invokevirtual 334, 3), (24, .iload_n 1, 1), (25, .aload_n 0, 1), (26, .getfield 30, 3), (29, .invokevirtual 340, 3)] := ab_da (by decide +kernel)
theorem ab_dk91_1 : ab_dp 91 [(32, .return_, 1)] := ab_da (by decide +kernel)
theorem ab_s91_0 : ab_Sn B 91 0 (ab_o_ald 0 1) := ab_s_aload_n (k := 0) (n := 0) ab_dk91_0.1 rfl
theorem ab_s91_1 : ab_Sn B 91 1 (ab_o_getr 6 13 0 4) := ab_s_getr (i := 10) (ci := 2) (N := 13) (k := 0) (C := RX2) (T := TX2) ab_dk91_0.2.1 rfl (by decide) rfl wf_168
theorem ab_s91_4 : ab_Sn B 91 4 (ab_o_ald 0 5) := ab_s_aload_n (k := 0) (n := 0) ab_dk91_0.2.2.1 rfl
theorem ab_s91_5 : ab_Sn B 91 5 (ab_o_geti 6 13 3 8) := ab_s_geti (i := 23) (ci := 2) (N := 13) (k := 3) (C := RX2) (T := TX2) ab_dk91_0.2.2.2.1 rfl (by decide) rfl wf_176
theorem ab_s91_8 : ab_Sn B 91 8 (ab_o_call (some (4, 7)) [] 6 2 2 true 11) := ab_s_callV (M' := 6) (na := 1) (i := 90) (ci := 0) (N := 7) (C := RX0) (T := TX0) (v := true) (ab_hok_n (by decide +kernel)) (by decide +kernel) ab_dk91_0.2.2.2.2.1 rfl (by decide) (by decide +kernel) (by decide +kernel) (by decide) wf_21 wf_216 wf_23 wf_24 wf_15
theorem ab_s91_11 : ab_Sn B 91 11 (ab_o_ist 1 12) := ab_s_istore_n (k := 1) (n := 1) ab_dk91_0.2.2.2.2.2.1 rfl
theorem ab_s91_12 : ab_Sn B 91 12 (ab_o_ald 0 13) := ab_s_aload_n (k := 0) (n := 0) ab_dk91_0.2.2.2.2.2.2.1 rfl
theorem ab_s91_13 : ab_Sn B 91 13 (ab_o_getr 6 13 0 16) := ab_s_getr (i := 10) (ci := 2) (N := 13) (k := 0) (C := RX2) (T := TX2) ab_dk91_0.2.2.2.2.2.2.2.1 rfl (by decide) rfl wf_168
theorem ab_s91_16 : ab_Sn B 91 16 (ab_o_ald 0 17) := ab_s_aload_n (k := 0) (n := 0) ab_dk91_0.2.2.2.2.2.2.2.2.1 rfl
theorem ab_s91_17 : ab_Sn B 91 17 (ab_o_getr 6 13 0 20) := ab_s_getr (i := 10) (ci := 2) (N := 13) (k := 0) (C := RX2) (T := TX2) ab_dk91_0.2.2.2.2.2.2.2.2.2.1 rfl (by decide) rfl wf_168
theorem ab_s91_20 : ab_Sn B 91 20 (ab_o_ild 1 21) := ab_s_iload_n (k := 1) (n := 1) ab_dk91_0.2.2.2.2.2.2.2.2.2.2.1 rfl
theorem ab_s91_21 : ab_Sn B 91 21 (ab_o_call (some (4, 7)) [] 9 2 2 true 24) := ab_s_callV (M' := 9) (na := 1) (i := 334) (ci := 0) (N := 7) (C := RX0) (T := TX0) (v := true) (ab_hok_n (by decide +kernel)) (by decide +kernel) ab_dk91_0.2.2.2.2.2.2.2.2.2.2.2.1 rfl (by decide) (by decide +kernel) (by decide +kernel) (by decide) wf_25 wf_440 wf_27 wf_28 wf_15
theorem ab_s91_24 : ab_Sn B 91 24 (ab_o_ild 1 25) := ab_s_iload_n (k := 1) (n := 1) ab_dk91_0.2.2.2.2.2.2.2.2.2.2.2.2.1 rfl
theorem ab_s91_25 : ab_Sn B 91 25 (ab_o_ald 0 26) := ab_s_aload_n (k := 0) (n := 0) ab_dk91_0.2.2.2.2.2.2.2.2.2.2.2.2.2.1 rfl
theorem ab_s91_26 : ab_Sn B 91 26 (ab_o_geti 6 13 5 29) := ab_s_geti (i := 30) (ci := 2) (N := 13) (k := 5) (C := RX2) (T := TX2) ab_dk91_0.2.2.2.2.2.2.2.2.2.2.2.2.2.2.1 rfl (by decide) rfl wf_178
theorem ab_s91_29 : ab_Sn B 91 29 (ab_o_call (some (4, 7)) [] 26 5 4 false 32) := ab_s_callV (M' := 26) (na := 3) (i := 340) (ci := 0) (N := 7) (C := RX0) (T := TX0) (v := false) (ab_hok_n (by decide +kernel)) (by decide +kernel) ab_dk91_0.2.2.2.2.2.2.2.2.2.2.2.2.2.2.2.1 rfl (by decide) (by decide +kernel) (by decide +kernel) (by decide) wf_12 wf_442 wf_14 wf_16 wf_15
theorem ab_s91_32 : ab_Sn B 91 32 (ab_o_ret) := ab_s_ret ab_dk91_1.1 rfl
set_option maxRecDepth 20000 in
theorem ab_sn91 : ab_all B 91 0 (ab_c91) := ⟨ab_s91_0, ab_s91_1, trivial, trivial, ab_s91_4, ab_s91_5, trivial, trivial, ab_s91_8, trivial, trivial, ab_s91_11, ab_s91_12, ab_s91_13, trivial, trivial, ab_s91_16, ab_s91_17, trivial, trivial, ab_s91_20, ab_s91_21, trivial, trivial, ab_s91_24, ab_s91_25, ab_s91_26, trivial, trivial, ab_s91_29, trivial, trivial, ab_s91_32, trivial⟩
theorem ab_dk92_0 : ab_dp 92 [(0, .aload_n 0, 1), (1, .iconst (-1), 1), (2, .putfield 23, 3), (5, .aload_n 0, 1), (6, .iconst (-1), 1), (7, .putfield 27, 3), (10, .aload_n 0, 1), (11, .iconst (-1), 1), (12, .putfield 30, 3), (15, .return_, 1)] := ab_da (by decide +kernel)
theorem ab_s92_0 : ab_Sn B 92 0 (ab_o_ald 0 1) := ab_s_aload_n (k := 0) (n := 0) ab_dk92_0.1 rfl
theorem ab_s92_1 : ab_Sn B 92 1 (ab_o_const (-1) 2) := ab_s_iconst (n := (-1)) ab_dk92_0.2.1 rfl
theorem ab_s92_2 : ab_Sn B 92 2 (ab_o_puti 6 13 3 false 5) := ab_s_puti (b := false) (ty := .int) (i := 23) (ci := 2) (N := 13) (k := 3) (C := RX2) (T := TX2) ab_dk92_0.2.2.1 rfl (by decide) rfl wf_176 rfl (by decide +kernel) (Or.inl ⟨rfl, rfl⟩)
theorem ab_s92_5 : ab_Sn B 92 5 (ab_o_ald 0 6) := ab_s_aload_n (k := 0) (n := 0) ab_dk92_0.2.2.2.1 rfl
theorem ab_s92_6 : ab_Sn B 92 6 (ab_o_const (-1) 7) := ab_s_iconst (n := (-1)) ab_dk92_0.2.2.2.2.1 rfl
theorem ab_s92_7 : ab_Sn B 92 7 (ab_o_puti 6 13 4 false 10) := ab_s_puti (b := false) (ty := .int) (i := 27) (ci := 2) (N := 13) (k := 4) (C := RX2) (T := TX2) ab_dk92_0.2.2.2.2.2.1 rfl (by decide) rfl wf_177 rfl (by decide +kernel) (Or.inl ⟨rfl, rfl⟩)
theorem ab_s92_10 : ab_Sn B 92 10 (ab_o_ald 0 11) := ab_s_aload_n (k := 0) (n := 0) ab_dk92_0.2.2.2.2.2.2.1 rfl
theorem ab_s92_11 : ab_Sn B 92 11 (ab_o_const (-1) 12) := ab_s_iconst (n := (-1)) ab_dk92_0.2.2.2.2.2.2.2.1 rfl
theorem ab_s92_12 : ab_Sn B 92 12 (ab_o_puti 6 13 5 false 15) := ab_s_puti (b := false) (ty := .int) (i := 30) (ci := 2) (N := 13) (k := 5) (C := RX2) (T := TX2) ab_dk92_0.2.2.2.2.2.2.2.2.1 rfl (by decide) rfl wf_178 rfl (by decide +kernel) (Or.inl ⟨rfl, rfl⟩)
theorem ab_s92_15 : ab_Sn B 92 15 (ab_o_ret) := ab_s_ret ab_dk92_0.2.2.2.2.2.2.2.2.2.1 rfl
set_option maxRecDepth 20000 in
theorem ab_sn92 : ab_all B 92 0 (ab_c92) := ⟨ab_s92_0, ab_s92_1, ab_s92_2, trivial, trivial, ab_s92_5, ab_s92_6, ab_s92_7, trivial, trivial, ab_s92_10, ab_s92_11, ab_s92_12, trivial, trivial, ab_s92_15, trivial⟩
theorem ab_dk93_0 : ab_dp 93 [(0, .aload_n 0, 1), (1, .iconst 0, 1), (2, .putfield 50, 3), (5, .aload_n 0, 1), (6, .dup, 1), (7, .getfield 72, 3), (10, .iconst 1, 1), (11, .iadd, 1), (12, .putfield 72, 3), (15, .return_, 1)] := ab_da (by decide +kernel)
theorem ab_s93_0 : ab_Sn B 93 0 (ab_o_ald 0 1) := ab_s_aload_n (k := 0) (n := 0) ab_dk93_0.1 rfl
theorem ab_s93_1 : ab_Sn B 93 1 (ab_o_const 0 2) := ab_s_iconst (n := 0) ab_dk93_0.2.1 rfl
theorem ab_s93_2 : ab_Sn B 93 2 (ab_o_puti 6 13 2 true 5) := ab_s_puti (b := true) (ty := .boolean) (i := 50) (ci := 2) (N := 13) (k := 2) (C := RX2) (T := TX2) ab_dk93_0.2.2.1 rfl (by decide) rfl wf_193 rfl (by decide +kernel) (Or.inr (Or.inl ⟨rfl, rfl⟩))
theorem ab_s93_5 : ab_Sn B 93 5 (ab_o_ald 0 6) := ab_s_aload_n (k := 0) (n := 0) ab_dk93_0.2.2.2.1 rfl
theorem ab_s93_6 : ab_Sn B 93 6 (ab_o_dup 7) := ab_s_dup ab_dk93_0.2.2.2.2.1
theorem ab_s93_7 : ab_Sn B 93 7 (ab_o_geti 6 13 11 10) := ab_s_geti (i := 72) (ci := 2) (N := 13) (k := 11) (C := RX2) (T := TX2) ab_dk93_0.2.2.2.2.2.1 rfl (by decide) rfl wf_204
theorem ab_s93_10 : ab_Sn B 93 10 (ab_o_const 1 11) := ab_s_iconst (n := 1) ab_dk93_0.2.2.2.2.2.2.1 rfl
theorem ab_s93_11 : ab_Sn B 93 11 (ab_o_bin (fun a b => a + b) 12) := ab_s_iadd ab_dk93_0.2.2.2.2.2.2.2.1
theorem ab_s93_12 : ab_Sn B 93 12 (ab_o_puti 6 13 11 false 15) := ab_s_puti (b := false) (ty := .int) (i := 72) (ci := 2) (N := 13) (k := 11) (C := RX2) (T := TX2) ab_dk93_0.2.2.2.2.2.2.2.2.1 rfl (by decide) rfl wf_204 rfl (by decide +kernel) (Or.inl ⟨rfl, rfl⟩)
theorem ab_s93_15 : ab_Sn B 93 15 (ab_o_ret) := ab_s_ret ab_dk93_0.2.2.2.2.2.2.2.2.2.1 rfl
set_option maxRecDepth 20000 in
theorem ab_sn93 : ab_all B 93 0 (ab_c93) := ⟨ab_s93_0, ab_s93_1, ab_s93_2, trivial, trivial, ab_s93_5, ab_s93_6, ab_s93_7, trivial, trivial, ab_s93_10, ab_s93_11, ab_s93_12, trivial, trivial, ab_s93_15, trivial⟩
theorem ab_dk94_0 : ab_dp 94 [(0, .aload_n 0, 1), (1, .iconst 1, 1), (2, .putfield 50, 3), (5, .aload_n 0, 1), (6, .getfield 10, 3), (9, .aload_n 0, 1), (10, .getfield 23, 3), (13, .invokevirtual 79, 3), (16, .ifCond .eq 15, 3), (19, .aload_n 0, 1), (20, .invokevirtual 108, 3), (23, .aload_n 0, 1), (24, .invokevirtual 111, 3), (27, .aload_n 0, 1), (28, .invokevirtual 54, 3), (31, .return_, 1)] := ab_da (by decide +kernel)
theorem ab_s94_0 : ab_Sn B 94 0 (ab_o_ald 0 1) := ab_s_aload_n (k := 0) (n := 0) ab_dk94_0.1 rfl
theorem ab_s94_1 : ab_Sn B 94 1 (ab_o_const 1 2) := ab_s_iconst (n := 1) ab_dk94_0.2.1 rfl
theorem ab_s94_2 : ab_Sn B 94 2 (ab_o_puti 6 13 2 true 5) := ab_s_puti (b := true) (ty := .boolean) (i := 50) (ci := 2) (N := 13) (k := 2) (C := RX2) (T := TX2) ab_dk94_0.2.2.1 rfl (by decide) rfl wf_193 rfl (by decide +kernel) (Or.inr (Or.inl ⟨rfl, rfl⟩))
theorem ab_s94_5 : ab_Sn B 94 5 (ab_o_ald 0 6) := ab_s_aload_n (k := 0) (n := 0) ab_dk94_0.2.2.2.1 rfl
theorem ab_s94_6 : ab_Sn B 94 6 (ab_o_getr 6 13 0 9) := ab_s_getr (i := 10) (ci := 2) (N := 13) (k := 0) (C := RX2) (T := TX2) ab_dk94_0.2.2.2.2.1 rfl (by decide) rfl wf_168
theorem ab_s94_9 : ab_Sn B 94 9 (ab_o_ald 0 10) := ab_s_aload_n (k := 0) (n := 0) ab_dk94_0.2.2.2.2.2.1 rfl
theorem ab_s94_10 : ab_Sn B 94 10 (ab_o_geti 6 13 3 13) := ab_s_geti (i := 23) (ci := 2) (N := 13) (k := 3) (C := RX2) (T := TX2) ab_dk94_0.2.2.2.2.2.2.1 rfl (by decide) rfl wf_176
theorem ab_s94_13 : ab_Sn B 94 13 (ab_o_call (some (4, 7)) [] 4 2 2 true 16) := ab_s_callV (M' := 4) (na := 1) (i := 79) (ci := 0) (N := 7) (C := RX0) (T := TX0) (v := true) (ab_hok_n (by decide +kernel)) (by decide +kernel) ab_dk94_0.2.2.2.2.2.2.2.1 rfl (by decide) (by decide +kernel) (by decide +kernel) (by decide) wf_206 wf_207 wf_208 wf_209 wf_15
theorem ab_s94_16 : ab_Sn B 94 16 (ab_o_if ab_eq 31 19) := ab_s_if_eq (tg := 31) (off := 15) ab_dk94_0.2.2.2.2.2.2.2.2.1 (by decide)
theorem ab_s94_19 : ab_Sn B 94 19 (ab_o_ald 0 20) := ab_s_aload_n (k := 0) (n := 0) ab_dk94_0.2.2.2.2.2.2.2.2.2.1 rfl
theorem ab_s94_20 : ab_Sn B 94 20 (ab_o_call (some (6, 13)) [] 90 1 1 false 23) := ab_s_callV (M' := 90) (na := 0) (i := 108) (ci := 2) (N := 13) (C := RX2) (T := TX2) (v := false) (ab_hok_n (by decide +kernel)) (by decide +kernel) ab_dk94_0.2.2.2.2.2.2.2.2.2.2.1 rfl (by decide) (by decide +kernel) (by decide +kernel) (by decide) wf_231 wf_232 wf_233 wf_234 wf_197
theorem ab_s94_23 : ab_Sn B 94 23 (ab_o_ald 0 24) := ab_s_aload_n (k := 0) (n := 0) ab_dk94_0.2.2.2.2.2.2.2.2.2.2.2.1 rfl
theorem ab_s94_24 : ab_Sn B 94 24 (ab_o_call (some (6, 13)) [] 91 2 1 false 27) := ab_s_callV (M' := 91) (na := 0) (i := 111) (ci := 2) (N := 13) (C := RX2) (T := TX2) (v := false) (ab_hok_n (by decide +kernel)) (by decide +kernel) ab_dk94_0.2.2.2.2.2.2.2.2.2.2.2.2.1 rfl (by decide) (by decide +kernel) (by decide +kernel) (by decide) wf_235 wf_236 wf_237 wf_238 wf_197
theorem ab_s94_27 : ab_Sn B 94 27 (ab_o_ald 0 28) := ab_s_aload_n (k := 0) (n := 0) ab_dk94_0.2.2.2.2.2.2.2.2.2.2.2.2.2.1 rfl
theorem ab_s94_28 : ab_Sn B 94 28 (ab_o_call (some (6, 13)) [] 92 1 1 false 31) := ab_s_callV (M' := 92) (na := 0) (i := 54) (ci := 2) (N := 13) (C := RX2) (T := TX2) (v := false) (ab_hok_n (by decide +kernel)) (by decide +kernel) ab_dk94_0.2.2.2.2.2.2.2.2.2.2.2.2.2.2.1 rfl (by decide) (by decide +kernel) (by decide +kernel) (by decide) wf_194 wf_195 wf_196 wf_198 wf_197
theorem ab_s94_31 : ab_Sn B 94 31 (ab_o_ret) := ab_s_ret ab_dk94_0.2.2.2.2.2.2.2.2.2.2.2.2.2.2.2.1 rfl
set_option maxRecDepth 20000 in
theorem ab_sn94 : ab_all B 94 0 (ab_c94) := ⟨ab_s94_0, ab_s94_1, ab_s94_2, trivial, trivial, ab_s94_5, ab_s94_6, trivial, trivial, ab_s94_9, ab_s94_10, trivial, trivial, ab_s94_13, trivial, trivial, ab_s94_16, trivial, trivial, ab_s94_19, ab_s94_20, trivial, trivial, ab_s94_23, ab_s94_24, trivial, trivial, ab_s94_27, ab_s94_28, trivial, trivial, ab_s94_31, trivial⟩
theorem ab_dk95_0 : ab_dp 95 [(0, .iload_n 1, 1), (1, .iconst 1, 1), (2, .if_icmp .lt 9, 3), (5, .iload_n 1, 1), (6, .bipush 8, 2), (8, .if_icmp .le 13, 3), (21, .aload_n 0, 1), (22, .getfield 10, 3), (25, .getfield 200, 3), (28, .ifCond .eq 10, 3), (31, .aload_n 0, 1), (32, .getfield 50, 3), (35, .ifCond .ne 14, 3), (49, .return_, 1)] := ab_da (by decide +kernel)
theorem ab_s95_0 : ab_Sn B 95 0 (ab_o_ild 1 1) := ab_s_iload_n (k := 1) (n := 1) ab_dk95_0.1 rfl
theorem ab_s95_1 : ab_Sn B 95 1 (ab_o_const 1 2) := ab_s_iconst (n := 1) ab_dk95_0.2.1 rfl
theorem ab_s95_2 : ab_Sn B 95 2 (ab_o_icmp ab_lt 11 5) := ab_s_icmp_lt (tg := 11) (off := 9) ab_dk95_0.2.2.1 (by decide)
theorem ab_s95_5 : ab_Sn B 95 5 (ab_o_ild 1 6) := ab_s_iload_n (k := 1) (n := 1) ab_dk95_0.2.2.2.1 rfl
theorem ab_s95_6 : ab_Sn B 95 6 (ab_o_const 8 8) := ab_s_bipush (n := 8) ab_dk95_0.2.2.2.2.1 (by decide)
theorem ab_s95_8 : ab_Sn B 95 8 (ab_o_icmp ab_le 21 11) := ab_s_icmp_le (tg := 21) (off := 13) ab_dk95_0.2.2.2.2.2.1 (by decide)
theorem ab_s95_11 : ab_Sn B 95 11 (ab_o_throw 1) := ab_s_throw (ik := 33) (is := 40) (ic := 37) (text := "stripes must be 1 to 8") (Or.inl rfl) (by decide +kernel) (by decide +kernel) (by decide +kernel) (by decide +kernel) (by decide +kernel) wf_179 wf_180 wf_184 wf_182 wf_183 (by decide +kernel)
theorem ab_s95_21 : ab_Sn B 95 21 (ab_o_ald 0 22) := ab_s_aload_n (k := 0) (n := 0) ab_dk95_0.2.2.2.2.2.2.1 rfl
theorem ab_s95_22 : ab_Sn B 95 22 (ab_o_getr 6 13 0 25) := ab_s_getr (i := 10) (ci := 2) (N := 13) (k := 0) (C := RX2) (T := TX2) ab_dk95_0.2.2.2.2.2.2.2.1 rfl (by decide) rfl wf_168
theorem ab_s95_25 : ab_Sn B 95 25 (ab_o_geti 4 7 0 28) := ab_s_geti (i := 200) (ci := 0) (N := 7) (k := 0) (C := RX0) (T := TX0) ab_dk95_0.2.2.2.2.2.2.2.2.1 rfl (by decide) rfl wf_306
theorem ab_s95_28 : ab_Sn B 95 28 (ab_o_if ab_eq 38 31) := ab_s_if_eq (tg := 38) (off := 10) ab_dk95_0.2.2.2.2.2.2.2.2.2.1 (by decide)
theorem ab_s95_31 : ab_Sn B 95 31 (ab_o_ald 0 32) := ab_s_aload_n (k := 0) (n := 0) ab_dk95_0.2.2.2.2.2.2.2.2.2.2.1 rfl
theorem ab_s95_32 : ab_Sn B 95 32 (ab_o_geti 6 13 2 35) := ab_s_geti (i := 50) (ci := 2) (N := 13) (k := 2) (C := RX2) (T := TX2) ab_dk95_0.2.2.2.2.2.2.2.2.2.2.2.1 rfl (by decide) rfl wf_193
theorem ab_s95_35 : ab_Sn B 95 35 (ab_o_if ab_ne 49 38) := ab_s_if_ne (tg := 49) (off := 14) ab_dk95_0.2.2.2.2.2.2.2.2.2.2.2.2.1 (by decide)
theorem ab_s95_38 : ab_Sn B 95 38 (ab_o_throw 3) := ab_s_throwW (ik := 97) (is := 343) (ic := 101) (text := "there is no shelf, or the power is off") (Or.inr (Or.inr rfl)) (by decide +kernel) (by decide +kernel) (by decide +kernel) (by decide +kernel) (by decide +kernel) wf_218 wf_219 wf_443 wf_221 wf_222 (by decide +kernel)
theorem ab_s95_49 : ab_Sn B 95 49 (ab_o_ret) := ab_s_ret ab_dk95_0.2.2.2.2.2.2.2.2.2.2.2.2.2.1 rfl
set_option maxRecDepth 20000 in
theorem ab_sn95 : ab_all B 95 0 (ab_c95) := ⟨ab_s95_0, ab_s95_1, ab_s95_2, trivial, trivial, ab_s95_5, ab_s95_6, trivial, ab_s95_8, trivial, trivial, ab_s95_11, trivial, trivial, trivial, trivial, trivial, trivial, trivial, trivial, trivial, ab_s95_21, ab_s95_22, trivial, trivial, ab_s95_25, trivial, trivial, ab_s95_28, trivial, trivial, ab_s95_31, ab_s95_32, trivial, trivial, ab_s95_35, trivial, trivial, ab_s95_38, trivial, trivial, trivial, trivial, trivial, trivial, trivial, trivial, trivial, trivial, ab_s95_49, trivial⟩
theorem ab_dk96_0 : ab_dp 96 [(0, .iconst 0, 1), (1, .istore_n 3, 1), (2, .iconst 0, 1), (3, .istore 4, 2), (5, .iload 4, 2), (7, .iload_n 2, 1), (8, .if_icmp .ge 29, 3), (11, .iload_n 3, 1), (12, .aload_n 0, 1), (13, .getfield 10, 3), (16, .aload_n 0, 1), (17, .getfield 10, 3), (20, .iload_n 1, 1), (21, .iload 4, 2), (23, .invokevirtual 171, 3), (26, .invokevirtual 102, 3)] := ab_da (by decide +kernel)
theorem ab_dk96_1 : ab_dp 96 [(29, .iadd, 1), (30, .istore_n 3, 1), (31, .iinc 4 1, 3), (34, .goto (-29), 3), (37, .aload_n 0, 1), (38, .dup, 1), (39, .getfield 69, 3), (42, .iload_n 3, 1), (43, .iadd, 1), (44, .putfield 69, 3), (47, .iload_n 3, 1), (48, .ireturn, 1)] := ab_da (by decide +kernel)
theorem ab_s96_0 : ab_Sn B 96 0 (ab_o_const 0 1) := ab_s_iconst (n := 0) ab_dk96_0.1 rfl
theorem ab_s96_1 : ab_Sn B 96 1 (ab_o_ist 3 2) := ab_s_istore_n (k := 3) (n := 3) ab_dk96_0.2.1 rfl
theorem ab_s96_2 : ab_Sn B 96 2 (ab_o_const 0 3) := ab_s_iconst (n := 0) ab_dk96_0.2.2.1 rfl
theorem ab_s96_3 : ab_Sn B 96 3 (ab_o_ist 4 5) := ab_s_istore (k := 4) ab_dk96_0.2.2.2.1
theorem ab_s96_5 : ab_Sn B 96 5 (ab_o_ild 4 7) := ab_s_iload (k := 4) ab_dk96_0.2.2.2.2.1
theorem ab_s96_7 : ab_Sn B 96 7 (ab_o_ild 2 8) := ab_s_iload_n (k := 2) (n := 2) ab_dk96_0.2.2.2.2.2.1 rfl
theorem ab_s96_8 : ab_Sn B 96 8 (ab_o_icmp ab_ge 37 11) := ab_s_icmp_ge (tg := 37) (off := 29) ab_dk96_0.2.2.2.2.2.2.1 (by decide)
theorem ab_s96_11 : ab_Sn B 96 11 (ab_o_ild 3 12) := ab_s_iload_n (k := 3) (n := 3) ab_dk96_0.2.2.2.2.2.2.2.1 rfl
theorem ab_s96_12 : ab_Sn B 96 12 (ab_o_ald 0 13) := ab_s_aload_n (k := 0) (n := 0) ab_dk96_0.2.2.2.2.2.2.2.2.1 rfl
theorem ab_s96_13 : ab_Sn B 96 13 (ab_o_getr 6 13 0 16) := ab_s_getr (i := 10) (ci := 2) (N := 13) (k := 0) (C := RX2) (T := TX2) ab_dk96_0.2.2.2.2.2.2.2.2.2.1 rfl (by decide) rfl wf_168
theorem ab_s96_16 : ab_Sn B 96 16 (ab_o_ald 0 17) := ab_s_aload_n (k := 0) (n := 0) ab_dk96_0.2.2.2.2.2.2.2.2.2.2.1 rfl
theorem ab_s96_17 : ab_Sn B 96 17 (ab_o_getr 6 13 0 20) := ab_s_getr (i := 10) (ci := 2) (N := 13) (k := 0) (C := RX2) (T := TX2) ab_dk96_0.2.2.2.2.2.2.2.2.2.2.2.1 rfl (by decide) rfl wf_168
theorem ab_s96_20 : ab_Sn B 96 20 (ab_o_ild 1 21) := ab_s_iload_n (k := 1) (n := 1) ab_dk96_0.2.2.2.2.2.2.2.2.2.2.2.2.1 rfl
theorem ab_s96_21 : ab_Sn B 96 21 (ab_o_ild 4 23) := ab_s_iload (k := 4) ab_dk96_0.2.2.2.2.2.2.2.2.2.2.2.2.2.1
theorem ab_s96_23 : ab_Sn B 96 23 (ab_o_call (some (4, 7)) [] 10 3 3 true 26) := ab_s_callV (M' := 10) (na := 2) (i := 171) (ci := 0) (N := 7) (C := RX0) (T := TX0) (v := true) (ab_hok_n (by decide +kernel)) (by decide +kernel) ab_dk96_0.2.2.2.2.2.2.2.2.2.2.2.2.2.2.1 rfl (by decide) (by decide +kernel) (by decide +kernel) (by decide) wf_283 wf_284 wf_285 wf_286 wf_15
theorem ab_s96_26 : ab_Sn B 96 26 (ab_o_call (some (4, 7)) [] 27 3 2 true 29) := ab_s_callV (M' := 27) (na := 1) (i := 102) (ci := 0) (N := 7) (C := RX0) (T := TX0) (v := true) (ab_hok_n (by decide +kernel)) (by decide +kernel) ab_dk96_0.2.2.2.2.2.2.2.2.2.2.2.2.2.2.2.1 rfl (by decide) (by decide +kernel) (by decide +kernel) (by decide) wf_223 wf_224 wf_225 wf_226 wf_15
theorem ab_s96_29 : ab_Sn B 96 29 (ab_o_bin (fun a b => a + b) 30) := ab_s_iadd ab_dk96_1.1
theorem ab_s96_30 : ab_Sn B 96 30 (ab_o_ist 3 31) := ab_s_istore_n (k := 3) (n := 3) ab_dk96_1.2.1 rfl
theorem ab_s96_31 : ab_Sn B 96 31 (ab_o_inc 4 1 34) := ab_s_iinc (k := 4) (n := 1) ab_dk96_1.2.2.1
theorem ab_s96_34 : ab_Sn B 96 34 (ab_o_goto 5) := ab_s_goto (tg := 5) (off := -29) ab_dk96_1.2.2.2.1 (by decide)
theorem ab_s96_37 : ab_Sn B 96 37 (ab_o_ald 0 38) := ab_s_aload_n (k := 0) (n := 0) ab_dk96_1.2.2.2.2.1 rfl
theorem ab_s96_38 : ab_Sn B 96 38 (ab_o_dup 39) := ab_s_dup ab_dk96_1.2.2.2.2.2.1
theorem ab_s96_39 : ab_Sn B 96 39 (ab_o_geti 6 13 10 42) := ab_s_geti (i := 69) (ci := 2) (N := 13) (k := 10) (C := RX2) (T := TX2) ab_dk96_1.2.2.2.2.2.2.1 rfl (by decide) rfl wf_203
theorem ab_s96_42 : ab_Sn B 96 42 (ab_o_ild 3 43) := ab_s_iload_n (k := 3) (n := 3) ab_dk96_1.2.2.2.2.2.2.2.1 rfl
theorem ab_s96_43 : ab_Sn B 96 43 (ab_o_bin (fun a b => a + b) 44) := ab_s_iadd ab_dk96_1.2.2.2.2.2.2.2.2.1
theorem ab_s96_44 : ab_Sn B 96 44 (ab_o_puti 6 13 10 false 47) := ab_s_puti (b := false) (ty := .int) (i := 69) (ci := 2) (N := 13) (k := 10) (C := RX2) (T := TX2) ab_dk96_1.2.2.2.2.2.2.2.2.2.1 rfl (by decide) rfl wf_203 rfl (by decide +kernel) (Or.inl ⟨rfl, rfl⟩)
theorem ab_s96_47 : ab_Sn B 96 47 (ab_o_ild 3 48) := ab_s_iload_n (k := 3) (n := 3) ab_dk96_1.2.2.2.2.2.2.2.2.2.2.1 rfl
theorem ab_s96_48 : ab_Sn B 96 48 (ab_o_iret false) := ab_s_iret (b := false) (ty := .int) ab_dk96_1.2.2.2.2.2.2.2.2.2.2.2.1 rfl (Or.inl ⟨rfl, rfl⟩)
set_option maxRecDepth 20000 in
theorem ab_sn96 : ab_all B 96 0 (ab_c96) := ⟨ab_s96_0, ab_s96_1, ab_s96_2, ab_s96_3, trivial, ab_s96_5, trivial, ab_s96_7, ab_s96_8, trivial, trivial, ab_s96_11, ab_s96_12, ab_s96_13, trivial, trivial, ab_s96_16, ab_s96_17, trivial, trivial, ab_s96_20, ab_s96_21, trivial, ab_s96_23, trivial, trivial, ab_s96_26, trivial, trivial, ab_s96_29, ab_s96_30, ab_s96_31, trivial, trivial, ab_s96_34, trivial, trivial, ab_s96_37, ab_s96_38, ab_s96_39, trivial, trivial, ab_s96_42, ab_s96_43, ab_s96_44, trivial, trivial, ab_s96_47, ab_s96_48, trivial⟩
end
