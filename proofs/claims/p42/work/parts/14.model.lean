theorem gt_wsX6_init_wsX60 : GoodIn wsX6_init wsX60 := fun w hw => ⟨List.mem_cons_of_mem _ (List.mem_append_right _ hw), good_of_word (List.all_eq_true.mp gw_wsX60 w hw)⟩
set_option maxRecDepth 20000 in
theorem ggX6_init_X6_firstDraft : GoodIn wsX6_init wsX6_firstDraft := goodIn_ca (goodIn_r _ [21, 8, 22, 23, 24, 25, 26, 27, 28] rfl (by decide +kernel)) gt_wsX6_init_wsX60
set_option maxRecDepth 20000 in
theorem gX6_init_X6_firstDraft : GoodIn wsX6_init (wsV RX6 44 RX6 yX6_firstDraft wsX6_firstDraft) := goodIn_app (goodIn_r _ [17, 18, 19, 20] rfl (by decide +kernel)) ggX6_init_X6_firstDraft
set_option maxRecDepth 20000 in
theorem ggX6_init_X6_keepDraft : GoodIn wsX6_init wsX6_keepDraft := goodIn_ca (goodIn_r _ [32, 5, 8, 22, 33, 23, 34, 24, 35, 7] rfl (by decide +kernel)) gt_wsX6_init_wsX60
set_option maxRecDepth 20000 in
theorem gX6_init_X6_keepDraft : GoodIn wsX6_init (wsV RX6 47 RX6 yX6_keepDraft wsX6_keepDraft) := goodIn_app (goodIn_r _ [29, 30, 31, 20] rfl (by decide +kernel)) ggX6_init_X6_keepDraft
theorem dX6_init_0_t : dqK cX6_init.data.toList 0 [(0, .aload_n 0, 1), (1, .invokespecial 1, 3), (4, .aload_n 0, 1), (5, .sipush 255, 3), (10, .putfield 7, 3), (13, .aload_n 0, 1), (14, .iconst 2, 1), (17, .putfield 13, 3), (20, .aload_n 0, 1), (21, .bipush 85, 2), (25, .putfield 17, 3), (28, .aload_n 0, 1), (29, .sipush 160, 3), (34, .putfield 20, 3), (37, .aload_n 0, 1), (38, .bipush 16, 2), (42, .putfield 23, 3), (45, .aload_n 0, 1), (46, .bipush 7, 2), (50, .putfield 26, 3), (53, .aload_n 0, 1), (54, .sipush 160, 3), (59, .putfield 29, 3), (62, .aload_n 0, 1), (63, .bipush 46, 2), (67, .putfield 32, 3), (70, .aload_n 0, 1), (71, .iconst 4, 1), (74, .putfield 35, 3), (77, .aload_n 0, 1), (78, .iconst 4, 1), (81, .putfield 38, 3), (84, .aload_n 0, 1), (85, .sipush 160, 3), (90, .putfield 41, 3), (93, .iconst 0, 1), (94, .istore_n 1, 1), (95, .iload_n 1, 1), (96, .iconst 4, 1), (97, .if_icmp .ge 17, 3)] = true := by decide +kernel
theorem dX6_init_0 : decode cX6_init 0 = .ok (.aload_n 0, 1) := dq_get dX6_init_0_t 0 rfl
theorem dX6_init_1 : decode cX6_init 1 = .ok (.invokespecial 1, 3) := dq_get dX6_init_0_t 1 rfl
theorem dX6_init_4 : decode cX6_init 4 = .ok (.aload_n 0, 1) := dq_get dX6_init_0_t 2 rfl
theorem dX6_init_5 : decode cX6_init 5 = .ok (.sipush 255, 3) := dq_get dX6_init_0_t 3 rfl
theorem dX6_init_10 : decode cX6_init 10 = .ok (.putfield 7, 3) := dq_get dX6_init_0_t 4 rfl
theorem dX6_init_13 : decode cX6_init 13 = .ok (.aload_n 0, 1) := dq_get dX6_init_0_t 5 rfl
theorem dX6_init_14 : decode cX6_init 14 = .ok (.iconst 2, 1) := dq_get dX6_init_0_t 6 rfl
theorem dX6_init_17 : decode cX6_init 17 = .ok (.putfield 13, 3) := dq_get dX6_init_0_t 7 rfl
theorem dX6_init_20 : decode cX6_init 20 = .ok (.aload_n 0, 1) := dq_get dX6_init_0_t 8 rfl
theorem dX6_init_21 : decode cX6_init 21 = .ok (.bipush 85, 2) := dq_get dX6_init_0_t 9 rfl
theorem dX6_init_25 : decode cX6_init 25 = .ok (.putfield 17, 3) := dq_get dX6_init_0_t 10 rfl
theorem dX6_init_28 : decode cX6_init 28 = .ok (.aload_n 0, 1) := dq_get dX6_init_0_t 11 rfl
theorem dX6_init_29 : decode cX6_init 29 = .ok (.sipush 160, 3) := dq_get dX6_init_0_t 12 rfl
theorem dX6_init_34 : decode cX6_init 34 = .ok (.putfield 20, 3) := dq_get dX6_init_0_t 13 rfl
theorem dX6_init_37 : decode cX6_init 37 = .ok (.aload_n 0, 1) := dq_get dX6_init_0_t 14 rfl
theorem dX6_init_38 : decode cX6_init 38 = .ok (.bipush 16, 2) := dq_get dX6_init_0_t 15 rfl
theorem dX6_init_42 : decode cX6_init 42 = .ok (.putfield 23, 3) := dq_get dX6_init_0_t 16 rfl
theorem dX6_init_45 : decode cX6_init 45 = .ok (.aload_n 0, 1) := dq_get dX6_init_0_t 17 rfl
theorem dX6_init_46 : decode cX6_init 46 = .ok (.bipush 7, 2) := dq_get dX6_init_0_t 18 rfl
theorem dX6_init_50 : decode cX6_init 50 = .ok (.putfield 26, 3) := dq_get dX6_init_0_t 19 rfl
theorem dX6_init_53 : decode cX6_init 53 = .ok (.aload_n 0, 1) := dq_get dX6_init_0_t 20 rfl
theorem dX6_init_54 : decode cX6_init 54 = .ok (.sipush 160, 3) := dq_get dX6_init_0_t 21 rfl
theorem dX6_init_59 : decode cX6_init 59 = .ok (.putfield 29, 3) := dq_get dX6_init_0_t 22 rfl
theorem dX6_init_62 : decode cX6_init 62 = .ok (.aload_n 0, 1) := dq_get dX6_init_0_t 23 rfl
theorem dX6_init_63 : decode cX6_init 63 = .ok (.bipush 46, 2) := dq_get dX6_init_0_t 24 rfl
theorem dX6_init_67 : decode cX6_init 67 = .ok (.putfield 32, 3) := dq_get dX6_init_0_t 25 rfl
theorem dX6_init_70 : decode cX6_init 70 = .ok (.aload_n 0, 1) := dq_get dX6_init_0_t 26 rfl
theorem dX6_init_71 : decode cX6_init 71 = .ok (.iconst 4, 1) := dq_get dX6_init_0_t 27 rfl
theorem dX6_init_74 : decode cX6_init 74 = .ok (.putfield 35, 3) := dq_get dX6_init_0_t 28 rfl
theorem dX6_init_77 : decode cX6_init 77 = .ok (.aload_n 0, 1) := dq_get dX6_init_0_t 29 rfl
theorem dX6_init_78 : decode cX6_init 78 = .ok (.iconst 4, 1) := dq_get dX6_init_0_t 30 rfl
theorem dX6_init_81 : decode cX6_init 81 = .ok (.putfield 38, 3) := dq_get dX6_init_0_t 31 rfl
theorem dX6_init_84 : decode cX6_init 84 = .ok (.aload_n 0, 1) := dq_get dX6_init_0_t 32 rfl
theorem dX6_init_85 : decode cX6_init 85 = .ok (.sipush 160, 3) := dq_get dX6_init_0_t 33 rfl
theorem dX6_init_90 : decode cX6_init 90 = .ok (.putfield 41, 3) := dq_get dX6_init_0_t 34 rfl
theorem dX6_init_93 : decode cX6_init 93 = .ok (.iconst 0, 1) := dq_get dX6_init_0_t 35 rfl
theorem dX6_init_94 : decode cX6_init 94 = .ok (.istore_n 1, 1) := dq_get dX6_init_0_t 36 rfl
theorem dX6_init_95 : decode cX6_init 95 = .ok (.iload_n 1, 1) := dq_get dX6_init_0_t 37 rfl
theorem dX6_init_96 : decode cX6_init 96 = .ok (.iconst 4, 1) := dq_get dX6_init_0_t 38 rfl
theorem dX6_init_97 : decode cX6_init 97 = .ok (.if_icmp .ge 17, 3) := dq_get dX6_init_0_t 39 rfl
theorem dX6_init_8 : decode cX6_init 8 = .ok (.newarray .int, 2) := by decide +kernel
theorem dX6_init_15 : decode cX6_init 15 = .ok (.newarray .boolean, 2) := by decide +kernel
theorem dX6_init_23 : decode cX6_init 23 = .ok (.newarray .int, 2) := by decide +kernel
theorem dX6_init_32 : decode cX6_init 32 = .ok (.newarray .int, 2) := by decide +kernel
theorem dX6_init_40 : decode cX6_init 40 = .ok (.newarray .int, 2) := by decide +kernel
theorem dX6_init_48 : decode cX6_init 48 = .ok (.newarray .int, 2) := by decide +kernel
theorem dX6_init_57 : decode cX6_init 57 = .ok (.newarray .int, 2) := by decide +kernel
theorem dX6_init_65 : decode cX6_init 65 = .ok (.newarray .int, 2) := by decide +kernel
theorem dX6_init_72 : decode cX6_init 72 = .ok (.newarray .int, 2) := by decide +kernel
theorem dX6_init_79 : decode cX6_init 79 = .ok (.newarray .int, 2) := by decide +kernel
theorem dX6_init_88 : decode cX6_init 88 = .ok (.newarray .int, 2) := by decide +kernel
theorem dX6_init_100_t : dqK cX6_init.data.toList 0 [(100, .aload_n 0, 1), (101, .getfield 35, 3), (104, .iload_n 1, 1), (105, .bipush (-4), 2), (107, .iastore, 1), (108, .iinc 1 1, 3), (111, .goto (-16), 3), (114, .aload_n 0, 1), (115, .invokevirtual 44, 3), (118, .aload_n 0, 1), (119, .invokevirtual 47, 3), (122, .return_, 1)] = true := by decide +kernel
theorem dX6_init_100 : decode cX6_init 100 = .ok (.aload_n 0, 1) := dq_get dX6_init_100_t 0 rfl
theorem dX6_init_101 : decode cX6_init 101 = .ok (.getfield 35, 3) := dq_get dX6_init_100_t 1 rfl
theorem dX6_init_104 : decode cX6_init 104 = .ok (.iload_n 1, 1) := dq_get dX6_init_100_t 2 rfl
theorem dX6_init_105 : decode cX6_init 105 = .ok (.bipush (-4), 2) := dq_get dX6_init_100_t 3 rfl
theorem dX6_init_107 : decode cX6_init 107 = .ok (.iastore, 1) := dq_get dX6_init_100_t 4 rfl
theorem dX6_init_108 : decode cX6_init 108 = .ok (.iinc 1 1, 3) := dq_get dX6_init_100_t 5 rfl
theorem dX6_init_111 : decode cX6_init 111 = .ok (.goto (-16), 3) := dq_get dX6_init_100_t 6 rfl
theorem dX6_init_114 : decode cX6_init 114 = .ok (.aload_n 0, 1) := dq_get dX6_init_100_t 7 rfl
theorem dX6_init_115 : decode cX6_init 115 = .ok (.invokevirtual 44, 3) := dq_get dX6_init_100_t 8 rfl
theorem dX6_init_118 : decode cX6_init 118 = .ok (.aload_n 0, 1) := dq_get dX6_init_100_t 9 rfl
theorem dX6_init_119 : decode cX6_init 119 = .ok (.invokevirtual 47, 3) := dq_get dX6_init_100_t 10 rfl
theorem dX6_init_122 : decode cX6_init 122 = .ok (.return_, 1) := dq_get dX6_init_100_t 11 rfl
theorem dX6_in_0_t : dqK cX6_in.data.toList 0 [(0, .lload_n 0, 1), (1, .lload_n 2, 1), (2, .lcmp, 1), (3, .ifCond .lt 14, 3), (6, .lload_n 0, 1), (7, .lload 4, 2), (9, .lcmp, 1), (10, .ifCond .gt 7, 3), (13, .iconst 1, 1), (14, .goto 4, 3), (17, .iconst 0, 1), (18, .ireturn, 1)] = true := by decide +kernel
theorem dX6_in_0 : decode cX6_in 0 = .ok (.lload_n 0, 1) := dq_get dX6_in_0_t 0 rfl
theorem dX6_in_1 : decode cX6_in 1 = .ok (.lload_n 2, 1) := dq_get dX6_in_0_t 1 rfl
theorem dX6_in_2 : decode cX6_in 2 = .ok (.lcmp, 1) := dq_get dX6_in_0_t 2 rfl
theorem dX6_in_3 : decode cX6_in 3 = .ok (.ifCond .lt 14, 3) := dq_get dX6_in_0_t 3 rfl
theorem dX6_in_6 : decode cX6_in 6 = .ok (.lload_n 0, 1) := dq_get dX6_in_0_t 4 rfl
theorem dX6_in_7 : decode cX6_in 7 = .ok (.lload 4, 2) := dq_get dX6_in_0_t 5 rfl
theorem dX6_in_9 : decode cX6_in 9 = .ok (.lcmp, 1) := dq_get dX6_in_0_t 6 rfl
theorem dX6_in_10 : decode cX6_in 10 = .ok (.ifCond .gt 7, 3) := dq_get dX6_in_0_t 7 rfl
theorem dX6_in_13 : decode cX6_in 13 = .ok (.iconst 1, 1) := dq_get dX6_in_0_t 8 rfl
theorem dX6_in_14 : decode cX6_in 14 = .ok (.goto 4, 3) := dq_get dX6_in_0_t 9 rfl
theorem dX6_in_17 : decode cX6_in 17 = .ok (.iconst 0, 1) := dq_get dX6_in_0_t 10 rfl
theorem dX6_in_18 : decode cX6_in 18 = .ok (.ireturn, 1) := dq_get dX6_in_0_t 11 rfl
theorem dX6_flag_0_t : dqK cX6_flag.data.toList 0 [(0, .iload_n 0, 1), (1, .ifCond .eq 7, 3), (4, .iconst 1, 1), (5, .goto 4, 3), (8, .iconst 0, 1), (9, .ireturn, 1)] = true := by decide +kernel
theorem dX6_flag_0 : decode cX6_flag 0 = .ok (.iload_n 0, 1) := dq_get dX6_flag_0_t 0 rfl
theorem dX6_flag_1 : decode cX6_flag 1 = .ok (.ifCond .eq 7, 3) := dq_get dX6_flag_0_t 1 rfl
theorem dX6_flag_4 : decode cX6_flag 4 = .ok (.iconst 1, 1) := dq_get dX6_flag_0_t 2 rfl
theorem dX6_flag_5 : decode cX6_flag 5 = .ok (.goto 4, 3) := dq_get dX6_flag_0_t 3 rfl
theorem dX6_flag_8 : decode cX6_flag 8 = .ok (.iconst 0, 1) := dq_get dX6_flag_0_t 4 rfl
theorem dX6_flag_9 : decode cX6_flag 9 = .ok (.ireturn, 1) := dq_get dX6_flag_0_t 5 rfl
theorem dX6_firstDraft_0_t : dqK cX6_firstDraft.data.toList 0 [(0, .iconst 0, 1), (1, .istore_n 1, 1), (2, .iload_n 1, 1), (3, .bipush 85, 2), (5, .if_icmp .ge 16, 3), (8, .aload_n 0, 1), (9, .getfield 17, 3), (12, .iload_n 1, 1), (13, .iconst 0, 1), (14, .iastore, 1), (15, .iinc 1 1, 3), (18, .goto (-16), 3), (21, .aload_n 0, 1), (22, .iconst 3, 1), (23, .putfield 50, 3), (26, .aload_n 0, 1), (27, .iconst 3, 1), (28, .putfield 54, 3), (31, .aload_n 0, 1), (32, .bipush 9, 2), (34, .putfield 57, 3), (37, .aload_n 0, 1), (38, .iconst 0, 1), (39, .putfield 60, 3), (42, .aload_n 0, 1), (43, .iconst 0, 1), (44, .putfield 63, 3), (47, .aload_n 0, 1), (48, .bipush (-4), 2), (50, .putfield 66, 3), (53, .aload_n 0, 1), (54, .bipush (-4), 2), (56, .putfield 69, 3), (59, .return_, 1)] = true := by decide +kernel
theorem dX6_firstDraft_0 : decode cX6_firstDraft 0 = .ok (.iconst 0, 1) := dq_get dX6_firstDraft_0_t 0 rfl
theorem dX6_firstDraft_1 : decode cX6_firstDraft 1 = .ok (.istore_n 1, 1) := dq_get dX6_firstDraft_0_t 1 rfl
theorem dX6_firstDraft_2 : decode cX6_firstDraft 2 = .ok (.iload_n 1, 1) := dq_get dX6_firstDraft_0_t 2 rfl
theorem dX6_firstDraft_3 : decode cX6_firstDraft 3 = .ok (.bipush 85, 2) := dq_get dX6_firstDraft_0_t 3 rfl
theorem dX6_firstDraft_5 : decode cX6_firstDraft 5 = .ok (.if_icmp .ge 16, 3) := dq_get dX6_firstDraft_0_t 4 rfl
theorem dX6_firstDraft_8 : decode cX6_firstDraft 8 = .ok (.aload_n 0, 1) := dq_get dX6_firstDraft_0_t 5 rfl
theorem dX6_firstDraft_9 : decode cX6_firstDraft 9 = .ok (.getfield 17, 3) := dq_get dX6_firstDraft_0_t 6 rfl
theorem dX6_firstDraft_12 : decode cX6_firstDraft 12 = .ok (.iload_n 1, 1) := dq_get dX6_firstDraft_0_t 7 rfl
theorem dX6_firstDraft_13 : decode cX6_firstDraft 13 = .ok (.iconst 0, 1) := dq_get dX6_firstDraft_0_t 8 rfl
theorem dX6_firstDraft_14 : decode cX6_firstDraft 14 = .ok (.iastore, 1) := dq_get dX6_firstDraft_0_t 9 rfl
theorem dX6_firstDraft_15 : decode cX6_firstDraft 15 = .ok (.iinc 1 1, 3) := dq_get dX6_firstDraft_0_t 10 rfl
theorem dX6_firstDraft_18 : decode cX6_firstDraft 18 = .ok (.goto (-16), 3) := dq_get dX6_firstDraft_0_t 11 rfl
theorem dX6_firstDraft_21 : decode cX6_firstDraft 21 = .ok (.aload_n 0, 1) := dq_get dX6_firstDraft_0_t 12 rfl
theorem dX6_firstDraft_22 : decode cX6_firstDraft 22 = .ok (.iconst 3, 1) := dq_get dX6_firstDraft_0_t 13 rfl
theorem dX6_firstDraft_23 : decode cX6_firstDraft 23 = .ok (.putfield 50, 3) := dq_get dX6_firstDraft_0_t 14 rfl
theorem dX6_firstDraft_26 : decode cX6_firstDraft 26 = .ok (.aload_n 0, 1) := dq_get dX6_firstDraft_0_t 15 rfl
theorem dX6_firstDraft_27 : decode cX6_firstDraft 27 = .ok (.iconst 3, 1) := dq_get dX6_firstDraft_0_t 16 rfl
theorem dX6_firstDraft_28 : decode cX6_firstDraft 28 = .ok (.putfield 54, 3) := dq_get dX6_firstDraft_0_t 17 rfl
theorem dX6_firstDraft_31 : decode cX6_firstDraft 31 = .ok (.aload_n 0, 1) := dq_get dX6_firstDraft_0_t 18 rfl
theorem dX6_firstDraft_32 : decode cX6_firstDraft 32 = .ok (.bipush 9, 2) := dq_get dX6_firstDraft_0_t 19 rfl
theorem dX6_firstDraft_34 : decode cX6_firstDraft 34 = .ok (.putfield 57, 3) := dq_get dX6_firstDraft_0_t 20 rfl
theorem dX6_firstDraft_37 : decode cX6_firstDraft 37 = .ok (.aload_n 0, 1) := dq_get dX6_firstDraft_0_t 21 rfl
theorem dX6_firstDraft_38 : decode cX6_firstDraft 38 = .ok (.iconst 0, 1) := dq_get dX6_firstDraft_0_t 22 rfl
theorem dX6_firstDraft_39 : decode cX6_firstDraft 39 = .ok (.putfield 60, 3) := dq_get dX6_firstDraft_0_t 23 rfl
theorem dX6_firstDraft_42 : decode cX6_firstDraft 42 = .ok (.aload_n 0, 1) := dq_get dX6_firstDraft_0_t 24 rfl
theorem dX6_firstDraft_43 : decode cX6_firstDraft 43 = .ok (.iconst 0, 1) := dq_get dX6_firstDraft_0_t 25 rfl
theorem dX6_firstDraft_44 : decode cX6_firstDraft 44 = .ok (.putfield 63, 3) := dq_get dX6_firstDraft_0_t 26 rfl
theorem dX6_firstDraft_47 : decode cX6_firstDraft 47 = .ok (.aload_n 0, 1) := dq_get dX6_firstDraft_0_t 27 rfl
theorem dX6_firstDraft_48 : decode cX6_firstDraft 48 = .ok (.bipush (-4), 2) := dq_get dX6_firstDraft_0_t 28 rfl
theorem dX6_firstDraft_50 : decode cX6_firstDraft 50 = .ok (.putfield 66, 3) := dq_get dX6_firstDraft_0_t 29 rfl
theorem dX6_firstDraft_53 : decode cX6_firstDraft 53 = .ok (.aload_n 0, 1) := dq_get dX6_firstDraft_0_t 30 rfl
theorem dX6_firstDraft_54 : decode cX6_firstDraft 54 = .ok (.bipush (-4), 2) := dq_get dX6_firstDraft_0_t 31 rfl
theorem dX6_firstDraft_56 : decode cX6_firstDraft 56 = .ok (.putfield 69, 3) := dq_get dX6_firstDraft_0_t 32 rfl
theorem dX6_firstDraft_59 : decode cX6_firstDraft 59 = .ok (.return_, 1) := dq_get dX6_firstDraft_0_t 33 rfl
theorem dX6_keepDraft_0_t : dqK cX6_keepDraft.data.toList 0 [(0, .iconst 0, 1), (1, .istore_n 1, 1), (2, .iload_n 1, 1), (3, .bipush 85, 2), (5, .if_icmp .ge 21, 3), (8, .aload_n 0, 1), (9, .getfield 7, 3), (12, .iload_n 1, 1), (13, .aload_n 0, 1), (14, .getfield 17, 3), (17, .iload_n 1, 1), (18, .iaload, 1), (19, .iastore, 1), (20, .iinc 1 1, 3), (23, .goto (-21), 3), (26, .aload_n 0, 1), (27, .aload_n 0, 1), (28, .getfield 50, 3), (31, .putfield 72, 3), (34, .aload_n 0, 1), (35, .aload_n 0, 1), (36, .getfield 54, 3), (39, .putfield 75, 3), (42, .aload_n 0, 1), (43, .aload_n 0, 1), (44, .getfield 57, 3), (47, .putfield 78, 3), (50, .aload_n 0, 1), (51, .getfield 13, 3), (54, .iconst 0, 1), (55, .iconst 0, 1), (56, .bastore, 1), (57, .aload_n 0, 1), (58, .getfield 13, 3), (61, .iconst 1, 1), (62, .iconst 0, 1), (63, .bastore, 1), (64, .return_, 1)] = true := by decide +kernel
theorem dX6_keepDraft_0 : decode cX6_keepDraft 0 = .ok (.iconst 0, 1) := dq_get dX6_keepDraft_0_t 0 rfl
theorem dX6_keepDraft_1 : decode cX6_keepDraft 1 = .ok (.istore_n 1, 1) := dq_get dX6_keepDraft_0_t 1 rfl
theorem dX6_keepDraft_2 : decode cX6_keepDraft 2 = .ok (.iload_n 1, 1) := dq_get dX6_keepDraft_0_t 2 rfl
theorem dX6_keepDraft_3 : decode cX6_keepDraft 3 = .ok (.bipush 85, 2) := dq_get dX6_keepDraft_0_t 3 rfl
theorem dX6_keepDraft_5 : decode cX6_keepDraft 5 = .ok (.if_icmp .ge 21, 3) := dq_get dX6_keepDraft_0_t 4 rfl
theorem dX6_keepDraft_8 : decode cX6_keepDraft 8 = .ok (.aload_n 0, 1) := dq_get dX6_keepDraft_0_t 5 rfl
theorem dX6_keepDraft_9 : decode cX6_keepDraft 9 = .ok (.getfield 7, 3) := dq_get dX6_keepDraft_0_t 6 rfl
theorem dX6_keepDraft_12 : decode cX6_keepDraft 12 = .ok (.iload_n 1, 1) := dq_get dX6_keepDraft_0_t 7 rfl
theorem dX6_keepDraft_13 : decode cX6_keepDraft 13 = .ok (.aload_n 0, 1) := dq_get dX6_keepDraft_0_t 8 rfl
theorem dX6_keepDraft_14 : decode cX6_keepDraft 14 = .ok (.getfield 17, 3) := dq_get dX6_keepDraft_0_t 9 rfl
theorem dX6_keepDraft_17 : decode cX6_keepDraft 17 = .ok (.iload_n 1, 1) := dq_get dX6_keepDraft_0_t 10 rfl
theorem dX6_keepDraft_18 : decode cX6_keepDraft 18 = .ok (.iaload, 1) := dq_get dX6_keepDraft_0_t 11 rfl
theorem dX6_keepDraft_19 : decode cX6_keepDraft 19 = .ok (.iastore, 1) := dq_get dX6_keepDraft_0_t 12 rfl
theorem dX6_keepDraft_20 : decode cX6_keepDraft 20 = .ok (.iinc 1 1, 3) := dq_get dX6_keepDraft_0_t 13 rfl
theorem dX6_keepDraft_23 : decode cX6_keepDraft 23 = .ok (.goto (-21), 3) := dq_get dX6_keepDraft_0_t 14 rfl
theorem dX6_keepDraft_26 : decode cX6_keepDraft 26 = .ok (.aload_n 0, 1) := dq_get dX6_keepDraft_0_t 15 rfl
theorem dX6_keepDraft_27 : decode cX6_keepDraft 27 = .ok (.aload_n 0, 1) := dq_get dX6_keepDraft_0_t 16 rfl
theorem dX6_keepDraft_28 : decode cX6_keepDraft 28 = .ok (.getfield 50, 3) := dq_get dX6_keepDraft_0_t 17 rfl
theorem dX6_keepDraft_31 : decode cX6_keepDraft 31 = .ok (.putfield 72, 3) := dq_get dX6_keepDraft_0_t 18 rfl
theorem dX6_keepDraft_34 : decode cX6_keepDraft 34 = .ok (.aload_n 0, 1) := dq_get dX6_keepDraft_0_t 19 rfl
theorem dX6_keepDraft_35 : decode cX6_keepDraft 35 = .ok (.aload_n 0, 1) := dq_get dX6_keepDraft_0_t 20 rfl
theorem dX6_keepDraft_36 : decode cX6_keepDraft 36 = .ok (.getfield 54, 3) := dq_get dX6_keepDraft_0_t 21 rfl
theorem dX6_keepDraft_39 : decode cX6_keepDraft 39 = .ok (.putfield 75, 3) := dq_get dX6_keepDraft_0_t 22 rfl
theorem dX6_keepDraft_42 : decode cX6_keepDraft 42 = .ok (.aload_n 0, 1) := dq_get dX6_keepDraft_0_t 23 rfl
theorem dX6_keepDraft_43 : decode cX6_keepDraft 43 = .ok (.aload_n 0, 1) := dq_get dX6_keepDraft_0_t 24 rfl
theorem dX6_keepDraft_44 : decode cX6_keepDraft 44 = .ok (.getfield 57, 3) := dq_get dX6_keepDraft_0_t 25 rfl
theorem dX6_keepDraft_47 : decode cX6_keepDraft 47 = .ok (.putfield 78, 3) := dq_get dX6_keepDraft_0_t 26 rfl
theorem dX6_keepDraft_50 : decode cX6_keepDraft 50 = .ok (.aload_n 0, 1) := dq_get dX6_keepDraft_0_t 27 rfl
theorem dX6_keepDraft_51 : decode cX6_keepDraft 51 = .ok (.getfield 13, 3) := dq_get dX6_keepDraft_0_t 28 rfl
theorem dX6_keepDraft_54 : decode cX6_keepDraft 54 = .ok (.iconst 0, 1) := dq_get dX6_keepDraft_0_t 29 rfl
theorem dX6_keepDraft_55 : decode cX6_keepDraft 55 = .ok (.iconst 0, 1) := dq_get dX6_keepDraft_0_t 30 rfl
theorem dX6_keepDraft_56 : decode cX6_keepDraft 56 = .ok (.bastore, 1) := dq_get dX6_keepDraft_0_t 31 rfl
theorem dX6_keepDraft_57 : decode cX6_keepDraft 57 = .ok (.aload_n 0, 1) := dq_get dX6_keepDraft_0_t 32 rfl
theorem dX6_keepDraft_58 : decode cX6_keepDraft 58 = .ok (.getfield 13, 3) := dq_get dX6_keepDraft_0_t 33 rfl
theorem dX6_keepDraft_61 : decode cX6_keepDraft 61 = .ok (.iconst 1, 1) := dq_get dX6_keepDraft_0_t 34 rfl
theorem dX6_keepDraft_62 : decode cX6_keepDraft 62 = .ok (.iconst 0, 1) := dq_get dX6_keepDraft_0_t 35 rfl
theorem dX6_keepDraft_63 : decode cX6_keepDraft 63 = .ok (.bastore, 1) := dq_get dX6_keepDraft_0_t 36 rfl
theorem dX6_keepDraft_64 : decode cX6_keepDraft 64 = .ok (.return_, 1) := dq_get dX6_keepDraft_0_t 37 rfl
set_option maxRecDepth 20000 in
theorem ggX6_feed_X6_in : GoodIn wsX6_feed wsX6_in := goodIn_r _ [7] rfl (by decide +kernel)
set_option maxRecDepth 20000 in
theorem gX6_feed_X6_in : GoodIn wsX6_feed (va_wsS RX6 83 yX6_in wsX6_in) := goodIn_app (goodIn_r _ [4, 5, 6] rfl (by decide +kernel)) ggX6_feed_X6_in
theorem dX6_feed_0_t : dqK cX6_feed.data.toList 0 [(0, .iload_n 1, 1), (1, .i2l, 1), (2, .lconst 0, 1), (3, .ldc2_w 81, 3), (6, .invokestatic 83, 3), (9, .ifCond .ne 5, 3), (12, .iconst (-1), 1), (13, .ireturn, 1), (14, .aload_n 0, 1), (15, .getfield 87, 3), (18, .sipush 160, 3), (21, .if_icmp .ne 6, 3), (24, .bipush (-3), 2), (26, .ireturn, 1), (27, .aload_n 0, 1), (28, .getfield 20, 3), (31, .aload_n 0, 1), (32, .getfield 87, 3), (35, .iload_n 1, 1), (36, .iastore, 1), (37, .aload_n 0, 1), (38, .dup, 1), (39, .getfield 87, 3), (42, .iconst 1, 1), (43, .iadd, 1), (44, .putfield 87, 3), (47, .aload_n 0, 1), (48, .getfield 87, 3), (51, .ireturn, 1)] = true := by decide +kernel
theorem dX6_feed_0 : decode cX6_feed 0 = .ok (.iload_n 1, 1) := dq_get dX6_feed_0_t 0 rfl
theorem dX6_feed_1 : decode cX6_feed 1 = .ok (.i2l, 1) := dq_get dX6_feed_0_t 1 rfl
theorem dX6_feed_2 : decode cX6_feed 2 = .ok (.lconst 0, 1) := dq_get dX6_feed_0_t 2 rfl
theorem dX6_feed_3 : decode cX6_feed 3 = .ok (.ldc2_w 81, 3) := dq_get dX6_feed_0_t 3 rfl
theorem dX6_feed_6 : decode cX6_feed 6 = .ok (.invokestatic 83, 3) := dq_get dX6_feed_0_t 4 rfl
theorem dX6_feed_9 : decode cX6_feed 9 = .ok (.ifCond .ne 5, 3) := dq_get dX6_feed_0_t 5 rfl
theorem dX6_feed_12 : decode cX6_feed 12 = .ok (.iconst (-1), 1) := dq_get dX6_feed_0_t 6 rfl
theorem dX6_feed_13 : decode cX6_feed 13 = .ok (.ireturn, 1) := dq_get dX6_feed_0_t 7 rfl
theorem dX6_feed_14 : decode cX6_feed 14 = .ok (.aload_n 0, 1) := dq_get dX6_feed_0_t 8 rfl
theorem dX6_feed_15 : decode cX6_feed 15 = .ok (.getfield 87, 3) := dq_get dX6_feed_0_t 9 rfl
theorem dX6_feed_18 : decode cX6_feed 18 = .ok (.sipush 160, 3) := dq_get dX6_feed_0_t 10 rfl
theorem dX6_feed_21 : decode cX6_feed 21 = .ok (.if_icmp .ne 6, 3) := dq_get dX6_feed_0_t 11 rfl
theorem dX6_feed_24 : decode cX6_feed 24 = .ok (.bipush (-3), 2) := dq_get dX6_feed_0_t 12 rfl
theorem dX6_feed_26 : decode cX6_feed 26 = .ok (.ireturn, 1) := dq_get dX6_feed_0_t 13 rfl
theorem dX6_feed_27 : decode cX6_feed 27 = .ok (.aload_n 0, 1) := dq_get dX6_feed_0_t 14 rfl
theorem dX6_feed_28 : decode cX6_feed 28 = .ok (.getfield 20, 3) := dq_get dX6_feed_0_t 15 rfl
theorem dX6_feed_31 : decode cX6_feed 31 = .ok (.aload_n 0, 1) := dq_get dX6_feed_0_t 16 rfl
theorem dX6_feed_32 : decode cX6_feed 32 = .ok (.getfield 87, 3) := dq_get dX6_feed_0_t 17 rfl
theorem dX6_feed_35 : decode cX6_feed 35 = .ok (.iload_n 1, 1) := dq_get dX6_feed_0_t 18 rfl
theorem dX6_feed_36 : decode cX6_feed 36 = .ok (.iastore, 1) := dq_get dX6_feed_0_t 19 rfl
theorem dX6_feed_37 : decode cX6_feed 37 = .ok (.aload_n 0, 1) := dq_get dX6_feed_0_t 20 rfl
theorem dX6_feed_38 : decode cX6_feed 38 = .ok (.dup, 1) := dq_get dX6_feed_0_t 21 rfl
theorem dX6_feed_39 : decode cX6_feed 39 = .ok (.getfield 87, 3) := dq_get dX6_feed_0_t 22 rfl
theorem dX6_feed_42 : decode cX6_feed 42 = .ok (.iconst 1, 1) := dq_get dX6_feed_0_t 23 rfl
theorem dX6_feed_43 : decode cX6_feed 43 = .ok (.iadd, 1) := dq_get dX6_feed_0_t 24 rfl
theorem dX6_feed_44 : decode cX6_feed 44 = .ok (.putfield 87, 3) := dq_get dX6_feed_0_t 25 rfl
theorem dX6_feed_47 : decode cX6_feed 47 = .ok (.aload_n 0, 1) := dq_get dX6_feed_0_t 26 rfl
theorem dX6_feed_48 : decode cX6_feed 48 = .ok (.getfield 87, 3) := dq_get dX6_feed_0_t 27 rfl
theorem dX6_feed_51 : decode cX6_feed 51 = .ok (.ireturn, 1) := dq_get dX6_feed_0_t 28 rfl
set_option maxRecDepth 20000 in
theorem ggX6_end_X6_in : GoodIn wsX6_end wsX6_in := goodIn_r _ [5] rfl (by decide +kernel)
set_option maxRecDepth 20000 in
theorem gX6_end_X6_in : GoodIn wsX6_end (va_wsS RX6 83 yX6_in wsX6_in) := goodIn_app (goodIn_r _ [2, 3, 4] rfl (by decide +kernel)) ggX6_end_X6_in
theorem dX6_end_0_t : dqK cX6_end.data.toList 0 [(0, .iload_n 1, 1), (1, .i2l, 1), (2, .lconst 0, 1), (3, .aload_n 0, 1), (4, .getfield 87, 3), (7, .i2l, 1), (8, .invokestatic 83, 3), (11, .ifCond .ne 5, 3), (14, .iconst (-1), 1), (15, .ireturn, 1), (16, .aload_n 0, 1), (17, .getfield 87, 3), (20, .istore_n 2, 1), (21, .aload_n 0, 1), (22, .iload_n 1, 1), (23, .putfield 87, 3), (26, .iload_n 2, 1), (27, .ireturn, 1)] = true := by decide +kernel
theorem dX6_end_0 : decode cX6_end 0 = .ok (.iload_n 1, 1) := dq_get dX6_end_0_t 0 rfl
theorem dX6_end_1 : decode cX6_end 1 = .ok (.i2l, 1) := dq_get dX6_end_0_t 1 rfl
theorem dX6_end_2 : decode cX6_end 2 = .ok (.lconst 0, 1) := dq_get dX6_end_0_t 2 rfl
theorem dX6_end_3 : decode cX6_end 3 = .ok (.aload_n 0, 1) := dq_get dX6_end_0_t 3 rfl
theorem dX6_end_4 : decode cX6_end 4 = .ok (.getfield 87, 3) := dq_get dX6_end_0_t 4 rfl
theorem dX6_end_7 : decode cX6_end 7 = .ok (.i2l, 1) := dq_get dX6_end_0_t 5 rfl
theorem dX6_end_8 : decode cX6_end 8 = .ok (.invokestatic 83, 3) := dq_get dX6_end_0_t 6 rfl
theorem dX6_end_11 : decode cX6_end 11 = .ok (.ifCond .ne 5, 3) := dq_get dX6_end_0_t 7 rfl
theorem dX6_end_14 : decode cX6_end 14 = .ok (.iconst (-1), 1) := dq_get dX6_end_0_t 8 rfl
theorem dX6_end_15 : decode cX6_end 15 = .ok (.ireturn, 1) := dq_get dX6_end_0_t 9 rfl
theorem dX6_end_16 : decode cX6_end 16 = .ok (.aload_n 0, 1) := dq_get dX6_end_0_t 10 rfl
theorem dX6_end_17 : decode cX6_end 17 = .ok (.getfield 87, 3) := dq_get dX6_end_0_t 11 rfl
theorem dX6_end_20 : decode cX6_end 20 = .ok (.istore_n 2, 1) := dq_get dX6_end_0_t 12 rfl
theorem dX6_end_21 : decode cX6_end 21 = .ok (.aload_n 0, 1) := dq_get dX6_end_0_t 13 rfl
theorem dX6_end_22 : decode cX6_end 22 = .ok (.iload_n 1, 1) := dq_get dX6_end_0_t 14 rfl
theorem dX6_end_23 : decode cX6_end 23 = .ok (.putfield 87, 3) := dq_get dX6_end_0_t 15 rfl
theorem dX6_end_26 : decode cX6_end 26 = .ok (.iload_n 2, 1) := dq_get dX6_end_0_t 16 rfl
theorem dX6_end_27 : decode cX6_end 27 = .ok (.ireturn, 1) := dq_get dX6_end_0_t 17 rfl
theorem dX6_needs_0_t : dqK cX6_needs.data.toList 0 [(0, .iload_n 1, 1), (1, .ifCond .ne 23, 3), (4, .aload_n 0, 1), (5, .getfield 90, 3), (8, .ifCond .ne 16, 3), (11, .aload_n 0, 1), (12, .iload_n 2, 1), (13, .putfield 90, 3), (16, .aload_n 0, 1), (17, .aload_n 0, 1), (18, .getfield 93, 3), (21, .putfield 96, 3), (24, .return_, 1)] = true := by decide +kernel
theorem dX6_needs_0 : decode cX6_needs 0 = .ok (.iload_n 1, 1) := dq_get dX6_needs_0_t 0 rfl
theorem dX6_needs_1 : decode cX6_needs 1 = .ok (.ifCond .ne 23, 3) := dq_get dX6_needs_0_t 1 rfl
theorem dX6_needs_4 : decode cX6_needs 4 = .ok (.aload_n 0, 1) := dq_get dX6_needs_0_t 2 rfl
theorem dX6_needs_5 : decode cX6_needs 5 = .ok (.getfield 90, 3) := dq_get dX6_needs_0_t 3 rfl
theorem dX6_needs_8 : decode cX6_needs 8 = .ok (.ifCond .ne 16, 3) := dq_get dX6_needs_0_t 4 rfl
theorem dX6_needs_11 : decode cX6_needs 11 = .ok (.aload_n 0, 1) := dq_get dX6_needs_0_t 5 rfl
theorem dX6_needs_12 : decode cX6_needs 12 = .ok (.iload_n 2, 1) := dq_get dX6_needs_0_t 6 rfl
theorem dX6_needs_13 : decode cX6_needs 13 = .ok (.putfield 90, 3) := dq_get dX6_needs_0_t 7 rfl
theorem dX6_needs_16 : decode cX6_needs 16 = .ok (.aload_n 0, 1) := dq_get dX6_needs_0_t 8 rfl
theorem dX6_needs_17 : decode cX6_needs 17 = .ok (.aload_n 0, 1) := dq_get dX6_needs_0_t 9 rfl
theorem dX6_needs_18 : decode cX6_needs 18 = .ok (.getfield 93, 3) := dq_get dX6_needs_0_t 10 rfl
theorem dX6_needs_21 : decode cX6_needs 21 = .ok (.putfield 96, 3) := dq_get dX6_needs_0_t 11 rfl
theorem dX6_needs_24 : decode cX6_needs 24 = .ok (.return_, 1) := dq_get dX6_needs_0_t 12 rfl
theorem dX6_byteAt_0_t : dqK cX6_byteAt.data.toList 0 [(0, .iload_n 1, 1), (1, .aload_n 0, 1), (2, .getfield 87, 3), (5, .if_icmp .ge 12, 3), (8, .aload_n 0, 1), (9, .getfield 20, 3), (12, .iload_n 1, 1), (13, .iaload, 1), (14, .goto 4, 3), (17, .iconst (-1), 1), (18, .ireturn, 1)] = true := by decide +kernel
theorem dX6_byteAt_0 : decode cX6_byteAt 0 = .ok (.iload_n 1, 1) := dq_get dX6_byteAt_0_t 0 rfl
theorem dX6_byteAt_1 : decode cX6_byteAt 1 = .ok (.aload_n 0, 1) := dq_get dX6_byteAt_0_t 1 rfl
theorem dX6_byteAt_2 : decode cX6_byteAt 2 = .ok (.getfield 87, 3) := dq_get dX6_byteAt_0_t 2 rfl
theorem dX6_byteAt_5 : decode cX6_byteAt 5 = .ok (.if_icmp .ge 12, 3) := dq_get dX6_byteAt_0_t 3 rfl
theorem dX6_byteAt_8 : decode cX6_byteAt 8 = .ok (.aload_n 0, 1) := dq_get dX6_byteAt_0_t 4 rfl
theorem dX6_byteAt_9 : decode cX6_byteAt 9 = .ok (.getfield 20, 3) := dq_get dX6_byteAt_0_t 5 rfl
theorem dX6_byteAt_12 : decode cX6_byteAt 12 = .ok (.iload_n 1, 1) := dq_get dX6_byteAt_0_t 6 rfl
theorem dX6_byteAt_13 : decode cX6_byteAt 13 = .ok (.iaload, 1) := dq_get dX6_byteAt_0_t 7 rfl
theorem dX6_byteAt_14 : decode cX6_byteAt 14 = .ok (.goto 4, 3) := dq_get dX6_byteAt_0_t 8 rfl
theorem dX6_byteAt_17 : decode cX6_byteAt 17 = .ok (.iconst (-1), 1) := dq_get dX6_byteAt_0_t 9 rfl
theorem dX6_byteAt_18 : decode cX6_byteAt 18 = .ok (.ireturn, 1) := dq_get dX6_byteAt_0_t 10 rfl
theorem gt_wsX6_is_wsX60 : GoodIn wsX6_is wsX60 := fun w hw => ⟨List.mem_cons_of_mem _ (List.mem_append_right _ hw), good_of_word (List.all_eq_true.mp gw_wsX60 w hw)⟩
set_option maxRecDepth 20000 in
theorem ggX6_is_X6_byteAt : GoodIn wsX6_is wsX6_byteAt := goodIn_ca (goodIn_r _ [7, 8, 9] rfl (by decide +kernel)) gt_wsX6_is_wsX60
set_option maxRecDepth 20000 in
theorem gX6_is_X6_byteAt : GoodIn wsX6_is (wsV RX6 102 RX6 yX6_byteAt wsX6_byteAt) := goodIn_app (goodIn_r _ [3, 4, 5, 6] rfl (by decide +kernel)) ggX6_is_X6_byteAt
theorem dX6_is_0_t : dqK cX6_is.data.toList 0 [(0, .aload_n 0, 1), (1, .getfield 99, 3), (4, .aload_n 0, 1), (5, .getfield 93, 3), (8, .isub, 1), (9, .iload_n 1, 1), (10, .if_icmp .ne 63, 3), (13, .aload_n 0, 1), (14, .aload_n 0, 1), (15, .getfield 93, 3), (18, .invokevirtual 102, 3), (21, .iload_n 2, 1), (22, .if_icmp .ne 51, 3), (25, .aload_n 0, 1), (26, .aload_n 0, 1), (27, .getfield 93, 3), (30, .iconst 1, 1), (31, .iadd, 1), (32, .invokevirtual 102, 3), (35, .iload_n 3, 1), (36, .if_icmp .ne 37, 3), (39, .aload_n 0, 1), (40, .aload_n 0, 1), (41, .getfield 93, 3), (44, .iconst 2, 1), (45, .iadd, 1), (46, .invokevirtual 102, 3), (49, .iload 4, 2), (51, .if_icmp .ne 22, 3), (54, .aload_n 0, 1), (55, .aload_n 0, 1), (56, .getfield 93, 3), (59, .iconst 3, 1), (60, .iadd, 1), (61, .invokevirtual 102, 3), (64, .iload 5, 2), (66, .if_icmp .ne 7, 3), (69, .iconst 1, 1), (70, .goto 4, 3), (73, .iconst 0, 1)] = true := by decide +kernel
theorem dX6_is_0 : decode cX6_is 0 = .ok (.aload_n 0, 1) := dq_get dX6_is_0_t 0 rfl
theorem dX6_is_1 : decode cX6_is 1 = .ok (.getfield 99, 3) := dq_get dX6_is_0_t 1 rfl
theorem dX6_is_4 : decode cX6_is 4 = .ok (.aload_n 0, 1) := dq_get dX6_is_0_t 2 rfl
theorem dX6_is_5 : decode cX6_is 5 = .ok (.getfield 93, 3) := dq_get dX6_is_0_t 3 rfl
theorem dX6_is_8 : decode cX6_is 8 = .ok (.isub, 1) := dq_get dX6_is_0_t 4 rfl
theorem dX6_is_9 : decode cX6_is 9 = .ok (.iload_n 1, 1) := dq_get dX6_is_0_t 5 rfl
theorem dX6_is_10 : decode cX6_is 10 = .ok (.if_icmp .ne 63, 3) := dq_get dX6_is_0_t 6 rfl
theorem dX6_is_13 : decode cX6_is 13 = .ok (.aload_n 0, 1) := dq_get dX6_is_0_t 7 rfl
theorem dX6_is_14 : decode cX6_is 14 = .ok (.aload_n 0, 1) := dq_get dX6_is_0_t 8 rfl
theorem dX6_is_15 : decode cX6_is 15 = .ok (.getfield 93, 3) := dq_get dX6_is_0_t 9 rfl
theorem dX6_is_18 : decode cX6_is 18 = .ok (.invokevirtual 102, 3) := dq_get dX6_is_0_t 10 rfl
theorem dX6_is_21 : decode cX6_is 21 = .ok (.iload_n 2, 1) := dq_get dX6_is_0_t 11 rfl
theorem dX6_is_22 : decode cX6_is 22 = .ok (.if_icmp .ne 51, 3) := dq_get dX6_is_0_t 12 rfl
theorem dX6_is_25 : decode cX6_is 25 = .ok (.aload_n 0, 1) := dq_get dX6_is_0_t 13 rfl
theorem dX6_is_26 : decode cX6_is 26 = .ok (.aload_n 0, 1) := dq_get dX6_is_0_t 14 rfl
theorem dX6_is_27 : decode cX6_is 27 = .ok (.getfield 93, 3) := dq_get dX6_is_0_t 15 rfl
theorem dX6_is_30 : decode cX6_is 30 = .ok (.iconst 1, 1) := dq_get dX6_is_0_t 16 rfl
theorem dX6_is_31 : decode cX6_is 31 = .ok (.iadd, 1) := dq_get dX6_is_0_t 17 rfl
theorem dX6_is_32 : decode cX6_is 32 = .ok (.invokevirtual 102, 3) := dq_get dX6_is_0_t 18 rfl
theorem dX6_is_35 : decode cX6_is 35 = .ok (.iload_n 3, 1) := dq_get dX6_is_0_t 19 rfl
theorem dX6_is_36 : decode cX6_is 36 = .ok (.if_icmp .ne 37, 3) := dq_get dX6_is_0_t 20 rfl
theorem dX6_is_39 : decode cX6_is 39 = .ok (.aload_n 0, 1) := dq_get dX6_is_0_t 21 rfl
theorem dX6_is_40 : decode cX6_is 40 = .ok (.aload_n 0, 1) := dq_get dX6_is_0_t 22 rfl
theorem dX6_is_41 : decode cX6_is 41 = .ok (.getfield 93, 3) := dq_get dX6_is_0_t 23 rfl
theorem dX6_is_44 : decode cX6_is 44 = .ok (.iconst 2, 1) := dq_get dX6_is_0_t 24 rfl
theorem dX6_is_45 : decode cX6_is 45 = .ok (.iadd, 1) := dq_get dX6_is_0_t 25 rfl
theorem dX6_is_46 : decode cX6_is 46 = .ok (.invokevirtual 102, 3) := dq_get dX6_is_0_t 26 rfl
theorem dX6_is_49 : decode cX6_is 49 = .ok (.iload 4, 2) := dq_get dX6_is_0_t 27 rfl
theorem dX6_is_51 : decode cX6_is 51 = .ok (.if_icmp .ne 22, 3) := dq_get dX6_is_0_t 28 rfl
theorem dX6_is_54 : decode cX6_is 54 = .ok (.aload_n 0, 1) := dq_get dX6_is_0_t 29 rfl
theorem dX6_is_55 : decode cX6_is 55 = .ok (.aload_n 0, 1) := dq_get dX6_is_0_t 30 rfl
theorem dX6_is_56 : decode cX6_is 56 = .ok (.getfield 93, 3) := dq_get dX6_is_0_t 31 rfl
theorem dX6_is_59 : decode cX6_is 59 = .ok (.iconst 3, 1) := dq_get dX6_is_0_t 32 rfl
theorem dX6_is_60 : decode cX6_is 60 = .ok (.iadd, 1) := dq_get dX6_is_0_t 33 rfl
theorem dX6_is_61 : decode cX6_is 61 = .ok (.invokevirtual 102, 3) := dq_get dX6_is_0_t 34 rfl
theorem dX6_is_64 : decode cX6_is 64 = .ok (.iload 5, 2) := dq_get dX6_is_0_t 35 rfl
theorem dX6_is_66 : decode cX6_is 66 = .ok (.if_icmp .ne 7, 3) := dq_get dX6_is_0_t 36 rfl
theorem dX6_is_69 : decode cX6_is 69 = .ok (.iconst 1, 1) := dq_get dX6_is_0_t 37 rfl
theorem dX6_is_70 : decode cX6_is 70 = .ok (.goto 4, 3) := dq_get dX6_is_0_t 38 rfl
theorem dX6_is_73 : decode cX6_is 73 = .ok (.iconst 0, 1) := dq_get dX6_is_0_t 39 rfl
theorem dX6_is_74 : decode cX6_is 74 = .ok (.ireturn, 1) := by decide +kernel
theorem gt_wsX6_lineNow_wsX60 : GoodIn wsX6_lineNow wsX60 := fun w hw => ⟨List.mem_cons_of_mem _ (List.mem_append_right _ hw), good_of_word (List.all_eq_true.mp gw_wsX60 w hw)⟩
set_option maxRecDepth 20000 in
theorem ggX6_lineNow_X6_is : GoodIn wsX6_lineNow wsX6_is := goodIn_ca (goodIn_r _ [6, 7, 1, 8, 9, 10, 5, 11, 12, 13] rfl (by decide +kernel)) gt_wsX6_lineNow_wsX60
set_option maxRecDepth 20000 in
theorem gX6_lineNow_X6_is : GoodIn wsX6_lineNow (wsV RX6 106 RX6 yX6_is wsX6_is) := goodIn_app (goodIn_r _ [2, 3, 4, 5] rfl (by decide +kernel)) ggX6_lineNow_X6_is
set_option maxRecDepth 20000 in
theorem ggX6_lineNow_X6_byteAt : GoodIn wsX6_lineNow wsX6_byteAt := goodIn_ca (goodIn_r _ [11, 12, 13] rfl (by decide +kernel)) gt_wsX6_lineNow_wsX60
set_option maxRecDepth 20000 in
theorem gX6_lineNow_X6_byteAt : GoodIn wsX6_lineNow (wsV RX6 102 RX6 yX6_byteAt wsX6_byteAt) := goodIn_app (goodIn_r _ [8, 9, 10, 5] rfl (by decide +kernel)) ggX6_lineNow_X6_byteAt
theorem dX6_lineNow_0_t : dqK cX6_lineNow.data.toList 0 [(0, .aload_n 0, 1), (1, .iconst 5, 1), (2, .bipush 104, 2), (4, .bipush 111, 2), (6, .bipush 117, 2), (8, .bipush 115, 2), (10, .invokevirtual 106, 3), (13, .ifCond .eq 20, 3), (16, .aload_n 0, 1), (17, .aload_n 0, 1), (18, .getfield 93, 3), (21, .iconst 4, 1), (22, .iadd, 1), (23, .invokevirtual 102, 3), (26, .bipush 101, 2), (28, .if_icmp .ne 5, 3), (31, .iconst 0, 1), (32, .ireturn, 1), (33, .aload_n 0, 1), (34, .iconst 4, 1), (35, .bipush 108, 2), (37, .bipush 97, 2), (39, .bipush 115, 2), (41, .bipush 116, 2), (43, .invokevirtual 106, 3), (46, .ifCond .eq 5, 3), (49, .iconst 1, 1), (50, .ireturn, 1), (51, .aload_n 0, 1), (52, .iconst 4, 1), (53, .bipush 99, 2), (55, .bipush 101, 2), (57, .bipush 108, 2), (59, .bipush 108, 2), (61, .invokevirtual 106, 3), (64, .ifCond .eq 5, 3), (67, .iconst 2, 1), (68, .ireturn, 1), (69, .aload_n 0, 1), (70, .iconst 4, 1)] = true := by decide +kernel
theorem dX6_lineNow_0 : decode cX6_lineNow 0 = .ok (.aload_n 0, 1) := dq_get dX6_lineNow_0_t 0 rfl
theorem dX6_lineNow_1 : decode cX6_lineNow 1 = .ok (.iconst 5, 1) := dq_get dX6_lineNow_0_t 1 rfl
theorem dX6_lineNow_2 : decode cX6_lineNow 2 = .ok (.bipush 104, 2) := dq_get dX6_lineNow_0_t 2 rfl
theorem dX6_lineNow_4 : decode cX6_lineNow 4 = .ok (.bipush 111, 2) := dq_get dX6_lineNow_0_t 3 rfl
theorem dX6_lineNow_6 : decode cX6_lineNow 6 = .ok (.bipush 117, 2) := dq_get dX6_lineNow_0_t 4 rfl
theorem dX6_lineNow_8 : decode cX6_lineNow 8 = .ok (.bipush 115, 2) := dq_get dX6_lineNow_0_t 5 rfl
theorem dX6_lineNow_10 : decode cX6_lineNow 10 = .ok (.invokevirtual 106, 3) := dq_get dX6_lineNow_0_t 6 rfl
theorem dX6_lineNow_13 : decode cX6_lineNow 13 = .ok (.ifCond .eq 20, 3) := dq_get dX6_lineNow_0_t 7 rfl
theorem dX6_lineNow_16 : decode cX6_lineNow 16 = .ok (.aload_n 0, 1) := dq_get dX6_lineNow_0_t 8 rfl
theorem dX6_lineNow_17 : decode cX6_lineNow 17 = .ok (.aload_n 0, 1) := dq_get dX6_lineNow_0_t 9 rfl
theorem dX6_lineNow_18 : decode cX6_lineNow 18 = .ok (.getfield 93, 3) := dq_get dX6_lineNow_0_t 10 rfl
theorem dX6_lineNow_21 : decode cX6_lineNow 21 = .ok (.iconst 4, 1) := dq_get dX6_lineNow_0_t 11 rfl
theorem dX6_lineNow_22 : decode cX6_lineNow 22 = .ok (.iadd, 1) := dq_get dX6_lineNow_0_t 12 rfl
theorem dX6_lineNow_23 : decode cX6_lineNow 23 = .ok (.invokevirtual 102, 3) := dq_get dX6_lineNow_0_t 13 rfl
theorem dX6_lineNow_26 : decode cX6_lineNow 26 = .ok (.bipush 101, 2) := dq_get dX6_lineNow_0_t 14 rfl
theorem dX6_lineNow_28 : decode cX6_lineNow 28 = .ok (.if_icmp .ne 5, 3) := dq_get dX6_lineNow_0_t 15 rfl
theorem dX6_lineNow_31 : decode cX6_lineNow 31 = .ok (.iconst 0, 1) := dq_get dX6_lineNow_0_t 16 rfl
theorem dX6_lineNow_32 : decode cX6_lineNow 32 = .ok (.ireturn, 1) := dq_get dX6_lineNow_0_t 17 rfl
theorem dX6_lineNow_33 : decode cX6_lineNow 33 = .ok (.aload_n 0, 1) := dq_get dX6_lineNow_0_t 18 rfl
theorem dX6_lineNow_34 : decode cX6_lineNow 34 = .ok (.iconst 4, 1) := dq_get dX6_lineNow_0_t 19 rfl
theorem dX6_lineNow_35 : decode cX6_lineNow 35 = .ok (.bipush 108, 2) := dq_get dX6_lineNow_0_t 20 rfl
theorem dX6_lineNow_37 : decode cX6_lineNow 37 = .ok (.bipush 97, 2) := dq_get dX6_lineNow_0_t 21 rfl
theorem dX6_lineNow_39 : decode cX6_lineNow 39 = .ok (.bipush 115, 2) := dq_get dX6_lineNow_0_t 22 rfl
theorem dX6_lineNow_41 : decode cX6_lineNow 41 = .ok (.bipush 116, 2) := dq_get dX6_lineNow_0_t 23 rfl
theorem dX6_lineNow_43 : decode cX6_lineNow 43 = .ok (.invokevirtual 106, 3) := dq_get dX6_lineNow_0_t 24 rfl
theorem dX6_lineNow_46 : decode cX6_lineNow 46 = .ok (.ifCond .eq 5, 3) := dq_get dX6_lineNow_0_t 25 rfl
theorem dX6_lineNow_49 : decode cX6_lineNow 49 = .ok (.iconst 1, 1) := dq_get dX6_lineNow_0_t 26 rfl
theorem dX6_lineNow_50 : decode cX6_lineNow 50 = .ok (.ireturn, 1) := dq_get dX6_lineNow_0_t 27 rfl
theorem dX6_lineNow_51 : decode cX6_lineNow 51 = .ok (.aload_n 0, 1) := dq_get dX6_lineNow_0_t 28 rfl
theorem dX6_lineNow_52 : decode cX6_lineNow 52 = .ok (.iconst 4, 1) := dq_get dX6_lineNow_0_t 29 rfl
theorem dX6_lineNow_53 : decode cX6_lineNow 53 = .ok (.bipush 99, 2) := dq_get dX6_lineNow_0_t 30 rfl
theorem dX6_lineNow_55 : decode cX6_lineNow 55 = .ok (.bipush 101, 2) := dq_get dX6_lineNow_0_t 31 rfl
theorem dX6_lineNow_57 : decode cX6_lineNow 57 = .ok (.bipush 108, 2) := dq_get dX6_lineNow_0_t 32 rfl
theorem dX6_lineNow_59 : decode cX6_lineNow 59 = .ok (.bipush 108, 2) := dq_get dX6_lineNow_0_t 33 rfl
theorem dX6_lineNow_61 : decode cX6_lineNow 61 = .ok (.invokevirtual 106, 3) := dq_get dX6_lineNow_0_t 34 rfl
theorem dX6_lineNow_64 : decode cX6_lineNow 64 = .ok (.ifCond .eq 5, 3) := dq_get dX6_lineNow_0_t 35 rfl
theorem dX6_lineNow_67 : decode cX6_lineNow 67 = .ok (.iconst 2, 1) := dq_get dX6_lineNow_0_t 36 rfl
theorem dX6_lineNow_68 : decode cX6_lineNow 68 = .ok (.ireturn, 1) := dq_get dX6_lineNow_0_t 37 rfl
theorem dX6_lineNow_69 : decode cX6_lineNow 69 = .ok (.aload_n 0, 1) := dq_get dX6_lineNow_0_t 38 rfl
theorem dX6_lineNow_70 : decode cX6_lineNow 70 = .ok (.iconst 4, 1) := dq_get dX6_lineNow_0_t 39 rfl
theorem dX6_lineNow_71_t : dqK cX6_lineNow.data.toList 0 [(71, .bipush 116, 2), (73, .bipush 117, 2), (75, .bipush 114, 2), (77, .bipush 110, 2), (79, .invokevirtual 106, 3), (82, .ifCond .eq 7, 3), (85, .iconst 3, 1), (86, .goto 25, 3), (89, .aload_n 0, 1), (90, .iconst 4, 1), (91, .bipush 108, 2), (93, .bipush 101, 2), (95, .bipush 110, 2), (97, .bipush 115, 2), (99, .invokevirtual 106, 3), (102, .ifCond .eq 7, 3), (105, .iconst 4, 1), (106, .goto 5, 3), (109, .bipush (-4), 2), (111, .ireturn, 1)] = true := by decide +kernel
theorem dX6_lineNow_71 : decode cX6_lineNow 71 = .ok (.bipush 116, 2) := dq_get dX6_lineNow_71_t 0 rfl
theorem dX6_lineNow_73 : decode cX6_lineNow 73 = .ok (.bipush 117, 2) := dq_get dX6_lineNow_71_t 1 rfl
theorem dX6_lineNow_75 : decode cX6_lineNow 75 = .ok (.bipush 114, 2) := dq_get dX6_lineNow_71_t 2 rfl
theorem dX6_lineNow_77 : decode cX6_lineNow 77 = .ok (.bipush 110, 2) := dq_get dX6_lineNow_71_t 3 rfl
theorem dX6_lineNow_79 : decode cX6_lineNow 79 = .ok (.invokevirtual 106, 3) := dq_get dX6_lineNow_71_t 4 rfl
theorem dX6_lineNow_82 : decode cX6_lineNow 82 = .ok (.ifCond .eq 7, 3) := dq_get dX6_lineNow_71_t 5 rfl
theorem dX6_lineNow_85 : decode cX6_lineNow 85 = .ok (.iconst 3, 1) := dq_get dX6_lineNow_71_t 6 rfl
theorem dX6_lineNow_86 : decode cX6_lineNow 86 = .ok (.goto 25, 3) := dq_get dX6_lineNow_71_t 7 rfl
theorem dX6_lineNow_89 : decode cX6_lineNow 89 = .ok (.aload_n 0, 1) := dq_get dX6_lineNow_71_t 8 rfl
theorem dX6_lineNow_90 : decode cX6_lineNow 90 = .ok (.iconst 4, 1) := dq_get dX6_lineNow_71_t 9 rfl
theorem dX6_lineNow_91 : decode cX6_lineNow 91 = .ok (.bipush 108, 2) := dq_get dX6_lineNow_71_t 10 rfl
theorem dX6_lineNow_93 : decode cX6_lineNow 93 = .ok (.bipush 101, 2) := dq_get dX6_lineNow_71_t 11 rfl
theorem dX6_lineNow_95 : decode cX6_lineNow 95 = .ok (.bipush 110, 2) := dq_get dX6_lineNow_71_t 12 rfl
theorem dX6_lineNow_97 : decode cX6_lineNow 97 = .ok (.bipush 115, 2) := dq_get dX6_lineNow_71_t 13 rfl
theorem dX6_lineNow_99 : decode cX6_lineNow 99 = .ok (.invokevirtual 106, 3) := dq_get dX6_lineNow_71_t 14 rfl
theorem dX6_lineNow_102 : decode cX6_lineNow 102 = .ok (.ifCond .eq 7, 3) := dq_get dX6_lineNow_71_t 15 rfl
theorem dX6_lineNow_105 : decode cX6_lineNow 105 = .ok (.iconst 4, 1) := dq_get dX6_lineNow_71_t 16 rfl
theorem dX6_lineNow_106 : decode cX6_lineNow 106 = .ok (.goto 5, 3) := dq_get dX6_lineNow_71_t 17 rfl
theorem dX6_lineNow_109 : decode cX6_lineNow 109 = .ok (.bipush (-4), 2) := dq_get dX6_lineNow_71_t 18 rfl
theorem dX6_lineNow_111 : decode cX6_lineNow 111 = .ok (.ireturn, 1) := dq_get dX6_lineNow_71_t 19 rfl
theorem gt_wsX6_nextToken_wsX60 : GoodIn wsX6_nextToken wsX60 := fun w hw => ⟨List.mem_cons_of_mem _ (List.mem_append_right _ hw), good_of_word (List.all_eq_true.mp gw_wsX60 w hw)⟩
set_option maxRecDepth 20000 in
theorem ggX6_nextToken_X6_byteAt : GoodIn wsX6_nextToken wsX6_byteAt := goodIn_ca (goodIn_r _ [14, 15, 16] rfl (by decide +kernel)) gt_wsX6_nextToken_wsX60
set_option maxRecDepth 20000 in
theorem gX6_nextToken_X6_byteAt : GoodIn wsX6_nextToken (wsV RX6 102 RX6 yX6_byteAt wsX6_byteAt) := goodIn_app (goodIn_r _ [10, 11, 12, 13] rfl (by decide +kernel)) ggX6_nextToken_X6_byteAt
set_option maxRecDepth 20000 in
theorem ggX6_nextToken_X6_in : GoodIn wsX6_nextToken wsX6_in := goodIn_r _ [19] rfl (by decide +kernel)
set_option maxRecDepth 20000 in
theorem gX6_nextToken_X6_in : GoodIn wsX6_nextToken (va_wsS RX6 83 yX6_in wsX6_in) := goodIn_app (goodIn_r _ [17, 18, 13] rfl (by decide +kernel)) ggX6_nextToken_X6_in
set_option maxRecDepth 20000 in
theorem ggX6_nextToken_X6_needs : GoodIn wsX6_nextToken wsX6_needs := goodIn_ca (goodIn_r _ [23, 1, 3, 24] rfl (by decide +kernel)) gt_wsX6_nextToken_wsX60
set_option maxRecDepth 20000 in
theorem gX6_nextToken_X6_needs : GoodIn wsX6_nextToken (wsV RX6 124 RX6 yX6_needs wsX6_needs) := goodIn_app (goodIn_r _ [20, 21, 22, 13] rfl (by decide +kernel)) ggX6_nextToken_X6_needs
theorem dX6_nextToken_0_t : dqK cX6_nextToken.data.toList 0 [(0, .aload_n 0, 1), (1, .getfield 90, 3), (4, .ifCond .le 4, 3), (7, .return_, 1), (8, .aload_n 0, 1), (9, .aload_n 0, 1), (10, .getfield 99, 3), (13, .invokevirtual 102, 3), (16, .bipush 32, 2), (18, .if_icmp .ne 16, 3), (21, .aload_n 0, 1), (22, .dup, 1), (23, .getfield 99, 3), (26, .iconst 1, 1), (27, .iadd, 1), (28, .putfield 99, 3), (31, .goto (-23), 3), (34, .aload_n 0, 1), (35, .aload_n 0, 1), (36, .getfield 99, 3), (39, .putfield 93, 3), (42, .aload_n 0, 1), (43, .aload_n 0, 1), (44, .getfield 99, 3), (47, .invokevirtual 102, 3), (50, .istore_n 1, 1), (51, .iload_n 1, 1), (52, .ifCond .ge 11, 3), (55, .aload_n 0, 1), (56, .iconst 0, 1), (57, .putfield 110, 3), (60, .goto 214, 3), (63, .iload_n 1, 1), (64, .i2l, 1), (65, .ldc2_w 113, 3), (68, .ldc2_w 115, 3), (71, .invokestatic 83, 3), (74, .ifCond .eq 42, 3), (77, .aload_n 0, 1), (78, .iconst 1, 1)] = true := by decide +kernel
theorem dX6_nextToken_0 : decode cX6_nextToken 0 = .ok (.aload_n 0, 1) := dq_get dX6_nextToken_0_t 0 rfl
theorem dX6_nextToken_1 : decode cX6_nextToken 1 = .ok (.getfield 90, 3) := dq_get dX6_nextToken_0_t 1 rfl
theorem dX6_nextToken_4 : decode cX6_nextToken 4 = .ok (.ifCond .le 4, 3) := dq_get dX6_nextToken_0_t 2 rfl
theorem dX6_nextToken_7 : decode cX6_nextToken 7 = .ok (.return_, 1) := dq_get dX6_nextToken_0_t 3 rfl
theorem dX6_nextToken_8 : decode cX6_nextToken 8 = .ok (.aload_n 0, 1) := dq_get dX6_nextToken_0_t 4 rfl
theorem dX6_nextToken_9 : decode cX6_nextToken 9 = .ok (.aload_n 0, 1) := dq_get dX6_nextToken_0_t 5 rfl
theorem dX6_nextToken_10 : decode cX6_nextToken 10 = .ok (.getfield 99, 3) := dq_get dX6_nextToken_0_t 6 rfl
theorem dX6_nextToken_13 : decode cX6_nextToken 13 = .ok (.invokevirtual 102, 3) := dq_get dX6_nextToken_0_t 7 rfl
theorem dX6_nextToken_16 : decode cX6_nextToken 16 = .ok (.bipush 32, 2) := dq_get dX6_nextToken_0_t 8 rfl
theorem dX6_nextToken_18 : decode cX6_nextToken 18 = .ok (.if_icmp .ne 16, 3) := dq_get dX6_nextToken_0_t 9 rfl
theorem dX6_nextToken_21 : decode cX6_nextToken 21 = .ok (.aload_n 0, 1) := dq_get dX6_nextToken_0_t 10 rfl
theorem dX6_nextToken_22 : decode cX6_nextToken 22 = .ok (.dup, 1) := dq_get dX6_nextToken_0_t 11 rfl
theorem dX6_nextToken_23 : decode cX6_nextToken 23 = .ok (.getfield 99, 3) := dq_get dX6_nextToken_0_t 12 rfl
theorem dX6_nextToken_26 : decode cX6_nextToken 26 = .ok (.iconst 1, 1) := dq_get dX6_nextToken_0_t 13 rfl
theorem dX6_nextToken_27 : decode cX6_nextToken 27 = .ok (.iadd, 1) := dq_get dX6_nextToken_0_t 14 rfl
theorem dX6_nextToken_28 : decode cX6_nextToken 28 = .ok (.putfield 99, 3) := dq_get dX6_nextToken_0_t 15 rfl
theorem dX6_nextToken_31 : decode cX6_nextToken 31 = .ok (.goto (-23), 3) := dq_get dX6_nextToken_0_t 16 rfl
theorem dX6_nextToken_34 : decode cX6_nextToken 34 = .ok (.aload_n 0, 1) := dq_get dX6_nextToken_0_t 17 rfl
theorem dX6_nextToken_35 : decode cX6_nextToken 35 = .ok (.aload_n 0, 1) := dq_get dX6_nextToken_0_t 18 rfl
theorem dX6_nextToken_36 : decode cX6_nextToken 36 = .ok (.getfield 99, 3) := dq_get dX6_nextToken_0_t 19 rfl
theorem dX6_nextToken_39 : decode cX6_nextToken 39 = .ok (.putfield 93, 3) := dq_get dX6_nextToken_0_t 20 rfl
theorem dX6_nextToken_42 : decode cX6_nextToken 42 = .ok (.aload_n 0, 1) := dq_get dX6_nextToken_0_t 21 rfl
theorem dX6_nextToken_43 : decode cX6_nextToken 43 = .ok (.aload_n 0, 1) := dq_get dX6_nextToken_0_t 22 rfl
theorem dX6_nextToken_44 : decode cX6_nextToken 44 = .ok (.getfield 99, 3) := dq_get dX6_nextToken_0_t 23 rfl
theorem dX6_nextToken_47 : decode cX6_nextToken 47 = .ok (.invokevirtual 102, 3) := dq_get dX6_nextToken_0_t 24 rfl
theorem dX6_nextToken_50 : decode cX6_nextToken 50 = .ok (.istore_n 1, 1) := dq_get dX6_nextToken_0_t 25 rfl
theorem dX6_nextToken_51 : decode cX6_nextToken 51 = .ok (.iload_n 1, 1) := dq_get dX6_nextToken_0_t 26 rfl
theorem dX6_nextToken_52 : decode cX6_nextToken 52 = .ok (.ifCond .ge 11, 3) := dq_get dX6_nextToken_0_t 27 rfl
theorem dX6_nextToken_55 : decode cX6_nextToken 55 = .ok (.aload_n 0, 1) := dq_get dX6_nextToken_0_t 28 rfl
theorem dX6_nextToken_56 : decode cX6_nextToken 56 = .ok (.iconst 0, 1) := dq_get dX6_nextToken_0_t 29 rfl
theorem dX6_nextToken_57 : decode cX6_nextToken 57 = .ok (.putfield 110, 3) := dq_get dX6_nextToken_0_t 30 rfl
theorem dX6_nextToken_60 : decode cX6_nextToken 60 = .ok (.goto 214, 3) := dq_get dX6_nextToken_0_t 31 rfl
theorem dX6_nextToken_63 : decode cX6_nextToken 63 = .ok (.iload_n 1, 1) := dq_get dX6_nextToken_0_t 32 rfl
theorem dX6_nextToken_64 : decode cX6_nextToken 64 = .ok (.i2l, 1) := dq_get dX6_nextToken_0_t 33 rfl
theorem dX6_nextToken_65 : decode cX6_nextToken 65 = .ok (.ldc2_w 113, 3) := dq_get dX6_nextToken_0_t 34 rfl
theorem dX6_nextToken_68 : decode cX6_nextToken 68 = .ok (.ldc2_w 115, 3) := dq_get dX6_nextToken_0_t 35 rfl
theorem dX6_nextToken_71 : decode cX6_nextToken 71 = .ok (.invokestatic 83, 3) := dq_get dX6_nextToken_0_t 36 rfl
theorem dX6_nextToken_74 : decode cX6_nextToken 74 = .ok (.ifCond .eq 42, 3) := dq_get dX6_nextToken_0_t 37 rfl
theorem dX6_nextToken_77 : decode cX6_nextToken 77 = .ok (.aload_n 0, 1) := dq_get dX6_nextToken_0_t 38 rfl
theorem dX6_nextToken_78 : decode cX6_nextToken 78 = .ok (.iconst 1, 1) := dq_get dX6_nextToken_0_t 39 rfl
theorem dX6_nextToken_79_t : dqK cX6_nextToken.data.toList 0 [(79, .putfield 110, 3), (82, .aload_n 0, 1), (83, .aload_n 0, 1), (84, .getfield 99, 3), (87, .invokevirtual 102, 3), (90, .i2l, 1), (91, .ldc2_w 113, 3), (94, .ldc2_w 115, 3), (97, .invokestatic 83, 3), (100, .ifCond .eq 174, 3), (103, .aload_n 0, 1), (104, .dup, 1), (105, .getfield 99, 3), (108, .iconst 1, 1), (109, .iadd, 1), (110, .putfield 99, 3), (113, .goto (-31), 3), (116, .iload_n 1, 1), (117, .i2l, 1), (118, .ldc2_w 117, 3), (121, .ldc2_w 119, 3), (124, .invokestatic 83, 3), (127, .ifCond .eq 116, 3), (130, .aload_n 0, 1), (131, .iconst 2, 1), (132, .putfield 110, 3), (135, .aload_n 0, 1), (136, .iconst 0, 1), (137, .putfield 121, 3), (140, .aload_n 0, 1), (141, .aload_n 0, 1), (142, .getfield 99, 3), (145, .invokevirtual 102, 3), (148, .i2l, 1), (149, .ldc2_w 117, 3), (152, .ldc2_w 119, 3), (155, .invokestatic 83, 3), (158, .ifCond .eq 59, 3), (161, .aload_n 0, 1), (162, .aload_n 0, 1)] = true := by decide +kernel
theorem dX6_nextToken_79 : decode cX6_nextToken 79 = .ok (.putfield 110, 3) := dq_get dX6_nextToken_79_t 0 rfl
theorem dX6_nextToken_82 : decode cX6_nextToken 82 = .ok (.aload_n 0, 1) := dq_get dX6_nextToken_79_t 1 rfl
theorem dX6_nextToken_83 : decode cX6_nextToken 83 = .ok (.aload_n 0, 1) := dq_get dX6_nextToken_79_t 2 rfl
theorem dX6_nextToken_84 : decode cX6_nextToken 84 = .ok (.getfield 99, 3) := dq_get dX6_nextToken_79_t 3 rfl
theorem dX6_nextToken_87 : decode cX6_nextToken 87 = .ok (.invokevirtual 102, 3) := dq_get dX6_nextToken_79_t 4 rfl
theorem dX6_nextToken_90 : decode cX6_nextToken 90 = .ok (.i2l, 1) := dq_get dX6_nextToken_79_t 5 rfl
theorem dX6_nextToken_91 : decode cX6_nextToken 91 = .ok (.ldc2_w 113, 3) := dq_get dX6_nextToken_79_t 6 rfl
theorem dX6_nextToken_94 : decode cX6_nextToken 94 = .ok (.ldc2_w 115, 3) := dq_get dX6_nextToken_79_t 7 rfl
theorem dX6_nextToken_97 : decode cX6_nextToken 97 = .ok (.invokestatic 83, 3) := dq_get dX6_nextToken_79_t 8 rfl
theorem dX6_nextToken_100 : decode cX6_nextToken 100 = .ok (.ifCond .eq 174, 3) := dq_get dX6_nextToken_79_t 9 rfl
theorem dX6_nextToken_103 : decode cX6_nextToken 103 = .ok (.aload_n 0, 1) := dq_get dX6_nextToken_79_t 10 rfl
theorem dX6_nextToken_104 : decode cX6_nextToken 104 = .ok (.dup, 1) := dq_get dX6_nextToken_79_t 11 rfl
theorem dX6_nextToken_105 : decode cX6_nextToken 105 = .ok (.getfield 99, 3) := dq_get dX6_nextToken_79_t 12 rfl
theorem dX6_nextToken_108 : decode cX6_nextToken 108 = .ok (.iconst 1, 1) := dq_get dX6_nextToken_79_t 13 rfl
theorem dX6_nextToken_109 : decode cX6_nextToken 109 = .ok (.iadd, 1) := dq_get dX6_nextToken_79_t 14 rfl
theorem dX6_nextToken_110 : decode cX6_nextToken 110 = .ok (.putfield 99, 3) := dq_get dX6_nextToken_79_t 15 rfl
theorem dX6_nextToken_113 : decode cX6_nextToken 113 = .ok (.goto (-31), 3) := dq_get dX6_nextToken_79_t 16 rfl
theorem dX6_nextToken_116 : decode cX6_nextToken 116 = .ok (.iload_n 1, 1) := dq_get dX6_nextToken_79_t 17 rfl
theorem dX6_nextToken_117 : decode cX6_nextToken 117 = .ok (.i2l, 1) := dq_get dX6_nextToken_79_t 18 rfl
theorem dX6_nextToken_118 : decode cX6_nextToken 118 = .ok (.ldc2_w 117, 3) := dq_get dX6_nextToken_79_t 19 rfl
theorem dX6_nextToken_121 : decode cX6_nextToken 121 = .ok (.ldc2_w 119, 3) := dq_get dX6_nextToken_79_t 20 rfl
theorem dX6_nextToken_124 : decode cX6_nextToken 124 = .ok (.invokestatic 83, 3) := dq_get dX6_nextToken_79_t 21 rfl
theorem dX6_nextToken_127 : decode cX6_nextToken 127 = .ok (.ifCond .eq 116, 3) := dq_get dX6_nextToken_79_t 22 rfl
theorem dX6_nextToken_130 : decode cX6_nextToken 130 = .ok (.aload_n 0, 1) := dq_get dX6_nextToken_79_t 23 rfl
theorem dX6_nextToken_131 : decode cX6_nextToken 131 = .ok (.iconst 2, 1) := dq_get dX6_nextToken_79_t 24 rfl
theorem dX6_nextToken_132 : decode cX6_nextToken 132 = .ok (.putfield 110, 3) := dq_get dX6_nextToken_79_t 25 rfl
theorem dX6_nextToken_135 : decode cX6_nextToken 135 = .ok (.aload_n 0, 1) := dq_get dX6_nextToken_79_t 26 rfl
theorem dX6_nextToken_136 : decode cX6_nextToken 136 = .ok (.iconst 0, 1) := dq_get dX6_nextToken_79_t 27 rfl
theorem dX6_nextToken_137 : decode cX6_nextToken 137 = .ok (.putfield 121, 3) := dq_get dX6_nextToken_79_t 28 rfl
theorem dX6_nextToken_140 : decode cX6_nextToken 140 = .ok (.aload_n 0, 1) := dq_get dX6_nextToken_79_t 29 rfl
theorem dX6_nextToken_141 : decode cX6_nextToken 141 = .ok (.aload_n 0, 1) := dq_get dX6_nextToken_79_t 30 rfl
theorem dX6_nextToken_142 : decode cX6_nextToken 142 = .ok (.getfield 99, 3) := dq_get dX6_nextToken_79_t 31 rfl
theorem dX6_nextToken_145 : decode cX6_nextToken 145 = .ok (.invokevirtual 102, 3) := dq_get dX6_nextToken_79_t 32 rfl
theorem dX6_nextToken_148 : decode cX6_nextToken 148 = .ok (.i2l, 1) := dq_get dX6_nextToken_79_t 33 rfl
theorem dX6_nextToken_149 : decode cX6_nextToken 149 = .ok (.ldc2_w 117, 3) := dq_get dX6_nextToken_79_t 34 rfl
theorem dX6_nextToken_152 : decode cX6_nextToken 152 = .ok (.ldc2_w 119, 3) := dq_get dX6_nextToken_79_t 35 rfl
theorem dX6_nextToken_155 : decode cX6_nextToken 155 = .ok (.invokestatic 83, 3) := dq_get dX6_nextToken_79_t 36 rfl
theorem dX6_nextToken_158 : decode cX6_nextToken 158 = .ok (.ifCond .eq 59, 3) := dq_get dX6_nextToken_79_t 37 rfl
theorem dX6_nextToken_161 : decode cX6_nextToken 161 = .ok (.aload_n 0, 1) := dq_get dX6_nextToken_79_t 38 rfl
theorem dX6_nextToken_162 : decode cX6_nextToken 162 = .ok (.aload_n 0, 1) := dq_get dX6_nextToken_79_t 39 rfl
theorem dX6_nextToken_163_t : dqK cX6_nextToken.data.toList 0 [(163, .getfield 99, 3), (166, .aload_n 0, 1), (167, .getfield 93, 3), (170, .isub, 1), (171, .iconst 2, 1), (172, .if_icmp .ge 25, 3), (175, .bipush 10, 2), (177, .aload_n 0, 1), (178, .getfield 121, 3), (181, .imul, 1), (182, .aload_n 0, 1), (183, .aload_n 0, 1), (184, .getfield 99, 3), (187, .invokevirtual 102, 3), (190, .iadd, 1), (191, .bipush 48, 2), (193, .isub, 1), (194, .goto 7, 3), (197, .aload_n 0, 1), (198, .getfield 121, 3), (201, .putfield 121, 3), (204, .aload_n 0, 1), (205, .dup, 1), (206, .getfield 99, 3), (209, .iconst 1, 1), (210, .iadd, 1), (211, .putfield 99, 3), (214, .goto (-74), 3), (217, .aload_n 0, 1), (218, .aload_n 0, 1), (219, .getfield 99, 3), (222, .aload_n 0, 1), (223, .getfield 93, 3), (226, .isub, 1), (227, .iconst 2, 1), (228, .if_icmp .gt 7, 3), (231, .iconst 1, 1), (232, .goto 4, 3), (235, .iconst 0, 1), (236, .iconst 1, 1)] = true := by decide +kernel
theorem dX6_nextToken_163 : decode cX6_nextToken 163 = .ok (.getfield 99, 3) := dq_get dX6_nextToken_163_t 0 rfl
theorem dX6_nextToken_166 : decode cX6_nextToken 166 = .ok (.aload_n 0, 1) := dq_get dX6_nextToken_163_t 1 rfl
theorem dX6_nextToken_167 : decode cX6_nextToken 167 = .ok (.getfield 93, 3) := dq_get dX6_nextToken_163_t 2 rfl
theorem dX6_nextToken_170 : decode cX6_nextToken 170 = .ok (.isub, 1) := dq_get dX6_nextToken_163_t 3 rfl
theorem dX6_nextToken_171 : decode cX6_nextToken 171 = .ok (.iconst 2, 1) := dq_get dX6_nextToken_163_t 4 rfl
theorem dX6_nextToken_172 : decode cX6_nextToken 172 = .ok (.if_icmp .ge 25, 3) := dq_get dX6_nextToken_163_t 5 rfl
theorem dX6_nextToken_175 : decode cX6_nextToken 175 = .ok (.bipush 10, 2) := dq_get dX6_nextToken_163_t 6 rfl
theorem dX6_nextToken_177 : decode cX6_nextToken 177 = .ok (.aload_n 0, 1) := dq_get dX6_nextToken_163_t 7 rfl
theorem dX6_nextToken_178 : decode cX6_nextToken 178 = .ok (.getfield 121, 3) := dq_get dX6_nextToken_163_t 8 rfl
theorem dX6_nextToken_181 : decode cX6_nextToken 181 = .ok (.imul, 1) := dq_get dX6_nextToken_163_t 9 rfl
theorem dX6_nextToken_182 : decode cX6_nextToken 182 = .ok (.aload_n 0, 1) := dq_get dX6_nextToken_163_t 10 rfl
theorem dX6_nextToken_183 : decode cX6_nextToken 183 = .ok (.aload_n 0, 1) := dq_get dX6_nextToken_163_t 11 rfl
theorem dX6_nextToken_184 : decode cX6_nextToken 184 = .ok (.getfield 99, 3) := dq_get dX6_nextToken_163_t 12 rfl
theorem dX6_nextToken_187 : decode cX6_nextToken 187 = .ok (.invokevirtual 102, 3) := dq_get dX6_nextToken_163_t 13 rfl
theorem dX6_nextToken_190 : decode cX6_nextToken 190 = .ok (.iadd, 1) := dq_get dX6_nextToken_163_t 14 rfl
theorem dX6_nextToken_191 : decode cX6_nextToken 191 = .ok (.bipush 48, 2) := dq_get dX6_nextToken_163_t 15 rfl
theorem dX6_nextToken_193 : decode cX6_nextToken 193 = .ok (.isub, 1) := dq_get dX6_nextToken_163_t 16 rfl
theorem dX6_nextToken_194 : decode cX6_nextToken 194 = .ok (.goto 7, 3) := dq_get dX6_nextToken_163_t 17 rfl
theorem dX6_nextToken_197 : decode cX6_nextToken 197 = .ok (.aload_n 0, 1) := dq_get dX6_nextToken_163_t 18 rfl
theorem dX6_nextToken_198 : decode cX6_nextToken 198 = .ok (.getfield 121, 3) := dq_get dX6_nextToken_163_t 19 rfl
theorem dX6_nextToken_201 : decode cX6_nextToken 201 = .ok (.putfield 121, 3) := dq_get dX6_nextToken_163_t 20 rfl
theorem dX6_nextToken_204 : decode cX6_nextToken 204 = .ok (.aload_n 0, 1) := dq_get dX6_nextToken_163_t 21 rfl
theorem dX6_nextToken_205 : decode cX6_nextToken 205 = .ok (.dup, 1) := dq_get dX6_nextToken_163_t 22 rfl
theorem dX6_nextToken_206 : decode cX6_nextToken 206 = .ok (.getfield 99, 3) := dq_get dX6_nextToken_163_t 23 rfl
theorem dX6_nextToken_209 : decode cX6_nextToken 209 = .ok (.iconst 1, 1) := dq_get dX6_nextToken_163_t 24 rfl
theorem dX6_nextToken_210 : decode cX6_nextToken 210 = .ok (.iadd, 1) := dq_get dX6_nextToken_163_t 25 rfl
theorem dX6_nextToken_211 : decode cX6_nextToken 211 = .ok (.putfield 99, 3) := dq_get dX6_nextToken_163_t 26 rfl
theorem dX6_nextToken_214 : decode cX6_nextToken 214 = .ok (.goto (-74), 3) := dq_get dX6_nextToken_163_t 27 rfl
theorem dX6_nextToken_217 : decode cX6_nextToken 217 = .ok (.aload_n 0, 1) := dq_get dX6_nextToken_163_t 28 rfl
theorem dX6_nextToken_218 : decode cX6_nextToken 218 = .ok (.aload_n 0, 1) := dq_get dX6_nextToken_163_t 29 rfl
theorem dX6_nextToken_219 : decode cX6_nextToken 219 = .ok (.getfield 99, 3) := dq_get dX6_nextToken_163_t 30 rfl
theorem dX6_nextToken_222 : decode cX6_nextToken 222 = .ok (.aload_n 0, 1) := dq_get dX6_nextToken_163_t 31 rfl
theorem dX6_nextToken_223 : decode cX6_nextToken 223 = .ok (.getfield 93, 3) := dq_get dX6_nextToken_163_t 32 rfl
theorem dX6_nextToken_226 : decode cX6_nextToken 226 = .ok (.isub, 1) := dq_get dX6_nextToken_163_t 33 rfl
theorem dX6_nextToken_227 : decode cX6_nextToken 227 = .ok (.iconst 2, 1) := dq_get dX6_nextToken_163_t 34 rfl
theorem dX6_nextToken_228 : decode cX6_nextToken 228 = .ok (.if_icmp .gt 7, 3) := dq_get dX6_nextToken_163_t 35 rfl
theorem dX6_nextToken_231 : decode cX6_nextToken 231 = .ok (.iconst 1, 1) := dq_get dX6_nextToken_163_t 36 rfl
theorem dX6_nextToken_232 : decode cX6_nextToken 232 = .ok (.goto 4, 3) := dq_get dX6_nextToken_163_t 37 rfl
theorem dX6_nextToken_235 : decode cX6_nextToken 235 = .ok (.iconst 0, 1) := dq_get dX6_nextToken_163_t 38 rfl
theorem dX6_nextToken_236 : decode cX6_nextToken 236 = .ok (.iconst 1, 1) := dq_get dX6_nextToken_163_t 39 rfl
theorem dX6_nextToken_237_t : dqK cX6_nextToken.data.toList 0 [(237, .invokevirtual 124, 3), (240, .goto 34, 3), (243, .aload_n 0, 1), (244, .iconst 3, 1), (245, .putfield 110, 3), (248, .aload_n 0, 1), (249, .iload_n 1, 1), (250, .bipush 59, 2), (252, .if_icmp .ne 7, 3), (255, .iconst 1, 1), (256, .goto 4, 3), (259, .iconst 0, 1), (260, .iconst 1, 1), (261, .invokevirtual 124, 3), (264, .aload_n 0, 1), (265, .dup, 1), (266, .getfield 99, 3), (269, .iconst 1, 1), (270, .iadd, 1), (271, .putfield 99, 3), (274, .return_, 1)] = true := by decide +kernel
theorem dX6_nextToken_237 : decode cX6_nextToken 237 = .ok (.invokevirtual 124, 3) := dq_get dX6_nextToken_237_t 0 rfl
theorem dX6_nextToken_240 : decode cX6_nextToken 240 = .ok (.goto 34, 3) := dq_get dX6_nextToken_237_t 1 rfl
theorem dX6_nextToken_243 : decode cX6_nextToken 243 = .ok (.aload_n 0, 1) := dq_get dX6_nextToken_237_t 2 rfl
theorem dX6_nextToken_244 : decode cX6_nextToken 244 = .ok (.iconst 3, 1) := dq_get dX6_nextToken_237_t 3 rfl
theorem dX6_nextToken_245 : decode cX6_nextToken 245 = .ok (.putfield 110, 3) := dq_get dX6_nextToken_237_t 4 rfl
theorem dX6_nextToken_248 : decode cX6_nextToken 248 = .ok (.aload_n 0, 1) := dq_get dX6_nextToken_237_t 5 rfl
theorem dX6_nextToken_249 : decode cX6_nextToken 249 = .ok (.iload_n 1, 1) := dq_get dX6_nextToken_237_t 6 rfl
theorem dX6_nextToken_250 : decode cX6_nextToken 250 = .ok (.bipush 59, 2) := dq_get dX6_nextToken_237_t 7 rfl
theorem dX6_nextToken_252 : decode cX6_nextToken 252 = .ok (.if_icmp .ne 7, 3) := dq_get dX6_nextToken_237_t 8 rfl
theorem dX6_nextToken_255 : decode cX6_nextToken 255 = .ok (.iconst 1, 1) := dq_get dX6_nextToken_237_t 9 rfl
theorem dX6_nextToken_256 : decode cX6_nextToken 256 = .ok (.goto 4, 3) := dq_get dX6_nextToken_237_t 10 rfl
theorem dX6_nextToken_259 : decode cX6_nextToken 259 = .ok (.iconst 0, 1) := dq_get dX6_nextToken_237_t 11 rfl
theorem dX6_nextToken_260 : decode cX6_nextToken 260 = .ok (.iconst 1, 1) := dq_get dX6_nextToken_237_t 12 rfl
theorem dX6_nextToken_261 : decode cX6_nextToken 261 = .ok (.invokevirtual 124, 3) := dq_get dX6_nextToken_237_t 13 rfl
theorem dX6_nextToken_264 : decode cX6_nextToken 264 = .ok (.aload_n 0, 1) := dq_get dX6_nextToken_237_t 14 rfl
theorem dX6_nextToken_265 : decode cX6_nextToken 265 = .ok (.dup, 1) := dq_get dX6_nextToken_237_t 15 rfl
theorem dX6_nextToken_266 : decode cX6_nextToken 266 = .ok (.getfield 99, 3) := dq_get dX6_nextToken_237_t 16 rfl
theorem dX6_nextToken_269 : decode cX6_nextToken 269 = .ok (.iconst 1, 1) := dq_get dX6_nextToken_237_t 17 rfl
theorem dX6_nextToken_270 : decode cX6_nextToken 270 = .ok (.iadd, 1) := dq_get dX6_nextToken_237_t 18 rfl
theorem dX6_nextToken_271 : decode cX6_nextToken 271 = .ok (.putfield 99, 3) := dq_get dX6_nextToken_237_t 19 rfl
theorem dX6_nextToken_274 : decode cX6_nextToken 274 = .ok (.return_, 1) := dq_get dX6_nextToken_237_t 20 rfl
theorem gt_wsX6_looked_wsX60 : GoodIn wsX6_looked wsX60 := fun w hw => ⟨List.mem_cons_of_mem _ (List.mem_append_right _ hw), good_of_word (List.all_eq_true.mp gw_wsX60 w hw)⟩
set_option maxRecDepth 20000 in
theorem ggX6_looked_X6_needs : GoodIn wsX6_looked wsX6_needs := goodIn_ca (goodIn_r _ [8, 1, 9, 10] rfl (by decide +kernel)) gt_wsX6_looked_wsX60
set_option maxRecDepth 20000 in
theorem gX6_looked_X6_needs : GoodIn wsX6_looked (wsV RX6 124 RX6 yX6_needs wsX6_needs) := goodIn_app (goodIn_r _ [4, 5, 6, 7] rfl (by decide +kernel)) ggX6_looked_X6_needs
set_option maxRecDepth 20000 in
theorem ggX6_looked_X6_in : GoodIn wsX6_looked wsX6_in := goodIn_r _ [13] rfl (by decide +kernel)
set_option maxRecDepth 20000 in
theorem gX6_looked_X6_in : GoodIn wsX6_looked (va_wsS RX6 83 yX6_in wsX6_in) := goodIn_app (goodIn_r _ [11, 12, 7] rfl (by decide +kernel)) ggX6_looked_X6_in
theorem dX6_looked_0_t : dqK cX6_looked.data.toList 0 [(0, .aload_n 0, 1), (1, .getfield 90, 3), (4, .ifCond .ne 21, 3), (7, .aload_n 0, 1), (8, .aload_n 0, 1), (9, .getfield 110, 3), (12, .iconst 2, 1), (13, .if_icmp .ne 7, 3), (16, .iconst 1, 1), (17, .goto 4, 3), (20, .iconst 0, 1), (21, .iconst 2, 1), (22, .invokevirtual 124, 3), (25, .aload_n 0, 1), (26, .getfield 90, 3), (29, .ifCond .ne 20, 3), (32, .aload_n 0, 1), (33, .aload_n 0, 1), (34, .getfield 121, 3), (37, .i2l, 1), (38, .iload_n 1, 1), (39, .i2l, 1), (40, .iload_n 2, 1), (41, .i2l, 1), (42, .invokestatic 83, 3), (45, .iconst 3, 1), (46, .invokevirtual 124, 3), (49, .aload_n 0, 1), (50, .getfield 90, 3), (53, .ifCond .ne 10, 3), (56, .aload_n 0, 1), (57, .getfield 121, 3), (60, .goto 4, 3), (63, .iconst 0, 1), (64, .ireturn, 1)] = true := by decide +kernel
theorem dX6_looked_0 : decode cX6_looked 0 = .ok (.aload_n 0, 1) := dq_get dX6_looked_0_t 0 rfl
theorem dX6_looked_1 : decode cX6_looked 1 = .ok (.getfield 90, 3) := dq_get dX6_looked_0_t 1 rfl
theorem dX6_looked_4 : decode cX6_looked 4 = .ok (.ifCond .ne 21, 3) := dq_get dX6_looked_0_t 2 rfl
theorem dX6_looked_7 : decode cX6_looked 7 = .ok (.aload_n 0, 1) := dq_get dX6_looked_0_t 3 rfl
theorem dX6_looked_8 : decode cX6_looked 8 = .ok (.aload_n 0, 1) := dq_get dX6_looked_0_t 4 rfl
theorem dX6_looked_9 : decode cX6_looked 9 = .ok (.getfield 110, 3) := dq_get dX6_looked_0_t 5 rfl
theorem dX6_looked_12 : decode cX6_looked 12 = .ok (.iconst 2, 1) := dq_get dX6_looked_0_t 6 rfl
theorem dX6_looked_13 : decode cX6_looked 13 = .ok (.if_icmp .ne 7, 3) := dq_get dX6_looked_0_t 7 rfl
theorem dX6_looked_16 : decode cX6_looked 16 = .ok (.iconst 1, 1) := dq_get dX6_looked_0_t 8 rfl
theorem dX6_looked_17 : decode cX6_looked 17 = .ok (.goto 4, 3) := dq_get dX6_looked_0_t 9 rfl
theorem dX6_looked_20 : decode cX6_looked 20 = .ok (.iconst 0, 1) := dq_get dX6_looked_0_t 10 rfl
theorem dX6_looked_21 : decode cX6_looked 21 = .ok (.iconst 2, 1) := dq_get dX6_looked_0_t 11 rfl
theorem dX6_looked_22 : decode cX6_looked 22 = .ok (.invokevirtual 124, 3) := dq_get dX6_looked_0_t 12 rfl
theorem dX6_looked_25 : decode cX6_looked 25 = .ok (.aload_n 0, 1) := dq_get dX6_looked_0_t 13 rfl
theorem dX6_looked_26 : decode cX6_looked 26 = .ok (.getfield 90, 3) := dq_get dX6_looked_0_t 14 rfl
theorem dX6_looked_29 : decode cX6_looked 29 = .ok (.ifCond .ne 20, 3) := dq_get dX6_looked_0_t 15 rfl
theorem dX6_looked_32 : decode cX6_looked 32 = .ok (.aload_n 0, 1) := dq_get dX6_looked_0_t 16 rfl
theorem dX6_looked_33 : decode cX6_looked 33 = .ok (.aload_n 0, 1) := dq_get dX6_looked_0_t 17 rfl
theorem dX6_looked_34 : decode cX6_looked 34 = .ok (.getfield 121, 3) := dq_get dX6_looked_0_t 18 rfl
theorem dX6_looked_37 : decode cX6_looked 37 = .ok (.i2l, 1) := dq_get dX6_looked_0_t 19 rfl
theorem dX6_looked_38 : decode cX6_looked 38 = .ok (.iload_n 1, 1) := dq_get dX6_looked_0_t 20 rfl
theorem dX6_looked_39 : decode cX6_looked 39 = .ok (.i2l, 1) := dq_get dX6_looked_0_t 21 rfl
theorem dX6_looked_40 : decode cX6_looked 40 = .ok (.iload_n 2, 1) := dq_get dX6_looked_0_t 22 rfl
theorem dX6_looked_41 : decode cX6_looked 41 = .ok (.i2l, 1) := dq_get dX6_looked_0_t 23 rfl
theorem dX6_looked_42 : decode cX6_looked 42 = .ok (.invokestatic 83, 3) := dq_get dX6_looked_0_t 24 rfl
theorem dX6_looked_45 : decode cX6_looked 45 = .ok (.iconst 3, 1) := dq_get dX6_looked_0_t 25 rfl
theorem dX6_looked_46 : decode cX6_looked 46 = .ok (.invokevirtual 124, 3) := dq_get dX6_looked_0_t 26 rfl
theorem dX6_looked_49 : decode cX6_looked 49 = .ok (.aload_n 0, 1) := dq_get dX6_looked_0_t 27 rfl
theorem dX6_looked_50 : decode cX6_looked 50 = .ok (.getfield 90, 3) := dq_get dX6_looked_0_t 28 rfl
theorem dX6_looked_53 : decode cX6_looked 53 = .ok (.ifCond .ne 10, 3) := dq_get dX6_looked_0_t 29 rfl
theorem dX6_looked_56 : decode cX6_looked 56 = .ok (.aload_n 0, 1) := dq_get dX6_looked_0_t 30 rfl
theorem dX6_looked_57 : decode cX6_looked 57 = .ok (.getfield 121, 3) := dq_get dX6_looked_0_t 31 rfl
theorem dX6_looked_60 : decode cX6_looked 60 = .ok (.goto 4, 3) := dq_get dX6_looked_0_t 32 rfl
theorem dX6_looked_63 : decode cX6_looked 63 = .ok (.iconst 0, 1) := dq_get dX6_looked_0_t 33 rfl
theorem dX6_looked_64 : decode cX6_looked 64 = .ok (.ireturn, 1) := dq_get dX6_looked_0_t 34 rfl
theorem gt_wsX6_readNumber_wsX60 : GoodIn wsX6_readNumber wsX60 := fun w hw => ⟨List.mem_cons_of_mem _ (List.mem_append_right _ hw), good_of_word (List.all_eq_true.mp gw_wsX60 w hw)⟩
set_option maxRecDepth 20000 in
theorem ggX6_readNumber_X6_looked : GoodIn wsX6_readNumber wsX6_looked := goodIn_ca (goodIn_r _ [5, 6, 7, 8, 9, 10, 11, 4, 12, 13, 14, 15, 16, 17] rfl (by decide +kernel)) gt_wsX6_readNumber_wsX60
set_option maxRecDepth 20000 in
theorem gX6_readNumber_X6_looked : GoodIn wsX6_readNumber (wsV RX6 128 RX6 yX6_looked wsX6_looked) := goodIn_app (goodIn_r _ [1, 2, 3, 4] rfl (by decide +kernel)) ggX6_readNumber_X6_looked
set_option maxRecDepth 20000 in
theorem ggX6_readNumber_X6_nextToken : GoodIn wsX6_readNumber wsX6_nextToken := goodIn_ca (goodIn_r _ [21, 6, 22, 13, 7, 23, 24, 25, 26, 8, 27, 28, 29, 4, 30, 31, 32, 15, 16, 17, 9, 10, 11, 12, 14] rfl (by decide +kernel)) gt_wsX6_readNumber_wsX60
set_option maxRecDepth 20000 in
theorem gX6_readNumber_X6_nextToken : GoodIn wsX6_readNumber (wsV RX6 132 RX6 yX6_nextToken wsX6_nextToken) := goodIn_app (goodIn_r _ [18, 19, 20, 4] rfl (by decide +kernel)) ggX6_readNumber_X6_nextToken
theorem dX6_readNumber_0_t : dqK cX6_readNumber.data.toList 0 [(0, .aload_n 0, 1), (1, .iload_n 1, 1), (2, .iload_n 2, 1), (3, .invokevirtual 128, 3), (6, .istore_n 3, 1), (7, .aload_n 0, 1), (8, .invokevirtual 132, 3), (11, .iload_n 3, 1), (12, .ireturn, 1)] = true := by decide +kernel
theorem dX6_readNumber_0 : decode cX6_readNumber 0 = .ok (.aload_n 0, 1) := dq_get dX6_readNumber_0_t 0 rfl
theorem dX6_readNumber_1 : decode cX6_readNumber 1 = .ok (.iload_n 1, 1) := dq_get dX6_readNumber_0_t 1 rfl
theorem dX6_readNumber_2 : decode cX6_readNumber 2 = .ok (.iload_n 2, 1) := dq_get dX6_readNumber_0_t 2 rfl
theorem dX6_readNumber_3 : decode cX6_readNumber 3 = .ok (.invokevirtual 128, 3) := dq_get dX6_readNumber_0_t 3 rfl
theorem dX6_readNumber_6 : decode cX6_readNumber 6 = .ok (.istore_n 3, 1) := dq_get dX6_readNumber_0_t 4 rfl
theorem dX6_readNumber_7 : decode cX6_readNumber 7 = .ok (.aload_n 0, 1) := dq_get dX6_readNumber_0_t 5 rfl
theorem dX6_readNumber_8 : decode cX6_readNumber 8 = .ok (.invokevirtual 132, 3) := dq_get dX6_readNumber_0_t 6 rfl
theorem dX6_readNumber_11 : decode cX6_readNumber 11 = .ok (.iload_n 3, 1) := dq_get dX6_readNumber_0_t 7 rfl
theorem dX6_readNumber_12 : decode cX6_readNumber 12 = .ok (.ireturn, 1) := dq_get dX6_readNumber_0_t 8 rfl
theorem gt_wsX6_readDay_wsX60 : GoodIn wsX6_readDay wsX60 := fun w hw => ⟨List.mem_cons_of_mem _ (List.mem_append_right _ hw), good_of_word (List.all_eq_true.mp gw_wsX60 w hw)⟩
set_option maxRecDepth 20000 in
theorem ggX6_readDay_X6_looked : GoodIn wsX6_readDay wsX6_looked := goodIn_ca (goodIn_r _ [7, 1, 8, 9, 10, 11, 12, 6, 13, 14, 15, 16, 17, 18] rfl (by decide +kernel)) gt_wsX6_readDay_wsX60
set_option maxRecDepth 20000 in
theorem gX6_readDay_X6_looked : GoodIn wsX6_readDay (wsV RX6 128 RX6 yX6_looked wsX6_looked) := goodIn_app (goodIn_r _ [3, 4, 5, 6] rfl (by decide +kernel)) ggX6_readDay_X6_looked
set_option maxRecDepth 20000 in
theorem ggX6_readDay_X6_nextToken : GoodIn wsX6_readDay wsX6_nextToken := goodIn_ca (goodIn_r _ [22, 1, 23, 14, 8, 24, 25, 26, 27, 9, 28, 29, 30, 6, 31, 32, 33, 16, 17, 18, 10, 11, 12, 13, 15] rfl (by decide +kernel)) gt_wsX6_readDay_wsX60
set_option maxRecDepth 20000 in
theorem gX6_readDay_X6_nextToken : GoodIn wsX6_readDay (wsV RX6 132 RX6 yX6_nextToken wsX6_nextToken) := goodIn_app (goodIn_r _ [19, 20, 21, 6] rfl (by decide +kernel)) ggX6_readDay_X6_nextToken
theorem dX6_readDay_0_t : dqK cX6_readDay.data.toList 0 [(0, .aload_n 0, 1), (1, .iconst 0, 1), (2, .bipush 9, 2), (4, .invokevirtual 128, 3), (7, .istore_n 1, 1), (8, .aload_n 0, 1), (9, .aload_n 0, 1), (10, .getfield 90, 3), (13, .ifCond .ne 15, 3), (16, .iload_n 1, 1), (17, .aload_n 0, 1), (18, .getfield 69, 3), (21, .if_icmp .le 7, 3), (24, .iload_n 1, 1), (25, .goto 7, 3), (28, .aload_n 0, 1), (29, .getfield 69, 3), (32, .putfield 69, 3), (35, .aload_n 0, 1), (36, .invokevirtual 132, 3), (39, .iload_n 1, 1), (40, .ireturn, 1)] = true := by decide +kernel
theorem dX6_readDay_0 : decode cX6_readDay 0 = .ok (.aload_n 0, 1) := dq_get dX6_readDay_0_t 0 rfl
theorem dX6_readDay_1 : decode cX6_readDay 1 = .ok (.iconst 0, 1) := dq_get dX6_readDay_0_t 1 rfl
theorem dX6_readDay_2 : decode cX6_readDay 2 = .ok (.bipush 9, 2) := dq_get dX6_readDay_0_t 2 rfl
theorem dX6_readDay_4 : decode cX6_readDay 4 = .ok (.invokevirtual 128, 3) := dq_get dX6_readDay_0_t 3 rfl
theorem dX6_readDay_7 : decode cX6_readDay 7 = .ok (.istore_n 1, 1) := dq_get dX6_readDay_0_t 4 rfl
theorem dX6_readDay_8 : decode cX6_readDay 8 = .ok (.aload_n 0, 1) := dq_get dX6_readDay_0_t 5 rfl
theorem dX6_readDay_9 : decode cX6_readDay 9 = .ok (.aload_n 0, 1) := dq_get dX6_readDay_0_t 6 rfl
theorem dX6_readDay_10 : decode cX6_readDay 10 = .ok (.getfield 90, 3) := dq_get dX6_readDay_0_t 7 rfl
theorem dX6_readDay_13 : decode cX6_readDay 13 = .ok (.ifCond .ne 15, 3) := dq_get dX6_readDay_0_t 8 rfl
theorem dX6_readDay_16 : decode cX6_readDay 16 = .ok (.iload_n 1, 1) := dq_get dX6_readDay_0_t 9 rfl
theorem dX6_readDay_17 : decode cX6_readDay 17 = .ok (.aload_n 0, 1) := dq_get dX6_readDay_0_t 10 rfl
theorem dX6_readDay_18 : decode cX6_readDay 18 = .ok (.getfield 69, 3) := dq_get dX6_readDay_0_t 11 rfl
theorem dX6_readDay_21 : decode cX6_readDay 21 = .ok (.if_icmp .le 7, 3) := dq_get dX6_readDay_0_t 12 rfl
theorem dX6_readDay_24 : decode cX6_readDay 24 = .ok (.iload_n 1, 1) := dq_get dX6_readDay_0_t 13 rfl
theorem dX6_readDay_25 : decode cX6_readDay 25 = .ok (.goto 7, 3) := dq_get dX6_readDay_0_t 14 rfl
theorem dX6_readDay_28 : decode cX6_readDay 28 = .ok (.aload_n 0, 1) := dq_get dX6_readDay_0_t 15 rfl
theorem dX6_readDay_29 : decode cX6_readDay 29 = .ok (.getfield 69, 3) := dq_get dX6_readDay_0_t 16 rfl
theorem dX6_readDay_32 : decode cX6_readDay 32 = .ok (.putfield 69, 3) := dq_get dX6_readDay_0_t 17 rfl
theorem dX6_readDay_35 : decode cX6_readDay 35 = .ok (.aload_n 0, 1) := dq_get dX6_readDay_0_t 18 rfl
theorem dX6_readDay_36 : decode cX6_readDay 36 = .ok (.invokevirtual 132, 3) := dq_get dX6_readDay_0_t 19 rfl
theorem dX6_readDay_39 : decode cX6_readDay 39 = .ok (.iload_n 1, 1) := dq_get dX6_readDay_0_t 20 rfl
theorem dX6_readDay_40 : decode cX6_readDay 40 = .ok (.ireturn, 1) := dq_get dX6_readDay_0_t 21 rfl
theorem gt_wsX6_readCellBut_wsX60 : GoodIn wsX6_readCellBut wsX60 := fun w hw => ⟨List.mem_cons_of_mem _ (List.mem_append_right _ hw), good_of_word (List.all_eq_true.mp gw_wsX60 w hw)⟩
set_option maxRecDepth 20000 in
theorem ggX6_readCellBut_X6_looked : GoodIn wsX6_readCellBut wsX6_looked := goodIn_ca (goodIn_r _ [7, 1, 8, 9, 10, 11, 12, 6, 13, 14, 15, 16, 17, 18] rfl (by decide +kernel)) gt_wsX6_readCellBut_wsX60
set_option maxRecDepth 20000 in
theorem gX6_readCellBut_X6_looked : GoodIn wsX6_readCellBut (wsV RX6 128 RX6 yX6_looked wsX6_looked) := goodIn_app (goodIn_r _ [3, 4, 5, 6] rfl (by decide +kernel)) ggX6_readCellBut_X6_looked
set_option maxRecDepth 20000 in
theorem ggX6_readCellBut_X6_needs : GoodIn wsX6_readCellBut wsX6_needs := goodIn_ca (goodIn_r _ [13, 1, 14, 15] rfl (by decide +kernel)) gt_wsX6_readCellBut_wsX60
set_option maxRecDepth 20000 in
theorem gX6_readCellBut_X6_needs : GoodIn wsX6_readCellBut (wsV RX6 124 RX6 yX6_needs wsX6_needs) := goodIn_app (goodIn_r _ [10, 11, 12, 6] rfl (by decide +kernel)) ggX6_readCellBut_X6_needs
set_option maxRecDepth 20000 in
theorem ggX6_readCellBut_X6_nextToken : GoodIn wsX6_readCellBut wsX6_nextToken := goodIn_ca (goodIn_r _ [22, 1, 23, 14, 8, 24, 25, 26, 27, 9, 28, 29, 30, 6, 31, 32, 33, 16, 17, 18, 10, 11, 12, 13, 15] rfl (by decide +kernel)) gt_wsX6_readCellBut_wsX60
set_option maxRecDepth 20000 in
theorem gX6_readCellBut_X6_nextToken : GoodIn wsX6_readCellBut (wsV RX6 132 RX6 yX6_nextToken wsX6_nextToken) := goodIn_app (goodIn_r _ [19, 20, 21, 6] rfl (by decide +kernel)) ggX6_readCellBut_X6_nextToken
theorem dX6_readCellBut_0_t : dqK cX6_readCellBut.data.toList 0 [(0, .aload_n 0, 1), (1, .iconst 0, 1), (2, .bipush 15, 2), (4, .invokevirtual 128, 3), (7, .istore_n 2, 1), (8, .aload_n 0, 1), (9, .getfield 90, 3), (12, .ifCond .ne 21, 3), (15, .aload_n 0, 1), (16, .iload_n 1, 1), (17, .iload_n 2, 1), (18, .ishr, 1), (19, .iconst 1, 1), (20, .iand, 1), (21, .ifCond .ne 7, 3), (24, .iconst 1, 1), (25, .goto 4, 3), (28, .iconst 0, 1), (29, .iconst 4, 1), (30, .invokevirtual 124, 3), (33, .aload_n 0, 1), (34, .aload_n 0, 1), (35, .getfield 90, 3), (38, .ifCond .ne 15, 3), (41, .iload_n 2, 1), (42, .aload_n 0, 1), (43, .getfield 66, 3), (46, .if_icmp .le 7, 3), (49, .iload_n 2, 1), (50, .goto 7, 3), (53, .aload_n 0, 1), (54, .getfield 66, 3), (57, .putfield 66, 3), (60, .aload_n 0, 1), (61, .invokevirtual 132, 3), (64, .iload_n 2, 1), (65, .ireturn, 1)] = true := by decide +kernel
theorem dX6_readCellBut_0 : decode cX6_readCellBut 0 = .ok (.aload_n 0, 1) := dq_get dX6_readCellBut_0_t 0 rfl
theorem dX6_readCellBut_1 : decode cX6_readCellBut 1 = .ok (.iconst 0, 1) := dq_get dX6_readCellBut_0_t 1 rfl
theorem dX6_readCellBut_2 : decode cX6_readCellBut 2 = .ok (.bipush 15, 2) := dq_get dX6_readCellBut_0_t 2 rfl
theorem dX6_readCellBut_4 : decode cX6_readCellBut 4 = .ok (.invokevirtual 128, 3) := dq_get dX6_readCellBut_0_t 3 rfl
theorem dX6_readCellBut_7 : decode cX6_readCellBut 7 = .ok (.istore_n 2, 1) := dq_get dX6_readCellBut_0_t 4 rfl
theorem dX6_readCellBut_8 : decode cX6_readCellBut 8 = .ok (.aload_n 0, 1) := dq_get dX6_readCellBut_0_t 5 rfl
theorem dX6_readCellBut_9 : decode cX6_readCellBut 9 = .ok (.getfield 90, 3) := dq_get dX6_readCellBut_0_t 6 rfl
theorem dX6_readCellBut_12 : decode cX6_readCellBut 12 = .ok (.ifCond .ne 21, 3) := dq_get dX6_readCellBut_0_t 7 rfl
theorem dX6_readCellBut_15 : decode cX6_readCellBut 15 = .ok (.aload_n 0, 1) := dq_get dX6_readCellBut_0_t 8 rfl
theorem dX6_readCellBut_16 : decode cX6_readCellBut 16 = .ok (.iload_n 1, 1) := dq_get dX6_readCellBut_0_t 9 rfl
theorem dX6_readCellBut_17 : decode cX6_readCellBut 17 = .ok (.iload_n 2, 1) := dq_get dX6_readCellBut_0_t 10 rfl
theorem dX6_readCellBut_18 : decode cX6_readCellBut 18 = .ok (.ishr, 1) := dq_get dX6_readCellBut_0_t 11 rfl
theorem dX6_readCellBut_19 : decode cX6_readCellBut 19 = .ok (.iconst 1, 1) := dq_get dX6_readCellBut_0_t 12 rfl
theorem dX6_readCellBut_20 : decode cX6_readCellBut 20 = .ok (.iand, 1) := dq_get dX6_readCellBut_0_t 13 rfl
theorem dX6_readCellBut_21 : decode cX6_readCellBut 21 = .ok (.ifCond .ne 7, 3) := dq_get dX6_readCellBut_0_t 14 rfl
theorem dX6_readCellBut_24 : decode cX6_readCellBut 24 = .ok (.iconst 1, 1) := dq_get dX6_readCellBut_0_t 15 rfl
theorem dX6_readCellBut_25 : decode cX6_readCellBut 25 = .ok (.goto 4, 3) := dq_get dX6_readCellBut_0_t 16 rfl
theorem dX6_readCellBut_28 : decode cX6_readCellBut 28 = .ok (.iconst 0, 1) := dq_get dX6_readCellBut_0_t 17 rfl
theorem dX6_readCellBut_29 : decode cX6_readCellBut 29 = .ok (.iconst 4, 1) := dq_get dX6_readCellBut_0_t 18 rfl
theorem dX6_readCellBut_30 : decode cX6_readCellBut 30 = .ok (.invokevirtual 124, 3) := dq_get dX6_readCellBut_0_t 19 rfl
theorem dX6_readCellBut_33 : decode cX6_readCellBut 33 = .ok (.aload_n 0, 1) := dq_get dX6_readCellBut_0_t 20 rfl
theorem dX6_readCellBut_34 : decode cX6_readCellBut 34 = .ok (.aload_n 0, 1) := dq_get dX6_readCellBut_0_t 21 rfl
theorem dX6_readCellBut_35 : decode cX6_readCellBut 35 = .ok (.getfield 90, 3) := dq_get dX6_readCellBut_0_t 22 rfl
theorem dX6_readCellBut_38 : decode cX6_readCellBut 38 = .ok (.ifCond .ne 15, 3) := dq_get dX6_readCellBut_0_t 23 rfl
theorem dX6_readCellBut_41 : decode cX6_readCellBut 41 = .ok (.iload_n 2, 1) := dq_get dX6_readCellBut_0_t 24 rfl
theorem dX6_readCellBut_42 : decode cX6_readCellBut 42 = .ok (.aload_n 0, 1) := dq_get dX6_readCellBut_0_t 25 rfl
theorem dX6_readCellBut_43 : decode cX6_readCellBut 43 = .ok (.getfield 66, 3) := dq_get dX6_readCellBut_0_t 26 rfl
theorem dX6_readCellBut_46 : decode cX6_readCellBut 46 = .ok (.if_icmp .le 7, 3) := dq_get dX6_readCellBut_0_t 27 rfl
theorem dX6_readCellBut_49 : decode cX6_readCellBut 49 = .ok (.iload_n 2, 1) := dq_get dX6_readCellBut_0_t 28 rfl
theorem dX6_readCellBut_50 : decode cX6_readCellBut 50 = .ok (.goto 7, 3) := dq_get dX6_readCellBut_0_t 29 rfl
theorem dX6_readCellBut_53 : decode cX6_readCellBut 53 = .ok (.aload_n 0, 1) := dq_get dX6_readCellBut_0_t 30 rfl
theorem dX6_readCellBut_54 : decode cX6_readCellBut 54 = .ok (.getfield 66, 3) := dq_get dX6_readCellBut_0_t 31 rfl
theorem dX6_readCellBut_57 : decode cX6_readCellBut 57 = .ok (.putfield 66, 3) := dq_get dX6_readCellBut_0_t 32 rfl
theorem dX6_readCellBut_60 : decode cX6_readCellBut 60 = .ok (.aload_n 0, 1) := dq_get dX6_readCellBut_0_t 33 rfl
theorem dX6_readCellBut_61 : decode cX6_readCellBut 61 = .ok (.invokevirtual 132, 3) := dq_get dX6_readCellBut_0_t 34 rfl
theorem dX6_readCellBut_64 : decode cX6_readCellBut 64 = .ok (.iload_n 2, 1) := dq_get dX6_readCellBut_0_t 35 rfl
theorem dX6_readCellBut_65 : decode cX6_readCellBut 65 = .ok (.ireturn, 1) := dq_get dX6_readCellBut_0_t 36 rfl
theorem gt_wsX6_readLens_wsX60 : GoodIn wsX6_readLens wsX60 := fun w hw => ⟨List.mem_cons_of_mem _ (List.mem_append_right _ hw), good_of_word (List.all_eq_true.mp gw_wsX60 w hw)⟩
set_option maxRecDepth 20000 in
theorem ggX6_readLens_X6_readDay : GoodIn wsX6_readLens wsX6_readDay := goodIn_ca (goodIn_r _ [8, 2, 9, 10, 11, 12, 7, 13, 3, 14, 15, 16, 17, 18, 19, 20, 21, 22, 23, 24, 25, 26, 27, 28, 29, 30, 31, 32, 33, 34, 35, 36, 37, 38] rfl (by decide +kernel)) gt_wsX6_readLens_wsX60
set_option maxRecDepth 20000 in
theorem gX6_readLens_X6_readDay : GoodIn wsX6_readLens (wsV RX6 135 RX6 yX6_readDay wsX6_readDay) := goodIn_app (goodIn_r _ [4, 5, 6, 7] rfl (by decide +kernel)) ggX6_readLens_X6_readDay
set_option maxRecDepth 20000 in
theorem ggX6_readLens_X6_readCellBut : GoodIn wsX6_readLens wsX6_readCellBut := goodIn_ca (goodIn_r _ [42, 2, 43, 10, 11, 12, 7, 13, 3, 14, 15, 16, 17, 18, 19, 20, 21, 22, 23, 24, 25, 26, 27, 28, 29, 30, 31, 32, 33, 34, 35, 36, 37, 38] rfl (by decide +kernel)) gt_wsX6_readLens_wsX60
set_option maxRecDepth 20000 in
theorem gX6_readLens_X6_readCellBut : GoodIn wsX6_readLens (wsV RX6 139 RX6 yX6_readCellBut wsX6_readCellBut) := goodIn_app (goodIn_r _ [39, 40, 41, 7] rfl (by decide +kernel)) ggX6_readLens_X6_readCellBut
theorem dX6_readLens_0_t : dqK cX6_readLens.data.toList 0 [(0, .bipush 48, 2), (2, .iconst 2, 1), (3, .aload_n 0, 1), (4, .getfield 17, 3), (7, .bipush 47, 2), (9, .iaload, 1), (10, .imul, 1), (11, .iadd, 1), (12, .istore_n 1, 1), (13, .aload_n 0, 1), (14, .getfield 17, 3), (17, .iload_n 1, 1), (18, .aload_n 0, 1), (19, .invokevirtual 135, 3), (22, .iastore, 1), (23, .aload_n 0, 1), (24, .getfield 17, 3), (27, .iload_n 1, 1), (28, .iconst 1, 1), (29, .iadd, 1), (30, .iconst 0, 1), (31, .iastore, 1), (32, .aload_n 0, 1), (33, .getfield 90, 3), (36, .ifCond .ne 52, 3), (39, .aload_n 0, 1), (40, .getfield 110, 3), (43, .iconst 2, 1), (44, .if_icmp .ne 44, 3), (47, .aload_n 0, 1), (48, .aload_n 0, 1), (49, .getfield 17, 3), (52, .iload_n 1, 1), (53, .iconst 1, 1), (54, .iadd, 1), (55, .iaload, 1), (56, .invokevirtual 139, 3), (59, .istore_n 2, 1), (60, .aload_n 0, 1), (61, .getfield 17, 3)] = true := by decide +kernel
theorem dX6_readLens_0 : decode cX6_readLens 0 = .ok (.bipush 48, 2) := dq_get dX6_readLens_0_t 0 rfl
theorem dX6_readLens_2 : decode cX6_readLens 2 = .ok (.iconst 2, 1) := dq_get dX6_readLens_0_t 1 rfl
theorem dX6_readLens_3 : decode cX6_readLens 3 = .ok (.aload_n 0, 1) := dq_get dX6_readLens_0_t 2 rfl
theorem dX6_readLens_4 : decode cX6_readLens 4 = .ok (.getfield 17, 3) := dq_get dX6_readLens_0_t 3 rfl
theorem dX6_readLens_7 : decode cX6_readLens 7 = .ok (.bipush 47, 2) := dq_get dX6_readLens_0_t 4 rfl
theorem dX6_readLens_9 : decode cX6_readLens 9 = .ok (.iaload, 1) := dq_get dX6_readLens_0_t 5 rfl
theorem dX6_readLens_10 : decode cX6_readLens 10 = .ok (.imul, 1) := dq_get dX6_readLens_0_t 6 rfl
theorem dX6_readLens_11 : decode cX6_readLens 11 = .ok (.iadd, 1) := dq_get dX6_readLens_0_t 7 rfl
theorem dX6_readLens_12 : decode cX6_readLens 12 = .ok (.istore_n 1, 1) := dq_get dX6_readLens_0_t 8 rfl
theorem dX6_readLens_13 : decode cX6_readLens 13 = .ok (.aload_n 0, 1) := dq_get dX6_readLens_0_t 9 rfl
theorem dX6_readLens_14 : decode cX6_readLens 14 = .ok (.getfield 17, 3) := dq_get dX6_readLens_0_t 10 rfl
theorem dX6_readLens_17 : decode cX6_readLens 17 = .ok (.iload_n 1, 1) := dq_get dX6_readLens_0_t 11 rfl
theorem dX6_readLens_18 : decode cX6_readLens 18 = .ok (.aload_n 0, 1) := dq_get dX6_readLens_0_t 12 rfl
theorem dX6_readLens_19 : decode cX6_readLens 19 = .ok (.invokevirtual 135, 3) := dq_get dX6_readLens_0_t 13 rfl
theorem dX6_readLens_22 : decode cX6_readLens 22 = .ok (.iastore, 1) := dq_get dX6_readLens_0_t 14 rfl
theorem dX6_readLens_23 : decode cX6_readLens 23 = .ok (.aload_n 0, 1) := dq_get dX6_readLens_0_t 15 rfl
theorem dX6_readLens_24 : decode cX6_readLens 24 = .ok (.getfield 17, 3) := dq_get dX6_readLens_0_t 16 rfl
theorem dX6_readLens_27 : decode cX6_readLens 27 = .ok (.iload_n 1, 1) := dq_get dX6_readLens_0_t 17 rfl
theorem dX6_readLens_28 : decode cX6_readLens 28 = .ok (.iconst 1, 1) := dq_get dX6_readLens_0_t 18 rfl
theorem dX6_readLens_29 : decode cX6_readLens 29 = .ok (.iadd, 1) := dq_get dX6_readLens_0_t 19 rfl
theorem dX6_readLens_30 : decode cX6_readLens 30 = .ok (.iconst 0, 1) := dq_get dX6_readLens_0_t 20 rfl
theorem dX6_readLens_31 : decode cX6_readLens 31 = .ok (.iastore, 1) := dq_get dX6_readLens_0_t 21 rfl
theorem dX6_readLens_32 : decode cX6_readLens 32 = .ok (.aload_n 0, 1) := dq_get dX6_readLens_0_t 22 rfl
theorem dX6_readLens_33 : decode cX6_readLens 33 = .ok (.getfield 90, 3) := dq_get dX6_readLens_0_t 23 rfl
theorem dX6_readLens_36 : decode cX6_readLens 36 = .ok (.ifCond .ne 52, 3) := dq_get dX6_readLens_0_t 24 rfl
theorem dX6_readLens_39 : decode cX6_readLens 39 = .ok (.aload_n 0, 1) := dq_get dX6_readLens_0_t 25 rfl
theorem dX6_readLens_40 : decode cX6_readLens 40 = .ok (.getfield 110, 3) := dq_get dX6_readLens_0_t 26 rfl
theorem dX6_readLens_43 : decode cX6_readLens 43 = .ok (.iconst 2, 1) := dq_get dX6_readLens_0_t 27 rfl
theorem dX6_readLens_44 : decode cX6_readLens 44 = .ok (.if_icmp .ne 44, 3) := dq_get dX6_readLens_0_t 28 rfl
theorem dX6_readLens_47 : decode cX6_readLens 47 = .ok (.aload_n 0, 1) := dq_get dX6_readLens_0_t 29 rfl
theorem dX6_readLens_48 : decode cX6_readLens 48 = .ok (.aload_n 0, 1) := dq_get dX6_readLens_0_t 30 rfl
theorem dX6_readLens_49 : decode cX6_readLens 49 = .ok (.getfield 17, 3) := dq_get dX6_readLens_0_t 31 rfl
theorem dX6_readLens_52 : decode cX6_readLens 52 = .ok (.iload_n 1, 1) := dq_get dX6_readLens_0_t 32 rfl
theorem dX6_readLens_53 : decode cX6_readLens 53 = .ok (.iconst 1, 1) := dq_get dX6_readLens_0_t 33 rfl
theorem dX6_readLens_54 : decode cX6_readLens 54 = .ok (.iadd, 1) := dq_get dX6_readLens_0_t 34 rfl
theorem dX6_readLens_55 : decode cX6_readLens 55 = .ok (.iaload, 1) := dq_get dX6_readLens_0_t 35 rfl
theorem dX6_readLens_56 : decode cX6_readLens 56 = .ok (.invokevirtual 139, 3) := dq_get dX6_readLens_0_t 36 rfl
theorem dX6_readLens_59 : decode cX6_readLens 59 = .ok (.istore_n 2, 1) := dq_get dX6_readLens_0_t 37 rfl
theorem dX6_readLens_60 : decode cX6_readLens 60 = .ok (.aload_n 0, 1) := dq_get dX6_readLens_0_t 38 rfl
theorem dX6_readLens_61 : decode cX6_readLens 61 = .ok (.getfield 17, 3) := dq_get dX6_readLens_0_t 39 rfl
theorem dX6_readLens_64_t : dqK cX6_readLens.data.toList 0 [(64, .iload_n 1, 1), (65, .iconst 1, 1), (66, .iadd, 1), (67, .dup2, 1), (68, .iaload, 1), (69, .aload_n 0, 1), (70, .getfield 90, 3), (73, .ifCond .ne 9, 3), (76, .iconst 1, 1), (77, .iload_n 2, 1), (78, .ishl, 1), (79, .goto 4, 3), (82, .iconst 0, 1), (83, .ior, 1), (84, .iastore, 1), (85, .goto (-53), 3), (88, .aload_n 0, 1), (89, .getfield 17, 3), (92, .bipush 47, 2), (94, .dup2, 1), (95, .iaload, 1), (96, .iconst 1, 1), (97, .iadd, 1), (98, .iastore, 1), (99, .return_, 1)] = true := by decide +kernel
theorem dX6_readLens_64 : decode cX6_readLens 64 = .ok (.iload_n 1, 1) := dq_get dX6_readLens_64_t 0 rfl
theorem dX6_readLens_65 : decode cX6_readLens 65 = .ok (.iconst 1, 1) := dq_get dX6_readLens_64_t 1 rfl
theorem dX6_readLens_66 : decode cX6_readLens 66 = .ok (.iadd, 1) := dq_get dX6_readLens_64_t 2 rfl
theorem dX6_readLens_67 : decode cX6_readLens 67 = .ok (.dup2, 1) := dq_get dX6_readLens_64_t 3 rfl
theorem dX6_readLens_68 : decode cX6_readLens 68 = .ok (.iaload, 1) := dq_get dX6_readLens_64_t 4 rfl
theorem dX6_readLens_69 : decode cX6_readLens 69 = .ok (.aload_n 0, 1) := dq_get dX6_readLens_64_t 5 rfl
theorem dX6_readLens_70 : decode cX6_readLens 70 = .ok (.getfield 90, 3) := dq_get dX6_readLens_64_t 6 rfl
theorem dX6_readLens_73 : decode cX6_readLens 73 = .ok (.ifCond .ne 9, 3) := dq_get dX6_readLens_64_t 7 rfl
theorem dX6_readLens_76 : decode cX6_readLens 76 = .ok (.iconst 1, 1) := dq_get dX6_readLens_64_t 8 rfl
theorem dX6_readLens_77 : decode cX6_readLens 77 = .ok (.iload_n 2, 1) := dq_get dX6_readLens_64_t 9 rfl
theorem dX6_readLens_78 : decode cX6_readLens 78 = .ok (.ishl, 1) := dq_get dX6_readLens_64_t 10 rfl
theorem dX6_readLens_79 : decode cX6_readLens 79 = .ok (.goto 4, 3) := dq_get dX6_readLens_64_t 11 rfl
theorem dX6_readLens_82 : decode cX6_readLens 82 = .ok (.iconst 0, 1) := dq_get dX6_readLens_64_t 12 rfl
theorem dX6_readLens_83 : decode cX6_readLens 83 = .ok (.ior, 1) := dq_get dX6_readLens_64_t 13 rfl
theorem dX6_readLens_84 : decode cX6_readLens 84 = .ok (.iastore, 1) := dq_get dX6_readLens_64_t 14 rfl
theorem dX6_readLens_85 : decode cX6_readLens 85 = .ok (.goto (-53), 3) := dq_get dX6_readLens_64_t 15 rfl
theorem dX6_readLens_88 : decode cX6_readLens 88 = .ok (.aload_n 0, 1) := dq_get dX6_readLens_64_t 16 rfl
theorem dX6_readLens_89 : decode cX6_readLens 89 = .ok (.getfield 17, 3) := dq_get dX6_readLens_64_t 17 rfl
theorem dX6_readLens_92 : decode cX6_readLens 92 = .ok (.bipush 47, 2) := dq_get dX6_readLens_64_t 18 rfl
theorem dX6_readLens_94 : decode cX6_readLens 94 = .ok (.dup2, 1) := dq_get dX6_readLens_64_t 19 rfl
theorem dX6_readLens_95 : decode cX6_readLens 95 = .ok (.iaload, 1) := dq_get dX6_readLens_64_t 20 rfl
theorem dX6_readLens_96 : decode cX6_readLens 96 = .ok (.iconst 1, 1) := dq_get dX6_readLens_64_t 21 rfl
theorem dX6_readLens_97 : decode cX6_readLens 97 = .ok (.iadd, 1) := dq_get dX6_readLens_64_t 22 rfl
theorem dX6_readLens_98 : decode cX6_readLens 98 = .ok (.iastore, 1) := dq_get dX6_readLens_64_t 23 rfl
theorem dX6_readLens_99 : decode cX6_readLens 99 = .ok (.return_, 1) := dq_get dX6_readLens_64_t 24 rfl
theorem gt_wsX6_readLineOf_wsX60 : GoodIn wsX6_readLineOf wsX60 := fun w hw => ⟨List.mem_cons_of_mem _ (List.mem_append_right _ hw), good_of_word (List.all_eq_true.mp gw_wsX60 w hw)⟩
set_option maxRecDepth 20000 in
theorem ggX6_readLineOf_X6_readNumber : GoodIn wsX6_readLineOf wsX6_readNumber := goodIn_ca (goodIn_r _ [10, 11, 12, 13, 9, 14, 15, 16, 17, 18, 19, 20, 21, 22, 23, 24, 25, 26, 27, 28, 29, 30, 31, 32, 33, 34, 35, 36, 37, 38, 39, 40, 41] rfl (by decide +kernel)) gt_wsX6_readLineOf_wsX60
set_option maxRecDepth 20000 in
theorem gX6_readLineOf_X6_readNumber : GoodIn wsX6_readLineOf (wsV RX6 142 RX6 yX6_readNumber wsX6_readNumber) := goodIn_app (goodIn_r _ [6, 7, 8, 9] rfl (by decide +kernel)) ggX6_readLineOf_X6_readNumber
set_option maxRecDepth 20000 in
theorem ggX6_readLineOf_X6_readCellBut : GoodIn wsX6_readLineOf wsX6_readCellBut := goodIn_ca (goodIn_r _ [45, 15, 46, 11, 12, 13, 9, 14, 16, 17, 18, 19, 20, 21, 22, 23, 24, 25, 26, 27, 28, 29, 30, 31, 32, 33, 34, 35, 36, 37, 38, 39, 40, 41] rfl (by decide +kernel)) gt_wsX6_readLineOf_wsX60
set_option maxRecDepth 20000 in
theorem gX6_readLineOf_X6_readCellBut : GoodIn wsX6_readLineOf (wsV RX6 139 RX6 yX6_readCellBut wsX6_readCellBut) := goodIn_app (goodIn_r _ [42, 43, 44, 9] rfl (by decide +kernel)) ggX6_readLineOf_X6_readCellBut
set_option maxRecDepth 20000 in
theorem ggX6_readLineOf_X6_readDay : GoodIn wsX6_readLineOf wsX6_readDay := goodIn_ca (goodIn_r _ [50, 15, 51, 11, 12, 13, 9, 14, 16, 17, 18, 19, 20, 21, 22, 23, 24, 25, 26, 27, 28, 29, 30, 31, 32, 33, 34, 35, 36, 37, 38, 39, 40, 41] rfl (by decide +kernel)) gt_wsX6_readLineOf_wsX60
set_option maxRecDepth 20000 in
theorem gX6_readLineOf_X6_readDay : GoodIn wsX6_readLineOf (wsV RX6 135 RX6 yX6_readDay wsX6_readDay) := goodIn_app (goodIn_r _ [47, 48, 49, 9] rfl (by decide +kernel)) ggX6_readLineOf_X6_readDay
set_option maxRecDepth 20000 in
theorem ggX6_readLineOf_X6_readLens : GoodIn wsX6_readLineOf wsX6_readLens := goodIn_ca (goodIn_r _ [55, 5, 15, 16, 47, 48, 49, 9, 50, 51, 11, 12, 13, 14, 17, 18, 19, 20, 21, 22, 23, 24, 25, 26, 27, 28, 29, 30, 31, 32, 33, 34, 35, 36, 37, 38, 39, 40, 41, 42, 43, 44, 45, 46] rfl (by decide +kernel)) gt_wsX6_readLineOf_wsX60
set_option maxRecDepth 20000 in
theorem gX6_readLineOf_X6_readLens : GoodIn wsX6_readLineOf (wsV RX6 145 RX6 yX6_readLens wsX6_readLens) := goodIn_app (goodIn_r _ [52, 53, 54, 9] rfl (by decide +kernel)) ggX6_readLineOf_X6_readLens
theorem dX6_readLineOf_0_t : dqK cX6_readLineOf.data.toList 0 [(0, .iload_n 1, 1), (32, .aload_n 0, 1), (33, .aload_n 0, 1), (34, .iconst 2, 1), (35, .iconst 4, 1), (36, .invokevirtual 142, 3), (39, .putfield 50, 3), (42, .aload_n 0, 1), (43, .aload_n 0, 1), (44, .iconst 2, 1), (45, .iconst 4, 1), (46, .invokevirtual 142, 3), (49, .putfield 54, 3), (52, .goto 123, 3), (55, .aload_n 0, 1), (56, .aload_n 0, 1), (57, .iconst 0, 1), (58, .bipush 9, 2), (60, .invokevirtual 142, 3), (63, .putfield 57, 3), (66, .goto 109, 3), (69, .aload_n 0, 1), (70, .aload_n 0, 1), (71, .getfield 63, 3), (74, .invokevirtual 139, 3), (77, .istore_n 2, 1), (78, .aload_n 0, 1), (79, .dup, 1), (80, .getfield 63, 3), (83, .iconst 1, 1), (84, .iload_n 2, 1), (85, .ishl, 1), (86, .ior, 1), (87, .putfield 63, 3), (90, .aload_n 0, 1), (91, .getfield 17, 3), (94, .iconst 0, 1), (95, .iload_n 2, 1), (96, .iadd, 1), (97, .aload_n 0, 1)] = true := by decide +kernel
theorem dX6_readLineOf_0 : decode cX6_readLineOf 0 = .ok (.iload_n 1, 1) := dq_get dX6_readLineOf_0_t 0 rfl
theorem dX6_readLineOf_32 : decode cX6_readLineOf 32 = .ok (.aload_n 0, 1) := dq_get dX6_readLineOf_0_t 1 rfl
theorem dX6_readLineOf_33 : decode cX6_readLineOf 33 = .ok (.aload_n 0, 1) := dq_get dX6_readLineOf_0_t 2 rfl
theorem dX6_readLineOf_34 : decode cX6_readLineOf 34 = .ok (.iconst 2, 1) := dq_get dX6_readLineOf_0_t 3 rfl
theorem dX6_readLineOf_35 : decode cX6_readLineOf 35 = .ok (.iconst 4, 1) := dq_get dX6_readLineOf_0_t 4 rfl
theorem dX6_readLineOf_36 : decode cX6_readLineOf 36 = .ok (.invokevirtual 142, 3) := dq_get dX6_readLineOf_0_t 5 rfl
theorem dX6_readLineOf_39 : decode cX6_readLineOf 39 = .ok (.putfield 50, 3) := dq_get dX6_readLineOf_0_t 6 rfl
theorem dX6_readLineOf_42 : decode cX6_readLineOf 42 = .ok (.aload_n 0, 1) := dq_get dX6_readLineOf_0_t 7 rfl
theorem dX6_readLineOf_43 : decode cX6_readLineOf 43 = .ok (.aload_n 0, 1) := dq_get dX6_readLineOf_0_t 8 rfl
theorem dX6_readLineOf_44 : decode cX6_readLineOf 44 = .ok (.iconst 2, 1) := dq_get dX6_readLineOf_0_t 9 rfl
theorem dX6_readLineOf_45 : decode cX6_readLineOf 45 = .ok (.iconst 4, 1) := dq_get dX6_readLineOf_0_t 10 rfl
theorem dX6_readLineOf_46 : decode cX6_readLineOf 46 = .ok (.invokevirtual 142, 3) := dq_get dX6_readLineOf_0_t 11 rfl
theorem dX6_readLineOf_49 : decode cX6_readLineOf 49 = .ok (.putfield 54, 3) := dq_get dX6_readLineOf_0_t 12 rfl
theorem dX6_readLineOf_52 : decode cX6_readLineOf 52 = .ok (.goto 123, 3) := dq_get dX6_readLineOf_0_t 13 rfl
theorem dX6_readLineOf_55 : decode cX6_readLineOf 55 = .ok (.aload_n 0, 1) := dq_get dX6_readLineOf_0_t 14 rfl
theorem dX6_readLineOf_56 : decode cX6_readLineOf 56 = .ok (.aload_n 0, 1) := dq_get dX6_readLineOf_0_t 15 rfl
theorem dX6_readLineOf_57 : decode cX6_readLineOf 57 = .ok (.iconst 0, 1) := dq_get dX6_readLineOf_0_t 16 rfl
theorem dX6_readLineOf_58 : decode cX6_readLineOf 58 = .ok (.bipush 9, 2) := dq_get dX6_readLineOf_0_t 17 rfl
theorem dX6_readLineOf_60 : decode cX6_readLineOf 60 = .ok (.invokevirtual 142, 3) := dq_get dX6_readLineOf_0_t 18 rfl
theorem dX6_readLineOf_63 : decode cX6_readLineOf 63 = .ok (.putfield 57, 3) := dq_get dX6_readLineOf_0_t 19 rfl
theorem dX6_readLineOf_66 : decode cX6_readLineOf 66 = .ok (.goto 109, 3) := dq_get dX6_readLineOf_0_t 20 rfl
theorem dX6_readLineOf_69 : decode cX6_readLineOf 69 = .ok (.aload_n 0, 1) := dq_get dX6_readLineOf_0_t 21 rfl
theorem dX6_readLineOf_70 : decode cX6_readLineOf 70 = .ok (.aload_n 0, 1) := dq_get dX6_readLineOf_0_t 22 rfl
theorem dX6_readLineOf_71 : decode cX6_readLineOf 71 = .ok (.getfield 63, 3) := dq_get dX6_readLineOf_0_t 23 rfl
theorem dX6_readLineOf_74 : decode cX6_readLineOf 74 = .ok (.invokevirtual 139, 3) := dq_get dX6_readLineOf_0_t 24 rfl
theorem dX6_readLineOf_77 : decode cX6_readLineOf 77 = .ok (.istore_n 2, 1) := dq_get dX6_readLineOf_0_t 25 rfl
theorem dX6_readLineOf_78 : decode cX6_readLineOf 78 = .ok (.aload_n 0, 1) := dq_get dX6_readLineOf_0_t 26 rfl
theorem dX6_readLineOf_79 : decode cX6_readLineOf 79 = .ok (.dup, 1) := dq_get dX6_readLineOf_0_t 27 rfl
theorem dX6_readLineOf_80 : decode cX6_readLineOf 80 = .ok (.getfield 63, 3) := dq_get dX6_readLineOf_0_t 28 rfl
theorem dX6_readLineOf_83 : decode cX6_readLineOf 83 = .ok (.iconst 1, 1) := dq_get dX6_readLineOf_0_t 29 rfl
theorem dX6_readLineOf_84 : decode cX6_readLineOf 84 = .ok (.iload_n 2, 1) := dq_get dX6_readLineOf_0_t 30 rfl
theorem dX6_readLineOf_85 : decode cX6_readLineOf 85 = .ok (.ishl, 1) := dq_get dX6_readLineOf_0_t 31 rfl
theorem dX6_readLineOf_86 : decode cX6_readLineOf 86 = .ok (.ior, 1) := dq_get dX6_readLineOf_0_t 32 rfl
theorem dX6_readLineOf_87 : decode cX6_readLineOf 87 = .ok (.putfield 63, 3) := dq_get dX6_readLineOf_0_t 33 rfl
theorem dX6_readLineOf_90 : decode cX6_readLineOf 90 = .ok (.aload_n 0, 1) := dq_get dX6_readLineOf_0_t 34 rfl
theorem dX6_readLineOf_91 : decode cX6_readLineOf 91 = .ok (.getfield 17, 3) := dq_get dX6_readLineOf_0_t 35 rfl
theorem dX6_readLineOf_94 : decode cX6_readLineOf 94 = .ok (.iconst 0, 1) := dq_get dX6_readLineOf_0_t 36 rfl
theorem dX6_readLineOf_95 : decode cX6_readLineOf 95 = .ok (.iload_n 2, 1) := dq_get dX6_readLineOf_0_t 37 rfl
theorem dX6_readLineOf_96 : decode cX6_readLineOf 96 = .ok (.iadd, 1) := dq_get dX6_readLineOf_0_t 38 rfl
theorem dX6_readLineOf_97 : decode cX6_readLineOf 97 = .ok (.aload_n 0, 1) := dq_get dX6_readLineOf_0_t 39 rfl
theorem dX6_readLineOf_1 : decode cX6_readLineOf 1 = .ok (.tableswitch 170 0 3 #[31, 54, 68, 106], 31) := by decide +kernel
theorem dX6_readLineOf_98_t : dqK cX6_readLineOf.data.toList 0 [(98, .iconst 0, 1), (99, .iconst 5, 1), (100, .invokevirtual 142, 3), (103, .iastore, 1), (104, .goto 71, 3), (107, .bipush 17, 2), (109, .iconst 3, 1), (110, .aload_n 0, 1), (111, .getfield 17, 3), (114, .bipush 16, 2), (116, .iaload, 1), (117, .imul, 1), (118, .iadd, 1), (119, .istore_n 2, 1), (120, .aload_n 0, 1), (121, .getfield 17, 3), (124, .iload_n 2, 1), (125, .aload_n 0, 1), (126, .invokevirtual 135, 3), (129, .iastore, 1), (130, .aload_n 0, 1), (131, .getfield 17, 3), (134, .iload_n 2, 1), (135, .iconst 1, 1), (136, .iadd, 1), (137, .aload_n 0, 1), (138, .iconst 0, 1), (139, .invokevirtual 139, 3), (142, .iastore, 1), (143, .aload_n 0, 1), (144, .getfield 17, 3), (147, .iload_n 2, 1), (148, .iconst 2, 1), (149, .iadd, 1), (150, .aload_n 0, 1), (151, .iconst 0, 1), (152, .iconst 5, 1), (153, .invokevirtual 142, 3), (156, .iastore, 1), (157, .aload_n 0, 1)] = true := by decide +kernel
theorem dX6_readLineOf_98 : decode cX6_readLineOf 98 = .ok (.iconst 0, 1) := dq_get dX6_readLineOf_98_t 0 rfl
theorem dX6_readLineOf_99 : decode cX6_readLineOf 99 = .ok (.iconst 5, 1) := dq_get dX6_readLineOf_98_t 1 rfl
theorem dX6_readLineOf_100 : decode cX6_readLineOf 100 = .ok (.invokevirtual 142, 3) := dq_get dX6_readLineOf_98_t 2 rfl
theorem dX6_readLineOf_103 : decode cX6_readLineOf 103 = .ok (.iastore, 1) := dq_get dX6_readLineOf_98_t 3 rfl
theorem dX6_readLineOf_104 : decode cX6_readLineOf 104 = .ok (.goto 71, 3) := dq_get dX6_readLineOf_98_t 4 rfl
theorem dX6_readLineOf_107 : decode cX6_readLineOf 107 = .ok (.bipush 17, 2) := dq_get dX6_readLineOf_98_t 5 rfl
theorem dX6_readLineOf_109 : decode cX6_readLineOf 109 = .ok (.iconst 3, 1) := dq_get dX6_readLineOf_98_t 6 rfl
theorem dX6_readLineOf_110 : decode cX6_readLineOf 110 = .ok (.aload_n 0, 1) := dq_get dX6_readLineOf_98_t 7 rfl
theorem dX6_readLineOf_111 : decode cX6_readLineOf 111 = .ok (.getfield 17, 3) := dq_get dX6_readLineOf_98_t 8 rfl
theorem dX6_readLineOf_114 : decode cX6_readLineOf 114 = .ok (.bipush 16, 2) := dq_get dX6_readLineOf_98_t 9 rfl
theorem dX6_readLineOf_116 : decode cX6_readLineOf 116 = .ok (.iaload, 1) := dq_get dX6_readLineOf_98_t 10 rfl
theorem dX6_readLineOf_117 : decode cX6_readLineOf 117 = .ok (.imul, 1) := dq_get dX6_readLineOf_98_t 11 rfl
theorem dX6_readLineOf_118 : decode cX6_readLineOf 118 = .ok (.iadd, 1) := dq_get dX6_readLineOf_98_t 12 rfl
theorem dX6_readLineOf_119 : decode cX6_readLineOf 119 = .ok (.istore_n 2, 1) := dq_get dX6_readLineOf_98_t 13 rfl
theorem dX6_readLineOf_120 : decode cX6_readLineOf 120 = .ok (.aload_n 0, 1) := dq_get dX6_readLineOf_98_t 14 rfl
theorem dX6_readLineOf_121 : decode cX6_readLineOf 121 = .ok (.getfield 17, 3) := dq_get dX6_readLineOf_98_t 15 rfl
theorem dX6_readLineOf_124 : decode cX6_readLineOf 124 = .ok (.iload_n 2, 1) := dq_get dX6_readLineOf_98_t 16 rfl
theorem dX6_readLineOf_125 : decode cX6_readLineOf 125 = .ok (.aload_n 0, 1) := dq_get dX6_readLineOf_98_t 17 rfl
theorem dX6_readLineOf_126 : decode cX6_readLineOf 126 = .ok (.invokevirtual 135, 3) := dq_get dX6_readLineOf_98_t 18 rfl
theorem dX6_readLineOf_129 : decode cX6_readLineOf 129 = .ok (.iastore, 1) := dq_get dX6_readLineOf_98_t 19 rfl
theorem dX6_readLineOf_130 : decode cX6_readLineOf 130 = .ok (.aload_n 0, 1) := dq_get dX6_readLineOf_98_t 20 rfl
theorem dX6_readLineOf_131 : decode cX6_readLineOf 131 = .ok (.getfield 17, 3) := dq_get dX6_readLineOf_98_t 21 rfl
theorem dX6_readLineOf_134 : decode cX6_readLineOf 134 = .ok (.iload_n 2, 1) := dq_get dX6_readLineOf_98_t 22 rfl
theorem dX6_readLineOf_135 : decode cX6_readLineOf 135 = .ok (.iconst 1, 1) := dq_get dX6_readLineOf_98_t 23 rfl
theorem dX6_readLineOf_136 : decode cX6_readLineOf 136 = .ok (.iadd, 1) := dq_get dX6_readLineOf_98_t 24 rfl
theorem dX6_readLineOf_137 : decode cX6_readLineOf 137 = .ok (.aload_n 0, 1) := dq_get dX6_readLineOf_98_t 25 rfl
theorem dX6_readLineOf_138 : decode cX6_readLineOf 138 = .ok (.iconst 0, 1) := dq_get dX6_readLineOf_98_t 26 rfl
theorem dX6_readLineOf_139 : decode cX6_readLineOf 139 = .ok (.invokevirtual 139, 3) := dq_get dX6_readLineOf_98_t 27 rfl
theorem dX6_readLineOf_142 : decode cX6_readLineOf 142 = .ok (.iastore, 1) := dq_get dX6_readLineOf_98_t 28 rfl
theorem dX6_readLineOf_143 : decode cX6_readLineOf 143 = .ok (.aload_n 0, 1) := dq_get dX6_readLineOf_98_t 29 rfl
theorem dX6_readLineOf_144 : decode cX6_readLineOf 144 = .ok (.getfield 17, 3) := dq_get dX6_readLineOf_98_t 30 rfl
theorem dX6_readLineOf_147 : decode cX6_readLineOf 147 = .ok (.iload_n 2, 1) := dq_get dX6_readLineOf_98_t 31 rfl
theorem dX6_readLineOf_148 : decode cX6_readLineOf 148 = .ok (.iconst 2, 1) := dq_get dX6_readLineOf_98_t 32 rfl
theorem dX6_readLineOf_149 : decode cX6_readLineOf 149 = .ok (.iadd, 1) := dq_get dX6_readLineOf_98_t 33 rfl
theorem dX6_readLineOf_150 : decode cX6_readLineOf 150 = .ok (.aload_n 0, 1) := dq_get dX6_readLineOf_98_t 34 rfl
theorem dX6_readLineOf_151 : decode cX6_readLineOf 151 = .ok (.iconst 0, 1) := dq_get dX6_readLineOf_98_t 35 rfl
theorem dX6_readLineOf_152 : decode cX6_readLineOf 152 = .ok (.iconst 5, 1) := dq_get dX6_readLineOf_98_t 36 rfl
theorem dX6_readLineOf_153 : decode cX6_readLineOf 153 = .ok (.invokevirtual 142, 3) := dq_get dX6_readLineOf_98_t 37 rfl
theorem dX6_readLineOf_156 : decode cX6_readLineOf 156 = .ok (.iastore, 1) := dq_get dX6_readLineOf_98_t 38 rfl
theorem dX6_readLineOf_157 : decode cX6_readLineOf 157 = .ok (.aload_n 0, 1) := dq_get dX6_readLineOf_98_t 39 rfl
theorem dX6_readLineOf_158_t : dqK cX6_readLineOf.data.toList 0 [(158, .getfield 17, 3), (161, .bipush 16, 2), (163, .dup2, 1), (164, .iaload, 1), (165, .iconst 1, 1), (166, .iadd, 1), (167, .iastore, 1), (168, .goto 7, 3), (171, .aload_n 0, 1), (172, .invokevirtual 145, 3), (175, .return_, 1)] = true := by decide +kernel
theorem dX6_readLineOf_158 : decode cX6_readLineOf 158 = .ok (.getfield 17, 3) := dq_get dX6_readLineOf_158_t 0 rfl
theorem dX6_readLineOf_161 : decode cX6_readLineOf 161 = .ok (.bipush 16, 2) := dq_get dX6_readLineOf_158_t 1 rfl
theorem dX6_readLineOf_163 : decode cX6_readLineOf 163 = .ok (.dup2, 1) := dq_get dX6_readLineOf_158_t 2 rfl
theorem dX6_readLineOf_164 : decode cX6_readLineOf 164 = .ok (.iaload, 1) := dq_get dX6_readLineOf_158_t 3 rfl
theorem dX6_readLineOf_165 : decode cX6_readLineOf 165 = .ok (.iconst 1, 1) := dq_get dX6_readLineOf_158_t 4 rfl
theorem dX6_readLineOf_166 : decode cX6_readLineOf 166 = .ok (.iadd, 1) := dq_get dX6_readLineOf_158_t 5 rfl
theorem dX6_readLineOf_167 : decode cX6_readLineOf 167 = .ok (.iastore, 1) := dq_get dX6_readLineOf_158_t 6 rfl
theorem dX6_readLineOf_168 : decode cX6_readLineOf 168 = .ok (.goto 7, 3) := dq_get dX6_readLineOf_158_t 7 rfl
theorem dX6_readLineOf_171 : decode cX6_readLineOf 171 = .ok (.aload_n 0, 1) := dq_get dX6_readLineOf_158_t 8 rfl
theorem dX6_readLineOf_172 : decode cX6_readLineOf 172 = .ok (.invokevirtual 145, 3) := dq_get dX6_readLineOf_158_t 9 rfl
theorem dX6_readLineOf_175 : decode cX6_readLineOf 175 = .ok (.return_, 1) := dq_get dX6_readLineOf_158_t 10 rfl
theorem gt_wsX6_readLine_wsX60 : GoodIn wsX6_readLine wsX60 := fun w hw => ⟨List.mem_cons_of_mem _ (List.mem_append_right _ hw), good_of_word (List.all_eq_true.mp gw_wsX60 w hw)⟩
set_option maxRecDepth 20000 in
theorem ggX6_readLine_X6_lineNow : GoodIn wsX6_readLine wsX6_lineNow := goodIn_ca (goodIn_r _ [9, 10, 11, 12, 13, 8, 14, 15, 16, 17, 18, 19, 20, 21] rfl (by decide +kernel)) gt_wsX6_readLine_wsX60
set_option maxRecDepth 20000 in
theorem gX6_readLine_X6_lineNow : GoodIn wsX6_readLine (wsV RX6 148 RX6 yX6_lineNow wsX6_lineNow) := goodIn_app (goodIn_r _ [5, 6, 7, 8] rfl (by decide +kernel)) ggX6_readLine_X6_lineNow
set_option maxRecDepth 20000 in
theorem ggX6_readLine_X6_needs : GoodIn wsX6_readLine wsX6_needs := goodIn_ca (goodIn_r _ [25, 3, 10, 26] rfl (by decide +kernel)) gt_wsX6_readLine_wsX60
set_option maxRecDepth 20000 in
theorem gX6_readLine_X6_needs : GoodIn wsX6_readLine (wsV RX6 124 RX6 yX6_needs wsX6_needs) := goodIn_app (goodIn_r _ [22, 23, 24, 8] rfl (by decide +kernel)) ggX6_readLine_X6_needs
set_option maxRecDepth 20000 in
theorem ggX6_readLine_X6_nextToken : GoodIn wsX6_readLine wsX6_nextToken := goodIn_ca (goodIn_r _ [30, 3, 15, 10, 1, 31, 32, 33, 34, 35, 16, 17, 18, 8, 19, 20, 21, 36, 37, 38, 22, 23, 24, 25, 26] rfl (by decide +kernel)) gt_wsX6_readLine_wsX60
set_option maxRecDepth 20000 in
theorem gX6_readLine_X6_nextToken : GoodIn wsX6_readLine (wsV RX6 132 RX6 yX6_nextToken wsX6_nextToken) := goodIn_app (goodIn_r _ [27, 28, 29, 8] rfl (by decide +kernel)) ggX6_readLine_X6_nextToken
set_option maxRecDepth 20000 in
theorem ggX6_readLine_X6_readLineOf : GoodIn wsX6_readLine wsX6_readLineOf := goodIn_ca (goodIn_r _ [42, 43, 44, 45, 46, 2, 47, 48, 49, 8, 50, 51, 52, 53, 54, 3, 1, 35, 22, 23, 24, 25, 10, 26, 36, 37, 38, 27, 28, 29, 30, 15, 31, 32, 33, 34, 16, 17, 18, 19, 20, 21, 55, 56, 57, 58, 59, 60, 61, 62, 63, 64, 65, 66, 67, 68] rfl (by decide +kernel)) gt_wsX6_readLine_wsX60
set_option maxRecDepth 20000 in
theorem gX6_readLine_X6_readLineOf : GoodIn wsX6_readLine (wsV RX6 151 RX6 yX6_readLineOf wsX6_readLineOf) := goodIn_app (goodIn_r _ [39, 40, 41, 8] rfl (by decide +kernel)) ggX6_readLine_X6_readLineOf
theorem dX6_readLine_0_t : dqK cX6_readLine.data.toList 0 [(0, .aload_n 0, 1), (1, .getfield 110, 3), (4, .iconst 1, 1), (5, .if_icmp .ne 10, 3), (8, .aload_n 0, 1), (9, .invokevirtual 148, 3), (12, .goto 5, 3), (15, .bipush (-4), 2), (17, .istore_n 1, 1), (18, .aload_n 0, 1), (19, .iload_n 1, 1), (20, .bipush (-4), 2), (22, .if_icmp .eq 7, 3), (25, .iconst 1, 1), (26, .goto 4, 3), (29, .iconst 0, 1), (30, .iconst 2, 1), (31, .invokevirtual 124, 3), (34, .aload_n 0, 1), (35, .iload_n 1, 1), (36, .iconst 3, 1), (37, .if_icmp .ne 15, 3), (40, .aload_n 0, 1), (41, .getfield 17, 3), (44, .bipush 16, 2), (46, .iaload, 1), (47, .bipush 10, 2), (49, .if_icmp .ge 24, 3), (52, .iload_n 1, 1), (53, .iconst 4, 1), (54, .if_icmp .ne 15, 3), (57, .aload_n 0, 1), (58, .getfield 17, 3), (61, .bipush 47, 2), (63, .iaload, 1), (64, .bipush 6, 2), (66, .if_icmp .ge 7, 3), (69, .iconst 1, 1), (70, .goto 4, 3), (73, .iconst 0, 1)] = true := by decide +kernel
theorem dX6_readLine_0 : decode cX6_readLine 0 = .ok (.aload_n 0, 1) := dq_get dX6_readLine_0_t 0 rfl
theorem dX6_readLine_1 : decode cX6_readLine 1 = .ok (.getfield 110, 3) := dq_get dX6_readLine_0_t 1 rfl
theorem dX6_readLine_4 : decode cX6_readLine 4 = .ok (.iconst 1, 1) := dq_get dX6_readLine_0_t 2 rfl
theorem dX6_readLine_5 : decode cX6_readLine 5 = .ok (.if_icmp .ne 10, 3) := dq_get dX6_readLine_0_t 3 rfl
theorem dX6_readLine_8 : decode cX6_readLine 8 = .ok (.aload_n 0, 1) := dq_get dX6_readLine_0_t 4 rfl
theorem dX6_readLine_9 : decode cX6_readLine 9 = .ok (.invokevirtual 148, 3) := dq_get dX6_readLine_0_t 5 rfl
theorem dX6_readLine_12 : decode cX6_readLine 12 = .ok (.goto 5, 3) := dq_get dX6_readLine_0_t 6 rfl
theorem dX6_readLine_15 : decode cX6_readLine 15 = .ok (.bipush (-4), 2) := dq_get dX6_readLine_0_t 7 rfl
theorem dX6_readLine_17 : decode cX6_readLine 17 = .ok (.istore_n 1, 1) := dq_get dX6_readLine_0_t 8 rfl
theorem dX6_readLine_18 : decode cX6_readLine 18 = .ok (.aload_n 0, 1) := dq_get dX6_readLine_0_t 9 rfl
theorem dX6_readLine_19 : decode cX6_readLine 19 = .ok (.iload_n 1, 1) := dq_get dX6_readLine_0_t 10 rfl
theorem dX6_readLine_20 : decode cX6_readLine 20 = .ok (.bipush (-4), 2) := dq_get dX6_readLine_0_t 11 rfl
theorem dX6_readLine_22 : decode cX6_readLine 22 = .ok (.if_icmp .eq 7, 3) := dq_get dX6_readLine_0_t 12 rfl
theorem dX6_readLine_25 : decode cX6_readLine 25 = .ok (.iconst 1, 1) := dq_get dX6_readLine_0_t 13 rfl
theorem dX6_readLine_26 : decode cX6_readLine 26 = .ok (.goto 4, 3) := dq_get dX6_readLine_0_t 14 rfl
theorem dX6_readLine_29 : decode cX6_readLine 29 = .ok (.iconst 0, 1) := dq_get dX6_readLine_0_t 15 rfl
theorem dX6_readLine_30 : decode cX6_readLine 30 = .ok (.iconst 2, 1) := dq_get dX6_readLine_0_t 16 rfl
theorem dX6_readLine_31 : decode cX6_readLine 31 = .ok (.invokevirtual 124, 3) := dq_get dX6_readLine_0_t 17 rfl
theorem dX6_readLine_34 : decode cX6_readLine 34 = .ok (.aload_n 0, 1) := dq_get dX6_readLine_0_t 18 rfl
theorem dX6_readLine_35 : decode cX6_readLine 35 = .ok (.iload_n 1, 1) := dq_get dX6_readLine_0_t 19 rfl
theorem dX6_readLine_36 : decode cX6_readLine 36 = .ok (.iconst 3, 1) := dq_get dX6_readLine_0_t 20 rfl
theorem dX6_readLine_37 : decode cX6_readLine 37 = .ok (.if_icmp .ne 15, 3) := dq_get dX6_readLine_0_t 21 rfl
theorem dX6_readLine_40 : decode cX6_readLine 40 = .ok (.aload_n 0, 1) := dq_get dX6_readLine_0_t 22 rfl
theorem dX6_readLine_41 : decode cX6_readLine 41 = .ok (.getfield 17, 3) := dq_get dX6_readLine_0_t 23 rfl
theorem dX6_readLine_44 : decode cX6_readLine 44 = .ok (.bipush 16, 2) := dq_get dX6_readLine_0_t 24 rfl
theorem dX6_readLine_46 : decode cX6_readLine 46 = .ok (.iaload, 1) := dq_get dX6_readLine_0_t 25 rfl
theorem dX6_readLine_47 : decode cX6_readLine 47 = .ok (.bipush 10, 2) := dq_get dX6_readLine_0_t 26 rfl
theorem dX6_readLine_49 : decode cX6_readLine 49 = .ok (.if_icmp .ge 24, 3) := dq_get dX6_readLine_0_t 27 rfl
theorem dX6_readLine_52 : decode cX6_readLine 52 = .ok (.iload_n 1, 1) := dq_get dX6_readLine_0_t 28 rfl
theorem dX6_readLine_53 : decode cX6_readLine 53 = .ok (.iconst 4, 1) := dq_get dX6_readLine_0_t 29 rfl
theorem dX6_readLine_54 : decode cX6_readLine 54 = .ok (.if_icmp .ne 15, 3) := dq_get dX6_readLine_0_t 30 rfl
theorem dX6_readLine_57 : decode cX6_readLine 57 = .ok (.aload_n 0, 1) := dq_get dX6_readLine_0_t 31 rfl
theorem dX6_readLine_58 : decode cX6_readLine 58 = .ok (.getfield 17, 3) := dq_get dX6_readLine_0_t 32 rfl
theorem dX6_readLine_61 : decode cX6_readLine 61 = .ok (.bipush 47, 2) := dq_get dX6_readLine_0_t 33 rfl
theorem dX6_readLine_63 : decode cX6_readLine 63 = .ok (.iaload, 1) := dq_get dX6_readLine_0_t 34 rfl
theorem dX6_readLine_64 : decode cX6_readLine 64 = .ok (.bipush 6, 2) := dq_get dX6_readLine_0_t 35 rfl
theorem dX6_readLine_66 : decode cX6_readLine 66 = .ok (.if_icmp .ge 7, 3) := dq_get dX6_readLine_0_t 36 rfl
theorem dX6_readLine_69 : decode cX6_readLine 69 = .ok (.iconst 1, 1) := dq_get dX6_readLine_0_t 37 rfl
theorem dX6_readLine_70 : decode cX6_readLine 70 = .ok (.goto 4, 3) := dq_get dX6_readLine_0_t 38 rfl
theorem dX6_readLine_73 : decode cX6_readLine 73 = .ok (.iconst 0, 1) := dq_get dX6_readLine_0_t 39 rfl
theorem dX6_readLine_74_t : dqK cX6_readLine.data.toList 0 [(74, .iconst 5, 1), (75, .invokevirtual 124, 3), (78, .aload_n 0, 1), (79, .getfield 90, 3), (82, .ifCond .ne 41, 3), (85, .iload_n 1, 1), (86, .iconst 1, 1), (87, .if_icmp .gt 36, 3), (90, .aload_n 0, 1), (91, .aload_n 0, 1), (92, .getfield 60, 3), (95, .iload_n 1, 1), (96, .ishr, 1), (97, .iconst 1, 1), (98, .iand, 1), (99, .ifCond .ne 7, 3), (102, .iconst 1, 1), (103, .goto 4, 3), (106, .iconst 0, 1), (107, .iconst 4, 1), (108, .invokevirtual 124, 3), (111, .aload_n 0, 1), (112, .dup, 1), (113, .getfield 60, 3), (116, .iconst 1, 1), (117, .iload_n 1, 1), (118, .ishl, 1), (119, .ior, 1), (120, .putfield 60, 3), (123, .aload_n 0, 1), (124, .invokevirtual 132, 3), (127, .aload_n 0, 1), (128, .getfield 90, 3), (131, .ifCond .le 4, 3), (134, .return_, 1), (135, .aload_n 0, 1), (136, .iload_n 1, 1), (137, .invokevirtual 151, 3), (140, .aload_n 0, 1), (141, .getfield 90, 3)] = true := by decide +kernel
theorem dX6_readLine_74 : decode cX6_readLine 74 = .ok (.iconst 5, 1) := dq_get dX6_readLine_74_t 0 rfl
theorem dX6_readLine_75 : decode cX6_readLine 75 = .ok (.invokevirtual 124, 3) := dq_get dX6_readLine_74_t 1 rfl
theorem dX6_readLine_78 : decode cX6_readLine 78 = .ok (.aload_n 0, 1) := dq_get dX6_readLine_74_t 2 rfl
theorem dX6_readLine_79 : decode cX6_readLine 79 = .ok (.getfield 90, 3) := dq_get dX6_readLine_74_t 3 rfl
theorem dX6_readLine_82 : decode cX6_readLine 82 = .ok (.ifCond .ne 41, 3) := dq_get dX6_readLine_74_t 4 rfl
theorem dX6_readLine_85 : decode cX6_readLine 85 = .ok (.iload_n 1, 1) := dq_get dX6_readLine_74_t 5 rfl
theorem dX6_readLine_86 : decode cX6_readLine 86 = .ok (.iconst 1, 1) := dq_get dX6_readLine_74_t 6 rfl
theorem dX6_readLine_87 : decode cX6_readLine 87 = .ok (.if_icmp .gt 36, 3) := dq_get dX6_readLine_74_t 7 rfl
theorem dX6_readLine_90 : decode cX6_readLine 90 = .ok (.aload_n 0, 1) := dq_get dX6_readLine_74_t 8 rfl
theorem dX6_readLine_91 : decode cX6_readLine 91 = .ok (.aload_n 0, 1) := dq_get dX6_readLine_74_t 9 rfl
theorem dX6_readLine_92 : decode cX6_readLine 92 = .ok (.getfield 60, 3) := dq_get dX6_readLine_74_t 10 rfl
theorem dX6_readLine_95 : decode cX6_readLine 95 = .ok (.iload_n 1, 1) := dq_get dX6_readLine_74_t 11 rfl
theorem dX6_readLine_96 : decode cX6_readLine 96 = .ok (.ishr, 1) := dq_get dX6_readLine_74_t 12 rfl
theorem dX6_readLine_97 : decode cX6_readLine 97 = .ok (.iconst 1, 1) := dq_get dX6_readLine_74_t 13 rfl
theorem dX6_readLine_98 : decode cX6_readLine 98 = .ok (.iand, 1) := dq_get dX6_readLine_74_t 14 rfl
theorem dX6_readLine_99 : decode cX6_readLine 99 = .ok (.ifCond .ne 7, 3) := dq_get dX6_readLine_74_t 15 rfl
theorem dX6_readLine_102 : decode cX6_readLine 102 = .ok (.iconst 1, 1) := dq_get dX6_readLine_74_t 16 rfl
theorem dX6_readLine_103 : decode cX6_readLine 103 = .ok (.goto 4, 3) := dq_get dX6_readLine_74_t 17 rfl
theorem dX6_readLine_106 : decode cX6_readLine 106 = .ok (.iconst 0, 1) := dq_get dX6_readLine_74_t 18 rfl
theorem dX6_readLine_107 : decode cX6_readLine 107 = .ok (.iconst 4, 1) := dq_get dX6_readLine_74_t 19 rfl
theorem dX6_readLine_108 : decode cX6_readLine 108 = .ok (.invokevirtual 124, 3) := dq_get dX6_readLine_74_t 20 rfl
theorem dX6_readLine_111 : decode cX6_readLine 111 = .ok (.aload_n 0, 1) := dq_get dX6_readLine_74_t 21 rfl
theorem dX6_readLine_112 : decode cX6_readLine 112 = .ok (.dup, 1) := dq_get dX6_readLine_74_t 22 rfl
theorem dX6_readLine_113 : decode cX6_readLine 113 = .ok (.getfield 60, 3) := dq_get dX6_readLine_74_t 23 rfl
theorem dX6_readLine_116 : decode cX6_readLine 116 = .ok (.iconst 1, 1) := dq_get dX6_readLine_74_t 24 rfl
theorem dX6_readLine_117 : decode cX6_readLine 117 = .ok (.iload_n 1, 1) := dq_get dX6_readLine_74_t 25 rfl
theorem dX6_readLine_118 : decode cX6_readLine 118 = .ok (.ishl, 1) := dq_get dX6_readLine_74_t 26 rfl
theorem dX6_readLine_119 : decode cX6_readLine 119 = .ok (.ior, 1) := dq_get dX6_readLine_74_t 27 rfl
theorem dX6_readLine_120 : decode cX6_readLine 120 = .ok (.putfield 60, 3) := dq_get dX6_readLine_74_t 28 rfl
theorem dX6_readLine_123 : decode cX6_readLine 123 = .ok (.aload_n 0, 1) := dq_get dX6_readLine_74_t 29 rfl
theorem dX6_readLine_124 : decode cX6_readLine 124 = .ok (.invokevirtual 132, 3) := dq_get dX6_readLine_74_t 30 rfl
theorem dX6_readLine_127 : decode cX6_readLine 127 = .ok (.aload_n 0, 1) := dq_get dX6_readLine_74_t 31 rfl
theorem dX6_readLine_128 : decode cX6_readLine 128 = .ok (.getfield 90, 3) := dq_get dX6_readLine_74_t 32 rfl
theorem dX6_readLine_131 : decode cX6_readLine 131 = .ok (.ifCond .le 4, 3) := dq_get dX6_readLine_74_t 33 rfl
theorem dX6_readLine_134 : decode cX6_readLine 134 = .ok (.return_, 1) := dq_get dX6_readLine_74_t 34 rfl
theorem dX6_readLine_135 : decode cX6_readLine 135 = .ok (.aload_n 0, 1) := dq_get dX6_readLine_74_t 35 rfl
theorem dX6_readLine_136 : decode cX6_readLine 136 = .ok (.iload_n 1, 1) := dq_get dX6_readLine_74_t 36 rfl
theorem dX6_readLine_137 : decode cX6_readLine 137 = .ok (.invokevirtual 151, 3) := dq_get dX6_readLine_74_t 37 rfl
theorem dX6_readLine_140 : decode cX6_readLine 140 = .ok (.aload_n 0, 1) := dq_get dX6_readLine_74_t 38 rfl
theorem dX6_readLine_141 : decode cX6_readLine 141 = .ok (.getfield 90, 3) := dq_get dX6_readLine_74_t 39 rfl
theorem dX6_readLine_144_t : dqK cX6_readLine.data.toList 0 [(144, .ifCond .ne 21, 3), (147, .aload_n 0, 1), (148, .aload_n 0, 1), (149, .getfield 110, 3), (152, .iconst 3, 1), (153, .if_icmp .ne 7, 3), (156, .iconst 1, 1), (157, .goto 4, 3), (160, .iconst 0, 1), (161, .iconst 2, 1), (162, .invokevirtual 124, 3), (165, .aload_n 0, 1), (166, .invokevirtual 132, 3), (169, .return_, 1)] = true := by decide +kernel
theorem dX6_readLine_144 : decode cX6_readLine 144 = .ok (.ifCond .ne 21, 3) := dq_get dX6_readLine_144_t 0 rfl
theorem dX6_readLine_147 : decode cX6_readLine 147 = .ok (.aload_n 0, 1) := dq_get dX6_readLine_144_t 1 rfl
theorem dX6_readLine_148 : decode cX6_readLine 148 = .ok (.aload_n 0, 1) := dq_get dX6_readLine_144_t 2 rfl
theorem dX6_readLine_149 : decode cX6_readLine 149 = .ok (.getfield 110, 3) := dq_get dX6_readLine_144_t 3 rfl
theorem dX6_readLine_152 : decode cX6_readLine 152 = .ok (.iconst 3, 1) := dq_get dX6_readLine_144_t 4 rfl
theorem dX6_readLine_153 : decode cX6_readLine 153 = .ok (.if_icmp .ne 7, 3) := dq_get dX6_readLine_144_t 5 rfl
theorem dX6_readLine_156 : decode cX6_readLine 156 = .ok (.iconst 1, 1) := dq_get dX6_readLine_144_t 6 rfl
theorem dX6_readLine_157 : decode cX6_readLine 157 = .ok (.goto 4, 3) := dq_get dX6_readLine_144_t 7 rfl
theorem dX6_readLine_160 : decode cX6_readLine 160 = .ok (.iconst 0, 1) := dq_get dX6_readLine_144_t 8 rfl
theorem dX6_readLine_161 : decode cX6_readLine 161 = .ok (.iconst 2, 1) := dq_get dX6_readLine_144_t 9 rfl
theorem dX6_readLine_162 : decode cX6_readLine 162 = .ok (.invokevirtual 124, 3) := dq_get dX6_readLine_144_t 10 rfl
theorem dX6_readLine_165 : decode cX6_readLine 165 = .ok (.aload_n 0, 1) := dq_get dX6_readLine_144_t 11 rfl
theorem dX6_readLine_166 : decode cX6_readLine 166 = .ok (.invokevirtual 132, 3) := dq_get dX6_readLine_144_t 12 rfl
theorem dX6_readLine_169 : decode cX6_readLine 169 = .ok (.return_, 1) := dq_get dX6_readLine_144_t 13 rfl
theorem gt_wsX6_text_wsX60 : GoodIn wsX6_text wsX60 := fun w hw => ⟨List.mem_cons_of_mem _ (List.mem_append_right _ hw), good_of_word (List.all_eq_true.mp gw_wsX60 w hw)⟩
set_option maxRecDepth 20000 in
theorem ggX6_text_X6_firstDraft : GoodIn wsX6_text wsX6_firstDraft := goodIn_ca (goodIn_r _ [15, 16, 5, 6, 8, 17, 18, 4, 7] rfl (by decide +kernel)) gt_wsX6_text_wsX60
set_option maxRecDepth 20000 in
theorem gX6_text_X6_firstDraft : GoodIn wsX6_text (wsV RX6 44 RX6 yX6_firstDraft wsX6_firstDraft) := goodIn_app (goodIn_r _ [11, 12, 13, 14] rfl (by decide +kernel)) ggX6_text_X6_firstDraft
set_option maxRecDepth 20000 in
theorem ggX6_text_X6_nextToken : GoodIn wsX6_text wsX6_nextToken := goodIn_ca (goodIn_r _ [22, 1, 2, 23, 3, 24, 25, 26, 27, 28, 29, 30, 31, 14, 32, 9, 33, 34, 35, 36, 37, 38, 39, 40, 10] rfl (by decide +kernel)) gt_wsX6_text_wsX60
set_option maxRecDepth 20000 in
theorem gX6_text_X6_nextToken : GoodIn wsX6_text (wsV RX6 132 RX6 yX6_nextToken wsX6_nextToken) := goodIn_app (goodIn_r _ [19, 20, 21, 14] rfl (by decide +kernel)) ggX6_text_X6_nextToken
set_option maxRecDepth 20000 in
theorem ggX6_text_X6_readLine : GoodIn wsX6_text wsX6_readLine := goodIn_ca (goodIn_r _ [44, 3, 16, 1, 17, 45, 46, 47, 14, 48, 23, 49, 50, 51, 52, 2, 29, 30, 31, 32, 9, 33, 37, 38, 39, 40, 10, 19, 20, 21, 22, 24, 25, 26, 27, 28, 34, 35, 36, 53, 54, 55, 56, 5, 6, 8, 18, 57, 58, 59, 60, 61, 62, 63, 64, 65, 66, 67, 68, 4, 69, 70, 71, 72, 7, 73, 74, 75, 76] rfl (by decide +kernel)) gt_wsX6_text_wsX60
set_option maxRecDepth 20000 in
theorem gX6_text_X6_readLine : GoodIn wsX6_text (wsV RX6 155 RX6 yX6_readLine wsX6_readLine) := goodIn_app (goodIn_r _ [41, 42, 43, 14] rfl (by decide +kernel)) ggX6_text_X6_readLine
set_option maxRecDepth 20000 in
theorem ggX6_text_X6_needs : GoodIn wsX6_text wsX6_needs := goodIn_ca (goodIn_r _ [40, 1, 23, 10] rfl (by decide +kernel)) gt_wsX6_text_wsX60
set_option maxRecDepth 20000 in
theorem gX6_text_X6_needs : GoodIn wsX6_text (wsV RX6 124 RX6 yX6_needs wsX6_needs) := goodIn_app (goodIn_r _ [37, 38, 39, 14] rfl (by decide +kernel)) ggX6_text_X6_needs
set_option maxRecDepth 20000 in
theorem ggX6_text_X6_keepDraft : GoodIn wsX6_text wsX6_keepDraft := goodIn_ca (goodIn_r _ [80, 81, 16, 5, 82, 6, 83, 8, 84, 85] rfl (by decide +kernel)) gt_wsX6_text_wsX60
set_option maxRecDepth 20000 in
theorem gX6_text_X6_keepDraft : GoodIn wsX6_text (wsV RX6 47 RX6 yX6_keepDraft wsX6_keepDraft) := goodIn_app (goodIn_r _ [77, 78, 79, 14] rfl (by decide +kernel)) ggX6_text_X6_keepDraft
theorem dX6_text_0_t : dqK cX6_text.data.toList 0 [(0, .iconst 0, 1), (1, .istore_n 1, 1), (2, .aload_n 0, 1), (3, .iconst 0, 1), (4, .putfield 90, 3), (7, .aload_n 0, 1), (8, .iconst 0, 1), (9, .putfield 99, 3), (12, .aload_n 0, 1), (13, .invokevirtual 44, 3), (16, .aload_n 0, 1), (17, .invokevirtual 132, 3), (20, .aload_n 0, 1), (21, .getfield 90, 3), (24, .ifCond .ne 20, 3), (27, .aload_n 0, 1), (28, .getfield 110, 3), (31, .ifCond .eq 13, 3), (34, .aload_n 0, 1), (35, .invokevirtual 155, 3), (38, .iinc 1 1, 3), (41, .goto (-21), 3), (44, .aload_n 0, 1), (45, .getfield 90, 3), (48, .ifCond .ne 41, 3), (51, .aload_n 0, 1), (52, .aload_n 0, 1), (53, .getfield 66, 3), (56, .aload_n 0, 1), (57, .getfield 50, 3), (60, .aload_n 0, 1), (61, .getfield 54, 3), (64, .imul, 1), (65, .if_icmp .ge 18, 3), (68, .aload_n 0, 1), (69, .getfield 69, 3), (72, .aload_n 0, 1), (73, .getfield 57, 3), (76, .if_icmp .gt 7, 3), (79, .iconst 1, 1)] = true := by decide +kernel
theorem dX6_text_0 : decode cX6_text 0 = .ok (.iconst 0, 1) := dq_get dX6_text_0_t 0 rfl
theorem dX6_text_1 : decode cX6_text 1 = .ok (.istore_n 1, 1) := dq_get dX6_text_0_t 1 rfl
theorem dX6_text_2 : decode cX6_text 2 = .ok (.aload_n 0, 1) := dq_get dX6_text_0_t 2 rfl
theorem dX6_text_3 : decode cX6_text 3 = .ok (.iconst 0, 1) := dq_get dX6_text_0_t 3 rfl
theorem dX6_text_4 : decode cX6_text 4 = .ok (.putfield 90, 3) := dq_get dX6_text_0_t 4 rfl
theorem dX6_text_7 : decode cX6_text 7 = .ok (.aload_n 0, 1) := dq_get dX6_text_0_t 5 rfl
theorem dX6_text_8 : decode cX6_text 8 = .ok (.iconst 0, 1) := dq_get dX6_text_0_t 6 rfl
theorem dX6_text_9 : decode cX6_text 9 = .ok (.putfield 99, 3) := dq_get dX6_text_0_t 7 rfl
theorem dX6_text_12 : decode cX6_text 12 = .ok (.aload_n 0, 1) := dq_get dX6_text_0_t 8 rfl
theorem dX6_text_13 : decode cX6_text 13 = .ok (.invokevirtual 44, 3) := dq_get dX6_text_0_t 9 rfl
theorem dX6_text_16 : decode cX6_text 16 = .ok (.aload_n 0, 1) := dq_get dX6_text_0_t 10 rfl
theorem dX6_text_17 : decode cX6_text 17 = .ok (.invokevirtual 132, 3) := dq_get dX6_text_0_t 11 rfl
theorem dX6_text_20 : decode cX6_text 20 = .ok (.aload_n 0, 1) := dq_get dX6_text_0_t 12 rfl
theorem dX6_text_21 : decode cX6_text 21 = .ok (.getfield 90, 3) := dq_get dX6_text_0_t 13 rfl
theorem dX6_text_24 : decode cX6_text 24 = .ok (.ifCond .ne 20, 3) := dq_get dX6_text_0_t 14 rfl
theorem dX6_text_27 : decode cX6_text 27 = .ok (.aload_n 0, 1) := dq_get dX6_text_0_t 15 rfl
theorem dX6_text_28 : decode cX6_text 28 = .ok (.getfield 110, 3) := dq_get dX6_text_0_t 16 rfl
theorem dX6_text_31 : decode cX6_text 31 = .ok (.ifCond .eq 13, 3) := dq_get dX6_text_0_t 17 rfl
theorem dX6_text_34 : decode cX6_text 34 = .ok (.aload_n 0, 1) := dq_get dX6_text_0_t 18 rfl
theorem dX6_text_35 : decode cX6_text 35 = .ok (.invokevirtual 155, 3) := dq_get dX6_text_0_t 19 rfl
theorem dX6_text_38 : decode cX6_text 38 = .ok (.iinc 1 1, 3) := dq_get dX6_text_0_t 20 rfl
theorem dX6_text_41 : decode cX6_text 41 = .ok (.goto (-21), 3) := dq_get dX6_text_0_t 21 rfl
theorem dX6_text_44 : decode cX6_text 44 = .ok (.aload_n 0, 1) := dq_get dX6_text_0_t 22 rfl
theorem dX6_text_45 : decode cX6_text 45 = .ok (.getfield 90, 3) := dq_get dX6_text_0_t 23 rfl
theorem dX6_text_48 : decode cX6_text 48 = .ok (.ifCond .ne 41, 3) := dq_get dX6_text_0_t 24 rfl
theorem dX6_text_51 : decode cX6_text 51 = .ok (.aload_n 0, 1) := dq_get dX6_text_0_t 25 rfl
theorem dX6_text_52 : decode cX6_text 52 = .ok (.aload_n 0, 1) := dq_get dX6_text_0_t 26 rfl
theorem dX6_text_53 : decode cX6_text 53 = .ok (.getfield 66, 3) := dq_get dX6_text_0_t 27 rfl
theorem dX6_text_56 : decode cX6_text 56 = .ok (.aload_n 0, 1) := dq_get dX6_text_0_t 28 rfl
theorem dX6_text_57 : decode cX6_text 57 = .ok (.getfield 50, 3) := dq_get dX6_text_0_t 29 rfl
theorem dX6_text_60 : decode cX6_text 60 = .ok (.aload_n 0, 1) := dq_get dX6_text_0_t 30 rfl
theorem dX6_text_61 : decode cX6_text 61 = .ok (.getfield 54, 3) := dq_get dX6_text_0_t 31 rfl
theorem dX6_text_64 : decode cX6_text 64 = .ok (.imul, 1) := dq_get dX6_text_0_t 32 rfl
theorem dX6_text_65 : decode cX6_text 65 = .ok (.if_icmp .ge 18, 3) := dq_get dX6_text_0_t 33 rfl
theorem dX6_text_68 : decode cX6_text 68 = .ok (.aload_n 0, 1) := dq_get dX6_text_0_t 34 rfl
theorem dX6_text_69 : decode cX6_text 69 = .ok (.getfield 69, 3) := dq_get dX6_text_0_t 35 rfl
theorem dX6_text_72 : decode cX6_text 72 = .ok (.aload_n 0, 1) := dq_get dX6_text_0_t 36 rfl
theorem dX6_text_73 : decode cX6_text 73 = .ok (.getfield 57, 3) := dq_get dX6_text_0_t 37 rfl
theorem dX6_text_76 : decode cX6_text 76 = .ok (.if_icmp .gt 7, 3) := dq_get dX6_text_0_t 38 rfl
theorem dX6_text_79 : decode cX6_text 79 = .ok (.iconst 1, 1) := dq_get dX6_text_0_t 39 rfl
theorem dX6_text_80_t : dqK cX6_text.data.toList 0 [(80, .goto 4, 3), (83, .iconst 0, 1), (84, .bipush 6, 2), (86, .invokevirtual 124, 3), (89, .aload_n 0, 1), (90, .iconst 0, 1), (91, .putfield 87, 3), (94, .aload_n 0, 1), (95, .getfield 90, 3), (98, .ifCond .le 11, 3), (101, .bipush (-10), 2), (103, .aload_n 0, 1), (104, .getfield 96, 3), (107, .isub, 1), (108, .ireturn, 1), (109, .aload_n 0, 1), (110, .invokevirtual 47, 3), (113, .iload_n 1, 1), (114, .ireturn, 1)] = true := by decide +kernel
theorem dX6_text_80 : decode cX6_text 80 = .ok (.goto 4, 3) := dq_get dX6_text_80_t 0 rfl
theorem dX6_text_83 : decode cX6_text 83 = .ok (.iconst 0, 1) := dq_get dX6_text_80_t 1 rfl
theorem dX6_text_84 : decode cX6_text 84 = .ok (.bipush 6, 2) := dq_get dX6_text_80_t 2 rfl
theorem dX6_text_86 : decode cX6_text 86 = .ok (.invokevirtual 124, 3) := dq_get dX6_text_80_t 3 rfl
theorem dX6_text_89 : decode cX6_text 89 = .ok (.aload_n 0, 1) := dq_get dX6_text_80_t 4 rfl
theorem dX6_text_90 : decode cX6_text 90 = .ok (.iconst 0, 1) := dq_get dX6_text_80_t 5 rfl
theorem dX6_text_91 : decode cX6_text 91 = .ok (.putfield 87, 3) := dq_get dX6_text_80_t 6 rfl
theorem dX6_text_94 : decode cX6_text 94 = .ok (.aload_n 0, 1) := dq_get dX6_text_80_t 7 rfl
theorem dX6_text_95 : decode cX6_text 95 = .ok (.getfield 90, 3) := dq_get dX6_text_80_t 8 rfl
theorem dX6_text_98 : decode cX6_text 98 = .ok (.ifCond .le 11, 3) := dq_get dX6_text_80_t 9 rfl
theorem dX6_text_101 : decode cX6_text 101 = .ok (.bipush (-10), 2) := dq_get dX6_text_80_t 10 rfl
theorem dX6_text_103 : decode cX6_text 103 = .ok (.aload_n 0, 1) := dq_get dX6_text_80_t 11 rfl
theorem dX6_text_104 : decode cX6_text 104 = .ok (.getfield 96, 3) := dq_get dX6_text_80_t 12 rfl
theorem dX6_text_107 : decode cX6_text 107 = .ok (.isub, 1) := dq_get dX6_text_80_t 13 rfl
theorem dX6_text_108 : decode cX6_text 108 = .ok (.ireturn, 1) := dq_get dX6_text_80_t 14 rfl
theorem dX6_text_109 : decode cX6_text 109 = .ok (.aload_n 0, 1) := dq_get dX6_text_80_t 15 rfl
theorem dX6_text_110 : decode cX6_text 110 = .ok (.invokevirtual 47, 3) := dq_get dX6_text_80_t 16 rfl
theorem dX6_text_113 : decode cX6_text 113 = .ok (.iload_n 1, 1) := dq_get dX6_text_80_t 17 rfl
theorem dX6_text_114 : decode cX6_text 114 = .ok (.ireturn, 1) := dq_get dX6_text_80_t 18 rfl
theorem dX6_fault_0 : decode cX6_fault 0 = .ok (.aload_n 0, 1) := by decide +kernel
theorem dX6_fault_1 : decode cX6_fault 1 = .ok (.getfield 90, 3) := by decide +kernel
theorem dX6_fault_4 : decode cX6_fault 4 = .ok (.ireturn, 1) := by decide +kernel
theorem dX6_cellsNow_0_t : dqK cX6_cellsNow.data.toList 0 [(0, .aload_n 0, 1), (1, .getfield 72, 3), (4, .aload_n 0, 1), (5, .getfield 75, 3), (8, .imul, 1), (9, .ireturn, 1)] = true := by decide +kernel
theorem dX6_cellsNow_0 : decode cX6_cellsNow 0 = .ok (.aload_n 0, 1) := dq_get dX6_cellsNow_0_t 0 rfl
theorem dX6_cellsNow_1 : decode cX6_cellsNow 1 = .ok (.getfield 72, 3) := dq_get dX6_cellsNow_0_t 1 rfl
theorem dX6_cellsNow_4 : decode cX6_cellsNow 4 = .ok (.aload_n 0, 1) := dq_get dX6_cellsNow_0_t 2 rfl
theorem dX6_cellsNow_5 : decode cX6_cellsNow 5 = .ok (.getfield 75, 3) := dq_get dX6_cellsNow_0_t 3 rfl
theorem dX6_cellsNow_8 : decode cX6_cellsNow 8 = .ok (.imul, 1) := dq_get dX6_cellsNow_0_t 4 rfl
theorem dX6_cellsNow_9 : decode cX6_cellsNow 9 = .ok (.ireturn, 1) := dq_get dX6_cellsNow_0_t 5 rfl
theorem gt_wsX6_isCell_wsX60 : GoodIn wsX6_isCell wsX60 := fun w hw => ⟨List.mem_cons_of_mem _ (List.mem_append_right _ hw), good_of_word (List.all_eq_true.mp gw_wsX60 w hw)⟩
set_option maxRecDepth 20000 in
theorem ggX6_isCell_X6_cellsNow : GoodIn wsX6_isCell wsX6_cellsNow := goodIn_ca (goodIn_r _ [5, 6, 7] rfl (by decide +kernel)) gt_wsX6_isCell_wsX60
set_option maxRecDepth 20000 in
theorem gX6_isCell_X6_cellsNow : GoodIn wsX6_isCell (wsV RX6 158 RX6 yX6_cellsNow wsX6_cellsNow) := goodIn_app (goodIn_r _ [1, 2, 3, 4] rfl (by decide +kernel)) ggX6_isCell_X6_cellsNow
set_option maxRecDepth 20000 in
theorem ggX6_isCell_X6_in : GoodIn wsX6_isCell wsX6_in := goodIn_r _ [10] rfl (by decide +kernel)
set_option maxRecDepth 20000 in
theorem gX6_isCell_X6_in : GoodIn wsX6_isCell (va_wsS RX6 83 yX6_in wsX6_in) := goodIn_app (goodIn_r _ [8, 9, 4] rfl (by decide +kernel)) ggX6_isCell_X6_in
theorem dX6_isCell_0_t : dqK cX6_isCell.data.toList 0 [(0, .iload_n 1, 1), (1, .i2l, 1), (2, .lconst 0, 1), (3, .aload_n 0, 1), (4, .invokevirtual 158, 3), (7, .iconst 1, 1), (8, .isub, 1), (9, .i2l, 1), (10, .invokestatic 83, 3), (13, .ireturn, 1)] = true := by decide +kernel
theorem dX6_isCell_0 : decode cX6_isCell 0 = .ok (.iload_n 1, 1) := dq_get dX6_isCell_0_t 0 rfl
theorem dX6_isCell_1 : decode cX6_isCell 1 = .ok (.i2l, 1) := dq_get dX6_isCell_0_t 1 rfl
theorem dX6_isCell_2 : decode cX6_isCell 2 = .ok (.lconst 0, 1) := dq_get dX6_isCell_0_t 2 rfl
theorem dX6_isCell_3 : decode cX6_isCell 3 = .ok (.aload_n 0, 1) := dq_get dX6_isCell_0_t 3 rfl
theorem dX6_isCell_4 : decode cX6_isCell 4 = .ok (.invokevirtual 158, 3) := dq_get dX6_isCell_0_t 4 rfl
theorem dX6_isCell_7 : decode cX6_isCell 7 = .ok (.iconst 1, 1) := dq_get dX6_isCell_0_t 5 rfl
theorem dX6_isCell_8 : decode cX6_isCell 8 = .ok (.isub, 1) := dq_get dX6_isCell_0_t 6 rfl
theorem dX6_isCell_9 : decode cX6_isCell 9 = .ok (.i2l, 1) := dq_get dX6_isCell_0_t 7 rfl
theorem dX6_isCell_10 : decode cX6_isCell 10 = .ok (.invokestatic 83, 3) := dq_get dX6_isCell_0_t 8 rfl
theorem dX6_isCell_13 : decode cX6_isCell 13 = .ok (.ireturn, 1) := dq_get dX6_isCell_0_t 9 rfl
set_option maxRecDepth 20000 in
theorem ggX6_isDay_X6_in : GoodIn wsX6_isDay wsX6_in := goodIn_r _ [5] rfl (by decide +kernel)
set_option maxRecDepth 20000 in
theorem gX6_isDay_X6_in : GoodIn wsX6_isDay (va_wsS RX6 83 yX6_in wsX6_in) := goodIn_app (goodIn_r _ [2, 3, 4] rfl (by decide +kernel)) ggX6_isDay_X6_in
theorem dX6_isDay_0_t : dqK cX6_isDay.data.toList 0 [(0, .iload_n 1, 1), (1, .i2l, 1), (2, .lconst 0, 1), (3, .aload_n 0, 1), (4, .getfield 78, 3), (7, .i2l, 1), (8, .invokestatic 83, 3), (11, .ireturn, 1)] = true := by decide +kernel
theorem dX6_isDay_0 : decode cX6_isDay 0 = .ok (.iload_n 1, 1) := dq_get dX6_isDay_0_t 0 rfl
theorem dX6_isDay_1 : decode cX6_isDay 1 = .ok (.i2l, 1) := dq_get dX6_isDay_0_t 1 rfl
theorem dX6_isDay_2 : decode cX6_isDay 2 = .ok (.lconst 0, 1) := dq_get dX6_isDay_0_t 2 rfl
theorem dX6_isDay_3 : decode cX6_isDay 3 = .ok (.aload_n 0, 1) := dq_get dX6_isDay_0_t 3 rfl
theorem dX6_isDay_4 : decode cX6_isDay 4 = .ok (.getfield 78, 3) := dq_get dX6_isDay_0_t 4 rfl
theorem dX6_isDay_7 : decode cX6_isDay 7 = .ok (.i2l, 1) := dq_get dX6_isDay_0_t 5 rfl
theorem dX6_isDay_8 : decode cX6_isDay 8 = .ok (.invokestatic 83, 3) := dq_get dX6_isDay_0_t 6 rfl
theorem dX6_isDay_11 : decode cX6_isDay 11 = .ok (.ireturn, 1) := dq_get dX6_isDay_0_t 7 rfl
set_option maxRecDepth 20000 in
theorem ggX6_isMark_X6_in : GoodIn wsX6_isMark wsX6_in := goodIn_r _ [5] rfl (by decide +kernel)
set_option maxRecDepth 20000 in
theorem gX6_isMark_X6_in : GoodIn wsX6_isMark (va_wsS RX6 83 yX6_in wsX6_in) := goodIn_app (goodIn_r _ [2, 3, 4] rfl (by decide +kernel)) ggX6_isMark_X6_in
theorem dX6_isMark_0_t : dqK cX6_isMark.data.toList 0 [(0, .iload_n 0, 1), (1, .i2l, 1), (2, .lconst 0, 1), (3, .ldc2_w 161, 3), (6, .invokestatic 83, 3), (9, .ireturn, 1)] = true := by decide +kernel
theorem dX6_isMark_0 : decode cX6_isMark 0 = .ok (.iload_n 0, 1) := dq_get dX6_isMark_0_t 0 rfl
theorem dX6_isMark_1 : decode cX6_isMark 1 = .ok (.i2l, 1) := dq_get dX6_isMark_0_t 1 rfl
theorem dX6_isMark_2 : decode cX6_isMark 2 = .ok (.lconst 0, 1) := dq_get dX6_isMark_0_t 2 rfl
theorem dX6_isMark_3 : decode cX6_isMark 3 = .ok (.ldc2_w 161, 3) := dq_get dX6_isMark_0_t 3 rfl
theorem dX6_isMark_6 : decode cX6_isMark 6 = .ok (.invokestatic 83, 3) := dq_get dX6_isMark_0_t 4 rfl
theorem dX6_isMark_9 : decode cX6_isMark 9 = .ok (.ireturn, 1) := dq_get dX6_isMark_0_t 5 rfl
set_option maxRecDepth 20000 in
theorem ggX6_isLens_X6_in : GoodIn wsX6_isLens wsX6_in := goodIn_r _ [5] rfl (by decide +kernel)
set_option maxRecDepth 20000 in
theorem gX6_isLens_X6_in : GoodIn wsX6_isLens (va_wsS RX6 83 yX6_in wsX6_in) := goodIn_app (goodIn_r _ [2, 3, 4] rfl (by decide +kernel)) ggX6_isLens_X6_in
theorem dX6_isLens_0_t : dqK cX6_isLens.data.toList 0 [(0, .iload_n 1, 1), (1, .i2l, 1), (2, .lconst 0, 1), (3, .aload_n 0, 1), (4, .getfield 7, 3), (7, .bipush 47, 2), (9, .iaload, 1), (10, .iconst 1, 1), (11, .isub, 1), (12, .i2l, 1), (13, .invokestatic 83, 3), (16, .ireturn, 1)] = true := by decide +kernel
theorem dX6_isLens_0 : decode cX6_isLens 0 = .ok (.iload_n 1, 1) := dq_get dX6_isLens_0_t 0 rfl
theorem dX6_isLens_1 : decode cX6_isLens 1 = .ok (.i2l, 1) := dq_get dX6_isLens_0_t 1 rfl
theorem dX6_isLens_2 : decode cX6_isLens 2 = .ok (.lconst 0, 1) := dq_get dX6_isLens_0_t 2 rfl
theorem dX6_isLens_3 : decode cX6_isLens 3 = .ok (.aload_n 0, 1) := dq_get dX6_isLens_0_t 3 rfl
theorem dX6_isLens_4 : decode cX6_isLens 4 = .ok (.getfield 7, 3) := dq_get dX6_isLens_0_t 4 rfl
theorem dX6_isLens_7 : decode cX6_isLens 7 = .ok (.bipush 47, 2) := dq_get dX6_isLens_0_t 5 rfl
theorem dX6_isLens_9 : decode cX6_isLens 9 = .ok (.iaload, 1) := dq_get dX6_isLens_0_t 6 rfl
theorem dX6_isLens_10 : decode cX6_isLens 10 = .ok (.iconst 1, 1) := dq_get dX6_isLens_0_t 7 rfl
theorem dX6_isLens_11 : decode cX6_isLens 11 = .ok (.isub, 1) := dq_get dX6_isLens_0_t 8 rfl
theorem dX6_isLens_12 : decode cX6_isLens 12 = .ok (.i2l, 1) := dq_get dX6_isLens_0_t 9 rfl
theorem dX6_isLens_13 : decode cX6_isLens 13 = .ok (.invokestatic 83, 3) := dq_get dX6_isLens_0_t 10 rfl
theorem dX6_isLens_16 : decode cX6_isLens 16 = .ok (.ireturn, 1) := dq_get dX6_isLens_0_t 11 rfl
set_option maxRecDepth 20000 in
theorem ggX6_isPart_X6_in : GoodIn wsX6_isPart wsX6_in := goodIn_r _ [4] rfl (by decide +kernel)
set_option maxRecDepth 20000 in
theorem gX6_isPart_X6_in : GoodIn wsX6_isPart (va_wsS RX6 83 yX6_in wsX6_in) := goodIn_app (goodIn_r _ [1, 2, 3] rfl (by decide +kernel)) ggX6_isPart_X6_in
theorem dX6_isPart_0_t : dqK cX6_isPart.data.toList 0 [(0, .iload_n 0, 1), (1, .i2l, 1), (2, .lconst 0, 1), (3, .lconst 1, 1), (4, .invokestatic 83, 3), (7, .ireturn, 1)] = true := by decide +kernel
theorem dX6_isPart_0 : decode cX6_isPart 0 = .ok (.iload_n 0, 1) := dq_get dX6_isPart_0_t 0 rfl
theorem dX6_isPart_1 : decode cX6_isPart 1 = .ok (.i2l, 1) := dq_get dX6_isPart_0_t 1 rfl
theorem dX6_isPart_2 : decode cX6_isPart 2 = .ok (.lconst 0, 1) := dq_get dX6_isPart_0_t 2 rfl
theorem dX6_isPart_3 : decode cX6_isPart 3 = .ok (.lconst 1, 1) := dq_get dX6_isPart_0_t 3 rfl
theorem dX6_isPart_4 : decode cX6_isPart 4 = .ok (.invokestatic 83, 3) := dq_get dX6_isPart_0_t 4 rfl
theorem dX6_isPart_7 : decode cX6_isPart 7 = .ok (.ireturn, 1) := dq_get dX6_isPart_0_t 5 rfl
theorem dX6_bitsOf_0_t : dqK cX6_bitsOf.data.toList 0 [(0, .iconst 0, 1), (1, .istore_n 1, 1), (2, .iconst 0, 1), (3, .istore_n 2, 1), (4, .iload_n 2, 1), (5, .bipush 16, 2), (7, .if_icmp .ge 17, 3), (10, .iload_n 1, 1), (11, .iload_n 0, 1), (12, .iload_n 2, 1), (13, .ishr, 1), (14, .iconst 1, 1), (15, .iand, 1), (16, .iadd, 1), (17, .istore_n 1, 1), (18, .iinc 2 1, 3), (21, .goto (-17), 3), (24, .iload_n 1, 1), (25, .ireturn, 1)] = true := by decide +kernel
theorem dX6_bitsOf_0 : decode cX6_bitsOf 0 = .ok (.iconst 0, 1) := dq_get dX6_bitsOf_0_t 0 rfl
theorem dX6_bitsOf_1 : decode cX6_bitsOf 1 = .ok (.istore_n 1, 1) := dq_get dX6_bitsOf_0_t 1 rfl
theorem dX6_bitsOf_2 : decode cX6_bitsOf 2 = .ok (.iconst 0, 1) := dq_get dX6_bitsOf_0_t 2 rfl
theorem dX6_bitsOf_3 : decode cX6_bitsOf 3 = .ok (.istore_n 2, 1) := dq_get dX6_bitsOf_0_t 3 rfl
theorem dX6_bitsOf_4 : decode cX6_bitsOf 4 = .ok (.iload_n 2, 1) := dq_get dX6_bitsOf_0_t 4 rfl
theorem dX6_bitsOf_5 : decode cX6_bitsOf 5 = .ok (.bipush 16, 2) := dq_get dX6_bitsOf_0_t 5 rfl
theorem dX6_bitsOf_7 : decode cX6_bitsOf 7 = .ok (.if_icmp .ge 17, 3) := dq_get dX6_bitsOf_0_t 6 rfl
theorem dX6_bitsOf_10 : decode cX6_bitsOf 10 = .ok (.iload_n 1, 1) := dq_get dX6_bitsOf_0_t 7 rfl
theorem dX6_bitsOf_11 : decode cX6_bitsOf 11 = .ok (.iload_n 0, 1) := dq_get dX6_bitsOf_0_t 8 rfl
theorem dX6_bitsOf_12 : decode cX6_bitsOf 12 = .ok (.iload_n 2, 1) := dq_get dX6_bitsOf_0_t 9 rfl
theorem dX6_bitsOf_13 : decode cX6_bitsOf 13 = .ok (.ishr, 1) := dq_get dX6_bitsOf_0_t 10 rfl
theorem dX6_bitsOf_14 : decode cX6_bitsOf 14 = .ok (.iconst 1, 1) := dq_get dX6_bitsOf_0_t 11 rfl
theorem dX6_bitsOf_15 : decode cX6_bitsOf 15 = .ok (.iand, 1) := dq_get dX6_bitsOf_0_t 12 rfl
theorem dX6_bitsOf_16 : decode cX6_bitsOf 16 = .ok (.iadd, 1) := dq_get dX6_bitsOf_0_t 13 rfl
theorem dX6_bitsOf_17 : decode cX6_bitsOf 17 = .ok (.istore_n 1, 1) := dq_get dX6_bitsOf_0_t 14 rfl
theorem dX6_bitsOf_18 : decode cX6_bitsOf 18 = .ok (.iinc 2 1, 3) := dq_get dX6_bitsOf_0_t 15 rfl
theorem dX6_bitsOf_21 : decode cX6_bitsOf 21 = .ok (.goto (-17), 3) := dq_get dX6_bitsOf_0_t 16 rfl
theorem dX6_bitsOf_24 : decode cX6_bitsOf 24 = .ok (.iload_n 1, 1) := dq_get dX6_bitsOf_0_t 17 rfl
theorem dX6_bitsOf_25 : decode cX6_bitsOf 25 = .ok (.ireturn, 1) := dq_get dX6_bitsOf_0_t 18 rfl
theorem dX6_markOf_0_t : dqK cX6_markOf.data.toList 0 [(0, .aload_n 0, 1), (1, .getfield 7, 3), (4, .iconst 0, 1), (5, .iload_n 1, 1), (6, .iadd, 1), (7, .iaload, 1), (8, .istore_n 3, 1), (9, .bipush (-4), 2), (11, .istore 4, 2), (13, .iconst 0, 1), (14, .istore 5, 2), (16, .iload 5, 2), (18, .aload_n 0, 1), (19, .getfield 7, 3), (22, .bipush 16, 2), (24, .iaload, 1), (25, .if_icmp .ge 99, 3), (28, .bipush 17, 2), (30, .iconst 3, 1), (31, .iload 5, 2), (33, .imul, 1), (34, .iadd, 1), (35, .istore 6, 2), (37, .aload_n 0, 1), (38, .getfield 7, 3), (41, .iload 6, 2), (43, .iconst 1, 1), (44, .iadd, 1), (45, .iaload, 1), (46, .iload_n 1, 1), (47, .if_icmp .ne 30, 3), (50, .aload_n 0, 1), (51, .getfield 7, 3), (54, .iload 6, 2), (56, .iaload, 1), (57, .iload_n 2, 1), (58, .if_icmp .gt 19, 3), (61, .aload_n 0, 1), (62, .getfield 7, 3), (65, .iload 6, 2)] = true := by decide +kernel
theorem dX6_markOf_0 : decode cX6_markOf 0 = .ok (.aload_n 0, 1) := dq_get dX6_markOf_0_t 0 rfl
theorem dX6_markOf_1 : decode cX6_markOf 1 = .ok (.getfield 7, 3) := dq_get dX6_markOf_0_t 1 rfl
theorem dX6_markOf_4 : decode cX6_markOf 4 = .ok (.iconst 0, 1) := dq_get dX6_markOf_0_t 2 rfl
theorem dX6_markOf_5 : decode cX6_markOf 5 = .ok (.iload_n 1, 1) := dq_get dX6_markOf_0_t 3 rfl
theorem dX6_markOf_6 : decode cX6_markOf 6 = .ok (.iadd, 1) := dq_get dX6_markOf_0_t 4 rfl
theorem dX6_markOf_7 : decode cX6_markOf 7 = .ok (.iaload, 1) := dq_get dX6_markOf_0_t 5 rfl
theorem dX6_markOf_8 : decode cX6_markOf 8 = .ok (.istore_n 3, 1) := dq_get dX6_markOf_0_t 6 rfl
theorem dX6_markOf_9 : decode cX6_markOf 9 = .ok (.bipush (-4), 2) := dq_get dX6_markOf_0_t 7 rfl
theorem dX6_markOf_11 : decode cX6_markOf 11 = .ok (.istore 4, 2) := dq_get dX6_markOf_0_t 8 rfl
theorem dX6_markOf_13 : decode cX6_markOf 13 = .ok (.iconst 0, 1) := dq_get dX6_markOf_0_t 9 rfl
theorem dX6_markOf_14 : decode cX6_markOf 14 = .ok (.istore 5, 2) := dq_get dX6_markOf_0_t 10 rfl
theorem dX6_markOf_16 : decode cX6_markOf 16 = .ok (.iload 5, 2) := dq_get dX6_markOf_0_t 11 rfl
theorem dX6_markOf_18 : decode cX6_markOf 18 = .ok (.aload_n 0, 1) := dq_get dX6_markOf_0_t 12 rfl
theorem dX6_markOf_19 : decode cX6_markOf 19 = .ok (.getfield 7, 3) := dq_get dX6_markOf_0_t 13 rfl
theorem dX6_markOf_22 : decode cX6_markOf 22 = .ok (.bipush 16, 2) := dq_get dX6_markOf_0_t 14 rfl
theorem dX6_markOf_24 : decode cX6_markOf 24 = .ok (.iaload, 1) := dq_get dX6_markOf_0_t 15 rfl
theorem dX6_markOf_25 : decode cX6_markOf 25 = .ok (.if_icmp .ge 99, 3) := dq_get dX6_markOf_0_t 16 rfl
theorem dX6_markOf_28 : decode cX6_markOf 28 = .ok (.bipush 17, 2) := dq_get dX6_markOf_0_t 17 rfl
theorem dX6_markOf_30 : decode cX6_markOf 30 = .ok (.iconst 3, 1) := dq_get dX6_markOf_0_t 18 rfl
theorem dX6_markOf_31 : decode cX6_markOf 31 = .ok (.iload 5, 2) := dq_get dX6_markOf_0_t 19 rfl
theorem dX6_markOf_33 : decode cX6_markOf 33 = .ok (.imul, 1) := dq_get dX6_markOf_0_t 20 rfl
theorem dX6_markOf_34 : decode cX6_markOf 34 = .ok (.iadd, 1) := dq_get dX6_markOf_0_t 21 rfl
theorem dX6_markOf_35 : decode cX6_markOf 35 = .ok (.istore 6, 2) := dq_get dX6_markOf_0_t 22 rfl
theorem dX6_markOf_37 : decode cX6_markOf 37 = .ok (.aload_n 0, 1) := dq_get dX6_markOf_0_t 23 rfl
theorem dX6_markOf_38 : decode cX6_markOf 38 = .ok (.getfield 7, 3) := dq_get dX6_markOf_0_t 24 rfl
theorem dX6_markOf_41 : decode cX6_markOf 41 = .ok (.iload 6, 2) := dq_get dX6_markOf_0_t 25 rfl
theorem dX6_markOf_43 : decode cX6_markOf 43 = .ok (.iconst 1, 1) := dq_get dX6_markOf_0_t 26 rfl
theorem dX6_markOf_44 : decode cX6_markOf 44 = .ok (.iadd, 1) := dq_get dX6_markOf_0_t 27 rfl
theorem dX6_markOf_45 : decode cX6_markOf 45 = .ok (.iaload, 1) := dq_get dX6_markOf_0_t 28 rfl
theorem dX6_markOf_46 : decode cX6_markOf 46 = .ok (.iload_n 1, 1) := dq_get dX6_markOf_0_t 29 rfl
theorem dX6_markOf_47 : decode cX6_markOf 47 = .ok (.if_icmp .ne 30, 3) := dq_get dX6_markOf_0_t 30 rfl
theorem dX6_markOf_50 : decode cX6_markOf 50 = .ok (.aload_n 0, 1) := dq_get dX6_markOf_0_t 31 rfl
theorem dX6_markOf_51 : decode cX6_markOf 51 = .ok (.getfield 7, 3) := dq_get dX6_markOf_0_t 32 rfl
theorem dX6_markOf_54 : decode cX6_markOf 54 = .ok (.iload 6, 2) := dq_get dX6_markOf_0_t 33 rfl
theorem dX6_markOf_56 : decode cX6_markOf 56 = .ok (.iaload, 1) := dq_get dX6_markOf_0_t 34 rfl
theorem dX6_markOf_57 : decode cX6_markOf 57 = .ok (.iload_n 2, 1) := dq_get dX6_markOf_0_t 35 rfl
theorem dX6_markOf_58 : decode cX6_markOf 58 = .ok (.if_icmp .gt 19, 3) := dq_get dX6_markOf_0_t 36 rfl
theorem dX6_markOf_61 : decode cX6_markOf 61 = .ok (.aload_n 0, 1) := dq_get dX6_markOf_0_t 37 rfl
theorem dX6_markOf_62 : decode cX6_markOf 62 = .ok (.getfield 7, 3) := dq_get dX6_markOf_0_t 38 rfl
theorem dX6_markOf_65 : decode cX6_markOf 65 = .ok (.iload 6, 2) := dq_get dX6_markOf_0_t 39 rfl
theorem dX6_markOf_67_t : dqK cX6_markOf.data.toList 0 [(67, .iaload, 1), (68, .iload 4, 2), (70, .if_icmp .lt 7, 3), (73, .iconst 1, 1), (74, .goto 4, 3), (77, .iconst 0, 1), (78, .istore 7, 2), (80, .iload 7, 2), (82, .ifCond .eq 15, 3), (85, .aload_n 0, 1), (86, .getfield 7, 3), (89, .iload 6, 2), (91, .iconst 2, 1), (92, .iadd, 1), (93, .iaload, 1), (94, .goto 4, 3), (97, .iload_n 3, 1), (98, .istore_n 3, 1), (99, .iload 7, 2), (101, .ifCond .eq 13, 3), (104, .aload_n 0, 1), (105, .getfield 7, 3), (108, .iload 6, 2), (110, .iaload, 1), (111, .goto 5, 3), (114, .iload 4, 2), (116, .istore 4, 2), (118, .iinc 5 1, 3), (121, .goto (-105), 3), (124, .iload_n 3, 1), (125, .ireturn, 1)] = true := by decide +kernel
theorem dX6_markOf_67 : decode cX6_markOf 67 = .ok (.iaload, 1) := dq_get dX6_markOf_67_t 0 rfl
theorem dX6_markOf_68 : decode cX6_markOf 68 = .ok (.iload 4, 2) := dq_get dX6_markOf_67_t 1 rfl
theorem dX6_markOf_70 : decode cX6_markOf 70 = .ok (.if_icmp .lt 7, 3) := dq_get dX6_markOf_67_t 2 rfl
theorem dX6_markOf_73 : decode cX6_markOf 73 = .ok (.iconst 1, 1) := dq_get dX6_markOf_67_t 3 rfl
theorem dX6_markOf_74 : decode cX6_markOf 74 = .ok (.goto 4, 3) := dq_get dX6_markOf_67_t 4 rfl
theorem dX6_markOf_77 : decode cX6_markOf 77 = .ok (.iconst 0, 1) := dq_get dX6_markOf_67_t 5 rfl
theorem dX6_markOf_78 : decode cX6_markOf 78 = .ok (.istore 7, 2) := dq_get dX6_markOf_67_t 6 rfl
theorem dX6_markOf_80 : decode cX6_markOf 80 = .ok (.iload 7, 2) := dq_get dX6_markOf_67_t 7 rfl
theorem dX6_markOf_82 : decode cX6_markOf 82 = .ok (.ifCond .eq 15, 3) := dq_get dX6_markOf_67_t 8 rfl
theorem dX6_markOf_85 : decode cX6_markOf 85 = .ok (.aload_n 0, 1) := dq_get dX6_markOf_67_t 9 rfl
theorem dX6_markOf_86 : decode cX6_markOf 86 = .ok (.getfield 7, 3) := dq_get dX6_markOf_67_t 10 rfl
theorem dX6_markOf_89 : decode cX6_markOf 89 = .ok (.iload 6, 2) := dq_get dX6_markOf_67_t 11 rfl
theorem dX6_markOf_91 : decode cX6_markOf 91 = .ok (.iconst 2, 1) := dq_get dX6_markOf_67_t 12 rfl
theorem dX6_markOf_92 : decode cX6_markOf 92 = .ok (.iadd, 1) := dq_get dX6_markOf_67_t 13 rfl
theorem dX6_markOf_93 : decode cX6_markOf 93 = .ok (.iaload, 1) := dq_get dX6_markOf_67_t 14 rfl
theorem dX6_markOf_94 : decode cX6_markOf 94 = .ok (.goto 4, 3) := dq_get dX6_markOf_67_t 15 rfl
theorem dX6_markOf_97 : decode cX6_markOf 97 = .ok (.iload_n 3, 1) := dq_get dX6_markOf_67_t 16 rfl
theorem dX6_markOf_98 : decode cX6_markOf 98 = .ok (.istore_n 3, 1) := dq_get dX6_markOf_67_t 17 rfl
theorem dX6_markOf_99 : decode cX6_markOf 99 = .ok (.iload 7, 2) := dq_get dX6_markOf_67_t 18 rfl
theorem dX6_markOf_101 : decode cX6_markOf 101 = .ok (.ifCond .eq 13, 3) := dq_get dX6_markOf_67_t 19 rfl
theorem dX6_markOf_104 : decode cX6_markOf 104 = .ok (.aload_n 0, 1) := dq_get dX6_markOf_67_t 20 rfl
theorem dX6_markOf_105 : decode cX6_markOf 105 = .ok (.getfield 7, 3) := dq_get dX6_markOf_67_t 21 rfl
theorem dX6_markOf_108 : decode cX6_markOf 108 = .ok (.iload 6, 2) := dq_get dX6_markOf_67_t 22 rfl
theorem dX6_markOf_110 : decode cX6_markOf 110 = .ok (.iaload, 1) := dq_get dX6_markOf_67_t 23 rfl
theorem dX6_markOf_111 : decode cX6_markOf 111 = .ok (.goto 5, 3) := dq_get dX6_markOf_67_t 24 rfl
theorem dX6_markOf_114 : decode cX6_markOf 114 = .ok (.iload 4, 2) := dq_get dX6_markOf_67_t 25 rfl
theorem dX6_markOf_116 : decode cX6_markOf 116 = .ok (.istore 4, 2) := dq_get dX6_markOf_67_t 26 rfl
theorem dX6_markOf_118 : decode cX6_markOf 118 = .ok (.iinc 5 1, 3) := dq_get dX6_markOf_67_t 27 rfl
theorem dX6_markOf_121 : decode cX6_markOf 121 = .ok (.goto (-105), 3) := dq_get dX6_markOf_67_t 28 rfl
theorem dX6_markOf_124 : decode cX6_markOf 124 = .ok (.iload_n 3, 1) := dq_get dX6_markOf_67_t 29 rfl
theorem dX6_markOf_125 : decode cX6_markOf 125 = .ok (.ireturn, 1) := dq_get dX6_markOf_67_t 30 rfl
theorem gt_wsX6_shiftTo_wsX60 : GoodIn wsX6_shiftTo wsX60 := fun w hw => ⟨List.mem_cons_of_mem _ (List.mem_append_right _ hw), good_of_word (List.all_eq_true.mp gw_wsX60 w hw)⟩
set_option maxRecDepth 20000 in
theorem ggX6_shiftTo_X6_markOf : GoodIn wsX6_shiftTo wsX6_markOf := goodIn_ca (goodIn_r _ [6, 7] rfl (by decide +kernel)) gt_wsX6_shiftTo_wsX60
set_option maxRecDepth 20000 in
theorem gX6_shiftTo_X6_markOf : GoodIn wsX6_shiftTo (wsV RX6 163 RX6 yX6_markOf wsX6_markOf) := goodIn_app (goodIn_r _ [2, 3, 4, 5] rfl (by decide +kernel)) ggX6_shiftTo_X6_markOf
theorem dX6_shiftTo_0_t : dqK cX6_shiftTo.data.toList 0 [(0, .iconst 0, 1), (1, .istore_n 2, 1), (2, .iload_n 2, 1), (3, .bipush 16, 2), (5, .if_icmp .ge 21, 3), (8, .aload_n 0, 1), (9, .getfield 23, 3), (12, .iload_n 2, 1), (13, .aload_n 0, 1), (14, .iload_n 2, 1), (15, .iload_n 1, 1), (16, .invokevirtual 163, 3), (19, .iastore, 1), (20, .iinc 2 1, 3), (23, .goto (-21), 3), (26, .return_, 1)] = true := by decide +kernel
theorem dX6_shiftTo_0 : decode cX6_shiftTo 0 = .ok (.iconst 0, 1) := dq_get dX6_shiftTo_0_t 0 rfl
theorem dX6_shiftTo_1 : decode cX6_shiftTo 1 = .ok (.istore_n 2, 1) := dq_get dX6_shiftTo_0_t 1 rfl
theorem dX6_shiftTo_2 : decode cX6_shiftTo 2 = .ok (.iload_n 2, 1) := dq_get dX6_shiftTo_0_t 2 rfl
theorem dX6_shiftTo_3 : decode cX6_shiftTo 3 = .ok (.bipush 16, 2) := dq_get dX6_shiftTo_0_t 3 rfl
theorem dX6_shiftTo_5 : decode cX6_shiftTo 5 = .ok (.if_icmp .ge 21, 3) := dq_get dX6_shiftTo_0_t 4 rfl
theorem dX6_shiftTo_8 : decode cX6_shiftTo 8 = .ok (.aload_n 0, 1) := dq_get dX6_shiftTo_0_t 5 rfl
theorem dX6_shiftTo_9 : decode cX6_shiftTo 9 = .ok (.getfield 23, 3) := dq_get dX6_shiftTo_0_t 6 rfl
theorem dX6_shiftTo_12 : decode cX6_shiftTo 12 = .ok (.iload_n 2, 1) := dq_get dX6_shiftTo_0_t 7 rfl
theorem dX6_shiftTo_13 : decode cX6_shiftTo 13 = .ok (.aload_n 0, 1) := dq_get dX6_shiftTo_0_t 8 rfl
theorem dX6_shiftTo_14 : decode cX6_shiftTo 14 = .ok (.iload_n 2, 1) := dq_get dX6_shiftTo_0_t 9 rfl
theorem dX6_shiftTo_15 : decode cX6_shiftTo 15 = .ok (.iload_n 1, 1) := dq_get dX6_shiftTo_0_t 10 rfl
theorem dX6_shiftTo_16 : decode cX6_shiftTo 16 = .ok (.invokevirtual 163, 3) := dq_get dX6_shiftTo_0_t 11 rfl
theorem dX6_shiftTo_19 : decode cX6_shiftTo 19 = .ok (.iastore, 1) := dq_get dX6_shiftTo_0_t 12 rfl
theorem dX6_shiftTo_20 : decode cX6_shiftTo 20 = .ok (.iinc 2 1, 3) := dq_get dX6_shiftTo_0_t 13 rfl
theorem dX6_shiftTo_23 : decode cX6_shiftTo 23 = .ok (.goto (-21), 3) := dq_get dX6_shiftTo_0_t 14 rfl
theorem dX6_shiftTo_26 : decode cX6_shiftTo 26 = .ok (.return_, 1) := dq_get dX6_shiftTo_0_t 15 rfl
theorem gt_wsX6_beside_wsX60 : GoodIn wsX6_beside wsX60 := fun w hw => ⟨List.mem_cons_of_mem _ (List.mem_append_right _ hw), good_of_word (List.all_eq_true.mp gw_wsX60 w hw)⟩
set_option maxRecDepth 20000 in
theorem ggX6_beside_X6_cellsNow : GoodIn wsX6_beside wsX6_cellsNow := goodIn_ca (goodIn_r _ [6, 1, 7] rfl (by decide +kernel)) gt_wsX6_beside_wsX60
set_option maxRecDepth 20000 in
theorem gX6_beside_X6_cellsNow : GoodIn wsX6_beside (wsV RX6 158 RX6 yX6_cellsNow wsX6_cellsNow) := goodIn_app (goodIn_r _ [2, 3, 4, 5] rfl (by decide +kernel)) ggX6_beside_X6_cellsNow
theorem dX6_beside_0_t : dqK cX6_beside.data.toList 0 [(0, .iload_n 2, 1), (28, .iload_n 1, 1), (29, .aload_n 0, 1), (30, .getfield 72, 3), (33, .if_icmp .lt 12, 3), (36, .iload_n 1, 1), (37, .aload_n 0, 1), (38, .getfield 72, 3), (41, .isub, 1), (42, .goto 5, 3), (45, .bipush (-4), 2), (47, .ireturn, 1), (48, .iload_n 1, 1), (49, .aload_n 0, 1), (50, .getfield 72, 3), (53, .irem, 1), (54, .iconst 1, 1), (55, .iadd, 1), (56, .aload_n 0, 1), (57, .getfield 72, 3), (60, .if_icmp .ge 9, 3), (63, .iload_n 1, 1), (64, .iconst 1, 1), (65, .iadd, 1), (66, .goto 5, 3), (69, .bipush (-4), 2), (71, .ireturn, 1), (72, .iload_n 1, 1), (73, .aload_n 0, 1), (74, .getfield 72, 3), (77, .iadd, 1), (78, .aload_n 0, 1), (79, .invokevirtual 158, 3), (82, .if_icmp .ge 12, 3), (85, .iload_n 1, 1), (86, .aload_n 0, 1), (87, .getfield 72, 3), (90, .iadd, 1), (91, .goto 5, 3), (94, .bipush (-4), 2)] = true := by decide +kernel
theorem dX6_beside_0 : decode cX6_beside 0 = .ok (.iload_n 2, 1) := dq_get dX6_beside_0_t 0 rfl
theorem dX6_beside_28 : decode cX6_beside 28 = .ok (.iload_n 1, 1) := dq_get dX6_beside_0_t 1 rfl
theorem dX6_beside_29 : decode cX6_beside 29 = .ok (.aload_n 0, 1) := dq_get dX6_beside_0_t 2 rfl
theorem dX6_beside_30 : decode cX6_beside 30 = .ok (.getfield 72, 3) := dq_get dX6_beside_0_t 3 rfl
theorem dX6_beside_33 : decode cX6_beside 33 = .ok (.if_icmp .lt 12, 3) := dq_get dX6_beside_0_t 4 rfl
theorem dX6_beside_36 : decode cX6_beside 36 = .ok (.iload_n 1, 1) := dq_get dX6_beside_0_t 5 rfl
theorem dX6_beside_37 : decode cX6_beside 37 = .ok (.aload_n 0, 1) := dq_get dX6_beside_0_t 6 rfl
theorem dX6_beside_38 : decode cX6_beside 38 = .ok (.getfield 72, 3) := dq_get dX6_beside_0_t 7 rfl
theorem dX6_beside_41 : decode cX6_beside 41 = .ok (.isub, 1) := dq_get dX6_beside_0_t 8 rfl
theorem dX6_beside_42 : decode cX6_beside 42 = .ok (.goto 5, 3) := dq_get dX6_beside_0_t 9 rfl
theorem dX6_beside_45 : decode cX6_beside 45 = .ok (.bipush (-4), 2) := dq_get dX6_beside_0_t 10 rfl
theorem dX6_beside_47 : decode cX6_beside 47 = .ok (.ireturn, 1) := dq_get dX6_beside_0_t 11 rfl
theorem dX6_beside_48 : decode cX6_beside 48 = .ok (.iload_n 1, 1) := dq_get dX6_beside_0_t 12 rfl
theorem dX6_beside_49 : decode cX6_beside 49 = .ok (.aload_n 0, 1) := dq_get dX6_beside_0_t 13 rfl
theorem dX6_beside_50 : decode cX6_beside 50 = .ok (.getfield 72, 3) := dq_get dX6_beside_0_t 14 rfl
theorem dX6_beside_53 : decode cX6_beside 53 = .ok (.irem, 1) := dq_get dX6_beside_0_t 15 rfl
theorem dX6_beside_54 : decode cX6_beside 54 = .ok (.iconst 1, 1) := dq_get dX6_beside_0_t 16 rfl
theorem dX6_beside_55 : decode cX6_beside 55 = .ok (.iadd, 1) := dq_get dX6_beside_0_t 17 rfl
theorem dX6_beside_56 : decode cX6_beside 56 = .ok (.aload_n 0, 1) := dq_get dX6_beside_0_t 18 rfl
theorem dX6_beside_57 : decode cX6_beside 57 = .ok (.getfield 72, 3) := dq_get dX6_beside_0_t 19 rfl
theorem dX6_beside_60 : decode cX6_beside 60 = .ok (.if_icmp .ge 9, 3) := dq_get dX6_beside_0_t 20 rfl
theorem dX6_beside_63 : decode cX6_beside 63 = .ok (.iload_n 1, 1) := dq_get dX6_beside_0_t 21 rfl
theorem dX6_beside_64 : decode cX6_beside 64 = .ok (.iconst 1, 1) := dq_get dX6_beside_0_t 22 rfl
theorem dX6_beside_65 : decode cX6_beside 65 = .ok (.iadd, 1) := dq_get dX6_beside_0_t 23 rfl
theorem dX6_beside_66 : decode cX6_beside 66 = .ok (.goto 5, 3) := dq_get dX6_beside_0_t 24 rfl
theorem dX6_beside_69 : decode cX6_beside 69 = .ok (.bipush (-4), 2) := dq_get dX6_beside_0_t 25 rfl
theorem dX6_beside_71 : decode cX6_beside 71 = .ok (.ireturn, 1) := dq_get dX6_beside_0_t 26 rfl
theorem dX6_beside_72 : decode cX6_beside 72 = .ok (.iload_n 1, 1) := dq_get dX6_beside_0_t 27 rfl
theorem dX6_beside_73 : decode cX6_beside 73 = .ok (.aload_n 0, 1) := dq_get dX6_beside_0_t 28 rfl
theorem dX6_beside_74 : decode cX6_beside 74 = .ok (.getfield 72, 3) := dq_get dX6_beside_0_t 29 rfl
theorem dX6_beside_77 : decode cX6_beside 77 = .ok (.iadd, 1) := dq_get dX6_beside_0_t 30 rfl
theorem dX6_beside_78 : decode cX6_beside 78 = .ok (.aload_n 0, 1) := dq_get dX6_beside_0_t 31 rfl
theorem dX6_beside_79 : decode cX6_beside 79 = .ok (.invokevirtual 158, 3) := dq_get dX6_beside_0_t 32 rfl
theorem dX6_beside_82 : decode cX6_beside 82 = .ok (.if_icmp .ge 12, 3) := dq_get dX6_beside_0_t 33 rfl
theorem dX6_beside_85 : decode cX6_beside 85 = .ok (.iload_n 1, 1) := dq_get dX6_beside_0_t 34 rfl
theorem dX6_beside_86 : decode cX6_beside 86 = .ok (.aload_n 0, 1) := dq_get dX6_beside_0_t 35 rfl
theorem dX6_beside_87 : decode cX6_beside 87 = .ok (.getfield 72, 3) := dq_get dX6_beside_0_t 36 rfl
theorem dX6_beside_90 : decode cX6_beside 90 = .ok (.iadd, 1) := dq_get dX6_beside_0_t 37 rfl
theorem dX6_beside_91 : decode cX6_beside 91 = .ok (.goto 5, 3) := dq_get dX6_beside_0_t 38 rfl
theorem dX6_beside_94 : decode cX6_beside 94 = .ok (.bipush (-4), 2) := dq_get dX6_beside_0_t 39 rfl
theorem dX6_beside_1 : decode cX6_beside 1 = .ok (.tableswitch 96 0 2 #[27, 47, 71], 27) := by decide +kernel
theorem dX6_beside_96_t : dqK cX6_beside.data.toList 0 [(96, .ireturn, 1), (97, .iload_n 1, 1), (98, .aload_n 0, 1), (99, .getfield 72, 3), (102, .irem, 1), (103, .ifCond .le 9, 3), (106, .iload_n 1, 1), (107, .iconst 1, 1), (108, .isub, 1), (109, .goto 5, 3), (112, .bipush (-4), 2), (114, .ireturn, 1)] = true := by decide +kernel
theorem dX6_beside_96 : decode cX6_beside 96 = .ok (.ireturn, 1) := dq_get dX6_beside_96_t 0 rfl
theorem dX6_beside_97 : decode cX6_beside 97 = .ok (.iload_n 1, 1) := dq_get dX6_beside_96_t 1 rfl
theorem dX6_beside_98 : decode cX6_beside 98 = .ok (.aload_n 0, 1) := dq_get dX6_beside_96_t 2 rfl
theorem dX6_beside_99 : decode cX6_beside 99 = .ok (.getfield 72, 3) := dq_get dX6_beside_96_t 3 rfl
theorem dX6_beside_102 : decode cX6_beside 102 = .ok (.irem, 1) := dq_get dX6_beside_96_t 4 rfl
theorem dX6_beside_103 : decode cX6_beside 103 = .ok (.ifCond .le 9, 3) := dq_get dX6_beside_96_t 5 rfl
theorem dX6_beside_106 : decode cX6_beside 106 = .ok (.iload_n 1, 1) := dq_get dX6_beside_96_t 6 rfl
theorem dX6_beside_107 : decode cX6_beside 107 = .ok (.iconst 1, 1) := dq_get dX6_beside_96_t 7 rfl
theorem dX6_beside_108 : decode cX6_beside 108 = .ok (.isub, 1) := dq_get dX6_beside_96_t 8 rfl
theorem dX6_beside_109 : decode cX6_beside 109 = .ok (.goto 5, 3) := dq_get dX6_beside_96_t 9 rfl
theorem dX6_beside_112 : decode cX6_beside 112 = .ok (.bipush (-4), 2) := dq_get dX6_beside_96_t 10 rfl
theorem dX6_beside_114 : decode cX6_beside 114 = .ok (.ireturn, 1) := dq_get dX6_beside_96_t 11 rfl
theorem gt_wsX6_sight_wsX60 : GoodIn wsX6_sight wsX60 := fun w hw => ⟨List.mem_cons_of_mem _ (List.mem_append_right _ hw), good_of_word (List.all_eq_true.mp gw_wsX60 w hw)⟩
set_option maxRecDepth 20000 in
theorem ggX6_sight_X6_beside : GoodIn wsX6_sight wsX6_beside := goodIn_ca (goodIn_r _ [6, 7, 8, 9, 10, 5, 11, 12] rfl (by decide +kernel)) gt_wsX6_sight_wsX60
set_option maxRecDepth 20000 in
theorem gX6_sight_X6_beside : GoodIn wsX6_sight (wsV RX6 166 RX6 yX6_beside wsX6_beside) := goodIn_app (goodIn_r _ [2, 3, 4, 5] rfl (by decide +kernel)) ggX6_sight_X6_beside
theorem dX6_sight_0_t : dqK cX6_sight.data.toList 0 [(0, .iconst 1, 1), (1, .iload_n 1, 1), (2, .ishl, 1), (3, .istore_n 2, 1), (4, .iconst 0, 1), (5, .istore_n 3, 1), (6, .iload_n 3, 1), (7, .iconst 4, 1), (8, .if_icmp .ge 88, 3), (11, .aload_n 0, 1), (12, .iload_n 1, 1), (13, .iload_n 3, 1), (14, .invokevirtual 166, 3), (17, .istore 4, 2), (19, .iload 4, 2), (21, .bipush (-4), 2), (23, .if_icmp .eq 67, 3), (26, .iload_n 2, 1), (27, .iconst 1, 1), (28, .iload 4, 2), (30, .ishl, 1), (31, .ior, 1), (32, .istore_n 2, 1), (33, .aload_n 0, 1), (34, .getfield 23, 3), (37, .iload 4, 2), (39, .iaload, 1), (40, .iconst 4, 1), (41, .if_icmp .eq 20, 3), (44, .aload_n 0, 1), (45, .getfield 23, 3), (48, .iload 4, 2), (50, .iaload, 1), (51, .iconst 5, 1), (52, .if_icmp .ne 13, 3), (55, .iload_n 3, 1), (56, .iconst 2, 1), (57, .irem, 1), (58, .ifCond .ne 7, 3), (61, .iconst 1, 1)] = true := by decide +kernel
theorem dX6_sight_0 : decode cX6_sight 0 = .ok (.iconst 1, 1) := dq_get dX6_sight_0_t 0 rfl
theorem dX6_sight_1 : decode cX6_sight 1 = .ok (.iload_n 1, 1) := dq_get dX6_sight_0_t 1 rfl
theorem dX6_sight_2 : decode cX6_sight 2 = .ok (.ishl, 1) := dq_get dX6_sight_0_t 2 rfl
theorem dX6_sight_3 : decode cX6_sight 3 = .ok (.istore_n 2, 1) := dq_get dX6_sight_0_t 3 rfl
theorem dX6_sight_4 : decode cX6_sight 4 = .ok (.iconst 0, 1) := dq_get dX6_sight_0_t 4 rfl
theorem dX6_sight_5 : decode cX6_sight 5 = .ok (.istore_n 3, 1) := dq_get dX6_sight_0_t 5 rfl
theorem dX6_sight_6 : decode cX6_sight 6 = .ok (.iload_n 3, 1) := dq_get dX6_sight_0_t 6 rfl
theorem dX6_sight_7 : decode cX6_sight 7 = .ok (.iconst 4, 1) := dq_get dX6_sight_0_t 7 rfl
theorem dX6_sight_8 : decode cX6_sight 8 = .ok (.if_icmp .ge 88, 3) := dq_get dX6_sight_0_t 8 rfl
theorem dX6_sight_11 : decode cX6_sight 11 = .ok (.aload_n 0, 1) := dq_get dX6_sight_0_t 9 rfl
theorem dX6_sight_12 : decode cX6_sight 12 = .ok (.iload_n 1, 1) := dq_get dX6_sight_0_t 10 rfl
theorem dX6_sight_13 : decode cX6_sight 13 = .ok (.iload_n 3, 1) := dq_get dX6_sight_0_t 11 rfl
theorem dX6_sight_14 : decode cX6_sight 14 = .ok (.invokevirtual 166, 3) := dq_get dX6_sight_0_t 12 rfl
theorem dX6_sight_17 : decode cX6_sight 17 = .ok (.istore 4, 2) := dq_get dX6_sight_0_t 13 rfl
theorem dX6_sight_19 : decode cX6_sight 19 = .ok (.iload 4, 2) := dq_get dX6_sight_0_t 14 rfl
theorem dX6_sight_21 : decode cX6_sight 21 = .ok (.bipush (-4), 2) := dq_get dX6_sight_0_t 15 rfl
theorem dX6_sight_23 : decode cX6_sight 23 = .ok (.if_icmp .eq 67, 3) := dq_get dX6_sight_0_t 16 rfl
theorem dX6_sight_26 : decode cX6_sight 26 = .ok (.iload_n 2, 1) := dq_get dX6_sight_0_t 17 rfl
theorem dX6_sight_27 : decode cX6_sight 27 = .ok (.iconst 1, 1) := dq_get dX6_sight_0_t 18 rfl
theorem dX6_sight_28 : decode cX6_sight 28 = .ok (.iload 4, 2) := dq_get dX6_sight_0_t 19 rfl
theorem dX6_sight_30 : decode cX6_sight 30 = .ok (.ishl, 1) := dq_get dX6_sight_0_t 20 rfl
theorem dX6_sight_31 : decode cX6_sight 31 = .ok (.ior, 1) := dq_get dX6_sight_0_t 21 rfl
theorem dX6_sight_32 : decode cX6_sight 32 = .ok (.istore_n 2, 1) := dq_get dX6_sight_0_t 22 rfl
theorem dX6_sight_33 : decode cX6_sight 33 = .ok (.aload_n 0, 1) := dq_get dX6_sight_0_t 23 rfl
theorem dX6_sight_34 : decode cX6_sight 34 = .ok (.getfield 23, 3) := dq_get dX6_sight_0_t 24 rfl
theorem dX6_sight_37 : decode cX6_sight 37 = .ok (.iload 4, 2) := dq_get dX6_sight_0_t 25 rfl
theorem dX6_sight_39 : decode cX6_sight 39 = .ok (.iaload, 1) := dq_get dX6_sight_0_t 26 rfl
theorem dX6_sight_40 : decode cX6_sight 40 = .ok (.iconst 4, 1) := dq_get dX6_sight_0_t 27 rfl
theorem dX6_sight_41 : decode cX6_sight 41 = .ok (.if_icmp .eq 20, 3) := dq_get dX6_sight_0_t 28 rfl
theorem dX6_sight_44 : decode cX6_sight 44 = .ok (.aload_n 0, 1) := dq_get dX6_sight_0_t 29 rfl
theorem dX6_sight_45 : decode cX6_sight 45 = .ok (.getfield 23, 3) := dq_get dX6_sight_0_t 30 rfl
theorem dX6_sight_48 : decode cX6_sight 48 = .ok (.iload 4, 2) := dq_get dX6_sight_0_t 31 rfl
theorem dX6_sight_50 : decode cX6_sight 50 = .ok (.iaload, 1) := dq_get dX6_sight_0_t 32 rfl
theorem dX6_sight_51 : decode cX6_sight 51 = .ok (.iconst 5, 1) := dq_get dX6_sight_0_t 33 rfl
theorem dX6_sight_52 : decode cX6_sight 52 = .ok (.if_icmp .ne 13, 3) := dq_get dX6_sight_0_t 34 rfl
theorem dX6_sight_55 : decode cX6_sight 55 = .ok (.iload_n 3, 1) := dq_get dX6_sight_0_t 35 rfl
theorem dX6_sight_56 : decode cX6_sight 56 = .ok (.iconst 2, 1) := dq_get dX6_sight_0_t 36 rfl
theorem dX6_sight_57 : decode cX6_sight 57 = .ok (.irem, 1) := dq_get dX6_sight_0_t 37 rfl
theorem dX6_sight_58 : decode cX6_sight 58 = .ok (.ifCond .ne 7, 3) := dq_get dX6_sight_0_t 38 rfl
theorem dX6_sight_61 : decode cX6_sight 61 = .ok (.iconst 1, 1) := dq_get dX6_sight_0_t 39 rfl
theorem dX6_sight_62_t : dqK cX6_sight.data.toList 0 [(62, .goto 4, 3), (65, .iconst 0, 1), (66, .istore 5, 2), (68, .iload 5, 2), (70, .ifCond .eq 8, 3), (73, .bipush (-4), 2), (75, .goto 10, 3), (78, .aload_n 0, 1), (79, .iload 4, 2), (81, .iload_n 3, 1), (82, .invokevirtual 166, 3), (85, .istore 4, 2), (87, .goto (-68), 3), (90, .iinc 3 1, 3), (93, .goto (-87), 3), (96, .iload_n 2, 1), (97, .ireturn, 1)] = true := by decide +kernel
theorem dX6_sight_62 : decode cX6_sight 62 = .ok (.goto 4, 3) := dq_get dX6_sight_62_t 0 rfl
theorem dX6_sight_65 : decode cX6_sight 65 = .ok (.iconst 0, 1) := dq_get dX6_sight_62_t 1 rfl
theorem dX6_sight_66 : decode cX6_sight 66 = .ok (.istore 5, 2) := dq_get dX6_sight_62_t 2 rfl
theorem dX6_sight_68 : decode cX6_sight 68 = .ok (.iload 5, 2) := dq_get dX6_sight_62_t 3 rfl
theorem dX6_sight_70 : decode cX6_sight 70 = .ok (.ifCond .eq 8, 3) := dq_get dX6_sight_62_t 4 rfl
theorem dX6_sight_73 : decode cX6_sight 73 = .ok (.bipush (-4), 2) := dq_get dX6_sight_62_t 5 rfl
theorem dX6_sight_75 : decode cX6_sight 75 = .ok (.goto 10, 3) := dq_get dX6_sight_62_t 6 rfl
theorem dX6_sight_78 : decode cX6_sight 78 = .ok (.aload_n 0, 1) := dq_get dX6_sight_62_t 7 rfl
theorem dX6_sight_79 : decode cX6_sight 79 = .ok (.iload 4, 2) := dq_get dX6_sight_62_t 8 rfl
theorem dX6_sight_81 : decode cX6_sight 81 = .ok (.iload_n 3, 1) := dq_get dX6_sight_62_t 9 rfl
theorem dX6_sight_82 : decode cX6_sight 82 = .ok (.invokevirtual 166, 3) := dq_get dX6_sight_62_t 10 rfl
theorem dX6_sight_85 : decode cX6_sight 85 = .ok (.istore 4, 2) := dq_get dX6_sight_62_t 11 rfl
theorem dX6_sight_87 : decode cX6_sight 87 = .ok (.goto (-68), 3) := dq_get dX6_sight_62_t 12 rfl
theorem dX6_sight_90 : decode cX6_sight 90 = .ok (.iinc 3 1, 3) := dq_get dX6_sight_62_t 13 rfl
theorem dX6_sight_93 : decode cX6_sight 93 = .ok (.goto (-87), 3) := dq_get dX6_sight_62_t 14 rfl
theorem dX6_sight_96 : decode cX6_sight 96 = .ok (.iload_n 2, 1) := dq_get dX6_sight_62_t 15 rfl
theorem dX6_sight_97 : decode cX6_sight 97 = .ok (.ireturn, 1) := dq_get dX6_sight_62_t 16 rfl
theorem gt_wsX6_sightOn_wsX60 : GoodIn wsX6_sightOn wsX60 := fun w hw => ⟨List.mem_cons_of_mem _ (List.mem_append_right _ hw), good_of_word (List.all_eq_true.mp gw_wsX60 w hw)⟩
set_option maxRecDepth 20000 in
theorem ggX6_sightOn_X6_shiftTo : GoodIn wsX6_sightOn wsX6_shiftTo := goodIn_ca (goodIn_r _ [5, 6, 7, 8, 9, 4, 10, 11] rfl (by decide +kernel)) gt_wsX6_sightOn_wsX60
set_option maxRecDepth 20000 in
theorem gX6_sightOn_X6_shiftTo : GoodIn wsX6_sightOn (wsV RX6 169 RX6 yX6_shiftTo wsX6_shiftTo) := goodIn_app (goodIn_r _ [1, 2, 3, 4] rfl (by decide +kernel)) ggX6_sightOn_X6_shiftTo
set_option maxRecDepth 20000 in
theorem ggX6_sightOn_X6_sight : GoodIn wsX6_sightOn wsX6_sight := goodIn_ca (goodIn_r _ [15, 6, 16, 17, 18, 4, 19, 20, 21, 22, 23, 24, 25] rfl (by decide +kernel)) gt_wsX6_sightOn_wsX60
set_option maxRecDepth 20000 in
theorem gX6_sightOn_X6_sight : GoodIn wsX6_sightOn (wsV RX6 172 RX6 yX6_sight wsX6_sight) := goodIn_app (goodIn_r _ [12, 13, 14, 4] rfl (by decide +kernel)) ggX6_sightOn_X6_sight
theorem dX6_sightOn_0_t : dqK cX6_sightOn.data.toList 0 [(0, .aload_n 0, 1), (1, .iload_n 2, 1), (2, .invokevirtual 169, 3), (5, .aload_n 0, 1), (6, .iload_n 1, 1), (7, .invokevirtual 172, 3), (10, .ireturn, 1)] = true := by decide +kernel
theorem dX6_sightOn_0 : decode cX6_sightOn 0 = .ok (.aload_n 0, 1) := dq_get dX6_sightOn_0_t 0 rfl
theorem dX6_sightOn_1 : decode cX6_sightOn 1 = .ok (.iload_n 2, 1) := dq_get dX6_sightOn_0_t 1 rfl
theorem dX6_sightOn_2 : decode cX6_sightOn 2 = .ok (.invokevirtual 169, 3) := dq_get dX6_sightOn_0_t 2 rfl
theorem dX6_sightOn_5 : decode cX6_sightOn 5 = .ok (.aload_n 0, 1) := dq_get dX6_sightOn_0_t 3 rfl
theorem dX6_sightOn_6 : decode cX6_sightOn 6 = .ok (.iload_n 1, 1) := dq_get dX6_sightOn_0_t 4 rfl
theorem dX6_sightOn_7 : decode cX6_sightOn 7 = .ok (.invokevirtual 172, 3) := dq_get dX6_sightOn_0_t 5 rfl
theorem dX6_sightOn_10 : decode cX6_sightOn 10 = .ok (.ireturn, 1) := dq_get dX6_sightOn_0_t 6 rfl
theorem gt_wsX6_shownBy_wsX60 : GoodIn wsX6_shownBy wsX60 := fun w hw => ⟨List.mem_cons_of_mem _ (List.mem_append_right _ hw), good_of_word (List.all_eq_true.mp gw_wsX60 w hw)⟩
set_option maxRecDepth 20000 in
theorem ggX6_shownBy_X6_sightOn : GoodIn wsX6_shownBy wsX6_sightOn := goodIn_ca (goodIn_r _ [6, 7, 8, 9, 5, 10, 11, 12, 13, 14, 15, 1, 16, 17, 18, 19, 20, 21, 22, 23, 24, 25, 26, 27, 28, 29] rfl (by decide +kernel)) gt_wsX6_shownBy_wsX60
set_option maxRecDepth 20000 in
theorem gX6_shownBy_X6_sightOn : GoodIn wsX6_shownBy (wsV RX6 175 RX6 yX6_sightOn wsX6_sightOn) := goodIn_app (goodIn_r _ [2, 3, 4, 5] rfl (by decide +kernel)) ggX6_shownBy_X6_sightOn
theorem dX6_shownBy_0_t : dqK cX6_shownBy.data.toList 0 [(0, .aload_n 0, 1), (1, .iload_n 2, 1), (2, .aload_n 0, 1), (3, .getfield 7, 3), (6, .bipush 48, 2), (8, .iconst 2, 1), (9, .iload_n 1, 1), (10, .imul, 1), (11, .iadd, 1), (12, .iaload, 1), (13, .invokevirtual 175, 3), (16, .aload_n 0, 1), (17, .getfield 7, 3), (20, .bipush 48, 2), (22, .iconst 2, 1), (23, .iload_n 1, 1), (24, .imul, 1), (25, .iadd, 1), (26, .iconst 1, 1), (27, .iadd, 1), (28, .iaload, 1), (29, .iconst (-1), 1), (30, .ixor, 1), (31, .iand, 1), (32, .ireturn, 1)] = true := by decide +kernel
theorem dX6_shownBy_0 : decode cX6_shownBy 0 = .ok (.aload_n 0, 1) := dq_get dX6_shownBy_0_t 0 rfl
theorem dX6_shownBy_1 : decode cX6_shownBy 1 = .ok (.iload_n 2, 1) := dq_get dX6_shownBy_0_t 1 rfl
theorem dX6_shownBy_2 : decode cX6_shownBy 2 = .ok (.aload_n 0, 1) := dq_get dX6_shownBy_0_t 2 rfl
theorem dX6_shownBy_3 : decode cX6_shownBy 3 = .ok (.getfield 7, 3) := dq_get dX6_shownBy_0_t 3 rfl
theorem dX6_shownBy_6 : decode cX6_shownBy 6 = .ok (.bipush 48, 2) := dq_get dX6_shownBy_0_t 4 rfl
theorem dX6_shownBy_8 : decode cX6_shownBy 8 = .ok (.iconst 2, 1) := dq_get dX6_shownBy_0_t 5 rfl
theorem dX6_shownBy_9 : decode cX6_shownBy 9 = .ok (.iload_n 1, 1) := dq_get dX6_shownBy_0_t 6 rfl
theorem dX6_shownBy_10 : decode cX6_shownBy 10 = .ok (.imul, 1) := dq_get dX6_shownBy_0_t 7 rfl
theorem dX6_shownBy_11 : decode cX6_shownBy 11 = .ok (.iadd, 1) := dq_get dX6_shownBy_0_t 8 rfl
theorem dX6_shownBy_12 : decode cX6_shownBy 12 = .ok (.iaload, 1) := dq_get dX6_shownBy_0_t 9 rfl
theorem dX6_shownBy_13 : decode cX6_shownBy 13 = .ok (.invokevirtual 175, 3) := dq_get dX6_shownBy_0_t 10 rfl
theorem dX6_shownBy_16 : decode cX6_shownBy 16 = .ok (.aload_n 0, 1) := dq_get dX6_shownBy_0_t 11 rfl
theorem dX6_shownBy_17 : decode cX6_shownBy 17 = .ok (.getfield 7, 3) := dq_get dX6_shownBy_0_t 12 rfl
theorem dX6_shownBy_20 : decode cX6_shownBy 20 = .ok (.bipush 48, 2) := dq_get dX6_shownBy_0_t 13 rfl
theorem dX6_shownBy_22 : decode cX6_shownBy 22 = .ok (.iconst 2, 1) := dq_get dX6_shownBy_0_t 14 rfl
theorem dX6_shownBy_23 : decode cX6_shownBy 23 = .ok (.iload_n 1, 1) := dq_get dX6_shownBy_0_t 15 rfl
theorem dX6_shownBy_24 : decode cX6_shownBy 24 = .ok (.imul, 1) := dq_get dX6_shownBy_0_t 16 rfl
theorem dX6_shownBy_25 : decode cX6_shownBy 25 = .ok (.iadd, 1) := dq_get dX6_shownBy_0_t 17 rfl
theorem dX6_shownBy_26 : decode cX6_shownBy 26 = .ok (.iconst 1, 1) := dq_get dX6_shownBy_0_t 18 rfl
theorem dX6_shownBy_27 : decode cX6_shownBy 27 = .ok (.iadd, 1) := dq_get dX6_shownBy_0_t 19 rfl
theorem dX6_shownBy_28 : decode cX6_shownBy 28 = .ok (.iaload, 1) := dq_get dX6_shownBy_0_t 20 rfl
theorem dX6_shownBy_29 : decode cX6_shownBy 29 = .ok (.iconst (-1), 1) := dq_get dX6_shownBy_0_t 21 rfl
theorem dX6_shownBy_30 : decode cX6_shownBy 30 = .ok (.ixor, 1) := dq_get dX6_shownBy_0_t 22 rfl
theorem dX6_shownBy_31 : decode cX6_shownBy 31 = .ok (.iand, 1) := dq_get dX6_shownBy_0_t 23 rfl
theorem dX6_shownBy_32 : decode cX6_shownBy 32 = .ok (.ireturn, 1) := dq_get dX6_shownBy_0_t 24 rfl
theorem dX6_rule_0_t : dqK cX6_rule.data.toList 0 [(0, .iload_n 1, 1), (36, .aload_n 0, 1), (37, .getfield 72, 3), (40, .ireturn, 1), (41, .aload_n 0, 1), (42, .getfield 75, 3), (45, .ireturn, 1), (46, .aload_n 0, 1), (47, .getfield 78, 3), (50, .ireturn, 1), (51, .aload_n 0, 1), (52, .getfield 7, 3), (55, .bipush 16, 2), (57, .iaload, 1), (58, .ireturn, 1), (59, .aload_n 0, 1), (60, .getfield 7, 3), (63, .bipush 47, 2), (65, .iaload, 1), (66, .ireturn, 1), (67, .iconst (-1), 1), (68, .ireturn, 1)] = true := by decide +kernel
theorem dX6_rule_0 : decode cX6_rule 0 = .ok (.iload_n 1, 1) := dq_get dX6_rule_0_t 0 rfl
theorem dX6_rule_36 : decode cX6_rule 36 = .ok (.aload_n 0, 1) := dq_get dX6_rule_0_t 1 rfl
theorem dX6_rule_37 : decode cX6_rule 37 = .ok (.getfield 72, 3) := dq_get dX6_rule_0_t 2 rfl
theorem dX6_rule_40 : decode cX6_rule 40 = .ok (.ireturn, 1) := dq_get dX6_rule_0_t 3 rfl
theorem dX6_rule_41 : decode cX6_rule 41 = .ok (.aload_n 0, 1) := dq_get dX6_rule_0_t 4 rfl
theorem dX6_rule_42 : decode cX6_rule 42 = .ok (.getfield 75, 3) := dq_get dX6_rule_0_t 5 rfl
theorem dX6_rule_45 : decode cX6_rule 45 = .ok (.ireturn, 1) := dq_get dX6_rule_0_t 6 rfl
theorem dX6_rule_46 : decode cX6_rule 46 = .ok (.aload_n 0, 1) := dq_get dX6_rule_0_t 7 rfl
theorem dX6_rule_47 : decode cX6_rule 47 = .ok (.getfield 78, 3) := dq_get dX6_rule_0_t 8 rfl
theorem dX6_rule_50 : decode cX6_rule 50 = .ok (.ireturn, 1) := dq_get dX6_rule_0_t 9 rfl
theorem dX6_rule_51 : decode cX6_rule 51 = .ok (.aload_n 0, 1) := dq_get dX6_rule_0_t 10 rfl
theorem dX6_rule_52 : decode cX6_rule 52 = .ok (.getfield 7, 3) := dq_get dX6_rule_0_t 11 rfl
theorem dX6_rule_55 : decode cX6_rule 55 = .ok (.bipush 16, 2) := dq_get dX6_rule_0_t 12 rfl
theorem dX6_rule_57 : decode cX6_rule 57 = .ok (.iaload, 1) := dq_get dX6_rule_0_t 13 rfl
theorem dX6_rule_58 : decode cX6_rule 58 = .ok (.ireturn, 1) := dq_get dX6_rule_0_t 14 rfl
theorem dX6_rule_59 : decode cX6_rule 59 = .ok (.aload_n 0, 1) := dq_get dX6_rule_0_t 15 rfl
theorem dX6_rule_60 : decode cX6_rule 60 = .ok (.getfield 7, 3) := dq_get dX6_rule_0_t 16 rfl
theorem dX6_rule_63 : decode cX6_rule 63 = .ok (.bipush 47, 2) := dq_get dX6_rule_0_t 17 rfl
theorem dX6_rule_65 : decode cX6_rule 65 = .ok (.iaload, 1) := dq_get dX6_rule_0_t 18 rfl
theorem dX6_rule_66 : decode cX6_rule 66 = .ok (.ireturn, 1) := dq_get dX6_rule_0_t 19 rfl
theorem dX6_rule_67 : decode cX6_rule 67 = .ok (.iconst (-1), 1) := dq_get dX6_rule_0_t 20 rfl
theorem dX6_rule_68 : decode cX6_rule 68 = .ok (.ireturn, 1) := dq_get dX6_rule_0_t 21 rfl
theorem dX6_rule_1 : decode cX6_rule 1 = .ok (.tableswitch 66 0 4 #[35, 40, 45, 50, 58], 35) := by decide +kernel
theorem gt_wsX6_mark_wsX60 : GoodIn wsX6_mark wsX60 := fun w hw => ⟨List.mem_cons_of_mem _ (List.mem_append_right _ hw), good_of_word (List.all_eq_true.mp gw_wsX60 w hw)⟩
set_option maxRecDepth 20000 in
theorem ggX6_mark_X6_isCell : GoodIn wsX6_mark wsX6_isCell := goodIn_ca (goodIn_r _ [5, 6, 7, 8, 4, 9, 10, 11, 12, 13, 14] rfl (by decide +kernel)) gt_wsX6_mark_wsX60
set_option maxRecDepth 20000 in
theorem gX6_mark_X6_isCell : GoodIn wsX6_mark (wsV RX6 178 RX6 yX6_isCell wsX6_isCell) := goodIn_app (goodIn_r _ [1, 2, 3, 4] rfl (by decide +kernel)) ggX6_mark_X6_isCell
set_option maxRecDepth 20000 in
theorem ggX6_mark_X6_isDay : GoodIn wsX6_mark wsX6_isDay := goodIn_ca (goodIn_r _ [18, 19, 12, 13, 4, 14] rfl (by decide +kernel)) gt_wsX6_mark_wsX60
set_option maxRecDepth 20000 in
theorem gX6_mark_X6_isDay : GoodIn wsX6_mark (wsV RX6 182 RX6 yX6_isDay wsX6_isDay) := goodIn_app (goodIn_r _ [15, 16, 17, 4] rfl (by decide +kernel)) ggX6_mark_X6_isDay
set_option maxRecDepth 20000 in
theorem ggX6_mark_X6_markOf : GoodIn wsX6_mark wsX6_markOf := goodIn_ca (goodIn_r _ [23, 24] rfl (by decide +kernel)) gt_wsX6_mark_wsX60
set_option maxRecDepth 20000 in
theorem gX6_mark_X6_markOf : GoodIn wsX6_mark (wsV RX6 163 RX6 yX6_markOf wsX6_markOf) := goodIn_app (goodIn_r _ [20, 21, 22, 4] rfl (by decide +kernel)) ggX6_mark_X6_markOf
theorem dX6_mark_0_t : dqK cX6_mark.data.toList 0 [(0, .aload_n 0, 1), (1, .iload_n 1, 1), (2, .invokevirtual 178, 3), (5, .ifCond .eq 20, 3), (8, .aload_n 0, 1), (9, .iload_n 2, 1), (10, .invokevirtual 182, 3), (13, .ifCond .eq 12, 3), (16, .aload_n 0, 1), (17, .iload_n 1, 1), (18, .iload_n 2, 1), (19, .invokevirtual 163, 3), (22, .goto 4, 3), (25, .iconst (-1), 1), (26, .ireturn, 1)] = true := by decide +kernel
theorem dX6_mark_0 : decode cX6_mark 0 = .ok (.aload_n 0, 1) := dq_get dX6_mark_0_t 0 rfl
theorem dX6_mark_1 : decode cX6_mark 1 = .ok (.iload_n 1, 1) := dq_get dX6_mark_0_t 1 rfl
theorem dX6_mark_2 : decode cX6_mark 2 = .ok (.invokevirtual 178, 3) := dq_get dX6_mark_0_t 2 rfl
theorem dX6_mark_5 : decode cX6_mark 5 = .ok (.ifCond .eq 20, 3) := dq_get dX6_mark_0_t 3 rfl
theorem dX6_mark_8 : decode cX6_mark 8 = .ok (.aload_n 0, 1) := dq_get dX6_mark_0_t 4 rfl
theorem dX6_mark_9 : decode cX6_mark 9 = .ok (.iload_n 2, 1) := dq_get dX6_mark_0_t 5 rfl
theorem dX6_mark_10 : decode cX6_mark 10 = .ok (.invokevirtual 182, 3) := dq_get dX6_mark_0_t 6 rfl
theorem dX6_mark_13 : decode cX6_mark 13 = .ok (.ifCond .eq 12, 3) := dq_get dX6_mark_0_t 7 rfl
theorem dX6_mark_16 : decode cX6_mark 16 = .ok (.aload_n 0, 1) := dq_get dX6_mark_0_t 8 rfl
theorem dX6_mark_17 : decode cX6_mark 17 = .ok (.iload_n 1, 1) := dq_get dX6_mark_0_t 9 rfl
theorem dX6_mark_18 : decode cX6_mark 18 = .ok (.iload_n 2, 1) := dq_get dX6_mark_0_t 10 rfl
theorem dX6_mark_19 : decode cX6_mark 19 = .ok (.invokevirtual 163, 3) := dq_get dX6_mark_0_t 11 rfl
theorem dX6_mark_22 : decode cX6_mark 22 = .ok (.goto 4, 3) := dq_get dX6_mark_0_t 12 rfl
theorem dX6_mark_25 : decode cX6_mark 25 = .ok (.iconst (-1), 1) := dq_get dX6_mark_0_t 13 rfl
theorem dX6_mark_26 : decode cX6_mark 26 = .ok (.ireturn, 1) := dq_get dX6_mark_0_t 14 rfl
set_option maxRecDepth 20000 in
theorem ggX6_change_X6_in : GoodIn wsX6_change wsX6_in := goodIn_r _ [6] rfl (by decide +kernel)
set_option maxRecDepth 20000 in
theorem gX6_change_X6_in : GoodIn wsX6_change (va_wsS RX6 83 yX6_in wsX6_in) := goodIn_app (goodIn_r _ [3, 4, 5] rfl (by decide +kernel)) ggX6_change_X6_in
theorem dX6_change_0_t : dqK cX6_change.data.toList 0 [(0, .iload_n 1, 1), (1, .i2l, 1), (2, .lconst 0, 1), (3, .aload_n 0, 1), (4, .getfield 7, 3), (7, .bipush 16, 2), (9, .iaload, 1), (10, .iconst 1, 1), (11, .isub, 1), (12, .i2l, 1), (13, .invokestatic 83, 3), (16, .ifCond .eq 31, 3), (19, .iload_n 2, 1), (20, .i2l, 1), (21, .lconst 0, 1), (22, .ldc2_w 185, 3), (25, .invokestatic 83, 3), (28, .ifCond .eq 19, 3), (31, .aload_n 0, 1), (32, .getfield 7, 3), (35, .bipush 17, 2), (37, .iconst 3, 1), (38, .iload_n 1, 1), (39, .imul, 1), (40, .iadd, 1), (41, .iload_n 2, 1), (42, .iadd, 1), (43, .iaload, 1), (44, .goto 4, 3), (47, .iconst (-1), 1), (48, .ireturn, 1)] = true := by decide +kernel
theorem dX6_change_0 : decode cX6_change 0 = .ok (.iload_n 1, 1) := dq_get dX6_change_0_t 0 rfl
theorem dX6_change_1 : decode cX6_change 1 = .ok (.i2l, 1) := dq_get dX6_change_0_t 1 rfl
theorem dX6_change_2 : decode cX6_change 2 = .ok (.lconst 0, 1) := dq_get dX6_change_0_t 2 rfl
theorem dX6_change_3 : decode cX6_change 3 = .ok (.aload_n 0, 1) := dq_get dX6_change_0_t 3 rfl
theorem dX6_change_4 : decode cX6_change 4 = .ok (.getfield 7, 3) := dq_get dX6_change_0_t 4 rfl
theorem dX6_change_7 : decode cX6_change 7 = .ok (.bipush 16, 2) := dq_get dX6_change_0_t 5 rfl
theorem dX6_change_9 : decode cX6_change 9 = .ok (.iaload, 1) := dq_get dX6_change_0_t 6 rfl
theorem dX6_change_10 : decode cX6_change 10 = .ok (.iconst 1, 1) := dq_get dX6_change_0_t 7 rfl
theorem dX6_change_11 : decode cX6_change 11 = .ok (.isub, 1) := dq_get dX6_change_0_t 8 rfl
theorem dX6_change_12 : decode cX6_change 12 = .ok (.i2l, 1) := dq_get dX6_change_0_t 9 rfl
theorem dX6_change_13 : decode cX6_change 13 = .ok (.invokestatic 83, 3) := dq_get dX6_change_0_t 10 rfl
theorem dX6_change_16 : decode cX6_change 16 = .ok (.ifCond .eq 31, 3) := dq_get dX6_change_0_t 11 rfl
theorem dX6_change_19 : decode cX6_change 19 = .ok (.iload_n 2, 1) := dq_get dX6_change_0_t 12 rfl
theorem dX6_change_20 : decode cX6_change 20 = .ok (.i2l, 1) := dq_get dX6_change_0_t 13 rfl
theorem dX6_change_21 : decode cX6_change 21 = .ok (.lconst 0, 1) := dq_get dX6_change_0_t 14 rfl
theorem dX6_change_22 : decode cX6_change 22 = .ok (.ldc2_w 185, 3) := dq_get dX6_change_0_t 15 rfl
theorem dX6_change_25 : decode cX6_change 25 = .ok (.invokestatic 83, 3) := dq_get dX6_change_0_t 16 rfl
theorem dX6_change_28 : decode cX6_change 28 = .ok (.ifCond .eq 19, 3) := dq_get dX6_change_0_t 17 rfl
theorem dX6_change_31 : decode cX6_change 31 = .ok (.aload_n 0, 1) := dq_get dX6_change_0_t 18 rfl
theorem dX6_change_32 : decode cX6_change 32 = .ok (.getfield 7, 3) := dq_get dX6_change_0_t 19 rfl
theorem dX6_change_35 : decode cX6_change 35 = .ok (.bipush 17, 2) := dq_get dX6_change_0_t 20 rfl
theorem dX6_change_37 : decode cX6_change 37 = .ok (.iconst 3, 1) := dq_get dX6_change_0_t 21 rfl
theorem dX6_change_38 : decode cX6_change 38 = .ok (.iload_n 1, 1) := dq_get dX6_change_0_t 22 rfl
theorem dX6_change_39 : decode cX6_change 39 = .ok (.imul, 1) := dq_get dX6_change_0_t 23 rfl
theorem dX6_change_40 : decode cX6_change 40 = .ok (.iadd, 1) := dq_get dX6_change_0_t 24 rfl
theorem dX6_change_41 : decode cX6_change 41 = .ok (.iload_n 2, 1) := dq_get dX6_change_0_t 25 rfl
theorem dX6_change_42 : decode cX6_change 42 = .ok (.iadd, 1) := dq_get dX6_change_0_t 26 rfl
theorem dX6_change_43 : decode cX6_change 43 = .ok (.iaload, 1) := dq_get dX6_change_0_t 27 rfl
theorem dX6_change_44 : decode cX6_change 44 = .ok (.goto 4, 3) := dq_get dX6_change_0_t 28 rfl
theorem dX6_change_47 : decode cX6_change 47 = .ok (.iconst (-1), 1) := dq_get dX6_change_0_t 29 rfl
theorem dX6_change_48 : decode cX6_change 48 = .ok (.ireturn, 1) := dq_get dX6_change_0_t 30 rfl
theorem gt_wsX6_lens_wsX60 : GoodIn wsX6_lens wsX60 := fun w hw => ⟨List.mem_cons_of_mem _ (List.mem_append_right _ hw), good_of_word (List.all_eq_true.mp gw_wsX60 w hw)⟩
set_option maxRecDepth 20000 in
theorem ggX6_lens_X6_isLens : GoodIn wsX6_lens wsX6_isLens := goodIn_ca (goodIn_r _ [6, 1, 7, 8, 5, 9] rfl (by decide +kernel)) gt_wsX6_lens_wsX60
set_option maxRecDepth 20000 in
theorem gX6_lens_X6_isLens : GoodIn wsX6_lens (wsV RX6 187 RX6 yX6_isLens wsX6_isLens) := goodIn_app (goodIn_r _ [2, 3, 4, 5] rfl (by decide +kernel)) ggX6_lens_X6_isLens
set_option maxRecDepth 20000 in
theorem ggX6_lens_X6_isPart : GoodIn wsX6_lens wsX6_isPart := goodIn_r _ [12, 7, 8, 5, 9] rfl (by decide +kernel)
set_option maxRecDepth 20000 in
theorem gX6_lens_X6_isPart : GoodIn wsX6_lens (va_wsS RX6 190 yX6_isPart wsX6_isPart) := goodIn_app (goodIn_r _ [10, 11, 5] rfl (by decide +kernel)) ggX6_lens_X6_isPart
theorem dX6_lens_0_t : dqK cX6_lens.data.toList 0 [(0, .aload_n 0, 1), (1, .iload_n 1, 1), (2, .invokevirtual 187, 3), (5, .ifCond .eq 26, 3), (8, .iload_n 2, 1), (9, .invokestatic 190, 3), (12, .ifCond .eq 19, 3), (15, .aload_n 0, 1), (16, .getfield 7, 3), (19, .bipush 48, 2), (21, .iconst 2, 1), (22, .iload_n 1, 1), (23, .imul, 1), (24, .iadd, 1), (25, .iload_n 2, 1), (26, .iadd, 1), (27, .iaload, 1), (28, .goto 4, 3), (31, .iconst (-1), 1), (32, .ireturn, 1)] = true := by decide +kernel
theorem dX6_lens_0 : decode cX6_lens 0 = .ok (.aload_n 0, 1) := dq_get dX6_lens_0_t 0 rfl
theorem dX6_lens_1 : decode cX6_lens 1 = .ok (.iload_n 1, 1) := dq_get dX6_lens_0_t 1 rfl
theorem dX6_lens_2 : decode cX6_lens 2 = .ok (.invokevirtual 187, 3) := dq_get dX6_lens_0_t 2 rfl
theorem dX6_lens_5 : decode cX6_lens 5 = .ok (.ifCond .eq 26, 3) := dq_get dX6_lens_0_t 3 rfl
theorem dX6_lens_8 : decode cX6_lens 8 = .ok (.iload_n 2, 1) := dq_get dX6_lens_0_t 4 rfl
theorem dX6_lens_9 : decode cX6_lens 9 = .ok (.invokestatic 190, 3) := dq_get dX6_lens_0_t 5 rfl
theorem dX6_lens_12 : decode cX6_lens 12 = .ok (.ifCond .eq 19, 3) := dq_get dX6_lens_0_t 6 rfl
theorem dX6_lens_15 : decode cX6_lens 15 = .ok (.aload_n 0, 1) := dq_get dX6_lens_0_t 7 rfl
theorem dX6_lens_16 : decode cX6_lens 16 = .ok (.getfield 7, 3) := dq_get dX6_lens_0_t 8 rfl
theorem dX6_lens_19 : decode cX6_lens 19 = .ok (.bipush 48, 2) := dq_get dX6_lens_0_t 9 rfl
theorem dX6_lens_21 : decode cX6_lens 21 = .ok (.iconst 2, 1) := dq_get dX6_lens_0_t 10 rfl
theorem dX6_lens_22 : decode cX6_lens 22 = .ok (.iload_n 1, 1) := dq_get dX6_lens_0_t 11 rfl
theorem dX6_lens_23 : decode cX6_lens 23 = .ok (.imul, 1) := dq_get dX6_lens_0_t 12 rfl
theorem dX6_lens_24 : decode cX6_lens 24 = .ok (.iadd, 1) := dq_get dX6_lens_0_t 13 rfl
theorem dX6_lens_25 : decode cX6_lens 25 = .ok (.iload_n 2, 1) := dq_get dX6_lens_0_t 14 rfl
theorem dX6_lens_26 : decode cX6_lens 26 = .ok (.iadd, 1) := dq_get dX6_lens_0_t 15 rfl
theorem dX6_lens_27 : decode cX6_lens 27 = .ok (.iaload, 1) := dq_get dX6_lens_0_t 16 rfl
theorem dX6_lens_28 : decode cX6_lens 28 = .ok (.goto 4, 3) := dq_get dX6_lens_0_t 17 rfl
theorem dX6_lens_31 : decode cX6_lens 31 = .ok (.iconst (-1), 1) := dq_get dX6_lens_0_t 18 rfl
theorem dX6_lens_32 : decode cX6_lens 32 = .ok (.ireturn, 1) := dq_get dX6_lens_0_t 19 rfl
theorem dX6_becomes_0_t : dqK cX6_becomes.data.toList 0 [(0, .aload_n 0, 1), (1, .getfield 7, 3), (4, .iload_n 1, 1), (5, .iaload, 1), (6, .istore_n 3, 1), (7, .aload_n 0, 1), (8, .getfield 7, 3), (11, .iload_n 1, 1), (12, .iload_n 2, 1), (13, .iastore, 1), (14, .iload_n 3, 1), (15, .ireturn, 1)] = true := by decide +kernel
theorem dX6_becomes_0 : decode cX6_becomes 0 = .ok (.aload_n 0, 1) := dq_get dX6_becomes_0_t 0 rfl
theorem dX6_becomes_1 : decode cX6_becomes 1 = .ok (.getfield 7, 3) := dq_get dX6_becomes_0_t 1 rfl
theorem dX6_becomes_4 : decode cX6_becomes 4 = .ok (.iload_n 1, 1) := dq_get dX6_becomes_0_t 2 rfl
theorem dX6_becomes_5 : decode cX6_becomes 5 = .ok (.iaload, 1) := dq_get dX6_becomes_0_t 3 rfl
theorem dX6_becomes_6 : decode cX6_becomes 6 = .ok (.istore_n 3, 1) := dq_get dX6_becomes_0_t 4 rfl
theorem dX6_becomes_7 : decode cX6_becomes 7 = .ok (.aload_n 0, 1) := dq_get dX6_becomes_0_t 5 rfl
theorem dX6_becomes_8 : decode cX6_becomes 8 = .ok (.getfield 7, 3) := dq_get dX6_becomes_0_t 6 rfl
theorem dX6_becomes_11 : decode cX6_becomes 11 = .ok (.iload_n 1, 1) := dq_get dX6_becomes_0_t 7 rfl
theorem dX6_becomes_12 : decode cX6_becomes 12 = .ok (.iload_n 2, 1) := dq_get dX6_becomes_0_t 8 rfl
theorem dX6_becomes_13 : decode cX6_becomes 13 = .ok (.iastore, 1) := dq_get dX6_becomes_0_t 9 rfl
theorem dX6_becomes_14 : decode cX6_becomes 14 = .ok (.iload_n 3, 1) := dq_get dX6_becomes_0_t 10 rfl
theorem dX6_becomes_15 : decode cX6_becomes 15 = .ok (.ireturn, 1) := dq_get dX6_becomes_0_t 11 rfl
theorem gt_wsX6_first_wsX60 : GoodIn wsX6_first wsX60 := fun w hw => ⟨List.mem_cons_of_mem _ (List.mem_append_right _ hw), good_of_word (List.all_eq_true.mp gw_wsX60 w hw)⟩
set_option maxRecDepth 20000 in
theorem ggX6_first_X6_isCell : GoodIn wsX6_first wsX6_isCell := goodIn_ca (goodIn_r _ [5, 6, 7, 8, 4, 9, 10, 11, 12, 13, 14] rfl (by decide +kernel)) gt_wsX6_first_wsX60
set_option maxRecDepth 20000 in
theorem gX6_first_X6_isCell : GoodIn wsX6_first (wsV RX6 178 RX6 yX6_isCell wsX6_isCell) := goodIn_app (goodIn_r _ [1, 2, 3, 4] rfl (by decide +kernel)) ggX6_first_X6_isCell
set_option maxRecDepth 20000 in
theorem ggX6_first_X6_isMark : GoodIn wsX6_first wsX6_isMark := goodIn_r _ [17, 18, 12, 13, 4, 14] rfl (by decide +kernel)
set_option maxRecDepth 20000 in
theorem gX6_first_X6_isMark : GoodIn wsX6_first (va_wsS RX6 193 yX6_isMark wsX6_isMark) := goodIn_app (goodIn_r _ [15, 16, 4] rfl (by decide +kernel)) ggX6_first_X6_isMark
set_option maxRecDepth 20000 in
theorem ggX6_first_X6_becomes : GoodIn wsX6_first wsX6_becomes := goodIn_ca (goodIn_r _ [22, 23] rfl (by decide +kernel)) gt_wsX6_first_wsX60
set_option maxRecDepth 20000 in
theorem gX6_first_X6_becomes : GoodIn wsX6_first (wsV RX6 196 RX6 yX6_becomes wsX6_becomes) := goodIn_app (goodIn_r _ [19, 20, 21, 4] rfl (by decide +kernel)) ggX6_first_X6_becomes
theorem dX6_first_0_t : dqK cX6_first.data.toList 0 [(0, .aload_n 0, 1), (1, .iload_n 1, 1), (2, .invokevirtual 178, 3), (5, .ifCond .eq 21, 3), (8, .iload_n 2, 1), (9, .invokestatic 193, 3), (12, .ifCond .eq 14, 3), (15, .aload_n 0, 1), (16, .iconst 0, 1), (17, .iload_n 1, 1), (18, .iadd, 1), (19, .iload_n 2, 1), (20, .invokevirtual 196, 3), (23, .goto 4, 3), (26, .iconst (-1), 1), (27, .ireturn, 1)] = true := by decide +kernel
theorem dX6_first_0 : decode cX6_first 0 = .ok (.aload_n 0, 1) := dq_get dX6_first_0_t 0 rfl
theorem dX6_first_1 : decode cX6_first 1 = .ok (.iload_n 1, 1) := dq_get dX6_first_0_t 1 rfl
theorem dX6_first_2 : decode cX6_first 2 = .ok (.invokevirtual 178, 3) := dq_get dX6_first_0_t 2 rfl
theorem dX6_first_5 : decode cX6_first 5 = .ok (.ifCond .eq 21, 3) := dq_get dX6_first_0_t 3 rfl
theorem dX6_first_8 : decode cX6_first 8 = .ok (.iload_n 2, 1) := dq_get dX6_first_0_t 4 rfl
theorem dX6_first_9 : decode cX6_first 9 = .ok (.invokestatic 193, 3) := dq_get dX6_first_0_t 5 rfl
theorem dX6_first_12 : decode cX6_first 12 = .ok (.ifCond .eq 14, 3) := dq_get dX6_first_0_t 6 rfl
theorem dX6_first_15 : decode cX6_first 15 = .ok (.aload_n 0, 1) := dq_get dX6_first_0_t 7 rfl
theorem dX6_first_16 : decode cX6_first 16 = .ok (.iconst 0, 1) := dq_get dX6_first_0_t 8 rfl
theorem dX6_first_17 : decode cX6_first 17 = .ok (.iload_n 1, 1) := dq_get dX6_first_0_t 9 rfl
theorem dX6_first_18 : decode cX6_first 18 = .ok (.iadd, 1) := dq_get dX6_first_0_t 10 rfl
theorem dX6_first_19 : decode cX6_first 19 = .ok (.iload_n 2, 1) := dq_get dX6_first_0_t 11 rfl
theorem dX6_first_20 : decode cX6_first 20 = .ok (.invokevirtual 196, 3) := dq_get dX6_first_0_t 12 rfl
theorem dX6_first_23 : decode cX6_first 23 = .ok (.goto 4, 3) := dq_get dX6_first_0_t 13 rfl
theorem dX6_first_26 : decode cX6_first 26 = .ok (.iconst (-1), 1) := dq_get dX6_first_0_t 14 rfl
theorem dX6_first_27 : decode cX6_first 27 = .ok (.ireturn, 1) := dq_get dX6_first_0_t 15 rfl
theorem gt_wsX6_turn_wsX60 : GoodIn wsX6_turn wsX60 := fun w hw => ⟨List.mem_cons_of_mem _ (List.mem_append_right _ hw), good_of_word (List.all_eq_true.mp gw_wsX60 w hw)⟩
set_option maxRecDepth 20000 in
theorem ggX6_turn_X6_isDay : GoodIn wsX6_turn wsX6_isDay := goodIn_ca (goodIn_r _ [6, 7, 8, 9, 5, 10] rfl (by decide +kernel)) gt_wsX6_turn_wsX60
set_option maxRecDepth 20000 in
theorem gX6_turn_X6_isDay : GoodIn wsX6_turn (wsV RX6 182 RX6 yX6_isDay wsX6_isDay) := goodIn_app (goodIn_r _ [2, 3, 4, 5] rfl (by decide +kernel)) ggX6_turn_X6_isDay
set_option maxRecDepth 20000 in
theorem ggX6_turn_X6_isCell : GoodIn wsX6_turn wsX6_isCell := goodIn_ca (goodIn_r _ [14, 15, 16, 17, 5, 18, 19, 20, 8, 9, 10] rfl (by decide +kernel)) gt_wsX6_turn_wsX60
set_option maxRecDepth 20000 in
theorem gX6_turn_X6_isCell : GoodIn wsX6_turn (wsV RX6 178 RX6 yX6_isCell wsX6_isCell) := goodIn_app (goodIn_r _ [11, 12, 13, 5] rfl (by decide +kernel)) ggX6_turn_X6_isCell
set_option maxRecDepth 20000 in
theorem ggX6_turn_X6_isMark : GoodIn wsX6_turn wsX6_isMark := goodIn_r _ [23, 24, 8, 9, 5, 10] rfl (by decide +kernel)
set_option maxRecDepth 20000 in
theorem gX6_turn_X6_isMark : GoodIn wsX6_turn (va_wsS RX6 193 yX6_isMark wsX6_isMark) := goodIn_app (goodIn_r _ [21, 22, 5] rfl (by decide +kernel)) ggX6_turn_X6_isMark
theorem dX6_turn_0_t : dqK cX6_turn.data.toList 0 [(0, .aload_n 0, 1), (1, .iload_n 1, 1), (2, .invokevirtual 182, 3), (5, .ifCond .eq 18, 3), (8, .aload_n 0, 1), (9, .iload_n 2, 1), (10, .invokevirtual 178, 3), (13, .ifCond .eq 10, 3), (16, .iload_n 3, 1), (17, .invokestatic 193, 3), (20, .ifCond .ne 5, 3), (23, .iconst (-1), 1), (24, .ireturn, 1), (25, .aload_n 0, 1), (26, .getfield 7, 3), (29, .bipush 16, 2), (31, .iaload, 1), (32, .bipush 10, 2), (34, .if_icmp .ne 6, 3), (37, .bipush (-3), 2), (39, .ireturn, 1), (40, .bipush 17, 2), (42, .iconst 3, 1), (43, .aload_n 0, 1), (44, .getfield 7, 3), (47, .bipush 16, 2), (49, .iaload, 1), (50, .imul, 1), (51, .iadd, 1), (52, .istore 4, 2), (54, .aload_n 0, 1), (55, .getfield 7, 3), (58, .iload 4, 2), (60, .iload_n 1, 1), (61, .iastore, 1), (62, .aload_n 0, 1), (63, .getfield 7, 3), (66, .iload 4, 2), (68, .iconst 1, 1), (69, .iadd, 1)] = true := by decide +kernel
theorem dX6_turn_0 : decode cX6_turn 0 = .ok (.aload_n 0, 1) := dq_get dX6_turn_0_t 0 rfl
theorem dX6_turn_1 : decode cX6_turn 1 = .ok (.iload_n 1, 1) := dq_get dX6_turn_0_t 1 rfl
theorem dX6_turn_2 : decode cX6_turn 2 = .ok (.invokevirtual 182, 3) := dq_get dX6_turn_0_t 2 rfl
theorem dX6_turn_5 : decode cX6_turn 5 = .ok (.ifCond .eq 18, 3) := dq_get dX6_turn_0_t 3 rfl
theorem dX6_turn_8 : decode cX6_turn 8 = .ok (.aload_n 0, 1) := dq_get dX6_turn_0_t 4 rfl
theorem dX6_turn_9 : decode cX6_turn 9 = .ok (.iload_n 2, 1) := dq_get dX6_turn_0_t 5 rfl
theorem dX6_turn_10 : decode cX6_turn 10 = .ok (.invokevirtual 178, 3) := dq_get dX6_turn_0_t 6 rfl
theorem dX6_turn_13 : decode cX6_turn 13 = .ok (.ifCond .eq 10, 3) := dq_get dX6_turn_0_t 7 rfl
theorem dX6_turn_16 : decode cX6_turn 16 = .ok (.iload_n 3, 1) := dq_get dX6_turn_0_t 8 rfl
theorem dX6_turn_17 : decode cX6_turn 17 = .ok (.invokestatic 193, 3) := dq_get dX6_turn_0_t 9 rfl
theorem dX6_turn_20 : decode cX6_turn 20 = .ok (.ifCond .ne 5, 3) := dq_get dX6_turn_0_t 10 rfl
theorem dX6_turn_23 : decode cX6_turn 23 = .ok (.iconst (-1), 1) := dq_get dX6_turn_0_t 11 rfl
theorem dX6_turn_24 : decode cX6_turn 24 = .ok (.ireturn, 1) := dq_get dX6_turn_0_t 12 rfl
theorem dX6_turn_25 : decode cX6_turn 25 = .ok (.aload_n 0, 1) := dq_get dX6_turn_0_t 13 rfl
theorem dX6_turn_26 : decode cX6_turn 26 = .ok (.getfield 7, 3) := dq_get dX6_turn_0_t 14 rfl
theorem dX6_turn_29 : decode cX6_turn 29 = .ok (.bipush 16, 2) := dq_get dX6_turn_0_t 15 rfl
theorem dX6_turn_31 : decode cX6_turn 31 = .ok (.iaload, 1) := dq_get dX6_turn_0_t 16 rfl
theorem dX6_turn_32 : decode cX6_turn 32 = .ok (.bipush 10, 2) := dq_get dX6_turn_0_t 17 rfl
theorem dX6_turn_34 : decode cX6_turn 34 = .ok (.if_icmp .ne 6, 3) := dq_get dX6_turn_0_t 18 rfl
theorem dX6_turn_37 : decode cX6_turn 37 = .ok (.bipush (-3), 2) := dq_get dX6_turn_0_t 19 rfl
theorem dX6_turn_39 : decode cX6_turn 39 = .ok (.ireturn, 1) := dq_get dX6_turn_0_t 20 rfl
theorem dX6_turn_40 : decode cX6_turn 40 = .ok (.bipush 17, 2) := dq_get dX6_turn_0_t 21 rfl
theorem dX6_turn_42 : decode cX6_turn 42 = .ok (.iconst 3, 1) := dq_get dX6_turn_0_t 22 rfl
theorem dX6_turn_43 : decode cX6_turn 43 = .ok (.aload_n 0, 1) := dq_get dX6_turn_0_t 23 rfl
theorem dX6_turn_44 : decode cX6_turn 44 = .ok (.getfield 7, 3) := dq_get dX6_turn_0_t 24 rfl
theorem dX6_turn_47 : decode cX6_turn 47 = .ok (.bipush 16, 2) := dq_get dX6_turn_0_t 25 rfl
theorem dX6_turn_49 : decode cX6_turn 49 = .ok (.iaload, 1) := dq_get dX6_turn_0_t 26 rfl
theorem dX6_turn_50 : decode cX6_turn 50 = .ok (.imul, 1) := dq_get dX6_turn_0_t 27 rfl
theorem dX6_turn_51 : decode cX6_turn 51 = .ok (.iadd, 1) := dq_get dX6_turn_0_t 28 rfl
theorem dX6_turn_52 : decode cX6_turn 52 = .ok (.istore 4, 2) := dq_get dX6_turn_0_t 29 rfl
theorem dX6_turn_54 : decode cX6_turn 54 = .ok (.aload_n 0, 1) := dq_get dX6_turn_0_t 30 rfl
theorem dX6_turn_55 : decode cX6_turn 55 = .ok (.getfield 7, 3) := dq_get dX6_turn_0_t 31 rfl
theorem dX6_turn_58 : decode cX6_turn 58 = .ok (.iload 4, 2) := dq_get dX6_turn_0_t 32 rfl
theorem dX6_turn_60 : decode cX6_turn 60 = .ok (.iload_n 1, 1) := dq_get dX6_turn_0_t 33 rfl
theorem dX6_turn_61 : decode cX6_turn 61 = .ok (.iastore, 1) := dq_get dX6_turn_0_t 34 rfl
theorem dX6_turn_62 : decode cX6_turn 62 = .ok (.aload_n 0, 1) := dq_get dX6_turn_0_t 35 rfl
theorem dX6_turn_63 : decode cX6_turn 63 = .ok (.getfield 7, 3) := dq_get dX6_turn_0_t 36 rfl
theorem dX6_turn_66 : decode cX6_turn 66 = .ok (.iload 4, 2) := dq_get dX6_turn_0_t 37 rfl
theorem dX6_turn_68 : decode cX6_turn 68 = .ok (.iconst 1, 1) := dq_get dX6_turn_0_t 38 rfl
theorem dX6_turn_69 : decode cX6_turn 69 = .ok (.iadd, 1) := dq_get dX6_turn_0_t 39 rfl
theorem dX6_turn_70_t : dqK cX6_turn.data.toList 0 [(70, .iload_n 2, 1), (71, .iastore, 1), (72, .aload_n 0, 1), (73, .getfield 7, 3), (76, .iload 4, 2), (78, .iconst 2, 1), (79, .iadd, 1), (80, .iload_n 3, 1), (81, .iastore, 1), (82, .aload_n 0, 1), (83, .getfield 7, 3), (86, .bipush 16, 2), (88, .dup2, 1), (89, .iaload, 1), (90, .iconst 1, 1), (91, .iadd, 1), (92, .iastore, 1), (93, .aload_n 0, 1), (94, .getfield 7, 3), (97, .bipush 16, 2), (99, .iaload, 1), (100, .ireturn, 1)] = true := by decide +kernel
theorem dX6_turn_70 : decode cX6_turn 70 = .ok (.iload_n 2, 1) := dq_get dX6_turn_70_t 0 rfl
theorem dX6_turn_71 : decode cX6_turn 71 = .ok (.iastore, 1) := dq_get dX6_turn_70_t 1 rfl
theorem dX6_turn_72 : decode cX6_turn 72 = .ok (.aload_n 0, 1) := dq_get dX6_turn_70_t 2 rfl
theorem dX6_turn_73 : decode cX6_turn 73 = .ok (.getfield 7, 3) := dq_get dX6_turn_70_t 3 rfl
theorem dX6_turn_76 : decode cX6_turn 76 = .ok (.iload 4, 2) := dq_get dX6_turn_70_t 4 rfl
theorem dX6_turn_78 : decode cX6_turn 78 = .ok (.iconst 2, 1) := dq_get dX6_turn_70_t 5 rfl
theorem dX6_turn_79 : decode cX6_turn 79 = .ok (.iadd, 1) := dq_get dX6_turn_70_t 6 rfl
theorem dX6_turn_80 : decode cX6_turn 80 = .ok (.iload_n 3, 1) := dq_get dX6_turn_70_t 7 rfl
theorem dX6_turn_81 : decode cX6_turn 81 = .ok (.iastore, 1) := dq_get dX6_turn_70_t 8 rfl
theorem dX6_turn_82 : decode cX6_turn 82 = .ok (.aload_n 0, 1) := dq_get dX6_turn_70_t 9 rfl
theorem dX6_turn_83 : decode cX6_turn 83 = .ok (.getfield 7, 3) := dq_get dX6_turn_70_t 10 rfl
theorem dX6_turn_86 : decode cX6_turn 86 = .ok (.bipush 16, 2) := dq_get dX6_turn_70_t 11 rfl
theorem dX6_turn_88 : decode cX6_turn 88 = .ok (.dup2, 1) := dq_get dX6_turn_70_t 12 rfl
theorem dX6_turn_89 : decode cX6_turn 89 = .ok (.iaload, 1) := dq_get dX6_turn_70_t 13 rfl
theorem dX6_turn_90 : decode cX6_turn 90 = .ok (.iconst 1, 1) := dq_get dX6_turn_70_t 14 rfl
theorem dX6_turn_91 : decode cX6_turn 91 = .ok (.iadd, 1) := dq_get dX6_turn_70_t 15 rfl
theorem dX6_turn_92 : decode cX6_turn 92 = .ok (.iastore, 1) := dq_get dX6_turn_70_t 16 rfl
theorem dX6_turn_93 : decode cX6_turn 93 = .ok (.aload_n 0, 1) := dq_get dX6_turn_70_t 17 rfl
theorem dX6_turn_94 : decode cX6_turn 94 = .ok (.getfield 7, 3) := dq_get dX6_turn_70_t 18 rfl
theorem dX6_turn_97 : decode cX6_turn 97 = .ok (.bipush 16, 2) := dq_get dX6_turn_70_t 19 rfl
theorem dX6_turn_99 : decode cX6_turn 99 = .ok (.iaload, 1) := dq_get dX6_turn_70_t 20 rfl
theorem dX6_turn_100 : decode cX6_turn 100 = .ok (.ireturn, 1) := dq_get dX6_turn_70_t 21 rfl
set_option maxRecDepth 20000 in
theorem ggX6_cut_X6_isPart : GoodIn wsX6_cut wsX6_isPart := goodIn_r _ [5, 6, 7, 4, 8] rfl (by decide +kernel)
set_option maxRecDepth 20000 in
theorem gX6_cut_X6_isPart : GoodIn wsX6_cut (va_wsS RX6 190 yX6_isPart wsX6_isPart) := goodIn_app (goodIn_r _ [2, 3, 4] rfl (by decide +kernel)) ggX6_cut_X6_isPart
set_option maxRecDepth 20000 in
theorem ggX6_cut_X6_in : GoodIn wsX6_cut wsX6_in := goodIn_r _ [8] rfl (by decide +kernel)
set_option maxRecDepth 20000 in
theorem gX6_cut_X6_in : GoodIn wsX6_cut (va_wsS RX6 83 yX6_in wsX6_in) := goodIn_app (goodIn_r _ [6, 7, 4] rfl (by decide +kernel)) ggX6_cut_X6_in
theorem gt_wsX6_cut_wsX60 : GoodIn wsX6_cut wsX60 := fun w hw => ⟨List.mem_cons_of_mem _ (List.mem_append_right _ hw), good_of_word (List.all_eq_true.mp gw_wsX60 w hw)⟩
set_option maxRecDepth 20000 in
theorem ggX6_cut_X6_becomes : GoodIn wsX6_cut wsX6_becomes := goodIn_ca (goodIn_r _ [12, 1] rfl (by decide +kernel)) gt_wsX6_cut_wsX60
set_option maxRecDepth 20000 in
theorem gX6_cut_X6_becomes : GoodIn wsX6_cut (wsV RX6 196 RX6 yX6_becomes wsX6_becomes) := goodIn_app (goodIn_r _ [9, 10, 11, 4] rfl (by decide +kernel)) ggX6_cut_X6_becomes
theorem dX6_cut_0_t : dqK cX6_cut.data.toList 0 [(0, .iload_n 1, 1), (1, .ifCond .ne 8, 3), (4, .bipush 16, 2), (6, .goto 5, 3), (9, .bipush 47, 2), (11, .istore_n 3, 1), (12, .iload_n 1, 1), (13, .invokestatic 190, 3), (16, .ifCond .eq 28, 3), (19, .iload_n 2, 1), (20, .i2l, 1), (21, .lconst 0, 1), (22, .aload_n 0, 1), (23, .getfield 7, 3), (26, .iload_n 3, 1), (27, .iaload, 1), (28, .i2l, 1), (29, .invokestatic 83, 3), (32, .ifCond .eq 12, 3), (35, .aload_n 0, 1), (36, .iload_n 3, 1), (37, .iload_n 2, 1), (38, .invokevirtual 196, 3), (41, .goto 4, 3), (44, .iconst (-1), 1), (45, .ireturn, 1)] = true := by decide +kernel
theorem dX6_cut_0 : decode cX6_cut 0 = .ok (.iload_n 1, 1) := dq_get dX6_cut_0_t 0 rfl
theorem dX6_cut_1 : decode cX6_cut 1 = .ok (.ifCond .ne 8, 3) := dq_get dX6_cut_0_t 1 rfl
theorem dX6_cut_4 : decode cX6_cut 4 = .ok (.bipush 16, 2) := dq_get dX6_cut_0_t 2 rfl
theorem dX6_cut_6 : decode cX6_cut 6 = .ok (.goto 5, 3) := dq_get dX6_cut_0_t 3 rfl
theorem dX6_cut_9 : decode cX6_cut 9 = .ok (.bipush 47, 2) := dq_get dX6_cut_0_t 4 rfl
theorem dX6_cut_11 : decode cX6_cut 11 = .ok (.istore_n 3, 1) := dq_get dX6_cut_0_t 5 rfl
theorem dX6_cut_12 : decode cX6_cut 12 = .ok (.iload_n 1, 1) := dq_get dX6_cut_0_t 6 rfl
theorem dX6_cut_13 : decode cX6_cut 13 = .ok (.invokestatic 190, 3) := dq_get dX6_cut_0_t 7 rfl
theorem dX6_cut_16 : decode cX6_cut 16 = .ok (.ifCond .eq 28, 3) := dq_get dX6_cut_0_t 8 rfl
theorem dX6_cut_19 : decode cX6_cut 19 = .ok (.iload_n 2, 1) := dq_get dX6_cut_0_t 9 rfl
theorem dX6_cut_20 : decode cX6_cut 20 = .ok (.i2l, 1) := dq_get dX6_cut_0_t 10 rfl
theorem dX6_cut_21 : decode cX6_cut 21 = .ok (.lconst 0, 1) := dq_get dX6_cut_0_t 11 rfl
theorem dX6_cut_22 : decode cX6_cut 22 = .ok (.aload_n 0, 1) := dq_get dX6_cut_0_t 12 rfl
theorem dX6_cut_23 : decode cX6_cut 23 = .ok (.getfield 7, 3) := dq_get dX6_cut_0_t 13 rfl
theorem dX6_cut_26 : decode cX6_cut 26 = .ok (.iload_n 3, 1) := dq_get dX6_cut_0_t 14 rfl
theorem dX6_cut_27 : decode cX6_cut 27 = .ok (.iaload, 1) := dq_get dX6_cut_0_t 15 rfl
theorem dX6_cut_28 : decode cX6_cut 28 = .ok (.i2l, 1) := dq_get dX6_cut_0_t 16 rfl
theorem dX6_cut_29 : decode cX6_cut 29 = .ok (.invokestatic 83, 3) := dq_get dX6_cut_0_t 17 rfl
theorem dX6_cut_32 : decode cX6_cut 32 = .ok (.ifCond .eq 12, 3) := dq_get dX6_cut_0_t 18 rfl
theorem dX6_cut_35 : decode cX6_cut 35 = .ok (.aload_n 0, 1) := dq_get dX6_cut_0_t 19 rfl
theorem dX6_cut_36 : decode cX6_cut 36 = .ok (.iload_n 3, 1) := dq_get dX6_cut_0_t 20 rfl
theorem dX6_cut_37 : decode cX6_cut 37 = .ok (.iload_n 2, 1) := dq_get dX6_cut_0_t 21 rfl
theorem dX6_cut_38 : decode cX6_cut 38 = .ok (.invokevirtual 196, 3) := dq_get dX6_cut_0_t 22 rfl
theorem dX6_cut_41 : decode cX6_cut 41 = .ok (.goto 4, 3) := dq_get dX6_cut_0_t 23 rfl
theorem dX6_cut_44 : decode cX6_cut 44 = .ok (.iconst (-1), 1) := dq_get dX6_cut_0_t 24 rfl
theorem dX6_cut_45 : decode cX6_cut 45 = .ok (.ireturn, 1) := dq_get dX6_cut_0_t 25 rfl
theorem gt_wsX6_grind_wsX60 : GoodIn wsX6_grind wsX60 := fun w hw => ⟨List.mem_cons_of_mem _ (List.mem_append_right _ hw), good_of_word (List.all_eq_true.mp gw_wsX60 w hw)⟩
set_option maxRecDepth 20000 in
theorem ggX6_grind_X6_isDay : GoodIn wsX6_grind wsX6_isDay := goodIn_ca (goodIn_r _ [6, 7, 8, 9, 5, 10] rfl (by decide +kernel)) gt_wsX6_grind_wsX60
set_option maxRecDepth 20000 in
theorem gX6_grind_X6_isDay : GoodIn wsX6_grind (wsV RX6 182 RX6 yX6_isDay wsX6_isDay) := goodIn_app (goodIn_r _ [2, 3, 4, 5] rfl (by decide +kernel)) ggX6_grind_X6_isDay
set_option maxRecDepth 20000 in
theorem ggX6_grind_X6_cellsNow : GoodIn wsX6_grind wsX6_cellsNow := goodIn_ca (goodIn_r _ [14, 15, 16] rfl (by decide +kernel)) gt_wsX6_grind_wsX60
set_option maxRecDepth 20000 in
theorem gX6_grind_X6_cellsNow : GoodIn wsX6_grind (wsV RX6 158 RX6 yX6_cellsNow wsX6_cellsNow) := goodIn_app (goodIn_r _ [11, 12, 13, 5] rfl (by decide +kernel)) ggX6_grind_X6_cellsNow
set_option maxRecDepth 20000 in
theorem ggX6_grind_X6_in : GoodIn wsX6_grind wsX6_in := goodIn_r _ [10] rfl (by decide +kernel)
set_option maxRecDepth 20000 in
theorem gX6_grind_X6_in : GoodIn wsX6_grind (va_wsS RX6 83 yX6_in wsX6_in) := goodIn_app (goodIn_r _ [8, 9, 5] rfl (by decide +kernel)) ggX6_grind_X6_in
theorem dX6_grind_0_t : dqK cX6_grind.data.toList 0 [(0, .aload_n 0, 1), (1, .iload_n 1, 1), (2, .invokevirtual 182, 3), (5, .ifCond .eq 21, 3), (8, .iload_n 2, 1), (9, .i2l, 1), (10, .lconst 0, 1), (11, .iconst 1, 1), (12, .aload_n 0, 1), (13, .invokevirtual 158, 3), (16, .ishl, 1), (17, .iconst 1, 1), (18, .isub, 1), (19, .i2l, 1), (20, .invokestatic 83, 3), (23, .ifCond .ne 5, 3), (26, .iconst (-1), 1), (27, .ireturn, 1), (28, .aload_n 0, 1), (29, .getfield 7, 3), (32, .bipush 47, 2), (34, .iaload, 1), (35, .bipush 6, 2), (37, .if_icmp .ne 6, 3), (40, .bipush (-3), 2), (42, .ireturn, 1), (43, .aload_n 0, 1), (44, .getfield 7, 3), (47, .bipush 48, 2), (49, .iconst 2, 1), (50, .aload_n 0, 1), (51, .getfield 7, 3), (54, .bipush 47, 2), (56, .iaload, 1), (57, .imul, 1), (58, .iadd, 1), (59, .iload_n 1, 1), (60, .iastore, 1), (61, .aload_n 0, 1), (62, .getfield 7, 3)] = true := by decide +kernel
theorem dX6_grind_0 : decode cX6_grind 0 = .ok (.aload_n 0, 1) := dq_get dX6_grind_0_t 0 rfl
theorem dX6_grind_1 : decode cX6_grind 1 = .ok (.iload_n 1, 1) := dq_get dX6_grind_0_t 1 rfl
theorem dX6_grind_2 : decode cX6_grind 2 = .ok (.invokevirtual 182, 3) := dq_get dX6_grind_0_t 2 rfl
theorem dX6_grind_5 : decode cX6_grind 5 = .ok (.ifCond .eq 21, 3) := dq_get dX6_grind_0_t 3 rfl
theorem dX6_grind_8 : decode cX6_grind 8 = .ok (.iload_n 2, 1) := dq_get dX6_grind_0_t 4 rfl
theorem dX6_grind_9 : decode cX6_grind 9 = .ok (.i2l, 1) := dq_get dX6_grind_0_t 5 rfl
theorem dX6_grind_10 : decode cX6_grind 10 = .ok (.lconst 0, 1) := dq_get dX6_grind_0_t 6 rfl
theorem dX6_grind_11 : decode cX6_grind 11 = .ok (.iconst 1, 1) := dq_get dX6_grind_0_t 7 rfl
theorem dX6_grind_12 : decode cX6_grind 12 = .ok (.aload_n 0, 1) := dq_get dX6_grind_0_t 8 rfl
theorem dX6_grind_13 : decode cX6_grind 13 = .ok (.invokevirtual 158, 3) := dq_get dX6_grind_0_t 9 rfl
theorem dX6_grind_16 : decode cX6_grind 16 = .ok (.ishl, 1) := dq_get dX6_grind_0_t 10 rfl
theorem dX6_grind_17 : decode cX6_grind 17 = .ok (.iconst 1, 1) := dq_get dX6_grind_0_t 11 rfl
theorem dX6_grind_18 : decode cX6_grind 18 = .ok (.isub, 1) := dq_get dX6_grind_0_t 12 rfl
theorem dX6_grind_19 : decode cX6_grind 19 = .ok (.i2l, 1) := dq_get dX6_grind_0_t 13 rfl
theorem dX6_grind_20 : decode cX6_grind 20 = .ok (.invokestatic 83, 3) := dq_get dX6_grind_0_t 14 rfl
theorem dX6_grind_23 : decode cX6_grind 23 = .ok (.ifCond .ne 5, 3) := dq_get dX6_grind_0_t 15 rfl
theorem dX6_grind_26 : decode cX6_grind 26 = .ok (.iconst (-1), 1) := dq_get dX6_grind_0_t 16 rfl
theorem dX6_grind_27 : decode cX6_grind 27 = .ok (.ireturn, 1) := dq_get dX6_grind_0_t 17 rfl
theorem dX6_grind_28 : decode cX6_grind 28 = .ok (.aload_n 0, 1) := dq_get dX6_grind_0_t 18 rfl
theorem dX6_grind_29 : decode cX6_grind 29 = .ok (.getfield 7, 3) := dq_get dX6_grind_0_t 19 rfl
theorem dX6_grind_32 : decode cX6_grind 32 = .ok (.bipush 47, 2) := dq_get dX6_grind_0_t 20 rfl
theorem dX6_grind_34 : decode cX6_grind 34 = .ok (.iaload, 1) := dq_get dX6_grind_0_t 21 rfl
theorem dX6_grind_35 : decode cX6_grind 35 = .ok (.bipush 6, 2) := dq_get dX6_grind_0_t 22 rfl
theorem dX6_grind_37 : decode cX6_grind 37 = .ok (.if_icmp .ne 6, 3) := dq_get dX6_grind_0_t 23 rfl
theorem dX6_grind_40 : decode cX6_grind 40 = .ok (.bipush (-3), 2) := dq_get dX6_grind_0_t 24 rfl
theorem dX6_grind_42 : decode cX6_grind 42 = .ok (.ireturn, 1) := dq_get dX6_grind_0_t 25 rfl
theorem dX6_grind_43 : decode cX6_grind 43 = .ok (.aload_n 0, 1) := dq_get dX6_grind_0_t 26 rfl
theorem dX6_grind_44 : decode cX6_grind 44 = .ok (.getfield 7, 3) := dq_get dX6_grind_0_t 27 rfl
theorem dX6_grind_47 : decode cX6_grind 47 = .ok (.bipush 48, 2) := dq_get dX6_grind_0_t 28 rfl
theorem dX6_grind_49 : decode cX6_grind 49 = .ok (.iconst 2, 1) := dq_get dX6_grind_0_t 29 rfl
theorem dX6_grind_50 : decode cX6_grind 50 = .ok (.aload_n 0, 1) := dq_get dX6_grind_0_t 30 rfl
theorem dX6_grind_51 : decode cX6_grind 51 = .ok (.getfield 7, 3) := dq_get dX6_grind_0_t 31 rfl
theorem dX6_grind_54 : decode cX6_grind 54 = .ok (.bipush 47, 2) := dq_get dX6_grind_0_t 32 rfl
theorem dX6_grind_56 : decode cX6_grind 56 = .ok (.iaload, 1) := dq_get dX6_grind_0_t 33 rfl
theorem dX6_grind_57 : decode cX6_grind 57 = .ok (.imul, 1) := dq_get dX6_grind_0_t 34 rfl
theorem dX6_grind_58 : decode cX6_grind 58 = .ok (.iadd, 1) := dq_get dX6_grind_0_t 35 rfl
theorem dX6_grind_59 : decode cX6_grind 59 = .ok (.iload_n 1, 1) := dq_get dX6_grind_0_t 36 rfl
theorem dX6_grind_60 : decode cX6_grind 60 = .ok (.iastore, 1) := dq_get dX6_grind_0_t 37 rfl
theorem dX6_grind_61 : decode cX6_grind 61 = .ok (.aload_n 0, 1) := dq_get dX6_grind_0_t 38 rfl
theorem dX6_grind_62 : decode cX6_grind 62 = .ok (.getfield 7, 3) := dq_get dX6_grind_0_t 39 rfl
theorem dX6_grind_65_t : dqK cX6_grind.data.toList 0 [(65, .bipush 48, 2), (67, .iconst 2, 1), (68, .aload_n 0, 1), (69, .getfield 7, 3), (72, .bipush 47, 2), (74, .iaload, 1), (75, .imul, 1), (76, .iadd, 1), (77, .iconst 1, 1), (78, .iadd, 1), (79, .iload_n 2, 1), (80, .iastore, 1), (81, .aload_n 0, 1), (82, .getfield 7, 3), (85, .bipush 47, 2), (87, .dup2, 1), (88, .iaload, 1), (89, .iconst 1, 1), (90, .iadd, 1), (91, .iastore, 1), (92, .aload_n 0, 1), (93, .getfield 7, 3), (96, .bipush 47, 2), (98, .iaload, 1), (99, .ireturn, 1)] = true := by decide +kernel
theorem dX6_grind_65 : decode cX6_grind 65 = .ok (.bipush 48, 2) := dq_get dX6_grind_65_t 0 rfl
theorem dX6_grind_67 : decode cX6_grind 67 = .ok (.iconst 2, 1) := dq_get dX6_grind_65_t 1 rfl
theorem dX6_grind_68 : decode cX6_grind 68 = .ok (.aload_n 0, 1) := dq_get dX6_grind_65_t 2 rfl
theorem dX6_grind_69 : decode cX6_grind 69 = .ok (.getfield 7, 3) := dq_get dX6_grind_65_t 3 rfl
theorem dX6_grind_72 : decode cX6_grind 72 = .ok (.bipush 47, 2) := dq_get dX6_grind_65_t 4 rfl
theorem dX6_grind_74 : decode cX6_grind 74 = .ok (.iaload, 1) := dq_get dX6_grind_65_t 5 rfl
theorem dX6_grind_75 : decode cX6_grind 75 = .ok (.imul, 1) := dq_get dX6_grind_65_t 6 rfl
theorem dX6_grind_76 : decode cX6_grind 76 = .ok (.iadd, 1) := dq_get dX6_grind_65_t 7 rfl
theorem dX6_grind_77 : decode cX6_grind 77 = .ok (.iconst 1, 1) := dq_get dX6_grind_65_t 8 rfl
theorem dX6_grind_78 : decode cX6_grind 78 = .ok (.iadd, 1) := dq_get dX6_grind_65_t 9 rfl
theorem dX6_grind_79 : decode cX6_grind 79 = .ok (.iload_n 2, 1) := dq_get dX6_grind_65_t 10 rfl
theorem dX6_grind_80 : decode cX6_grind 80 = .ok (.iastore, 1) := dq_get dX6_grind_65_t 11 rfl
theorem dX6_grind_81 : decode cX6_grind 81 = .ok (.aload_n 0, 1) := dq_get dX6_grind_65_t 12 rfl
theorem dX6_grind_82 : decode cX6_grind 82 = .ok (.getfield 7, 3) := dq_get dX6_grind_65_t 13 rfl
theorem dX6_grind_85 : decode cX6_grind 85 = .ok (.bipush 47, 2) := dq_get dX6_grind_65_t 14 rfl
theorem dX6_grind_87 : decode cX6_grind 87 = .ok (.dup2, 1) := dq_get dX6_grind_65_t 15 rfl
theorem dX6_grind_88 : decode cX6_grind 88 = .ok (.iaload, 1) := dq_get dX6_grind_65_t 16 rfl
theorem dX6_grind_89 : decode cX6_grind 89 = .ok (.iconst 1, 1) := dq_get dX6_grind_65_t 17 rfl
theorem dX6_grind_90 : decode cX6_grind 90 = .ok (.iadd, 1) := dq_get dX6_grind_65_t 18 rfl
theorem dX6_grind_91 : decode cX6_grind 91 = .ok (.iastore, 1) := dq_get dX6_grind_65_t 19 rfl
theorem dX6_grind_92 : decode cX6_grind 92 = .ok (.aload_n 0, 1) := dq_get dX6_grind_65_t 20 rfl
theorem dX6_grind_93 : decode cX6_grind 93 = .ok (.getfield 7, 3) := dq_get dX6_grind_65_t 21 rfl
theorem dX6_grind_96 : decode cX6_grind 96 = .ok (.bipush 47, 2) := dq_get dX6_grind_65_t 22 rfl
theorem dX6_grind_98 : decode cX6_grind 98 = .ok (.iaload, 1) := dq_get dX6_grind_65_t 23 rfl
theorem dX6_grind_99 : decode cX6_grind 99 = .ok (.ireturn, 1) := dq_get dX6_grind_65_t 24 rfl
theorem gt_wsX6_regrind_wsX60 : GoodIn wsX6_regrind wsX60 := fun w hw => ⟨List.mem_cons_of_mem _ (List.mem_append_right _ hw), good_of_word (List.all_eq_true.mp gw_wsX60 w hw)⟩
set_option maxRecDepth 20000 in
theorem ggX6_regrind_X6_isLens : GoodIn wsX6_regrind wsX6_isLens := goodIn_ca (goodIn_r _ [5, 6, 7, 8, 4, 9] rfl (by decide +kernel)) gt_wsX6_regrind_wsX60
set_option maxRecDepth 20000 in
theorem gX6_regrind_X6_isLens : GoodIn wsX6_regrind (wsV RX6 187 RX6 yX6_isLens wsX6_isLens) := goodIn_app (goodIn_r _ [1, 2, 3, 4] rfl (by decide +kernel)) ggX6_regrind_X6_isLens
set_option maxRecDepth 20000 in
theorem ggX6_regrind_X6_isDay : GoodIn wsX6_regrind wsX6_isDay := goodIn_ca (goodIn_r _ [13, 14, 7, 8, 4, 9] rfl (by decide +kernel)) gt_wsX6_regrind_wsX60
set_option maxRecDepth 20000 in
theorem gX6_regrind_X6_isDay : GoodIn wsX6_regrind (wsV RX6 182 RX6 yX6_isDay wsX6_isDay) := goodIn_app (goodIn_r _ [10, 11, 12, 4] rfl (by decide +kernel)) ggX6_regrind_X6_isDay
set_option maxRecDepth 20000 in
theorem ggX6_regrind_X6_becomes : GoodIn wsX6_regrind wsX6_becomes := goodIn_ca (goodIn_r _ [18, 6] rfl (by decide +kernel)) gt_wsX6_regrind_wsX60
set_option maxRecDepth 20000 in
theorem gX6_regrind_X6_becomes : GoodIn wsX6_regrind (wsV RX6 196 RX6 yX6_becomes wsX6_becomes) := goodIn_app (goodIn_r _ [15, 16, 17, 4] rfl (by decide +kernel)) ggX6_regrind_X6_becomes
theorem dX6_regrind_0_t : dqK cX6_regrind.data.toList 0 [(0, .aload_n 0, 1), (1, .iload_n 1, 1), (2, .invokevirtual 187, 3), (5, .ifCond .eq 25, 3), (8, .aload_n 0, 1), (9, .iload_n 2, 1), (10, .invokevirtual 182, 3), (13, .ifCond .eq 17, 3), (16, .aload_n 0, 1), (17, .bipush 48, 2), (19, .iconst 2, 1), (20, .iload_n 1, 1), (21, .imul, 1), (22, .iadd, 1), (23, .iload_n 2, 1), (24, .invokevirtual 196, 3), (27, .goto 4, 3), (30, .iconst (-1), 1), (31, .ireturn, 1)] = true := by decide +kernel
theorem dX6_regrind_0 : decode cX6_regrind 0 = .ok (.aload_n 0, 1) := dq_get dX6_regrind_0_t 0 rfl
theorem dX6_regrind_1 : decode cX6_regrind 1 = .ok (.iload_n 1, 1) := dq_get dX6_regrind_0_t 1 rfl
theorem dX6_regrind_2 : decode cX6_regrind 2 = .ok (.invokevirtual 187, 3) := dq_get dX6_regrind_0_t 2 rfl
theorem dX6_regrind_5 : decode cX6_regrind 5 = .ok (.ifCond .eq 25, 3) := dq_get dX6_regrind_0_t 3 rfl
theorem dX6_regrind_8 : decode cX6_regrind 8 = .ok (.aload_n 0, 1) := dq_get dX6_regrind_0_t 4 rfl
theorem dX6_regrind_9 : decode cX6_regrind 9 = .ok (.iload_n 2, 1) := dq_get dX6_regrind_0_t 5 rfl
theorem dX6_regrind_10 : decode cX6_regrind 10 = .ok (.invokevirtual 182, 3) := dq_get dX6_regrind_0_t 6 rfl
theorem dX6_regrind_13 : decode cX6_regrind 13 = .ok (.ifCond .eq 17, 3) := dq_get dX6_regrind_0_t 7 rfl
theorem dX6_regrind_16 : decode cX6_regrind 16 = .ok (.aload_n 0, 1) := dq_get dX6_regrind_0_t 8 rfl
theorem dX6_regrind_17 : decode cX6_regrind 17 = .ok (.bipush 48, 2) := dq_get dX6_regrind_0_t 9 rfl
theorem dX6_regrind_19 : decode cX6_regrind 19 = .ok (.iconst 2, 1) := dq_get dX6_regrind_0_t 10 rfl
theorem dX6_regrind_20 : decode cX6_regrind 20 = .ok (.iload_n 1, 1) := dq_get dX6_regrind_0_t 11 rfl
theorem dX6_regrind_21 : decode cX6_regrind 21 = .ok (.imul, 1) := dq_get dX6_regrind_0_t 12 rfl
theorem dX6_regrind_22 : decode cX6_regrind 22 = .ok (.iadd, 1) := dq_get dX6_regrind_0_t 13 rfl
theorem dX6_regrind_23 : decode cX6_regrind 23 = .ok (.iload_n 2, 1) := dq_get dX6_regrind_0_t 14 rfl
theorem dX6_regrind_24 : decode cX6_regrind 24 = .ok (.invokevirtual 196, 3) := dq_get dX6_regrind_0_t 15 rfl
theorem dX6_regrind_27 : decode cX6_regrind 27 = .ok (.goto 4, 3) := dq_get dX6_regrind_0_t 16 rfl
theorem dX6_regrind_30 : decode cX6_regrind 30 = .ok (.iconst (-1), 1) := dq_get dX6_regrind_0_t 17 rfl
theorem dX6_regrind_31 : decode cX6_regrind 31 = .ok (.ireturn, 1) := dq_get dX6_regrind_0_t 18 rfl
theorem gt_wsX6_crack_wsX60 : GoodIn wsX6_crack wsX60 := fun w hw => ⟨List.mem_cons_of_mem _ (List.mem_append_right _ hw), good_of_word (List.all_eq_true.mp gw_wsX60 w hw)⟩
set_option maxRecDepth 20000 in
theorem ggX6_crack_X6_isLens : GoodIn wsX6_crack wsX6_isLens := goodIn_ca (goodIn_r _ [6, 1, 7, 8, 5, 9] rfl (by decide +kernel)) gt_wsX6_crack_wsX60
set_option maxRecDepth 20000 in
theorem gX6_crack_X6_isLens : GoodIn wsX6_crack (wsV RX6 187 RX6 yX6_isLens wsX6_isLens) := goodIn_app (goodIn_r _ [2, 3, 4, 5] rfl (by decide +kernel)) ggX6_crack_X6_isLens
set_option maxRecDepth 20000 in
theorem ggX6_crack_X6_isCell : GoodIn wsX6_crack wsX6_isCell := goodIn_ca (goodIn_r _ [13, 14, 15, 16, 5, 17, 18, 19, 7, 8, 9] rfl (by decide +kernel)) gt_wsX6_crack_wsX60
set_option maxRecDepth 20000 in
theorem gX6_crack_X6_isCell : GoodIn wsX6_crack (wsV RX6 178 RX6 yX6_isCell wsX6_isCell) := goodIn_app (goodIn_r _ [10, 11, 12, 5] rfl (by decide +kernel)) ggX6_crack_X6_isCell
theorem dX6_crack_0_t : dqK cX6_crack.data.toList 0 [(0, .aload_n 0, 1), (1, .iload_n 1, 1), (2, .invokevirtual 187, 3), (5, .ifCond .eq 11, 3), (8, .aload_n 0, 1), (9, .iload_n 2, 1), (10, .invokevirtual 178, 3), (13, .ifCond .ne 5, 3), (16, .iconst (-1), 1), (17, .ireturn, 1), (18, .bipush 48, 2), (20, .iconst 2, 1), (21, .iload_n 1, 1), (22, .imul, 1), (23, .iadd, 1), (24, .iconst 1, 1), (25, .iadd, 1), (26, .istore 4, 2), (28, .aload_n 0, 1), (29, .getfield 7, 3), (32, .iload 4, 2), (34, .iaload, 1), (35, .iload_n 2, 1), (36, .ishr, 1), (37, .iconst 1, 1), (38, .iand, 1), (39, .istore 5, 2), (41, .aload_n 0, 1), (42, .getfield 7, 3), (45, .iload 4, 2), (47, .iload_n 3, 1), (48, .ifCond .eq 17, 3), (51, .aload_n 0, 1), (52, .getfield 7, 3), (55, .iload 4, 2), (57, .iaload, 1), (58, .iconst 1, 1), (59, .iload_n 2, 1), (60, .ishl, 1), (61, .ior, 1)] = true := by decide +kernel
theorem dX6_crack_0 : decode cX6_crack 0 = .ok (.aload_n 0, 1) := dq_get dX6_crack_0_t 0 rfl
theorem dX6_crack_1 : decode cX6_crack 1 = .ok (.iload_n 1, 1) := dq_get dX6_crack_0_t 1 rfl
theorem dX6_crack_2 : decode cX6_crack 2 = .ok (.invokevirtual 187, 3) := dq_get dX6_crack_0_t 2 rfl
theorem dX6_crack_5 : decode cX6_crack 5 = .ok (.ifCond .eq 11, 3) := dq_get dX6_crack_0_t 3 rfl
theorem dX6_crack_8 : decode cX6_crack 8 = .ok (.aload_n 0, 1) := dq_get dX6_crack_0_t 4 rfl
theorem dX6_crack_9 : decode cX6_crack 9 = .ok (.iload_n 2, 1) := dq_get dX6_crack_0_t 5 rfl
theorem dX6_crack_10 : decode cX6_crack 10 = .ok (.invokevirtual 178, 3) := dq_get dX6_crack_0_t 6 rfl
theorem dX6_crack_13 : decode cX6_crack 13 = .ok (.ifCond .ne 5, 3) := dq_get dX6_crack_0_t 7 rfl
theorem dX6_crack_16 : decode cX6_crack 16 = .ok (.iconst (-1), 1) := dq_get dX6_crack_0_t 8 rfl
theorem dX6_crack_17 : decode cX6_crack 17 = .ok (.ireturn, 1) := dq_get dX6_crack_0_t 9 rfl
theorem dX6_crack_18 : decode cX6_crack 18 = .ok (.bipush 48, 2) := dq_get dX6_crack_0_t 10 rfl
theorem dX6_crack_20 : decode cX6_crack 20 = .ok (.iconst 2, 1) := dq_get dX6_crack_0_t 11 rfl
theorem dX6_crack_21 : decode cX6_crack 21 = .ok (.iload_n 1, 1) := dq_get dX6_crack_0_t 12 rfl
theorem dX6_crack_22 : decode cX6_crack 22 = .ok (.imul, 1) := dq_get dX6_crack_0_t 13 rfl
theorem dX6_crack_23 : decode cX6_crack 23 = .ok (.iadd, 1) := dq_get dX6_crack_0_t 14 rfl
theorem dX6_crack_24 : decode cX6_crack 24 = .ok (.iconst 1, 1) := dq_get dX6_crack_0_t 15 rfl
theorem dX6_crack_25 : decode cX6_crack 25 = .ok (.iadd, 1) := dq_get dX6_crack_0_t 16 rfl
theorem dX6_crack_26 : decode cX6_crack 26 = .ok (.istore 4, 2) := dq_get dX6_crack_0_t 17 rfl
theorem dX6_crack_28 : decode cX6_crack 28 = .ok (.aload_n 0, 1) := dq_get dX6_crack_0_t 18 rfl
theorem dX6_crack_29 : decode cX6_crack 29 = .ok (.getfield 7, 3) := dq_get dX6_crack_0_t 19 rfl
theorem dX6_crack_32 : decode cX6_crack 32 = .ok (.iload 4, 2) := dq_get dX6_crack_0_t 20 rfl
theorem dX6_crack_34 : decode cX6_crack 34 = .ok (.iaload, 1) := dq_get dX6_crack_0_t 21 rfl
theorem dX6_crack_35 : decode cX6_crack 35 = .ok (.iload_n 2, 1) := dq_get dX6_crack_0_t 22 rfl
theorem dX6_crack_36 : decode cX6_crack 36 = .ok (.ishr, 1) := dq_get dX6_crack_0_t 23 rfl
theorem dX6_crack_37 : decode cX6_crack 37 = .ok (.iconst 1, 1) := dq_get dX6_crack_0_t 24 rfl
theorem dX6_crack_38 : decode cX6_crack 38 = .ok (.iand, 1) := dq_get dX6_crack_0_t 25 rfl
theorem dX6_crack_39 : decode cX6_crack 39 = .ok (.istore 5, 2) := dq_get dX6_crack_0_t 26 rfl
theorem dX6_crack_41 : decode cX6_crack 41 = .ok (.aload_n 0, 1) := dq_get dX6_crack_0_t 27 rfl
theorem dX6_crack_42 : decode cX6_crack 42 = .ok (.getfield 7, 3) := dq_get dX6_crack_0_t 28 rfl
theorem dX6_crack_45 : decode cX6_crack 45 = .ok (.iload 4, 2) := dq_get dX6_crack_0_t 29 rfl
theorem dX6_crack_47 : decode cX6_crack 47 = .ok (.iload_n 3, 1) := dq_get dX6_crack_0_t 30 rfl
theorem dX6_crack_48 : decode cX6_crack 48 = .ok (.ifCond .eq 17, 3) := dq_get dX6_crack_0_t 31 rfl
theorem dX6_crack_51 : decode cX6_crack 51 = .ok (.aload_n 0, 1) := dq_get dX6_crack_0_t 32 rfl
theorem dX6_crack_52 : decode cX6_crack 52 = .ok (.getfield 7, 3) := dq_get dX6_crack_0_t 33 rfl
theorem dX6_crack_55 : decode cX6_crack 55 = .ok (.iload 4, 2) := dq_get dX6_crack_0_t 34 rfl
theorem dX6_crack_57 : decode cX6_crack 57 = .ok (.iaload, 1) := dq_get dX6_crack_0_t 35 rfl
theorem dX6_crack_58 : decode cX6_crack 58 = .ok (.iconst 1, 1) := dq_get dX6_crack_0_t 36 rfl
theorem dX6_crack_59 : decode cX6_crack 59 = .ok (.iload_n 2, 1) := dq_get dX6_crack_0_t 37 rfl
theorem dX6_crack_60 : decode cX6_crack 60 = .ok (.ishl, 1) := dq_get dX6_crack_0_t 38 rfl
theorem dX6_crack_61 : decode cX6_crack 61 = .ok (.ior, 1) := dq_get dX6_crack_0_t 39 rfl
theorem dX6_crack_62_t : dqK cX6_crack.data.toList 0 [(62, .goto 16, 3), (65, .aload_n 0, 1), (66, .getfield 7, 3), (69, .iload 4, 2), (71, .iaload, 1), (72, .iconst 1, 1), (73, .iload_n 2, 1), (74, .ishl, 1), (75, .iconst (-1), 1), (76, .ixor, 1), (77, .iand, 1), (78, .iastore, 1), (79, .iload 5, 2), (81, .ireturn, 1)] = true := by decide +kernel
theorem dX6_crack_62 : decode cX6_crack 62 = .ok (.goto 16, 3) := dq_get dX6_crack_62_t 0 rfl
theorem dX6_crack_65 : decode cX6_crack 65 = .ok (.aload_n 0, 1) := dq_get dX6_crack_62_t 1 rfl
theorem dX6_crack_66 : decode cX6_crack 66 = .ok (.getfield 7, 3) := dq_get dX6_crack_62_t 2 rfl
theorem dX6_crack_69 : decode cX6_crack 69 = .ok (.iload 4, 2) := dq_get dX6_crack_62_t 3 rfl
theorem dX6_crack_71 : decode cX6_crack 71 = .ok (.iaload, 1) := dq_get dX6_crack_62_t 4 rfl
theorem dX6_crack_72 : decode cX6_crack 72 = .ok (.iconst 1, 1) := dq_get dX6_crack_62_t 5 rfl
theorem dX6_crack_73 : decode cX6_crack 73 = .ok (.iload_n 2, 1) := dq_get dX6_crack_62_t 6 rfl
theorem dX6_crack_74 : decode cX6_crack 74 = .ok (.ishl, 1) := dq_get dX6_crack_62_t 7 rfl
theorem dX6_crack_75 : decode cX6_crack 75 = .ok (.iconst (-1), 1) := dq_get dX6_crack_62_t 8 rfl
theorem dX6_crack_76 : decode cX6_crack 76 = .ok (.ixor, 1) := dq_get dX6_crack_62_t 9 rfl
theorem dX6_crack_77 : decode cX6_crack 77 = .ok (.iand, 1) := dq_get dX6_crack_62_t 10 rfl
theorem dX6_crack_78 : decode cX6_crack 78 = .ok (.iastore, 1) := dq_get dX6_crack_62_t 11 rfl
theorem dX6_crack_79 : decode cX6_crack 79 = .ok (.iload 5, 2) := dq_get dX6_crack_62_t 12 rfl
theorem dX6_crack_81 : decode cX6_crack 81 = .ok (.ireturn, 1) := dq_get dX6_crack_62_t 13 rfl
theorem gt_wsX6_sees_wsX60 : GoodIn wsX6_sees wsX60 := fun w hw => ⟨List.mem_cons_of_mem _ (List.mem_append_right _ hw), good_of_word (List.all_eq_true.mp gw_wsX60 w hw)⟩
set_option maxRecDepth 20000 in
theorem ggX6_sees_X6_isCell : GoodIn wsX6_sees wsX6_isCell := goodIn_ca (goodIn_r _ [5, 6, 7, 8, 4, 9, 10, 11, 12, 13, 14] rfl (by decide +kernel)) gt_wsX6_sees_wsX60
set_option maxRecDepth 20000 in
theorem gX6_sees_X6_isCell : GoodIn wsX6_sees (wsV RX6 178 RX6 yX6_isCell wsX6_isCell) := goodIn_app (goodIn_r _ [1, 2, 3, 4] rfl (by decide +kernel)) ggX6_sees_X6_isCell
set_option maxRecDepth 20000 in
theorem ggX6_sees_X6_isDay : GoodIn wsX6_sees wsX6_isDay := goodIn_ca (goodIn_r _ [18, 19, 12, 13, 4, 14] rfl (by decide +kernel)) gt_wsX6_sees_wsX60
set_option maxRecDepth 20000 in
theorem gX6_sees_X6_isDay : GoodIn wsX6_sees (wsV RX6 182 RX6 yX6_isDay wsX6_isDay) := goodIn_app (goodIn_r _ [15, 16, 17, 4] rfl (by decide +kernel)) ggX6_sees_X6_isDay
set_option maxRecDepth 20000 in
theorem ggX6_sees_X6_sightOn : GoodIn wsX6_sees wsX6_sightOn := goodIn_ca (goodIn_r _ [23, 24, 25, 26, 4, 27, 28, 29, 30, 31, 32, 33, 34, 35, 36, 37, 38, 39, 40, 41, 10, 6, 7, 8, 9, 11] rfl (by decide +kernel)) gt_wsX6_sees_wsX60
set_option maxRecDepth 20000 in
theorem gX6_sees_X6_sightOn : GoodIn wsX6_sees (wsV RX6 175 RX6 yX6_sightOn wsX6_sightOn) := goodIn_app (goodIn_r _ [20, 21, 22, 4] rfl (by decide +kernel)) ggX6_sees_X6_sightOn
theorem dX6_sees_0_t : dqK cX6_sees.data.toList 0 [(0, .aload_n 0, 1), (1, .iload_n 1, 1), (2, .invokevirtual 178, 3), (5, .ifCond .eq 20, 3), (8, .aload_n 0, 1), (9, .iload_n 2, 1), (10, .invokevirtual 182, 3), (13, .ifCond .eq 12, 3), (16, .aload_n 0, 1), (17, .iload_n 1, 1), (18, .iload_n 2, 1), (19, .invokevirtual 175, 3), (22, .goto 4, 3), (25, .iconst (-1), 1), (26, .ireturn, 1)] = true := by decide +kernel
theorem dX6_sees_0 : decode cX6_sees 0 = .ok (.aload_n 0, 1) := dq_get dX6_sees_0_t 0 rfl
theorem dX6_sees_1 : decode cX6_sees 1 = .ok (.iload_n 1, 1) := dq_get dX6_sees_0_t 1 rfl
theorem dX6_sees_2 : decode cX6_sees 2 = .ok (.invokevirtual 178, 3) := dq_get dX6_sees_0_t 2 rfl
theorem dX6_sees_5 : decode cX6_sees 5 = .ok (.ifCond .eq 20, 3) := dq_get dX6_sees_0_t 3 rfl
theorem dX6_sees_8 : decode cX6_sees 8 = .ok (.aload_n 0, 1) := dq_get dX6_sees_0_t 4 rfl
theorem dX6_sees_9 : decode cX6_sees 9 = .ok (.iload_n 2, 1) := dq_get dX6_sees_0_t 5 rfl
theorem dX6_sees_10 : decode cX6_sees 10 = .ok (.invokevirtual 182, 3) := dq_get dX6_sees_0_t 6 rfl
theorem dX6_sees_13 : decode cX6_sees 13 = .ok (.ifCond .eq 12, 3) := dq_get dX6_sees_0_t 7 rfl
theorem dX6_sees_16 : decode cX6_sees 16 = .ok (.aload_n 0, 1) := dq_get dX6_sees_0_t 8 rfl
theorem dX6_sees_17 : decode cX6_sees 17 = .ok (.iload_n 1, 1) := dq_get dX6_sees_0_t 9 rfl
theorem dX6_sees_18 : decode cX6_sees 18 = .ok (.iload_n 2, 1) := dq_get dX6_sees_0_t 10 rfl
theorem dX6_sees_19 : decode cX6_sees 19 = .ok (.invokevirtual 175, 3) := dq_get dX6_sees_0_t 11 rfl
theorem dX6_sees_22 : decode cX6_sees 22 = .ok (.goto 4, 3) := dq_get dX6_sees_0_t 12 rfl
theorem dX6_sees_25 : decode cX6_sees 25 = .ok (.iconst (-1), 1) := dq_get dX6_sees_0_t 13 rfl
theorem dX6_sees_26 : decode cX6_sees 26 = .ok (.ireturn, 1) := dq_get dX6_sees_0_t 14 rfl
theorem gt_wsX6_shows_wsX60 : GoodIn wsX6_shows wsX60 := fun w hw => ⟨List.mem_cons_of_mem _ (List.mem_append_right _ hw), good_of_word (List.all_eq_true.mp gw_wsX60 w hw)⟩
set_option maxRecDepth 20000 in
theorem ggX6_shows_X6_isLens : GoodIn wsX6_shows wsX6_isLens := goodIn_ca (goodIn_r _ [6, 1, 7, 8, 5, 9] rfl (by decide +kernel)) gt_wsX6_shows_wsX60
set_option maxRecDepth 20000 in
theorem gX6_shows_X6_isLens : GoodIn wsX6_shows (wsV RX6 187 RX6 yX6_isLens wsX6_isLens) := goodIn_app (goodIn_r _ [2, 3, 4, 5] rfl (by decide +kernel)) ggX6_shows_X6_isLens
set_option maxRecDepth 20000 in
theorem ggX6_shows_X6_isCell : GoodIn wsX6_shows wsX6_isCell := goodIn_ca (goodIn_r _ [13, 14, 15, 16, 5, 17, 18, 19, 7, 8, 9] rfl (by decide +kernel)) gt_wsX6_shows_wsX60
set_option maxRecDepth 20000 in
theorem gX6_shows_X6_isCell : GoodIn wsX6_shows (wsV RX6 178 RX6 yX6_isCell wsX6_isCell) := goodIn_app (goodIn_r _ [10, 11, 12, 5] rfl (by decide +kernel)) ggX6_shows_X6_isCell
set_option maxRecDepth 20000 in
theorem ggX6_shows_X6_shownBy : GoodIn wsX6_shows wsX6_shownBy := goodIn_ca (goodIn_r _ [23, 1, 24, 25, 26, 5, 27, 28, 29, 30, 31, 32, 33, 34, 35, 36, 37, 38, 39, 40, 41, 42, 43, 44, 18, 14, 15, 16, 17, 19] rfl (by decide +kernel)) gt_wsX6_shows_wsX60
set_option maxRecDepth 20000 in
theorem gX6_shows_X6_shownBy : GoodIn wsX6_shows (wsV RX6 199 RX6 yX6_shownBy wsX6_shownBy) := goodIn_app (goodIn_r _ [20, 21, 22, 5] rfl (by decide +kernel)) ggX6_shows_X6_shownBy
set_option maxRecDepth 20000 in
theorem ggX6_shows_X6_markOf : GoodIn wsX6_shows wsX6_markOf := goodIn_ca (goodIn_r _ [36, 1] rfl (by decide +kernel)) gt_wsX6_shows_wsX60
set_option maxRecDepth 20000 in
theorem gX6_shows_X6_markOf : GoodIn wsX6_shows (wsV RX6 163 RX6 yX6_markOf wsX6_markOf) := goodIn_app (goodIn_r _ [33, 34, 35, 5] rfl (by decide +kernel)) ggX6_shows_X6_markOf
theorem dX6_shows_0_t : dqK cX6_shows.data.toList 0 [(0, .aload_n 0, 1), (1, .iload_n 1, 1), (2, .invokevirtual 187, 3), (5, .ifCond .eq 19, 3), (8, .aload_n 0, 1), (9, .iload_n 2, 1), (10, .invokevirtual 178, 3), (13, .ifCond .eq 11, 3), (16, .aload_n 0, 1), (17, .iload_n 3, 1), (18, .invokevirtual 178, 3), (21, .ifCond .ne 5, 3), (24, .iconst (-1), 1), (25, .ireturn, 1), (26, .aload_n 0, 1), (27, .iload_n 1, 1), (28, .iload_n 2, 1), (29, .invokevirtual 199, 3), (32, .iload_n 3, 1), (33, .ishr, 1), (34, .iconst 1, 1), (35, .iand, 1), (36, .iconst 1, 1), (37, .if_icmp .ne 22, 3), (40, .aload_n 0, 1), (41, .iload_n 3, 1), (42, .aload_n 0, 1), (43, .getfield 7, 3), (46, .bipush 48, 2), (48, .iconst 2, 1), (49, .iload_n 1, 1), (50, .imul, 1), (51, .iadd, 1), (52, .iaload, 1), (53, .invokevirtual 163, 3), (56, .goto 5, 3), (59, .bipush (-4), 2), (61, .ireturn, 1)] = true := by decide +kernel
theorem dX6_shows_0 : decode cX6_shows 0 = .ok (.aload_n 0, 1) := dq_get dX6_shows_0_t 0 rfl
theorem dX6_shows_1 : decode cX6_shows 1 = .ok (.iload_n 1, 1) := dq_get dX6_shows_0_t 1 rfl
theorem dX6_shows_2 : decode cX6_shows 2 = .ok (.invokevirtual 187, 3) := dq_get dX6_shows_0_t 2 rfl
theorem dX6_shows_5 : decode cX6_shows 5 = .ok (.ifCond .eq 19, 3) := dq_get dX6_shows_0_t 3 rfl
theorem dX6_shows_8 : decode cX6_shows 8 = .ok (.aload_n 0, 1) := dq_get dX6_shows_0_t 4 rfl
theorem dX6_shows_9 : decode cX6_shows 9 = .ok (.iload_n 2, 1) := dq_get dX6_shows_0_t 5 rfl
theorem dX6_shows_10 : decode cX6_shows 10 = .ok (.invokevirtual 178, 3) := dq_get dX6_shows_0_t 6 rfl
theorem dX6_shows_13 : decode cX6_shows 13 = .ok (.ifCond .eq 11, 3) := dq_get dX6_shows_0_t 7 rfl
theorem dX6_shows_16 : decode cX6_shows 16 = .ok (.aload_n 0, 1) := dq_get dX6_shows_0_t 8 rfl
theorem dX6_shows_17 : decode cX6_shows 17 = .ok (.iload_n 3, 1) := dq_get dX6_shows_0_t 9 rfl
theorem dX6_shows_18 : decode cX6_shows 18 = .ok (.invokevirtual 178, 3) := dq_get dX6_shows_0_t 10 rfl
theorem dX6_shows_21 : decode cX6_shows 21 = .ok (.ifCond .ne 5, 3) := dq_get dX6_shows_0_t 11 rfl
theorem dX6_shows_24 : decode cX6_shows 24 = .ok (.iconst (-1), 1) := dq_get dX6_shows_0_t 12 rfl
theorem dX6_shows_25 : decode cX6_shows 25 = .ok (.ireturn, 1) := dq_get dX6_shows_0_t 13 rfl
theorem dX6_shows_26 : decode cX6_shows 26 = .ok (.aload_n 0, 1) := dq_get dX6_shows_0_t 14 rfl
theorem dX6_shows_27 : decode cX6_shows 27 = .ok (.iload_n 1, 1) := dq_get dX6_shows_0_t 15 rfl
theorem dX6_shows_28 : decode cX6_shows 28 = .ok (.iload_n 2, 1) := dq_get dX6_shows_0_t 16 rfl
theorem dX6_shows_29 : decode cX6_shows 29 = .ok (.invokevirtual 199, 3) := dq_get dX6_shows_0_t 17 rfl
theorem dX6_shows_32 : decode cX6_shows 32 = .ok (.iload_n 3, 1) := dq_get dX6_shows_0_t 18 rfl
theorem dX6_shows_33 : decode cX6_shows 33 = .ok (.ishr, 1) := dq_get dX6_shows_0_t 19 rfl
theorem dX6_shows_34 : decode cX6_shows 34 = .ok (.iconst 1, 1) := dq_get dX6_shows_0_t 20 rfl
theorem dX6_shows_35 : decode cX6_shows 35 = .ok (.iand, 1) := dq_get dX6_shows_0_t 21 rfl
theorem dX6_shows_36 : decode cX6_shows 36 = .ok (.iconst 1, 1) := dq_get dX6_shows_0_t 22 rfl
theorem dX6_shows_37 : decode cX6_shows 37 = .ok (.if_icmp .ne 22, 3) := dq_get dX6_shows_0_t 23 rfl
theorem dX6_shows_40 : decode cX6_shows 40 = .ok (.aload_n 0, 1) := dq_get dX6_shows_0_t 24 rfl
theorem dX6_shows_41 : decode cX6_shows 41 = .ok (.iload_n 3, 1) := dq_get dX6_shows_0_t 25 rfl
theorem dX6_shows_42 : decode cX6_shows 42 = .ok (.aload_n 0, 1) := dq_get dX6_shows_0_t 26 rfl
theorem dX6_shows_43 : decode cX6_shows 43 = .ok (.getfield 7, 3) := dq_get dX6_shows_0_t 27 rfl
theorem dX6_shows_46 : decode cX6_shows 46 = .ok (.bipush 48, 2) := dq_get dX6_shows_0_t 28 rfl
theorem dX6_shows_48 : decode cX6_shows 48 = .ok (.iconst 2, 1) := dq_get dX6_shows_0_t 29 rfl
theorem dX6_shows_49 : decode cX6_shows 49 = .ok (.iload_n 1, 1) := dq_get dX6_shows_0_t 30 rfl
theorem dX6_shows_50 : decode cX6_shows 50 = .ok (.imul, 1) := dq_get dX6_shows_0_t 31 rfl
theorem dX6_shows_51 : decode cX6_shows 51 = .ok (.iadd, 1) := dq_get dX6_shows_0_t 32 rfl
theorem dX6_shows_52 : decode cX6_shows 52 = .ok (.iaload, 1) := dq_get dX6_shows_0_t 33 rfl
theorem dX6_shows_53 : decode cX6_shows 53 = .ok (.invokevirtual 163, 3) := dq_get dX6_shows_0_t 34 rfl
theorem dX6_shows_56 : decode cX6_shows 56 = .ok (.goto 5, 3) := dq_get dX6_shows_0_t 35 rfl
theorem dX6_shows_59 : decode cX6_shows 59 = .ok (.bipush (-4), 2) := dq_get dX6_shows_0_t 36 rfl
theorem dX6_shows_61 : decode cX6_shows 61 = .ok (.ireturn, 1) := dq_get dX6_shows_0_t 37 rfl
theorem gt_wsX6_frame_wsX60 : GoodIn wsX6_frame wsX60 := fun w hw => ⟨List.mem_cons_of_mem _ (List.mem_append_right _ hw), good_of_word (List.all_eq_true.mp gw_wsX60 w hw)⟩
set_option maxRecDepth 20000 in
theorem ggX6_frame_X6_isLens : GoodIn wsX6_frame wsX6_isLens := goodIn_ca (goodIn_r _ [6, 1, 7, 8, 5, 9] rfl (by decide +kernel)) gt_wsX6_frame_wsX60
set_option maxRecDepth 20000 in
theorem gX6_frame_X6_isLens : GoodIn wsX6_frame (wsV RX6 187 RX6 yX6_isLens wsX6_isLens) := goodIn_app (goodIn_r _ [2, 3, 4, 5] rfl (by decide +kernel)) ggX6_frame_X6_isLens
set_option maxRecDepth 20000 in
theorem ggX6_frame_X6_isCell : GoodIn wsX6_frame wsX6_isCell := goodIn_ca (goodIn_r _ [13, 14, 15, 16, 5, 17, 18, 19, 7, 8, 9] rfl (by decide +kernel)) gt_wsX6_frame_wsX60
set_option maxRecDepth 20000 in
theorem gX6_frame_X6_isCell : GoodIn wsX6_frame (wsV RX6 178 RX6 yX6_isCell wsX6_isCell) := goodIn_app (goodIn_r _ [10, 11, 12, 5] rfl (by decide +kernel)) ggX6_frame_X6_isCell
set_option maxRecDepth 20000 in
theorem ggX6_frame_X6_shownBy : GoodIn wsX6_frame wsX6_shownBy := goodIn_ca (goodIn_r _ [23, 1, 24, 25, 26, 5, 27, 28, 29, 30, 31, 32, 33, 34, 35, 36, 37, 38, 39, 40, 41, 42, 43, 44, 18, 14, 15, 16, 17, 19] rfl (by decide +kernel)) gt_wsX6_frame_wsX60
set_option maxRecDepth 20000 in
theorem gX6_frame_X6_shownBy : GoodIn wsX6_frame (wsV RX6 199 RX6 yX6_shownBy wsX6_shownBy) := goodIn_app (goodIn_r _ [20, 21, 22, 5] rfl (by decide +kernel)) ggX6_frame_X6_shownBy
set_option maxRecDepth 20000 in
theorem ggX6_frame_X6_unlike : GoodIn wsX6_frame wsX6_unlike := goodIn_ca (goodIn_r _ [48, 14, 15, 16, 5, 17, 18, 19, 33, 34, 35, 36, 1, 49, 50, 51] rfl (by decide +kernel)) gt_wsX6_frame_wsX60
set_option maxRecDepth 20000 in
theorem gX6_frame_X6_unlike : GoodIn wsX6_frame (wsV RX6 202 RX6 yX6_unlike wsX6_unlike) := goodIn_app (goodIn_r _ [45, 46, 47, 5] rfl (by decide +kernel)) ggX6_frame_X6_unlike
theorem dX6_frame_0_t : dqK cX6_frame.data.toList 0 [(0, .aload_n 0, 1), (1, .iload_n 1, 1), (2, .invokevirtual 187, 3), (5, .ifCond .eq 19, 3), (8, .aload_n 0, 1), (9, .iload_n 2, 1), (10, .invokevirtual 187, 3), (13, .ifCond .eq 11, 3), (16, .aload_n 0, 1), (17, .iload_n 3, 1), (18, .invokevirtual 178, 3), (21, .ifCond .ne 5, 3), (24, .iconst (-1), 1), (25, .ireturn, 1), (26, .aload_n 0, 1), (27, .iload_n 1, 1), (28, .iload_n 3, 1), (29, .invokevirtual 199, 3), (32, .aload_n 0, 1), (33, .iload_n 2, 1), (34, .iload_n 3, 1), (35, .invokevirtual 199, 3), (38, .iand, 1), (39, .aload_n 0, 1), (40, .aload_n 0, 1), (41, .getfield 7, 3), (44, .bipush 48, 2), (46, .iconst 2, 1), (47, .iload_n 1, 1), (48, .imul, 1), (49, .iadd, 1), (50, .iaload, 1), (51, .aload_n 0, 1), (52, .getfield 7, 3), (55, .bipush 48, 2), (57, .iconst 2, 1), (58, .iload_n 2, 1), (59, .imul, 1), (60, .iadd, 1), (61, .iaload, 1)] = true := by decide +kernel
theorem dX6_frame_0 : decode cX6_frame 0 = .ok (.aload_n 0, 1) := dq_get dX6_frame_0_t 0 rfl
theorem dX6_frame_1 : decode cX6_frame 1 = .ok (.iload_n 1, 1) := dq_get dX6_frame_0_t 1 rfl
theorem dX6_frame_2 : decode cX6_frame 2 = .ok (.invokevirtual 187, 3) := dq_get dX6_frame_0_t 2 rfl
theorem dX6_frame_5 : decode cX6_frame 5 = .ok (.ifCond .eq 19, 3) := dq_get dX6_frame_0_t 3 rfl
theorem dX6_frame_8 : decode cX6_frame 8 = .ok (.aload_n 0, 1) := dq_get dX6_frame_0_t 4 rfl
theorem dX6_frame_9 : decode cX6_frame 9 = .ok (.iload_n 2, 1) := dq_get dX6_frame_0_t 5 rfl
theorem dX6_frame_10 : decode cX6_frame 10 = .ok (.invokevirtual 187, 3) := dq_get dX6_frame_0_t 6 rfl
theorem dX6_frame_13 : decode cX6_frame 13 = .ok (.ifCond .eq 11, 3) := dq_get dX6_frame_0_t 7 rfl
theorem dX6_frame_16 : decode cX6_frame 16 = .ok (.aload_n 0, 1) := dq_get dX6_frame_0_t 8 rfl
theorem dX6_frame_17 : decode cX6_frame 17 = .ok (.iload_n 3, 1) := dq_get dX6_frame_0_t 9 rfl
theorem dX6_frame_18 : decode cX6_frame 18 = .ok (.invokevirtual 178, 3) := dq_get dX6_frame_0_t 10 rfl
theorem dX6_frame_21 : decode cX6_frame 21 = .ok (.ifCond .ne 5, 3) := dq_get dX6_frame_0_t 11 rfl
theorem dX6_frame_24 : decode cX6_frame 24 = .ok (.iconst (-1), 1) := dq_get dX6_frame_0_t 12 rfl
theorem dX6_frame_25 : decode cX6_frame 25 = .ok (.ireturn, 1) := dq_get dX6_frame_0_t 13 rfl
theorem dX6_frame_26 : decode cX6_frame 26 = .ok (.aload_n 0, 1) := dq_get dX6_frame_0_t 14 rfl
theorem dX6_frame_27 : decode cX6_frame 27 = .ok (.iload_n 1, 1) := dq_get dX6_frame_0_t 15 rfl
theorem dX6_frame_28 : decode cX6_frame 28 = .ok (.iload_n 3, 1) := dq_get dX6_frame_0_t 16 rfl
theorem dX6_frame_29 : decode cX6_frame 29 = .ok (.invokevirtual 199, 3) := dq_get dX6_frame_0_t 17 rfl
theorem dX6_frame_32 : decode cX6_frame 32 = .ok (.aload_n 0, 1) := dq_get dX6_frame_0_t 18 rfl
theorem dX6_frame_33 : decode cX6_frame 33 = .ok (.iload_n 2, 1) := dq_get dX6_frame_0_t 19 rfl
theorem dX6_frame_34 : decode cX6_frame 34 = .ok (.iload_n 3, 1) := dq_get dX6_frame_0_t 20 rfl
theorem dX6_frame_35 : decode cX6_frame 35 = .ok (.invokevirtual 199, 3) := dq_get dX6_frame_0_t 21 rfl
theorem dX6_frame_38 : decode cX6_frame 38 = .ok (.iand, 1) := dq_get dX6_frame_0_t 22 rfl
theorem dX6_frame_39 : decode cX6_frame 39 = .ok (.aload_n 0, 1) := dq_get dX6_frame_0_t 23 rfl
theorem dX6_frame_40 : decode cX6_frame 40 = .ok (.aload_n 0, 1) := dq_get dX6_frame_0_t 24 rfl
theorem dX6_frame_41 : decode cX6_frame 41 = .ok (.getfield 7, 3) := dq_get dX6_frame_0_t 25 rfl
theorem dX6_frame_44 : decode cX6_frame 44 = .ok (.bipush 48, 2) := dq_get dX6_frame_0_t 26 rfl
theorem dX6_frame_46 : decode cX6_frame 46 = .ok (.iconst 2, 1) := dq_get dX6_frame_0_t 27 rfl
theorem dX6_frame_47 : decode cX6_frame 47 = .ok (.iload_n 1, 1) := dq_get dX6_frame_0_t 28 rfl
theorem dX6_frame_48 : decode cX6_frame 48 = .ok (.imul, 1) := dq_get dX6_frame_0_t 29 rfl
theorem dX6_frame_49 : decode cX6_frame 49 = .ok (.iadd, 1) := dq_get dX6_frame_0_t 30 rfl
theorem dX6_frame_50 : decode cX6_frame 50 = .ok (.iaload, 1) := dq_get dX6_frame_0_t 31 rfl
theorem dX6_frame_51 : decode cX6_frame 51 = .ok (.aload_n 0, 1) := dq_get dX6_frame_0_t 32 rfl
theorem dX6_frame_52 : decode cX6_frame 52 = .ok (.getfield 7, 3) := dq_get dX6_frame_0_t 33 rfl
theorem dX6_frame_55 : decode cX6_frame 55 = .ok (.bipush 48, 2) := dq_get dX6_frame_0_t 34 rfl
theorem dX6_frame_57 : decode cX6_frame 57 = .ok (.iconst 2, 1) := dq_get dX6_frame_0_t 35 rfl
theorem dX6_frame_58 : decode cX6_frame 58 = .ok (.iload_n 2, 1) := dq_get dX6_frame_0_t 36 rfl
theorem dX6_frame_59 : decode cX6_frame 59 = .ok (.imul, 1) := dq_get dX6_frame_0_t 37 rfl
theorem dX6_frame_60 : decode cX6_frame 60 = .ok (.iadd, 1) := dq_get dX6_frame_0_t 38 rfl
theorem dX6_frame_61 : decode cX6_frame 61 = .ok (.iaload, 1) := dq_get dX6_frame_0_t 39 rfl
theorem dX6_frame_62 : decode cX6_frame 62 = .ok (.invokevirtual 202, 3) := by decide +kernel
theorem dX6_frame_65 : decode cX6_frame 65 = .ok (.iand, 1) := by decide +kernel
theorem dX6_frame_66 : decode cX6_frame 66 = .ok (.ireturn, 1) := by decide +kernel
theorem gt_wsX6_unlike_wsX60 : GoodIn wsX6_unlike wsX60 := fun w hw => ⟨List.mem_cons_of_mem _ (List.mem_append_right _ hw), good_of_word (List.all_eq_true.mp gw_wsX60 w hw)⟩
set_option maxRecDepth 20000 in
theorem ggX6_unlike_X6_cellsNow : GoodIn wsX6_unlike wsX6_cellsNow := goodIn_ca (goodIn_r _ [5, 6, 7] rfl (by decide +kernel)) gt_wsX6_unlike_wsX60
set_option maxRecDepth 20000 in
theorem gX6_unlike_X6_cellsNow : GoodIn wsX6_unlike (wsV RX6 158 RX6 yX6_cellsNow wsX6_cellsNow) := goodIn_app (goodIn_r _ [1, 2, 3, 4] rfl (by decide +kernel)) ggX6_unlike_X6_cellsNow
set_option maxRecDepth 20000 in
theorem ggX6_unlike_X6_markOf : GoodIn wsX6_unlike wsX6_markOf := goodIn_ca (goodIn_r _ [11, 12] rfl (by decide +kernel)) gt_wsX6_unlike_wsX60
set_option maxRecDepth 20000 in
theorem gX6_unlike_X6_markOf : GoodIn wsX6_unlike (wsV RX6 163 RX6 yX6_markOf wsX6_markOf) := goodIn_app (goodIn_r _ [8, 9, 10, 4] rfl (by decide +kernel)) ggX6_unlike_X6_markOf
set_option maxRecDepth 20000 in
theorem ggX6_unlike_X6_flag : GoodIn wsX6_unlike wsX6_flag := goodIn_r _ [15] rfl (by decide +kernel)
set_option maxRecDepth 20000 in
theorem gX6_unlike_X6_flag : GoodIn wsX6_unlike (va_wsS RX6 205 yX6_flag wsX6_flag) := goodIn_app (goodIn_r _ [13, 14, 4] rfl (by decide +kernel)) ggX6_unlike_X6_flag
theorem dX6_unlike_0_t : dqK cX6_unlike.data.toList 0 [(0, .iconst 0, 1), (1, .istore_n 3, 1), (2, .iconst 0, 1), (3, .istore 4, 2), (5, .iload 4, 2), (7, .aload_n 0, 1), (8, .invokevirtual 158, 3), (11, .if_icmp .ge 40, 3), (14, .iload_n 3, 1), (15, .aload_n 0, 1), (16, .iload 4, 2), (18, .iload_n 1, 1), (19, .invokevirtual 163, 3), (22, .aload_n 0, 1), (23, .iload 4, 2), (25, .iload_n 2, 1), (26, .invokevirtual 163, 3), (29, .if_icmp .eq 7, 3), (32, .iconst 1, 1), (33, .goto 4, 3), (36, .iconst 0, 1), (37, .invokestatic 205, 3), (40, .iload 4, 2), (42, .ishl, 1), (43, .ior, 1), (44, .istore_n 3, 1), (45, .iinc 4 1, 3), (48, .goto (-43), 3), (51, .iload_n 3, 1), (52, .ireturn, 1)] = true := by decide +kernel
theorem dX6_unlike_0 : decode cX6_unlike 0 = .ok (.iconst 0, 1) := dq_get dX6_unlike_0_t 0 rfl
theorem dX6_unlike_1 : decode cX6_unlike 1 = .ok (.istore_n 3, 1) := dq_get dX6_unlike_0_t 1 rfl
theorem dX6_unlike_2 : decode cX6_unlike 2 = .ok (.iconst 0, 1) := dq_get dX6_unlike_0_t 2 rfl
theorem dX6_unlike_3 : decode cX6_unlike 3 = .ok (.istore 4, 2) := dq_get dX6_unlike_0_t 3 rfl
theorem dX6_unlike_5 : decode cX6_unlike 5 = .ok (.iload 4, 2) := dq_get dX6_unlike_0_t 4 rfl
theorem dX6_unlike_7 : decode cX6_unlike 7 = .ok (.aload_n 0, 1) := dq_get dX6_unlike_0_t 5 rfl
theorem dX6_unlike_8 : decode cX6_unlike 8 = .ok (.invokevirtual 158, 3) := dq_get dX6_unlike_0_t 6 rfl
theorem dX6_unlike_11 : decode cX6_unlike 11 = .ok (.if_icmp .ge 40, 3) := dq_get dX6_unlike_0_t 7 rfl
theorem dX6_unlike_14 : decode cX6_unlike 14 = .ok (.iload_n 3, 1) := dq_get dX6_unlike_0_t 8 rfl
theorem dX6_unlike_15 : decode cX6_unlike 15 = .ok (.aload_n 0, 1) := dq_get dX6_unlike_0_t 9 rfl
theorem dX6_unlike_16 : decode cX6_unlike 16 = .ok (.iload 4, 2) := dq_get dX6_unlike_0_t 10 rfl
theorem dX6_unlike_18 : decode cX6_unlike 18 = .ok (.iload_n 1, 1) := dq_get dX6_unlike_0_t 11 rfl
theorem dX6_unlike_19 : decode cX6_unlike 19 = .ok (.invokevirtual 163, 3) := dq_get dX6_unlike_0_t 12 rfl
theorem dX6_unlike_22 : decode cX6_unlike 22 = .ok (.aload_n 0, 1) := dq_get dX6_unlike_0_t 13 rfl
theorem dX6_unlike_23 : decode cX6_unlike 23 = .ok (.iload 4, 2) := dq_get dX6_unlike_0_t 14 rfl
theorem dX6_unlike_25 : decode cX6_unlike 25 = .ok (.iload_n 2, 1) := dq_get dX6_unlike_0_t 15 rfl
theorem dX6_unlike_26 : decode cX6_unlike 26 = .ok (.invokevirtual 163, 3) := dq_get dX6_unlike_0_t 16 rfl
theorem dX6_unlike_29 : decode cX6_unlike 29 = .ok (.if_icmp .eq 7, 3) := dq_get dX6_unlike_0_t 17 rfl
theorem dX6_unlike_32 : decode cX6_unlike 32 = .ok (.iconst 1, 1) := dq_get dX6_unlike_0_t 18 rfl
theorem dX6_unlike_33 : decode cX6_unlike 33 = .ok (.goto 4, 3) := dq_get dX6_unlike_0_t 19 rfl
theorem dX6_unlike_36 : decode cX6_unlike 36 = .ok (.iconst 0, 1) := dq_get dX6_unlike_0_t 20 rfl
theorem dX6_unlike_37 : decode cX6_unlike 37 = .ok (.invokestatic 205, 3) := dq_get dX6_unlike_0_t 21 rfl
theorem dX6_unlike_40 : decode cX6_unlike 40 = .ok (.iload 4, 2) := dq_get dX6_unlike_0_t 22 rfl
theorem dX6_unlike_42 : decode cX6_unlike 42 = .ok (.ishl, 1) := dq_get dX6_unlike_0_t 23 rfl
theorem dX6_unlike_43 : decode cX6_unlike 43 = .ok (.ior, 1) := dq_get dX6_unlike_0_t 24 rfl
theorem dX6_unlike_44 : decode cX6_unlike 44 = .ok (.istore_n 3, 1) := dq_get dX6_unlike_0_t 25 rfl
theorem dX6_unlike_45 : decode cX6_unlike 45 = .ok (.iinc 4 1, 3) := dq_get dX6_unlike_0_t 26 rfl
theorem dX6_unlike_48 : decode cX6_unlike 48 = .ok (.goto (-43), 3) := dq_get dX6_unlike_0_t 27 rfl
theorem dX6_unlike_51 : decode cX6_unlike 51 = .ok (.iload_n 3, 1) := dq_get dX6_unlike_0_t 28 rfl
theorem dX6_unlike_52 : decode cX6_unlike 52 = .ok (.ireturn, 1) := dq_get dX6_unlike_0_t 29 rfl
theorem gt_wsX6_between_wsX60 : GoodIn wsX6_between wsX60 := fun w hw => ⟨List.mem_cons_of_mem _ (List.mem_append_right _ hw), good_of_word (List.all_eq_true.mp gw_wsX60 w hw)⟩
set_option maxRecDepth 20000 in
theorem ggX6_between_X6_isDay : GoodIn wsX6_between wsX6_isDay := goodIn_ca (goodIn_r _ [5, 6, 7, 8, 4, 9] rfl (by decide +kernel)) gt_wsX6_between_wsX60
set_option maxRecDepth 20000 in
theorem gX6_between_X6_isDay : GoodIn wsX6_between (wsV RX6 182 RX6 yX6_isDay wsX6_isDay) := goodIn_app (goodIn_r _ [1, 2, 3, 4] rfl (by decide +kernel)) ggX6_between_X6_isDay
set_option maxRecDepth 20000 in
theorem ggX6_between_X6_unlike : GoodIn wsX6_between wsX6_unlike := goodIn_ca (goodIn_r _ [13, 14, 15, 16, 4, 17, 18, 19, 20, 21, 22, 23, 24, 25, 26, 27] rfl (by decide +kernel)) gt_wsX6_between_wsX60
set_option maxRecDepth 20000 in
theorem gX6_between_X6_unlike : GoodIn wsX6_between (wsV RX6 202 RX6 yX6_unlike wsX6_unlike) := goodIn_app (goodIn_r _ [10, 11, 12, 4] rfl (by decide +kernel)) ggX6_between_X6_unlike
theorem dX6_between_0_t : dqK cX6_between.data.toList 0 [(0, .aload_n 0, 1), (1, .iload_n 1, 1), (2, .invokevirtual 182, 3), (5, .ifCond .eq 20, 3), (8, .aload_n 0, 1), (9, .iload_n 2, 1), (10, .invokevirtual 182, 3), (13, .ifCond .eq 12, 3), (16, .aload_n 0, 1), (17, .iload_n 1, 1), (18, .iload_n 2, 1), (19, .invokevirtual 202, 3), (22, .goto 4, 3), (25, .iconst (-1), 1), (26, .ireturn, 1)] = true := by decide +kernel
theorem dX6_between_0 : decode cX6_between 0 = .ok (.aload_n 0, 1) := dq_get dX6_between_0_t 0 rfl
theorem dX6_between_1 : decode cX6_between 1 = .ok (.iload_n 1, 1) := dq_get dX6_between_0_t 1 rfl
theorem dX6_between_2 : decode cX6_between 2 = .ok (.invokevirtual 182, 3) := dq_get dX6_between_0_t 2 rfl
theorem dX6_between_5 : decode cX6_between 5 = .ok (.ifCond .eq 20, 3) := dq_get dX6_between_0_t 3 rfl
theorem dX6_between_8 : decode cX6_between 8 = .ok (.aload_n 0, 1) := dq_get dX6_between_0_t 4 rfl
theorem dX6_between_9 : decode cX6_between 9 = .ok (.iload_n 2, 1) := dq_get dX6_between_0_t 5 rfl
theorem dX6_between_10 : decode cX6_between 10 = .ok (.invokevirtual 182, 3) := dq_get dX6_between_0_t 6 rfl
theorem dX6_between_13 : decode cX6_between 13 = .ok (.ifCond .eq 12, 3) := dq_get dX6_between_0_t 7 rfl
theorem dX6_between_16 : decode cX6_between 16 = .ok (.aload_n 0, 1) := dq_get dX6_between_0_t 8 rfl
theorem dX6_between_17 : decode cX6_between 17 = .ok (.iload_n 1, 1) := dq_get dX6_between_0_t 9 rfl
theorem dX6_between_18 : decode cX6_between 18 = .ok (.iload_n 2, 1) := dq_get dX6_between_0_t 10 rfl
theorem dX6_between_19 : decode cX6_between 19 = .ok (.invokevirtual 202, 3) := dq_get dX6_between_0_t 11 rfl
theorem dX6_between_22 : decode cX6_between 22 = .ok (.goto 4, 3) := dq_get dX6_between_0_t 12 rfl
theorem dX6_between_25 : decode cX6_between 25 = .ok (.iconst (-1), 1) := dq_get dX6_between_0_t 13 rfl
theorem dX6_between_26 : decode cX6_between 26 = .ok (.ireturn, 1) := dq_get dX6_between_0_t 14 rfl
set_option maxRecDepth 20000 in
theorem ggX6_all_X6_isMark : GoodIn wsX6_all wsX6_isMark := goodIn_r _ [4, 5, 6, 7, 3, 8] rfl (by decide +kernel)
set_option maxRecDepth 20000 in
theorem gX6_all_X6_isMark : GoodIn wsX6_all (va_wsS RX6 193 yX6_isMark wsX6_isMark) := goodIn_app (goodIn_r _ [1, 2, 3] rfl (by decide +kernel)) ggX6_all_X6_isMark
theorem gt_wsX6_all_wsX60 : GoodIn wsX6_all wsX60 := fun w hw => ⟨List.mem_cons_of_mem _ (List.mem_append_right _ hw), good_of_word (List.all_eq_true.mp gw_wsX60 w hw)⟩
set_option maxRecDepth 20000 in
theorem ggX6_all_X6_isDay : GoodIn wsX6_all wsX6_isDay := goodIn_ca (goodIn_r _ [12, 13, 6, 7, 3, 8] rfl (by decide +kernel)) gt_wsX6_all_wsX60
set_option maxRecDepth 20000 in
theorem gX6_all_X6_isDay : GoodIn wsX6_all (wsV RX6 182 RX6 yX6_isDay wsX6_isDay) := goodIn_app (goodIn_r _ [9, 10, 11, 3] rfl (by decide +kernel)) ggX6_all_X6_isDay
set_option maxRecDepth 20000 in
theorem ggX6_all_X6_cellsNow : GoodIn wsX6_all wsX6_cellsNow := goodIn_ca (goodIn_r _ [17, 18, 19] rfl (by decide +kernel)) gt_wsX6_all_wsX60
set_option maxRecDepth 20000 in
theorem gX6_all_X6_cellsNow : GoodIn wsX6_all (wsV RX6 158 RX6 yX6_cellsNow wsX6_cellsNow) := goodIn_app (goodIn_r _ [14, 15, 16, 3] rfl (by decide +kernel)) ggX6_all_X6_cellsNow
set_option maxRecDepth 20000 in
theorem ggX6_all_X6_markOf : GoodIn wsX6_all wsX6_markOf := goodIn_ca (goodIn_r _ [23, 24] rfl (by decide +kernel)) gt_wsX6_all_wsX60
set_option maxRecDepth 20000 in
theorem gX6_all_X6_markOf : GoodIn wsX6_all (wsV RX6 163 RX6 yX6_markOf wsX6_markOf) := goodIn_app (goodIn_r _ [20, 21, 22, 3] rfl (by decide +kernel)) ggX6_all_X6_markOf
set_option maxRecDepth 20000 in
theorem ggX6_all_X6_flag : GoodIn wsX6_all wsX6_flag := goodIn_r _ [27] rfl (by decide +kernel)
set_option maxRecDepth 20000 in
theorem gX6_all_X6_flag : GoodIn wsX6_all (va_wsS RX6 205 yX6_flag wsX6_flag) := goodIn_app (goodIn_r _ [25, 26, 3] rfl (by decide +kernel)) ggX6_all_X6_flag
theorem dX6_all_0_t : dqK cX6_all.data.toList 0 [(0, .iload_n 1, 1), (1, .invokestatic 193, 3), (4, .ifCond .eq 11, 3), (7, .aload_n 0, 1), (8, .iload_n 2, 1), (9, .invokevirtual 182, 3), (12, .ifCond .ne 5, 3), (15, .iconst (-1), 1), (16, .ireturn, 1), (17, .iconst 0, 1), (18, .istore_n 3, 1), (19, .iconst 0, 1), (20, .istore 4, 2), (22, .iload 4, 2), (24, .aload_n 0, 1), (25, .invokevirtual 158, 3), (28, .if_icmp .ge 34, 3), (31, .iload_n 3, 1), (32, .aload_n 0, 1), (33, .iload 4, 2), (35, .iload_n 2, 1), (36, .invokevirtual 163, 3), (39, .iload_n 1, 1), (40, .if_icmp .ne 7, 3), (43, .iconst 1, 1), (44, .goto 4, 3), (47, .iconst 0, 1), (48, .invokestatic 205, 3), (51, .iload 4, 2), (53, .ishl, 1), (54, .ior, 1), (55, .istore_n 3, 1), (56, .iinc 4 1, 3), (59, .goto (-37), 3), (62, .iload_n 3, 1), (63, .ireturn, 1)] = true := by decide +kernel
theorem dX6_all_0 : decode cX6_all 0 = .ok (.iload_n 1, 1) := dq_get dX6_all_0_t 0 rfl
theorem dX6_all_1 : decode cX6_all 1 = .ok (.invokestatic 193, 3) := dq_get dX6_all_0_t 1 rfl
theorem dX6_all_4 : decode cX6_all 4 = .ok (.ifCond .eq 11, 3) := dq_get dX6_all_0_t 2 rfl
theorem dX6_all_7 : decode cX6_all 7 = .ok (.aload_n 0, 1) := dq_get dX6_all_0_t 3 rfl
theorem dX6_all_8 : decode cX6_all 8 = .ok (.iload_n 2, 1) := dq_get dX6_all_0_t 4 rfl
theorem dX6_all_9 : decode cX6_all 9 = .ok (.invokevirtual 182, 3) := dq_get dX6_all_0_t 5 rfl
theorem dX6_all_12 : decode cX6_all 12 = .ok (.ifCond .ne 5, 3) := dq_get dX6_all_0_t 6 rfl
theorem dX6_all_15 : decode cX6_all 15 = .ok (.iconst (-1), 1) := dq_get dX6_all_0_t 7 rfl
theorem dX6_all_16 : decode cX6_all 16 = .ok (.ireturn, 1) := dq_get dX6_all_0_t 8 rfl
theorem dX6_all_17 : decode cX6_all 17 = .ok (.iconst 0, 1) := dq_get dX6_all_0_t 9 rfl
theorem dX6_all_18 : decode cX6_all 18 = .ok (.istore_n 3, 1) := dq_get dX6_all_0_t 10 rfl
theorem dX6_all_19 : decode cX6_all 19 = .ok (.iconst 0, 1) := dq_get dX6_all_0_t 11 rfl
theorem dX6_all_20 : decode cX6_all 20 = .ok (.istore 4, 2) := dq_get dX6_all_0_t 12 rfl
theorem dX6_all_22 : decode cX6_all 22 = .ok (.iload 4, 2) := dq_get dX6_all_0_t 13 rfl
theorem dX6_all_24 : decode cX6_all 24 = .ok (.aload_n 0, 1) := dq_get dX6_all_0_t 14 rfl
theorem dX6_all_25 : decode cX6_all 25 = .ok (.invokevirtual 158, 3) := dq_get dX6_all_0_t 15 rfl
theorem dX6_all_28 : decode cX6_all 28 = .ok (.if_icmp .ge 34, 3) := dq_get dX6_all_0_t 16 rfl
theorem dX6_all_31 : decode cX6_all 31 = .ok (.iload_n 3, 1) := dq_get dX6_all_0_t 17 rfl
theorem dX6_all_32 : decode cX6_all 32 = .ok (.aload_n 0, 1) := dq_get dX6_all_0_t 18 rfl
theorem dX6_all_33 : decode cX6_all 33 = .ok (.iload 4, 2) := dq_get dX6_all_0_t 19 rfl
theorem dX6_all_35 : decode cX6_all 35 = .ok (.iload_n 2, 1) := dq_get dX6_all_0_t 20 rfl
theorem dX6_all_36 : decode cX6_all 36 = .ok (.invokevirtual 163, 3) := dq_get dX6_all_0_t 21 rfl
theorem dX6_all_39 : decode cX6_all 39 = .ok (.iload_n 1, 1) := dq_get dX6_all_0_t 22 rfl
theorem dX6_all_40 : decode cX6_all 40 = .ok (.if_icmp .ne 7, 3) := dq_get dX6_all_0_t 23 rfl
theorem dX6_all_43 : decode cX6_all 43 = .ok (.iconst 1, 1) := dq_get dX6_all_0_t 24 rfl
theorem dX6_all_44 : decode cX6_all 44 = .ok (.goto 4, 3) := dq_get dX6_all_0_t 25 rfl
theorem dX6_all_47 : decode cX6_all 47 = .ok (.iconst 0, 1) := dq_get dX6_all_0_t 26 rfl
theorem dX6_all_48 : decode cX6_all 48 = .ok (.invokestatic 205, 3) := dq_get dX6_all_0_t 27 rfl
theorem dX6_all_51 : decode cX6_all 51 = .ok (.iload 4, 2) := dq_get dX6_all_0_t 28 rfl
theorem dX6_all_53 : decode cX6_all 53 = .ok (.ishl, 1) := dq_get dX6_all_0_t 29 rfl
theorem dX6_all_54 : decode cX6_all 54 = .ok (.ior, 1) := dq_get dX6_all_0_t 30 rfl
theorem dX6_all_55 : decode cX6_all 55 = .ok (.istore_n 3, 1) := dq_get dX6_all_0_t 31 rfl
theorem dX6_all_56 : decode cX6_all 56 = .ok (.iinc 4 1, 3) := dq_get dX6_all_0_t 32 rfl
theorem dX6_all_59 : decode cX6_all 59 = .ok (.goto (-37), 3) := dq_get dX6_all_0_t 33 rfl
theorem dX6_all_62 : decode cX6_all 62 = .ok (.iload_n 3, 1) := dq_get dX6_all_0_t 34 rfl
theorem dX6_all_63 : decode cX6_all 63 = .ok (.ireturn, 1) := dq_get dX6_all_0_t 35 rfl
theorem gt_wsX6_since_wsX60 : GoodIn wsX6_since wsX60 := fun w hw => ⟨List.mem_cons_of_mem _ (List.mem_append_right _ hw), good_of_word (List.all_eq_true.mp gw_wsX60 w hw)⟩
set_option maxRecDepth 20000 in
theorem ggX6_since_X6_isCell : GoodIn wsX6_since wsX6_isCell := goodIn_ca (goodIn_r _ [5, 6, 7, 8, 4, 9, 10, 11, 12, 13, 14] rfl (by decide +kernel)) gt_wsX6_since_wsX60
set_option maxRecDepth 20000 in
theorem gX6_since_X6_isCell : GoodIn wsX6_since (wsV RX6 178 RX6 yX6_isCell wsX6_isCell) := goodIn_app (goodIn_r _ [1, 2, 3, 4] rfl (by decide +kernel)) ggX6_since_X6_isCell
set_option maxRecDepth 20000 in
theorem ggX6_since_X6_isDay : GoodIn wsX6_since wsX6_isDay := goodIn_ca (goodIn_r _ [18, 19, 12, 13, 4, 14] rfl (by decide +kernel)) gt_wsX6_since_wsX60
set_option maxRecDepth 20000 in
theorem gX6_since_X6_isDay : GoodIn wsX6_since (wsV RX6 182 RX6 yX6_isDay wsX6_isDay) := goodIn_app (goodIn_r _ [15, 16, 17, 4] rfl (by decide +kernel)) ggX6_since_X6_isDay
set_option maxRecDepth 20000 in
theorem ggX6_since_X6_isPart : GoodIn wsX6_since wsX6_isPart := goodIn_r _ [22, 12, 13, 4, 14] rfl (by decide +kernel)
set_option maxRecDepth 20000 in
theorem gX6_since_X6_isPart : GoodIn wsX6_since (va_wsS RX6 190 yX6_isPart wsX6_isPart) := goodIn_app (goodIn_r _ [20, 21, 4] rfl (by decide +kernel)) ggX6_since_X6_isPart
set_option maxRecDepth 20000 in
theorem ggX6_since_X6_markOf : GoodIn wsX6_since wsX6_markOf := goodIn_ca (goodIn_r _ [26, 27] rfl (by decide +kernel)) gt_wsX6_since_wsX60
set_option maxRecDepth 20000 in
theorem gX6_since_X6_markOf : GoodIn wsX6_since (wsV RX6 163 RX6 yX6_markOf wsX6_markOf) := goodIn_app (goodIn_r _ [23, 24, 25, 4] rfl (by decide +kernel)) ggX6_since_X6_markOf
theorem dX6_since_0_t : dqK cX6_since.data.toList 0 [(0, .aload_n 0, 1), (1, .iload_n 1, 1), (2, .invokevirtual 178, 3), (5, .ifCond .eq 18, 3), (8, .aload_n 0, 1), (9, .iload_n 2, 1), (10, .invokevirtual 182, 3), (13, .ifCond .eq 10, 3), (16, .iload_n 3, 1), (17, .invokestatic 190, 3), (20, .ifCond .ne 5, 3), (23, .iconst (-1), 1), (24, .ireturn, 1), (25, .iload_n 3, 1), (26, .ifCond .ne 7, 3), (29, .iconst (-1), 1), (30, .goto 4, 3), (33, .iconst 1, 1), (34, .istore 4, 2), (36, .iload_n 2, 1), (37, .istore 5, 2), (39, .aload_n 0, 1), (40, .iload 5, 2), (42, .iload 4, 2), (44, .iadd, 1), (45, .invokevirtual 182, 3), (48, .ifCond .eq 32, 3), (51, .aload_n 0, 1), (52, .iload_n 1, 1), (53, .iload 5, 2), (55, .iload 4, 2), (57, .iadd, 1), (58, .invokevirtual 163, 3), (61, .aload_n 0, 1), (62, .iload_n 1, 1), (63, .iload_n 2, 1), (64, .invokevirtual 163, 3), (67, .if_icmp .ne 13, 3), (70, .iload 5, 2), (72, .iload 4, 2)] = true := by decide +kernel
theorem dX6_since_0 : decode cX6_since 0 = .ok (.aload_n 0, 1) := dq_get dX6_since_0_t 0 rfl
theorem dX6_since_1 : decode cX6_since 1 = .ok (.iload_n 1, 1) := dq_get dX6_since_0_t 1 rfl
theorem dX6_since_2 : decode cX6_since 2 = .ok (.invokevirtual 178, 3) := dq_get dX6_since_0_t 2 rfl
theorem dX6_since_5 : decode cX6_since 5 = .ok (.ifCond .eq 18, 3) := dq_get dX6_since_0_t 3 rfl
theorem dX6_since_8 : decode cX6_since 8 = .ok (.aload_n 0, 1) := dq_get dX6_since_0_t 4 rfl
theorem dX6_since_9 : decode cX6_since 9 = .ok (.iload_n 2, 1) := dq_get dX6_since_0_t 5 rfl
theorem dX6_since_10 : decode cX6_since 10 = .ok (.invokevirtual 182, 3) := dq_get dX6_since_0_t 6 rfl
theorem dX6_since_13 : decode cX6_since 13 = .ok (.ifCond .eq 10, 3) := dq_get dX6_since_0_t 7 rfl
theorem dX6_since_16 : decode cX6_since 16 = .ok (.iload_n 3, 1) := dq_get dX6_since_0_t 8 rfl
theorem dX6_since_17 : decode cX6_since 17 = .ok (.invokestatic 190, 3) := dq_get dX6_since_0_t 9 rfl
theorem dX6_since_20 : decode cX6_since 20 = .ok (.ifCond .ne 5, 3) := dq_get dX6_since_0_t 10 rfl
theorem dX6_since_23 : decode cX6_since 23 = .ok (.iconst (-1), 1) := dq_get dX6_since_0_t 11 rfl
theorem dX6_since_24 : decode cX6_since 24 = .ok (.ireturn, 1) := dq_get dX6_since_0_t 12 rfl
theorem dX6_since_25 : decode cX6_since 25 = .ok (.iload_n 3, 1) := dq_get dX6_since_0_t 13 rfl
theorem dX6_since_26 : decode cX6_since 26 = .ok (.ifCond .ne 7, 3) := dq_get dX6_since_0_t 14 rfl
theorem dX6_since_29 : decode cX6_since 29 = .ok (.iconst (-1), 1) := dq_get dX6_since_0_t 15 rfl
theorem dX6_since_30 : decode cX6_since 30 = .ok (.goto 4, 3) := dq_get dX6_since_0_t 16 rfl
theorem dX6_since_33 : decode cX6_since 33 = .ok (.iconst 1, 1) := dq_get dX6_since_0_t 17 rfl
theorem dX6_since_34 : decode cX6_since 34 = .ok (.istore 4, 2) := dq_get dX6_since_0_t 18 rfl
theorem dX6_since_36 : decode cX6_since 36 = .ok (.iload_n 2, 1) := dq_get dX6_since_0_t 19 rfl
theorem dX6_since_37 : decode cX6_since 37 = .ok (.istore 5, 2) := dq_get dX6_since_0_t 20 rfl
theorem dX6_since_39 : decode cX6_since 39 = .ok (.aload_n 0, 1) := dq_get dX6_since_0_t 21 rfl
theorem dX6_since_40 : decode cX6_since 40 = .ok (.iload 5, 2) := dq_get dX6_since_0_t 22 rfl
theorem dX6_since_42 : decode cX6_since 42 = .ok (.iload 4, 2) := dq_get dX6_since_0_t 23 rfl
theorem dX6_since_44 : decode cX6_since 44 = .ok (.iadd, 1) := dq_get dX6_since_0_t 24 rfl
theorem dX6_since_45 : decode cX6_since 45 = .ok (.invokevirtual 182, 3) := dq_get dX6_since_0_t 25 rfl
theorem dX6_since_48 : decode cX6_since 48 = .ok (.ifCond .eq 32, 3) := dq_get dX6_since_0_t 26 rfl
theorem dX6_since_51 : decode cX6_since 51 = .ok (.aload_n 0, 1) := dq_get dX6_since_0_t 27 rfl
theorem dX6_since_52 : decode cX6_since 52 = .ok (.iload_n 1, 1) := dq_get dX6_since_0_t 28 rfl
theorem dX6_since_53 : decode cX6_since 53 = .ok (.iload 5, 2) := dq_get dX6_since_0_t 29 rfl
theorem dX6_since_55 : decode cX6_since 55 = .ok (.iload 4, 2) := dq_get dX6_since_0_t 30 rfl
theorem dX6_since_57 : decode cX6_since 57 = .ok (.iadd, 1) := dq_get dX6_since_0_t 31 rfl
theorem dX6_since_58 : decode cX6_since 58 = .ok (.invokevirtual 163, 3) := dq_get dX6_since_0_t 32 rfl
theorem dX6_since_61 : decode cX6_since 61 = .ok (.aload_n 0, 1) := dq_get dX6_since_0_t 33 rfl
theorem dX6_since_62 : decode cX6_since 62 = .ok (.iload_n 1, 1) := dq_get dX6_since_0_t 34 rfl
theorem dX6_since_63 : decode cX6_since 63 = .ok (.iload_n 2, 1) := dq_get dX6_since_0_t 35 rfl
theorem dX6_since_64 : decode cX6_since 64 = .ok (.invokevirtual 163, 3) := dq_get dX6_since_0_t 36 rfl
theorem dX6_since_67 : decode cX6_since 67 = .ok (.if_icmp .ne 13, 3) := dq_get dX6_since_0_t 37 rfl
theorem dX6_since_70 : decode cX6_since 70 = .ok (.iload 5, 2) := dq_get dX6_since_0_t 38 rfl
theorem dX6_since_72 : decode cX6_since 72 = .ok (.iload 4, 2) := dq_get dX6_since_0_t 39 rfl
theorem dX6_since_74_t : dqK cX6_since.data.toList 0 [(74, .iadd, 1), (75, .istore 5, 2), (77, .goto (-38), 3), (80, .iload 5, 2), (82, .ireturn, 1)] = true := by decide +kernel
theorem dX6_since_74 : decode cX6_since 74 = .ok (.iadd, 1) := dq_get dX6_since_74_t 0 rfl
theorem dX6_since_75 : decode cX6_since 75 = .ok (.istore 5, 2) := dq_get dX6_since_74_t 1 rfl
theorem dX6_since_77 : decode cX6_since 77 = .ok (.goto (-38), 3) := dq_get dX6_since_74_t 2 rfl
theorem dX6_since_80 : decode cX6_since 80 = .ok (.iload 5, 2) := dq_get dX6_since_74_t 3 rfl
theorem dX6_since_82 : decode cX6_since 82 = .ok (.ireturn, 1) := dq_get dX6_since_74_t 4 rfl
theorem gt_wsX6_again_wsX60 : GoodIn wsX6_again wsX60 := fun w hw => ⟨List.mem_cons_of_mem _ (List.mem_append_right _ hw), good_of_word (List.all_eq_true.mp gw_wsX60 w hw)⟩
set_option maxRecDepth 20000 in
theorem ggX6_again_X6_unlike : GoodIn wsX6_again wsX6_unlike := goodIn_ca (goodIn_r _ [6, 7, 8, 9, 5, 10, 11, 12, 13, 14, 15, 16, 17, 18, 19, 20] rfl (by decide +kernel)) gt_wsX6_again_wsX60
set_option maxRecDepth 20000 in
theorem gX6_again_X6_unlike : GoodIn wsX6_again (wsV RX6 202 RX6 yX6_unlike wsX6_unlike) := goodIn_app (goodIn_r _ [2, 3, 4, 5] rfl (by decide +kernel)) ggX6_again_X6_unlike
set_option maxRecDepth 20000 in
theorem ggX6_again_X6_flag : GoodIn wsX6_again wsX6_flag := goodIn_r _ [20] rfl (by decide +kernel)
set_option maxRecDepth 20000 in
theorem gX6_again_X6_flag : GoodIn wsX6_again (va_wsS RX6 205 yX6_flag wsX6_flag) := goodIn_app (goodIn_r _ [18, 19, 5] rfl (by decide +kernel)) ggX6_again_X6_flag
theorem dX6_again_0_t : dqK cX6_again.data.toList 0 [(0, .iconst 0, 1), (1, .istore_n 1, 1), (2, .iconst 0, 1), (3, .istore_n 2, 1), (4, .iload_n 2, 1), (5, .aload_n 0, 1), (6, .getfield 78, 3), (9, .if_icmp .gt 44, 3), (12, .iconst 0, 1), (13, .istore_n 3, 1), (14, .iload_n 3, 1), (15, .iload_n 2, 1), (16, .if_icmp .ge 31, 3), (19, .iload_n 1, 1), (20, .aload_n 0, 1), (21, .iload_n 2, 1), (22, .iload_n 3, 1), (23, .invokevirtual 202, 3), (26, .ifCond .ne 7, 3), (29, .iconst 1, 1), (30, .goto 4, 3), (33, .iconst 0, 1), (34, .invokestatic 205, 3), (37, .iload_n 2, 1), (38, .ishl, 1), (39, .ior, 1), (40, .istore_n 1, 1), (41, .iinc 3 1, 3), (44, .goto (-30), 3), (47, .iinc 2 1, 3), (50, .goto (-46), 3), (53, .iload_n 1, 1), (54, .ireturn, 1)] = true := by decide +kernel
theorem dX6_again_0 : decode cX6_again 0 = .ok (.iconst 0, 1) := dq_get dX6_again_0_t 0 rfl
theorem dX6_again_1 : decode cX6_again 1 = .ok (.istore_n 1, 1) := dq_get dX6_again_0_t 1 rfl
theorem dX6_again_2 : decode cX6_again 2 = .ok (.iconst 0, 1) := dq_get dX6_again_0_t 2 rfl
theorem dX6_again_3 : decode cX6_again 3 = .ok (.istore_n 2, 1) := dq_get dX6_again_0_t 3 rfl
theorem dX6_again_4 : decode cX6_again 4 = .ok (.iload_n 2, 1) := dq_get dX6_again_0_t 4 rfl
theorem dX6_again_5 : decode cX6_again 5 = .ok (.aload_n 0, 1) := dq_get dX6_again_0_t 5 rfl
theorem dX6_again_6 : decode cX6_again 6 = .ok (.getfield 78, 3) := dq_get dX6_again_0_t 6 rfl
theorem dX6_again_9 : decode cX6_again 9 = .ok (.if_icmp .gt 44, 3) := dq_get dX6_again_0_t 7 rfl
theorem dX6_again_12 : decode cX6_again 12 = .ok (.iconst 0, 1) := dq_get dX6_again_0_t 8 rfl
theorem dX6_again_13 : decode cX6_again 13 = .ok (.istore_n 3, 1) := dq_get dX6_again_0_t 9 rfl
theorem dX6_again_14 : decode cX6_again 14 = .ok (.iload_n 3, 1) := dq_get dX6_again_0_t 10 rfl
theorem dX6_again_15 : decode cX6_again 15 = .ok (.iload_n 2, 1) := dq_get dX6_again_0_t 11 rfl
theorem dX6_again_16 : decode cX6_again 16 = .ok (.if_icmp .ge 31, 3) := dq_get dX6_again_0_t 12 rfl
theorem dX6_again_19 : decode cX6_again 19 = .ok (.iload_n 1, 1) := dq_get dX6_again_0_t 13 rfl
theorem dX6_again_20 : decode cX6_again 20 = .ok (.aload_n 0, 1) := dq_get dX6_again_0_t 14 rfl
theorem dX6_again_21 : decode cX6_again 21 = .ok (.iload_n 2, 1) := dq_get dX6_again_0_t 15 rfl
theorem dX6_again_22 : decode cX6_again 22 = .ok (.iload_n 3, 1) := dq_get dX6_again_0_t 16 rfl
theorem dX6_again_23 : decode cX6_again 23 = .ok (.invokevirtual 202, 3) := dq_get dX6_again_0_t 17 rfl
theorem dX6_again_26 : decode cX6_again 26 = .ok (.ifCond .ne 7, 3) := dq_get dX6_again_0_t 18 rfl
theorem dX6_again_29 : decode cX6_again 29 = .ok (.iconst 1, 1) := dq_get dX6_again_0_t 19 rfl
theorem dX6_again_30 : decode cX6_again 30 = .ok (.goto 4, 3) := dq_get dX6_again_0_t 20 rfl
theorem dX6_again_33 : decode cX6_again 33 = .ok (.iconst 0, 1) := dq_get dX6_again_0_t 21 rfl
theorem dX6_again_34 : decode cX6_again 34 = .ok (.invokestatic 205, 3) := dq_get dX6_again_0_t 22 rfl
theorem dX6_again_37 : decode cX6_again 37 = .ok (.iload_n 2, 1) := dq_get dX6_again_0_t 23 rfl
theorem dX6_again_38 : decode cX6_again 38 = .ok (.ishl, 1) := dq_get dX6_again_0_t 24 rfl
theorem dX6_again_39 : decode cX6_again 39 = .ok (.ior, 1) := dq_get dX6_again_0_t 25 rfl
theorem dX6_again_40 : decode cX6_again 40 = .ok (.istore_n 1, 1) := dq_get dX6_again_0_t 26 rfl
theorem dX6_again_41 : decode cX6_again 41 = .ok (.iinc 3 1, 3) := dq_get dX6_again_0_t 27 rfl
theorem dX6_again_44 : decode cX6_again 44 = .ok (.goto (-30), 3) := dq_get dX6_again_0_t 28 rfl
theorem dX6_again_47 : decode cX6_again 47 = .ok (.iinc 2 1, 3) := dq_get dX6_again_0_t 29 rfl
theorem dX6_again_50 : decode cX6_again 50 = .ok (.goto (-46), 3) := dq_get dX6_again_0_t 30 rfl
theorem dX6_again_53 : decode cX6_again 53 = .ok (.iload_n 1, 1) := dq_get dX6_again_0_t 31 rfl
theorem dX6_again_54 : decode cX6_again 54 = .ok (.ireturn, 1) := dq_get dX6_again_0_t 32 rfl
theorem gt_wsX6_show_wsX60 : GoodIn wsX6_show wsX60 := fun w hw => ⟨List.mem_cons_of_mem _ (List.mem_append_right _ hw), good_of_word (List.all_eq_true.mp gw_wsX60 w hw)⟩
set_option maxRecDepth 20000 in
theorem ggX6_show_X6_isCell : GoodIn wsX6_show wsX6_isCell := goodIn_ca (goodIn_r _ [6, 7, 8, 9, 5, 10, 11, 12, 13, 14, 15] rfl (by decide +kernel)) gt_wsX6_show_wsX60
set_option maxRecDepth 20000 in
theorem gX6_show_X6_isCell : GoodIn wsX6_show (wsV RX6 178 RX6 yX6_isCell wsX6_isCell) := goodIn_app (goodIn_r _ [2, 3, 4, 5] rfl (by decide +kernel)) ggX6_show_X6_isCell
set_option maxRecDepth 20000 in
theorem ggX6_show_X6_isMark : GoodIn wsX6_show wsX6_isMark := goodIn_r _ [18, 19, 13, 14, 5, 15] rfl (by decide +kernel)
set_option maxRecDepth 20000 in
theorem gX6_show_X6_isMark : GoodIn wsX6_show (va_wsS RX6 193 yX6_isMark wsX6_isMark) := goodIn_app (goodIn_r _ [16, 17, 5] rfl (by decide +kernel)) ggX6_show_X6_isMark
theorem dX6_show_0_t : dqK cX6_show.data.toList 0 [(0, .aload_n 0, 1), (1, .iload_n 1, 1), (2, .invokevirtual 178, 3), (5, .ifCond .eq 24, 3), (8, .aload_n 0, 1), (9, .iload_n 2, 1), (10, .invokevirtual 178, 3), (13, .ifCond .eq 16, 3), (16, .iload_n 3, 1), (17, .bipush (-4), 2), (19, .if_icmp .eq 12, 3), (22, .iload_n 3, 1), (23, .invokestatic 193, 3), (26, .ifCond .ne 5, 3), (29, .iconst (-1), 1), (30, .ireturn, 1), (31, .aload_n 0, 1), (32, .getfield 7, 3), (35, .bipush 60, 2), (37, .iaload, 1), (38, .bipush 8, 2), (40, .if_icmp .ne 6, 3), (43, .bipush (-3), 2), (45, .ireturn, 1), (46, .bipush 61, 2), (48, .iconst 3, 1), (49, .aload_n 0, 1), (50, .getfield 7, 3), (53, .bipush 60, 2), (55, .iaload, 1), (56, .imul, 1), (57, .iadd, 1), (58, .istore 4, 2), (60, .aload_n 0, 1), (61, .getfield 7, 3), (64, .iload 4, 2), (66, .iload_n 1, 1), (67, .iastore, 1), (68, .aload_n 0, 1), (69, .getfield 7, 3)] = true := by decide +kernel
theorem dX6_show_0 : decode cX6_show 0 = .ok (.aload_n 0, 1) := dq_get dX6_show_0_t 0 rfl
theorem dX6_show_1 : decode cX6_show 1 = .ok (.iload_n 1, 1) := dq_get dX6_show_0_t 1 rfl
theorem dX6_show_2 : decode cX6_show 2 = .ok (.invokevirtual 178, 3) := dq_get dX6_show_0_t 2 rfl
theorem dX6_show_5 : decode cX6_show 5 = .ok (.ifCond .eq 24, 3) := dq_get dX6_show_0_t 3 rfl
theorem dX6_show_8 : decode cX6_show 8 = .ok (.aload_n 0, 1) := dq_get dX6_show_0_t 4 rfl
theorem dX6_show_9 : decode cX6_show 9 = .ok (.iload_n 2, 1) := dq_get dX6_show_0_t 5 rfl
theorem dX6_show_10 : decode cX6_show 10 = .ok (.invokevirtual 178, 3) := dq_get dX6_show_0_t 6 rfl
theorem dX6_show_13 : decode cX6_show 13 = .ok (.ifCond .eq 16, 3) := dq_get dX6_show_0_t 7 rfl
theorem dX6_show_16 : decode cX6_show 16 = .ok (.iload_n 3, 1) := dq_get dX6_show_0_t 8 rfl
theorem dX6_show_17 : decode cX6_show 17 = .ok (.bipush (-4), 2) := dq_get dX6_show_0_t 9 rfl
theorem dX6_show_19 : decode cX6_show 19 = .ok (.if_icmp .eq 12, 3) := dq_get dX6_show_0_t 10 rfl
theorem dX6_show_22 : decode cX6_show 22 = .ok (.iload_n 3, 1) := dq_get dX6_show_0_t 11 rfl
theorem dX6_show_23 : decode cX6_show 23 = .ok (.invokestatic 193, 3) := dq_get dX6_show_0_t 12 rfl
theorem dX6_show_26 : decode cX6_show 26 = .ok (.ifCond .ne 5, 3) := dq_get dX6_show_0_t 13 rfl
theorem dX6_show_29 : decode cX6_show 29 = .ok (.iconst (-1), 1) := dq_get dX6_show_0_t 14 rfl
theorem dX6_show_30 : decode cX6_show 30 = .ok (.ireturn, 1) := dq_get dX6_show_0_t 15 rfl
theorem dX6_show_31 : decode cX6_show 31 = .ok (.aload_n 0, 1) := dq_get dX6_show_0_t 16 rfl
theorem dX6_show_32 : decode cX6_show 32 = .ok (.getfield 7, 3) := dq_get dX6_show_0_t 17 rfl
theorem dX6_show_35 : decode cX6_show 35 = .ok (.bipush 60, 2) := dq_get dX6_show_0_t 18 rfl
theorem dX6_show_37 : decode cX6_show 37 = .ok (.iaload, 1) := dq_get dX6_show_0_t 19 rfl
theorem dX6_show_38 : decode cX6_show 38 = .ok (.bipush 8, 2) := dq_get dX6_show_0_t 20 rfl
theorem dX6_show_40 : decode cX6_show 40 = .ok (.if_icmp .ne 6, 3) := dq_get dX6_show_0_t 21 rfl
theorem dX6_show_43 : decode cX6_show 43 = .ok (.bipush (-3), 2) := dq_get dX6_show_0_t 22 rfl
theorem dX6_show_45 : decode cX6_show 45 = .ok (.ireturn, 1) := dq_get dX6_show_0_t 23 rfl
theorem dX6_show_46 : decode cX6_show 46 = .ok (.bipush 61, 2) := dq_get dX6_show_0_t 24 rfl
theorem dX6_show_48 : decode cX6_show 48 = .ok (.iconst 3, 1) := dq_get dX6_show_0_t 25 rfl
theorem dX6_show_49 : decode cX6_show 49 = .ok (.aload_n 0, 1) := dq_get dX6_show_0_t 26 rfl
theorem dX6_show_50 : decode cX6_show 50 = .ok (.getfield 7, 3) := dq_get dX6_show_0_t 27 rfl
theorem dX6_show_53 : decode cX6_show 53 = .ok (.bipush 60, 2) := dq_get dX6_show_0_t 28 rfl
theorem dX6_show_55 : decode cX6_show 55 = .ok (.iaload, 1) := dq_get dX6_show_0_t 29 rfl
theorem dX6_show_56 : decode cX6_show 56 = .ok (.imul, 1) := dq_get dX6_show_0_t 30 rfl
theorem dX6_show_57 : decode cX6_show 57 = .ok (.iadd, 1) := dq_get dX6_show_0_t 31 rfl
theorem dX6_show_58 : decode cX6_show 58 = .ok (.istore 4, 2) := dq_get dX6_show_0_t 32 rfl
theorem dX6_show_60 : decode cX6_show 60 = .ok (.aload_n 0, 1) := dq_get dX6_show_0_t 33 rfl
theorem dX6_show_61 : decode cX6_show 61 = .ok (.getfield 7, 3) := dq_get dX6_show_0_t 34 rfl
theorem dX6_show_64 : decode cX6_show 64 = .ok (.iload 4, 2) := dq_get dX6_show_0_t 35 rfl
theorem dX6_show_66 : decode cX6_show 66 = .ok (.iload_n 1, 1) := dq_get dX6_show_0_t 36 rfl
theorem dX6_show_67 : decode cX6_show 67 = .ok (.iastore, 1) := dq_get dX6_show_0_t 37 rfl
theorem dX6_show_68 : decode cX6_show 68 = .ok (.aload_n 0, 1) := dq_get dX6_show_0_t 38 rfl
theorem dX6_show_69 : decode cX6_show 69 = .ok (.getfield 7, 3) := dq_get dX6_show_0_t 39 rfl
theorem dX6_show_72_t : dqK cX6_show.data.toList 0 [(72, .iload 4, 2), (74, .iconst 1, 1), (75, .iadd, 1), (76, .iload_n 2, 1), (77, .iastore, 1), (78, .aload_n 0, 1), (79, .getfield 7, 3), (82, .iload 4, 2), (84, .iconst 2, 1), (85, .iadd, 1), (86, .iload_n 3, 1), (87, .iastore, 1), (88, .aload_n 0, 1), (89, .getfield 7, 3), (92, .bipush 60, 2), (94, .dup2, 1), (95, .iaload, 1), (96, .iconst 1, 1), (97, .iadd, 1), (98, .iastore, 1), (99, .aload_n 0, 1), (100, .getfield 7, 3), (103, .bipush 60, 2), (105, .iaload, 1), (106, .ireturn, 1)] = true := by decide +kernel
theorem dX6_show_72 : decode cX6_show 72 = .ok (.iload 4, 2) := dq_get dX6_show_72_t 0 rfl
theorem dX6_show_74 : decode cX6_show 74 = .ok (.iconst 1, 1) := dq_get dX6_show_72_t 1 rfl
theorem dX6_show_75 : decode cX6_show 75 = .ok (.iadd, 1) := dq_get dX6_show_72_t 2 rfl
theorem dX6_show_76 : decode cX6_show 76 = .ok (.iload_n 2, 1) := dq_get dX6_show_72_t 3 rfl
theorem dX6_show_77 : decode cX6_show 77 = .ok (.iastore, 1) := dq_get dX6_show_72_t 4 rfl
theorem dX6_show_78 : decode cX6_show 78 = .ok (.aload_n 0, 1) := dq_get dX6_show_72_t 5 rfl
theorem dX6_show_79 : decode cX6_show 79 = .ok (.getfield 7, 3) := dq_get dX6_show_72_t 6 rfl
theorem dX6_show_82 : decode cX6_show 82 = .ok (.iload 4, 2) := dq_get dX6_show_72_t 7 rfl
theorem dX6_show_84 : decode cX6_show 84 = .ok (.iconst 2, 1) := dq_get dX6_show_72_t 8 rfl
theorem dX6_show_85 : decode cX6_show 85 = .ok (.iadd, 1) := dq_get dX6_show_72_t 9 rfl
theorem dX6_show_86 : decode cX6_show 86 = .ok (.iload_n 3, 1) := dq_get dX6_show_72_t 10 rfl
theorem dX6_show_87 : decode cX6_show 87 = .ok (.iastore, 1) := dq_get dX6_show_72_t 11 rfl
theorem dX6_show_88 : decode cX6_show 88 = .ok (.aload_n 0, 1) := dq_get dX6_show_72_t 12 rfl
theorem dX6_show_89 : decode cX6_show 89 = .ok (.getfield 7, 3) := dq_get dX6_show_72_t 13 rfl
theorem dX6_show_92 : decode cX6_show 92 = .ok (.bipush 60, 2) := dq_get dX6_show_72_t 14 rfl
theorem dX6_show_94 : decode cX6_show 94 = .ok (.dup2, 1) := dq_get dX6_show_72_t 15 rfl
theorem dX6_show_95 : decode cX6_show 95 = .ok (.iaload, 1) := dq_get dX6_show_72_t 16 rfl
theorem dX6_show_96 : decode cX6_show 96 = .ok (.iconst 1, 1) := dq_get dX6_show_72_t 17 rfl
theorem dX6_show_97 : decode cX6_show 97 = .ok (.iadd, 1) := dq_get dX6_show_72_t 18 rfl
theorem dX6_show_98 : decode cX6_show 98 = .ok (.iastore, 1) := dq_get dX6_show_72_t 19 rfl
theorem dX6_show_99 : decode cX6_show 99 = .ok (.aload_n 0, 1) := dq_get dX6_show_72_t 20 rfl
theorem dX6_show_100 : decode cX6_show 100 = .ok (.getfield 7, 3) := dq_get dX6_show_72_t 21 rfl
theorem dX6_show_103 : decode cX6_show 103 = .ok (.bipush 60, 2) := dq_get dX6_show_72_t 22 rfl
theorem dX6_show_105 : decode cX6_show 105 = .ok (.iaload, 1) := dq_get dX6_show_72_t 23 rfl
theorem dX6_show_106 : decode cX6_show 106 = .ok (.ireturn, 1) := dq_get dX6_show_72_t 24 rfl
set_option maxRecDepth 20000 in
theorem ggX6_forget_X6_in : GoodIn wsX6_forget wsX6_in := goodIn_r _ [5] rfl (by decide +kernel)
set_option maxRecDepth 20000 in
theorem gX6_forget_X6_in : GoodIn wsX6_forget (va_wsS RX6 83 yX6_in wsX6_in) := goodIn_app (goodIn_r _ [2, 3, 4] rfl (by decide +kernel)) ggX6_forget_X6_in
theorem gt_wsX6_forget_wsX60 : GoodIn wsX6_forget wsX60 := fun w hw => ⟨List.mem_cons_of_mem _ (List.mem_append_right _ hw), good_of_word (List.all_eq_true.mp gw_wsX60 w hw)⟩
set_option maxRecDepth 20000 in
theorem ggX6_forget_X6_becomes : GoodIn wsX6_forget wsX6_becomes := goodIn_ca (goodIn_r _ [9, 1] rfl (by decide +kernel)) gt_wsX6_forget_wsX60
set_option maxRecDepth 20000 in
theorem gX6_forget_X6_becomes : GoodIn wsX6_forget (wsV RX6 196 RX6 yX6_becomes wsX6_becomes) := goodIn_app (goodIn_r _ [6, 7, 8, 4] rfl (by decide +kernel)) ggX6_forget_X6_becomes
theorem dX6_forget_0_t : dqK cX6_forget.data.toList 0 [(0, .iload_n 1, 1), (1, .i2l, 1), (2, .lconst 0, 1), (3, .aload_n 0, 1), (4, .getfield 7, 3), (7, .bipush 60, 2), (9, .iaload, 1), (10, .i2l, 1), (11, .invokestatic 83, 3), (14, .ifCond .eq 13, 3), (17, .aload_n 0, 1), (18, .bipush 60, 2), (20, .iload_n 1, 1), (21, .invokevirtual 196, 3), (24, .goto 4, 3), (27, .iconst (-1), 1), (28, .ireturn, 1)] = true := by decide +kernel
theorem dX6_forget_0 : decode cX6_forget 0 = .ok (.iload_n 1, 1) := dq_get dX6_forget_0_t 0 rfl
theorem dX6_forget_1 : decode cX6_forget 1 = .ok (.i2l, 1) := dq_get dX6_forget_0_t 1 rfl
theorem dX6_forget_2 : decode cX6_forget 2 = .ok (.lconst 0, 1) := dq_get dX6_forget_0_t 2 rfl
theorem dX6_forget_3 : decode cX6_forget 3 = .ok (.aload_n 0, 1) := dq_get dX6_forget_0_t 3 rfl
theorem dX6_forget_4 : decode cX6_forget 4 = .ok (.getfield 7, 3) := dq_get dX6_forget_0_t 4 rfl
theorem dX6_forget_7 : decode cX6_forget 7 = .ok (.bipush 60, 2) := dq_get dX6_forget_0_t 5 rfl
theorem dX6_forget_9 : decode cX6_forget 9 = .ok (.iaload, 1) := dq_get dX6_forget_0_t 6 rfl
theorem dX6_forget_10 : decode cX6_forget 10 = .ok (.i2l, 1) := dq_get dX6_forget_0_t 7 rfl
theorem dX6_forget_11 : decode cX6_forget 11 = .ok (.invokestatic 83, 3) := dq_get dX6_forget_0_t 8 rfl
theorem dX6_forget_14 : decode cX6_forget 14 = .ok (.ifCond .eq 13, 3) := dq_get dX6_forget_0_t 9 rfl
theorem dX6_forget_17 : decode cX6_forget 17 = .ok (.aload_n 0, 1) := dq_get dX6_forget_0_t 10 rfl
theorem dX6_forget_18 : decode cX6_forget 18 = .ok (.bipush 60, 2) := dq_get dX6_forget_0_t 11 rfl
theorem dX6_forget_20 : decode cX6_forget 20 = .ok (.iload_n 1, 1) := dq_get dX6_forget_0_t 12 rfl
theorem dX6_forget_21 : decode cX6_forget 21 = .ok (.invokevirtual 196, 3) := dq_get dX6_forget_0_t 13 rfl
theorem dX6_forget_24 : decode cX6_forget 24 = .ok (.goto 4, 3) := dq_get dX6_forget_0_t 14 rfl
theorem dX6_forget_27 : decode cX6_forget 27 = .ok (.iconst (-1), 1) := dq_get dX6_forget_0_t 15 rfl
theorem dX6_forget_28 : decode cX6_forget 28 = .ok (.ireturn, 1) := dq_get dX6_forget_0_t 16 rfl
theorem gt_wsX6_seenAs_wsX60 : GoodIn wsX6_seenAs wsX60 := fun w hw => ⟨List.mem_cons_of_mem _ (List.mem_append_right _ hw), good_of_word (List.all_eq_true.mp gw_wsX60 w hw)⟩
set_option maxRecDepth 20000 in
theorem ggX6_seenAs_X6_sight : GoodIn wsX6_seenAs wsX6_sight := goodIn_ca (goodIn_r _ [6, 1, 7, 8, 9, 5, 10, 11, 12, 13, 14, 15, 16] rfl (by decide +kernel)) gt_wsX6_seenAs_wsX60
set_option maxRecDepth 20000 in
theorem gX6_seenAs_X6_sight : GoodIn wsX6_seenAs (wsV RX6 172 RX6 yX6_sight wsX6_sight) := goodIn_app (goodIn_r _ [2, 3, 4, 5] rfl (by decide +kernel)) ggX6_seenAs_X6_sight
theorem dX6_seenAs_0_t : dqK cX6_seenAs.data.toList 0 [(0, .aload_n 0, 1), (1, .iload_n 1, 1), (2, .invokevirtual 172, 3), (5, .iload_n 2, 1), (6, .ishr, 1), (7, .iconst 1, 1), (8, .iand, 1), (9, .iconst 1, 1), (10, .if_icmp .ne 12, 3), (13, .aload_n 0, 1), (14, .getfield 23, 3), (17, .iload_n 2, 1), (18, .iaload, 1), (19, .goto 5, 3), (22, .bipush (-4), 2), (24, .ireturn, 1)] = true := by decide +kernel
theorem dX6_seenAs_0 : decode cX6_seenAs 0 = .ok (.aload_n 0, 1) := dq_get dX6_seenAs_0_t 0 rfl
theorem dX6_seenAs_1 : decode cX6_seenAs 1 = .ok (.iload_n 1, 1) := dq_get dX6_seenAs_0_t 1 rfl
theorem dX6_seenAs_2 : decode cX6_seenAs 2 = .ok (.invokevirtual 172, 3) := dq_get dX6_seenAs_0_t 2 rfl
theorem dX6_seenAs_5 : decode cX6_seenAs 5 = .ok (.iload_n 2, 1) := dq_get dX6_seenAs_0_t 3 rfl
theorem dX6_seenAs_6 : decode cX6_seenAs 6 = .ok (.ishr, 1) := dq_get dX6_seenAs_0_t 4 rfl
theorem dX6_seenAs_7 : decode cX6_seenAs 7 = .ok (.iconst 1, 1) := dq_get dX6_seenAs_0_t 5 rfl
theorem dX6_seenAs_8 : decode cX6_seenAs 8 = .ok (.iand, 1) := dq_get dX6_seenAs_0_t 6 rfl
theorem dX6_seenAs_9 : decode cX6_seenAs 9 = .ok (.iconst 1, 1) := dq_get dX6_seenAs_0_t 7 rfl
theorem dX6_seenAs_10 : decode cX6_seenAs 10 = .ok (.if_icmp .ne 12, 3) := dq_get dX6_seenAs_0_t 8 rfl
theorem dX6_seenAs_13 : decode cX6_seenAs 13 = .ok (.aload_n 0, 1) := dq_get dX6_seenAs_0_t 9 rfl
theorem dX6_seenAs_14 : decode cX6_seenAs 14 = .ok (.getfield 23, 3) := dq_get dX6_seenAs_0_t 10 rfl
theorem dX6_seenAs_17 : decode cX6_seenAs 17 = .ok (.iload_n 2, 1) := dq_get dX6_seenAs_0_t 11 rfl
theorem dX6_seenAs_18 : decode cX6_seenAs 18 = .ok (.iaload, 1) := dq_get dX6_seenAs_0_t 12 rfl
theorem dX6_seenAs_19 : decode cX6_seenAs 19 = .ok (.goto 5, 3) := dq_get dX6_seenAs_0_t 13 rfl
theorem dX6_seenAs_22 : decode cX6_seenAs 22 = .ok (.bipush (-4), 2) := dq_get dX6_seenAs_0_t 14 rfl
theorem dX6_seenAs_24 : decode cX6_seenAs 24 = .ok (.ireturn, 1) := dq_get dX6_seenAs_0_t 15 rfl
theorem gt_wsX6_daysBy_wsX60 : GoodIn wsX6_daysBy wsX60 := fun w hw => ⟨List.mem_cons_of_mem _ (List.mem_append_right _ hw), good_of_word (List.all_eq_true.mp gw_wsX60 w hw)⟩
set_option maxRecDepth 20000 in
theorem ggX6_daysBy_X6_shiftTo : GoodIn wsX6_daysBy wsX6_shiftTo := goodIn_ca (goodIn_r _ [7, 8, 9, 10, 11, 6, 12, 2] rfl (by decide +kernel)) gt_wsX6_daysBy_wsX60
set_option maxRecDepth 20000 in
theorem gX6_daysBy_X6_shiftTo : GoodIn wsX6_daysBy (wsV RX6 169 RX6 yX6_shiftTo wsX6_shiftTo) := goodIn_app (goodIn_r _ [3, 4, 5, 6] rfl (by decide +kernel)) ggX6_daysBy_X6_shiftTo
set_option maxRecDepth 20000 in
theorem ggX6_daysBy_X6_seenAs : GoodIn wsX6_daysBy wsX6_seenAs := goodIn_ca (goodIn_r _ [16, 8, 17, 18, 19, 6, 20, 21, 22, 23, 24, 25, 26, 27, 28, 29, 30] rfl (by decide +kernel)) gt_wsX6_daysBy_wsX60
set_option maxRecDepth 20000 in
theorem gX6_daysBy_X6_seenAs : GoodIn wsX6_daysBy (wsV RX6 209 RX6 yX6_seenAs wsX6_seenAs) := goodIn_app (goodIn_r _ [13, 14, 15, 6] rfl (by decide +kernel)) ggX6_daysBy_X6_seenAs
set_option maxRecDepth 20000 in
theorem ggX6_daysBy_X6_flag : GoodIn wsX6_daysBy wsX6_flag := goodIn_r _ [33] rfl (by decide +kernel)
set_option maxRecDepth 20000 in
theorem gX6_daysBy_X6_flag : GoodIn wsX6_daysBy (va_wsS RX6 205 yX6_flag wsX6_flag) := goodIn_app (goodIn_r _ [31, 32, 6] rfl (by decide +kernel)) ggX6_daysBy_X6_flag
theorem dX6_daysBy_0_t : dqK cX6_daysBy.data.toList 0 [(0, .iconst 0, 1), (1, .istore_n 2, 1), (2, .iconst 0, 1), (3, .istore_n 3, 1), (4, .iload_n 3, 1), (5, .aload_n 0, 1), (6, .getfield 78, 3), (9, .if_icmp .gt 95, 3), (12, .iconst 1, 1), (13, .istore 4, 2), (15, .aload_n 0, 1), (16, .iload_n 3, 1), (17, .invokevirtual 169, 3), (20, .iconst 0, 1), (21, .istore 5, 2), (23, .iload 5, 2), (25, .iload_n 1, 1), (26, .if_icmp .ge 62, 3), (29, .bipush 61, 2), (31, .iconst 3, 1), (32, .iload 5, 2), (34, .imul, 1), (35, .iadd, 1), (36, .istore 6, 2), (38, .iload 4, 2), (40, .ifCond .eq 39, 3), (43, .aload_n 0, 1), (44, .aload_n 0, 1), (45, .getfield 7, 3), (48, .iload 6, 2), (50, .iaload, 1), (51, .aload_n 0, 1), (52, .getfield 7, 3), (55, .iload 6, 2), (57, .iconst 1, 1), (58, .iadd, 1), (59, .iaload, 1), (60, .invokevirtual 209, 3), (63, .aload_n 0, 1), (64, .getfield 7, 3)] = true := by decide +kernel
theorem dX6_daysBy_0 : decode cX6_daysBy 0 = .ok (.iconst 0, 1) := dq_get dX6_daysBy_0_t 0 rfl
theorem dX6_daysBy_1 : decode cX6_daysBy 1 = .ok (.istore_n 2, 1) := dq_get dX6_daysBy_0_t 1 rfl
theorem dX6_daysBy_2 : decode cX6_daysBy 2 = .ok (.iconst 0, 1) := dq_get dX6_daysBy_0_t 2 rfl
theorem dX6_daysBy_3 : decode cX6_daysBy 3 = .ok (.istore_n 3, 1) := dq_get dX6_daysBy_0_t 3 rfl
theorem dX6_daysBy_4 : decode cX6_daysBy 4 = .ok (.iload_n 3, 1) := dq_get dX6_daysBy_0_t 4 rfl
theorem dX6_daysBy_5 : decode cX6_daysBy 5 = .ok (.aload_n 0, 1) := dq_get dX6_daysBy_0_t 5 rfl
theorem dX6_daysBy_6 : decode cX6_daysBy 6 = .ok (.getfield 78, 3) := dq_get dX6_daysBy_0_t 6 rfl
theorem dX6_daysBy_9 : decode cX6_daysBy 9 = .ok (.if_icmp .gt 95, 3) := dq_get dX6_daysBy_0_t 7 rfl
theorem dX6_daysBy_12 : decode cX6_daysBy 12 = .ok (.iconst 1, 1) := dq_get dX6_daysBy_0_t 8 rfl
theorem dX6_daysBy_13 : decode cX6_daysBy 13 = .ok (.istore 4, 2) := dq_get dX6_daysBy_0_t 9 rfl
theorem dX6_daysBy_15 : decode cX6_daysBy 15 = .ok (.aload_n 0, 1) := dq_get dX6_daysBy_0_t 10 rfl
theorem dX6_daysBy_16 : decode cX6_daysBy 16 = .ok (.iload_n 3, 1) := dq_get dX6_daysBy_0_t 11 rfl
theorem dX6_daysBy_17 : decode cX6_daysBy 17 = .ok (.invokevirtual 169, 3) := dq_get dX6_daysBy_0_t 12 rfl
theorem dX6_daysBy_20 : decode cX6_daysBy 20 = .ok (.iconst 0, 1) := dq_get dX6_daysBy_0_t 13 rfl
theorem dX6_daysBy_21 : decode cX6_daysBy 21 = .ok (.istore 5, 2) := dq_get dX6_daysBy_0_t 14 rfl
theorem dX6_daysBy_23 : decode cX6_daysBy 23 = .ok (.iload 5, 2) := dq_get dX6_daysBy_0_t 15 rfl
theorem dX6_daysBy_25 : decode cX6_daysBy 25 = .ok (.iload_n 1, 1) := dq_get dX6_daysBy_0_t 16 rfl
theorem dX6_daysBy_26 : decode cX6_daysBy 26 = .ok (.if_icmp .ge 62, 3) := dq_get dX6_daysBy_0_t 17 rfl
theorem dX6_daysBy_29 : decode cX6_daysBy 29 = .ok (.bipush 61, 2) := dq_get dX6_daysBy_0_t 18 rfl
theorem dX6_daysBy_31 : decode cX6_daysBy 31 = .ok (.iconst 3, 1) := dq_get dX6_daysBy_0_t 19 rfl
theorem dX6_daysBy_32 : decode cX6_daysBy 32 = .ok (.iload 5, 2) := dq_get dX6_daysBy_0_t 20 rfl
theorem dX6_daysBy_34 : decode cX6_daysBy 34 = .ok (.imul, 1) := dq_get dX6_daysBy_0_t 21 rfl
theorem dX6_daysBy_35 : decode cX6_daysBy 35 = .ok (.iadd, 1) := dq_get dX6_daysBy_0_t 22 rfl
theorem dX6_daysBy_36 : decode cX6_daysBy 36 = .ok (.istore 6, 2) := dq_get dX6_daysBy_0_t 23 rfl
theorem dX6_daysBy_38 : decode cX6_daysBy 38 = .ok (.iload 4, 2) := dq_get dX6_daysBy_0_t 24 rfl
theorem dX6_daysBy_40 : decode cX6_daysBy 40 = .ok (.ifCond .eq 39, 3) := dq_get dX6_daysBy_0_t 25 rfl
theorem dX6_daysBy_43 : decode cX6_daysBy 43 = .ok (.aload_n 0, 1) := dq_get dX6_daysBy_0_t 26 rfl
theorem dX6_daysBy_44 : decode cX6_daysBy 44 = .ok (.aload_n 0, 1) := dq_get dX6_daysBy_0_t 27 rfl
theorem dX6_daysBy_45 : decode cX6_daysBy 45 = .ok (.getfield 7, 3) := dq_get dX6_daysBy_0_t 28 rfl
theorem dX6_daysBy_48 : decode cX6_daysBy 48 = .ok (.iload 6, 2) := dq_get dX6_daysBy_0_t 29 rfl
theorem dX6_daysBy_50 : decode cX6_daysBy 50 = .ok (.iaload, 1) := dq_get dX6_daysBy_0_t 30 rfl
theorem dX6_daysBy_51 : decode cX6_daysBy 51 = .ok (.aload_n 0, 1) := dq_get dX6_daysBy_0_t 31 rfl
theorem dX6_daysBy_52 : decode cX6_daysBy 52 = .ok (.getfield 7, 3) := dq_get dX6_daysBy_0_t 32 rfl
theorem dX6_daysBy_55 : decode cX6_daysBy 55 = .ok (.iload 6, 2) := dq_get dX6_daysBy_0_t 33 rfl
theorem dX6_daysBy_57 : decode cX6_daysBy 57 = .ok (.iconst 1, 1) := dq_get dX6_daysBy_0_t 34 rfl
theorem dX6_daysBy_58 : decode cX6_daysBy 58 = .ok (.iadd, 1) := dq_get dX6_daysBy_0_t 35 rfl
theorem dX6_daysBy_59 : decode cX6_daysBy 59 = .ok (.iaload, 1) := dq_get dX6_daysBy_0_t 36 rfl
theorem dX6_daysBy_60 : decode cX6_daysBy 60 = .ok (.invokevirtual 209, 3) := dq_get dX6_daysBy_0_t 37 rfl
theorem dX6_daysBy_63 : decode cX6_daysBy 63 = .ok (.aload_n 0, 1) := dq_get dX6_daysBy_0_t 38 rfl
theorem dX6_daysBy_64 : decode cX6_daysBy 64 = .ok (.getfield 7, 3) := dq_get dX6_daysBy_0_t 39 rfl
theorem dX6_daysBy_67_t : dqK cX6_daysBy.data.toList 0 [(67, .iload 6, 2), (69, .iconst 2, 1), (70, .iadd, 1), (71, .iaload, 1), (72, .if_icmp .ne 7, 3), (75, .iconst 1, 1), (76, .goto 4, 3), (79, .iconst 0, 1), (80, .istore 4, 2), (82, .iinc 5 1, 3), (85, .goto (-62), 3), (88, .iload_n 2, 1), (89, .iload 4, 2), (91, .invokestatic 205, 3), (94, .iload_n 3, 1), (95, .ishl, 1), (96, .ior, 1), (97, .istore_n 2, 1), (98, .iinc 3 1, 3), (101, .goto (-97), 3), (104, .iload_n 2, 1), (105, .ireturn, 1)] = true := by decide +kernel
theorem dX6_daysBy_67 : decode cX6_daysBy 67 = .ok (.iload 6, 2) := dq_get dX6_daysBy_67_t 0 rfl
theorem dX6_daysBy_69 : decode cX6_daysBy 69 = .ok (.iconst 2, 1) := dq_get dX6_daysBy_67_t 1 rfl
theorem dX6_daysBy_70 : decode cX6_daysBy 70 = .ok (.iadd, 1) := dq_get dX6_daysBy_67_t 2 rfl
theorem dX6_daysBy_71 : decode cX6_daysBy 71 = .ok (.iaload, 1) := dq_get dX6_daysBy_67_t 3 rfl
theorem dX6_daysBy_72 : decode cX6_daysBy 72 = .ok (.if_icmp .ne 7, 3) := dq_get dX6_daysBy_67_t 4 rfl
theorem dX6_daysBy_75 : decode cX6_daysBy 75 = .ok (.iconst 1, 1) := dq_get dX6_daysBy_67_t 5 rfl
theorem dX6_daysBy_76 : decode cX6_daysBy 76 = .ok (.goto 4, 3) := dq_get dX6_daysBy_67_t 6 rfl
theorem dX6_daysBy_79 : decode cX6_daysBy 79 = .ok (.iconst 0, 1) := dq_get dX6_daysBy_67_t 7 rfl
theorem dX6_daysBy_80 : decode cX6_daysBy 80 = .ok (.istore 4, 2) := dq_get dX6_daysBy_67_t 8 rfl
theorem dX6_daysBy_82 : decode cX6_daysBy 82 = .ok (.iinc 5 1, 3) := dq_get dX6_daysBy_67_t 9 rfl
theorem dX6_daysBy_85 : decode cX6_daysBy 85 = .ok (.goto (-62), 3) := dq_get dX6_daysBy_67_t 10 rfl
theorem dX6_daysBy_88 : decode cX6_daysBy 88 = .ok (.iload_n 2, 1) := dq_get dX6_daysBy_67_t 11 rfl
theorem dX6_daysBy_89 : decode cX6_daysBy 89 = .ok (.iload 4, 2) := dq_get dX6_daysBy_67_t 12 rfl
theorem dX6_daysBy_91 : decode cX6_daysBy 91 = .ok (.invokestatic 205, 3) := dq_get dX6_daysBy_67_t 13 rfl
theorem dX6_daysBy_94 : decode cX6_daysBy 94 = .ok (.iload_n 3, 1) := dq_get dX6_daysBy_67_t 14 rfl
theorem dX6_daysBy_95 : decode cX6_daysBy 95 = .ok (.ishl, 1) := dq_get dX6_daysBy_67_t 15 rfl
theorem dX6_daysBy_96 : decode cX6_daysBy 96 = .ok (.ior, 1) := dq_get dX6_daysBy_67_t 16 rfl
theorem dX6_daysBy_97 : decode cX6_daysBy 97 = .ok (.istore_n 2, 1) := dq_get dX6_daysBy_67_t 17 rfl
theorem dX6_daysBy_98 : decode cX6_daysBy 98 = .ok (.iinc 3 1, 3) := dq_get dX6_daysBy_67_t 18 rfl
theorem dX6_daysBy_101 : decode cX6_daysBy 101 = .ok (.goto (-97), 3) := dq_get dX6_daysBy_67_t 19 rfl
theorem dX6_daysBy_104 : decode cX6_daysBy 104 = .ok (.iload_n 2, 1) := dq_get dX6_daysBy_67_t 20 rfl
theorem dX6_daysBy_105 : decode cX6_daysBy 105 = .ok (.ireturn, 1) := dq_get dX6_daysBy_67_t 21 rfl
theorem gt_wsX6_days_wsX60 : GoodIn wsX6_days wsX60 := fun w hw => ⟨List.mem_cons_of_mem _ (List.mem_append_right _ hw), good_of_word (List.all_eq_true.mp gw_wsX60 w hw)⟩
set_option maxRecDepth 20000 in
theorem ggX6_days_X6_daysBy : GoodIn wsX6_days wsX6_daysBy := goodIn_ca (goodIn_r _ [6, 7, 1, 8, 9, 10, 5, 11, 12, 13, 14, 15, 16, 17, 18, 19, 20, 21, 22, 23, 24, 25, 26, 27, 28, 29, 30, 31, 32, 33, 34, 35, 36, 37] rfl (by decide +kernel)) gt_wsX6_days_wsX60
set_option maxRecDepth 20000 in
theorem gX6_days_X6_daysBy : GoodIn wsX6_days (wsV RX6 212 RX6 yX6_daysBy wsX6_daysBy) := goodIn_app (goodIn_r _ [2, 3, 4, 5] rfl (by decide +kernel)) ggX6_days_X6_daysBy
theorem dX6_days_0_t : dqK cX6_days.data.toList 0 [(0, .aload_n 0, 1), (1, .aload_n 0, 1), (2, .getfield 7, 3), (5, .bipush 60, 2), (7, .iaload, 1), (8, .invokevirtual 212, 3), (11, .ireturn, 1)] = true := by decide +kernel
theorem dX6_days_0 : decode cX6_days 0 = .ok (.aload_n 0, 1) := dq_get dX6_days_0_t 0 rfl
theorem dX6_days_1 : decode cX6_days 1 = .ok (.aload_n 0, 1) := dq_get dX6_days_0_t 1 rfl
theorem dX6_days_2 : decode cX6_days 2 = .ok (.getfield 7, 3) := dq_get dX6_days_0_t 2 rfl
theorem dX6_days_5 : decode cX6_days 5 = .ok (.bipush 60, 2) := dq_get dX6_days_0_t 3 rfl
theorem dX6_days_7 : decode cX6_days 7 = .ok (.iaload, 1) := dq_get dX6_days_0_t 4 rfl
theorem dX6_days_8 : decode cX6_days 8 = .ok (.invokevirtual 212, 3) := dq_get dX6_days_0_t 5 rfl
theorem dX6_days_11 : decode cX6_days 11 = .ok (.ireturn, 1) := dq_get dX6_days_0_t 6 rfl
theorem gt_wsX6_lie_wsX60 : GoodIn wsX6_lie wsX60 := fun w hw => ⟨List.mem_cons_of_mem _ (List.mem_append_right _ hw), good_of_word (List.all_eq_true.mp gw_wsX60 w hw)⟩
set_option maxRecDepth 20000 in
theorem ggX6_lie_X6_daysBy : GoodIn wsX6_lie wsX6_daysBy := goodIn_ca (goodIn_r _ [6, 7, 1, 8, 9, 10, 5, 11, 12, 13, 14, 15, 16, 17, 18, 19, 20, 21, 22, 23, 24, 25, 26, 27, 28, 29, 30, 31, 32, 33, 34, 35, 36, 37] rfl (by decide +kernel)) gt_wsX6_lie_wsX60
set_option maxRecDepth 20000 in
theorem gX6_lie_X6_daysBy : GoodIn wsX6_lie (wsV RX6 212 RX6 yX6_daysBy wsX6_daysBy) := goodIn_app (goodIn_r _ [2, 3, 4, 5] rfl (by decide +kernel)) ggX6_lie_X6_daysBy
theorem dX6_lie_0_t : dqK cX6_lie.data.toList 0 [(0, .iconst 0, 1), (1, .istore_n 1, 1), (2, .iload_n 1, 1), (3, .aload_n 0, 1), (4, .getfield 7, 3), (7, .bipush 60, 2), (9, .iaload, 1), (10, .if_icmp .ge 21, 3), (13, .aload_n 0, 1), (14, .iload_n 1, 1), (15, .iconst 1, 1), (16, .iadd, 1), (17, .invokevirtual 212, 3), (20, .ifCond .ne 5, 3), (23, .iload_n 1, 1), (24, .ireturn, 1), (25, .iinc 1 1, 3), (28, .goto (-26), 3), (31, .bipush (-4), 2), (33, .ireturn, 1)] = true := by decide +kernel
theorem dX6_lie_0 : decode cX6_lie 0 = .ok (.iconst 0, 1) := dq_get dX6_lie_0_t 0 rfl
theorem dX6_lie_1 : decode cX6_lie 1 = .ok (.istore_n 1, 1) := dq_get dX6_lie_0_t 1 rfl
theorem dX6_lie_2 : decode cX6_lie 2 = .ok (.iload_n 1, 1) := dq_get dX6_lie_0_t 2 rfl
theorem dX6_lie_3 : decode cX6_lie 3 = .ok (.aload_n 0, 1) := dq_get dX6_lie_0_t 3 rfl
theorem dX6_lie_4 : decode cX6_lie 4 = .ok (.getfield 7, 3) := dq_get dX6_lie_0_t 4 rfl
theorem dX6_lie_7 : decode cX6_lie 7 = .ok (.bipush 60, 2) := dq_get dX6_lie_0_t 5 rfl
theorem dX6_lie_9 : decode cX6_lie 9 = .ok (.iaload, 1) := dq_get dX6_lie_0_t 6 rfl
theorem dX6_lie_10 : decode cX6_lie 10 = .ok (.if_icmp .ge 21, 3) := dq_get dX6_lie_0_t 7 rfl
theorem dX6_lie_13 : decode cX6_lie 13 = .ok (.aload_n 0, 1) := dq_get dX6_lie_0_t 8 rfl
theorem dX6_lie_14 : decode cX6_lie 14 = .ok (.iload_n 1, 1) := dq_get dX6_lie_0_t 9 rfl
theorem dX6_lie_15 : decode cX6_lie 15 = .ok (.iconst 1, 1) := dq_get dX6_lie_0_t 10 rfl
theorem dX6_lie_16 : decode cX6_lie 16 = .ok (.iadd, 1) := dq_get dX6_lie_0_t 11 rfl
theorem dX6_lie_17 : decode cX6_lie 17 = .ok (.invokevirtual 212, 3) := dq_get dX6_lie_0_t 12 rfl
theorem dX6_lie_20 : decode cX6_lie 20 = .ok (.ifCond .ne 5, 3) := dq_get dX6_lie_0_t 13 rfl
theorem dX6_lie_23 : decode cX6_lie 23 = .ok (.iload_n 1, 1) := dq_get dX6_lie_0_t 14 rfl
theorem dX6_lie_24 : decode cX6_lie 24 = .ok (.ireturn, 1) := dq_get dX6_lie_0_t 15 rfl
theorem dX6_lie_25 : decode cX6_lie 25 = .ok (.iinc 1 1, 3) := dq_get dX6_lie_0_t 16 rfl
theorem dX6_lie_28 : decode cX6_lie 28 = .ok (.goto (-26), 3) := dq_get dX6_lie_0_t 17 rfl
theorem dX6_lie_31 : decode cX6_lie 31 = .ok (.bipush (-4), 2) := dq_get dX6_lie_0_t 18 rfl
theorem dX6_lie_33 : decode cX6_lie 33 = .ok (.ireturn, 1) := dq_get dX6_lie_0_t 19 rfl
theorem gt_wsX6_worstOf_wsX60 : GoodIn wsX6_worstOf wsX60 := fun w hw => ⟨List.mem_cons_of_mem _ (List.mem_append_right _ hw), good_of_word (List.all_eq_true.mp gw_wsX60 w hw)⟩
set_option maxRecDepth 20000 in
theorem ggX6_worstOf_X6_shiftTo : GoodIn wsX6_worstOf wsX6_shiftTo := goodIn_ca (goodIn_r _ [7, 8, 9, 10, 11, 6, 12, 13] rfl (by decide +kernel)) gt_wsX6_worstOf_wsX60
set_option maxRecDepth 20000 in
theorem gX6_worstOf_X6_shiftTo : GoodIn wsX6_worstOf (wsV RX6 169 RX6 yX6_shiftTo wsX6_shiftTo) := goodIn_app (goodIn_r _ [3, 4, 5, 6] rfl (by decide +kernel)) ggX6_worstOf_X6_shiftTo
set_option maxRecDepth 20000 in
theorem ggX6_worstOf_X6_seenAs : GoodIn wsX6_worstOf wsX6_seenAs := goodIn_ca (goodIn_r _ [17, 8, 18, 19, 20, 6, 21, 22, 23, 24, 25, 26, 27, 28, 29, 30, 31] rfl (by decide +kernel)) gt_wsX6_worstOf_wsX60
set_option maxRecDepth 20000 in
theorem gX6_worstOf_X6_seenAs : GoodIn wsX6_worstOf (wsV RX6 209 RX6 yX6_seenAs wsX6_seenAs) := goodIn_app (goodIn_r _ [14, 15, 16, 6] rfl (by decide +kernel)) ggX6_worstOf_X6_seenAs
theorem dX6_worstOf_0_t : dqK cX6_worstOf.data.toList 0 [(0, .iconst 0, 1), (1, .istore 4, 2), (3, .iload 4, 2), (5, .bipush 7, 2), (7, .if_icmp .ge 17, 3), (10, .aload_n 0, 1), (11, .getfield 26, 3), (14, .iload 4, 2), (16, .iconst 0, 1), (17, .iastore, 1), (18, .iinc 4 1, 3), (21, .goto (-18), 3), (24, .iconst 0, 1), (25, .istore 4, 2), (27, .iconst 0, 1), (28, .istore 5, 2), (30, .iload 5, 2), (32, .aload_n 0, 1), (33, .getfield 78, 3), (36, .if_icmp .gt 86, 3), (39, .iload_n 3, 1), (40, .iload 5, 2), (42, .ishr, 1), (43, .iconst 1, 1), (44, .iand, 1), (45, .iconst 1, 1), (46, .if_icmp .ne 70, 3), (49, .aload_n 0, 1), (50, .iload 5, 2), (52, .invokevirtual 169, 3), (55, .aload_n 0, 1), (56, .iload_n 1, 1), (57, .iload_n 2, 1), (58, .invokevirtual 209, 3), (61, .istore 6, 2), (63, .iload 6, 2), (65, .bipush (-4), 2), (67, .if_icmp .ne 8, 3), (70, .bipush 6, 2), (72, .goto 5, 3)] = true := by decide +kernel
theorem dX6_worstOf_0 : decode cX6_worstOf 0 = .ok (.iconst 0, 1) := dq_get dX6_worstOf_0_t 0 rfl
theorem dX6_worstOf_1 : decode cX6_worstOf 1 = .ok (.istore 4, 2) := dq_get dX6_worstOf_0_t 1 rfl
theorem dX6_worstOf_3 : decode cX6_worstOf 3 = .ok (.iload 4, 2) := dq_get dX6_worstOf_0_t 2 rfl
theorem dX6_worstOf_5 : decode cX6_worstOf 5 = .ok (.bipush 7, 2) := dq_get dX6_worstOf_0_t 3 rfl
theorem dX6_worstOf_7 : decode cX6_worstOf 7 = .ok (.if_icmp .ge 17, 3) := dq_get dX6_worstOf_0_t 4 rfl
theorem dX6_worstOf_10 : decode cX6_worstOf 10 = .ok (.aload_n 0, 1) := dq_get dX6_worstOf_0_t 5 rfl
theorem dX6_worstOf_11 : decode cX6_worstOf 11 = .ok (.getfield 26, 3) := dq_get dX6_worstOf_0_t 6 rfl
theorem dX6_worstOf_14 : decode cX6_worstOf 14 = .ok (.iload 4, 2) := dq_get dX6_worstOf_0_t 7 rfl
theorem dX6_worstOf_16 : decode cX6_worstOf 16 = .ok (.iconst 0, 1) := dq_get dX6_worstOf_0_t 8 rfl
theorem dX6_worstOf_17 : decode cX6_worstOf 17 = .ok (.iastore, 1) := dq_get dX6_worstOf_0_t 9 rfl
theorem dX6_worstOf_18 : decode cX6_worstOf 18 = .ok (.iinc 4 1, 3) := dq_get dX6_worstOf_0_t 10 rfl
theorem dX6_worstOf_21 : decode cX6_worstOf 21 = .ok (.goto (-18), 3) := dq_get dX6_worstOf_0_t 11 rfl
theorem dX6_worstOf_24 : decode cX6_worstOf 24 = .ok (.iconst 0, 1) := dq_get dX6_worstOf_0_t 12 rfl
theorem dX6_worstOf_25 : decode cX6_worstOf 25 = .ok (.istore 4, 2) := dq_get dX6_worstOf_0_t 13 rfl
theorem dX6_worstOf_27 : decode cX6_worstOf 27 = .ok (.iconst 0, 1) := dq_get dX6_worstOf_0_t 14 rfl
theorem dX6_worstOf_28 : decode cX6_worstOf 28 = .ok (.istore 5, 2) := dq_get dX6_worstOf_0_t 15 rfl
theorem dX6_worstOf_30 : decode cX6_worstOf 30 = .ok (.iload 5, 2) := dq_get dX6_worstOf_0_t 16 rfl
theorem dX6_worstOf_32 : decode cX6_worstOf 32 = .ok (.aload_n 0, 1) := dq_get dX6_worstOf_0_t 17 rfl
theorem dX6_worstOf_33 : decode cX6_worstOf 33 = .ok (.getfield 78, 3) := dq_get dX6_worstOf_0_t 18 rfl
theorem dX6_worstOf_36 : decode cX6_worstOf 36 = .ok (.if_icmp .gt 86, 3) := dq_get dX6_worstOf_0_t 19 rfl
theorem dX6_worstOf_39 : decode cX6_worstOf 39 = .ok (.iload_n 3, 1) := dq_get dX6_worstOf_0_t 20 rfl
theorem dX6_worstOf_40 : decode cX6_worstOf 40 = .ok (.iload 5, 2) := dq_get dX6_worstOf_0_t 21 rfl
theorem dX6_worstOf_42 : decode cX6_worstOf 42 = .ok (.ishr, 1) := dq_get dX6_worstOf_0_t 22 rfl
theorem dX6_worstOf_43 : decode cX6_worstOf 43 = .ok (.iconst 1, 1) := dq_get dX6_worstOf_0_t 23 rfl
theorem dX6_worstOf_44 : decode cX6_worstOf 44 = .ok (.iand, 1) := dq_get dX6_worstOf_0_t 24 rfl
theorem dX6_worstOf_45 : decode cX6_worstOf 45 = .ok (.iconst 1, 1) := dq_get dX6_worstOf_0_t 25 rfl
theorem dX6_worstOf_46 : decode cX6_worstOf 46 = .ok (.if_icmp .ne 70, 3) := dq_get dX6_worstOf_0_t 26 rfl
theorem dX6_worstOf_49 : decode cX6_worstOf 49 = .ok (.aload_n 0, 1) := dq_get dX6_worstOf_0_t 27 rfl
theorem dX6_worstOf_50 : decode cX6_worstOf 50 = .ok (.iload 5, 2) := dq_get dX6_worstOf_0_t 28 rfl
theorem dX6_worstOf_52 : decode cX6_worstOf 52 = .ok (.invokevirtual 169, 3) := dq_get dX6_worstOf_0_t 29 rfl
theorem dX6_worstOf_55 : decode cX6_worstOf 55 = .ok (.aload_n 0, 1) := dq_get dX6_worstOf_0_t 30 rfl
theorem dX6_worstOf_56 : decode cX6_worstOf 56 = .ok (.iload_n 1, 1) := dq_get dX6_worstOf_0_t 31 rfl
theorem dX6_worstOf_57 : decode cX6_worstOf 57 = .ok (.iload_n 2, 1) := dq_get dX6_worstOf_0_t 32 rfl
theorem dX6_worstOf_58 : decode cX6_worstOf 58 = .ok (.invokevirtual 209, 3) := dq_get dX6_worstOf_0_t 33 rfl
theorem dX6_worstOf_61 : decode cX6_worstOf 61 = .ok (.istore 6, 2) := dq_get dX6_worstOf_0_t 34 rfl
theorem dX6_worstOf_63 : decode cX6_worstOf 63 = .ok (.iload 6, 2) := dq_get dX6_worstOf_0_t 35 rfl
theorem dX6_worstOf_65 : decode cX6_worstOf 65 = .ok (.bipush (-4), 2) := dq_get dX6_worstOf_0_t 36 rfl
theorem dX6_worstOf_67 : decode cX6_worstOf 67 = .ok (.if_icmp .ne 8, 3) := dq_get dX6_worstOf_0_t 37 rfl
theorem dX6_worstOf_70 : decode cX6_worstOf 70 = .ok (.bipush 6, 2) := dq_get dX6_worstOf_0_t 38 rfl
theorem dX6_worstOf_72 : decode cX6_worstOf 72 = .ok (.goto 5, 3) := dq_get dX6_worstOf_0_t 39 rfl
theorem dX6_worstOf_75_t : dqK cX6_worstOf.data.toList 0 [(75, .iload 6, 2), (77, .istore 7, 2), (79, .aload_n 0, 1), (80, .getfield 26, 3), (83, .iload 7, 2), (85, .dup2, 1), (86, .iaload, 1), (87, .iconst 1, 1), (88, .iadd, 1), (89, .iastore, 1), (90, .aload_n 0, 1), (91, .getfield 26, 3), (94, .iload 7, 2), (96, .iaload, 1), (97, .iload 4, 2), (99, .if_icmp .le 13, 3), (102, .aload_n 0, 1), (103, .getfield 26, 3), (106, .iload 7, 2), (108, .iaload, 1), (109, .goto 5, 3), (112, .iload 4, 2), (114, .istore 4, 2), (116, .iinc 5 1, 3), (119, .goto (-89), 3), (122, .iload 4, 2), (124, .ireturn, 1)] = true := by decide +kernel
theorem dX6_worstOf_75 : decode cX6_worstOf 75 = .ok (.iload 6, 2) := dq_get dX6_worstOf_75_t 0 rfl
theorem dX6_worstOf_77 : decode cX6_worstOf 77 = .ok (.istore 7, 2) := dq_get dX6_worstOf_75_t 1 rfl
theorem dX6_worstOf_79 : decode cX6_worstOf 79 = .ok (.aload_n 0, 1) := dq_get dX6_worstOf_75_t 2 rfl
theorem dX6_worstOf_80 : decode cX6_worstOf 80 = .ok (.getfield 26, 3) := dq_get dX6_worstOf_75_t 3 rfl
theorem dX6_worstOf_83 : decode cX6_worstOf 83 = .ok (.iload 7, 2) := dq_get dX6_worstOf_75_t 4 rfl
theorem dX6_worstOf_85 : decode cX6_worstOf 85 = .ok (.dup2, 1) := dq_get dX6_worstOf_75_t 5 rfl
theorem dX6_worstOf_86 : decode cX6_worstOf 86 = .ok (.iaload, 1) := dq_get dX6_worstOf_75_t 6 rfl
theorem dX6_worstOf_87 : decode cX6_worstOf 87 = .ok (.iconst 1, 1) := dq_get dX6_worstOf_75_t 7 rfl
theorem dX6_worstOf_88 : decode cX6_worstOf 88 = .ok (.iadd, 1) := dq_get dX6_worstOf_75_t 8 rfl
theorem dX6_worstOf_89 : decode cX6_worstOf 89 = .ok (.iastore, 1) := dq_get dX6_worstOf_75_t 9 rfl
theorem dX6_worstOf_90 : decode cX6_worstOf 90 = .ok (.aload_n 0, 1) := dq_get dX6_worstOf_75_t 10 rfl
theorem dX6_worstOf_91 : decode cX6_worstOf 91 = .ok (.getfield 26, 3) := dq_get dX6_worstOf_75_t 11 rfl
theorem dX6_worstOf_94 : decode cX6_worstOf 94 = .ok (.iload 7, 2) := dq_get dX6_worstOf_75_t 12 rfl
theorem dX6_worstOf_96 : decode cX6_worstOf 96 = .ok (.iaload, 1) := dq_get dX6_worstOf_75_t 13 rfl
theorem dX6_worstOf_97 : decode cX6_worstOf 97 = .ok (.iload 4, 2) := dq_get dX6_worstOf_75_t 14 rfl
theorem dX6_worstOf_99 : decode cX6_worstOf 99 = .ok (.if_icmp .le 13, 3) := dq_get dX6_worstOf_75_t 15 rfl
theorem dX6_worstOf_102 : decode cX6_worstOf 102 = .ok (.aload_n 0, 1) := dq_get dX6_worstOf_75_t 16 rfl
theorem dX6_worstOf_103 : decode cX6_worstOf 103 = .ok (.getfield 26, 3) := dq_get dX6_worstOf_75_t 17 rfl
theorem dX6_worstOf_106 : decode cX6_worstOf 106 = .ok (.iload 7, 2) := dq_get dX6_worstOf_75_t 18 rfl
theorem dX6_worstOf_108 : decode cX6_worstOf 108 = .ok (.iaload, 1) := dq_get dX6_worstOf_75_t 19 rfl
theorem dX6_worstOf_109 : decode cX6_worstOf 109 = .ok (.goto 5, 3) := dq_get dX6_worstOf_75_t 20 rfl
theorem dX6_worstOf_112 : decode cX6_worstOf 112 = .ok (.iload 4, 2) := dq_get dX6_worstOf_75_t 21 rfl
theorem dX6_worstOf_114 : decode cX6_worstOf 114 = .ok (.istore 4, 2) := dq_get dX6_worstOf_75_t 22 rfl
theorem dX6_worstOf_116 : decode cX6_worstOf 116 = .ok (.iinc 5 1, 3) := dq_get dX6_worstOf_75_t 23 rfl
theorem dX6_worstOf_119 : decode cX6_worstOf 119 = .ok (.goto (-89), 3) := dq_get dX6_worstOf_75_t 24 rfl
theorem dX6_worstOf_122 : decode cX6_worstOf 122 = .ok (.iload 4, 2) := dq_get dX6_worstOf_75_t 25 rfl
theorem dX6_worstOf_124 : decode cX6_worstOf 124 = .ok (.ireturn, 1) := dq_get dX6_worstOf_75_t 26 rfl
set_option maxRecDepth 20000 in
theorem ggX6_look_X6_isPart : GoodIn wsX6_look wsX6_isPart := goodIn_r _ [4, 5, 6, 3, 7] rfl (by decide +kernel)
set_option maxRecDepth 20000 in
theorem gX6_look_X6_isPart : GoodIn wsX6_look (va_wsS RX6 190 yX6_isPart wsX6_isPart) := goodIn_app (goodIn_r _ [1, 2, 3] rfl (by decide +kernel)) ggX6_look_X6_isPart
theorem gt_wsX6_look_wsX60 : GoodIn wsX6_look wsX60 := fun w hw => ⟨List.mem_cons_of_mem _ (List.mem_append_right _ hw), good_of_word (List.all_eq_true.mp gw_wsX60 w hw)⟩
set_option maxRecDepth 20000 in
theorem ggX6_look_X6_days : GoodIn wsX6_look wsX6_days := goodIn_ca (goodIn_r _ [11, 12, 13, 14, 15, 3, 16, 17, 18, 19, 20, 21, 22, 23, 24, 25, 26, 27, 28, 29, 30, 31, 32, 33, 34, 35, 36, 37, 38, 39, 40, 41, 42, 43, 44, 45, 46, 47] rfl (by decide +kernel)) gt_wsX6_look_wsX60
set_option maxRecDepth 20000 in
theorem gX6_look_X6_days : GoodIn wsX6_look (wsV RX6 215 RX6 yX6_days wsX6_days) := goodIn_app (goodIn_r _ [8, 9, 10, 3] rfl (by decide +kernel)) ggX6_look_X6_days
set_option maxRecDepth 20000 in
theorem ggX6_look_X6_bitsOf : GoodIn wsX6_look wsX6_bitsOf := goodIn_r _ [50] rfl (by decide +kernel)
set_option maxRecDepth 20000 in
theorem gX6_look_X6_bitsOf : GoodIn wsX6_look (va_wsS RX6 218 yX6_bitsOf wsX6_bitsOf) := goodIn_app (goodIn_r _ [48, 49, 3] rfl (by decide +kernel)) ggX6_look_X6_bitsOf
set_option maxRecDepth 20000 in
theorem ggX6_look_X6_cellsNow : GoodIn wsX6_look wsX6_cellsNow := goodIn_ca (goodIn_r _ [43, 39, 44] rfl (by decide +kernel)) gt_wsX6_look_wsX60
set_option maxRecDepth 20000 in
theorem gX6_look_X6_cellsNow : GoodIn wsX6_look (wsV RX6 158 RX6 yX6_cellsNow wsX6_cellsNow) := goodIn_app (goodIn_r _ [40, 41, 42, 3] rfl (by decide +kernel)) ggX6_look_X6_cellsNow
set_option maxRecDepth 20000 in
theorem ggX6_look_X6_worstOf : GoodIn wsX6_look wsX6_worstOf := goodIn_ca (goodIn_r _ [54, 55, 17, 18, 19, 20, 3, 21, 22, 23, 24, 25, 26, 12, 27, 28, 29, 30, 31, 32, 33, 34, 35, 36, 37, 38, 39, 40, 41, 42, 43, 44] rfl (by decide +kernel)) gt_wsX6_look_wsX60
set_option maxRecDepth 20000 in
theorem gX6_look_X6_worstOf : GoodIn wsX6_look (wsV RX6 221 RX6 yX6_worstOf wsX6_worstOf) := goodIn_app (goodIn_r _ [51, 52, 53, 3] rfl (by decide +kernel)) ggX6_look_X6_worstOf
theorem dX6_look_0_t : dqK cX6_look.data.toList 0 [(0, .iload_n 1, 1), (1, .invokestatic 190, 3), (4, .ifCond .ne 5, 3), (7, .iconst (-1), 1), (8, .ireturn, 1), (9, .aload_n 0, 1), (10, .invokevirtual 215, 3), (13, .istore_n 2, 1), (14, .iload_n 2, 1), (15, .invokestatic 218, 3), (18, .istore_n 3, 1), (19, .bipush (-4), 2), (21, .istore 4, 2), (23, .iconst 0, 1), (24, .istore 5, 2), (26, .iload 5, 2), (28, .aload_n 0, 1), (29, .invokevirtual 158, 3), (32, .if_icmp .ge 72, 3), (35, .iconst 0, 1), (36, .istore 6, 2), (38, .iload 6, 2), (40, .aload_n 0, 1), (41, .invokevirtual 158, 3), (44, .if_icmp .ge 54, 3), (47, .aload_n 0, 1), (48, .iload 5, 2), (50, .iload 6, 2), (52, .iload_n 2, 1), (53, .invokevirtual 221, 3), (56, .istore 7, 2), (58, .iload 7, 2), (60, .iload_n 3, 1), (61, .if_icmp .ge 14, 3), (64, .bipush 16, 2), (66, .iload 5, 2), (68, .imul, 1), (69, .iload 6, 2), (71, .iadd, 1), (72, .goto 5, 3)] = true := by decide +kernel
theorem dX6_look_0 : decode cX6_look 0 = .ok (.iload_n 1, 1) := dq_get dX6_look_0_t 0 rfl
theorem dX6_look_1 : decode cX6_look 1 = .ok (.invokestatic 190, 3) := dq_get dX6_look_0_t 1 rfl
theorem dX6_look_4 : decode cX6_look 4 = .ok (.ifCond .ne 5, 3) := dq_get dX6_look_0_t 2 rfl
theorem dX6_look_7 : decode cX6_look 7 = .ok (.iconst (-1), 1) := dq_get dX6_look_0_t 3 rfl
theorem dX6_look_8 : decode cX6_look 8 = .ok (.ireturn, 1) := dq_get dX6_look_0_t 4 rfl
theorem dX6_look_9 : decode cX6_look 9 = .ok (.aload_n 0, 1) := dq_get dX6_look_0_t 5 rfl
theorem dX6_look_10 : decode cX6_look 10 = .ok (.invokevirtual 215, 3) := dq_get dX6_look_0_t 6 rfl
theorem dX6_look_13 : decode cX6_look 13 = .ok (.istore_n 2, 1) := dq_get dX6_look_0_t 7 rfl
theorem dX6_look_14 : decode cX6_look 14 = .ok (.iload_n 2, 1) := dq_get dX6_look_0_t 8 rfl
theorem dX6_look_15 : decode cX6_look 15 = .ok (.invokestatic 218, 3) := dq_get dX6_look_0_t 9 rfl
theorem dX6_look_18 : decode cX6_look 18 = .ok (.istore_n 3, 1) := dq_get dX6_look_0_t 10 rfl
theorem dX6_look_19 : decode cX6_look 19 = .ok (.bipush (-4), 2) := dq_get dX6_look_0_t 11 rfl
theorem dX6_look_21 : decode cX6_look 21 = .ok (.istore 4, 2) := dq_get dX6_look_0_t 12 rfl
theorem dX6_look_23 : decode cX6_look 23 = .ok (.iconst 0, 1) := dq_get dX6_look_0_t 13 rfl
theorem dX6_look_24 : decode cX6_look 24 = .ok (.istore 5, 2) := dq_get dX6_look_0_t 14 rfl
theorem dX6_look_26 : decode cX6_look 26 = .ok (.iload 5, 2) := dq_get dX6_look_0_t 15 rfl
theorem dX6_look_28 : decode cX6_look 28 = .ok (.aload_n 0, 1) := dq_get dX6_look_0_t 16 rfl
theorem dX6_look_29 : decode cX6_look 29 = .ok (.invokevirtual 158, 3) := dq_get dX6_look_0_t 17 rfl
theorem dX6_look_32 : decode cX6_look 32 = .ok (.if_icmp .ge 72, 3) := dq_get dX6_look_0_t 18 rfl
theorem dX6_look_35 : decode cX6_look 35 = .ok (.iconst 0, 1) := dq_get dX6_look_0_t 19 rfl
theorem dX6_look_36 : decode cX6_look 36 = .ok (.istore 6, 2) := dq_get dX6_look_0_t 20 rfl
theorem dX6_look_38 : decode cX6_look 38 = .ok (.iload 6, 2) := dq_get dX6_look_0_t 21 rfl
theorem dX6_look_40 : decode cX6_look 40 = .ok (.aload_n 0, 1) := dq_get dX6_look_0_t 22 rfl
theorem dX6_look_41 : decode cX6_look 41 = .ok (.invokevirtual 158, 3) := dq_get dX6_look_0_t 23 rfl
theorem dX6_look_44 : decode cX6_look 44 = .ok (.if_icmp .ge 54, 3) := dq_get dX6_look_0_t 24 rfl
theorem dX6_look_47 : decode cX6_look 47 = .ok (.aload_n 0, 1) := dq_get dX6_look_0_t 25 rfl
theorem dX6_look_48 : decode cX6_look 48 = .ok (.iload 5, 2) := dq_get dX6_look_0_t 26 rfl
theorem dX6_look_50 : decode cX6_look 50 = .ok (.iload 6, 2) := dq_get dX6_look_0_t 27 rfl
theorem dX6_look_52 : decode cX6_look 52 = .ok (.iload_n 2, 1) := dq_get dX6_look_0_t 28 rfl
theorem dX6_look_53 : decode cX6_look 53 = .ok (.invokevirtual 221, 3) := dq_get dX6_look_0_t 29 rfl
theorem dX6_look_56 : decode cX6_look 56 = .ok (.istore 7, 2) := dq_get dX6_look_0_t 30 rfl
theorem dX6_look_58 : decode cX6_look 58 = .ok (.iload 7, 2) := dq_get dX6_look_0_t 31 rfl
theorem dX6_look_60 : decode cX6_look 60 = .ok (.iload_n 3, 1) := dq_get dX6_look_0_t 32 rfl
theorem dX6_look_61 : decode cX6_look 61 = .ok (.if_icmp .ge 14, 3) := dq_get dX6_look_0_t 33 rfl
theorem dX6_look_64 : decode cX6_look 64 = .ok (.bipush 16, 2) := dq_get dX6_look_0_t 34 rfl
theorem dX6_look_66 : decode cX6_look 66 = .ok (.iload 5, 2) := dq_get dX6_look_0_t 35 rfl
theorem dX6_look_68 : decode cX6_look 68 = .ok (.imul, 1) := dq_get dX6_look_0_t 36 rfl
theorem dX6_look_69 : decode cX6_look 69 = .ok (.iload 6, 2) := dq_get dX6_look_0_t 37 rfl
theorem dX6_look_71 : decode cX6_look 71 = .ok (.iadd, 1) := dq_get dX6_look_0_t 38 rfl
theorem dX6_look_72 : decode cX6_look 72 = .ok (.goto 5, 3) := dq_get dX6_look_0_t 39 rfl
theorem dX6_look_75_t : dqK cX6_look.data.toList 0 [(75, .iload 4, 2), (77, .istore 4, 2), (79, .iload 7, 2), (81, .iload_n 3, 1), (82, .if_icmp .ge 8, 3), (85, .iload 7, 2), (87, .goto 4, 3), (90, .iload_n 3, 1), (91, .istore_n 3, 1), (92, .iinc 6 1, 3), (95, .goto (-57), 3), (98, .iinc 5 1, 3), (101, .goto (-75), 3), (104, .iload 4, 2), (106, .bipush (-4), 2), (108, .if_icmp .ne 8, 3), (111, .bipush (-4), 2), (113, .goto 13, 3), (116, .iload_n 1, 1), (117, .ifCond .ne 8, 3), (120, .iload 4, 2), (122, .goto 4, 3), (125, .iload_n 3, 1), (126, .ireturn, 1)] = true := by decide +kernel
theorem dX6_look_75 : decode cX6_look 75 = .ok (.iload 4, 2) := dq_get dX6_look_75_t 0 rfl
theorem dX6_look_77 : decode cX6_look 77 = .ok (.istore 4, 2) := dq_get dX6_look_75_t 1 rfl
theorem dX6_look_79 : decode cX6_look 79 = .ok (.iload 7, 2) := dq_get dX6_look_75_t 2 rfl
theorem dX6_look_81 : decode cX6_look 81 = .ok (.iload_n 3, 1) := dq_get dX6_look_75_t 3 rfl
theorem dX6_look_82 : decode cX6_look 82 = .ok (.if_icmp .ge 8, 3) := dq_get dX6_look_75_t 4 rfl
theorem dX6_look_85 : decode cX6_look 85 = .ok (.iload 7, 2) := dq_get dX6_look_75_t 5 rfl
theorem dX6_look_87 : decode cX6_look 87 = .ok (.goto 4, 3) := dq_get dX6_look_75_t 6 rfl
theorem dX6_look_90 : decode cX6_look 90 = .ok (.iload_n 3, 1) := dq_get dX6_look_75_t 7 rfl
theorem dX6_look_91 : decode cX6_look 91 = .ok (.istore_n 3, 1) := dq_get dX6_look_75_t 8 rfl
theorem dX6_look_92 : decode cX6_look 92 = .ok (.iinc 6 1, 3) := dq_get dX6_look_75_t 9 rfl
theorem dX6_look_95 : decode cX6_look 95 = .ok (.goto (-57), 3) := dq_get dX6_look_75_t 10 rfl
theorem dX6_look_98 : decode cX6_look 98 = .ok (.iinc 5 1, 3) := dq_get dX6_look_75_t 11 rfl
theorem dX6_look_101 : decode cX6_look 101 = .ok (.goto (-75), 3) := dq_get dX6_look_75_t 12 rfl
theorem dX6_look_104 : decode cX6_look 104 = .ok (.iload 4, 2) := dq_get dX6_look_75_t 13 rfl
theorem dX6_look_106 : decode cX6_look 106 = .ok (.bipush (-4), 2) := dq_get dX6_look_75_t 14 rfl
theorem dX6_look_108 : decode cX6_look 108 = .ok (.if_icmp .ne 8, 3) := dq_get dX6_look_75_t 15 rfl
theorem dX6_look_111 : decode cX6_look 111 = .ok (.bipush (-4), 2) := dq_get dX6_look_75_t 16 rfl
theorem dX6_look_113 : decode cX6_look 113 = .ok (.goto 13, 3) := dq_get dX6_look_75_t 17 rfl
theorem dX6_look_116 : decode cX6_look 116 = .ok (.iload_n 1, 1) := dq_get dX6_look_75_t 18 rfl
theorem dX6_look_117 : decode cX6_look 117 = .ok (.ifCond .ne 8, 3) := dq_get dX6_look_75_t 19 rfl
theorem dX6_look_120 : decode cX6_look 120 = .ok (.iload 4, 2) := dq_get dX6_look_75_t 20 rfl
theorem dX6_look_122 : decode cX6_look 122 = .ok (.goto 4, 3) := dq_get dX6_look_75_t 21 rfl
theorem dX6_look_125 : decode cX6_look 125 = .ok (.iload_n 3, 1) := dq_get dX6_look_75_t 22 rfl
theorem dX6_look_126 : decode cX6_look 126 = .ok (.ireturn, 1) := dq_get dX6_look_75_t 23 rfl
theorem dX6_common_0_t : dqK cX6_common.data.toList 0 [(0, .lload_n 0, 1), (1, .lstore 4, 2), (3, .lload_n 2, 1), (4, .lstore 6, 2), (6, .lload 6, 2), (8, .lconst 0, 1), (9, .lcmp, 1), (10, .ifCond .eq 21, 3), (13, .lload 4, 2), (15, .lload 6, 2), (17, .lrem, 1), (18, .lstore 8, 2), (20, .lload 6, 2), (22, .lstore 4, 2), (24, .lload 8, 2), (26, .lstore 6, 2), (28, .goto (-22), 3), (31, .lload 4, 2), (33, .lreturn, 1)] = true := by decide +kernel
theorem dX6_common_0 : decode cX6_common 0 = .ok (.lload_n 0, 1) := dq_get dX6_common_0_t 0 rfl
theorem dX6_common_1 : decode cX6_common 1 = .ok (.lstore 4, 2) := dq_get dX6_common_0_t 1 rfl
theorem dX6_common_3 : decode cX6_common 3 = .ok (.lload_n 2, 1) := dq_get dX6_common_0_t 2 rfl
theorem dX6_common_4 : decode cX6_common 4 = .ok (.lstore 6, 2) := dq_get dX6_common_0_t 3 rfl
theorem dX6_common_6 : decode cX6_common 6 = .ok (.lload 6, 2) := dq_get dX6_common_0_t 4 rfl
theorem dX6_common_8 : decode cX6_common 8 = .ok (.lconst 0, 1) := dq_get dX6_common_0_t 5 rfl
theorem dX6_common_9 : decode cX6_common 9 = .ok (.lcmp, 1) := dq_get dX6_common_0_t 6 rfl
theorem dX6_common_10 : decode cX6_common 10 = .ok (.ifCond .eq 21, 3) := dq_get dX6_common_0_t 7 rfl
theorem dX6_common_13 : decode cX6_common 13 = .ok (.lload 4, 2) := dq_get dX6_common_0_t 8 rfl
theorem dX6_common_15 : decode cX6_common 15 = .ok (.lload 6, 2) := dq_get dX6_common_0_t 9 rfl
theorem dX6_common_17 : decode cX6_common 17 = .ok (.lrem, 1) := dq_get dX6_common_0_t 10 rfl
theorem dX6_common_18 : decode cX6_common 18 = .ok (.lstore 8, 2) := dq_get dX6_common_0_t 11 rfl
theorem dX6_common_20 : decode cX6_common 20 = .ok (.lload 6, 2) := dq_get dX6_common_0_t 12 rfl
theorem dX6_common_22 : decode cX6_common 22 = .ok (.lstore 4, 2) := dq_get dX6_common_0_t 13 rfl
theorem dX6_common_24 : decode cX6_common 24 = .ok (.lload 8, 2) := dq_get dX6_common_0_t 14 rfl
theorem dX6_common_26 : decode cX6_common 26 = .ok (.lstore 6, 2) := dq_get dX6_common_0_t 15 rfl
theorem dX6_common_28 : decode cX6_common 28 = .ok (.goto (-22), 3) := dq_get dX6_common_0_t 16 rfl
theorem dX6_common_31 : decode cX6_common 31 = .ok (.lload 4, 2) := dq_get dX6_common_0_t 17 rfl
theorem dX6_common_33 : decode cX6_common 33 = .ok (.lreturn, 1) := dq_get dX6_common_0_t 18 rfl
set_option maxRecDepth 20000 in
theorem ggX6_told_X6_common : GoodIn wsX6_told wsX6_common := goodIn_r _ [4] rfl (by decide +kernel)
set_option maxRecDepth 20000 in
theorem gX6_told_X6_common : GoodIn wsX6_told (va_wsS RX6 225 yX6_common wsX6_common) := goodIn_app (goodIn_r _ [1, 2, 3] rfl (by decide +kernel)) ggX6_told_X6_common
theorem dX6_told_0_t : dqK cX6_told.data.toList 0 [(0, .lload_n 2, 1), (1, .lload_n 0, 1), (2, .invokestatic 225, 3), (5, .lstore 5, 2), (7, .iload 4, 2), (9, .ifCond .ne 10, 3), (12, .lload_n 0, 1), (13, .lload 5, 2), (15, .ldiv, 1), (16, .goto 7, 3), (19, .lload_n 2, 1), (20, .lload 5, 2), (22, .ldiv, 1), (23, .lreturn, 1)] = true := by decide +kernel
theorem dX6_told_0 : decode cX6_told 0 = .ok (.lload_n 2, 1) := dq_get dX6_told_0_t 0 rfl
theorem dX6_told_1 : decode cX6_told 1 = .ok (.lload_n 0, 1) := dq_get dX6_told_0_t 1 rfl
theorem dX6_told_2 : decode cX6_told 2 = .ok (.invokestatic 225, 3) := dq_get dX6_told_0_t 2 rfl
theorem dX6_told_5 : decode cX6_told 5 = .ok (.lstore 5, 2) := dq_get dX6_told_0_t 3 rfl
theorem dX6_told_7 : decode cX6_told 7 = .ok (.iload 4, 2) := dq_get dX6_told_0_t 4 rfl
theorem dX6_told_9 : decode cX6_told 9 = .ok (.ifCond .ne 10, 3) := dq_get dX6_told_0_t 5 rfl
theorem dX6_told_12 : decode cX6_told 12 = .ok (.lload_n 0, 1) := dq_get dX6_told_0_t 6 rfl
theorem dX6_told_13 : decode cX6_told 13 = .ok (.lload 5, 2) := dq_get dX6_told_0_t 7 rfl
theorem dX6_told_15 : decode cX6_told 15 = .ok (.ldiv, 1) := dq_get dX6_told_0_t 8 rfl
theorem dX6_told_16 : decode cX6_told 16 = .ok (.goto 7, 3) := dq_get dX6_told_0_t 9 rfl
theorem dX6_told_19 : decode cX6_told 19 = .ok (.lload_n 2, 1) := dq_get dX6_told_0_t 10 rfl
theorem dX6_told_20 : decode cX6_told 20 = .ok (.lload 5, 2) := dq_get dX6_told_0_t 11 rfl
theorem dX6_told_22 : decode cX6_told 22 = .ok (.ldiv, 1) := dq_get dX6_told_0_t 12 rfl
theorem dX6_told_23 : decode cX6_told 23 = .ok (.lreturn, 1) := dq_get dX6_told_0_t 13 rfl
theorem gt_wsX6_likely_wsX60 : GoodIn wsX6_likely wsX60 := fun w hw => ⟨List.mem_cons_of_mem _ (List.mem_append_right _ hw), good_of_word (List.all_eq_true.mp gw_wsX60 w hw)⟩
set_option maxRecDepth 20000 in
theorem ggX6_likely_X6_isCell : GoodIn wsX6_likely wsX6_isCell := goodIn_ca (goodIn_r _ [8, 9, 10, 11, 7, 12, 13, 14, 15, 16, 17] rfl (by decide +kernel)) gt_wsX6_likely_wsX60
set_option maxRecDepth 20000 in
theorem gX6_likely_X6_isCell : GoodIn wsX6_likely (wsV RX6 178 RX6 yX6_isCell wsX6_isCell) := goodIn_app (goodIn_r _ [4, 5, 6, 7] rfl (by decide +kernel)) ggX6_likely_X6_isCell
set_option maxRecDepth 20000 in
theorem ggX6_likely_X6_isMark : GoodIn wsX6_likely wsX6_isMark := goodIn_r _ [20, 21, 15, 16, 7, 17] rfl (by decide +kernel)
set_option maxRecDepth 20000 in
theorem gX6_likely_X6_isMark : GoodIn wsX6_likely (va_wsS RX6 193 yX6_isMark wsX6_isMark) := goodIn_app (goodIn_r _ [18, 19, 7] rfl (by decide +kernel)) ggX6_likely_X6_isMark
set_option maxRecDepth 20000 in
theorem ggX6_likely_X6_isPart : GoodIn wsX6_likely wsX6_isPart := goodIn_r _ [24, 15, 16, 7, 17] rfl (by decide +kernel)
set_option maxRecDepth 20000 in
theorem gX6_likely_X6_isPart : GoodIn wsX6_likely (va_wsS RX6 190 yX6_isPart wsX6_isPart) := goodIn_app (goodIn_r _ [22, 23, 7] rfl (by decide +kernel)) ggX6_likely_X6_isPart
set_option maxRecDepth 20000 in
theorem ggX6_likely_X6_days : GoodIn wsX6_likely wsX6_days := goodIn_ca (goodIn_r _ [28, 29, 30, 31, 32, 7, 33, 3, 34, 35, 36, 37, 38, 39, 40, 41, 42, 43, 44, 45, 46, 47, 48, 49, 50, 51, 52, 53, 54, 13, 9, 10, 11, 12, 14, 55, 56, 57] rfl (by decide +kernel)) gt_wsX6_likely_wsX60
set_option maxRecDepth 20000 in
theorem gX6_likely_X6_days : GoodIn wsX6_likely (wsV RX6 215 RX6 yX6_days wsX6_days) := goodIn_app (goodIn_r _ [25, 26, 27, 7] rfl (by decide +kernel)) ggX6_likely_X6_days
set_option maxRecDepth 20000 in
theorem ggX6_likely_X6_markOf : GoodIn wsX6_likely wsX6_markOf := goodIn_ca (goodIn_r _ [42, 29] rfl (by decide +kernel)) gt_wsX6_likely_wsX60
set_option maxRecDepth 20000 in
theorem gX6_likely_X6_markOf : GoodIn wsX6_likely (wsV RX6 163 RX6 yX6_markOf wsX6_markOf) := goodIn_app (goodIn_r _ [39, 40, 41, 7] rfl (by decide +kernel)) ggX6_likely_X6_markOf
set_option maxRecDepth 20000 in
theorem ggX6_likely_X6_flag : GoodIn wsX6_likely wsX6_flag := goodIn_r _ [57] rfl (by decide +kernel)
set_option maxRecDepth 20000 in
theorem gX6_likely_X6_flag : GoodIn wsX6_likely (va_wsS RX6 205 yX6_flag wsX6_flag) := goodIn_app (goodIn_r _ [55, 56, 7] rfl (by decide +kernel)) ggX6_likely_X6_flag
set_option maxRecDepth 20000 in
theorem ggX6_likely_X6_bitsOf : GoodIn wsX6_likely wsX6_bitsOf := goodIn_r _ [60] rfl (by decide +kernel)
set_option maxRecDepth 20000 in
theorem gX6_likely_X6_bitsOf : GoodIn wsX6_likely (va_wsS RX6 218 yX6_bitsOf wsX6_bitsOf) := goodIn_app (goodIn_r _ [58, 59, 7] rfl (by decide +kernel)) ggX6_likely_X6_bitsOf
set_option maxRecDepth 20000 in
theorem ggX6_likely_X6_told : GoodIn wsX6_likely wsX6_told := goodIn_r _ [63, 64, 65, 7, 66] rfl (by decide +kernel)
set_option maxRecDepth 20000 in
theorem gX6_likely_X6_told : GoodIn wsX6_likely (va_wsS RX6 233 yX6_told wsX6_told) := goodIn_app (goodIn_r _ [61, 62, 7] rfl (by decide +kernel)) ggX6_likely_X6_told
theorem dX6_likely_0_t : dqK cX6_likely.data.toList 0 [(0, .aload_n 0, 1), (1, .iload_n 1, 1), (2, .invokevirtual 178, 3), (5, .ifCond .eq 17, 3), (8, .iload_n 2, 1), (9, .invokestatic 193, 3), (12, .ifCond .eq 10, 3), (15, .iload_n 3, 1), (16, .invokestatic 190, 3), (19, .ifCond .ne 7, 3), (22, .ldc2_w 229, 3), (25, .lreturn, 1), (26, .aload_n 0, 1), (27, .invokevirtual 215, 3), (30, .istore 4, 2), (32, .iload 4, 2), (34, .ifCond .ne 7, 3), (37, .ldc2_w 231, 3), (40, .lreturn, 1), (41, .iconst 0, 1), (42, .istore 5, 2), (44, .iconst 0, 1), (45, .istore 6, 2), (47, .iload 6, 2), (49, .aload_n 0, 1), (50, .getfield 78, 3), (53, .if_icmp .gt 44, 3), (56, .iload 5, 2), (58, .iload 4, 2), (60, .iload 6, 2), (62, .ishr, 1), (63, .iconst 1, 1), (64, .iand, 1), (65, .iconst 1, 1), (66, .if_icmp .ne 18, 3), (69, .aload_n 0, 1), (70, .iload_n 1, 1), (71, .iload 6, 2), (73, .invokevirtual 163, 3), (76, .iload_n 2, 1)] = true := by decide +kernel
theorem dX6_likely_0 : decode cX6_likely 0 = .ok (.aload_n 0, 1) := dq_get dX6_likely_0_t 0 rfl
theorem dX6_likely_1 : decode cX6_likely 1 = .ok (.iload_n 1, 1) := dq_get dX6_likely_0_t 1 rfl
theorem dX6_likely_2 : decode cX6_likely 2 = .ok (.invokevirtual 178, 3) := dq_get dX6_likely_0_t 2 rfl
theorem dX6_likely_5 : decode cX6_likely 5 = .ok (.ifCond .eq 17, 3) := dq_get dX6_likely_0_t 3 rfl
theorem dX6_likely_8 : decode cX6_likely 8 = .ok (.iload_n 2, 1) := dq_get dX6_likely_0_t 4 rfl
theorem dX6_likely_9 : decode cX6_likely 9 = .ok (.invokestatic 193, 3) := dq_get dX6_likely_0_t 5 rfl
theorem dX6_likely_12 : decode cX6_likely 12 = .ok (.ifCond .eq 10, 3) := dq_get dX6_likely_0_t 6 rfl
theorem dX6_likely_15 : decode cX6_likely 15 = .ok (.iload_n 3, 1) := dq_get dX6_likely_0_t 7 rfl
theorem dX6_likely_16 : decode cX6_likely 16 = .ok (.invokestatic 190, 3) := dq_get dX6_likely_0_t 8 rfl
theorem dX6_likely_19 : decode cX6_likely 19 = .ok (.ifCond .ne 7, 3) := dq_get dX6_likely_0_t 9 rfl
theorem dX6_likely_22 : decode cX6_likely 22 = .ok (.ldc2_w 229, 3) := dq_get dX6_likely_0_t 10 rfl
theorem dX6_likely_25 : decode cX6_likely 25 = .ok (.lreturn, 1) := dq_get dX6_likely_0_t 11 rfl
theorem dX6_likely_26 : decode cX6_likely 26 = .ok (.aload_n 0, 1) := dq_get dX6_likely_0_t 12 rfl
theorem dX6_likely_27 : decode cX6_likely 27 = .ok (.invokevirtual 215, 3) := dq_get dX6_likely_0_t 13 rfl
theorem dX6_likely_30 : decode cX6_likely 30 = .ok (.istore 4, 2) := dq_get dX6_likely_0_t 14 rfl
theorem dX6_likely_32 : decode cX6_likely 32 = .ok (.iload 4, 2) := dq_get dX6_likely_0_t 15 rfl
theorem dX6_likely_34 : decode cX6_likely 34 = .ok (.ifCond .ne 7, 3) := dq_get dX6_likely_0_t 16 rfl
theorem dX6_likely_37 : decode cX6_likely 37 = .ok (.ldc2_w 231, 3) := dq_get dX6_likely_0_t 17 rfl
theorem dX6_likely_40 : decode cX6_likely 40 = .ok (.lreturn, 1) := dq_get dX6_likely_0_t 18 rfl
theorem dX6_likely_41 : decode cX6_likely 41 = .ok (.iconst 0, 1) := dq_get dX6_likely_0_t 19 rfl
theorem dX6_likely_42 : decode cX6_likely 42 = .ok (.istore 5, 2) := dq_get dX6_likely_0_t 20 rfl
theorem dX6_likely_44 : decode cX6_likely 44 = .ok (.iconst 0, 1) := dq_get dX6_likely_0_t 21 rfl
theorem dX6_likely_45 : decode cX6_likely 45 = .ok (.istore 6, 2) := dq_get dX6_likely_0_t 22 rfl
theorem dX6_likely_47 : decode cX6_likely 47 = .ok (.iload 6, 2) := dq_get dX6_likely_0_t 23 rfl
theorem dX6_likely_49 : decode cX6_likely 49 = .ok (.aload_n 0, 1) := dq_get dX6_likely_0_t 24 rfl
theorem dX6_likely_50 : decode cX6_likely 50 = .ok (.getfield 78, 3) := dq_get dX6_likely_0_t 25 rfl
theorem dX6_likely_53 : decode cX6_likely 53 = .ok (.if_icmp .gt 44, 3) := dq_get dX6_likely_0_t 26 rfl
theorem dX6_likely_56 : decode cX6_likely 56 = .ok (.iload 5, 2) := dq_get dX6_likely_0_t 27 rfl
theorem dX6_likely_58 : decode cX6_likely 58 = .ok (.iload 4, 2) := dq_get dX6_likely_0_t 28 rfl
theorem dX6_likely_60 : decode cX6_likely 60 = .ok (.iload 6, 2) := dq_get dX6_likely_0_t 29 rfl
theorem dX6_likely_62 : decode cX6_likely 62 = .ok (.ishr, 1) := dq_get dX6_likely_0_t 30 rfl
theorem dX6_likely_63 : decode cX6_likely 63 = .ok (.iconst 1, 1) := dq_get dX6_likely_0_t 31 rfl
theorem dX6_likely_64 : decode cX6_likely 64 = .ok (.iand, 1) := dq_get dX6_likely_0_t 32 rfl
theorem dX6_likely_65 : decode cX6_likely 65 = .ok (.iconst 1, 1) := dq_get dX6_likely_0_t 33 rfl
theorem dX6_likely_66 : decode cX6_likely 66 = .ok (.if_icmp .ne 18, 3) := dq_get dX6_likely_0_t 34 rfl
theorem dX6_likely_69 : decode cX6_likely 69 = .ok (.aload_n 0, 1) := dq_get dX6_likely_0_t 35 rfl
theorem dX6_likely_70 : decode cX6_likely 70 = .ok (.iload_n 1, 1) := dq_get dX6_likely_0_t 36 rfl
theorem dX6_likely_71 : decode cX6_likely 71 = .ok (.iload 6, 2) := dq_get dX6_likely_0_t 37 rfl
theorem dX6_likely_73 : decode cX6_likely 73 = .ok (.invokevirtual 163, 3) := dq_get dX6_likely_0_t 38 rfl
theorem dX6_likely_76 : decode cX6_likely 76 = .ok (.iload_n 2, 1) := dq_get dX6_likely_0_t 39 rfl
theorem dX6_likely_77_t : dqK cX6_likely.data.toList 0 [(77, .if_icmp .ne 7, 3), (80, .iconst 1, 1), (81, .goto 4, 3), (84, .iconst 0, 1), (85, .invokestatic 205, 3), (88, .iadd, 1), (89, .istore 5, 2), (91, .iinc 6 1, 3), (94, .goto (-47), 3), (97, .iload 5, 2), (99, .i2l, 1), (100, .iload 4, 2), (102, .invokestatic 218, 3), (105, .i2l, 1), (106, .iload_n 3, 1), (107, .invokestatic 233, 3), (110, .lreturn, 1)] = true := by decide +kernel
theorem dX6_likely_77 : decode cX6_likely 77 = .ok (.if_icmp .ne 7, 3) := dq_get dX6_likely_77_t 0 rfl
theorem dX6_likely_80 : decode cX6_likely 80 = .ok (.iconst 1, 1) := dq_get dX6_likely_77_t 1 rfl
theorem dX6_likely_81 : decode cX6_likely 81 = .ok (.goto 4, 3) := dq_get dX6_likely_77_t 2 rfl
theorem dX6_likely_84 : decode cX6_likely 84 = .ok (.iconst 0, 1) := dq_get dX6_likely_77_t 3 rfl
theorem dX6_likely_85 : decode cX6_likely 85 = .ok (.invokestatic 205, 3) := dq_get dX6_likely_77_t 4 rfl
theorem dX6_likely_88 : decode cX6_likely 88 = .ok (.iadd, 1) := dq_get dX6_likely_77_t 5 rfl
theorem dX6_likely_89 : decode cX6_likely 89 = .ok (.istore 5, 2) := dq_get dX6_likely_77_t 6 rfl
theorem dX6_likely_91 : decode cX6_likely 91 = .ok (.iinc 6 1, 3) := dq_get dX6_likely_77_t 7 rfl
theorem dX6_likely_94 : decode cX6_likely 94 = .ok (.goto (-47), 3) := dq_get dX6_likely_77_t 8 rfl
theorem dX6_likely_97 : decode cX6_likely 97 = .ok (.iload 5, 2) := dq_get dX6_likely_77_t 9 rfl
theorem dX6_likely_99 : decode cX6_likely 99 = .ok (.i2l, 1) := dq_get dX6_likely_77_t 10 rfl
theorem dX6_likely_100 : decode cX6_likely 100 = .ok (.iload 4, 2) := dq_get dX6_likely_77_t 11 rfl
theorem dX6_likely_102 : decode cX6_likely 102 = .ok (.invokestatic 218, 3) := dq_get dX6_likely_77_t 12 rfl
theorem dX6_likely_105 : decode cX6_likely 105 = .ok (.i2l, 1) := dq_get dX6_likely_77_t 13 rfl
theorem dX6_likely_106 : decode cX6_likely 106 = .ok (.iload_n 3, 1) := dq_get dX6_likely_77_t 14 rfl
theorem dX6_likely_107 : decode cX6_likely 107 = .ok (.invokestatic 233, 3) := dq_get dX6_likely_77_t 15 rfl
theorem dX6_likely_110 : decode cX6_likely 110 = .ok (.lreturn, 1) := dq_get dX6_likely_77_t 16 rfl
theorem gt_wsX6_could_wsX60 : GoodIn wsX6_could wsX60 := fun w hw => ⟨List.mem_cons_of_mem _ (List.mem_append_right _ hw), good_of_word (List.all_eq_true.mp gw_wsX60 w hw)⟩
set_option maxRecDepth 20000 in
theorem ggX6_could_X6_days : GoodIn wsX6_could wsX6_days := goodIn_ca (goodIn_r _ [6, 1, 7, 8, 9, 5, 10, 11, 12, 13, 14, 15, 16, 17, 18, 19, 20, 21, 22, 23, 24, 25, 26, 27, 28, 29, 30, 31, 32, 33, 34, 35, 36, 37, 38, 39, 40, 41] rfl (by decide +kernel)) gt_wsX6_could_wsX60
set_option maxRecDepth 20000 in
theorem gX6_could_X6_days : GoodIn wsX6_could (wsV RX6 215 RX6 yX6_days wsX6_days) := goodIn_app (goodIn_r _ [2, 3, 4, 5] rfl (by decide +kernel)) ggX6_could_X6_days
theorem dX6_could_0_t : dqK cX6_could.data.toList 0 [(0, .iconst 0, 1), (1, .istore_n 1, 1), (2, .iconst 0, 1), (3, .istore_n 2, 1), (4, .iload_n 2, 1), (5, .aload_n 0, 1), (6, .getfield 7, 3), (9, .bipush 47, 2), (11, .iaload, 1), (12, .if_icmp .ge 32, 3), (15, .iload_n 1, 1), (16, .aload_n 0, 1), (17, .invokevirtual 215, 3), (20, .aload_n 0, 1), (21, .getfield 7, 3), (24, .bipush 48, 2), (26, .iconst 2, 1), (27, .iload_n 2, 1), (28, .imul, 1), (29, .iadd, 1), (30, .iaload, 1), (31, .ishr, 1), (32, .iconst 1, 1), (33, .iand, 1), (34, .iload_n 2, 1), (35, .ishl, 1), (36, .ior, 1), (37, .istore_n 1, 1), (38, .iinc 2 1, 3), (41, .goto (-37), 3), (44, .iload_n 1, 1), (45, .ireturn, 1)] = true := by decide +kernel
theorem dX6_could_0 : decode cX6_could 0 = .ok (.iconst 0, 1) := dq_get dX6_could_0_t 0 rfl
theorem dX6_could_1 : decode cX6_could 1 = .ok (.istore_n 1, 1) := dq_get dX6_could_0_t 1 rfl
theorem dX6_could_2 : decode cX6_could 2 = .ok (.iconst 0, 1) := dq_get dX6_could_0_t 2 rfl
theorem dX6_could_3 : decode cX6_could 3 = .ok (.istore_n 2, 1) := dq_get dX6_could_0_t 3 rfl
theorem dX6_could_4 : decode cX6_could 4 = .ok (.iload_n 2, 1) := dq_get dX6_could_0_t 4 rfl
theorem dX6_could_5 : decode cX6_could 5 = .ok (.aload_n 0, 1) := dq_get dX6_could_0_t 5 rfl
theorem dX6_could_6 : decode cX6_could 6 = .ok (.getfield 7, 3) := dq_get dX6_could_0_t 6 rfl
theorem dX6_could_9 : decode cX6_could 9 = .ok (.bipush 47, 2) := dq_get dX6_could_0_t 7 rfl
theorem dX6_could_11 : decode cX6_could 11 = .ok (.iaload, 1) := dq_get dX6_could_0_t 8 rfl
theorem dX6_could_12 : decode cX6_could 12 = .ok (.if_icmp .ge 32, 3) := dq_get dX6_could_0_t 9 rfl
theorem dX6_could_15 : decode cX6_could 15 = .ok (.iload_n 1, 1) := dq_get dX6_could_0_t 10 rfl
theorem dX6_could_16 : decode cX6_could 16 = .ok (.aload_n 0, 1) := dq_get dX6_could_0_t 11 rfl
theorem dX6_could_17 : decode cX6_could 17 = .ok (.invokevirtual 215, 3) := dq_get dX6_could_0_t 12 rfl
theorem dX6_could_20 : decode cX6_could 20 = .ok (.aload_n 0, 1) := dq_get dX6_could_0_t 13 rfl
theorem dX6_could_21 : decode cX6_could 21 = .ok (.getfield 7, 3) := dq_get dX6_could_0_t 14 rfl
theorem dX6_could_24 : decode cX6_could 24 = .ok (.bipush 48, 2) := dq_get dX6_could_0_t 15 rfl
theorem dX6_could_26 : decode cX6_could 26 = .ok (.iconst 2, 1) := dq_get dX6_could_0_t 16 rfl
theorem dX6_could_27 : decode cX6_could 27 = .ok (.iload_n 2, 1) := dq_get dX6_could_0_t 17 rfl
theorem dX6_could_28 : decode cX6_could 28 = .ok (.imul, 1) := dq_get dX6_could_0_t 18 rfl
theorem dX6_could_29 : decode cX6_could 29 = .ok (.iadd, 1) := dq_get dX6_could_0_t 19 rfl
theorem dX6_could_30 : decode cX6_could 30 = .ok (.iaload, 1) := dq_get dX6_could_0_t 20 rfl
theorem dX6_could_31 : decode cX6_could 31 = .ok (.ishr, 1) := dq_get dX6_could_0_t 21 rfl
theorem dX6_could_32 : decode cX6_could 32 = .ok (.iconst 1, 1) := dq_get dX6_could_0_t 22 rfl
theorem dX6_could_33 : decode cX6_could 33 = .ok (.iand, 1) := dq_get dX6_could_0_t 23 rfl
theorem dX6_could_34 : decode cX6_could 34 = .ok (.iload_n 2, 1) := dq_get dX6_could_0_t 24 rfl
theorem dX6_could_35 : decode cX6_could 35 = .ok (.ishl, 1) := dq_get dX6_could_0_t 25 rfl
theorem dX6_could_36 : decode cX6_could 36 = .ok (.ior, 1) := dq_get dX6_could_0_t 26 rfl
theorem dX6_could_37 : decode cX6_could 37 = .ok (.istore_n 1, 1) := dq_get dX6_could_0_t 27 rfl
theorem dX6_could_38 : decode cX6_could 38 = .ok (.iinc 2 1, 3) := dq_get dX6_could_0_t 28 rfl
theorem dX6_could_41 : decode cX6_could 41 = .ok (.goto (-37), 3) := dq_get dX6_could_0_t 29 rfl
theorem dX6_could_44 : decode cX6_could 44 = .ok (.iload_n 1, 1) := dq_get dX6_could_0_t 30 rfl
theorem dX6_could_45 : decode cX6_could 45 = .ok (.ireturn, 1) := dq_get dX6_could_0_t 31 rfl
theorem gt_wsX6_findViews_wsX60 : GoodIn wsX6_findViews wsX60 := fun w hw => ⟨List.mem_cons_of_mem _ (List.mem_append_right _ hw), good_of_word (List.all_eq_true.mp gw_wsX60 w hw)⟩
set_option maxRecDepth 20000 in
theorem ggX6_findViews_X6_shiftTo : GoodIn wsX6_findViews wsX6_shiftTo := goodIn_ca (goodIn_r _ [7, 8, 9, 10, 11, 6, 12, 13] rfl (by decide +kernel)) gt_wsX6_findViews_wsX60
set_option maxRecDepth 20000 in
theorem gX6_findViews_X6_shiftTo : GoodIn wsX6_findViews (wsV RX6 169 RX6 yX6_shiftTo wsX6_shiftTo) := goodIn_app (goodIn_r _ [3, 4, 5, 6] rfl (by decide +kernel)) ggX6_findViews_X6_shiftTo
set_option maxRecDepth 20000 in
theorem ggX6_findViews_X6_cellsNow : GoodIn wsX6_findViews wsX6_cellsNow := goodIn_ca (goodIn_r _ [17, 18, 19] rfl (by decide +kernel)) gt_wsX6_findViews_wsX60
set_option maxRecDepth 20000 in
theorem gX6_findViews_X6_cellsNow : GoodIn wsX6_findViews (wsV RX6 158 RX6 yX6_cellsNow wsX6_cellsNow) := goodIn_app (goodIn_r _ [14, 15, 16, 6] rfl (by decide +kernel)) ggX6_findViews_X6_cellsNow
set_option maxRecDepth 20000 in
theorem ggX6_findViews_X6_sight : GoodIn wsX6_findViews wsX6_sight := goodIn_ca (goodIn_r _ [23, 8, 24, 25, 26, 6, 27, 18, 14, 15, 16, 17, 19] rfl (by decide +kernel)) gt_wsX6_findViews_wsX60
set_option maxRecDepth 20000 in
theorem gX6_findViews_X6_sight : GoodIn wsX6_findViews (wsV RX6 172 RX6 yX6_sight wsX6_sight) := goodIn_app (goodIn_r _ [20, 21, 22, 6] rfl (by decide +kernel)) ggX6_findViews_X6_sight
theorem dX6_findViews_0_t : dqK cX6_findViews.data.toList 0 [(0, .iconst 0, 1), (1, .istore_n 1, 1), (2, .iload_n 1, 1), (3, .aload_n 0, 1), (4, .getfield 78, 3), (7, .if_icmp .gt 46, 3), (10, .aload_n 0, 1), (11, .iload_n 1, 1), (12, .invokevirtual 169, 3), (15, .iconst 0, 1), (16, .istore_n 2, 1), (17, .iload_n 2, 1), (18, .aload_n 0, 1), (19, .invokevirtual 158, 3), (22, .if_icmp .ge 25, 3), (25, .aload_n 0, 1), (26, .getfield 29, 3), (29, .bipush 16, 2), (31, .iload_n 1, 1), (32, .imul, 1), (33, .iload_n 2, 1), (34, .iadd, 1), (35, .aload_n 0, 1), (36, .iload_n 2, 1), (37, .invokevirtual 172, 3), (40, .iastore, 1), (41, .iinc 2 1, 3), (44, .goto (-27), 3), (47, .iinc 1 1, 3), (50, .goto (-48), 3), (53, .return_, 1)] = true := by decide +kernel
theorem dX6_findViews_0 : decode cX6_findViews 0 = .ok (.iconst 0, 1) := dq_get dX6_findViews_0_t 0 rfl
theorem dX6_findViews_1 : decode cX6_findViews 1 = .ok (.istore_n 1, 1) := dq_get dX6_findViews_0_t 1 rfl
theorem dX6_findViews_2 : decode cX6_findViews 2 = .ok (.iload_n 1, 1) := dq_get dX6_findViews_0_t 2 rfl
theorem dX6_findViews_3 : decode cX6_findViews 3 = .ok (.aload_n 0, 1) := dq_get dX6_findViews_0_t 3 rfl
theorem dX6_findViews_4 : decode cX6_findViews 4 = .ok (.getfield 78, 3) := dq_get dX6_findViews_0_t 4 rfl
theorem dX6_findViews_7 : decode cX6_findViews 7 = .ok (.if_icmp .gt 46, 3) := dq_get dX6_findViews_0_t 5 rfl
theorem dX6_findViews_10 : decode cX6_findViews 10 = .ok (.aload_n 0, 1) := dq_get dX6_findViews_0_t 6 rfl
theorem dX6_findViews_11 : decode cX6_findViews 11 = .ok (.iload_n 1, 1) := dq_get dX6_findViews_0_t 7 rfl
theorem dX6_findViews_12 : decode cX6_findViews 12 = .ok (.invokevirtual 169, 3) := dq_get dX6_findViews_0_t 8 rfl
theorem dX6_findViews_15 : decode cX6_findViews 15 = .ok (.iconst 0, 1) := dq_get dX6_findViews_0_t 9 rfl
theorem dX6_findViews_16 : decode cX6_findViews 16 = .ok (.istore_n 2, 1) := dq_get dX6_findViews_0_t 10 rfl
theorem dX6_findViews_17 : decode cX6_findViews 17 = .ok (.iload_n 2, 1) := dq_get dX6_findViews_0_t 11 rfl
theorem dX6_findViews_18 : decode cX6_findViews 18 = .ok (.aload_n 0, 1) := dq_get dX6_findViews_0_t 12 rfl
theorem dX6_findViews_19 : decode cX6_findViews 19 = .ok (.invokevirtual 158, 3) := dq_get dX6_findViews_0_t 13 rfl
theorem dX6_findViews_22 : decode cX6_findViews 22 = .ok (.if_icmp .ge 25, 3) := dq_get dX6_findViews_0_t 14 rfl
theorem dX6_findViews_25 : decode cX6_findViews 25 = .ok (.aload_n 0, 1) := dq_get dX6_findViews_0_t 15 rfl
theorem dX6_findViews_26 : decode cX6_findViews 26 = .ok (.getfield 29, 3) := dq_get dX6_findViews_0_t 16 rfl
theorem dX6_findViews_29 : decode cX6_findViews 29 = .ok (.bipush 16, 2) := dq_get dX6_findViews_0_t 17 rfl
theorem dX6_findViews_31 : decode cX6_findViews 31 = .ok (.iload_n 1, 1) := dq_get dX6_findViews_0_t 18 rfl
theorem dX6_findViews_32 : decode cX6_findViews 32 = .ok (.imul, 1) := dq_get dX6_findViews_0_t 19 rfl
theorem dX6_findViews_33 : decode cX6_findViews 33 = .ok (.iload_n 2, 1) := dq_get dX6_findViews_0_t 20 rfl
theorem dX6_findViews_34 : decode cX6_findViews 34 = .ok (.iadd, 1) := dq_get dX6_findViews_0_t 21 rfl
theorem dX6_findViews_35 : decode cX6_findViews 35 = .ok (.aload_n 0, 1) := dq_get dX6_findViews_0_t 22 rfl
theorem dX6_findViews_36 : decode cX6_findViews 36 = .ok (.iload_n 2, 1) := dq_get dX6_findViews_0_t 23 rfl
theorem dX6_findViews_37 : decode cX6_findViews 37 = .ok (.invokevirtual 172, 3) := dq_get dX6_findViews_0_t 24 rfl
theorem dX6_findViews_40 : decode cX6_findViews 40 = .ok (.iastore, 1) := dq_get dX6_findViews_0_t 25 rfl
theorem dX6_findViews_41 : decode cX6_findViews 41 = .ok (.iinc 2 1, 3) := dq_get dX6_findViews_0_t 26 rfl
theorem dX6_findViews_44 : decode cX6_findViews 44 = .ok (.goto (-27), 3) := dq_get dX6_findViews_0_t 27 rfl
theorem dX6_findViews_47 : decode cX6_findViews 47 = .ok (.iinc 1 1, 3) := dq_get dX6_findViews_0_t 28 rfl
theorem dX6_findViews_50 : decode cX6_findViews 50 = .ok (.goto (-48), 3) := dq_get dX6_findViews_0_t 29 rfl
theorem dX6_findViews_53 : decode cX6_findViews 53 = .ok (.return_, 1) := dq_get dX6_findViews_0_t 30 rfl
theorem gt_wsX6_apartOf_wsX60 : GoodIn wsX6_apartOf wsX60 := fun w hw => ⟨List.mem_cons_of_mem _ (List.mem_append_right _ hw), good_of_word (List.all_eq_true.mp gw_wsX60 w hw)⟩
set_option maxRecDepth 20000 in
theorem ggX6_apartOf_X6_unlike : GoodIn wsX6_apartOf wsX6_unlike := goodIn_ca (goodIn_r _ [6, 7, 8, 9, 5, 10, 11, 12, 13, 14, 15, 16, 17, 18, 19, 20] rfl (by decide +kernel)) gt_wsX6_apartOf_wsX60
set_option maxRecDepth 20000 in
theorem gX6_apartOf_X6_unlike : GoodIn wsX6_apartOf (wsV RX6 202 RX6 yX6_unlike wsX6_unlike) := goodIn_app (goodIn_r _ [2, 3, 4, 5] rfl (by decide +kernel)) ggX6_apartOf_X6_unlike
set_option maxRecDepth 20000 in
theorem ggX6_apartOf_X6_cellsNow : GoodIn wsX6_apartOf wsX6_cellsNow := goodIn_ca (goodIn_r _ [10, 11, 12] rfl (by decide +kernel)) gt_wsX6_apartOf_wsX60
set_option maxRecDepth 20000 in
theorem gX6_apartOf_X6_cellsNow : GoodIn wsX6_apartOf (wsV RX6 158 RX6 yX6_cellsNow wsX6_cellsNow) := goodIn_app (goodIn_r _ [7, 8, 9, 5] rfl (by decide +kernel)) ggX6_apartOf_X6_cellsNow
set_option maxRecDepth 20000 in
theorem ggX6_apartOf_X6_flag : GoodIn wsX6_apartOf wsX6_flag := goodIn_r _ [20] rfl (by decide +kernel)
set_option maxRecDepth 20000 in
theorem gX6_apartOf_X6_flag : GoodIn wsX6_apartOf (va_wsS RX6 205 yX6_flag wsX6_flag) := goodIn_app (goodIn_r _ [18, 19, 5] rfl (by decide +kernel)) ggX6_apartOf_X6_flag
theorem dX6_apartOf_0_t : dqK cX6_apartOf.data.toList 0 [(0, .iconst 0, 1), (1, .istore_n 3, 1), (2, .aload_n 0, 1), (3, .iload_n 1, 1), (4, .iload_n 2, 1), (5, .invokevirtual 202, 3), (8, .istore 4, 2), (10, .iconst 0, 1), (11, .istore 5, 2), (13, .iload 5, 2), (15, .aload_n 0, 1), (16, .invokevirtual 158, 3), (19, .if_icmp .ge 66, 3), (22, .aload_n 0, 1), (23, .getfield 29, 3), (26, .bipush 16, 2), (28, .iload_n 1, 1), (29, .imul, 1), (30, .iload 5, 2), (32, .iadd, 1), (33, .iaload, 1), (34, .istore 6, 2), (36, .aload_n 0, 1), (37, .getfield 29, 3), (40, .bipush 16, 2), (42, .iload_n 2, 1), (43, .imul, 1), (44, .iload 5, 2), (46, .iadd, 1), (47, .iaload, 1), (48, .istore 7, 2), (50, .iload_n 3, 1), (51, .iload 6, 2), (53, .iload 7, 2), (55, .if_icmp .ne 11, 3), (58, .iload 6, 2), (60, .iload 4, 2), (62, .iand, 1), (63, .ifCond .eq 7, 3), (66, .iconst 1, 1)] = true := by decide +kernel
theorem dX6_apartOf_0 : decode cX6_apartOf 0 = .ok (.iconst 0, 1) := dq_get dX6_apartOf_0_t 0 rfl
theorem dX6_apartOf_1 : decode cX6_apartOf 1 = .ok (.istore_n 3, 1) := dq_get dX6_apartOf_0_t 1 rfl
theorem dX6_apartOf_2 : decode cX6_apartOf 2 = .ok (.aload_n 0, 1) := dq_get dX6_apartOf_0_t 2 rfl
theorem dX6_apartOf_3 : decode cX6_apartOf 3 = .ok (.iload_n 1, 1) := dq_get dX6_apartOf_0_t 3 rfl
theorem dX6_apartOf_4 : decode cX6_apartOf 4 = .ok (.iload_n 2, 1) := dq_get dX6_apartOf_0_t 4 rfl
theorem dX6_apartOf_5 : decode cX6_apartOf 5 = .ok (.invokevirtual 202, 3) := dq_get dX6_apartOf_0_t 5 rfl
theorem dX6_apartOf_8 : decode cX6_apartOf 8 = .ok (.istore 4, 2) := dq_get dX6_apartOf_0_t 6 rfl
theorem dX6_apartOf_10 : decode cX6_apartOf 10 = .ok (.iconst 0, 1) := dq_get dX6_apartOf_0_t 7 rfl
theorem dX6_apartOf_11 : decode cX6_apartOf 11 = .ok (.istore 5, 2) := dq_get dX6_apartOf_0_t 8 rfl
theorem dX6_apartOf_13 : decode cX6_apartOf 13 = .ok (.iload 5, 2) := dq_get dX6_apartOf_0_t 9 rfl
theorem dX6_apartOf_15 : decode cX6_apartOf 15 = .ok (.aload_n 0, 1) := dq_get dX6_apartOf_0_t 10 rfl
theorem dX6_apartOf_16 : decode cX6_apartOf 16 = .ok (.invokevirtual 158, 3) := dq_get dX6_apartOf_0_t 11 rfl
theorem dX6_apartOf_19 : decode cX6_apartOf 19 = .ok (.if_icmp .ge 66, 3) := dq_get dX6_apartOf_0_t 12 rfl
theorem dX6_apartOf_22 : decode cX6_apartOf 22 = .ok (.aload_n 0, 1) := dq_get dX6_apartOf_0_t 13 rfl
theorem dX6_apartOf_23 : decode cX6_apartOf 23 = .ok (.getfield 29, 3) := dq_get dX6_apartOf_0_t 14 rfl
theorem dX6_apartOf_26 : decode cX6_apartOf 26 = .ok (.bipush 16, 2) := dq_get dX6_apartOf_0_t 15 rfl
theorem dX6_apartOf_28 : decode cX6_apartOf 28 = .ok (.iload_n 1, 1) := dq_get dX6_apartOf_0_t 16 rfl
theorem dX6_apartOf_29 : decode cX6_apartOf 29 = .ok (.imul, 1) := dq_get dX6_apartOf_0_t 17 rfl
theorem dX6_apartOf_30 : decode cX6_apartOf 30 = .ok (.iload 5, 2) := dq_get dX6_apartOf_0_t 18 rfl
theorem dX6_apartOf_32 : decode cX6_apartOf 32 = .ok (.iadd, 1) := dq_get dX6_apartOf_0_t 19 rfl
theorem dX6_apartOf_33 : decode cX6_apartOf 33 = .ok (.iaload, 1) := dq_get dX6_apartOf_0_t 20 rfl
theorem dX6_apartOf_34 : decode cX6_apartOf 34 = .ok (.istore 6, 2) := dq_get dX6_apartOf_0_t 21 rfl
theorem dX6_apartOf_36 : decode cX6_apartOf 36 = .ok (.aload_n 0, 1) := dq_get dX6_apartOf_0_t 22 rfl
theorem dX6_apartOf_37 : decode cX6_apartOf 37 = .ok (.getfield 29, 3) := dq_get dX6_apartOf_0_t 23 rfl
theorem dX6_apartOf_40 : decode cX6_apartOf 40 = .ok (.bipush 16, 2) := dq_get dX6_apartOf_0_t 24 rfl
theorem dX6_apartOf_42 : decode cX6_apartOf 42 = .ok (.iload_n 2, 1) := dq_get dX6_apartOf_0_t 25 rfl
theorem dX6_apartOf_43 : decode cX6_apartOf 43 = .ok (.imul, 1) := dq_get dX6_apartOf_0_t 26 rfl
theorem dX6_apartOf_44 : decode cX6_apartOf 44 = .ok (.iload 5, 2) := dq_get dX6_apartOf_0_t 27 rfl
theorem dX6_apartOf_46 : decode cX6_apartOf 46 = .ok (.iadd, 1) := dq_get dX6_apartOf_0_t 28 rfl
theorem dX6_apartOf_47 : decode cX6_apartOf 47 = .ok (.iaload, 1) := dq_get dX6_apartOf_0_t 29 rfl
theorem dX6_apartOf_48 : decode cX6_apartOf 48 = .ok (.istore 7, 2) := dq_get dX6_apartOf_0_t 30 rfl
theorem dX6_apartOf_50 : decode cX6_apartOf 50 = .ok (.iload_n 3, 1) := dq_get dX6_apartOf_0_t 31 rfl
theorem dX6_apartOf_51 : decode cX6_apartOf 51 = .ok (.iload 6, 2) := dq_get dX6_apartOf_0_t 32 rfl
theorem dX6_apartOf_53 : decode cX6_apartOf 53 = .ok (.iload 7, 2) := dq_get dX6_apartOf_0_t 33 rfl
theorem dX6_apartOf_55 : decode cX6_apartOf 55 = .ok (.if_icmp .ne 11, 3) := dq_get dX6_apartOf_0_t 34 rfl
theorem dX6_apartOf_58 : decode cX6_apartOf 58 = .ok (.iload 6, 2) := dq_get dX6_apartOf_0_t 35 rfl
theorem dX6_apartOf_60 : decode cX6_apartOf 60 = .ok (.iload 4, 2) := dq_get dX6_apartOf_0_t 36 rfl
theorem dX6_apartOf_62 : decode cX6_apartOf 62 = .ok (.iand, 1) := dq_get dX6_apartOf_0_t 37 rfl
theorem dX6_apartOf_63 : decode cX6_apartOf 63 = .ok (.ifCond .eq 7, 3) := dq_get dX6_apartOf_0_t 38 rfl
theorem dX6_apartOf_66 : decode cX6_apartOf 66 = .ok (.iconst 1, 1) := dq_get dX6_apartOf_0_t 39 rfl
theorem dX6_apartOf_67_t : dqK cX6_apartOf.data.toList 0 [(67, .goto 4, 3), (70, .iconst 0, 1), (71, .invokestatic 205, 3), (74, .iload 5, 2), (76, .ishl, 1), (77, .ior, 1), (78, .istore_n 3, 1), (79, .iinc 5 1, 3), (82, .goto (-69), 3), (85, .iload_n 3, 1), (86, .ireturn, 1)] = true := by decide +kernel
theorem dX6_apartOf_67 : decode cX6_apartOf 67 = .ok (.goto 4, 3) := dq_get dX6_apartOf_67_t 0 rfl
theorem dX6_apartOf_70 : decode cX6_apartOf 70 = .ok (.iconst 0, 1) := dq_get dX6_apartOf_67_t 1 rfl
theorem dX6_apartOf_71 : decode cX6_apartOf 71 = .ok (.invokestatic 205, 3) := dq_get dX6_apartOf_67_t 2 rfl
theorem dX6_apartOf_74 : decode cX6_apartOf 74 = .ok (.iload 5, 2) := dq_get dX6_apartOf_67_t 3 rfl
theorem dX6_apartOf_76 : decode cX6_apartOf 76 = .ok (.ishl, 1) := dq_get dX6_apartOf_67_t 4 rfl
theorem dX6_apartOf_77 : decode cX6_apartOf 77 = .ok (.ior, 1) := dq_get dX6_apartOf_67_t 5 rfl
theorem dX6_apartOf_78 : decode cX6_apartOf 78 = .ok (.istore_n 3, 1) := dq_get dX6_apartOf_67_t 6 rfl
theorem dX6_apartOf_79 : decode cX6_apartOf 79 = .ok (.iinc 5 1, 3) := dq_get dX6_apartOf_67_t 7 rfl
theorem dX6_apartOf_82 : decode cX6_apartOf 82 = .ok (.goto (-69), 3) := dq_get dX6_apartOf_67_t 8 rfl
theorem dX6_apartOf_85 : decode cX6_apartOf 85 = .ok (.iload_n 3, 1) := dq_get dX6_apartOf_67_t 9 rfl
theorem dX6_apartOf_86 : decode cX6_apartOf 86 = .ok (.ireturn, 1) := dq_get dX6_apartOf_67_t 10 rfl
theorem gt_wsX6_apart_wsX60 : GoodIn wsX6_apart wsX60 := fun w hw => ⟨List.mem_cons_of_mem _ (List.mem_append_right _ hw), good_of_word (List.all_eq_true.mp gw_wsX60 w hw)⟩
set_option maxRecDepth 20000 in
theorem ggX6_apart_X6_isDay : GoodIn wsX6_apart wsX6_isDay := goodIn_ca (goodIn_r _ [5, 6, 7, 8, 4, 9] rfl (by decide +kernel)) gt_wsX6_apart_wsX60
set_option maxRecDepth 20000 in
theorem gX6_apart_X6_isDay : GoodIn wsX6_apart (wsV RX6 182 RX6 yX6_isDay wsX6_isDay) := goodIn_app (goodIn_r _ [1, 2, 3, 4] rfl (by decide +kernel)) ggX6_apart_X6_isDay
set_option maxRecDepth 20000 in
theorem ggX6_apart_X6_findViews : GoodIn wsX6_apart wsX6_findViews := goodIn_ca (goodIn_r _ [13, 6, 14, 15, 16, 17, 4, 18, 19, 20, 21, 22, 23, 24, 25, 26, 27, 28, 29, 30, 31, 32, 33, 34, 35, 36, 37, 38] rfl (by decide +kernel)) gt_wsX6_apart_wsX60
set_option maxRecDepth 20000 in
theorem gX6_apart_X6_findViews : GoodIn wsX6_apart (wsV RX6 237 RX6 yX6_findViews wsX6_findViews) := goodIn_app (goodIn_r _ [10, 11, 12, 4] rfl (by decide +kernel)) ggX6_apart_X6_findViews
set_option maxRecDepth 20000 in
theorem ggX6_apart_X6_apartOf : GoodIn wsX6_apart wsX6_apartOf := goodIn_ca (goodIn_r _ [42, 14, 43, 44, 45, 4, 46, 25, 26, 27, 28, 29, 30, 20, 21, 22, 23, 24, 47, 48, 49] rfl (by decide +kernel)) gt_wsX6_apart_wsX60
set_option maxRecDepth 20000 in
theorem gX6_apart_X6_apartOf : GoodIn wsX6_apart (wsV RX6 240 RX6 yX6_apartOf wsX6_apartOf) := goodIn_app (goodIn_r _ [39, 40, 41, 4] rfl (by decide +kernel)) ggX6_apart_X6_apartOf
theorem dX6_apart_0_t : dqK cX6_apart.data.toList 0 [(0, .aload_n 0, 1), (1, .iload_n 1, 1), (2, .invokevirtual 182, 3), (5, .ifCond .eq 11, 3), (8, .aload_n 0, 1), (9, .iload_n 2, 1), (10, .invokevirtual 182, 3), (13, .ifCond .ne 5, 3), (16, .iconst (-1), 1), (17, .ireturn, 1), (18, .aload_n 0, 1), (19, .invokevirtual 237, 3), (22, .aload_n 0, 1), (23, .iload_n 1, 1), (24, .iload_n 2, 1), (25, .invokevirtual 240, 3), (28, .ireturn, 1)] = true := by decide +kernel
theorem dX6_apart_0 : decode cX6_apart 0 = .ok (.aload_n 0, 1) := dq_get dX6_apart_0_t 0 rfl
theorem dX6_apart_1 : decode cX6_apart 1 = .ok (.iload_n 1, 1) := dq_get dX6_apart_0_t 1 rfl
theorem dX6_apart_2 : decode cX6_apart 2 = .ok (.invokevirtual 182, 3) := dq_get dX6_apart_0_t 2 rfl
theorem dX6_apart_5 : decode cX6_apart 5 = .ok (.ifCond .eq 11, 3) := dq_get dX6_apart_0_t 3 rfl
theorem dX6_apart_8 : decode cX6_apart 8 = .ok (.aload_n 0, 1) := dq_get dX6_apart_0_t 4 rfl
theorem dX6_apart_9 : decode cX6_apart 9 = .ok (.iload_n 2, 1) := dq_get dX6_apart_0_t 5 rfl
theorem dX6_apart_10 : decode cX6_apart 10 = .ok (.invokevirtual 182, 3) := dq_get dX6_apart_0_t 6 rfl
theorem dX6_apart_13 : decode cX6_apart 13 = .ok (.ifCond .ne 5, 3) := dq_get dX6_apart_0_t 7 rfl
theorem dX6_apart_16 : decode cX6_apart 16 = .ok (.iconst (-1), 1) := dq_get dX6_apart_0_t 8 rfl
theorem dX6_apart_17 : decode cX6_apart 17 = .ok (.ireturn, 1) := dq_get dX6_apart_0_t 9 rfl
theorem dX6_apart_18 : decode cX6_apart 18 = .ok (.aload_n 0, 1) := dq_get dX6_apart_0_t 10 rfl
theorem dX6_apart_19 : decode cX6_apart 19 = .ok (.invokevirtual 237, 3) := dq_get dX6_apart_0_t 11 rfl
theorem dX6_apart_22 : decode cX6_apart 22 = .ok (.aload_n 0, 1) := dq_get dX6_apart_0_t 12 rfl
theorem dX6_apart_23 : decode cX6_apart 23 = .ok (.iload_n 1, 1) := dq_get dX6_apart_0_t 13 rfl
theorem dX6_apart_24 : decode cX6_apart 24 = .ok (.iload_n 2, 1) := dq_get dX6_apart_0_t 14 rfl
theorem dX6_apart_25 : decode cX6_apart 25 = .ok (.invokevirtual 240, 3) := dq_get dX6_apart_0_t 15 rfl
theorem dX6_apart_28 : decode cX6_apart 28 = .ok (.ireturn, 1) := dq_get dX6_apart_0_t 16 rfl
theorem gt_wsX6_findPairs_wsX60 : GoodIn wsX6_findPairs wsX60 := fun w hw => ⟨List.mem_cons_of_mem _ (List.mem_append_right _ hw), good_of_word (List.all_eq_true.mp gw_wsX60 w hw)⟩
set_option maxRecDepth 20000 in
theorem ggX6_findPairs_X6_findViews : GoodIn wsX6_findPairs wsX6_findViews := goodIn_ca (goodIn_r _ [7, 1, 8, 9, 10, 11, 6, 12, 13, 14, 15, 16, 17, 18, 19, 20, 21, 22, 23, 24, 25, 26, 27, 28, 29, 30, 31, 32] rfl (by decide +kernel)) gt_wsX6_findPairs_wsX60
set_option maxRecDepth 20000 in
theorem gX6_findPairs_X6_findViews : GoodIn wsX6_findPairs (wsV RX6 237 RX6 yX6_findViews wsX6_findViews) := goodIn_app (goodIn_r _ [3, 4, 5, 6] rfl (by decide +kernel)) ggX6_findPairs_X6_findViews
set_option maxRecDepth 20000 in
theorem ggX6_findPairs_X6_apartOf : GoodIn wsX6_findPairs wsX6_apartOf := goodIn_ca (goodIn_r _ [36, 8, 37, 38, 39, 6, 40, 19, 20, 21, 22, 23, 24, 14, 15, 16, 17, 18, 41, 42, 43] rfl (by decide +kernel)) gt_wsX6_findPairs_wsX60
set_option maxRecDepth 20000 in
theorem gX6_findPairs_X6_apartOf : GoodIn wsX6_findPairs (wsV RX6 240 RX6 yX6_apartOf wsX6_apartOf) := goodIn_app (goodIn_r _ [33, 34, 35, 6] rfl (by decide +kernel)) ggX6_findPairs_X6_apartOf
set_option maxRecDepth 20000 in
theorem ggX6_findPairs_X6_flag : GoodIn wsX6_findPairs wsX6_flag := goodIn_r _ [43] rfl (by decide +kernel)
set_option maxRecDepth 20000 in
theorem gX6_findPairs_X6_flag : GoodIn wsX6_findPairs (va_wsS RX6 205 yX6_flag wsX6_flag) := goodIn_app (goodIn_r _ [41, 42, 6] rfl (by decide +kernel)) ggX6_findPairs_X6_flag
theorem dX6_findPairs_0_t : dqK cX6_findPairs.data.toList 0 [(0, .iconst 0, 1), (1, .istore_n 1, 1), (2, .aload_n 0, 1), (3, .invokevirtual 237, 3), (6, .iconst 0, 1), (7, .istore_n 2, 1), (8, .iload_n 2, 1), (9, .aload_n 0, 1), (10, .getfield 78, 3), (13, .if_icmp .gt 54, 3), (16, .iconst 0, 1), (17, .istore_n 3, 1), (18, .iload_n 3, 1), (19, .iload_n 2, 1), (20, .if_icmp .ge 41, 3), (23, .aload_n 0, 1), (24, .getfield 32, 3), (27, .iload_n 1, 1), (28, .aload_n 0, 1), (29, .iload_n 2, 1), (30, .iload_n 3, 1), (31, .invokevirtual 240, 3), (34, .iastore, 1), (35, .iload_n 1, 1), (36, .aload_n 0, 1), (37, .getfield 32, 3), (40, .iload_n 1, 1), (41, .iaload, 1), (42, .ifCond .eq 7, 3), (45, .iconst 1, 1), (46, .goto 4, 3), (49, .iconst 0, 1), (50, .invokestatic 205, 3), (53, .iadd, 1), (54, .istore_n 1, 1), (55, .iinc 3 1, 3), (58, .goto (-40), 3), (61, .iinc 2 1, 3), (64, .goto (-56), 3), (67, .iload_n 1, 1)] = true := by decide +kernel
theorem dX6_findPairs_0 : decode cX6_findPairs 0 = .ok (.iconst 0, 1) := dq_get dX6_findPairs_0_t 0 rfl
theorem dX6_findPairs_1 : decode cX6_findPairs 1 = .ok (.istore_n 1, 1) := dq_get dX6_findPairs_0_t 1 rfl
theorem dX6_findPairs_2 : decode cX6_findPairs 2 = .ok (.aload_n 0, 1) := dq_get dX6_findPairs_0_t 2 rfl
theorem dX6_findPairs_3 : decode cX6_findPairs 3 = .ok (.invokevirtual 237, 3) := dq_get dX6_findPairs_0_t 3 rfl
theorem dX6_findPairs_6 : decode cX6_findPairs 6 = .ok (.iconst 0, 1) := dq_get dX6_findPairs_0_t 4 rfl
theorem dX6_findPairs_7 : decode cX6_findPairs 7 = .ok (.istore_n 2, 1) := dq_get dX6_findPairs_0_t 5 rfl
theorem dX6_findPairs_8 : decode cX6_findPairs 8 = .ok (.iload_n 2, 1) := dq_get dX6_findPairs_0_t 6 rfl
theorem dX6_findPairs_9 : decode cX6_findPairs 9 = .ok (.aload_n 0, 1) := dq_get dX6_findPairs_0_t 7 rfl
theorem dX6_findPairs_10 : decode cX6_findPairs 10 = .ok (.getfield 78, 3) := dq_get dX6_findPairs_0_t 8 rfl
theorem dX6_findPairs_13 : decode cX6_findPairs 13 = .ok (.if_icmp .gt 54, 3) := dq_get dX6_findPairs_0_t 9 rfl
theorem dX6_findPairs_16 : decode cX6_findPairs 16 = .ok (.iconst 0, 1) := dq_get dX6_findPairs_0_t 10 rfl
theorem dX6_findPairs_17 : decode cX6_findPairs 17 = .ok (.istore_n 3, 1) := dq_get dX6_findPairs_0_t 11 rfl
theorem dX6_findPairs_18 : decode cX6_findPairs 18 = .ok (.iload_n 3, 1) := dq_get dX6_findPairs_0_t 12 rfl
theorem dX6_findPairs_19 : decode cX6_findPairs 19 = .ok (.iload_n 2, 1) := dq_get dX6_findPairs_0_t 13 rfl
theorem dX6_findPairs_20 : decode cX6_findPairs 20 = .ok (.if_icmp .ge 41, 3) := dq_get dX6_findPairs_0_t 14 rfl
theorem dX6_findPairs_23 : decode cX6_findPairs 23 = .ok (.aload_n 0, 1) := dq_get dX6_findPairs_0_t 15 rfl
theorem dX6_findPairs_24 : decode cX6_findPairs 24 = .ok (.getfield 32, 3) := dq_get dX6_findPairs_0_t 16 rfl
theorem dX6_findPairs_27 : decode cX6_findPairs 27 = .ok (.iload_n 1, 1) := dq_get dX6_findPairs_0_t 17 rfl
theorem dX6_findPairs_28 : decode cX6_findPairs 28 = .ok (.aload_n 0, 1) := dq_get dX6_findPairs_0_t 18 rfl
theorem dX6_findPairs_29 : decode cX6_findPairs 29 = .ok (.iload_n 2, 1) := dq_get dX6_findPairs_0_t 19 rfl
theorem dX6_findPairs_30 : decode cX6_findPairs 30 = .ok (.iload_n 3, 1) := dq_get dX6_findPairs_0_t 20 rfl
theorem dX6_findPairs_31 : decode cX6_findPairs 31 = .ok (.invokevirtual 240, 3) := dq_get dX6_findPairs_0_t 21 rfl
theorem dX6_findPairs_34 : decode cX6_findPairs 34 = .ok (.iastore, 1) := dq_get dX6_findPairs_0_t 22 rfl
theorem dX6_findPairs_35 : decode cX6_findPairs 35 = .ok (.iload_n 1, 1) := dq_get dX6_findPairs_0_t 23 rfl
theorem dX6_findPairs_36 : decode cX6_findPairs 36 = .ok (.aload_n 0, 1) := dq_get dX6_findPairs_0_t 24 rfl
theorem dX6_findPairs_37 : decode cX6_findPairs 37 = .ok (.getfield 32, 3) := dq_get dX6_findPairs_0_t 25 rfl
theorem dX6_findPairs_40 : decode cX6_findPairs 40 = .ok (.iload_n 1, 1) := dq_get dX6_findPairs_0_t 26 rfl
theorem dX6_findPairs_41 : decode cX6_findPairs 41 = .ok (.iaload, 1) := dq_get dX6_findPairs_0_t 27 rfl
theorem dX6_findPairs_42 : decode cX6_findPairs 42 = .ok (.ifCond .eq 7, 3) := dq_get dX6_findPairs_0_t 28 rfl
theorem dX6_findPairs_45 : decode cX6_findPairs 45 = .ok (.iconst 1, 1) := dq_get dX6_findPairs_0_t 29 rfl
theorem dX6_findPairs_46 : decode cX6_findPairs 46 = .ok (.goto 4, 3) := dq_get dX6_findPairs_0_t 30 rfl
theorem dX6_findPairs_49 : decode cX6_findPairs 49 = .ok (.iconst 0, 1) := dq_get dX6_findPairs_0_t 31 rfl
theorem dX6_findPairs_50 : decode cX6_findPairs 50 = .ok (.invokestatic 205, 3) := dq_get dX6_findPairs_0_t 32 rfl
theorem dX6_findPairs_53 : decode cX6_findPairs 53 = .ok (.iadd, 1) := dq_get dX6_findPairs_0_t 33 rfl
theorem dX6_findPairs_54 : decode cX6_findPairs 54 = .ok (.istore_n 1, 1) := dq_get dX6_findPairs_0_t 34 rfl
theorem dX6_findPairs_55 : decode cX6_findPairs 55 = .ok (.iinc 3 1, 3) := dq_get dX6_findPairs_0_t 35 rfl
theorem dX6_findPairs_58 : decode cX6_findPairs 58 = .ok (.goto (-40), 3) := dq_get dX6_findPairs_0_t 36 rfl
theorem dX6_findPairs_61 : decode cX6_findPairs 61 = .ok (.iinc 2 1, 3) := dq_get dX6_findPairs_0_t 37 rfl
theorem dX6_findPairs_64 : decode cX6_findPairs 64 = .ok (.goto (-56), 3) := dq_get dX6_findPairs_0_t 38 rfl
theorem dX6_findPairs_67 : decode cX6_findPairs 67 = .ok (.iload_n 1, 1) := dq_get dX6_findPairs_0_t 39 rfl
theorem dX6_findPairs_68 : decode cX6_findPairs 68 = .ok (.ireturn, 1) := by decide +kernel
set_option maxRecDepth 20000 in
theorem ggX6_places_X6_isPart : GoodIn wsX6_places wsX6_isPart := goodIn_r _ [6, 7, 8, 5, 9] rfl (by decide +kernel)
set_option maxRecDepth 20000 in
theorem gX6_places_X6_isPart : GoodIn wsX6_places (va_wsS RX6 190 yX6_isPart wsX6_isPart) := goodIn_app (goodIn_r _ [3, 4, 5] rfl (by decide +kernel)) ggX6_places_X6_isPart
theorem gt_wsX6_places_wsX60 : GoodIn wsX6_places wsX60 := fun w hw => ⟨List.mem_cons_of_mem _ (List.mem_append_right _ hw), good_of_word (List.all_eq_true.mp gw_wsX60 w hw)⟩
set_option maxRecDepth 20000 in
theorem ggX6_places_X6_findPairs : GoodIn wsX6_places wsX6_findPairs := goodIn_ca (goodIn_r _ [13, 14, 2, 15, 16, 17, 5, 18, 19, 20, 21, 22, 23, 24, 25, 26, 27, 28, 29, 30, 31, 32, 33, 34, 35, 36, 37, 38, 39, 40, 41, 42, 43, 44, 45, 46, 47, 48, 49, 50, 51, 52, 53, 54] rfl (by decide +kernel)) gt_wsX6_places_wsX60
set_option maxRecDepth 20000 in
theorem gX6_places_X6_findPairs : GoodIn wsX6_places (wsV RX6 243 RX6 yX6_findPairs wsX6_findPairs) := goodIn_app (goodIn_r _ [10, 11, 12, 5] rfl (by decide +kernel)) ggX6_places_X6_findPairs
set_option maxRecDepth 20000 in
theorem ggX6_places_X6_cellsNow : GoodIn wsX6_places wsX6_cellsNow := goodIn_ca (goodIn_r _ [33, 34, 35] rfl (by decide +kernel)) gt_wsX6_places_wsX60
set_option maxRecDepth 20000 in
theorem gX6_places_X6_cellsNow : GoodIn wsX6_places (wsV RX6 158 RX6 yX6_cellsNow wsX6_cellsNow) := goodIn_app (goodIn_r _ [30, 31, 32, 5] rfl (by decide +kernel)) ggX6_places_X6_cellsNow
set_option maxRecDepth 20000 in
theorem ggX6_places_X6_bitsOf : GoodIn wsX6_places wsX6_bitsOf := goodIn_r _ [57] rfl (by decide +kernel)
set_option maxRecDepth 20000 in
theorem gX6_places_X6_bitsOf : GoodIn wsX6_places (va_wsS RX6 218 yX6_bitsOf wsX6_bitsOf) := goodIn_app (goodIn_r _ [55, 56, 5] rfl (by decide +kernel)) ggX6_places_X6_bitsOf
theorem dX6_places_0_t : dqK cX6_places.data.toList 0 [(0, .iload_n 1, 1), (1, .invokestatic 190, 3), (4, .ifCond .ne 5, 3), (7, .iconst (-1), 1), (8, .ireturn, 1), (9, .aload_n 0, 1), (10, .invokevirtual 243, 3), (13, .istore_n 2, 1), (14, .ldc 246, 2), (16, .istore_n 3, 1), (17, .iconst 0, 1), (18, .istore 4, 2), (20, .iconst 0, 1), (21, .istore 5, 2), (23, .iload 5, 2), (25, .iconst 1, 1), (26, .aload_n 0, 1), (27, .invokevirtual 158, 3), (30, .ishl, 1), (31, .if_icmp .ge 95, 3), (34, .iload 5, 2), (36, .invokestatic 218, 3), (39, .istore 6, 2), (41, .iload 6, 2), (43, .iload_n 3, 1), (44, .if_icmp .ge 7, 3), (47, .iconst 1, 1), (48, .goto 4, 3), (51, .iconst 0, 1), (52, .istore 7, 2), (54, .iconst 0, 1), (55, .istore 8, 2), (57, .iload 8, 2), (59, .iload_n 2, 1), (60, .if_icmp .ge 34, 3), (63, .iload 7, 2), (65, .ifCond .eq 29, 3), (68, .aload_n 0, 1), (69, .getfield 32, 3), (72, .iload 8, 2)] = true := by decide +kernel
theorem dX6_places_0 : decode cX6_places 0 = .ok (.iload_n 1, 1) := dq_get dX6_places_0_t 0 rfl
theorem dX6_places_1 : decode cX6_places 1 = .ok (.invokestatic 190, 3) := dq_get dX6_places_0_t 1 rfl
theorem dX6_places_4 : decode cX6_places 4 = .ok (.ifCond .ne 5, 3) := dq_get dX6_places_0_t 2 rfl
theorem dX6_places_7 : decode cX6_places 7 = .ok (.iconst (-1), 1) := dq_get dX6_places_0_t 3 rfl
theorem dX6_places_8 : decode cX6_places 8 = .ok (.ireturn, 1) := dq_get dX6_places_0_t 4 rfl
theorem dX6_places_9 : decode cX6_places 9 = .ok (.aload_n 0, 1) := dq_get dX6_places_0_t 5 rfl
theorem dX6_places_10 : decode cX6_places 10 = .ok (.invokevirtual 243, 3) := dq_get dX6_places_0_t 6 rfl
theorem dX6_places_13 : decode cX6_places 13 = .ok (.istore_n 2, 1) := dq_get dX6_places_0_t 7 rfl
theorem dX6_places_14 : decode cX6_places 14 = .ok (.ldc 246, 2) := dq_get dX6_places_0_t 8 rfl
theorem dX6_places_16 : decode cX6_places 16 = .ok (.istore_n 3, 1) := dq_get dX6_places_0_t 9 rfl
theorem dX6_places_17 : decode cX6_places 17 = .ok (.iconst 0, 1) := dq_get dX6_places_0_t 10 rfl
theorem dX6_places_18 : decode cX6_places 18 = .ok (.istore 4, 2) := dq_get dX6_places_0_t 11 rfl
theorem dX6_places_20 : decode cX6_places 20 = .ok (.iconst 0, 1) := dq_get dX6_places_0_t 12 rfl
theorem dX6_places_21 : decode cX6_places 21 = .ok (.istore 5, 2) := dq_get dX6_places_0_t 13 rfl
theorem dX6_places_23 : decode cX6_places 23 = .ok (.iload 5, 2) := dq_get dX6_places_0_t 14 rfl
theorem dX6_places_25 : decode cX6_places 25 = .ok (.iconst 1, 1) := dq_get dX6_places_0_t 15 rfl
theorem dX6_places_26 : decode cX6_places 26 = .ok (.aload_n 0, 1) := dq_get dX6_places_0_t 16 rfl
theorem dX6_places_27 : decode cX6_places 27 = .ok (.invokevirtual 158, 3) := dq_get dX6_places_0_t 17 rfl
theorem dX6_places_30 : decode cX6_places 30 = .ok (.ishl, 1) := dq_get dX6_places_0_t 18 rfl
theorem dX6_places_31 : decode cX6_places 31 = .ok (.if_icmp .ge 95, 3) := dq_get dX6_places_0_t 19 rfl
theorem dX6_places_34 : decode cX6_places 34 = .ok (.iload 5, 2) := dq_get dX6_places_0_t 20 rfl
theorem dX6_places_36 : decode cX6_places 36 = .ok (.invokestatic 218, 3) := dq_get dX6_places_0_t 21 rfl
theorem dX6_places_39 : decode cX6_places 39 = .ok (.istore 6, 2) := dq_get dX6_places_0_t 22 rfl
theorem dX6_places_41 : decode cX6_places 41 = .ok (.iload 6, 2) := dq_get dX6_places_0_t 23 rfl
theorem dX6_places_43 : decode cX6_places 43 = .ok (.iload_n 3, 1) := dq_get dX6_places_0_t 24 rfl
theorem dX6_places_44 : decode cX6_places 44 = .ok (.if_icmp .ge 7, 3) := dq_get dX6_places_0_t 25 rfl
theorem dX6_places_47 : decode cX6_places 47 = .ok (.iconst 1, 1) := dq_get dX6_places_0_t 26 rfl
theorem dX6_places_48 : decode cX6_places 48 = .ok (.goto 4, 3) := dq_get dX6_places_0_t 27 rfl
theorem dX6_places_51 : decode cX6_places 51 = .ok (.iconst 0, 1) := dq_get dX6_places_0_t 28 rfl
theorem dX6_places_52 : decode cX6_places 52 = .ok (.istore 7, 2) := dq_get dX6_places_0_t 29 rfl
theorem dX6_places_54 : decode cX6_places 54 = .ok (.iconst 0, 1) := dq_get dX6_places_0_t 30 rfl
theorem dX6_places_55 : decode cX6_places 55 = .ok (.istore 8, 2) := dq_get dX6_places_0_t 31 rfl
theorem dX6_places_57 : decode cX6_places 57 = .ok (.iload 8, 2) := dq_get dX6_places_0_t 32 rfl
theorem dX6_places_59 : decode cX6_places 59 = .ok (.iload_n 2, 1) := dq_get dX6_places_0_t 33 rfl
theorem dX6_places_60 : decode cX6_places 60 = .ok (.if_icmp .ge 34, 3) := dq_get dX6_places_0_t 34 rfl
theorem dX6_places_63 : decode cX6_places 63 = .ok (.iload 7, 2) := dq_get dX6_places_0_t 35 rfl
theorem dX6_places_65 : decode cX6_places 65 = .ok (.ifCond .eq 29, 3) := dq_get dX6_places_0_t 36 rfl
theorem dX6_places_68 : decode cX6_places 68 = .ok (.aload_n 0, 1) := dq_get dX6_places_0_t 37 rfl
theorem dX6_places_69 : decode cX6_places 69 = .ok (.getfield 32, 3) := dq_get dX6_places_0_t 38 rfl
theorem dX6_places_72 : decode cX6_places 72 = .ok (.iload 8, 2) := dq_get dX6_places_0_t 39 rfl
theorem dX6_places_74_t : dqK cX6_places.data.toList 0 [(74, .iaload, 1), (75, .iload 5, 2), (77, .iand, 1), (78, .ifCond .eq 7, 3), (81, .iconst 1, 1), (82, .goto 4, 3), (85, .iconst 0, 1), (86, .istore 7, 2), (88, .iinc 8 1, 3), (91, .goto (-34), 3), (94, .iload 7, 2), (96, .ifCond .eq 8, 3), (99, .iload 5, 2), (101, .goto 5, 3), (104, .iload 4, 2), (106, .istore 4, 2), (108, .iload 7, 2), (110, .ifCond .eq 8, 3), (113, .iload 6, 2), (115, .goto 4, 3), (118, .iload_n 3, 1), (119, .istore_n 3, 1), (120, .iinc 5 1, 3), (123, .goto (-100), 3), (126, .iload_n 1, 1), (127, .ifCond .ne 7, 3), (130, .iload_n 3, 1), (131, .goto 5, 3), (134, .iload 4, 2), (136, .ireturn, 1)] = true := by decide +kernel
theorem dX6_places_74 : decode cX6_places 74 = .ok (.iaload, 1) := dq_get dX6_places_74_t 0 rfl
theorem dX6_places_75 : decode cX6_places 75 = .ok (.iload 5, 2) := dq_get dX6_places_74_t 1 rfl
theorem dX6_places_77 : decode cX6_places 77 = .ok (.iand, 1) := dq_get dX6_places_74_t 2 rfl
theorem dX6_places_78 : decode cX6_places 78 = .ok (.ifCond .eq 7, 3) := dq_get dX6_places_74_t 3 rfl
theorem dX6_places_81 : decode cX6_places 81 = .ok (.iconst 1, 1) := dq_get dX6_places_74_t 4 rfl
theorem dX6_places_82 : decode cX6_places 82 = .ok (.goto 4, 3) := dq_get dX6_places_74_t 5 rfl
theorem dX6_places_85 : decode cX6_places 85 = .ok (.iconst 0, 1) := dq_get dX6_places_74_t 6 rfl
theorem dX6_places_86 : decode cX6_places 86 = .ok (.istore 7, 2) := dq_get dX6_places_74_t 7 rfl
theorem dX6_places_88 : decode cX6_places 88 = .ok (.iinc 8 1, 3) := dq_get dX6_places_74_t 8 rfl
theorem dX6_places_91 : decode cX6_places 91 = .ok (.goto (-34), 3) := dq_get dX6_places_74_t 9 rfl
theorem dX6_places_94 : decode cX6_places 94 = .ok (.iload 7, 2) := dq_get dX6_places_74_t 10 rfl
theorem dX6_places_96 : decode cX6_places 96 = .ok (.ifCond .eq 8, 3) := dq_get dX6_places_74_t 11 rfl
theorem dX6_places_99 : decode cX6_places 99 = .ok (.iload 5, 2) := dq_get dX6_places_74_t 12 rfl
theorem dX6_places_101 : decode cX6_places 101 = .ok (.goto 5, 3) := dq_get dX6_places_74_t 13 rfl
theorem dX6_places_104 : decode cX6_places 104 = .ok (.iload 4, 2) := dq_get dX6_places_74_t 14 rfl
theorem dX6_places_106 : decode cX6_places 106 = .ok (.istore 4, 2) := dq_get dX6_places_74_t 15 rfl
theorem dX6_places_108 : decode cX6_places 108 = .ok (.iload 7, 2) := dq_get dX6_places_74_t 16 rfl
theorem dX6_places_110 : decode cX6_places 110 = .ok (.ifCond .eq 8, 3) := dq_get dX6_places_74_t 17 rfl
theorem dX6_places_113 : decode cX6_places 113 = .ok (.iload 6, 2) := dq_get dX6_places_74_t 18 rfl
theorem dX6_places_115 : decode cX6_places 115 = .ok (.goto 4, 3) := dq_get dX6_places_74_t 19 rfl
theorem dX6_places_118 : decode cX6_places 118 = .ok (.iload_n 3, 1) := dq_get dX6_places_74_t 20 rfl
theorem dX6_places_119 : decode cX6_places 119 = .ok (.istore_n 3, 1) := dq_get dX6_places_74_t 21 rfl
theorem dX6_places_120 : decode cX6_places 120 = .ok (.iinc 5 1, 3) := dq_get dX6_places_74_t 22 rfl
theorem dX6_places_123 : decode cX6_places 123 = .ok (.goto (-100), 3) := dq_get dX6_places_74_t 23 rfl
theorem dX6_places_126 : decode cX6_places 126 = .ok (.iload_n 1, 1) := dq_get dX6_places_74_t 24 rfl
theorem dX6_places_127 : decode cX6_places 127 = .ok (.ifCond .ne 7, 3) := dq_get dX6_places_74_t 25 rfl
theorem dX6_places_130 : decode cX6_places 130 = .ok (.iload_n 3, 1) := dq_get dX6_places_74_t 26 rfl
theorem dX6_places_131 : decode cX6_places 131 = .ok (.goto 5, 3) := dq_get dX6_places_74_t 27 rfl
theorem dX6_places_134 : decode cX6_places 134 = .ok (.iload 4, 2) := dq_get dX6_places_74_t 28 rfl
theorem dX6_places_136 : decode cX6_places 136 = .ok (.ireturn, 1) := dq_get dX6_places_74_t 29 rfl
theorem gt_wsX6_guard_wsX60 : GoodIn wsX6_guard wsX60 := fun w hw => ⟨List.mem_cons_of_mem _ (List.mem_append_right _ hw), good_of_word (List.all_eq_true.mp gw_wsX60 w hw)⟩
set_option maxRecDepth 20000 in
theorem ggX6_guard_X6_isDay : GoodIn wsX6_guard wsX6_isDay := goodIn_ca (goodIn_r _ [7, 8, 9, 10, 6, 11] rfl (by decide +kernel)) gt_wsX6_guard_wsX60
set_option maxRecDepth 20000 in
theorem gX6_guard_X6_isDay : GoodIn wsX6_guard (wsV RX6 182 RX6 yX6_isDay wsX6_isDay) := goodIn_app (goodIn_r _ [3, 4, 5, 6] rfl (by decide +kernel)) ggX6_guard_X6_isDay
set_option maxRecDepth 20000 in
theorem ggX6_guard_X6_isPart : GoodIn wsX6_guard wsX6_isPart := goodIn_r _ [14, 9, 10, 6, 11] rfl (by decide +kernel)
set_option maxRecDepth 20000 in
theorem gX6_guard_X6_isPart : GoodIn wsX6_guard (va_wsS RX6 190 yX6_isPart wsX6_isPart) := goodIn_app (goodIn_r _ [12, 13, 6] rfl (by decide +kernel)) ggX6_guard_X6_isPart
set_option maxRecDepth 20000 in
theorem ggX6_guard_X6_findViews : GoodIn wsX6_guard wsX6_findViews := goodIn_ca (goodIn_r _ [18, 8, 2, 19, 20, 21, 6, 22, 23, 24, 25, 26, 27, 28, 29, 30, 31, 32, 33, 34, 35, 36, 37, 38, 39, 40, 41, 42] rfl (by decide +kernel)) gt_wsX6_guard_wsX60
set_option maxRecDepth 20000 in
theorem gX6_guard_X6_findViews : GoodIn wsX6_guard (wsV RX6 237 RX6 yX6_findViews wsX6_findViews) := goodIn_app (goodIn_r _ [15, 16, 17, 6] rfl (by decide +kernel)) ggX6_guard_X6_findViews
set_option maxRecDepth 20000 in
theorem ggX6_guard_X6_cellsNow : GoodIn wsX6_guard wsX6_cellsNow := goodIn_ca (goodIn_r _ [32, 33, 34] rfl (by decide +kernel)) gt_wsX6_guard_wsX60
set_option maxRecDepth 20000 in
theorem gX6_guard_X6_cellsNow : GoodIn wsX6_guard (wsV RX6 158 RX6 yX6_cellsNow wsX6_cellsNow) := goodIn_app (goodIn_r _ [29, 30, 31, 6] rfl (by decide +kernel)) ggX6_guard_X6_cellsNow
set_option maxRecDepth 20000 in
theorem ggX6_guard_X6_bitsOf : GoodIn wsX6_guard wsX6_bitsOf := goodIn_r _ [45] rfl (by decide +kernel)
set_option maxRecDepth 20000 in
theorem gX6_guard_X6_bitsOf : GoodIn wsX6_guard (va_wsS RX6 218 yX6_bitsOf wsX6_bitsOf) := goodIn_app (goodIn_r _ [43, 44, 6] rfl (by decide +kernel)) ggX6_guard_X6_bitsOf
theorem dX6_guard_0_t : dqK cX6_guard.data.toList 0 [(0, .aload_n 0, 1), (1, .iload_n 1, 1), (2, .invokevirtual 182, 3), (5, .ifCond .eq 10, 3), (8, .iload_n 2, 1), (9, .invokestatic 190, 3), (12, .ifCond .ne 5, 3), (15, .iconst (-1), 1), (16, .ireturn, 1), (17, .aload_n 0, 1), (18, .invokevirtual 237, 3), (21, .iconst 1, 1), (22, .aload_n 0, 1), (23, .invokevirtual 158, 3), (26, .ishl, 1), (27, .iconst 1, 1), (28, .isub, 1), (29, .istore_n 3, 1), (30, .ldc 246, 2), (32, .istore 4, 2), (34, .iconst 0, 1), (35, .istore 5, 2), (37, .iconst 0, 1), (38, .istore 6, 2), (40, .iload 6, 2), (42, .iload_n 3, 1), (43, .if_icmp .gt 124, 3), (46, .iload 6, 2), (48, .invokestatic 218, 3), (51, .istore 7, 2), (53, .iconst 0, 1), (54, .istore 8, 2), (56, .iconst 0, 1), (57, .istore 9, 2), (59, .iload 9, 2), (61, .aload_n 0, 1), (62, .invokevirtual 158, 3), (65, .if_icmp .ge 48, 3), (68, .iload 7, 2), (70, .iload 4, 2)] = true := by decide +kernel
theorem dX6_guard_0 : decode cX6_guard 0 = .ok (.aload_n 0, 1) := dq_get dX6_guard_0_t 0 rfl
theorem dX6_guard_1 : decode cX6_guard 1 = .ok (.iload_n 1, 1) := dq_get dX6_guard_0_t 1 rfl
theorem dX6_guard_2 : decode cX6_guard 2 = .ok (.invokevirtual 182, 3) := dq_get dX6_guard_0_t 2 rfl
theorem dX6_guard_5 : decode cX6_guard 5 = .ok (.ifCond .eq 10, 3) := dq_get dX6_guard_0_t 3 rfl
theorem dX6_guard_8 : decode cX6_guard 8 = .ok (.iload_n 2, 1) := dq_get dX6_guard_0_t 4 rfl
theorem dX6_guard_9 : decode cX6_guard 9 = .ok (.invokestatic 190, 3) := dq_get dX6_guard_0_t 5 rfl
theorem dX6_guard_12 : decode cX6_guard 12 = .ok (.ifCond .ne 5, 3) := dq_get dX6_guard_0_t 6 rfl
theorem dX6_guard_15 : decode cX6_guard 15 = .ok (.iconst (-1), 1) := dq_get dX6_guard_0_t 7 rfl
theorem dX6_guard_16 : decode cX6_guard 16 = .ok (.ireturn, 1) := dq_get dX6_guard_0_t 8 rfl
theorem dX6_guard_17 : decode cX6_guard 17 = .ok (.aload_n 0, 1) := dq_get dX6_guard_0_t 9 rfl
theorem dX6_guard_18 : decode cX6_guard 18 = .ok (.invokevirtual 237, 3) := dq_get dX6_guard_0_t 10 rfl
theorem dX6_guard_21 : decode cX6_guard 21 = .ok (.iconst 1, 1) := dq_get dX6_guard_0_t 11 rfl
theorem dX6_guard_22 : decode cX6_guard 22 = .ok (.aload_n 0, 1) := dq_get dX6_guard_0_t 12 rfl
theorem dX6_guard_23 : decode cX6_guard 23 = .ok (.invokevirtual 158, 3) := dq_get dX6_guard_0_t 13 rfl
theorem dX6_guard_26 : decode cX6_guard 26 = .ok (.ishl, 1) := dq_get dX6_guard_0_t 14 rfl
theorem dX6_guard_27 : decode cX6_guard 27 = .ok (.iconst 1, 1) := dq_get dX6_guard_0_t 15 rfl
theorem dX6_guard_28 : decode cX6_guard 28 = .ok (.isub, 1) := dq_get dX6_guard_0_t 16 rfl
theorem dX6_guard_29 : decode cX6_guard 29 = .ok (.istore_n 3, 1) := dq_get dX6_guard_0_t 17 rfl
theorem dX6_guard_30 : decode cX6_guard 30 = .ok (.ldc 246, 2) := dq_get dX6_guard_0_t 18 rfl
theorem dX6_guard_32 : decode cX6_guard 32 = .ok (.istore 4, 2) := dq_get dX6_guard_0_t 19 rfl
theorem dX6_guard_34 : decode cX6_guard 34 = .ok (.iconst 0, 1) := dq_get dX6_guard_0_t 20 rfl
theorem dX6_guard_35 : decode cX6_guard 35 = .ok (.istore 5, 2) := dq_get dX6_guard_0_t 21 rfl
theorem dX6_guard_37 : decode cX6_guard 37 = .ok (.iconst 0, 1) := dq_get dX6_guard_0_t 22 rfl
theorem dX6_guard_38 : decode cX6_guard 38 = .ok (.istore 6, 2) := dq_get dX6_guard_0_t 23 rfl
theorem dX6_guard_40 : decode cX6_guard 40 = .ok (.iload 6, 2) := dq_get dX6_guard_0_t 24 rfl
theorem dX6_guard_42 : decode cX6_guard 42 = .ok (.iload_n 3, 1) := dq_get dX6_guard_0_t 25 rfl
theorem dX6_guard_43 : decode cX6_guard 43 = .ok (.if_icmp .gt 124, 3) := dq_get dX6_guard_0_t 26 rfl
theorem dX6_guard_46 : decode cX6_guard 46 = .ok (.iload 6, 2) := dq_get dX6_guard_0_t 27 rfl
theorem dX6_guard_48 : decode cX6_guard 48 = .ok (.invokestatic 218, 3) := dq_get dX6_guard_0_t 28 rfl
theorem dX6_guard_51 : decode cX6_guard 51 = .ok (.istore 7, 2) := dq_get dX6_guard_0_t 29 rfl
theorem dX6_guard_53 : decode cX6_guard 53 = .ok (.iconst 0, 1) := dq_get dX6_guard_0_t 30 rfl
theorem dX6_guard_54 : decode cX6_guard 54 = .ok (.istore 8, 2) := dq_get dX6_guard_0_t 31 rfl
theorem dX6_guard_56 : decode cX6_guard 56 = .ok (.iconst 0, 1) := dq_get dX6_guard_0_t 32 rfl
theorem dX6_guard_57 : decode cX6_guard 57 = .ok (.istore 9, 2) := dq_get dX6_guard_0_t 33 rfl
theorem dX6_guard_59 : decode cX6_guard 59 = .ok (.iload 9, 2) := dq_get dX6_guard_0_t 34 rfl
theorem dX6_guard_61 : decode cX6_guard 61 = .ok (.aload_n 0, 1) := dq_get dX6_guard_0_t 35 rfl
theorem dX6_guard_62 : decode cX6_guard 62 = .ok (.invokevirtual 158, 3) := dq_get dX6_guard_0_t 36 rfl
theorem dX6_guard_65 : decode cX6_guard 65 = .ok (.if_icmp .ge 48, 3) := dq_get dX6_guard_0_t 37 rfl
theorem dX6_guard_68 : decode cX6_guard 68 = .ok (.iload 7, 2) := dq_get dX6_guard_0_t 38 rfl
theorem dX6_guard_70 : decode cX6_guard 70 = .ok (.iload 4, 2) := dq_get dX6_guard_0_t 39 rfl
theorem dX6_guard_72_t : dqK cX6_guard.data.toList 0 [(72, .if_icmp .ge 41, 3), (75, .iload 8, 2), (77, .iload 6, 2), (79, .iload 9, 2), (81, .ishr, 1), (82, .iconst 1, 1), (83, .iand, 1), (84, .iconst 1, 1), (85, .if_icmp .ne 18, 3), (88, .aload_n 0, 1), (89, .getfield 29, 3), (92, .bipush 16, 2), (94, .iload_n 1, 1), (95, .imul, 1), (96, .iload 9, 2), (98, .iadd, 1), (99, .iaload, 1), (100, .goto 4, 3), (103, .iconst 0, 1), (104, .ior, 1), (105, .istore 8, 2), (107, .iinc 9 1, 3), (110, .goto (-51), 3), (113, .iload 7, 2), (115, .iload 4, 2), (117, .if_icmp .ge 13, 3), (120, .iload 8, 2), (122, .iload_n 3, 1), (123, .if_icmp .ne 7, 3), (126, .iconst 1, 1), (127, .goto 4, 3), (130, .iconst 0, 1), (131, .istore 9, 2), (133, .iload 9, 2), (135, .ifCond .eq 8, 3), (138, .iload 6, 2), (140, .goto 5, 3), (143, .iload 5, 2), (145, .istore 5, 2), (147, .iload 9, 2)] = true := by decide +kernel
theorem dX6_guard_72 : decode cX6_guard 72 = .ok (.if_icmp .ge 41, 3) := dq_get dX6_guard_72_t 0 rfl
theorem dX6_guard_75 : decode cX6_guard 75 = .ok (.iload 8, 2) := dq_get dX6_guard_72_t 1 rfl
theorem dX6_guard_77 : decode cX6_guard 77 = .ok (.iload 6, 2) := dq_get dX6_guard_72_t 2 rfl
theorem dX6_guard_79 : decode cX6_guard 79 = .ok (.iload 9, 2) := dq_get dX6_guard_72_t 3 rfl
theorem dX6_guard_81 : decode cX6_guard 81 = .ok (.ishr, 1) := dq_get dX6_guard_72_t 4 rfl
theorem dX6_guard_82 : decode cX6_guard 82 = .ok (.iconst 1, 1) := dq_get dX6_guard_72_t 5 rfl
theorem dX6_guard_83 : decode cX6_guard 83 = .ok (.iand, 1) := dq_get dX6_guard_72_t 6 rfl
theorem dX6_guard_84 : decode cX6_guard 84 = .ok (.iconst 1, 1) := dq_get dX6_guard_72_t 7 rfl
theorem dX6_guard_85 : decode cX6_guard 85 = .ok (.if_icmp .ne 18, 3) := dq_get dX6_guard_72_t 8 rfl
theorem dX6_guard_88 : decode cX6_guard 88 = .ok (.aload_n 0, 1) := dq_get dX6_guard_72_t 9 rfl
theorem dX6_guard_89 : decode cX6_guard 89 = .ok (.getfield 29, 3) := dq_get dX6_guard_72_t 10 rfl
theorem dX6_guard_92 : decode cX6_guard 92 = .ok (.bipush 16, 2) := dq_get dX6_guard_72_t 11 rfl
theorem dX6_guard_94 : decode cX6_guard 94 = .ok (.iload_n 1, 1) := dq_get dX6_guard_72_t 12 rfl
theorem dX6_guard_95 : decode cX6_guard 95 = .ok (.imul, 1) := dq_get dX6_guard_72_t 13 rfl
theorem dX6_guard_96 : decode cX6_guard 96 = .ok (.iload 9, 2) := dq_get dX6_guard_72_t 14 rfl
theorem dX6_guard_98 : decode cX6_guard 98 = .ok (.iadd, 1) := dq_get dX6_guard_72_t 15 rfl
theorem dX6_guard_99 : decode cX6_guard 99 = .ok (.iaload, 1) := dq_get dX6_guard_72_t 16 rfl
theorem dX6_guard_100 : decode cX6_guard 100 = .ok (.goto 4, 3) := dq_get dX6_guard_72_t 17 rfl
theorem dX6_guard_103 : decode cX6_guard 103 = .ok (.iconst 0, 1) := dq_get dX6_guard_72_t 18 rfl
theorem dX6_guard_104 : decode cX6_guard 104 = .ok (.ior, 1) := dq_get dX6_guard_72_t 19 rfl
theorem dX6_guard_105 : decode cX6_guard 105 = .ok (.istore 8, 2) := dq_get dX6_guard_72_t 20 rfl
theorem dX6_guard_107 : decode cX6_guard 107 = .ok (.iinc 9 1, 3) := dq_get dX6_guard_72_t 21 rfl
theorem dX6_guard_110 : decode cX6_guard 110 = .ok (.goto (-51), 3) := dq_get dX6_guard_72_t 22 rfl
theorem dX6_guard_113 : decode cX6_guard 113 = .ok (.iload 7, 2) := dq_get dX6_guard_72_t 23 rfl
theorem dX6_guard_115 : decode cX6_guard 115 = .ok (.iload 4, 2) := dq_get dX6_guard_72_t 24 rfl
theorem dX6_guard_117 : decode cX6_guard 117 = .ok (.if_icmp .ge 13, 3) := dq_get dX6_guard_72_t 25 rfl
theorem dX6_guard_120 : decode cX6_guard 120 = .ok (.iload 8, 2) := dq_get dX6_guard_72_t 26 rfl
theorem dX6_guard_122 : decode cX6_guard 122 = .ok (.iload_n 3, 1) := dq_get dX6_guard_72_t 27 rfl
theorem dX6_guard_123 : decode cX6_guard 123 = .ok (.if_icmp .ne 7, 3) := dq_get dX6_guard_72_t 28 rfl
theorem dX6_guard_126 : decode cX6_guard 126 = .ok (.iconst 1, 1) := dq_get dX6_guard_72_t 29 rfl
theorem dX6_guard_127 : decode cX6_guard 127 = .ok (.goto 4, 3) := dq_get dX6_guard_72_t 30 rfl
theorem dX6_guard_130 : decode cX6_guard 130 = .ok (.iconst 0, 1) := dq_get dX6_guard_72_t 31 rfl
theorem dX6_guard_131 : decode cX6_guard 131 = .ok (.istore 9, 2) := dq_get dX6_guard_72_t 32 rfl
theorem dX6_guard_133 : decode cX6_guard 133 = .ok (.iload 9, 2) := dq_get dX6_guard_72_t 33 rfl
theorem dX6_guard_135 : decode cX6_guard 135 = .ok (.ifCond .eq 8, 3) := dq_get dX6_guard_72_t 34 rfl
theorem dX6_guard_138 : decode cX6_guard 138 = .ok (.iload 6, 2) := dq_get dX6_guard_72_t 35 rfl
theorem dX6_guard_140 : decode cX6_guard 140 = .ok (.goto 5, 3) := dq_get dX6_guard_72_t 36 rfl
theorem dX6_guard_143 : decode cX6_guard 143 = .ok (.iload 5, 2) := dq_get dX6_guard_72_t 37 rfl
theorem dX6_guard_145 : decode cX6_guard 145 = .ok (.istore 5, 2) := dq_get dX6_guard_72_t 38 rfl
theorem dX6_guard_147 : decode cX6_guard 147 = .ok (.iload 9, 2) := dq_get dX6_guard_72_t 39 rfl
theorem dX6_guard_149_t : dqK cX6_guard.data.toList 0 [(149, .ifCond .eq 8, 3), (152, .iload 7, 2), (154, .goto 5, 3), (157, .iload 4, 2), (159, .istore 4, 2), (161, .iinc 6 1, 3), (164, .goto (-124), 3), (167, .iload_n 2, 1), (168, .ifCond .ne 8, 3), (171, .iload 4, 2), (173, .goto 5, 3), (176, .iload 5, 2), (178, .ireturn, 1)] = true := by decide +kernel
theorem dX6_guard_149 : decode cX6_guard 149 = .ok (.ifCond .eq 8, 3) := dq_get dX6_guard_149_t 0 rfl
theorem dX6_guard_152 : decode cX6_guard 152 = .ok (.iload 7, 2) := dq_get dX6_guard_149_t 1 rfl
theorem dX6_guard_154 : decode cX6_guard 154 = .ok (.goto 5, 3) := dq_get dX6_guard_149_t 2 rfl
theorem dX6_guard_157 : decode cX6_guard 157 = .ok (.iload 4, 2) := dq_get dX6_guard_149_t 3 rfl
theorem dX6_guard_159 : decode cX6_guard 159 = .ok (.istore 4, 2) := dq_get dX6_guard_149_t 4 rfl
theorem dX6_guard_161 : decode cX6_guard 161 = .ok (.iinc 6 1, 3) := dq_get dX6_guard_149_t 5 rfl
theorem dX6_guard_164 : decode cX6_guard 164 = .ok (.goto (-124), 3) := dq_get dX6_guard_149_t 6 rfl
theorem dX6_guard_167 : decode cX6_guard 167 = .ok (.iload_n 2, 1) := dq_get dX6_guard_149_t 7 rfl
theorem dX6_guard_168 : decode cX6_guard 168 = .ok (.ifCond .ne 8, 3) := dq_get dX6_guard_149_t 8 rfl
theorem dX6_guard_171 : decode cX6_guard 171 = .ok (.iload 4, 2) := dq_get dX6_guard_149_t 9 rfl
theorem dX6_guard_173 : decode cX6_guard 173 = .ok (.goto 5, 3) := dq_get dX6_guard_149_t 10 rfl
theorem dX6_guard_176 : decode cX6_guard 176 = .ok (.iload 5, 2) := dq_get dX6_guard_149_t 11 rfl
theorem dX6_guard_178 : decode cX6_guard 178 = .ok (.ireturn, 1) := dq_get dX6_guard_149_t 12 rfl
theorem gt_wsX6_hide_wsX60 : GoodIn wsX6_hide wsX60 := fun w hw => ⟨List.mem_cons_of_mem _ (List.mem_append_right _ hw), good_of_word (List.all_eq_true.mp gw_wsX60 w hw)⟩
set_option maxRecDepth 20000 in
theorem ggX6_hide_X6_isCell : GoodIn wsX6_hide wsX6_isCell := goodIn_ca (goodIn_r _ [6, 7, 8, 9, 5, 10, 11, 12, 13, 14, 15] rfl (by decide +kernel)) gt_wsX6_hide_wsX60
set_option maxRecDepth 20000 in
theorem gX6_hide_X6_isCell : GoodIn wsX6_hide (wsV RX6 178 RX6 yX6_isCell wsX6_isCell) := goodIn_app (goodIn_r _ [2, 3, 4, 5] rfl (by decide +kernel)) ggX6_hide_X6_isCell
set_option maxRecDepth 20000 in
theorem ggX6_hide_X6_cellsNow : GoodIn wsX6_hide wsX6_cellsNow := goodIn_ca (goodIn_r _ [10, 11, 12] rfl (by decide +kernel)) gt_wsX6_hide_wsX60
set_option maxRecDepth 20000 in
theorem gX6_hide_X6_cellsNow : GoodIn wsX6_hide (wsV RX6 158 RX6 yX6_cellsNow wsX6_cellsNow) := goodIn_app (goodIn_r _ [7, 8, 9, 5] rfl (by decide +kernel)) ggX6_hide_X6_cellsNow
set_option maxRecDepth 20000 in
theorem ggX6_hide_X6_sightOn : GoodIn wsX6_hide wsX6_sightOn := goodIn_ca (goodIn_r _ [19, 20, 21, 22, 5, 23, 24, 25, 26, 27, 28, 1, 29, 30, 31, 32, 33, 34, 35, 36, 11, 7, 8, 9, 10, 12] rfl (by decide +kernel)) gt_wsX6_hide_wsX60
set_option maxRecDepth 20000 in
theorem gX6_hide_X6_sightOn : GoodIn wsX6_hide (wsV RX6 175 RX6 yX6_sightOn wsX6_sightOn) := goodIn_app (goodIn_r _ [16, 17, 18, 5] rfl (by decide +kernel)) ggX6_hide_X6_sightOn
theorem dX6_hide_0_t : dqK cX6_hide.data.toList 0 [(0, .aload_n 0, 1), (1, .iload_n 1, 1), (2, .invokevirtual 178, 3), (5, .ifCond .ne 5, 3), (8, .iconst (-1), 1), (9, .ireturn, 1), (10, .aload_n 0, 1), (11, .getfield 7, 3), (14, .bipush 47, 2), (16, .iaload, 1), (17, .ifCond .ne 6, 3), (20, .bipush (-2), 2), (22, .ireturn, 1), (23, .iconst 1, 1), (24, .aload_n 0, 1), (25, .invokevirtual 158, 3), (28, .ishl, 1), (29, .iconst 1, 1), (30, .isub, 1), (31, .istore_n 2, 1), (32, .iconst 0, 1), (33, .istore_n 3, 1), (34, .iload_n 3, 1), (35, .aload_n 0, 1), (36, .getfield 7, 3), (39, .bipush 47, 2), (41, .iaload, 1), (42, .if_icmp .ge 30, 3), (45, .iload_n 2, 1), (46, .aload_n 0, 1), (47, .iload_n 1, 1), (48, .aload_n 0, 1), (49, .getfield 7, 3), (52, .bipush 48, 2), (54, .iconst 2, 1), (55, .iload_n 3, 1), (56, .imul, 1), (57, .iadd, 1), (58, .iaload, 1), (59, .invokevirtual 175, 3)] = true := by decide +kernel
theorem dX6_hide_0 : decode cX6_hide 0 = .ok (.aload_n 0, 1) := dq_get dX6_hide_0_t 0 rfl
theorem dX6_hide_1 : decode cX6_hide 1 = .ok (.iload_n 1, 1) := dq_get dX6_hide_0_t 1 rfl
theorem dX6_hide_2 : decode cX6_hide 2 = .ok (.invokevirtual 178, 3) := dq_get dX6_hide_0_t 2 rfl
theorem dX6_hide_5 : decode cX6_hide 5 = .ok (.ifCond .ne 5, 3) := dq_get dX6_hide_0_t 3 rfl
theorem dX6_hide_8 : decode cX6_hide 8 = .ok (.iconst (-1), 1) := dq_get dX6_hide_0_t 4 rfl
theorem dX6_hide_9 : decode cX6_hide 9 = .ok (.ireturn, 1) := dq_get dX6_hide_0_t 5 rfl
theorem dX6_hide_10 : decode cX6_hide 10 = .ok (.aload_n 0, 1) := dq_get dX6_hide_0_t 6 rfl
theorem dX6_hide_11 : decode cX6_hide 11 = .ok (.getfield 7, 3) := dq_get dX6_hide_0_t 7 rfl
theorem dX6_hide_14 : decode cX6_hide 14 = .ok (.bipush 47, 2) := dq_get dX6_hide_0_t 8 rfl
theorem dX6_hide_16 : decode cX6_hide 16 = .ok (.iaload, 1) := dq_get dX6_hide_0_t 9 rfl
theorem dX6_hide_17 : decode cX6_hide 17 = .ok (.ifCond .ne 6, 3) := dq_get dX6_hide_0_t 10 rfl
theorem dX6_hide_20 : decode cX6_hide 20 = .ok (.bipush (-2), 2) := dq_get dX6_hide_0_t 11 rfl
theorem dX6_hide_22 : decode cX6_hide 22 = .ok (.ireturn, 1) := dq_get dX6_hide_0_t 12 rfl
theorem dX6_hide_23 : decode cX6_hide 23 = .ok (.iconst 1, 1) := dq_get dX6_hide_0_t 13 rfl
theorem dX6_hide_24 : decode cX6_hide 24 = .ok (.aload_n 0, 1) := dq_get dX6_hide_0_t 14 rfl
theorem dX6_hide_25 : decode cX6_hide 25 = .ok (.invokevirtual 158, 3) := dq_get dX6_hide_0_t 15 rfl
theorem dX6_hide_28 : decode cX6_hide 28 = .ok (.ishl, 1) := dq_get dX6_hide_0_t 16 rfl
theorem dX6_hide_29 : decode cX6_hide 29 = .ok (.iconst 1, 1) := dq_get dX6_hide_0_t 17 rfl
theorem dX6_hide_30 : decode cX6_hide 30 = .ok (.isub, 1) := dq_get dX6_hide_0_t 18 rfl
theorem dX6_hide_31 : decode cX6_hide 31 = .ok (.istore_n 2, 1) := dq_get dX6_hide_0_t 19 rfl
theorem dX6_hide_32 : decode cX6_hide 32 = .ok (.iconst 0, 1) := dq_get dX6_hide_0_t 20 rfl
theorem dX6_hide_33 : decode cX6_hide 33 = .ok (.istore_n 3, 1) := dq_get dX6_hide_0_t 21 rfl
theorem dX6_hide_34 : decode cX6_hide 34 = .ok (.iload_n 3, 1) := dq_get dX6_hide_0_t 22 rfl
theorem dX6_hide_35 : decode cX6_hide 35 = .ok (.aload_n 0, 1) := dq_get dX6_hide_0_t 23 rfl
theorem dX6_hide_36 : decode cX6_hide 36 = .ok (.getfield 7, 3) := dq_get dX6_hide_0_t 24 rfl
theorem dX6_hide_39 : decode cX6_hide 39 = .ok (.bipush 47, 2) := dq_get dX6_hide_0_t 25 rfl
theorem dX6_hide_41 : decode cX6_hide 41 = .ok (.iaload, 1) := dq_get dX6_hide_0_t 26 rfl
theorem dX6_hide_42 : decode cX6_hide 42 = .ok (.if_icmp .ge 30, 3) := dq_get dX6_hide_0_t 27 rfl
theorem dX6_hide_45 : decode cX6_hide 45 = .ok (.iload_n 2, 1) := dq_get dX6_hide_0_t 28 rfl
theorem dX6_hide_46 : decode cX6_hide 46 = .ok (.aload_n 0, 1) := dq_get dX6_hide_0_t 29 rfl
theorem dX6_hide_47 : decode cX6_hide 47 = .ok (.iload_n 1, 1) := dq_get dX6_hide_0_t 30 rfl
theorem dX6_hide_48 : decode cX6_hide 48 = .ok (.aload_n 0, 1) := dq_get dX6_hide_0_t 31 rfl
theorem dX6_hide_49 : decode cX6_hide 49 = .ok (.getfield 7, 3) := dq_get dX6_hide_0_t 32 rfl
theorem dX6_hide_52 : decode cX6_hide 52 = .ok (.bipush 48, 2) := dq_get dX6_hide_0_t 33 rfl
theorem dX6_hide_54 : decode cX6_hide 54 = .ok (.iconst 2, 1) := dq_get dX6_hide_0_t 34 rfl
theorem dX6_hide_55 : decode cX6_hide 55 = .ok (.iload_n 3, 1) := dq_get dX6_hide_0_t 35 rfl
theorem dX6_hide_56 : decode cX6_hide 56 = .ok (.imul, 1) := dq_get dX6_hide_0_t 36 rfl
theorem dX6_hide_57 : decode cX6_hide 57 = .ok (.iadd, 1) := dq_get dX6_hide_0_t 37 rfl
theorem dX6_hide_58 : decode cX6_hide 58 = .ok (.iaload, 1) := dq_get dX6_hide_0_t 38 rfl
theorem dX6_hide_59 : decode cX6_hide 59 = .ok (.invokevirtual 175, 3) := dq_get dX6_hide_0_t 39 rfl
theorem dX6_hide_62_t : dqK cX6_hide.data.toList 0 [(62, .iconst (-1), 1), (63, .ixor, 1), (64, .iand, 1), (65, .istore_n 2, 1), (66, .iinc 3 1, 3), (69, .goto (-35), 3), (72, .iload_n 2, 1), (73, .ireturn, 1)] = true := by decide +kernel
theorem dX6_hide_62 : decode cX6_hide 62 = .ok (.iconst (-1), 1) := dq_get dX6_hide_62_t 0 rfl
theorem dX6_hide_63 : decode cX6_hide 63 = .ok (.ixor, 1) := dq_get dX6_hide_62_t 1 rfl
theorem dX6_hide_64 : decode cX6_hide 64 = .ok (.iand, 1) := dq_get dX6_hide_62_t 2 rfl
theorem dX6_hide_65 : decode cX6_hide 65 = .ok (.istore_n 2, 1) := dq_get dX6_hide_62_t 3 rfl
theorem dX6_hide_66 : decode cX6_hide 66 = .ok (.iinc 3 1, 3) := dq_get dX6_hide_62_t 4 rfl
theorem dX6_hide_69 : decode cX6_hide 69 = .ok (.goto (-35), 3) := dq_get dX6_hide_62_t 5 rfl
theorem dX6_hide_72 : decode cX6_hide 72 = .ok (.iload_n 2, 1) := dq_get dX6_hide_62_t 6 rfl
theorem dX6_hide_73 : decode cX6_hide 73 = .ok (.ireturn, 1) := dq_get dX6_hide_62_t 7 rfl
set_option maxRecDepth 20000 in
theorem ggX6_best_X6_isPart : GoodIn wsX6_best wsX6_isPart := goodIn_r _ [5, 6, 7, 4, 8] rfl (by decide +kernel)
set_option maxRecDepth 20000 in
theorem gX6_best_X6_isPart : GoodIn wsX6_best (va_wsS RX6 190 yX6_isPart wsX6_isPart) := goodIn_app (goodIn_r _ [2, 3, 4] rfl (by decide +kernel)) ggX6_best_X6_isPart
theorem gt_wsX6_best_wsX60 : GoodIn wsX6_best wsX60 := fun w hw => ⟨List.mem_cons_of_mem _ (List.mem_append_right _ hw), good_of_word (List.all_eq_true.mp gw_wsX60 w hw)⟩
set_option maxRecDepth 20000 in
theorem ggX6_best_X6_cellsNow : GoodIn wsX6_best wsX6_cellsNow := goodIn_ca (goodIn_r _ [12, 13, 14] rfl (by decide +kernel)) gt_wsX6_best_wsX60
set_option maxRecDepth 20000 in
theorem gX6_best_X6_cellsNow : GoodIn wsX6_best (wsV RX6 158 RX6 yX6_cellsNow wsX6_cellsNow) := goodIn_app (goodIn_r _ [9, 10, 11, 4] rfl (by decide +kernel)) ggX6_best_X6_cellsNow
set_option maxRecDepth 20000 in
theorem ggX6_best_X6_shownBy : GoodIn wsX6_best wsX6_shownBy := goodIn_ca (goodIn_r _ [18, 1, 19, 20, 21, 4, 22, 23, 24, 25, 26, 27, 28, 29, 30, 31, 32, 33, 34, 35, 36, 37, 38, 39, 13, 9, 10, 11, 12, 14] rfl (by decide +kernel)) gt_wsX6_best_wsX60
set_option maxRecDepth 20000 in
theorem gX6_best_X6_shownBy : GoodIn wsX6_best (wsV RX6 199 RX6 yX6_shownBy wsX6_shownBy) := goodIn_app (goodIn_r _ [15, 16, 17, 4] rfl (by decide +kernel)) ggX6_best_X6_shownBy
set_option maxRecDepth 20000 in
theorem ggX6_best_X6_bitsOf : GoodIn wsX6_best wsX6_bitsOf := goodIn_r _ [42] rfl (by decide +kernel)
set_option maxRecDepth 20000 in
theorem gX6_best_X6_bitsOf : GoodIn wsX6_best (va_wsS RX6 218 yX6_bitsOf wsX6_bitsOf) := goodIn_app (goodIn_r _ [40, 41, 4] rfl (by decide +kernel)) ggX6_best_X6_bitsOf
theorem dX6_best_0_t : dqK cX6_best.data.toList 0 [(0, .iload_n 1, 1), (1, .invokestatic 190, 3), (4, .ifCond .ne 5, 3), (7, .iconst (-1), 1), (8, .ireturn, 1), (9, .aload_n 0, 1), (10, .getfield 7, 3), (13, .bipush 47, 2), (15, .iaload, 1), (16, .ifCond .ne 6, 3), (19, .bipush (-2), 2), (21, .ireturn, 1), (22, .iconst (-1), 1), (23, .istore_n 2, 1), (24, .iconst 0, 1), (25, .istore_n 3, 1), (26, .iconst 0, 1), (27, .istore 4, 2), (29, .iload 4, 2), (31, .aload_n 0, 1), (32, .invokevirtual 158, 3), (35, .if_icmp .ge 81, 3), (38, .iconst 0, 1), (39, .istore 5, 2), (41, .iconst 0, 1), (42, .istore 6, 2), (44, .iload 6, 2), (46, .aload_n 0, 1), (47, .getfield 7, 3), (50, .bipush 47, 2), (52, .iaload, 1), (53, .if_icmp .ge 22, 3), (56, .iload 5, 2), (58, .aload_n 0, 1), (59, .iload 6, 2), (61, .iload 4, 2), (63, .invokevirtual 199, 3), (66, .ior, 1), (67, .istore 5, 2), (69, .iinc 6 1, 3)] = true := by decide +kernel
theorem dX6_best_0 : decode cX6_best 0 = .ok (.iload_n 1, 1) := dq_get dX6_best_0_t 0 rfl
theorem dX6_best_1 : decode cX6_best 1 = .ok (.invokestatic 190, 3) := dq_get dX6_best_0_t 1 rfl
theorem dX6_best_4 : decode cX6_best 4 = .ok (.ifCond .ne 5, 3) := dq_get dX6_best_0_t 2 rfl
theorem dX6_best_7 : decode cX6_best 7 = .ok (.iconst (-1), 1) := dq_get dX6_best_0_t 3 rfl
theorem dX6_best_8 : decode cX6_best 8 = .ok (.ireturn, 1) := dq_get dX6_best_0_t 4 rfl
theorem dX6_best_9 : decode cX6_best 9 = .ok (.aload_n 0, 1) := dq_get dX6_best_0_t 5 rfl
theorem dX6_best_10 : decode cX6_best 10 = .ok (.getfield 7, 3) := dq_get dX6_best_0_t 6 rfl
theorem dX6_best_13 : decode cX6_best 13 = .ok (.bipush 47, 2) := dq_get dX6_best_0_t 7 rfl
theorem dX6_best_15 : decode cX6_best 15 = .ok (.iaload, 1) := dq_get dX6_best_0_t 8 rfl
theorem dX6_best_16 : decode cX6_best 16 = .ok (.ifCond .ne 6, 3) := dq_get dX6_best_0_t 9 rfl
theorem dX6_best_19 : decode cX6_best 19 = .ok (.bipush (-2), 2) := dq_get dX6_best_0_t 10 rfl
theorem dX6_best_21 : decode cX6_best 21 = .ok (.ireturn, 1) := dq_get dX6_best_0_t 11 rfl
theorem dX6_best_22 : decode cX6_best 22 = .ok (.iconst (-1), 1) := dq_get dX6_best_0_t 12 rfl
theorem dX6_best_23 : decode cX6_best 23 = .ok (.istore_n 2, 1) := dq_get dX6_best_0_t 13 rfl
theorem dX6_best_24 : decode cX6_best 24 = .ok (.iconst 0, 1) := dq_get dX6_best_0_t 14 rfl
theorem dX6_best_25 : decode cX6_best 25 = .ok (.istore_n 3, 1) := dq_get dX6_best_0_t 15 rfl
theorem dX6_best_26 : decode cX6_best 26 = .ok (.iconst 0, 1) := dq_get dX6_best_0_t 16 rfl
theorem dX6_best_27 : decode cX6_best 27 = .ok (.istore 4, 2) := dq_get dX6_best_0_t 17 rfl
theorem dX6_best_29 : decode cX6_best 29 = .ok (.iload 4, 2) := dq_get dX6_best_0_t 18 rfl
theorem dX6_best_31 : decode cX6_best 31 = .ok (.aload_n 0, 1) := dq_get dX6_best_0_t 19 rfl
theorem dX6_best_32 : decode cX6_best 32 = .ok (.invokevirtual 158, 3) := dq_get dX6_best_0_t 20 rfl
theorem dX6_best_35 : decode cX6_best 35 = .ok (.if_icmp .ge 81, 3) := dq_get dX6_best_0_t 21 rfl
theorem dX6_best_38 : decode cX6_best 38 = .ok (.iconst 0, 1) := dq_get dX6_best_0_t 22 rfl
theorem dX6_best_39 : decode cX6_best 39 = .ok (.istore 5, 2) := dq_get dX6_best_0_t 23 rfl
theorem dX6_best_41 : decode cX6_best 41 = .ok (.iconst 0, 1) := dq_get dX6_best_0_t 24 rfl
theorem dX6_best_42 : decode cX6_best 42 = .ok (.istore 6, 2) := dq_get dX6_best_0_t 25 rfl
theorem dX6_best_44 : decode cX6_best 44 = .ok (.iload 6, 2) := dq_get dX6_best_0_t 26 rfl
theorem dX6_best_46 : decode cX6_best 46 = .ok (.aload_n 0, 1) := dq_get dX6_best_0_t 27 rfl
theorem dX6_best_47 : decode cX6_best 47 = .ok (.getfield 7, 3) := dq_get dX6_best_0_t 28 rfl
theorem dX6_best_50 : decode cX6_best 50 = .ok (.bipush 47, 2) := dq_get dX6_best_0_t 29 rfl
theorem dX6_best_52 : decode cX6_best 52 = .ok (.iaload, 1) := dq_get dX6_best_0_t 30 rfl
theorem dX6_best_53 : decode cX6_best 53 = .ok (.if_icmp .ge 22, 3) := dq_get dX6_best_0_t 31 rfl
theorem dX6_best_56 : decode cX6_best 56 = .ok (.iload 5, 2) := dq_get dX6_best_0_t 32 rfl
theorem dX6_best_58 : decode cX6_best 58 = .ok (.aload_n 0, 1) := dq_get dX6_best_0_t 33 rfl
theorem dX6_best_59 : decode cX6_best 59 = .ok (.iload 6, 2) := dq_get dX6_best_0_t 34 rfl
theorem dX6_best_61 : decode cX6_best 61 = .ok (.iload 4, 2) := dq_get dX6_best_0_t 35 rfl
theorem dX6_best_63 : decode cX6_best 63 = .ok (.invokevirtual 199, 3) := dq_get dX6_best_0_t 36 rfl
theorem dX6_best_66 : decode cX6_best 66 = .ok (.ior, 1) := dq_get dX6_best_0_t 37 rfl
theorem dX6_best_67 : decode cX6_best 67 = .ok (.istore 5, 2) := dq_get dX6_best_0_t 38 rfl
theorem dX6_best_69 : decode cX6_best 69 = .ok (.iinc 6 1, 3) := dq_get dX6_best_0_t 39 rfl
theorem dX6_best_72_t : dqK cX6_best.data.toList 0 [(72, .goto (-28), 3), (75, .iload 5, 2), (77, .invokestatic 218, 3), (80, .iload_n 2, 1), (81, .if_icmp .le 8, 3), (84, .iload 4, 2), (86, .goto 4, 3), (89, .iload_n 3, 1), (90, .istore_n 3, 1), (91, .iload 5, 2), (93, .invokestatic 218, 3), (96, .iload_n 2, 1), (97, .if_icmp .le 11, 3), (100, .iload 5, 2), (102, .invokestatic 218, 3), (105, .goto 4, 3), (108, .iload_n 2, 1), (109, .istore_n 2, 1), (110, .iinc 4 1, 3), (113, .goto (-84), 3), (116, .iload_n 1, 1), (117, .ifCond .ne 7, 3), (120, .iload_n 3, 1), (121, .goto 4, 3), (124, .iload_n 2, 1), (125, .ireturn, 1)] = true := by decide +kernel
theorem dX6_best_72 : decode cX6_best 72 = .ok (.goto (-28), 3) := dq_get dX6_best_72_t 0 rfl
theorem dX6_best_75 : decode cX6_best 75 = .ok (.iload 5, 2) := dq_get dX6_best_72_t 1 rfl
theorem dX6_best_77 : decode cX6_best 77 = .ok (.invokestatic 218, 3) := dq_get dX6_best_72_t 2 rfl
theorem dX6_best_80 : decode cX6_best 80 = .ok (.iload_n 2, 1) := dq_get dX6_best_72_t 3 rfl
theorem dX6_best_81 : decode cX6_best 81 = .ok (.if_icmp .le 8, 3) := dq_get dX6_best_72_t 4 rfl
theorem dX6_best_84 : decode cX6_best 84 = .ok (.iload 4, 2) := dq_get dX6_best_72_t 5 rfl
theorem dX6_best_86 : decode cX6_best 86 = .ok (.goto 4, 3) := dq_get dX6_best_72_t 6 rfl
theorem dX6_best_89 : decode cX6_best 89 = .ok (.iload_n 3, 1) := dq_get dX6_best_72_t 7 rfl
theorem dX6_best_90 : decode cX6_best 90 = .ok (.istore_n 3, 1) := dq_get dX6_best_72_t 8 rfl
theorem dX6_best_91 : decode cX6_best 91 = .ok (.iload 5, 2) := dq_get dX6_best_72_t 9 rfl
theorem dX6_best_93 : decode cX6_best 93 = .ok (.invokestatic 218, 3) := dq_get dX6_best_72_t 10 rfl
theorem dX6_best_96 : decode cX6_best 96 = .ok (.iload_n 2, 1) := dq_get dX6_best_72_t 11 rfl
theorem dX6_best_97 : decode cX6_best 97 = .ok (.if_icmp .le 11, 3) := dq_get dX6_best_72_t 12 rfl
theorem dX6_best_100 : decode cX6_best 100 = .ok (.iload 5, 2) := dq_get dX6_best_72_t 13 rfl
theorem dX6_best_102 : decode cX6_best 102 = .ok (.invokestatic 218, 3) := dq_get dX6_best_72_t 14 rfl
theorem dX6_best_105 : decode cX6_best 105 = .ok (.goto 4, 3) := dq_get dX6_best_72_t 15 rfl
theorem dX6_best_108 : decode cX6_best 108 = .ok (.iload_n 2, 1) := dq_get dX6_best_72_t 16 rfl
theorem dX6_best_109 : decode cX6_best 109 = .ok (.istore_n 2, 1) := dq_get dX6_best_72_t 17 rfl
theorem dX6_best_110 : decode cX6_best 110 = .ok (.iinc 4 1, 3) := dq_get dX6_best_72_t 18 rfl
theorem dX6_best_113 : decode cX6_best 113 = .ok (.goto (-84), 3) := dq_get dX6_best_72_t 19 rfl
theorem dX6_best_116 : decode cX6_best 116 = .ok (.iload_n 1, 1) := dq_get dX6_best_72_t 20 rfl
theorem dX6_best_117 : decode cX6_best 117 = .ok (.ifCond .ne 7, 3) := dq_get dX6_best_72_t 21 rfl
theorem dX6_best_120 : decode cX6_best 120 = .ok (.iload_n 3, 1) := dq_get dX6_best_72_t 22 rfl
theorem dX6_best_121 : decode cX6_best 121 = .ok (.goto 4, 3) := dq_get dX6_best_72_t 23 rfl
theorem dX6_best_124 : decode cX6_best 124 = .ok (.iload_n 2, 1) := dq_get dX6_best_72_t 24 rfl
theorem dX6_best_125 : decode cX6_best 125 = .ok (.ireturn, 1) := dq_get dX6_best_72_t 25 rfl
theorem gt_wsX6_showersOf_wsX60 : GoodIn wsX6_showersOf wsX60 := fun w hw => ⟨List.mem_cons_of_mem _ (List.mem_append_right _ hw), good_of_word (List.all_eq_true.mp gw_wsX60 w hw)⟩
set_option maxRecDepth 20000 in
theorem ggX6_showersOf_X6_shownBy : GoodIn wsX6_showersOf wsX6_shownBy := goodIn_ca (goodIn_r _ [6, 1, 7, 8, 9, 5, 10, 11, 12, 13, 14, 15, 16, 17, 18, 19, 20, 21, 22, 23, 24, 25, 26, 27, 28, 29, 30, 31, 32, 33] rfl (by decide +kernel)) gt_wsX6_showersOf_wsX60
set_option maxRecDepth 20000 in
theorem gX6_showersOf_X6_shownBy : GoodIn wsX6_showersOf (wsV RX6 199 RX6 yX6_shownBy wsX6_shownBy) := goodIn_app (goodIn_r _ [2, 3, 4, 5] rfl (by decide +kernel)) ggX6_showersOf_X6_shownBy
theorem dX6_showersOf_0_t : dqK cX6_showersOf.data.toList 0 [(0, .iconst 0, 1), (1, .istore_n 3, 1), (2, .iconst 0, 1), (3, .istore 4, 2), (5, .iload 4, 2), (7, .aload_n 0, 1), (8, .getfield 7, 3), (11, .bipush 47, 2), (13, .iaload, 1), (14, .if_icmp .ge 23, 3), (17, .iload_n 3, 1), (18, .aload_n 0, 1), (19, .iload 4, 2), (21, .iload_n 1, 1), (22, .invokevirtual 199, 3), (25, .iload_n 2, 1), (26, .ishr, 1), (27, .iconst 1, 1), (28, .iand, 1), (29, .iadd, 1), (30, .istore_n 3, 1), (31, .iinc 4 1, 3), (34, .goto (-29), 3), (37, .iload_n 3, 1), (38, .ireturn, 1)] = true := by decide +kernel
theorem dX6_showersOf_0 : decode cX6_showersOf 0 = .ok (.iconst 0, 1) := dq_get dX6_showersOf_0_t 0 rfl
theorem dX6_showersOf_1 : decode cX6_showersOf 1 = .ok (.istore_n 3, 1) := dq_get dX6_showersOf_0_t 1 rfl
theorem dX6_showersOf_2 : decode cX6_showersOf 2 = .ok (.iconst 0, 1) := dq_get dX6_showersOf_0_t 2 rfl
theorem dX6_showersOf_3 : decode cX6_showersOf 3 = .ok (.istore 4, 2) := dq_get dX6_showersOf_0_t 3 rfl
theorem dX6_showersOf_5 : decode cX6_showersOf 5 = .ok (.iload 4, 2) := dq_get dX6_showersOf_0_t 4 rfl
theorem dX6_showersOf_7 : decode cX6_showersOf 7 = .ok (.aload_n 0, 1) := dq_get dX6_showersOf_0_t 5 rfl
theorem dX6_showersOf_8 : decode cX6_showersOf 8 = .ok (.getfield 7, 3) := dq_get dX6_showersOf_0_t 6 rfl
theorem dX6_showersOf_11 : decode cX6_showersOf 11 = .ok (.bipush 47, 2) := dq_get dX6_showersOf_0_t 7 rfl
theorem dX6_showersOf_13 : decode cX6_showersOf 13 = .ok (.iaload, 1) := dq_get dX6_showersOf_0_t 8 rfl
theorem dX6_showersOf_14 : decode cX6_showersOf 14 = .ok (.if_icmp .ge 23, 3) := dq_get dX6_showersOf_0_t 9 rfl
theorem dX6_showersOf_17 : decode cX6_showersOf 17 = .ok (.iload_n 3, 1) := dq_get dX6_showersOf_0_t 10 rfl
theorem dX6_showersOf_18 : decode cX6_showersOf 18 = .ok (.aload_n 0, 1) := dq_get dX6_showersOf_0_t 11 rfl
theorem dX6_showersOf_19 : decode cX6_showersOf 19 = .ok (.iload 4, 2) := dq_get dX6_showersOf_0_t 12 rfl
theorem dX6_showersOf_21 : decode cX6_showersOf 21 = .ok (.iload_n 1, 1) := dq_get dX6_showersOf_0_t 13 rfl
theorem dX6_showersOf_22 : decode cX6_showersOf 22 = .ok (.invokevirtual 199, 3) := dq_get dX6_showersOf_0_t 14 rfl
theorem dX6_showersOf_25 : decode cX6_showersOf 25 = .ok (.iload_n 2, 1) := dq_get dX6_showersOf_0_t 15 rfl
theorem dX6_showersOf_26 : decode cX6_showersOf 26 = .ok (.ishr, 1) := dq_get dX6_showersOf_0_t 16 rfl
theorem dX6_showersOf_27 : decode cX6_showersOf 27 = .ok (.iconst 1, 1) := dq_get dX6_showersOf_0_t 17 rfl
theorem dX6_showersOf_28 : decode cX6_showersOf 28 = .ok (.iand, 1) := dq_get dX6_showersOf_0_t 18 rfl
theorem dX6_showersOf_29 : decode cX6_showersOf 29 = .ok (.iadd, 1) := dq_get dX6_showersOf_0_t 19 rfl
theorem dX6_showersOf_30 : decode cX6_showersOf 30 = .ok (.istore_n 3, 1) := dq_get dX6_showersOf_0_t 20 rfl
theorem dX6_showersOf_31 : decode cX6_showersOf 31 = .ok (.iinc 4 1, 3) := dq_get dX6_showersOf_0_t 21 rfl
theorem dX6_showersOf_34 : decode cX6_showersOf 34 = .ok (.goto (-29), 3) := dq_get dX6_showersOf_0_t 22 rfl
theorem dX6_showersOf_37 : decode cX6_showersOf 37 = .ok (.iload_n 3, 1) := dq_get dX6_showersOf_0_t 23 rfl
theorem dX6_showersOf_38 : decode cX6_showersOf 38 = .ok (.ireturn, 1) := dq_get dX6_showersOf_0_t 24 rfl
theorem dX6_power_0_t : dqK cX6_power.data.toList 0 [(0, .lconst 1, 1), (1, .lstore_n 2, 1), (2, .iconst 0, 1), (3, .istore 4, 2), (5, .iload 4, 2), (7, .iload_n 1, 1), (8, .if_icmp .ge 14, 3), (11, .lload_n 2, 1), (12, .iload_n 0, 1), (13, .i2l, 1), (14, .lmul, 1), (15, .lstore_n 2, 1), (16, .iinc 4 1, 3), (19, .goto (-14), 3), (22, .lload_n 2, 1), (23, .lreturn, 1)] = true := by decide +kernel
theorem dX6_power_0 : decode cX6_power 0 = .ok (.lconst 1, 1) := dq_get dX6_power_0_t 0 rfl
theorem dX6_power_1 : decode cX6_power 1 = .ok (.lstore_n 2, 1) := dq_get dX6_power_0_t 1 rfl
theorem dX6_power_2 : decode cX6_power 2 = .ok (.iconst 0, 1) := dq_get dX6_power_0_t 2 rfl
theorem dX6_power_3 : decode cX6_power 3 = .ok (.istore 4, 2) := dq_get dX6_power_0_t 3 rfl
theorem dX6_power_5 : decode cX6_power 5 = .ok (.iload 4, 2) := dq_get dX6_power_0_t 4 rfl
theorem dX6_power_7 : decode cX6_power 7 = .ok (.iload_n 1, 1) := dq_get dX6_power_0_t 5 rfl
theorem dX6_power_8 : decode cX6_power 8 = .ok (.if_icmp .ge 14, 3) := dq_get dX6_power_0_t 6 rfl
theorem dX6_power_11 : decode cX6_power 11 = .ok (.lload_n 2, 1) := dq_get dX6_power_0_t 7 rfl
theorem dX6_power_12 : decode cX6_power 12 = .ok (.iload_n 0, 1) := dq_get dX6_power_0_t 8 rfl
theorem dX6_power_13 : decode cX6_power 13 = .ok (.i2l, 1) := dq_get dX6_power_0_t 9 rfl
theorem dX6_power_14 : decode cX6_power 14 = .ok (.lmul, 1) := dq_get dX6_power_0_t 10 rfl
theorem dX6_power_15 : decode cX6_power 15 = .ok (.lstore_n 2, 1) := dq_get dX6_power_0_t 11 rfl
theorem dX6_power_16 : decode cX6_power 16 = .ok (.iinc 4 1, 3) := dq_get dX6_power_0_t 12 rfl
theorem dX6_power_19 : decode cX6_power 19 = .ok (.goto (-14), 3) := dq_get dX6_power_0_t 13 rfl
theorem dX6_power_22 : decode cX6_power 22 = .ok (.lload_n 2, 1) := dq_get dX6_power_0_t 14 rfl
theorem dX6_power_23 : decode cX6_power 23 = .ok (.lreturn, 1) := dq_get dX6_power_0_t 15 rfl
set_option maxRecDepth 20000 in
theorem ggX6_luck_X6_in : GoodIn wsX6_luck wsX6_in := goodIn_r _ [6] rfl (by decide +kernel)
set_option maxRecDepth 20000 in
theorem gX6_luck_X6_in : GoodIn wsX6_luck (va_wsS RX6 83 yX6_in wsX6_in) := goodIn_app (goodIn_r _ [3, 4, 5] rfl (by decide +kernel)) ggX6_luck_X6_in
theorem gt_wsX6_luck_wsX60 : GoodIn wsX6_luck wsX60 := fun w hw => ⟨List.mem_cons_of_mem _ (List.mem_append_right _ hw), good_of_word (List.all_eq_true.mp gw_wsX60 w hw)⟩
set_option maxRecDepth 20000 in
theorem ggX6_luck_X6_isCell : GoodIn wsX6_luck wsX6_isCell := goodIn_ca (goodIn_r _ [10, 11, 12, 13, 5, 14, 15, 16, 3, 4, 6] rfl (by decide +kernel)) gt_wsX6_luck_wsX60
set_option maxRecDepth 20000 in
theorem gX6_luck_X6_isCell : GoodIn wsX6_luck (wsV RX6 178 RX6 yX6_isCell wsX6_isCell) := goodIn_app (goodIn_r _ [7, 8, 9, 5] rfl (by decide +kernel)) ggX6_luck_X6_isCell
set_option maxRecDepth 20000 in
theorem ggX6_luck_X6_isPart : GoodIn wsX6_luck wsX6_isPart := goodIn_r _ [19, 3, 4, 5, 6] rfl (by decide +kernel)
set_option maxRecDepth 20000 in
theorem gX6_luck_X6_isPart : GoodIn wsX6_luck (va_wsS RX6 190 yX6_isPart wsX6_isPart) := goodIn_app (goodIn_r _ [17, 18, 5] rfl (by decide +kernel)) ggX6_luck_X6_isPart
set_option maxRecDepth 20000 in
theorem ggX6_luck_X6_showersOf : GoodIn wsX6_luck wsX6_showersOf := goodIn_ca (goodIn_r _ [23, 24, 25, 26, 27, 5, 28, 29, 30, 31, 32, 33, 34, 35, 36, 37, 38, 39, 40, 41, 42, 43, 44, 45, 46, 47, 48, 49, 15, 11, 12, 13, 14, 16] rfl (by decide +kernel)) gt_wsX6_luck_wsX60
set_option maxRecDepth 20000 in
theorem gX6_luck_X6_showersOf : GoodIn wsX6_luck (wsV RX6 249 RX6 yX6_showersOf wsX6_showersOf) := goodIn_app (goodIn_r _ [20, 21, 22, 5] rfl (by decide +kernel)) ggX6_luck_X6_showersOf
set_option maxRecDepth 20000 in
theorem ggX6_luck_X6_power : GoodIn wsX6_luck wsX6_power := goodIn_r _ [52] rfl (by decide +kernel)
set_option maxRecDepth 20000 in
theorem gX6_luck_X6_power : GoodIn wsX6_luck (va_wsS RX6 252 yX6_power wsX6_power) := goodIn_app (goodIn_r _ [50, 51, 5] rfl (by decide +kernel)) ggX6_luck_X6_power
set_option maxRecDepth 20000 in
theorem ggX6_luck_X6_told : GoodIn wsX6_luck wsX6_told := goodIn_r _ [55, 56, 57, 5, 58] rfl (by decide +kernel)
set_option maxRecDepth 20000 in
theorem gX6_luck_X6_told : GoodIn wsX6_luck (va_wsS RX6 233 yX6_told wsX6_told) := goodIn_app (goodIn_r _ [53, 54, 5] rfl (by decide +kernel)) ggX6_luck_X6_told
theorem dX6_luck_0_t : dqK cX6_luck.data.toList 0 [(0, .iload_n 1, 1), (1, .i2l, 1), (2, .lconst 0, 1), (3, .ldc2_w 247, 3), (6, .invokestatic 83, 3), (9, .ifCond .eq 27, 3), (12, .aload_n 0, 1), (13, .iload_n 2, 1), (14, .invokevirtual 178, 3), (17, .ifCond .eq 19, 3), (20, .aload_n 0, 1), (21, .iload_n 3, 1), (22, .invokevirtual 178, 3), (25, .ifCond .eq 11, 3), (28, .iload 4, 2), (30, .invokestatic 190, 3), (33, .ifCond .ne 7, 3), (36, .ldc2_w 229, 3), (39, .lreturn, 1), (40, .aload_n 0, 1), (41, .iload_n 2, 1), (42, .iload_n 3, 1), (43, .invokevirtual 249, 3), (46, .istore 5, 2), (48, .bipush 10, 2), (50, .iload 5, 2), (52, .invokestatic 252, 3), (55, .iload_n 1, 1), (56, .iload 5, 2), (58, .invokestatic 252, 3), (61, .lsub, 1), (62, .bipush 10, 2), (64, .iload 5, 2), (66, .invokestatic 252, 3), (69, .iload 4, 2), (71, .invokestatic 233, 3), (74, .lreturn, 1)] = true := by decide +kernel
theorem dX6_luck_0 : decode cX6_luck 0 = .ok (.iload_n 1, 1) := dq_get dX6_luck_0_t 0 rfl
theorem dX6_luck_1 : decode cX6_luck 1 = .ok (.i2l, 1) := dq_get dX6_luck_0_t 1 rfl
theorem dX6_luck_2 : decode cX6_luck 2 = .ok (.lconst 0, 1) := dq_get dX6_luck_0_t 2 rfl
theorem dX6_luck_3 : decode cX6_luck 3 = .ok (.ldc2_w 247, 3) := dq_get dX6_luck_0_t 3 rfl
theorem dX6_luck_6 : decode cX6_luck 6 = .ok (.invokestatic 83, 3) := dq_get dX6_luck_0_t 4 rfl
theorem dX6_luck_9 : decode cX6_luck 9 = .ok (.ifCond .eq 27, 3) := dq_get dX6_luck_0_t 5 rfl
theorem dX6_luck_12 : decode cX6_luck 12 = .ok (.aload_n 0, 1) := dq_get dX6_luck_0_t 6 rfl
theorem dX6_luck_13 : decode cX6_luck 13 = .ok (.iload_n 2, 1) := dq_get dX6_luck_0_t 7 rfl
theorem dX6_luck_14 : decode cX6_luck 14 = .ok (.invokevirtual 178, 3) := dq_get dX6_luck_0_t 8 rfl
theorem dX6_luck_17 : decode cX6_luck 17 = .ok (.ifCond .eq 19, 3) := dq_get dX6_luck_0_t 9 rfl
theorem dX6_luck_20 : decode cX6_luck 20 = .ok (.aload_n 0, 1) := dq_get dX6_luck_0_t 10 rfl
theorem dX6_luck_21 : decode cX6_luck 21 = .ok (.iload_n 3, 1) := dq_get dX6_luck_0_t 11 rfl
theorem dX6_luck_22 : decode cX6_luck 22 = .ok (.invokevirtual 178, 3) := dq_get dX6_luck_0_t 12 rfl
theorem dX6_luck_25 : decode cX6_luck 25 = .ok (.ifCond .eq 11, 3) := dq_get dX6_luck_0_t 13 rfl
theorem dX6_luck_28 : decode cX6_luck 28 = .ok (.iload 4, 2) := dq_get dX6_luck_0_t 14 rfl
theorem dX6_luck_30 : decode cX6_luck 30 = .ok (.invokestatic 190, 3) := dq_get dX6_luck_0_t 15 rfl
theorem dX6_luck_33 : decode cX6_luck 33 = .ok (.ifCond .ne 7, 3) := dq_get dX6_luck_0_t 16 rfl
theorem dX6_luck_36 : decode cX6_luck 36 = .ok (.ldc2_w 229, 3) := dq_get dX6_luck_0_t 17 rfl
theorem dX6_luck_39 : decode cX6_luck 39 = .ok (.lreturn, 1) := dq_get dX6_luck_0_t 18 rfl
theorem dX6_luck_40 : decode cX6_luck 40 = .ok (.aload_n 0, 1) := dq_get dX6_luck_0_t 19 rfl
theorem dX6_luck_41 : decode cX6_luck 41 = .ok (.iload_n 2, 1) := dq_get dX6_luck_0_t 20 rfl
theorem dX6_luck_42 : decode cX6_luck 42 = .ok (.iload_n 3, 1) := dq_get dX6_luck_0_t 21 rfl
theorem dX6_luck_43 : decode cX6_luck 43 = .ok (.invokevirtual 249, 3) := dq_get dX6_luck_0_t 22 rfl
theorem dX6_luck_46 : decode cX6_luck 46 = .ok (.istore 5, 2) := dq_get dX6_luck_0_t 23 rfl
theorem dX6_luck_48 : decode cX6_luck 48 = .ok (.bipush 10, 2) := dq_get dX6_luck_0_t 24 rfl
theorem dX6_luck_50 : decode cX6_luck 50 = .ok (.iload 5, 2) := dq_get dX6_luck_0_t 25 rfl
theorem dX6_luck_52 : decode cX6_luck 52 = .ok (.invokestatic 252, 3) := dq_get dX6_luck_0_t 26 rfl
theorem dX6_luck_55 : decode cX6_luck 55 = .ok (.iload_n 1, 1) := dq_get dX6_luck_0_t 27 rfl
theorem dX6_luck_56 : decode cX6_luck 56 = .ok (.iload 5, 2) := dq_get dX6_luck_0_t 28 rfl
theorem dX6_luck_58 : decode cX6_luck 58 = .ok (.invokestatic 252, 3) := dq_get dX6_luck_0_t 29 rfl
theorem dX6_luck_61 : decode cX6_luck 61 = .ok (.lsub, 1) := dq_get dX6_luck_0_t 30 rfl
theorem dX6_luck_62 : decode cX6_luck 62 = .ok (.bipush 10, 2) := dq_get dX6_luck_0_t 31 rfl
theorem dX6_luck_64 : decode cX6_luck 64 = .ok (.iload 5, 2) := dq_get dX6_luck_0_t 32 rfl
theorem dX6_luck_66 : decode cX6_luck 66 = .ok (.invokestatic 252, 3) := dq_get dX6_luck_0_t 33 rfl
theorem dX6_luck_69 : decode cX6_luck 69 = .ok (.iload 4, 2) := dq_get dX6_luck_0_t 34 rfl
theorem dX6_luck_71 : decode cX6_luck 71 = .ok (.invokestatic 233, 3) := dq_get dX6_luck_0_t 35 rfl
theorem dX6_luck_74 : decode cX6_luck 74 = .ok (.lreturn, 1) := dq_get dX6_luck_0_t 36 rfl
set_option maxRecDepth 20000 in
theorem ggX6_mean_X6_in : GoodIn wsX6_mean wsX6_in := goodIn_r _ [6] rfl (by decide +kernel)
set_option maxRecDepth 20000 in
theorem gX6_mean_X6_in : GoodIn wsX6_mean (va_wsS RX6 83 yX6_in wsX6_in) := goodIn_app (goodIn_r _ [3, 4, 5] rfl (by decide +kernel)) ggX6_mean_X6_in
theorem gt_wsX6_mean_wsX60 : GoodIn wsX6_mean wsX60 := fun w hw => ⟨List.mem_cons_of_mem _ (List.mem_append_right _ hw), good_of_word (List.all_eq_true.mp gw_wsX60 w hw)⟩
set_option maxRecDepth 20000 in
theorem ggX6_mean_X6_isCell : GoodIn wsX6_mean wsX6_isCell := goodIn_ca (goodIn_r _ [10, 11, 12, 13, 5, 14, 15, 16, 3, 4, 6] rfl (by decide +kernel)) gt_wsX6_mean_wsX60
set_option maxRecDepth 20000 in
theorem gX6_mean_X6_isCell : GoodIn wsX6_mean (wsV RX6 178 RX6 yX6_isCell wsX6_isCell) := goodIn_app (goodIn_r _ [7, 8, 9, 5] rfl (by decide +kernel)) ggX6_mean_X6_isCell
set_option maxRecDepth 20000 in
theorem ggX6_mean_X6_isPart : GoodIn wsX6_mean wsX6_isPart := goodIn_r _ [19, 3, 4, 5, 6] rfl (by decide +kernel)
set_option maxRecDepth 20000 in
theorem gX6_mean_X6_isPart : GoodIn wsX6_mean (va_wsS RX6 190 yX6_isPart wsX6_isPart) := goodIn_app (goodIn_r _ [17, 18, 5] rfl (by decide +kernel)) ggX6_mean_X6_isPart
set_option maxRecDepth 20000 in
theorem ggX6_mean_X6_cellsNow : GoodIn wsX6_mean wsX6_cellsNow := goodIn_ca (goodIn_r _ [14, 15, 16] rfl (by decide +kernel)) gt_wsX6_mean_wsX60
set_option maxRecDepth 20000 in
theorem gX6_mean_X6_cellsNow : GoodIn wsX6_mean (wsV RX6 158 RX6 yX6_cellsNow wsX6_cellsNow) := goodIn_app (goodIn_r _ [11, 12, 13, 5] rfl (by decide +kernel)) ggX6_mean_X6_cellsNow
set_option maxRecDepth 20000 in
theorem ggX6_mean_X6_showersOf : GoodIn wsX6_mean wsX6_showersOf := goodIn_ca (goodIn_r _ [23, 24, 25, 26, 27, 5, 28, 29, 30, 31, 32, 33, 34, 35, 36, 37, 38, 39, 40, 41, 42, 43, 44, 45, 46, 47, 48, 49, 15, 11, 12, 13, 14, 16] rfl (by decide +kernel)) gt_wsX6_mean_wsX60
set_option maxRecDepth 20000 in
theorem gX6_mean_X6_showersOf : GoodIn wsX6_mean (wsV RX6 249 RX6 yX6_showersOf wsX6_showersOf) := goodIn_app (goodIn_r _ [20, 21, 22, 5] rfl (by decide +kernel)) ggX6_mean_X6_showersOf
set_option maxRecDepth 20000 in
theorem ggX6_mean_X6_power : GoodIn wsX6_mean wsX6_power := goodIn_r _ [52] rfl (by decide +kernel)
set_option maxRecDepth 20000 in
theorem gX6_mean_X6_power : GoodIn wsX6_mean (va_wsS RX6 252 yX6_power wsX6_power) := goodIn_app (goodIn_r _ [50, 51, 5] rfl (by decide +kernel)) ggX6_mean_X6_power
set_option maxRecDepth 20000 in
theorem ggX6_mean_X6_told : GoodIn wsX6_mean wsX6_told := goodIn_r _ [55, 56, 57, 5, 58] rfl (by decide +kernel)
set_option maxRecDepth 20000 in
theorem gX6_mean_X6_told : GoodIn wsX6_mean (va_wsS RX6 233 yX6_told wsX6_told) := goodIn_app (goodIn_r _ [53, 54, 5] rfl (by decide +kernel)) ggX6_mean_X6_told
theorem dX6_mean_0_t : dqK cX6_mean.data.toList 0 [(0, .iload_n 1, 1), (1, .i2l, 1), (2, .lconst 0, 1), (3, .ldc2_w 247, 3), (6, .invokestatic 83, 3), (9, .ifCond .eq 18, 3), (12, .aload_n 0, 1), (13, .iload_n 2, 1), (14, .invokevirtual 178, 3), (17, .ifCond .eq 10, 3), (20, .iload_n 3, 1), (21, .invokestatic 190, 3), (24, .ifCond .ne 7, 3), (27, .ldc2_w 229, 3), (30, .lreturn, 1), (31, .lconst 0, 1), (32, .lstore 4, 2), (34, .iconst 0, 1), (35, .istore 6, 2), (37, .iload 6, 2), (39, .aload_n 0, 1), (40, .invokevirtual 158, 3), (43, .if_icmp .ge 48, 3), (46, .aload_n 0, 1), (47, .iload_n 2, 1), (48, .iload 6, 2), (50, .invokevirtual 249, 3), (53, .istore 7, 2), (55, .lload 4, 2), (57, .bipush 10, 2), (59, .iload 7, 2), (61, .invokestatic 252, 3), (64, .iload_n 1, 1), (65, .iload 7, 2), (67, .invokestatic 252, 3), (70, .lsub, 1), (71, .bipush 10, 2), (73, .bipush 6, 2), (75, .iload 7, 2), (77, .isub, 1)] = true := by decide +kernel
theorem dX6_mean_0 : decode cX6_mean 0 = .ok (.iload_n 1, 1) := dq_get dX6_mean_0_t 0 rfl
theorem dX6_mean_1 : decode cX6_mean 1 = .ok (.i2l, 1) := dq_get dX6_mean_0_t 1 rfl
theorem dX6_mean_2 : decode cX6_mean 2 = .ok (.lconst 0, 1) := dq_get dX6_mean_0_t 2 rfl
theorem dX6_mean_3 : decode cX6_mean 3 = .ok (.ldc2_w 247, 3) := dq_get dX6_mean_0_t 3 rfl
theorem dX6_mean_6 : decode cX6_mean 6 = .ok (.invokestatic 83, 3) := dq_get dX6_mean_0_t 4 rfl
theorem dX6_mean_9 : decode cX6_mean 9 = .ok (.ifCond .eq 18, 3) := dq_get dX6_mean_0_t 5 rfl
theorem dX6_mean_12 : decode cX6_mean 12 = .ok (.aload_n 0, 1) := dq_get dX6_mean_0_t 6 rfl
theorem dX6_mean_13 : decode cX6_mean 13 = .ok (.iload_n 2, 1) := dq_get dX6_mean_0_t 7 rfl
theorem dX6_mean_14 : decode cX6_mean 14 = .ok (.invokevirtual 178, 3) := dq_get dX6_mean_0_t 8 rfl
theorem dX6_mean_17 : decode cX6_mean 17 = .ok (.ifCond .eq 10, 3) := dq_get dX6_mean_0_t 9 rfl
theorem dX6_mean_20 : decode cX6_mean 20 = .ok (.iload_n 3, 1) := dq_get dX6_mean_0_t 10 rfl
theorem dX6_mean_21 : decode cX6_mean 21 = .ok (.invokestatic 190, 3) := dq_get dX6_mean_0_t 11 rfl
theorem dX6_mean_24 : decode cX6_mean 24 = .ok (.ifCond .ne 7, 3) := dq_get dX6_mean_0_t 12 rfl
theorem dX6_mean_27 : decode cX6_mean 27 = .ok (.ldc2_w 229, 3) := dq_get dX6_mean_0_t 13 rfl
theorem dX6_mean_30 : decode cX6_mean 30 = .ok (.lreturn, 1) := dq_get dX6_mean_0_t 14 rfl
theorem dX6_mean_31 : decode cX6_mean 31 = .ok (.lconst 0, 1) := dq_get dX6_mean_0_t 15 rfl
theorem dX6_mean_32 : decode cX6_mean 32 = .ok (.lstore 4, 2) := dq_get dX6_mean_0_t 16 rfl
theorem dX6_mean_34 : decode cX6_mean 34 = .ok (.iconst 0, 1) := dq_get dX6_mean_0_t 17 rfl
theorem dX6_mean_35 : decode cX6_mean 35 = .ok (.istore 6, 2) := dq_get dX6_mean_0_t 18 rfl
theorem dX6_mean_37 : decode cX6_mean 37 = .ok (.iload 6, 2) := dq_get dX6_mean_0_t 19 rfl
theorem dX6_mean_39 : decode cX6_mean 39 = .ok (.aload_n 0, 1) := dq_get dX6_mean_0_t 20 rfl
theorem dX6_mean_40 : decode cX6_mean 40 = .ok (.invokevirtual 158, 3) := dq_get dX6_mean_0_t 21 rfl
theorem dX6_mean_43 : decode cX6_mean 43 = .ok (.if_icmp .ge 48, 3) := dq_get dX6_mean_0_t 22 rfl
theorem dX6_mean_46 : decode cX6_mean 46 = .ok (.aload_n 0, 1) := dq_get dX6_mean_0_t 23 rfl
theorem dX6_mean_47 : decode cX6_mean 47 = .ok (.iload_n 2, 1) := dq_get dX6_mean_0_t 24 rfl
theorem dX6_mean_48 : decode cX6_mean 48 = .ok (.iload 6, 2) := dq_get dX6_mean_0_t 25 rfl
theorem dX6_mean_50 : decode cX6_mean 50 = .ok (.invokevirtual 249, 3) := dq_get dX6_mean_0_t 26 rfl
theorem dX6_mean_53 : decode cX6_mean 53 = .ok (.istore 7, 2) := dq_get dX6_mean_0_t 27 rfl
theorem dX6_mean_55 : decode cX6_mean 55 = .ok (.lload 4, 2) := dq_get dX6_mean_0_t 28 rfl
theorem dX6_mean_57 : decode cX6_mean 57 = .ok (.bipush 10, 2) := dq_get dX6_mean_0_t 29 rfl
theorem dX6_mean_59 : decode cX6_mean 59 = .ok (.iload 7, 2) := dq_get dX6_mean_0_t 30 rfl
theorem dX6_mean_61 : decode cX6_mean 61 = .ok (.invokestatic 252, 3) := dq_get dX6_mean_0_t 31 rfl
theorem dX6_mean_64 : decode cX6_mean 64 = .ok (.iload_n 1, 1) := dq_get dX6_mean_0_t 32 rfl
theorem dX6_mean_65 : decode cX6_mean 65 = .ok (.iload 7, 2) := dq_get dX6_mean_0_t 33 rfl
theorem dX6_mean_67 : decode cX6_mean 67 = .ok (.invokestatic 252, 3) := dq_get dX6_mean_0_t 34 rfl
theorem dX6_mean_70 : decode cX6_mean 70 = .ok (.lsub, 1) := dq_get dX6_mean_0_t 35 rfl
theorem dX6_mean_71 : decode cX6_mean 71 = .ok (.bipush 10, 2) := dq_get dX6_mean_0_t 36 rfl
theorem dX6_mean_73 : decode cX6_mean 73 = .ok (.bipush 6, 2) := dq_get dX6_mean_0_t 37 rfl
theorem dX6_mean_75 : decode cX6_mean 75 = .ok (.iload 7, 2) := dq_get dX6_mean_0_t 38 rfl
theorem dX6_mean_77 : decode cX6_mean 77 = .ok (.isub, 1) := dq_get dX6_mean_0_t 39 rfl
theorem dX6_mean_78_t : dqK cX6_mean.data.toList 0 [(78, .invokestatic 252, 3), (81, .lmul, 1), (82, .ladd, 1), (83, .lstore 4, 2), (85, .iinc 6 1, 3), (88, .goto (-51), 3), (91, .lload 4, 2), (93, .bipush 10, 2), (95, .bipush 6, 2), (97, .invokestatic 252, 3), (100, .iload_n 3, 1), (101, .invokestatic 233, 3), (104, .lreturn, 1)] = true := by decide +kernel
theorem dX6_mean_78 : decode cX6_mean 78 = .ok (.invokestatic 252, 3) := dq_get dX6_mean_78_t 0 rfl
theorem dX6_mean_81 : decode cX6_mean 81 = .ok (.lmul, 1) := dq_get dX6_mean_78_t 1 rfl
theorem dX6_mean_82 : decode cX6_mean 82 = .ok (.ladd, 1) := dq_get dX6_mean_78_t 2 rfl
theorem dX6_mean_83 : decode cX6_mean 83 = .ok (.lstore 4, 2) := dq_get dX6_mean_78_t 3 rfl
theorem dX6_mean_85 : decode cX6_mean 85 = .ok (.iinc 6 1, 3) := dq_get dX6_mean_78_t 4 rfl
theorem dX6_mean_88 : decode cX6_mean 88 = .ok (.goto (-51), 3) := dq_get dX6_mean_78_t 5 rfl
theorem dX6_mean_91 : decode cX6_mean 91 = .ok (.lload 4, 2) := dq_get dX6_mean_78_t 6 rfl
theorem dX6_mean_93 : decode cX6_mean 93 = .ok (.bipush 10, 2) := dq_get dX6_mean_78_t 7 rfl
theorem dX6_mean_95 : decode cX6_mean 95 = .ok (.bipush 6, 2) := dq_get dX6_mean_78_t 8 rfl
theorem dX6_mean_97 : decode cX6_mean 97 = .ok (.invokestatic 252, 3) := dq_get dX6_mean_78_t 9 rfl
theorem dX6_mean_100 : decode cX6_mean 100 = .ok (.iload_n 3, 1) := dq_get dX6_mean_78_t 10 rfl
theorem dX6_mean_101 : decode cX6_mean 101 = .ok (.invokestatic 233, 3) := dq_get dX6_mean_78_t 11 rfl
theorem dX6_mean_104 : decode cX6_mean 104 = .ok (.lreturn, 1) := dq_get dX6_mean_78_t 12 rfl
set_option maxRecDepth 20000 in
theorem ggX6_drift_X6_in : GoodIn wsX6_drift wsX6_in := goodIn_r _ [8] rfl (by decide +kernel)
set_option maxRecDepth 20000 in
theorem gX6_drift_X6_in : GoodIn wsX6_drift (va_wsS RX6 83 yX6_in wsX6_in) := goodIn_app (goodIn_r _ [5, 6, 7] rfl (by decide +kernel)) ggX6_drift_X6_in
set_option maxRecDepth 20000 in
theorem ggX6_drift_X6_isPart : GoodIn wsX6_drift wsX6_isPart := goodIn_r _ [11, 5, 6, 7, 8] rfl (by decide +kernel)
set_option maxRecDepth 20000 in
theorem gX6_drift_X6_isPart : GoodIn wsX6_drift (va_wsS RX6 190 yX6_isPart wsX6_isPart) := goodIn_app (goodIn_r _ [9, 10, 7] rfl (by decide +kernel)) ggX6_drift_X6_isPart
theorem gt_wsX6_drift_wsX60 : GoodIn wsX6_drift wsX60 := fun w hw => ⟨List.mem_cons_of_mem _ (List.mem_append_right _ hw), good_of_word (List.all_eq_true.mp gw_wsX60 w hw)⟩
set_option maxRecDepth 20000 in
theorem ggX6_drift_X6_shiftTo : GoodIn wsX6_drift wsX6_shiftTo := goodIn_ca (goodIn_r _ [15, 4, 16, 17, 18, 7, 19, 20] rfl (by decide +kernel)) gt_wsX6_drift_wsX60
set_option maxRecDepth 20000 in
theorem gX6_drift_X6_shiftTo : GoodIn wsX6_drift (wsV RX6 169 RX6 yX6_shiftTo wsX6_shiftTo) := goodIn_app (goodIn_r _ [12, 13, 14, 7] rfl (by decide +kernel)) ggX6_drift_X6_shiftTo
set_option maxRecDepth 20000 in
theorem ggX6_drift_X6_cellsNow : GoodIn wsX6_drift wsX6_cellsNow := goodIn_ca (goodIn_r _ [24, 25, 26] rfl (by decide +kernel)) gt_wsX6_drift_wsX60
set_option maxRecDepth 20000 in
theorem gX6_drift_X6_cellsNow : GoodIn wsX6_drift (wsV RX6 158 RX6 yX6_cellsNow wsX6_cellsNow) := goodIn_app (goodIn_r _ [21, 22, 23, 7] rfl (by decide +kernel)) ggX6_drift_X6_cellsNow
set_option maxRecDepth 20000 in
theorem ggX6_drift_X6_flag : GoodIn wsX6_drift wsX6_flag := goodIn_r _ [29] rfl (by decide +kernel)
set_option maxRecDepth 20000 in
theorem gX6_drift_X6_flag : GoodIn wsX6_drift (va_wsS RX6 205 yX6_flag wsX6_flag) := goodIn_app (goodIn_r _ [27, 28, 7] rfl (by decide +kernel)) ggX6_drift_X6_flag
set_option maxRecDepth 20000 in
theorem ggX6_drift_X6_sight : GoodIn wsX6_drift wsX6_sight := goodIn_ca (goodIn_r _ [33, 4, 34, 35, 36, 7, 37, 25, 21, 22, 23, 24, 26] rfl (by decide +kernel)) gt_wsX6_drift_wsX60
set_option maxRecDepth 20000 in
theorem gX6_drift_X6_sight : GoodIn wsX6_drift (wsV RX6 172 RX6 yX6_sight wsX6_sight) := goodIn_app (goodIn_r _ [30, 31, 32, 7] rfl (by decide +kernel)) ggX6_drift_X6_sight
theorem dX6_drift_0_t : dqK cX6_drift.data.toList 0 [(0, .iload_n 2, 1), (1, .i2l, 1), (2, .lconst 1, 1), (3, .ldc2_w 256, 3), (6, .invokestatic 83, 3), (9, .ifCond .eq 10, 3), (12, .iload_n 3, 1), (13, .invokestatic 190, 3), (16, .ifCond .ne 5, 3), (19, .iconst (-1), 1), (20, .ireturn, 1), (21, .aload_n 0, 1), (22, .aload_n 0, 1), (23, .getfield 78, 3), (26, .invokevirtual 169, 3), (29, .iload_n 1, 1), (30, .istore 4, 2), (32, .iconst 0, 1), (33, .istore 5, 2), (35, .iload 5, 2), (37, .iload_n 2, 1), (38, .if_icmp .ge 68, 3), (41, .iload 4, 2), (43, .ldc_w 258, 3), (46, .imul, 1), (47, .sipush 12345, 3), (50, .iadd, 1), (51, .istore 4, 2), (53, .iload 4, 2), (55, .bipush 16, 2), (57, .ishr, 1), (58, .sipush 32767, 3), (61, .iand, 1), (62, .aload_n 0, 1), (63, .invokevirtual 158, 3), (66, .irem, 1), (67, .istore 6, 2), (69, .iload 4, 2), (71, .ldc_w 258, 3), (74, .imul, 1)] = true := by decide +kernel
theorem dX6_drift_0 : decode cX6_drift 0 = .ok (.iload_n 2, 1) := dq_get dX6_drift_0_t 0 rfl
theorem dX6_drift_1 : decode cX6_drift 1 = .ok (.i2l, 1) := dq_get dX6_drift_0_t 1 rfl
theorem dX6_drift_2 : decode cX6_drift 2 = .ok (.lconst 1, 1) := dq_get dX6_drift_0_t 2 rfl
theorem dX6_drift_3 : decode cX6_drift 3 = .ok (.ldc2_w 256, 3) := dq_get dX6_drift_0_t 3 rfl
theorem dX6_drift_6 : decode cX6_drift 6 = .ok (.invokestatic 83, 3) := dq_get dX6_drift_0_t 4 rfl
theorem dX6_drift_9 : decode cX6_drift 9 = .ok (.ifCond .eq 10, 3) := dq_get dX6_drift_0_t 5 rfl
theorem dX6_drift_12 : decode cX6_drift 12 = .ok (.iload_n 3, 1) := dq_get dX6_drift_0_t 6 rfl
theorem dX6_drift_13 : decode cX6_drift 13 = .ok (.invokestatic 190, 3) := dq_get dX6_drift_0_t 7 rfl
theorem dX6_drift_16 : decode cX6_drift 16 = .ok (.ifCond .ne 5, 3) := dq_get dX6_drift_0_t 8 rfl
theorem dX6_drift_19 : decode cX6_drift 19 = .ok (.iconst (-1), 1) := dq_get dX6_drift_0_t 9 rfl
theorem dX6_drift_20 : decode cX6_drift 20 = .ok (.ireturn, 1) := dq_get dX6_drift_0_t 10 rfl
theorem dX6_drift_21 : decode cX6_drift 21 = .ok (.aload_n 0, 1) := dq_get dX6_drift_0_t 11 rfl
theorem dX6_drift_22 : decode cX6_drift 22 = .ok (.aload_n 0, 1) := dq_get dX6_drift_0_t 12 rfl
theorem dX6_drift_23 : decode cX6_drift 23 = .ok (.getfield 78, 3) := dq_get dX6_drift_0_t 13 rfl
theorem dX6_drift_26 : decode cX6_drift 26 = .ok (.invokevirtual 169, 3) := dq_get dX6_drift_0_t 14 rfl
theorem dX6_drift_29 : decode cX6_drift 29 = .ok (.iload_n 1, 1) := dq_get dX6_drift_0_t 15 rfl
theorem dX6_drift_30 : decode cX6_drift 30 = .ok (.istore 4, 2) := dq_get dX6_drift_0_t 16 rfl
theorem dX6_drift_32 : decode cX6_drift 32 = .ok (.iconst 0, 1) := dq_get dX6_drift_0_t 17 rfl
theorem dX6_drift_33 : decode cX6_drift 33 = .ok (.istore 5, 2) := dq_get dX6_drift_0_t 18 rfl
theorem dX6_drift_35 : decode cX6_drift 35 = .ok (.iload 5, 2) := dq_get dX6_drift_0_t 19 rfl
theorem dX6_drift_37 : decode cX6_drift 37 = .ok (.iload_n 2, 1) := dq_get dX6_drift_0_t 20 rfl
theorem dX6_drift_38 : decode cX6_drift 38 = .ok (.if_icmp .ge 68, 3) := dq_get dX6_drift_0_t 21 rfl
theorem dX6_drift_41 : decode cX6_drift 41 = .ok (.iload 4, 2) := dq_get dX6_drift_0_t 22 rfl
theorem dX6_drift_43 : decode cX6_drift 43 = .ok (.ldc_w 258, 3) := dq_get dX6_drift_0_t 23 rfl
theorem dX6_drift_46 : decode cX6_drift 46 = .ok (.imul, 1) := dq_get dX6_drift_0_t 24 rfl
theorem dX6_drift_47 : decode cX6_drift 47 = .ok (.sipush 12345, 3) := dq_get dX6_drift_0_t 25 rfl
theorem dX6_drift_50 : decode cX6_drift 50 = .ok (.iadd, 1) := dq_get dX6_drift_0_t 26 rfl
theorem dX6_drift_51 : decode cX6_drift 51 = .ok (.istore 4, 2) := dq_get dX6_drift_0_t 27 rfl
theorem dX6_drift_53 : decode cX6_drift 53 = .ok (.iload 4, 2) := dq_get dX6_drift_0_t 28 rfl
theorem dX6_drift_55 : decode cX6_drift 55 = .ok (.bipush 16, 2) := dq_get dX6_drift_0_t 29 rfl
theorem dX6_drift_57 : decode cX6_drift 57 = .ok (.ishr, 1) := dq_get dX6_drift_0_t 30 rfl
theorem dX6_drift_58 : decode cX6_drift 58 = .ok (.sipush 32767, 3) := dq_get dX6_drift_0_t 31 rfl
theorem dX6_drift_61 : decode cX6_drift 61 = .ok (.iand, 1) := dq_get dX6_drift_0_t 32 rfl
theorem dX6_drift_62 : decode cX6_drift 62 = .ok (.aload_n 0, 1) := dq_get dX6_drift_0_t 33 rfl
theorem dX6_drift_63 : decode cX6_drift 63 = .ok (.invokevirtual 158, 3) := dq_get dX6_drift_0_t 34 rfl
theorem dX6_drift_66 : decode cX6_drift 66 = .ok (.irem, 1) := dq_get dX6_drift_0_t 35 rfl
theorem dX6_drift_67 : decode cX6_drift 67 = .ok (.istore 6, 2) := dq_get dX6_drift_0_t 36 rfl
theorem dX6_drift_69 : decode cX6_drift 69 = .ok (.iload 4, 2) := dq_get dX6_drift_0_t 37 rfl
theorem dX6_drift_71 : decode cX6_drift 71 = .ok (.ldc_w 258, 3) := dq_get dX6_drift_0_t 38 rfl
theorem dX6_drift_74 : decode cX6_drift 74 = .ok (.imul, 1) := dq_get dX6_drift_0_t 39 rfl
theorem dX6_drift_75_t : dqK cX6_drift.data.toList 0 [(75, .sipush 12345, 3), (78, .iadd, 1), (79, .istore 4, 2), (81, .aload_n 0, 1), (82, .getfield 23, 3), (85, .iload 6, 2), (87, .iload 4, 2), (89, .bipush 16, 2), (91, .ishr, 1), (92, .sipush 32767, 3), (95, .iand, 1), (96, .bipush 6, 2), (98, .irem, 1), (99, .iastore, 1), (100, .iinc 5 1, 3), (103, .goto (-68), 3), (106, .iconst 0, 1), (107, .istore 5, 2), (109, .iconst 0, 1), (110, .istore 6, 2), (112, .iload 6, 2), (114, .aload_n 0, 1), (115, .invokevirtual 158, 3), (118, .if_icmp .ge 35, 3), (121, .iload 5, 2), (123, .aload_n 0, 1), (124, .getfield 23, 3), (127, .iload 6, 2), (129, .iaload, 1), (130, .ifCond .ne 7, 3), (133, .iconst 1, 1), (134, .goto 4, 3), (137, .iconst 0, 1), (138, .invokestatic 205, 3), (141, .iload 6, 2), (143, .ishl, 1), (144, .ior, 1), (145, .istore 5, 2), (147, .iinc 6 1, 3), (150, .goto (-38), 3)] = true := by decide +kernel
theorem dX6_drift_75 : decode cX6_drift 75 = .ok (.sipush 12345, 3) := dq_get dX6_drift_75_t 0 rfl
theorem dX6_drift_78 : decode cX6_drift 78 = .ok (.iadd, 1) := dq_get dX6_drift_75_t 1 rfl
theorem dX6_drift_79 : decode cX6_drift 79 = .ok (.istore 4, 2) := dq_get dX6_drift_75_t 2 rfl
theorem dX6_drift_81 : decode cX6_drift 81 = .ok (.aload_n 0, 1) := dq_get dX6_drift_75_t 3 rfl
theorem dX6_drift_82 : decode cX6_drift 82 = .ok (.getfield 23, 3) := dq_get dX6_drift_75_t 4 rfl
theorem dX6_drift_85 : decode cX6_drift 85 = .ok (.iload 6, 2) := dq_get dX6_drift_75_t 5 rfl
theorem dX6_drift_87 : decode cX6_drift 87 = .ok (.iload 4, 2) := dq_get dX6_drift_75_t 6 rfl
theorem dX6_drift_89 : decode cX6_drift 89 = .ok (.bipush 16, 2) := dq_get dX6_drift_75_t 7 rfl
theorem dX6_drift_91 : decode cX6_drift 91 = .ok (.ishr, 1) := dq_get dX6_drift_75_t 8 rfl
theorem dX6_drift_92 : decode cX6_drift 92 = .ok (.sipush 32767, 3) := dq_get dX6_drift_75_t 9 rfl
theorem dX6_drift_95 : decode cX6_drift 95 = .ok (.iand, 1) := dq_get dX6_drift_75_t 10 rfl
theorem dX6_drift_96 : decode cX6_drift 96 = .ok (.bipush 6, 2) := dq_get dX6_drift_75_t 11 rfl
theorem dX6_drift_98 : decode cX6_drift 98 = .ok (.irem, 1) := dq_get dX6_drift_75_t 12 rfl
theorem dX6_drift_99 : decode cX6_drift 99 = .ok (.iastore, 1) := dq_get dX6_drift_75_t 13 rfl
theorem dX6_drift_100 : decode cX6_drift 100 = .ok (.iinc 5 1, 3) := dq_get dX6_drift_75_t 14 rfl
theorem dX6_drift_103 : decode cX6_drift 103 = .ok (.goto (-68), 3) := dq_get dX6_drift_75_t 15 rfl
theorem dX6_drift_106 : decode cX6_drift 106 = .ok (.iconst 0, 1) := dq_get dX6_drift_75_t 16 rfl
theorem dX6_drift_107 : decode cX6_drift 107 = .ok (.istore 5, 2) := dq_get dX6_drift_75_t 17 rfl
theorem dX6_drift_109 : decode cX6_drift 109 = .ok (.iconst 0, 1) := dq_get dX6_drift_75_t 18 rfl
theorem dX6_drift_110 : decode cX6_drift 110 = .ok (.istore 6, 2) := dq_get dX6_drift_75_t 19 rfl
theorem dX6_drift_112 : decode cX6_drift 112 = .ok (.iload 6, 2) := dq_get dX6_drift_75_t 20 rfl
theorem dX6_drift_114 : decode cX6_drift 114 = .ok (.aload_n 0, 1) := dq_get dX6_drift_75_t 21 rfl
theorem dX6_drift_115 : decode cX6_drift 115 = .ok (.invokevirtual 158, 3) := dq_get dX6_drift_75_t 22 rfl
theorem dX6_drift_118 : decode cX6_drift 118 = .ok (.if_icmp .ge 35, 3) := dq_get dX6_drift_75_t 23 rfl
theorem dX6_drift_121 : decode cX6_drift 121 = .ok (.iload 5, 2) := dq_get dX6_drift_75_t 24 rfl
theorem dX6_drift_123 : decode cX6_drift 123 = .ok (.aload_n 0, 1) := dq_get dX6_drift_75_t 25 rfl
theorem dX6_drift_124 : decode cX6_drift 124 = .ok (.getfield 23, 3) := dq_get dX6_drift_75_t 26 rfl
theorem dX6_drift_127 : decode cX6_drift 127 = .ok (.iload 6, 2) := dq_get dX6_drift_75_t 27 rfl
theorem dX6_drift_129 : decode cX6_drift 129 = .ok (.iaload, 1) := dq_get dX6_drift_75_t 28 rfl
theorem dX6_drift_130 : decode cX6_drift 130 = .ok (.ifCond .ne 7, 3) := dq_get dX6_drift_75_t 29 rfl
theorem dX6_drift_133 : decode cX6_drift 133 = .ok (.iconst 1, 1) := dq_get dX6_drift_75_t 30 rfl
theorem dX6_drift_134 : decode cX6_drift 134 = .ok (.goto 4, 3) := dq_get dX6_drift_75_t 31 rfl
theorem dX6_drift_137 : decode cX6_drift 137 = .ok (.iconst 0, 1) := dq_get dX6_drift_75_t 32 rfl
theorem dX6_drift_138 : decode cX6_drift 138 = .ok (.invokestatic 205, 3) := dq_get dX6_drift_75_t 33 rfl
theorem dX6_drift_141 : decode cX6_drift 141 = .ok (.iload 6, 2) := dq_get dX6_drift_75_t 34 rfl
theorem dX6_drift_143 : decode cX6_drift 143 = .ok (.ishl, 1) := dq_get dX6_drift_75_t 35 rfl
theorem dX6_drift_144 : decode cX6_drift 144 = .ok (.ior, 1) := dq_get dX6_drift_75_t 36 rfl
theorem dX6_drift_145 : decode cX6_drift 145 = .ok (.istore 5, 2) := dq_get dX6_drift_75_t 37 rfl
theorem dX6_drift_147 : decode cX6_drift 147 = .ok (.iinc 6 1, 3) := dq_get dX6_drift_75_t 38 rfl
theorem dX6_drift_150 : decode cX6_drift 150 = .ok (.goto (-38), 3) := dq_get dX6_drift_75_t 39 rfl
theorem dX6_drift_153_t : dqK cX6_drift.data.toList 0 [(153, .iload_n 3, 1), (154, .ifCond .ne 8, 3), (157, .iload 5, 2), (159, .goto 8, 3), (162, .aload_n 0, 1), (163, .iconst 0, 1), (164, .invokevirtual 172, 3), (167, .ireturn, 1)] = true := by decide +kernel
theorem dX6_drift_153 : decode cX6_drift 153 = .ok (.iload_n 3, 1) := dq_get dX6_drift_153_t 0 rfl
theorem dX6_drift_154 : decode cX6_drift 154 = .ok (.ifCond .ne 8, 3) := dq_get dX6_drift_153_t 1 rfl
theorem dX6_drift_157 : decode cX6_drift 157 = .ok (.iload 5, 2) := dq_get dX6_drift_153_t 2 rfl
theorem dX6_drift_159 : decode cX6_drift 159 = .ok (.goto 8, 3) := dq_get dX6_drift_153_t 3 rfl
theorem dX6_drift_162 : decode cX6_drift 162 = .ok (.aload_n 0, 1) := dq_get dX6_drift_153_t 4 rfl
theorem dX6_drift_163 : decode cX6_drift 163 = .ok (.iconst 0, 1) := dq_get dX6_drift_153_t 5 rfl
theorem dX6_drift_164 : decode cX6_drift 164 = .ok (.invokevirtual 172, 3) := dq_get dX6_drift_153_t 6 rfl
theorem dX6_drift_167 : decode cX6_drift 167 = .ok (.ireturn, 1) := dq_get dX6_drift_153_t 7 rfl
theorem dX6_copies_0_t : dqK cX6_copies.data.toList 0 [(0, .iconst 0, 1), (1, .istore_n 3, 1), (2, .iload_n 3, 1), (3, .bipush 85, 2), (5, .if_icmp .ge 25, 3), (8, .aload_n 0, 1), (9, .getfield 7, 3), (12, .iload_n 1, 1), (13, .iload_n 3, 1), (14, .iadd, 1), (15, .aload_n 0, 1), (16, .getfield 7, 3), (19, .iload_n 2, 1), (20, .iload_n 3, 1), (21, .iadd, 1), (22, .iaload, 1), (23, .iastore, 1), (24, .iinc 3 1, 3), (27, .goto (-25), 3), (30, .return_, 1)] = true := by decide +kernel
theorem dX6_copies_0 : decode cX6_copies 0 = .ok (.iconst 0, 1) := dq_get dX6_copies_0_t 0 rfl
theorem dX6_copies_1 : decode cX6_copies 1 = .ok (.istore_n 3, 1) := dq_get dX6_copies_0_t 1 rfl
theorem dX6_copies_2 : decode cX6_copies 2 = .ok (.iload_n 3, 1) := dq_get dX6_copies_0_t 2 rfl
theorem dX6_copies_3 : decode cX6_copies 3 = .ok (.bipush 85, 2) := dq_get dX6_copies_0_t 3 rfl
theorem dX6_copies_5 : decode cX6_copies 5 = .ok (.if_icmp .ge 25, 3) := dq_get dX6_copies_0_t 4 rfl
theorem dX6_copies_8 : decode cX6_copies 8 = .ok (.aload_n 0, 1) := dq_get dX6_copies_0_t 5 rfl
theorem dX6_copies_9 : decode cX6_copies 9 = .ok (.getfield 7, 3) := dq_get dX6_copies_0_t 6 rfl
theorem dX6_copies_12 : decode cX6_copies 12 = .ok (.iload_n 1, 1) := dq_get dX6_copies_0_t 7 rfl
theorem dX6_copies_13 : decode cX6_copies 13 = .ok (.iload_n 3, 1) := dq_get dX6_copies_0_t 8 rfl
theorem dX6_copies_14 : decode cX6_copies 14 = .ok (.iadd, 1) := dq_get dX6_copies_0_t 9 rfl
theorem dX6_copies_15 : decode cX6_copies 15 = .ok (.aload_n 0, 1) := dq_get dX6_copies_0_t 10 rfl
theorem dX6_copies_16 : decode cX6_copies 16 = .ok (.getfield 7, 3) := dq_get dX6_copies_0_t 11 rfl
theorem dX6_copies_19 : decode cX6_copies 19 = .ok (.iload_n 2, 1) := dq_get dX6_copies_0_t 12 rfl
theorem dX6_copies_20 : decode cX6_copies 20 = .ok (.iload_n 3, 1) := dq_get dX6_copies_0_t 13 rfl
theorem dX6_copies_21 : decode cX6_copies 21 = .ok (.iadd, 1) := dq_get dX6_copies_0_t 14 rfl
theorem dX6_copies_22 : decode cX6_copies 22 = .ok (.iaload, 1) := dq_get dX6_copies_0_t 15 rfl
theorem dX6_copies_23 : decode cX6_copies 23 = .ok (.iastore, 1) := dq_get dX6_copies_0_t 16 rfl
theorem dX6_copies_24 : decode cX6_copies 24 = .ok (.iinc 3 1, 3) := dq_get dX6_copies_0_t 17 rfl
theorem dX6_copies_27 : decode cX6_copies 27 = .ok (.goto (-25), 3) := dq_get dX6_copies_0_t 18 rfl
theorem dX6_copies_30 : decode cX6_copies 30 = .ok (.return_, 1) := dq_get dX6_copies_0_t 19 rfl
set_option maxRecDepth 20000 in
theorem ggX6_keep_X6_in : GoodIn wsX6_keep wsX6_in := goodIn_r _ [5] rfl (by decide +kernel)
set_option maxRecDepth 20000 in
theorem gX6_keep_X6_in : GoodIn wsX6_keep (va_wsS RX6 83 yX6_in wsX6_in) := goodIn_app (goodIn_r _ [2, 3, 4] rfl (by decide +kernel)) ggX6_keep_X6_in
set_option maxRecDepth 20000 in
theorem ggX6_keep_X6_flag : GoodIn wsX6_keep wsX6_flag := goodIn_r _ [8] rfl (by decide +kernel)
set_option maxRecDepth 20000 in
theorem gX6_keep_X6_flag : GoodIn wsX6_keep (va_wsS RX6 205 yX6_flag wsX6_flag) := goodIn_app (goodIn_r _ [6, 7, 4] rfl (by decide +kernel)) ggX6_keep_X6_flag
theorem gt_wsX6_keep_wsX60 : GoodIn wsX6_keep wsX60 := fun w hw => ⟨List.mem_cons_of_mem _ (List.mem_append_right _ hw), good_of_word (List.all_eq_true.mp gw_wsX60 w hw)⟩
set_option maxRecDepth 20000 in
theorem ggX6_keep_X6_copies : GoodIn wsX6_keep wsX6_copies := goodIn_ca (goodIn_r _ [12, 13] rfl (by decide +kernel)) gt_wsX6_keep_wsX60
set_option maxRecDepth 20000 in
theorem gX6_keep_X6_copies : GoodIn wsX6_keep (wsV RX6 259 RX6 yX6_copies wsX6_copies) := goodIn_app (goodIn_r _ [9, 10, 11, 4] rfl (by decide +kernel)) ggX6_keep_X6_copies
theorem dX6_keep_0_t : dqK cX6_keep.data.toList 0 [(0, .iload_n 1, 1), (1, .i2l, 1), (2, .lconst 0, 1), (3, .lconst 1, 1), (4, .invokestatic 83, 3), (7, .ifCond .ne 5, 3), (10, .iconst (-1), 1), (11, .ireturn, 1), (12, .aload_n 0, 1), (13, .getfield 13, 3), (16, .iload_n 1, 1), (17, .baload, 1), (18, .invokestatic 205, 3), (21, .istore_n 2, 1), (22, .aload_n 0, 1), (23, .getfield 13, 3), (26, .iload_n 1, 1), (27, .iconst 1, 1), (28, .bastore, 1), (29, .aload_n 0, 1), (30, .bipush 85, 2), (32, .iload_n 1, 1), (33, .iconst 1, 1), (34, .iadd, 1), (35, .imul, 1), (36, .iconst 0, 1), (37, .invokevirtual 259, 3), (40, .iload_n 2, 1), (41, .ireturn, 1)] = true := by decide +kernel
theorem dX6_keep_0 : decode cX6_keep 0 = .ok (.iload_n 1, 1) := dq_get dX6_keep_0_t 0 rfl
theorem dX6_keep_1 : decode cX6_keep 1 = .ok (.i2l, 1) := dq_get dX6_keep_0_t 1 rfl
theorem dX6_keep_2 : decode cX6_keep 2 = .ok (.lconst 0, 1) := dq_get dX6_keep_0_t 2 rfl
theorem dX6_keep_3 : decode cX6_keep 3 = .ok (.lconst 1, 1) := dq_get dX6_keep_0_t 3 rfl
theorem dX6_keep_4 : decode cX6_keep 4 = .ok (.invokestatic 83, 3) := dq_get dX6_keep_0_t 4 rfl
theorem dX6_keep_7 : decode cX6_keep 7 = .ok (.ifCond .ne 5, 3) := dq_get dX6_keep_0_t 5 rfl
theorem dX6_keep_10 : decode cX6_keep 10 = .ok (.iconst (-1), 1) := dq_get dX6_keep_0_t 6 rfl
theorem dX6_keep_11 : decode cX6_keep 11 = .ok (.ireturn, 1) := dq_get dX6_keep_0_t 7 rfl
theorem dX6_keep_12 : decode cX6_keep 12 = .ok (.aload_n 0, 1) := dq_get dX6_keep_0_t 8 rfl
theorem dX6_keep_13 : decode cX6_keep 13 = .ok (.getfield 13, 3) := dq_get dX6_keep_0_t 9 rfl
theorem dX6_keep_16 : decode cX6_keep 16 = .ok (.iload_n 1, 1) := dq_get dX6_keep_0_t 10 rfl
theorem dX6_keep_17 : decode cX6_keep 17 = .ok (.baload, 1) := dq_get dX6_keep_0_t 11 rfl
theorem dX6_keep_18 : decode cX6_keep 18 = .ok (.invokestatic 205, 3) := dq_get dX6_keep_0_t 12 rfl
theorem dX6_keep_21 : decode cX6_keep 21 = .ok (.istore_n 2, 1) := dq_get dX6_keep_0_t 13 rfl
theorem dX6_keep_22 : decode cX6_keep 22 = .ok (.aload_n 0, 1) := dq_get dX6_keep_0_t 14 rfl
theorem dX6_keep_23 : decode cX6_keep 23 = .ok (.getfield 13, 3) := dq_get dX6_keep_0_t 15 rfl
theorem dX6_keep_26 : decode cX6_keep 26 = .ok (.iload_n 1, 1) := dq_get dX6_keep_0_t 16 rfl
theorem dX6_keep_27 : decode cX6_keep 27 = .ok (.iconst 1, 1) := dq_get dX6_keep_0_t 17 rfl
theorem dX6_keep_28 : decode cX6_keep 28 = .ok (.bastore, 1) := dq_get dX6_keep_0_t 18 rfl
theorem dX6_keep_29 : decode cX6_keep 29 = .ok (.aload_n 0, 1) := dq_get dX6_keep_0_t 19 rfl
theorem dX6_keep_30 : decode cX6_keep 30 = .ok (.bipush 85, 2) := dq_get dX6_keep_0_t 20 rfl
theorem dX6_keep_32 : decode cX6_keep 32 = .ok (.iload_n 1, 1) := dq_get dX6_keep_0_t 21 rfl
theorem dX6_keep_33 : decode cX6_keep 33 = .ok (.iconst 1, 1) := dq_get dX6_keep_0_t 22 rfl
theorem dX6_keep_34 : decode cX6_keep 34 = .ok (.iadd, 1) := dq_get dX6_keep_0_t 23 rfl
theorem dX6_keep_35 : decode cX6_keep 35 = .ok (.imul, 1) := dq_get dX6_keep_0_t 24 rfl
theorem dX6_keep_36 : decode cX6_keep 36 = .ok (.iconst 0, 1) := dq_get dX6_keep_0_t 25 rfl
theorem dX6_keep_37 : decode cX6_keep 37 = .ok (.invokevirtual 259, 3) := dq_get dX6_keep_0_t 26 rfl
theorem dX6_keep_40 : decode cX6_keep 40 = .ok (.iload_n 2, 1) := dq_get dX6_keep_0_t 27 rfl
theorem dX6_keep_41 : decode cX6_keep 41 = .ok (.ireturn, 1) := dq_get dX6_keep_0_t 28 rfl
set_option maxRecDepth 20000 in
theorem ggX6_back_X6_in : GoodIn wsX6_back wsX6_in := goodIn_r _ [6] rfl (by decide +kernel)
set_option maxRecDepth 20000 in
theorem gX6_back_X6_in : GoodIn wsX6_back (va_wsS RX6 83 yX6_in wsX6_in) := goodIn_app (goodIn_r _ [3, 4, 5] rfl (by decide +kernel)) ggX6_back_X6_in
theorem gt_wsX6_back_wsX60 : GoodIn wsX6_back wsX60 := fun w hw => ⟨List.mem_cons_of_mem _ (List.mem_append_right _ hw), good_of_word (List.all_eq_true.mp gw_wsX60 w hw)⟩
set_option maxRecDepth 20000 in
theorem ggX6_back_X6_copies : GoodIn wsX6_back wsX6_copies := goodIn_ca (goodIn_r _ [10, 2] rfl (by decide +kernel)) gt_wsX6_back_wsX60
set_option maxRecDepth 20000 in
theorem gX6_back_X6_copies : GoodIn wsX6_back (wsV RX6 259 RX6 yX6_copies wsX6_copies) := goodIn_app (goodIn_r _ [7, 8, 9, 5] rfl (by decide +kernel)) ggX6_back_X6_copies
theorem dX6_back_0_t : dqK cX6_back.data.toList 0 [(0, .iload_n 1, 1), (1, .i2l, 1), (2, .lconst 0, 1), (3, .lconst 1, 1), (4, .invokestatic 83, 3), (7, .ifCond .ne 5, 3), (10, .iconst (-1), 1), (11, .ireturn, 1), (12, .aload_n 0, 1), (13, .getfield 13, 3), (16, .iload_n 1, 1), (17, .baload, 1), (18, .ifCond .ne 6, 3), (21, .bipush (-2), 2), (23, .ireturn, 1), (24, .aload_n 0, 1), (25, .iconst 0, 1), (26, .bipush 85, 2), (28, .iload_n 1, 1), (29, .iconst 1, 1), (30, .iadd, 1), (31, .imul, 1), (32, .invokevirtual 259, 3), (35, .aload_n 0, 1), (36, .getfield 7, 3), (39, .bipush 16, 2), (41, .iaload, 1), (42, .ireturn, 1)] = true := by decide +kernel
theorem dX6_back_0 : decode cX6_back 0 = .ok (.iload_n 1, 1) := dq_get dX6_back_0_t 0 rfl
theorem dX6_back_1 : decode cX6_back 1 = .ok (.i2l, 1) := dq_get dX6_back_0_t 1 rfl
theorem dX6_back_2 : decode cX6_back 2 = .ok (.lconst 0, 1) := dq_get dX6_back_0_t 2 rfl
theorem dX6_back_3 : decode cX6_back 3 = .ok (.lconst 1, 1) := dq_get dX6_back_0_t 3 rfl
theorem dX6_back_4 : decode cX6_back 4 = .ok (.invokestatic 83, 3) := dq_get dX6_back_0_t 4 rfl
theorem dX6_back_7 : decode cX6_back 7 = .ok (.ifCond .ne 5, 3) := dq_get dX6_back_0_t 5 rfl
theorem dX6_back_10 : decode cX6_back 10 = .ok (.iconst (-1), 1) := dq_get dX6_back_0_t 6 rfl
theorem dX6_back_11 : decode cX6_back 11 = .ok (.ireturn, 1) := dq_get dX6_back_0_t 7 rfl
theorem dX6_back_12 : decode cX6_back 12 = .ok (.aload_n 0, 1) := dq_get dX6_back_0_t 8 rfl
theorem dX6_back_13 : decode cX6_back 13 = .ok (.getfield 13, 3) := dq_get dX6_back_0_t 9 rfl
theorem dX6_back_16 : decode cX6_back 16 = .ok (.iload_n 1, 1) := dq_get dX6_back_0_t 10 rfl
theorem dX6_back_17 : decode cX6_back 17 = .ok (.baload, 1) := dq_get dX6_back_0_t 11 rfl
theorem dX6_back_18 : decode cX6_back 18 = .ok (.ifCond .ne 6, 3) := dq_get dX6_back_0_t 12 rfl
theorem dX6_back_21 : decode cX6_back 21 = .ok (.bipush (-2), 2) := dq_get dX6_back_0_t 13 rfl
theorem dX6_back_23 : decode cX6_back 23 = .ok (.ireturn, 1) := dq_get dX6_back_0_t 14 rfl
theorem dX6_back_24 : decode cX6_back 24 = .ok (.aload_n 0, 1) := dq_get dX6_back_0_t 15 rfl
theorem dX6_back_25 : decode cX6_back 25 = .ok (.iconst 0, 1) := dq_get dX6_back_0_t 16 rfl
theorem dX6_back_26 : decode cX6_back 26 = .ok (.bipush 85, 2) := dq_get dX6_back_0_t 17 rfl
theorem dX6_back_28 : decode cX6_back 28 = .ok (.iload_n 1, 1) := dq_get dX6_back_0_t 18 rfl
theorem dX6_back_29 : decode cX6_back 29 = .ok (.iconst 1, 1) := dq_get dX6_back_0_t 19 rfl
theorem dX6_back_30 : decode cX6_back 30 = .ok (.iadd, 1) := dq_get dX6_back_0_t 20 rfl
theorem dX6_back_31 : decode cX6_back 31 = .ok (.imul, 1) := dq_get dX6_back_0_t 21 rfl
theorem dX6_back_32 : decode cX6_back 32 = .ok (.invokevirtual 259, 3) := dq_get dX6_back_0_t 22 rfl
theorem dX6_back_35 : decode cX6_back 35 = .ok (.aload_n 0, 1) := dq_get dX6_back_0_t 23 rfl
theorem dX6_back_36 : decode cX6_back 36 = .ok (.getfield 7, 3) := dq_get dX6_back_0_t 24 rfl
theorem dX6_back_39 : decode cX6_back 39 = .ok (.bipush 16, 2) := dq_get dX6_back_0_t 25 rfl
theorem dX6_back_41 : decode cX6_back 41 = .ok (.iaload, 1) := dq_get dX6_back_0_t 26 rfl
theorem dX6_back_42 : decode cX6_back 42 = .ok (.ireturn, 1) := dq_get dX6_back_0_t 27 rfl
set_option maxRecDepth 20000 in
theorem ggX6_isSheet_X6_in : GoodIn wsX6_isSheet wsX6_in := goodIn_r _ [6] rfl (by decide +kernel)
set_option maxRecDepth 20000 in
theorem gX6_isSheet_X6_in : GoodIn wsX6_isSheet (va_wsS RX6 83 yX6_in wsX6_in) := goodIn_app (goodIn_r _ [3, 4, 5] rfl (by decide +kernel)) ggX6_isSheet_X6_in
theorem dX6_isSheet_0_t : dqK cX6_isSheet.data.toList 0 [(0, .iload_n 0, 1), (1, .i2l, 1), (2, .lconst 0, 1), (3, .ldc2_w 263, 3), (6, .invokestatic 83, 3), (9, .ifCond .eq 19, 3), (12, .iload_n 1, 1), (13, .i2l, 1), (14, .lconst 0, 1), (15, .ldc2_w 185, 3), (18, .invokestatic 83, 3), (21, .ifCond .eq 7, 3), (24, .iconst 1, 1), (25, .goto 4, 3), (28, .iconst 0, 1), (29, .ireturn, 1)] = true := by decide +kernel
theorem dX6_isSheet_0 : decode cX6_isSheet 0 = .ok (.iload_n 0, 1) := dq_get dX6_isSheet_0_t 0 rfl
theorem dX6_isSheet_1 : decode cX6_isSheet 1 = .ok (.i2l, 1) := dq_get dX6_isSheet_0_t 1 rfl
theorem dX6_isSheet_2 : decode cX6_isSheet 2 = .ok (.lconst 0, 1) := dq_get dX6_isSheet_0_t 2 rfl
theorem dX6_isSheet_3 : decode cX6_isSheet 3 = .ok (.ldc2_w 263, 3) := dq_get dX6_isSheet_0_t 3 rfl
theorem dX6_isSheet_6 : decode cX6_isSheet 6 = .ok (.invokestatic 83, 3) := dq_get dX6_isSheet_0_t 4 rfl
theorem dX6_isSheet_9 : decode cX6_isSheet 9 = .ok (.ifCond .eq 19, 3) := dq_get dX6_isSheet_0_t 5 rfl
theorem dX6_isSheet_12 : decode cX6_isSheet 12 = .ok (.iload_n 1, 1) := dq_get dX6_isSheet_0_t 6 rfl
theorem dX6_isSheet_13 : decode cX6_isSheet 13 = .ok (.i2l, 1) := dq_get dX6_isSheet_0_t 7 rfl
theorem dX6_isSheet_14 : decode cX6_isSheet 14 = .ok (.lconst 0, 1) := dq_get dX6_isSheet_0_t 8 rfl
theorem dX6_isSheet_15 : decode cX6_isSheet 15 = .ok (.ldc2_w 185, 3) := dq_get dX6_isSheet_0_t 9 rfl
theorem dX6_isSheet_18 : decode cX6_isSheet 18 = .ok (.invokestatic 83, 3) := dq_get dX6_isSheet_0_t 10 rfl
theorem dX6_isSheet_21 : decode cX6_isSheet 21 = .ok (.ifCond .eq 7, 3) := dq_get dX6_isSheet_0_t 11 rfl
theorem dX6_isSheet_24 : decode cX6_isSheet 24 = .ok (.iconst 1, 1) := dq_get dX6_isSheet_0_t 12 rfl
theorem dX6_isSheet_25 : decode cX6_isSheet 25 = .ok (.goto 4, 3) := dq_get dX6_isSheet_0_t 13 rfl
theorem dX6_isSheet_28 : decode cX6_isSheet 28 = .ok (.iconst 0, 1) := dq_get dX6_isSheet_0_t 14 rfl
theorem dX6_isSheet_29 : decode cX6_isSheet 29 = .ok (.ireturn, 1) := dq_get dX6_isSheet_0_t 15 rfl
set_option maxRecDepth 20000 in
theorem ggX6_sheet_X6_isSheet : GoodIn wsX6_sheet wsX6_isSheet := goodIn_r _ [7, 8, 9, 10, 11, 6, 12] rfl (by decide +kernel)
set_option maxRecDepth 20000 in
theorem gX6_sheet_X6_isSheet : GoodIn wsX6_sheet (va_wsS RX6 265 yX6_isSheet wsX6_isSheet) := goodIn_app (goodIn_r _ [4, 5, 6] rfl (by decide +kernel)) ggX6_sheet_X6_isSheet
theorem dX6_sheet_0_t : dqK cX6_sheet.data.toList 0 [(0, .iload_n 1, 1), (1, .iload_n 2, 1), (2, .invokestatic 265, 3), (5, .ifCond .eq 9, 3), (8, .iload_n 3, 1), (9, .bipush 40, 2), (11, .if_icmp .le 5, 3), (14, .iconst (-1), 1), (15, .ireturn, 1), (16, .iload_n 3, 1), (17, .ifCond .ge 6, 3), (20, .bipush (-14), 2), (22, .ireturn, 1), (23, .aload_n 0, 1), (24, .getfield 35, 3), (27, .iload_n 1, 1), (28, .iload_n 2, 1), (29, .iastore, 1), (30, .aload_n 0, 1), (31, .getfield 38, 3), (34, .iload_n 1, 1), (35, .iload_n 3, 1), (36, .iastore, 1), (37, .iconst 0, 1), (38, .istore 4, 2), (40, .iload 4, 2), (42, .bipush 40, 2), (44, .if_icmp .ge 22, 3), (47, .aload_n 0, 1), (48, .getfield 41, 3), (51, .bipush 40, 2), (53, .iload_n 1, 1), (54, .imul, 1), (55, .iload 4, 2), (57, .iadd, 1), (58, .iconst 0, 1), (59, .iastore, 1), (60, .iinc 4 1, 3), (63, .goto (-23), 3), (66, .iconst 1, 1)] = true := by decide +kernel
theorem dX6_sheet_0 : decode cX6_sheet 0 = .ok (.iload_n 1, 1) := dq_get dX6_sheet_0_t 0 rfl
theorem dX6_sheet_1 : decode cX6_sheet 1 = .ok (.iload_n 2, 1) := dq_get dX6_sheet_0_t 1 rfl
theorem dX6_sheet_2 : decode cX6_sheet 2 = .ok (.invokestatic 265, 3) := dq_get dX6_sheet_0_t 2 rfl
theorem dX6_sheet_5 : decode cX6_sheet 5 = .ok (.ifCond .eq 9, 3) := dq_get dX6_sheet_0_t 3 rfl
theorem dX6_sheet_8 : decode cX6_sheet 8 = .ok (.iload_n 3, 1) := dq_get dX6_sheet_0_t 4 rfl
theorem dX6_sheet_9 : decode cX6_sheet 9 = .ok (.bipush 40, 2) := dq_get dX6_sheet_0_t 5 rfl
theorem dX6_sheet_11 : decode cX6_sheet 11 = .ok (.if_icmp .le 5, 3) := dq_get dX6_sheet_0_t 6 rfl
theorem dX6_sheet_14 : decode cX6_sheet 14 = .ok (.iconst (-1), 1) := dq_get dX6_sheet_0_t 7 rfl
theorem dX6_sheet_15 : decode cX6_sheet 15 = .ok (.ireturn, 1) := dq_get dX6_sheet_0_t 8 rfl
theorem dX6_sheet_16 : decode cX6_sheet 16 = .ok (.iload_n 3, 1) := dq_get dX6_sheet_0_t 9 rfl
theorem dX6_sheet_17 : decode cX6_sheet 17 = .ok (.ifCond .ge 6, 3) := dq_get dX6_sheet_0_t 10 rfl
theorem dX6_sheet_20 : decode cX6_sheet 20 = .ok (.bipush (-14), 2) := dq_get dX6_sheet_0_t 11 rfl
theorem dX6_sheet_22 : decode cX6_sheet 22 = .ok (.ireturn, 1) := dq_get dX6_sheet_0_t 12 rfl
theorem dX6_sheet_23 : decode cX6_sheet 23 = .ok (.aload_n 0, 1) := dq_get dX6_sheet_0_t 13 rfl
theorem dX6_sheet_24 : decode cX6_sheet 24 = .ok (.getfield 35, 3) := dq_get dX6_sheet_0_t 14 rfl
theorem dX6_sheet_27 : decode cX6_sheet 27 = .ok (.iload_n 1, 1) := dq_get dX6_sheet_0_t 15 rfl
theorem dX6_sheet_28 : decode cX6_sheet 28 = .ok (.iload_n 2, 1) := dq_get dX6_sheet_0_t 16 rfl
theorem dX6_sheet_29 : decode cX6_sheet 29 = .ok (.iastore, 1) := dq_get dX6_sheet_0_t 17 rfl
theorem dX6_sheet_30 : decode cX6_sheet 30 = .ok (.aload_n 0, 1) := dq_get dX6_sheet_0_t 18 rfl
theorem dX6_sheet_31 : decode cX6_sheet 31 = .ok (.getfield 38, 3) := dq_get dX6_sheet_0_t 19 rfl
theorem dX6_sheet_34 : decode cX6_sheet 34 = .ok (.iload_n 1, 1) := dq_get dX6_sheet_0_t 20 rfl
theorem dX6_sheet_35 : decode cX6_sheet 35 = .ok (.iload_n 3, 1) := dq_get dX6_sheet_0_t 21 rfl
theorem dX6_sheet_36 : decode cX6_sheet 36 = .ok (.iastore, 1) := dq_get dX6_sheet_0_t 22 rfl
theorem dX6_sheet_37 : decode cX6_sheet 37 = .ok (.iconst 0, 1) := dq_get dX6_sheet_0_t 23 rfl
theorem dX6_sheet_38 : decode cX6_sheet 38 = .ok (.istore 4, 2) := dq_get dX6_sheet_0_t 24 rfl
theorem dX6_sheet_40 : decode cX6_sheet 40 = .ok (.iload 4, 2) := dq_get dX6_sheet_0_t 25 rfl
theorem dX6_sheet_42 : decode cX6_sheet 42 = .ok (.bipush 40, 2) := dq_get dX6_sheet_0_t 26 rfl
theorem dX6_sheet_44 : decode cX6_sheet 44 = .ok (.if_icmp .ge 22, 3) := dq_get dX6_sheet_0_t 27 rfl
theorem dX6_sheet_47 : decode cX6_sheet 47 = .ok (.aload_n 0, 1) := dq_get dX6_sheet_0_t 28 rfl
theorem dX6_sheet_48 : decode cX6_sheet 48 = .ok (.getfield 41, 3) := dq_get dX6_sheet_0_t 29 rfl
theorem dX6_sheet_51 : decode cX6_sheet 51 = .ok (.bipush 40, 2) := dq_get dX6_sheet_0_t 30 rfl
theorem dX6_sheet_53 : decode cX6_sheet 53 = .ok (.iload_n 1, 1) := dq_get dX6_sheet_0_t 31 rfl
theorem dX6_sheet_54 : decode cX6_sheet 54 = .ok (.imul, 1) := dq_get dX6_sheet_0_t 32 rfl
theorem dX6_sheet_55 : decode cX6_sheet 55 = .ok (.iload 4, 2) := dq_get dX6_sheet_0_t 33 rfl
theorem dX6_sheet_57 : decode cX6_sheet 57 = .ok (.iadd, 1) := dq_get dX6_sheet_0_t 34 rfl
theorem dX6_sheet_58 : decode cX6_sheet 58 = .ok (.iconst 0, 1) := dq_get dX6_sheet_0_t 35 rfl
theorem dX6_sheet_59 : decode cX6_sheet 59 = .ok (.iastore, 1) := dq_get dX6_sheet_0_t 36 rfl
theorem dX6_sheet_60 : decode cX6_sheet 60 = .ok (.iinc 4 1, 3) := dq_get dX6_sheet_0_t 37 rfl
theorem dX6_sheet_63 : decode cX6_sheet 63 = .ok (.goto (-23), 3) := dq_get dX6_sheet_0_t 38 rfl
theorem dX6_sheet_66 : decode cX6_sheet 66 = .ok (.iconst 1, 1) := dq_get dX6_sheet_0_t 39 rfl
theorem dX6_sheet_67 : decode cX6_sheet 67 = .ok (.ireturn, 1) := by decide +kernel
set_option maxRecDepth 20000 in
theorem ggX6_lay_X6_isSheet : GoodIn wsX6_lay wsX6_isSheet := goodIn_r _ [7, 8, 9, 10, 11, 6, 12] rfl (by decide +kernel)
set_option maxRecDepth 20000 in
theorem gX6_lay_X6_isSheet : GoodIn wsX6_lay (va_wsS RX6 265 yX6_isSheet wsX6_isSheet) := goodIn_app (goodIn_r _ [4, 5, 6] rfl (by decide +kernel)) ggX6_lay_X6_isSheet
set_option maxRecDepth 20000 in
theorem ggX6_lay_X6_in : GoodIn wsX6_lay wsX6_in := goodIn_r _ [12] rfl (by decide +kernel)
set_option maxRecDepth 20000 in
theorem gX6_lay_X6_in : GoodIn wsX6_lay (va_wsS RX6 83 yX6_in wsX6_in) := goodIn_app (goodIn_r _ [10, 11, 6] rfl (by decide +kernel)) ggX6_lay_X6_in
theorem dX6_lay_0_t : dqK cX6_lay.data.toList 0 [(0, .iload_n 1, 1), (1, .iconst 0, 1), (2, .invokestatic 265, 3), (5, .ifCond .ne 5, 3), (8, .iconst (-1), 1), (9, .ireturn, 1), (10, .aload_n 0, 1), (11, .getfield 35, 3), (14, .iload_n 1, 1), (15, .iaload, 1), (16, .bipush (-4), 2), (18, .if_icmp .ne 6, 3), (21, .bipush (-11), 2), (23, .ireturn, 1), (24, .iload_n 2, 1), (25, .i2l, 1), (26, .lconst 0, 1), (27, .aload_n 0, 1), (28, .getfield 38, 3), (31, .iload_n 1, 1), (32, .iaload, 1), (33, .iconst 1, 1), (34, .isub, 1), (35, .i2l, 1), (36, .invokestatic 83, 3), (39, .ifCond .ne 6, 3), (42, .bipush (-12), 2), (44, .ireturn, 1), (45, .aload_n 0, 1), (46, .getfield 41, 3), (49, .bipush 40, 2), (51, .iload_n 1, 1), (52, .imul, 1), (53, .iload_n 2, 1), (54, .iadd, 1), (55, .aload_n 0, 1), (56, .getfield 35, 3), (59, .iload_n 1, 1), (60, .iaload, 1), (61, .ifCond .ne 8, 3)] = true := by decide +kernel
theorem dX6_lay_0 : decode cX6_lay 0 = .ok (.iload_n 1, 1) := dq_get dX6_lay_0_t 0 rfl
theorem dX6_lay_1 : decode cX6_lay 1 = .ok (.iconst 0, 1) := dq_get dX6_lay_0_t 1 rfl
theorem dX6_lay_2 : decode cX6_lay 2 = .ok (.invokestatic 265, 3) := dq_get dX6_lay_0_t 2 rfl
theorem dX6_lay_5 : decode cX6_lay 5 = .ok (.ifCond .ne 5, 3) := dq_get dX6_lay_0_t 3 rfl
theorem dX6_lay_8 : decode cX6_lay 8 = .ok (.iconst (-1), 1) := dq_get dX6_lay_0_t 4 rfl
theorem dX6_lay_9 : decode cX6_lay 9 = .ok (.ireturn, 1) := dq_get dX6_lay_0_t 5 rfl
theorem dX6_lay_10 : decode cX6_lay 10 = .ok (.aload_n 0, 1) := dq_get dX6_lay_0_t 6 rfl
theorem dX6_lay_11 : decode cX6_lay 11 = .ok (.getfield 35, 3) := dq_get dX6_lay_0_t 7 rfl
theorem dX6_lay_14 : decode cX6_lay 14 = .ok (.iload_n 1, 1) := dq_get dX6_lay_0_t 8 rfl
theorem dX6_lay_15 : decode cX6_lay 15 = .ok (.iaload, 1) := dq_get dX6_lay_0_t 9 rfl
theorem dX6_lay_16 : decode cX6_lay 16 = .ok (.bipush (-4), 2) := dq_get dX6_lay_0_t 10 rfl
theorem dX6_lay_18 : decode cX6_lay 18 = .ok (.if_icmp .ne 6, 3) := dq_get dX6_lay_0_t 11 rfl
theorem dX6_lay_21 : decode cX6_lay 21 = .ok (.bipush (-11), 2) := dq_get dX6_lay_0_t 12 rfl
theorem dX6_lay_23 : decode cX6_lay 23 = .ok (.ireturn, 1) := dq_get dX6_lay_0_t 13 rfl
theorem dX6_lay_24 : decode cX6_lay 24 = .ok (.iload_n 2, 1) := dq_get dX6_lay_0_t 14 rfl
theorem dX6_lay_25 : decode cX6_lay 25 = .ok (.i2l, 1) := dq_get dX6_lay_0_t 15 rfl
theorem dX6_lay_26 : decode cX6_lay 26 = .ok (.lconst 0, 1) := dq_get dX6_lay_0_t 16 rfl
theorem dX6_lay_27 : decode cX6_lay 27 = .ok (.aload_n 0, 1) := dq_get dX6_lay_0_t 17 rfl
theorem dX6_lay_28 : decode cX6_lay 28 = .ok (.getfield 38, 3) := dq_get dX6_lay_0_t 18 rfl
theorem dX6_lay_31 : decode cX6_lay 31 = .ok (.iload_n 1, 1) := dq_get dX6_lay_0_t 19 rfl
theorem dX6_lay_32 : decode cX6_lay 32 = .ok (.iaload, 1) := dq_get dX6_lay_0_t 20 rfl
theorem dX6_lay_33 : decode cX6_lay 33 = .ok (.iconst 1, 1) := dq_get dX6_lay_0_t 21 rfl
theorem dX6_lay_34 : decode cX6_lay 34 = .ok (.isub, 1) := dq_get dX6_lay_0_t 22 rfl
theorem dX6_lay_35 : decode cX6_lay 35 = .ok (.i2l, 1) := dq_get dX6_lay_0_t 23 rfl
theorem dX6_lay_36 : decode cX6_lay 36 = .ok (.invokestatic 83, 3) := dq_get dX6_lay_0_t 24 rfl
theorem dX6_lay_39 : decode cX6_lay 39 = .ok (.ifCond .ne 6, 3) := dq_get dX6_lay_0_t 25 rfl
theorem dX6_lay_42 : decode cX6_lay 42 = .ok (.bipush (-12), 2) := dq_get dX6_lay_0_t 26 rfl
theorem dX6_lay_44 : decode cX6_lay 44 = .ok (.ireturn, 1) := dq_get dX6_lay_0_t 27 rfl
theorem dX6_lay_45 : decode cX6_lay 45 = .ok (.aload_n 0, 1) := dq_get dX6_lay_0_t 28 rfl
theorem dX6_lay_46 : decode cX6_lay 46 = .ok (.getfield 41, 3) := dq_get dX6_lay_0_t 29 rfl
theorem dX6_lay_49 : decode cX6_lay 49 = .ok (.bipush 40, 2) := dq_get dX6_lay_0_t 30 rfl
theorem dX6_lay_51 : decode cX6_lay 51 = .ok (.iload_n 1, 1) := dq_get dX6_lay_0_t 31 rfl
theorem dX6_lay_52 : decode cX6_lay 52 = .ok (.imul, 1) := dq_get dX6_lay_0_t 32 rfl
theorem dX6_lay_53 : decode cX6_lay 53 = .ok (.iload_n 2, 1) := dq_get dX6_lay_0_t 33 rfl
theorem dX6_lay_54 : decode cX6_lay 54 = .ok (.iadd, 1) := dq_get dX6_lay_0_t 34 rfl
theorem dX6_lay_55 : decode cX6_lay 55 = .ok (.aload_n 0, 1) := dq_get dX6_lay_0_t 35 rfl
theorem dX6_lay_56 : decode cX6_lay 56 = .ok (.getfield 35, 3) := dq_get dX6_lay_0_t 36 rfl
theorem dX6_lay_59 : decode cX6_lay 59 = .ok (.iload_n 1, 1) := dq_get dX6_lay_0_t 37 rfl
theorem dX6_lay_60 : decode cX6_lay 60 = .ok (.iaload, 1) := dq_get dX6_lay_0_t 38 rfl
theorem dX6_lay_61 : decode cX6_lay 61 = .ok (.ifCond .ne 8, 3) := dq_get dX6_lay_0_t 39 rfl
theorem dX6_lay_64_t : dqK cX6_lay.data.toList 0 [(64, .iload_n 3, 1), (65, .i2b, 1), (66, .goto 19, 3), (69, .aload_n 0, 1), (70, .getfield 35, 3), (73, .iload_n 1, 1), (74, .iaload, 1), (75, .iconst 1, 1), (76, .if_icmp .ne 8, 3), (79, .iload_n 3, 1), (80, .i2s, 1), (81, .goto 4, 3), (84, .iload_n 3, 1), (85, .iastore, 1), (86, .iconst 1, 1), (87, .ireturn, 1)] = true := by decide +kernel
theorem dX6_lay_64 : decode cX6_lay 64 = .ok (.iload_n 3, 1) := dq_get dX6_lay_64_t 0 rfl
theorem dX6_lay_65 : decode cX6_lay 65 = .ok (.i2b, 1) := dq_get dX6_lay_64_t 1 rfl
theorem dX6_lay_66 : decode cX6_lay 66 = .ok (.goto 19, 3) := dq_get dX6_lay_64_t 2 rfl
theorem dX6_lay_69 : decode cX6_lay 69 = .ok (.aload_n 0, 1) := dq_get dX6_lay_64_t 3 rfl
theorem dX6_lay_70 : decode cX6_lay 70 = .ok (.getfield 35, 3) := dq_get dX6_lay_64_t 4 rfl
theorem dX6_lay_73 : decode cX6_lay 73 = .ok (.iload_n 1, 1) := dq_get dX6_lay_64_t 5 rfl
theorem dX6_lay_74 : decode cX6_lay 74 = .ok (.iaload, 1) := dq_get dX6_lay_64_t 6 rfl
theorem dX6_lay_75 : decode cX6_lay 75 = .ok (.iconst 1, 1) := dq_get dX6_lay_64_t 7 rfl
theorem dX6_lay_76 : decode cX6_lay 76 = .ok (.if_icmp .ne 8, 3) := dq_get dX6_lay_64_t 8 rfl
theorem dX6_lay_79 : decode cX6_lay 79 = .ok (.iload_n 3, 1) := dq_get dX6_lay_64_t 9 rfl
theorem dX6_lay_80 : decode cX6_lay 80 = .ok (.i2s, 1) := dq_get dX6_lay_64_t 10 rfl
theorem dX6_lay_81 : decode cX6_lay 81 = .ok (.goto 4, 3) := dq_get dX6_lay_64_t 11 rfl
theorem dX6_lay_84 : decode cX6_lay 84 = .ok (.iload_n 3, 1) := dq_get dX6_lay_64_t 12 rfl
theorem dX6_lay_85 : decode cX6_lay 85 = .ok (.iastore, 1) := dq_get dX6_lay_64_t 13 rfl
theorem dX6_lay_86 : decode cX6_lay 86 = .ok (.iconst 1, 1) := dq_get dX6_lay_64_t 14 rfl
theorem dX6_lay_87 : decode cX6_lay 87 = .ok (.ireturn, 1) := dq_get dX6_lay_64_t 15 rfl
set_option maxRecDepth 20000 in
theorem ggX6_read_X6_isSheet : GoodIn wsX6_read wsX6_isSheet := goodIn_r _ [10, 11, 12, 13, 14, 9, 15] rfl (by decide +kernel)
set_option maxRecDepth 20000 in
theorem gX6_read_X6_isSheet : GoodIn wsX6_read (va_wsS RX6 265 yX6_isSheet wsX6_isSheet) := goodIn_app (goodIn_r _ [7, 8, 9] rfl (by decide +kernel)) ggX6_read_X6_isSheet
set_option maxRecDepth 20000 in
theorem ggX6_read_X6_in : GoodIn wsX6_read wsX6_in := goodIn_r _ [15] rfl (by decide +kernel)
set_option maxRecDepth 20000 in
theorem gX6_read_X6_in : GoodIn wsX6_read (va_wsS RX6 83 yX6_in wsX6_in) := goodIn_app (goodIn_r _ [13, 14, 9] rfl (by decide +kernel)) ggX6_read_X6_in
theorem gt_wsX6_read_wsX60 : GoodIn wsX6_read wsX60 := fun w hw => ⟨List.mem_cons_of_mem _ (List.mem_append_right _ hw), good_of_word (List.all_eq_true.mp gw_wsX60 w hw)⟩
set_option maxRecDepth 20000 in
theorem ggX6_read_X6_turn : GoodIn wsX6_read wsX6_turn := goodIn_ca (goodIn_r _ [19, 2, 20, 21, 22, 9, 23, 24, 13, 14, 15, 25, 26, 27, 28, 29, 30, 31, 32, 33, 34, 35, 36, 37, 38] rfl (by decide +kernel)) gt_wsX6_read_wsX60
set_option maxRecDepth 20000 in
theorem gX6_read_X6_turn : GoodIn wsX6_read (wsV RX6 271 RX6 yX6_turn wsX6_turn) := goodIn_app (goodIn_r _ [16, 17, 18, 9] rfl (by decide +kernel)) ggX6_read_X6_turn
theorem dX6_read_0_t : dqK cX6_read.data.toList 0 [(0, .iload_n 1, 1), (1, .iload_n 2, 1), (2, .invokestatic 265, 3), (5, .ifCond .eq 16, 3), (8, .iload 4, 2), (10, .i2l, 1), (11, .lconst 0, 1), (12, .ldc2_w 269, 3), (15, .invokestatic 83, 3), (18, .ifCond .ne 5, 3), (21, .iconst (-1), 1), (22, .ireturn, 1), (23, .aload_n 0, 1), (24, .getfield 7, 3), (27, .bipush 16, 2), (29, .iaload, 1), (30, .istore 5, 2), (32, .iconst 0, 1), (33, .istore 6, 2), (35, .iconst 0, 1), (36, .istore 7, 2), (38, .iconst 0, 1), (39, .istore 8, 2), (41, .iload 8, 2), (43, .iload 4, 2), (45, .if_icmp .ge 172, 3), (48, .iload 6, 2), (50, .ifCond .ne 167, 3), (53, .iconst 0, 1), (54, .istore 9, 2), (56, .iload 9, 2), (58, .iconst 3, 1), (59, .if_icmp .ge 84, 3), (62, .iload 6, 2), (64, .ifCond .ne 79, 3), (67, .iload_n 3, 1), (68, .i2l, 1), (69, .iconst 3, 1), (70, .iload 8, 2), (72, .imul, 1)] = true := by decide +kernel
theorem dX6_read_0 : decode cX6_read 0 = .ok (.iload_n 1, 1) := dq_get dX6_read_0_t 0 rfl
theorem dX6_read_1 : decode cX6_read 1 = .ok (.iload_n 2, 1) := dq_get dX6_read_0_t 1 rfl
theorem dX6_read_2 : decode cX6_read 2 = .ok (.invokestatic 265, 3) := dq_get dX6_read_0_t 2 rfl
theorem dX6_read_5 : decode cX6_read 5 = .ok (.ifCond .eq 16, 3) := dq_get dX6_read_0_t 3 rfl
theorem dX6_read_8 : decode cX6_read 8 = .ok (.iload 4, 2) := dq_get dX6_read_0_t 4 rfl
theorem dX6_read_10 : decode cX6_read 10 = .ok (.i2l, 1) := dq_get dX6_read_0_t 5 rfl
theorem dX6_read_11 : decode cX6_read 11 = .ok (.lconst 0, 1) := dq_get dX6_read_0_t 6 rfl
theorem dX6_read_12 : decode cX6_read 12 = .ok (.ldc2_w 269, 3) := dq_get dX6_read_0_t 7 rfl
theorem dX6_read_15 : decode cX6_read 15 = .ok (.invokestatic 83, 3) := dq_get dX6_read_0_t 8 rfl
theorem dX6_read_18 : decode cX6_read 18 = .ok (.ifCond .ne 5, 3) := dq_get dX6_read_0_t 9 rfl
theorem dX6_read_21 : decode cX6_read 21 = .ok (.iconst (-1), 1) := dq_get dX6_read_0_t 10 rfl
theorem dX6_read_22 : decode cX6_read 22 = .ok (.ireturn, 1) := dq_get dX6_read_0_t 11 rfl
theorem dX6_read_23 : decode cX6_read 23 = .ok (.aload_n 0, 1) := dq_get dX6_read_0_t 12 rfl
theorem dX6_read_24 : decode cX6_read 24 = .ok (.getfield 7, 3) := dq_get dX6_read_0_t 13 rfl
theorem dX6_read_27 : decode cX6_read 27 = .ok (.bipush 16, 2) := dq_get dX6_read_0_t 14 rfl
theorem dX6_read_29 : decode cX6_read 29 = .ok (.iaload, 1) := dq_get dX6_read_0_t 15 rfl
theorem dX6_read_30 : decode cX6_read 30 = .ok (.istore 5, 2) := dq_get dX6_read_0_t 16 rfl
theorem dX6_read_32 : decode cX6_read 32 = .ok (.iconst 0, 1) := dq_get dX6_read_0_t 17 rfl
theorem dX6_read_33 : decode cX6_read 33 = .ok (.istore 6, 2) := dq_get dX6_read_0_t 18 rfl
theorem dX6_read_35 : decode cX6_read 35 = .ok (.iconst 0, 1) := dq_get dX6_read_0_t 19 rfl
theorem dX6_read_36 : decode cX6_read 36 = .ok (.istore 7, 2) := dq_get dX6_read_0_t 20 rfl
theorem dX6_read_38 : decode cX6_read 38 = .ok (.iconst 0, 1) := dq_get dX6_read_0_t 21 rfl
theorem dX6_read_39 : decode cX6_read 39 = .ok (.istore 8, 2) := dq_get dX6_read_0_t 22 rfl
theorem dX6_read_41 : decode cX6_read 41 = .ok (.iload 8, 2) := dq_get dX6_read_0_t 23 rfl
theorem dX6_read_43 : decode cX6_read 43 = .ok (.iload 4, 2) := dq_get dX6_read_0_t 24 rfl
theorem dX6_read_45 : decode cX6_read 45 = .ok (.if_icmp .ge 172, 3) := dq_get dX6_read_0_t 25 rfl
theorem dX6_read_48 : decode cX6_read 48 = .ok (.iload 6, 2) := dq_get dX6_read_0_t 26 rfl
theorem dX6_read_50 : decode cX6_read 50 = .ok (.ifCond .ne 167, 3) := dq_get dX6_read_0_t 27 rfl
theorem dX6_read_53 : decode cX6_read 53 = .ok (.iconst 0, 1) := dq_get dX6_read_0_t 28 rfl
theorem dX6_read_54 : decode cX6_read 54 = .ok (.istore 9, 2) := dq_get dX6_read_0_t 29 rfl
theorem dX6_read_56 : decode cX6_read 56 = .ok (.iload 9, 2) := dq_get dX6_read_0_t 30 rfl
theorem dX6_read_58 : decode cX6_read 58 = .ok (.iconst 3, 1) := dq_get dX6_read_0_t 31 rfl
theorem dX6_read_59 : decode cX6_read 59 = .ok (.if_icmp .ge 84, 3) := dq_get dX6_read_0_t 32 rfl
theorem dX6_read_62 : decode cX6_read 62 = .ok (.iload 6, 2) := dq_get dX6_read_0_t 33 rfl
theorem dX6_read_64 : decode cX6_read 64 = .ok (.ifCond .ne 79, 3) := dq_get dX6_read_0_t 34 rfl
theorem dX6_read_67 : decode cX6_read 67 = .ok (.iload_n 3, 1) := dq_get dX6_read_0_t 35 rfl
theorem dX6_read_68 : decode cX6_read 68 = .ok (.i2l, 1) := dq_get dX6_read_0_t 36 rfl
theorem dX6_read_69 : decode cX6_read 69 = .ok (.iconst 3, 1) := dq_get dX6_read_0_t 37 rfl
theorem dX6_read_70 : decode cX6_read 70 = .ok (.iload 8, 2) := dq_get dX6_read_0_t 38 rfl
theorem dX6_read_72 : decode cX6_read 72 = .ok (.imul, 1) := dq_get dX6_read_0_t 39 rfl
theorem dX6_read_73_t : dqK cX6_read.data.toList 0 [(73, .i2l, 1), (74, .ladd, 1), (75, .iload 9, 2), (77, .i2l, 1), (78, .ladd, 1), (79, .lstore 10, 2), (81, .aload_n 0, 1), (82, .getfield 35, 3), (85, .iload_n 1, 1), (86, .iaload, 1), (87, .bipush (-4), 2), (89, .if_icmp .ne 7, 3), (92, .iconst 1, 1), (93, .goto 42, 3), (96, .aload_n 0, 1), (97, .getfield 35, 3), (100, .iload_n 1, 1), (101, .iaload, 1), (102, .iload_n 2, 1), (103, .if_icmp .eq 7, 3), (106, .iconst 3, 1), (107, .goto 28, 3), (110, .lload 10, 2), (112, .lconst 0, 1), (113, .lcmp, 1), (114, .ifCond .lt 16, 3), (117, .lload 10, 2), (119, .aload_n 0, 1), (120, .getfield 38, 3), (123, .iload_n 1, 1), (124, .iaload, 1), (125, .i2l, 1), (126, .lcmp, 1), (127, .ifCond .lt 7, 3), (130, .iconst 2, 1), (131, .goto 4, 3), (134, .iconst 0, 1), (135, .istore 6, 2), (137, .iinc 9 1, 3), (140, .goto (-84), 3)] = true := by decide +kernel
theorem dX6_read_73 : decode cX6_read 73 = .ok (.i2l, 1) := dq_get dX6_read_73_t 0 rfl
theorem dX6_read_74 : decode cX6_read 74 = .ok (.ladd, 1) := dq_get dX6_read_73_t 1 rfl
theorem dX6_read_75 : decode cX6_read 75 = .ok (.iload 9, 2) := dq_get dX6_read_73_t 2 rfl
theorem dX6_read_77 : decode cX6_read 77 = .ok (.i2l, 1) := dq_get dX6_read_73_t 3 rfl
theorem dX6_read_78 : decode cX6_read 78 = .ok (.ladd, 1) := dq_get dX6_read_73_t 4 rfl
theorem dX6_read_79 : decode cX6_read 79 = .ok (.lstore 10, 2) := dq_get dX6_read_73_t 5 rfl
theorem dX6_read_81 : decode cX6_read 81 = .ok (.aload_n 0, 1) := dq_get dX6_read_73_t 6 rfl
theorem dX6_read_82 : decode cX6_read 82 = .ok (.getfield 35, 3) := dq_get dX6_read_73_t 7 rfl
theorem dX6_read_85 : decode cX6_read 85 = .ok (.iload_n 1, 1) := dq_get dX6_read_73_t 8 rfl
theorem dX6_read_86 : decode cX6_read 86 = .ok (.iaload, 1) := dq_get dX6_read_73_t 9 rfl
theorem dX6_read_87 : decode cX6_read 87 = .ok (.bipush (-4), 2) := dq_get dX6_read_73_t 10 rfl
theorem dX6_read_89 : decode cX6_read 89 = .ok (.if_icmp .ne 7, 3) := dq_get dX6_read_73_t 11 rfl
theorem dX6_read_92 : decode cX6_read 92 = .ok (.iconst 1, 1) := dq_get dX6_read_73_t 12 rfl
theorem dX6_read_93 : decode cX6_read 93 = .ok (.goto 42, 3) := dq_get dX6_read_73_t 13 rfl
theorem dX6_read_96 : decode cX6_read 96 = .ok (.aload_n 0, 1) := dq_get dX6_read_73_t 14 rfl
theorem dX6_read_97 : decode cX6_read 97 = .ok (.getfield 35, 3) := dq_get dX6_read_73_t 15 rfl
theorem dX6_read_100 : decode cX6_read 100 = .ok (.iload_n 1, 1) := dq_get dX6_read_73_t 16 rfl
theorem dX6_read_101 : decode cX6_read 101 = .ok (.iaload, 1) := dq_get dX6_read_73_t 17 rfl
theorem dX6_read_102 : decode cX6_read 102 = .ok (.iload_n 2, 1) := dq_get dX6_read_73_t 18 rfl
theorem dX6_read_103 : decode cX6_read 103 = .ok (.if_icmp .eq 7, 3) := dq_get dX6_read_73_t 19 rfl
theorem dX6_read_106 : decode cX6_read 106 = .ok (.iconst 3, 1) := dq_get dX6_read_73_t 20 rfl
theorem dX6_read_107 : decode cX6_read 107 = .ok (.goto 28, 3) := dq_get dX6_read_73_t 21 rfl
theorem dX6_read_110 : decode cX6_read 110 = .ok (.lload 10, 2) := dq_get dX6_read_73_t 22 rfl
theorem dX6_read_112 : decode cX6_read 112 = .ok (.lconst 0, 1) := dq_get dX6_read_73_t 23 rfl
theorem dX6_read_113 : decode cX6_read 113 = .ok (.lcmp, 1) := dq_get dX6_read_73_t 24 rfl
theorem dX6_read_114 : decode cX6_read 114 = .ok (.ifCond .lt 16, 3) := dq_get dX6_read_73_t 25 rfl
theorem dX6_read_117 : decode cX6_read 117 = .ok (.lload 10, 2) := dq_get dX6_read_73_t 26 rfl
theorem dX6_read_119 : decode cX6_read 119 = .ok (.aload_n 0, 1) := dq_get dX6_read_73_t 27 rfl
theorem dX6_read_120 : decode cX6_read 120 = .ok (.getfield 38, 3) := dq_get dX6_read_73_t 28 rfl
theorem dX6_read_123 : decode cX6_read 123 = .ok (.iload_n 1, 1) := dq_get dX6_read_73_t 29 rfl
theorem dX6_read_124 : decode cX6_read 124 = .ok (.iaload, 1) := dq_get dX6_read_73_t 30 rfl
theorem dX6_read_125 : decode cX6_read 125 = .ok (.i2l, 1) := dq_get dX6_read_73_t 31 rfl
theorem dX6_read_126 : decode cX6_read 126 = .ok (.lcmp, 1) := dq_get dX6_read_73_t 32 rfl
theorem dX6_read_127 : decode cX6_read 127 = .ok (.ifCond .lt 7, 3) := dq_get dX6_read_73_t 33 rfl
theorem dX6_read_130 : decode cX6_read 130 = .ok (.iconst 2, 1) := dq_get dX6_read_73_t 34 rfl
theorem dX6_read_131 : decode cX6_read 131 = .ok (.goto 4, 3) := dq_get dX6_read_73_t 35 rfl
theorem dX6_read_134 : decode cX6_read 134 = .ok (.iconst 0, 1) := dq_get dX6_read_73_t 36 rfl
theorem dX6_read_135 : decode cX6_read 135 = .ok (.istore 6, 2) := dq_get dX6_read_73_t 37 rfl
theorem dX6_read_137 : decode cX6_read 137 = .ok (.iinc 9 1, 3) := dq_get dX6_read_73_t 38 rfl
theorem dX6_read_140 : decode cX6_read 140 = .ok (.goto (-84), 3) := dq_get dX6_read_73_t 39 rfl
theorem dX6_read_143_t : dqK cX6_read.data.toList 0 [(143, .iload 6, 2), (145, .ifCond .ne 66, 3), (148, .bipush 40, 2), (150, .iload_n 1, 1), (151, .imul, 1), (152, .iload_n 3, 1), (153, .iadd, 1), (154, .iconst 3, 1), (155, .iload 8, 2), (157, .imul, 1), (158, .iadd, 1), (159, .istore 9, 2), (161, .aload_n 0, 1), (162, .aload_n 0, 1), (163, .getfield 41, 3), (166, .iload 9, 2), (168, .iaload, 1), (169, .aload_n 0, 1), (170, .getfield 41, 3), (173, .iload 9, 2), (175, .iconst 1, 1), (176, .iadd, 1), (177, .iaload, 1), (178, .aload_n 0, 1), (179, .getfield 41, 3), (182, .iload 9, 2), (184, .iconst 2, 1), (185, .iadd, 1), (186, .iaload, 1), (187, .invokevirtual 271, 3), (190, .ifCond .ge 18, 3), (193, .aload_n 0, 1), (194, .getfield 7, 3), (197, .bipush 16, 2), (199, .iload 5, 2), (201, .iastore, 1), (202, .bipush (-20), 2), (204, .iload 8, 2), (206, .isub, 1), (207, .ireturn, 1)] = true := by decide +kernel
theorem dX6_read_143 : decode cX6_read 143 = .ok (.iload 6, 2) := dq_get dX6_read_143_t 0 rfl
theorem dX6_read_145 : decode cX6_read 145 = .ok (.ifCond .ne 66, 3) := dq_get dX6_read_143_t 1 rfl
theorem dX6_read_148 : decode cX6_read 148 = .ok (.bipush 40, 2) := dq_get dX6_read_143_t 2 rfl
theorem dX6_read_150 : decode cX6_read 150 = .ok (.iload_n 1, 1) := dq_get dX6_read_143_t 3 rfl
theorem dX6_read_151 : decode cX6_read 151 = .ok (.imul, 1) := dq_get dX6_read_143_t 4 rfl
theorem dX6_read_152 : decode cX6_read 152 = .ok (.iload_n 3, 1) := dq_get dX6_read_143_t 5 rfl
theorem dX6_read_153 : decode cX6_read 153 = .ok (.iadd, 1) := dq_get dX6_read_143_t 6 rfl
theorem dX6_read_154 : decode cX6_read 154 = .ok (.iconst 3, 1) := dq_get dX6_read_143_t 7 rfl
theorem dX6_read_155 : decode cX6_read 155 = .ok (.iload 8, 2) := dq_get dX6_read_143_t 8 rfl
theorem dX6_read_157 : decode cX6_read 157 = .ok (.imul, 1) := dq_get dX6_read_143_t 9 rfl
theorem dX6_read_158 : decode cX6_read 158 = .ok (.iadd, 1) := dq_get dX6_read_143_t 10 rfl
theorem dX6_read_159 : decode cX6_read 159 = .ok (.istore 9, 2) := dq_get dX6_read_143_t 11 rfl
theorem dX6_read_161 : decode cX6_read 161 = .ok (.aload_n 0, 1) := dq_get dX6_read_143_t 12 rfl
theorem dX6_read_162 : decode cX6_read 162 = .ok (.aload_n 0, 1) := dq_get dX6_read_143_t 13 rfl
theorem dX6_read_163 : decode cX6_read 163 = .ok (.getfield 41, 3) := dq_get dX6_read_143_t 14 rfl
theorem dX6_read_166 : decode cX6_read 166 = .ok (.iload 9, 2) := dq_get dX6_read_143_t 15 rfl
theorem dX6_read_168 : decode cX6_read 168 = .ok (.iaload, 1) := dq_get dX6_read_143_t 16 rfl
theorem dX6_read_169 : decode cX6_read 169 = .ok (.aload_n 0, 1) := dq_get dX6_read_143_t 17 rfl
theorem dX6_read_170 : decode cX6_read 170 = .ok (.getfield 41, 3) := dq_get dX6_read_143_t 18 rfl
theorem dX6_read_173 : decode cX6_read 173 = .ok (.iload 9, 2) := dq_get dX6_read_143_t 19 rfl
theorem dX6_read_175 : decode cX6_read 175 = .ok (.iconst 1, 1) := dq_get dX6_read_143_t 20 rfl
theorem dX6_read_176 : decode cX6_read 176 = .ok (.iadd, 1) := dq_get dX6_read_143_t 21 rfl
theorem dX6_read_177 : decode cX6_read 177 = .ok (.iaload, 1) := dq_get dX6_read_143_t 22 rfl
theorem dX6_read_178 : decode cX6_read 178 = .ok (.aload_n 0, 1) := dq_get dX6_read_143_t 23 rfl
theorem dX6_read_179 : decode cX6_read 179 = .ok (.getfield 41, 3) := dq_get dX6_read_143_t 24 rfl
theorem dX6_read_182 : decode cX6_read 182 = .ok (.iload 9, 2) := dq_get dX6_read_143_t 25 rfl
theorem dX6_read_184 : decode cX6_read 184 = .ok (.iconst 2, 1) := dq_get dX6_read_143_t 26 rfl
theorem dX6_read_185 : decode cX6_read 185 = .ok (.iadd, 1) := dq_get dX6_read_143_t 27 rfl
theorem dX6_read_186 : decode cX6_read 186 = .ok (.iaload, 1) := dq_get dX6_read_143_t 28 rfl
theorem dX6_read_187 : decode cX6_read 187 = .ok (.invokevirtual 271, 3) := dq_get dX6_read_143_t 29 rfl
theorem dX6_read_190 : decode cX6_read 190 = .ok (.ifCond .ge 18, 3) := dq_get dX6_read_143_t 30 rfl
theorem dX6_read_193 : decode cX6_read 193 = .ok (.aload_n 0, 1) := dq_get dX6_read_143_t 31 rfl
theorem dX6_read_194 : decode cX6_read 194 = .ok (.getfield 7, 3) := dq_get dX6_read_143_t 32 rfl
theorem dX6_read_197 : decode cX6_read 197 = .ok (.bipush 16, 2) := dq_get dX6_read_143_t 33 rfl
theorem dX6_read_199 : decode cX6_read 199 = .ok (.iload 5, 2) := dq_get dX6_read_143_t 34 rfl
theorem dX6_read_201 : decode cX6_read 201 = .ok (.iastore, 1) := dq_get dX6_read_143_t 35 rfl
theorem dX6_read_202 : decode cX6_read 202 = .ok (.bipush (-20), 2) := dq_get dX6_read_143_t 36 rfl
theorem dX6_read_204 : decode cX6_read 204 = .ok (.iload 8, 2) := dq_get dX6_read_143_t 37 rfl
theorem dX6_read_206 : decode cX6_read 206 = .ok (.isub, 1) := dq_get dX6_read_143_t 38 rfl
theorem dX6_read_207 : decode cX6_read 207 = .ok (.ireturn, 1) := dq_get dX6_read_143_t 39 rfl
theorem dX6_read_208_t : dqK cX6_read.data.toList 0 [(208, .iinc 7 1, 3), (211, .iinc 8 1, 3), (214, .goto (-173), 3), (217, .aload_n 0, 1), (218, .iload 6, 2), (220, .putfield 274, 3), (223, .iload 7, 2), (225, .ireturn, 1)] = true := by decide +kernel
theorem dX6_read_208 : decode cX6_read 208 = .ok (.iinc 7 1, 3) := dq_get dX6_read_208_t 0 rfl
theorem dX6_read_211 : decode cX6_read 211 = .ok (.iinc 8 1, 3) := dq_get dX6_read_208_t 1 rfl
theorem dX6_read_214 : decode cX6_read 214 = .ok (.goto (-173), 3) := dq_get dX6_read_208_t 2 rfl
theorem dX6_read_217 : decode cX6_read 217 = .ok (.aload_n 0, 1) := dq_get dX6_read_208_t 3 rfl
theorem dX6_read_218 : decode cX6_read 218 = .ok (.iload 6, 2) := dq_get dX6_read_208_t 4 rfl
theorem dX6_read_220 : decode cX6_read 220 = .ok (.putfield 274, 3) := dq_get dX6_read_208_t 5 rfl
theorem dX6_read_223 : decode cX6_read 223 = .ok (.iload 7, 2) := dq_get dX6_read_208_t 6 rfl
theorem dX6_read_225 : decode cX6_read 225 = .ok (.ireturn, 1) := dq_get dX6_read_208_t 7 rfl
theorem dX6_torn_0 : decode cX6_torn 0 = .ok (.aload_n 0, 1) := by decide +kernel
theorem dX6_torn_1 : decode cX6_torn 1 = .ok (.getfield 274, 3) := by decide +kernel
theorem dX6_torn_4 : decode cX6_torn 4 = .ok (.ireturn, 1) := by decide +kernel
theorem gt_wsX6_count_wsX60 : GoodIn wsX6_count wsX60 := fun w hw => ⟨List.mem_cons_of_mem _ (List.mem_append_right _ hw), good_of_word (List.all_eq_true.mp gw_wsX60 w hw)⟩
set_option maxRecDepth 20000 in
theorem ggX6_count_X6_unlike : GoodIn wsX6_count wsX6_unlike := goodIn_ca (goodIn_r _ [11, 12, 13, 14, 10, 15, 16, 17, 18, 19, 20, 21, 2, 22, 23, 24] rfl (by decide +kernel)) gt_wsX6_count_wsX60
set_option maxRecDepth 20000 in
theorem gX6_count_X6_unlike : GoodIn wsX6_count (wsV RX6 202 RX6 yX6_unlike wsX6_unlike) := goodIn_app (goodIn_r _ [7, 8, 9, 10] rfl (by decide +kernel)) ggX6_count_X6_unlike
set_option maxRecDepth 20000 in
theorem ggX6_count_X6_flag : GoodIn wsX6_count wsX6_flag := goodIn_r _ [24] rfl (by decide +kernel)
set_option maxRecDepth 20000 in
theorem gX6_count_X6_flag : GoodIn wsX6_count (va_wsS RX6 205 yX6_flag wsX6_flag) := goodIn_app (goodIn_r _ [22, 23, 10] rfl (by decide +kernel)) ggX6_count_X6_flag
set_option maxRecDepth 20000 in
theorem ggX6_count_X6_days : GoodIn wsX6_count wsX6_days := goodIn_ca (goodIn_r _ [28, 2, 29, 30, 31, 10, 32, 1, 33, 34, 35, 36, 37, 18, 19, 20, 21, 38, 39, 40, 41, 42, 43, 44, 45, 46, 47, 48, 49, 16, 12, 13, 14, 15, 17, 22, 23, 24] rfl (by decide +kernel)) gt_wsX6_count_wsX60
set_option maxRecDepth 20000 in
theorem gX6_count_X6_days : GoodIn wsX6_count (wsV RX6 215 RX6 yX6_days wsX6_days) := goodIn_app (goodIn_r _ [25, 26, 27, 10] rfl (by decide +kernel)) ggX6_count_X6_days
set_option maxRecDepth 20000 in
theorem ggX6_count_X6_bitsOf : GoodIn wsX6_count wsX6_bitsOf := goodIn_r _ [52] rfl (by decide +kernel)
set_option maxRecDepth 20000 in
theorem gX6_count_X6_bitsOf : GoodIn wsX6_count (va_wsS RX6 218 yX6_bitsOf wsX6_bitsOf) := goodIn_app (goodIn_r _ [50, 51, 10] rfl (by decide +kernel)) ggX6_count_X6_bitsOf
theorem dX6_count_0_t : dqK cX6_count.data.toList 0 [(0, .iconst 0, 1), (1, .istore_n 2, 1), (2, .iconst 1, 1), (3, .istore_n 3, 1), (4, .iload_n 3, 1), (5, .aload_n 0, 1), (6, .getfield 78, 3), (9, .if_icmp .gt 31, 3), (12, .iload_n 2, 1), (13, .aload_n 0, 1), (14, .iload_n 3, 1), (15, .iload_n 3, 1), (16, .iconst 1, 1), (17, .isub, 1), (18, .invokevirtual 202, 3), (21, .ifCond .eq 7, 3), (24, .iconst 1, 1), (25, .goto 4, 3), (28, .iconst 0, 1), (29, .invokestatic 205, 3), (32, .iadd, 1), (33, .istore_n 2, 1), (34, .iinc 3 1, 3), (37, .goto (-33), 3), (40, .iload_n 1, 1), (80, .aload_n 0, 1), (81, .getfield 7, 3), (84, .bipush 60, 2), (86, .iaload, 1), (87, .ireturn, 1), (88, .aload_n 0, 1), (89, .getfield 13, 3), (92, .iconst 0, 1), (93, .baload, 1), (94, .invokestatic 205, 3), (97, .aload_n 0, 1), (98, .getfield 13, 3), (101, .iconst 1, 1), (102, .baload, 1), (103, .invokestatic 205, 3)] = true := by decide +kernel
theorem dX6_count_0 : decode cX6_count 0 = .ok (.iconst 0, 1) := dq_get dX6_count_0_t 0 rfl
theorem dX6_count_1 : decode cX6_count 1 = .ok (.istore_n 2, 1) := dq_get dX6_count_0_t 1 rfl
theorem dX6_count_2 : decode cX6_count 2 = .ok (.iconst 1, 1) := dq_get dX6_count_0_t 2 rfl
theorem dX6_count_3 : decode cX6_count 3 = .ok (.istore_n 3, 1) := dq_get dX6_count_0_t 3 rfl
theorem dX6_count_4 : decode cX6_count 4 = .ok (.iload_n 3, 1) := dq_get dX6_count_0_t 4 rfl
theorem dX6_count_5 : decode cX6_count 5 = .ok (.aload_n 0, 1) := dq_get dX6_count_0_t 5 rfl
theorem dX6_count_6 : decode cX6_count 6 = .ok (.getfield 78, 3) := dq_get dX6_count_0_t 6 rfl
theorem dX6_count_9 : decode cX6_count 9 = .ok (.if_icmp .gt 31, 3) := dq_get dX6_count_0_t 7 rfl
theorem dX6_count_12 : decode cX6_count 12 = .ok (.iload_n 2, 1) := dq_get dX6_count_0_t 8 rfl
theorem dX6_count_13 : decode cX6_count 13 = .ok (.aload_n 0, 1) := dq_get dX6_count_0_t 9 rfl
theorem dX6_count_14 : decode cX6_count 14 = .ok (.iload_n 3, 1) := dq_get dX6_count_0_t 10 rfl
theorem dX6_count_15 : decode cX6_count 15 = .ok (.iload_n 3, 1) := dq_get dX6_count_0_t 11 rfl
theorem dX6_count_16 : decode cX6_count 16 = .ok (.iconst 1, 1) := dq_get dX6_count_0_t 12 rfl
theorem dX6_count_17 : decode cX6_count 17 = .ok (.isub, 1) := dq_get dX6_count_0_t 13 rfl
theorem dX6_count_18 : decode cX6_count 18 = .ok (.invokevirtual 202, 3) := dq_get dX6_count_0_t 14 rfl
theorem dX6_count_21 : decode cX6_count 21 = .ok (.ifCond .eq 7, 3) := dq_get dX6_count_0_t 15 rfl
theorem dX6_count_24 : decode cX6_count 24 = .ok (.iconst 1, 1) := dq_get dX6_count_0_t 16 rfl
theorem dX6_count_25 : decode cX6_count 25 = .ok (.goto 4, 3) := dq_get dX6_count_0_t 17 rfl
theorem dX6_count_28 : decode cX6_count 28 = .ok (.iconst 0, 1) := dq_get dX6_count_0_t 18 rfl
theorem dX6_count_29 : decode cX6_count 29 = .ok (.invokestatic 205, 3) := dq_get dX6_count_0_t 19 rfl
theorem dX6_count_32 : decode cX6_count 32 = .ok (.iadd, 1) := dq_get dX6_count_0_t 20 rfl
theorem dX6_count_33 : decode cX6_count 33 = .ok (.istore_n 2, 1) := dq_get dX6_count_0_t 21 rfl
theorem dX6_count_34 : decode cX6_count 34 = .ok (.iinc 3 1, 3) := dq_get dX6_count_0_t 22 rfl
theorem dX6_count_37 : decode cX6_count 37 = .ok (.goto (-33), 3) := dq_get dX6_count_0_t 23 rfl
theorem dX6_count_40 : decode cX6_count 40 = .ok (.iload_n 1, 1) := dq_get dX6_count_0_t 24 rfl
theorem dX6_count_80 : decode cX6_count 80 = .ok (.aload_n 0, 1) := dq_get dX6_count_0_t 25 rfl
theorem dX6_count_81 : decode cX6_count 81 = .ok (.getfield 7, 3) := dq_get dX6_count_0_t 26 rfl
theorem dX6_count_84 : decode cX6_count 84 = .ok (.bipush 60, 2) := dq_get dX6_count_0_t 27 rfl
theorem dX6_count_86 : decode cX6_count 86 = .ok (.iaload, 1) := dq_get dX6_count_0_t 28 rfl
theorem dX6_count_87 : decode cX6_count 87 = .ok (.ireturn, 1) := dq_get dX6_count_0_t 29 rfl
theorem dX6_count_88 : decode cX6_count 88 = .ok (.aload_n 0, 1) := dq_get dX6_count_0_t 30 rfl
theorem dX6_count_89 : decode cX6_count 89 = .ok (.getfield 13, 3) := dq_get dX6_count_0_t 31 rfl
theorem dX6_count_92 : decode cX6_count 92 = .ok (.iconst 0, 1) := dq_get dX6_count_0_t 32 rfl
theorem dX6_count_93 : decode cX6_count 93 = .ok (.baload, 1) := dq_get dX6_count_0_t 33 rfl
theorem dX6_count_94 : decode cX6_count 94 = .ok (.invokestatic 205, 3) := dq_get dX6_count_0_t 34 rfl
theorem dX6_count_97 : decode cX6_count 97 = .ok (.aload_n 0, 1) := dq_get dX6_count_0_t 35 rfl
theorem dX6_count_98 : decode cX6_count 98 = .ok (.getfield 13, 3) := dq_get dX6_count_0_t 36 rfl
theorem dX6_count_101 : decode cX6_count 101 = .ok (.iconst 1, 1) := dq_get dX6_count_0_t 37 rfl
theorem dX6_count_102 : decode cX6_count 102 = .ok (.baload, 1) := dq_get dX6_count_0_t 38 rfl
theorem dX6_count_103 : decode cX6_count 103 = .ok (.invokestatic 205, 3) := dq_get dX6_count_0_t 39 rfl
theorem dX6_count_41 : decode cX6_count 41 = .ok (.tableswitch 105 0 5 #[39, 47, 67, 72, 95, 103], 39) := by decide +kernel
theorem dX6_count_106_t : dqK cX6_count.data.toList 0 [(106, .iadd, 1), (107, .ireturn, 1), (108, .aload_n 0, 1), (109, .getfield 87, 3), (112, .ireturn, 1), (113, .aload_n 0, 1), (114, .getfield 35, 3), (117, .iconst 0, 1), (118, .iaload, 1), (119, .bipush (-4), 2), (121, .if_icmp .ne 8, 3), (124, .bipush (-4), 2), (126, .goto 9, 3), (129, .aload_n 0, 1), (130, .getfield 38, 3), (133, .iconst 0, 1), (134, .iaload, 1), (135, .ireturn, 1), (136, .aload_n 0, 1), (137, .invokevirtual 215, 3), (140, .invokestatic 218, 3), (143, .ireturn, 1), (144, .iload_n 2, 1), (145, .ireturn, 1), (146, .iconst (-1), 1), (147, .ireturn, 1)] = true := by decide +kernel
theorem dX6_count_106 : decode cX6_count 106 = .ok (.iadd, 1) := dq_get dX6_count_106_t 0 rfl
theorem dX6_count_107 : decode cX6_count 107 = .ok (.ireturn, 1) := dq_get dX6_count_106_t 1 rfl
theorem dX6_count_108 : decode cX6_count 108 = .ok (.aload_n 0, 1) := dq_get dX6_count_106_t 2 rfl
theorem dX6_count_109 : decode cX6_count 109 = .ok (.getfield 87, 3) := dq_get dX6_count_106_t 3 rfl
theorem dX6_count_112 : decode cX6_count 112 = .ok (.ireturn, 1) := dq_get dX6_count_106_t 4 rfl
theorem dX6_count_113 : decode cX6_count 113 = .ok (.aload_n 0, 1) := dq_get dX6_count_106_t 5 rfl
theorem dX6_count_114 : decode cX6_count 114 = .ok (.getfield 35, 3) := dq_get dX6_count_106_t 6 rfl
theorem dX6_count_117 : decode cX6_count 117 = .ok (.iconst 0, 1) := dq_get dX6_count_106_t 7 rfl
theorem dX6_count_118 : decode cX6_count 118 = .ok (.iaload, 1) := dq_get dX6_count_106_t 8 rfl
theorem dX6_count_119 : decode cX6_count 119 = .ok (.bipush (-4), 2) := dq_get dX6_count_106_t 9 rfl
theorem dX6_count_121 : decode cX6_count 121 = .ok (.if_icmp .ne 8, 3) := dq_get dX6_count_106_t 10 rfl
theorem dX6_count_124 : decode cX6_count 124 = .ok (.bipush (-4), 2) := dq_get dX6_count_106_t 11 rfl
theorem dX6_count_126 : decode cX6_count 126 = .ok (.goto 9, 3) := dq_get dX6_count_106_t 12 rfl
theorem dX6_count_129 : decode cX6_count 129 = .ok (.aload_n 0, 1) := dq_get dX6_count_106_t 13 rfl
theorem dX6_count_130 : decode cX6_count 130 = .ok (.getfield 38, 3) := dq_get dX6_count_106_t 14 rfl
theorem dX6_count_133 : decode cX6_count 133 = .ok (.iconst 0, 1) := dq_get dX6_count_106_t 15 rfl
theorem dX6_count_134 : decode cX6_count 134 = .ok (.iaload, 1) := dq_get dX6_count_106_t 16 rfl
theorem dX6_count_135 : decode cX6_count 135 = .ok (.ireturn, 1) := dq_get dX6_count_106_t 17 rfl
theorem dX6_count_136 : decode cX6_count 136 = .ok (.aload_n 0, 1) := dq_get dX6_count_106_t 18 rfl
theorem dX6_count_137 : decode cX6_count 137 = .ok (.invokevirtual 215, 3) := dq_get dX6_count_106_t 19 rfl
theorem dX6_count_140 : decode cX6_count 140 = .ok (.invokestatic 218, 3) := dq_get dX6_count_106_t 20 rfl
theorem dX6_count_143 : decode cX6_count 143 = .ok (.ireturn, 1) := dq_get dX6_count_106_t 21 rfl
theorem dX6_count_144 : decode cX6_count 144 = .ok (.iload_n 2, 1) := dq_get dX6_count_106_t 22 rfl
theorem dX6_count_145 : decode cX6_count 145 = .ok (.ireturn, 1) := dq_get dX6_count_106_t 23 rfl
theorem dX6_count_146 : decode cX6_count 146 = .ok (.iconst (-1), 1) := dq_get dX6_count_106_t 24 rfl
theorem dX6_count_147 : decode cX6_count 147 = .ok (.ireturn, 1) := dq_get dX6_count_106_t 25 rfl
