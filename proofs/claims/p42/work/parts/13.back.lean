theorem gt_wsX5_init_wsX00 : GoodIn wsX5_init wsX00 := fun w hw => ⟨List.mem_cons_of_mem _ (List.mem_append_left _ (List.mem_append_left _ (List.mem_append_left _ (List.mem_append_left _ (List.mem_append_left _ (List.mem_append_right _ hw)))))), good_of_word (List.all_eq_true.mp gw_wsX00 w hw)⟩
theorem gt_wsX5_init_wsX20 : GoodIn wsX5_init wsX20 := fun w hw => ⟨List.mem_cons_of_mem _ (List.mem_append_right _ hw), good_of_word (List.all_eq_true.mp gw_wsX20 w hw)⟩
set_option maxRecDepth 20000 in
theorem ggX5_init_X0_init : GoodIn wsX5_init wsX0_init := goodIn_ca (goodIn_ca (goodIn_r _ [28, 29, 2, 3, 30, 31, 32, 23, 33, 34, 35, 36, 37, 38, 39, 40, 41, 42, 43, 44, 45] rfl (by decide +kernel)) gt_wsX5_init_wsX00) gt_wsX5_init_wsX20
set_option maxRecDepth 20000 in
theorem gX5_init_X0_init : GoodIn wsX5_init (wsX0_init) := ggX5_init_X0_init
theorem gt_wsX5_init_wsX40 : GoodIn wsX5_init wsX40 := fun w hw => ⟨List.mem_cons_of_mem _ (List.mem_append_left _ (List.mem_append_left _ (List.mem_append_left _ (List.mem_append_right _ hw)))), good_of_word (List.all_eq_true.mp gw_wsX40 w hw)⟩
set_option maxRecDepth 20000 in
theorem ggX5_init_X4_init : GoodIn wsX5_init wsX4_init := goodIn_ca (goodIn_r _ [48, 49, 2, 3, 23, 50, 51, 52] rfl (by decide +kernel)) gt_wsX5_init_wsX40
set_option maxRecDepth 20000 in
theorem gX5_init_X4_init : GoodIn wsX5_init (wsX4_init) := ggX5_init_X4_init
theorem gt_wsX5_init_wsX10 : GoodIn wsX5_init wsX10 := fun w hw => ⟨List.mem_cons_of_mem _ (List.mem_append_left _ (List.mem_append_left _ (List.mem_append_right _ hw))), good_of_word (List.all_eq_true.mp gw_wsX10 w hw)⟩
set_option maxRecDepth 20000 in
theorem ggX5_init_X1_init : GoodIn wsX5_init wsX1_init := goodIn_ca (goodIn_ca (goodIn_ca (goodIn_r _ [55, 56, 2, 3, 57, 5, 6, 58, 59, 60, 61, 27, 28, 29, 30, 31, 32, 23, 33, 34, 35, 36, 37, 38, 39, 40, 41, 42, 43, 44, 45] rfl (by decide +kernel)) gt_wsX5_init_wsX00) gt_wsX5_init_wsX10) gt_wsX5_init_wsX20
set_option maxRecDepth 20000 in
theorem gX5_init_X1_init : GoodIn wsX5_init (wsX1_init) := ggX5_init_X1_init
theorem gt_wsX5_init_wsX30 : GoodIn wsX5_init wsX30 := fun w hw => ⟨List.mem_cons_of_mem _ (List.mem_append_left _ (List.mem_append_right _ hw)), good_of_word (List.all_eq_true.mp gw_wsX30 w hw)⟩
set_option maxRecDepth 20000 in
theorem ggX5_init_X3_init : GoodIn wsX5_init wsX3_init := goodIn_ca (goodIn_r _ [64, 65, 2, 3, 23, 66, 67] rfl (by decide +kernel)) gt_wsX5_init_wsX30
set_option maxRecDepth 20000 in
theorem gX5_init_X3_init : GoodIn wsX5_init (wsX3_init) := ggX5_init_X3_init
theorem dX5_init_0_t : dqK cX5_init.data.toList 0 [(0, .aload_n 0, 1), (1, .invokespecial 1, 3), (4, .aload_n 0, 1), (5, .new 7, 3), (8, .dup, 1), (9, .invokespecial 9, 3), (12, .putfield 10, 3), (15, .aload_n 0, 1), (16, .iconst 2, 1), (17, .anewarray 7, 3), (20, .putfield 16, 3), (23, .iconst 0, 1), (24, .istore_n 1, 1), (25, .iload_n 1, 1), (26, .iconst 2, 1), (27, .if_icmp .ge 22, 3), (30, .aload_n 0, 1), (31, .getfield 16, 3), (34, .iload_n 1, 1), (35, .new 7, 3), (38, .dup, 1), (39, .invokespecial 9, 3), (42, .aastore, 1), (43, .iinc 1 1, 3), (46, .goto (-21), 3), (49, .aload_n 0, 1), (50, .iconst 2, 1), (53, .putfield 20, 3), (56, .aload_n 0, 1), (57, .new 24, 3), (60, .dup, 1), (61, .invokespecial 26, 3), (64, .putfield 27, 3), (67, .aload_n 0, 1), (68, .new 31, 3), (71, .dup, 1), (72, .invokespecial 33, 3), (75, .putfield 34, 3), (78, .aload_n 0, 1), (79, .iconst 4, 1)] = true := by decide +kernel
theorem dX5_init_0 : decode cX5_init 0 = .ok (.aload_n 0, 1) := dq_get dX5_init_0_t 0 rfl
theorem dX5_init_1 : decode cX5_init 1 = .ok (.invokespecial 1, 3) := dq_get dX5_init_0_t 1 rfl
theorem dX5_init_4 : decode cX5_init 4 = .ok (.aload_n 0, 1) := dq_get dX5_init_0_t 2 rfl
theorem dX5_init_5 : decode cX5_init 5 = .ok (.new 7, 3) := dq_get dX5_init_0_t 3 rfl
theorem dX5_init_8 : decode cX5_init 8 = .ok (.dup, 1) := dq_get dX5_init_0_t 4 rfl
theorem dX5_init_9 : decode cX5_init 9 = .ok (.invokespecial 9, 3) := dq_get dX5_init_0_t 5 rfl
theorem dX5_init_12 : decode cX5_init 12 = .ok (.putfield 10, 3) := dq_get dX5_init_0_t 6 rfl
theorem dX5_init_15 : decode cX5_init 15 = .ok (.aload_n 0, 1) := dq_get dX5_init_0_t 7 rfl
theorem dX5_init_16 : decode cX5_init 16 = .ok (.iconst 2, 1) := dq_get dX5_init_0_t 8 rfl
theorem dX5_init_17 : decode cX5_init 17 = .ok (.anewarray 7, 3) := dq_get dX5_init_0_t 9 rfl
theorem dX5_init_20 : decode cX5_init 20 = .ok (.putfield 16, 3) := dq_get dX5_init_0_t 10 rfl
theorem dX5_init_23 : decode cX5_init 23 = .ok (.iconst 0, 1) := dq_get dX5_init_0_t 11 rfl
theorem dX5_init_24 : decode cX5_init 24 = .ok (.istore_n 1, 1) := dq_get dX5_init_0_t 12 rfl
theorem dX5_init_25 : decode cX5_init 25 = .ok (.iload_n 1, 1) := dq_get dX5_init_0_t 13 rfl
theorem dX5_init_26 : decode cX5_init 26 = .ok (.iconst 2, 1) := dq_get dX5_init_0_t 14 rfl
theorem dX5_init_27 : decode cX5_init 27 = .ok (.if_icmp .ge 22, 3) := dq_get dX5_init_0_t 15 rfl
theorem dX5_init_30 : decode cX5_init 30 = .ok (.aload_n 0, 1) := dq_get dX5_init_0_t 16 rfl
theorem dX5_init_31 : decode cX5_init 31 = .ok (.getfield 16, 3) := dq_get dX5_init_0_t 17 rfl
theorem dX5_init_34 : decode cX5_init 34 = .ok (.iload_n 1, 1) := dq_get dX5_init_0_t 18 rfl
theorem dX5_init_35 : decode cX5_init 35 = .ok (.new 7, 3) := dq_get dX5_init_0_t 19 rfl
theorem dX5_init_38 : decode cX5_init 38 = .ok (.dup, 1) := dq_get dX5_init_0_t 20 rfl
theorem dX5_init_39 : decode cX5_init 39 = .ok (.invokespecial 9, 3) := dq_get dX5_init_0_t 21 rfl
theorem dX5_init_42 : decode cX5_init 42 = .ok (.aastore, 1) := dq_get dX5_init_0_t 22 rfl
theorem dX5_init_43 : decode cX5_init 43 = .ok (.iinc 1 1, 3) := dq_get dX5_init_0_t 23 rfl
theorem dX5_init_46 : decode cX5_init 46 = .ok (.goto (-21), 3) := dq_get dX5_init_0_t 24 rfl
theorem dX5_init_49 : decode cX5_init 49 = .ok (.aload_n 0, 1) := dq_get dX5_init_0_t 25 rfl
theorem dX5_init_50 : decode cX5_init 50 = .ok (.iconst 2, 1) := dq_get dX5_init_0_t 26 rfl
theorem dX5_init_53 : decode cX5_init 53 = .ok (.putfield 20, 3) := dq_get dX5_init_0_t 27 rfl
theorem dX5_init_56 : decode cX5_init 56 = .ok (.aload_n 0, 1) := dq_get dX5_init_0_t 28 rfl
theorem dX5_init_57 : decode cX5_init 57 = .ok (.new 24, 3) := dq_get dX5_init_0_t 29 rfl
theorem dX5_init_60 : decode cX5_init 60 = .ok (.dup, 1) := dq_get dX5_init_0_t 30 rfl
theorem dX5_init_61 : decode cX5_init 61 = .ok (.invokespecial 26, 3) := dq_get dX5_init_0_t 31 rfl
theorem dX5_init_64 : decode cX5_init 64 = .ok (.putfield 27, 3) := dq_get dX5_init_0_t 32 rfl
theorem dX5_init_67 : decode cX5_init 67 = .ok (.aload_n 0, 1) := dq_get dX5_init_0_t 33 rfl
theorem dX5_init_68 : decode cX5_init 68 = .ok (.new 31, 3) := dq_get dX5_init_0_t 34 rfl
theorem dX5_init_71 : decode cX5_init 71 = .ok (.dup, 1) := dq_get dX5_init_0_t 35 rfl
theorem dX5_init_72 : decode cX5_init 72 = .ok (.invokespecial 33, 3) := dq_get dX5_init_0_t 36 rfl
theorem dX5_init_75 : decode cX5_init 75 = .ok (.putfield 34, 3) := dq_get dX5_init_0_t 37 rfl
theorem dX5_init_78 : decode cX5_init 78 = .ok (.aload_n 0, 1) := dq_get dX5_init_0_t 38 rfl
theorem dX5_init_79 : decode cX5_init 79 = .ok (.iconst 4, 1) := dq_get dX5_init_0_t 39 rfl
theorem dX5_init_51 : decode cX5_init 51 = .ok (.newarray .boolean, 2) := by decide +kernel
theorem dX5_init_80_t : dqK cX5_init.data.toList 0 [(80, .anewarray 38, 3), (83, .putfield 40, 3), (86, .iconst 0, 1), (87, .istore_n 1, 1), (88, .iload_n 1, 1), (89, .iconst 4, 1), (90, .if_icmp .ge 22, 3), (93, .aload_n 0, 1), (94, .getfield 40, 3), (97, .iload_n 1, 1), (98, .new 38, 3), (101, .dup, 1), (102, .invokespecial 44, 3), (105, .aastore, 1), (106, .iinc 1 1, 3), (109, .goto (-21), 3), (112, .aload_n 0, 1), (113, .bipush 45, 2), (117, .putfield 45, 3), (120, .aload_n 0, 1), (121, .bipush 7, 2), (125, .putfield 49, 3), (128, .return_, 1)] = true := by decide +kernel
theorem dX5_init_80 : decode cX5_init 80 = .ok (.anewarray 38, 3) := dq_get dX5_init_80_t 0 rfl
theorem dX5_init_83 : decode cX5_init 83 = .ok (.putfield 40, 3) := dq_get dX5_init_80_t 1 rfl
theorem dX5_init_86 : decode cX5_init 86 = .ok (.iconst 0, 1) := dq_get dX5_init_80_t 2 rfl
theorem dX5_init_87 : decode cX5_init 87 = .ok (.istore_n 1, 1) := dq_get dX5_init_80_t 3 rfl
theorem dX5_init_88 : decode cX5_init 88 = .ok (.iload_n 1, 1) := dq_get dX5_init_80_t 4 rfl
theorem dX5_init_89 : decode cX5_init 89 = .ok (.iconst 4, 1) := dq_get dX5_init_80_t 5 rfl
theorem dX5_init_90 : decode cX5_init 90 = .ok (.if_icmp .ge 22, 3) := dq_get dX5_init_80_t 6 rfl
theorem dX5_init_93 : decode cX5_init 93 = .ok (.aload_n 0, 1) := dq_get dX5_init_80_t 7 rfl
theorem dX5_init_94 : decode cX5_init 94 = .ok (.getfield 40, 3) := dq_get dX5_init_80_t 8 rfl
theorem dX5_init_97 : decode cX5_init 97 = .ok (.iload_n 1, 1) := dq_get dX5_init_80_t 9 rfl
theorem dX5_init_98 : decode cX5_init 98 = .ok (.new 38, 3) := dq_get dX5_init_80_t 10 rfl
theorem dX5_init_101 : decode cX5_init 101 = .ok (.dup, 1) := dq_get dX5_init_80_t 11 rfl
theorem dX5_init_102 : decode cX5_init 102 = .ok (.invokespecial 44, 3) := dq_get dX5_init_80_t 12 rfl
theorem dX5_init_105 : decode cX5_init 105 = .ok (.aastore, 1) := dq_get dX5_init_80_t 13 rfl
theorem dX5_init_106 : decode cX5_init 106 = .ok (.iinc 1 1, 3) := dq_get dX5_init_80_t 14 rfl
theorem dX5_init_109 : decode cX5_init 109 = .ok (.goto (-21), 3) := dq_get dX5_init_80_t 15 rfl
theorem dX5_init_112 : decode cX5_init 112 = .ok (.aload_n 0, 1) := dq_get dX5_init_80_t 16 rfl
theorem dX5_init_113 : decode cX5_init 113 = .ok (.bipush 45, 2) := dq_get dX5_init_80_t 17 rfl
theorem dX5_init_117 : decode cX5_init 117 = .ok (.putfield 45, 3) := dq_get dX5_init_80_t 18 rfl
theorem dX5_init_120 : decode cX5_init 120 = .ok (.aload_n 0, 1) := dq_get dX5_init_80_t 19 rfl
theorem dX5_init_121 : decode cX5_init 121 = .ok (.bipush 7, 2) := dq_get dX5_init_80_t 20 rfl
theorem dX5_init_125 : decode cX5_init 125 = .ok (.putfield 49, 3) := dq_get dX5_init_80_t 21 rfl
theorem dX5_init_128 : decode cX5_init 128 = .ok (.return_, 1) := dq_get dX5_init_80_t 22 rfl
theorem dX5_init_115 : decode cX5_init 115 = .ok (.newarray .int, 2) := by decide +kernel
theorem dX5_init_123 : decode cX5_init 123 = .ok (.newarray .int, 2) := by decide +kernel
theorem gt_wsX5_feed_wsX10 : GoodIn wsX5_feed wsX10 := fun w hw => ⟨List.mem_cons_of_mem _ (List.mem_append_right _ hw), good_of_word (List.all_eq_true.mp gw_wsX10 w hw)⟩
set_option maxRecDepth 20000 in
theorem ggX5_feed_X1_put : GoodIn wsX5_feed wsX1_put := goodIn_ca (goodIn_r _ [6, 7, 8] rfl (by decide +kernel)) gt_wsX5_feed_wsX10
set_option maxRecDepth 20000 in
theorem gX5_feed_X1_put : GoodIn wsX5_feed (wsV RX5 52 RX1 yX1_put wsX1_put) := goodIn_app (goodIn_r _ [2, 3, 4, 5] rfl (by decide +kernel)) ggX5_feed_X1_put
theorem dX5_feed_0_t : dqK cX5_feed.data.toList 0 [(0, .iload_n 1, 1), (1, .ifCond .lt 9, 3), (4, .iload_n 1, 1), (5, .bipush 127, 2), (7, .if_icmp .le 5, 3), (10, .iconst (-1), 1), (11, .ireturn, 1), (12, .aload_n 0, 1), (13, .getfield 34, 3), (16, .iload_n 1, 1), (17, .invokevirtual 52, 3), (20, .ireturn, 1)] = true := by decide +kernel
theorem dX5_feed_0 : decode cX5_feed 0 = .ok (.iload_n 1, 1) := dq_get dX5_feed_0_t 0 rfl
theorem dX5_feed_1 : decode cX5_feed 1 = .ok (.ifCond .lt 9, 3) := dq_get dX5_feed_0_t 1 rfl
theorem dX5_feed_4 : decode cX5_feed 4 = .ok (.iload_n 1, 1) := dq_get dX5_feed_0_t 2 rfl
theorem dX5_feed_5 : decode cX5_feed 5 = .ok (.bipush 127, 2) := dq_get dX5_feed_0_t 3 rfl
theorem dX5_feed_7 : decode cX5_feed 7 = .ok (.if_icmp .le 5, 3) := dq_get dX5_feed_0_t 4 rfl
theorem dX5_feed_10 : decode cX5_feed 10 = .ok (.iconst (-1), 1) := dq_get dX5_feed_0_t 5 rfl
theorem dX5_feed_11 : decode cX5_feed 11 = .ok (.ireturn, 1) := dq_get dX5_feed_0_t 6 rfl
theorem dX5_feed_12 : decode cX5_feed 12 = .ok (.aload_n 0, 1) := dq_get dX5_feed_0_t 7 rfl
theorem dX5_feed_13 : decode cX5_feed 13 = .ok (.getfield 34, 3) := dq_get dX5_feed_0_t 8 rfl
theorem dX5_feed_16 : decode cX5_feed 16 = .ok (.iload_n 1, 1) := dq_get dX5_feed_0_t 9 rfl
theorem dX5_feed_17 : decode cX5_feed 17 = .ok (.invokevirtual 52, 3) := dq_get dX5_feed_0_t 10 rfl
theorem dX5_feed_20 : decode cX5_feed 20 = .ok (.ireturn, 1) := dq_get dX5_feed_0_t 11 rfl
theorem gt_wsX5_end_wsX10 : GoodIn wsX5_end wsX10 := fun w hw => ⟨List.mem_cons_of_mem _ (List.mem_append_right _ hw), good_of_word (List.all_eq_true.mp gw_wsX10 w hw)⟩
set_option maxRecDepth 20000 in
theorem ggX5_end_X1_shorten : GoodIn wsX5_end wsX1_shorten := goodIn_ca (goodIn_r _ [6, 7] rfl (by decide +kernel)) gt_wsX5_end_wsX10
set_option maxRecDepth 20000 in
theorem gX5_end_X1_shorten : GoodIn wsX5_end (wsV RX5 56 RX1 yX1_shorten wsX1_shorten) := goodIn_app (goodIn_r _ [2, 3, 4, 5] rfl (by decide +kernel)) ggX5_end_X1_shorten
theorem dX5_end_0_t : dqK cX5_end.data.toList 0 [(0, .aload_n 0, 1), (1, .getfield 34, 3), (4, .iload_n 1, 1), (5, .invokevirtual 56, 3), (8, .ireturn, 1)] = true := by decide +kernel
theorem dX5_end_0 : decode cX5_end 0 = .ok (.aload_n 0, 1) := dq_get dX5_end_0_t 0 rfl
theorem dX5_end_1 : decode cX5_end 1 = .ok (.getfield 34, 3) := dq_get dX5_end_0_t 1 rfl
theorem dX5_end_4 : decode cX5_end 4 = .ok (.iload_n 1, 1) := dq_get dX5_end_0_t 2 rfl
theorem dX5_end_5 : decode cX5_end 5 = .ok (.invokevirtual 56, 3) := dq_get dX5_end_0_t 3 rfl
theorem dX5_end_8 : decode cX5_end 8 = .ok (.ireturn, 1) := dq_get dX5_end_0_t 4 rfl
theorem gt_wsX5_text_wsX10 : GoodIn wsX5_text wsX10 := fun w hw => ⟨List.mem_cons_of_mem _ (List.mem_append_left _ (List.mem_append_left _ (List.mem_append_left _ (List.mem_append_right _ hw)))), good_of_word (List.all_eq_true.mp gw_wsX10 w hw)⟩
theorem gt_wsX5_text_wsX00 : GoodIn wsX5_text wsX00 := fun w hw => ⟨List.mem_cons_of_mem _ (List.mem_append_left _ (List.mem_append_right _ hw)), good_of_word (List.all_eq_true.mp gw_wsX00 w hw)⟩
theorem gt_wsX5_text_wsX20 : GoodIn wsX5_text wsX20 := fun w hw => ⟨List.mem_cons_of_mem _ (List.mem_append_right _ hw), good_of_word (List.all_eq_true.mp gw_wsX20 w hw)⟩
set_option maxRecDepth 20000 in
theorem ggX5_text_X1_readTape : GoodIn wsX5_text wsX1_readTape := goodIn_ca (goodIn_ca (goodIn_ca (goodIn_r _ [10, 11, 12, 13, 14, 15, 16, 17, 18, 19, 20, 21, 22, 23, 24, 25, 26, 27, 28, 29, 30, 31, 32, 33, 34, 35, 36, 37, 38, 39, 9, 40, 41, 42, 43, 44, 45, 46, 47, 48, 49, 50, 51, 52, 53, 54, 55, 56, 57, 58, 59, 60, 61, 62, 63, 64, 65, 66, 67, 68, 69, 70, 71, 72, 73, 74, 75, 76, 77, 78, 79, 80, 81, 82, 83, 84, 85, 86, 87, 88, 89, 90, 91, 92, 93, 94, 95, 96, 97, 98, 99, 100, 101, 102, 103, 104, 105, 106, 107, 108, 109, 110, 111, 112, 113, 114, 115, 116, 117, 118, 119, 120, 121, 122, 123, 124, 125, 126, 127, 128, 129, 130, 131, 132, 133, 134, 135, 136, 137, 138, 139, 140, 141, 142, 143, 144, 145, 146, 147, 148, 149, 150, 151, 152, 153, 154, 155, 156, 157, 158, 159, 160, 161, 162, 163, 164, 165, 166, 167, 168, 169, 170] rfl (by decide +kernel)) gt_wsX5_text_wsX10) gt_wsX5_text_wsX00) gt_wsX5_text_wsX20
set_option maxRecDepth 20000 in
theorem gX5_text_X1_readTape : GoodIn wsX5_text (wsV RX5 59 RX1 yX1_readTape wsX1_readTape) := goodIn_app (goodIn_r _ [6, 7, 8, 9] rfl (by decide +kernel)) ggX5_text_X1_readTape
set_option maxRecDepth 20000 in
theorem ggX5_text_X0_become : GoodIn wsX5_text wsX0_become := goodIn_ca (goodIn_ca (goodIn_r _ [174, 26, 27, 28, 29, 175, 176, 177, 178, 30, 31, 32, 179, 180, 181, 142, 182, 144, 146, 183] rfl (by decide +kernel)) gt_wsX5_text_wsX00) gt_wsX5_text_wsX20
set_option maxRecDepth 20000 in
theorem gX5_text_X0_become : GoodIn wsX5_text (wsV RX5 73 RX0 yX0_become wsX0_become) := goodIn_app (goodIn_r _ [171, 172, 173, 24] rfl (by decide +kernel)) ggX5_text_X0_become
theorem dX5_text_0_t : dqK cX5_text.data.toList 0 [(0, .aload_n 0, 1), (1, .aload_n 0, 1), (2, .getfield 34, 3), (5, .invokevirtual 59, 3), (8, .putfield 63, 3), (11, .aload_n 0, 1), (12, .getfield 63, 3), (15, .ifCond .eq 14, 3), (18, .bipush (-10), 2), (20, .aload_n 0, 1), (21, .getfield 34, 3), (24, .getfield 67, 3), (27, .isub, 1), (28, .ireturn, 1), (29, .aload_n 0, 1), (30, .getfield 10, 3), (33, .aload_n 0, 1), (34, .getfield 34, 3), (37, .getfield 70, 3), (40, .invokevirtual 73, 3), (43, .aload_n 0, 1), (44, .getfield 27, 3), (47, .iconst 1, 1), (48, .putfield 77, 3), (51, .iconst 0, 1), (52, .istore_n 1, 1), (53, .iload_n 1, 1), (54, .iconst 2, 1), (55, .if_icmp .ge 16, 3), (58, .aload_n 0, 1), (59, .getfield 20, 3), (62, .iload_n 1, 1), (63, .iconst 0, 1), (64, .bastore, 1), (65, .iinc 1 1, 3), (68, .goto (-15), 3), (71, .aload_n 0, 1), (72, .getfield 34, 3), (75, .getfield 81, 3), (78, .ireturn, 1)] = true := by decide +kernel
theorem dX5_text_0 : decode cX5_text 0 = .ok (.aload_n 0, 1) := dq_get dX5_text_0_t 0 rfl
theorem dX5_text_1 : decode cX5_text 1 = .ok (.aload_n 0, 1) := dq_get dX5_text_0_t 1 rfl
theorem dX5_text_2 : decode cX5_text 2 = .ok (.getfield 34, 3) := dq_get dX5_text_0_t 2 rfl
theorem dX5_text_5 : decode cX5_text 5 = .ok (.invokevirtual 59, 3) := dq_get dX5_text_0_t 3 rfl
theorem dX5_text_8 : decode cX5_text 8 = .ok (.putfield 63, 3) := dq_get dX5_text_0_t 4 rfl
theorem dX5_text_11 : decode cX5_text 11 = .ok (.aload_n 0, 1) := dq_get dX5_text_0_t 5 rfl
theorem dX5_text_12 : decode cX5_text 12 = .ok (.getfield 63, 3) := dq_get dX5_text_0_t 6 rfl
theorem dX5_text_15 : decode cX5_text 15 = .ok (.ifCond .eq 14, 3) := dq_get dX5_text_0_t 7 rfl
theorem dX5_text_18 : decode cX5_text 18 = .ok (.bipush (-10), 2) := dq_get dX5_text_0_t 8 rfl
theorem dX5_text_20 : decode cX5_text 20 = .ok (.aload_n 0, 1) := dq_get dX5_text_0_t 9 rfl
theorem dX5_text_21 : decode cX5_text 21 = .ok (.getfield 34, 3) := dq_get dX5_text_0_t 10 rfl
theorem dX5_text_24 : decode cX5_text 24 = .ok (.getfield 67, 3) := dq_get dX5_text_0_t 11 rfl
theorem dX5_text_27 : decode cX5_text 27 = .ok (.isub, 1) := dq_get dX5_text_0_t 12 rfl
theorem dX5_text_28 : decode cX5_text 28 = .ok (.ireturn, 1) := dq_get dX5_text_0_t 13 rfl
theorem dX5_text_29 : decode cX5_text 29 = .ok (.aload_n 0, 1) := dq_get dX5_text_0_t 14 rfl
theorem dX5_text_30 : decode cX5_text 30 = .ok (.getfield 10, 3) := dq_get dX5_text_0_t 15 rfl
theorem dX5_text_33 : decode cX5_text 33 = .ok (.aload_n 0, 1) := dq_get dX5_text_0_t 16 rfl
theorem dX5_text_34 : decode cX5_text 34 = .ok (.getfield 34, 3) := dq_get dX5_text_0_t 17 rfl
theorem dX5_text_37 : decode cX5_text 37 = .ok (.getfield 70, 3) := dq_get dX5_text_0_t 18 rfl
theorem dX5_text_40 : decode cX5_text 40 = .ok (.invokevirtual 73, 3) := dq_get dX5_text_0_t 19 rfl
theorem dX5_text_43 : decode cX5_text 43 = .ok (.aload_n 0, 1) := dq_get dX5_text_0_t 20 rfl
theorem dX5_text_44 : decode cX5_text 44 = .ok (.getfield 27, 3) := dq_get dX5_text_0_t 21 rfl
theorem dX5_text_47 : decode cX5_text 47 = .ok (.iconst 1, 1) := dq_get dX5_text_0_t 22 rfl
theorem dX5_text_48 : decode cX5_text 48 = .ok (.putfield 77, 3) := dq_get dX5_text_0_t 23 rfl
theorem dX5_text_51 : decode cX5_text 51 = .ok (.iconst 0, 1) := dq_get dX5_text_0_t 24 rfl
theorem dX5_text_52 : decode cX5_text 52 = .ok (.istore_n 1, 1) := dq_get dX5_text_0_t 25 rfl
theorem dX5_text_53 : decode cX5_text 53 = .ok (.iload_n 1, 1) := dq_get dX5_text_0_t 26 rfl
theorem dX5_text_54 : decode cX5_text 54 = .ok (.iconst 2, 1) := dq_get dX5_text_0_t 27 rfl
theorem dX5_text_55 : decode cX5_text 55 = .ok (.if_icmp .ge 16, 3) := dq_get dX5_text_0_t 28 rfl
theorem dX5_text_58 : decode cX5_text 58 = .ok (.aload_n 0, 1) := dq_get dX5_text_0_t 29 rfl
theorem dX5_text_59 : decode cX5_text 59 = .ok (.getfield 20, 3) := dq_get dX5_text_0_t 30 rfl
theorem dX5_text_62 : decode cX5_text 62 = .ok (.iload_n 1, 1) := dq_get dX5_text_0_t 31 rfl
theorem dX5_text_63 : decode cX5_text 63 = .ok (.iconst 0, 1) := dq_get dX5_text_0_t 32 rfl
theorem dX5_text_64 : decode cX5_text 64 = .ok (.bastore, 1) := dq_get dX5_text_0_t 33 rfl
theorem dX5_text_65 : decode cX5_text 65 = .ok (.iinc 1 1, 3) := dq_get dX5_text_0_t 34 rfl
theorem dX5_text_68 : decode cX5_text 68 = .ok (.goto (-15), 3) := dq_get dX5_text_0_t 35 rfl
theorem dX5_text_71 : decode cX5_text 71 = .ok (.aload_n 0, 1) := dq_get dX5_text_0_t 36 rfl
theorem dX5_text_72 : decode cX5_text 72 = .ok (.getfield 34, 3) := dq_get dX5_text_0_t 37 rfl
theorem dX5_text_75 : decode cX5_text 75 = .ok (.getfield 81, 3) := dq_get dX5_text_0_t 38 rfl
theorem dX5_text_78 : decode cX5_text 78 = .ok (.ireturn, 1) := dq_get dX5_text_0_t 39 rfl
theorem dX5_fault_0 : decode cX5_fault 0 = .ok (.aload_n 0, 1) := by decide +kernel
theorem dX5_fault_1 : decode cX5_fault 1 = .ok (.getfield 63, 3) := by decide +kernel
theorem dX5_fault_4 : decode cX5_fault 4 = .ok (.ireturn, 1) := by decide +kernel
theorem dX5_rule_0_t : dqK cX5_rule.data.toList 0 [(0, .iload_n 1, 1), (36, .aload_n 0, 1), (37, .getfield 10, 3), (40, .getfield 84, 3), (43, .ireturn, 1), (44, .aload_n 0, 1), (45, .getfield 10, 3), (48, .getfield 87, 3), (51, .ireturn, 1), (52, .aload_n 0, 1), (53, .getfield 10, 3), (56, .getfield 90, 3), (59, .ireturn, 1), (60, .aload_n 0, 1), (61, .getfield 10, 3), (64, .getfield 93, 3), (67, .getfield 97, 3), (70, .ireturn, 1), (71, .aload_n 0, 1), (72, .getfield 10, 3), (75, .getfield 102, 3), (78, .getfield 97, 3), (81, .ireturn, 1), (82, .iconst (-1), 1), (83, .ireturn, 1)] = true := by decide +kernel
theorem dX5_rule_0 : decode cX5_rule 0 = .ok (.iload_n 1, 1) := dq_get dX5_rule_0_t 0 rfl
theorem dX5_rule_36 : decode cX5_rule 36 = .ok (.aload_n 0, 1) := dq_get dX5_rule_0_t 1 rfl
theorem dX5_rule_37 : decode cX5_rule 37 = .ok (.getfield 10, 3) := dq_get dX5_rule_0_t 2 rfl
theorem dX5_rule_40 : decode cX5_rule 40 = .ok (.getfield 84, 3) := dq_get dX5_rule_0_t 3 rfl
theorem dX5_rule_43 : decode cX5_rule 43 = .ok (.ireturn, 1) := dq_get dX5_rule_0_t 4 rfl
theorem dX5_rule_44 : decode cX5_rule 44 = .ok (.aload_n 0, 1) := dq_get dX5_rule_0_t 5 rfl
theorem dX5_rule_45 : decode cX5_rule 45 = .ok (.getfield 10, 3) := dq_get dX5_rule_0_t 6 rfl
theorem dX5_rule_48 : decode cX5_rule 48 = .ok (.getfield 87, 3) := dq_get dX5_rule_0_t 7 rfl
theorem dX5_rule_51 : decode cX5_rule 51 = .ok (.ireturn, 1) := dq_get dX5_rule_0_t 8 rfl
theorem dX5_rule_52 : decode cX5_rule 52 = .ok (.aload_n 0, 1) := dq_get dX5_rule_0_t 9 rfl
theorem dX5_rule_53 : decode cX5_rule 53 = .ok (.getfield 10, 3) := dq_get dX5_rule_0_t 10 rfl
theorem dX5_rule_56 : decode cX5_rule 56 = .ok (.getfield 90, 3) := dq_get dX5_rule_0_t 11 rfl
theorem dX5_rule_59 : decode cX5_rule 59 = .ok (.ireturn, 1) := dq_get dX5_rule_0_t 12 rfl
theorem dX5_rule_60 : decode cX5_rule 60 = .ok (.aload_n 0, 1) := dq_get dX5_rule_0_t 13 rfl
theorem dX5_rule_61 : decode cX5_rule 61 = .ok (.getfield 10, 3) := dq_get dX5_rule_0_t 14 rfl
theorem dX5_rule_64 : decode cX5_rule 64 = .ok (.getfield 93, 3) := dq_get dX5_rule_0_t 15 rfl
theorem dX5_rule_67 : decode cX5_rule 67 = .ok (.getfield 97, 3) := dq_get dX5_rule_0_t 16 rfl
theorem dX5_rule_70 : decode cX5_rule 70 = .ok (.ireturn, 1) := dq_get dX5_rule_0_t 17 rfl
theorem dX5_rule_71 : decode cX5_rule 71 = .ok (.aload_n 0, 1) := dq_get dX5_rule_0_t 18 rfl
theorem dX5_rule_72 : decode cX5_rule 72 = .ok (.getfield 10, 3) := dq_get dX5_rule_0_t 19 rfl
theorem dX5_rule_75 : decode cX5_rule 75 = .ok (.getfield 102, 3) := dq_get dX5_rule_0_t 20 rfl
theorem dX5_rule_78 : decode cX5_rule 78 = .ok (.getfield 97, 3) := dq_get dX5_rule_0_t 21 rfl
theorem dX5_rule_81 : decode cX5_rule 81 = .ok (.ireturn, 1) := dq_get dX5_rule_0_t 22 rfl
theorem dX5_rule_82 : decode cX5_rule 82 = .ok (.iconst (-1), 1) := dq_get dX5_rule_0_t 23 rfl
theorem dX5_rule_83 : decode cX5_rule 83 = .ok (.ireturn, 1) := dq_get dX5_rule_0_t 24 rfl
theorem dX5_rule_1 : decode cX5_rule 1 = .ok (.tableswitch 81 0 4 #[35, 43, 51, 59, 70], 35) := by decide +kernel
theorem gt_wsX5_mark_wsX00 : GoodIn wsX5_mark wsX00 := fun w hw => ⟨List.mem_cons_of_mem _ (List.mem_append_left _ (List.mem_append_left _ (List.mem_append_right _ hw))), good_of_word (List.all_eq_true.mp gw_wsX00 w hw)⟩
set_option maxRecDepth 20000 in
theorem ggX5_mark_X0_hasCell : GoodIn wsX5_mark wsX0_hasCell := goodIn_ca (goodIn_r _ [6, 7, 8] rfl (by decide +kernel)) gt_wsX5_mark_wsX00
set_option maxRecDepth 20000 in
theorem gX5_mark_X0_hasCell : GoodIn wsX5_mark (wsV RX5 105 RX0 yX0_hasCell wsX0_hasCell) := goodIn_app (goodIn_r _ [2, 3, 4, 5] rfl (by decide +kernel)) ggX5_mark_X0_hasCell
set_option maxRecDepth 20000 in
theorem ggX5_mark_X0_hasDay : GoodIn wsX5_mark wsX0_hasDay := goodIn_ca (goodIn_r _ [12, 13] rfl (by decide +kernel)) gt_wsX5_mark_wsX00
set_option maxRecDepth 20000 in
theorem gX5_mark_X0_hasDay : GoodIn wsX5_mark (wsV RX5 109 RX0 yX0_hasDay wsX0_hasDay) := goodIn_app (goodIn_r _ [9, 10, 11, 5] rfl (by decide +kernel)) ggX5_mark_X0_hasDay
theorem gt_wsX5_mark_wsX50 : GoodIn wsX5_mark wsX50 := fun w hw => ⟨List.mem_cons_of_mem _ (List.mem_append_left _ (List.mem_append_left _ (List.mem_append_left _ (List.mem_append_right _ hw)))), good_of_word (List.all_eq_true.mp gw_wsX50 w hw)⟩
theorem gt_wsX5_mark_wsX40 : GoodIn wsX5_mark wsX40 := fun w hw => ⟨List.mem_cons_of_mem _ (List.mem_append_left _ (List.mem_append_right _ hw)), good_of_word (List.all_eq_true.mp gw_wsX40 w hw)⟩
theorem gt_wsX5_mark_wsX20 : GoodIn wsX5_mark wsX20 := fun w hw => ⟨List.mem_cons_of_mem _ (List.mem_append_right _ hw), good_of_word (List.all_eq_true.mp gw_wsX20 w hw)⟩
set_option maxRecDepth 20000 in
theorem ggX5_mark_X5_freshViews : GoodIn wsX5_mark wsX5_freshViews := goodIn_ca (goodIn_ca (goodIn_ca (goodIn_ca (goodIn_r _ [18, 19, 1, 20, 21, 22, 23, 24, 25, 26, 27, 28, 29, 30, 31, 32, 33, 34, 35, 36, 37, 38, 39, 40, 41, 42, 43, 44, 45, 46, 47, 48, 49, 50, 51] rfl (by decide +kernel)) gt_wsX5_mark_wsX50) gt_wsX5_mark_wsX40) gt_wsX5_mark_wsX00) gt_wsX5_mark_wsX20
set_option maxRecDepth 20000 in
theorem gX5_mark_X5_freshViews : GoodIn wsX5_mark (wsV RX5 112 RX5 yX5_freshViews wsX5_freshViews) := goodIn_app (goodIn_r _ [14, 15, 16, 17] rfl (by decide +kernel)) ggX5_mark_X5_freshViews
set_option maxRecDepth 20000 in
theorem ggX5_mark_X4_markOf : GoodIn wsX5_mark wsX4_markOf := goodIn_ca (goodIn_r _ [55, 33] rfl (by decide +kernel)) gt_wsX5_mark_wsX40
set_option maxRecDepth 20000 in
theorem gX5_mark_X4_markOf : GoodIn wsX5_mark (wsV RX5 116 RX4 yX4_markOf wsX4_markOf) := goodIn_app (goodIn_r _ [52, 53, 54, 23] rfl (by decide +kernel)) ggX5_mark_X4_markOf
theorem dX5_mark_0_t : dqK cX5_mark.data.toList 0 [(0, .aload_n 0, 1), (1, .getfield 10, 3), (4, .iload_n 1, 1), (5, .invokevirtual 105, 3), (8, .ifCond .eq 14, 3), (11, .aload_n 0, 1), (12, .getfield 10, 3), (15, .iload_n 2, 1), (16, .invokevirtual 109, 3), (19, .ifCond .ne 5, 3), (22, .iconst (-1), 1), (23, .ireturn, 1), (24, .aload_n 0, 1), (25, .invokevirtual 112, 3), (28, .iload_n 1, 1), (29, .iload_n 2, 1), (30, .invokevirtual 116, 3), (33, .ireturn, 1)] = true := by decide +kernel
theorem dX5_mark_0 : decode cX5_mark 0 = .ok (.aload_n 0, 1) := dq_get dX5_mark_0_t 0 rfl
theorem dX5_mark_1 : decode cX5_mark 1 = .ok (.getfield 10, 3) := dq_get dX5_mark_0_t 1 rfl
theorem dX5_mark_4 : decode cX5_mark 4 = .ok (.iload_n 1, 1) := dq_get dX5_mark_0_t 2 rfl
theorem dX5_mark_5 : decode cX5_mark 5 = .ok (.invokevirtual 105, 3) := dq_get dX5_mark_0_t 3 rfl
theorem dX5_mark_8 : decode cX5_mark 8 = .ok (.ifCond .eq 14, 3) := dq_get dX5_mark_0_t 4 rfl
theorem dX5_mark_11 : decode cX5_mark 11 = .ok (.aload_n 0, 1) := dq_get dX5_mark_0_t 5 rfl
theorem dX5_mark_12 : decode cX5_mark 12 = .ok (.getfield 10, 3) := dq_get dX5_mark_0_t 6 rfl
theorem dX5_mark_15 : decode cX5_mark 15 = .ok (.iload_n 2, 1) := dq_get dX5_mark_0_t 7 rfl
theorem dX5_mark_16 : decode cX5_mark 16 = .ok (.invokevirtual 109, 3) := dq_get dX5_mark_0_t 8 rfl
theorem dX5_mark_19 : decode cX5_mark 19 = .ok (.ifCond .ne 5, 3) := dq_get dX5_mark_0_t 9 rfl
theorem dX5_mark_22 : decode cX5_mark 22 = .ok (.iconst (-1), 1) := dq_get dX5_mark_0_t 10 rfl
theorem dX5_mark_23 : decode cX5_mark 23 = .ok (.ireturn, 1) := dq_get dX5_mark_0_t 11 rfl
theorem dX5_mark_24 : decode cX5_mark 24 = .ok (.aload_n 0, 1) := dq_get dX5_mark_0_t 12 rfl
theorem dX5_mark_25 : decode cX5_mark 25 = .ok (.invokevirtual 112, 3) := dq_get dX5_mark_0_t 13 rfl
theorem dX5_mark_28 : decode cX5_mark 28 = .ok (.iload_n 1, 1) := dq_get dX5_mark_0_t 14 rfl
theorem dX5_mark_29 : decode cX5_mark 29 = .ok (.iload_n 2, 1) := dq_get dX5_mark_0_t 15 rfl
theorem dX5_mark_30 : decode cX5_mark 30 = .ok (.invokevirtual 116, 3) := dq_get dX5_mark_0_t 16 rfl
theorem dX5_mark_33 : decode cX5_mark 33 = .ok (.ireturn, 1) := dq_get dX5_mark_0_t 17 rfl
theorem gt_wsX5_change_wsX20 : GoodIn wsX5_change wsX20 := fun w hw => ⟨List.mem_cons_of_mem _ (List.mem_append_right _ hw), good_of_word (List.all_eq_true.mp gw_wsX20 w hw)⟩
set_option maxRecDepth 20000 in
theorem ggX5_change_X2_has : GoodIn wsX5_change wsX2_has := goodIn_ca (goodIn_r _ [6, 7] rfl (by decide +kernel)) gt_wsX5_change_wsX20
set_option maxRecDepth 20000 in
theorem gX5_change_X2_has : GoodIn wsX5_change (wsV RX5 120 RX2 yX2_has wsX2_has) := goodIn_app (goodIn_r _ [2, 3, 4, 5] rfl (by decide +kernel)) ggX5_change_X2_has
set_option maxRecDepth 20000 in
theorem ggX5_change_X2_number : GoodIn wsX5_change wsX2_number := goodIn_ca (goodIn_r _ [11, 12] rfl (by decide +kernel)) gt_wsX5_change_wsX20
set_option maxRecDepth 20000 in
theorem gX5_change_X2_number : GoodIn wsX5_change (wsV RX5 123 RX2 yX2_number wsX2_number) := goodIn_app (goodIn_r _ [8, 9, 10, 5] rfl (by decide +kernel)) ggX5_change_X2_number
theorem dX5_change_0_t : dqK cX5_change.data.toList 0 [(0, .aload_n 0, 1), (1, .getfield 10, 3), (4, .getfield 93, 3), (7, .iload_n 1, 1), (8, .invokevirtual 120, 3), (11, .ifCond .eq 12, 3), (14, .iload_n 2, 1), (15, .ifCond .lt 8, 3), (18, .iload_n 2, 1), (19, .iconst 2, 1), (20, .if_icmp .le 5, 3), (23, .iconst (-1), 1), (24, .ireturn, 1), (25, .aload_n 0, 1), (26, .getfield 10, 3), (29, .getfield 93, 3), (32, .iload_n 1, 1), (33, .iload_n 2, 1), (34, .invokevirtual 123, 3), (37, .ireturn, 1)] = true := by decide +kernel
theorem dX5_change_0 : decode cX5_change 0 = .ok (.aload_n 0, 1) := dq_get dX5_change_0_t 0 rfl
theorem dX5_change_1 : decode cX5_change 1 = .ok (.getfield 10, 3) := dq_get dX5_change_0_t 1 rfl
theorem dX5_change_4 : decode cX5_change 4 = .ok (.getfield 93, 3) := dq_get dX5_change_0_t 2 rfl
theorem dX5_change_7 : decode cX5_change 7 = .ok (.iload_n 1, 1) := dq_get dX5_change_0_t 3 rfl
theorem dX5_change_8 : decode cX5_change 8 = .ok (.invokevirtual 120, 3) := dq_get dX5_change_0_t 4 rfl
theorem dX5_change_11 : decode cX5_change 11 = .ok (.ifCond .eq 12, 3) := dq_get dX5_change_0_t 5 rfl
theorem dX5_change_14 : decode cX5_change 14 = .ok (.iload_n 2, 1) := dq_get dX5_change_0_t 6 rfl
theorem dX5_change_15 : decode cX5_change 15 = .ok (.ifCond .lt 8, 3) := dq_get dX5_change_0_t 7 rfl
theorem dX5_change_18 : decode cX5_change 18 = .ok (.iload_n 2, 1) := dq_get dX5_change_0_t 8 rfl
theorem dX5_change_19 : decode cX5_change 19 = .ok (.iconst 2, 1) := dq_get dX5_change_0_t 9 rfl
theorem dX5_change_20 : decode cX5_change 20 = .ok (.if_icmp .le 5, 3) := dq_get dX5_change_0_t 10 rfl
theorem dX5_change_23 : decode cX5_change 23 = .ok (.iconst (-1), 1) := dq_get dX5_change_0_t 11 rfl
theorem dX5_change_24 : decode cX5_change 24 = .ok (.ireturn, 1) := dq_get dX5_change_0_t 12 rfl
theorem dX5_change_25 : decode cX5_change 25 = .ok (.aload_n 0, 1) := dq_get dX5_change_0_t 13 rfl
theorem dX5_change_26 : decode cX5_change 26 = .ok (.getfield 10, 3) := dq_get dX5_change_0_t 14 rfl
theorem dX5_change_29 : decode cX5_change 29 = .ok (.getfield 93, 3) := dq_get dX5_change_0_t 15 rfl
theorem dX5_change_32 : decode cX5_change 32 = .ok (.iload_n 1, 1) := dq_get dX5_change_0_t 16 rfl
theorem dX5_change_33 : decode cX5_change 33 = .ok (.iload_n 2, 1) := dq_get dX5_change_0_t 17 rfl
theorem dX5_change_34 : decode cX5_change 34 = .ok (.invokevirtual 123, 3) := dq_get dX5_change_0_t 18 rfl
theorem dX5_change_37 : decode cX5_change 37 = .ok (.ireturn, 1) := dq_get dX5_change_0_t 19 rfl
theorem gt_wsX5_lens_wsX20 : GoodIn wsX5_lens wsX20 := fun w hw => ⟨List.mem_cons_of_mem _ (List.mem_append_right _ hw), good_of_word (List.all_eq_true.mp gw_wsX20 w hw)⟩
set_option maxRecDepth 20000 in
theorem ggX5_lens_X2_has : GoodIn wsX5_lens wsX2_has := goodIn_ca (goodIn_r _ [6, 7] rfl (by decide +kernel)) gt_wsX5_lens_wsX20
set_option maxRecDepth 20000 in
theorem gX5_lens_X2_has : GoodIn wsX5_lens (wsV RX5 120 RX2 yX2_has wsX2_has) := goodIn_app (goodIn_r _ [2, 3, 4, 5] rfl (by decide +kernel)) ggX5_lens_X2_has
set_option maxRecDepth 20000 in
theorem ggX5_lens_X5_isChoice : GoodIn wsX5_lens wsX5_isChoice := goodIn_r _ [11] rfl (by decide +kernel)
set_option maxRecDepth 20000 in
theorem gX5_lens_X5_isChoice : GoodIn wsX5_lens (va_wsS RX5 126 yX5_isChoice wsX5_isChoice) := goodIn_app (goodIn_r _ [8, 9, 10] rfl (by decide +kernel)) ggX5_lens_X5_isChoice
set_option maxRecDepth 20000 in
theorem ggX5_lens_X2_number : GoodIn wsX5_lens wsX2_number := goodIn_ca (goodIn_r _ [15, 16] rfl (by decide +kernel)) gt_wsX5_lens_wsX20
set_option maxRecDepth 20000 in
theorem gX5_lens_X2_number : GoodIn wsX5_lens (wsV RX5 123 RX2 yX2_number wsX2_number) := goodIn_app (goodIn_r _ [12, 13, 14, 5] rfl (by decide +kernel)) ggX5_lens_X2_number
theorem dX5_lens_0_t : dqK cX5_lens.data.toList 0 [(0, .aload_n 0, 1), (1, .getfield 10, 3), (4, .getfield 102, 3), (7, .iload_n 1, 1), (8, .invokevirtual 120, 3), (11, .ifCond .eq 10, 3), (14, .iload_n 2, 1), (15, .invokestatic 126, 3), (18, .ifCond .ne 5, 3), (21, .iconst (-1), 1), (22, .ireturn, 1), (23, .aload_n 0, 1), (24, .getfield 10, 3), (27, .getfield 102, 3), (30, .iload_n 1, 1), (31, .iload_n 2, 1), (32, .invokevirtual 123, 3), (35, .ireturn, 1)] = true := by decide +kernel
theorem dX5_lens_0 : decode cX5_lens 0 = .ok (.aload_n 0, 1) := dq_get dX5_lens_0_t 0 rfl
theorem dX5_lens_1 : decode cX5_lens 1 = .ok (.getfield 10, 3) := dq_get dX5_lens_0_t 1 rfl
theorem dX5_lens_4 : decode cX5_lens 4 = .ok (.getfield 102, 3) := dq_get dX5_lens_0_t 2 rfl
theorem dX5_lens_7 : decode cX5_lens 7 = .ok (.iload_n 1, 1) := dq_get dX5_lens_0_t 3 rfl
theorem dX5_lens_8 : decode cX5_lens 8 = .ok (.invokevirtual 120, 3) := dq_get dX5_lens_0_t 4 rfl
theorem dX5_lens_11 : decode cX5_lens 11 = .ok (.ifCond .eq 10, 3) := dq_get dX5_lens_0_t 5 rfl
theorem dX5_lens_14 : decode cX5_lens 14 = .ok (.iload_n 2, 1) := dq_get dX5_lens_0_t 6 rfl
theorem dX5_lens_15 : decode cX5_lens 15 = .ok (.invokestatic 126, 3) := dq_get dX5_lens_0_t 7 rfl
theorem dX5_lens_18 : decode cX5_lens 18 = .ok (.ifCond .ne 5, 3) := dq_get dX5_lens_0_t 8 rfl
theorem dX5_lens_21 : decode cX5_lens 21 = .ok (.iconst (-1), 1) := dq_get dX5_lens_0_t 9 rfl
theorem dX5_lens_22 : decode cX5_lens 22 = .ok (.ireturn, 1) := dq_get dX5_lens_0_t 10 rfl
theorem dX5_lens_23 : decode cX5_lens 23 = .ok (.aload_n 0, 1) := dq_get dX5_lens_0_t 11 rfl
theorem dX5_lens_24 : decode cX5_lens 24 = .ok (.getfield 10, 3) := dq_get dX5_lens_0_t 12 rfl
theorem dX5_lens_27 : decode cX5_lens 27 = .ok (.getfield 102, 3) := dq_get dX5_lens_0_t 13 rfl
theorem dX5_lens_30 : decode cX5_lens 30 = .ok (.iload_n 1, 1) := dq_get dX5_lens_0_t 14 rfl
theorem dX5_lens_31 : decode cX5_lens 31 = .ok (.iload_n 2, 1) := dq_get dX5_lens_0_t 15 rfl
theorem dX5_lens_32 : decode cX5_lens 32 = .ok (.invokevirtual 123, 3) := dq_get dX5_lens_0_t 16 rfl
theorem dX5_lens_35 : decode cX5_lens 35 = .ok (.ireturn, 1) := dq_get dX5_lens_0_t 17 rfl
theorem gt_wsX5_first_wsX00 : GoodIn wsX5_first wsX00 := fun w hw => ⟨List.mem_cons_of_mem _ (List.mem_append_left _ (List.mem_append_right _ hw)), good_of_word (List.all_eq_true.mp gw_wsX00 w hw)⟩
set_option maxRecDepth 20000 in
theorem ggX5_first_X0_hasCell : GoodIn wsX5_first wsX0_hasCell := goodIn_ca (goodIn_r _ [7, 8, 9] rfl (by decide +kernel)) gt_wsX5_first_wsX00
set_option maxRecDepth 20000 in
theorem gX5_first_X0_hasCell : GoodIn wsX5_first (wsV RX5 105 RX0 yX0_hasCell wsX0_hasCell) := goodIn_app (goodIn_r _ [3, 4, 5, 6] rfl (by decide +kernel)) ggX5_first_X0_hasCell
set_option maxRecDepth 20000 in
theorem ggX5_first_X5_isMark : GoodIn wsX5_first wsX5_isMark := goodIn_r _ [13] rfl (by decide +kernel)
set_option maxRecDepth 20000 in
theorem gX5_first_X5_isMark : GoodIn wsX5_first (va_wsS RX5 129 yX5_isMark wsX5_isMark) := goodIn_app (goodIn_r _ [10, 11, 12] rfl (by decide +kernel)) ggX5_first_X5_isMark
theorem dX5_first_0_t : dqK cX5_first.data.toList 0 [(0, .aload_n 0, 1), (1, .getfield 10, 3), (4, .iload_n 1, 1), (5, .invokevirtual 105, 3), (8, .ifCond .eq 10, 3), (11, .iload_n 2, 1), (12, .invokestatic 129, 3), (15, .ifCond .ne 5, 3), (18, .iconst (-1), 1), (19, .ireturn, 1), (20, .aload_n 0, 1), (21, .getfield 10, 3), (24, .getfield 132, 3), (27, .iload_n 1, 1), (28, .iaload, 1), (29, .istore_n 3, 1), (30, .aload_n 0, 1), (31, .getfield 10, 3), (34, .getfield 132, 3), (37, .iload_n 1, 1), (38, .iload_n 2, 1), (39, .iastore, 1), (40, .aload_n 0, 1), (41, .getfield 27, 3), (44, .iconst 1, 1), (45, .putfield 77, 3), (48, .iload_n 3, 1), (49, .ireturn, 1)] = true := by decide +kernel
theorem dX5_first_0 : decode cX5_first 0 = .ok (.aload_n 0, 1) := dq_get dX5_first_0_t 0 rfl
theorem dX5_first_1 : decode cX5_first 1 = .ok (.getfield 10, 3) := dq_get dX5_first_0_t 1 rfl
theorem dX5_first_4 : decode cX5_first 4 = .ok (.iload_n 1, 1) := dq_get dX5_first_0_t 2 rfl
theorem dX5_first_5 : decode cX5_first 5 = .ok (.invokevirtual 105, 3) := dq_get dX5_first_0_t 3 rfl
theorem dX5_first_8 : decode cX5_first 8 = .ok (.ifCond .eq 10, 3) := dq_get dX5_first_0_t 4 rfl
theorem dX5_first_11 : decode cX5_first 11 = .ok (.iload_n 2, 1) := dq_get dX5_first_0_t 5 rfl
theorem dX5_first_12 : decode cX5_first 12 = .ok (.invokestatic 129, 3) := dq_get dX5_first_0_t 6 rfl
theorem dX5_first_15 : decode cX5_first 15 = .ok (.ifCond .ne 5, 3) := dq_get dX5_first_0_t 7 rfl
theorem dX5_first_18 : decode cX5_first 18 = .ok (.iconst (-1), 1) := dq_get dX5_first_0_t 8 rfl
theorem dX5_first_19 : decode cX5_first 19 = .ok (.ireturn, 1) := dq_get dX5_first_0_t 9 rfl
theorem dX5_first_20 : decode cX5_first 20 = .ok (.aload_n 0, 1) := dq_get dX5_first_0_t 10 rfl
theorem dX5_first_21 : decode cX5_first 21 = .ok (.getfield 10, 3) := dq_get dX5_first_0_t 11 rfl
theorem dX5_first_24 : decode cX5_first 24 = .ok (.getfield 132, 3) := dq_get dX5_first_0_t 12 rfl
theorem dX5_first_27 : decode cX5_first 27 = .ok (.iload_n 1, 1) := dq_get dX5_first_0_t 13 rfl
theorem dX5_first_28 : decode cX5_first 28 = .ok (.iaload, 1) := dq_get dX5_first_0_t 14 rfl
theorem dX5_first_29 : decode cX5_first 29 = .ok (.istore_n 3, 1) := dq_get dX5_first_0_t 15 rfl
theorem dX5_first_30 : decode cX5_first 30 = .ok (.aload_n 0, 1) := dq_get dX5_first_0_t 16 rfl
theorem dX5_first_31 : decode cX5_first 31 = .ok (.getfield 10, 3) := dq_get dX5_first_0_t 17 rfl
theorem dX5_first_34 : decode cX5_first 34 = .ok (.getfield 132, 3) := dq_get dX5_first_0_t 18 rfl
theorem dX5_first_37 : decode cX5_first 37 = .ok (.iload_n 1, 1) := dq_get dX5_first_0_t 19 rfl
theorem dX5_first_38 : decode cX5_first 38 = .ok (.iload_n 2, 1) := dq_get dX5_first_0_t 20 rfl
theorem dX5_first_39 : decode cX5_first 39 = .ok (.iastore, 1) := dq_get dX5_first_0_t 21 rfl
theorem dX5_first_40 : decode cX5_first 40 = .ok (.aload_n 0, 1) := dq_get dX5_first_0_t 22 rfl
theorem dX5_first_41 : decode cX5_first 41 = .ok (.getfield 27, 3) := dq_get dX5_first_0_t 23 rfl
theorem dX5_first_44 : decode cX5_first 44 = .ok (.iconst 1, 1) := dq_get dX5_first_0_t 24 rfl
theorem dX5_first_45 : decode cX5_first 45 = .ok (.putfield 77, 3) := dq_get dX5_first_0_t 25 rfl
theorem dX5_first_48 : decode cX5_first 48 = .ok (.iload_n 3, 1) := dq_get dX5_first_0_t 26 rfl
theorem dX5_first_49 : decode cX5_first 49 = .ok (.ireturn, 1) := dq_get dX5_first_0_t 27 rfl
theorem gt_wsX5_turn_wsX00 : GoodIn wsX5_turn wsX00 := fun w hw => ⟨List.mem_cons_of_mem _ (List.mem_append_left _ (List.mem_append_right _ hw)), good_of_word (List.all_eq_true.mp gw_wsX00 w hw)⟩
theorem gt_wsX5_turn_wsX20 : GoodIn wsX5_turn wsX20 := fun w hw => ⟨List.mem_cons_of_mem _ (List.mem_append_right _ hw), good_of_word (List.all_eq_true.mp gw_wsX20 w hw)⟩
set_option maxRecDepth 20000 in
theorem ggX5_turn_X0_takeChange : GoodIn wsX5_turn wsX0_takeChange := goodIn_ca (goodIn_ca (goodIn_r _ [7, 8, 9, 10, 11, 6, 12, 13, 14, 15, 16, 17, 18, 19, 20, 21, 22, 23, 24, 25, 26, 27, 28, 29, 30] rfl (by decide +kernel)) gt_wsX5_turn_wsX00) gt_wsX5_turn_wsX20
set_option maxRecDepth 20000 in
theorem gX5_turn_X0_takeChange : GoodIn wsX5_turn (wsV RX5 135 RX0 yX0_takeChange wsX0_takeChange) := goodIn_app (goodIn_r _ [3, 4, 5, 6] rfl (by decide +kernel)) ggX5_turn_X0_takeChange
theorem dX5_turn_0_t : dqK cX5_turn.data.toList 0 [(0, .aload_n 0, 1), (1, .getfield 10, 3), (4, .iload_n 1, 1), (5, .iload_n 2, 1), (6, .iload_n 3, 1), (7, .invokevirtual 135, 3), (10, .istore 4, 2), (12, .aload_n 0, 1), (13, .getfield 27, 3), (16, .iconst 1, 1), (17, .putfield 77, 3), (20, .iload 4, 2), (22, .ireturn, 1)] = true := by decide +kernel
theorem dX5_turn_0 : decode cX5_turn 0 = .ok (.aload_n 0, 1) := dq_get dX5_turn_0_t 0 rfl
theorem dX5_turn_1 : decode cX5_turn 1 = .ok (.getfield 10, 3) := dq_get dX5_turn_0_t 1 rfl
theorem dX5_turn_4 : decode cX5_turn 4 = .ok (.iload_n 1, 1) := dq_get dX5_turn_0_t 2 rfl
theorem dX5_turn_5 : decode cX5_turn 5 = .ok (.iload_n 2, 1) := dq_get dX5_turn_0_t 3 rfl
theorem dX5_turn_6 : decode cX5_turn 6 = .ok (.iload_n 3, 1) := dq_get dX5_turn_0_t 4 rfl
theorem dX5_turn_7 : decode cX5_turn 7 = .ok (.invokevirtual 135, 3) := dq_get dX5_turn_0_t 5 rfl
theorem dX5_turn_10 : decode cX5_turn 10 = .ok (.istore 4, 2) := dq_get dX5_turn_0_t 6 rfl
theorem dX5_turn_12 : decode cX5_turn 12 = .ok (.aload_n 0, 1) := dq_get dX5_turn_0_t 7 rfl
theorem dX5_turn_13 : decode cX5_turn 13 = .ok (.getfield 27, 3) := dq_get dX5_turn_0_t 8 rfl
theorem dX5_turn_16 : decode cX5_turn 16 = .ok (.iconst 1, 1) := dq_get dX5_turn_0_t 9 rfl
theorem dX5_turn_17 : decode cX5_turn 17 = .ok (.putfield 77, 3) := dq_get dX5_turn_0_t 10 rfl
theorem dX5_turn_20 : decode cX5_turn 20 = .ok (.iload 4, 2) := dq_get dX5_turn_0_t 11 rfl
theorem dX5_turn_22 : decode cX5_turn 22 = .ok (.ireturn, 1) := dq_get dX5_turn_0_t 12 rfl
set_option maxRecDepth 20000 in
theorem ggX5_cut_X5_isChoice : GoodIn wsX5_cut wsX5_isChoice := goodIn_r _ [6] rfl (by decide +kernel)
set_option maxRecDepth 20000 in
theorem gX5_cut_X5_isChoice : GoodIn wsX5_cut (va_wsS RX5 126 yX5_isChoice wsX5_isChoice) := goodIn_app (goodIn_r _ [3, 4, 5] rfl (by decide +kernel)) ggX5_cut_X5_isChoice
theorem gt_wsX5_cut_wsX20 : GoodIn wsX5_cut wsX20 := fun w hw => ⟨List.mem_cons_of_mem _ (List.mem_append_right _ hw), good_of_word (List.all_eq_true.mp gw_wsX20 w hw)⟩
set_option maxRecDepth 20000 in
theorem ggX5_cut_X2_shorten : GoodIn wsX5_cut wsX2_shorten := goodIn_ca (goodIn_r _ [11, 12] rfl (by decide +kernel)) gt_wsX5_cut_wsX20
set_option maxRecDepth 20000 in
theorem gX5_cut_X2_shorten : GoodIn wsX5_cut (wsV RX5 139 RX2 yX2_shorten wsX2_shorten) := goodIn_app (goodIn_r _ [7, 8, 9, 10] rfl (by decide +kernel)) ggX5_cut_X2_shorten
theorem dX5_cut_0_t : dqK cX5_cut.data.toList 0 [(0, .iload_n 1, 1), (1, .invokestatic 126, 3), (4, .ifCond .ne 5, 3), (7, .iconst (-1), 1), (8, .ireturn, 1), (9, .iload_n 1, 1), (10, .ifCond .ne 13, 3), (13, .aload_n 0, 1), (14, .getfield 10, 3), (17, .getfield 93, 3), (20, .goto 10, 3), (23, .aload_n 0, 1), (24, .getfield 10, 3), (27, .getfield 102, 3), (30, .astore_n 3, 1), (31, .aload_n 0, 1), (32, .getfield 27, 3), (35, .iconst 1, 1), (36, .putfield 77, 3), (39, .aload_n 3, 1), (40, .iload_n 2, 1), (41, .invokevirtual 139, 3), (44, .ireturn, 1)] = true := by decide +kernel
theorem dX5_cut_0 : decode cX5_cut 0 = .ok (.iload_n 1, 1) := dq_get dX5_cut_0_t 0 rfl
theorem dX5_cut_1 : decode cX5_cut 1 = .ok (.invokestatic 126, 3) := dq_get dX5_cut_0_t 1 rfl
theorem dX5_cut_4 : decode cX5_cut 4 = .ok (.ifCond .ne 5, 3) := dq_get dX5_cut_0_t 2 rfl
theorem dX5_cut_7 : decode cX5_cut 7 = .ok (.iconst (-1), 1) := dq_get dX5_cut_0_t 3 rfl
theorem dX5_cut_8 : decode cX5_cut 8 = .ok (.ireturn, 1) := dq_get dX5_cut_0_t 4 rfl
theorem dX5_cut_9 : decode cX5_cut 9 = .ok (.iload_n 1, 1) := dq_get dX5_cut_0_t 5 rfl
theorem dX5_cut_10 : decode cX5_cut 10 = .ok (.ifCond .ne 13, 3) := dq_get dX5_cut_0_t 6 rfl
theorem dX5_cut_13 : decode cX5_cut 13 = .ok (.aload_n 0, 1) := dq_get dX5_cut_0_t 7 rfl
theorem dX5_cut_14 : decode cX5_cut 14 = .ok (.getfield 10, 3) := dq_get dX5_cut_0_t 8 rfl
theorem dX5_cut_17 : decode cX5_cut 17 = .ok (.getfield 93, 3) := dq_get dX5_cut_0_t 9 rfl
theorem dX5_cut_20 : decode cX5_cut 20 = .ok (.goto 10, 3) := dq_get dX5_cut_0_t 10 rfl
theorem dX5_cut_23 : decode cX5_cut 23 = .ok (.aload_n 0, 1) := dq_get dX5_cut_0_t 11 rfl
theorem dX5_cut_24 : decode cX5_cut 24 = .ok (.getfield 10, 3) := dq_get dX5_cut_0_t 12 rfl
theorem dX5_cut_27 : decode cX5_cut 27 = .ok (.getfield 102, 3) := dq_get dX5_cut_0_t 13 rfl
theorem dX5_cut_30 : decode cX5_cut 30 = .ok (.astore_n 3, 1) := dq_get dX5_cut_0_t 14 rfl
theorem dX5_cut_31 : decode cX5_cut 31 = .ok (.aload_n 0, 1) := dq_get dX5_cut_0_t 15 rfl
theorem dX5_cut_32 : decode cX5_cut 32 = .ok (.getfield 27, 3) := dq_get dX5_cut_0_t 16 rfl
theorem dX5_cut_35 : decode cX5_cut 35 = .ok (.iconst 1, 1) := dq_get dX5_cut_0_t 17 rfl
theorem dX5_cut_36 : decode cX5_cut 36 = .ok (.putfield 77, 3) := dq_get dX5_cut_0_t 18 rfl
theorem dX5_cut_39 : decode cX5_cut 39 = .ok (.aload_n 3, 1) := dq_get dX5_cut_0_t 19 rfl
theorem dX5_cut_40 : decode cX5_cut 40 = .ok (.iload_n 2, 1) := dq_get dX5_cut_0_t 20 rfl
theorem dX5_cut_41 : decode cX5_cut 41 = .ok (.invokevirtual 139, 3) := dq_get dX5_cut_0_t 21 rfl
theorem dX5_cut_44 : decode cX5_cut 44 = .ok (.ireturn, 1) := dq_get dX5_cut_0_t 22 rfl
theorem gt_wsX5_grind_wsX00 : GoodIn wsX5_grind wsX00 := fun w hw => ⟨List.mem_cons_of_mem _ (List.mem_append_left _ (List.mem_append_right _ hw)), good_of_word (List.all_eq_true.mp gw_wsX00 w hw)⟩
set_option maxRecDepth 20000 in
theorem ggX5_grind_X0_hasDay : GoodIn wsX5_grind wsX0_hasDay := goodIn_ca (goodIn_r _ [6, 7] rfl (by decide +kernel)) gt_wsX5_grind_wsX00
set_option maxRecDepth 20000 in
theorem gX5_grind_X0_hasDay : GoodIn wsX5_grind (wsV RX5 109 RX0 yX0_hasDay wsX0_hasDay) := goodIn_app (goodIn_r _ [2, 3, 4, 5] rfl (by decide +kernel)) ggX5_grind_X0_hasDay
set_option maxRecDepth 20000 in
theorem ggX5_grind_X0_cells : GoodIn wsX5_grind wsX0_cells := goodIn_ca (goodIn_r _ [11, 12, 13] rfl (by decide +kernel)) gt_wsX5_grind_wsX00
set_option maxRecDepth 20000 in
theorem gX5_grind_X0_cells : GoodIn wsX5_grind (wsV RX5 140 RX0 yX0_cells wsX0_cells) := goodIn_app (goodIn_r _ [8, 9, 10, 5] rfl (by decide +kernel)) ggX5_grind_X0_cells
theorem gt_wsX5_grind_wsX20 : GoodIn wsX5_grind wsX20 := fun w hw => ⟨List.mem_cons_of_mem _ (List.mem_append_right _ hw), good_of_word (List.all_eq_true.mp gw_wsX20 w hw)⟩
set_option maxRecDepth 20000 in
theorem ggX5_grind_X2_add : GoodIn wsX5_grind wsX2_add := goodIn_ca (goodIn_r _ [18, 19, 20, 21] rfl (by decide +kernel)) gt_wsX5_grind_wsX20
set_option maxRecDepth 20000 in
theorem gX5_grind_X2_add : GoodIn wsX5_grind (wsV RX5 143 RX2 yX2_add wsX2_add) := goodIn_app (goodIn_r _ [14, 15, 16, 17] rfl (by decide +kernel)) ggX5_grind_X2_add
theorem dX5_grind_0_t : dqK cX5_grind.data.toList 0 [(0, .aload_n 0, 1), (1, .getfield 10, 3), (4, .iload_n 1, 1), (5, .invokevirtual 109, 3), (8, .ifCond .eq 15, 3), (11, .iload_n 2, 1), (12, .aload_n 0, 1), (13, .getfield 10, 3), (16, .invokevirtual 140, 3), (19, .iushr, 1), (20, .ifCond .eq 5, 3), (23, .iconst (-1), 1), (24, .ireturn, 1), (25, .aload_n 0, 1), (26, .getfield 10, 3), (29, .getfield 102, 3), (32, .iload_n 1, 1), (33, .iload_n 2, 1), (34, .iconst 0, 1), (35, .invokevirtual 143, 3), (38, .ireturn, 1)] = true := by decide +kernel
theorem dX5_grind_0 : decode cX5_grind 0 = .ok (.aload_n 0, 1) := dq_get dX5_grind_0_t 0 rfl
theorem dX5_grind_1 : decode cX5_grind 1 = .ok (.getfield 10, 3) := dq_get dX5_grind_0_t 1 rfl
theorem dX5_grind_4 : decode cX5_grind 4 = .ok (.iload_n 1, 1) := dq_get dX5_grind_0_t 2 rfl
theorem dX5_grind_5 : decode cX5_grind 5 = .ok (.invokevirtual 109, 3) := dq_get dX5_grind_0_t 3 rfl
theorem dX5_grind_8 : decode cX5_grind 8 = .ok (.ifCond .eq 15, 3) := dq_get dX5_grind_0_t 4 rfl
theorem dX5_grind_11 : decode cX5_grind 11 = .ok (.iload_n 2, 1) := dq_get dX5_grind_0_t 5 rfl
theorem dX5_grind_12 : decode cX5_grind 12 = .ok (.aload_n 0, 1) := dq_get dX5_grind_0_t 6 rfl
theorem dX5_grind_13 : decode cX5_grind 13 = .ok (.getfield 10, 3) := dq_get dX5_grind_0_t 7 rfl
theorem dX5_grind_16 : decode cX5_grind 16 = .ok (.invokevirtual 140, 3) := dq_get dX5_grind_0_t 8 rfl
theorem dX5_grind_19 : decode cX5_grind 19 = .ok (.iushr, 1) := dq_get dX5_grind_0_t 9 rfl
theorem dX5_grind_20 : decode cX5_grind 20 = .ok (.ifCond .eq 5, 3) := dq_get dX5_grind_0_t 10 rfl
theorem dX5_grind_23 : decode cX5_grind 23 = .ok (.iconst (-1), 1) := dq_get dX5_grind_0_t 11 rfl
theorem dX5_grind_24 : decode cX5_grind 24 = .ok (.ireturn, 1) := dq_get dX5_grind_0_t 12 rfl
theorem dX5_grind_25 : decode cX5_grind 25 = .ok (.aload_n 0, 1) := dq_get dX5_grind_0_t 13 rfl
theorem dX5_grind_26 : decode cX5_grind 26 = .ok (.getfield 10, 3) := dq_get dX5_grind_0_t 14 rfl
theorem dX5_grind_29 : decode cX5_grind 29 = .ok (.getfield 102, 3) := dq_get dX5_grind_0_t 15 rfl
theorem dX5_grind_32 : decode cX5_grind 32 = .ok (.iload_n 1, 1) := dq_get dX5_grind_0_t 16 rfl
theorem dX5_grind_33 : decode cX5_grind 33 = .ok (.iload_n 2, 1) := dq_get dX5_grind_0_t 17 rfl
theorem dX5_grind_34 : decode cX5_grind 34 = .ok (.iconst 0, 1) := dq_get dX5_grind_0_t 18 rfl
theorem dX5_grind_35 : decode cX5_grind 35 = .ok (.invokevirtual 143, 3) := dq_get dX5_grind_0_t 19 rfl
theorem dX5_grind_38 : decode cX5_grind 38 = .ok (.ireturn, 1) := dq_get dX5_grind_0_t 20 rfl
theorem gt_wsX5_regrind_wsX20 : GoodIn wsX5_regrind wsX20 := fun w hw => ⟨List.mem_cons_of_mem _ (List.mem_append_right _ hw), good_of_word (List.all_eq_true.mp gw_wsX20 w hw)⟩
set_option maxRecDepth 20000 in
theorem ggX5_regrind_X2_has : GoodIn wsX5_regrind wsX2_has := goodIn_ca (goodIn_r _ [6, 7] rfl (by decide +kernel)) gt_wsX5_regrind_wsX20
set_option maxRecDepth 20000 in
theorem gX5_regrind_X2_has : GoodIn wsX5_regrind (wsV RX5 120 RX2 yX2_has wsX2_has) := goodIn_app (goodIn_r _ [2, 3, 4, 5] rfl (by decide +kernel)) ggX5_regrind_X2_has
theorem gt_wsX5_regrind_wsX00 : GoodIn wsX5_regrind wsX00 := fun w hw => ⟨List.mem_cons_of_mem _ (List.mem_append_left _ (List.mem_append_right _ hw)), good_of_word (List.all_eq_true.mp gw_wsX00 w hw)⟩
set_option maxRecDepth 20000 in
theorem ggX5_regrind_X0_hasDay : GoodIn wsX5_regrind wsX0_hasDay := goodIn_ca (goodIn_r _ [12, 13] rfl (by decide +kernel)) gt_wsX5_regrind_wsX00
set_option maxRecDepth 20000 in
theorem gX5_regrind_X0_hasDay : GoodIn wsX5_regrind (wsV RX5 109 RX0 yX0_hasDay wsX0_hasDay) := goodIn_app (goodIn_r _ [8, 9, 10, 11] rfl (by decide +kernel)) ggX5_regrind_X0_hasDay
set_option maxRecDepth 20000 in
theorem ggX5_regrind_X2_replace : GoodIn wsX5_regrind wsX2_replace := goodIn_ca (goodIn_r _ [17, 18] rfl (by decide +kernel)) gt_wsX5_regrind_wsX20
set_option maxRecDepth 20000 in
theorem gX5_regrind_X2_replace : GoodIn wsX5_regrind (wsV RX5 146 RX2 yX2_replace wsX2_replace) := goodIn_app (goodIn_r _ [14, 15, 16, 5] rfl (by decide +kernel)) ggX5_regrind_X2_replace
theorem dX5_regrind_0_t : dqK cX5_regrind.data.toList 0 [(0, .aload_n 0, 1), (1, .getfield 10, 3), (4, .getfield 102, 3), (7, .iload_n 1, 1), (8, .invokevirtual 120, 3), (11, .ifCond .eq 14, 3), (14, .aload_n 0, 1), (15, .getfield 10, 3), (18, .iload_n 2, 1), (19, .invokevirtual 109, 3), (22, .ifCond .ne 5, 3), (25, .iconst (-1), 1), (26, .ireturn, 1), (27, .aload_n 0, 1), (28, .getfield 10, 3), (31, .getfield 102, 3), (34, .iload_n 1, 1), (35, .iconst 0, 1), (36, .iload_n 2, 1), (37, .invokevirtual 146, 3), (40, .ireturn, 1)] = true := by decide +kernel
theorem dX5_regrind_0 : decode cX5_regrind 0 = .ok (.aload_n 0, 1) := dq_get dX5_regrind_0_t 0 rfl
theorem dX5_regrind_1 : decode cX5_regrind 1 = .ok (.getfield 10, 3) := dq_get dX5_regrind_0_t 1 rfl
theorem dX5_regrind_4 : decode cX5_regrind 4 = .ok (.getfield 102, 3) := dq_get dX5_regrind_0_t 2 rfl
theorem dX5_regrind_7 : decode cX5_regrind 7 = .ok (.iload_n 1, 1) := dq_get dX5_regrind_0_t 3 rfl
theorem dX5_regrind_8 : decode cX5_regrind 8 = .ok (.invokevirtual 120, 3) := dq_get dX5_regrind_0_t 4 rfl
theorem dX5_regrind_11 : decode cX5_regrind 11 = .ok (.ifCond .eq 14, 3) := dq_get dX5_regrind_0_t 5 rfl
theorem dX5_regrind_14 : decode cX5_regrind 14 = .ok (.aload_n 0, 1) := dq_get dX5_regrind_0_t 6 rfl
theorem dX5_regrind_15 : decode cX5_regrind 15 = .ok (.getfield 10, 3) := dq_get dX5_regrind_0_t 7 rfl
theorem dX5_regrind_18 : decode cX5_regrind 18 = .ok (.iload_n 2, 1) := dq_get dX5_regrind_0_t 8 rfl
theorem dX5_regrind_19 : decode cX5_regrind 19 = .ok (.invokevirtual 109, 3) := dq_get dX5_regrind_0_t 9 rfl
theorem dX5_regrind_22 : decode cX5_regrind 22 = .ok (.ifCond .ne 5, 3) := dq_get dX5_regrind_0_t 10 rfl
theorem dX5_regrind_25 : decode cX5_regrind 25 = .ok (.iconst (-1), 1) := dq_get dX5_regrind_0_t 11 rfl
theorem dX5_regrind_26 : decode cX5_regrind 26 = .ok (.ireturn, 1) := dq_get dX5_regrind_0_t 12 rfl
theorem dX5_regrind_27 : decode cX5_regrind 27 = .ok (.aload_n 0, 1) := dq_get dX5_regrind_0_t 13 rfl
theorem dX5_regrind_28 : decode cX5_regrind 28 = .ok (.getfield 10, 3) := dq_get dX5_regrind_0_t 14 rfl
theorem dX5_regrind_31 : decode cX5_regrind 31 = .ok (.getfield 102, 3) := dq_get dX5_regrind_0_t 15 rfl
theorem dX5_regrind_34 : decode cX5_regrind 34 = .ok (.iload_n 1, 1) := dq_get dX5_regrind_0_t 16 rfl
theorem dX5_regrind_35 : decode cX5_regrind 35 = .ok (.iconst 0, 1) := dq_get dX5_regrind_0_t 17 rfl
theorem dX5_regrind_36 : decode cX5_regrind 36 = .ok (.iload_n 2, 1) := dq_get dX5_regrind_0_t 18 rfl
theorem dX5_regrind_37 : decode cX5_regrind 37 = .ok (.invokevirtual 146, 3) := dq_get dX5_regrind_0_t 19 rfl
theorem dX5_regrind_40 : decode cX5_regrind 40 = .ok (.ireturn, 1) := dq_get dX5_regrind_0_t 20 rfl
theorem gt_wsX5_crack_wsX20 : GoodIn wsX5_crack wsX20 := fun w hw => ⟨List.mem_cons_of_mem _ (List.mem_append_right _ hw), good_of_word (List.all_eq_true.mp gw_wsX20 w hw)⟩
set_option maxRecDepth 20000 in
theorem ggX5_crack_X2_has : GoodIn wsX5_crack wsX2_has := goodIn_ca (goodIn_r _ [6, 7] rfl (by decide +kernel)) gt_wsX5_crack_wsX20
set_option maxRecDepth 20000 in
theorem gX5_crack_X2_has : GoodIn wsX5_crack (wsV RX5 120 RX2 yX2_has wsX2_has) := goodIn_app (goodIn_r _ [2, 3, 4, 5] rfl (by decide +kernel)) ggX5_crack_X2_has
theorem gt_wsX5_crack_wsX00 : GoodIn wsX5_crack wsX00 := fun w hw => ⟨List.mem_cons_of_mem _ (List.mem_append_left _ (List.mem_append_right _ hw)), good_of_word (List.all_eq_true.mp gw_wsX00 w hw)⟩
set_option maxRecDepth 20000 in
theorem ggX5_crack_X0_hasCell : GoodIn wsX5_crack wsX0_hasCell := goodIn_ca (goodIn_r _ [12, 13, 14] rfl (by decide +kernel)) gt_wsX5_crack_wsX00
set_option maxRecDepth 20000 in
theorem gX5_crack_X0_hasCell : GoodIn wsX5_crack (wsV RX5 105 RX0 yX0_hasCell wsX0_hasCell) := goodIn_app (goodIn_r _ [8, 9, 10, 11] rfl (by decide +kernel)) ggX5_crack_X0_hasCell
set_option maxRecDepth 20000 in
theorem ggX5_crack_X2_number : GoodIn wsX5_crack wsX2_number := goodIn_ca (goodIn_r _ [18, 19] rfl (by decide +kernel)) gt_wsX5_crack_wsX20
set_option maxRecDepth 20000 in
theorem gX5_crack_X2_number : GoodIn wsX5_crack (wsV RX5 123 RX2 yX2_number wsX2_number) := goodIn_app (goodIn_r _ [15, 16, 17, 5] rfl (by decide +kernel)) ggX5_crack_X2_number
set_option maxRecDepth 20000 in
theorem ggX5_crack_X2_replace : GoodIn wsX5_crack wsX2_replace := goodIn_ca (goodIn_r _ [23, 19] rfl (by decide +kernel)) gt_wsX5_crack_wsX20
set_option maxRecDepth 20000 in
theorem gX5_crack_X2_replace : GoodIn wsX5_crack (wsV RX5 146 RX2 yX2_replace wsX2_replace) := goodIn_app (goodIn_r _ [20, 21, 22, 5] rfl (by decide +kernel)) ggX5_crack_X2_replace
theorem dX5_crack_0_t : dqK cX5_crack.data.toList 0 [(0, .aload_n 0, 1), (1, .getfield 10, 3), (4, .getfield 102, 3), (7, .iload_n 1, 1), (8, .invokevirtual 120, 3), (11, .ifCond .eq 14, 3), (14, .aload_n 0, 1), (15, .getfield 10, 3), (18, .iload_n 2, 1), (19, .invokevirtual 105, 3), (22, .ifCond .ne 5, 3), (25, .iconst (-1), 1), (26, .ireturn, 1), (27, .aload_n 0, 1), (28, .getfield 10, 3), (31, .getfield 102, 3), (34, .iload_n 1, 1), (35, .iconst 1, 1), (36, .invokevirtual 123, 3), (39, .istore 4, 2), (41, .iconst 1, 1), (42, .iload_n 2, 1), (43, .ishl, 1), (44, .istore 5, 2), (46, .aload_n 0, 1), (47, .getfield 10, 3), (50, .getfield 102, 3), (53, .iload_n 1, 1), (54, .iconst 1, 1), (55, .iload_n 3, 1), (56, .ifCond .eq 11, 3), (59, .iload 4, 2), (61, .iload 5, 2), (63, .ior, 1), (64, .goto 10, 3), (67, .iload 4, 2), (69, .iload 5, 2), (71, .iconst (-1), 1), (72, .ixor, 1), (73, .iand, 1)] = true := by decide +kernel
theorem dX5_crack_0 : decode cX5_crack 0 = .ok (.aload_n 0, 1) := dq_get dX5_crack_0_t 0 rfl
theorem dX5_crack_1 : decode cX5_crack 1 = .ok (.getfield 10, 3) := dq_get dX5_crack_0_t 1 rfl
theorem dX5_crack_4 : decode cX5_crack 4 = .ok (.getfield 102, 3) := dq_get dX5_crack_0_t 2 rfl
theorem dX5_crack_7 : decode cX5_crack 7 = .ok (.iload_n 1, 1) := dq_get dX5_crack_0_t 3 rfl
theorem dX5_crack_8 : decode cX5_crack 8 = .ok (.invokevirtual 120, 3) := dq_get dX5_crack_0_t 4 rfl
theorem dX5_crack_11 : decode cX5_crack 11 = .ok (.ifCond .eq 14, 3) := dq_get dX5_crack_0_t 5 rfl
theorem dX5_crack_14 : decode cX5_crack 14 = .ok (.aload_n 0, 1) := dq_get dX5_crack_0_t 6 rfl
theorem dX5_crack_15 : decode cX5_crack 15 = .ok (.getfield 10, 3) := dq_get dX5_crack_0_t 7 rfl
theorem dX5_crack_18 : decode cX5_crack 18 = .ok (.iload_n 2, 1) := dq_get dX5_crack_0_t 8 rfl
theorem dX5_crack_19 : decode cX5_crack 19 = .ok (.invokevirtual 105, 3) := dq_get dX5_crack_0_t 9 rfl
theorem dX5_crack_22 : decode cX5_crack 22 = .ok (.ifCond .ne 5, 3) := dq_get dX5_crack_0_t 10 rfl
theorem dX5_crack_25 : decode cX5_crack 25 = .ok (.iconst (-1), 1) := dq_get dX5_crack_0_t 11 rfl
theorem dX5_crack_26 : decode cX5_crack 26 = .ok (.ireturn, 1) := dq_get dX5_crack_0_t 12 rfl
theorem dX5_crack_27 : decode cX5_crack 27 = .ok (.aload_n 0, 1) := dq_get dX5_crack_0_t 13 rfl
theorem dX5_crack_28 : decode cX5_crack 28 = .ok (.getfield 10, 3) := dq_get dX5_crack_0_t 14 rfl
theorem dX5_crack_31 : decode cX5_crack 31 = .ok (.getfield 102, 3) := dq_get dX5_crack_0_t 15 rfl
theorem dX5_crack_34 : decode cX5_crack 34 = .ok (.iload_n 1, 1) := dq_get dX5_crack_0_t 16 rfl
theorem dX5_crack_35 : decode cX5_crack 35 = .ok (.iconst 1, 1) := dq_get dX5_crack_0_t 17 rfl
theorem dX5_crack_36 : decode cX5_crack 36 = .ok (.invokevirtual 123, 3) := dq_get dX5_crack_0_t 18 rfl
theorem dX5_crack_39 : decode cX5_crack 39 = .ok (.istore 4, 2) := dq_get dX5_crack_0_t 19 rfl
theorem dX5_crack_41 : decode cX5_crack 41 = .ok (.iconst 1, 1) := dq_get dX5_crack_0_t 20 rfl
theorem dX5_crack_42 : decode cX5_crack 42 = .ok (.iload_n 2, 1) := dq_get dX5_crack_0_t 21 rfl
theorem dX5_crack_43 : decode cX5_crack 43 = .ok (.ishl, 1) := dq_get dX5_crack_0_t 22 rfl
theorem dX5_crack_44 : decode cX5_crack 44 = .ok (.istore 5, 2) := dq_get dX5_crack_0_t 23 rfl
theorem dX5_crack_46 : decode cX5_crack 46 = .ok (.aload_n 0, 1) := dq_get dX5_crack_0_t 24 rfl
theorem dX5_crack_47 : decode cX5_crack 47 = .ok (.getfield 10, 3) := dq_get dX5_crack_0_t 25 rfl
theorem dX5_crack_50 : decode cX5_crack 50 = .ok (.getfield 102, 3) := dq_get dX5_crack_0_t 26 rfl
theorem dX5_crack_53 : decode cX5_crack 53 = .ok (.iload_n 1, 1) := dq_get dX5_crack_0_t 27 rfl
theorem dX5_crack_54 : decode cX5_crack 54 = .ok (.iconst 1, 1) := dq_get dX5_crack_0_t 28 rfl
theorem dX5_crack_55 : decode cX5_crack 55 = .ok (.iload_n 3, 1) := dq_get dX5_crack_0_t 29 rfl
theorem dX5_crack_56 : decode cX5_crack 56 = .ok (.ifCond .eq 11, 3) := dq_get dX5_crack_0_t 30 rfl
theorem dX5_crack_59 : decode cX5_crack 59 = .ok (.iload 4, 2) := dq_get dX5_crack_0_t 31 rfl
theorem dX5_crack_61 : decode cX5_crack 61 = .ok (.iload 5, 2) := dq_get dX5_crack_0_t 32 rfl
theorem dX5_crack_63 : decode cX5_crack 63 = .ok (.ior, 1) := dq_get dX5_crack_0_t 33 rfl
theorem dX5_crack_64 : decode cX5_crack 64 = .ok (.goto 10, 3) := dq_get dX5_crack_0_t 34 rfl
theorem dX5_crack_67 : decode cX5_crack 67 = .ok (.iload 4, 2) := dq_get dX5_crack_0_t 35 rfl
theorem dX5_crack_69 : decode cX5_crack 69 = .ok (.iload 5, 2) := dq_get dX5_crack_0_t 36 rfl
theorem dX5_crack_71 : decode cX5_crack 71 = .ok (.iconst (-1), 1) := dq_get dX5_crack_0_t 37 rfl
theorem dX5_crack_72 : decode cX5_crack 72 = .ok (.ixor, 1) := dq_get dX5_crack_0_t 38 rfl
theorem dX5_crack_73 : decode cX5_crack 73 = .ok (.iand, 1) := dq_get dX5_crack_0_t 39 rfl
theorem dX5_crack_74_t : dqK cX5_crack.data.toList 0 [(74, .invokevirtual 146, 3), (77, .pop, 1), (78, .iload 4, 2), (80, .iload 5, 2), (82, .iand, 1), (83, .ifCond .eq 7, 3), (86, .iconst 1, 1), (87, .goto 4, 3), (90, .iconst 0, 1), (91, .ireturn, 1)] = true := by decide +kernel
theorem dX5_crack_74 : decode cX5_crack 74 = .ok (.invokevirtual 146, 3) := dq_get dX5_crack_74_t 0 rfl
theorem dX5_crack_77 : decode cX5_crack 77 = .ok (.pop, 1) := dq_get dX5_crack_74_t 1 rfl
theorem dX5_crack_78 : decode cX5_crack 78 = .ok (.iload 4, 2) := dq_get dX5_crack_74_t 2 rfl
theorem dX5_crack_80 : decode cX5_crack 80 = .ok (.iload 5, 2) := dq_get dX5_crack_74_t 3 rfl
theorem dX5_crack_82 : decode cX5_crack 82 = .ok (.iand, 1) := dq_get dX5_crack_74_t 4 rfl
theorem dX5_crack_83 : decode cX5_crack 83 = .ok (.ifCond .eq 7, 3) := dq_get dX5_crack_74_t 5 rfl
theorem dX5_crack_86 : decode cX5_crack 86 = .ok (.iconst 1, 1) := dq_get dX5_crack_74_t 6 rfl
theorem dX5_crack_87 : decode cX5_crack 87 = .ok (.goto 4, 3) := dq_get dX5_crack_74_t 7 rfl
theorem dX5_crack_90 : decode cX5_crack 90 = .ok (.iconst 0, 1) := dq_get dX5_crack_74_t 8 rfl
theorem dX5_crack_91 : decode cX5_crack 91 = .ok (.ireturn, 1) := dq_get dX5_crack_74_t 9 rfl
theorem gt_wsX5_sees_wsX00 : GoodIn wsX5_sees wsX00 := fun w hw => ⟨List.mem_cons_of_mem _ (List.mem_append_left _ (List.mem_append_left _ (List.mem_append_right _ hw))), good_of_word (List.all_eq_true.mp gw_wsX00 w hw)⟩
set_option maxRecDepth 20000 in
theorem ggX5_sees_X0_hasCell : GoodIn wsX5_sees wsX0_hasCell := goodIn_ca (goodIn_r _ [6, 7, 8] rfl (by decide +kernel)) gt_wsX5_sees_wsX00
set_option maxRecDepth 20000 in
theorem gX5_sees_X0_hasCell : GoodIn wsX5_sees (wsV RX5 105 RX0 yX0_hasCell wsX0_hasCell) := goodIn_app (goodIn_r _ [2, 3, 4, 5] rfl (by decide +kernel)) ggX5_sees_X0_hasCell
set_option maxRecDepth 20000 in
theorem ggX5_sees_X0_hasDay : GoodIn wsX5_sees wsX0_hasDay := goodIn_ca (goodIn_r _ [12, 13] rfl (by decide +kernel)) gt_wsX5_sees_wsX00
set_option maxRecDepth 20000 in
theorem gX5_sees_X0_hasDay : GoodIn wsX5_sees (wsV RX5 109 RX0 yX0_hasDay wsX0_hasDay) := goodIn_app (goodIn_r _ [9, 10, 11, 5] rfl (by decide +kernel)) ggX5_sees_X0_hasDay
theorem gt_wsX5_sees_wsX50 : GoodIn wsX5_sees wsX50 := fun w hw => ⟨List.mem_cons_of_mem _ (List.mem_append_left _ (List.mem_append_left _ (List.mem_append_left _ (List.mem_append_right _ hw)))), good_of_word (List.all_eq_true.mp gw_wsX50 w hw)⟩
theorem gt_wsX5_sees_wsX40 : GoodIn wsX5_sees wsX40 := fun w hw => ⟨List.mem_cons_of_mem _ (List.mem_append_left _ (List.mem_append_right _ hw)), good_of_word (List.all_eq_true.mp gw_wsX40 w hw)⟩
theorem gt_wsX5_sees_wsX20 : GoodIn wsX5_sees wsX20 := fun w hw => ⟨List.mem_cons_of_mem _ (List.mem_append_right _ hw), good_of_word (List.all_eq_true.mp gw_wsX20 w hw)⟩
set_option maxRecDepth 20000 in
theorem ggX5_sees_X5_freshViews : GoodIn wsX5_sees wsX5_freshViews := goodIn_ca (goodIn_ca (goodIn_ca (goodIn_ca (goodIn_r _ [18, 19, 1, 20, 21, 22, 23, 24, 25, 26, 27, 28, 29, 30, 31, 32, 33, 34, 35, 36, 37, 38, 39, 40, 41, 42, 43, 44, 45, 46, 47, 48, 49, 50, 51] rfl (by decide +kernel)) gt_wsX5_sees_wsX50) gt_wsX5_sees_wsX40) gt_wsX5_sees_wsX00) gt_wsX5_sees_wsX20
set_option maxRecDepth 20000 in
theorem gX5_sees_X5_freshViews : GoodIn wsX5_sees (wsV RX5 112 RX5 yX5_freshViews wsX5_freshViews) := goodIn_app (goodIn_r _ [14, 15, 16, 17] rfl (by decide +kernel)) ggX5_sees_X5_freshViews
set_option maxRecDepth 20000 in
theorem ggX5_sees_X4_sightOf : GoodIn wsX5_sees wsX4_sightOf := goodIn_ca (goodIn_r _ [55, 27] rfl (by decide +kernel)) gt_wsX5_sees_wsX40
set_option maxRecDepth 20000 in
theorem gX5_sees_X4_sightOf : GoodIn wsX5_sees (wsV RX5 149 RX4 yX4_sightOf wsX4_sightOf) := goodIn_app (goodIn_r _ [52, 53, 54, 23] rfl (by decide +kernel)) ggX5_sees_X4_sightOf
theorem dX5_sees_0_t : dqK cX5_sees.data.toList 0 [(0, .aload_n 0, 1), (1, .getfield 10, 3), (4, .iload_n 1, 1), (5, .invokevirtual 105, 3), (8, .ifCond .eq 14, 3), (11, .aload_n 0, 1), (12, .getfield 10, 3), (15, .iload_n 2, 1), (16, .invokevirtual 109, 3), (19, .ifCond .ne 5, 3), (22, .iconst (-1), 1), (23, .ireturn, 1), (24, .aload_n 0, 1), (25, .invokevirtual 112, 3), (28, .iload_n 1, 1), (29, .iload_n 2, 1), (30, .invokevirtual 149, 3), (33, .ireturn, 1)] = true := by decide +kernel
theorem dX5_sees_0 : decode cX5_sees 0 = .ok (.aload_n 0, 1) := dq_get dX5_sees_0_t 0 rfl
theorem dX5_sees_1 : decode cX5_sees 1 = .ok (.getfield 10, 3) := dq_get dX5_sees_0_t 1 rfl
theorem dX5_sees_4 : decode cX5_sees 4 = .ok (.iload_n 1, 1) := dq_get dX5_sees_0_t 2 rfl
theorem dX5_sees_5 : decode cX5_sees 5 = .ok (.invokevirtual 105, 3) := dq_get dX5_sees_0_t 3 rfl
theorem dX5_sees_8 : decode cX5_sees 8 = .ok (.ifCond .eq 14, 3) := dq_get dX5_sees_0_t 4 rfl
theorem dX5_sees_11 : decode cX5_sees 11 = .ok (.aload_n 0, 1) := dq_get dX5_sees_0_t 5 rfl
theorem dX5_sees_12 : decode cX5_sees 12 = .ok (.getfield 10, 3) := dq_get dX5_sees_0_t 6 rfl
theorem dX5_sees_15 : decode cX5_sees 15 = .ok (.iload_n 2, 1) := dq_get dX5_sees_0_t 7 rfl
theorem dX5_sees_16 : decode cX5_sees 16 = .ok (.invokevirtual 109, 3) := dq_get dX5_sees_0_t 8 rfl
theorem dX5_sees_19 : decode cX5_sees 19 = .ok (.ifCond .ne 5, 3) := dq_get dX5_sees_0_t 9 rfl
theorem dX5_sees_22 : decode cX5_sees 22 = .ok (.iconst (-1), 1) := dq_get dX5_sees_0_t 10 rfl
theorem dX5_sees_23 : decode cX5_sees 23 = .ok (.ireturn, 1) := dq_get dX5_sees_0_t 11 rfl
theorem dX5_sees_24 : decode cX5_sees 24 = .ok (.aload_n 0, 1) := dq_get dX5_sees_0_t 12 rfl
theorem dX5_sees_25 : decode cX5_sees 25 = .ok (.invokevirtual 112, 3) := dq_get dX5_sees_0_t 13 rfl
theorem dX5_sees_28 : decode cX5_sees 28 = .ok (.iload_n 1, 1) := dq_get dX5_sees_0_t 14 rfl
theorem dX5_sees_29 : decode cX5_sees 29 = .ok (.iload_n 2, 1) := dq_get dX5_sees_0_t 15 rfl
theorem dX5_sees_30 : decode cX5_sees 30 = .ok (.invokevirtual 149, 3) := dq_get dX5_sees_0_t 16 rfl
theorem dX5_sees_33 : decode cX5_sees 33 = .ok (.ireturn, 1) := dq_get dX5_sees_0_t 17 rfl
theorem gt_wsX5_shows_wsX20 : GoodIn wsX5_shows wsX20 := fun w hw => ⟨List.mem_cons_of_mem _ (List.mem_append_left _ (List.mem_append_right _ hw)), good_of_word (List.all_eq_true.mp gw_wsX20 w hw)⟩
set_option maxRecDepth 20000 in
theorem ggX5_shows_X2_has : GoodIn wsX5_shows wsX2_has := goodIn_ca (goodIn_r _ [6, 7] rfl (by decide +kernel)) gt_wsX5_shows_wsX20
set_option maxRecDepth 20000 in
theorem gX5_shows_X2_has : GoodIn wsX5_shows (wsV RX5 120 RX2 yX2_has wsX2_has) := goodIn_app (goodIn_r _ [2, 3, 4, 5] rfl (by decide +kernel)) ggX5_shows_X2_has
theorem gt_wsX5_shows_wsX00 : GoodIn wsX5_shows wsX00 := fun w hw => ⟨List.mem_cons_of_mem _ (List.mem_append_left _ (List.mem_append_left _ (List.mem_append_right _ hw))), good_of_word (List.all_eq_true.mp gw_wsX00 w hw)⟩
set_option maxRecDepth 20000 in
theorem ggX5_shows_X0_hasCell : GoodIn wsX5_shows wsX0_hasCell := goodIn_ca (goodIn_r _ [12, 13, 14] rfl (by decide +kernel)) gt_wsX5_shows_wsX00
set_option maxRecDepth 20000 in
theorem gX5_shows_X0_hasCell : GoodIn wsX5_shows (wsV RX5 105 RX0 yX0_hasCell wsX0_hasCell) := goodIn_app (goodIn_r _ [8, 9, 10, 11] rfl (by decide +kernel)) ggX5_shows_X0_hasCell
theorem gt_wsX5_shows_wsX50 : GoodIn wsX5_shows wsX50 := fun w hw => ⟨List.mem_cons_of_mem _ (List.mem_append_left _ (List.mem_append_left _ (List.mem_append_left _ (List.mem_append_right _ hw)))), good_of_word (List.all_eq_true.mp gw_wsX50 w hw)⟩
theorem gt_wsX5_shows_wsX40 : GoodIn wsX5_shows wsX40 := fun w hw => ⟨List.mem_cons_of_mem _ (List.mem_append_right _ hw), good_of_word (List.all_eq_true.mp gw_wsX40 w hw)⟩
set_option maxRecDepth 20000 in
theorem ggX5_shows_X5_shownBy : GoodIn wsX5_shows wsX5_shownBy := goodIn_ca (goodIn_ca (goodIn_ca (goodIn_ca (goodIn_r _ [19, 1, 20, 21, 22, 18, 23, 24, 25, 26, 27, 28, 29, 30, 31, 32, 33, 34, 35, 36, 37, 38, 39, 40, 41, 42, 43, 44, 45, 5, 46, 47, 48, 49, 50, 51, 52, 53, 54, 55, 56, 57, 58, 59, 60] rfl (by decide +kernel)) gt_wsX5_shows_wsX50) gt_wsX5_shows_wsX00) gt_wsX5_shows_wsX40) gt_wsX5_shows_wsX20
set_option maxRecDepth 20000 in
theorem gX5_shows_X5_shownBy : GoodIn wsX5_shows (wsV RX5 152 RX5 yX5_shownBy wsX5_shownBy) := goodIn_app (goodIn_r _ [15, 16, 17, 18] rfl (by decide +kernel)) ggX5_shows_X5_shownBy
set_option maxRecDepth 20000 in
theorem ggX5_shows_X5_freshViews : GoodIn wsX5_shows wsX5_freshViews := goodIn_ca (goodIn_ca (goodIn_ca (goodIn_ca (goodIn_r _ [23, 24, 1, 25, 26, 27, 28, 29, 30, 31, 32, 33, 34, 35, 36, 37, 38, 39, 40, 41, 42, 43, 44, 45, 5, 46, 47, 48, 49, 50, 51, 52, 53, 54, 55] rfl (by decide +kernel)) gt_wsX5_shows_wsX50) gt_wsX5_shows_wsX40) gt_wsX5_shows_wsX00) gt_wsX5_shows_wsX20
set_option maxRecDepth 20000 in
theorem gX5_shows_X5_freshViews : GoodIn wsX5_shows (wsV RX5 112 RX5 yX5_freshViews wsX5_freshViews) := goodIn_app (goodIn_r _ [20, 21, 22, 18] rfl (by decide +kernel)) ggX5_shows_X5_freshViews
set_option maxRecDepth 20000 in
theorem ggX5_shows_X2_number : GoodIn wsX5_shows wsX2_number := goodIn_ca (goodIn_r _ [46, 47] rfl (by decide +kernel)) gt_wsX5_shows_wsX20
set_option maxRecDepth 20000 in
theorem gX5_shows_X2_number : GoodIn wsX5_shows (wsV RX5 123 RX2 yX2_number wsX2_number) := goodIn_app (goodIn_r _ [56, 44, 45, 5] rfl (by decide +kernel)) ggX5_shows_X2_number
set_option maxRecDepth 20000 in
theorem ggX5_shows_X4_markOf : GoodIn wsX5_shows wsX4_markOf := goodIn_ca (goodIn_r _ [64, 38] rfl (by decide +kernel)) gt_wsX5_shows_wsX40
set_option maxRecDepth 20000 in
theorem gX5_shows_X4_markOf : GoodIn wsX5_shows (wsV RX5 116 RX4 yX4_markOf wsX4_markOf) := goodIn_app (goodIn_r _ [61, 62, 63, 28] rfl (by decide +kernel)) ggX5_shows_X4_markOf
theorem dX5_shows_0_t : dqK cX5_shows.data.toList 0 [(0, .aload_n 0, 1), (1, .getfield 10, 3), (4, .getfield 102, 3), (7, .iload_n 1, 1), (8, .invokevirtual 120, 3), (11, .ifCond .eq 25, 3), (14, .aload_n 0, 1), (15, .getfield 10, 3), (18, .iload_n 2, 1), (19, .invokevirtual 105, 3), (22, .ifCond .eq 14, 3), (25, .aload_n 0, 1), (26, .getfield 10, 3), (29, .iload_n 3, 1), (30, .invokevirtual 105, 3), (33, .ifCond .ne 5, 3), (36, .iconst (-1), 1), (37, .ireturn, 1), (38, .aload_n 0, 1), (39, .iload_n 1, 1), (40, .iload_n 2, 1), (41, .invokevirtual 152, 3), (44, .iload_n 3, 1), (45, .ishr, 1), (46, .iconst 1, 1), (47, .iand, 1), (48, .ifCond .ne 6, 3), (51, .bipush (-4), 2), (53, .ireturn, 1), (54, .aload_n 0, 1), (55, .invokevirtual 112, 3), (58, .iload_n 3, 1), (59, .aload_n 0, 1), (60, .getfield 10, 3), (63, .getfield 102, 3), (66, .iload_n 1, 1), (67, .iconst 0, 1), (68, .invokevirtual 123, 3), (71, .invokevirtual 116, 3), (74, .ireturn, 1)] = true := by decide +kernel
theorem dX5_shows_0 : decode cX5_shows 0 = .ok (.aload_n 0, 1) := dq_get dX5_shows_0_t 0 rfl
theorem dX5_shows_1 : decode cX5_shows 1 = .ok (.getfield 10, 3) := dq_get dX5_shows_0_t 1 rfl
theorem dX5_shows_4 : decode cX5_shows 4 = .ok (.getfield 102, 3) := dq_get dX5_shows_0_t 2 rfl
theorem dX5_shows_7 : decode cX5_shows 7 = .ok (.iload_n 1, 1) := dq_get dX5_shows_0_t 3 rfl
theorem dX5_shows_8 : decode cX5_shows 8 = .ok (.invokevirtual 120, 3) := dq_get dX5_shows_0_t 4 rfl
theorem dX5_shows_11 : decode cX5_shows 11 = .ok (.ifCond .eq 25, 3) := dq_get dX5_shows_0_t 5 rfl
theorem dX5_shows_14 : decode cX5_shows 14 = .ok (.aload_n 0, 1) := dq_get dX5_shows_0_t 6 rfl
theorem dX5_shows_15 : decode cX5_shows 15 = .ok (.getfield 10, 3) := dq_get dX5_shows_0_t 7 rfl
theorem dX5_shows_18 : decode cX5_shows 18 = .ok (.iload_n 2, 1) := dq_get dX5_shows_0_t 8 rfl
theorem dX5_shows_19 : decode cX5_shows 19 = .ok (.invokevirtual 105, 3) := dq_get dX5_shows_0_t 9 rfl
theorem dX5_shows_22 : decode cX5_shows 22 = .ok (.ifCond .eq 14, 3) := dq_get dX5_shows_0_t 10 rfl
theorem dX5_shows_25 : decode cX5_shows 25 = .ok (.aload_n 0, 1) := dq_get dX5_shows_0_t 11 rfl
theorem dX5_shows_26 : decode cX5_shows 26 = .ok (.getfield 10, 3) := dq_get dX5_shows_0_t 12 rfl
theorem dX5_shows_29 : decode cX5_shows 29 = .ok (.iload_n 3, 1) := dq_get dX5_shows_0_t 13 rfl
theorem dX5_shows_30 : decode cX5_shows 30 = .ok (.invokevirtual 105, 3) := dq_get dX5_shows_0_t 14 rfl
theorem dX5_shows_33 : decode cX5_shows 33 = .ok (.ifCond .ne 5, 3) := dq_get dX5_shows_0_t 15 rfl
theorem dX5_shows_36 : decode cX5_shows 36 = .ok (.iconst (-1), 1) := dq_get dX5_shows_0_t 16 rfl
theorem dX5_shows_37 : decode cX5_shows 37 = .ok (.ireturn, 1) := dq_get dX5_shows_0_t 17 rfl
theorem dX5_shows_38 : decode cX5_shows 38 = .ok (.aload_n 0, 1) := dq_get dX5_shows_0_t 18 rfl
theorem dX5_shows_39 : decode cX5_shows 39 = .ok (.iload_n 1, 1) := dq_get dX5_shows_0_t 19 rfl
theorem dX5_shows_40 : decode cX5_shows 40 = .ok (.iload_n 2, 1) := dq_get dX5_shows_0_t 20 rfl
theorem dX5_shows_41 : decode cX5_shows 41 = .ok (.invokevirtual 152, 3) := dq_get dX5_shows_0_t 21 rfl
theorem dX5_shows_44 : decode cX5_shows 44 = .ok (.iload_n 3, 1) := dq_get dX5_shows_0_t 22 rfl
theorem dX5_shows_45 : decode cX5_shows 45 = .ok (.ishr, 1) := dq_get dX5_shows_0_t 23 rfl
theorem dX5_shows_46 : decode cX5_shows 46 = .ok (.iconst 1, 1) := dq_get dX5_shows_0_t 24 rfl
theorem dX5_shows_47 : decode cX5_shows 47 = .ok (.iand, 1) := dq_get dX5_shows_0_t 25 rfl
theorem dX5_shows_48 : decode cX5_shows 48 = .ok (.ifCond .ne 6, 3) := dq_get dX5_shows_0_t 26 rfl
theorem dX5_shows_51 : decode cX5_shows 51 = .ok (.bipush (-4), 2) := dq_get dX5_shows_0_t 27 rfl
theorem dX5_shows_53 : decode cX5_shows 53 = .ok (.ireturn, 1) := dq_get dX5_shows_0_t 28 rfl
theorem dX5_shows_54 : decode cX5_shows 54 = .ok (.aload_n 0, 1) := dq_get dX5_shows_0_t 29 rfl
theorem dX5_shows_55 : decode cX5_shows 55 = .ok (.invokevirtual 112, 3) := dq_get dX5_shows_0_t 30 rfl
theorem dX5_shows_58 : decode cX5_shows 58 = .ok (.iload_n 3, 1) := dq_get dX5_shows_0_t 31 rfl
theorem dX5_shows_59 : decode cX5_shows 59 = .ok (.aload_n 0, 1) := dq_get dX5_shows_0_t 32 rfl
theorem dX5_shows_60 : decode cX5_shows 60 = .ok (.getfield 10, 3) := dq_get dX5_shows_0_t 33 rfl
theorem dX5_shows_63 : decode cX5_shows 63 = .ok (.getfield 102, 3) := dq_get dX5_shows_0_t 34 rfl
theorem dX5_shows_66 : decode cX5_shows 66 = .ok (.iload_n 1, 1) := dq_get dX5_shows_0_t 35 rfl
theorem dX5_shows_67 : decode cX5_shows 67 = .ok (.iconst 0, 1) := dq_get dX5_shows_0_t 36 rfl
theorem dX5_shows_68 : decode cX5_shows 68 = .ok (.invokevirtual 123, 3) := dq_get dX5_shows_0_t 37 rfl
theorem dX5_shows_71 : decode cX5_shows 71 = .ok (.invokevirtual 116, 3) := dq_get dX5_shows_0_t 38 rfl
theorem dX5_shows_74 : decode cX5_shows 74 = .ok (.ireturn, 1) := dq_get dX5_shows_0_t 39 rfl
theorem gt_wsX5_frame_wsX20 : GoodIn wsX5_frame wsX20 := fun w hw => ⟨List.mem_cons_of_mem _ (List.mem_append_left _ (List.mem_append_right _ hw)), good_of_word (List.all_eq_true.mp gw_wsX20 w hw)⟩
set_option maxRecDepth 20000 in
theorem ggX5_frame_X2_has : GoodIn wsX5_frame wsX2_has := goodIn_ca (goodIn_r _ [6, 7] rfl (by decide +kernel)) gt_wsX5_frame_wsX20
set_option maxRecDepth 20000 in
theorem gX5_frame_X2_has : GoodIn wsX5_frame (wsV RX5 120 RX2 yX2_has wsX2_has) := goodIn_app (goodIn_r _ [2, 3, 4, 5] rfl (by decide +kernel)) ggX5_frame_X2_has
theorem gt_wsX5_frame_wsX00 : GoodIn wsX5_frame wsX00 := fun w hw => ⟨List.mem_cons_of_mem _ (List.mem_append_left _ (List.mem_append_left _ (List.mem_append_right _ hw))), good_of_word (List.all_eq_true.mp gw_wsX00 w hw)⟩
set_option maxRecDepth 20000 in
theorem ggX5_frame_X0_hasCell : GoodIn wsX5_frame wsX0_hasCell := goodIn_ca (goodIn_r _ [12, 13, 14] rfl (by decide +kernel)) gt_wsX5_frame_wsX00
set_option maxRecDepth 20000 in
theorem gX5_frame_X0_hasCell : GoodIn wsX5_frame (wsV RX5 105 RX0 yX0_hasCell wsX0_hasCell) := goodIn_app (goodIn_r _ [8, 9, 10, 11] rfl (by decide +kernel)) ggX5_frame_X0_hasCell
theorem gt_wsX5_frame_wsX50 : GoodIn wsX5_frame wsX50 := fun w hw => ⟨List.mem_cons_of_mem _ (List.mem_append_left _ (List.mem_append_left _ (List.mem_append_left _ (List.mem_append_right _ hw)))), good_of_word (List.all_eq_true.mp gw_wsX50 w hw)⟩
theorem gt_wsX5_frame_wsX40 : GoodIn wsX5_frame wsX40 := fun w hw => ⟨List.mem_cons_of_mem _ (List.mem_append_right _ hw), good_of_word (List.all_eq_true.mp gw_wsX40 w hw)⟩
set_option maxRecDepth 20000 in
theorem ggX5_frame_X5_freshViews : GoodIn wsX5_frame wsX5_freshViews := goodIn_ca (goodIn_ca (goodIn_ca (goodIn_ca (goodIn_r _ [19, 20, 1, 21, 22, 23, 24, 25, 26, 27, 28, 29, 30, 31, 32, 33, 34, 35, 36, 37, 38, 39, 40, 41, 5, 42, 43, 44, 45, 46, 47, 48, 49, 50, 51] rfl (by decide +kernel)) gt_wsX5_frame_wsX50) gt_wsX5_frame_wsX40) gt_wsX5_frame_wsX00) gt_wsX5_frame_wsX20
set_option maxRecDepth 20000 in
theorem gX5_frame_X5_freshViews : GoodIn wsX5_frame (wsV RX5 112 RX5 yX5_freshViews wsX5_freshViews) := goodIn_app (goodIn_r _ [15, 16, 17, 18] rfl (by decide +kernel)) ggX5_frame_X5_freshViews
set_option maxRecDepth 20000 in
theorem ggX5_frame_X2_number : GoodIn wsX5_frame wsX2_number := goodIn_ca (goodIn_r _ [42, 43] rfl (by decide +kernel)) gt_wsX5_frame_wsX20
set_option maxRecDepth 20000 in
theorem gX5_frame_X2_number : GoodIn wsX5_frame (wsV RX5 123 RX2 yX2_number wsX2_number) := goodIn_app (goodIn_r _ [52, 40, 41, 5] rfl (by decide +kernel)) ggX5_frame_X2_number
set_option maxRecDepth 20000 in
theorem ggX5_frame_X4_unlike : GoodIn wsX5_frame wsX4_unlike := goodIn_ca (goodIn_r _ [56, 26, 27, 57, 58, 59, 24, 60, 34] rfl (by decide +kernel)) gt_wsX5_frame_wsX40
set_option maxRecDepth 20000 in
theorem gX5_frame_X4_unlike : GoodIn wsX5_frame (wsV RX5 155 RX4 yX4_unlike wsX4_unlike) := goodIn_app (goodIn_r _ [53, 54, 55, 24] rfl (by decide +kernel)) ggX5_frame_X4_unlike
set_option maxRecDepth 20000 in
theorem ggX5_frame_X5_shownBy : GoodIn wsX5_frame wsX5_shownBy := goodIn_ca (goodIn_ca (goodIn_ca (goodIn_ca (goodIn_r _ [64, 1, 15, 16, 17, 18, 19, 20, 21, 22, 23, 24, 25, 26, 27, 28, 29, 30, 31, 32, 33, 34, 35, 36, 37, 38, 39, 40, 41, 5, 42, 43, 44, 45, 46, 47, 48, 49, 50, 51, 52, 65, 66, 67, 68] rfl (by decide +kernel)) gt_wsX5_frame_wsX50) gt_wsX5_frame_wsX00) gt_wsX5_frame_wsX40) gt_wsX5_frame_wsX20
set_option maxRecDepth 20000 in
theorem gX5_frame_X5_shownBy : GoodIn wsX5_frame (wsV RX5 152 RX5 yX5_shownBy wsX5_shownBy) := goodIn_app (goodIn_r _ [61, 62, 63, 18] rfl (by decide +kernel)) ggX5_frame_X5_shownBy
theorem dX5_frame_0_t : dqK cX5_frame.data.toList 0 [(0, .aload_n 0, 1), (1, .getfield 10, 3), (4, .getfield 102, 3), (7, .iload_n 1, 1), (8, .invokevirtual 120, 3), (11, .ifCond .eq 28, 3), (14, .aload_n 0, 1), (15, .getfield 10, 3), (18, .getfield 102, 3), (21, .iload_n 2, 1), (22, .invokevirtual 120, 3), (25, .ifCond .eq 14, 3), (28, .aload_n 0, 1), (29, .getfield 10, 3), (32, .iload_n 3, 1), (33, .invokevirtual 105, 3), (36, .ifCond .ne 5, 3), (39, .iconst (-1), 1), (40, .ireturn, 1), (41, .aload_n 0, 1), (42, .invokevirtual 112, 3), (45, .aload_n 0, 1), (46, .getfield 10, 3), (49, .getfield 102, 3), (52, .iload_n 1, 1), (53, .iconst 0, 1), (54, .invokevirtual 123, 3), (57, .aload_n 0, 1), (58, .getfield 10, 3), (61, .getfield 102, 3), (64, .iload_n 2, 1), (65, .iconst 0, 1), (66, .invokevirtual 123, 3), (69, .invokevirtual 155, 3), (72, .istore 4, 2), (74, .aload_n 0, 1), (75, .iload_n 1, 1), (76, .iload_n 3, 1), (77, .invokevirtual 152, 3), (80, .aload_n 0, 1)] = true := by decide +kernel
theorem dX5_frame_0 : decode cX5_frame 0 = .ok (.aload_n 0, 1) := dq_get dX5_frame_0_t 0 rfl
theorem dX5_frame_1 : decode cX5_frame 1 = .ok (.getfield 10, 3) := dq_get dX5_frame_0_t 1 rfl
theorem dX5_frame_4 : decode cX5_frame 4 = .ok (.getfield 102, 3) := dq_get dX5_frame_0_t 2 rfl
theorem dX5_frame_7 : decode cX5_frame 7 = .ok (.iload_n 1, 1) := dq_get dX5_frame_0_t 3 rfl
theorem dX5_frame_8 : decode cX5_frame 8 = .ok (.invokevirtual 120, 3) := dq_get dX5_frame_0_t 4 rfl
theorem dX5_frame_11 : decode cX5_frame 11 = .ok (.ifCond .eq 28, 3) := dq_get dX5_frame_0_t 5 rfl
theorem dX5_frame_14 : decode cX5_frame 14 = .ok (.aload_n 0, 1) := dq_get dX5_frame_0_t 6 rfl
theorem dX5_frame_15 : decode cX5_frame 15 = .ok (.getfield 10, 3) := dq_get dX5_frame_0_t 7 rfl
theorem dX5_frame_18 : decode cX5_frame 18 = .ok (.getfield 102, 3) := dq_get dX5_frame_0_t 8 rfl
theorem dX5_frame_21 : decode cX5_frame 21 = .ok (.iload_n 2, 1) := dq_get dX5_frame_0_t 9 rfl
theorem dX5_frame_22 : decode cX5_frame 22 = .ok (.invokevirtual 120, 3) := dq_get dX5_frame_0_t 10 rfl
theorem dX5_frame_25 : decode cX5_frame 25 = .ok (.ifCond .eq 14, 3) := dq_get dX5_frame_0_t 11 rfl
theorem dX5_frame_28 : decode cX5_frame 28 = .ok (.aload_n 0, 1) := dq_get dX5_frame_0_t 12 rfl
theorem dX5_frame_29 : decode cX5_frame 29 = .ok (.getfield 10, 3) := dq_get dX5_frame_0_t 13 rfl
theorem dX5_frame_32 : decode cX5_frame 32 = .ok (.iload_n 3, 1) := dq_get dX5_frame_0_t 14 rfl
theorem dX5_frame_33 : decode cX5_frame 33 = .ok (.invokevirtual 105, 3) := dq_get dX5_frame_0_t 15 rfl
theorem dX5_frame_36 : decode cX5_frame 36 = .ok (.ifCond .ne 5, 3) := dq_get dX5_frame_0_t 16 rfl
theorem dX5_frame_39 : decode cX5_frame 39 = .ok (.iconst (-1), 1) := dq_get dX5_frame_0_t 17 rfl
theorem dX5_frame_40 : decode cX5_frame 40 = .ok (.ireturn, 1) := dq_get dX5_frame_0_t 18 rfl
theorem dX5_frame_41 : decode cX5_frame 41 = .ok (.aload_n 0, 1) := dq_get dX5_frame_0_t 19 rfl
theorem dX5_frame_42 : decode cX5_frame 42 = .ok (.invokevirtual 112, 3) := dq_get dX5_frame_0_t 20 rfl
theorem dX5_frame_45 : decode cX5_frame 45 = .ok (.aload_n 0, 1) := dq_get dX5_frame_0_t 21 rfl
theorem dX5_frame_46 : decode cX5_frame 46 = .ok (.getfield 10, 3) := dq_get dX5_frame_0_t 22 rfl
theorem dX5_frame_49 : decode cX5_frame 49 = .ok (.getfield 102, 3) := dq_get dX5_frame_0_t 23 rfl
theorem dX5_frame_52 : decode cX5_frame 52 = .ok (.iload_n 1, 1) := dq_get dX5_frame_0_t 24 rfl
theorem dX5_frame_53 : decode cX5_frame 53 = .ok (.iconst 0, 1) := dq_get dX5_frame_0_t 25 rfl
theorem dX5_frame_54 : decode cX5_frame 54 = .ok (.invokevirtual 123, 3) := dq_get dX5_frame_0_t 26 rfl
theorem dX5_frame_57 : decode cX5_frame 57 = .ok (.aload_n 0, 1) := dq_get dX5_frame_0_t 27 rfl
theorem dX5_frame_58 : decode cX5_frame 58 = .ok (.getfield 10, 3) := dq_get dX5_frame_0_t 28 rfl
theorem dX5_frame_61 : decode cX5_frame 61 = .ok (.getfield 102, 3) := dq_get dX5_frame_0_t 29 rfl
theorem dX5_frame_64 : decode cX5_frame 64 = .ok (.iload_n 2, 1) := dq_get dX5_frame_0_t 30 rfl
theorem dX5_frame_65 : decode cX5_frame 65 = .ok (.iconst 0, 1) := dq_get dX5_frame_0_t 31 rfl
theorem dX5_frame_66 : decode cX5_frame 66 = .ok (.invokevirtual 123, 3) := dq_get dX5_frame_0_t 32 rfl
theorem dX5_frame_69 : decode cX5_frame 69 = .ok (.invokevirtual 155, 3) := dq_get dX5_frame_0_t 33 rfl
theorem dX5_frame_72 : decode cX5_frame 72 = .ok (.istore 4, 2) := dq_get dX5_frame_0_t 34 rfl
theorem dX5_frame_74 : decode cX5_frame 74 = .ok (.aload_n 0, 1) := dq_get dX5_frame_0_t 35 rfl
theorem dX5_frame_75 : decode cX5_frame 75 = .ok (.iload_n 1, 1) := dq_get dX5_frame_0_t 36 rfl
theorem dX5_frame_76 : decode cX5_frame 76 = .ok (.iload_n 3, 1) := dq_get dX5_frame_0_t 37 rfl
theorem dX5_frame_77 : decode cX5_frame 77 = .ok (.invokevirtual 152, 3) := dq_get dX5_frame_0_t 38 rfl
theorem dX5_frame_80 : decode cX5_frame 80 = .ok (.aload_n 0, 1) := dq_get dX5_frame_0_t 39 rfl
theorem dX5_frame_81_t : dqK cX5_frame.data.toList 0 [(81, .iload_n 2, 1), (82, .iload_n 3, 1), (83, .invokevirtual 152, 3), (86, .iand, 1), (87, .iload 4, 2), (89, .iand, 1), (90, .ireturn, 1)] = true := by decide +kernel
theorem dX5_frame_81 : decode cX5_frame 81 = .ok (.iload_n 2, 1) := dq_get dX5_frame_81_t 0 rfl
theorem dX5_frame_82 : decode cX5_frame 82 = .ok (.iload_n 3, 1) := dq_get dX5_frame_81_t 1 rfl
theorem dX5_frame_83 : decode cX5_frame 83 = .ok (.invokevirtual 152, 3) := dq_get dX5_frame_81_t 2 rfl
theorem dX5_frame_86 : decode cX5_frame 86 = .ok (.iand, 1) := dq_get dX5_frame_81_t 3 rfl
theorem dX5_frame_87 : decode cX5_frame 87 = .ok (.iload 4, 2) := dq_get dX5_frame_81_t 4 rfl
theorem dX5_frame_89 : decode cX5_frame 89 = .ok (.iand, 1) := dq_get dX5_frame_81_t 5 rfl
theorem dX5_frame_90 : decode cX5_frame 90 = .ok (.ireturn, 1) := dq_get dX5_frame_81_t 6 rfl
theorem gt_wsX5_between_wsX00 : GoodIn wsX5_between wsX00 := fun w hw => ⟨List.mem_cons_of_mem _ (List.mem_append_left _ (List.mem_append_left _ (List.mem_append_right _ hw))), good_of_word (List.all_eq_true.mp gw_wsX00 w hw)⟩
set_option maxRecDepth 20000 in
theorem ggX5_between_X0_hasDay : GoodIn wsX5_between wsX0_hasDay := goodIn_ca (goodIn_r _ [6, 7] rfl (by decide +kernel)) gt_wsX5_between_wsX00
set_option maxRecDepth 20000 in
theorem gX5_between_X0_hasDay : GoodIn wsX5_between (wsV RX5 109 RX0 yX0_hasDay wsX0_hasDay) := goodIn_app (goodIn_r _ [2, 3, 4, 5] rfl (by decide +kernel)) ggX5_between_X0_hasDay
theorem gt_wsX5_between_wsX50 : GoodIn wsX5_between wsX50 := fun w hw => ⟨List.mem_cons_of_mem _ (List.mem_append_left _ (List.mem_append_left _ (List.mem_append_left _ (List.mem_append_right _ hw)))), good_of_word (List.all_eq_true.mp gw_wsX50 w hw)⟩
theorem gt_wsX5_between_wsX40 : GoodIn wsX5_between wsX40 := fun w hw => ⟨List.mem_cons_of_mem _ (List.mem_append_left _ (List.mem_append_right _ hw)), good_of_word (List.all_eq_true.mp gw_wsX40 w hw)⟩
theorem gt_wsX5_between_wsX20 : GoodIn wsX5_between wsX20 := fun w hw => ⟨List.mem_cons_of_mem _ (List.mem_append_right _ hw), good_of_word (List.all_eq_true.mp gw_wsX20 w hw)⟩
set_option maxRecDepth 20000 in
theorem ggX5_between_X5_freshViews : GoodIn wsX5_between wsX5_freshViews := goodIn_ca (goodIn_ca (goodIn_ca (goodIn_ca (goodIn_r _ [12, 13, 1, 14, 15, 16, 17, 18, 19, 20, 21, 22, 23, 24, 25, 26, 27, 28, 29, 30, 31, 32, 33, 34, 35, 36, 37, 38, 39, 40, 41, 42, 43, 44, 45] rfl (by decide +kernel)) gt_wsX5_between_wsX50) gt_wsX5_between_wsX40) gt_wsX5_between_wsX00) gt_wsX5_between_wsX20
set_option maxRecDepth 20000 in
theorem gX5_between_X5_freshViews : GoodIn wsX5_between (wsV RX5 112 RX5 yX5_freshViews wsX5_freshViews) := goodIn_app (goodIn_r _ [8, 9, 10, 11] rfl (by decide +kernel)) ggX5_between_X5_freshViews
set_option maxRecDepth 20000 in
theorem ggX5_between_X4_unlike : GoodIn wsX5_between wsX4_unlike := goodIn_ca (goodIn_r _ [49, 19, 20, 50, 51, 52, 17, 53, 27] rfl (by decide +kernel)) gt_wsX5_between_wsX40
set_option maxRecDepth 20000 in
theorem gX5_between_X4_unlike : GoodIn wsX5_between (wsV RX5 155 RX4 yX4_unlike wsX4_unlike) := goodIn_app (goodIn_r _ [46, 47, 48, 17] rfl (by decide +kernel)) ggX5_between_X4_unlike
theorem dX5_between_0_t : dqK cX5_between.data.toList 0 [(0, .aload_n 0, 1), (1, .getfield 10, 3), (4, .iload_n 1, 1), (5, .invokevirtual 109, 3), (8, .ifCond .eq 14, 3), (11, .aload_n 0, 1), (12, .getfield 10, 3), (15, .iload_n 2, 1), (16, .invokevirtual 109, 3), (19, .ifCond .ne 5, 3), (22, .iconst (-1), 1), (23, .ireturn, 1), (24, .aload_n 0, 1), (25, .invokevirtual 112, 3), (28, .iload_n 1, 1), (29, .iload_n 2, 1), (30, .invokevirtual 155, 3), (33, .ireturn, 1)] = true := by decide +kernel
theorem dX5_between_0 : decode cX5_between 0 = .ok (.aload_n 0, 1) := dq_get dX5_between_0_t 0 rfl
theorem dX5_between_1 : decode cX5_between 1 = .ok (.getfield 10, 3) := dq_get dX5_between_0_t 1 rfl
theorem dX5_between_4 : decode cX5_between 4 = .ok (.iload_n 1, 1) := dq_get dX5_between_0_t 2 rfl
theorem dX5_between_5 : decode cX5_between 5 = .ok (.invokevirtual 109, 3) := dq_get dX5_between_0_t 3 rfl
theorem dX5_between_8 : decode cX5_between 8 = .ok (.ifCond .eq 14, 3) := dq_get dX5_between_0_t 4 rfl
theorem dX5_between_11 : decode cX5_between 11 = .ok (.aload_n 0, 1) := dq_get dX5_between_0_t 5 rfl
theorem dX5_between_12 : decode cX5_between 12 = .ok (.getfield 10, 3) := dq_get dX5_between_0_t 6 rfl
theorem dX5_between_15 : decode cX5_between 15 = .ok (.iload_n 2, 1) := dq_get dX5_between_0_t 7 rfl
theorem dX5_between_16 : decode cX5_between 16 = .ok (.invokevirtual 109, 3) := dq_get dX5_between_0_t 8 rfl
theorem dX5_between_19 : decode cX5_between 19 = .ok (.ifCond .ne 5, 3) := dq_get dX5_between_0_t 9 rfl
theorem dX5_between_22 : decode cX5_between 22 = .ok (.iconst (-1), 1) := dq_get dX5_between_0_t 10 rfl
theorem dX5_between_23 : decode cX5_between 23 = .ok (.ireturn, 1) := dq_get dX5_between_0_t 11 rfl
theorem dX5_between_24 : decode cX5_between 24 = .ok (.aload_n 0, 1) := dq_get dX5_between_0_t 12 rfl
theorem dX5_between_25 : decode cX5_between 25 = .ok (.invokevirtual 112, 3) := dq_get dX5_between_0_t 13 rfl
theorem dX5_between_28 : decode cX5_between 28 = .ok (.iload_n 1, 1) := dq_get dX5_between_0_t 14 rfl
theorem dX5_between_29 : decode cX5_between 29 = .ok (.iload_n 2, 1) := dq_get dX5_between_0_t 15 rfl
theorem dX5_between_30 : decode cX5_between 30 = .ok (.invokevirtual 155, 3) := dq_get dX5_between_0_t 16 rfl
theorem dX5_between_33 : decode cX5_between 33 = .ok (.ireturn, 1) := dq_get dX5_between_0_t 17 rfl
set_option maxRecDepth 20000 in
theorem ggX5_all_X5_isMark : GoodIn wsX5_all wsX5_isMark := goodIn_r _ [5] rfl (by decide +kernel)
set_option maxRecDepth 20000 in
theorem gX5_all_X5_isMark : GoodIn wsX5_all (va_wsS RX5 129 yX5_isMark wsX5_isMark) := goodIn_app (goodIn_r _ [2, 3, 4] rfl (by decide +kernel)) ggX5_all_X5_isMark
theorem gt_wsX5_all_wsX00 : GoodIn wsX5_all wsX00 := fun w hw => ⟨List.mem_cons_of_mem _ (List.mem_append_left _ (List.mem_append_left _ (List.mem_append_right _ hw))), good_of_word (List.all_eq_true.mp gw_wsX00 w hw)⟩
set_option maxRecDepth 20000 in
theorem ggX5_all_X0_hasDay : GoodIn wsX5_all wsX0_hasDay := goodIn_ca (goodIn_r _ [10, 11] rfl (by decide +kernel)) gt_wsX5_all_wsX00
set_option maxRecDepth 20000 in
theorem gX5_all_X0_hasDay : GoodIn wsX5_all (wsV RX5 109 RX0 yX0_hasDay wsX0_hasDay) := goodIn_app (goodIn_r _ [6, 7, 8, 9] rfl (by decide +kernel)) ggX5_all_X0_hasDay
theorem gt_wsX5_all_wsX50 : GoodIn wsX5_all wsX50 := fun w hw => ⟨List.mem_cons_of_mem _ (List.mem_append_left _ (List.mem_append_left _ (List.mem_append_left _ (List.mem_append_right _ hw)))), good_of_word (List.all_eq_true.mp gw_wsX50 w hw)⟩
theorem gt_wsX5_all_wsX40 : GoodIn wsX5_all wsX40 := fun w hw => ⟨List.mem_cons_of_mem _ (List.mem_append_left _ (List.mem_append_right _ hw)), good_of_word (List.all_eq_true.mp gw_wsX40 w hw)⟩
theorem gt_wsX5_all_wsX20 : GoodIn wsX5_all wsX20 := fun w hw => ⟨List.mem_cons_of_mem _ (List.mem_append_right _ hw), good_of_word (List.all_eq_true.mp gw_wsX20 w hw)⟩
set_option maxRecDepth 20000 in
theorem ggX5_all_X5_freshViews : GoodIn wsX5_all wsX5_freshViews := goodIn_ca (goodIn_ca (goodIn_ca (goodIn_ca (goodIn_r _ [15, 16, 1, 17, 18, 19, 20, 21, 22, 23, 24, 25, 26, 27, 28, 29, 30, 31, 32, 33, 34, 35, 36, 37, 38, 39, 40, 41, 42, 43, 44, 45, 46, 47, 48] rfl (by decide +kernel)) gt_wsX5_all_wsX50) gt_wsX5_all_wsX40) gt_wsX5_all_wsX00) gt_wsX5_all_wsX20
set_option maxRecDepth 20000 in
theorem gX5_all_X5_freshViews : GoodIn wsX5_all (wsV RX5 112 RX5 yX5_freshViews wsX5_freshViews) := goodIn_app (goodIn_r _ [12, 13, 14, 4] rfl (by decide +kernel)) ggX5_all_X5_freshViews
set_option maxRecDepth 20000 in
theorem ggX5_all_X4_cellsWith : GoodIn wsX5_all wsX4_cellsWith := goodIn_ca (goodIn_r _ [52, 22, 23, 53, 54, 55, 20, 56, 30] rfl (by decide +kernel)) gt_wsX5_all_wsX40
set_option maxRecDepth 20000 in
theorem gX5_all_X4_cellsWith : GoodIn wsX5_all (wsV RX5 158 RX4 yX4_cellsWith wsX4_cellsWith) := goodIn_app (goodIn_r _ [49, 50, 51, 20] rfl (by decide +kernel)) ggX5_all_X4_cellsWith
theorem dX5_all_0_t : dqK cX5_all.data.toList 0 [(0, .iload_n 1, 1), (1, .invokestatic 129, 3), (4, .ifCond .eq 14, 3), (7, .aload_n 0, 1), (8, .getfield 10, 3), (11, .iload_n 2, 1), (12, .invokevirtual 109, 3), (15, .ifCond .ne 5, 3), (18, .iconst (-1), 1), (19, .ireturn, 1), (20, .aload_n 0, 1), (21, .invokevirtual 112, 3), (24, .iload_n 1, 1), (25, .iload_n 2, 1), (26, .invokevirtual 158, 3), (29, .ireturn, 1)] = true := by decide +kernel
theorem dX5_all_0 : decode cX5_all 0 = .ok (.iload_n 1, 1) := dq_get dX5_all_0_t 0 rfl
theorem dX5_all_1 : decode cX5_all 1 = .ok (.invokestatic 129, 3) := dq_get dX5_all_0_t 1 rfl
theorem dX5_all_4 : decode cX5_all 4 = .ok (.ifCond .eq 14, 3) := dq_get dX5_all_0_t 2 rfl
theorem dX5_all_7 : decode cX5_all 7 = .ok (.aload_n 0, 1) := dq_get dX5_all_0_t 3 rfl
theorem dX5_all_8 : decode cX5_all 8 = .ok (.getfield 10, 3) := dq_get dX5_all_0_t 4 rfl
theorem dX5_all_11 : decode cX5_all 11 = .ok (.iload_n 2, 1) := dq_get dX5_all_0_t 5 rfl
theorem dX5_all_12 : decode cX5_all 12 = .ok (.invokevirtual 109, 3) := dq_get dX5_all_0_t 6 rfl
theorem dX5_all_15 : decode cX5_all 15 = .ok (.ifCond .ne 5, 3) := dq_get dX5_all_0_t 7 rfl
theorem dX5_all_18 : decode cX5_all 18 = .ok (.iconst (-1), 1) := dq_get dX5_all_0_t 8 rfl
theorem dX5_all_19 : decode cX5_all 19 = .ok (.ireturn, 1) := dq_get dX5_all_0_t 9 rfl
theorem dX5_all_20 : decode cX5_all 20 = .ok (.aload_n 0, 1) := dq_get dX5_all_0_t 10 rfl
theorem dX5_all_21 : decode cX5_all 21 = .ok (.invokevirtual 112, 3) := dq_get dX5_all_0_t 11 rfl
theorem dX5_all_24 : decode cX5_all 24 = .ok (.iload_n 1, 1) := dq_get dX5_all_0_t 12 rfl
theorem dX5_all_25 : decode cX5_all 25 = .ok (.iload_n 2, 1) := dq_get dX5_all_0_t 13 rfl
theorem dX5_all_26 : decode cX5_all 26 = .ok (.invokevirtual 158, 3) := dq_get dX5_all_0_t 14 rfl
theorem dX5_all_29 : decode cX5_all 29 = .ok (.ireturn, 1) := dq_get dX5_all_0_t 15 rfl
theorem gt_wsX5_since_wsX00 : GoodIn wsX5_since wsX00 := fun w hw => ⟨List.mem_cons_of_mem _ (List.mem_append_left _ (List.mem_append_left _ (List.mem_append_right _ hw))), good_of_word (List.all_eq_true.mp gw_wsX00 w hw)⟩
set_option maxRecDepth 20000 in
theorem ggX5_since_X0_hasCell : GoodIn wsX5_since wsX0_hasCell := goodIn_ca (goodIn_r _ [6, 7, 8] rfl (by decide +kernel)) gt_wsX5_since_wsX00
set_option maxRecDepth 20000 in
theorem gX5_since_X0_hasCell : GoodIn wsX5_since (wsV RX5 105 RX0 yX0_hasCell wsX0_hasCell) := goodIn_app (goodIn_r _ [2, 3, 4, 5] rfl (by decide +kernel)) ggX5_since_X0_hasCell
set_option maxRecDepth 20000 in
theorem ggX5_since_X0_hasDay : GoodIn wsX5_since wsX0_hasDay := goodIn_ca (goodIn_r _ [12, 13] rfl (by decide +kernel)) gt_wsX5_since_wsX00
set_option maxRecDepth 20000 in
theorem gX5_since_X0_hasDay : GoodIn wsX5_since (wsV RX5 109 RX0 yX0_hasDay wsX0_hasDay) := goodIn_app (goodIn_r _ [9, 10, 11, 5] rfl (by decide +kernel)) ggX5_since_X0_hasDay
set_option maxRecDepth 20000 in
theorem ggX5_since_X5_isChoice : GoodIn wsX5_since wsX5_isChoice := goodIn_r _ [17] rfl (by decide +kernel)
set_option maxRecDepth 20000 in
theorem gX5_since_X5_isChoice : GoodIn wsX5_since (va_wsS RX5 126 yX5_isChoice wsX5_isChoice) := goodIn_app (goodIn_r _ [14, 15, 16] rfl (by decide +kernel)) ggX5_since_X5_isChoice
theorem gt_wsX5_since_wsX50 : GoodIn wsX5_since wsX50 := fun w hw => ⟨List.mem_cons_of_mem _ (List.mem_append_left _ (List.mem_append_left _ (List.mem_append_left _ (List.mem_append_right _ hw)))), good_of_word (List.all_eq_true.mp gw_wsX50 w hw)⟩
theorem gt_wsX5_since_wsX40 : GoodIn wsX5_since wsX40 := fun w hw => ⟨List.mem_cons_of_mem _ (List.mem_append_left _ (List.mem_append_right _ hw)), good_of_word (List.all_eq_true.mp gw_wsX40 w hw)⟩
theorem gt_wsX5_since_wsX20 : GoodIn wsX5_since wsX20 := fun w hw => ⟨List.mem_cons_of_mem _ (List.mem_append_right _ hw), good_of_word (List.all_eq_true.mp gw_wsX20 w hw)⟩
set_option maxRecDepth 20000 in
theorem ggX5_since_X5_freshViews : GoodIn wsX5_since wsX5_freshViews := goodIn_ca (goodIn_ca (goodIn_ca (goodIn_ca (goodIn_r _ [21, 22, 1, 23, 24, 25, 26, 27, 28, 29, 30, 31, 32, 33, 34, 35, 36, 37, 38, 39, 40, 41, 42, 43, 44, 45, 46, 47, 48, 49, 50, 51, 52, 53, 54] rfl (by decide +kernel)) gt_wsX5_since_wsX50) gt_wsX5_since_wsX40) gt_wsX5_since_wsX00) gt_wsX5_since_wsX20
set_option maxRecDepth 20000 in
theorem gX5_since_X5_freshViews : GoodIn wsX5_since (wsV RX5 112 RX5 yX5_freshViews wsX5_freshViews) := goodIn_app (goodIn_r _ [18, 19, 20, 16] rfl (by decide +kernel)) ggX5_since_X5_freshViews
set_option maxRecDepth 20000 in
theorem ggX5_since_X4_markOf : GoodIn wsX5_since wsX4_markOf := goodIn_ca (goodIn_r _ [58, 36] rfl (by decide +kernel)) gt_wsX5_since_wsX40
set_option maxRecDepth 20000 in
theorem gX5_since_X4_markOf : GoodIn wsX5_since (wsV RX5 116 RX4 yX4_markOf wsX4_markOf) := goodIn_app (goodIn_r _ [55, 56, 57, 26] rfl (by decide +kernel)) ggX5_since_X4_markOf
theorem dX5_since_0_t : dqK cX5_since.data.toList 0 [(0, .aload_n 0, 1), (1, .getfield 10, 3), (4, .iload_n 1, 1), (5, .invokevirtual 105, 3), (8, .ifCond .eq 21, 3), (11, .aload_n 0, 1), (12, .getfield 10, 3), (15, .iload_n 2, 1), (16, .invokevirtual 109, 3), (19, .ifCond .eq 10, 3), (22, .iload_n 3, 1), (23, .invokestatic 126, 3), (26, .ifCond .ne 5, 3), (29, .iconst (-1), 1), (30, .ireturn, 1), (31, .aload_n 0, 1), (32, .invokevirtual 112, 3), (35, .astore 4, 2), (37, .aload 4, 2), (39, .iload_n 1, 1), (40, .iload_n 2, 1), (41, .invokevirtual 116, 3), (44, .istore 5, 2), (46, .iload_n 3, 1), (47, .ifCond .ne 7, 3), (50, .iconst (-1), 1), (51, .goto 4, 3), (54, .iconst 1, 1), (55, .istore 6, 2), (57, .iload_n 2, 1), (58, .istore 7, 2), (60, .iload_n 2, 1), (61, .iload 6, 2), (63, .iadd, 1), (64, .istore 8, 2), (66, .iload 8, 2), (68, .ifCond .lt 42, 3), (71, .iload 8, 2), (73, .aload_n 0, 1), (74, .getfield 10, 3)] = true := by decide +kernel
theorem dX5_since_0 : decode cX5_since 0 = .ok (.aload_n 0, 1) := dq_get dX5_since_0_t 0 rfl
theorem dX5_since_1 : decode cX5_since 1 = .ok (.getfield 10, 3) := dq_get dX5_since_0_t 1 rfl
theorem dX5_since_4 : decode cX5_since 4 = .ok (.iload_n 1, 1) := dq_get dX5_since_0_t 2 rfl
theorem dX5_since_5 : decode cX5_since 5 = .ok (.invokevirtual 105, 3) := dq_get dX5_since_0_t 3 rfl
theorem dX5_since_8 : decode cX5_since 8 = .ok (.ifCond .eq 21, 3) := dq_get dX5_since_0_t 4 rfl
theorem dX5_since_11 : decode cX5_since 11 = .ok (.aload_n 0, 1) := dq_get dX5_since_0_t 5 rfl
theorem dX5_since_12 : decode cX5_since 12 = .ok (.getfield 10, 3) := dq_get dX5_since_0_t 6 rfl
theorem dX5_since_15 : decode cX5_since 15 = .ok (.iload_n 2, 1) := dq_get dX5_since_0_t 7 rfl
theorem dX5_since_16 : decode cX5_since 16 = .ok (.invokevirtual 109, 3) := dq_get dX5_since_0_t 8 rfl
theorem dX5_since_19 : decode cX5_since 19 = .ok (.ifCond .eq 10, 3) := dq_get dX5_since_0_t 9 rfl
theorem dX5_since_22 : decode cX5_since 22 = .ok (.iload_n 3, 1) := dq_get dX5_since_0_t 10 rfl
theorem dX5_since_23 : decode cX5_since 23 = .ok (.invokestatic 126, 3) := dq_get dX5_since_0_t 11 rfl
theorem dX5_since_26 : decode cX5_since 26 = .ok (.ifCond .ne 5, 3) := dq_get dX5_since_0_t 12 rfl
theorem dX5_since_29 : decode cX5_since 29 = .ok (.iconst (-1), 1) := dq_get dX5_since_0_t 13 rfl
theorem dX5_since_30 : decode cX5_since 30 = .ok (.ireturn, 1) := dq_get dX5_since_0_t 14 rfl
theorem dX5_since_31 : decode cX5_since 31 = .ok (.aload_n 0, 1) := dq_get dX5_since_0_t 15 rfl
theorem dX5_since_32 : decode cX5_since 32 = .ok (.invokevirtual 112, 3) := dq_get dX5_since_0_t 16 rfl
theorem dX5_since_35 : decode cX5_since 35 = .ok (.astore 4, 2) := dq_get dX5_since_0_t 17 rfl
theorem dX5_since_37 : decode cX5_since 37 = .ok (.aload 4, 2) := dq_get dX5_since_0_t 18 rfl
theorem dX5_since_39 : decode cX5_since 39 = .ok (.iload_n 1, 1) := dq_get dX5_since_0_t 19 rfl
theorem dX5_since_40 : decode cX5_since 40 = .ok (.iload_n 2, 1) := dq_get dX5_since_0_t 20 rfl
theorem dX5_since_41 : decode cX5_since 41 = .ok (.invokevirtual 116, 3) := dq_get dX5_since_0_t 21 rfl
theorem dX5_since_44 : decode cX5_since 44 = .ok (.istore 5, 2) := dq_get dX5_since_0_t 22 rfl
theorem dX5_since_46 : decode cX5_since 46 = .ok (.iload_n 3, 1) := dq_get dX5_since_0_t 23 rfl
theorem dX5_since_47 : decode cX5_since 47 = .ok (.ifCond .ne 7, 3) := dq_get dX5_since_0_t 24 rfl
theorem dX5_since_50 : decode cX5_since 50 = .ok (.iconst (-1), 1) := dq_get dX5_since_0_t 25 rfl
theorem dX5_since_51 : decode cX5_since 51 = .ok (.goto 4, 3) := dq_get dX5_since_0_t 26 rfl
theorem dX5_since_54 : decode cX5_since 54 = .ok (.iconst 1, 1) := dq_get dX5_since_0_t 27 rfl
theorem dX5_since_55 : decode cX5_since 55 = .ok (.istore 6, 2) := dq_get dX5_since_0_t 28 rfl
theorem dX5_since_57 : decode cX5_since 57 = .ok (.iload_n 2, 1) := dq_get dX5_since_0_t 29 rfl
theorem dX5_since_58 : decode cX5_since 58 = .ok (.istore 7, 2) := dq_get dX5_since_0_t 30 rfl
theorem dX5_since_60 : decode cX5_since 60 = .ok (.iload_n 2, 1) := dq_get dX5_since_0_t 31 rfl
theorem dX5_since_61 : decode cX5_since 61 = .ok (.iload 6, 2) := dq_get dX5_since_0_t 32 rfl
theorem dX5_since_63 : decode cX5_since 63 = .ok (.iadd, 1) := dq_get dX5_since_0_t 33 rfl
theorem dX5_since_64 : decode cX5_since 64 = .ok (.istore 8, 2) := dq_get dX5_since_0_t 34 rfl
theorem dX5_since_66 : decode cX5_since 66 = .ok (.iload 8, 2) := dq_get dX5_since_0_t 35 rfl
theorem dX5_since_68 : decode cX5_since 68 = .ok (.ifCond .lt 42, 3) := dq_get dX5_since_0_t 36 rfl
theorem dX5_since_71 : decode cX5_since 71 = .ok (.iload 8, 2) := dq_get dX5_since_0_t 37 rfl
theorem dX5_since_73 : decode cX5_since 73 = .ok (.aload_n 0, 1) := dq_get dX5_since_0_t 38 rfl
theorem dX5_since_74 : decode cX5_since 74 = .ok (.getfield 10, 3) := dq_get dX5_since_0_t 39 rfl
theorem dX5_since_77_t : dqK cX5_since.data.toList 0 [(77, .getfield 90, 3), (80, .if_icmp .gt 30, 3), (83, .aload 4, 2), (85, .iload_n 1, 1), (86, .iload 8, 2), (88, .invokevirtual 116, 3), (91, .iload 5, 2), (93, .if_icmp .ne 17, 3), (96, .iload 8, 2), (98, .istore 7, 2), (100, .iload 8, 2), (102, .iload 6, 2), (104, .iadd, 1), (105, .istore 8, 2), (107, .goto (-41), 3), (110, .iload 7, 2), (112, .ireturn, 1)] = true := by decide +kernel
theorem dX5_since_77 : decode cX5_since 77 = .ok (.getfield 90, 3) := dq_get dX5_since_77_t 0 rfl
theorem dX5_since_80 : decode cX5_since 80 = .ok (.if_icmp .gt 30, 3) := dq_get dX5_since_77_t 1 rfl
theorem dX5_since_83 : decode cX5_since 83 = .ok (.aload 4, 2) := dq_get dX5_since_77_t 2 rfl
theorem dX5_since_85 : decode cX5_since 85 = .ok (.iload_n 1, 1) := dq_get dX5_since_77_t 3 rfl
theorem dX5_since_86 : decode cX5_since 86 = .ok (.iload 8, 2) := dq_get dX5_since_77_t 4 rfl
theorem dX5_since_88 : decode cX5_since 88 = .ok (.invokevirtual 116, 3) := dq_get dX5_since_77_t 5 rfl
theorem dX5_since_91 : decode cX5_since 91 = .ok (.iload 5, 2) := dq_get dX5_since_77_t 6 rfl
theorem dX5_since_93 : decode cX5_since 93 = .ok (.if_icmp .ne 17, 3) := dq_get dX5_since_77_t 7 rfl
theorem dX5_since_96 : decode cX5_since 96 = .ok (.iload 8, 2) := dq_get dX5_since_77_t 8 rfl
theorem dX5_since_98 : decode cX5_since 98 = .ok (.istore 7, 2) := dq_get dX5_since_77_t 9 rfl
theorem dX5_since_100 : decode cX5_since 100 = .ok (.iload 8, 2) := dq_get dX5_since_77_t 10 rfl
theorem dX5_since_102 : decode cX5_since 102 = .ok (.iload 6, 2) := dq_get dX5_since_77_t 11 rfl
theorem dX5_since_104 : decode cX5_since 104 = .ok (.iadd, 1) := dq_get dX5_since_77_t 12 rfl
theorem dX5_since_105 : decode cX5_since 105 = .ok (.istore 8, 2) := dq_get dX5_since_77_t 13 rfl
theorem dX5_since_107 : decode cX5_since 107 = .ok (.goto (-41), 3) := dq_get dX5_since_77_t 14 rfl
theorem dX5_since_110 : decode cX5_since 110 = .ok (.iload 7, 2) := dq_get dX5_since_77_t 15 rfl
theorem dX5_since_112 : decode cX5_since 112 = .ok (.ireturn, 1) := dq_get dX5_since_77_t 16 rfl
theorem gt_wsX5_again_wsX50 : GoodIn wsX5_again wsX50 := fun w hw => ⟨List.mem_cons_of_mem _ (List.mem_append_left _ (List.mem_append_left _ (List.mem_append_left _ (List.mem_append_right _ hw)))), good_of_word (List.all_eq_true.mp gw_wsX50 w hw)⟩
theorem gt_wsX5_again_wsX40 : GoodIn wsX5_again wsX40 := fun w hw => ⟨List.mem_cons_of_mem _ (List.mem_append_left _ (List.mem_append_right _ hw)), good_of_word (List.all_eq_true.mp gw_wsX40 w hw)⟩
theorem gt_wsX5_again_wsX00 : GoodIn wsX5_again wsX00 := fun w hw => ⟨List.mem_cons_of_mem _ (List.mem_append_left _ (List.mem_append_left _ (List.mem_append_right _ hw))), good_of_word (List.all_eq_true.mp gw_wsX00 w hw)⟩
theorem gt_wsX5_again_wsX20 : GoodIn wsX5_again wsX20 := fun w hw => ⟨List.mem_cons_of_mem _ (List.mem_append_right _ hw), good_of_word (List.all_eq_true.mp gw_wsX20 w hw)⟩
set_option maxRecDepth 20000 in
theorem ggX5_again_X5_freshViews : GoodIn wsX5_again wsX5_freshViews := goodIn_ca (goodIn_ca (goodIn_ca (goodIn_ca (goodIn_r _ [6, 7, 1, 8, 9, 10, 11, 12, 13, 14, 15, 16, 17, 18, 19, 20, 21, 22, 23, 24, 25, 26, 27, 28, 29, 30, 31, 32, 33, 34, 35, 36, 37, 38, 39] rfl (by decide +kernel)) gt_wsX5_again_wsX50) gt_wsX5_again_wsX40) gt_wsX5_again_wsX00) gt_wsX5_again_wsX20
set_option maxRecDepth 20000 in
theorem gX5_again_X5_freshViews : GoodIn wsX5_again (wsV RX5 112 RX5 yX5_freshViews wsX5_freshViews) := goodIn_app (goodIn_r _ [2, 3, 4, 5] rfl (by decide +kernel)) ggX5_again_X5_freshViews
set_option maxRecDepth 20000 in
theorem ggX5_again_X4_unlike : GoodIn wsX5_again wsX4_unlike := goodIn_ca (goodIn_r _ [43, 13, 14, 44, 45, 46, 11, 47, 21] rfl (by decide +kernel)) gt_wsX5_again_wsX40
set_option maxRecDepth 20000 in
theorem gX5_again_X4_unlike : GoodIn wsX5_again (wsV RX5 155 RX4 yX4_unlike wsX4_unlike) := goodIn_app (goodIn_r _ [40, 41, 42, 11] rfl (by decide +kernel)) ggX5_again_X4_unlike
theorem dX5_again_0_t : dqK cX5_again.data.toList 0 [(0, .aload_n 0, 1), (1, .invokevirtual 112, 3), (4, .astore_n 1, 1), (5, .iconst 0, 1), (6, .istore_n 2, 1), (7, .iconst 1, 1), (8, .istore_n 3, 1), (9, .iload_n 3, 1), (10, .aload_n 0, 1), (11, .getfield 10, 3), (14, .getfield 90, 3), (17, .if_icmp .gt 43, 3), (20, .iconst 0, 1), (21, .istore 4, 2), (23, .iload 4, 2), (25, .iload_n 3, 1), (26, .if_icmp .ge 28, 3), (29, .aload_n 1, 1), (30, .iload 4, 2), (32, .iload_n 3, 1), (33, .invokevirtual 155, 3), (36, .ifCond .ne 12, 3), (39, .iload_n 2, 1), (40, .iconst 1, 1), (41, .iload_n 3, 1), (42, .ishl, 1), (43, .ior, 1), (44, .istore_n 2, 1), (45, .goto 9, 3), (48, .iinc 4 1, 3), (51, .goto (-28), 3), (54, .iinc 3 1, 3), (57, .goto (-48), 3), (60, .iload_n 2, 1), (61, .ireturn, 1)] = true := by decide +kernel
theorem dX5_again_0 : decode cX5_again 0 = .ok (.aload_n 0, 1) := dq_get dX5_again_0_t 0 rfl
theorem dX5_again_1 : decode cX5_again 1 = .ok (.invokevirtual 112, 3) := dq_get dX5_again_0_t 1 rfl
theorem dX5_again_4 : decode cX5_again 4 = .ok (.astore_n 1, 1) := dq_get dX5_again_0_t 2 rfl
theorem dX5_again_5 : decode cX5_again 5 = .ok (.iconst 0, 1) := dq_get dX5_again_0_t 3 rfl
theorem dX5_again_6 : decode cX5_again 6 = .ok (.istore_n 2, 1) := dq_get dX5_again_0_t 4 rfl
theorem dX5_again_7 : decode cX5_again 7 = .ok (.iconst 1, 1) := dq_get dX5_again_0_t 5 rfl
theorem dX5_again_8 : decode cX5_again 8 = .ok (.istore_n 3, 1) := dq_get dX5_again_0_t 6 rfl
theorem dX5_again_9 : decode cX5_again 9 = .ok (.iload_n 3, 1) := dq_get dX5_again_0_t 7 rfl
theorem dX5_again_10 : decode cX5_again 10 = .ok (.aload_n 0, 1) := dq_get dX5_again_0_t 8 rfl
theorem dX5_again_11 : decode cX5_again 11 = .ok (.getfield 10, 3) := dq_get dX5_again_0_t 9 rfl
theorem dX5_again_14 : decode cX5_again 14 = .ok (.getfield 90, 3) := dq_get dX5_again_0_t 10 rfl
theorem dX5_again_17 : decode cX5_again 17 = .ok (.if_icmp .gt 43, 3) := dq_get dX5_again_0_t 11 rfl
theorem dX5_again_20 : decode cX5_again 20 = .ok (.iconst 0, 1) := dq_get dX5_again_0_t 12 rfl
theorem dX5_again_21 : decode cX5_again 21 = .ok (.istore 4, 2) := dq_get dX5_again_0_t 13 rfl
theorem dX5_again_23 : decode cX5_again 23 = .ok (.iload 4, 2) := dq_get dX5_again_0_t 14 rfl
theorem dX5_again_25 : decode cX5_again 25 = .ok (.iload_n 3, 1) := dq_get dX5_again_0_t 15 rfl
theorem dX5_again_26 : decode cX5_again 26 = .ok (.if_icmp .ge 28, 3) := dq_get dX5_again_0_t 16 rfl
theorem dX5_again_29 : decode cX5_again 29 = .ok (.aload_n 1, 1) := dq_get dX5_again_0_t 17 rfl
theorem dX5_again_30 : decode cX5_again 30 = .ok (.iload 4, 2) := dq_get dX5_again_0_t 18 rfl
theorem dX5_again_32 : decode cX5_again 32 = .ok (.iload_n 3, 1) := dq_get dX5_again_0_t 19 rfl
theorem dX5_again_33 : decode cX5_again 33 = .ok (.invokevirtual 155, 3) := dq_get dX5_again_0_t 20 rfl
theorem dX5_again_36 : decode cX5_again 36 = .ok (.ifCond .ne 12, 3) := dq_get dX5_again_0_t 21 rfl
theorem dX5_again_39 : decode cX5_again 39 = .ok (.iload_n 2, 1) := dq_get dX5_again_0_t 22 rfl
theorem dX5_again_40 : decode cX5_again 40 = .ok (.iconst 1, 1) := dq_get dX5_again_0_t 23 rfl
theorem dX5_again_41 : decode cX5_again 41 = .ok (.iload_n 3, 1) := dq_get dX5_again_0_t 24 rfl
theorem dX5_again_42 : decode cX5_again 42 = .ok (.ishl, 1) := dq_get dX5_again_0_t 25 rfl
theorem dX5_again_43 : decode cX5_again 43 = .ok (.ior, 1) := dq_get dX5_again_0_t 26 rfl
theorem dX5_again_44 : decode cX5_again 44 = .ok (.istore_n 2, 1) := dq_get dX5_again_0_t 27 rfl
theorem dX5_again_45 : decode cX5_again 45 = .ok (.goto 9, 3) := dq_get dX5_again_0_t 28 rfl
theorem dX5_again_48 : decode cX5_again 48 = .ok (.iinc 4 1, 3) := dq_get dX5_again_0_t 29 rfl
theorem dX5_again_51 : decode cX5_again 51 = .ok (.goto (-28), 3) := dq_get dX5_again_0_t 30 rfl
theorem dX5_again_54 : decode cX5_again 54 = .ok (.iinc 3 1, 3) := dq_get dX5_again_0_t 31 rfl
theorem dX5_again_57 : decode cX5_again 57 = .ok (.goto (-48), 3) := dq_get dX5_again_0_t 32 rfl
theorem dX5_again_60 : decode cX5_again 60 = .ok (.iload_n 2, 1) := dq_get dX5_again_0_t 33 rfl
theorem dX5_again_61 : decode cX5_again 61 = .ok (.ireturn, 1) := dq_get dX5_again_0_t 34 rfl
theorem gt_wsX5_show_wsX00 : GoodIn wsX5_show wsX00 := fun w hw => ⟨List.mem_cons_of_mem _ (List.mem_append_left _ (List.mem_append_right _ hw)), good_of_word (List.all_eq_true.mp gw_wsX00 w hw)⟩
set_option maxRecDepth 20000 in
theorem ggX5_show_X0_hasCell : GoodIn wsX5_show wsX0_hasCell := goodIn_ca (goodIn_r _ [6, 7, 8] rfl (by decide +kernel)) gt_wsX5_show_wsX00
set_option maxRecDepth 20000 in
theorem gX5_show_X0_hasCell : GoodIn wsX5_show (wsV RX5 105 RX0 yX0_hasCell wsX0_hasCell) := goodIn_app (goodIn_r _ [2, 3, 4, 5] rfl (by decide +kernel)) ggX5_show_X0_hasCell
set_option maxRecDepth 20000 in
theorem ggX5_show_X5_isMark : GoodIn wsX5_show wsX5_isMark := goodIn_r _ [12] rfl (by decide +kernel)
set_option maxRecDepth 20000 in
theorem gX5_show_X5_isMark : GoodIn wsX5_show (va_wsS RX5 129 yX5_isMark wsX5_isMark) := goodIn_app (goodIn_r _ [9, 10, 11] rfl (by decide +kernel)) ggX5_show_X5_isMark
theorem gt_wsX5_show_wsX20 : GoodIn wsX5_show wsX20 := fun w hw => ⟨List.mem_cons_of_mem _ (List.mem_append_right _ hw), good_of_word (List.all_eq_true.mp gw_wsX20 w hw)⟩
set_option maxRecDepth 20000 in
theorem ggX5_show_X2_add : GoodIn wsX5_show wsX2_add := goodIn_ca (goodIn_r _ [17, 18, 19, 20] rfl (by decide +kernel)) gt_wsX5_show_wsX20
set_option maxRecDepth 20000 in
theorem gX5_show_X2_add : GoodIn wsX5_show (wsV RX5 143 RX2 yX2_add wsX2_add) := goodIn_app (goodIn_r _ [13, 14, 15, 16] rfl (by decide +kernel)) ggX5_show_X2_add
theorem dX5_show_0_t : dqK cX5_show.data.toList 0 [(0, .aload_n 0, 1), (1, .getfield 10, 3), (4, .iload_n 1, 1), (5, .invokevirtual 105, 3), (8, .ifCond .eq 27, 3), (11, .aload_n 0, 1), (12, .getfield 10, 3), (15, .iload_n 2, 1), (16, .invokevirtual 105, 3), (19, .ifCond .eq 16, 3), (22, .iload_n 3, 1), (23, .invokestatic 129, 3), (26, .ifCond .ne 11, 3), (29, .iload_n 3, 1), (30, .bipush (-4), 2), (32, .if_icmp .eq 5, 3), (35, .iconst (-1), 1), (36, .ireturn, 1), (37, .aload_n 0, 1), (38, .getfield 10, 3), (41, .getfield 161, 3), (44, .iload_n 1, 1), (45, .iload_n 2, 1), (46, .iload_n 3, 1), (47, .invokevirtual 143, 3), (50, .ireturn, 1)] = true := by decide +kernel
theorem dX5_show_0 : decode cX5_show 0 = .ok (.aload_n 0, 1) := dq_get dX5_show_0_t 0 rfl
theorem dX5_show_1 : decode cX5_show 1 = .ok (.getfield 10, 3) := dq_get dX5_show_0_t 1 rfl
theorem dX5_show_4 : decode cX5_show 4 = .ok (.iload_n 1, 1) := dq_get dX5_show_0_t 2 rfl
theorem dX5_show_5 : decode cX5_show 5 = .ok (.invokevirtual 105, 3) := dq_get dX5_show_0_t 3 rfl
theorem dX5_show_8 : decode cX5_show 8 = .ok (.ifCond .eq 27, 3) := dq_get dX5_show_0_t 4 rfl
theorem dX5_show_11 : decode cX5_show 11 = .ok (.aload_n 0, 1) := dq_get dX5_show_0_t 5 rfl
theorem dX5_show_12 : decode cX5_show 12 = .ok (.getfield 10, 3) := dq_get dX5_show_0_t 6 rfl
theorem dX5_show_15 : decode cX5_show 15 = .ok (.iload_n 2, 1) := dq_get dX5_show_0_t 7 rfl
theorem dX5_show_16 : decode cX5_show 16 = .ok (.invokevirtual 105, 3) := dq_get dX5_show_0_t 8 rfl
theorem dX5_show_19 : decode cX5_show 19 = .ok (.ifCond .eq 16, 3) := dq_get dX5_show_0_t 9 rfl
theorem dX5_show_22 : decode cX5_show 22 = .ok (.iload_n 3, 1) := dq_get dX5_show_0_t 10 rfl
theorem dX5_show_23 : decode cX5_show 23 = .ok (.invokestatic 129, 3) := dq_get dX5_show_0_t 11 rfl
theorem dX5_show_26 : decode cX5_show 26 = .ok (.ifCond .ne 11, 3) := dq_get dX5_show_0_t 12 rfl
theorem dX5_show_29 : decode cX5_show 29 = .ok (.iload_n 3, 1) := dq_get dX5_show_0_t 13 rfl
theorem dX5_show_30 : decode cX5_show 30 = .ok (.bipush (-4), 2) := dq_get dX5_show_0_t 14 rfl
theorem dX5_show_32 : decode cX5_show 32 = .ok (.if_icmp .eq 5, 3) := dq_get dX5_show_0_t 15 rfl
theorem dX5_show_35 : decode cX5_show 35 = .ok (.iconst (-1), 1) := dq_get dX5_show_0_t 16 rfl
theorem dX5_show_36 : decode cX5_show 36 = .ok (.ireturn, 1) := dq_get dX5_show_0_t 17 rfl
theorem dX5_show_37 : decode cX5_show 37 = .ok (.aload_n 0, 1) := dq_get dX5_show_0_t 18 rfl
theorem dX5_show_38 : decode cX5_show 38 = .ok (.getfield 10, 3) := dq_get dX5_show_0_t 19 rfl
theorem dX5_show_41 : decode cX5_show 41 = .ok (.getfield 161, 3) := dq_get dX5_show_0_t 20 rfl
theorem dX5_show_44 : decode cX5_show 44 = .ok (.iload_n 1, 1) := dq_get dX5_show_0_t 21 rfl
theorem dX5_show_45 : decode cX5_show 45 = .ok (.iload_n 2, 1) := dq_get dX5_show_0_t 22 rfl
theorem dX5_show_46 : decode cX5_show 46 = .ok (.iload_n 3, 1) := dq_get dX5_show_0_t 23 rfl
theorem dX5_show_47 : decode cX5_show 47 = .ok (.invokevirtual 143, 3) := dq_get dX5_show_0_t 24 rfl
theorem dX5_show_50 : decode cX5_show 50 = .ok (.ireturn, 1) := dq_get dX5_show_0_t 25 rfl
theorem gt_wsX5_forget_wsX20 : GoodIn wsX5_forget wsX20 := fun w hw => ⟨List.mem_cons_of_mem _ (List.mem_append_right _ hw), good_of_word (List.all_eq_true.mp gw_wsX20 w hw)⟩
set_option maxRecDepth 20000 in
theorem ggX5_forget_X2_shorten : GoodIn wsX5_forget wsX2_shorten := goodIn_ca (goodIn_r _ [6, 7] rfl (by decide +kernel)) gt_wsX5_forget_wsX20
set_option maxRecDepth 20000 in
theorem gX5_forget_X2_shorten : GoodIn wsX5_forget (wsV RX5 139 RX2 yX2_shorten wsX2_shorten) := goodIn_app (goodIn_r _ [2, 3, 4, 5] rfl (by decide +kernel)) ggX5_forget_X2_shorten
theorem dX5_forget_0_t : dqK cX5_forget.data.toList 0 [(0, .aload_n 0, 1), (1, .getfield 10, 3), (4, .getfield 161, 3), (7, .iload_n 1, 1), (8, .invokevirtual 139, 3), (11, .ireturn, 1)] = true := by decide +kernel
theorem dX5_forget_0 : decode cX5_forget 0 = .ok (.aload_n 0, 1) := dq_get dX5_forget_0_t 0 rfl
theorem dX5_forget_1 : decode cX5_forget 1 = .ok (.getfield 10, 3) := dq_get dX5_forget_0_t 1 rfl
theorem dX5_forget_4 : decode cX5_forget 4 = .ok (.getfield 161, 3) := dq_get dX5_forget_0_t 2 rfl
theorem dX5_forget_7 : decode cX5_forget 7 = .ok (.iload_n 1, 1) := dq_get dX5_forget_0_t 3 rfl
theorem dX5_forget_8 : decode cX5_forget 8 = .ok (.invokevirtual 139, 3) := dq_get dX5_forget_0_t 4 rfl
theorem dX5_forget_11 : decode cX5_forget 11 = .ok (.ireturn, 1) := dq_get dX5_forget_0_t 5 rfl
theorem gt_wsX5_days_wsX50 : GoodIn wsX5_days wsX50 := fun w hw => ⟨List.mem_cons_of_mem _ (List.mem_append_left _ (List.mem_append_left _ (List.mem_append_left _ (List.mem_append_right _ hw)))), good_of_word (List.all_eq_true.mp gw_wsX50 w hw)⟩
theorem gt_wsX5_days_wsX00 : GoodIn wsX5_days wsX00 := fun w hw => ⟨List.mem_cons_of_mem _ (List.mem_append_left _ (List.mem_append_left _ (List.mem_append_right _ hw))), good_of_word (List.all_eq_true.mp gw_wsX00 w hw)⟩
theorem gt_wsX5_days_wsX40 : GoodIn wsX5_days wsX40 := fun w hw => ⟨List.mem_cons_of_mem _ (List.mem_append_right _ hw), good_of_word (List.all_eq_true.mp gw_wsX40 w hw)⟩
theorem gt_wsX5_days_wsX20 : GoodIn wsX5_days wsX20 := fun w hw => ⟨List.mem_cons_of_mem _ (List.mem_append_left _ (List.mem_append_right _ hw)), good_of_word (List.all_eq_true.mp gw_wsX20 w hw)⟩
set_option maxRecDepth 20000 in
theorem ggX5_days_X5_fitting : GoodIn wsX5_days wsX5_fitting := goodIn_ca (goodIn_ca (goodIn_ca (goodIn_ca (goodIn_r _ [6, 1, 7, 8, 9, 5, 10, 11, 12, 13, 14, 15, 16, 17, 18, 19, 20, 21, 22, 23, 24, 25, 26, 27, 28, 29, 30, 31, 32, 33, 34, 35, 36, 37, 38, 39, 40, 41, 42, 43, 44, 45, 46, 47, 48, 49, 50, 51, 52, 53, 54, 55, 56] rfl (by decide +kernel)) gt_wsX5_days_wsX50) gt_wsX5_days_wsX00) gt_wsX5_days_wsX40) gt_wsX5_days_wsX20
set_option maxRecDepth 20000 in
theorem gX5_days_X5_fitting : GoodIn wsX5_days (wsV RX5 164 RX5 yX5_fitting wsX5_fitting) := goodIn_app (goodIn_r _ [2, 3, 4, 5] rfl (by decide +kernel)) ggX5_days_X5_fitting
theorem dX5_days_0_t : dqK cX5_days.data.toList 0 [(0, .aload_n 0, 1), (1, .aload_n 0, 1), (2, .getfield 10, 3), (5, .getfield 161, 3), (8, .getfield 97, 3), (11, .invokevirtual 164, 3), (14, .ireturn, 1)] = true := by decide +kernel
theorem dX5_days_0 : decode cX5_days 0 = .ok (.aload_n 0, 1) := dq_get dX5_days_0_t 0 rfl
theorem dX5_days_1 : decode cX5_days 1 = .ok (.aload_n 0, 1) := dq_get dX5_days_0_t 1 rfl
theorem dX5_days_2 : decode cX5_days 2 = .ok (.getfield 10, 3) := dq_get dX5_days_0_t 2 rfl
theorem dX5_days_5 : decode cX5_days 5 = .ok (.getfield 161, 3) := dq_get dX5_days_0_t 3 rfl
theorem dX5_days_8 : decode cX5_days 8 = .ok (.getfield 97, 3) := dq_get dX5_days_0_t 4 rfl
theorem dX5_days_11 : decode cX5_days 11 = .ok (.invokevirtual 164, 3) := dq_get dX5_days_0_t 5 rfl
theorem dX5_days_14 : decode cX5_days 14 = .ok (.ireturn, 1) := dq_get dX5_days_0_t 6 rfl
theorem gt_wsX5_lie_wsX50 : GoodIn wsX5_lie wsX50 := fun w hw => ⟨List.mem_cons_of_mem _ (List.mem_append_left _ (List.mem_append_left _ (List.mem_append_left _ (List.mem_append_right _ hw)))), good_of_word (List.all_eq_true.mp gw_wsX50 w hw)⟩
theorem gt_wsX5_lie_wsX00 : GoodIn wsX5_lie wsX00 := fun w hw => ⟨List.mem_cons_of_mem _ (List.mem_append_left _ (List.mem_append_left _ (List.mem_append_right _ hw))), good_of_word (List.all_eq_true.mp gw_wsX00 w hw)⟩
theorem gt_wsX5_lie_wsX40 : GoodIn wsX5_lie wsX40 := fun w hw => ⟨List.mem_cons_of_mem _ (List.mem_append_right _ hw), good_of_word (List.all_eq_true.mp gw_wsX40 w hw)⟩
theorem gt_wsX5_lie_wsX20 : GoodIn wsX5_lie wsX20 := fun w hw => ⟨List.mem_cons_of_mem _ (List.mem_append_left _ (List.mem_append_right _ hw)), good_of_word (List.all_eq_true.mp gw_wsX20 w hw)⟩
set_option maxRecDepth 20000 in
theorem ggX5_lie_X5_fitting : GoodIn wsX5_lie wsX5_fitting := goodIn_ca (goodIn_ca (goodIn_ca (goodIn_ca (goodIn_r _ [6, 1, 7, 8, 9, 5, 10, 11, 12, 13, 14, 15, 16, 17, 18, 19, 20, 21, 22, 23, 24, 25, 26, 27, 28, 29, 30, 31, 32, 33, 34, 35, 36, 37, 38, 39, 40, 41, 42, 43, 44, 45, 46, 47, 48, 49, 50, 51, 52, 53, 54, 55, 56] rfl (by decide +kernel)) gt_wsX5_lie_wsX50) gt_wsX5_lie_wsX00) gt_wsX5_lie_wsX40) gt_wsX5_lie_wsX20
set_option maxRecDepth 20000 in
theorem gX5_lie_X5_fitting : GoodIn wsX5_lie (wsV RX5 164 RX5 yX5_fitting wsX5_fitting) := goodIn_app (goodIn_r _ [2, 3, 4, 5] rfl (by decide +kernel)) ggX5_lie_X5_fitting
theorem dX5_lie_0_t : dqK cX5_lie.data.toList 0 [(0, .iconst 0, 1), (1, .istore_n 1, 1), (2, .iload_n 1, 1), (3, .aload_n 0, 1), (4, .getfield 10, 3), (7, .getfield 161, 3), (10, .getfield 97, 3), (13, .if_icmp .ge 21, 3), (16, .aload_n 0, 1), (17, .iload_n 1, 1), (18, .iconst 1, 1), (19, .iadd, 1), (20, .invokevirtual 164, 3), (23, .ifCond .ne 5, 3), (26, .iload_n 1, 1), (27, .ireturn, 1), (28, .iinc 1 1, 3), (31, .goto (-29), 3), (34, .bipush (-4), 2), (36, .ireturn, 1)] = true := by decide +kernel
theorem dX5_lie_0 : decode cX5_lie 0 = .ok (.iconst 0, 1) := dq_get dX5_lie_0_t 0 rfl
theorem dX5_lie_1 : decode cX5_lie 1 = .ok (.istore_n 1, 1) := dq_get dX5_lie_0_t 1 rfl
theorem dX5_lie_2 : decode cX5_lie 2 = .ok (.iload_n 1, 1) := dq_get dX5_lie_0_t 2 rfl
theorem dX5_lie_3 : decode cX5_lie 3 = .ok (.aload_n 0, 1) := dq_get dX5_lie_0_t 3 rfl
theorem dX5_lie_4 : decode cX5_lie 4 = .ok (.getfield 10, 3) := dq_get dX5_lie_0_t 4 rfl
theorem dX5_lie_7 : decode cX5_lie 7 = .ok (.getfield 161, 3) := dq_get dX5_lie_0_t 5 rfl
theorem dX5_lie_10 : decode cX5_lie 10 = .ok (.getfield 97, 3) := dq_get dX5_lie_0_t 6 rfl
theorem dX5_lie_13 : decode cX5_lie 13 = .ok (.if_icmp .ge 21, 3) := dq_get dX5_lie_0_t 7 rfl
theorem dX5_lie_16 : decode cX5_lie 16 = .ok (.aload_n 0, 1) := dq_get dX5_lie_0_t 8 rfl
theorem dX5_lie_17 : decode cX5_lie 17 = .ok (.iload_n 1, 1) := dq_get dX5_lie_0_t 9 rfl
theorem dX5_lie_18 : decode cX5_lie 18 = .ok (.iconst 1, 1) := dq_get dX5_lie_0_t 10 rfl
theorem dX5_lie_19 : decode cX5_lie 19 = .ok (.iadd, 1) := dq_get dX5_lie_0_t 11 rfl
theorem dX5_lie_20 : decode cX5_lie 20 = .ok (.invokevirtual 164, 3) := dq_get dX5_lie_0_t 12 rfl
theorem dX5_lie_23 : decode cX5_lie 23 = .ok (.ifCond .ne 5, 3) := dq_get dX5_lie_0_t 13 rfl
theorem dX5_lie_26 : decode cX5_lie 26 = .ok (.iload_n 1, 1) := dq_get dX5_lie_0_t 14 rfl
theorem dX5_lie_27 : decode cX5_lie 27 = .ok (.ireturn, 1) := dq_get dX5_lie_0_t 15 rfl
theorem dX5_lie_28 : decode cX5_lie 28 = .ok (.iinc 1 1, 3) := dq_get dX5_lie_0_t 16 rfl
theorem dX5_lie_31 : decode cX5_lie 31 = .ok (.goto (-29), 3) := dq_get dX5_lie_0_t 17 rfl
theorem dX5_lie_34 : decode cX5_lie 34 = .ok (.bipush (-4), 2) := dq_get dX5_lie_0_t 18 rfl
theorem dX5_lie_36 : decode cX5_lie 36 = .ok (.ireturn, 1) := dq_get dX5_lie_0_t 19 rfl
set_option maxRecDepth 20000 in
theorem ggX5_look_X5_isChoice : GoodIn wsX5_look wsX5_isChoice := goodIn_r _ [5] rfl (by decide +kernel)
set_option maxRecDepth 20000 in
theorem gX5_look_X5_isChoice : GoodIn wsX5_look (va_wsS RX5 126 yX5_isChoice wsX5_isChoice) := goodIn_app (goodIn_r _ [2, 3, 4] rfl (by decide +kernel)) ggX5_look_X5_isChoice
theorem gt_wsX5_look_wsX50 : GoodIn wsX5_look wsX50 := fun w hw => ⟨List.mem_cons_of_mem _ (List.mem_append_left _ (List.mem_append_left _ (List.mem_append_left _ (List.mem_append_right _ hw)))), good_of_word (List.all_eq_true.mp gw_wsX50 w hw)⟩
theorem gt_wsX5_look_wsX00 : GoodIn wsX5_look wsX00 := fun w hw => ⟨List.mem_cons_of_mem _ (List.mem_append_left _ (List.mem_append_left _ (List.mem_append_right _ hw))), good_of_word (List.all_eq_true.mp gw_wsX00 w hw)⟩
theorem gt_wsX5_look_wsX40 : GoodIn wsX5_look wsX40 := fun w hw => ⟨List.mem_cons_of_mem _ (List.mem_append_right _ hw), good_of_word (List.all_eq_true.mp gw_wsX40 w hw)⟩
theorem gt_wsX5_look_wsX20 : GoodIn wsX5_look wsX20 := fun w hw => ⟨List.mem_cons_of_mem _ (List.mem_append_left _ (List.mem_append_right _ hw)), good_of_word (List.all_eq_true.mp gw_wsX20 w hw)⟩
set_option maxRecDepth 20000 in
theorem ggX5_look_X5_fitting : GoodIn wsX5_look wsX5_fitting := goodIn_ca (goodIn_ca (goodIn_ca (goodIn_ca (goodIn_r _ [9, 1, 10, 11, 12, 4, 13, 14, 15, 16, 17, 18, 19, 20, 21, 22, 23, 24, 25, 26, 27, 28, 29, 30, 31, 32, 33, 34, 35, 36, 37, 38, 39, 40, 41, 42, 43, 44, 45, 46, 47, 48, 49, 50, 51, 52, 53, 54, 55, 56, 57, 58, 59] rfl (by decide +kernel)) gt_wsX5_look_wsX50) gt_wsX5_look_wsX00) gt_wsX5_look_wsX40) gt_wsX5_look_wsX20
set_option maxRecDepth 20000 in
theorem gX5_look_X5_fitting : GoodIn wsX5_look (wsV RX5 164 RX5 yX5_fitting wsX5_fitting) := goodIn_app (goodIn_r _ [6, 7, 8, 4] rfl (by decide +kernel)) ggX5_look_X5_fitting
set_option maxRecDepth 20000 in
theorem ggX5_look_J6_bitCount_0f7a4 : GoodIn wsX5_look wsJ6_bitCount_0f7a4 := goodIn_r _ [63, 64, 65, 66] rfl (by decide +kernel)
set_option maxRecDepth 20000 in
theorem gX5_look_J6_bitCount_0f7a4 : GoodIn wsX5_look (va_wsS RX5 167 yJ6_bitCount_0f7a4 wsJ6_bitCount_0f7a4) := goodIn_app (goodIn_r _ [60, 61, 62] rfl (by decide +kernel)) ggX5_look_J6_bitCount_0f7a4
set_option maxRecDepth 20000 in
theorem ggX5_look_X0_cells : GoodIn wsX5_look wsX0_cells := goodIn_ca (goodIn_r _ [71, 72, 73] rfl (by decide +kernel)) gt_wsX5_look_wsX00
set_option maxRecDepth 20000 in
theorem gX5_look_X0_cells : GoodIn wsX5_look (wsV RX5 140 RX0 yX0_cells wsX0_cells) := goodIn_app (goodIn_r _ [67, 68, 69, 70] rfl (by decide +kernel)) ggX5_look_X0_cells
set_option maxRecDepth 20000 in
theorem ggX5_look_X5_leftAtWorst : GoodIn wsX5_look wsX5_leftAtWorst := goodIn_ca (goodIn_ca (goodIn_ca (goodIn_ca (goodIn_r _ [77, 78, 1, 79, 80, 81, 82, 10, 11, 12, 4, 13, 14, 15, 16, 17, 18, 19, 20, 21, 22, 23, 24, 25, 26, 27, 28, 29, 30, 31, 32, 33, 34, 35, 36, 37, 38, 39, 40, 41, 42, 43, 44, 45, 46, 83, 84, 85, 86, 48, 49, 50, 51, 52, 53, 54, 55, 56, 57, 58, 59] rfl (by decide +kernel)) gt_wsX5_look_wsX50) gt_wsX5_look_wsX00) gt_wsX5_look_wsX40) gt_wsX5_look_wsX20
set_option maxRecDepth 20000 in
theorem gX5_look_X5_leftAtWorst : GoodIn wsX5_look (wsV RX5 172 RX5 yX5_leftAtWorst wsX5_leftAtWorst) := goodIn_app (goodIn_r _ [74, 75, 76, 4] rfl (by decide +kernel)) ggX5_look_X5_leftAtWorst
theorem dX5_look_0_t : dqK cX5_look.data.toList 0 [(0, .iload_n 1, 1), (1, .invokestatic 126, 3), (4, .ifCond .ne 5, 3), (7, .iconst (-1), 1), (8, .ireturn, 1), (9, .aload_n 0, 1), (10, .aload_n 0, 1), (11, .getfield 10, 3), (14, .getfield 161, 3), (17, .getfield 97, 3), (20, .invokevirtual 164, 3), (23, .istore_n 2, 1), (24, .iload_n 2, 1), (25, .invokestatic 167, 3), (28, .istore_n 3, 1), (29, .bipush (-4), 2), (31, .istore 4, 2), (33, .aload_n 0, 1), (34, .getfield 10, 3), (37, .invokevirtual 140, 3), (40, .istore 5, 2), (42, .iconst 0, 1), (43, .istore 6, 2), (45, .iload 6, 2), (47, .iload 5, 2), (49, .if_icmp .ge 55, 3), (52, .iconst 0, 1), (53, .istore 7, 2), (55, .iload 7, 2), (57, .iload 5, 2), (59, .if_icmp .ge 39, 3), (62, .aload_n 0, 1), (63, .iload 6, 2), (65, .iload 7, 2), (67, .iload_n 2, 1), (68, .invokevirtual 172, 3), (71, .istore 8, 2), (73, .iload 8, 2), (75, .iload_n 3, 1), (76, .if_icmp .ge 16, 3)] = true := by decide +kernel
theorem dX5_look_0 : decode cX5_look 0 = .ok (.iload_n 1, 1) := dq_get dX5_look_0_t 0 rfl
theorem dX5_look_1 : decode cX5_look 1 = .ok (.invokestatic 126, 3) := dq_get dX5_look_0_t 1 rfl
theorem dX5_look_4 : decode cX5_look 4 = .ok (.ifCond .ne 5, 3) := dq_get dX5_look_0_t 2 rfl
theorem dX5_look_7 : decode cX5_look 7 = .ok (.iconst (-1), 1) := dq_get dX5_look_0_t 3 rfl
theorem dX5_look_8 : decode cX5_look 8 = .ok (.ireturn, 1) := dq_get dX5_look_0_t 4 rfl
theorem dX5_look_9 : decode cX5_look 9 = .ok (.aload_n 0, 1) := dq_get dX5_look_0_t 5 rfl
theorem dX5_look_10 : decode cX5_look 10 = .ok (.aload_n 0, 1) := dq_get dX5_look_0_t 6 rfl
theorem dX5_look_11 : decode cX5_look 11 = .ok (.getfield 10, 3) := dq_get dX5_look_0_t 7 rfl
theorem dX5_look_14 : decode cX5_look 14 = .ok (.getfield 161, 3) := dq_get dX5_look_0_t 8 rfl
theorem dX5_look_17 : decode cX5_look 17 = .ok (.getfield 97, 3) := dq_get dX5_look_0_t 9 rfl
theorem dX5_look_20 : decode cX5_look 20 = .ok (.invokevirtual 164, 3) := dq_get dX5_look_0_t 10 rfl
theorem dX5_look_23 : decode cX5_look 23 = .ok (.istore_n 2, 1) := dq_get dX5_look_0_t 11 rfl
theorem dX5_look_24 : decode cX5_look 24 = .ok (.iload_n 2, 1) := dq_get dX5_look_0_t 12 rfl
theorem dX5_look_25 : decode cX5_look 25 = .ok (.invokestatic 167, 3) := dq_get dX5_look_0_t 13 rfl
theorem dX5_look_28 : decode cX5_look 28 = .ok (.istore_n 3, 1) := dq_get dX5_look_0_t 14 rfl
theorem dX5_look_29 : decode cX5_look 29 = .ok (.bipush (-4), 2) := dq_get dX5_look_0_t 15 rfl
theorem dX5_look_31 : decode cX5_look 31 = .ok (.istore 4, 2) := dq_get dX5_look_0_t 16 rfl
theorem dX5_look_33 : decode cX5_look 33 = .ok (.aload_n 0, 1) := dq_get dX5_look_0_t 17 rfl
theorem dX5_look_34 : decode cX5_look 34 = .ok (.getfield 10, 3) := dq_get dX5_look_0_t 18 rfl
theorem dX5_look_37 : decode cX5_look 37 = .ok (.invokevirtual 140, 3) := dq_get dX5_look_0_t 19 rfl
theorem dX5_look_40 : decode cX5_look 40 = .ok (.istore 5, 2) := dq_get dX5_look_0_t 20 rfl
theorem dX5_look_42 : decode cX5_look 42 = .ok (.iconst 0, 1) := dq_get dX5_look_0_t 21 rfl
theorem dX5_look_43 : decode cX5_look 43 = .ok (.istore 6, 2) := dq_get dX5_look_0_t 22 rfl
theorem dX5_look_45 : decode cX5_look 45 = .ok (.iload 6, 2) := dq_get dX5_look_0_t 23 rfl
theorem dX5_look_47 : decode cX5_look 47 = .ok (.iload 5, 2) := dq_get dX5_look_0_t 24 rfl
theorem dX5_look_49 : decode cX5_look 49 = .ok (.if_icmp .ge 55, 3) := dq_get dX5_look_0_t 25 rfl
theorem dX5_look_52 : decode cX5_look 52 = .ok (.iconst 0, 1) := dq_get dX5_look_0_t 26 rfl
theorem dX5_look_53 : decode cX5_look 53 = .ok (.istore 7, 2) := dq_get dX5_look_0_t 27 rfl
theorem dX5_look_55 : decode cX5_look 55 = .ok (.iload 7, 2) := dq_get dX5_look_0_t 28 rfl
theorem dX5_look_57 : decode cX5_look 57 = .ok (.iload 5, 2) := dq_get dX5_look_0_t 29 rfl
theorem dX5_look_59 : decode cX5_look 59 = .ok (.if_icmp .ge 39, 3) := dq_get dX5_look_0_t 30 rfl
theorem dX5_look_62 : decode cX5_look 62 = .ok (.aload_n 0, 1) := dq_get dX5_look_0_t 31 rfl
theorem dX5_look_63 : decode cX5_look 63 = .ok (.iload 6, 2) := dq_get dX5_look_0_t 32 rfl
theorem dX5_look_65 : decode cX5_look 65 = .ok (.iload 7, 2) := dq_get dX5_look_0_t 33 rfl
theorem dX5_look_67 : decode cX5_look 67 = .ok (.iload_n 2, 1) := dq_get dX5_look_0_t 34 rfl
theorem dX5_look_68 : decode cX5_look 68 = .ok (.invokevirtual 172, 3) := dq_get dX5_look_0_t 35 rfl
theorem dX5_look_71 : decode cX5_look 71 = .ok (.istore 8, 2) := dq_get dX5_look_0_t 36 rfl
theorem dX5_look_73 : decode cX5_look 73 = .ok (.iload 8, 2) := dq_get dX5_look_0_t 37 rfl
theorem dX5_look_75 : decode cX5_look 75 = .ok (.iload_n 3, 1) := dq_get dX5_look_0_t 38 rfl
theorem dX5_look_76 : decode cX5_look 76 = .ok (.if_icmp .ge 16, 3) := dq_get dX5_look_0_t 39 rfl
theorem dX5_look_79_t : dqK cX5_look.data.toList 0 [(79, .iload 8, 2), (81, .istore_n 3, 1), (82, .bipush 16, 2), (84, .iload 6, 2), (86, .imul, 1), (87, .iload 7, 2), (89, .iadd, 1), (90, .istore 4, 2), (92, .iinc 7 1, 3), (95, .goto (-40), 3), (98, .iinc 6 1, 3), (101, .goto (-56), 3), (104, .iload_n 1, 1), (105, .ifCond .eq 10, 3), (108, .iload 4, 2), (110, .bipush (-4), 2), (112, .if_icmp .ne 8, 3), (115, .iload 4, 2), (117, .goto 4, 3), (120, .iload_n 3, 1), (121, .ireturn, 1)] = true := by decide +kernel
theorem dX5_look_79 : decode cX5_look 79 = .ok (.iload 8, 2) := dq_get dX5_look_79_t 0 rfl
theorem dX5_look_81 : decode cX5_look 81 = .ok (.istore_n 3, 1) := dq_get dX5_look_79_t 1 rfl
theorem dX5_look_82 : decode cX5_look 82 = .ok (.bipush 16, 2) := dq_get dX5_look_79_t 2 rfl
theorem dX5_look_84 : decode cX5_look 84 = .ok (.iload 6, 2) := dq_get dX5_look_79_t 3 rfl
theorem dX5_look_86 : decode cX5_look 86 = .ok (.imul, 1) := dq_get dX5_look_79_t 4 rfl
theorem dX5_look_87 : decode cX5_look 87 = .ok (.iload 7, 2) := dq_get dX5_look_79_t 5 rfl
theorem dX5_look_89 : decode cX5_look 89 = .ok (.iadd, 1) := dq_get dX5_look_79_t 6 rfl
theorem dX5_look_90 : decode cX5_look 90 = .ok (.istore 4, 2) := dq_get dX5_look_79_t 7 rfl
theorem dX5_look_92 : decode cX5_look 92 = .ok (.iinc 7 1, 3) := dq_get dX5_look_79_t 8 rfl
theorem dX5_look_95 : decode cX5_look 95 = .ok (.goto (-40), 3) := dq_get dX5_look_79_t 9 rfl
theorem dX5_look_98 : decode cX5_look 98 = .ok (.iinc 6 1, 3) := dq_get dX5_look_79_t 10 rfl
theorem dX5_look_101 : decode cX5_look 101 = .ok (.goto (-56), 3) := dq_get dX5_look_79_t 11 rfl
theorem dX5_look_104 : decode cX5_look 104 = .ok (.iload_n 1, 1) := dq_get dX5_look_79_t 12 rfl
theorem dX5_look_105 : decode cX5_look 105 = .ok (.ifCond .eq 10, 3) := dq_get dX5_look_79_t 13 rfl
theorem dX5_look_108 : decode cX5_look 108 = .ok (.iload 4, 2) := dq_get dX5_look_79_t 14 rfl
theorem dX5_look_110 : decode cX5_look 110 = .ok (.bipush (-4), 2) := dq_get dX5_look_79_t 15 rfl
theorem dX5_look_112 : decode cX5_look 112 = .ok (.if_icmp .ne 8, 3) := dq_get dX5_look_79_t 16 rfl
theorem dX5_look_115 : decode cX5_look 115 = .ok (.iload 4, 2) := dq_get dX5_look_79_t 17 rfl
theorem dX5_look_117 : decode cX5_look 117 = .ok (.goto 4, 3) := dq_get dX5_look_79_t 18 rfl
theorem dX5_look_120 : decode cX5_look 120 = .ok (.iload_n 3, 1) := dq_get dX5_look_79_t 19 rfl
theorem dX5_look_121 : decode cX5_look 121 = .ok (.ireturn, 1) := dq_get dX5_look_79_t 20 rfl
theorem gt_wsX5_likely_wsX00 : GoodIn wsX5_likely wsX00 := fun w hw => ⟨List.mem_cons_of_mem _ (List.mem_append_left _ (List.mem_append_left _ (List.mem_append_right _ hw))), good_of_word (List.all_eq_true.mp gw_wsX00 w hw)⟩
set_option maxRecDepth 20000 in
theorem ggX5_likely_X0_hasCell : GoodIn wsX5_likely wsX0_hasCell := goodIn_ca (goodIn_r _ [8, 9, 10] rfl (by decide +kernel)) gt_wsX5_likely_wsX00
set_option maxRecDepth 20000 in
theorem gX5_likely_X0_hasCell : GoodIn wsX5_likely (wsV RX5 105 RX0 yX0_hasCell wsX0_hasCell) := goodIn_app (goodIn_r _ [4, 5, 6, 7] rfl (by decide +kernel)) ggX5_likely_X0_hasCell
set_option maxRecDepth 20000 in
theorem ggX5_likely_X5_isMark : GoodIn wsX5_likely wsX5_isMark := goodIn_r _ [14] rfl (by decide +kernel)
set_option maxRecDepth 20000 in
theorem gX5_likely_X5_isMark : GoodIn wsX5_likely (va_wsS RX5 129 yX5_isMark wsX5_isMark) := goodIn_app (goodIn_r _ [11, 12, 13] rfl (by decide +kernel)) ggX5_likely_X5_isMark
set_option maxRecDepth 20000 in
theorem ggX5_likely_X5_isChoice : GoodIn wsX5_likely wsX5_isChoice := goodIn_r _ [17] rfl (by decide +kernel)
set_option maxRecDepth 20000 in
theorem gX5_likely_X5_isChoice : GoodIn wsX5_likely (va_wsS RX5 126 yX5_isChoice wsX5_isChoice) := goodIn_app (goodIn_r _ [15, 16, 13] rfl (by decide +kernel)) ggX5_likely_X5_isChoice
theorem gt_wsX5_likely_wsX50 : GoodIn wsX5_likely wsX50 := fun w hw => ⟨List.mem_cons_of_mem _ (List.mem_append_left _ (List.mem_append_left _ (List.mem_append_left _ (List.mem_append_right _ hw)))), good_of_word (List.all_eq_true.mp gw_wsX50 w hw)⟩
theorem gt_wsX5_likely_wsX40 : GoodIn wsX5_likely wsX40 := fun w hw => ⟨List.mem_cons_of_mem _ (List.mem_append_right _ hw), good_of_word (List.all_eq_true.mp gw_wsX40 w hw)⟩
theorem gt_wsX5_likely_wsX20 : GoodIn wsX5_likely wsX20 := fun w hw => ⟨List.mem_cons_of_mem _ (List.mem_append_left _ (List.mem_append_right _ hw)), good_of_word (List.all_eq_true.mp gw_wsX20 w hw)⟩
set_option maxRecDepth 20000 in
theorem ggX5_likely_X5_fitting : GoodIn wsX5_likely wsX5_fitting := goodIn_ca (goodIn_ca (goodIn_ca (goodIn_ca (goodIn_r _ [21, 1, 22, 23, 24, 13, 25, 26, 27, 28, 29, 30, 31, 32, 33, 34, 35, 36, 37, 38, 39, 40, 41, 42, 43, 44, 45, 46, 47, 48, 49, 50, 51, 52, 53, 54, 55, 56, 57, 58, 59, 60, 61, 62, 63, 64, 65, 66, 67, 68, 69, 70, 71] rfl (by decide +kernel)) gt_wsX5_likely_wsX50) gt_wsX5_likely_wsX00) gt_wsX5_likely_wsX40) gt_wsX5_likely_wsX20
set_option maxRecDepth 20000 in
theorem gX5_likely_X5_fitting : GoodIn wsX5_likely (wsV RX5 164 RX5 yX5_fitting wsX5_fitting) := goodIn_app (goodIn_r _ [18, 19, 20, 13] rfl (by decide +kernel)) ggX5_likely_X5_fitting
set_option maxRecDepth 20000 in
theorem ggX5_likely_X5_freshViews : GoodIn wsX5_likely wsX5_freshViews := goodIn_ca (goodIn_ca (goodIn_ca (goodIn_ca (goodIn_r _ [25, 26, 1, 27, 28, 29, 30, 31, 32, 33, 34, 35, 36, 37, 38, 39, 40, 41, 42, 43, 44, 45, 46, 47, 48, 49, 50, 51, 52, 53, 54, 55, 56, 57, 58] rfl (by decide +kernel)) gt_wsX5_likely_wsX50) gt_wsX5_likely_wsX40) gt_wsX5_likely_wsX00) gt_wsX5_likely_wsX20
set_option maxRecDepth 20000 in
theorem gX5_likely_X5_freshViews : GoodIn wsX5_likely (wsV RX5 112 RX5 yX5_freshViews wsX5_freshViews) := goodIn_app (goodIn_r _ [22, 23, 24, 13] rfl (by decide +kernel)) ggX5_likely_X5_freshViews
set_option maxRecDepth 20000 in
theorem ggX5_likely_X4_markOf : GoodIn wsX5_likely wsX4_markOf := goodIn_ca (goodIn_r _ [71, 40] rfl (by decide +kernel)) gt_wsX5_likely_wsX40
set_option maxRecDepth 20000 in
theorem gX5_likely_X4_markOf : GoodIn wsX5_likely (wsV RX5 116 RX4 yX4_markOf wsX4_markOf) := goodIn_app (goodIn_r _ [72, 69, 70, 30] rfl (by decide +kernel)) ggX5_likely_X4_markOf
set_option maxRecDepth 20000 in
theorem ggX5_likely_J6_bitCount_0f7a4 : GoodIn wsX5_likely wsJ6_bitCount_0f7a4 := goodIn_r _ [76, 77, 78, 79] rfl (by decide +kernel)
set_option maxRecDepth 20000 in
theorem gX5_likely_J6_bitCount_0f7a4 : GoodIn wsX5_likely (va_wsS RX5 167 yJ6_bitCount_0f7a4 wsJ6_bitCount_0f7a4) := goodIn_app (goodIn_r _ [73, 74, 75] rfl (by decide +kernel)) ggX5_likely_J6_bitCount_0f7a4
set_option maxRecDepth 20000 in
theorem ggX5_likely_X5_fractionPart : GoodIn wsX5_likely wsX5_fractionPart := goodIn_r _ [82, 2] rfl (by decide +kernel)
set_option maxRecDepth 20000 in
theorem gX5_likely_X5_fractionPart : GoodIn wsX5_likely (va_wsS RX5 179 yX5_fractionPart wsX5_fractionPart) := goodIn_app (goodIn_r _ [80, 81, 13] rfl (by decide +kernel)) ggX5_likely_X5_fractionPart
theorem dX5_likely_0_t : dqK cX5_likely.data.toList 0 [(0, .aload_n 0, 1), (1, .getfield 10, 3), (4, .iload_n 1, 1), (5, .invokevirtual 105, 3), (8, .ifCond .eq 17, 3), (11, .iload_n 2, 1), (12, .invokestatic 129, 3), (15, .ifCond .eq 10, 3), (18, .iload_n 3, 1), (19, .invokestatic 126, 3), (22, .ifCond .ne 7, 3), (25, .ldc2_w 175, 3), (28, .lreturn, 1), (29, .aload_n 0, 1), (30, .aload_n 0, 1), (31, .getfield 10, 3), (34, .getfield 161, 3), (37, .getfield 97, 3), (40, .invokevirtual 164, 3), (43, .istore 4, 2), (45, .iload 4, 2), (47, .ifCond .ne 7, 3), (50, .ldc2_w 177, 3), (53, .lreturn, 1), (54, .aload_n 0, 1), (55, .invokevirtual 112, 3), (58, .astore 5, 2), (60, .iconst 0, 1), (61, .istore 6, 2), (63, .iconst 0, 1), (64, .istore 7, 2), (66, .iload 7, 2), (68, .aload_n 0, 1), (69, .getfield 10, 3), (72, .getfield 90, 3), (75, .if_icmp .gt 34, 3), (78, .iload 4, 2), (80, .iload 7, 2), (82, .ishr, 1), (83, .iconst 1, 1)] = true := by decide +kernel
theorem dX5_likely_0 : decode cX5_likely 0 = .ok (.aload_n 0, 1) := dq_get dX5_likely_0_t 0 rfl
theorem dX5_likely_1 : decode cX5_likely 1 = .ok (.getfield 10, 3) := dq_get dX5_likely_0_t 1 rfl
theorem dX5_likely_4 : decode cX5_likely 4 = .ok (.iload_n 1, 1) := dq_get dX5_likely_0_t 2 rfl
theorem dX5_likely_5 : decode cX5_likely 5 = .ok (.invokevirtual 105, 3) := dq_get dX5_likely_0_t 3 rfl
theorem dX5_likely_8 : decode cX5_likely 8 = .ok (.ifCond .eq 17, 3) := dq_get dX5_likely_0_t 4 rfl
theorem dX5_likely_11 : decode cX5_likely 11 = .ok (.iload_n 2, 1) := dq_get dX5_likely_0_t 5 rfl
theorem dX5_likely_12 : decode cX5_likely 12 = .ok (.invokestatic 129, 3) := dq_get dX5_likely_0_t 6 rfl
theorem dX5_likely_15 : decode cX5_likely 15 = .ok (.ifCond .eq 10, 3) := dq_get dX5_likely_0_t 7 rfl
theorem dX5_likely_18 : decode cX5_likely 18 = .ok (.iload_n 3, 1) := dq_get dX5_likely_0_t 8 rfl
theorem dX5_likely_19 : decode cX5_likely 19 = .ok (.invokestatic 126, 3) := dq_get dX5_likely_0_t 9 rfl
theorem dX5_likely_22 : decode cX5_likely 22 = .ok (.ifCond .ne 7, 3) := dq_get dX5_likely_0_t 10 rfl
theorem dX5_likely_25 : decode cX5_likely 25 = .ok (.ldc2_w 175, 3) := dq_get dX5_likely_0_t 11 rfl
theorem dX5_likely_28 : decode cX5_likely 28 = .ok (.lreturn, 1) := dq_get dX5_likely_0_t 12 rfl
theorem dX5_likely_29 : decode cX5_likely 29 = .ok (.aload_n 0, 1) := dq_get dX5_likely_0_t 13 rfl
theorem dX5_likely_30 : decode cX5_likely 30 = .ok (.aload_n 0, 1) := dq_get dX5_likely_0_t 14 rfl
theorem dX5_likely_31 : decode cX5_likely 31 = .ok (.getfield 10, 3) := dq_get dX5_likely_0_t 15 rfl
theorem dX5_likely_34 : decode cX5_likely 34 = .ok (.getfield 161, 3) := dq_get dX5_likely_0_t 16 rfl
theorem dX5_likely_37 : decode cX5_likely 37 = .ok (.getfield 97, 3) := dq_get dX5_likely_0_t 17 rfl
theorem dX5_likely_40 : decode cX5_likely 40 = .ok (.invokevirtual 164, 3) := dq_get dX5_likely_0_t 18 rfl
theorem dX5_likely_43 : decode cX5_likely 43 = .ok (.istore 4, 2) := dq_get dX5_likely_0_t 19 rfl
theorem dX5_likely_45 : decode cX5_likely 45 = .ok (.iload 4, 2) := dq_get dX5_likely_0_t 20 rfl
theorem dX5_likely_47 : decode cX5_likely 47 = .ok (.ifCond .ne 7, 3) := dq_get dX5_likely_0_t 21 rfl
theorem dX5_likely_50 : decode cX5_likely 50 = .ok (.ldc2_w 177, 3) := dq_get dX5_likely_0_t 22 rfl
theorem dX5_likely_53 : decode cX5_likely 53 = .ok (.lreturn, 1) := dq_get dX5_likely_0_t 23 rfl
theorem dX5_likely_54 : decode cX5_likely 54 = .ok (.aload_n 0, 1) := dq_get dX5_likely_0_t 24 rfl
theorem dX5_likely_55 : decode cX5_likely 55 = .ok (.invokevirtual 112, 3) := dq_get dX5_likely_0_t 25 rfl
theorem dX5_likely_58 : decode cX5_likely 58 = .ok (.astore 5, 2) := dq_get dX5_likely_0_t 26 rfl
theorem dX5_likely_60 : decode cX5_likely 60 = .ok (.iconst 0, 1) := dq_get dX5_likely_0_t 27 rfl
theorem dX5_likely_61 : decode cX5_likely 61 = .ok (.istore 6, 2) := dq_get dX5_likely_0_t 28 rfl
theorem dX5_likely_63 : decode cX5_likely 63 = .ok (.iconst 0, 1) := dq_get dX5_likely_0_t 29 rfl
theorem dX5_likely_64 : decode cX5_likely 64 = .ok (.istore 7, 2) := dq_get dX5_likely_0_t 30 rfl
theorem dX5_likely_66 : decode cX5_likely 66 = .ok (.iload 7, 2) := dq_get dX5_likely_0_t 31 rfl
theorem dX5_likely_68 : decode cX5_likely 68 = .ok (.aload_n 0, 1) := dq_get dX5_likely_0_t 32 rfl
theorem dX5_likely_69 : decode cX5_likely 69 = .ok (.getfield 10, 3) := dq_get dX5_likely_0_t 33 rfl
theorem dX5_likely_72 : decode cX5_likely 72 = .ok (.getfield 90, 3) := dq_get dX5_likely_0_t 34 rfl
theorem dX5_likely_75 : decode cX5_likely 75 = .ok (.if_icmp .gt 34, 3) := dq_get dX5_likely_0_t 35 rfl
theorem dX5_likely_78 : decode cX5_likely 78 = .ok (.iload 4, 2) := dq_get dX5_likely_0_t 36 rfl
theorem dX5_likely_80 : decode cX5_likely 80 = .ok (.iload 7, 2) := dq_get dX5_likely_0_t 37 rfl
theorem dX5_likely_82 : decode cX5_likely 82 = .ok (.ishr, 1) := dq_get dX5_likely_0_t 38 rfl
theorem dX5_likely_83 : decode cX5_likely 83 = .ok (.iconst 1, 1) := dq_get dX5_likely_0_t 39 rfl
theorem dX5_likely_84_t : dqK cX5_likely.data.toList 0 [(84, .iand, 1), (85, .ifCond .eq 18, 3), (88, .aload 5, 2), (90, .iload_n 1, 1), (91, .iload 7, 2), (93, .invokevirtual 116, 3), (96, .iload_n 2, 1), (97, .if_icmp .ne 6, 3), (100, .iinc 6 1, 3), (103, .iinc 7 1, 3), (106, .goto (-40), 3), (109, .iload 6, 2), (111, .i2l, 1), (112, .iload 4, 2), (114, .invokestatic 167, 3), (117, .i2l, 1), (118, .iload_n 3, 1), (119, .invokestatic 179, 3), (122, .lreturn, 1)] = true := by decide +kernel
theorem dX5_likely_84 : decode cX5_likely 84 = .ok (.iand, 1) := dq_get dX5_likely_84_t 0 rfl
theorem dX5_likely_85 : decode cX5_likely 85 = .ok (.ifCond .eq 18, 3) := dq_get dX5_likely_84_t 1 rfl
theorem dX5_likely_88 : decode cX5_likely 88 = .ok (.aload 5, 2) := dq_get dX5_likely_84_t 2 rfl
theorem dX5_likely_90 : decode cX5_likely 90 = .ok (.iload_n 1, 1) := dq_get dX5_likely_84_t 3 rfl
theorem dX5_likely_91 : decode cX5_likely 91 = .ok (.iload 7, 2) := dq_get dX5_likely_84_t 4 rfl
theorem dX5_likely_93 : decode cX5_likely 93 = .ok (.invokevirtual 116, 3) := dq_get dX5_likely_84_t 5 rfl
theorem dX5_likely_96 : decode cX5_likely 96 = .ok (.iload_n 2, 1) := dq_get dX5_likely_84_t 6 rfl
theorem dX5_likely_97 : decode cX5_likely 97 = .ok (.if_icmp .ne 6, 3) := dq_get dX5_likely_84_t 7 rfl
theorem dX5_likely_100 : decode cX5_likely 100 = .ok (.iinc 6 1, 3) := dq_get dX5_likely_84_t 8 rfl
theorem dX5_likely_103 : decode cX5_likely 103 = .ok (.iinc 7 1, 3) := dq_get dX5_likely_84_t 9 rfl
theorem dX5_likely_106 : decode cX5_likely 106 = .ok (.goto (-40), 3) := dq_get dX5_likely_84_t 10 rfl
theorem dX5_likely_109 : decode cX5_likely 109 = .ok (.iload 6, 2) := dq_get dX5_likely_84_t 11 rfl
theorem dX5_likely_111 : decode cX5_likely 111 = .ok (.i2l, 1) := dq_get dX5_likely_84_t 12 rfl
theorem dX5_likely_112 : decode cX5_likely 112 = .ok (.iload 4, 2) := dq_get dX5_likely_84_t 13 rfl
theorem dX5_likely_114 : decode cX5_likely 114 = .ok (.invokestatic 167, 3) := dq_get dX5_likely_84_t 14 rfl
theorem dX5_likely_117 : decode cX5_likely 117 = .ok (.i2l, 1) := dq_get dX5_likely_84_t 15 rfl
theorem dX5_likely_118 : decode cX5_likely 118 = .ok (.iload_n 3, 1) := dq_get dX5_likely_84_t 16 rfl
theorem dX5_likely_119 : decode cX5_likely 119 = .ok (.invokestatic 179, 3) := dq_get dX5_likely_84_t 17 rfl
theorem dX5_likely_122 : decode cX5_likely 122 = .ok (.lreturn, 1) := dq_get dX5_likely_84_t 18 rfl
theorem gt_wsX5_could_wsX50 : GoodIn wsX5_could wsX50 := fun w hw => ⟨List.mem_cons_of_mem _ (List.mem_append_left _ (List.mem_append_left _ (List.mem_append_left _ (List.mem_append_right _ hw)))), good_of_word (List.all_eq_true.mp gw_wsX50 w hw)⟩
theorem gt_wsX5_could_wsX00 : GoodIn wsX5_could wsX00 := fun w hw => ⟨List.mem_cons_of_mem _ (List.mem_append_left _ (List.mem_append_left _ (List.mem_append_right _ hw))), good_of_word (List.all_eq_true.mp gw_wsX00 w hw)⟩
theorem gt_wsX5_could_wsX40 : GoodIn wsX5_could wsX40 := fun w hw => ⟨List.mem_cons_of_mem _ (List.mem_append_right _ hw), good_of_word (List.all_eq_true.mp gw_wsX40 w hw)⟩
theorem gt_wsX5_could_wsX20 : GoodIn wsX5_could wsX20 := fun w hw => ⟨List.mem_cons_of_mem _ (List.mem_append_left _ (List.mem_append_right _ hw)), good_of_word (List.all_eq_true.mp gw_wsX20 w hw)⟩
set_option maxRecDepth 20000 in
theorem ggX5_could_X5_fitting : GoodIn wsX5_could wsX5_fitting := goodIn_ca (goodIn_ca (goodIn_ca (goodIn_ca (goodIn_r _ [6, 1, 7, 8, 9, 5, 10, 11, 12, 13, 14, 15, 16, 17, 18, 19, 20, 21, 22, 23, 24, 25, 26, 27, 28, 29, 30, 31, 32, 33, 34, 35, 36, 37, 38, 39, 40, 41, 42, 43, 44, 45, 46, 47, 48, 49, 50, 51, 52, 53, 54, 55, 56] rfl (by decide +kernel)) gt_wsX5_could_wsX50) gt_wsX5_could_wsX00) gt_wsX5_could_wsX40) gt_wsX5_could_wsX20
set_option maxRecDepth 20000 in
theorem gX5_could_X5_fitting : GoodIn wsX5_could (wsV RX5 164 RX5 yX5_fitting wsX5_fitting) := goodIn_app (goodIn_r _ [2, 3, 4, 5] rfl (by decide +kernel)) ggX5_could_X5_fitting
set_option maxRecDepth 20000 in
theorem ggX5_could_X2_number : GoodIn wsX5_could wsX2_number := goodIn_ca (goodIn_r _ [34, 35] rfl (by decide +kernel)) gt_wsX5_could_wsX20
set_option maxRecDepth 20000 in
theorem gX5_could_X2_number : GoodIn wsX5_could (wsV RX5 123 RX2 yX2_number wsX2_number) := goodIn_app (goodIn_r _ [44, 31, 32, 33] rfl (by decide +kernel)) ggX5_could_X2_number
theorem dX5_could_0_t : dqK cX5_could.data.toList 0 [(0, .aload_n 0, 1), (1, .aload_n 0, 1), (2, .getfield 10, 3), (5, .getfield 161, 3), (8, .getfield 97, 3), (11, .invokevirtual 164, 3), (14, .istore_n 1, 1), (15, .iconst 0, 1), (16, .istore_n 2, 1), (17, .iconst 0, 1), (18, .istore_n 3, 1), (19, .iload_n 3, 1), (20, .aload_n 0, 1), (21, .getfield 10, 3), (24, .getfield 102, 3), (27, .getfield 97, 3), (30, .if_icmp .ge 34, 3), (33, .iload_n 1, 1), (34, .aload_n 0, 1), (35, .getfield 10, 3), (38, .getfield 102, 3), (41, .iload_n 3, 1), (42, .iconst 0, 1), (43, .invokevirtual 123, 3), (46, .ishr, 1), (47, .iconst 1, 1), (48, .iand, 1), (49, .ifCond .eq 9, 3), (52, .iload_n 2, 1), (53, .iconst 1, 1), (54, .iload_n 3, 1), (55, .ishl, 1), (56, .ior, 1), (57, .istore_n 2, 1), (58, .iinc 3 1, 3), (61, .goto (-42), 3), (64, .iload_n 2, 1), (65, .ireturn, 1)] = true := by decide +kernel
theorem dX5_could_0 : decode cX5_could 0 = .ok (.aload_n 0, 1) := dq_get dX5_could_0_t 0 rfl
theorem dX5_could_1 : decode cX5_could 1 = .ok (.aload_n 0, 1) := dq_get dX5_could_0_t 1 rfl
theorem dX5_could_2 : decode cX5_could 2 = .ok (.getfield 10, 3) := dq_get dX5_could_0_t 2 rfl
theorem dX5_could_5 : decode cX5_could 5 = .ok (.getfield 161, 3) := dq_get dX5_could_0_t 3 rfl
theorem dX5_could_8 : decode cX5_could 8 = .ok (.getfield 97, 3) := dq_get dX5_could_0_t 4 rfl
theorem dX5_could_11 : decode cX5_could 11 = .ok (.invokevirtual 164, 3) := dq_get dX5_could_0_t 5 rfl
theorem dX5_could_14 : decode cX5_could 14 = .ok (.istore_n 1, 1) := dq_get dX5_could_0_t 6 rfl
theorem dX5_could_15 : decode cX5_could 15 = .ok (.iconst 0, 1) := dq_get dX5_could_0_t 7 rfl
theorem dX5_could_16 : decode cX5_could 16 = .ok (.istore_n 2, 1) := dq_get dX5_could_0_t 8 rfl
theorem dX5_could_17 : decode cX5_could 17 = .ok (.iconst 0, 1) := dq_get dX5_could_0_t 9 rfl
theorem dX5_could_18 : decode cX5_could 18 = .ok (.istore_n 3, 1) := dq_get dX5_could_0_t 10 rfl
theorem dX5_could_19 : decode cX5_could 19 = .ok (.iload_n 3, 1) := dq_get dX5_could_0_t 11 rfl
theorem dX5_could_20 : decode cX5_could 20 = .ok (.aload_n 0, 1) := dq_get dX5_could_0_t 12 rfl
theorem dX5_could_21 : decode cX5_could 21 = .ok (.getfield 10, 3) := dq_get dX5_could_0_t 13 rfl
theorem dX5_could_24 : decode cX5_could 24 = .ok (.getfield 102, 3) := dq_get dX5_could_0_t 14 rfl
theorem dX5_could_27 : decode cX5_could 27 = .ok (.getfield 97, 3) := dq_get dX5_could_0_t 15 rfl
theorem dX5_could_30 : decode cX5_could 30 = .ok (.if_icmp .ge 34, 3) := dq_get dX5_could_0_t 16 rfl
theorem dX5_could_33 : decode cX5_could 33 = .ok (.iload_n 1, 1) := dq_get dX5_could_0_t 17 rfl
theorem dX5_could_34 : decode cX5_could 34 = .ok (.aload_n 0, 1) := dq_get dX5_could_0_t 18 rfl
theorem dX5_could_35 : decode cX5_could 35 = .ok (.getfield 10, 3) := dq_get dX5_could_0_t 19 rfl
theorem dX5_could_38 : decode cX5_could 38 = .ok (.getfield 102, 3) := dq_get dX5_could_0_t 20 rfl
theorem dX5_could_41 : decode cX5_could 41 = .ok (.iload_n 3, 1) := dq_get dX5_could_0_t 21 rfl
theorem dX5_could_42 : decode cX5_could 42 = .ok (.iconst 0, 1) := dq_get dX5_could_0_t 22 rfl
theorem dX5_could_43 : decode cX5_could 43 = .ok (.invokevirtual 123, 3) := dq_get dX5_could_0_t 23 rfl
theorem dX5_could_46 : decode cX5_could 46 = .ok (.ishr, 1) := dq_get dX5_could_0_t 24 rfl
theorem dX5_could_47 : decode cX5_could 47 = .ok (.iconst 1, 1) := dq_get dX5_could_0_t 25 rfl
theorem dX5_could_48 : decode cX5_could 48 = .ok (.iand, 1) := dq_get dX5_could_0_t 26 rfl
theorem dX5_could_49 : decode cX5_could 49 = .ok (.ifCond .eq 9, 3) := dq_get dX5_could_0_t 27 rfl
theorem dX5_could_52 : decode cX5_could 52 = .ok (.iload_n 2, 1) := dq_get dX5_could_0_t 28 rfl
theorem dX5_could_53 : decode cX5_could 53 = .ok (.iconst 1, 1) := dq_get dX5_could_0_t 29 rfl
theorem dX5_could_54 : decode cX5_could 54 = .ok (.iload_n 3, 1) := dq_get dX5_could_0_t 30 rfl
theorem dX5_could_55 : decode cX5_could 55 = .ok (.ishl, 1) := dq_get dX5_could_0_t 31 rfl
theorem dX5_could_56 : decode cX5_could 56 = .ok (.ior, 1) := dq_get dX5_could_0_t 32 rfl
theorem dX5_could_57 : decode cX5_could 57 = .ok (.istore_n 2, 1) := dq_get dX5_could_0_t 33 rfl
theorem dX5_could_58 : decode cX5_could 58 = .ok (.iinc 3 1, 3) := dq_get dX5_could_0_t 34 rfl
theorem dX5_could_61 : decode cX5_could 61 = .ok (.goto (-42), 3) := dq_get dX5_could_0_t 35 rfl
theorem dX5_could_64 : decode cX5_could 64 = .ok (.iload_n 2, 1) := dq_get dX5_could_0_t 36 rfl
theorem dX5_could_65 : decode cX5_could 65 = .ok (.ireturn, 1) := dq_get dX5_could_0_t 37 rfl
theorem gt_wsX5_apart_wsX00 : GoodIn wsX5_apart wsX00 := fun w hw => ⟨List.mem_cons_of_mem _ (List.mem_append_left _ (List.mem_append_left _ (List.mem_append_right _ hw))), good_of_word (List.all_eq_true.mp gw_wsX00 w hw)⟩
set_option maxRecDepth 20000 in
theorem ggX5_apart_X0_hasDay : GoodIn wsX5_apart wsX0_hasDay := goodIn_ca (goodIn_r _ [6, 7] rfl (by decide +kernel)) gt_wsX5_apart_wsX00
set_option maxRecDepth 20000 in
theorem gX5_apart_X0_hasDay : GoodIn wsX5_apart (wsV RX5 109 RX0 yX0_hasDay wsX0_hasDay) := goodIn_app (goodIn_r _ [2, 3, 4, 5] rfl (by decide +kernel)) ggX5_apart_X0_hasDay
theorem gt_wsX5_apart_wsX50 : GoodIn wsX5_apart wsX50 := fun w hw => ⟨List.mem_cons_of_mem _ (List.mem_append_left _ (List.mem_append_left _ (List.mem_append_left _ (List.mem_append_right _ hw)))), good_of_word (List.all_eq_true.mp gw_wsX50 w hw)⟩
theorem gt_wsX5_apart_wsX40 : GoodIn wsX5_apart wsX40 := fun w hw => ⟨List.mem_cons_of_mem _ (List.mem_append_left _ (List.mem_append_right _ hw)), good_of_word (List.all_eq_true.mp gw_wsX40 w hw)⟩
theorem gt_wsX5_apart_wsX20 : GoodIn wsX5_apart wsX20 := fun w hw => ⟨List.mem_cons_of_mem _ (List.mem_append_right _ hw), good_of_word (List.all_eq_true.mp gw_wsX20 w hw)⟩
set_option maxRecDepth 20000 in
theorem ggX5_apart_X5_freshViews : GoodIn wsX5_apart wsX5_freshViews := goodIn_ca (goodIn_ca (goodIn_ca (goodIn_ca (goodIn_r _ [12, 13, 1, 14, 15, 16, 17, 18, 19, 20, 21, 22, 23, 24, 25, 26, 27, 28, 29, 30, 31, 32, 33, 34, 35, 36, 37, 38, 39, 40, 41, 42, 43, 44, 45] rfl (by decide +kernel)) gt_wsX5_apart_wsX50) gt_wsX5_apart_wsX40) gt_wsX5_apart_wsX00) gt_wsX5_apart_wsX20
set_option maxRecDepth 20000 in
theorem gX5_apart_X5_freshViews : GoodIn wsX5_apart (wsV RX5 112 RX5 yX5_freshViews wsX5_freshViews) := goodIn_app (goodIn_r _ [8, 9, 10, 11] rfl (by decide +kernel)) ggX5_apart_X5_freshViews
set_option maxRecDepth 20000 in
theorem ggX5_apart_X0_cells : GoodIn wsX5_apart wsX0_cells := goodIn_ca (goodIn_r _ [49, 50, 51] rfl (by decide +kernel)) gt_wsX5_apart_wsX00
set_option maxRecDepth 20000 in
theorem gX5_apart_X0_cells : GoodIn wsX5_apart (wsV RX5 140 RX0 yX0_cells wsX0_cells) := goodIn_app (goodIn_r _ [46, 47, 48, 5] rfl (by decide +kernel)) ggX5_apart_X0_cells
set_option maxRecDepth 20000 in
theorem ggX5_apart_X4_tellingApart : GoodIn wsX5_apart wsX4_tellingApart := goodIn_ca (goodIn_r _ [55, 56, 57, 58, 17, 59, 19, 20, 60, 61, 62, 63, 27, 64, 65, 66, 67, 21] rfl (by decide +kernel)) gt_wsX5_apart_wsX40
set_option maxRecDepth 20000 in
theorem gX5_apart_X4_tellingApart : GoodIn wsX5_apart (wsV RX5 183 RX4 yX4_tellingApart wsX4_tellingApart) := goodIn_app (goodIn_r _ [52, 53, 54, 17] rfl (by decide +kernel)) ggX5_apart_X4_tellingApart
theorem dX5_apart_0_t : dqK cX5_apart.data.toList 0 [(0, .aload_n 0, 1), (1, .getfield 10, 3), (4, .iload_n 1, 1), (5, .invokevirtual 109, 3), (8, .ifCond .eq 14, 3), (11, .aload_n 0, 1), (12, .getfield 10, 3), (15, .iload_n 2, 1), (16, .invokevirtual 109, 3), (19, .ifCond .ne 5, 3), (22, .iconst (-1), 1), (23, .ireturn, 1), (24, .aload_n 0, 1), (25, .invokevirtual 112, 3), (28, .iload_n 1, 1), (29, .iload_n 2, 1), (30, .aload_n 0, 1), (31, .getfield 10, 3), (34, .invokevirtual 140, 3), (37, .invokevirtual 183, 3), (40, .ireturn, 1)] = true := by decide +kernel
theorem dX5_apart_0 : decode cX5_apart 0 = .ok (.aload_n 0, 1) := dq_get dX5_apart_0_t 0 rfl
theorem dX5_apart_1 : decode cX5_apart 1 = .ok (.getfield 10, 3) := dq_get dX5_apart_0_t 1 rfl
theorem dX5_apart_4 : decode cX5_apart 4 = .ok (.iload_n 1, 1) := dq_get dX5_apart_0_t 2 rfl
theorem dX5_apart_5 : decode cX5_apart 5 = .ok (.invokevirtual 109, 3) := dq_get dX5_apart_0_t 3 rfl
theorem dX5_apart_8 : decode cX5_apart 8 = .ok (.ifCond .eq 14, 3) := dq_get dX5_apart_0_t 4 rfl
theorem dX5_apart_11 : decode cX5_apart 11 = .ok (.aload_n 0, 1) := dq_get dX5_apart_0_t 5 rfl
theorem dX5_apart_12 : decode cX5_apart 12 = .ok (.getfield 10, 3) := dq_get dX5_apart_0_t 6 rfl
theorem dX5_apart_15 : decode cX5_apart 15 = .ok (.iload_n 2, 1) := dq_get dX5_apart_0_t 7 rfl
theorem dX5_apart_16 : decode cX5_apart 16 = .ok (.invokevirtual 109, 3) := dq_get dX5_apart_0_t 8 rfl
theorem dX5_apart_19 : decode cX5_apart 19 = .ok (.ifCond .ne 5, 3) := dq_get dX5_apart_0_t 9 rfl
theorem dX5_apart_22 : decode cX5_apart 22 = .ok (.iconst (-1), 1) := dq_get dX5_apart_0_t 10 rfl
theorem dX5_apart_23 : decode cX5_apart 23 = .ok (.ireturn, 1) := dq_get dX5_apart_0_t 11 rfl
theorem dX5_apart_24 : decode cX5_apart 24 = .ok (.aload_n 0, 1) := dq_get dX5_apart_0_t 12 rfl
theorem dX5_apart_25 : decode cX5_apart 25 = .ok (.invokevirtual 112, 3) := dq_get dX5_apart_0_t 13 rfl
theorem dX5_apart_28 : decode cX5_apart 28 = .ok (.iload_n 1, 1) := dq_get dX5_apart_0_t 14 rfl
theorem dX5_apart_29 : decode cX5_apart 29 = .ok (.iload_n 2, 1) := dq_get dX5_apart_0_t 15 rfl
theorem dX5_apart_30 : decode cX5_apart 30 = .ok (.aload_n 0, 1) := dq_get dX5_apart_0_t 16 rfl
theorem dX5_apart_31 : decode cX5_apart 31 = .ok (.getfield 10, 3) := dq_get dX5_apart_0_t 17 rfl
theorem dX5_apart_34 : decode cX5_apart 34 = .ok (.invokevirtual 140, 3) := dq_get dX5_apart_0_t 18 rfl
theorem dX5_apart_37 : decode cX5_apart 37 = .ok (.invokevirtual 183, 3) := dq_get dX5_apart_0_t 19 rfl
theorem dX5_apart_40 : decode cX5_apart 40 = .ok (.ireturn, 1) := dq_get dX5_apart_0_t 20 rfl
set_option maxRecDepth 20000 in
theorem ggX5_places_X5_isChoice : GoodIn wsX5_places wsX5_isChoice := goodIn_r _ [6] rfl (by decide +kernel)
set_option maxRecDepth 20000 in
theorem gX5_places_X5_isChoice : GoodIn wsX5_places (va_wsS RX5 126 yX5_isChoice wsX5_isChoice) := goodIn_app (goodIn_r _ [3, 4, 5] rfl (by decide +kernel)) ggX5_places_X5_isChoice
theorem gt_wsX5_places_wsX50 : GoodIn wsX5_places wsX50 := fun w hw => ⟨List.mem_cons_of_mem _ (List.mem_append_left _ (List.mem_append_left _ (List.mem_append_left _ (List.mem_append_right _ hw)))), good_of_word (List.all_eq_true.mp gw_wsX50 w hw)⟩
theorem gt_wsX5_places_wsX40 : GoodIn wsX5_places wsX40 := fun w hw => ⟨List.mem_cons_of_mem _ (List.mem_append_left _ (List.mem_append_right _ hw)), good_of_word (List.all_eq_true.mp gw_wsX40 w hw)⟩
theorem gt_wsX5_places_wsX00 : GoodIn wsX5_places wsX00 := fun w hw => ⟨List.mem_cons_of_mem _ (List.mem_append_left _ (List.mem_append_left _ (List.mem_append_right _ hw))), good_of_word (List.all_eq_true.mp gw_wsX00 w hw)⟩
theorem gt_wsX5_places_wsX20 : GoodIn wsX5_places wsX20 := fun w hw => ⟨List.mem_cons_of_mem _ (List.mem_append_right _ hw), good_of_word (List.all_eq_true.mp gw_wsX20 w hw)⟩
set_option maxRecDepth 20000 in
theorem ggX5_places_X5_freshViews : GoodIn wsX5_places wsX5_freshViews := goodIn_ca (goodIn_ca (goodIn_ca (goodIn_ca (goodIn_r _ [10, 11, 1, 12, 13, 14, 15, 16, 17, 18, 19, 20, 21, 22, 23, 24, 25, 26, 27, 28, 29, 30, 31, 32, 33, 34, 35, 36, 37, 38, 39, 40, 41, 42, 43] rfl (by decide +kernel)) gt_wsX5_places_wsX50) gt_wsX5_places_wsX40) gt_wsX5_places_wsX00) gt_wsX5_places_wsX20
set_option maxRecDepth 20000 in
theorem gX5_places_X5_freshViews : GoodIn wsX5_places (wsV RX5 112 RX5 yX5_freshViews wsX5_freshViews) := goodIn_app (goodIn_r _ [7, 8, 9, 5] rfl (by decide +kernel)) ggX5_places_X5_freshViews
set_option maxRecDepth 20000 in
theorem ggX5_places_X0_cells : GoodIn wsX5_places wsX0_cells := goodIn_ca (goodIn_r _ [48, 49, 50] rfl (by decide +kernel)) gt_wsX5_places_wsX00
set_option maxRecDepth 20000 in
theorem gX5_places_X0_cells : GoodIn wsX5_places (wsV RX5 140 RX0 yX0_cells wsX0_cells) := goodIn_app (goodIn_r _ [44, 45, 46, 47] rfl (by decide +kernel)) ggX5_places_X0_cells
set_option maxRecDepth 20000 in
theorem ggX5_places_X4_tellingApart : GoodIn wsX5_places wsX4_tellingApart := goodIn_ca (goodIn_r _ [54, 55, 56, 57, 15, 58, 17, 18, 59, 60, 61, 62, 25, 63, 64, 65, 66, 19] rfl (by decide +kernel)) gt_wsX5_places_wsX40
set_option maxRecDepth 20000 in
theorem gX5_places_X4_tellingApart : GoodIn wsX5_places (wsV RX5 183 RX4 yX4_tellingApart wsX4_tellingApart) := goodIn_app (goodIn_r _ [51, 52, 53, 15] rfl (by decide +kernel)) ggX5_places_X4_tellingApart
set_option maxRecDepth 20000 in
theorem ggX5_places_X5_leastSet : GoodIn wsX5_places wsX5_leastSet := goodIn_ca (goodIn_r _ [70, 71, 72, 73, 5, 74, 2, 75, 76, 77, 78, 79, 80, 81, 82, 83, 84] rfl (by decide +kernel)) gt_wsX5_places_wsX50
set_option maxRecDepth 20000 in
theorem gX5_places_X5_leastSet : GoodIn wsX5_places (wsV RX5 186 RX5 yX5_leastSet wsX5_leastSet) := goodIn_app (goodIn_r _ [67, 68, 69, 5] rfl (by decide +kernel)) ggX5_places_X5_leastSet
set_option maxRecDepth 20000 in
theorem ggX5_places_J6_bitCount_0f7a4 : GoodIn wsX5_places wsJ6_bitCount_0f7a4 := goodIn_r _ [81, 82, 83, 84] rfl (by decide +kernel)
set_option maxRecDepth 20000 in
theorem gX5_places_J6_bitCount_0f7a4 : GoodIn wsX5_places (va_wsS RX5 167 yJ6_bitCount_0f7a4 wsJ6_bitCount_0f7a4) := goodIn_app (goodIn_r _ [78, 79, 80] rfl (by decide +kernel)) ggX5_places_J6_bitCount_0f7a4
theorem dX5_places_0_t : dqK cX5_places.data.toList 0 [(0, .iload_n 1, 1), (1, .invokestatic 126, 3), (4, .ifCond .ne 5, 3), (7, .iconst (-1), 1), (8, .ireturn, 1), (9, .aload_n 0, 1), (10, .invokevirtual 112, 3), (13, .astore_n 2, 1), (14, .aload_n 0, 1), (15, .getfield 10, 3), (18, .invokevirtual 140, 3), (21, .istore_n 3, 1), (22, .iconst 0, 1), (23, .istore 4, 2), (25, .iconst 0, 1), (26, .istore 5, 2), (28, .iload 5, 2), (30, .aload_n 0, 1), (31, .getfield 10, 3), (34, .getfield 90, 3), (37, .if_icmp .ge 68, 3), (40, .iload 5, 2), (42, .iconst 1, 1), (43, .iadd, 1), (44, .istore 6, 2), (46, .iload 6, 2), (48, .aload_n 0, 1), (49, .getfield 10, 3), (52, .getfield 90, 3), (55, .if_icmp .gt 44, 3), (58, .aload_n 2, 1), (59, .iload 5, 2), (61, .iload 6, 2), (63, .iload_n 3, 1), (64, .invokevirtual 183, 3), (67, .istore 7, 2), (69, .iload 7, 2), (71, .ifCond .eq 22, 3), (74, .iload 4, 2), (76, .bipush 45, 2)] = true := by decide +kernel
theorem dX5_places_0 : decode cX5_places 0 = .ok (.iload_n 1, 1) := dq_get dX5_places_0_t 0 rfl
theorem dX5_places_1 : decode cX5_places 1 = .ok (.invokestatic 126, 3) := dq_get dX5_places_0_t 1 rfl
theorem dX5_places_4 : decode cX5_places 4 = .ok (.ifCond .ne 5, 3) := dq_get dX5_places_0_t 2 rfl
theorem dX5_places_7 : decode cX5_places 7 = .ok (.iconst (-1), 1) := dq_get dX5_places_0_t 3 rfl
theorem dX5_places_8 : decode cX5_places 8 = .ok (.ireturn, 1) := dq_get dX5_places_0_t 4 rfl
theorem dX5_places_9 : decode cX5_places 9 = .ok (.aload_n 0, 1) := dq_get dX5_places_0_t 5 rfl
theorem dX5_places_10 : decode cX5_places 10 = .ok (.invokevirtual 112, 3) := dq_get dX5_places_0_t 6 rfl
theorem dX5_places_13 : decode cX5_places 13 = .ok (.astore_n 2, 1) := dq_get dX5_places_0_t 7 rfl
theorem dX5_places_14 : decode cX5_places 14 = .ok (.aload_n 0, 1) := dq_get dX5_places_0_t 8 rfl
theorem dX5_places_15 : decode cX5_places 15 = .ok (.getfield 10, 3) := dq_get dX5_places_0_t 9 rfl
theorem dX5_places_18 : decode cX5_places 18 = .ok (.invokevirtual 140, 3) := dq_get dX5_places_0_t 10 rfl
theorem dX5_places_21 : decode cX5_places 21 = .ok (.istore_n 3, 1) := dq_get dX5_places_0_t 11 rfl
theorem dX5_places_22 : decode cX5_places 22 = .ok (.iconst 0, 1) := dq_get dX5_places_0_t 12 rfl
theorem dX5_places_23 : decode cX5_places 23 = .ok (.istore 4, 2) := dq_get dX5_places_0_t 13 rfl
theorem dX5_places_25 : decode cX5_places 25 = .ok (.iconst 0, 1) := dq_get dX5_places_0_t 14 rfl
theorem dX5_places_26 : decode cX5_places 26 = .ok (.istore 5, 2) := dq_get dX5_places_0_t 15 rfl
theorem dX5_places_28 : decode cX5_places 28 = .ok (.iload 5, 2) := dq_get dX5_places_0_t 16 rfl
theorem dX5_places_30 : decode cX5_places 30 = .ok (.aload_n 0, 1) := dq_get dX5_places_0_t 17 rfl
theorem dX5_places_31 : decode cX5_places 31 = .ok (.getfield 10, 3) := dq_get dX5_places_0_t 18 rfl
theorem dX5_places_34 : decode cX5_places 34 = .ok (.getfield 90, 3) := dq_get dX5_places_0_t 19 rfl
theorem dX5_places_37 : decode cX5_places 37 = .ok (.if_icmp .ge 68, 3) := dq_get dX5_places_0_t 20 rfl
theorem dX5_places_40 : decode cX5_places 40 = .ok (.iload 5, 2) := dq_get dX5_places_0_t 21 rfl
theorem dX5_places_42 : decode cX5_places 42 = .ok (.iconst 1, 1) := dq_get dX5_places_0_t 22 rfl
theorem dX5_places_43 : decode cX5_places 43 = .ok (.iadd, 1) := dq_get dX5_places_0_t 23 rfl
theorem dX5_places_44 : decode cX5_places 44 = .ok (.istore 6, 2) := dq_get dX5_places_0_t 24 rfl
theorem dX5_places_46 : decode cX5_places 46 = .ok (.iload 6, 2) := dq_get dX5_places_0_t 25 rfl
theorem dX5_places_48 : decode cX5_places 48 = .ok (.aload_n 0, 1) := dq_get dX5_places_0_t 26 rfl
theorem dX5_places_49 : decode cX5_places 49 = .ok (.getfield 10, 3) := dq_get dX5_places_0_t 27 rfl
theorem dX5_places_52 : decode cX5_places 52 = .ok (.getfield 90, 3) := dq_get dX5_places_0_t 28 rfl
theorem dX5_places_55 : decode cX5_places 55 = .ok (.if_icmp .gt 44, 3) := dq_get dX5_places_0_t 29 rfl
theorem dX5_places_58 : decode cX5_places 58 = .ok (.aload_n 2, 1) := dq_get dX5_places_0_t 30 rfl
theorem dX5_places_59 : decode cX5_places 59 = .ok (.iload 5, 2) := dq_get dX5_places_0_t 31 rfl
theorem dX5_places_61 : decode cX5_places 61 = .ok (.iload 6, 2) := dq_get dX5_places_0_t 32 rfl
theorem dX5_places_63 : decode cX5_places 63 = .ok (.iload_n 3, 1) := dq_get dX5_places_0_t 33 rfl
theorem dX5_places_64 : decode cX5_places 64 = .ok (.invokevirtual 183, 3) := dq_get dX5_places_0_t 34 rfl
theorem dX5_places_67 : decode cX5_places 67 = .ok (.istore 7, 2) := dq_get dX5_places_0_t 35 rfl
theorem dX5_places_69 : decode cX5_places 69 = .ok (.iload 7, 2) := dq_get dX5_places_0_t 36 rfl
theorem dX5_places_71 : decode cX5_places 71 = .ok (.ifCond .eq 22, 3) := dq_get dX5_places_0_t 37 rfl
theorem dX5_places_74 : decode cX5_places 74 = .ok (.iload 4, 2) := dq_get dX5_places_0_t 38 rfl
theorem dX5_places_76 : decode cX5_places 76 = .ok (.bipush 45, 2) := dq_get dX5_places_0_t 39 rfl
theorem dX5_places_78_t : dqK cX5_places.data.toList 0 [(78, .if_icmp .ge 15, 3), (81, .aload_n 0, 1), (82, .getfield 45, 3), (85, .iload 4, 2), (87, .iload 7, 2), (89, .iastore, 1), (90, .iinc 4 1, 3), (93, .iinc 6 1, 3), (96, .goto (-50), 3), (99, .iinc 5 1, 3), (102, .goto (-74), 3), (105, .aload_n 0, 1), (106, .iload 4, 2), (108, .iload_n 3, 1), (109, .invokevirtual 186, 3), (112, .istore 5, 2), (114, .iload_n 1, 1), (115, .ifCond .ne 11, 3), (118, .iload 5, 2), (120, .invokestatic 167, 3), (123, .goto 5, 3), (126, .iload 5, 2), (128, .ireturn, 1)] = true := by decide +kernel
theorem dX5_places_78 : decode cX5_places 78 = .ok (.if_icmp .ge 15, 3) := dq_get dX5_places_78_t 0 rfl
theorem dX5_places_81 : decode cX5_places 81 = .ok (.aload_n 0, 1) := dq_get dX5_places_78_t 1 rfl
theorem dX5_places_82 : decode cX5_places 82 = .ok (.getfield 45, 3) := dq_get dX5_places_78_t 2 rfl
theorem dX5_places_85 : decode cX5_places 85 = .ok (.iload 4, 2) := dq_get dX5_places_78_t 3 rfl
theorem dX5_places_87 : decode cX5_places 87 = .ok (.iload 7, 2) := dq_get dX5_places_78_t 4 rfl
theorem dX5_places_89 : decode cX5_places 89 = .ok (.iastore, 1) := dq_get dX5_places_78_t 5 rfl
theorem dX5_places_90 : decode cX5_places 90 = .ok (.iinc 4 1, 3) := dq_get dX5_places_78_t 6 rfl
theorem dX5_places_93 : decode cX5_places 93 = .ok (.iinc 6 1, 3) := dq_get dX5_places_78_t 7 rfl
theorem dX5_places_96 : decode cX5_places 96 = .ok (.goto (-50), 3) := dq_get dX5_places_78_t 8 rfl
theorem dX5_places_99 : decode cX5_places 99 = .ok (.iinc 5 1, 3) := dq_get dX5_places_78_t 9 rfl
theorem dX5_places_102 : decode cX5_places 102 = .ok (.goto (-74), 3) := dq_get dX5_places_78_t 10 rfl
theorem dX5_places_105 : decode cX5_places 105 = .ok (.aload_n 0, 1) := dq_get dX5_places_78_t 11 rfl
theorem dX5_places_106 : decode cX5_places 106 = .ok (.iload 4, 2) := dq_get dX5_places_78_t 12 rfl
theorem dX5_places_108 : decode cX5_places 108 = .ok (.iload_n 3, 1) := dq_get dX5_places_78_t 13 rfl
theorem dX5_places_109 : decode cX5_places 109 = .ok (.invokevirtual 186, 3) := dq_get dX5_places_78_t 14 rfl
theorem dX5_places_112 : decode cX5_places 112 = .ok (.istore 5, 2) := dq_get dX5_places_78_t 15 rfl
theorem dX5_places_114 : decode cX5_places 114 = .ok (.iload_n 1, 1) := dq_get dX5_places_78_t 16 rfl
theorem dX5_places_115 : decode cX5_places 115 = .ok (.ifCond .ne 11, 3) := dq_get dX5_places_78_t 17 rfl
theorem dX5_places_118 : decode cX5_places 118 = .ok (.iload 5, 2) := dq_get dX5_places_78_t 18 rfl
theorem dX5_places_120 : decode cX5_places 120 = .ok (.invokestatic 167, 3) := dq_get dX5_places_78_t 19 rfl
theorem dX5_places_123 : decode cX5_places 123 = .ok (.goto 5, 3) := dq_get dX5_places_78_t 20 rfl
theorem dX5_places_126 : decode cX5_places 126 = .ok (.iload 5, 2) := dq_get dX5_places_78_t 21 rfl
theorem dX5_places_128 : decode cX5_places 128 = .ok (.ireturn, 1) := dq_get dX5_places_78_t 22 rfl
theorem gt_wsX5_guard_wsX00 : GoodIn wsX5_guard wsX00 := fun w hw => ⟨List.mem_cons_of_mem _ (List.mem_append_left _ (List.mem_append_left _ (List.mem_append_right _ hw))), good_of_word (List.all_eq_true.mp gw_wsX00 w hw)⟩
set_option maxRecDepth 20000 in
theorem ggX5_guard_X0_hasDay : GoodIn wsX5_guard wsX0_hasDay := goodIn_ca (goodIn_r _ [7, 8] rfl (by decide +kernel)) gt_wsX5_guard_wsX00
set_option maxRecDepth 20000 in
theorem gX5_guard_X0_hasDay : GoodIn wsX5_guard (wsV RX5 109 RX0 yX0_hasDay wsX0_hasDay) := goodIn_app (goodIn_r _ [3, 4, 5, 6] rfl (by decide +kernel)) ggX5_guard_X0_hasDay
set_option maxRecDepth 20000 in
theorem ggX5_guard_X5_isChoice : GoodIn wsX5_guard wsX5_isChoice := goodIn_r _ [12] rfl (by decide +kernel)
set_option maxRecDepth 20000 in
theorem gX5_guard_X5_isChoice : GoodIn wsX5_guard (va_wsS RX5 126 yX5_isChoice wsX5_isChoice) := goodIn_app (goodIn_r _ [9, 10, 11] rfl (by decide +kernel)) ggX5_guard_X5_isChoice
theorem gt_wsX5_guard_wsX50 : GoodIn wsX5_guard wsX50 := fun w hw => ⟨List.mem_cons_of_mem _ (List.mem_append_left _ (List.mem_append_left _ (List.mem_append_left _ (List.mem_append_right _ hw)))), good_of_word (List.all_eq_true.mp gw_wsX50 w hw)⟩
theorem gt_wsX5_guard_wsX40 : GoodIn wsX5_guard wsX40 := fun w hw => ⟨List.mem_cons_of_mem _ (List.mem_append_left _ (List.mem_append_right _ hw)), good_of_word (List.all_eq_true.mp gw_wsX40 w hw)⟩
theorem gt_wsX5_guard_wsX20 : GoodIn wsX5_guard wsX20 := fun w hw => ⟨List.mem_cons_of_mem _ (List.mem_append_right _ hw), good_of_word (List.all_eq_true.mp gw_wsX20 w hw)⟩
set_option maxRecDepth 20000 in
theorem ggX5_guard_X5_freshViews : GoodIn wsX5_guard wsX5_freshViews := goodIn_ca (goodIn_ca (goodIn_ca (goodIn_ca (goodIn_r _ [16, 17, 1, 18, 19, 20, 21, 22, 23, 24, 25, 26, 27, 28, 29, 30, 31, 32, 33, 34, 35, 36, 37, 38, 39, 40, 41, 42, 43, 44, 45, 46, 47, 48, 49] rfl (by decide +kernel)) gt_wsX5_guard_wsX50) gt_wsX5_guard_wsX40) gt_wsX5_guard_wsX00) gt_wsX5_guard_wsX20
set_option maxRecDepth 20000 in
theorem gX5_guard_X5_freshViews : GoodIn wsX5_guard (wsV RX5 112 RX5 yX5_freshViews wsX5_freshViews) := goodIn_app (goodIn_r _ [13, 14, 15, 11] rfl (by decide +kernel)) ggX5_guard_X5_freshViews
set_option maxRecDepth 20000 in
theorem ggX5_guard_X0_cells : GoodIn wsX5_guard wsX0_cells := goodIn_ca (goodIn_r _ [53, 54, 55] rfl (by decide +kernel)) gt_wsX5_guard_wsX00
set_option maxRecDepth 20000 in
theorem gX5_guard_X0_cells : GoodIn wsX5_guard (wsV RX5 140 RX0 yX0_cells wsX0_cells) := goodIn_app (goodIn_r _ [50, 51, 52, 6] rfl (by decide +kernel)) ggX5_guard_X0_cells
set_option maxRecDepth 20000 in
theorem ggX5_guard_X4_sightOf : GoodIn wsX5_guard wsX4_sightOf := goodIn_ca (goodIn_r _ [59, 25] rfl (by decide +kernel)) gt_wsX5_guard_wsX40
set_option maxRecDepth 20000 in
theorem gX5_guard_X4_sightOf : GoodIn wsX5_guard (wsV RX5 149 RX4 yX4_sightOf wsX4_sightOf) := goodIn_app (goodIn_r _ [56, 57, 58, 21] rfl (by decide +kernel)) ggX5_guard_X4_sightOf
set_option maxRecDepth 20000 in
theorem ggX5_guard_X5_leastSet : GoodIn wsX5_guard wsX5_leastSet := goodIn_ca (goodIn_r _ [63, 64, 65, 66, 11, 67, 2, 68, 69, 70, 71, 72, 73, 74, 75, 76, 77] rfl (by decide +kernel)) gt_wsX5_guard_wsX50
set_option maxRecDepth 20000 in
theorem gX5_guard_X5_leastSet : GoodIn wsX5_guard (wsV RX5 186 RX5 yX5_leastSet wsX5_leastSet) := goodIn_app (goodIn_r _ [60, 61, 62, 11] rfl (by decide +kernel)) ggX5_guard_X5_leastSet
set_option maxRecDepth 20000 in
theorem ggX5_guard_J6_bitCount_0f7a4 : GoodIn wsX5_guard wsJ6_bitCount_0f7a4 := goodIn_r _ [74, 75, 76, 77] rfl (by decide +kernel)
set_option maxRecDepth 20000 in
theorem gX5_guard_J6_bitCount_0f7a4 : GoodIn wsX5_guard (va_wsS RX5 167 yJ6_bitCount_0f7a4 wsJ6_bitCount_0f7a4) := goodIn_app (goodIn_r _ [71, 72, 73] rfl (by decide +kernel)) ggX5_guard_J6_bitCount_0f7a4
theorem dX5_guard_0_t : dqK cX5_guard.data.toList 0 [(0, .aload_n 0, 1), (1, .getfield 10, 3), (4, .iload_n 1, 1), (5, .invokevirtual 109, 3), (8, .ifCond .eq 10, 3), (11, .iload_n 2, 1), (12, .invokestatic 126, 3), (15, .ifCond .ne 5, 3), (18, .iconst (-1), 1), (19, .ireturn, 1), (20, .aload_n 0, 1), (21, .invokevirtual 112, 3), (24, .astore_n 3, 1), (25, .aload_n 0, 1), (26, .getfield 10, 3), (29, .invokevirtual 140, 3), (32, .istore 4, 2), (34, .iconst 0, 1), (35, .istore 5, 2), (37, .iload 5, 2), (39, .iload 4, 2), (41, .if_icmp .ge 57, 3), (44, .iconst 0, 1), (45, .istore 6, 2), (47, .iconst 0, 1), (48, .istore 7, 2), (50, .iload 7, 2), (52, .iload 4, 2), (54, .if_icmp .ge 29, 3), (57, .iload 6, 2), (59, .aload_n 3, 1), (60, .iload 7, 2), (62, .iload_n 1, 1), (63, .invokevirtual 149, 3), (66, .iload 5, 2), (68, .ishr, 1), (69, .iconst 1, 1), (70, .iand, 1), (71, .iload 7, 2), (73, .ishl, 1)] = true := by decide +kernel
theorem dX5_guard_0 : decode cX5_guard 0 = .ok (.aload_n 0, 1) := dq_get dX5_guard_0_t 0 rfl
theorem dX5_guard_1 : decode cX5_guard 1 = .ok (.getfield 10, 3) := dq_get dX5_guard_0_t 1 rfl
theorem dX5_guard_4 : decode cX5_guard 4 = .ok (.iload_n 1, 1) := dq_get dX5_guard_0_t 2 rfl
theorem dX5_guard_5 : decode cX5_guard 5 = .ok (.invokevirtual 109, 3) := dq_get dX5_guard_0_t 3 rfl
theorem dX5_guard_8 : decode cX5_guard 8 = .ok (.ifCond .eq 10, 3) := dq_get dX5_guard_0_t 4 rfl
theorem dX5_guard_11 : decode cX5_guard 11 = .ok (.iload_n 2, 1) := dq_get dX5_guard_0_t 5 rfl
theorem dX5_guard_12 : decode cX5_guard 12 = .ok (.invokestatic 126, 3) := dq_get dX5_guard_0_t 6 rfl
theorem dX5_guard_15 : decode cX5_guard 15 = .ok (.ifCond .ne 5, 3) := dq_get dX5_guard_0_t 7 rfl
theorem dX5_guard_18 : decode cX5_guard 18 = .ok (.iconst (-1), 1) := dq_get dX5_guard_0_t 8 rfl
theorem dX5_guard_19 : decode cX5_guard 19 = .ok (.ireturn, 1) := dq_get dX5_guard_0_t 9 rfl
theorem dX5_guard_20 : decode cX5_guard 20 = .ok (.aload_n 0, 1) := dq_get dX5_guard_0_t 10 rfl
theorem dX5_guard_21 : decode cX5_guard 21 = .ok (.invokevirtual 112, 3) := dq_get dX5_guard_0_t 11 rfl
theorem dX5_guard_24 : decode cX5_guard 24 = .ok (.astore_n 3, 1) := dq_get dX5_guard_0_t 12 rfl
theorem dX5_guard_25 : decode cX5_guard 25 = .ok (.aload_n 0, 1) := dq_get dX5_guard_0_t 13 rfl
theorem dX5_guard_26 : decode cX5_guard 26 = .ok (.getfield 10, 3) := dq_get dX5_guard_0_t 14 rfl
theorem dX5_guard_29 : decode cX5_guard 29 = .ok (.invokevirtual 140, 3) := dq_get dX5_guard_0_t 15 rfl
theorem dX5_guard_32 : decode cX5_guard 32 = .ok (.istore 4, 2) := dq_get dX5_guard_0_t 16 rfl
theorem dX5_guard_34 : decode cX5_guard 34 = .ok (.iconst 0, 1) := dq_get dX5_guard_0_t 17 rfl
theorem dX5_guard_35 : decode cX5_guard 35 = .ok (.istore 5, 2) := dq_get dX5_guard_0_t 18 rfl
theorem dX5_guard_37 : decode cX5_guard 37 = .ok (.iload 5, 2) := dq_get dX5_guard_0_t 19 rfl
theorem dX5_guard_39 : decode cX5_guard 39 = .ok (.iload 4, 2) := dq_get dX5_guard_0_t 20 rfl
theorem dX5_guard_41 : decode cX5_guard 41 = .ok (.if_icmp .ge 57, 3) := dq_get dX5_guard_0_t 21 rfl
theorem dX5_guard_44 : decode cX5_guard 44 = .ok (.iconst 0, 1) := dq_get dX5_guard_0_t 22 rfl
theorem dX5_guard_45 : decode cX5_guard 45 = .ok (.istore 6, 2) := dq_get dX5_guard_0_t 23 rfl
theorem dX5_guard_47 : decode cX5_guard 47 = .ok (.iconst 0, 1) := dq_get dX5_guard_0_t 24 rfl
theorem dX5_guard_48 : decode cX5_guard 48 = .ok (.istore 7, 2) := dq_get dX5_guard_0_t 25 rfl
theorem dX5_guard_50 : decode cX5_guard 50 = .ok (.iload 7, 2) := dq_get dX5_guard_0_t 26 rfl
theorem dX5_guard_52 : decode cX5_guard 52 = .ok (.iload 4, 2) := dq_get dX5_guard_0_t 27 rfl
theorem dX5_guard_54 : decode cX5_guard 54 = .ok (.if_icmp .ge 29, 3) := dq_get dX5_guard_0_t 28 rfl
theorem dX5_guard_57 : decode cX5_guard 57 = .ok (.iload 6, 2) := dq_get dX5_guard_0_t 29 rfl
theorem dX5_guard_59 : decode cX5_guard 59 = .ok (.aload_n 3, 1) := dq_get dX5_guard_0_t 30 rfl
theorem dX5_guard_60 : decode cX5_guard 60 = .ok (.iload 7, 2) := dq_get dX5_guard_0_t 31 rfl
theorem dX5_guard_62 : decode cX5_guard 62 = .ok (.iload_n 1, 1) := dq_get dX5_guard_0_t 32 rfl
theorem dX5_guard_63 : decode cX5_guard 63 = .ok (.invokevirtual 149, 3) := dq_get dX5_guard_0_t 33 rfl
theorem dX5_guard_66 : decode cX5_guard 66 = .ok (.iload 5, 2) := dq_get dX5_guard_0_t 34 rfl
theorem dX5_guard_68 : decode cX5_guard 68 = .ok (.ishr, 1) := dq_get dX5_guard_0_t 35 rfl
theorem dX5_guard_69 : decode cX5_guard 69 = .ok (.iconst 1, 1) := dq_get dX5_guard_0_t 36 rfl
theorem dX5_guard_70 : decode cX5_guard 70 = .ok (.iand, 1) := dq_get dX5_guard_0_t 37 rfl
theorem dX5_guard_71 : decode cX5_guard 71 = .ok (.iload 7, 2) := dq_get dX5_guard_0_t 38 rfl
theorem dX5_guard_73 : decode cX5_guard 73 = .ok (.ishl, 1) := dq_get dX5_guard_0_t 39 rfl
theorem dX5_guard_74_t : dqK cX5_guard.data.toList 0 [(74, .ior, 1), (75, .istore 6, 2), (77, .iinc 7 1, 3), (80, .goto (-30), 3), (83, .aload_n 0, 1), (84, .getfield 45, 3), (87, .iload 5, 2), (89, .iload 6, 2), (91, .iastore, 1), (92, .iinc 5 1, 3), (95, .goto (-58), 3), (98, .aload_n 0, 1), (99, .iload 4, 2), (101, .iload 4, 2), (103, .invokevirtual 186, 3), (106, .istore 5, 2), (108, .iload_n 2, 1), (109, .ifCond .ne 11, 3), (112, .iload 5, 2), (114, .invokestatic 167, 3), (117, .goto 5, 3), (120, .iload 5, 2), (122, .ireturn, 1)] = true := by decide +kernel
theorem dX5_guard_74 : decode cX5_guard 74 = .ok (.ior, 1) := dq_get dX5_guard_74_t 0 rfl
theorem dX5_guard_75 : decode cX5_guard 75 = .ok (.istore 6, 2) := dq_get dX5_guard_74_t 1 rfl
theorem dX5_guard_77 : decode cX5_guard 77 = .ok (.iinc 7 1, 3) := dq_get dX5_guard_74_t 2 rfl
theorem dX5_guard_80 : decode cX5_guard 80 = .ok (.goto (-30), 3) := dq_get dX5_guard_74_t 3 rfl
theorem dX5_guard_83 : decode cX5_guard 83 = .ok (.aload_n 0, 1) := dq_get dX5_guard_74_t 4 rfl
theorem dX5_guard_84 : decode cX5_guard 84 = .ok (.getfield 45, 3) := dq_get dX5_guard_74_t 5 rfl
theorem dX5_guard_87 : decode cX5_guard 87 = .ok (.iload 5, 2) := dq_get dX5_guard_74_t 6 rfl
theorem dX5_guard_89 : decode cX5_guard 89 = .ok (.iload 6, 2) := dq_get dX5_guard_74_t 7 rfl
theorem dX5_guard_91 : decode cX5_guard 91 = .ok (.iastore, 1) := dq_get dX5_guard_74_t 8 rfl
theorem dX5_guard_92 : decode cX5_guard 92 = .ok (.iinc 5 1, 3) := dq_get dX5_guard_74_t 9 rfl
theorem dX5_guard_95 : decode cX5_guard 95 = .ok (.goto (-58), 3) := dq_get dX5_guard_74_t 10 rfl
theorem dX5_guard_98 : decode cX5_guard 98 = .ok (.aload_n 0, 1) := dq_get dX5_guard_74_t 11 rfl
theorem dX5_guard_99 : decode cX5_guard 99 = .ok (.iload 4, 2) := dq_get dX5_guard_74_t 12 rfl
theorem dX5_guard_101 : decode cX5_guard 101 = .ok (.iload 4, 2) := dq_get dX5_guard_74_t 13 rfl
theorem dX5_guard_103 : decode cX5_guard 103 = .ok (.invokevirtual 186, 3) := dq_get dX5_guard_74_t 14 rfl
theorem dX5_guard_106 : decode cX5_guard 106 = .ok (.istore 5, 2) := dq_get dX5_guard_74_t 15 rfl
theorem dX5_guard_108 : decode cX5_guard 108 = .ok (.iload_n 2, 1) := dq_get dX5_guard_74_t 16 rfl
theorem dX5_guard_109 : decode cX5_guard 109 = .ok (.ifCond .ne 11, 3) := dq_get dX5_guard_74_t 17 rfl
theorem dX5_guard_112 : decode cX5_guard 112 = .ok (.iload 5, 2) := dq_get dX5_guard_74_t 18 rfl
theorem dX5_guard_114 : decode cX5_guard 114 = .ok (.invokestatic 167, 3) := dq_get dX5_guard_74_t 19 rfl
theorem dX5_guard_117 : decode cX5_guard 117 = .ok (.goto 5, 3) := dq_get dX5_guard_74_t 20 rfl
theorem dX5_guard_120 : decode cX5_guard 120 = .ok (.iload 5, 2) := dq_get dX5_guard_74_t 21 rfl
theorem dX5_guard_122 : decode cX5_guard 122 = .ok (.ireturn, 1) := dq_get dX5_guard_74_t 22 rfl
theorem gt_wsX5_hide_wsX00 : GoodIn wsX5_hide wsX00 := fun w hw => ⟨List.mem_cons_of_mem _ (List.mem_append_left _ (List.mem_append_left _ (List.mem_append_right _ hw))), good_of_word (List.all_eq_true.mp gw_wsX00 w hw)⟩
set_option maxRecDepth 20000 in
theorem ggX5_hide_X0_hasCell : GoodIn wsX5_hide wsX0_hasCell := goodIn_ca (goodIn_r _ [6, 7, 8] rfl (by decide +kernel)) gt_wsX5_hide_wsX00
set_option maxRecDepth 20000 in
theorem gX5_hide_X0_hasCell : GoodIn wsX5_hide (wsV RX5 105 RX0 yX0_hasCell wsX0_hasCell) := goodIn_app (goodIn_r _ [2, 3, 4, 5] rfl (by decide +kernel)) ggX5_hide_X0_hasCell
theorem gt_wsX5_hide_wsX50 : GoodIn wsX5_hide wsX50 := fun w hw => ⟨List.mem_cons_of_mem _ (List.mem_append_left _ (List.mem_append_left _ (List.mem_append_left _ (List.mem_append_right _ hw)))), good_of_word (List.all_eq_true.mp gw_wsX50 w hw)⟩
theorem gt_wsX5_hide_wsX40 : GoodIn wsX5_hide wsX40 := fun w hw => ⟨List.mem_cons_of_mem _ (List.mem_append_right _ hw), good_of_word (List.all_eq_true.mp gw_wsX40 w hw)⟩
theorem gt_wsX5_hide_wsX20 : GoodIn wsX5_hide wsX20 := fun w hw => ⟨List.mem_cons_of_mem _ (List.mem_append_left _ (List.mem_append_right _ hw)), good_of_word (List.all_eq_true.mp gw_wsX20 w hw)⟩
set_option maxRecDepth 20000 in
theorem ggX5_hide_X5_freshViews : GoodIn wsX5_hide wsX5_freshViews := goodIn_ca (goodIn_ca (goodIn_ca (goodIn_ca (goodIn_r _ [13, 14, 1, 15, 16, 17, 18, 19, 20, 21, 22, 23, 24, 25, 26, 27, 28, 29, 30, 31, 32, 33, 34, 35, 36, 37, 38, 39, 40, 41, 42, 43, 44, 45, 46] rfl (by decide +kernel)) gt_wsX5_hide_wsX50) gt_wsX5_hide_wsX40) gt_wsX5_hide_wsX00) gt_wsX5_hide_wsX20
set_option maxRecDepth 20000 in
theorem gX5_hide_X5_freshViews : GoodIn wsX5_hide (wsV RX5 112 RX5 yX5_freshViews wsX5_freshViews) := goodIn_app (goodIn_r _ [9, 10, 11, 12] rfl (by decide +kernel)) ggX5_hide_X5_freshViews
set_option maxRecDepth 20000 in
theorem ggX5_hide_X2_number : GoodIn wsX5_hide wsX2_number := goodIn_ca (goodIn_r _ [37, 38] rfl (by decide +kernel)) gt_wsX5_hide_wsX20
set_option maxRecDepth 20000 in
theorem gX5_hide_X2_number : GoodIn wsX5_hide (wsV RX5 123 RX2 yX2_number wsX2_number) := goodIn_app (goodIn_r _ [47, 34, 35, 36] rfl (by decide +kernel)) ggX5_hide_X2_number
set_option maxRecDepth 20000 in
theorem ggX5_hide_X4_sightOf : GoodIn wsX5_hide wsX4_sightOf := goodIn_ca (goodIn_r _ [51, 22] rfl (by decide +kernel)) gt_wsX5_hide_wsX40
set_option maxRecDepth 20000 in
theorem gX5_hide_X4_sightOf : GoodIn wsX5_hide (wsV RX5 149 RX4 yX4_sightOf wsX4_sightOf) := goodIn_app (goodIn_r _ [48, 49, 50, 18] rfl (by decide +kernel)) ggX5_hide_X4_sightOf
set_option maxRecDepth 20000 in
theorem ggX5_hide_X0_cells : GoodIn wsX5_hide wsX0_cells := goodIn_ca (goodIn_r _ [55, 7, 8] rfl (by decide +kernel)) gt_wsX5_hide_wsX00
set_option maxRecDepth 20000 in
theorem gX5_hide_X0_cells : GoodIn wsX5_hide (wsV RX5 140 RX0 yX0_cells wsX0_cells) := goodIn_app (goodIn_r _ [52, 53, 54, 5] rfl (by decide +kernel)) ggX5_hide_X0_cells
theorem dX5_hide_0_t : dqK cX5_hide.data.toList 0 [(0, .aload_n 0, 1), (1, .getfield 10, 3), (4, .iload_n 1, 1), (5, .invokevirtual 105, 3), (8, .ifCond .ne 5, 3), (11, .iconst (-1), 1), (12, .ireturn, 1), (13, .aload_n 0, 1), (14, .getfield 10, 3), (17, .getfield 102, 3), (20, .getfield 97, 3), (23, .ifCond .ne 6, 3), (26, .bipush (-2), 2), (28, .ireturn, 1), (29, .aload_n 0, 1), (30, .invokevirtual 112, 3), (33, .astore_n 2, 1), (34, .iconst 0, 1), (35, .istore_n 3, 1), (36, .iconst 0, 1), (37, .istore 4, 2), (39, .iload 4, 2), (41, .aload_n 0, 1), (42, .getfield 10, 3), (45, .getfield 102, 3), (48, .getfield 97, 3), (51, .if_icmp .ge 30, 3), (54, .iload_n 3, 1), (55, .aload_n 2, 1), (56, .iload_n 1, 1), (57, .aload_n 0, 1), (58, .getfield 10, 3), (61, .getfield 102, 3), (64, .iload 4, 2), (66, .iconst 0, 1), (67, .invokevirtual 123, 3), (70, .invokevirtual 149, 3), (73, .ior, 1), (74, .istore_n 3, 1), (75, .iinc 4 1, 3)] = true := by decide +kernel
theorem dX5_hide_0 : decode cX5_hide 0 = .ok (.aload_n 0, 1) := dq_get dX5_hide_0_t 0 rfl
theorem dX5_hide_1 : decode cX5_hide 1 = .ok (.getfield 10, 3) := dq_get dX5_hide_0_t 1 rfl
theorem dX5_hide_4 : decode cX5_hide 4 = .ok (.iload_n 1, 1) := dq_get dX5_hide_0_t 2 rfl
theorem dX5_hide_5 : decode cX5_hide 5 = .ok (.invokevirtual 105, 3) := dq_get dX5_hide_0_t 3 rfl
theorem dX5_hide_8 : decode cX5_hide 8 = .ok (.ifCond .ne 5, 3) := dq_get dX5_hide_0_t 4 rfl
theorem dX5_hide_11 : decode cX5_hide 11 = .ok (.iconst (-1), 1) := dq_get dX5_hide_0_t 5 rfl
theorem dX5_hide_12 : decode cX5_hide 12 = .ok (.ireturn, 1) := dq_get dX5_hide_0_t 6 rfl
theorem dX5_hide_13 : decode cX5_hide 13 = .ok (.aload_n 0, 1) := dq_get dX5_hide_0_t 7 rfl
theorem dX5_hide_14 : decode cX5_hide 14 = .ok (.getfield 10, 3) := dq_get dX5_hide_0_t 8 rfl
theorem dX5_hide_17 : decode cX5_hide 17 = .ok (.getfield 102, 3) := dq_get dX5_hide_0_t 9 rfl
theorem dX5_hide_20 : decode cX5_hide 20 = .ok (.getfield 97, 3) := dq_get dX5_hide_0_t 10 rfl
theorem dX5_hide_23 : decode cX5_hide 23 = .ok (.ifCond .ne 6, 3) := dq_get dX5_hide_0_t 11 rfl
theorem dX5_hide_26 : decode cX5_hide 26 = .ok (.bipush (-2), 2) := dq_get dX5_hide_0_t 12 rfl
theorem dX5_hide_28 : decode cX5_hide 28 = .ok (.ireturn, 1) := dq_get dX5_hide_0_t 13 rfl
theorem dX5_hide_29 : decode cX5_hide 29 = .ok (.aload_n 0, 1) := dq_get dX5_hide_0_t 14 rfl
theorem dX5_hide_30 : decode cX5_hide 30 = .ok (.invokevirtual 112, 3) := dq_get dX5_hide_0_t 15 rfl
theorem dX5_hide_33 : decode cX5_hide 33 = .ok (.astore_n 2, 1) := dq_get dX5_hide_0_t 16 rfl
theorem dX5_hide_34 : decode cX5_hide 34 = .ok (.iconst 0, 1) := dq_get dX5_hide_0_t 17 rfl
theorem dX5_hide_35 : decode cX5_hide 35 = .ok (.istore_n 3, 1) := dq_get dX5_hide_0_t 18 rfl
theorem dX5_hide_36 : decode cX5_hide 36 = .ok (.iconst 0, 1) := dq_get dX5_hide_0_t 19 rfl
theorem dX5_hide_37 : decode cX5_hide 37 = .ok (.istore 4, 2) := dq_get dX5_hide_0_t 20 rfl
theorem dX5_hide_39 : decode cX5_hide 39 = .ok (.iload 4, 2) := dq_get dX5_hide_0_t 21 rfl
theorem dX5_hide_41 : decode cX5_hide 41 = .ok (.aload_n 0, 1) := dq_get dX5_hide_0_t 22 rfl
theorem dX5_hide_42 : decode cX5_hide 42 = .ok (.getfield 10, 3) := dq_get dX5_hide_0_t 23 rfl
theorem dX5_hide_45 : decode cX5_hide 45 = .ok (.getfield 102, 3) := dq_get dX5_hide_0_t 24 rfl
theorem dX5_hide_48 : decode cX5_hide 48 = .ok (.getfield 97, 3) := dq_get dX5_hide_0_t 25 rfl
theorem dX5_hide_51 : decode cX5_hide 51 = .ok (.if_icmp .ge 30, 3) := dq_get dX5_hide_0_t 26 rfl
theorem dX5_hide_54 : decode cX5_hide 54 = .ok (.iload_n 3, 1) := dq_get dX5_hide_0_t 27 rfl
theorem dX5_hide_55 : decode cX5_hide 55 = .ok (.aload_n 2, 1) := dq_get dX5_hide_0_t 28 rfl
theorem dX5_hide_56 : decode cX5_hide 56 = .ok (.iload_n 1, 1) := dq_get dX5_hide_0_t 29 rfl
theorem dX5_hide_57 : decode cX5_hide 57 = .ok (.aload_n 0, 1) := dq_get dX5_hide_0_t 30 rfl
theorem dX5_hide_58 : decode cX5_hide 58 = .ok (.getfield 10, 3) := dq_get dX5_hide_0_t 31 rfl
theorem dX5_hide_61 : decode cX5_hide 61 = .ok (.getfield 102, 3) := dq_get dX5_hide_0_t 32 rfl
theorem dX5_hide_64 : decode cX5_hide 64 = .ok (.iload 4, 2) := dq_get dX5_hide_0_t 33 rfl
theorem dX5_hide_66 : decode cX5_hide 66 = .ok (.iconst 0, 1) := dq_get dX5_hide_0_t 34 rfl
theorem dX5_hide_67 : decode cX5_hide 67 = .ok (.invokevirtual 123, 3) := dq_get dX5_hide_0_t 35 rfl
theorem dX5_hide_70 : decode cX5_hide 70 = .ok (.invokevirtual 149, 3) := dq_get dX5_hide_0_t 36 rfl
theorem dX5_hide_73 : decode cX5_hide 73 = .ok (.ior, 1) := dq_get dX5_hide_0_t 37 rfl
theorem dX5_hide_74 : decode cX5_hide 74 = .ok (.istore_n 3, 1) := dq_get dX5_hide_0_t 38 rfl
theorem dX5_hide_75 : decode cX5_hide 75 = .ok (.iinc 4 1, 3) := dq_get dX5_hide_0_t 39 rfl
theorem dX5_hide_78_t : dqK cX5_hide.data.toList 0 [(78, .goto (-39), 3), (81, .iload_n 3, 1), (82, .iconst (-1), 1), (83, .ixor, 1), (84, .iconst 1, 1), (85, .aload_n 0, 1), (86, .getfield 10, 3), (89, .invokevirtual 140, 3), (92, .ishl, 1), (93, .iconst 1, 1), (94, .isub, 1), (95, .iand, 1), (96, .ireturn, 1)] = true := by decide +kernel
theorem dX5_hide_78 : decode cX5_hide 78 = .ok (.goto (-39), 3) := dq_get dX5_hide_78_t 0 rfl
theorem dX5_hide_81 : decode cX5_hide 81 = .ok (.iload_n 3, 1) := dq_get dX5_hide_78_t 1 rfl
theorem dX5_hide_82 : decode cX5_hide 82 = .ok (.iconst (-1), 1) := dq_get dX5_hide_78_t 2 rfl
theorem dX5_hide_83 : decode cX5_hide 83 = .ok (.ixor, 1) := dq_get dX5_hide_78_t 3 rfl
theorem dX5_hide_84 : decode cX5_hide 84 = .ok (.iconst 1, 1) := dq_get dX5_hide_78_t 4 rfl
theorem dX5_hide_85 : decode cX5_hide 85 = .ok (.aload_n 0, 1) := dq_get dX5_hide_78_t 5 rfl
theorem dX5_hide_86 : decode cX5_hide 86 = .ok (.getfield 10, 3) := dq_get dX5_hide_78_t 6 rfl
theorem dX5_hide_89 : decode cX5_hide 89 = .ok (.invokevirtual 140, 3) := dq_get dX5_hide_78_t 7 rfl
theorem dX5_hide_92 : decode cX5_hide 92 = .ok (.ishl, 1) := dq_get dX5_hide_78_t 8 rfl
theorem dX5_hide_93 : decode cX5_hide 93 = .ok (.iconst 1, 1) := dq_get dX5_hide_78_t 9 rfl
theorem dX5_hide_94 : decode cX5_hide 94 = .ok (.isub, 1) := dq_get dX5_hide_78_t 10 rfl
theorem dX5_hide_95 : decode cX5_hide 95 = .ok (.iand, 1) := dq_get dX5_hide_78_t 11 rfl
theorem dX5_hide_96 : decode cX5_hide 96 = .ok (.ireturn, 1) := dq_get dX5_hide_78_t 12 rfl
set_option maxRecDepth 20000 in
theorem ggX5_best_X5_isChoice : GoodIn wsX5_best wsX5_isChoice := goodIn_r _ [5] rfl (by decide +kernel)
set_option maxRecDepth 20000 in
theorem gX5_best_X5_isChoice : GoodIn wsX5_best (va_wsS RX5 126 yX5_isChoice wsX5_isChoice) := goodIn_app (goodIn_r _ [2, 3, 4] rfl (by decide +kernel)) ggX5_best_X5_isChoice
theorem gt_wsX5_best_wsX00 : GoodIn wsX5_best wsX00 := fun w hw => ⟨List.mem_cons_of_mem _ (List.mem_append_left _ (List.mem_append_left _ (List.mem_append_right _ hw))), good_of_word (List.all_eq_true.mp gw_wsX00 w hw)⟩
set_option maxRecDepth 20000 in
theorem ggX5_best_X0_cells : GoodIn wsX5_best wsX0_cells := goodIn_ca (goodIn_r _ [10, 11, 12] rfl (by decide +kernel)) gt_wsX5_best_wsX00
set_option maxRecDepth 20000 in
theorem gX5_best_X0_cells : GoodIn wsX5_best (wsV RX5 140 RX0 yX0_cells wsX0_cells) := goodIn_app (goodIn_r _ [6, 7, 8, 9] rfl (by decide +kernel)) ggX5_best_X0_cells
theorem gt_wsX5_best_wsX50 : GoodIn wsX5_best wsX50 := fun w hw => ⟨List.mem_cons_of_mem _ (List.mem_append_left _ (List.mem_append_left _ (List.mem_append_left _ (List.mem_append_right _ hw)))), good_of_word (List.all_eq_true.mp gw_wsX50 w hw)⟩
theorem gt_wsX5_best_wsX40 : GoodIn wsX5_best wsX40 := fun w hw => ⟨List.mem_cons_of_mem _ (List.mem_append_right _ hw), good_of_word (List.all_eq_true.mp gw_wsX40 w hw)⟩
theorem gt_wsX5_best_wsX20 : GoodIn wsX5_best wsX20 := fun w hw => ⟨List.mem_cons_of_mem _ (List.mem_append_left _ (List.mem_append_right _ hw)), good_of_word (List.all_eq_true.mp gw_wsX20 w hw)⟩
set_option maxRecDepth 20000 in
theorem ggX5_best_X5_shownBy : GoodIn wsX5_best wsX5_shownBy := goodIn_ca (goodIn_ca (goodIn_ca (goodIn_ca (goodIn_r _ [16, 1, 17, 18, 19, 4, 20, 21, 22, 23, 24, 25, 26, 27, 28, 29, 30, 31, 32, 33, 34, 35, 36, 37, 38, 39, 40, 41, 42, 43, 44, 45, 46, 47, 48, 49, 50, 51, 52, 53, 54, 55, 56, 57, 58] rfl (by decide +kernel)) gt_wsX5_best_wsX50) gt_wsX5_best_wsX00) gt_wsX5_best_wsX40) gt_wsX5_best_wsX20
set_option maxRecDepth 20000 in
theorem gX5_best_X5_shownBy : GoodIn wsX5_best (wsV RX5 152 RX5 yX5_shownBy wsX5_shownBy) := goodIn_app (goodIn_r _ [13, 14, 15, 4] rfl (by decide +kernel)) ggX5_best_X5_shownBy
set_option maxRecDepth 20000 in
theorem ggX5_best_J6_bitCount_0f7a4 : GoodIn wsX5_best wsJ6_bitCount_0f7a4 := goodIn_r _ [62, 63, 64, 65] rfl (by decide +kernel)
set_option maxRecDepth 20000 in
theorem gX5_best_J6_bitCount_0f7a4 : GoodIn wsX5_best (va_wsS RX5 167 yJ6_bitCount_0f7a4 wsJ6_bitCount_0f7a4) := goodIn_app (goodIn_r _ [59, 60, 61] rfl (by decide +kernel)) ggX5_best_J6_bitCount_0f7a4
theorem dX5_best_0_t : dqK cX5_best.data.toList 0 [(0, .iload_n 1, 1), (1, .invokestatic 126, 3), (4, .ifCond .ne 5, 3), (7, .iconst (-1), 1), (8, .ireturn, 1), (9, .aload_n 0, 1), (10, .getfield 10, 3), (13, .getfield 102, 3), (16, .getfield 97, 3), (19, .ifCond .ne 6, 3), (22, .bipush (-2), 2), (24, .ireturn, 1), (25, .iconst (-1), 1), (26, .istore_n 2, 1), (27, .iconst 0, 1), (28, .istore_n 3, 1), (29, .iconst 0, 1), (30, .istore 4, 2), (32, .iload 4, 2), (34, .aload_n 0, 1), (35, .getfield 10, 3), (38, .invokevirtual 140, 3), (41, .if_icmp .ge 67, 3), (44, .iconst 0, 1), (45, .istore 5, 2), (47, .iconst 0, 1), (48, .istore 6, 2), (50, .iload 6, 2), (52, .aload_n 0, 1), (53, .getfield 10, 3), (56, .getfield 102, 3), (59, .getfield 97, 3), (62, .if_icmp .ge 22, 3), (65, .iload 5, 2), (67, .aload_n 0, 1), (68, .iload 6, 2), (70, .iload 4, 2), (72, .invokevirtual 152, 3), (75, .ior, 1), (76, .istore 5, 2)] = true := by decide +kernel
theorem dX5_best_0 : decode cX5_best 0 = .ok (.iload_n 1, 1) := dq_get dX5_best_0_t 0 rfl
theorem dX5_best_1 : decode cX5_best 1 = .ok (.invokestatic 126, 3) := dq_get dX5_best_0_t 1 rfl
theorem dX5_best_4 : decode cX5_best 4 = .ok (.ifCond .ne 5, 3) := dq_get dX5_best_0_t 2 rfl
theorem dX5_best_7 : decode cX5_best 7 = .ok (.iconst (-1), 1) := dq_get dX5_best_0_t 3 rfl
theorem dX5_best_8 : decode cX5_best 8 = .ok (.ireturn, 1) := dq_get dX5_best_0_t 4 rfl
theorem dX5_best_9 : decode cX5_best 9 = .ok (.aload_n 0, 1) := dq_get dX5_best_0_t 5 rfl
theorem dX5_best_10 : decode cX5_best 10 = .ok (.getfield 10, 3) := dq_get dX5_best_0_t 6 rfl
theorem dX5_best_13 : decode cX5_best 13 = .ok (.getfield 102, 3) := dq_get dX5_best_0_t 7 rfl
theorem dX5_best_16 : decode cX5_best 16 = .ok (.getfield 97, 3) := dq_get dX5_best_0_t 8 rfl
theorem dX5_best_19 : decode cX5_best 19 = .ok (.ifCond .ne 6, 3) := dq_get dX5_best_0_t 9 rfl
theorem dX5_best_22 : decode cX5_best 22 = .ok (.bipush (-2), 2) := dq_get dX5_best_0_t 10 rfl
theorem dX5_best_24 : decode cX5_best 24 = .ok (.ireturn, 1) := dq_get dX5_best_0_t 11 rfl
theorem dX5_best_25 : decode cX5_best 25 = .ok (.iconst (-1), 1) := dq_get dX5_best_0_t 12 rfl
theorem dX5_best_26 : decode cX5_best 26 = .ok (.istore_n 2, 1) := dq_get dX5_best_0_t 13 rfl
theorem dX5_best_27 : decode cX5_best 27 = .ok (.iconst 0, 1) := dq_get dX5_best_0_t 14 rfl
theorem dX5_best_28 : decode cX5_best 28 = .ok (.istore_n 3, 1) := dq_get dX5_best_0_t 15 rfl
theorem dX5_best_29 : decode cX5_best 29 = .ok (.iconst 0, 1) := dq_get dX5_best_0_t 16 rfl
theorem dX5_best_30 : decode cX5_best 30 = .ok (.istore 4, 2) := dq_get dX5_best_0_t 17 rfl
theorem dX5_best_32 : decode cX5_best 32 = .ok (.iload 4, 2) := dq_get dX5_best_0_t 18 rfl
theorem dX5_best_34 : decode cX5_best 34 = .ok (.aload_n 0, 1) := dq_get dX5_best_0_t 19 rfl
theorem dX5_best_35 : decode cX5_best 35 = .ok (.getfield 10, 3) := dq_get dX5_best_0_t 20 rfl
theorem dX5_best_38 : decode cX5_best 38 = .ok (.invokevirtual 140, 3) := dq_get dX5_best_0_t 21 rfl
theorem dX5_best_41 : decode cX5_best 41 = .ok (.if_icmp .ge 67, 3) := dq_get dX5_best_0_t 22 rfl
theorem dX5_best_44 : decode cX5_best 44 = .ok (.iconst 0, 1) := dq_get dX5_best_0_t 23 rfl
theorem dX5_best_45 : decode cX5_best 45 = .ok (.istore 5, 2) := dq_get dX5_best_0_t 24 rfl
theorem dX5_best_47 : decode cX5_best 47 = .ok (.iconst 0, 1) := dq_get dX5_best_0_t 25 rfl
theorem dX5_best_48 : decode cX5_best 48 = .ok (.istore 6, 2) := dq_get dX5_best_0_t 26 rfl
theorem dX5_best_50 : decode cX5_best 50 = .ok (.iload 6, 2) := dq_get dX5_best_0_t 27 rfl
theorem dX5_best_52 : decode cX5_best 52 = .ok (.aload_n 0, 1) := dq_get dX5_best_0_t 28 rfl
theorem dX5_best_53 : decode cX5_best 53 = .ok (.getfield 10, 3) := dq_get dX5_best_0_t 29 rfl
theorem dX5_best_56 : decode cX5_best 56 = .ok (.getfield 102, 3) := dq_get dX5_best_0_t 30 rfl
theorem dX5_best_59 : decode cX5_best 59 = .ok (.getfield 97, 3) := dq_get dX5_best_0_t 31 rfl
theorem dX5_best_62 : decode cX5_best 62 = .ok (.if_icmp .ge 22, 3) := dq_get dX5_best_0_t 32 rfl
theorem dX5_best_65 : decode cX5_best 65 = .ok (.iload 5, 2) := dq_get dX5_best_0_t 33 rfl
theorem dX5_best_67 : decode cX5_best 67 = .ok (.aload_n 0, 1) := dq_get dX5_best_0_t 34 rfl
theorem dX5_best_68 : decode cX5_best 68 = .ok (.iload 6, 2) := dq_get dX5_best_0_t 35 rfl
theorem dX5_best_70 : decode cX5_best 70 = .ok (.iload 4, 2) := dq_get dX5_best_0_t 36 rfl
theorem dX5_best_72 : decode cX5_best 72 = .ok (.invokevirtual 152, 3) := dq_get dX5_best_0_t 37 rfl
theorem dX5_best_75 : decode cX5_best 75 = .ok (.ior, 1) := dq_get dX5_best_0_t 38 rfl
theorem dX5_best_76 : decode cX5_best 76 = .ok (.istore 5, 2) := dq_get dX5_best_0_t 39 rfl
theorem dX5_best_78_t : dqK cX5_best.data.toList 0 [(78, .iinc 6 1, 3), (81, .goto (-31), 3), (84, .iload 5, 2), (86, .invokestatic 167, 3), (89, .iload_n 2, 1), (90, .if_icmp .le 12, 3), (93, .iload 5, 2), (95, .invokestatic 167, 3), (98, .istore_n 2, 1), (99, .iload 4, 2), (101, .istore_n 3, 1), (102, .iinc 4 1, 3), (105, .goto (-73), 3), (108, .iload_n 1, 1), (109, .ifCond .ne 7, 3), (112, .iload_n 3, 1), (113, .goto 4, 3), (116, .iload_n 2, 1), (117, .ireturn, 1)] = true := by decide +kernel
theorem dX5_best_78 : decode cX5_best 78 = .ok (.iinc 6 1, 3) := dq_get dX5_best_78_t 0 rfl
theorem dX5_best_81 : decode cX5_best 81 = .ok (.goto (-31), 3) := dq_get dX5_best_78_t 1 rfl
theorem dX5_best_84 : decode cX5_best 84 = .ok (.iload 5, 2) := dq_get dX5_best_78_t 2 rfl
theorem dX5_best_86 : decode cX5_best 86 = .ok (.invokestatic 167, 3) := dq_get dX5_best_78_t 3 rfl
theorem dX5_best_89 : decode cX5_best 89 = .ok (.iload_n 2, 1) := dq_get dX5_best_78_t 4 rfl
theorem dX5_best_90 : decode cX5_best 90 = .ok (.if_icmp .le 12, 3) := dq_get dX5_best_78_t 5 rfl
theorem dX5_best_93 : decode cX5_best 93 = .ok (.iload 5, 2) := dq_get dX5_best_78_t 6 rfl
theorem dX5_best_95 : decode cX5_best 95 = .ok (.invokestatic 167, 3) := dq_get dX5_best_78_t 7 rfl
theorem dX5_best_98 : decode cX5_best 98 = .ok (.istore_n 2, 1) := dq_get dX5_best_78_t 8 rfl
theorem dX5_best_99 : decode cX5_best 99 = .ok (.iload 4, 2) := dq_get dX5_best_78_t 9 rfl
theorem dX5_best_101 : decode cX5_best 101 = .ok (.istore_n 3, 1) := dq_get dX5_best_78_t 10 rfl
theorem dX5_best_102 : decode cX5_best 102 = .ok (.iinc 4 1, 3) := dq_get dX5_best_78_t 11 rfl
theorem dX5_best_105 : decode cX5_best 105 = .ok (.goto (-73), 3) := dq_get dX5_best_78_t 12 rfl
theorem dX5_best_108 : decode cX5_best 108 = .ok (.iload_n 1, 1) := dq_get dX5_best_78_t 13 rfl
theorem dX5_best_109 : decode cX5_best 109 = .ok (.ifCond .ne 7, 3) := dq_get dX5_best_78_t 14 rfl
theorem dX5_best_112 : decode cX5_best 112 = .ok (.iload_n 3, 1) := dq_get dX5_best_78_t 15 rfl
theorem dX5_best_113 : decode cX5_best 113 = .ok (.goto 4, 3) := dq_get dX5_best_78_t 16 rfl
theorem dX5_best_116 : decode cX5_best 116 = .ok (.iload_n 2, 1) := dq_get dX5_best_78_t 17 rfl
theorem dX5_best_117 : decode cX5_best 117 = .ok (.ireturn, 1) := dq_get dX5_best_78_t 18 rfl
set_option maxRecDepth 20000 in
theorem ggX5_luck_X5_isTenth : GoodIn wsX5_luck wsX5_isTenth := goodIn_r _ [7] rfl (by decide +kernel)
set_option maxRecDepth 20000 in
theorem gX5_luck_X5_isTenth : GoodIn wsX5_luck (va_wsS RX5 189 yX5_isTenth wsX5_isTenth) := goodIn_app (goodIn_r _ [4, 5, 6] rfl (by decide +kernel)) ggX5_luck_X5_isTenth
theorem gt_wsX5_luck_wsX00 : GoodIn wsX5_luck wsX00 := fun w hw => ⟨List.mem_cons_of_mem _ (List.mem_append_left _ (List.mem_append_left _ (List.mem_append_right _ hw))), good_of_word (List.all_eq_true.mp gw_wsX00 w hw)⟩
set_option maxRecDepth 20000 in
theorem ggX5_luck_X0_hasCell : GoodIn wsX5_luck wsX0_hasCell := goodIn_ca (goodIn_r _ [12, 13, 14] rfl (by decide +kernel)) gt_wsX5_luck_wsX00
set_option maxRecDepth 20000 in
theorem gX5_luck_X0_hasCell : GoodIn wsX5_luck (wsV RX5 105 RX0 yX0_hasCell wsX0_hasCell) := goodIn_app (goodIn_r _ [8, 9, 10, 11] rfl (by decide +kernel)) ggX5_luck_X0_hasCell
set_option maxRecDepth 20000 in
theorem ggX5_luck_X5_isChoice : GoodIn wsX5_luck wsX5_isChoice := goodIn_r _ [17] rfl (by decide +kernel)
set_option maxRecDepth 20000 in
theorem gX5_luck_X5_isChoice : GoodIn wsX5_luck (va_wsS RX5 126 yX5_isChoice wsX5_isChoice) := goodIn_app (goodIn_r _ [15, 16, 6] rfl (by decide +kernel)) ggX5_luck_X5_isChoice
theorem gt_wsX5_luck_wsX50 : GoodIn wsX5_luck wsX50 := fun w hw => ⟨List.mem_cons_of_mem _ (List.mem_append_left _ (List.mem_append_left _ (List.mem_append_left _ (List.mem_append_right _ hw)))), good_of_word (List.all_eq_true.mp gw_wsX50 w hw)⟩
theorem gt_wsX5_luck_wsX20 : GoodIn wsX5_luck wsX20 := fun w hw => ⟨List.mem_cons_of_mem _ (List.mem_append_left _ (List.mem_append_right _ hw)), good_of_word (List.all_eq_true.mp gw_wsX20 w hw)⟩
theorem gt_wsX5_luck_wsX40 : GoodIn wsX5_luck wsX40 := fun w hw => ⟨List.mem_cons_of_mem _ (List.mem_append_right _ hw), good_of_word (List.all_eq_true.mp gw_wsX40 w hw)⟩
set_option maxRecDepth 20000 in
theorem ggX5_luck_X5_partsShown : GoodIn wsX5_luck wsX5_partsShown := goodIn_ca (goodIn_ca (goodIn_ca (goodIn_ca (goodIn_r _ [21, 1, 22, 3, 23, 24, 25, 6, 26, 27, 28, 29, 30, 31, 32, 33, 34, 35, 36, 37, 38, 39, 40, 41, 42, 43, 44, 45, 46, 47, 48, 49, 50, 51, 52, 53, 54, 55, 56, 57, 58, 59, 60, 61, 62, 63, 64, 65, 66, 67, 68] rfl (by decide +kernel)) gt_wsX5_luck_wsX50) gt_wsX5_luck_wsX00) gt_wsX5_luck_wsX20) gt_wsX5_luck_wsX40
set_option maxRecDepth 20000 in
theorem gX5_luck_X5_partsShown : GoodIn wsX5_luck (wsV RX5 192 RX5 yX5_partsShown wsX5_partsShown) := goodIn_app (goodIn_r _ [18, 19, 20, 6] rfl (by decide +kernel)) ggX5_luck_X5_partsShown
set_option maxRecDepth 20000 in
theorem ggX5_luck_X5_fractionPart : GoodIn wsX5_luck wsX5_fractionPart := goodIn_r _ [71, 2] rfl (by decide +kernel)
set_option maxRecDepth 20000 in
theorem gX5_luck_X5_fractionPart : GoodIn wsX5_luck (va_wsS RX5 179 yX5_fractionPart wsX5_fractionPart) := goodIn_app (goodIn_r _ [69, 70, 6] rfl (by decide +kernel)) ggX5_luck_X5_fractionPart
theorem dX5_luck_0_t : dqK cX5_luck.data.toList 0 [(0, .iload_n 1, 1), (1, .invokestatic 189, 3), (4, .ifCond .eq 33, 3), (7, .aload_n 0, 1), (8, .getfield 10, 3), (11, .iload_n 2, 1), (12, .invokevirtual 105, 3), (15, .ifCond .eq 22, 3), (18, .aload_n 0, 1), (19, .getfield 10, 3), (22, .iload_n 3, 1), (23, .invokevirtual 105, 3), (26, .ifCond .eq 11, 3), (29, .iload 4, 2), (31, .invokestatic 126, 3), (34, .ifCond .ne 7, 3), (37, .ldc2_w 175, 3), (40, .lreturn, 1), (41, .aload_n 0, 1), (42, .iload_n 1, 1), (43, .iload_n 2, 1), (44, .iload_n 3, 1), (45, .invokevirtual 192, 3), (48, .ldc2_w 196, 3), (51, .iload 4, 2), (53, .invokestatic 179, 3), (56, .lreturn, 1)] = true := by decide +kernel
theorem dX5_luck_0 : decode cX5_luck 0 = .ok (.iload_n 1, 1) := dq_get dX5_luck_0_t 0 rfl
theorem dX5_luck_1 : decode cX5_luck 1 = .ok (.invokestatic 189, 3) := dq_get dX5_luck_0_t 1 rfl
theorem dX5_luck_4 : decode cX5_luck 4 = .ok (.ifCond .eq 33, 3) := dq_get dX5_luck_0_t 2 rfl
theorem dX5_luck_7 : decode cX5_luck 7 = .ok (.aload_n 0, 1) := dq_get dX5_luck_0_t 3 rfl
theorem dX5_luck_8 : decode cX5_luck 8 = .ok (.getfield 10, 3) := dq_get dX5_luck_0_t 4 rfl
theorem dX5_luck_11 : decode cX5_luck 11 = .ok (.iload_n 2, 1) := dq_get dX5_luck_0_t 5 rfl
theorem dX5_luck_12 : decode cX5_luck 12 = .ok (.invokevirtual 105, 3) := dq_get dX5_luck_0_t 6 rfl
theorem dX5_luck_15 : decode cX5_luck 15 = .ok (.ifCond .eq 22, 3) := dq_get dX5_luck_0_t 7 rfl
theorem dX5_luck_18 : decode cX5_luck 18 = .ok (.aload_n 0, 1) := dq_get dX5_luck_0_t 8 rfl
theorem dX5_luck_19 : decode cX5_luck 19 = .ok (.getfield 10, 3) := dq_get dX5_luck_0_t 9 rfl
theorem dX5_luck_22 : decode cX5_luck 22 = .ok (.iload_n 3, 1) := dq_get dX5_luck_0_t 10 rfl
theorem dX5_luck_23 : decode cX5_luck 23 = .ok (.invokevirtual 105, 3) := dq_get dX5_luck_0_t 11 rfl
theorem dX5_luck_26 : decode cX5_luck 26 = .ok (.ifCond .eq 11, 3) := dq_get dX5_luck_0_t 12 rfl
theorem dX5_luck_29 : decode cX5_luck 29 = .ok (.iload 4, 2) := dq_get dX5_luck_0_t 13 rfl
theorem dX5_luck_31 : decode cX5_luck 31 = .ok (.invokestatic 126, 3) := dq_get dX5_luck_0_t 14 rfl
theorem dX5_luck_34 : decode cX5_luck 34 = .ok (.ifCond .ne 7, 3) := dq_get dX5_luck_0_t 15 rfl
theorem dX5_luck_37 : decode cX5_luck 37 = .ok (.ldc2_w 175, 3) := dq_get dX5_luck_0_t 16 rfl
theorem dX5_luck_40 : decode cX5_luck 40 = .ok (.lreturn, 1) := dq_get dX5_luck_0_t 17 rfl
theorem dX5_luck_41 : decode cX5_luck 41 = .ok (.aload_n 0, 1) := dq_get dX5_luck_0_t 18 rfl
theorem dX5_luck_42 : decode cX5_luck 42 = .ok (.iload_n 1, 1) := dq_get dX5_luck_0_t 19 rfl
theorem dX5_luck_43 : decode cX5_luck 43 = .ok (.iload_n 2, 1) := dq_get dX5_luck_0_t 20 rfl
theorem dX5_luck_44 : decode cX5_luck 44 = .ok (.iload_n 3, 1) := dq_get dX5_luck_0_t 21 rfl
theorem dX5_luck_45 : decode cX5_luck 45 = .ok (.invokevirtual 192, 3) := dq_get dX5_luck_0_t 22 rfl
theorem dX5_luck_48 : decode cX5_luck 48 = .ok (.ldc2_w 196, 3) := dq_get dX5_luck_0_t 23 rfl
theorem dX5_luck_51 : decode cX5_luck 51 = .ok (.iload 4, 2) := dq_get dX5_luck_0_t 24 rfl
theorem dX5_luck_53 : decode cX5_luck 53 = .ok (.invokestatic 179, 3) := dq_get dX5_luck_0_t 25 rfl
theorem dX5_luck_56 : decode cX5_luck 56 = .ok (.lreturn, 1) := dq_get dX5_luck_0_t 26 rfl
set_option maxRecDepth 20000 in
theorem ggX5_mean_X5_isTenth : GoodIn wsX5_mean wsX5_isTenth := goodIn_r _ [7] rfl (by decide +kernel)
set_option maxRecDepth 20000 in
theorem gX5_mean_X5_isTenth : GoodIn wsX5_mean (va_wsS RX5 189 yX5_isTenth wsX5_isTenth) := goodIn_app (goodIn_r _ [4, 5, 6] rfl (by decide +kernel)) ggX5_mean_X5_isTenth
theorem gt_wsX5_mean_wsX00 : GoodIn wsX5_mean wsX00 := fun w hw => ⟨List.mem_cons_of_mem _ (List.mem_append_left _ (List.mem_append_left _ (List.mem_append_right _ hw))), good_of_word (List.all_eq_true.mp gw_wsX00 w hw)⟩
set_option maxRecDepth 20000 in
theorem ggX5_mean_X0_hasCell : GoodIn wsX5_mean wsX0_hasCell := goodIn_ca (goodIn_r _ [12, 13, 14] rfl (by decide +kernel)) gt_wsX5_mean_wsX00
set_option maxRecDepth 20000 in
theorem gX5_mean_X0_hasCell : GoodIn wsX5_mean (wsV RX5 105 RX0 yX0_hasCell wsX0_hasCell) := goodIn_app (goodIn_r _ [8, 9, 10, 11] rfl (by decide +kernel)) ggX5_mean_X0_hasCell
set_option maxRecDepth 20000 in
theorem ggX5_mean_X5_isChoice : GoodIn wsX5_mean wsX5_isChoice := goodIn_r _ [17] rfl (by decide +kernel)
set_option maxRecDepth 20000 in
theorem gX5_mean_X5_isChoice : GoodIn wsX5_mean (va_wsS RX5 126 yX5_isChoice wsX5_isChoice) := goodIn_app (goodIn_r _ [15, 16, 6] rfl (by decide +kernel)) ggX5_mean_X5_isChoice
set_option maxRecDepth 20000 in
theorem ggX5_mean_X0_cells : GoodIn wsX5_mean wsX0_cells := goodIn_ca (goodIn_r _ [21, 13, 14] rfl (by decide +kernel)) gt_wsX5_mean_wsX00
set_option maxRecDepth 20000 in
theorem gX5_mean_X0_cells : GoodIn wsX5_mean (wsV RX5 140 RX0 yX0_cells wsX0_cells) := goodIn_app (goodIn_r _ [18, 19, 20, 11] rfl (by decide +kernel)) ggX5_mean_X0_cells
theorem gt_wsX5_mean_wsX50 : GoodIn wsX5_mean wsX50 := fun w hw => ⟨List.mem_cons_of_mem _ (List.mem_append_left _ (List.mem_append_left _ (List.mem_append_left _ (List.mem_append_right _ hw)))), good_of_word (List.all_eq_true.mp gw_wsX50 w hw)⟩
theorem gt_wsX5_mean_wsX20 : GoodIn wsX5_mean wsX20 := fun w hw => ⟨List.mem_cons_of_mem _ (List.mem_append_left _ (List.mem_append_right _ hw)), good_of_word (List.all_eq_true.mp gw_wsX20 w hw)⟩
theorem gt_wsX5_mean_wsX40 : GoodIn wsX5_mean wsX40 := fun w hw => ⟨List.mem_cons_of_mem _ (List.mem_append_right _ hw), good_of_word (List.all_eq_true.mp gw_wsX40 w hw)⟩
set_option maxRecDepth 20000 in
theorem ggX5_mean_X5_partsShown : GoodIn wsX5_mean wsX5_partsShown := goodIn_ca (goodIn_ca (goodIn_ca (goodIn_ca (goodIn_r _ [25, 1, 26, 3, 27, 28, 29, 6, 30, 31, 32, 33, 34, 35, 36, 37, 38, 39, 40, 41, 42, 43, 44, 45, 46, 47, 48, 49, 50, 51, 52, 53, 54, 55, 56, 57, 58, 59, 60, 61, 62, 63, 64, 65, 66, 67, 68, 69, 70, 71, 72] rfl (by decide +kernel)) gt_wsX5_mean_wsX50) gt_wsX5_mean_wsX00) gt_wsX5_mean_wsX20) gt_wsX5_mean_wsX40
set_option maxRecDepth 20000 in
theorem gX5_mean_X5_partsShown : GoodIn wsX5_mean (wsV RX5 192 RX5 yX5_partsShown wsX5_partsShown) := goodIn_app (goodIn_r _ [22, 23, 24, 6] rfl (by decide +kernel)) ggX5_mean_X5_partsShown
set_option maxRecDepth 20000 in
theorem ggX5_mean_X5_fractionPart : GoodIn wsX5_mean wsX5_fractionPart := goodIn_r _ [75, 2] rfl (by decide +kernel)
set_option maxRecDepth 20000 in
theorem gX5_mean_X5_fractionPart : GoodIn wsX5_mean (va_wsS RX5 179 yX5_fractionPart wsX5_fractionPart) := goodIn_app (goodIn_r _ [73, 74, 6] rfl (by decide +kernel)) ggX5_mean_X5_fractionPart
theorem dX5_mean_0_t : dqK cX5_mean.data.toList 0 [(0, .iload_n 1, 1), (1, .invokestatic 189, 3), (4, .ifCond .eq 21, 3), (7, .aload_n 0, 1), (8, .getfield 10, 3), (11, .iload_n 2, 1), (12, .invokevirtual 105, 3), (15, .ifCond .eq 10, 3), (18, .iload_n 3, 1), (19, .invokestatic 126, 3), (22, .ifCond .ne 7, 3), (25, .ldc2_w 175, 3), (28, .lreturn, 1), (29, .lconst 0, 1), (30, .lstore 4, 2), (32, .iconst 0, 1), (33, .istore 6, 2), (35, .iload 6, 2), (37, .aload_n 0, 1), (38, .getfield 10, 3), (41, .invokevirtual 140, 3), (44, .if_icmp .ge 22, 3), (47, .lload 4, 2), (49, .aload_n 0, 1), (50, .iload_n 1, 1), (51, .iload_n 2, 1), (52, .iload 6, 2), (54, .invokevirtual 192, 3), (57, .ladd, 1), (58, .lstore 4, 2), (60, .iinc 6 1, 3), (63, .goto (-28), 3), (66, .lload 4, 2), (68, .ldc2_w 196, 3), (71, .iload_n 3, 1), (72, .invokestatic 179, 3), (75, .lreturn, 1)] = true := by decide +kernel
theorem dX5_mean_0 : decode cX5_mean 0 = .ok (.iload_n 1, 1) := dq_get dX5_mean_0_t 0 rfl
theorem dX5_mean_1 : decode cX5_mean 1 = .ok (.invokestatic 189, 3) := dq_get dX5_mean_0_t 1 rfl
theorem dX5_mean_4 : decode cX5_mean 4 = .ok (.ifCond .eq 21, 3) := dq_get dX5_mean_0_t 2 rfl
theorem dX5_mean_7 : decode cX5_mean 7 = .ok (.aload_n 0, 1) := dq_get dX5_mean_0_t 3 rfl
theorem dX5_mean_8 : decode cX5_mean 8 = .ok (.getfield 10, 3) := dq_get dX5_mean_0_t 4 rfl
theorem dX5_mean_11 : decode cX5_mean 11 = .ok (.iload_n 2, 1) := dq_get dX5_mean_0_t 5 rfl
theorem dX5_mean_12 : decode cX5_mean 12 = .ok (.invokevirtual 105, 3) := dq_get dX5_mean_0_t 6 rfl
theorem dX5_mean_15 : decode cX5_mean 15 = .ok (.ifCond .eq 10, 3) := dq_get dX5_mean_0_t 7 rfl
theorem dX5_mean_18 : decode cX5_mean 18 = .ok (.iload_n 3, 1) := dq_get dX5_mean_0_t 8 rfl
theorem dX5_mean_19 : decode cX5_mean 19 = .ok (.invokestatic 126, 3) := dq_get dX5_mean_0_t 9 rfl
theorem dX5_mean_22 : decode cX5_mean 22 = .ok (.ifCond .ne 7, 3) := dq_get dX5_mean_0_t 10 rfl
theorem dX5_mean_25 : decode cX5_mean 25 = .ok (.ldc2_w 175, 3) := dq_get dX5_mean_0_t 11 rfl
theorem dX5_mean_28 : decode cX5_mean 28 = .ok (.lreturn, 1) := dq_get dX5_mean_0_t 12 rfl
theorem dX5_mean_29 : decode cX5_mean 29 = .ok (.lconst 0, 1) := dq_get dX5_mean_0_t 13 rfl
theorem dX5_mean_30 : decode cX5_mean 30 = .ok (.lstore 4, 2) := dq_get dX5_mean_0_t 14 rfl
theorem dX5_mean_32 : decode cX5_mean 32 = .ok (.iconst 0, 1) := dq_get dX5_mean_0_t 15 rfl
theorem dX5_mean_33 : decode cX5_mean 33 = .ok (.istore 6, 2) := dq_get dX5_mean_0_t 16 rfl
theorem dX5_mean_35 : decode cX5_mean 35 = .ok (.iload 6, 2) := dq_get dX5_mean_0_t 17 rfl
theorem dX5_mean_37 : decode cX5_mean 37 = .ok (.aload_n 0, 1) := dq_get dX5_mean_0_t 18 rfl
theorem dX5_mean_38 : decode cX5_mean 38 = .ok (.getfield 10, 3) := dq_get dX5_mean_0_t 19 rfl
theorem dX5_mean_41 : decode cX5_mean 41 = .ok (.invokevirtual 140, 3) := dq_get dX5_mean_0_t 20 rfl
theorem dX5_mean_44 : decode cX5_mean 44 = .ok (.if_icmp .ge 22, 3) := dq_get dX5_mean_0_t 21 rfl
theorem dX5_mean_47 : decode cX5_mean 47 = .ok (.lload 4, 2) := dq_get dX5_mean_0_t 22 rfl
theorem dX5_mean_49 : decode cX5_mean 49 = .ok (.aload_n 0, 1) := dq_get dX5_mean_0_t 23 rfl
theorem dX5_mean_50 : decode cX5_mean 50 = .ok (.iload_n 1, 1) := dq_get dX5_mean_0_t 24 rfl
theorem dX5_mean_51 : decode cX5_mean 51 = .ok (.iload_n 2, 1) := dq_get dX5_mean_0_t 25 rfl
theorem dX5_mean_52 : decode cX5_mean 52 = .ok (.iload 6, 2) := dq_get dX5_mean_0_t 26 rfl
theorem dX5_mean_54 : decode cX5_mean 54 = .ok (.invokevirtual 192, 3) := dq_get dX5_mean_0_t 27 rfl
theorem dX5_mean_57 : decode cX5_mean 57 = .ok (.ladd, 1) := dq_get dX5_mean_0_t 28 rfl
theorem dX5_mean_58 : decode cX5_mean 58 = .ok (.lstore 4, 2) := dq_get dX5_mean_0_t 29 rfl
theorem dX5_mean_60 : decode cX5_mean 60 = .ok (.iinc 6 1, 3) := dq_get dX5_mean_0_t 30 rfl
theorem dX5_mean_63 : decode cX5_mean 63 = .ok (.goto (-28), 3) := dq_get dX5_mean_0_t 31 rfl
theorem dX5_mean_66 : decode cX5_mean 66 = .ok (.lload 4, 2) := dq_get dX5_mean_0_t 32 rfl
theorem dX5_mean_68 : decode cX5_mean 68 = .ok (.ldc2_w 196, 3) := dq_get dX5_mean_0_t 33 rfl
theorem dX5_mean_71 : decode cX5_mean 71 = .ok (.iload_n 3, 1) := dq_get dX5_mean_0_t 34 rfl
theorem dX5_mean_72 : decode cX5_mean 72 = .ok (.invokestatic 179, 3) := dq_get dX5_mean_0_t 35 rfl
theorem dX5_mean_75 : decode cX5_mean 75 = .ok (.lreturn, 1) := dq_get dX5_mean_0_t 36 rfl
set_option maxRecDepth 20000 in
theorem ggX5_drift_X5_isChoice : GoodIn wsX5_drift wsX5_isChoice := goodIn_r _ [5] rfl (by decide +kernel)
set_option maxRecDepth 20000 in
theorem gX5_drift_X5_isChoice : GoodIn wsX5_drift (va_wsS RX5 126 yX5_isChoice wsX5_isChoice) := goodIn_app (goodIn_r _ [2, 3, 4] rfl (by decide +kernel)) ggX5_drift_X5_isChoice
theorem gt_wsX5_drift_wsX50 : GoodIn wsX5_drift wsX50 := fun w hw => ⟨List.mem_cons_of_mem _ (List.mem_append_left _ (List.mem_append_left _ (List.mem_append_left _ (List.mem_append_right _ hw)))), good_of_word (List.all_eq_true.mp gw_wsX50 w hw)⟩
theorem gt_wsX5_drift_wsX40 : GoodIn wsX5_drift wsX40 := fun w hw => ⟨List.mem_cons_of_mem _ (List.mem_append_left _ (List.mem_append_right _ hw)), good_of_word (List.all_eq_true.mp gw_wsX40 w hw)⟩
theorem gt_wsX5_drift_wsX00 : GoodIn wsX5_drift wsX00 := fun w hw => ⟨List.mem_cons_of_mem _ (List.mem_append_left _ (List.mem_append_left _ (List.mem_append_right _ hw))), good_of_word (List.all_eq_true.mp gw_wsX00 w hw)⟩
theorem gt_wsX5_drift_wsX20 : GoodIn wsX5_drift wsX20 := fun w hw => ⟨List.mem_cons_of_mem _ (List.mem_append_right _ hw), good_of_word (List.all_eq_true.mp gw_wsX20 w hw)⟩
set_option maxRecDepth 20000 in
theorem ggX5_drift_X5_freshViews : GoodIn wsX5_drift wsX5_freshViews := goodIn_ca (goodIn_ca (goodIn_ca (goodIn_ca (goodIn_r _ [9, 10, 1, 11, 12, 13, 14, 15, 16, 17, 18, 19, 20, 21, 22, 23, 24, 25, 26, 27, 28, 29, 30, 31, 32, 33, 34, 35, 36, 37, 38, 39, 40, 41, 42] rfl (by decide +kernel)) gt_wsX5_drift_wsX50) gt_wsX5_drift_wsX40) gt_wsX5_drift_wsX00) gt_wsX5_drift_wsX20
set_option maxRecDepth 20000 in
theorem gX5_drift_X5_freshViews : GoodIn wsX5_drift (wsV RX5 112 RX5 yX5_freshViews wsX5_freshViews) := goodIn_app (goodIn_r _ [6, 7, 8, 4] rfl (by decide +kernel)) ggX5_drift_X5_freshViews
set_option maxRecDepth 20000 in
theorem ggX5_drift_X0_cells : GoodIn wsX5_drift wsX0_cells := goodIn_ca (goodIn_r _ [47, 48, 49] rfl (by decide +kernel)) gt_wsX5_drift_wsX00
set_option maxRecDepth 20000 in
theorem gX5_drift_X0_cells : GoodIn wsX5_drift (wsV RX5 140 RX0 yX0_cells wsX0_cells) := goodIn_app (goodIn_r _ [43, 44, 45, 46] rfl (by decide +kernel)) ggX5_drift_X0_cells
set_option maxRecDepth 20000 in
theorem ggX5_drift_X4_copyToSpareDay : GoodIn wsX5_drift wsX4_copyToSpareDay := goodIn_ca (goodIn_r _ [53, 24, 25, 26, 27, 28] rfl (by decide +kernel)) gt_wsX5_drift_wsX40
set_option maxRecDepth 20000 in
theorem gX5_drift_X4_copyToSpareDay : GoodIn wsX5_drift (wsV RX5 198 RX4 yX4_copyToSpareDay wsX4_copyToSpareDay) := goodIn_app (goodIn_r _ [50, 51, 52, 14] rfl (by decide +kernel)) ggX5_drift_X4_copyToSpareDay
set_option maxRecDepth 20000 in
theorem ggX5_drift_X5_nextSeed : GoodIn wsX5_drift wsX5_nextSeed := goodIn_r _ [56, 57] rfl (by decide +kernel)
set_option maxRecDepth 20000 in
theorem gX5_drift_X5_nextSeed : GoodIn wsX5_drift (va_wsS RX5 202 yX5_nextSeed wsX5_nextSeed) := goodIn_app (goodIn_r _ [54, 55, 4] rfl (by decide +kernel)) ggX5_drift_X5_nextSeed
set_option maxRecDepth 20000 in
theorem ggX5_drift_X5_drawn : GoodIn wsX5_drift wsX5_drawn := goodIn_r _ [60] rfl (by decide +kernel)
set_option maxRecDepth 20000 in
theorem gX5_drift_X5_drawn : GoodIn wsX5_drift (va_wsS RX5 205 yX5_drawn wsX5_drawn) := goodIn_app (goodIn_r _ [58, 59, 4] rfl (by decide +kernel)) ggX5_drift_X5_drawn
set_option maxRecDepth 20000 in
theorem ggX5_drift_X4_markOnSpareDay : GoodIn wsX5_drift wsX4_markOnSpareDay := goodIn_ca (goodIn_r _ [64, 24] rfl (by decide +kernel)) gt_wsX5_drift_wsX40
set_option maxRecDepth 20000 in
theorem gX5_drift_X4_markOnSpareDay : GoodIn wsX5_drift (wsV RX5 208 RX4 yX4_markOnSpareDay wsX4_markOnSpareDay) := goodIn_app (goodIn_r _ [61, 62, 63, 14] rfl (by decide +kernel)) ggX5_drift_X4_markOnSpareDay
set_option maxRecDepth 20000 in
theorem ggX5_drift_X4_cellsWith : GoodIn wsX5_drift wsX4_cellsWith := goodIn_ca (goodIn_r _ [68, 16, 17, 69, 70, 71, 14, 72, 24] rfl (by decide +kernel)) gt_wsX5_drift_wsX40
set_option maxRecDepth 20000 in
theorem gX5_drift_X4_cellsWith : GoodIn wsX5_drift (wsV RX5 158 RX4 yX4_cellsWith wsX4_cellsWith) := goodIn_app (goodIn_r _ [65, 66, 67, 14] rfl (by decide +kernel)) ggX5_drift_X4_cellsWith
set_option maxRecDepth 20000 in
theorem ggX5_drift_X4_sightOnSpareDay : GoodIn wsX5_drift wsX4_sightOnSpareDay := goodIn_ca (goodIn_r _ [76, 35, 36, 37, 14, 38, 16, 17, 39, 40, 41, 42, 24] rfl (by decide +kernel)) gt_wsX5_drift_wsX40
set_option maxRecDepth 20000 in
theorem gX5_drift_X4_sightOnSpareDay : GoodIn wsX5_drift (wsV RX5 212 RX4 yX4_sightOnSpareDay wsX4_sightOnSpareDay) := goodIn_app (goodIn_r _ [73, 74, 75, 14] rfl (by decide +kernel)) ggX5_drift_X4_sightOnSpareDay
theorem dX5_drift_0_t : dqK cX5_drift.data.toList 0 [(0, .iload_n 2, 1), (1, .iconst 1, 1), (2, .if_icmp .lt 16, 3), (5, .iload_n 2, 1), (6, .bipush 60, 2), (8, .if_icmp .gt 10, 3), (11, .iload_n 3, 1), (12, .invokestatic 126, 3), (15, .ifCond .ne 5, 3), (18, .iconst (-1), 1), (19, .ireturn, 1), (20, .aload_n 0, 1), (21, .invokevirtual 112, 3), (24, .astore 4, 2), (26, .aload_n 0, 1), (27, .getfield 10, 3), (30, .invokevirtual 140, 3), (33, .istore 5, 2), (35, .aload 4, 2), (37, .aload_n 0, 1), (38, .getfield 10, 3), (41, .getfield 90, 3), (44, .invokevirtual 198, 3), (47, .iload_n 1, 1), (48, .istore 6, 2), (50, .iconst 0, 1), (51, .istore 7, 2), (53, .iload 7, 2), (55, .iload_n 2, 1), (56, .if_icmp .ge 46, 3), (59, .iload 6, 2), (61, .invokestatic 202, 3), (64, .istore 6, 2), (66, .iload 6, 2), (68, .iload 5, 2), (70, .invokestatic 205, 3), (73, .istore 8, 2), (75, .iload 6, 2), (77, .invokestatic 202, 3), (80, .istore 6, 2)] = true := by decide +kernel
theorem dX5_drift_0 : decode cX5_drift 0 = .ok (.iload_n 2, 1) := dq_get dX5_drift_0_t 0 rfl
theorem dX5_drift_1 : decode cX5_drift 1 = .ok (.iconst 1, 1) := dq_get dX5_drift_0_t 1 rfl
theorem dX5_drift_2 : decode cX5_drift 2 = .ok (.if_icmp .lt 16, 3) := dq_get dX5_drift_0_t 2 rfl
theorem dX5_drift_5 : decode cX5_drift 5 = .ok (.iload_n 2, 1) := dq_get dX5_drift_0_t 3 rfl
theorem dX5_drift_6 : decode cX5_drift 6 = .ok (.bipush 60, 2) := dq_get dX5_drift_0_t 4 rfl
theorem dX5_drift_8 : decode cX5_drift 8 = .ok (.if_icmp .gt 10, 3) := dq_get dX5_drift_0_t 5 rfl
theorem dX5_drift_11 : decode cX5_drift 11 = .ok (.iload_n 3, 1) := dq_get dX5_drift_0_t 6 rfl
theorem dX5_drift_12 : decode cX5_drift 12 = .ok (.invokestatic 126, 3) := dq_get dX5_drift_0_t 7 rfl
theorem dX5_drift_15 : decode cX5_drift 15 = .ok (.ifCond .ne 5, 3) := dq_get dX5_drift_0_t 8 rfl
theorem dX5_drift_18 : decode cX5_drift 18 = .ok (.iconst (-1), 1) := dq_get dX5_drift_0_t 9 rfl
theorem dX5_drift_19 : decode cX5_drift 19 = .ok (.ireturn, 1) := dq_get dX5_drift_0_t 10 rfl
theorem dX5_drift_20 : decode cX5_drift 20 = .ok (.aload_n 0, 1) := dq_get dX5_drift_0_t 11 rfl
theorem dX5_drift_21 : decode cX5_drift 21 = .ok (.invokevirtual 112, 3) := dq_get dX5_drift_0_t 12 rfl
theorem dX5_drift_24 : decode cX5_drift 24 = .ok (.astore 4, 2) := dq_get dX5_drift_0_t 13 rfl
theorem dX5_drift_26 : decode cX5_drift 26 = .ok (.aload_n 0, 1) := dq_get dX5_drift_0_t 14 rfl
theorem dX5_drift_27 : decode cX5_drift 27 = .ok (.getfield 10, 3) := dq_get dX5_drift_0_t 15 rfl
theorem dX5_drift_30 : decode cX5_drift 30 = .ok (.invokevirtual 140, 3) := dq_get dX5_drift_0_t 16 rfl
theorem dX5_drift_33 : decode cX5_drift 33 = .ok (.istore 5, 2) := dq_get dX5_drift_0_t 17 rfl
theorem dX5_drift_35 : decode cX5_drift 35 = .ok (.aload 4, 2) := dq_get dX5_drift_0_t 18 rfl
theorem dX5_drift_37 : decode cX5_drift 37 = .ok (.aload_n 0, 1) := dq_get dX5_drift_0_t 19 rfl
theorem dX5_drift_38 : decode cX5_drift 38 = .ok (.getfield 10, 3) := dq_get dX5_drift_0_t 20 rfl
theorem dX5_drift_41 : decode cX5_drift 41 = .ok (.getfield 90, 3) := dq_get dX5_drift_0_t 21 rfl
theorem dX5_drift_44 : decode cX5_drift 44 = .ok (.invokevirtual 198, 3) := dq_get dX5_drift_0_t 22 rfl
theorem dX5_drift_47 : decode cX5_drift 47 = .ok (.iload_n 1, 1) := dq_get dX5_drift_0_t 23 rfl
theorem dX5_drift_48 : decode cX5_drift 48 = .ok (.istore 6, 2) := dq_get dX5_drift_0_t 24 rfl
theorem dX5_drift_50 : decode cX5_drift 50 = .ok (.iconst 0, 1) := dq_get dX5_drift_0_t 25 rfl
theorem dX5_drift_51 : decode cX5_drift 51 = .ok (.istore 7, 2) := dq_get dX5_drift_0_t 26 rfl
theorem dX5_drift_53 : decode cX5_drift 53 = .ok (.iload 7, 2) := dq_get dX5_drift_0_t 27 rfl
theorem dX5_drift_55 : decode cX5_drift 55 = .ok (.iload_n 2, 1) := dq_get dX5_drift_0_t 28 rfl
theorem dX5_drift_56 : decode cX5_drift 56 = .ok (.if_icmp .ge 46, 3) := dq_get dX5_drift_0_t 29 rfl
theorem dX5_drift_59 : decode cX5_drift 59 = .ok (.iload 6, 2) := dq_get dX5_drift_0_t 30 rfl
theorem dX5_drift_61 : decode cX5_drift 61 = .ok (.invokestatic 202, 3) := dq_get dX5_drift_0_t 31 rfl
theorem dX5_drift_64 : decode cX5_drift 64 = .ok (.istore 6, 2) := dq_get dX5_drift_0_t 32 rfl
theorem dX5_drift_66 : decode cX5_drift 66 = .ok (.iload 6, 2) := dq_get dX5_drift_0_t 33 rfl
theorem dX5_drift_68 : decode cX5_drift 68 = .ok (.iload 5, 2) := dq_get dX5_drift_0_t 34 rfl
theorem dX5_drift_70 : decode cX5_drift 70 = .ok (.invokestatic 205, 3) := dq_get dX5_drift_0_t 35 rfl
theorem dX5_drift_73 : decode cX5_drift 73 = .ok (.istore 8, 2) := dq_get dX5_drift_0_t 36 rfl
theorem dX5_drift_75 : decode cX5_drift 75 = .ok (.iload 6, 2) := dq_get dX5_drift_0_t 37 rfl
theorem dX5_drift_77 : decode cX5_drift 77 = .ok (.invokestatic 202, 3) := dq_get dX5_drift_0_t 38 rfl
theorem dX5_drift_80 : decode cX5_drift 80 = .ok (.istore 6, 2) := dq_get dX5_drift_0_t 39 rfl
theorem dX5_drift_82_t : dqK cX5_drift.data.toList 0 [(82, .aload 4, 2), (84, .iload 8, 2), (86, .iload 6, 2), (88, .bipush 6, 2), (90, .invokestatic 205, 3), (93, .invokevirtual 208, 3), (96, .iinc 7 1, 3), (99, .goto (-46), 3), (102, .iload_n 3, 1), (103, .ifCond .ne 14, 3), (106, .aload 4, 2), (108, .iconst 0, 1), (109, .bipush 10, 2), (111, .invokevirtual 158, 3), (114, .goto 9, 3), (117, .aload 4, 2), (119, .iconst 0, 1), (120, .invokevirtual 212, 3), (123, .ireturn, 1)] = true := by decide +kernel
theorem dX5_drift_82 : decode cX5_drift 82 = .ok (.aload 4, 2) := dq_get dX5_drift_82_t 0 rfl
theorem dX5_drift_84 : decode cX5_drift 84 = .ok (.iload 8, 2) := dq_get dX5_drift_82_t 1 rfl
theorem dX5_drift_86 : decode cX5_drift 86 = .ok (.iload 6, 2) := dq_get dX5_drift_82_t 2 rfl
theorem dX5_drift_88 : decode cX5_drift 88 = .ok (.bipush 6, 2) := dq_get dX5_drift_82_t 3 rfl
theorem dX5_drift_90 : decode cX5_drift 90 = .ok (.invokestatic 205, 3) := dq_get dX5_drift_82_t 4 rfl
theorem dX5_drift_93 : decode cX5_drift 93 = .ok (.invokevirtual 208, 3) := dq_get dX5_drift_82_t 5 rfl
theorem dX5_drift_96 : decode cX5_drift 96 = .ok (.iinc 7 1, 3) := dq_get dX5_drift_82_t 6 rfl
theorem dX5_drift_99 : decode cX5_drift 99 = .ok (.goto (-46), 3) := dq_get dX5_drift_82_t 7 rfl
theorem dX5_drift_102 : decode cX5_drift 102 = .ok (.iload_n 3, 1) := dq_get dX5_drift_82_t 8 rfl
theorem dX5_drift_103 : decode cX5_drift 103 = .ok (.ifCond .ne 14, 3) := dq_get dX5_drift_82_t 9 rfl
theorem dX5_drift_106 : decode cX5_drift 106 = .ok (.aload 4, 2) := dq_get dX5_drift_82_t 10 rfl
theorem dX5_drift_108 : decode cX5_drift 108 = .ok (.iconst 0, 1) := dq_get dX5_drift_82_t 11 rfl
theorem dX5_drift_109 : decode cX5_drift 109 = .ok (.bipush 10, 2) := dq_get dX5_drift_82_t 12 rfl
theorem dX5_drift_111 : decode cX5_drift 111 = .ok (.invokevirtual 158, 3) := dq_get dX5_drift_82_t 13 rfl
theorem dX5_drift_114 : decode cX5_drift 114 = .ok (.goto 9, 3) := dq_get dX5_drift_82_t 14 rfl
theorem dX5_drift_117 : decode cX5_drift 117 = .ok (.aload 4, 2) := dq_get dX5_drift_82_t 15 rfl
theorem dX5_drift_119 : decode cX5_drift 119 = .ok (.iconst 0, 1) := dq_get dX5_drift_82_t 16 rfl
theorem dX5_drift_120 : decode cX5_drift 120 = .ok (.invokevirtual 212, 3) := dq_get dX5_drift_82_t 17 rfl
theorem dX5_drift_123 : decode cX5_drift 123 = .ok (.ireturn, 1) := dq_get dX5_drift_82_t 18 rfl
theorem gt_wsX5_keep_wsX00 : GoodIn wsX5_keep wsX00 := fun w hw => ⟨List.mem_cons_of_mem _ (List.mem_append_left _ (List.mem_append_right _ hw)), good_of_word (List.all_eq_true.mp gw_wsX00 w hw)⟩
theorem gt_wsX5_keep_wsX20 : GoodIn wsX5_keep wsX20 := fun w hw => ⟨List.mem_cons_of_mem _ (List.mem_append_right _ hw), good_of_word (List.all_eq_true.mp gw_wsX20 w hw)⟩
set_option maxRecDepth 20000 in
theorem ggX5_keep_X0_become : GoodIn wsX5_keep wsX0_become := goodIn_ca (goodIn_ca (goodIn_r _ [8, 9, 10, 11, 12, 13, 14, 15, 16, 17, 18, 19, 20, 21, 22, 23, 24, 25, 26, 27] rfl (by decide +kernel)) gt_wsX5_keep_wsX00) gt_wsX5_keep_wsX20
set_option maxRecDepth 20000 in
theorem gX5_keep_X0_become : GoodIn wsX5_keep (wsV RX5 73 RX0 yX0_become wsX0_become) := goodIn_app (goodIn_r _ [4, 5, 6, 7] rfl (by decide +kernel)) ggX5_keep_X0_become
theorem dX5_keep_0_t : dqK cX5_keep.data.toList 0 [(0, .iload_n 1, 1), (1, .ifCond .lt 8, 3), (4, .iload_n 1, 1), (5, .iconst 2, 1), (6, .if_icmp .lt 5, 3), (9, .iconst (-1), 1), (10, .ireturn, 1), (11, .aload_n 0, 1), (12, .getfield 20, 3), (15, .iload_n 1, 1), (16, .baload, 1), (17, .ifCond .eq 7, 3), (20, .iconst 1, 1), (21, .goto 4, 3), (24, .iconst 0, 1), (25, .istore_n 2, 1), (26, .aload_n 0, 1), (27, .getfield 16, 3), (30, .iload_n 1, 1), (31, .aaload, 1), (32, .aload_n 0, 1), (33, .getfield 10, 3), (36, .invokevirtual 73, 3), (39, .aload_n 0, 1), (40, .getfield 20, 3), (43, .iload_n 1, 1), (44, .iconst 1, 1), (45, .bastore, 1), (46, .iload_n 2, 1), (47, .ireturn, 1)] = true := by decide +kernel
theorem dX5_keep_0 : decode cX5_keep 0 = .ok (.iload_n 1, 1) := dq_get dX5_keep_0_t 0 rfl
theorem dX5_keep_1 : decode cX5_keep 1 = .ok (.ifCond .lt 8, 3) := dq_get dX5_keep_0_t 1 rfl
theorem dX5_keep_4 : decode cX5_keep 4 = .ok (.iload_n 1, 1) := dq_get dX5_keep_0_t 2 rfl
theorem dX5_keep_5 : decode cX5_keep 5 = .ok (.iconst 2, 1) := dq_get dX5_keep_0_t 3 rfl
theorem dX5_keep_6 : decode cX5_keep 6 = .ok (.if_icmp .lt 5, 3) := dq_get dX5_keep_0_t 4 rfl
theorem dX5_keep_9 : decode cX5_keep 9 = .ok (.iconst (-1), 1) := dq_get dX5_keep_0_t 5 rfl
theorem dX5_keep_10 : decode cX5_keep 10 = .ok (.ireturn, 1) := dq_get dX5_keep_0_t 6 rfl
theorem dX5_keep_11 : decode cX5_keep 11 = .ok (.aload_n 0, 1) := dq_get dX5_keep_0_t 7 rfl
theorem dX5_keep_12 : decode cX5_keep 12 = .ok (.getfield 20, 3) := dq_get dX5_keep_0_t 8 rfl
theorem dX5_keep_15 : decode cX5_keep 15 = .ok (.iload_n 1, 1) := dq_get dX5_keep_0_t 9 rfl
theorem dX5_keep_16 : decode cX5_keep 16 = .ok (.baload, 1) := dq_get dX5_keep_0_t 10 rfl
theorem dX5_keep_17 : decode cX5_keep 17 = .ok (.ifCond .eq 7, 3) := dq_get dX5_keep_0_t 11 rfl
theorem dX5_keep_20 : decode cX5_keep 20 = .ok (.iconst 1, 1) := dq_get dX5_keep_0_t 12 rfl
theorem dX5_keep_21 : decode cX5_keep 21 = .ok (.goto 4, 3) := dq_get dX5_keep_0_t 13 rfl
theorem dX5_keep_24 : decode cX5_keep 24 = .ok (.iconst 0, 1) := dq_get dX5_keep_0_t 14 rfl
theorem dX5_keep_25 : decode cX5_keep 25 = .ok (.istore_n 2, 1) := dq_get dX5_keep_0_t 15 rfl
theorem dX5_keep_26 : decode cX5_keep 26 = .ok (.aload_n 0, 1) := dq_get dX5_keep_0_t 16 rfl
theorem dX5_keep_27 : decode cX5_keep 27 = .ok (.getfield 16, 3) := dq_get dX5_keep_0_t 17 rfl
theorem dX5_keep_30 : decode cX5_keep 30 = .ok (.iload_n 1, 1) := dq_get dX5_keep_0_t 18 rfl
theorem dX5_keep_31 : decode cX5_keep 31 = .ok (.aaload, 1) := dq_get dX5_keep_0_t 19 rfl
theorem dX5_keep_32 : decode cX5_keep 32 = .ok (.aload_n 0, 1) := dq_get dX5_keep_0_t 20 rfl
theorem dX5_keep_33 : decode cX5_keep 33 = .ok (.getfield 10, 3) := dq_get dX5_keep_0_t 21 rfl
theorem dX5_keep_36 : decode cX5_keep 36 = .ok (.invokevirtual 73, 3) := dq_get dX5_keep_0_t 22 rfl
theorem dX5_keep_39 : decode cX5_keep 39 = .ok (.aload_n 0, 1) := dq_get dX5_keep_0_t 23 rfl
theorem dX5_keep_40 : decode cX5_keep 40 = .ok (.getfield 20, 3) := dq_get dX5_keep_0_t 24 rfl
theorem dX5_keep_43 : decode cX5_keep 43 = .ok (.iload_n 1, 1) := dq_get dX5_keep_0_t 25 rfl
theorem dX5_keep_44 : decode cX5_keep 44 = .ok (.iconst 1, 1) := dq_get dX5_keep_0_t 26 rfl
theorem dX5_keep_45 : decode cX5_keep 45 = .ok (.bastore, 1) := dq_get dX5_keep_0_t 27 rfl
theorem dX5_keep_46 : decode cX5_keep 46 = .ok (.iload_n 2, 1) := dq_get dX5_keep_0_t 28 rfl
theorem dX5_keep_47 : decode cX5_keep 47 = .ok (.ireturn, 1) := dq_get dX5_keep_0_t 29 rfl
theorem gt_wsX5_back_wsX00 : GoodIn wsX5_back wsX00 := fun w hw => ⟨List.mem_cons_of_mem _ (List.mem_append_left _ (List.mem_append_right _ hw)), good_of_word (List.all_eq_true.mp gw_wsX00 w hw)⟩
theorem gt_wsX5_back_wsX20 : GoodIn wsX5_back wsX20 := fun w hw => ⟨List.mem_cons_of_mem _ (List.mem_append_right _ hw), good_of_word (List.all_eq_true.mp gw_wsX20 w hw)⟩
set_option maxRecDepth 20000 in
theorem ggX5_back_X0_become : GoodIn wsX5_back wsX0_become := goodIn_ca (goodIn_ca (goodIn_r _ [9, 10, 11, 12, 13, 14, 15, 16, 17, 18, 19, 20, 21, 22, 23, 24, 25, 26, 27, 28] rfl (by decide +kernel)) gt_wsX5_back_wsX00) gt_wsX5_back_wsX20
set_option maxRecDepth 20000 in
theorem gX5_back_X0_become : GoodIn wsX5_back (wsV RX5 73 RX0 yX0_become wsX0_become) := goodIn_app (goodIn_r _ [5, 6, 7, 8] rfl (by decide +kernel)) ggX5_back_X0_become
theorem dX5_back_0_t : dqK cX5_back.data.toList 0 [(0, .iload_n 1, 1), (1, .ifCond .lt 8, 3), (4, .iload_n 1, 1), (5, .iconst 2, 1), (6, .if_icmp .lt 5, 3), (9, .iconst (-1), 1), (10, .ireturn, 1), (11, .aload_n 0, 1), (12, .getfield 20, 3), (15, .iload_n 1, 1), (16, .baload, 1), (17, .ifCond .ne 6, 3), (20, .bipush (-2), 2), (22, .ireturn, 1), (23, .aload_n 0, 1), (24, .getfield 10, 3), (27, .aload_n 0, 1), (28, .getfield 16, 3), (31, .iload_n 1, 1), (32, .aaload, 1), (33, .invokevirtual 73, 3), (36, .aload_n 0, 1), (37, .getfield 27, 3), (40, .iconst 1, 1), (41, .putfield 77, 3), (44, .aload_n 0, 1), (45, .getfield 10, 3), (48, .getfield 93, 3), (51, .getfield 97, 3), (54, .ireturn, 1)] = true := by decide +kernel
theorem dX5_back_0 : decode cX5_back 0 = .ok (.iload_n 1, 1) := dq_get dX5_back_0_t 0 rfl
theorem dX5_back_1 : decode cX5_back 1 = .ok (.ifCond .lt 8, 3) := dq_get dX5_back_0_t 1 rfl
theorem dX5_back_4 : decode cX5_back 4 = .ok (.iload_n 1, 1) := dq_get dX5_back_0_t 2 rfl
theorem dX5_back_5 : decode cX5_back 5 = .ok (.iconst 2, 1) := dq_get dX5_back_0_t 3 rfl
theorem dX5_back_6 : decode cX5_back 6 = .ok (.if_icmp .lt 5, 3) := dq_get dX5_back_0_t 4 rfl
theorem dX5_back_9 : decode cX5_back 9 = .ok (.iconst (-1), 1) := dq_get dX5_back_0_t 5 rfl
theorem dX5_back_10 : decode cX5_back 10 = .ok (.ireturn, 1) := dq_get dX5_back_0_t 6 rfl
theorem dX5_back_11 : decode cX5_back 11 = .ok (.aload_n 0, 1) := dq_get dX5_back_0_t 7 rfl
theorem dX5_back_12 : decode cX5_back 12 = .ok (.getfield 20, 3) := dq_get dX5_back_0_t 8 rfl
theorem dX5_back_15 : decode cX5_back 15 = .ok (.iload_n 1, 1) := dq_get dX5_back_0_t 9 rfl
theorem dX5_back_16 : decode cX5_back 16 = .ok (.baload, 1) := dq_get dX5_back_0_t 10 rfl
theorem dX5_back_17 : decode cX5_back 17 = .ok (.ifCond .ne 6, 3) := dq_get dX5_back_0_t 11 rfl
theorem dX5_back_20 : decode cX5_back 20 = .ok (.bipush (-2), 2) := dq_get dX5_back_0_t 12 rfl
theorem dX5_back_22 : decode cX5_back 22 = .ok (.ireturn, 1) := dq_get dX5_back_0_t 13 rfl
theorem dX5_back_23 : decode cX5_back 23 = .ok (.aload_n 0, 1) := dq_get dX5_back_0_t 14 rfl
theorem dX5_back_24 : decode cX5_back 24 = .ok (.getfield 10, 3) := dq_get dX5_back_0_t 15 rfl
theorem dX5_back_27 : decode cX5_back 27 = .ok (.aload_n 0, 1) := dq_get dX5_back_0_t 16 rfl
theorem dX5_back_28 : decode cX5_back 28 = .ok (.getfield 16, 3) := dq_get dX5_back_0_t 17 rfl
theorem dX5_back_31 : decode cX5_back 31 = .ok (.iload_n 1, 1) := dq_get dX5_back_0_t 18 rfl
theorem dX5_back_32 : decode cX5_back 32 = .ok (.aaload, 1) := dq_get dX5_back_0_t 19 rfl
theorem dX5_back_33 : decode cX5_back 33 = .ok (.invokevirtual 73, 3) := dq_get dX5_back_0_t 20 rfl
theorem dX5_back_36 : decode cX5_back 36 = .ok (.aload_n 0, 1) := dq_get dX5_back_0_t 21 rfl
theorem dX5_back_37 : decode cX5_back 37 = .ok (.getfield 27, 3) := dq_get dX5_back_0_t 22 rfl
theorem dX5_back_40 : decode cX5_back 40 = .ok (.iconst 1, 1) := dq_get dX5_back_0_t 23 rfl
theorem dX5_back_41 : decode cX5_back 41 = .ok (.putfield 77, 3) := dq_get dX5_back_0_t 24 rfl
theorem dX5_back_44 : decode cX5_back 44 = .ok (.aload_n 0, 1) := dq_get dX5_back_0_t 25 rfl
theorem dX5_back_45 : decode cX5_back 45 = .ok (.getfield 10, 3) := dq_get dX5_back_0_t 26 rfl
theorem dX5_back_48 : decode cX5_back 48 = .ok (.getfield 93, 3) := dq_get dX5_back_0_t 27 rfl
theorem dX5_back_51 : decode cX5_back 51 = .ok (.getfield 97, 3) := dq_get dX5_back_0_t 28 rfl
theorem dX5_back_54 : decode cX5_back 54 = .ok (.ireturn, 1) := dq_get dX5_back_0_t 29 rfl
set_option maxRecDepth 20000 in
theorem ggX5_sheet_X5_isSheet : GoodIn wsX5_sheet wsX5_isSheet := goodIn_r _ [5] rfl (by decide +kernel)
set_option maxRecDepth 20000 in
theorem gX5_sheet_X5_isSheet : GoodIn wsX5_sheet (va_wsS RX5 215 yX5_isSheet wsX5_isSheet) := goodIn_app (goodIn_r _ [2, 3, 4] rfl (by decide +kernel)) ggX5_sheet_X5_isSheet
set_option maxRecDepth 20000 in
theorem ggX5_sheet_X5_isLane : GoodIn wsX5_sheet wsX5_isLane := goodIn_r _ [8] rfl (by decide +kernel)
set_option maxRecDepth 20000 in
theorem gX5_sheet_X5_isLane : GoodIn wsX5_sheet (va_wsS RX5 218 yX5_isLane wsX5_isLane) := goodIn_app (goodIn_r _ [6, 7, 4] rfl (by decide +kernel)) ggX5_sheet_X5_isLane
theorem gt_wsX5_sheet_wsX30 : GoodIn wsX5_sheet wsX30 := fun w hw => ⟨List.mem_cons_of_mem _ (List.mem_append_right _ hw), good_of_word (List.all_eq_true.mp gw_wsX30 w hw)⟩
set_option maxRecDepth 20000 in
theorem ggX5_sheet_X3_renew : GoodIn wsX5_sheet wsX3_renew := goodIn_ca (goodIn_r _ [13, 14, 15, 16, 17, 18, 19, 20] rfl (by decide +kernel)) gt_wsX5_sheet_wsX30
set_option maxRecDepth 20000 in
theorem gX5_sheet_X3_renew : GoodIn wsX5_sheet (wsV RX5 221 RX3 yX3_renew wsX3_renew) := goodIn_app (goodIn_r _ [9, 10, 11, 12] rfl (by decide +kernel)) ggX5_sheet_X3_renew
theorem dX5_sheet_0_t : dqK cX5_sheet.data.toList 0 [(0, .iload_n 1, 1), (1, .invokestatic 215, 3), (4, .ifCond .eq 16, 3), (7, .iload_n 2, 1), (8, .invokestatic 218, 3), (11, .ifCond .eq 9, 3), (14, .iload_n 3, 1), (15, .bipush 40, 2), (17, .if_icmp .le 5, 3), (20, .iconst (-1), 1), (21, .ireturn, 1), (22, .iload_n 3, 1), (23, .ifCond .ge 6, 3), (26, .bipush (-14), 2), (28, .ireturn, 1), (29, .aload_n 0, 1), (30, .getfield 40, 3), (33, .iload_n 1, 1), (34, .aaload, 1), (35, .iload_n 2, 1), (36, .iload_n 3, 1), (37, .invokevirtual 221, 3), (40, .iconst 1, 1), (41, .ireturn, 1)] = true := by decide +kernel
theorem dX5_sheet_0 : decode cX5_sheet 0 = .ok (.iload_n 1, 1) := dq_get dX5_sheet_0_t 0 rfl
theorem dX5_sheet_1 : decode cX5_sheet 1 = .ok (.invokestatic 215, 3) := dq_get dX5_sheet_0_t 1 rfl
theorem dX5_sheet_4 : decode cX5_sheet 4 = .ok (.ifCond .eq 16, 3) := dq_get dX5_sheet_0_t 2 rfl
theorem dX5_sheet_7 : decode cX5_sheet 7 = .ok (.iload_n 2, 1) := dq_get dX5_sheet_0_t 3 rfl
theorem dX5_sheet_8 : decode cX5_sheet 8 = .ok (.invokestatic 218, 3) := dq_get dX5_sheet_0_t 4 rfl
theorem dX5_sheet_11 : decode cX5_sheet 11 = .ok (.ifCond .eq 9, 3) := dq_get dX5_sheet_0_t 5 rfl
theorem dX5_sheet_14 : decode cX5_sheet 14 = .ok (.iload_n 3, 1) := dq_get dX5_sheet_0_t 6 rfl
theorem dX5_sheet_15 : decode cX5_sheet 15 = .ok (.bipush 40, 2) := dq_get dX5_sheet_0_t 7 rfl
theorem dX5_sheet_17 : decode cX5_sheet 17 = .ok (.if_icmp .le 5, 3) := dq_get dX5_sheet_0_t 8 rfl
theorem dX5_sheet_20 : decode cX5_sheet 20 = .ok (.iconst (-1), 1) := dq_get dX5_sheet_0_t 9 rfl
theorem dX5_sheet_21 : decode cX5_sheet 21 = .ok (.ireturn, 1) := dq_get dX5_sheet_0_t 10 rfl
theorem dX5_sheet_22 : decode cX5_sheet 22 = .ok (.iload_n 3, 1) := dq_get dX5_sheet_0_t 11 rfl
theorem dX5_sheet_23 : decode cX5_sheet 23 = .ok (.ifCond .ge 6, 3) := dq_get dX5_sheet_0_t 12 rfl
theorem dX5_sheet_26 : decode cX5_sheet 26 = .ok (.bipush (-14), 2) := dq_get dX5_sheet_0_t 13 rfl
theorem dX5_sheet_28 : decode cX5_sheet 28 = .ok (.ireturn, 1) := dq_get dX5_sheet_0_t 14 rfl
theorem dX5_sheet_29 : decode cX5_sheet 29 = .ok (.aload_n 0, 1) := dq_get dX5_sheet_0_t 15 rfl
theorem dX5_sheet_30 : decode cX5_sheet 30 = .ok (.getfield 40, 3) := dq_get dX5_sheet_0_t 16 rfl
theorem dX5_sheet_33 : decode cX5_sheet 33 = .ok (.iload_n 1, 1) := dq_get dX5_sheet_0_t 17 rfl
theorem dX5_sheet_34 : decode cX5_sheet 34 = .ok (.aaload, 1) := dq_get dX5_sheet_0_t 18 rfl
theorem dX5_sheet_35 : decode cX5_sheet 35 = .ok (.iload_n 2, 1) := dq_get dX5_sheet_0_t 19 rfl
theorem dX5_sheet_36 : decode cX5_sheet 36 = .ok (.iload_n 3, 1) := dq_get dX5_sheet_0_t 20 rfl
theorem dX5_sheet_37 : decode cX5_sheet 37 = .ok (.invokevirtual 221, 3) := dq_get dX5_sheet_0_t 21 rfl
theorem dX5_sheet_40 : decode cX5_sheet 40 = .ok (.iconst 1, 1) := dq_get dX5_sheet_0_t 22 rfl
theorem dX5_sheet_41 : decode cX5_sheet 41 = .ok (.ireturn, 1) := dq_get dX5_sheet_0_t 23 rfl
set_option maxRecDepth 20000 in
theorem ggX5_lay_X5_isSheet : GoodIn wsX5_lay wsX5_isSheet := goodIn_r _ [5] rfl (by decide +kernel)
set_option maxRecDepth 20000 in
theorem gX5_lay_X5_isSheet : GoodIn wsX5_lay (va_wsS RX5 215 yX5_isSheet wsX5_isSheet) := goodIn_app (goodIn_r _ [2, 3, 4] rfl (by decide +kernel)) ggX5_lay_X5_isSheet
theorem gt_wsX5_lay_wsX30 : GoodIn wsX5_lay wsX30 := fun w hw => ⟨List.mem_cons_of_mem _ (List.mem_append_right _ hw), good_of_word (List.all_eq_true.mp gw_wsX30 w hw)⟩
set_option maxRecDepth 20000 in
theorem ggX5_lay_X3_faultAt : GoodIn wsX5_lay wsX3_faultAt := goodIn_ca (goodIn_r _ [10, 11, 12, 13, 14, 9, 15] rfl (by decide +kernel)) gt_wsX5_lay_wsX30
set_option maxRecDepth 20000 in
theorem gX5_lay_X3_faultAt : GoodIn wsX5_lay (wsV RX5 224 RX3 yX3_faultAt wsX3_faultAt) := goodIn_app (goodIn_r _ [6, 7, 8, 9] rfl (by decide +kernel)) ggX5_lay_X3_faultAt
set_option maxRecDepth 20000 in
theorem ggX5_lay_X3_put : GoodIn wsX5_lay wsX3_put := goodIn_ca (goodIn_r _ [19, 20, 21] rfl (by decide +kernel)) gt_wsX5_lay_wsX30
set_option maxRecDepth 20000 in
theorem gX5_lay_X3_put : GoodIn wsX5_lay (wsV RX5 227 RX3 yX3_put wsX3_put) := goodIn_app (goodIn_r _ [16, 17, 18, 9] rfl (by decide +kernel)) ggX5_lay_X3_put
theorem dX5_lay_0_t : dqK cX5_lay.data.toList 0 [(0, .iload_n 1, 1), (1, .invokestatic 215, 3), (4, .ifCond .ne 5, 3), (7, .iconst (-1), 1), (8, .ireturn, 1), (9, .aload_n 0, 1), (10, .getfield 40, 3), (13, .iload_n 1, 1), (14, .aaload, 1), (15, .iload_n 2, 1), (16, .invokevirtual 224, 3), (19, .istore 4, 2), (21, .iload 4, 2), (23, .ifCond .eq 9, 3), (26, .bipush (-10), 2), (28, .iload 4, 2), (30, .isub, 1), (31, .ireturn, 1), (32, .aload_n 0, 1), (33, .getfield 40, 3), (36, .iload_n 1, 1), (37, .aaload, 1), (38, .iload_n 2, 1), (39, .iload_n 3, 1), (40, .invokevirtual 227, 3), (43, .iconst 1, 1), (44, .ireturn, 1)] = true := by decide +kernel
theorem dX5_lay_0 : decode cX5_lay 0 = .ok (.iload_n 1, 1) := dq_get dX5_lay_0_t 0 rfl
theorem dX5_lay_1 : decode cX5_lay 1 = .ok (.invokestatic 215, 3) := dq_get dX5_lay_0_t 1 rfl
theorem dX5_lay_4 : decode cX5_lay 4 = .ok (.ifCond .ne 5, 3) := dq_get dX5_lay_0_t 2 rfl
theorem dX5_lay_7 : decode cX5_lay 7 = .ok (.iconst (-1), 1) := dq_get dX5_lay_0_t 3 rfl
theorem dX5_lay_8 : decode cX5_lay 8 = .ok (.ireturn, 1) := dq_get dX5_lay_0_t 4 rfl
theorem dX5_lay_9 : decode cX5_lay 9 = .ok (.aload_n 0, 1) := dq_get dX5_lay_0_t 5 rfl
theorem dX5_lay_10 : decode cX5_lay 10 = .ok (.getfield 40, 3) := dq_get dX5_lay_0_t 6 rfl
theorem dX5_lay_13 : decode cX5_lay 13 = .ok (.iload_n 1, 1) := dq_get dX5_lay_0_t 7 rfl
theorem dX5_lay_14 : decode cX5_lay 14 = .ok (.aaload, 1) := dq_get dX5_lay_0_t 8 rfl
theorem dX5_lay_15 : decode cX5_lay 15 = .ok (.iload_n 2, 1) := dq_get dX5_lay_0_t 9 rfl
theorem dX5_lay_16 : decode cX5_lay 16 = .ok (.invokevirtual 224, 3) := dq_get dX5_lay_0_t 10 rfl
theorem dX5_lay_19 : decode cX5_lay 19 = .ok (.istore 4, 2) := dq_get dX5_lay_0_t 11 rfl
theorem dX5_lay_21 : decode cX5_lay 21 = .ok (.iload 4, 2) := dq_get dX5_lay_0_t 12 rfl
theorem dX5_lay_23 : decode cX5_lay 23 = .ok (.ifCond .eq 9, 3) := dq_get dX5_lay_0_t 13 rfl
theorem dX5_lay_26 : decode cX5_lay 26 = .ok (.bipush (-10), 2) := dq_get dX5_lay_0_t 14 rfl
theorem dX5_lay_28 : decode cX5_lay 28 = .ok (.iload 4, 2) := dq_get dX5_lay_0_t 15 rfl
theorem dX5_lay_30 : decode cX5_lay 30 = .ok (.isub, 1) := dq_get dX5_lay_0_t 16 rfl
theorem dX5_lay_31 : decode cX5_lay 31 = .ok (.ireturn, 1) := dq_get dX5_lay_0_t 17 rfl
theorem dX5_lay_32 : decode cX5_lay 32 = .ok (.aload_n 0, 1) := dq_get dX5_lay_0_t 18 rfl
theorem dX5_lay_33 : decode cX5_lay 33 = .ok (.getfield 40, 3) := dq_get dX5_lay_0_t 19 rfl
theorem dX5_lay_36 : decode cX5_lay 36 = .ok (.iload_n 1, 1) := dq_get dX5_lay_0_t 20 rfl
theorem dX5_lay_37 : decode cX5_lay 37 = .ok (.aaload, 1) := dq_get dX5_lay_0_t 21 rfl
theorem dX5_lay_38 : decode cX5_lay 38 = .ok (.iload_n 2, 1) := dq_get dX5_lay_0_t 22 rfl
theorem dX5_lay_39 : decode cX5_lay 39 = .ok (.iload_n 3, 1) := dq_get dX5_lay_0_t 23 rfl
theorem dX5_lay_40 : decode cX5_lay 40 = .ok (.invokevirtual 227, 3) := dq_get dX5_lay_0_t 24 rfl
theorem dX5_lay_43 : decode cX5_lay 43 = .ok (.iconst 1, 1) := dq_get dX5_lay_0_t 25 rfl
theorem dX5_lay_44 : decode cX5_lay 44 = .ok (.ireturn, 1) := dq_get dX5_lay_0_t 26 rfl
set_option maxRecDepth 20000 in
theorem ggX5_read_X5_isSheet : GoodIn wsX5_read wsX5_isSheet := goodIn_r _ [8] rfl (by decide +kernel)
set_option maxRecDepth 20000 in
theorem gX5_read_X5_isSheet : GoodIn wsX5_read (va_wsS RX5 215 yX5_isSheet wsX5_isSheet) := goodIn_app (goodIn_r _ [5, 6, 7] rfl (by decide +kernel)) ggX5_read_X5_isSheet
set_option maxRecDepth 20000 in
theorem ggX5_read_X5_isLane : GoodIn wsX5_read wsX5_isLane := goodIn_r _ [11] rfl (by decide +kernel)
set_option maxRecDepth 20000 in
theorem gX5_read_X5_isLane : GoodIn wsX5_read (va_wsS RX5 218 yX5_isLane wsX5_isLane) := goodIn_app (goodIn_r _ [9, 10, 7] rfl (by decide +kernel)) ggX5_read_X5_isLane
theorem gt_wsX5_read_wsX30 : GoodIn wsX5_read wsX30 := fun w hw => ⟨List.mem_cons_of_mem _ (List.mem_append_right _ hw), good_of_word (List.all_eq_true.mp gw_wsX30 w hw)⟩
set_option maxRecDepth 20000 in
theorem ggX5_read_X3_faultAsLane : GoodIn wsX5_read wsX3_faultAsLane := goodIn_ca (goodIn_r _ [16, 17, 18, 19, 20, 15, 21, 22] rfl (by decide +kernel)) gt_wsX5_read_wsX30
set_option maxRecDepth 20000 in
theorem gX5_read_X3_faultAsLane : GoodIn wsX5_read (wsV RX5 229 RX3 yX3_faultAsLane wsX3_faultAsLane) := goodIn_app (goodIn_r _ [12, 13, 14, 15] rfl (by decide +kernel)) ggX5_read_X3_faultAsLane
set_option maxRecDepth 20000 in
theorem ggX5_read_X3_faultAtThree : GoodIn wsX5_read wsX3_faultAtThree := goodIn_ca (goodIn_r _ [26, 27, 28, 29, 15, 30, 22, 18, 19, 20, 21] rfl (by decide +kernel)) gt_wsX5_read_wsX30
set_option maxRecDepth 20000 in
theorem gX5_read_X3_faultAtThree : GoodIn wsX5_read (wsV RX5 232 RX3 yX3_faultAtThree wsX3_faultAtThree) := goodIn_app (goodIn_r _ [23, 24, 25, 15] rfl (by decide +kernel)) ggX5_read_X3_faultAtThree
theorem gt_wsX5_read_wsX00 : GoodIn wsX5_read wsX00 := fun w hw => ⟨List.mem_cons_of_mem _ (List.mem_append_left _ (List.mem_append_left _ (List.mem_append_left _ (List.mem_append_right _ hw)))), good_of_word (List.all_eq_true.mp gw_wsX00 w hw)⟩
theorem gt_wsX5_read_wsX20 : GoodIn wsX5_read wsX20 := fun w hw => ⟨List.mem_cons_of_mem _ (List.mem_append_left _ (List.mem_append_left _ (List.mem_append_right _ hw))), good_of_word (List.all_eq_true.mp gw_wsX20 w hw)⟩
set_option maxRecDepth 20000 in
theorem ggX5_read_X0_takeChange : GoodIn wsX5_read wsX0_takeChange := goodIn_ca (goodIn_ca (goodIn_r _ [35, 36, 37, 38, 39, 34, 40, 41, 42, 43, 44, 45, 46, 47, 48, 7, 49, 50, 51, 52, 53, 54, 55, 56, 57] rfl (by decide +kernel)) gt_wsX5_read_wsX00) gt_wsX5_read_wsX20
set_option maxRecDepth 20000 in
theorem gX5_read_X0_takeChange : GoodIn wsX5_read (wsV RX5 135 RX0 yX0_takeChange wsX0_takeChange) := goodIn_app (goodIn_r _ [31, 32, 33, 34] rfl (by decide +kernel)) ggX5_read_X0_takeChange
set_option maxRecDepth 20000 in
theorem ggX5_read_X2_shorten : GoodIn wsX5_read wsX2_shorten := goodIn_ca (goodIn_r _ [61, 55] rfl (by decide +kernel)) gt_wsX5_read_wsX20
set_option maxRecDepth 20000 in
theorem gX5_read_X2_shorten : GoodIn wsX5_read (wsV RX5 139 RX2 yX2_shorten wsX2_shorten) := goodIn_app (goodIn_r _ [58, 59, 60, 53] rfl (by decide +kernel)) ggX5_read_X2_shorten
theorem dX5_read_0_t : dqK cX5_read.data.toList 0 [(0, .iload_n 1, 1), (1, .invokestatic 215, 3), (4, .ifCond .eq 22, 3), (7, .iload_n 2, 1), (8, .invokestatic 218, 3), (11, .ifCond .eq 15, 3), (14, .iload 4, 2), (16, .ifCond .lt 10, 3), (19, .iload 4, 2), (21, .bipush 13, 2), (23, .if_icmp .le 5, 3), (26, .iconst (-1), 1), (27, .ireturn, 1), (28, .aload_n 0, 1), (29, .getfield 40, 3), (32, .iload_n 1, 1), (33, .aaload, 1), (34, .astore 5, 2), (36, .aload_n 0, 1), (37, .getfield 10, 3), (40, .getfield 93, 3), (43, .getfield 97, 3), (46, .istore 6, 2), (48, .aload 5, 2), (50, .iload_n 2, 1), (51, .invokevirtual 229, 3), (54, .istore 7, 2), (56, .aload_n 0, 1), (57, .getfield 27, 3), (60, .iconst 1, 1), (61, .putfield 77, 3), (64, .iconst 0, 1), (65, .istore 8, 2), (67, .iload 8, 2), (69, .iload 4, 2), (71, .if_icmp .ge 93, 3), (74, .iload 7, 2), (76, .ifCond .ne 88, 3), (79, .iload_n 3, 1), (80, .iconst 3, 1)] = true := by decide +kernel
theorem dX5_read_0 : decode cX5_read 0 = .ok (.iload_n 1, 1) := dq_get dX5_read_0_t 0 rfl
theorem dX5_read_1 : decode cX5_read 1 = .ok (.invokestatic 215, 3) := dq_get dX5_read_0_t 1 rfl
theorem dX5_read_4 : decode cX5_read 4 = .ok (.ifCond .eq 22, 3) := dq_get dX5_read_0_t 2 rfl
theorem dX5_read_7 : decode cX5_read 7 = .ok (.iload_n 2, 1) := dq_get dX5_read_0_t 3 rfl
theorem dX5_read_8 : decode cX5_read 8 = .ok (.invokestatic 218, 3) := dq_get dX5_read_0_t 4 rfl
theorem dX5_read_11 : decode cX5_read 11 = .ok (.ifCond .eq 15, 3) := dq_get dX5_read_0_t 5 rfl
theorem dX5_read_14 : decode cX5_read 14 = .ok (.iload 4, 2) := dq_get dX5_read_0_t 6 rfl
theorem dX5_read_16 : decode cX5_read 16 = .ok (.ifCond .lt 10, 3) := dq_get dX5_read_0_t 7 rfl
theorem dX5_read_19 : decode cX5_read 19 = .ok (.iload 4, 2) := dq_get dX5_read_0_t 8 rfl
theorem dX5_read_21 : decode cX5_read 21 = .ok (.bipush 13, 2) := dq_get dX5_read_0_t 9 rfl
theorem dX5_read_23 : decode cX5_read 23 = .ok (.if_icmp .le 5, 3) := dq_get dX5_read_0_t 10 rfl
theorem dX5_read_26 : decode cX5_read 26 = .ok (.iconst (-1), 1) := dq_get dX5_read_0_t 11 rfl
theorem dX5_read_27 : decode cX5_read 27 = .ok (.ireturn, 1) := dq_get dX5_read_0_t 12 rfl
theorem dX5_read_28 : decode cX5_read 28 = .ok (.aload_n 0, 1) := dq_get dX5_read_0_t 13 rfl
theorem dX5_read_29 : decode cX5_read 29 = .ok (.getfield 40, 3) := dq_get dX5_read_0_t 14 rfl
theorem dX5_read_32 : decode cX5_read 32 = .ok (.iload_n 1, 1) := dq_get dX5_read_0_t 15 rfl
theorem dX5_read_33 : decode cX5_read 33 = .ok (.aaload, 1) := dq_get dX5_read_0_t 16 rfl
theorem dX5_read_34 : decode cX5_read 34 = .ok (.astore 5, 2) := dq_get dX5_read_0_t 17 rfl
theorem dX5_read_36 : decode cX5_read 36 = .ok (.aload_n 0, 1) := dq_get dX5_read_0_t 18 rfl
theorem dX5_read_37 : decode cX5_read 37 = .ok (.getfield 10, 3) := dq_get dX5_read_0_t 19 rfl
theorem dX5_read_40 : decode cX5_read 40 = .ok (.getfield 93, 3) := dq_get dX5_read_0_t 20 rfl
theorem dX5_read_43 : decode cX5_read 43 = .ok (.getfield 97, 3) := dq_get dX5_read_0_t 21 rfl
theorem dX5_read_46 : decode cX5_read 46 = .ok (.istore 6, 2) := dq_get dX5_read_0_t 22 rfl
theorem dX5_read_48 : decode cX5_read 48 = .ok (.aload 5, 2) := dq_get dX5_read_0_t 23 rfl
theorem dX5_read_50 : decode cX5_read 50 = .ok (.iload_n 2, 1) := dq_get dX5_read_0_t 24 rfl
theorem dX5_read_51 : decode cX5_read 51 = .ok (.invokevirtual 229, 3) := dq_get dX5_read_0_t 25 rfl
theorem dX5_read_54 : decode cX5_read 54 = .ok (.istore 7, 2) := dq_get dX5_read_0_t 26 rfl
theorem dX5_read_56 : decode cX5_read 56 = .ok (.aload_n 0, 1) := dq_get dX5_read_0_t 27 rfl
theorem dX5_read_57 : decode cX5_read 57 = .ok (.getfield 27, 3) := dq_get dX5_read_0_t 28 rfl
theorem dX5_read_60 : decode cX5_read 60 = .ok (.iconst 1, 1) := dq_get dX5_read_0_t 29 rfl
theorem dX5_read_61 : decode cX5_read 61 = .ok (.putfield 77, 3) := dq_get dX5_read_0_t 30 rfl
theorem dX5_read_64 : decode cX5_read 64 = .ok (.iconst 0, 1) := dq_get dX5_read_0_t 31 rfl
theorem dX5_read_65 : decode cX5_read 65 = .ok (.istore 8, 2) := dq_get dX5_read_0_t 32 rfl
theorem dX5_read_67 : decode cX5_read 67 = .ok (.iload 8, 2) := dq_get dX5_read_0_t 33 rfl
theorem dX5_read_69 : decode cX5_read 69 = .ok (.iload 4, 2) := dq_get dX5_read_0_t 34 rfl
theorem dX5_read_71 : decode cX5_read 71 = .ok (.if_icmp .ge 93, 3) := dq_get dX5_read_0_t 35 rfl
theorem dX5_read_74 : decode cX5_read 74 = .ok (.iload 7, 2) := dq_get dX5_read_0_t 36 rfl
theorem dX5_read_76 : decode cX5_read 76 = .ok (.ifCond .ne 88, 3) := dq_get dX5_read_0_t 37 rfl
theorem dX5_read_79 : decode cX5_read 79 = .ok (.iload_n 3, 1) := dq_get dX5_read_0_t 38 rfl
theorem dX5_read_80 : decode cX5_read 80 = .ok (.iconst 3, 1) := dq_get dX5_read_0_t 39 rfl
theorem dX5_read_81_t : dqK cX5_read.data.toList 0 [(81, .iload 8, 2), (83, .imul, 1), (84, .iadd, 1), (85, .istore 9, 2), (87, .aload 5, 2), (89, .iload 9, 2), (91, .invokevirtual 232, 3), (94, .istore 7, 2), (96, .iload 7, 2), (98, .ifCond .ne 60, 3), (101, .aload_n 0, 1), (102, .getfield 10, 3), (105, .aload 5, 2), (107, .getfield 235, 3), (110, .iload 9, 2), (112, .iaload, 1), (113, .aload 5, 2), (115, .getfield 235, 3), (118, .iload 9, 2), (120, .iconst 1, 1), (121, .iadd, 1), (122, .iaload, 1), (123, .aload 5, 2), (125, .getfield 235, 3), (128, .iload 9, 2), (130, .iconst 2, 1), (131, .iadd, 1), (132, .iaload, 1), (133, .invokevirtual 135, 3), (136, .ifCond .ge 22, 3), (139, .aload_n 0, 1), (140, .getfield 10, 3), (143, .getfield 93, 3), (146, .iload 6, 2), (148, .invokevirtual 139, 3), (151, .pop, 1), (152, .bipush (-20), 2), (154, .iload 8, 2), (156, .isub, 1), (157, .ireturn, 1)] = true := by decide +kernel
theorem dX5_read_81 : decode cX5_read 81 = .ok (.iload 8, 2) := dq_get dX5_read_81_t 0 rfl
theorem dX5_read_83 : decode cX5_read 83 = .ok (.imul, 1) := dq_get dX5_read_81_t 1 rfl
theorem dX5_read_84 : decode cX5_read 84 = .ok (.iadd, 1) := dq_get dX5_read_81_t 2 rfl
theorem dX5_read_85 : decode cX5_read 85 = .ok (.istore 9, 2) := dq_get dX5_read_81_t 3 rfl
theorem dX5_read_87 : decode cX5_read 87 = .ok (.aload 5, 2) := dq_get dX5_read_81_t 4 rfl
theorem dX5_read_89 : decode cX5_read 89 = .ok (.iload 9, 2) := dq_get dX5_read_81_t 5 rfl
theorem dX5_read_91 : decode cX5_read 91 = .ok (.invokevirtual 232, 3) := dq_get dX5_read_81_t 6 rfl
theorem dX5_read_94 : decode cX5_read 94 = .ok (.istore 7, 2) := dq_get dX5_read_81_t 7 rfl
theorem dX5_read_96 : decode cX5_read 96 = .ok (.iload 7, 2) := dq_get dX5_read_81_t 8 rfl
theorem dX5_read_98 : decode cX5_read 98 = .ok (.ifCond .ne 60, 3) := dq_get dX5_read_81_t 9 rfl
theorem dX5_read_101 : decode cX5_read 101 = .ok (.aload_n 0, 1) := dq_get dX5_read_81_t 10 rfl
theorem dX5_read_102 : decode cX5_read 102 = .ok (.getfield 10, 3) := dq_get dX5_read_81_t 11 rfl
theorem dX5_read_105 : decode cX5_read 105 = .ok (.aload 5, 2) := dq_get dX5_read_81_t 12 rfl
theorem dX5_read_107 : decode cX5_read 107 = .ok (.getfield 235, 3) := dq_get dX5_read_81_t 13 rfl
theorem dX5_read_110 : decode cX5_read 110 = .ok (.iload 9, 2) := dq_get dX5_read_81_t 14 rfl
theorem dX5_read_112 : decode cX5_read 112 = .ok (.iaload, 1) := dq_get dX5_read_81_t 15 rfl
theorem dX5_read_113 : decode cX5_read 113 = .ok (.aload 5, 2) := dq_get dX5_read_81_t 16 rfl
theorem dX5_read_115 : decode cX5_read 115 = .ok (.getfield 235, 3) := dq_get dX5_read_81_t 17 rfl
theorem dX5_read_118 : decode cX5_read 118 = .ok (.iload 9, 2) := dq_get dX5_read_81_t 18 rfl
theorem dX5_read_120 : decode cX5_read 120 = .ok (.iconst 1, 1) := dq_get dX5_read_81_t 19 rfl
theorem dX5_read_121 : decode cX5_read 121 = .ok (.iadd, 1) := dq_get dX5_read_81_t 20 rfl
theorem dX5_read_122 : decode cX5_read 122 = .ok (.iaload, 1) := dq_get dX5_read_81_t 21 rfl
theorem dX5_read_123 : decode cX5_read 123 = .ok (.aload 5, 2) := dq_get dX5_read_81_t 22 rfl
theorem dX5_read_125 : decode cX5_read 125 = .ok (.getfield 235, 3) := dq_get dX5_read_81_t 23 rfl
theorem dX5_read_128 : decode cX5_read 128 = .ok (.iload 9, 2) := dq_get dX5_read_81_t 24 rfl
theorem dX5_read_130 : decode cX5_read 130 = .ok (.iconst 2, 1) := dq_get dX5_read_81_t 25 rfl
theorem dX5_read_131 : decode cX5_read 131 = .ok (.iadd, 1) := dq_get dX5_read_81_t 26 rfl
theorem dX5_read_132 : decode cX5_read 132 = .ok (.iaload, 1) := dq_get dX5_read_81_t 27 rfl
theorem dX5_read_133 : decode cX5_read 133 = .ok (.invokevirtual 135, 3) := dq_get dX5_read_81_t 28 rfl
theorem dX5_read_136 : decode cX5_read 136 = .ok (.ifCond .ge 22, 3) := dq_get dX5_read_81_t 29 rfl
theorem dX5_read_139 : decode cX5_read 139 = .ok (.aload_n 0, 1) := dq_get dX5_read_81_t 30 rfl
theorem dX5_read_140 : decode cX5_read 140 = .ok (.getfield 10, 3) := dq_get dX5_read_81_t 31 rfl
theorem dX5_read_143 : decode cX5_read 143 = .ok (.getfield 93, 3) := dq_get dX5_read_81_t 32 rfl
theorem dX5_read_146 : decode cX5_read 146 = .ok (.iload 6, 2) := dq_get dX5_read_81_t 33 rfl
theorem dX5_read_148 : decode cX5_read 148 = .ok (.invokevirtual 139, 3) := dq_get dX5_read_81_t 34 rfl
theorem dX5_read_151 : decode cX5_read 151 = .ok (.pop, 1) := dq_get dX5_read_81_t 35 rfl
theorem dX5_read_152 : decode cX5_read 152 = .ok (.bipush (-20), 2) := dq_get dX5_read_81_t 36 rfl
theorem dX5_read_154 : decode cX5_read 154 = .ok (.iload 8, 2) := dq_get dX5_read_81_t 37 rfl
theorem dX5_read_156 : decode cX5_read 156 = .ok (.isub, 1) := dq_get dX5_read_81_t 38 rfl
theorem dX5_read_157 : decode cX5_read 157 = .ok (.ireturn, 1) := dq_get dX5_read_81_t 39 rfl
theorem dX5_read_158_t : dqK cX5_read.data.toList 0 [(158, .iinc 8 1, 3), (161, .goto (-94), 3), (164, .aload_n 0, 1), (165, .iload 7, 2), (167, .putfield 237, 3), (170, .aload_n 0, 1), (171, .getfield 10, 3), (174, .getfield 93, 3), (177, .getfield 97, 3), (180, .iload 6, 2), (182, .isub, 1), (183, .ireturn, 1)] = true := by decide +kernel
theorem dX5_read_158 : decode cX5_read 158 = .ok (.iinc 8 1, 3) := dq_get dX5_read_158_t 0 rfl
theorem dX5_read_161 : decode cX5_read 161 = .ok (.goto (-94), 3) := dq_get dX5_read_158_t 1 rfl
theorem dX5_read_164 : decode cX5_read 164 = .ok (.aload_n 0, 1) := dq_get dX5_read_158_t 2 rfl
theorem dX5_read_165 : decode cX5_read 165 = .ok (.iload 7, 2) := dq_get dX5_read_158_t 3 rfl
theorem dX5_read_167 : decode cX5_read 167 = .ok (.putfield 237, 3) := dq_get dX5_read_158_t 4 rfl
theorem dX5_read_170 : decode cX5_read 170 = .ok (.aload_n 0, 1) := dq_get dX5_read_158_t 5 rfl
theorem dX5_read_171 : decode cX5_read 171 = .ok (.getfield 10, 3) := dq_get dX5_read_158_t 6 rfl
theorem dX5_read_174 : decode cX5_read 174 = .ok (.getfield 93, 3) := dq_get dX5_read_158_t 7 rfl
theorem dX5_read_177 : decode cX5_read 177 = .ok (.getfield 97, 3) := dq_get dX5_read_158_t 8 rfl
theorem dX5_read_180 : decode cX5_read 180 = .ok (.iload 6, 2) := dq_get dX5_read_158_t 9 rfl
theorem dX5_read_182 : decode cX5_read 182 = .ok (.isub, 1) := dq_get dX5_read_158_t 10 rfl
theorem dX5_read_183 : decode cX5_read 183 = .ok (.ireturn, 1) := dq_get dX5_read_158_t 11 rfl
theorem dX5_torn_0 : decode cX5_torn 0 = .ok (.aload_n 0, 1) := by decide +kernel
theorem dX5_torn_1 : decode cX5_torn 1 = .ok (.getfield 237, 3) := by decide +kernel
theorem dX5_torn_4 : decode cX5_torn 4 = .ok (.ireturn, 1) := by decide +kernel
theorem gt_wsX5_count_wsX30 : GoodIn wsX5_count wsX30 := fun w hw => ⟨List.mem_cons_of_mem _ (List.mem_append_left _ (List.mem_append_right _ hw)), good_of_word (List.all_eq_true.mp gw_wsX30 w hw)⟩
set_option maxRecDepth 20000 in
theorem ggX5_count_X3_isNothing : GoodIn wsX5_count wsX3_isNothing := goodIn_ca (goodIn_r _ [9, 10] rfl (by decide +kernel)) gt_wsX5_count_wsX30
set_option maxRecDepth 20000 in
theorem gX5_count_X3_isNothing : GoodIn wsX5_count (wsV RX5 243 RX3 yX3_isNothing wsX3_isNothing) := goodIn_app (goodIn_r _ [5, 6, 7, 8] rfl (by decide +kernel)) ggX5_count_X3_isNothing
theorem gt_wsX5_count_wsX50 : GoodIn wsX5_count wsX50 := fun w hw => ⟨List.mem_cons_of_mem _ (List.mem_append_left _ (List.mem_append_left _ (List.mem_append_left _ (List.mem_append_left _ (List.mem_append_left _ (List.mem_append_right _ hw)))))), good_of_word (List.all_eq_true.mp gw_wsX50 w hw)⟩
theorem gt_wsX5_count_wsX00 : GoodIn wsX5_count wsX00 := fun w hw => ⟨List.mem_cons_of_mem _ (List.mem_append_left _ (List.mem_append_left _ (List.mem_append_left _ (List.mem_append_left _ (List.mem_append_right _ hw))))), good_of_word (List.all_eq_true.mp gw_wsX00 w hw)⟩
theorem gt_wsX5_count_wsX40 : GoodIn wsX5_count wsX40 := fun w hw => ⟨List.mem_cons_of_mem _ (List.mem_append_right _ hw), good_of_word (List.all_eq_true.mp gw_wsX40 w hw)⟩
theorem gt_wsX5_count_wsX20 : GoodIn wsX5_count wsX20 := fun w hw => ⟨List.mem_cons_of_mem _ (List.mem_append_left _ (List.mem_append_left _ (List.mem_append_left _ (List.mem_append_right _ hw)))), good_of_word (List.all_eq_true.mp gw_wsX20 w hw)⟩
set_option maxRecDepth 20000 in
theorem ggX5_count_X5_fitting : GoodIn wsX5_count wsX5_fitting := goodIn_ca (goodIn_ca (goodIn_ca (goodIn_ca (goodIn_r _ [15, 1, 16, 17, 18, 14, 19, 20, 21, 22, 23, 24, 25, 26, 27, 28, 29, 30, 31, 32, 33, 34, 35, 36, 37, 38, 39, 40, 41, 42, 43, 44, 45, 46, 47, 48, 49, 50, 51, 52, 53, 54, 55, 56, 57, 58, 59, 60, 61, 62, 63, 64, 65] rfl (by decide +kernel)) gt_wsX5_count_wsX50) gt_wsX5_count_wsX00) gt_wsX5_count_wsX40) gt_wsX5_count_wsX20
set_option maxRecDepth 20000 in
theorem gX5_count_X5_fitting : GoodIn wsX5_count (wsV RX5 164 RX5 yX5_fitting wsX5_fitting) := goodIn_app (goodIn_r _ [11, 12, 13, 14] rfl (by decide +kernel)) ggX5_count_X5_fitting
set_option maxRecDepth 20000 in
theorem ggX5_count_J6_bitCount_0f7a4 : GoodIn wsX5_count wsJ6_bitCount_0f7a4 := goodIn_r _ [69, 70, 71, 72] rfl (by decide +kernel)
set_option maxRecDepth 20000 in
theorem gX5_count_J6_bitCount_0f7a4 : GoodIn wsX5_count (va_wsS RX5 167 yJ6_bitCount_0f7a4 wsJ6_bitCount_0f7a4) := goodIn_app (goodIn_r _ [66, 67, 68] rfl (by decide +kernel)) ggX5_count_J6_bitCount_0f7a4
set_option maxRecDepth 20000 in
theorem ggX5_count_X5_daysOfChange : GoodIn wsX5_count wsX5_daysOfChange := goodIn_ca (goodIn_ca (goodIn_ca (goodIn_ca (goodIn_r _ [76, 1, 16, 17, 18, 14, 19, 20, 21, 22, 23, 24, 25, 26, 27, 28, 29, 30, 31, 32, 33, 34, 35, 36, 37, 38, 39, 40, 41, 42, 43, 44, 45, 46, 47, 48, 49, 50, 51, 52, 77, 78, 79, 80, 62, 63, 64, 65] rfl (by decide +kernel)) gt_wsX5_count_wsX50) gt_wsX5_count_wsX00) gt_wsX5_count_wsX40) gt_wsX5_count_wsX20
set_option maxRecDepth 20000 in
theorem gX5_count_X5_daysOfChange : GoodIn wsX5_count (wsV RX5 248 RX5 yX5_daysOfChange wsX5_daysOfChange) := goodIn_app (goodIn_r _ [73, 74, 75, 14] rfl (by decide +kernel)) ggX5_count_X5_daysOfChange
theorem dX5_count_0_t : dqK cX5_count.data.toList 0 [(0, .iload_n 1, 1), (40, .aload_n 0, 1), (41, .getfield 10, 3), (44, .getfield 161, 3), (47, .getfield 97, 3), (50, .ireturn, 1), (51, .aload_n 0, 1), (52, .getfield 20, 3), (55, .iconst 0, 1), (56, .baload, 1), (57, .ifCond .eq 7, 3), (60, .iconst 1, 1), (61, .goto 4, 3), (64, .iconst 0, 1), (65, .aload_n 0, 1), (66, .getfield 20, 3), (69, .iconst 1, 1), (70, .baload, 1), (71, .ifCond .eq 7, 3), (74, .iconst 1, 1), (75, .goto 4, 3), (78, .iconst 0, 1), (79, .iadd, 1), (80, .ireturn, 1), (81, .aload_n 0, 1), (82, .getfield 34, 3), (85, .getfield 240, 3), (88, .ireturn, 1), (89, .aload_n 0, 1), (90, .getfield 40, 3), (93, .iconst 0, 1), (94, .aaload, 1), (95, .invokevirtual 243, 3), (98, .ifCond .eq 8, 3), (101, .bipush (-4), 2), (103, .goto 12, 3), (106, .aload_n 0, 1), (107, .getfield 40, 3), (110, .iconst 0, 1), (111, .aaload, 1)] = true := by decide +kernel
theorem dX5_count_0 : decode cX5_count 0 = .ok (.iload_n 1, 1) := dq_get dX5_count_0_t 0 rfl
theorem dX5_count_40 : decode cX5_count 40 = .ok (.aload_n 0, 1) := dq_get dX5_count_0_t 1 rfl
theorem dX5_count_41 : decode cX5_count 41 = .ok (.getfield 10, 3) := dq_get dX5_count_0_t 2 rfl
theorem dX5_count_44 : decode cX5_count 44 = .ok (.getfield 161, 3) := dq_get dX5_count_0_t 3 rfl
theorem dX5_count_47 : decode cX5_count 47 = .ok (.getfield 97, 3) := dq_get dX5_count_0_t 4 rfl
theorem dX5_count_50 : decode cX5_count 50 = .ok (.ireturn, 1) := dq_get dX5_count_0_t 5 rfl
theorem dX5_count_51 : decode cX5_count 51 = .ok (.aload_n 0, 1) := dq_get dX5_count_0_t 6 rfl
theorem dX5_count_52 : decode cX5_count 52 = .ok (.getfield 20, 3) := dq_get dX5_count_0_t 7 rfl
theorem dX5_count_55 : decode cX5_count 55 = .ok (.iconst 0, 1) := dq_get dX5_count_0_t 8 rfl
theorem dX5_count_56 : decode cX5_count 56 = .ok (.baload, 1) := dq_get dX5_count_0_t 9 rfl
theorem dX5_count_57 : decode cX5_count 57 = .ok (.ifCond .eq 7, 3) := dq_get dX5_count_0_t 10 rfl
theorem dX5_count_60 : decode cX5_count 60 = .ok (.iconst 1, 1) := dq_get dX5_count_0_t 11 rfl
theorem dX5_count_61 : decode cX5_count 61 = .ok (.goto 4, 3) := dq_get dX5_count_0_t 12 rfl
theorem dX5_count_64 : decode cX5_count 64 = .ok (.iconst 0, 1) := dq_get dX5_count_0_t 13 rfl
theorem dX5_count_65 : decode cX5_count 65 = .ok (.aload_n 0, 1) := dq_get dX5_count_0_t 14 rfl
theorem dX5_count_66 : decode cX5_count 66 = .ok (.getfield 20, 3) := dq_get dX5_count_0_t 15 rfl
theorem dX5_count_69 : decode cX5_count 69 = .ok (.iconst 1, 1) := dq_get dX5_count_0_t 16 rfl
theorem dX5_count_70 : decode cX5_count 70 = .ok (.baload, 1) := dq_get dX5_count_0_t 17 rfl
theorem dX5_count_71 : decode cX5_count 71 = .ok (.ifCond .eq 7, 3) := dq_get dX5_count_0_t 18 rfl
theorem dX5_count_74 : decode cX5_count 74 = .ok (.iconst 1, 1) := dq_get dX5_count_0_t 19 rfl
theorem dX5_count_75 : decode cX5_count 75 = .ok (.goto 4, 3) := dq_get dX5_count_0_t 20 rfl
theorem dX5_count_78 : decode cX5_count 78 = .ok (.iconst 0, 1) := dq_get dX5_count_0_t 21 rfl
theorem dX5_count_79 : decode cX5_count 79 = .ok (.iadd, 1) := dq_get dX5_count_0_t 22 rfl
theorem dX5_count_80 : decode cX5_count 80 = .ok (.ireturn, 1) := dq_get dX5_count_0_t 23 rfl
theorem dX5_count_81 : decode cX5_count 81 = .ok (.aload_n 0, 1) := dq_get dX5_count_0_t 24 rfl
theorem dX5_count_82 : decode cX5_count 82 = .ok (.getfield 34, 3) := dq_get dX5_count_0_t 25 rfl
theorem dX5_count_85 : decode cX5_count 85 = .ok (.getfield 240, 3) := dq_get dX5_count_0_t 26 rfl
theorem dX5_count_88 : decode cX5_count 88 = .ok (.ireturn, 1) := dq_get dX5_count_0_t 27 rfl
theorem dX5_count_89 : decode cX5_count 89 = .ok (.aload_n 0, 1) := dq_get dX5_count_0_t 28 rfl
theorem dX5_count_90 : decode cX5_count 90 = .ok (.getfield 40, 3) := dq_get dX5_count_0_t 29 rfl
theorem dX5_count_93 : decode cX5_count 93 = .ok (.iconst 0, 1) := dq_get dX5_count_0_t 30 rfl
theorem dX5_count_94 : decode cX5_count 94 = .ok (.aaload, 1) := dq_get dX5_count_0_t 31 rfl
theorem dX5_count_95 : decode cX5_count 95 = .ok (.invokevirtual 243, 3) := dq_get dX5_count_0_t 32 rfl
theorem dX5_count_98 : decode cX5_count 98 = .ok (.ifCond .eq 8, 3) := dq_get dX5_count_0_t 33 rfl
theorem dX5_count_101 : decode cX5_count 101 = .ok (.bipush (-4), 2) := dq_get dX5_count_0_t 34 rfl
theorem dX5_count_103 : decode cX5_count 103 = .ok (.goto 12, 3) := dq_get dX5_count_0_t 35 rfl
theorem dX5_count_106 : decode cX5_count 106 = .ok (.aload_n 0, 1) := dq_get dX5_count_0_t 36 rfl
theorem dX5_count_107 : decode cX5_count 107 = .ok (.getfield 40, 3) := dq_get dX5_count_0_t 37 rfl
theorem dX5_count_110 : decode cX5_count 110 = .ok (.iconst 0, 1) := dq_get dX5_count_0_t 38 rfl
theorem dX5_count_111 : decode cX5_count 111 = .ok (.aaload, 1) := dq_get dX5_count_0_t 39 rfl
theorem dX5_count_1 : decode cX5_count 1 = .ok (.tableswitch 138 0 5 #[39, 50, 80, 88, 115, 133], 39) := by decide +kernel
theorem dX5_count_112_t : dqK cX5_count.data.toList 0 [(112, .getfield 247, 3), (115, .ireturn, 1), (116, .aload_n 0, 1), (117, .aload_n 0, 1), (118, .getfield 10, 3), (121, .getfield 161, 3), (124, .getfield 97, 3), (127, .invokevirtual 164, 3), (130, .invokestatic 167, 3), (133, .ireturn, 1), (134, .aload_n 0, 1), (135, .invokevirtual 248, 3), (138, .ireturn, 1), (139, .iconst (-1), 1), (140, .ireturn, 1)] = true := by decide +kernel
theorem dX5_count_112 : decode cX5_count 112 = .ok (.getfield 247, 3) := dq_get dX5_count_112_t 0 rfl
theorem dX5_count_115 : decode cX5_count 115 = .ok (.ireturn, 1) := dq_get dX5_count_112_t 1 rfl
theorem dX5_count_116 : decode cX5_count 116 = .ok (.aload_n 0, 1) := dq_get dX5_count_112_t 2 rfl
theorem dX5_count_117 : decode cX5_count 117 = .ok (.aload_n 0, 1) := dq_get dX5_count_112_t 3 rfl
theorem dX5_count_118 : decode cX5_count 118 = .ok (.getfield 10, 3) := dq_get dX5_count_112_t 4 rfl
theorem dX5_count_121 : decode cX5_count 121 = .ok (.getfield 161, 3) := dq_get dX5_count_112_t 5 rfl
theorem dX5_count_124 : decode cX5_count 124 = .ok (.getfield 97, 3) := dq_get dX5_count_112_t 6 rfl
theorem dX5_count_127 : decode cX5_count 127 = .ok (.invokevirtual 164, 3) := dq_get dX5_count_112_t 7 rfl
theorem dX5_count_130 : decode cX5_count 130 = .ok (.invokestatic 167, 3) := dq_get dX5_count_112_t 8 rfl
theorem dX5_count_133 : decode cX5_count 133 = .ok (.ireturn, 1) := dq_get dX5_count_112_t 9 rfl
theorem dX5_count_134 : decode cX5_count 134 = .ok (.aload_n 0, 1) := dq_get dX5_count_112_t 10 rfl
theorem dX5_count_135 : decode cX5_count 135 = .ok (.invokevirtual 248, 3) := dq_get dX5_count_112_t 11 rfl
theorem dX5_count_138 : decode cX5_count 138 = .ok (.ireturn, 1) := dq_get dX5_count_112_t 12 rfl
theorem dX5_count_139 : decode cX5_count 139 = .ok (.iconst (-1), 1) := dq_get dX5_count_112_t 13 rfl
theorem dX5_count_140 : decode cX5_count 140 = .ok (.ireturn, 1) := dq_get dX5_count_112_t 14 rfl
theorem dX5_isChoice_0_t : dqK cX5_isChoice.data.toList 0 [(0, .iload_n 0, 1), (1, .ifCond .eq 8, 3), (4, .iload_n 0, 1), (5, .iconst 1, 1), (6, .if_icmp .ne 7, 3), (9, .iconst 1, 1), (10, .goto 4, 3), (13, .iconst 0, 1), (14, .ireturn, 1)] = true := by decide +kernel
theorem dX5_isChoice_0 : decode cX5_isChoice 0 = .ok (.iload_n 0, 1) := dq_get dX5_isChoice_0_t 0 rfl
theorem dX5_isChoice_1 : decode cX5_isChoice 1 = .ok (.ifCond .eq 8, 3) := dq_get dX5_isChoice_0_t 1 rfl
theorem dX5_isChoice_4 : decode cX5_isChoice 4 = .ok (.iload_n 0, 1) := dq_get dX5_isChoice_0_t 2 rfl
theorem dX5_isChoice_5 : decode cX5_isChoice 5 = .ok (.iconst 1, 1) := dq_get dX5_isChoice_0_t 3 rfl
theorem dX5_isChoice_6 : decode cX5_isChoice 6 = .ok (.if_icmp .ne 7, 3) := dq_get dX5_isChoice_0_t 4 rfl
theorem dX5_isChoice_9 : decode cX5_isChoice 9 = .ok (.iconst 1, 1) := dq_get dX5_isChoice_0_t 5 rfl
theorem dX5_isChoice_10 : decode cX5_isChoice 10 = .ok (.goto 4, 3) := dq_get dX5_isChoice_0_t 6 rfl
theorem dX5_isChoice_13 : decode cX5_isChoice 13 = .ok (.iconst 0, 1) := dq_get dX5_isChoice_0_t 7 rfl
theorem dX5_isChoice_14 : decode cX5_isChoice 14 = .ok (.ireturn, 1) := dq_get dX5_isChoice_0_t 8 rfl
theorem dX5_isMark_0_t : dqK cX5_isMark.data.toList 0 [(0, .iload_n 0, 1), (1, .ifCond .lt 13, 3), (4, .iload_n 0, 1), (5, .bipush 6, 2), (7, .if_icmp .ge 7, 3), (10, .iconst 1, 1), (11, .goto 4, 3), (14, .iconst 0, 1), (15, .ireturn, 1)] = true := by decide +kernel
theorem dX5_isMark_0 : decode cX5_isMark 0 = .ok (.iload_n 0, 1) := dq_get dX5_isMark_0_t 0 rfl
theorem dX5_isMark_1 : decode cX5_isMark 1 = .ok (.ifCond .lt 13, 3) := dq_get dX5_isMark_0_t 1 rfl
theorem dX5_isMark_4 : decode cX5_isMark 4 = .ok (.iload_n 0, 1) := dq_get dX5_isMark_0_t 2 rfl
theorem dX5_isMark_5 : decode cX5_isMark 5 = .ok (.bipush 6, 2) := dq_get dX5_isMark_0_t 3 rfl
theorem dX5_isMark_7 : decode cX5_isMark 7 = .ok (.if_icmp .ge 7, 3) := dq_get dX5_isMark_0_t 4 rfl
theorem dX5_isMark_10 : decode cX5_isMark 10 = .ok (.iconst 1, 1) := dq_get dX5_isMark_0_t 5 rfl
theorem dX5_isMark_11 : decode cX5_isMark 11 = .ok (.goto 4, 3) := dq_get dX5_isMark_0_t 6 rfl
theorem dX5_isMark_14 : decode cX5_isMark 14 = .ok (.iconst 0, 1) := dq_get dX5_isMark_0_t 7 rfl
theorem dX5_isMark_15 : decode cX5_isMark 15 = .ok (.ireturn, 1) := dq_get dX5_isMark_0_t 8 rfl
theorem dX5_isTenth_0_t : dqK cX5_isTenth.data.toList 0 [(0, .iload_n 0, 1), (1, .ifCond .lt 13, 3), (4, .iload_n 0, 1), (5, .bipush 10, 2), (7, .if_icmp .gt 7, 3), (10, .iconst 1, 1), (11, .goto 4, 3), (14, .iconst 0, 1), (15, .ireturn, 1)] = true := by decide +kernel
theorem dX5_isTenth_0 : decode cX5_isTenth 0 = .ok (.iload_n 0, 1) := dq_get dX5_isTenth_0_t 0 rfl
theorem dX5_isTenth_1 : decode cX5_isTenth 1 = .ok (.ifCond .lt 13, 3) := dq_get dX5_isTenth_0_t 1 rfl
theorem dX5_isTenth_4 : decode cX5_isTenth 4 = .ok (.iload_n 0, 1) := dq_get dX5_isTenth_0_t 2 rfl
theorem dX5_isTenth_5 : decode cX5_isTenth 5 = .ok (.bipush 10, 2) := dq_get dX5_isTenth_0_t 3 rfl
theorem dX5_isTenth_7 : decode cX5_isTenth 7 = .ok (.if_icmp .gt 7, 3) := dq_get dX5_isTenth_0_t 4 rfl
theorem dX5_isTenth_10 : decode cX5_isTenth 10 = .ok (.iconst 1, 1) := dq_get dX5_isTenth_0_t 5 rfl
theorem dX5_isTenth_11 : decode cX5_isTenth 11 = .ok (.goto 4, 3) := dq_get dX5_isTenth_0_t 6 rfl
theorem dX5_isTenth_14 : decode cX5_isTenth 14 = .ok (.iconst 0, 1) := dq_get dX5_isTenth_0_t 7 rfl
theorem dX5_isTenth_15 : decode cX5_isTenth 15 = .ok (.ireturn, 1) := dq_get dX5_isTenth_0_t 8 rfl
theorem dX5_isSheet_0_t : dqK cX5_isSheet.data.toList 0 [(0, .iload_n 0, 1), (1, .ifCond .lt 12, 3), (4, .iload_n 0, 1), (5, .iconst 4, 1), (6, .if_icmp .ge 7, 3), (9, .iconst 1, 1), (10, .goto 4, 3), (13, .iconst 0, 1), (14, .ireturn, 1)] = true := by decide +kernel
theorem dX5_isSheet_0 : decode cX5_isSheet 0 = .ok (.iload_n 0, 1) := dq_get dX5_isSheet_0_t 0 rfl
theorem dX5_isSheet_1 : decode cX5_isSheet 1 = .ok (.ifCond .lt 12, 3) := dq_get dX5_isSheet_0_t 1 rfl
theorem dX5_isSheet_4 : decode cX5_isSheet 4 = .ok (.iload_n 0, 1) := dq_get dX5_isSheet_0_t 2 rfl
theorem dX5_isSheet_5 : decode cX5_isSheet 5 = .ok (.iconst 4, 1) := dq_get dX5_isSheet_0_t 3 rfl
theorem dX5_isSheet_6 : decode cX5_isSheet 6 = .ok (.if_icmp .ge 7, 3) := dq_get dX5_isSheet_0_t 4 rfl
theorem dX5_isSheet_9 : decode cX5_isSheet 9 = .ok (.iconst 1, 1) := dq_get dX5_isSheet_0_t 5 rfl
theorem dX5_isSheet_10 : decode cX5_isSheet 10 = .ok (.goto 4, 3) := dq_get dX5_isSheet_0_t 6 rfl
theorem dX5_isSheet_13 : decode cX5_isSheet 13 = .ok (.iconst 0, 1) := dq_get dX5_isSheet_0_t 7 rfl
theorem dX5_isSheet_14 : decode cX5_isSheet 14 = .ok (.ireturn, 1) := dq_get dX5_isSheet_0_t 8 rfl
theorem dX5_isLane_0_t : dqK cX5_isLane.data.toList 0 [(0, .iload_n 0, 1), (1, .ifCond .lt 12, 3), (4, .iload_n 0, 1), (5, .iconst 3, 1), (6, .if_icmp .ge 7, 3), (9, .iconst 1, 1), (10, .goto 4, 3), (13, .iconst 0, 1), (14, .ireturn, 1)] = true := by decide +kernel
theorem dX5_isLane_0 : decode cX5_isLane 0 = .ok (.iload_n 0, 1) := dq_get dX5_isLane_0_t 0 rfl
theorem dX5_isLane_1 : decode cX5_isLane 1 = .ok (.ifCond .lt 12, 3) := dq_get dX5_isLane_0_t 1 rfl
theorem dX5_isLane_4 : decode cX5_isLane 4 = .ok (.iload_n 0, 1) := dq_get dX5_isLane_0_t 2 rfl
theorem dX5_isLane_5 : decode cX5_isLane 5 = .ok (.iconst 3, 1) := dq_get dX5_isLane_0_t 3 rfl
theorem dX5_isLane_6 : decode cX5_isLane 6 = .ok (.if_icmp .ge 7, 3) := dq_get dX5_isLane_0_t 4 rfl
theorem dX5_isLane_9 : decode cX5_isLane 9 = .ok (.iconst 1, 1) := dq_get dX5_isLane_0_t 5 rfl
theorem dX5_isLane_10 : decode cX5_isLane 10 = .ok (.goto 4, 3) := dq_get dX5_isLane_0_t 6 rfl
theorem dX5_isLane_13 : decode cX5_isLane 13 = .ok (.iconst 0, 1) := dq_get dX5_isLane_0_t 7 rfl
theorem dX5_isLane_14 : decode cX5_isLane 14 = .ok (.ireturn, 1) := dq_get dX5_isLane_0_t 8 rfl
theorem gt_wsX5_freshViews_wsX00 : GoodIn wsX5_freshViews wsX00 := fun w hw => ⟨List.mem_cons_of_mem _ (List.mem_append_left _ (List.mem_append_right _ hw)), good_of_word (List.all_eq_true.mp gw_wsX00 w hw)⟩
theorem gt_wsX5_freshViews_wsX40 : GoodIn wsX5_freshViews wsX40 := fun w hw => ⟨List.mem_cons_of_mem _ (List.mem_append_left _ (List.mem_append_left _ (List.mem_append_right _ hw))), good_of_word (List.all_eq_true.mp gw_wsX40 w hw)⟩
theorem gt_wsX5_freshViews_wsX20 : GoodIn wsX5_freshViews wsX20 := fun w hw => ⟨List.mem_cons_of_mem _ (List.mem_append_right _ hw), good_of_word (List.all_eq_true.mp gw_wsX20 w hw)⟩
set_option maxRecDepth 20000 in
theorem ggX5_freshViews_X4_build : GoodIn wsX5_freshViews wsX4_build := goodIn_ca (goodIn_ca (goodIn_ca (goodIn_r _ [7, 8, 9, 10, 11, 12, 13, 14, 6, 15, 16, 17, 18, 19, 20, 21, 22, 23, 24, 25, 26, 27, 28, 29, 30, 31, 32, 33, 34] rfl (by decide +kernel)) gt_wsX5_freshViews_wsX00) gt_wsX5_freshViews_wsX40) gt_wsX5_freshViews_wsX20
set_option maxRecDepth 20000 in
theorem gX5_freshViews_X4_build : GoodIn wsX5_freshViews (wsV RX5 251 RX4 yX4_build wsX4_build) := goodIn_app (goodIn_r _ [3, 4, 5, 6] rfl (by decide +kernel)) ggX5_freshViews_X4_build
theorem dX5_freshViews_0_t : dqK cX5_freshViews.data.toList 0 [(0, .aload_n 0, 1), (1, .getfield 27, 3), (4, .getfield 77, 3), (7, .ifCond .eq 14, 3), (10, .aload_n 0, 1), (11, .getfield 27, 3), (14, .aload_n 0, 1), (15, .getfield 10, 3), (18, .invokevirtual 251, 3), (21, .aload_n 0, 1), (22, .getfield 27, 3), (25, .areturn, 1)] = true := by decide +kernel
theorem dX5_freshViews_0 : decode cX5_freshViews 0 = .ok (.aload_n 0, 1) := dq_get dX5_freshViews_0_t 0 rfl
theorem dX5_freshViews_1 : decode cX5_freshViews 1 = .ok (.getfield 27, 3) := dq_get dX5_freshViews_0_t 1 rfl
theorem dX5_freshViews_4 : decode cX5_freshViews 4 = .ok (.getfield 77, 3) := dq_get dX5_freshViews_0_t 2 rfl
theorem dX5_freshViews_7 : decode cX5_freshViews 7 = .ok (.ifCond .eq 14, 3) := dq_get dX5_freshViews_0_t 3 rfl
theorem dX5_freshViews_10 : decode cX5_freshViews 10 = .ok (.aload_n 0, 1) := dq_get dX5_freshViews_0_t 4 rfl
theorem dX5_freshViews_11 : decode cX5_freshViews 11 = .ok (.getfield 27, 3) := dq_get dX5_freshViews_0_t 5 rfl
theorem dX5_freshViews_14 : decode cX5_freshViews 14 = .ok (.aload_n 0, 1) := dq_get dX5_freshViews_0_t 6 rfl
theorem dX5_freshViews_15 : decode cX5_freshViews 15 = .ok (.getfield 10, 3) := dq_get dX5_freshViews_0_t 7 rfl
theorem dX5_freshViews_18 : decode cX5_freshViews 18 = .ok (.invokevirtual 251, 3) := dq_get dX5_freshViews_0_t 8 rfl
theorem dX5_freshViews_21 : decode cX5_freshViews 21 = .ok (.aload_n 0, 1) := dq_get dX5_freshViews_0_t 9 rfl
theorem dX5_freshViews_22 : decode cX5_freshViews 22 = .ok (.getfield 27, 3) := dq_get dX5_freshViews_0_t 10 rfl
theorem dX5_freshViews_25 : decode cX5_freshViews 25 = .ok (.areturn, 1) := dq_get dX5_freshViews_0_t 11 rfl
theorem gt_wsX5_shownBy_wsX50 : GoodIn wsX5_shownBy wsX50 := fun w hw => ⟨List.mem_cons_of_mem _ (List.mem_append_left _ (List.mem_append_left _ (List.mem_append_left _ (List.mem_append_right _ hw)))), good_of_word (List.all_eq_true.mp gw_wsX50 w hw)⟩
theorem gt_wsX5_shownBy_wsX40 : GoodIn wsX5_shownBy wsX40 := fun w hw => ⟨List.mem_cons_of_mem _ (List.mem_append_left _ (List.mem_append_right _ hw)), good_of_word (List.all_eq_true.mp gw_wsX40 w hw)⟩
theorem gt_wsX5_shownBy_wsX00 : GoodIn wsX5_shownBy wsX00 := fun w hw => ⟨List.mem_cons_of_mem _ (List.mem_append_left _ (List.mem_append_left _ (List.mem_append_right _ hw))), good_of_word (List.all_eq_true.mp gw_wsX00 w hw)⟩
theorem gt_wsX5_shownBy_wsX20 : GoodIn wsX5_shownBy wsX20 := fun w hw => ⟨List.mem_cons_of_mem _ (List.mem_append_right _ hw), good_of_word (List.all_eq_true.mp gw_wsX20 w hw)⟩
set_option maxRecDepth 20000 in
theorem ggX5_shownBy_X5_freshViews : GoodIn wsX5_shownBy wsX5_freshViews := goodIn_ca (goodIn_ca (goodIn_ca (goodIn_ca (goodIn_r _ [6, 7, 1, 8, 9, 10, 11, 12, 13, 14, 15, 16, 17, 18, 19, 20, 21, 22, 23, 24, 25, 26, 27, 28, 29, 30, 31, 32, 33, 34, 35, 36, 37, 38, 39] rfl (by decide +kernel)) gt_wsX5_shownBy_wsX50) gt_wsX5_shownBy_wsX40) gt_wsX5_shownBy_wsX00) gt_wsX5_shownBy_wsX20
set_option maxRecDepth 20000 in
theorem gX5_shownBy_X5_freshViews : GoodIn wsX5_shownBy (wsV RX5 112 RX5 yX5_freshViews wsX5_freshViews) := goodIn_app (goodIn_r _ [2, 3, 4, 5] rfl (by decide +kernel)) ggX5_shownBy_X5_freshViews
set_option maxRecDepth 20000 in
theorem ggX5_shownBy_X2_number : GoodIn wsX5_shownBy wsX2_number := goodIn_ca (goodIn_r _ [30, 31] rfl (by decide +kernel)) gt_wsX5_shownBy_wsX20
set_option maxRecDepth 20000 in
theorem gX5_shownBy_X2_number : GoodIn wsX5_shownBy (wsV RX5 123 RX2 yX2_number wsX2_number) := goodIn_app (goodIn_r _ [40, 27, 28, 29] rfl (by decide +kernel)) ggX5_shownBy_X2_number
set_option maxRecDepth 20000 in
theorem ggX5_shownBy_X4_sightOf : GoodIn wsX5_shownBy wsX4_sightOf := goodIn_ca (goodIn_r _ [44, 15] rfl (by decide +kernel)) gt_wsX5_shownBy_wsX40
set_option maxRecDepth 20000 in
theorem gX5_shownBy_X4_sightOf : GoodIn wsX5_shownBy (wsV RX5 149 RX4 yX4_sightOf wsX4_sightOf) := goodIn_app (goodIn_r _ [41, 42, 43, 11] rfl (by decide +kernel)) ggX5_shownBy_X4_sightOf
theorem dX5_shownBy_0_t : dqK cX5_shownBy.data.toList 0 [(0, .aload_n 0, 1), (1, .invokevirtual 112, 3), (4, .iload_n 2, 1), (5, .aload_n 0, 1), (6, .getfield 10, 3), (9, .getfield 102, 3), (12, .iload_n 1, 1), (13, .iconst 0, 1), (14, .invokevirtual 123, 3), (17, .invokevirtual 149, 3), (20, .aload_n 0, 1), (21, .getfield 10, 3), (24, .getfield 102, 3), (27, .iload_n 1, 1), (28, .iconst 1, 1), (29, .invokevirtual 123, 3), (32, .iconst (-1), 1), (33, .ixor, 1), (34, .iand, 1), (35, .ireturn, 1)] = true := by decide +kernel
theorem dX5_shownBy_0 : decode cX5_shownBy 0 = .ok (.aload_n 0, 1) := dq_get dX5_shownBy_0_t 0 rfl
theorem dX5_shownBy_1 : decode cX5_shownBy 1 = .ok (.invokevirtual 112, 3) := dq_get dX5_shownBy_0_t 1 rfl
theorem dX5_shownBy_4 : decode cX5_shownBy 4 = .ok (.iload_n 2, 1) := dq_get dX5_shownBy_0_t 2 rfl
theorem dX5_shownBy_5 : decode cX5_shownBy 5 = .ok (.aload_n 0, 1) := dq_get dX5_shownBy_0_t 3 rfl
theorem dX5_shownBy_6 : decode cX5_shownBy 6 = .ok (.getfield 10, 3) := dq_get dX5_shownBy_0_t 4 rfl
theorem dX5_shownBy_9 : decode cX5_shownBy 9 = .ok (.getfield 102, 3) := dq_get dX5_shownBy_0_t 5 rfl
theorem dX5_shownBy_12 : decode cX5_shownBy 12 = .ok (.iload_n 1, 1) := dq_get dX5_shownBy_0_t 6 rfl
theorem dX5_shownBy_13 : decode cX5_shownBy 13 = .ok (.iconst 0, 1) := dq_get dX5_shownBy_0_t 7 rfl
theorem dX5_shownBy_14 : decode cX5_shownBy 14 = .ok (.invokevirtual 123, 3) := dq_get dX5_shownBy_0_t 8 rfl
theorem dX5_shownBy_17 : decode cX5_shownBy 17 = .ok (.invokevirtual 149, 3) := dq_get dX5_shownBy_0_t 9 rfl
theorem dX5_shownBy_20 : decode cX5_shownBy 20 = .ok (.aload_n 0, 1) := dq_get dX5_shownBy_0_t 10 rfl
theorem dX5_shownBy_21 : decode cX5_shownBy 21 = .ok (.getfield 10, 3) := dq_get dX5_shownBy_0_t 11 rfl
theorem dX5_shownBy_24 : decode cX5_shownBy 24 = .ok (.getfield 102, 3) := dq_get dX5_shownBy_0_t 12 rfl
theorem dX5_shownBy_27 : decode cX5_shownBy 27 = .ok (.iload_n 1, 1) := dq_get dX5_shownBy_0_t 13 rfl
theorem dX5_shownBy_28 : decode cX5_shownBy 28 = .ok (.iconst 1, 1) := dq_get dX5_shownBy_0_t 14 rfl
theorem dX5_shownBy_29 : decode cX5_shownBy 29 = .ok (.invokevirtual 123, 3) := dq_get dX5_shownBy_0_t 15 rfl
theorem dX5_shownBy_32 : decode cX5_shownBy 32 = .ok (.iconst (-1), 1) := dq_get dX5_shownBy_0_t 16 rfl
theorem dX5_shownBy_33 : decode cX5_shownBy 33 = .ok (.ixor, 1) := dq_get dX5_shownBy_0_t 17 rfl
theorem dX5_shownBy_34 : decode cX5_shownBy 34 = .ok (.iand, 1) := dq_get dX5_shownBy_0_t 18 rfl
theorem dX5_shownBy_35 : decode cX5_shownBy 35 = .ok (.ireturn, 1) := dq_get dX5_shownBy_0_t 19 rfl
theorem gt_wsX5_fitting_wsX50 : GoodIn wsX5_fitting wsX50 := fun w hw => ⟨List.mem_cons_of_mem _ (List.mem_append_left _ (List.mem_append_left _ (List.mem_append_left _ (List.mem_append_right _ hw)))), good_of_word (List.all_eq_true.mp gw_wsX50 w hw)⟩
theorem gt_wsX5_fitting_wsX40 : GoodIn wsX5_fitting wsX40 := fun w hw => ⟨List.mem_cons_of_mem _ (List.mem_append_left _ (List.mem_append_right _ hw)), good_of_word (List.all_eq_true.mp gw_wsX40 w hw)⟩
theorem gt_wsX5_fitting_wsX00 : GoodIn wsX5_fitting wsX00 := fun w hw => ⟨List.mem_cons_of_mem _ (List.mem_append_left _ (List.mem_append_left _ (List.mem_append_right _ hw))), good_of_word (List.all_eq_true.mp gw_wsX00 w hw)⟩
theorem gt_wsX5_fitting_wsX20 : GoodIn wsX5_fitting wsX20 := fun w hw => ⟨List.mem_cons_of_mem _ (List.mem_append_right _ hw), good_of_word (List.all_eq_true.mp gw_wsX20 w hw)⟩
set_option maxRecDepth 20000 in
theorem ggX5_fitting_X5_freshViews : GoodIn wsX5_fitting wsX5_freshViews := goodIn_ca (goodIn_ca (goodIn_ca (goodIn_ca (goodIn_r _ [6, 7, 1, 8, 9, 10, 11, 12, 13, 14, 15, 16, 17, 18, 19, 20, 21, 22, 23, 24, 25, 26, 27, 28, 29, 30, 31, 32, 33, 34, 35, 36, 37, 38, 39] rfl (by decide +kernel)) gt_wsX5_fitting_wsX50) gt_wsX5_fitting_wsX40) gt_wsX5_fitting_wsX00) gt_wsX5_fitting_wsX20
set_option maxRecDepth 20000 in
theorem gX5_fitting_X5_freshViews : GoodIn wsX5_fitting (wsV RX5 112 RX5 yX5_freshViews wsX5_freshViews) := goodIn_app (goodIn_r _ [2, 3, 4, 5] rfl (by decide +kernel)) ggX5_fitting_X5_freshViews
set_option maxRecDepth 20000 in
theorem ggX5_fitting_X2_number : GoodIn wsX5_fitting wsX2_number := goodIn_ca (goodIn_r _ [30, 31] rfl (by decide +kernel)) gt_wsX5_fitting_wsX20
set_option maxRecDepth 20000 in
theorem gX5_fitting_X2_number : GoodIn wsX5_fitting (wsV RX5 123 RX2 yX2_number wsX2_number) := goodIn_app (goodIn_r _ [40, 27, 28, 29] rfl (by decide +kernel)) ggX5_fitting_X2_number
set_option maxRecDepth 20000 in
theorem ggX5_fitting_X4_answerOf : GoodIn wsX5_fitting wsX4_answerOf := goodIn_ca (goodIn_r _ [44, 45, 46, 47, 11, 48, 15, 49, 50, 51, 52, 21] rfl (by decide +kernel)) gt_wsX5_fitting_wsX40
set_option maxRecDepth 20000 in
theorem gX5_fitting_X4_answerOf : GoodIn wsX5_fitting (wsV RX5 254 RX4 yX4_answerOf wsX4_answerOf) := goodIn_app (goodIn_r _ [41, 42, 43, 11] rfl (by decide +kernel)) ggX5_fitting_X4_answerOf
theorem dX5_fitting_0_t : dqK cX5_fitting.data.toList 0 [(0, .aload_n 0, 1), (1, .invokevirtual 112, 3), (4, .astore_n 2, 1), (5, .iconst 0, 1), (6, .istore_n 3, 1), (7, .iconst 0, 1), (8, .istore 4, 2), (10, .iload 4, 2), (12, .aload_n 0, 1), (13, .getfield 10, 3), (16, .getfield 90, 3), (19, .if_icmp .gt 103, 3), (22, .iconst 1, 1), (23, .istore 5, 2), (25, .iconst 0, 1), (26, .istore 6, 2), (28, .iload 6, 2), (30, .iload_n 1, 1), (31, .if_icmp .ge 73, 3), (34, .iload 5, 2), (36, .ifCond .eq 68, 3), (39, .aload_n 2, 1), (40, .aload_n 0, 1), (41, .getfield 10, 3), (44, .getfield 161, 3), (47, .iload 6, 2), (49, .iconst 0, 1), (50, .invokevirtual 123, 3), (53, .aload_n 0, 1), (54, .getfield 10, 3), (57, .getfield 161, 3), (60, .iload 6, 2), (62, .iconst 1, 1), (63, .invokevirtual 123, 3), (66, .iload 4, 2), (68, .invokevirtual 254, 3), (71, .istore 7, 2), (73, .iload 7, 2), (75, .aload_n 0, 1), (76, .getfield 10, 3)] = true := by decide +kernel
theorem dX5_fitting_0 : decode cX5_fitting 0 = .ok (.aload_n 0, 1) := dq_get dX5_fitting_0_t 0 rfl
theorem dX5_fitting_1 : decode cX5_fitting 1 = .ok (.invokevirtual 112, 3) := dq_get dX5_fitting_0_t 1 rfl
theorem dX5_fitting_4 : decode cX5_fitting 4 = .ok (.astore_n 2, 1) := dq_get dX5_fitting_0_t 2 rfl
theorem dX5_fitting_5 : decode cX5_fitting 5 = .ok (.iconst 0, 1) := dq_get dX5_fitting_0_t 3 rfl
theorem dX5_fitting_6 : decode cX5_fitting 6 = .ok (.istore_n 3, 1) := dq_get dX5_fitting_0_t 4 rfl
theorem dX5_fitting_7 : decode cX5_fitting 7 = .ok (.iconst 0, 1) := dq_get dX5_fitting_0_t 5 rfl
theorem dX5_fitting_8 : decode cX5_fitting 8 = .ok (.istore 4, 2) := dq_get dX5_fitting_0_t 6 rfl
theorem dX5_fitting_10 : decode cX5_fitting 10 = .ok (.iload 4, 2) := dq_get dX5_fitting_0_t 7 rfl
theorem dX5_fitting_12 : decode cX5_fitting 12 = .ok (.aload_n 0, 1) := dq_get dX5_fitting_0_t 8 rfl
theorem dX5_fitting_13 : decode cX5_fitting 13 = .ok (.getfield 10, 3) := dq_get dX5_fitting_0_t 9 rfl
theorem dX5_fitting_16 : decode cX5_fitting 16 = .ok (.getfield 90, 3) := dq_get dX5_fitting_0_t 10 rfl
theorem dX5_fitting_19 : decode cX5_fitting 19 = .ok (.if_icmp .gt 103, 3) := dq_get dX5_fitting_0_t 11 rfl
theorem dX5_fitting_22 : decode cX5_fitting 22 = .ok (.iconst 1, 1) := dq_get dX5_fitting_0_t 12 rfl
theorem dX5_fitting_23 : decode cX5_fitting 23 = .ok (.istore 5, 2) := dq_get dX5_fitting_0_t 13 rfl
theorem dX5_fitting_25 : decode cX5_fitting 25 = .ok (.iconst 0, 1) := dq_get dX5_fitting_0_t 14 rfl
theorem dX5_fitting_26 : decode cX5_fitting 26 = .ok (.istore 6, 2) := dq_get dX5_fitting_0_t 15 rfl
theorem dX5_fitting_28 : decode cX5_fitting 28 = .ok (.iload 6, 2) := dq_get dX5_fitting_0_t 16 rfl
theorem dX5_fitting_30 : decode cX5_fitting 30 = .ok (.iload_n 1, 1) := dq_get dX5_fitting_0_t 17 rfl
theorem dX5_fitting_31 : decode cX5_fitting 31 = .ok (.if_icmp .ge 73, 3) := dq_get dX5_fitting_0_t 18 rfl
theorem dX5_fitting_34 : decode cX5_fitting 34 = .ok (.iload 5, 2) := dq_get dX5_fitting_0_t 19 rfl
theorem dX5_fitting_36 : decode cX5_fitting 36 = .ok (.ifCond .eq 68, 3) := dq_get dX5_fitting_0_t 20 rfl
theorem dX5_fitting_39 : decode cX5_fitting 39 = .ok (.aload_n 2, 1) := dq_get dX5_fitting_0_t 21 rfl
theorem dX5_fitting_40 : decode cX5_fitting 40 = .ok (.aload_n 0, 1) := dq_get dX5_fitting_0_t 22 rfl
theorem dX5_fitting_41 : decode cX5_fitting 41 = .ok (.getfield 10, 3) := dq_get dX5_fitting_0_t 23 rfl
theorem dX5_fitting_44 : decode cX5_fitting 44 = .ok (.getfield 161, 3) := dq_get dX5_fitting_0_t 24 rfl
theorem dX5_fitting_47 : decode cX5_fitting 47 = .ok (.iload 6, 2) := dq_get dX5_fitting_0_t 25 rfl
theorem dX5_fitting_49 : decode cX5_fitting 49 = .ok (.iconst 0, 1) := dq_get dX5_fitting_0_t 26 rfl
theorem dX5_fitting_50 : decode cX5_fitting 50 = .ok (.invokevirtual 123, 3) := dq_get dX5_fitting_0_t 27 rfl
theorem dX5_fitting_53 : decode cX5_fitting 53 = .ok (.aload_n 0, 1) := dq_get dX5_fitting_0_t 28 rfl
theorem dX5_fitting_54 : decode cX5_fitting 54 = .ok (.getfield 10, 3) := dq_get dX5_fitting_0_t 29 rfl
theorem dX5_fitting_57 : decode cX5_fitting 57 = .ok (.getfield 161, 3) := dq_get dX5_fitting_0_t 30 rfl
theorem dX5_fitting_60 : decode cX5_fitting 60 = .ok (.iload 6, 2) := dq_get dX5_fitting_0_t 31 rfl
theorem dX5_fitting_62 : decode cX5_fitting 62 = .ok (.iconst 1, 1) := dq_get dX5_fitting_0_t 32 rfl
theorem dX5_fitting_63 : decode cX5_fitting 63 = .ok (.invokevirtual 123, 3) := dq_get dX5_fitting_0_t 33 rfl
theorem dX5_fitting_66 : decode cX5_fitting 66 = .ok (.iload 4, 2) := dq_get dX5_fitting_0_t 34 rfl
theorem dX5_fitting_68 : decode cX5_fitting 68 = .ok (.invokevirtual 254, 3) := dq_get dX5_fitting_0_t 35 rfl
theorem dX5_fitting_71 : decode cX5_fitting 71 = .ok (.istore 7, 2) := dq_get dX5_fitting_0_t 36 rfl
theorem dX5_fitting_73 : decode cX5_fitting 73 = .ok (.iload 7, 2) := dq_get dX5_fitting_0_t 37 rfl
theorem dX5_fitting_75 : decode cX5_fitting 75 = .ok (.aload_n 0, 1) := dq_get dX5_fitting_0_t 38 rfl
theorem dX5_fitting_76 : decode cX5_fitting 76 = .ok (.getfield 10, 3) := dq_get dX5_fitting_0_t 39 rfl
theorem dX5_fitting_79_t : dqK cX5_fitting.data.toList 0 [(79, .getfield 161, 3), (82, .iload 6, 2), (84, .iconst 2, 1), (85, .invokevirtual 123, 3), (88, .if_icmp .ne 7, 3), (91, .iconst 1, 1), (92, .goto 4, 3), (95, .iconst 0, 1), (96, .istore 5, 2), (98, .iinc 6 1, 3), (101, .goto (-73), 3), (104, .iload 5, 2), (106, .ifCond .eq 10, 3), (109, .iload_n 3, 1), (110, .iconst 1, 1), (111, .iload 4, 2), (113, .ishl, 1), (114, .ior, 1), (115, .istore_n 3, 1), (116, .iinc 4 1, 3), (119, .goto (-109), 3), (122, .iload_n 3, 1), (123, .ireturn, 1)] = true := by decide +kernel
theorem dX5_fitting_79 : decode cX5_fitting 79 = .ok (.getfield 161, 3) := dq_get dX5_fitting_79_t 0 rfl
theorem dX5_fitting_82 : decode cX5_fitting 82 = .ok (.iload 6, 2) := dq_get dX5_fitting_79_t 1 rfl
theorem dX5_fitting_84 : decode cX5_fitting 84 = .ok (.iconst 2, 1) := dq_get dX5_fitting_79_t 2 rfl
theorem dX5_fitting_85 : decode cX5_fitting 85 = .ok (.invokevirtual 123, 3) := dq_get dX5_fitting_79_t 3 rfl
theorem dX5_fitting_88 : decode cX5_fitting 88 = .ok (.if_icmp .ne 7, 3) := dq_get dX5_fitting_79_t 4 rfl
theorem dX5_fitting_91 : decode cX5_fitting 91 = .ok (.iconst 1, 1) := dq_get dX5_fitting_79_t 5 rfl
theorem dX5_fitting_92 : decode cX5_fitting 92 = .ok (.goto 4, 3) := dq_get dX5_fitting_79_t 6 rfl
theorem dX5_fitting_95 : decode cX5_fitting 95 = .ok (.iconst 0, 1) := dq_get dX5_fitting_79_t 7 rfl
theorem dX5_fitting_96 : decode cX5_fitting 96 = .ok (.istore 5, 2) := dq_get dX5_fitting_79_t 8 rfl
theorem dX5_fitting_98 : decode cX5_fitting 98 = .ok (.iinc 6 1, 3) := dq_get dX5_fitting_79_t 9 rfl
theorem dX5_fitting_101 : decode cX5_fitting 101 = .ok (.goto (-73), 3) := dq_get dX5_fitting_79_t 10 rfl
theorem dX5_fitting_104 : decode cX5_fitting 104 = .ok (.iload 5, 2) := dq_get dX5_fitting_79_t 11 rfl
theorem dX5_fitting_106 : decode cX5_fitting 106 = .ok (.ifCond .eq 10, 3) := dq_get dX5_fitting_79_t 12 rfl
theorem dX5_fitting_109 : decode cX5_fitting 109 = .ok (.iload_n 3, 1) := dq_get dX5_fitting_79_t 13 rfl
theorem dX5_fitting_110 : decode cX5_fitting 110 = .ok (.iconst 1, 1) := dq_get dX5_fitting_79_t 14 rfl
theorem dX5_fitting_111 : decode cX5_fitting 111 = .ok (.iload 4, 2) := dq_get dX5_fitting_79_t 15 rfl
theorem dX5_fitting_113 : decode cX5_fitting 113 = .ok (.ishl, 1) := dq_get dX5_fitting_79_t 16 rfl
theorem dX5_fitting_114 : decode cX5_fitting 114 = .ok (.ior, 1) := dq_get dX5_fitting_79_t 17 rfl
theorem dX5_fitting_115 : decode cX5_fitting 115 = .ok (.istore_n 3, 1) := dq_get dX5_fitting_79_t 18 rfl
theorem dX5_fitting_116 : decode cX5_fitting 116 = .ok (.iinc 4 1, 3) := dq_get dX5_fitting_79_t 19 rfl
theorem dX5_fitting_119 : decode cX5_fitting 119 = .ok (.goto (-109), 3) := dq_get dX5_fitting_79_t 20 rfl
theorem dX5_fitting_122 : decode cX5_fitting 122 = .ok (.iload_n 3, 1) := dq_get dX5_fitting_79_t 21 rfl
theorem dX5_fitting_123 : decode cX5_fitting 123 = .ok (.ireturn, 1) := dq_get dX5_fitting_79_t 22 rfl
theorem gt_wsX5_leftAtWorst_wsX50 : GoodIn wsX5_leftAtWorst wsX50 := fun w hw => ⟨List.mem_cons_of_mem _ (List.mem_append_left _ (List.mem_append_left _ (List.mem_append_left _ (List.mem_append_right _ hw)))), good_of_word (List.all_eq_true.mp gw_wsX50 w hw)⟩
theorem gt_wsX5_leftAtWorst_wsX40 : GoodIn wsX5_leftAtWorst wsX40 := fun w hw => ⟨List.mem_cons_of_mem _ (List.mem_append_left _ (List.mem_append_right _ hw)), good_of_word (List.all_eq_true.mp gw_wsX40 w hw)⟩
theorem gt_wsX5_leftAtWorst_wsX00 : GoodIn wsX5_leftAtWorst wsX00 := fun w hw => ⟨List.mem_cons_of_mem _ (List.mem_append_left _ (List.mem_append_left _ (List.mem_append_right _ hw))), good_of_word (List.all_eq_true.mp gw_wsX00 w hw)⟩
theorem gt_wsX5_leftAtWorst_wsX20 : GoodIn wsX5_leftAtWorst wsX20 := fun w hw => ⟨List.mem_cons_of_mem _ (List.mem_append_right _ hw), good_of_word (List.all_eq_true.mp gw_wsX20 w hw)⟩
set_option maxRecDepth 20000 in
theorem ggX5_leftAtWorst_X5_freshViews : GoodIn wsX5_leftAtWorst wsX5_freshViews := goodIn_ca (goodIn_ca (goodIn_ca (goodIn_ca (goodIn_r _ [11, 12, 2, 13, 14, 15, 16, 17, 18, 19, 20, 21, 22, 23, 24, 25, 26, 27, 28, 29, 30, 31, 32, 33, 34, 35, 36, 37, 38, 39, 40, 41, 42, 43, 44] rfl (by decide +kernel)) gt_wsX5_leftAtWorst_wsX50) gt_wsX5_leftAtWorst_wsX40) gt_wsX5_leftAtWorst_wsX00) gt_wsX5_leftAtWorst_wsX20
set_option maxRecDepth 20000 in
theorem gX5_leftAtWorst_X5_freshViews : GoodIn wsX5_leftAtWorst (wsV RX5 112 RX5 yX5_freshViews wsX5_freshViews) := goodIn_app (goodIn_r _ [7, 8, 9, 10] rfl (by decide +kernel)) ggX5_leftAtWorst_X5_freshViews
set_option maxRecDepth 20000 in
theorem ggX5_leftAtWorst_J7_fill_53178 : GoodIn wsX5_leftAtWorst wsJ7_fill_53178 := goodIn_r _ [48] rfl (by decide +kernel)
set_option maxRecDepth 20000 in
theorem gX5_leftAtWorst_J7_fill_53178 : GoodIn wsX5_leftAtWorst (va_wsS RX5 257 yJ7_fill_53178 wsJ7_fill_53178) := goodIn_app (goodIn_r _ [45, 46, 47] rfl (by decide +kernel)) ggX5_leftAtWorst_J7_fill_53178
set_option maxRecDepth 20000 in
theorem ggX5_leftAtWorst_X4_answerOf : GoodIn wsX5_leftAtWorst wsX4_answerOf := goodIn_ca (goodIn_r _ [52, 53, 54, 55, 16, 56, 20, 57, 58, 59, 60, 26] rfl (by decide +kernel)) gt_wsX5_leftAtWorst_wsX40
set_option maxRecDepth 20000 in
theorem gX5_leftAtWorst_X4_answerOf : GoodIn wsX5_leftAtWorst (wsV RX5 254 RX4 yX4_answerOf wsX4_answerOf) := goodIn_app (goodIn_r _ [49, 50, 51, 16] rfl (by decide +kernel)) ggX5_leftAtWorst_X4_answerOf
theorem dX5_leftAtWorst_0_t : dqK cX5_leftAtWorst.data.toList 0 [(0, .aload_n 0, 1), (1, .invokevirtual 112, 3), (4, .astore 4, 2), (6, .aload_n 0, 1), (7, .getfield 49, 3), (10, .iconst 0, 1), (11, .invokestatic 257, 3), (14, .iconst 0, 1), (15, .istore 5, 2), (17, .iconst 0, 1), (18, .istore 6, 2), (20, .iload 6, 2), (22, .aload_n 0, 1), (23, .getfield 10, 3), (26, .getfield 90, 3), (29, .if_icmp .gt 70, 3), (32, .iload_n 3, 1), (33, .iload 6, 2), (35, .ishr, 1), (36, .iconst 1, 1), (37, .iand, 1), (38, .ifCond .eq 55, 3), (41, .aload 4, 2), (43, .iload_n 1, 1), (44, .iload_n 2, 1), (45, .iload 6, 2), (47, .invokevirtual 254, 3), (50, .istore 7, 2), (52, .iload 7, 2), (54, .bipush (-4), 2), (56, .if_icmp .ne 8, 3), (59, .bipush 6, 2), (61, .goto 5, 3), (64, .iload 7, 2), (66, .istore 8, 2), (68, .aload_n 0, 1), (69, .getfield 49, 3), (72, .iload 8, 2), (74, .dup2, 1), (75, .iaload, 1)] = true := by decide +kernel
theorem dX5_leftAtWorst_0 : decode cX5_leftAtWorst 0 = .ok (.aload_n 0, 1) := dq_get dX5_leftAtWorst_0_t 0 rfl
theorem dX5_leftAtWorst_1 : decode cX5_leftAtWorst 1 = .ok (.invokevirtual 112, 3) := dq_get dX5_leftAtWorst_0_t 1 rfl
theorem dX5_leftAtWorst_4 : decode cX5_leftAtWorst 4 = .ok (.astore 4, 2) := dq_get dX5_leftAtWorst_0_t 2 rfl
theorem dX5_leftAtWorst_6 : decode cX5_leftAtWorst 6 = .ok (.aload_n 0, 1) := dq_get dX5_leftAtWorst_0_t 3 rfl
theorem dX5_leftAtWorst_7 : decode cX5_leftAtWorst 7 = .ok (.getfield 49, 3) := dq_get dX5_leftAtWorst_0_t 4 rfl
theorem dX5_leftAtWorst_10 : decode cX5_leftAtWorst 10 = .ok (.iconst 0, 1) := dq_get dX5_leftAtWorst_0_t 5 rfl
theorem dX5_leftAtWorst_11 : decode cX5_leftAtWorst 11 = .ok (.invokestatic 257, 3) := dq_get dX5_leftAtWorst_0_t 6 rfl
theorem dX5_leftAtWorst_14 : decode cX5_leftAtWorst 14 = .ok (.iconst 0, 1) := dq_get dX5_leftAtWorst_0_t 7 rfl
theorem dX5_leftAtWorst_15 : decode cX5_leftAtWorst 15 = .ok (.istore 5, 2) := dq_get dX5_leftAtWorst_0_t 8 rfl
theorem dX5_leftAtWorst_17 : decode cX5_leftAtWorst 17 = .ok (.iconst 0, 1) := dq_get dX5_leftAtWorst_0_t 9 rfl
theorem dX5_leftAtWorst_18 : decode cX5_leftAtWorst 18 = .ok (.istore 6, 2) := dq_get dX5_leftAtWorst_0_t 10 rfl
theorem dX5_leftAtWorst_20 : decode cX5_leftAtWorst 20 = .ok (.iload 6, 2) := dq_get dX5_leftAtWorst_0_t 11 rfl
theorem dX5_leftAtWorst_22 : decode cX5_leftAtWorst 22 = .ok (.aload_n 0, 1) := dq_get dX5_leftAtWorst_0_t 12 rfl
theorem dX5_leftAtWorst_23 : decode cX5_leftAtWorst 23 = .ok (.getfield 10, 3) := dq_get dX5_leftAtWorst_0_t 13 rfl
theorem dX5_leftAtWorst_26 : decode cX5_leftAtWorst 26 = .ok (.getfield 90, 3) := dq_get dX5_leftAtWorst_0_t 14 rfl
theorem dX5_leftAtWorst_29 : decode cX5_leftAtWorst 29 = .ok (.if_icmp .gt 70, 3) := dq_get dX5_leftAtWorst_0_t 15 rfl
theorem dX5_leftAtWorst_32 : decode cX5_leftAtWorst 32 = .ok (.iload_n 3, 1) := dq_get dX5_leftAtWorst_0_t 16 rfl
theorem dX5_leftAtWorst_33 : decode cX5_leftAtWorst 33 = .ok (.iload 6, 2) := dq_get dX5_leftAtWorst_0_t 17 rfl
theorem dX5_leftAtWorst_35 : decode cX5_leftAtWorst 35 = .ok (.ishr, 1) := dq_get dX5_leftAtWorst_0_t 18 rfl
theorem dX5_leftAtWorst_36 : decode cX5_leftAtWorst 36 = .ok (.iconst 1, 1) := dq_get dX5_leftAtWorst_0_t 19 rfl
theorem dX5_leftAtWorst_37 : decode cX5_leftAtWorst 37 = .ok (.iand, 1) := dq_get dX5_leftAtWorst_0_t 20 rfl
theorem dX5_leftAtWorst_38 : decode cX5_leftAtWorst 38 = .ok (.ifCond .eq 55, 3) := dq_get dX5_leftAtWorst_0_t 21 rfl
theorem dX5_leftAtWorst_41 : decode cX5_leftAtWorst 41 = .ok (.aload 4, 2) := dq_get dX5_leftAtWorst_0_t 22 rfl
theorem dX5_leftAtWorst_43 : decode cX5_leftAtWorst 43 = .ok (.iload_n 1, 1) := dq_get dX5_leftAtWorst_0_t 23 rfl
theorem dX5_leftAtWorst_44 : decode cX5_leftAtWorst 44 = .ok (.iload_n 2, 1) := dq_get dX5_leftAtWorst_0_t 24 rfl
theorem dX5_leftAtWorst_45 : decode cX5_leftAtWorst 45 = .ok (.iload 6, 2) := dq_get dX5_leftAtWorst_0_t 25 rfl
theorem dX5_leftAtWorst_47 : decode cX5_leftAtWorst 47 = .ok (.invokevirtual 254, 3) := dq_get dX5_leftAtWorst_0_t 26 rfl
theorem dX5_leftAtWorst_50 : decode cX5_leftAtWorst 50 = .ok (.istore 7, 2) := dq_get dX5_leftAtWorst_0_t 27 rfl
theorem dX5_leftAtWorst_52 : decode cX5_leftAtWorst 52 = .ok (.iload 7, 2) := dq_get dX5_leftAtWorst_0_t 28 rfl
theorem dX5_leftAtWorst_54 : decode cX5_leftAtWorst 54 = .ok (.bipush (-4), 2) := dq_get dX5_leftAtWorst_0_t 29 rfl
theorem dX5_leftAtWorst_56 : decode cX5_leftAtWorst 56 = .ok (.if_icmp .ne 8, 3) := dq_get dX5_leftAtWorst_0_t 30 rfl
theorem dX5_leftAtWorst_59 : decode cX5_leftAtWorst 59 = .ok (.bipush 6, 2) := dq_get dX5_leftAtWorst_0_t 31 rfl
theorem dX5_leftAtWorst_61 : decode cX5_leftAtWorst 61 = .ok (.goto 5, 3) := dq_get dX5_leftAtWorst_0_t 32 rfl
theorem dX5_leftAtWorst_64 : decode cX5_leftAtWorst 64 = .ok (.iload 7, 2) := dq_get dX5_leftAtWorst_0_t 33 rfl
theorem dX5_leftAtWorst_66 : decode cX5_leftAtWorst 66 = .ok (.istore 8, 2) := dq_get dX5_leftAtWorst_0_t 34 rfl
theorem dX5_leftAtWorst_68 : decode cX5_leftAtWorst 68 = .ok (.aload_n 0, 1) := dq_get dX5_leftAtWorst_0_t 35 rfl
theorem dX5_leftAtWorst_69 : decode cX5_leftAtWorst 69 = .ok (.getfield 49, 3) := dq_get dX5_leftAtWorst_0_t 36 rfl
theorem dX5_leftAtWorst_72 : decode cX5_leftAtWorst 72 = .ok (.iload 8, 2) := dq_get dX5_leftAtWorst_0_t 37 rfl
theorem dX5_leftAtWorst_74 : decode cX5_leftAtWorst 74 = .ok (.dup2, 1) := dq_get dX5_leftAtWorst_0_t 38 rfl
theorem dX5_leftAtWorst_75 : decode cX5_leftAtWorst 75 = .ok (.iaload, 1) := dq_get dX5_leftAtWorst_0_t 39 rfl
theorem dX5_leftAtWorst_76_t : dqK cX5_leftAtWorst.data.toList 0 [(76, .iconst 1, 1), (77, .iadd, 1), (78, .iastore, 1), (79, .iload 5, 2), (81, .aload_n 0, 1), (82, .getfield 49, 3), (85, .iload 8, 2), (87, .iaload, 1), (88, .invokestatic 263, 3), (91, .istore 5, 2), (93, .iinc 6 1, 3), (96, .goto (-76), 3), (99, .iload 5, 2), (101, .ireturn, 1)] = true := by decide +kernel
theorem dX5_leftAtWorst_76 : decode cX5_leftAtWorst 76 = .ok (.iconst 1, 1) := dq_get dX5_leftAtWorst_76_t 0 rfl
theorem dX5_leftAtWorst_77 : decode cX5_leftAtWorst 77 = .ok (.iadd, 1) := dq_get dX5_leftAtWorst_76_t 1 rfl
theorem dX5_leftAtWorst_78 : decode cX5_leftAtWorst 78 = .ok (.iastore, 1) := dq_get dX5_leftAtWorst_76_t 2 rfl
theorem dX5_leftAtWorst_79 : decode cX5_leftAtWorst 79 = .ok (.iload 5, 2) := dq_get dX5_leftAtWorst_76_t 3 rfl
theorem dX5_leftAtWorst_81 : decode cX5_leftAtWorst 81 = .ok (.aload_n 0, 1) := dq_get dX5_leftAtWorst_76_t 4 rfl
theorem dX5_leftAtWorst_82 : decode cX5_leftAtWorst 82 = .ok (.getfield 49, 3) := dq_get dX5_leftAtWorst_76_t 5 rfl
theorem dX5_leftAtWorst_85 : decode cX5_leftAtWorst 85 = .ok (.iload 8, 2) := dq_get dX5_leftAtWorst_76_t 6 rfl
theorem dX5_leftAtWorst_87 : decode cX5_leftAtWorst 87 = .ok (.iaload, 1) := dq_get dX5_leftAtWorst_76_t 7 rfl
theorem dX5_leftAtWorst_88 : decode cX5_leftAtWorst 88 = .ok (.invokestatic 263, 3) := dq_get dX5_leftAtWorst_76_t 8 rfl
theorem dX5_leftAtWorst_91 : decode cX5_leftAtWorst 91 = .ok (.istore 5, 2) := dq_get dX5_leftAtWorst_76_t 9 rfl
theorem dX5_leftAtWorst_93 : decode cX5_leftAtWorst 93 = .ok (.iinc 6 1, 3) := dq_get dX5_leftAtWorst_76_t 10 rfl
theorem dX5_leftAtWorst_96 : decode cX5_leftAtWorst 96 = .ok (.goto (-76), 3) := dq_get dX5_leftAtWorst_76_t 11 rfl
theorem dX5_leftAtWorst_99 : decode cX5_leftAtWorst 99 = .ok (.iload 5, 2) := dq_get dX5_leftAtWorst_76_t 12 rfl
theorem dX5_leftAtWorst_101 : decode cX5_leftAtWorst 101 = .ok (.ireturn, 1) := dq_get dX5_leftAtWorst_76_t 13 rfl
theorem gt_wsX5_leastSet_wsX50 : GoodIn wsX5_leastSet wsX50 := fun w hw => ⟨List.mem_cons_of_mem _ (List.mem_append_right _ hw), good_of_word (List.all_eq_true.mp gw_wsX50 w hw)⟩
set_option maxRecDepth 20000 in
theorem ggX5_leastSet_X5_meetsWants : GoodIn wsX5_leastSet wsX5_meetsWants := goodIn_ca (goodIn_r _ [5, 6] rfl (by decide +kernel)) gt_wsX5_leastSet_wsX50
set_option maxRecDepth 20000 in
theorem gX5_leastSet_X5_meetsWants : GoodIn wsX5_leastSet (wsV RX5 268 RX5 yX5_meetsWants wsX5_meetsWants) := goodIn_app (goodIn_r _ [1, 2, 3, 4] rfl (by decide +kernel)) ggX5_leastSet_X5_meetsWants
set_option maxRecDepth 20000 in
theorem ggX5_leastSet_X5_nextOfSameSize : GoodIn wsX5_leastSet wsX5_nextOfSameSize := goodIn_r _ [9, 10, 11, 12, 13, 14, 15, 16] rfl (by decide +kernel)
set_option maxRecDepth 20000 in
theorem gX5_leastSet_X5_nextOfSameSize : GoodIn wsX5_leastSet (va_wsS RX5 272 yX5_nextOfSameSize wsX5_nextOfSameSize) := goodIn_app (goodIn_r _ [7, 8, 4] rfl (by decide +kernel)) ggX5_leastSet_X5_nextOfSameSize
theorem dX5_leastSet_0_t : dqK cX5_leastSet.data.toList 0 [(0, .iload_n 1, 1), (1, .ifCond .ne 5, 3), (4, .iconst 0, 1), (5, .ireturn, 1), (6, .iconst 1, 1), (7, .iload_n 2, 1), (8, .ishl, 1), (9, .istore_n 3, 1), (10, .iconst 1, 1), (11, .istore 4, 2), (13, .iload 4, 2), (15, .iload_n 2, 1), (16, .if_icmp .gt 58, 3), (19, .iconst 1, 1), (20, .iload 4, 2), (22, .ishl, 1), (23, .iconst 1, 1), (24, .isub, 1), (25, .istore 5, 2), (27, .iconst 0, 1), (28, .istore 6, 2), (30, .iload 6, 2), (32, .iload_n 3, 1), (33, .if_icmp .ge 35, 3), (36, .iload 5, 2), (38, .iload_n 3, 1), (39, .if_icmp .ge 29, 3), (42, .aload_n 0, 1), (43, .iload 5, 2), (45, .iload_n 1, 1), (46, .invokevirtual 268, 3), (49, .ifCond .eq 6, 3), (52, .iload 5, 2), (54, .ireturn, 1), (55, .iload 5, 2), (57, .invokestatic 272, 3), (60, .istore 5, 2), (62, .iinc 6 1, 3), (65, .goto (-35), 3), (68, .iinc 4 1, 3)] = true := by decide +kernel
theorem dX5_leastSet_0 : decode cX5_leastSet 0 = .ok (.iload_n 1, 1) := dq_get dX5_leastSet_0_t 0 rfl
theorem dX5_leastSet_1 : decode cX5_leastSet 1 = .ok (.ifCond .ne 5, 3) := dq_get dX5_leastSet_0_t 1 rfl
theorem dX5_leastSet_4 : decode cX5_leastSet 4 = .ok (.iconst 0, 1) := dq_get dX5_leastSet_0_t 2 rfl
theorem dX5_leastSet_5 : decode cX5_leastSet 5 = .ok (.ireturn, 1) := dq_get dX5_leastSet_0_t 3 rfl
theorem dX5_leastSet_6 : decode cX5_leastSet 6 = .ok (.iconst 1, 1) := dq_get dX5_leastSet_0_t 4 rfl
theorem dX5_leastSet_7 : decode cX5_leastSet 7 = .ok (.iload_n 2, 1) := dq_get dX5_leastSet_0_t 5 rfl
theorem dX5_leastSet_8 : decode cX5_leastSet 8 = .ok (.ishl, 1) := dq_get dX5_leastSet_0_t 6 rfl
theorem dX5_leastSet_9 : decode cX5_leastSet 9 = .ok (.istore_n 3, 1) := dq_get dX5_leastSet_0_t 7 rfl
theorem dX5_leastSet_10 : decode cX5_leastSet 10 = .ok (.iconst 1, 1) := dq_get dX5_leastSet_0_t 8 rfl
theorem dX5_leastSet_11 : decode cX5_leastSet 11 = .ok (.istore 4, 2) := dq_get dX5_leastSet_0_t 9 rfl
theorem dX5_leastSet_13 : decode cX5_leastSet 13 = .ok (.iload 4, 2) := dq_get dX5_leastSet_0_t 10 rfl
theorem dX5_leastSet_15 : decode cX5_leastSet 15 = .ok (.iload_n 2, 1) := dq_get dX5_leastSet_0_t 11 rfl
theorem dX5_leastSet_16 : decode cX5_leastSet 16 = .ok (.if_icmp .gt 58, 3) := dq_get dX5_leastSet_0_t 12 rfl
theorem dX5_leastSet_19 : decode cX5_leastSet 19 = .ok (.iconst 1, 1) := dq_get dX5_leastSet_0_t 13 rfl
theorem dX5_leastSet_20 : decode cX5_leastSet 20 = .ok (.iload 4, 2) := dq_get dX5_leastSet_0_t 14 rfl
theorem dX5_leastSet_22 : decode cX5_leastSet 22 = .ok (.ishl, 1) := dq_get dX5_leastSet_0_t 15 rfl
theorem dX5_leastSet_23 : decode cX5_leastSet 23 = .ok (.iconst 1, 1) := dq_get dX5_leastSet_0_t 16 rfl
theorem dX5_leastSet_24 : decode cX5_leastSet 24 = .ok (.isub, 1) := dq_get dX5_leastSet_0_t 17 rfl
theorem dX5_leastSet_25 : decode cX5_leastSet 25 = .ok (.istore 5, 2) := dq_get dX5_leastSet_0_t 18 rfl
theorem dX5_leastSet_27 : decode cX5_leastSet 27 = .ok (.iconst 0, 1) := dq_get dX5_leastSet_0_t 19 rfl
theorem dX5_leastSet_28 : decode cX5_leastSet 28 = .ok (.istore 6, 2) := dq_get dX5_leastSet_0_t 20 rfl
theorem dX5_leastSet_30 : decode cX5_leastSet 30 = .ok (.iload 6, 2) := dq_get dX5_leastSet_0_t 21 rfl
theorem dX5_leastSet_32 : decode cX5_leastSet 32 = .ok (.iload_n 3, 1) := dq_get dX5_leastSet_0_t 22 rfl
theorem dX5_leastSet_33 : decode cX5_leastSet 33 = .ok (.if_icmp .ge 35, 3) := dq_get dX5_leastSet_0_t 23 rfl
theorem dX5_leastSet_36 : decode cX5_leastSet 36 = .ok (.iload 5, 2) := dq_get dX5_leastSet_0_t 24 rfl
theorem dX5_leastSet_38 : decode cX5_leastSet 38 = .ok (.iload_n 3, 1) := dq_get dX5_leastSet_0_t 25 rfl
theorem dX5_leastSet_39 : decode cX5_leastSet 39 = .ok (.if_icmp .ge 29, 3) := dq_get dX5_leastSet_0_t 26 rfl
theorem dX5_leastSet_42 : decode cX5_leastSet 42 = .ok (.aload_n 0, 1) := dq_get dX5_leastSet_0_t 27 rfl
theorem dX5_leastSet_43 : decode cX5_leastSet 43 = .ok (.iload 5, 2) := dq_get dX5_leastSet_0_t 28 rfl
theorem dX5_leastSet_45 : decode cX5_leastSet 45 = .ok (.iload_n 1, 1) := dq_get dX5_leastSet_0_t 29 rfl
theorem dX5_leastSet_46 : decode cX5_leastSet 46 = .ok (.invokevirtual 268, 3) := dq_get dX5_leastSet_0_t 30 rfl
theorem dX5_leastSet_49 : decode cX5_leastSet 49 = .ok (.ifCond .eq 6, 3) := dq_get dX5_leastSet_0_t 31 rfl
theorem dX5_leastSet_52 : decode cX5_leastSet 52 = .ok (.iload 5, 2) := dq_get dX5_leastSet_0_t 32 rfl
theorem dX5_leastSet_54 : decode cX5_leastSet 54 = .ok (.ireturn, 1) := dq_get dX5_leastSet_0_t 33 rfl
theorem dX5_leastSet_55 : decode cX5_leastSet 55 = .ok (.iload 5, 2) := dq_get dX5_leastSet_0_t 34 rfl
theorem dX5_leastSet_57 : decode cX5_leastSet 57 = .ok (.invokestatic 272, 3) := dq_get dX5_leastSet_0_t 35 rfl
theorem dX5_leastSet_60 : decode cX5_leastSet 60 = .ok (.istore 5, 2) := dq_get dX5_leastSet_0_t 36 rfl
theorem dX5_leastSet_62 : decode cX5_leastSet 62 = .ok (.iinc 6 1, 3) := dq_get dX5_leastSet_0_t 37 rfl
theorem dX5_leastSet_65 : decode cX5_leastSet 65 = .ok (.goto (-35), 3) := dq_get dX5_leastSet_0_t 38 rfl
theorem dX5_leastSet_68 : decode cX5_leastSet 68 = .ok (.iinc 4 1, 3) := dq_get dX5_leastSet_0_t 39 rfl
theorem dX5_leastSet_71_t : dqK cX5_leastSet.data.toList 0 [(71, .goto (-58), 3), (74, .iload_n 3, 1), (75, .iconst 1, 1), (76, .isub, 1), (77, .ireturn, 1)] = true := by decide +kernel
theorem dX5_leastSet_71 : decode cX5_leastSet 71 = .ok (.goto (-58), 3) := dq_get dX5_leastSet_71_t 0 rfl
theorem dX5_leastSet_74 : decode cX5_leastSet 74 = .ok (.iload_n 3, 1) := dq_get dX5_leastSet_71_t 1 rfl
theorem dX5_leastSet_75 : decode cX5_leastSet 75 = .ok (.iconst 1, 1) := dq_get dX5_leastSet_71_t 2 rfl
theorem dX5_leastSet_76 : decode cX5_leastSet 76 = .ok (.isub, 1) := dq_get dX5_leastSet_71_t 3 rfl
theorem dX5_leastSet_77 : decode cX5_leastSet 77 = .ok (.ireturn, 1) := dq_get dX5_leastSet_71_t 4 rfl
theorem dX5_meetsWants_0_t : dqK cX5_meetsWants.data.toList 0 [(0, .iconst 0, 1), (1, .istore_n 3, 1), (2, .iload_n 3, 1), (3, .iload_n 2, 1), (4, .if_icmp .ge 22, 3), (7, .aload_n 0, 1), (8, .getfield 45, 3), (11, .iload_n 3, 1), (12, .iaload, 1), (13, .iload_n 1, 1), (14, .iand, 1), (15, .ifCond .ne 5, 3), (18, .iconst 0, 1), (19, .ireturn, 1), (20, .iinc 3 1, 3), (23, .goto (-21), 3), (26, .iconst 1, 1), (27, .ireturn, 1)] = true := by decide +kernel
theorem dX5_meetsWants_0 : decode cX5_meetsWants 0 = .ok (.iconst 0, 1) := dq_get dX5_meetsWants_0_t 0 rfl
theorem dX5_meetsWants_1 : decode cX5_meetsWants 1 = .ok (.istore_n 3, 1) := dq_get dX5_meetsWants_0_t 1 rfl
theorem dX5_meetsWants_2 : decode cX5_meetsWants 2 = .ok (.iload_n 3, 1) := dq_get dX5_meetsWants_0_t 2 rfl
theorem dX5_meetsWants_3 : decode cX5_meetsWants 3 = .ok (.iload_n 2, 1) := dq_get dX5_meetsWants_0_t 3 rfl
theorem dX5_meetsWants_4 : decode cX5_meetsWants 4 = .ok (.if_icmp .ge 22, 3) := dq_get dX5_meetsWants_0_t 4 rfl
theorem dX5_meetsWants_7 : decode cX5_meetsWants 7 = .ok (.aload_n 0, 1) := dq_get dX5_meetsWants_0_t 5 rfl
theorem dX5_meetsWants_8 : decode cX5_meetsWants 8 = .ok (.getfield 45, 3) := dq_get dX5_meetsWants_0_t 6 rfl
theorem dX5_meetsWants_11 : decode cX5_meetsWants 11 = .ok (.iload_n 3, 1) := dq_get dX5_meetsWants_0_t 7 rfl
theorem dX5_meetsWants_12 : decode cX5_meetsWants 12 = .ok (.iaload, 1) := dq_get dX5_meetsWants_0_t 8 rfl
theorem dX5_meetsWants_13 : decode cX5_meetsWants 13 = .ok (.iload_n 1, 1) := dq_get dX5_meetsWants_0_t 9 rfl
theorem dX5_meetsWants_14 : decode cX5_meetsWants 14 = .ok (.iand, 1) := dq_get dX5_meetsWants_0_t 10 rfl
theorem dX5_meetsWants_15 : decode cX5_meetsWants 15 = .ok (.ifCond .ne 5, 3) := dq_get dX5_meetsWants_0_t 11 rfl
theorem dX5_meetsWants_18 : decode cX5_meetsWants 18 = .ok (.iconst 0, 1) := dq_get dX5_meetsWants_0_t 12 rfl
theorem dX5_meetsWants_19 : decode cX5_meetsWants 19 = .ok (.ireturn, 1) := dq_get dX5_meetsWants_0_t 13 rfl
theorem dX5_meetsWants_20 : decode cX5_meetsWants 20 = .ok (.iinc 3 1, 3) := dq_get dX5_meetsWants_0_t 14 rfl
theorem dX5_meetsWants_23 : decode cX5_meetsWants 23 = .ok (.goto (-21), 3) := dq_get dX5_meetsWants_0_t 15 rfl
theorem dX5_meetsWants_26 : decode cX5_meetsWants 26 = .ok (.iconst 1, 1) := dq_get dX5_meetsWants_0_t 16 rfl
theorem dX5_meetsWants_27 : decode cX5_meetsWants 27 = .ok (.ireturn, 1) := dq_get dX5_meetsWants_0_t 17 rfl
set_option maxRecDepth 20000 in
theorem ggX5_nextOfSameSize_J6_bitCount_0f7a4 : GoodIn wsX5_nextOfSameSize wsJ6_bitCount_0f7a4 := goodIn_r _ [4, 5, 6, 7] rfl (by decide +kernel)
set_option maxRecDepth 20000 in
theorem gX5_nextOfSameSize_J6_bitCount_0f7a4 : GoodIn wsX5_nextOfSameSize (va_wsS RX5 167 yJ6_bitCount_0f7a4 wsJ6_bitCount_0f7a4) := goodIn_app (goodIn_r _ [1, 2, 3] rfl (by decide +kernel)) ggX5_nextOfSameSize_J6_bitCount_0f7a4
theorem dX5_nextOfSameSize_0_t : dqK cX5_nextOfSameSize.data.toList 0 [(0, .iload_n 0, 1), (1, .iload_n 0, 1), (2, .ineg, 1), (3, .iand, 1), (4, .istore_n 1, 1), (5, .iload_n 0, 1), (6, .iload_n 1, 1), (7, .iadd, 1), (8, .istore_n 2, 1), (9, .iload_n 1, 1), (10, .iconst 1, 1), (11, .isub, 1), (12, .invokestatic 167, 3), (15, .istore_n 3, 1), (16, .iload_n 2, 1), (17, .iload_n 0, 1), (18, .iload_n 2, 1), (19, .ixor, 1), (20, .iconst 2, 1), (21, .iushr, 1), (22, .iload_n 3, 1), (23, .iushr, 1), (24, .ior, 1), (25, .ireturn, 1)] = true := by decide +kernel
theorem dX5_nextOfSameSize_0 : decode cX5_nextOfSameSize 0 = .ok (.iload_n 0, 1) := dq_get dX5_nextOfSameSize_0_t 0 rfl
theorem dX5_nextOfSameSize_1 : decode cX5_nextOfSameSize 1 = .ok (.iload_n 0, 1) := dq_get dX5_nextOfSameSize_0_t 1 rfl
theorem dX5_nextOfSameSize_2 : decode cX5_nextOfSameSize 2 = .ok (.ineg, 1) := dq_get dX5_nextOfSameSize_0_t 2 rfl
theorem dX5_nextOfSameSize_3 : decode cX5_nextOfSameSize 3 = .ok (.iand, 1) := dq_get dX5_nextOfSameSize_0_t 3 rfl
theorem dX5_nextOfSameSize_4 : decode cX5_nextOfSameSize 4 = .ok (.istore_n 1, 1) := dq_get dX5_nextOfSameSize_0_t 4 rfl
theorem dX5_nextOfSameSize_5 : decode cX5_nextOfSameSize 5 = .ok (.iload_n 0, 1) := dq_get dX5_nextOfSameSize_0_t 5 rfl
theorem dX5_nextOfSameSize_6 : decode cX5_nextOfSameSize 6 = .ok (.iload_n 1, 1) := dq_get dX5_nextOfSameSize_0_t 6 rfl
theorem dX5_nextOfSameSize_7 : decode cX5_nextOfSameSize 7 = .ok (.iadd, 1) := dq_get dX5_nextOfSameSize_0_t 7 rfl
theorem dX5_nextOfSameSize_8 : decode cX5_nextOfSameSize 8 = .ok (.istore_n 2, 1) := dq_get dX5_nextOfSameSize_0_t 8 rfl
theorem dX5_nextOfSameSize_9 : decode cX5_nextOfSameSize 9 = .ok (.iload_n 1, 1) := dq_get dX5_nextOfSameSize_0_t 9 rfl
theorem dX5_nextOfSameSize_10 : decode cX5_nextOfSameSize 10 = .ok (.iconst 1, 1) := dq_get dX5_nextOfSameSize_0_t 10 rfl
theorem dX5_nextOfSameSize_11 : decode cX5_nextOfSameSize 11 = .ok (.isub, 1) := dq_get dX5_nextOfSameSize_0_t 11 rfl
theorem dX5_nextOfSameSize_12 : decode cX5_nextOfSameSize 12 = .ok (.invokestatic 167, 3) := dq_get dX5_nextOfSameSize_0_t 12 rfl
theorem dX5_nextOfSameSize_15 : decode cX5_nextOfSameSize 15 = .ok (.istore_n 3, 1) := dq_get dX5_nextOfSameSize_0_t 13 rfl
theorem dX5_nextOfSameSize_16 : decode cX5_nextOfSameSize 16 = .ok (.iload_n 2, 1) := dq_get dX5_nextOfSameSize_0_t 14 rfl
theorem dX5_nextOfSameSize_17 : decode cX5_nextOfSameSize 17 = .ok (.iload_n 0, 1) := dq_get dX5_nextOfSameSize_0_t 15 rfl
theorem dX5_nextOfSameSize_18 : decode cX5_nextOfSameSize 18 = .ok (.iload_n 2, 1) := dq_get dX5_nextOfSameSize_0_t 16 rfl
theorem dX5_nextOfSameSize_19 : decode cX5_nextOfSameSize 19 = .ok (.ixor, 1) := dq_get dX5_nextOfSameSize_0_t 17 rfl
theorem dX5_nextOfSameSize_20 : decode cX5_nextOfSameSize 20 = .ok (.iconst 2, 1) := dq_get dX5_nextOfSameSize_0_t 18 rfl
theorem dX5_nextOfSameSize_21 : decode cX5_nextOfSameSize 21 = .ok (.iushr, 1) := dq_get dX5_nextOfSameSize_0_t 19 rfl
theorem dX5_nextOfSameSize_22 : decode cX5_nextOfSameSize 22 = .ok (.iload_n 3, 1) := dq_get dX5_nextOfSameSize_0_t 20 rfl
theorem dX5_nextOfSameSize_23 : decode cX5_nextOfSameSize 23 = .ok (.iushr, 1) := dq_get dX5_nextOfSameSize_0_t 21 rfl
theorem dX5_nextOfSameSize_24 : decode cX5_nextOfSameSize 24 = .ok (.ior, 1) := dq_get dX5_nextOfSameSize_0_t 22 rfl
theorem dX5_nextOfSameSize_25 : decode cX5_nextOfSameSize 25 = .ok (.ireturn, 1) := dq_get dX5_nextOfSameSize_0_t 23 rfl
theorem gt_wsX5_partsShown_wsX50 : GoodIn wsX5_partsShown wsX50 := fun w hw => ⟨List.mem_cons_of_mem _ (List.mem_append_left _ (List.mem_append_left _ (List.mem_append_left _ (List.mem_append_right _ hw)))), good_of_word (List.all_eq_true.mp gw_wsX50 w hw)⟩
theorem gt_wsX5_partsShown_wsX00 : GoodIn wsX5_partsShown wsX00 := fun w hw => ⟨List.mem_cons_of_mem _ (List.mem_append_left _ (List.mem_append_left _ (List.mem_append_right _ hw))), good_of_word (List.all_eq_true.mp gw_wsX00 w hw)⟩
theorem gt_wsX5_partsShown_wsX40 : GoodIn wsX5_partsShown wsX40 := fun w hw => ⟨List.mem_cons_of_mem _ (List.mem_append_right _ hw), good_of_word (List.all_eq_true.mp gw_wsX40 w hw)⟩
theorem gt_wsX5_partsShown_wsX20 : GoodIn wsX5_partsShown wsX20 := fun w hw => ⟨List.mem_cons_of_mem _ (List.mem_append_left _ (List.mem_append_right _ hw)), good_of_word (List.all_eq_true.mp gw_wsX20 w hw)⟩
set_option maxRecDepth 20000 in
theorem ggX5_partsShown_X5_shownBy : GoodIn wsX5_partsShown wsX5_shownBy := goodIn_ca (goodIn_ca (goodIn_ca (goodIn_ca (goodIn_r _ [8, 1, 9, 10, 11, 7, 12, 13, 14, 15, 16, 17, 18, 19, 20, 21, 22, 23, 24, 25, 26, 27, 28, 29, 30, 31, 32, 33, 34, 35, 36, 37, 38, 39, 40, 41, 42, 43, 44, 45, 46, 47, 48, 49, 50] rfl (by decide +kernel)) gt_wsX5_partsShown_wsX50) gt_wsX5_partsShown_wsX00) gt_wsX5_partsShown_wsX40) gt_wsX5_partsShown_wsX20
set_option maxRecDepth 20000 in
theorem gX5_partsShown_X5_shownBy : GoodIn wsX5_partsShown (wsV RX5 152 RX5 yX5_shownBy wsX5_shownBy) := goodIn_app (goodIn_r _ [4, 5, 6, 7] rfl (by decide +kernel)) ggX5_partsShown_X5_shownBy
theorem dX5_partsShown_0_t : dqK cX5_partsShown.data.toList 0 [(0, .iconst 0, 1), (1, .istore 4, 2), (3, .iconst 0, 1), (4, .istore 5, 2), (6, .iload 5, 2), (8, .aload_n 0, 1), (9, .getfield 10, 3), (12, .getfield 102, 3), (15, .getfield 97, 3), (18, .if_icmp .ge 25, 3), (21, .iload 4, 2), (23, .aload_n 0, 1), (24, .iload 5, 2), (26, .iload_n 2, 1), (27, .invokevirtual 152, 3), (30, .iload_n 3, 1), (31, .ishr, 1), (32, .iconst 1, 1), (33, .iand, 1), (34, .iadd, 1), (35, .istore 4, 2), (37, .iinc 5 1, 3), (40, .goto (-34), 3), (43, .lconst 1, 1), (44, .lstore 5, 2), (46, .iconst 0, 1), (47, .istore 7, 2), (49, .iload 7, 2), (51, .bipush 6, 2), (53, .if_icmp .ge 29, 3), (56, .lload 5, 2), (58, .iload 7, 2), (60, .iload 4, 2), (62, .if_icmp .ge 8, 3), (65, .iload_n 1, 1), (66, .i2l, 1), (67, .goto 6, 3), (70, .ldc2_w 275, 3), (73, .lmul, 1), (74, .lstore 5, 2)] = true := by decide +kernel
theorem dX5_partsShown_0 : decode cX5_partsShown 0 = .ok (.iconst 0, 1) := dq_get dX5_partsShown_0_t 0 rfl
theorem dX5_partsShown_1 : decode cX5_partsShown 1 = .ok (.istore 4, 2) := dq_get dX5_partsShown_0_t 1 rfl
theorem dX5_partsShown_3 : decode cX5_partsShown 3 = .ok (.iconst 0, 1) := dq_get dX5_partsShown_0_t 2 rfl
theorem dX5_partsShown_4 : decode cX5_partsShown 4 = .ok (.istore 5, 2) := dq_get dX5_partsShown_0_t 3 rfl
theorem dX5_partsShown_6 : decode cX5_partsShown 6 = .ok (.iload 5, 2) := dq_get dX5_partsShown_0_t 4 rfl
theorem dX5_partsShown_8 : decode cX5_partsShown 8 = .ok (.aload_n 0, 1) := dq_get dX5_partsShown_0_t 5 rfl
theorem dX5_partsShown_9 : decode cX5_partsShown 9 = .ok (.getfield 10, 3) := dq_get dX5_partsShown_0_t 6 rfl
theorem dX5_partsShown_12 : decode cX5_partsShown 12 = .ok (.getfield 102, 3) := dq_get dX5_partsShown_0_t 7 rfl
theorem dX5_partsShown_15 : decode cX5_partsShown 15 = .ok (.getfield 97, 3) := dq_get dX5_partsShown_0_t 8 rfl
theorem dX5_partsShown_18 : decode cX5_partsShown 18 = .ok (.if_icmp .ge 25, 3) := dq_get dX5_partsShown_0_t 9 rfl
theorem dX5_partsShown_21 : decode cX5_partsShown 21 = .ok (.iload 4, 2) := dq_get dX5_partsShown_0_t 10 rfl
theorem dX5_partsShown_23 : decode cX5_partsShown 23 = .ok (.aload_n 0, 1) := dq_get dX5_partsShown_0_t 11 rfl
theorem dX5_partsShown_24 : decode cX5_partsShown 24 = .ok (.iload 5, 2) := dq_get dX5_partsShown_0_t 12 rfl
theorem dX5_partsShown_26 : decode cX5_partsShown 26 = .ok (.iload_n 2, 1) := dq_get dX5_partsShown_0_t 13 rfl
theorem dX5_partsShown_27 : decode cX5_partsShown 27 = .ok (.invokevirtual 152, 3) := dq_get dX5_partsShown_0_t 14 rfl
theorem dX5_partsShown_30 : decode cX5_partsShown 30 = .ok (.iload_n 3, 1) := dq_get dX5_partsShown_0_t 15 rfl
theorem dX5_partsShown_31 : decode cX5_partsShown 31 = .ok (.ishr, 1) := dq_get dX5_partsShown_0_t 16 rfl
theorem dX5_partsShown_32 : decode cX5_partsShown 32 = .ok (.iconst 1, 1) := dq_get dX5_partsShown_0_t 17 rfl
theorem dX5_partsShown_33 : decode cX5_partsShown 33 = .ok (.iand, 1) := dq_get dX5_partsShown_0_t 18 rfl
theorem dX5_partsShown_34 : decode cX5_partsShown 34 = .ok (.iadd, 1) := dq_get dX5_partsShown_0_t 19 rfl
theorem dX5_partsShown_35 : decode cX5_partsShown 35 = .ok (.istore 4, 2) := dq_get dX5_partsShown_0_t 20 rfl
theorem dX5_partsShown_37 : decode cX5_partsShown 37 = .ok (.iinc 5 1, 3) := dq_get dX5_partsShown_0_t 21 rfl
theorem dX5_partsShown_40 : decode cX5_partsShown 40 = .ok (.goto (-34), 3) := dq_get dX5_partsShown_0_t 22 rfl
theorem dX5_partsShown_43 : decode cX5_partsShown 43 = .ok (.lconst 1, 1) := dq_get dX5_partsShown_0_t 23 rfl
theorem dX5_partsShown_44 : decode cX5_partsShown 44 = .ok (.lstore 5, 2) := dq_get dX5_partsShown_0_t 24 rfl
theorem dX5_partsShown_46 : decode cX5_partsShown 46 = .ok (.iconst 0, 1) := dq_get dX5_partsShown_0_t 25 rfl
theorem dX5_partsShown_47 : decode cX5_partsShown 47 = .ok (.istore 7, 2) := dq_get dX5_partsShown_0_t 26 rfl
theorem dX5_partsShown_49 : decode cX5_partsShown 49 = .ok (.iload 7, 2) := dq_get dX5_partsShown_0_t 27 rfl
theorem dX5_partsShown_51 : decode cX5_partsShown 51 = .ok (.bipush 6, 2) := dq_get dX5_partsShown_0_t 28 rfl
theorem dX5_partsShown_53 : decode cX5_partsShown 53 = .ok (.if_icmp .ge 29, 3) := dq_get dX5_partsShown_0_t 29 rfl
theorem dX5_partsShown_56 : decode cX5_partsShown 56 = .ok (.lload 5, 2) := dq_get dX5_partsShown_0_t 30 rfl
theorem dX5_partsShown_58 : decode cX5_partsShown 58 = .ok (.iload 7, 2) := dq_get dX5_partsShown_0_t 31 rfl
theorem dX5_partsShown_60 : decode cX5_partsShown 60 = .ok (.iload 4, 2) := dq_get dX5_partsShown_0_t 32 rfl
theorem dX5_partsShown_62 : decode cX5_partsShown 62 = .ok (.if_icmp .ge 8, 3) := dq_get dX5_partsShown_0_t 33 rfl
theorem dX5_partsShown_65 : decode cX5_partsShown 65 = .ok (.iload_n 1, 1) := dq_get dX5_partsShown_0_t 34 rfl
theorem dX5_partsShown_66 : decode cX5_partsShown 66 = .ok (.i2l, 1) := dq_get dX5_partsShown_0_t 35 rfl
theorem dX5_partsShown_67 : decode cX5_partsShown 67 = .ok (.goto 6, 3) := dq_get dX5_partsShown_0_t 36 rfl
theorem dX5_partsShown_70 : decode cX5_partsShown 70 = .ok (.ldc2_w 275, 3) := dq_get dX5_partsShown_0_t 37 rfl
theorem dX5_partsShown_73 : decode cX5_partsShown 73 = .ok (.lmul, 1) := dq_get dX5_partsShown_0_t 38 rfl
theorem dX5_partsShown_74 : decode cX5_partsShown 74 = .ok (.lstore 5, 2) := dq_get dX5_partsShown_0_t 39 rfl
theorem dX5_partsShown_76_t : dqK cX5_partsShown.data.toList 0 [(76, .iinc 7 1, 3), (79, .goto (-30), 3), (82, .ldc2_w 196, 3), (85, .lload 5, 2), (87, .lsub, 1), (88, .lreturn, 1)] = true := by decide +kernel
theorem dX5_partsShown_76 : decode cX5_partsShown 76 = .ok (.iinc 7 1, 3) := dq_get dX5_partsShown_76_t 0 rfl
theorem dX5_partsShown_79 : decode cX5_partsShown 79 = .ok (.goto (-30), 3) := dq_get dX5_partsShown_76_t 1 rfl
theorem dX5_partsShown_82 : decode cX5_partsShown 82 = .ok (.ldc2_w 196, 3) := dq_get dX5_partsShown_76_t 2 rfl
theorem dX5_partsShown_85 : decode cX5_partsShown 85 = .ok (.lload 5, 2) := dq_get dX5_partsShown_76_t 3 rfl
theorem dX5_partsShown_87 : decode cX5_partsShown 87 = .ok (.lsub, 1) := dq_get dX5_partsShown_76_t 4 rfl
theorem dX5_partsShown_88 : decode cX5_partsShown 88 = .ok (.lreturn, 1) := dq_get dX5_partsShown_76_t 5 rfl
theorem dX5_fractionPart_0_t : dqK cX5_fractionPart.data.toList 0 [(0, .lload_n 2, 1), (1, .lstore 5, 2), (3, .lload_n 0, 1), (4, .lstore 7, 2), (6, .iconst 0, 1), (7, .istore 9, 2), (9, .iload 9, 2), (11, .bipush 100, 2), (13, .if_icmp .ge 31, 3), (16, .lload 7, 2), (18, .lconst 0, 1), (19, .lcmp, 1), (20, .ifCond .eq 24, 3), (23, .lload 5, 2), (25, .lload 7, 2), (27, .lrem, 1), (28, .lstore 10, 2), (30, .lload 7, 2), (32, .lstore 5, 2), (34, .lload 10, 2), (36, .lstore 7, 2), (38, .iinc 9 1, 3), (41, .goto (-32), 3), (44, .lload 5, 2), (46, .lconst 0, 1), (47, .lcmp, 1), (48, .ifCond .ne 7, 3), (51, .ldc2_w 175, 3), (54, .lreturn, 1), (55, .iload 4, 2), (57, .ifCond .ne 7, 3), (60, .lload_n 0, 1), (61, .goto 4, 3), (64, .lload_n 2, 1), (65, .lload 5, 2), (67, .ldiv, 1), (68, .lreturn, 1)] = true := by decide +kernel
theorem dX5_fractionPart_0 : decode cX5_fractionPart 0 = .ok (.lload_n 2, 1) := dq_get dX5_fractionPart_0_t 0 rfl
theorem dX5_fractionPart_1 : decode cX5_fractionPart 1 = .ok (.lstore 5, 2) := dq_get dX5_fractionPart_0_t 1 rfl
theorem dX5_fractionPart_3 : decode cX5_fractionPart 3 = .ok (.lload_n 0, 1) := dq_get dX5_fractionPart_0_t 2 rfl
theorem dX5_fractionPart_4 : decode cX5_fractionPart 4 = .ok (.lstore 7, 2) := dq_get dX5_fractionPart_0_t 3 rfl
theorem dX5_fractionPart_6 : decode cX5_fractionPart 6 = .ok (.iconst 0, 1) := dq_get dX5_fractionPart_0_t 4 rfl
theorem dX5_fractionPart_7 : decode cX5_fractionPart 7 = .ok (.istore 9, 2) := dq_get dX5_fractionPart_0_t 5 rfl
theorem dX5_fractionPart_9 : decode cX5_fractionPart 9 = .ok (.iload 9, 2) := dq_get dX5_fractionPart_0_t 6 rfl
theorem dX5_fractionPart_11 : decode cX5_fractionPart 11 = .ok (.bipush 100, 2) := dq_get dX5_fractionPart_0_t 7 rfl
theorem dX5_fractionPart_13 : decode cX5_fractionPart 13 = .ok (.if_icmp .ge 31, 3) := dq_get dX5_fractionPart_0_t 8 rfl
theorem dX5_fractionPart_16 : decode cX5_fractionPart 16 = .ok (.lload 7, 2) := dq_get dX5_fractionPart_0_t 9 rfl
theorem dX5_fractionPart_18 : decode cX5_fractionPart 18 = .ok (.lconst 0, 1) := dq_get dX5_fractionPart_0_t 10 rfl
theorem dX5_fractionPart_19 : decode cX5_fractionPart 19 = .ok (.lcmp, 1) := dq_get dX5_fractionPart_0_t 11 rfl
theorem dX5_fractionPart_20 : decode cX5_fractionPart 20 = .ok (.ifCond .eq 24, 3) := dq_get dX5_fractionPart_0_t 12 rfl
theorem dX5_fractionPart_23 : decode cX5_fractionPart 23 = .ok (.lload 5, 2) := dq_get dX5_fractionPart_0_t 13 rfl
theorem dX5_fractionPart_25 : decode cX5_fractionPart 25 = .ok (.lload 7, 2) := dq_get dX5_fractionPart_0_t 14 rfl
theorem dX5_fractionPart_27 : decode cX5_fractionPart 27 = .ok (.lrem, 1) := dq_get dX5_fractionPart_0_t 15 rfl
theorem dX5_fractionPart_28 : decode cX5_fractionPart 28 = .ok (.lstore 10, 2) := dq_get dX5_fractionPart_0_t 16 rfl
theorem dX5_fractionPart_30 : decode cX5_fractionPart 30 = .ok (.lload 7, 2) := dq_get dX5_fractionPart_0_t 17 rfl
theorem dX5_fractionPart_32 : decode cX5_fractionPart 32 = .ok (.lstore 5, 2) := dq_get dX5_fractionPart_0_t 18 rfl
theorem dX5_fractionPart_34 : decode cX5_fractionPart 34 = .ok (.lload 10, 2) := dq_get dX5_fractionPart_0_t 19 rfl
theorem dX5_fractionPart_36 : decode cX5_fractionPart 36 = .ok (.lstore 7, 2) := dq_get dX5_fractionPart_0_t 20 rfl
theorem dX5_fractionPart_38 : decode cX5_fractionPart 38 = .ok (.iinc 9 1, 3) := dq_get dX5_fractionPart_0_t 21 rfl
theorem dX5_fractionPart_41 : decode cX5_fractionPart 41 = .ok (.goto (-32), 3) := dq_get dX5_fractionPart_0_t 22 rfl
theorem dX5_fractionPart_44 : decode cX5_fractionPart 44 = .ok (.lload 5, 2) := dq_get dX5_fractionPart_0_t 23 rfl
theorem dX5_fractionPart_46 : decode cX5_fractionPart 46 = .ok (.lconst 0, 1) := dq_get dX5_fractionPart_0_t 24 rfl
theorem dX5_fractionPart_47 : decode cX5_fractionPart 47 = .ok (.lcmp, 1) := dq_get dX5_fractionPart_0_t 25 rfl
theorem dX5_fractionPart_48 : decode cX5_fractionPart 48 = .ok (.ifCond .ne 7, 3) := dq_get dX5_fractionPart_0_t 26 rfl
theorem dX5_fractionPart_51 : decode cX5_fractionPart 51 = .ok (.ldc2_w 175, 3) := dq_get dX5_fractionPart_0_t 27 rfl
theorem dX5_fractionPart_54 : decode cX5_fractionPart 54 = .ok (.lreturn, 1) := dq_get dX5_fractionPart_0_t 28 rfl
theorem dX5_fractionPart_55 : decode cX5_fractionPart 55 = .ok (.iload 4, 2) := dq_get dX5_fractionPart_0_t 29 rfl
theorem dX5_fractionPart_57 : decode cX5_fractionPart 57 = .ok (.ifCond .ne 7, 3) := dq_get dX5_fractionPart_0_t 30 rfl
theorem dX5_fractionPart_60 : decode cX5_fractionPart 60 = .ok (.lload_n 0, 1) := dq_get dX5_fractionPart_0_t 31 rfl
theorem dX5_fractionPart_61 : decode cX5_fractionPart 61 = .ok (.goto 4, 3) := dq_get dX5_fractionPart_0_t 32 rfl
theorem dX5_fractionPart_64 : decode cX5_fractionPart 64 = .ok (.lload_n 2, 1) := dq_get dX5_fractionPart_0_t 33 rfl
theorem dX5_fractionPart_65 : decode cX5_fractionPart 65 = .ok (.lload 5, 2) := dq_get dX5_fractionPart_0_t 34 rfl
theorem dX5_fractionPart_67 : decode cX5_fractionPart 67 = .ok (.ldiv, 1) := dq_get dX5_fractionPart_0_t 35 rfl
theorem dX5_fractionPart_68 : decode cX5_fractionPart 68 = .ok (.lreturn, 1) := dq_get dX5_fractionPart_0_t 36 rfl
theorem dX5_nextSeed_0_t : dqK cX5_nextSeed.data.toList 0 [(0, .iload_n 0, 1), (1, .ldc_w 277, 3), (4, .imul, 1), (5, .sipush 12345, 3), (8, .iadd, 1), (9, .ireturn, 1)] = true := by decide +kernel
theorem dX5_nextSeed_0 : decode cX5_nextSeed 0 = .ok (.iload_n 0, 1) := dq_get dX5_nextSeed_0_t 0 rfl
theorem dX5_nextSeed_1 : decode cX5_nextSeed 1 = .ok (.ldc_w 277, 3) := dq_get dX5_nextSeed_0_t 1 rfl
theorem dX5_nextSeed_4 : decode cX5_nextSeed 4 = .ok (.imul, 1) := dq_get dX5_nextSeed_0_t 2 rfl
theorem dX5_nextSeed_5 : decode cX5_nextSeed 5 = .ok (.sipush 12345, 3) := dq_get dX5_nextSeed_0_t 3 rfl
theorem dX5_nextSeed_8 : decode cX5_nextSeed 8 = .ok (.iadd, 1) := dq_get dX5_nextSeed_0_t 4 rfl
theorem dX5_nextSeed_9 : decode cX5_nextSeed 9 = .ok (.ireturn, 1) := dq_get dX5_nextSeed_0_t 5 rfl
theorem dX5_drawn_0_t : dqK cX5_drawn.data.toList 0 [(0, .iload_n 1, 1), (1, .ifCond .le 16, 3), (4, .iload_n 0, 1), (5, .bipush 16, 2), (7, .iushr, 1), (8, .sipush 32767, 3), (11, .iand, 1), (12, .iload_n 1, 1), (13, .irem, 1), (14, .goto 4, 3), (17, .iconst 0, 1), (18, .ireturn, 1)] = true := by decide +kernel
theorem dX5_drawn_0 : decode cX5_drawn 0 = .ok (.iload_n 1, 1) := dq_get dX5_drawn_0_t 0 rfl
theorem dX5_drawn_1 : decode cX5_drawn 1 = .ok (.ifCond .le 16, 3) := dq_get dX5_drawn_0_t 1 rfl
theorem dX5_drawn_4 : decode cX5_drawn 4 = .ok (.iload_n 0, 1) := dq_get dX5_drawn_0_t 2 rfl
theorem dX5_drawn_5 : decode cX5_drawn 5 = .ok (.bipush 16, 2) := dq_get dX5_drawn_0_t 3 rfl
theorem dX5_drawn_7 : decode cX5_drawn 7 = .ok (.iushr, 1) := dq_get dX5_drawn_0_t 4 rfl
theorem dX5_drawn_8 : decode cX5_drawn 8 = .ok (.sipush 32767, 3) := dq_get dX5_drawn_0_t 5 rfl
theorem dX5_drawn_11 : decode cX5_drawn 11 = .ok (.iand, 1) := dq_get dX5_drawn_0_t 6 rfl
theorem dX5_drawn_12 : decode cX5_drawn 12 = .ok (.iload_n 1, 1) := dq_get dX5_drawn_0_t 7 rfl
theorem dX5_drawn_13 : decode cX5_drawn 13 = .ok (.irem, 1) := dq_get dX5_drawn_0_t 8 rfl
theorem dX5_drawn_14 : decode cX5_drawn 14 = .ok (.goto 4, 3) := dq_get dX5_drawn_0_t 9 rfl
theorem dX5_drawn_17 : decode cX5_drawn 17 = .ok (.iconst 0, 1) := dq_get dX5_drawn_0_t 10 rfl
theorem dX5_drawn_18 : decode cX5_drawn 18 = .ok (.ireturn, 1) := dq_get dX5_drawn_0_t 11 rfl
theorem gt_wsX5_daysOfChange_wsX50 : GoodIn wsX5_daysOfChange wsX50 := fun w hw => ⟨List.mem_cons_of_mem _ (List.mem_append_left _ (List.mem_append_left _ (List.mem_append_left _ (List.mem_append_right _ hw)))), good_of_word (List.all_eq_true.mp gw_wsX50 w hw)⟩
theorem gt_wsX5_daysOfChange_wsX40 : GoodIn wsX5_daysOfChange wsX40 := fun w hw => ⟨List.mem_cons_of_mem _ (List.mem_append_left _ (List.mem_append_right _ hw)), good_of_word (List.all_eq_true.mp gw_wsX40 w hw)⟩
theorem gt_wsX5_daysOfChange_wsX00 : GoodIn wsX5_daysOfChange wsX00 := fun w hw => ⟨List.mem_cons_of_mem _ (List.mem_append_left _ (List.mem_append_left _ (List.mem_append_right _ hw))), good_of_word (List.all_eq_true.mp gw_wsX00 w hw)⟩
theorem gt_wsX5_daysOfChange_wsX20 : GoodIn wsX5_daysOfChange wsX20 := fun w hw => ⟨List.mem_cons_of_mem _ (List.mem_append_right _ hw), good_of_word (List.all_eq_true.mp gw_wsX20 w hw)⟩
set_option maxRecDepth 20000 in
theorem ggX5_daysOfChange_X5_freshViews : GoodIn wsX5_daysOfChange wsX5_freshViews := goodIn_ca (goodIn_ca (goodIn_ca (goodIn_ca (goodIn_r _ [6, 7, 1, 8, 9, 10, 11, 12, 13, 14, 15, 16, 17, 18, 19, 20, 21, 22, 23, 24, 25, 26, 27, 28, 29, 30, 31, 32, 33, 34, 35, 36, 37, 38, 39] rfl (by decide +kernel)) gt_wsX5_daysOfChange_wsX50) gt_wsX5_daysOfChange_wsX40) gt_wsX5_daysOfChange_wsX00) gt_wsX5_daysOfChange_wsX20
set_option maxRecDepth 20000 in
theorem gX5_daysOfChange_X5_freshViews : GoodIn wsX5_daysOfChange (wsV RX5 112 RX5 yX5_freshViews wsX5_freshViews) := goodIn_app (goodIn_r _ [2, 3, 4, 5] rfl (by decide +kernel)) ggX5_daysOfChange_X5_freshViews
set_option maxRecDepth 20000 in
theorem ggX5_daysOfChange_X4_unlike : GoodIn wsX5_daysOfChange wsX4_unlike := goodIn_ca (goodIn_r _ [43, 13, 14, 44, 45, 46, 11, 47, 21] rfl (by decide +kernel)) gt_wsX5_daysOfChange_wsX40
set_option maxRecDepth 20000 in
theorem gX5_daysOfChange_X4_unlike : GoodIn wsX5_daysOfChange (wsV RX5 155 RX4 yX4_unlike wsX4_unlike) := goodIn_app (goodIn_r _ [40, 41, 42, 11] rfl (by decide +kernel)) ggX5_daysOfChange_X4_unlike
theorem dX5_daysOfChange_0_t : dqK cX5_daysOfChange.data.toList 0 [(0, .aload_n 0, 1), (1, .invokevirtual 112, 3), (4, .astore_n 1, 1), (5, .iconst 0, 1), (6, .istore_n 2, 1), (7, .iconst 1, 1), (8, .istore_n 3, 1), (9, .iload_n 3, 1), (10, .aload_n 0, 1), (11, .getfield 10, 3), (14, .getfield 90, 3), (17, .if_icmp .gt 23, 3), (20, .aload_n 1, 1), (21, .iload_n 3, 1), (22, .iconst 1, 1), (23, .isub, 1), (24, .iload_n 3, 1), (25, .invokevirtual 155, 3), (28, .ifCond .eq 6, 3), (31, .iinc 2 1, 3), (34, .iinc 3 1, 3), (37, .goto (-28), 3), (40, .iload_n 2, 1), (41, .ireturn, 1)] = true := by decide +kernel
theorem dX5_daysOfChange_0 : decode cX5_daysOfChange 0 = .ok (.aload_n 0, 1) := dq_get dX5_daysOfChange_0_t 0 rfl
theorem dX5_daysOfChange_1 : decode cX5_daysOfChange 1 = .ok (.invokevirtual 112, 3) := dq_get dX5_daysOfChange_0_t 1 rfl
theorem dX5_daysOfChange_4 : decode cX5_daysOfChange 4 = .ok (.astore_n 1, 1) := dq_get dX5_daysOfChange_0_t 2 rfl
theorem dX5_daysOfChange_5 : decode cX5_daysOfChange 5 = .ok (.iconst 0, 1) := dq_get dX5_daysOfChange_0_t 3 rfl
theorem dX5_daysOfChange_6 : decode cX5_daysOfChange 6 = .ok (.istore_n 2, 1) := dq_get dX5_daysOfChange_0_t 4 rfl
theorem dX5_daysOfChange_7 : decode cX5_daysOfChange 7 = .ok (.iconst 1, 1) := dq_get dX5_daysOfChange_0_t 5 rfl
theorem dX5_daysOfChange_8 : decode cX5_daysOfChange 8 = .ok (.istore_n 3, 1) := dq_get dX5_daysOfChange_0_t 6 rfl
theorem dX5_daysOfChange_9 : decode cX5_daysOfChange 9 = .ok (.iload_n 3, 1) := dq_get dX5_daysOfChange_0_t 7 rfl
theorem dX5_daysOfChange_10 : decode cX5_daysOfChange 10 = .ok (.aload_n 0, 1) := dq_get dX5_daysOfChange_0_t 8 rfl
theorem dX5_daysOfChange_11 : decode cX5_daysOfChange 11 = .ok (.getfield 10, 3) := dq_get dX5_daysOfChange_0_t 9 rfl
theorem dX5_daysOfChange_14 : decode cX5_daysOfChange 14 = .ok (.getfield 90, 3) := dq_get dX5_daysOfChange_0_t 10 rfl
theorem dX5_daysOfChange_17 : decode cX5_daysOfChange 17 = .ok (.if_icmp .gt 23, 3) := dq_get dX5_daysOfChange_0_t 11 rfl
theorem dX5_daysOfChange_20 : decode cX5_daysOfChange 20 = .ok (.aload_n 1, 1) := dq_get dX5_daysOfChange_0_t 12 rfl
theorem dX5_daysOfChange_21 : decode cX5_daysOfChange 21 = .ok (.iload_n 3, 1) := dq_get dX5_daysOfChange_0_t 13 rfl
theorem dX5_daysOfChange_22 : decode cX5_daysOfChange 22 = .ok (.iconst 1, 1) := dq_get dX5_daysOfChange_0_t 14 rfl
theorem dX5_daysOfChange_23 : decode cX5_daysOfChange 23 = .ok (.isub, 1) := dq_get dX5_daysOfChange_0_t 15 rfl
theorem dX5_daysOfChange_24 : decode cX5_daysOfChange 24 = .ok (.iload_n 3, 1) := dq_get dX5_daysOfChange_0_t 16 rfl
theorem dX5_daysOfChange_25 : decode cX5_daysOfChange 25 = .ok (.invokevirtual 155, 3) := dq_get dX5_daysOfChange_0_t 17 rfl
theorem dX5_daysOfChange_28 : decode cX5_daysOfChange 28 = .ok (.ifCond .eq 6, 3) := dq_get dX5_daysOfChange_0_t 18 rfl
theorem dX5_daysOfChange_31 : decode cX5_daysOfChange 31 = .ok (.iinc 2 1, 3) := dq_get dX5_daysOfChange_0_t 19 rfl
theorem dX5_daysOfChange_34 : decode cX5_daysOfChange 34 = .ok (.iinc 3 1, 3) := dq_get dX5_daysOfChange_0_t 20 rfl
theorem dX5_daysOfChange_37 : decode cX5_daysOfChange 37 = .ok (.goto (-28), 3) := dq_get dX5_daysOfChange_0_t 21 rfl
theorem dX5_daysOfChange_40 : decode cX5_daysOfChange 40 = .ok (.iload_n 2, 1) := dq_get dX5_daysOfChange_0_t 22 rfl
theorem dX5_daysOfChange_41 : decode cX5_daysOfChange 41 = .ok (.ireturn, 1) := dq_get dX5_daysOfChange_0_t 23 rfl
