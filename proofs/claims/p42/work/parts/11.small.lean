theorem gw_wsX00 : (wsX00).all goodWord = true := by decide +kernel
theorem gw_wsX10 : (wsX10).all goodWord = true := by decide +kernel
theorem gw_wsX20 : (wsX20).all goodWord = true := by decide +kernel
theorem gw_wsX30 : (wsX30).all goodWord = true := by decide +kernel
theorem gw_wsX40 : (wsX40).all goodWord = true := by decide +kernel
theorem gw_wsX50 : (wsX50).all goodWord = true := by decide +kernel
theorem gw_wsX60 : (wsX60).all goodWord = true := by decide +kernel
theorem gt_wsX0_init_wsX20 : GoodIn wsX0_init wsX20 := fun w hw => ⟨List.mem_cons_of_mem _ (List.mem_append_right _ hw), good_of_word (List.all_eq_true.mp gw_wsX20 w hw)⟩
set_option maxRecDepth 20000 in
theorem ggX0_init_X2_init : GoodIn wsX0_init wsX2_init := goodIn_ca (goodIn_r _ [17, 18, 2, 3, 19, 7, 20] rfl (by decide +kernel)) gt_wsX0_init_wsX20
set_option maxRecDepth 20000 in
theorem gX0_init_X2_init : GoodIn wsX0_init (wsX2_init) := ggX0_init_X2_init
theorem dX0_init_0_t : dqK cX0_init.data.toList 0 [(0, .aload_n 0, 1), (1, .invokespecial 3, 3), (4, .aload_n 0, 1), (5, .iconst 3, 1), (6, .putfield 9, 3), (9, .aload_n 0, 1), (10, .iconst 3, 1), (11, .putfield 15, 3), (14, .aload_n 0, 1), (15, .bipush 9, 2), (17, .putfield 18, 3), (20, .aload_n 0, 1), (21, .bipush 16, 2), (25, .putfield 21, 3), (28, .aload_n 0, 1), (29, .new 25, 3), (32, .dup, 1), (33, .bipush 10, 2), (35, .invokespecial 27, 3), (38, .putfield 30, 3), (41, .aload_n 0, 1), (42, .new 25, 3), (45, .dup, 1), (46, .bipush 6, 2), (48, .invokespecial 27, 3), (51, .putfield 34, 3), (54, .aload_n 0, 1), (55, .new 25, 3), (58, .dup, 1), (59, .bipush 8, 2), (61, .invokespecial 27, 3), (64, .putfield 37, 3), (67, .return_, 1)] = true := by decide +kernel
theorem dX0_init_0 : decode cX0_init 0 = .ok (.aload_n 0, 1) := dq_get dX0_init_0_t 0 rfl
theorem dX0_init_1 : decode cX0_init 1 = .ok (.invokespecial 3, 3) := dq_get dX0_init_0_t 1 rfl
theorem dX0_init_4 : decode cX0_init 4 = .ok (.aload_n 0, 1) := dq_get dX0_init_0_t 2 rfl
theorem dX0_init_5 : decode cX0_init 5 = .ok (.iconst 3, 1) := dq_get dX0_init_0_t 3 rfl
theorem dX0_init_6 : decode cX0_init 6 = .ok (.putfield 9, 3) := dq_get dX0_init_0_t 4 rfl
theorem dX0_init_9 : decode cX0_init 9 = .ok (.aload_n 0, 1) := dq_get dX0_init_0_t 5 rfl
theorem dX0_init_10 : decode cX0_init 10 = .ok (.iconst 3, 1) := dq_get dX0_init_0_t 6 rfl
theorem dX0_init_11 : decode cX0_init 11 = .ok (.putfield 15, 3) := dq_get dX0_init_0_t 7 rfl
theorem dX0_init_14 : decode cX0_init 14 = .ok (.aload_n 0, 1) := dq_get dX0_init_0_t 8 rfl
theorem dX0_init_15 : decode cX0_init 15 = .ok (.bipush 9, 2) := dq_get dX0_init_0_t 9 rfl
theorem dX0_init_17 : decode cX0_init 17 = .ok (.putfield 18, 3) := dq_get dX0_init_0_t 10 rfl
theorem dX0_init_20 : decode cX0_init 20 = .ok (.aload_n 0, 1) := dq_get dX0_init_0_t 11 rfl
theorem dX0_init_21 : decode cX0_init 21 = .ok (.bipush 16, 2) := dq_get dX0_init_0_t 12 rfl
theorem dX0_init_25 : decode cX0_init 25 = .ok (.putfield 21, 3) := dq_get dX0_init_0_t 13 rfl
theorem dX0_init_28 : decode cX0_init 28 = .ok (.aload_n 0, 1) := dq_get dX0_init_0_t 14 rfl
theorem dX0_init_29 : decode cX0_init 29 = .ok (.new 25, 3) := dq_get dX0_init_0_t 15 rfl
theorem dX0_init_32 : decode cX0_init 32 = .ok (.dup, 1) := dq_get dX0_init_0_t 16 rfl
theorem dX0_init_33 : decode cX0_init 33 = .ok (.bipush 10, 2) := dq_get dX0_init_0_t 17 rfl
theorem dX0_init_35 : decode cX0_init 35 = .ok (.invokespecial 27, 3) := dq_get dX0_init_0_t 18 rfl
theorem dX0_init_38 : decode cX0_init 38 = .ok (.putfield 30, 3) := dq_get dX0_init_0_t 19 rfl
theorem dX0_init_41 : decode cX0_init 41 = .ok (.aload_n 0, 1) := dq_get dX0_init_0_t 20 rfl
theorem dX0_init_42 : decode cX0_init 42 = .ok (.new 25, 3) := dq_get dX0_init_0_t 21 rfl
theorem dX0_init_45 : decode cX0_init 45 = .ok (.dup, 1) := dq_get dX0_init_0_t 22 rfl
theorem dX0_init_46 : decode cX0_init 46 = .ok (.bipush 6, 2) := dq_get dX0_init_0_t 23 rfl
theorem dX0_init_48 : decode cX0_init 48 = .ok (.invokespecial 27, 3) := dq_get dX0_init_0_t 24 rfl
theorem dX0_init_51 : decode cX0_init 51 = .ok (.putfield 34, 3) := dq_get dX0_init_0_t 25 rfl
theorem dX0_init_54 : decode cX0_init 54 = .ok (.aload_n 0, 1) := dq_get dX0_init_0_t 26 rfl
theorem dX0_init_55 : decode cX0_init 55 = .ok (.new 25, 3) := dq_get dX0_init_0_t 27 rfl
theorem dX0_init_58 : decode cX0_init 58 = .ok (.dup, 1) := dq_get dX0_init_0_t 28 rfl
theorem dX0_init_59 : decode cX0_init 59 = .ok (.bipush 8, 2) := dq_get dX0_init_0_t 29 rfl
theorem dX0_init_61 : decode cX0_init 61 = .ok (.invokespecial 27, 3) := dq_get dX0_init_0_t 30 rfl
theorem dX0_init_64 : decode cX0_init 64 = .ok (.putfield 37, 3) := dq_get dX0_init_0_t 31 rfl
theorem dX0_init_67 : decode cX0_init 67 = .ok (.return_, 1) := dq_get dX0_init_0_t 32 rfl
theorem dX0_init_23 : decode cX0_init 23 = .ok (.newarray .int, 2) := by decide +kernel
set_option maxRecDepth 20000 in
theorem ggX0_empty_J7_fill_53178 : GoodIn wsX0_empty wsJ7_fill_53178 := goodIn_r _ [11] rfl (by decide +kernel)
set_option maxRecDepth 20000 in
theorem gX0_empty_J7_fill_53178 : GoodIn wsX0_empty (va_wsS RX0 40 yJ7_fill_53178 wsJ7_fill_53178) := goodIn_app (goodIn_r _ [8, 9, 10] rfl (by decide +kernel)) ggX0_empty_J7_fill_53178
theorem dX0_empty_0_t : dqK cX0_empty.data.toList 0 [(0, .aload_n 0, 1), (1, .iconst 3, 1), (2, .putfield 9, 3), (5, .aload_n 0, 1), (6, .iconst 3, 1), (7, .putfield 15, 3), (10, .aload_n 0, 1), (11, .bipush 9, 2), (13, .putfield 18, 3), (16, .aload_n 0, 1), (17, .getfield 21, 3), (20, .iconst 0, 1), (21, .invokestatic 40, 3), (24, .aload_n 0, 1), (25, .getfield 30, 3), (28, .iconst 0, 1), (29, .putfield 46, 3), (32, .aload_n 0, 1), (33, .getfield 34, 3), (36, .iconst 0, 1), (37, .putfield 46, 3), (40, .aload_n 0, 1), (41, .getfield 37, 3), (44, .iconst 0, 1), (45, .putfield 46, 3), (48, .return_, 1)] = true := by decide +kernel
theorem dX0_empty_0 : decode cX0_empty 0 = .ok (.aload_n 0, 1) := dq_get dX0_empty_0_t 0 rfl
theorem dX0_empty_1 : decode cX0_empty 1 = .ok (.iconst 3, 1) := dq_get dX0_empty_0_t 1 rfl
theorem dX0_empty_2 : decode cX0_empty 2 = .ok (.putfield 9, 3) := dq_get dX0_empty_0_t 2 rfl
theorem dX0_empty_5 : decode cX0_empty 5 = .ok (.aload_n 0, 1) := dq_get dX0_empty_0_t 3 rfl
theorem dX0_empty_6 : decode cX0_empty 6 = .ok (.iconst 3, 1) := dq_get dX0_empty_0_t 4 rfl
theorem dX0_empty_7 : decode cX0_empty 7 = .ok (.putfield 15, 3) := dq_get dX0_empty_0_t 5 rfl
theorem dX0_empty_10 : decode cX0_empty 10 = .ok (.aload_n 0, 1) := dq_get dX0_empty_0_t 6 rfl
theorem dX0_empty_11 : decode cX0_empty 11 = .ok (.bipush 9, 2) := dq_get dX0_empty_0_t 7 rfl
theorem dX0_empty_13 : decode cX0_empty 13 = .ok (.putfield 18, 3) := dq_get dX0_empty_0_t 8 rfl
theorem dX0_empty_16 : decode cX0_empty 16 = .ok (.aload_n 0, 1) := dq_get dX0_empty_0_t 9 rfl
theorem dX0_empty_17 : decode cX0_empty 17 = .ok (.getfield 21, 3) := dq_get dX0_empty_0_t 10 rfl
theorem dX0_empty_20 : decode cX0_empty 20 = .ok (.iconst 0, 1) := dq_get dX0_empty_0_t 11 rfl
theorem dX0_empty_21 : decode cX0_empty 21 = .ok (.invokestatic 40, 3) := dq_get dX0_empty_0_t 12 rfl
theorem dX0_empty_24 : decode cX0_empty 24 = .ok (.aload_n 0, 1) := dq_get dX0_empty_0_t 13 rfl
theorem dX0_empty_25 : decode cX0_empty 25 = .ok (.getfield 30, 3) := dq_get dX0_empty_0_t 14 rfl
theorem dX0_empty_28 : decode cX0_empty 28 = .ok (.iconst 0, 1) := dq_get dX0_empty_0_t 15 rfl
theorem dX0_empty_29 : decode cX0_empty 29 = .ok (.putfield 46, 3) := dq_get dX0_empty_0_t 16 rfl
theorem dX0_empty_32 : decode cX0_empty 32 = .ok (.aload_n 0, 1) := dq_get dX0_empty_0_t 17 rfl
theorem dX0_empty_33 : decode cX0_empty 33 = .ok (.getfield 34, 3) := dq_get dX0_empty_0_t 18 rfl
theorem dX0_empty_36 : decode cX0_empty 36 = .ok (.iconst 0, 1) := dq_get dX0_empty_0_t 19 rfl
theorem dX0_empty_37 : decode cX0_empty 37 = .ok (.putfield 46, 3) := dq_get dX0_empty_0_t 20 rfl
theorem dX0_empty_40 : decode cX0_empty 40 = .ok (.aload_n 0, 1) := dq_get dX0_empty_0_t 21 rfl
theorem dX0_empty_41 : decode cX0_empty 41 = .ok (.getfield 37, 3) := dq_get dX0_empty_0_t 22 rfl
theorem dX0_empty_44 : decode cX0_empty 44 = .ok (.iconst 0, 1) := dq_get dX0_empty_0_t 23 rfl
theorem dX0_empty_45 : decode cX0_empty 45 = .ok (.putfield 46, 3) := dq_get dX0_empty_0_t 24 rfl
theorem dX0_empty_48 : decode cX0_empty 48 = .ok (.return_, 1) := dq_get dX0_empty_0_t 25 rfl
theorem gt_wsX0_become_wsX20 : GoodIn wsX0_become wsX20 := fun w hw => ⟨List.mem_cons_of_mem _ (List.mem_append_right _ hw), good_of_word (List.all_eq_true.mp gw_wsX20 w hw)⟩
set_option maxRecDepth 20000 in
theorem ggX0_become_X2_become : GoodIn wsX0_become wsX2_become := goodIn_ca (goodIn_r _ [16, 17, 18, 19, 6, 7, 8] rfl (by decide +kernel)) gt_wsX0_become_wsX20
set_option maxRecDepth 20000 in
theorem gX0_become_X2_become : GoodIn wsX0_become (wsV RX0 55 RX2 yX2_become wsX2_become) := goodIn_app (goodIn_r _ [12, 13, 14, 15] rfl (by decide +kernel)) ggX0_become_X2_become
theorem dX0_become_0_t : dqK cX0_become.data.toList 0 [(0, .aload_n 0, 1), (1, .aload_n 1, 1), (2, .getfield 9, 3), (5, .putfield 9, 3), (8, .aload_n 0, 1), (9, .aload_n 1, 1), (10, .getfield 15, 3), (13, .putfield 15, 3), (16, .aload_n 0, 1), (17, .aload_n 1, 1), (18, .getfield 18, 3), (21, .putfield 18, 3), (24, .aload_n 1, 1), (25, .getfield 21, 3), (28, .iconst 0, 1), (29, .aload_n 0, 1), (30, .getfield 21, 3), (33, .iconst 0, 1), (34, .bipush 16, 2), (36, .invokestatic 49, 3), (39, .aload_n 0, 1), (40, .getfield 30, 3), (43, .aload_n 1, 1), (44, .getfield 30, 3), (47, .invokevirtual 55, 3), (50, .aload_n 0, 1), (51, .getfield 34, 3), (54, .aload_n 1, 1), (55, .getfield 34, 3), (58, .invokevirtual 55, 3), (61, .aload_n 0, 1), (62, .getfield 37, 3), (65, .aload_n 1, 1), (66, .getfield 37, 3), (69, .invokevirtual 55, 3), (72, .return_, 1)] = true := by decide +kernel
theorem dX0_become_0 : decode cX0_become 0 = .ok (.aload_n 0, 1) := dq_get dX0_become_0_t 0 rfl
theorem dX0_become_1 : decode cX0_become 1 = .ok (.aload_n 1, 1) := dq_get dX0_become_0_t 1 rfl
theorem dX0_become_2 : decode cX0_become 2 = .ok (.getfield 9, 3) := dq_get dX0_become_0_t 2 rfl
theorem dX0_become_5 : decode cX0_become 5 = .ok (.putfield 9, 3) := dq_get dX0_become_0_t 3 rfl
theorem dX0_become_8 : decode cX0_become 8 = .ok (.aload_n 0, 1) := dq_get dX0_become_0_t 4 rfl
theorem dX0_become_9 : decode cX0_become 9 = .ok (.aload_n 1, 1) := dq_get dX0_become_0_t 5 rfl
theorem dX0_become_10 : decode cX0_become 10 = .ok (.getfield 15, 3) := dq_get dX0_become_0_t 6 rfl
theorem dX0_become_13 : decode cX0_become 13 = .ok (.putfield 15, 3) := dq_get dX0_become_0_t 7 rfl
theorem dX0_become_16 : decode cX0_become 16 = .ok (.aload_n 0, 1) := dq_get dX0_become_0_t 8 rfl
theorem dX0_become_17 : decode cX0_become 17 = .ok (.aload_n 1, 1) := dq_get dX0_become_0_t 9 rfl
theorem dX0_become_18 : decode cX0_become 18 = .ok (.getfield 18, 3) := dq_get dX0_become_0_t 10 rfl
theorem dX0_become_21 : decode cX0_become 21 = .ok (.putfield 18, 3) := dq_get dX0_become_0_t 11 rfl
theorem dX0_become_24 : decode cX0_become 24 = .ok (.aload_n 1, 1) := dq_get dX0_become_0_t 12 rfl
theorem dX0_become_25 : decode cX0_become 25 = .ok (.getfield 21, 3) := dq_get dX0_become_0_t 13 rfl
theorem dX0_become_28 : decode cX0_become 28 = .ok (.iconst 0, 1) := dq_get dX0_become_0_t 14 rfl
theorem dX0_become_29 : decode cX0_become 29 = .ok (.aload_n 0, 1) := dq_get dX0_become_0_t 15 rfl
theorem dX0_become_30 : decode cX0_become 30 = .ok (.getfield 21, 3) := dq_get dX0_become_0_t 16 rfl
theorem dX0_become_33 : decode cX0_become 33 = .ok (.iconst 0, 1) := dq_get dX0_become_0_t 17 rfl
theorem dX0_become_34 : decode cX0_become 34 = .ok (.bipush 16, 2) := dq_get dX0_become_0_t 18 rfl
theorem dX0_become_36 : decode cX0_become 36 = .ok (.invokestatic 49, 3) := dq_get dX0_become_0_t 19 rfl
theorem dX0_become_39 : decode cX0_become 39 = .ok (.aload_n 0, 1) := dq_get dX0_become_0_t 20 rfl
theorem dX0_become_40 : decode cX0_become 40 = .ok (.getfield 30, 3) := dq_get dX0_become_0_t 21 rfl
theorem dX0_become_43 : decode cX0_become 43 = .ok (.aload_n 1, 1) := dq_get dX0_become_0_t 22 rfl
theorem dX0_become_44 : decode cX0_become 44 = .ok (.getfield 30, 3) := dq_get dX0_become_0_t 23 rfl
theorem dX0_become_47 : decode cX0_become 47 = .ok (.invokevirtual 55, 3) := dq_get dX0_become_0_t 24 rfl
theorem dX0_become_50 : decode cX0_become 50 = .ok (.aload_n 0, 1) := dq_get dX0_become_0_t 25 rfl
theorem dX0_become_51 : decode cX0_become 51 = .ok (.getfield 34, 3) := dq_get dX0_become_0_t 26 rfl
theorem dX0_become_54 : decode cX0_become 54 = .ok (.aload_n 1, 1) := dq_get dX0_become_0_t 27 rfl
theorem dX0_become_55 : decode cX0_become 55 = .ok (.getfield 34, 3) := dq_get dX0_become_0_t 28 rfl
theorem dX0_become_58 : decode cX0_become 58 = .ok (.invokevirtual 55, 3) := dq_get dX0_become_0_t 29 rfl
theorem dX0_become_61 : decode cX0_become 61 = .ok (.aload_n 0, 1) := dq_get dX0_become_0_t 30 rfl
theorem dX0_become_62 : decode cX0_become 62 = .ok (.getfield 37, 3) := dq_get dX0_become_0_t 31 rfl
theorem dX0_become_65 : decode cX0_become 65 = .ok (.aload_n 1, 1) := dq_get dX0_become_0_t 32 rfl
theorem dX0_become_66 : decode cX0_become 66 = .ok (.getfield 37, 3) := dq_get dX0_become_0_t 33 rfl
theorem dX0_become_69 : decode cX0_become 69 = .ok (.invokevirtual 55, 3) := dq_get dX0_become_0_t 34 rfl
theorem dX0_become_72 : decode cX0_become 72 = .ok (.return_, 1) := dq_get dX0_become_0_t 35 rfl
theorem dX0_cells_0_t : dqK cX0_cells.data.toList 0 [(0, .aload_n 0, 1), (1, .getfield 9, 3), (4, .aload_n 0, 1), (5, .getfield 15, 3), (8, .imul, 1), (9, .ireturn, 1)] = true := by decide +kernel
theorem dX0_cells_0 : decode cX0_cells 0 = .ok (.aload_n 0, 1) := dq_get dX0_cells_0_t 0 rfl
theorem dX0_cells_1 : decode cX0_cells 1 = .ok (.getfield 9, 3) := dq_get dX0_cells_0_t 1 rfl
theorem dX0_cells_4 : decode cX0_cells 4 = .ok (.aload_n 0, 1) := dq_get dX0_cells_0_t 2 rfl
theorem dX0_cells_5 : decode cX0_cells 5 = .ok (.getfield 15, 3) := dq_get dX0_cells_0_t 3 rfl
theorem dX0_cells_8 : decode cX0_cells 8 = .ok (.imul, 1) := dq_get dX0_cells_0_t 4 rfl
theorem dX0_cells_9 : decode cX0_cells 9 = .ok (.ireturn, 1) := dq_get dX0_cells_0_t 5 rfl
theorem dX0_hasCell_0_t : dqK cX0_hasCell.data.toList 0 [(0, .iload_n 1, 1), (1, .ifCond .lt 20, 3), (4, .iload_n 1, 1), (5, .aload_n 0, 1), (6, .getfield 9, 3), (9, .aload_n 0, 1), (10, .getfield 15, 3), (13, .imul, 1), (14, .if_icmp .ge 7, 3), (17, .iconst 1, 1), (18, .goto 4, 3), (21, .iconst 0, 1), (22, .ireturn, 1)] = true := by decide +kernel
theorem dX0_hasCell_0 : decode cX0_hasCell 0 = .ok (.iload_n 1, 1) := dq_get dX0_hasCell_0_t 0 rfl
theorem dX0_hasCell_1 : decode cX0_hasCell 1 = .ok (.ifCond .lt 20, 3) := dq_get dX0_hasCell_0_t 1 rfl
theorem dX0_hasCell_4 : decode cX0_hasCell 4 = .ok (.iload_n 1, 1) := dq_get dX0_hasCell_0_t 2 rfl
theorem dX0_hasCell_5 : decode cX0_hasCell 5 = .ok (.aload_n 0, 1) := dq_get dX0_hasCell_0_t 3 rfl
theorem dX0_hasCell_6 : decode cX0_hasCell 6 = .ok (.getfield 9, 3) := dq_get dX0_hasCell_0_t 4 rfl
theorem dX0_hasCell_9 : decode cX0_hasCell 9 = .ok (.aload_n 0, 1) := dq_get dX0_hasCell_0_t 5 rfl
theorem dX0_hasCell_10 : decode cX0_hasCell 10 = .ok (.getfield 15, 3) := dq_get dX0_hasCell_0_t 6 rfl
theorem dX0_hasCell_13 : decode cX0_hasCell 13 = .ok (.imul, 1) := dq_get dX0_hasCell_0_t 7 rfl
theorem dX0_hasCell_14 : decode cX0_hasCell 14 = .ok (.if_icmp .ge 7, 3) := dq_get dX0_hasCell_0_t 8 rfl
theorem dX0_hasCell_17 : decode cX0_hasCell 17 = .ok (.iconst 1, 1) := dq_get dX0_hasCell_0_t 9 rfl
theorem dX0_hasCell_18 : decode cX0_hasCell 18 = .ok (.goto 4, 3) := dq_get dX0_hasCell_0_t 10 rfl
theorem dX0_hasCell_21 : decode cX0_hasCell 21 = .ok (.iconst 0, 1) := dq_get dX0_hasCell_0_t 11 rfl
theorem dX0_hasCell_22 : decode cX0_hasCell 22 = .ok (.ireturn, 1) := dq_get dX0_hasCell_0_t 12 rfl
theorem dX0_hasDay_0_t : dqK cX0_hasDay.data.toList 0 [(0, .iload_n 1, 1), (1, .ifCond .lt 15, 3), (4, .iload_n 1, 1), (5, .aload_n 0, 1), (6, .getfield 18, 3), (9, .if_icmp .gt 7, 3), (12, .iconst 1, 1), (13, .goto 4, 3), (16, .iconst 0, 1), (17, .ireturn, 1)] = true := by decide +kernel
theorem dX0_hasDay_0 : decode cX0_hasDay 0 = .ok (.iload_n 1, 1) := dq_get dX0_hasDay_0_t 0 rfl
theorem dX0_hasDay_1 : decode cX0_hasDay 1 = .ok (.ifCond .lt 15, 3) := dq_get dX0_hasDay_0_t 1 rfl
theorem dX0_hasDay_4 : decode cX0_hasDay 4 = .ok (.iload_n 1, 1) := dq_get dX0_hasDay_0_t 2 rfl
theorem dX0_hasDay_5 : decode cX0_hasDay 5 = .ok (.aload_n 0, 1) := dq_get dX0_hasDay_0_t 3 rfl
theorem dX0_hasDay_6 : decode cX0_hasDay 6 = .ok (.getfield 18, 3) := dq_get dX0_hasDay_0_t 4 rfl
theorem dX0_hasDay_9 : decode cX0_hasDay 9 = .ok (.if_icmp .gt 7, 3) := dq_get dX0_hasDay_0_t 5 rfl
theorem dX0_hasDay_12 : decode cX0_hasDay 12 = .ok (.iconst 1, 1) := dq_get dX0_hasDay_0_t 6 rfl
theorem dX0_hasDay_13 : decode cX0_hasDay 13 = .ok (.goto 4, 3) := dq_get dX0_hasDay_0_t 7 rfl
theorem dX0_hasDay_16 : decode cX0_hasDay 16 = .ok (.iconst 0, 1) := dq_get dX0_hasDay_0_t 8 rfl
theorem dX0_hasDay_17 : decode cX0_hasDay 17 = .ok (.ireturn, 1) := dq_get dX0_hasDay_0_t 9 rfl
theorem gt_wsX0_takeChange_wsX00 : GoodIn wsX0_takeChange wsX00 := fun w hw => ⟨List.mem_cons_of_mem _ (List.mem_append_left _ (List.mem_append_right _ hw)), good_of_word (List.all_eq_true.mp gw_wsX00 w hw)⟩
set_option maxRecDepth 20000 in
theorem ggX0_takeChange_X0_hasDay : GoodIn wsX0_takeChange wsX0_hasDay := goodIn_ca (goodIn_r _ [6, 7] rfl (by decide +kernel)) gt_wsX0_takeChange_wsX00
set_option maxRecDepth 20000 in
theorem gX0_takeChange_X0_hasDay : GoodIn wsX0_takeChange (wsV RX0 59 RX0 yX0_hasDay wsX0_hasDay) := goodIn_app (goodIn_r _ [2, 3, 4, 5] rfl (by decide +kernel)) ggX0_takeChange_X0_hasDay
set_option maxRecDepth 20000 in
theorem ggX0_takeChange_X0_hasCell : GoodIn wsX0_takeChange wsX0_hasCell := goodIn_ca (goodIn_r _ [11, 12, 13] rfl (by decide +kernel)) gt_wsX0_takeChange_wsX00
set_option maxRecDepth 20000 in
theorem gX0_takeChange_X0_hasCell : GoodIn wsX0_takeChange (wsV RX0 63 RX0 yX0_hasCell wsX0_hasCell) := goodIn_app (goodIn_r _ [8, 9, 10, 5] rfl (by decide +kernel)) ggX0_takeChange_X0_hasCell
set_option maxRecDepth 20000 in
theorem ggX0_takeChange_X5_isMark : GoodIn wsX0_takeChange wsX5_isMark := goodIn_r _ [16] rfl (by decide +kernel)
set_option maxRecDepth 20000 in
theorem gX0_takeChange_X5_isMark_n66 : GoodIn wsX0_takeChange (wsX5_isMark) := ggX0_takeChange_X5_isMark
theorem gt_wsX0_takeChange_wsX20 : GoodIn wsX0_takeChange wsX20 := fun w hw => ⟨List.mem_cons_of_mem _ (List.mem_append_right _ hw), good_of_word (List.all_eq_true.mp gw_wsX20 w hw)⟩
set_option maxRecDepth 20000 in
theorem ggX0_takeChange_X2_add : GoodIn wsX0_takeChange wsX2_add := goodIn_ca (goodIn_r _ [21, 22, 23, 24] rfl (by decide +kernel)) gt_wsX0_takeChange_wsX20
set_option maxRecDepth 20000 in
theorem gX0_takeChange_X2_add : GoodIn wsX0_takeChange (wsV RX0 69 RX2 yX2_add wsX2_add) := goodIn_app (goodIn_r _ [17, 18, 19, 20] rfl (by decide +kernel)) ggX0_takeChange_X2_add
theorem dX0_takeChange_0_t : dqK cX0_takeChange.data.toList 0 [(0, .aload_n 0, 1), (1, .iload_n 1, 1), (2, .invokevirtual 59, 3), (5, .ifCond .eq 18, 3), (8, .aload_n 0, 1), (9, .iload_n 2, 1), (10, .invokevirtual 63, 3), (13, .ifCond .eq 10, 3), (16, .iload_n 3, 1), (17, .invokestatic 66, 3), (20, .ifCond .ne 5, 3), (23, .iconst (-1), 1), (24, .ireturn, 1), (25, .aload_n 0, 1), (26, .getfield 30, 3), (29, .iload_n 1, 1), (30, .iload_n 2, 1), (31, .iload_n 3, 1), (32, .invokevirtual 69, 3), (35, .ireturn, 1)] = true := by decide +kernel
theorem dX0_takeChange_0 : decode cX0_takeChange 0 = .ok (.aload_n 0, 1) := dq_get dX0_takeChange_0_t 0 rfl
theorem dX0_takeChange_1 : decode cX0_takeChange 1 = .ok (.iload_n 1, 1) := dq_get dX0_takeChange_0_t 1 rfl
theorem dX0_takeChange_2 : decode cX0_takeChange 2 = .ok (.invokevirtual 59, 3) := dq_get dX0_takeChange_0_t 2 rfl
theorem dX0_takeChange_5 : decode cX0_takeChange 5 = .ok (.ifCond .eq 18, 3) := dq_get dX0_takeChange_0_t 3 rfl
theorem dX0_takeChange_8 : decode cX0_takeChange 8 = .ok (.aload_n 0, 1) := dq_get dX0_takeChange_0_t 4 rfl
theorem dX0_takeChange_9 : decode cX0_takeChange 9 = .ok (.iload_n 2, 1) := dq_get dX0_takeChange_0_t 5 rfl
theorem dX0_takeChange_10 : decode cX0_takeChange 10 = .ok (.invokevirtual 63, 3) := dq_get dX0_takeChange_0_t 6 rfl
theorem dX0_takeChange_13 : decode cX0_takeChange 13 = .ok (.ifCond .eq 10, 3) := dq_get dX0_takeChange_0_t 7 rfl
theorem dX0_takeChange_16 : decode cX0_takeChange 16 = .ok (.iload_n 3, 1) := dq_get dX0_takeChange_0_t 8 rfl
theorem dX0_takeChange_17 : decode cX0_takeChange 17 = .ok (.invokestatic 66, 3) := dq_get dX0_takeChange_0_t 9 rfl
theorem dX0_takeChange_20 : decode cX0_takeChange 20 = .ok (.ifCond .ne 5, 3) := dq_get dX0_takeChange_0_t 10 rfl
theorem dX0_takeChange_23 : decode cX0_takeChange 23 = .ok (.iconst (-1), 1) := dq_get dX0_takeChange_0_t 11 rfl
theorem dX0_takeChange_24 : decode cX0_takeChange 24 = .ok (.ireturn, 1) := dq_get dX0_takeChange_0_t 12 rfl
theorem dX0_takeChange_25 : decode cX0_takeChange 25 = .ok (.aload_n 0, 1) := dq_get dX0_takeChange_0_t 13 rfl
theorem dX0_takeChange_26 : decode cX0_takeChange 26 = .ok (.getfield 30, 3) := dq_get dX0_takeChange_0_t 14 rfl
theorem dX0_takeChange_29 : decode cX0_takeChange 29 = .ok (.iload_n 1, 1) := dq_get dX0_takeChange_0_t 15 rfl
theorem dX0_takeChange_30 : decode cX0_takeChange 30 = .ok (.iload_n 2, 1) := dq_get dX0_takeChange_0_t 16 rfl
theorem dX0_takeChange_31 : decode cX0_takeChange 31 = .ok (.iload_n 3, 1) := dq_get dX0_takeChange_0_t 17 rfl
theorem dX0_takeChange_32 : decode cX0_takeChange 32 = .ok (.invokevirtual 69, 3) := dq_get dX0_takeChange_0_t 18 rfl
theorem dX0_takeChange_35 : decode cX0_takeChange 35 = .ok (.ireturn, 1) := dq_get dX0_takeChange_0_t 19 rfl
theorem gt_wsX1_init_wsX00 : GoodIn wsX1_init wsX00 := fun w hw => ⟨List.mem_cons_of_mem _ (List.mem_append_left _ (List.mem_append_left _ (List.mem_append_right _ hw))), good_of_word (List.all_eq_true.mp gw_wsX00 w hw)⟩
theorem gt_wsX1_init_wsX20 : GoodIn wsX1_init wsX20 := fun w hw => ⟨List.mem_cons_of_mem _ (List.mem_append_right _ hw), good_of_word (List.all_eq_true.mp gw_wsX20 w hw)⟩
set_option maxRecDepth 20000 in
theorem ggX1_init_X0_init : GoodIn wsX1_init wsX0_init := goodIn_ca (goodIn_ca (goodIn_r _ [12, 13, 2, 3, 14, 15, 16, 17, 18, 19, 20, 21, 22, 23, 24, 25, 26, 27, 28, 29, 30] rfl (by decide +kernel)) gt_wsX1_init_wsX00) gt_wsX1_init_wsX20
set_option maxRecDepth 20000 in
theorem gX1_init_X0_init : GoodIn wsX1_init (wsX0_init) := ggX1_init_X0_init
theorem dX1_init_0_t : dqK cX1_init.data.toList 0 [(0, .aload_n 0, 1), (1, .invokespecial 3, 3), (4, .aload_n 0, 1), (5, .new 9, 3), (8, .dup, 1), (9, .invokespecial 11, 3), (12, .putfield 12, 3), (15, .aload_n 0, 1), (16, .sipush 160, 3), (21, .putfield 18, 3), (24, .return_, 1)] = true := by decide +kernel
theorem dX1_init_0 : decode cX1_init 0 = .ok (.aload_n 0, 1) := dq_get dX1_init_0_t 0 rfl
theorem dX1_init_1 : decode cX1_init 1 = .ok (.invokespecial 3, 3) := dq_get dX1_init_0_t 1 rfl
theorem dX1_init_4 : decode cX1_init 4 = .ok (.aload_n 0, 1) := dq_get dX1_init_0_t 2 rfl
theorem dX1_init_5 : decode cX1_init 5 = .ok (.new 9, 3) := dq_get dX1_init_0_t 3 rfl
theorem dX1_init_8 : decode cX1_init 8 = .ok (.dup, 1) := dq_get dX1_init_0_t 4 rfl
theorem dX1_init_9 : decode cX1_init 9 = .ok (.invokespecial 11, 3) := dq_get dX1_init_0_t 5 rfl
theorem dX1_init_12 : decode cX1_init 12 = .ok (.putfield 12, 3) := dq_get dX1_init_0_t 6 rfl
theorem dX1_init_15 : decode cX1_init 15 = .ok (.aload_n 0, 1) := dq_get dX1_init_0_t 7 rfl
theorem dX1_init_16 : decode cX1_init 16 = .ok (.sipush 160, 3) := dq_get dX1_init_0_t 8 rfl
theorem dX1_init_21 : decode cX1_init 21 = .ok (.putfield 18, 3) := dq_get dX1_init_0_t 9 rfl
theorem dX1_init_24 : decode cX1_init 24 = .ok (.return_, 1) := dq_get dX1_init_0_t 10 rfl
theorem dX1_init_19 : decode cX1_init 19 = .ok (.newarray .byte, 2) := by decide +kernel
theorem dX1_put_0_t : dqK cX1_put.data.toList 0 [(0, .aload_n 0, 1), (1, .getfield 22, 3), (4, .sipush 160, 3), (7, .if_icmp .lt 6, 3), (10, .bipush (-3), 2), (12, .ireturn, 1), (13, .aload_n 0, 1), (14, .getfield 18, 3), (17, .aload_n 0, 1), (18, .getfield 22, 3), (21, .iload_n 1, 1), (22, .i2b, 1), (23, .bastore, 1), (24, .aload_n 0, 1), (25, .dup, 1), (26, .getfield 22, 3), (29, .iconst 1, 1), (30, .iadd, 1), (31, .putfield 22, 3), (34, .aload_n 0, 1), (35, .getfield 22, 3), (38, .ireturn, 1)] = true := by decide +kernel
theorem dX1_put_0 : decode cX1_put 0 = .ok (.aload_n 0, 1) := dq_get dX1_put_0_t 0 rfl
theorem dX1_put_1 : decode cX1_put 1 = .ok (.getfield 22, 3) := dq_get dX1_put_0_t 1 rfl
theorem dX1_put_4 : decode cX1_put 4 = .ok (.sipush 160, 3) := dq_get dX1_put_0_t 2 rfl
theorem dX1_put_7 : decode cX1_put 7 = .ok (.if_icmp .lt 6, 3) := dq_get dX1_put_0_t 3 rfl
theorem dX1_put_10 : decode cX1_put 10 = .ok (.bipush (-3), 2) := dq_get dX1_put_0_t 4 rfl
theorem dX1_put_12 : decode cX1_put 12 = .ok (.ireturn, 1) := dq_get dX1_put_0_t 5 rfl
theorem dX1_put_13 : decode cX1_put 13 = .ok (.aload_n 0, 1) := dq_get dX1_put_0_t 6 rfl
theorem dX1_put_14 : decode cX1_put 14 = .ok (.getfield 18, 3) := dq_get dX1_put_0_t 7 rfl
theorem dX1_put_17 : decode cX1_put 17 = .ok (.aload_n 0, 1) := dq_get dX1_put_0_t 8 rfl
theorem dX1_put_18 : decode cX1_put 18 = .ok (.getfield 22, 3) := dq_get dX1_put_0_t 9 rfl
theorem dX1_put_21 : decode cX1_put 21 = .ok (.iload_n 1, 1) := dq_get dX1_put_0_t 10 rfl
theorem dX1_put_22 : decode cX1_put 22 = .ok (.i2b, 1) := dq_get dX1_put_0_t 11 rfl
theorem dX1_put_23 : decode cX1_put 23 = .ok (.bastore, 1) := dq_get dX1_put_0_t 12 rfl
theorem dX1_put_24 : decode cX1_put 24 = .ok (.aload_n 0, 1) := dq_get dX1_put_0_t 13 rfl
theorem dX1_put_25 : decode cX1_put 25 = .ok (.dup, 1) := dq_get dX1_put_0_t 14 rfl
theorem dX1_put_26 : decode cX1_put 26 = .ok (.getfield 22, 3) := dq_get dX1_put_0_t 15 rfl
theorem dX1_put_29 : decode cX1_put 29 = .ok (.iconst 1, 1) := dq_get dX1_put_0_t 16 rfl
theorem dX1_put_30 : decode cX1_put 30 = .ok (.iadd, 1) := dq_get dX1_put_0_t 17 rfl
theorem dX1_put_31 : decode cX1_put 31 = .ok (.putfield 22, 3) := dq_get dX1_put_0_t 18 rfl
theorem dX1_put_34 : decode cX1_put 34 = .ok (.aload_n 0, 1) := dq_get dX1_put_0_t 19 rfl
theorem dX1_put_35 : decode cX1_put 35 = .ok (.getfield 22, 3) := dq_get dX1_put_0_t 20 rfl
theorem dX1_put_38 : decode cX1_put 38 = .ok (.ireturn, 1) := dq_get dX1_put_0_t 21 rfl
theorem dX1_shorten_0_t : dqK cX1_shorten.data.toList 0 [(0, .iload_n 1, 1), (1, .ifCond .lt 11, 3), (4, .iload_n 1, 1), (5, .aload_n 0, 1), (6, .getfield 22, 3), (9, .if_icmp .le 5, 3), (12, .iconst (-1), 1), (13, .ireturn, 1), (14, .aload_n 0, 1), (15, .getfield 22, 3), (18, .istore_n 2, 1), (19, .aload_n 0, 1), (20, .iload_n 1, 1), (21, .putfield 22, 3), (24, .iload_n 2, 1), (25, .ireturn, 1)] = true := by decide +kernel
theorem dX1_shorten_0 : decode cX1_shorten 0 = .ok (.iload_n 1, 1) := dq_get dX1_shorten_0_t 0 rfl
theorem dX1_shorten_1 : decode cX1_shorten 1 = .ok (.ifCond .lt 11, 3) := dq_get dX1_shorten_0_t 1 rfl
theorem dX1_shorten_4 : decode cX1_shorten 4 = .ok (.iload_n 1, 1) := dq_get dX1_shorten_0_t 2 rfl
theorem dX1_shorten_5 : decode cX1_shorten 5 = .ok (.aload_n 0, 1) := dq_get dX1_shorten_0_t 3 rfl
theorem dX1_shorten_6 : decode cX1_shorten 6 = .ok (.getfield 22, 3) := dq_get dX1_shorten_0_t 4 rfl
theorem dX1_shorten_9 : decode cX1_shorten 9 = .ok (.if_icmp .le 5, 3) := dq_get dX1_shorten_0_t 5 rfl
theorem dX1_shorten_12 : decode cX1_shorten 12 = .ok (.iconst (-1), 1) := dq_get dX1_shorten_0_t 6 rfl
theorem dX1_shorten_13 : decode cX1_shorten 13 = .ok (.ireturn, 1) := dq_get dX1_shorten_0_t 7 rfl
theorem dX1_shorten_14 : decode cX1_shorten 14 = .ok (.aload_n 0, 1) := dq_get dX1_shorten_0_t 8 rfl
theorem dX1_shorten_15 : decode cX1_shorten 15 = .ok (.getfield 22, 3) := dq_get dX1_shorten_0_t 9 rfl
theorem dX1_shorten_18 : decode cX1_shorten 18 = .ok (.istore_n 2, 1) := dq_get dX1_shorten_0_t 10 rfl
theorem dX1_shorten_19 : decode cX1_shorten 19 = .ok (.aload_n 0, 1) := dq_get dX1_shorten_0_t 11 rfl
theorem dX1_shorten_20 : decode cX1_shorten 20 = .ok (.iload_n 1, 1) := dq_get dX1_shorten_0_t 12 rfl
theorem dX1_shorten_21 : decode cX1_shorten 21 = .ok (.putfield 22, 3) := dq_get dX1_shorten_0_t 13 rfl
theorem dX1_shorten_24 : decode cX1_shorten 24 = .ok (.iload_n 2, 1) := dq_get dX1_shorten_0_t 14 rfl
theorem dX1_shorten_25 : decode cX1_shorten 25 = .ok (.ireturn, 1) := dq_get dX1_shorten_0_t 15 rfl
theorem gt_wsX1_readTape_wsX00 : GoodIn wsX1_readTape wsX00 := fun w hw => ⟨List.mem_cons_of_mem _ (List.mem_append_left _ (List.mem_append_right _ hw)), good_of_word (List.all_eq_true.mp gw_wsX00 w hw)⟩
theorem gt_wsX1_readTape_wsX20 : GoodIn wsX1_readTape wsX20 := fun w hw => ⟨List.mem_cons_of_mem _ (List.mem_append_right _ hw), good_of_word (List.all_eq_true.mp gw_wsX20 w hw)⟩
set_option maxRecDepth 20000 in
theorem ggX1_readTape_X0_empty : GoodIn wsX1_readTape wsX0_empty := goodIn_ca (goodIn_ca (goodIn_r _ [15, 16, 17, 18, 19, 20, 21, 22, 23, 24, 25, 26] rfl (by decide +kernel)) gt_wsX1_readTape_wsX00) gt_wsX1_readTape_wsX20
set_option maxRecDepth 20000 in
theorem gX1_readTape_X0_empty : GoodIn wsX1_readTape (wsV RX1 48 RX0 yX0_empty wsX0_empty) := goodIn_app (goodIn_r _ [11, 12, 13, 14] rfl (by decide +kernel)) ggX1_readTape_X0_empty
theorem gt_wsX1_readTape_wsX10 : GoodIn wsX1_readTape wsX10 := fun w hw => ⟨List.mem_cons_of_mem _ (List.mem_append_left _ (List.mem_append_left _ (List.mem_append_right _ hw))), good_of_word (List.all_eq_true.mp gw_wsX10 w hw)⟩
set_option maxRecDepth 20000 in
theorem ggX1_readTape_X1_takeToken : GoodIn wsX1_readTape wsX1_takeToken := goodIn_ca (goodIn_r _ [31, 1, 9, 32, 33, 10, 34, 35, 36, 30, 37, 38, 39, 40, 41, 42, 43, 44, 2, 3] rfl (by decide +kernel)) gt_wsX1_readTape_wsX10
set_option maxRecDepth 20000 in
theorem gX1_readTape_X1_takeToken : GoodIn wsX1_readTape (wsV RX1 51 RX1 yX1_takeToken wsX1_takeToken) := goodIn_app (goodIn_r _ [27, 28, 29, 30] rfl (by decide +kernel)) ggX1_readTape_X1_takeToken
set_option maxRecDepth 20000 in
theorem ggX1_readTape_X1_takeLine : GoodIn wsX1_readTape wsX1_takeLine := goodIn_ca (goodIn_ca (goodIn_ca (goodIn_r _ [48, 10, 33, 41, 42, 43, 30, 44, 2, 3, 49, 50, 51, 52, 1, 32, 53, 54, 55, 56, 57, 58, 59, 60, 61, 62, 63, 64, 65, 66, 67, 68, 69, 70, 71, 72, 73, 74, 75, 76, 77, 78, 79, 80, 81, 82, 83, 84, 85, 86, 87, 88, 89, 90, 91, 92, 93, 94, 95, 96, 97, 98, 99, 100, 101, 102, 103, 104, 105, 5, 8, 34, 106, 107, 108, 109, 27, 28, 29, 31, 9, 35, 36, 37, 38, 39, 40, 110, 111, 112, 113, 114, 115, 116, 117, 118, 119, 120, 121, 6, 122, 123, 124, 125, 7, 126, 127, 128, 129, 130, 131, 132, 133, 134, 135, 136, 137, 138, 139, 140, 141] rfl (by decide +kernel)) gt_wsX1_readTape_wsX10) gt_wsX1_readTape_wsX00) gt_wsX1_readTape_wsX20
set_option maxRecDepth 20000 in
theorem gX1_readTape_X1_takeLine : GoodIn wsX1_readTape (wsV RX1 58 RX1 yX1_takeLine wsX1_takeLine) := goodIn_app (goodIn_r _ [45, 46, 47, 30] rfl (by decide +kernel)) ggX1_readTape_X1_takeLine
set_option maxRecDepth 20000 in
theorem ggX1_readTape_X1_allIsThere : GoodIn wsX1_readTape wsX1_allIsThere := goodIn_ca (goodIn_ca (goodIn_ca (goodIn_r _ [145, 8, 7, 146, 147, 148, 14, 149, 16, 17, 150, 151, 152, 133, 153, 137, 154, 155, 156, 157, 18, 158, 159, 160, 161] rfl (by decide +kernel)) gt_wsX1_readTape_wsX10) gt_wsX1_readTape_wsX00) gt_wsX1_readTape_wsX20
set_option maxRecDepth 20000 in
theorem gX1_readTape_X1_allIsThere : GoodIn wsX1_readTape (wsV RX1 61 RX1 yX1_allIsThere wsX1_allIsThere) := goodIn_app (goodIn_r _ [142, 143, 144, 30] rfl (by decide +kernel)) ggX1_readTape_X1_allIsThere
set_option maxRecDepth 20000 in
theorem ggX1_readTape_X1_refuse : GoodIn wsX1_readTape wsX1_refuse := goodIn_ca (goodIn_r _ [44, 2, 3] rfl (by decide +kernel)) gt_wsX1_readTape_wsX10
set_option maxRecDepth 20000 in
theorem gX1_readTape_X1_refuse : GoodIn wsX1_readTape (wsV RX1 64 RX1 yX1_refuse wsX1_refuse) := goodIn_app (goodIn_r _ [41, 42, 43, 30] rfl (by decide +kernel)) ggX1_readTape_X1_refuse
theorem dX1_readTape_0_t : dqK cX1_readTape.data.toList 0 [(0, .aload_n 0, 1), (1, .iconst 0, 1), (2, .putfield 26, 3), (5, .aload_n 0, 1), (6, .iconst 0, 1), (7, .putfield 29, 3), (10, .aload_n 0, 1), (11, .iconst 0, 1), (12, .putfield 32, 3), (15, .aload_n 0, 1), (16, .iconst 0, 1), (17, .putfield 35, 3), (20, .aload_n 0, 1), (21, .iconst 0, 1), (22, .putfield 38, 3), (25, .aload_n 0, 1), (26, .iconst 0, 1), (27, .putfield 42, 3), (30, .aload_n 0, 1), (31, .iconst 0, 1), (32, .putfield 45, 3), (35, .aload_n 0, 1), (36, .getfield 12, 3), (39, .invokevirtual 48, 3), (42, .iconst 1, 1), (43, .istore_n 1, 1), (44, .iconst 0, 1), (45, .istore_n 2, 1), (46, .iload_n 2, 1), (47, .aload_n 0, 1), (48, .getfield 22, 3), (51, .if_icmp .gt 54, 3), (54, .iload_n 1, 1), (55, .ifCond .eq 50, 3), (58, .aload_n 0, 1), (59, .invokevirtual 51, 3), (62, .ifCond .eq 21, 3), (65, .aload_n 0, 1), (66, .getfield 55, 3), (69, .ifCond .eq 14, 3)] = true := by decide +kernel
theorem dX1_readTape_0 : decode cX1_readTape 0 = .ok (.aload_n 0, 1) := dq_get dX1_readTape_0_t 0 rfl
theorem dX1_readTape_1 : decode cX1_readTape 1 = .ok (.iconst 0, 1) := dq_get dX1_readTape_0_t 1 rfl
theorem dX1_readTape_2 : decode cX1_readTape 2 = .ok (.putfield 26, 3) := dq_get dX1_readTape_0_t 2 rfl
theorem dX1_readTape_5 : decode cX1_readTape 5 = .ok (.aload_n 0, 1) := dq_get dX1_readTape_0_t 3 rfl
theorem dX1_readTape_6 : decode cX1_readTape 6 = .ok (.iconst 0, 1) := dq_get dX1_readTape_0_t 4 rfl
theorem dX1_readTape_7 : decode cX1_readTape 7 = .ok (.putfield 29, 3) := dq_get dX1_readTape_0_t 5 rfl
theorem dX1_readTape_10 : decode cX1_readTape 10 = .ok (.aload_n 0, 1) := dq_get dX1_readTape_0_t 6 rfl
theorem dX1_readTape_11 : decode cX1_readTape 11 = .ok (.iconst 0, 1) := dq_get dX1_readTape_0_t 7 rfl
theorem dX1_readTape_12 : decode cX1_readTape 12 = .ok (.putfield 32, 3) := dq_get dX1_readTape_0_t 8 rfl
theorem dX1_readTape_15 : decode cX1_readTape 15 = .ok (.aload_n 0, 1) := dq_get dX1_readTape_0_t 9 rfl
theorem dX1_readTape_16 : decode cX1_readTape 16 = .ok (.iconst 0, 1) := dq_get dX1_readTape_0_t 10 rfl
theorem dX1_readTape_17 : decode cX1_readTape 17 = .ok (.putfield 35, 3) := dq_get dX1_readTape_0_t 11 rfl
theorem dX1_readTape_20 : decode cX1_readTape 20 = .ok (.aload_n 0, 1) := dq_get dX1_readTape_0_t 12 rfl
theorem dX1_readTape_21 : decode cX1_readTape 21 = .ok (.iconst 0, 1) := dq_get dX1_readTape_0_t 13 rfl
theorem dX1_readTape_22 : decode cX1_readTape 22 = .ok (.putfield 38, 3) := dq_get dX1_readTape_0_t 14 rfl
theorem dX1_readTape_25 : decode cX1_readTape 25 = .ok (.aload_n 0, 1) := dq_get dX1_readTape_0_t 15 rfl
theorem dX1_readTape_26 : decode cX1_readTape 26 = .ok (.iconst 0, 1) := dq_get dX1_readTape_0_t 16 rfl
theorem dX1_readTape_27 : decode cX1_readTape 27 = .ok (.putfield 42, 3) := dq_get dX1_readTape_0_t 17 rfl
theorem dX1_readTape_30 : decode cX1_readTape 30 = .ok (.aload_n 0, 1) := dq_get dX1_readTape_0_t 18 rfl
theorem dX1_readTape_31 : decode cX1_readTape 31 = .ok (.iconst 0, 1) := dq_get dX1_readTape_0_t 19 rfl
theorem dX1_readTape_32 : decode cX1_readTape 32 = .ok (.putfield 45, 3) := dq_get dX1_readTape_0_t 20 rfl
theorem dX1_readTape_35 : decode cX1_readTape 35 = .ok (.aload_n 0, 1) := dq_get dX1_readTape_0_t 21 rfl
theorem dX1_readTape_36 : decode cX1_readTape 36 = .ok (.getfield 12, 3) := dq_get dX1_readTape_0_t 22 rfl
theorem dX1_readTape_39 : decode cX1_readTape 39 = .ok (.invokevirtual 48, 3) := dq_get dX1_readTape_0_t 23 rfl
theorem dX1_readTape_42 : decode cX1_readTape 42 = .ok (.iconst 1, 1) := dq_get dX1_readTape_0_t 24 rfl
theorem dX1_readTape_43 : decode cX1_readTape 43 = .ok (.istore_n 1, 1) := dq_get dX1_readTape_0_t 25 rfl
theorem dX1_readTape_44 : decode cX1_readTape 44 = .ok (.iconst 0, 1) := dq_get dX1_readTape_0_t 26 rfl
theorem dX1_readTape_45 : decode cX1_readTape 45 = .ok (.istore_n 2, 1) := dq_get dX1_readTape_0_t 27 rfl
theorem dX1_readTape_46 : decode cX1_readTape 46 = .ok (.iload_n 2, 1) := dq_get dX1_readTape_0_t 28 rfl
theorem dX1_readTape_47 : decode cX1_readTape 47 = .ok (.aload_n 0, 1) := dq_get dX1_readTape_0_t 29 rfl
theorem dX1_readTape_48 : decode cX1_readTape 48 = .ok (.getfield 22, 3) := dq_get dX1_readTape_0_t 30 rfl
theorem dX1_readTape_51 : decode cX1_readTape 51 = .ok (.if_icmp .gt 54, 3) := dq_get dX1_readTape_0_t 31 rfl
theorem dX1_readTape_54 : decode cX1_readTape 54 = .ok (.iload_n 1, 1) := dq_get dX1_readTape_0_t 32 rfl
theorem dX1_readTape_55 : decode cX1_readTape 55 = .ok (.ifCond .eq 50, 3) := dq_get dX1_readTape_0_t 33 rfl
theorem dX1_readTape_58 : decode cX1_readTape 58 = .ok (.aload_n 0, 1) := dq_get dX1_readTape_0_t 34 rfl
theorem dX1_readTape_59 : decode cX1_readTape 59 = .ok (.invokevirtual 51, 3) := dq_get dX1_readTape_0_t 35 rfl
theorem dX1_readTape_62 : decode cX1_readTape 62 = .ok (.ifCond .eq 21, 3) := dq_get dX1_readTape_0_t 36 rfl
theorem dX1_readTape_65 : decode cX1_readTape 65 = .ok (.aload_n 0, 1) := dq_get dX1_readTape_0_t 37 rfl
theorem dX1_readTape_66 : decode cX1_readTape 66 = .ok (.getfield 55, 3) := dq_get dX1_readTape_0_t 38 rfl
theorem dX1_readTape_69 : decode cX1_readTape 69 = .ok (.ifCond .eq 14, 3) := dq_get dX1_readTape_0_t 39 rfl
theorem dX1_readTape_72_t : dqK cX1_readTape.data.toList 0 [(72, .aload_n 0, 1), (73, .invokevirtual 58, 3), (76, .ifCond .eq 7, 3), (79, .iconst 1, 1), (80, .goto 4, 3), (83, .iconst 0, 1), (84, .istore_n 1, 1), (85, .iload_n 1, 1), (86, .ifCond .eq 13, 3), (89, .aload_n 0, 1), (90, .dup, 1), (91, .getfield 35, 3), (94, .iconst 1, 1), (95, .iadd, 1), (96, .putfield 35, 3), (99, .iinc 2 1, 3), (102, .goto (-56), 3), (105, .aload_n 0, 1), (106, .getfield 29, 3), (109, .ifCond .ne 21, 3), (112, .aload_n 0, 1), (113, .invokevirtual 61, 3), (116, .ifCond .ne 14, 3), (119, .aload_n 0, 1), (120, .bipush 6, 2), (122, .aload_n 0, 1), (123, .getfield 22, 3), (126, .invokevirtual 64, 3), (129, .pop, 1), (130, .aload_n 0, 1), (131, .iconst 0, 1), (132, .putfield 22, 3), (135, .aload_n 0, 1), (136, .getfield 29, 3), (139, .ireturn, 1)] = true := by decide +kernel
theorem dX1_readTape_72 : decode cX1_readTape 72 = .ok (.aload_n 0, 1) := dq_get dX1_readTape_72_t 0 rfl
theorem dX1_readTape_73 : decode cX1_readTape 73 = .ok (.invokevirtual 58, 3) := dq_get dX1_readTape_72_t 1 rfl
theorem dX1_readTape_76 : decode cX1_readTape 76 = .ok (.ifCond .eq 7, 3) := dq_get dX1_readTape_72_t 2 rfl
theorem dX1_readTape_79 : decode cX1_readTape 79 = .ok (.iconst 1, 1) := dq_get dX1_readTape_72_t 3 rfl
theorem dX1_readTape_80 : decode cX1_readTape 80 = .ok (.goto 4, 3) := dq_get dX1_readTape_72_t 4 rfl
theorem dX1_readTape_83 : decode cX1_readTape 83 = .ok (.iconst 0, 1) := dq_get dX1_readTape_72_t 5 rfl
theorem dX1_readTape_84 : decode cX1_readTape 84 = .ok (.istore_n 1, 1) := dq_get dX1_readTape_72_t 6 rfl
theorem dX1_readTape_85 : decode cX1_readTape 85 = .ok (.iload_n 1, 1) := dq_get dX1_readTape_72_t 7 rfl
theorem dX1_readTape_86 : decode cX1_readTape 86 = .ok (.ifCond .eq 13, 3) := dq_get dX1_readTape_72_t 8 rfl
theorem dX1_readTape_89 : decode cX1_readTape 89 = .ok (.aload_n 0, 1) := dq_get dX1_readTape_72_t 9 rfl
theorem dX1_readTape_90 : decode cX1_readTape 90 = .ok (.dup, 1) := dq_get dX1_readTape_72_t 10 rfl
theorem dX1_readTape_91 : decode cX1_readTape 91 = .ok (.getfield 35, 3) := dq_get dX1_readTape_72_t 11 rfl
theorem dX1_readTape_94 : decode cX1_readTape 94 = .ok (.iconst 1, 1) := dq_get dX1_readTape_72_t 12 rfl
theorem dX1_readTape_95 : decode cX1_readTape 95 = .ok (.iadd, 1) := dq_get dX1_readTape_72_t 13 rfl
theorem dX1_readTape_96 : decode cX1_readTape 96 = .ok (.putfield 35, 3) := dq_get dX1_readTape_72_t 14 rfl
theorem dX1_readTape_99 : decode cX1_readTape 99 = .ok (.iinc 2 1, 3) := dq_get dX1_readTape_72_t 15 rfl
theorem dX1_readTape_102 : decode cX1_readTape 102 = .ok (.goto (-56), 3) := dq_get dX1_readTape_72_t 16 rfl
theorem dX1_readTape_105 : decode cX1_readTape 105 = .ok (.aload_n 0, 1) := dq_get dX1_readTape_72_t 17 rfl
theorem dX1_readTape_106 : decode cX1_readTape 106 = .ok (.getfield 29, 3) := dq_get dX1_readTape_72_t 18 rfl
theorem dX1_readTape_109 : decode cX1_readTape 109 = .ok (.ifCond .ne 21, 3) := dq_get dX1_readTape_72_t 19 rfl
theorem dX1_readTape_112 : decode cX1_readTape 112 = .ok (.aload_n 0, 1) := dq_get dX1_readTape_72_t 20 rfl
theorem dX1_readTape_113 : decode cX1_readTape 113 = .ok (.invokevirtual 61, 3) := dq_get dX1_readTape_72_t 21 rfl
theorem dX1_readTape_116 : decode cX1_readTape 116 = .ok (.ifCond .ne 14, 3) := dq_get dX1_readTape_72_t 22 rfl
theorem dX1_readTape_119 : decode cX1_readTape 119 = .ok (.aload_n 0, 1) := dq_get dX1_readTape_72_t 23 rfl
theorem dX1_readTape_120 : decode cX1_readTape 120 = .ok (.bipush 6, 2) := dq_get dX1_readTape_72_t 24 rfl
theorem dX1_readTape_122 : decode cX1_readTape 122 = .ok (.aload_n 0, 1) := dq_get dX1_readTape_72_t 25 rfl
theorem dX1_readTape_123 : decode cX1_readTape 123 = .ok (.getfield 22, 3) := dq_get dX1_readTape_72_t 26 rfl
theorem dX1_readTape_126 : decode cX1_readTape 126 = .ok (.invokevirtual 64, 3) := dq_get dX1_readTape_72_t 27 rfl
theorem dX1_readTape_129 : decode cX1_readTape 129 = .ok (.pop, 1) := dq_get dX1_readTape_72_t 28 rfl
theorem dX1_readTape_130 : decode cX1_readTape 130 = .ok (.aload_n 0, 1) := dq_get dX1_readTape_72_t 29 rfl
theorem dX1_readTape_131 : decode cX1_readTape 131 = .ok (.iconst 0, 1) := dq_get dX1_readTape_72_t 30 rfl
theorem dX1_readTape_132 : decode cX1_readTape 132 = .ok (.putfield 22, 3) := dq_get dX1_readTape_72_t 31 rfl
theorem dX1_readTape_135 : decode cX1_readTape 135 = .ok (.aload_n 0, 1) := dq_get dX1_readTape_72_t 32 rfl
theorem dX1_readTape_136 : decode cX1_readTape 136 = .ok (.getfield 29, 3) := dq_get dX1_readTape_72_t 33 rfl
theorem dX1_readTape_139 : decode cX1_readTape 139 = .ok (.ireturn, 1) := dq_get dX1_readTape_72_t 34 rfl
theorem gt_wsX1_allIsThere_wsX00 : GoodIn wsX1_allIsThere wsX00 := fun w hw => ⟨List.mem_cons_of_mem _ (List.mem_append_left _ (List.mem_append_right _ hw)), good_of_word (List.all_eq_true.mp gw_wsX00 w hw)⟩
set_option maxRecDepth 20000 in
theorem ggX1_allIsThere_X0_cells : GoodIn wsX1_allIsThere wsX0_cells := goodIn_ca (goodIn_r _ [7, 8, 9] rfl (by decide +kernel)) gt_wsX1_allIsThere_wsX00
set_option maxRecDepth 20000 in
theorem gX1_allIsThere_X0_cells : GoodIn wsX1_allIsThere (wsV RX1 68 RX0 yX0_cells wsX0_cells) := goodIn_app (goodIn_r _ [3, 4, 5, 6] rfl (by decide +kernel)) ggX1_allIsThere_X0_cells
theorem gt_wsX1_allIsThere_wsX20 : GoodIn wsX1_allIsThere wsX20 := fun w hw => ⟨List.mem_cons_of_mem _ (List.mem_append_right _ hw), good_of_word (List.all_eq_true.mp gw_wsX20 w hw)⟩
set_option maxRecDepth 20000 in
theorem ggX1_allIsThere_X2_number : GoodIn wsX1_allIsThere wsX2_number := goodIn_ca (goodIn_r _ [14, 15] rfl (by decide +kernel)) gt_wsX1_allIsThere_wsX20
set_option maxRecDepth 20000 in
theorem gX1_allIsThere_X2_number : GoodIn wsX1_allIsThere (wsV RX1 81 RX2 yX2_number wsX2_number) := goodIn_app (goodIn_r _ [10, 11, 12, 13] rfl (by decide +kernel)) ggX1_allIsThere_X2_number
set_option maxRecDepth 20000 in
theorem ggX1_allIsThere_X0_hasDay : GoodIn wsX1_allIsThere wsX0_hasDay := goodIn_ca (goodIn_r _ [19, 20] rfl (by decide +kernel)) gt_wsX1_allIsThere_wsX00
set_option maxRecDepth 20000 in
theorem gX1_allIsThere_X0_hasDay : GoodIn wsX1_allIsThere (wsV RX1 85 RX0 yX0_hasDay wsX0_hasDay) := goodIn_app (goodIn_r _ [16, 17, 18, 6] rfl (by decide +kernel)) ggX1_allIsThere_X0_hasDay
set_option maxRecDepth 20000 in
theorem ggX1_allIsThere_X0_hasCell : GoodIn wsX1_allIsThere wsX0_hasCell := goodIn_ca (goodIn_r _ [24, 8, 9] rfl (by decide +kernel)) gt_wsX1_allIsThere_wsX00
set_option maxRecDepth 20000 in
theorem gX1_allIsThere_X0_hasCell : GoodIn wsX1_allIsThere (wsV RX1 89 RX0 yX0_hasCell wsX0_hasCell) := goodIn_app (goodIn_r _ [21, 22, 23, 6] rfl (by decide +kernel)) ggX1_allIsThere_X0_hasCell
theorem dX1_allIsThere_0_t : dqK cX1_allIsThere.data.toList 0 [(0, .aload_n 0, 1), (1, .getfield 12, 3), (4, .invokevirtual 68, 3), (7, .istore_n 1, 1), (8, .iconst 0, 1), (9, .istore_n 2, 1), (10, .iload_n 2, 1), (11, .aload_n 0, 1), (12, .getfield 12, 3), (15, .getfield 72, 3), (18, .getfield 76, 3), (21, .if_icmp .ge 55, 3), (24, .aload_n 0, 1), (25, .getfield 12, 3), (28, .aload_n 0, 1), (29, .getfield 12, 3), (32, .getfield 72, 3), (35, .iload_n 2, 1), (36, .iconst 0, 1), (37, .invokevirtual 81, 3), (40, .invokevirtual 85, 3), (43, .ifCond .eq 25, 3), (46, .aload_n 0, 1), (47, .getfield 12, 3), (50, .aload_n 0, 1), (51, .getfield 12, 3), (54, .getfield 72, 3), (57, .iload_n 2, 1), (58, .iconst 1, 1), (59, .invokevirtual 81, 3), (62, .invokevirtual 89, 3), (65, .ifCond .ne 5, 3), (68, .iconst 0, 1), (69, .ireturn, 1), (70, .iinc 2 1, 3), (73, .goto (-63), 3), (76, .iconst 0, 1), (77, .istore_n 2, 1), (78, .iload_n 2, 1), (79, .aload_n 0, 1)] = true := by decide +kernel
theorem dX1_allIsThere_0 : decode cX1_allIsThere 0 = .ok (.aload_n 0, 1) := dq_get dX1_allIsThere_0_t 0 rfl
theorem dX1_allIsThere_1 : decode cX1_allIsThere 1 = .ok (.getfield 12, 3) := dq_get dX1_allIsThere_0_t 1 rfl
theorem dX1_allIsThere_4 : decode cX1_allIsThere 4 = .ok (.invokevirtual 68, 3) := dq_get dX1_allIsThere_0_t 2 rfl
theorem dX1_allIsThere_7 : decode cX1_allIsThere 7 = .ok (.istore_n 1, 1) := dq_get dX1_allIsThere_0_t 3 rfl
theorem dX1_allIsThere_8 : decode cX1_allIsThere 8 = .ok (.iconst 0, 1) := dq_get dX1_allIsThere_0_t 4 rfl
theorem dX1_allIsThere_9 : decode cX1_allIsThere 9 = .ok (.istore_n 2, 1) := dq_get dX1_allIsThere_0_t 5 rfl
theorem dX1_allIsThere_10 : decode cX1_allIsThere 10 = .ok (.iload_n 2, 1) := dq_get dX1_allIsThere_0_t 6 rfl
theorem dX1_allIsThere_11 : decode cX1_allIsThere 11 = .ok (.aload_n 0, 1) := dq_get dX1_allIsThere_0_t 7 rfl
theorem dX1_allIsThere_12 : decode cX1_allIsThere 12 = .ok (.getfield 12, 3) := dq_get dX1_allIsThere_0_t 8 rfl
theorem dX1_allIsThere_15 : decode cX1_allIsThere 15 = .ok (.getfield 72, 3) := dq_get dX1_allIsThere_0_t 9 rfl
theorem dX1_allIsThere_18 : decode cX1_allIsThere 18 = .ok (.getfield 76, 3) := dq_get dX1_allIsThere_0_t 10 rfl
theorem dX1_allIsThere_21 : decode cX1_allIsThere 21 = .ok (.if_icmp .ge 55, 3) := dq_get dX1_allIsThere_0_t 11 rfl
theorem dX1_allIsThere_24 : decode cX1_allIsThere 24 = .ok (.aload_n 0, 1) := dq_get dX1_allIsThere_0_t 12 rfl
theorem dX1_allIsThere_25 : decode cX1_allIsThere 25 = .ok (.getfield 12, 3) := dq_get dX1_allIsThere_0_t 13 rfl
theorem dX1_allIsThere_28 : decode cX1_allIsThere 28 = .ok (.aload_n 0, 1) := dq_get dX1_allIsThere_0_t 14 rfl
theorem dX1_allIsThere_29 : decode cX1_allIsThere 29 = .ok (.getfield 12, 3) := dq_get dX1_allIsThere_0_t 15 rfl
theorem dX1_allIsThere_32 : decode cX1_allIsThere 32 = .ok (.getfield 72, 3) := dq_get dX1_allIsThere_0_t 16 rfl
theorem dX1_allIsThere_35 : decode cX1_allIsThere 35 = .ok (.iload_n 2, 1) := dq_get dX1_allIsThere_0_t 17 rfl
theorem dX1_allIsThere_36 : decode cX1_allIsThere 36 = .ok (.iconst 0, 1) := dq_get dX1_allIsThere_0_t 18 rfl
theorem dX1_allIsThere_37 : decode cX1_allIsThere 37 = .ok (.invokevirtual 81, 3) := dq_get dX1_allIsThere_0_t 19 rfl
theorem dX1_allIsThere_40 : decode cX1_allIsThere 40 = .ok (.invokevirtual 85, 3) := dq_get dX1_allIsThere_0_t 20 rfl
theorem dX1_allIsThere_43 : decode cX1_allIsThere 43 = .ok (.ifCond .eq 25, 3) := dq_get dX1_allIsThere_0_t 21 rfl
theorem dX1_allIsThere_46 : decode cX1_allIsThere 46 = .ok (.aload_n 0, 1) := dq_get dX1_allIsThere_0_t 22 rfl
theorem dX1_allIsThere_47 : decode cX1_allIsThere 47 = .ok (.getfield 12, 3) := dq_get dX1_allIsThere_0_t 23 rfl
theorem dX1_allIsThere_50 : decode cX1_allIsThere 50 = .ok (.aload_n 0, 1) := dq_get dX1_allIsThere_0_t 24 rfl
theorem dX1_allIsThere_51 : decode cX1_allIsThere 51 = .ok (.getfield 12, 3) := dq_get dX1_allIsThere_0_t 25 rfl
theorem dX1_allIsThere_54 : decode cX1_allIsThere 54 = .ok (.getfield 72, 3) := dq_get dX1_allIsThere_0_t 26 rfl
theorem dX1_allIsThere_57 : decode cX1_allIsThere 57 = .ok (.iload_n 2, 1) := dq_get dX1_allIsThere_0_t 27 rfl
theorem dX1_allIsThere_58 : decode cX1_allIsThere 58 = .ok (.iconst 1, 1) := dq_get dX1_allIsThere_0_t 28 rfl
theorem dX1_allIsThere_59 : decode cX1_allIsThere 59 = .ok (.invokevirtual 81, 3) := dq_get dX1_allIsThere_0_t 29 rfl
theorem dX1_allIsThere_62 : decode cX1_allIsThere 62 = .ok (.invokevirtual 89, 3) := dq_get dX1_allIsThere_0_t 30 rfl
theorem dX1_allIsThere_65 : decode cX1_allIsThere 65 = .ok (.ifCond .ne 5, 3) := dq_get dX1_allIsThere_0_t 31 rfl
theorem dX1_allIsThere_68 : decode cX1_allIsThere 68 = .ok (.iconst 0, 1) := dq_get dX1_allIsThere_0_t 32 rfl
theorem dX1_allIsThere_69 : decode cX1_allIsThere 69 = .ok (.ireturn, 1) := dq_get dX1_allIsThere_0_t 33 rfl
theorem dX1_allIsThere_70 : decode cX1_allIsThere 70 = .ok (.iinc 2 1, 3) := dq_get dX1_allIsThere_0_t 34 rfl
theorem dX1_allIsThere_73 : decode cX1_allIsThere 73 = .ok (.goto (-63), 3) := dq_get dX1_allIsThere_0_t 35 rfl
theorem dX1_allIsThere_76 : decode cX1_allIsThere 76 = .ok (.iconst 0, 1) := dq_get dX1_allIsThere_0_t 36 rfl
theorem dX1_allIsThere_77 : decode cX1_allIsThere 77 = .ok (.istore_n 2, 1) := dq_get dX1_allIsThere_0_t 37 rfl
theorem dX1_allIsThere_78 : decode cX1_allIsThere 78 = .ok (.iload_n 2, 1) := dq_get dX1_allIsThere_0_t 38 rfl
theorem dX1_allIsThere_79 : decode cX1_allIsThere 79 = .ok (.aload_n 0, 1) := dq_get dX1_allIsThere_0_t 39 rfl
theorem dX1_allIsThere_80_t : dqK cX1_allIsThere.data.toList 0 [(80, .getfield 12, 3), (83, .getfield 92, 3), (86, .getfield 76, 3), (89, .if_icmp .ge 50, 3), (92, .aload_n 0, 1), (93, .getfield 12, 3), (96, .aload_n 0, 1), (97, .getfield 12, 3), (100, .getfield 92, 3), (103, .iload_n 2, 1), (104, .iconst 0, 1), (105, .invokevirtual 81, 3), (108, .invokevirtual 85, 3), (111, .ifCond .eq 20, 3), (114, .aload_n 0, 1), (115, .getfield 12, 3), (118, .getfield 92, 3), (121, .iload_n 2, 1), (122, .iconst 1, 1), (123, .invokevirtual 81, 3), (126, .iload_n 1, 1), (127, .iushr, 1), (128, .ifCond .eq 5, 3), (131, .iconst 0, 1), (132, .ireturn, 1), (133, .iinc 2 1, 3), (136, .goto (-58), 3), (139, .aload_n 0, 1), (140, .getfield 45, 3), (143, .iload_n 1, 1), (144, .iushr, 1), (145, .ifCond .ne 7, 3), (148, .iconst 1, 1), (149, .goto 4, 3), (152, .iconst 0, 1), (153, .ireturn, 1)] = true := by decide +kernel
theorem dX1_allIsThere_80 : decode cX1_allIsThere 80 = .ok (.getfield 12, 3) := dq_get dX1_allIsThere_80_t 0 rfl
theorem dX1_allIsThere_83 : decode cX1_allIsThere 83 = .ok (.getfield 92, 3) := dq_get dX1_allIsThere_80_t 1 rfl
theorem dX1_allIsThere_86 : decode cX1_allIsThere 86 = .ok (.getfield 76, 3) := dq_get dX1_allIsThere_80_t 2 rfl
theorem dX1_allIsThere_89 : decode cX1_allIsThere 89 = .ok (.if_icmp .ge 50, 3) := dq_get dX1_allIsThere_80_t 3 rfl
theorem dX1_allIsThere_92 : decode cX1_allIsThere 92 = .ok (.aload_n 0, 1) := dq_get dX1_allIsThere_80_t 4 rfl
theorem dX1_allIsThere_93 : decode cX1_allIsThere 93 = .ok (.getfield 12, 3) := dq_get dX1_allIsThere_80_t 5 rfl
theorem dX1_allIsThere_96 : decode cX1_allIsThere 96 = .ok (.aload_n 0, 1) := dq_get dX1_allIsThere_80_t 6 rfl
theorem dX1_allIsThere_97 : decode cX1_allIsThere 97 = .ok (.getfield 12, 3) := dq_get dX1_allIsThere_80_t 7 rfl
theorem dX1_allIsThere_100 : decode cX1_allIsThere 100 = .ok (.getfield 92, 3) := dq_get dX1_allIsThere_80_t 8 rfl
theorem dX1_allIsThere_103 : decode cX1_allIsThere 103 = .ok (.iload_n 2, 1) := dq_get dX1_allIsThere_80_t 9 rfl
theorem dX1_allIsThere_104 : decode cX1_allIsThere 104 = .ok (.iconst 0, 1) := dq_get dX1_allIsThere_80_t 10 rfl
theorem dX1_allIsThere_105 : decode cX1_allIsThere 105 = .ok (.invokevirtual 81, 3) := dq_get dX1_allIsThere_80_t 11 rfl
theorem dX1_allIsThere_108 : decode cX1_allIsThere 108 = .ok (.invokevirtual 85, 3) := dq_get dX1_allIsThere_80_t 12 rfl
theorem dX1_allIsThere_111 : decode cX1_allIsThere 111 = .ok (.ifCond .eq 20, 3) := dq_get dX1_allIsThere_80_t 13 rfl
theorem dX1_allIsThere_114 : decode cX1_allIsThere 114 = .ok (.aload_n 0, 1) := dq_get dX1_allIsThere_80_t 14 rfl
theorem dX1_allIsThere_115 : decode cX1_allIsThere 115 = .ok (.getfield 12, 3) := dq_get dX1_allIsThere_80_t 15 rfl
theorem dX1_allIsThere_118 : decode cX1_allIsThere 118 = .ok (.getfield 92, 3) := dq_get dX1_allIsThere_80_t 16 rfl
theorem dX1_allIsThere_121 : decode cX1_allIsThere 121 = .ok (.iload_n 2, 1) := dq_get dX1_allIsThere_80_t 17 rfl
theorem dX1_allIsThere_122 : decode cX1_allIsThere 122 = .ok (.iconst 1, 1) := dq_get dX1_allIsThere_80_t 18 rfl
theorem dX1_allIsThere_123 : decode cX1_allIsThere 123 = .ok (.invokevirtual 81, 3) := dq_get dX1_allIsThere_80_t 19 rfl
theorem dX1_allIsThere_126 : decode cX1_allIsThere 126 = .ok (.iload_n 1, 1) := dq_get dX1_allIsThere_80_t 20 rfl
theorem dX1_allIsThere_127 : decode cX1_allIsThere 127 = .ok (.iushr, 1) := dq_get dX1_allIsThere_80_t 21 rfl
theorem dX1_allIsThere_128 : decode cX1_allIsThere 128 = .ok (.ifCond .eq 5, 3) := dq_get dX1_allIsThere_80_t 22 rfl
theorem dX1_allIsThere_131 : decode cX1_allIsThere 131 = .ok (.iconst 0, 1) := dq_get dX1_allIsThere_80_t 23 rfl
theorem dX1_allIsThere_132 : decode cX1_allIsThere 132 = .ok (.ireturn, 1) := dq_get dX1_allIsThere_80_t 24 rfl
theorem dX1_allIsThere_133 : decode cX1_allIsThere 133 = .ok (.iinc 2 1, 3) := dq_get dX1_allIsThere_80_t 25 rfl
theorem dX1_allIsThere_136 : decode cX1_allIsThere 136 = .ok (.goto (-58), 3) := dq_get dX1_allIsThere_80_t 26 rfl
theorem dX1_allIsThere_139 : decode cX1_allIsThere 139 = .ok (.aload_n 0, 1) := dq_get dX1_allIsThere_80_t 27 rfl
theorem dX1_allIsThere_140 : decode cX1_allIsThere 140 = .ok (.getfield 45, 3) := dq_get dX1_allIsThere_80_t 28 rfl
theorem dX1_allIsThere_143 : decode cX1_allIsThere 143 = .ok (.iload_n 1, 1) := dq_get dX1_allIsThere_80_t 29 rfl
theorem dX1_allIsThere_144 : decode cX1_allIsThere 144 = .ok (.iushr, 1) := dq_get dX1_allIsThere_80_t 30 rfl
theorem dX1_allIsThere_145 : decode cX1_allIsThere 145 = .ok (.ifCond .ne 7, 3) := dq_get dX1_allIsThere_80_t 31 rfl
theorem dX1_allIsThere_148 : decode cX1_allIsThere 148 = .ok (.iconst 1, 1) := dq_get dX1_allIsThere_80_t 32 rfl
theorem dX1_allIsThere_149 : decode cX1_allIsThere 149 = .ok (.goto 4, 3) := dq_get dX1_allIsThere_80_t 33 rfl
theorem dX1_allIsThere_152 : decode cX1_allIsThere 152 = .ok (.iconst 0, 1) := dq_get dX1_allIsThere_80_t 34 rfl
theorem dX1_allIsThere_153 : decode cX1_allIsThere 153 = .ok (.ireturn, 1) := dq_get dX1_allIsThere_80_t 35 rfl
theorem dX1_refuse_0_t : dqK cX1_refuse.data.toList 0 [(0, .aload_n 0, 1), (1, .iload_n 1, 1), (2, .putfield 29, 3), (5, .aload_n 0, 1), (6, .iload_n 2, 1), (7, .putfield 32, 3), (10, .iconst 0, 1), (11, .ireturn, 1)] = true := by decide +kernel
theorem dX1_refuse_0 : decode cX1_refuse 0 = .ok (.aload_n 0, 1) := dq_get dX1_refuse_0_t 0 rfl
theorem dX1_refuse_1 : decode cX1_refuse 1 = .ok (.iload_n 1, 1) := dq_get dX1_refuse_0_t 1 rfl
theorem dX1_refuse_2 : decode cX1_refuse 2 = .ok (.putfield 29, 3) := dq_get dX1_refuse_0_t 2 rfl
theorem dX1_refuse_5 : decode cX1_refuse 5 = .ok (.aload_n 0, 1) := dq_get dX1_refuse_0_t 3 rfl
theorem dX1_refuse_6 : decode cX1_refuse 6 = .ok (.iload_n 2, 1) := dq_get dX1_refuse_0_t 4 rfl
theorem dX1_refuse_7 : decode cX1_refuse 7 = .ok (.putfield 32, 3) := dq_get dX1_refuse_0_t 5 rfl
theorem dX1_refuse_10 : decode cX1_refuse 10 = .ok (.iconst 0, 1) := dq_get dX1_refuse_0_t 6 rfl
theorem dX1_refuse_11 : decode cX1_refuse 11 = .ok (.ireturn, 1) := dq_get dX1_refuse_0_t 7 rfl
theorem gt_wsX1_takeLine_wsX10 : GoodIn wsX1_takeLine wsX10 := fun w hw => ⟨List.mem_cons_of_mem _ (List.mem_append_left _ (List.mem_append_left _ (List.mem_append_right _ hw))), good_of_word (List.all_eq_true.mp gw_wsX10 w hw)⟩
set_option maxRecDepth 20000 in
theorem ggX1_takeLine_X1_refuse : GoodIn wsX1_takeLine wsX1_refuse := goodIn_ca (goodIn_r _ [7, 8, 9] rfl (by decide +kernel)) gt_wsX1_takeLine_wsX10
set_option maxRecDepth 20000 in
theorem gX1_takeLine_X1_refuse : GoodIn wsX1_takeLine (wsV RX1 64 RX1 yX1_refuse wsX1_refuse) := goodIn_app (goodIn_r _ [3, 4, 5, 6] rfl (by decide +kernel)) ggX1_takeLine_X1_refuse
set_option maxRecDepth 20000 in
theorem ggX1_takeLine_X1_isName : GoodIn wsX1_takeLine wsX1_isName := goodIn_ca (goodIn_r _ [13, 14, 2, 15, 16, 17, 18, 19, 20, 21, 22, 23, 24, 25, 26, 27, 28, 29, 30, 31, 32, 33, 34, 35, 36, 37, 38, 39, 40, 41, 42, 43, 44, 45, 46, 47, 48, 49, 50, 51, 52, 53, 54, 55, 56, 57, 58, 59, 60, 61, 62, 63, 64] rfl (by decide +kernel)) gt_wsX1_takeLine_wsX10
set_option maxRecDepth 20000 in
theorem gX1_takeLine_X1_isName : GoodIn wsX1_takeLine (wsV RX1 100 RX1 yX1_isName wsX1_isName) := goodIn_app (goodIn_r _ [10, 11, 12, 6] rfl (by decide +kernel)) ggX1_takeLine_X1_isName
theorem gt_wsX1_takeLine_wsX00 : GoodIn wsX1_takeLine wsX00 := fun w hw => ⟨List.mem_cons_of_mem _ (List.mem_append_left _ (List.mem_append_right _ hw)), good_of_word (List.all_eq_true.mp gw_wsX00 w hw)⟩
set_option maxRecDepth 20000 in
theorem ggX1_takeLine_X1_takeHouse : GoodIn wsX1_takeLine wsX1_takeHouse := goodIn_ca (goodIn_ca (goodIn_r _ [68, 69, 2, 70, 71, 3, 4, 5, 6, 7, 8, 9, 72, 73, 74, 75, 76, 77, 78, 79, 14, 80, 15, 1, 81, 82, 83, 84, 85, 86, 87, 88, 89, 90, 91, 92, 93, 94] rfl (by decide +kernel)) gt_wsX1_takeLine_wsX10) gt_wsX1_takeLine_wsX00
set_option maxRecDepth 20000 in
theorem gX1_takeLine_X1_takeHouse : GoodIn wsX1_takeLine (wsV RX1 104 RX1 yX1_takeHouse wsX1_takeHouse) := goodIn_app (goodIn_r _ [65, 66, 67, 6] rfl (by decide +kernel)) ggX1_takeLine_X1_takeHouse
set_option maxRecDepth 20000 in
theorem ggX1_takeLine_X1_takeLast : GoodIn wsX1_takeLine wsX1_takeLast := goodIn_ca (goodIn_ca (goodIn_r _ [98, 99, 2, 70, 71, 3, 4, 5, 6, 7, 8, 9, 72, 73, 74, 75, 76, 77, 78, 79, 14, 80, 15, 1, 81, 82, 83, 84, 85, 86, 87, 88, 89, 90, 91, 92, 93, 94] rfl (by decide +kernel)) gt_wsX1_takeLine_wsX10) gt_wsX1_takeLine_wsX00
set_option maxRecDepth 20000 in
theorem gX1_takeLine_X1_takeLast : GoodIn wsX1_takeLine (wsV RX1 109 RX1 yX1_takeLast wsX1_takeLast) := goodIn_app (goodIn_r _ [95, 96, 97, 6] rfl (by decide +kernel)) ggX1_takeLine_X1_takeLast
set_option maxRecDepth 20000 in
theorem ggX1_takeLine_X1_takeCell : GoodIn wsX1_takeLine wsX1_takeCell := goodIn_ca (goodIn_ca (goodIn_r _ [103, 71, 104, 2, 70, 72, 73, 74, 6, 75, 76, 77, 78, 79, 14, 80, 15, 1, 81, 82, 83, 84, 85, 86, 3, 4, 5, 7, 8, 9, 87, 88, 89, 90, 91, 92, 93, 94] rfl (by decide +kernel)) gt_wsX1_takeLine_wsX10) gt_wsX1_takeLine_wsX00
set_option maxRecDepth 20000 in
theorem gX1_takeLine_X1_takeCell : GoodIn wsX1_takeLine (wsV RX1 114 RX1 yX1_takeCell wsX1_takeCell) := goodIn_app (goodIn_r _ [100, 101, 102, 6] rfl (by decide +kernel)) ggX1_takeLine_X1_takeCell
theorem gt_wsX1_takeLine_wsX20 : GoodIn wsX1_takeLine wsX20 := fun w hw => ⟨List.mem_cons_of_mem _ (List.mem_append_right _ hw), good_of_word (List.all_eq_true.mp gw_wsX20 w hw)⟩
set_option maxRecDepth 20000 in
theorem ggX1_takeLine_X1_takeTurn : GoodIn wsX1_takeLine wsX1_takeTurn := goodIn_ca (goodIn_ca (goodIn_ca (goodIn_r _ [108, 70, 2, 71, 3, 4, 5, 6, 7, 8, 9, 72, 73, 74, 75, 76, 77, 78, 79, 14, 80, 15, 1, 81, 82, 83, 84, 85, 86, 87, 88, 89, 90, 109, 110, 111, 112, 113, 114, 115, 116, 91, 92, 93, 94] rfl (by decide +kernel)) gt_wsX1_takeLine_wsX10) gt_wsX1_takeLine_wsX00) gt_wsX1_takeLine_wsX20
set_option maxRecDepth 20000 in
theorem gX1_takeLine_X1_takeTurn : GoodIn wsX1_takeLine (wsV RX1 119 RX1 yX1_takeTurn wsX1_takeTurn) := goodIn_app (goodIn_r _ [105, 106, 107, 6] rfl (by decide +kernel)) ggX1_takeLine_X1_takeTurn
set_option maxRecDepth 20000 in
theorem ggX1_takeLine_X1_takeLens : GoodIn wsX1_takeLine wsX1_takeLens := goodIn_ca (goodIn_ca (goodIn_ca (goodIn_r _ [120, 70, 2, 71, 1, 3, 4, 5, 6, 7, 8, 9, 72, 73, 74, 75, 76, 77, 78, 79, 14, 80, 15, 81, 82, 83, 84, 85, 86, 87, 88, 89, 90, 109, 110, 111, 112, 113, 114, 115, 116] rfl (by decide +kernel)) gt_wsX1_takeLine_wsX10) gt_wsX1_takeLine_wsX00) gt_wsX1_takeLine_wsX20
set_option maxRecDepth 20000 in
theorem gX1_takeLine_X1_takeLens : GoodIn wsX1_takeLine (wsV RX1 124 RX1 yX1_takeLens wsX1_takeLens) := goodIn_app (goodIn_r _ [117, 118, 119, 6] rfl (by decide +kernel)) ggX1_takeLine_X1_takeLens
theorem dX1_takeLine_0_t : dqK cX1_takeLine.data.toList 0 [(0, .aload_n 0, 1), (1, .getfield 55, 3), (4, .iconst 1, 1), (5, .if_icmp .eq 13, 3), (8, .aload_n 0, 1), (9, .iconst 2, 1), (10, .aload_n 0, 1), (11, .getfield 95, 3), (14, .invokevirtual 64, 3), (17, .ireturn, 1), (18, .aload_n 0, 1), (19, .ldc 98, 2), (21, .invokevirtual 100, 3), (24, .ifCond .eq 8, 3), (27, .aload_n 0, 1), (28, .invokevirtual 104, 3), (31, .ireturn, 1), (32, .aload_n 0, 1), (33, .ldc 107, 2), (35, .invokevirtual 100, 3), (38, .ifCond .eq 8, 3), (41, .aload_n 0, 1), (42, .invokevirtual 109, 3), (45, .ireturn, 1), (46, .aload_n 0, 1), (47, .ldc 112, 2), (49, .invokevirtual 100, 3), (52, .ifCond .eq 8, 3), (55, .aload_n 0, 1), (56, .invokevirtual 114, 3), (59, .ireturn, 1), (60, .aload_n 0, 1), (61, .ldc 117, 2), (63, .invokevirtual 100, 3), (66, .ifCond .eq 8, 3), (69, .aload_n 0, 1), (70, .invokevirtual 119, 3), (73, .ireturn, 1), (74, .aload_n 0, 1), (75, .ldc 122, 2)] = true := by decide +kernel
theorem dX1_takeLine_0 : decode cX1_takeLine 0 = .ok (.aload_n 0, 1) := dq_get dX1_takeLine_0_t 0 rfl
theorem dX1_takeLine_1 : decode cX1_takeLine 1 = .ok (.getfield 55, 3) := dq_get dX1_takeLine_0_t 1 rfl
theorem dX1_takeLine_4 : decode cX1_takeLine 4 = .ok (.iconst 1, 1) := dq_get dX1_takeLine_0_t 2 rfl
theorem dX1_takeLine_5 : decode cX1_takeLine 5 = .ok (.if_icmp .eq 13, 3) := dq_get dX1_takeLine_0_t 3 rfl
theorem dX1_takeLine_8 : decode cX1_takeLine 8 = .ok (.aload_n 0, 1) := dq_get dX1_takeLine_0_t 4 rfl
theorem dX1_takeLine_9 : decode cX1_takeLine 9 = .ok (.iconst 2, 1) := dq_get dX1_takeLine_0_t 5 rfl
theorem dX1_takeLine_10 : decode cX1_takeLine 10 = .ok (.aload_n 0, 1) := dq_get dX1_takeLine_0_t 6 rfl
theorem dX1_takeLine_11 : decode cX1_takeLine 11 = .ok (.getfield 95, 3) := dq_get dX1_takeLine_0_t 7 rfl
theorem dX1_takeLine_14 : decode cX1_takeLine 14 = .ok (.invokevirtual 64, 3) := dq_get dX1_takeLine_0_t 8 rfl
theorem dX1_takeLine_17 : decode cX1_takeLine 17 = .ok (.ireturn, 1) := dq_get dX1_takeLine_0_t 9 rfl
theorem dX1_takeLine_18 : decode cX1_takeLine 18 = .ok (.aload_n 0, 1) := dq_get dX1_takeLine_0_t 10 rfl
theorem dX1_takeLine_19 : decode cX1_takeLine 19 = .ok (.ldc 98, 2) := dq_get dX1_takeLine_0_t 11 rfl
theorem dX1_takeLine_21 : decode cX1_takeLine 21 = .ok (.invokevirtual 100, 3) := dq_get dX1_takeLine_0_t 12 rfl
theorem dX1_takeLine_24 : decode cX1_takeLine 24 = .ok (.ifCond .eq 8, 3) := dq_get dX1_takeLine_0_t 13 rfl
theorem dX1_takeLine_27 : decode cX1_takeLine 27 = .ok (.aload_n 0, 1) := dq_get dX1_takeLine_0_t 14 rfl
theorem dX1_takeLine_28 : decode cX1_takeLine 28 = .ok (.invokevirtual 104, 3) := dq_get dX1_takeLine_0_t 15 rfl
theorem dX1_takeLine_31 : decode cX1_takeLine 31 = .ok (.ireturn, 1) := dq_get dX1_takeLine_0_t 16 rfl
theorem dX1_takeLine_32 : decode cX1_takeLine 32 = .ok (.aload_n 0, 1) := dq_get dX1_takeLine_0_t 17 rfl
theorem dX1_takeLine_33 : decode cX1_takeLine 33 = .ok (.ldc 107, 2) := dq_get dX1_takeLine_0_t 18 rfl
theorem dX1_takeLine_35 : decode cX1_takeLine 35 = .ok (.invokevirtual 100, 3) := dq_get dX1_takeLine_0_t 19 rfl
theorem dX1_takeLine_38 : decode cX1_takeLine 38 = .ok (.ifCond .eq 8, 3) := dq_get dX1_takeLine_0_t 20 rfl
theorem dX1_takeLine_41 : decode cX1_takeLine 41 = .ok (.aload_n 0, 1) := dq_get dX1_takeLine_0_t 21 rfl
theorem dX1_takeLine_42 : decode cX1_takeLine 42 = .ok (.invokevirtual 109, 3) := dq_get dX1_takeLine_0_t 22 rfl
theorem dX1_takeLine_45 : decode cX1_takeLine 45 = .ok (.ireturn, 1) := dq_get dX1_takeLine_0_t 23 rfl
theorem dX1_takeLine_46 : decode cX1_takeLine 46 = .ok (.aload_n 0, 1) := dq_get dX1_takeLine_0_t 24 rfl
theorem dX1_takeLine_47 : decode cX1_takeLine 47 = .ok (.ldc 112, 2) := dq_get dX1_takeLine_0_t 25 rfl
theorem dX1_takeLine_49 : decode cX1_takeLine 49 = .ok (.invokevirtual 100, 3) := dq_get dX1_takeLine_0_t 26 rfl
theorem dX1_takeLine_52 : decode cX1_takeLine 52 = .ok (.ifCond .eq 8, 3) := dq_get dX1_takeLine_0_t 27 rfl
theorem dX1_takeLine_55 : decode cX1_takeLine 55 = .ok (.aload_n 0, 1) := dq_get dX1_takeLine_0_t 28 rfl
theorem dX1_takeLine_56 : decode cX1_takeLine 56 = .ok (.invokevirtual 114, 3) := dq_get dX1_takeLine_0_t 29 rfl
theorem dX1_takeLine_59 : decode cX1_takeLine 59 = .ok (.ireturn, 1) := dq_get dX1_takeLine_0_t 30 rfl
theorem dX1_takeLine_60 : decode cX1_takeLine 60 = .ok (.aload_n 0, 1) := dq_get dX1_takeLine_0_t 31 rfl
theorem dX1_takeLine_61 : decode cX1_takeLine 61 = .ok (.ldc 117, 2) := dq_get dX1_takeLine_0_t 32 rfl
theorem dX1_takeLine_63 : decode cX1_takeLine 63 = .ok (.invokevirtual 100, 3) := dq_get dX1_takeLine_0_t 33 rfl
theorem dX1_takeLine_66 : decode cX1_takeLine 66 = .ok (.ifCond .eq 8, 3) := dq_get dX1_takeLine_0_t 34 rfl
theorem dX1_takeLine_69 : decode cX1_takeLine 69 = .ok (.aload_n 0, 1) := dq_get dX1_takeLine_0_t 35 rfl
theorem dX1_takeLine_70 : decode cX1_takeLine 70 = .ok (.invokevirtual 119, 3) := dq_get dX1_takeLine_0_t 36 rfl
theorem dX1_takeLine_73 : decode cX1_takeLine 73 = .ok (.ireturn, 1) := dq_get dX1_takeLine_0_t 37 rfl
theorem dX1_takeLine_74 : decode cX1_takeLine 74 = .ok (.aload_n 0, 1) := dq_get dX1_takeLine_0_t 38 rfl
theorem dX1_takeLine_75 : decode cX1_takeLine 75 = .ok (.ldc 122, 2) := dq_get dX1_takeLine_0_t 39 rfl
theorem dX1_takeLine_77_t : dqK cX1_takeLine.data.toList 0 [(77, .invokevirtual 100, 3), (80, .ifCond .eq 8, 3), (83, .aload_n 0, 1), (84, .invokevirtual 124, 3), (87, .ireturn, 1), (88, .aload_n 0, 1), (89, .iconst 2, 1), (90, .aload_n 0, 1), (91, .getfield 95, 3), (94, .invokevirtual 64, 3), (97, .ireturn, 1)] = true := by decide +kernel
theorem dX1_takeLine_77 : decode cX1_takeLine 77 = .ok (.invokevirtual 100, 3) := dq_get dX1_takeLine_77_t 0 rfl
theorem dX1_takeLine_80 : decode cX1_takeLine 80 = .ok (.ifCond .eq 8, 3) := dq_get dX1_takeLine_77_t 1 rfl
theorem dX1_takeLine_83 : decode cX1_takeLine 83 = .ok (.aload_n 0, 1) := dq_get dX1_takeLine_77_t 2 rfl
theorem dX1_takeLine_84 : decode cX1_takeLine 84 = .ok (.invokevirtual 124, 3) := dq_get dX1_takeLine_77_t 3 rfl
theorem dX1_takeLine_87 : decode cX1_takeLine 87 = .ok (.ireturn, 1) := dq_get dX1_takeLine_77_t 4 rfl
theorem dX1_takeLine_88 : decode cX1_takeLine 88 = .ok (.aload_n 0, 1) := dq_get dX1_takeLine_77_t 5 rfl
theorem dX1_takeLine_89 : decode cX1_takeLine 89 = .ok (.iconst 2, 1) := dq_get dX1_takeLine_77_t 6 rfl
theorem dX1_takeLine_90 : decode cX1_takeLine 90 = .ok (.aload_n 0, 1) := dq_get dX1_takeLine_77_t 7 rfl
theorem dX1_takeLine_91 : decode cX1_takeLine 91 = .ok (.getfield 95, 3) := dq_get dX1_takeLine_77_t 8 rfl
theorem dX1_takeLine_94 : decode cX1_takeLine 94 = .ok (.invokevirtual 64, 3) := dq_get dX1_takeLine_77_t 9 rfl
theorem dX1_takeLine_97 : decode cX1_takeLine 97 = .ok (.ireturn, 1) := dq_get dX1_takeLine_77_t 10 rfl
theorem gt_wsX1_takeHouse_wsX10 : GoodIn wsX1_takeHouse wsX10 := fun w hw => ⟨List.mem_cons_of_mem _ (List.mem_append_left _ (List.mem_append_right _ hw)), good_of_word (List.all_eq_true.mp gw_wsX10 w hw)⟩
set_option maxRecDepth 20000 in
theorem ggX1_takeHouse_X1_refuse : GoodIn wsX1_takeHouse wsX1_refuse := goodIn_ca (goodIn_r _ [9, 10, 11] rfl (by decide +kernel)) gt_wsX1_takeHouse_wsX10
set_option maxRecDepth 20000 in
theorem gX1_takeHouse_X1_refuse : GoodIn wsX1_takeHouse (wsV RX1 64 RX1 yX1_refuse wsX1_refuse) := goodIn_app (goodIn_r _ [5, 6, 7, 8] rfl (by decide +kernel)) ggX1_takeHouse_X1_refuse
set_option maxRecDepth 20000 in
theorem ggX1_takeHouse_X1_takeNumber : GoodIn wsX1_takeHouse wsX1_takeNumber := goodIn_ca (goodIn_r _ [15, 16, 17, 18, 8, 19, 20, 21, 22, 2, 23, 4, 24, 25, 26, 27, 28, 29, 5, 6, 7, 9, 10, 11, 30, 31, 32, 33] rfl (by decide +kernel)) gt_wsX1_takeHouse_wsX10
set_option maxRecDepth 20000 in
theorem gX1_takeHouse_X1_takeNumber : GoodIn wsX1_takeHouse (wsV RX1 127 RX1 yX1_takeNumber wsX1_takeNumber) := goodIn_app (goodIn_r _ [12, 13, 14, 8] rfl (by decide +kernel)) ggX1_takeHouse_X1_takeNumber
set_option maxRecDepth 20000 in
theorem ggX1_takeHouse_X1_takeSemicolon : GoodIn wsX1_takeHouse wsX1_takeSemicolon := goodIn_ca (goodIn_r _ [37, 23, 2, 16, 17, 18, 8, 19, 20, 21, 22, 4, 24, 25, 26, 27, 28, 29, 5, 6, 7, 9, 10, 11] rfl (by decide +kernel)) gt_wsX1_takeHouse_wsX10
set_option maxRecDepth 20000 in
theorem gX1_takeHouse_X1_takeSemicolon : GoodIn wsX1_takeHouse (wsV RX1 139 RX1 yX1_takeSemicolon wsX1_takeSemicolon) := goodIn_app (goodIn_r _ [34, 35, 36, 8] rfl (by decide +kernel)) ggX1_takeHouse_X1_takeSemicolon
theorem dX1_takeHouse_0_t : dqK cX1_takeHouse.data.toList 0 [(0, .aload_n 0, 1), (1, .getfield 38, 3), (4, .ifCond .eq 13, 3), (7, .aload_n 0, 1), (8, .iconst 4, 1), (9, .aload_n 0, 1), (10, .getfield 95, 3), (13, .invokevirtual 64, 3), (16, .ireturn, 1), (17, .aload_n 0, 1), (18, .iconst 1, 1), (19, .putfield 38, 3), (22, .aload_n 0, 1), (23, .iconst 2, 1), (24, .iconst 4, 1), (25, .invokevirtual 127, 3), (28, .ifCond .ne 5, 3), (31, .iconst 0, 1), (32, .ireturn, 1), (33, .aload_n 0, 1), (34, .getfield 12, 3), (37, .aload_n 0, 1), (38, .getfield 130, 3), (41, .putfield 133, 3), (44, .aload_n 0, 1), (45, .iconst 2, 1), (46, .iconst 4, 1), (47, .invokevirtual 127, 3), (50, .ifCond .ne 5, 3), (53, .iconst 0, 1), (54, .ireturn, 1), (55, .aload_n 0, 1), (56, .getfield 12, 3), (59, .aload_n 0, 1), (60, .getfield 130, 3), (63, .putfield 136, 3), (66, .aload_n 0, 1), (67, .invokevirtual 139, 3), (70, .ireturn, 1)] = true := by decide +kernel
theorem dX1_takeHouse_0 : decode cX1_takeHouse 0 = .ok (.aload_n 0, 1) := dq_get dX1_takeHouse_0_t 0 rfl
theorem dX1_takeHouse_1 : decode cX1_takeHouse 1 = .ok (.getfield 38, 3) := dq_get dX1_takeHouse_0_t 1 rfl
theorem dX1_takeHouse_4 : decode cX1_takeHouse 4 = .ok (.ifCond .eq 13, 3) := dq_get dX1_takeHouse_0_t 2 rfl
theorem dX1_takeHouse_7 : decode cX1_takeHouse 7 = .ok (.aload_n 0, 1) := dq_get dX1_takeHouse_0_t 3 rfl
theorem dX1_takeHouse_8 : decode cX1_takeHouse 8 = .ok (.iconst 4, 1) := dq_get dX1_takeHouse_0_t 4 rfl
theorem dX1_takeHouse_9 : decode cX1_takeHouse 9 = .ok (.aload_n 0, 1) := dq_get dX1_takeHouse_0_t 5 rfl
theorem dX1_takeHouse_10 : decode cX1_takeHouse 10 = .ok (.getfield 95, 3) := dq_get dX1_takeHouse_0_t 6 rfl
theorem dX1_takeHouse_13 : decode cX1_takeHouse 13 = .ok (.invokevirtual 64, 3) := dq_get dX1_takeHouse_0_t 7 rfl
theorem dX1_takeHouse_16 : decode cX1_takeHouse 16 = .ok (.ireturn, 1) := dq_get dX1_takeHouse_0_t 8 rfl
theorem dX1_takeHouse_17 : decode cX1_takeHouse 17 = .ok (.aload_n 0, 1) := dq_get dX1_takeHouse_0_t 9 rfl
theorem dX1_takeHouse_18 : decode cX1_takeHouse 18 = .ok (.iconst 1, 1) := dq_get dX1_takeHouse_0_t 10 rfl
theorem dX1_takeHouse_19 : decode cX1_takeHouse 19 = .ok (.putfield 38, 3) := dq_get dX1_takeHouse_0_t 11 rfl
theorem dX1_takeHouse_22 : decode cX1_takeHouse 22 = .ok (.aload_n 0, 1) := dq_get dX1_takeHouse_0_t 12 rfl
theorem dX1_takeHouse_23 : decode cX1_takeHouse 23 = .ok (.iconst 2, 1) := dq_get dX1_takeHouse_0_t 13 rfl
theorem dX1_takeHouse_24 : decode cX1_takeHouse 24 = .ok (.iconst 4, 1) := dq_get dX1_takeHouse_0_t 14 rfl
theorem dX1_takeHouse_25 : decode cX1_takeHouse 25 = .ok (.invokevirtual 127, 3) := dq_get dX1_takeHouse_0_t 15 rfl
theorem dX1_takeHouse_28 : decode cX1_takeHouse 28 = .ok (.ifCond .ne 5, 3) := dq_get dX1_takeHouse_0_t 16 rfl
theorem dX1_takeHouse_31 : decode cX1_takeHouse 31 = .ok (.iconst 0, 1) := dq_get dX1_takeHouse_0_t 17 rfl
theorem dX1_takeHouse_32 : decode cX1_takeHouse 32 = .ok (.ireturn, 1) := dq_get dX1_takeHouse_0_t 18 rfl
theorem dX1_takeHouse_33 : decode cX1_takeHouse 33 = .ok (.aload_n 0, 1) := dq_get dX1_takeHouse_0_t 19 rfl
theorem dX1_takeHouse_34 : decode cX1_takeHouse 34 = .ok (.getfield 12, 3) := dq_get dX1_takeHouse_0_t 20 rfl
theorem dX1_takeHouse_37 : decode cX1_takeHouse 37 = .ok (.aload_n 0, 1) := dq_get dX1_takeHouse_0_t 21 rfl
theorem dX1_takeHouse_38 : decode cX1_takeHouse 38 = .ok (.getfield 130, 3) := dq_get dX1_takeHouse_0_t 22 rfl
theorem dX1_takeHouse_41 : decode cX1_takeHouse 41 = .ok (.putfield 133, 3) := dq_get dX1_takeHouse_0_t 23 rfl
theorem dX1_takeHouse_44 : decode cX1_takeHouse 44 = .ok (.aload_n 0, 1) := dq_get dX1_takeHouse_0_t 24 rfl
theorem dX1_takeHouse_45 : decode cX1_takeHouse 45 = .ok (.iconst 2, 1) := dq_get dX1_takeHouse_0_t 25 rfl
theorem dX1_takeHouse_46 : decode cX1_takeHouse 46 = .ok (.iconst 4, 1) := dq_get dX1_takeHouse_0_t 26 rfl
theorem dX1_takeHouse_47 : decode cX1_takeHouse 47 = .ok (.invokevirtual 127, 3) := dq_get dX1_takeHouse_0_t 27 rfl
theorem dX1_takeHouse_50 : decode cX1_takeHouse 50 = .ok (.ifCond .ne 5, 3) := dq_get dX1_takeHouse_0_t 28 rfl
theorem dX1_takeHouse_53 : decode cX1_takeHouse 53 = .ok (.iconst 0, 1) := dq_get dX1_takeHouse_0_t 29 rfl
theorem dX1_takeHouse_54 : decode cX1_takeHouse 54 = .ok (.ireturn, 1) := dq_get dX1_takeHouse_0_t 30 rfl
theorem dX1_takeHouse_55 : decode cX1_takeHouse 55 = .ok (.aload_n 0, 1) := dq_get dX1_takeHouse_0_t 31 rfl
theorem dX1_takeHouse_56 : decode cX1_takeHouse 56 = .ok (.getfield 12, 3) := dq_get dX1_takeHouse_0_t 32 rfl
theorem dX1_takeHouse_59 : decode cX1_takeHouse 59 = .ok (.aload_n 0, 1) := dq_get dX1_takeHouse_0_t 33 rfl
theorem dX1_takeHouse_60 : decode cX1_takeHouse 60 = .ok (.getfield 130, 3) := dq_get dX1_takeHouse_0_t 34 rfl
theorem dX1_takeHouse_63 : decode cX1_takeHouse 63 = .ok (.putfield 136, 3) := dq_get dX1_takeHouse_0_t 35 rfl
theorem dX1_takeHouse_66 : decode cX1_takeHouse 66 = .ok (.aload_n 0, 1) := dq_get dX1_takeHouse_0_t 36 rfl
theorem dX1_takeHouse_67 : decode cX1_takeHouse 67 = .ok (.invokevirtual 139, 3) := dq_get dX1_takeHouse_0_t 37 rfl
theorem dX1_takeHouse_70 : decode cX1_takeHouse 70 = .ok (.ireturn, 1) := dq_get dX1_takeHouse_0_t 38 rfl
theorem gt_wsX1_takeLast_wsX10 : GoodIn wsX1_takeLast wsX10 := fun w hw => ⟨List.mem_cons_of_mem _ (List.mem_append_left _ (List.mem_append_right _ hw)), good_of_word (List.all_eq_true.mp gw_wsX10 w hw)⟩
set_option maxRecDepth 20000 in
theorem ggX1_takeLast_X1_refuse : GoodIn wsX1_takeLast wsX1_refuse := goodIn_ca (goodIn_r _ [9, 10, 11] rfl (by decide +kernel)) gt_wsX1_takeLast_wsX10
set_option maxRecDepth 20000 in
theorem gX1_takeLast_X1_refuse : GoodIn wsX1_takeLast (wsV RX1 64 RX1 yX1_refuse wsX1_refuse) := goodIn_app (goodIn_r _ [5, 6, 7, 8] rfl (by decide +kernel)) ggX1_takeLast_X1_refuse
set_option maxRecDepth 20000 in
theorem ggX1_takeLast_X1_takeNumber : GoodIn wsX1_takeLast wsX1_takeNumber := goodIn_ca (goodIn_r _ [15, 16, 17, 18, 8, 19, 20, 21, 22, 2, 23, 4, 24, 25, 26, 27, 28, 29, 5, 6, 7, 9, 10, 11, 30, 31, 32, 33] rfl (by decide +kernel)) gt_wsX1_takeLast_wsX10
set_option maxRecDepth 20000 in
theorem gX1_takeLast_X1_takeNumber : GoodIn wsX1_takeLast (wsV RX1 127 RX1 yX1_takeNumber wsX1_takeNumber) := goodIn_app (goodIn_r _ [12, 13, 14, 8] rfl (by decide +kernel)) ggX1_takeLast_X1_takeNumber
set_option maxRecDepth 20000 in
theorem ggX1_takeLast_X1_takeSemicolon : GoodIn wsX1_takeLast wsX1_takeSemicolon := goodIn_ca (goodIn_r _ [37, 23, 2, 16, 17, 18, 8, 19, 20, 21, 22, 4, 24, 25, 26, 27, 28, 29, 5, 6, 7, 9, 10, 11] rfl (by decide +kernel)) gt_wsX1_takeLast_wsX10
set_option maxRecDepth 20000 in
theorem gX1_takeLast_X1_takeSemicolon : GoodIn wsX1_takeLast (wsV RX1 139 RX1 yX1_takeSemicolon wsX1_takeSemicolon) := goodIn_app (goodIn_r _ [34, 35, 36, 8] rfl (by decide +kernel)) ggX1_takeLast_X1_takeSemicolon
theorem dX1_takeLast_0_t : dqK cX1_takeLast.data.toList 0 [(0, .aload_n 0, 1), (1, .getfield 42, 3), (4, .ifCond .eq 13, 3), (7, .aload_n 0, 1), (8, .iconst 4, 1), (9, .aload_n 0, 1), (10, .getfield 95, 3), (13, .invokevirtual 64, 3), (16, .ireturn, 1), (17, .aload_n 0, 1), (18, .iconst 1, 1), (19, .putfield 42, 3), (22, .aload_n 0, 1), (23, .iconst 0, 1), (24, .bipush 9, 2), (26, .invokevirtual 127, 3), (29, .ifCond .ne 5, 3), (32, .iconst 0, 1), (33, .ireturn, 1), (34, .aload_n 0, 1), (35, .getfield 12, 3), (38, .aload_n 0, 1), (39, .getfield 130, 3), (42, .putfield 142, 3), (45, .aload_n 0, 1), (46, .invokevirtual 139, 3), (49, .ireturn, 1)] = true := by decide +kernel
theorem dX1_takeLast_0 : decode cX1_takeLast 0 = .ok (.aload_n 0, 1) := dq_get dX1_takeLast_0_t 0 rfl
theorem dX1_takeLast_1 : decode cX1_takeLast 1 = .ok (.getfield 42, 3) := dq_get dX1_takeLast_0_t 1 rfl
theorem dX1_takeLast_4 : decode cX1_takeLast 4 = .ok (.ifCond .eq 13, 3) := dq_get dX1_takeLast_0_t 2 rfl
theorem dX1_takeLast_7 : decode cX1_takeLast 7 = .ok (.aload_n 0, 1) := dq_get dX1_takeLast_0_t 3 rfl
theorem dX1_takeLast_8 : decode cX1_takeLast 8 = .ok (.iconst 4, 1) := dq_get dX1_takeLast_0_t 4 rfl
theorem dX1_takeLast_9 : decode cX1_takeLast 9 = .ok (.aload_n 0, 1) := dq_get dX1_takeLast_0_t 5 rfl
theorem dX1_takeLast_10 : decode cX1_takeLast 10 = .ok (.getfield 95, 3) := dq_get dX1_takeLast_0_t 6 rfl
theorem dX1_takeLast_13 : decode cX1_takeLast 13 = .ok (.invokevirtual 64, 3) := dq_get dX1_takeLast_0_t 7 rfl
theorem dX1_takeLast_16 : decode cX1_takeLast 16 = .ok (.ireturn, 1) := dq_get dX1_takeLast_0_t 8 rfl
theorem dX1_takeLast_17 : decode cX1_takeLast 17 = .ok (.aload_n 0, 1) := dq_get dX1_takeLast_0_t 9 rfl
theorem dX1_takeLast_18 : decode cX1_takeLast 18 = .ok (.iconst 1, 1) := dq_get dX1_takeLast_0_t 10 rfl
theorem dX1_takeLast_19 : decode cX1_takeLast 19 = .ok (.putfield 42, 3) := dq_get dX1_takeLast_0_t 11 rfl
theorem dX1_takeLast_22 : decode cX1_takeLast 22 = .ok (.aload_n 0, 1) := dq_get dX1_takeLast_0_t 12 rfl
theorem dX1_takeLast_23 : decode cX1_takeLast 23 = .ok (.iconst 0, 1) := dq_get dX1_takeLast_0_t 13 rfl
theorem dX1_takeLast_24 : decode cX1_takeLast 24 = .ok (.bipush 9, 2) := dq_get dX1_takeLast_0_t 14 rfl
theorem dX1_takeLast_26 : decode cX1_takeLast 26 = .ok (.invokevirtual 127, 3) := dq_get dX1_takeLast_0_t 15 rfl
theorem dX1_takeLast_29 : decode cX1_takeLast 29 = .ok (.ifCond .ne 5, 3) := dq_get dX1_takeLast_0_t 16 rfl
theorem dX1_takeLast_32 : decode cX1_takeLast 32 = .ok (.iconst 0, 1) := dq_get dX1_takeLast_0_t 17 rfl
theorem dX1_takeLast_33 : decode cX1_takeLast 33 = .ok (.ireturn, 1) := dq_get dX1_takeLast_0_t 18 rfl
theorem dX1_takeLast_34 : decode cX1_takeLast 34 = .ok (.aload_n 0, 1) := dq_get dX1_takeLast_0_t 19 rfl
theorem dX1_takeLast_35 : decode cX1_takeLast 35 = .ok (.getfield 12, 3) := dq_get dX1_takeLast_0_t 20 rfl
theorem dX1_takeLast_38 : decode cX1_takeLast 38 = .ok (.aload_n 0, 1) := dq_get dX1_takeLast_0_t 21 rfl
theorem dX1_takeLast_39 : decode cX1_takeLast 39 = .ok (.getfield 130, 3) := dq_get dX1_takeLast_0_t 22 rfl
theorem dX1_takeLast_42 : decode cX1_takeLast 42 = .ok (.putfield 142, 3) := dq_get dX1_takeLast_0_t 23 rfl
theorem dX1_takeLast_45 : decode cX1_takeLast 45 = .ok (.aload_n 0, 1) := dq_get dX1_takeLast_0_t 24 rfl
theorem dX1_takeLast_46 : decode cX1_takeLast 46 = .ok (.invokevirtual 139, 3) := dq_get dX1_takeLast_0_t 25 rfl
theorem dX1_takeLast_49 : decode cX1_takeLast 49 = .ok (.ireturn, 1) := dq_get dX1_takeLast_0_t 26 rfl
theorem gt_wsX1_takeCell_wsX10 : GoodIn wsX1_takeCell wsX10 := fun w hw => ⟨List.mem_cons_of_mem _ (List.mem_append_left _ (List.mem_append_right _ hw)), good_of_word (List.all_eq_true.mp gw_wsX10 w hw)⟩
set_option maxRecDepth 20000 in
theorem ggX1_takeCell_X1_takeNumber : GoodIn wsX1_takeCell wsX1_takeNumber := goodIn_ca (goodIn_r _ [9, 10, 11, 12, 8, 13, 14, 15, 16, 3, 17, 1, 18, 19, 20, 21, 22, 23, 24, 25, 26, 27, 28, 29, 30, 31, 32, 33] rfl (by decide +kernel)) gt_wsX1_takeCell_wsX10
set_option maxRecDepth 20000 in
theorem gX1_takeCell_X1_takeNumber : GoodIn wsX1_takeCell (wsV RX1 127 RX1 yX1_takeNumber wsX1_takeNumber) := goodIn_app (goodIn_r _ [5, 6, 7, 8] rfl (by decide +kernel)) ggX1_takeCell_X1_takeNumber
set_option maxRecDepth 20000 in
theorem ggX1_takeCell_X1_refuse : GoodIn wsX1_takeCell wsX1_refuse := goodIn_ca (goodIn_r _ [27, 28, 29] rfl (by decide +kernel)) gt_wsX1_takeCell_wsX10
set_option maxRecDepth 20000 in
theorem gX1_takeCell_X1_refuse : GoodIn wsX1_takeCell (wsV RX1 64 RX1 yX1_refuse wsX1_refuse) := goodIn_app (goodIn_r _ [24, 25, 26, 8] rfl (by decide +kernel)) ggX1_takeCell_X1_refuse
set_option maxRecDepth 20000 in
theorem ggX1_takeCell_X1_takeSemicolon : GoodIn wsX1_takeCell wsX1_takeSemicolon := goodIn_ca (goodIn_r _ [37, 17, 3, 10, 11, 12, 8, 13, 14, 15, 16, 1, 18, 19, 20, 21, 22, 23, 24, 25, 26, 27, 28, 29] rfl (by decide +kernel)) gt_wsX1_takeCell_wsX10
set_option maxRecDepth 20000 in
theorem gX1_takeCell_X1_takeSemicolon : GoodIn wsX1_takeCell (wsV RX1 139 RX1 yX1_takeSemicolon wsX1_takeSemicolon) := goodIn_app (goodIn_r _ [34, 35, 36, 8] rfl (by decide +kernel)) ggX1_takeCell_X1_takeSemicolon
theorem dX1_takeCell_0_t : dqK cX1_takeCell.data.toList 0 [(0, .aload_n 0, 1), (1, .iconst 0, 1), (2, .bipush 15, 2), (4, .invokevirtual 127, 3), (7, .ifCond .ne 5, 3), (10, .iconst 0, 1), (11, .ireturn, 1), (12, .aload_n 0, 1), (13, .getfield 130, 3), (16, .istore_n 1, 1), (17, .aload_n 0, 1), (18, .getfield 45, 3), (21, .iload_n 1, 1), (22, .ishr, 1), (23, .iconst 1, 1), (24, .iand, 1), (25, .ifCond .eq 13, 3), (28, .aload_n 0, 1), (29, .iconst 4, 1), (30, .aload_n 0, 1), (31, .getfield 95, 3), (34, .invokevirtual 64, 3), (37, .ireturn, 1), (38, .aload_n 0, 1), (39, .dup, 1), (40, .getfield 45, 3), (43, .iconst 1, 1), (44, .iload_n 1, 1), (45, .ishl, 1), (46, .ior, 1), (47, .putfield 45, 3), (50, .aload_n 0, 1), (51, .iconst 0, 1), (52, .iconst 5, 1), (53, .invokevirtual 127, 3), (56, .ifCond .ne 5, 3), (59, .iconst 0, 1), (60, .ireturn, 1), (61, .aload_n 0, 1), (62, .getfield 12, 3)] = true := by decide +kernel
theorem dX1_takeCell_0 : decode cX1_takeCell 0 = .ok (.aload_n 0, 1) := dq_get dX1_takeCell_0_t 0 rfl
theorem dX1_takeCell_1 : decode cX1_takeCell 1 = .ok (.iconst 0, 1) := dq_get dX1_takeCell_0_t 1 rfl
theorem dX1_takeCell_2 : decode cX1_takeCell 2 = .ok (.bipush 15, 2) := dq_get dX1_takeCell_0_t 2 rfl
theorem dX1_takeCell_4 : decode cX1_takeCell 4 = .ok (.invokevirtual 127, 3) := dq_get dX1_takeCell_0_t 3 rfl
theorem dX1_takeCell_7 : decode cX1_takeCell 7 = .ok (.ifCond .ne 5, 3) := dq_get dX1_takeCell_0_t 4 rfl
theorem dX1_takeCell_10 : decode cX1_takeCell 10 = .ok (.iconst 0, 1) := dq_get dX1_takeCell_0_t 5 rfl
theorem dX1_takeCell_11 : decode cX1_takeCell 11 = .ok (.ireturn, 1) := dq_get dX1_takeCell_0_t 6 rfl
theorem dX1_takeCell_12 : decode cX1_takeCell 12 = .ok (.aload_n 0, 1) := dq_get dX1_takeCell_0_t 7 rfl
theorem dX1_takeCell_13 : decode cX1_takeCell 13 = .ok (.getfield 130, 3) := dq_get dX1_takeCell_0_t 8 rfl
theorem dX1_takeCell_16 : decode cX1_takeCell 16 = .ok (.istore_n 1, 1) := dq_get dX1_takeCell_0_t 9 rfl
theorem dX1_takeCell_17 : decode cX1_takeCell 17 = .ok (.aload_n 0, 1) := dq_get dX1_takeCell_0_t 10 rfl
theorem dX1_takeCell_18 : decode cX1_takeCell 18 = .ok (.getfield 45, 3) := dq_get dX1_takeCell_0_t 11 rfl
theorem dX1_takeCell_21 : decode cX1_takeCell 21 = .ok (.iload_n 1, 1) := dq_get dX1_takeCell_0_t 12 rfl
theorem dX1_takeCell_22 : decode cX1_takeCell 22 = .ok (.ishr, 1) := dq_get dX1_takeCell_0_t 13 rfl
theorem dX1_takeCell_23 : decode cX1_takeCell 23 = .ok (.iconst 1, 1) := dq_get dX1_takeCell_0_t 14 rfl
theorem dX1_takeCell_24 : decode cX1_takeCell 24 = .ok (.iand, 1) := dq_get dX1_takeCell_0_t 15 rfl
theorem dX1_takeCell_25 : decode cX1_takeCell 25 = .ok (.ifCond .eq 13, 3) := dq_get dX1_takeCell_0_t 16 rfl
theorem dX1_takeCell_28 : decode cX1_takeCell 28 = .ok (.aload_n 0, 1) := dq_get dX1_takeCell_0_t 17 rfl
theorem dX1_takeCell_29 : decode cX1_takeCell 29 = .ok (.iconst 4, 1) := dq_get dX1_takeCell_0_t 18 rfl
theorem dX1_takeCell_30 : decode cX1_takeCell 30 = .ok (.aload_n 0, 1) := dq_get dX1_takeCell_0_t 19 rfl
theorem dX1_takeCell_31 : decode cX1_takeCell 31 = .ok (.getfield 95, 3) := dq_get dX1_takeCell_0_t 20 rfl
theorem dX1_takeCell_34 : decode cX1_takeCell 34 = .ok (.invokevirtual 64, 3) := dq_get dX1_takeCell_0_t 21 rfl
theorem dX1_takeCell_37 : decode cX1_takeCell 37 = .ok (.ireturn, 1) := dq_get dX1_takeCell_0_t 22 rfl
theorem dX1_takeCell_38 : decode cX1_takeCell 38 = .ok (.aload_n 0, 1) := dq_get dX1_takeCell_0_t 23 rfl
theorem dX1_takeCell_39 : decode cX1_takeCell 39 = .ok (.dup, 1) := dq_get dX1_takeCell_0_t 24 rfl
theorem dX1_takeCell_40 : decode cX1_takeCell 40 = .ok (.getfield 45, 3) := dq_get dX1_takeCell_0_t 25 rfl
theorem dX1_takeCell_43 : decode cX1_takeCell 43 = .ok (.iconst 1, 1) := dq_get dX1_takeCell_0_t 26 rfl
theorem dX1_takeCell_44 : decode cX1_takeCell 44 = .ok (.iload_n 1, 1) := dq_get dX1_takeCell_0_t 27 rfl
theorem dX1_takeCell_45 : decode cX1_takeCell 45 = .ok (.ishl, 1) := dq_get dX1_takeCell_0_t 28 rfl
theorem dX1_takeCell_46 : decode cX1_takeCell 46 = .ok (.ior, 1) := dq_get dX1_takeCell_0_t 29 rfl
theorem dX1_takeCell_47 : decode cX1_takeCell 47 = .ok (.putfield 45, 3) := dq_get dX1_takeCell_0_t 30 rfl
theorem dX1_takeCell_50 : decode cX1_takeCell 50 = .ok (.aload_n 0, 1) := dq_get dX1_takeCell_0_t 31 rfl
theorem dX1_takeCell_51 : decode cX1_takeCell 51 = .ok (.iconst 0, 1) := dq_get dX1_takeCell_0_t 32 rfl
theorem dX1_takeCell_52 : decode cX1_takeCell 52 = .ok (.iconst 5, 1) := dq_get dX1_takeCell_0_t 33 rfl
theorem dX1_takeCell_53 : decode cX1_takeCell 53 = .ok (.invokevirtual 127, 3) := dq_get dX1_takeCell_0_t 34 rfl
theorem dX1_takeCell_56 : decode cX1_takeCell 56 = .ok (.ifCond .ne 5, 3) := dq_get dX1_takeCell_0_t 35 rfl
theorem dX1_takeCell_59 : decode cX1_takeCell 59 = .ok (.iconst 0, 1) := dq_get dX1_takeCell_0_t 36 rfl
theorem dX1_takeCell_60 : decode cX1_takeCell 60 = .ok (.ireturn, 1) := dq_get dX1_takeCell_0_t 37 rfl
theorem dX1_takeCell_61 : decode cX1_takeCell 61 = .ok (.aload_n 0, 1) := dq_get dX1_takeCell_0_t 38 rfl
theorem dX1_takeCell_62 : decode cX1_takeCell 62 = .ok (.getfield 12, 3) := dq_get dX1_takeCell_0_t 39 rfl
theorem dX1_takeCell_65_t : dqK cX1_takeCell.data.toList 0 [(65, .getfield 144, 3), (68, .iload_n 1, 1), (69, .aload_n 0, 1), (70, .getfield 130, 3), (73, .iastore, 1), (74, .aload_n 0, 1), (75, .invokevirtual 139, 3), (78, .ireturn, 1)] = true := by decide +kernel
theorem dX1_takeCell_65 : decode cX1_takeCell 65 = .ok (.getfield 144, 3) := dq_get dX1_takeCell_65_t 0 rfl
theorem dX1_takeCell_68 : decode cX1_takeCell 68 = .ok (.iload_n 1, 1) := dq_get dX1_takeCell_65_t 1 rfl
theorem dX1_takeCell_69 : decode cX1_takeCell 69 = .ok (.aload_n 0, 1) := dq_get dX1_takeCell_65_t 2 rfl
theorem dX1_takeCell_70 : decode cX1_takeCell 70 = .ok (.getfield 130, 3) := dq_get dX1_takeCell_65_t 3 rfl
theorem dX1_takeCell_73 : decode cX1_takeCell 73 = .ok (.iastore, 1) := dq_get dX1_takeCell_65_t 4 rfl
theorem dX1_takeCell_74 : decode cX1_takeCell 74 = .ok (.aload_n 0, 1) := dq_get dX1_takeCell_65_t 5 rfl
theorem dX1_takeCell_75 : decode cX1_takeCell 75 = .ok (.invokevirtual 139, 3) := dq_get dX1_takeCell_65_t 6 rfl
theorem dX1_takeCell_78 : decode cX1_takeCell 78 = .ok (.ireturn, 1) := dq_get dX1_takeCell_65_t 7 rfl
theorem gt_wsX1_takeTurn_wsX10 : GoodIn wsX1_takeTurn wsX10 := fun w hw => ⟨List.mem_cons_of_mem _ (List.mem_append_left _ (List.mem_append_left _ (List.mem_append_right _ hw))), good_of_word (List.all_eq_true.mp gw_wsX10 w hw)⟩
set_option maxRecDepth 20000 in
theorem ggX1_takeTurn_X1_refuse : GoodIn wsX1_takeTurn wsX1_refuse := goodIn_ca (goodIn_r _ [8, 9, 10] rfl (by decide +kernel)) gt_wsX1_takeTurn_wsX10
set_option maxRecDepth 20000 in
theorem gX1_takeTurn_X1_refuse : GoodIn wsX1_takeTurn (wsV RX1 64 RX1 yX1_refuse wsX1_refuse) := goodIn_app (goodIn_r _ [4, 5, 6, 7] rfl (by decide +kernel)) ggX1_takeTurn_X1_refuse
set_option maxRecDepth 20000 in
theorem ggX1_takeTurn_X1_takeNumber : GoodIn wsX1_takeTurn wsX1_takeNumber := goodIn_ca (goodIn_r _ [14, 15, 16, 17, 7, 18, 19, 20, 21, 2, 22, 3, 23, 24, 25, 26, 27, 28, 4, 5, 6, 8, 9, 10, 29, 30, 31, 32] rfl (by decide +kernel)) gt_wsX1_takeTurn_wsX10
set_option maxRecDepth 20000 in
theorem gX1_takeTurn_X1_takeNumber : GoodIn wsX1_takeTurn (wsV RX1 127 RX1 yX1_takeNumber wsX1_takeNumber) := goodIn_app (goodIn_r _ [11, 12, 13, 7] rfl (by decide +kernel)) ggX1_takeTurn_X1_takeNumber
theorem gt_wsX1_takeTurn_wsX20 : GoodIn wsX1_takeTurn wsX20 := fun w hw => ⟨List.mem_cons_of_mem _ (List.mem_append_right _ hw), good_of_word (List.all_eq_true.mp gw_wsX20 w hw)⟩
set_option maxRecDepth 20000 in
theorem ggX1_takeTurn_X2_add : GoodIn wsX1_takeTurn wsX2_add := goodIn_ca (goodIn_r _ [37, 38, 39, 40] rfl (by decide +kernel)) gt_wsX1_takeTurn_wsX20
set_option maxRecDepth 20000 in
theorem gX1_takeTurn_X2_add : GoodIn wsX1_takeTurn (wsV RX1 148 RX2 yX2_add wsX2_add) := goodIn_app (goodIn_r _ [33, 34, 35, 36] rfl (by decide +kernel)) ggX1_takeTurn_X2_add
set_option maxRecDepth 20000 in
theorem ggX1_takeTurn_X1_takeSemicolon : GoodIn wsX1_takeTurn wsX1_takeSemicolon := goodIn_ca (goodIn_r _ [44, 22, 2, 15, 16, 17, 7, 18, 19, 20, 21, 3, 23, 24, 25, 26, 27, 28, 4, 5, 6, 8, 9, 10] rfl (by decide +kernel)) gt_wsX1_takeTurn_wsX10
set_option maxRecDepth 20000 in
theorem gX1_takeTurn_X1_takeSemicolon : GoodIn wsX1_takeTurn (wsV RX1 139 RX1 yX1_takeSemicolon wsX1_takeSemicolon) := goodIn_app (goodIn_r _ [41, 42, 43, 7] rfl (by decide +kernel)) ggX1_takeTurn_X1_takeSemicolon
theorem dX1_takeTurn_0_t : dqK cX1_takeTurn.data.toList 0 [(0, .aload_n 0, 1), (1, .getfield 12, 3), (4, .getfield 72, 3), (7, .getfield 76, 3), (10, .bipush 10, 2), (12, .if_icmp .lt 13, 3), (15, .aload_n 0, 1), (16, .iconst 5, 1), (17, .aload_n 0, 1), (18, .getfield 95, 3), (21, .invokevirtual 64, 3), (24, .ireturn, 1), (25, .aload_n 0, 1), (26, .iconst 0, 1), (27, .bipush 9, 2), (29, .invokevirtual 127, 3), (32, .ifCond .ne 5, 3), (35, .iconst 0, 1), (36, .ireturn, 1), (37, .aload_n 0, 1), (38, .getfield 130, 3), (41, .istore_n 1, 1), (42, .aload_n 0, 1), (43, .iconst 0, 1), (44, .bipush 15, 2), (46, .invokevirtual 127, 3), (49, .ifCond .ne 5, 3), (52, .iconst 0, 1), (53, .ireturn, 1), (54, .aload_n 0, 1), (55, .getfield 130, 3), (58, .istore_n 2, 1), (59, .aload_n 0, 1), (60, .iconst 0, 1), (61, .iconst 5, 1), (62, .invokevirtual 127, 3), (65, .ifCond .ne 5, 3), (68, .iconst 0, 1), (69, .ireturn, 1), (70, .aload_n 0, 1)] = true := by decide +kernel
theorem dX1_takeTurn_0 : decode cX1_takeTurn 0 = .ok (.aload_n 0, 1) := dq_get dX1_takeTurn_0_t 0 rfl
theorem dX1_takeTurn_1 : decode cX1_takeTurn 1 = .ok (.getfield 12, 3) := dq_get dX1_takeTurn_0_t 1 rfl
theorem dX1_takeTurn_4 : decode cX1_takeTurn 4 = .ok (.getfield 72, 3) := dq_get dX1_takeTurn_0_t 2 rfl
theorem dX1_takeTurn_7 : decode cX1_takeTurn 7 = .ok (.getfield 76, 3) := dq_get dX1_takeTurn_0_t 3 rfl
theorem dX1_takeTurn_10 : decode cX1_takeTurn 10 = .ok (.bipush 10, 2) := dq_get dX1_takeTurn_0_t 4 rfl
theorem dX1_takeTurn_12 : decode cX1_takeTurn 12 = .ok (.if_icmp .lt 13, 3) := dq_get dX1_takeTurn_0_t 5 rfl
theorem dX1_takeTurn_15 : decode cX1_takeTurn 15 = .ok (.aload_n 0, 1) := dq_get dX1_takeTurn_0_t 6 rfl
theorem dX1_takeTurn_16 : decode cX1_takeTurn 16 = .ok (.iconst 5, 1) := dq_get dX1_takeTurn_0_t 7 rfl
theorem dX1_takeTurn_17 : decode cX1_takeTurn 17 = .ok (.aload_n 0, 1) := dq_get dX1_takeTurn_0_t 8 rfl
theorem dX1_takeTurn_18 : decode cX1_takeTurn 18 = .ok (.getfield 95, 3) := dq_get dX1_takeTurn_0_t 9 rfl
theorem dX1_takeTurn_21 : decode cX1_takeTurn 21 = .ok (.invokevirtual 64, 3) := dq_get dX1_takeTurn_0_t 10 rfl
theorem dX1_takeTurn_24 : decode cX1_takeTurn 24 = .ok (.ireturn, 1) := dq_get dX1_takeTurn_0_t 11 rfl
theorem dX1_takeTurn_25 : decode cX1_takeTurn 25 = .ok (.aload_n 0, 1) := dq_get dX1_takeTurn_0_t 12 rfl
theorem dX1_takeTurn_26 : decode cX1_takeTurn 26 = .ok (.iconst 0, 1) := dq_get dX1_takeTurn_0_t 13 rfl
theorem dX1_takeTurn_27 : decode cX1_takeTurn 27 = .ok (.bipush 9, 2) := dq_get dX1_takeTurn_0_t 14 rfl
theorem dX1_takeTurn_29 : decode cX1_takeTurn 29 = .ok (.invokevirtual 127, 3) := dq_get dX1_takeTurn_0_t 15 rfl
theorem dX1_takeTurn_32 : decode cX1_takeTurn 32 = .ok (.ifCond .ne 5, 3) := dq_get dX1_takeTurn_0_t 16 rfl
theorem dX1_takeTurn_35 : decode cX1_takeTurn 35 = .ok (.iconst 0, 1) := dq_get dX1_takeTurn_0_t 17 rfl
theorem dX1_takeTurn_36 : decode cX1_takeTurn 36 = .ok (.ireturn, 1) := dq_get dX1_takeTurn_0_t 18 rfl
theorem dX1_takeTurn_37 : decode cX1_takeTurn 37 = .ok (.aload_n 0, 1) := dq_get dX1_takeTurn_0_t 19 rfl
theorem dX1_takeTurn_38 : decode cX1_takeTurn 38 = .ok (.getfield 130, 3) := dq_get dX1_takeTurn_0_t 20 rfl
theorem dX1_takeTurn_41 : decode cX1_takeTurn 41 = .ok (.istore_n 1, 1) := dq_get dX1_takeTurn_0_t 21 rfl
theorem dX1_takeTurn_42 : decode cX1_takeTurn 42 = .ok (.aload_n 0, 1) := dq_get dX1_takeTurn_0_t 22 rfl
theorem dX1_takeTurn_43 : decode cX1_takeTurn 43 = .ok (.iconst 0, 1) := dq_get dX1_takeTurn_0_t 23 rfl
theorem dX1_takeTurn_44 : decode cX1_takeTurn 44 = .ok (.bipush 15, 2) := dq_get dX1_takeTurn_0_t 24 rfl
theorem dX1_takeTurn_46 : decode cX1_takeTurn 46 = .ok (.invokevirtual 127, 3) := dq_get dX1_takeTurn_0_t 25 rfl
theorem dX1_takeTurn_49 : decode cX1_takeTurn 49 = .ok (.ifCond .ne 5, 3) := dq_get dX1_takeTurn_0_t 26 rfl
theorem dX1_takeTurn_52 : decode cX1_takeTurn 52 = .ok (.iconst 0, 1) := dq_get dX1_takeTurn_0_t 27 rfl
theorem dX1_takeTurn_53 : decode cX1_takeTurn 53 = .ok (.ireturn, 1) := dq_get dX1_takeTurn_0_t 28 rfl
theorem dX1_takeTurn_54 : decode cX1_takeTurn 54 = .ok (.aload_n 0, 1) := dq_get dX1_takeTurn_0_t 29 rfl
theorem dX1_takeTurn_55 : decode cX1_takeTurn 55 = .ok (.getfield 130, 3) := dq_get dX1_takeTurn_0_t 30 rfl
theorem dX1_takeTurn_58 : decode cX1_takeTurn 58 = .ok (.istore_n 2, 1) := dq_get dX1_takeTurn_0_t 31 rfl
theorem dX1_takeTurn_59 : decode cX1_takeTurn 59 = .ok (.aload_n 0, 1) := dq_get dX1_takeTurn_0_t 32 rfl
theorem dX1_takeTurn_60 : decode cX1_takeTurn 60 = .ok (.iconst 0, 1) := dq_get dX1_takeTurn_0_t 33 rfl
theorem dX1_takeTurn_61 : decode cX1_takeTurn 61 = .ok (.iconst 5, 1) := dq_get dX1_takeTurn_0_t 34 rfl
theorem dX1_takeTurn_62 : decode cX1_takeTurn 62 = .ok (.invokevirtual 127, 3) := dq_get dX1_takeTurn_0_t 35 rfl
theorem dX1_takeTurn_65 : decode cX1_takeTurn 65 = .ok (.ifCond .ne 5, 3) := dq_get dX1_takeTurn_0_t 36 rfl
theorem dX1_takeTurn_68 : decode cX1_takeTurn 68 = .ok (.iconst 0, 1) := dq_get dX1_takeTurn_0_t 37 rfl
theorem dX1_takeTurn_69 : decode cX1_takeTurn 69 = .ok (.ireturn, 1) := dq_get dX1_takeTurn_0_t 38 rfl
theorem dX1_takeTurn_70 : decode cX1_takeTurn 70 = .ok (.aload_n 0, 1) := dq_get dX1_takeTurn_0_t 39 rfl
theorem dX1_takeTurn_71_t : dqK cX1_takeTurn.data.toList 0 [(71, .getfield 12, 3), (74, .getfield 72, 3), (77, .iload_n 1, 1), (78, .iload_n 2, 1), (79, .aload_n 0, 1), (80, .getfield 130, 3), (83, .invokevirtual 148, 3), (86, .pop, 1), (87, .aload_n 0, 1), (88, .invokevirtual 139, 3), (91, .ireturn, 1)] = true := by decide +kernel
theorem dX1_takeTurn_71 : decode cX1_takeTurn 71 = .ok (.getfield 12, 3) := dq_get dX1_takeTurn_71_t 0 rfl
theorem dX1_takeTurn_74 : decode cX1_takeTurn 74 = .ok (.getfield 72, 3) := dq_get dX1_takeTurn_71_t 1 rfl
theorem dX1_takeTurn_77 : decode cX1_takeTurn 77 = .ok (.iload_n 1, 1) := dq_get dX1_takeTurn_71_t 2 rfl
theorem dX1_takeTurn_78 : decode cX1_takeTurn 78 = .ok (.iload_n 2, 1) := dq_get dX1_takeTurn_71_t 3 rfl
theorem dX1_takeTurn_79 : decode cX1_takeTurn 79 = .ok (.aload_n 0, 1) := dq_get dX1_takeTurn_71_t 4 rfl
theorem dX1_takeTurn_80 : decode cX1_takeTurn 80 = .ok (.getfield 130, 3) := dq_get dX1_takeTurn_71_t 5 rfl
theorem dX1_takeTurn_83 : decode cX1_takeTurn 83 = .ok (.invokevirtual 148, 3) := dq_get dX1_takeTurn_71_t 6 rfl
theorem dX1_takeTurn_86 : decode cX1_takeTurn 86 = .ok (.pop, 1) := dq_get dX1_takeTurn_71_t 7 rfl
theorem dX1_takeTurn_87 : decode cX1_takeTurn 87 = .ok (.aload_n 0, 1) := dq_get dX1_takeTurn_71_t 8 rfl
theorem dX1_takeTurn_88 : decode cX1_takeTurn 88 = .ok (.invokevirtual 139, 3) := dq_get dX1_takeTurn_71_t 9 rfl
theorem dX1_takeTurn_91 : decode cX1_takeTurn 91 = .ok (.ireturn, 1) := dq_get dX1_takeTurn_71_t 10 rfl
theorem gt_wsX1_takeLens_wsX10 : GoodIn wsX1_takeLens wsX10 := fun w hw => ⟨List.mem_cons_of_mem _ (List.mem_append_left _ (List.mem_append_left _ (List.mem_append_right _ hw))), good_of_word (List.all_eq_true.mp gw_wsX10 w hw)⟩
set_option maxRecDepth 20000 in
theorem ggX1_takeLens_X1_refuse : GoodIn wsX1_takeLens wsX1_refuse := goodIn_ca (goodIn_r _ [9, 10, 11] rfl (by decide +kernel)) gt_wsX1_takeLens_wsX10
set_option maxRecDepth 20000 in
theorem gX1_takeLens_X1_refuse : GoodIn wsX1_takeLens (wsV RX1 64 RX1 yX1_refuse wsX1_refuse) := goodIn_app (goodIn_r _ [5, 6, 7, 8] rfl (by decide +kernel)) ggX1_takeLens_X1_refuse
set_option maxRecDepth 20000 in
theorem ggX1_takeLens_X1_takeNumber : GoodIn wsX1_takeLens wsX1_takeNumber := goodIn_ca (goodIn_r _ [15, 16, 17, 18, 8, 19, 20, 21, 22, 2, 4, 3, 23, 24, 25, 26, 27, 28, 5, 6, 7, 9, 10, 11, 29, 30, 31, 32] rfl (by decide +kernel)) gt_wsX1_takeLens_wsX10
set_option maxRecDepth 20000 in
theorem gX1_takeLens_X1_takeNumber : GoodIn wsX1_takeLens (wsV RX1 127 RX1 yX1_takeNumber wsX1_takeNumber) := goodIn_app (goodIn_r _ [12, 13, 14, 8] rfl (by decide +kernel)) ggX1_takeLens_X1_takeNumber
set_option maxRecDepth 20000 in
theorem ggX1_takeLens_X1_takeToken : GoodIn wsX1_takeLens wsX1_takeToken := goodIn_ca (goodIn_r _ [19, 20, 21, 22, 2, 4, 3, 23, 24, 8, 25, 26, 27, 28, 5, 6, 7, 9, 10, 11] rfl (by decide +kernel)) gt_wsX1_takeLens_wsX10
set_option maxRecDepth 20000 in
theorem gX1_takeLens_X1_takeToken : GoodIn wsX1_takeLens (wsV RX1 51 RX1 yX1_takeToken wsX1_takeToken) := goodIn_app (goodIn_r _ [16, 17, 18, 8] rfl (by decide +kernel)) ggX1_takeLens_X1_takeToken
theorem gt_wsX1_takeLens_wsX20 : GoodIn wsX1_takeLens wsX20 := fun w hw => ⟨List.mem_cons_of_mem _ (List.mem_append_right _ hw), good_of_word (List.all_eq_true.mp gw_wsX20 w hw)⟩
set_option maxRecDepth 20000 in
theorem ggX1_takeLens_X2_add : GoodIn wsX1_takeLens wsX2_add := goodIn_ca (goodIn_r _ [37, 38, 39, 40] rfl (by decide +kernel)) gt_wsX1_takeLens_wsX20
set_option maxRecDepth 20000 in
theorem gX1_takeLens_X2_add : GoodIn wsX1_takeLens (wsV RX1 148 RX2 yX2_add wsX2_add) := goodIn_app (goodIn_r _ [33, 34, 35, 36] rfl (by decide +kernel)) ggX1_takeLens_X2_add
set_option maxRecDepth 20000 in
theorem ggX1_takeLens_X1_isNumberWithin : GoodIn wsX1_takeLens wsX1_isNumberWithin := goodIn_ca (goodIn_r _ [32, 4, 2, 3, 5, 6, 7, 8, 9, 10, 11] rfl (by decide +kernel)) gt_wsX1_takeLens_wsX10
set_option maxRecDepth 20000 in
theorem gX1_takeLens_X1_isNumberWithin : GoodIn wsX1_takeLens (wsV RX1 152 RX1 yX1_isNumberWithin wsX1_isNumberWithin) := goodIn_app (goodIn_r _ [29, 30, 31, 8] rfl (by decide +kernel)) ggX1_takeLens_X1_isNumberWithin
theorem dX1_takeLens_0_t : dqK cX1_takeLens.data.toList 0 [(0, .aload_n 0, 1), (1, .getfield 12, 3), (4, .getfield 92, 3), (7, .getfield 76, 3), (10, .bipush 6, 2), (12, .if_icmp .lt 13, 3), (15, .aload_n 0, 1), (16, .iconst 5, 1), (17, .aload_n 0, 1), (18, .getfield 95, 3), (21, .invokevirtual 64, 3), (24, .ireturn, 1), (25, .aload_n 0, 1), (26, .iconst 0, 1), (27, .bipush 9, 2), (29, .invokevirtual 127, 3), (32, .ifCond .ne 5, 3), (35, .iconst 0, 1), (36, .ireturn, 1), (37, .aload_n 0, 1), (38, .getfield 130, 3), (41, .istore_n 1, 1), (42, .iconst 0, 1), (43, .istore_n 2, 1), (44, .iconst 0, 1), (45, .istore_n 3, 1), (46, .iload_n 3, 1), (47, .bipush 16, 2), (49, .if_icmp .gt 84, 3), (52, .aload_n 0, 1), (53, .invokevirtual 51, 3), (56, .ifCond .ne 5, 3), (59, .iconst 0, 1), (60, .ireturn, 1), (61, .aload_n 0, 1), (62, .getfield 55, 3), (65, .iconst 3, 1), (66, .if_icmp .ne 19, 3), (69, .aload_n 0, 1), (70, .getfield 12, 3)] = true := by decide +kernel
theorem dX1_takeLens_0 : decode cX1_takeLens 0 = .ok (.aload_n 0, 1) := dq_get dX1_takeLens_0_t 0 rfl
theorem dX1_takeLens_1 : decode cX1_takeLens 1 = .ok (.getfield 12, 3) := dq_get dX1_takeLens_0_t 1 rfl
theorem dX1_takeLens_4 : decode cX1_takeLens 4 = .ok (.getfield 92, 3) := dq_get dX1_takeLens_0_t 2 rfl
theorem dX1_takeLens_7 : decode cX1_takeLens 7 = .ok (.getfield 76, 3) := dq_get dX1_takeLens_0_t 3 rfl
theorem dX1_takeLens_10 : decode cX1_takeLens 10 = .ok (.bipush 6, 2) := dq_get dX1_takeLens_0_t 4 rfl
theorem dX1_takeLens_12 : decode cX1_takeLens 12 = .ok (.if_icmp .lt 13, 3) := dq_get dX1_takeLens_0_t 5 rfl
theorem dX1_takeLens_15 : decode cX1_takeLens 15 = .ok (.aload_n 0, 1) := dq_get dX1_takeLens_0_t 6 rfl
theorem dX1_takeLens_16 : decode cX1_takeLens 16 = .ok (.iconst 5, 1) := dq_get dX1_takeLens_0_t 7 rfl
theorem dX1_takeLens_17 : decode cX1_takeLens 17 = .ok (.aload_n 0, 1) := dq_get dX1_takeLens_0_t 8 rfl
theorem dX1_takeLens_18 : decode cX1_takeLens 18 = .ok (.getfield 95, 3) := dq_get dX1_takeLens_0_t 9 rfl
theorem dX1_takeLens_21 : decode cX1_takeLens 21 = .ok (.invokevirtual 64, 3) := dq_get dX1_takeLens_0_t 10 rfl
theorem dX1_takeLens_24 : decode cX1_takeLens 24 = .ok (.ireturn, 1) := dq_get dX1_takeLens_0_t 11 rfl
theorem dX1_takeLens_25 : decode cX1_takeLens 25 = .ok (.aload_n 0, 1) := dq_get dX1_takeLens_0_t 12 rfl
theorem dX1_takeLens_26 : decode cX1_takeLens 26 = .ok (.iconst 0, 1) := dq_get dX1_takeLens_0_t 13 rfl
theorem dX1_takeLens_27 : decode cX1_takeLens 27 = .ok (.bipush 9, 2) := dq_get dX1_takeLens_0_t 14 rfl
theorem dX1_takeLens_29 : decode cX1_takeLens 29 = .ok (.invokevirtual 127, 3) := dq_get dX1_takeLens_0_t 15 rfl
theorem dX1_takeLens_32 : decode cX1_takeLens 32 = .ok (.ifCond .ne 5, 3) := dq_get dX1_takeLens_0_t 16 rfl
theorem dX1_takeLens_35 : decode cX1_takeLens 35 = .ok (.iconst 0, 1) := dq_get dX1_takeLens_0_t 17 rfl
theorem dX1_takeLens_36 : decode cX1_takeLens 36 = .ok (.ireturn, 1) := dq_get dX1_takeLens_0_t 18 rfl
theorem dX1_takeLens_37 : decode cX1_takeLens 37 = .ok (.aload_n 0, 1) := dq_get dX1_takeLens_0_t 19 rfl
theorem dX1_takeLens_38 : decode cX1_takeLens 38 = .ok (.getfield 130, 3) := dq_get dX1_takeLens_0_t 20 rfl
theorem dX1_takeLens_41 : decode cX1_takeLens 41 = .ok (.istore_n 1, 1) := dq_get dX1_takeLens_0_t 21 rfl
theorem dX1_takeLens_42 : decode cX1_takeLens 42 = .ok (.iconst 0, 1) := dq_get dX1_takeLens_0_t 22 rfl
theorem dX1_takeLens_43 : decode cX1_takeLens 43 = .ok (.istore_n 2, 1) := dq_get dX1_takeLens_0_t 23 rfl
theorem dX1_takeLens_44 : decode cX1_takeLens 44 = .ok (.iconst 0, 1) := dq_get dX1_takeLens_0_t 24 rfl
theorem dX1_takeLens_45 : decode cX1_takeLens 45 = .ok (.istore_n 3, 1) := dq_get dX1_takeLens_0_t 25 rfl
theorem dX1_takeLens_46 : decode cX1_takeLens 46 = .ok (.iload_n 3, 1) := dq_get dX1_takeLens_0_t 26 rfl
theorem dX1_takeLens_47 : decode cX1_takeLens 47 = .ok (.bipush 16, 2) := dq_get dX1_takeLens_0_t 27 rfl
theorem dX1_takeLens_49 : decode cX1_takeLens 49 = .ok (.if_icmp .gt 84, 3) := dq_get dX1_takeLens_0_t 28 rfl
theorem dX1_takeLens_52 : decode cX1_takeLens 52 = .ok (.aload_n 0, 1) := dq_get dX1_takeLens_0_t 29 rfl
theorem dX1_takeLens_53 : decode cX1_takeLens 53 = .ok (.invokevirtual 51, 3) := dq_get dX1_takeLens_0_t 30 rfl
theorem dX1_takeLens_56 : decode cX1_takeLens 56 = .ok (.ifCond .ne 5, 3) := dq_get dX1_takeLens_0_t 31 rfl
theorem dX1_takeLens_59 : decode cX1_takeLens 59 = .ok (.iconst 0, 1) := dq_get dX1_takeLens_0_t 32 rfl
theorem dX1_takeLens_60 : decode cX1_takeLens 60 = .ok (.ireturn, 1) := dq_get dX1_takeLens_0_t 33 rfl
theorem dX1_takeLens_61 : decode cX1_takeLens 61 = .ok (.aload_n 0, 1) := dq_get dX1_takeLens_0_t 34 rfl
theorem dX1_takeLens_62 : decode cX1_takeLens 62 = .ok (.getfield 55, 3) := dq_get dX1_takeLens_0_t 35 rfl
theorem dX1_takeLens_65 : decode cX1_takeLens 65 = .ok (.iconst 3, 1) := dq_get dX1_takeLens_0_t 36 rfl
theorem dX1_takeLens_66 : decode cX1_takeLens 66 = .ok (.if_icmp .ne 19, 3) := dq_get dX1_takeLens_0_t 37 rfl
theorem dX1_takeLens_69 : decode cX1_takeLens 69 = .ok (.aload_n 0, 1) := dq_get dX1_takeLens_0_t 38 rfl
theorem dX1_takeLens_70 : decode cX1_takeLens 70 = .ok (.getfield 12, 3) := dq_get dX1_takeLens_0_t 39 rfl
theorem dX1_takeLens_73_t : dqK cX1_takeLens.data.toList 0 [(73, .getfield 92, 3), (76, .iload_n 1, 1), (77, .iload_n 2, 1), (78, .iconst 0, 1), (79, .invokevirtual 148, 3), (82, .pop, 1), (83, .iconst 1, 1), (84, .ireturn, 1), (85, .aload_n 0, 1), (86, .iconst 0, 1), (87, .bipush 15, 2), (89, .invokevirtual 152, 3), (92, .ifCond .ne 5, 3), (95, .iconst 0, 1), (96, .ireturn, 1), (97, .iload_n 2, 1), (98, .aload_n 0, 1), (99, .getfield 130, 3), (102, .ishr, 1), (103, .iconst 1, 1), (104, .iand, 1), (105, .ifCond .eq 13, 3), (108, .aload_n 0, 1), (109, .iconst 4, 1), (110, .aload_n 0, 1), (111, .getfield 95, 3), (114, .invokevirtual 64, 3), (117, .ireturn, 1), (118, .iload_n 2, 1), (119, .iconst 1, 1), (120, .aload_n 0, 1), (121, .getfield 130, 3), (124, .ishl, 1), (125, .ior, 1), (126, .istore_n 2, 1), (127, .iinc 3 1, 3), (130, .goto (-84), 3), (133, .aload_n 0, 1), (134, .iconst 4, 1), (135, .aload_n 0, 1)] = true := by decide +kernel
theorem dX1_takeLens_73 : decode cX1_takeLens 73 = .ok (.getfield 92, 3) := dq_get dX1_takeLens_73_t 0 rfl
theorem dX1_takeLens_76 : decode cX1_takeLens 76 = .ok (.iload_n 1, 1) := dq_get dX1_takeLens_73_t 1 rfl
theorem dX1_takeLens_77 : decode cX1_takeLens 77 = .ok (.iload_n 2, 1) := dq_get dX1_takeLens_73_t 2 rfl
theorem dX1_takeLens_78 : decode cX1_takeLens 78 = .ok (.iconst 0, 1) := dq_get dX1_takeLens_73_t 3 rfl
theorem dX1_takeLens_79 : decode cX1_takeLens 79 = .ok (.invokevirtual 148, 3) := dq_get dX1_takeLens_73_t 4 rfl
theorem dX1_takeLens_82 : decode cX1_takeLens 82 = .ok (.pop, 1) := dq_get dX1_takeLens_73_t 5 rfl
theorem dX1_takeLens_83 : decode cX1_takeLens 83 = .ok (.iconst 1, 1) := dq_get dX1_takeLens_73_t 6 rfl
theorem dX1_takeLens_84 : decode cX1_takeLens 84 = .ok (.ireturn, 1) := dq_get dX1_takeLens_73_t 7 rfl
theorem dX1_takeLens_85 : decode cX1_takeLens 85 = .ok (.aload_n 0, 1) := dq_get dX1_takeLens_73_t 8 rfl
theorem dX1_takeLens_86 : decode cX1_takeLens 86 = .ok (.iconst 0, 1) := dq_get dX1_takeLens_73_t 9 rfl
theorem dX1_takeLens_87 : decode cX1_takeLens 87 = .ok (.bipush 15, 2) := dq_get dX1_takeLens_73_t 10 rfl
theorem dX1_takeLens_89 : decode cX1_takeLens 89 = .ok (.invokevirtual 152, 3) := dq_get dX1_takeLens_73_t 11 rfl
theorem dX1_takeLens_92 : decode cX1_takeLens 92 = .ok (.ifCond .ne 5, 3) := dq_get dX1_takeLens_73_t 12 rfl
theorem dX1_takeLens_95 : decode cX1_takeLens 95 = .ok (.iconst 0, 1) := dq_get dX1_takeLens_73_t 13 rfl
theorem dX1_takeLens_96 : decode cX1_takeLens 96 = .ok (.ireturn, 1) := dq_get dX1_takeLens_73_t 14 rfl
theorem dX1_takeLens_97 : decode cX1_takeLens 97 = .ok (.iload_n 2, 1) := dq_get dX1_takeLens_73_t 15 rfl
theorem dX1_takeLens_98 : decode cX1_takeLens 98 = .ok (.aload_n 0, 1) := dq_get dX1_takeLens_73_t 16 rfl
theorem dX1_takeLens_99 : decode cX1_takeLens 99 = .ok (.getfield 130, 3) := dq_get dX1_takeLens_73_t 17 rfl
theorem dX1_takeLens_102 : decode cX1_takeLens 102 = .ok (.ishr, 1) := dq_get dX1_takeLens_73_t 18 rfl
theorem dX1_takeLens_103 : decode cX1_takeLens 103 = .ok (.iconst 1, 1) := dq_get dX1_takeLens_73_t 19 rfl
theorem dX1_takeLens_104 : decode cX1_takeLens 104 = .ok (.iand, 1) := dq_get dX1_takeLens_73_t 20 rfl
theorem dX1_takeLens_105 : decode cX1_takeLens 105 = .ok (.ifCond .eq 13, 3) := dq_get dX1_takeLens_73_t 21 rfl
theorem dX1_takeLens_108 : decode cX1_takeLens 108 = .ok (.aload_n 0, 1) := dq_get dX1_takeLens_73_t 22 rfl
theorem dX1_takeLens_109 : decode cX1_takeLens 109 = .ok (.iconst 4, 1) := dq_get dX1_takeLens_73_t 23 rfl
theorem dX1_takeLens_110 : decode cX1_takeLens 110 = .ok (.aload_n 0, 1) := dq_get dX1_takeLens_73_t 24 rfl
theorem dX1_takeLens_111 : decode cX1_takeLens 111 = .ok (.getfield 95, 3) := dq_get dX1_takeLens_73_t 25 rfl
theorem dX1_takeLens_114 : decode cX1_takeLens 114 = .ok (.invokevirtual 64, 3) := dq_get dX1_takeLens_73_t 26 rfl
theorem dX1_takeLens_117 : decode cX1_takeLens 117 = .ok (.ireturn, 1) := dq_get dX1_takeLens_73_t 27 rfl
theorem dX1_takeLens_118 : decode cX1_takeLens 118 = .ok (.iload_n 2, 1) := dq_get dX1_takeLens_73_t 28 rfl
theorem dX1_takeLens_119 : decode cX1_takeLens 119 = .ok (.iconst 1, 1) := dq_get dX1_takeLens_73_t 29 rfl
theorem dX1_takeLens_120 : decode cX1_takeLens 120 = .ok (.aload_n 0, 1) := dq_get dX1_takeLens_73_t 30 rfl
theorem dX1_takeLens_121 : decode cX1_takeLens 121 = .ok (.getfield 130, 3) := dq_get dX1_takeLens_73_t 31 rfl
theorem dX1_takeLens_124 : decode cX1_takeLens 124 = .ok (.ishl, 1) := dq_get dX1_takeLens_73_t 32 rfl
theorem dX1_takeLens_125 : decode cX1_takeLens 125 = .ok (.ior, 1) := dq_get dX1_takeLens_73_t 33 rfl
theorem dX1_takeLens_126 : decode cX1_takeLens 126 = .ok (.istore_n 2, 1) := dq_get dX1_takeLens_73_t 34 rfl
theorem dX1_takeLens_127 : decode cX1_takeLens 127 = .ok (.iinc 3 1, 3) := dq_get dX1_takeLens_73_t 35 rfl
theorem dX1_takeLens_130 : decode cX1_takeLens 130 = .ok (.goto (-84), 3) := dq_get dX1_takeLens_73_t 36 rfl
theorem dX1_takeLens_133 : decode cX1_takeLens 133 = .ok (.aload_n 0, 1) := dq_get dX1_takeLens_73_t 37 rfl
theorem dX1_takeLens_134 : decode cX1_takeLens 134 = .ok (.iconst 4, 1) := dq_get dX1_takeLens_73_t 38 rfl
theorem dX1_takeLens_135 : decode cX1_takeLens 135 = .ok (.aload_n 0, 1) := dq_get dX1_takeLens_73_t 39 rfl
theorem dX1_takeLens_136 : decode cX1_takeLens 136 = .ok (.getfield 95, 3) := by decide +kernel
theorem dX1_takeLens_139 : decode cX1_takeLens 139 = .ok (.invokevirtual 64, 3) := by decide +kernel
theorem dX1_takeLens_142 : decode cX1_takeLens 142 = .ok (.ireturn, 1) := by decide +kernel
theorem gt_wsX1_takeNumber_wsX10 : GoodIn wsX1_takeNumber wsX10 := fun w hw => ⟨List.mem_cons_of_mem _ (List.mem_append_right _ hw), good_of_word (List.all_eq_true.mp gw_wsX10 w hw)⟩
set_option maxRecDepth 20000 in
theorem ggX1_takeNumber_X1_takeToken : GoodIn wsX1_takeNumber wsX1_takeToken := goodIn_ca (goodIn_r _ [5, 6, 7, 8, 9, 10, 11, 12, 13, 4, 14, 15, 16, 17, 18, 19, 20, 21, 22, 23] rfl (by decide +kernel)) gt_wsX1_takeNumber_wsX10
set_option maxRecDepth 20000 in
theorem gX1_takeNumber_X1_takeToken : GoodIn wsX1_takeNumber (wsV RX1 51 RX1 yX1_takeToken wsX1_takeToken) := goodIn_app (goodIn_r _ [1, 2, 3, 4] rfl (by decide +kernel)) ggX1_takeNumber_X1_takeToken
set_option maxRecDepth 20000 in
theorem ggX1_takeNumber_X1_isNumberWithin : GoodIn wsX1_takeNumber wsX1_isNumberWithin := goodIn_ca (goodIn_r _ [27, 10, 9, 11, 18, 19, 20, 4, 21, 22, 23] rfl (by decide +kernel)) gt_wsX1_takeNumber_wsX10
set_option maxRecDepth 20000 in
theorem gX1_takeNumber_X1_isNumberWithin : GoodIn wsX1_takeNumber (wsV RX1 152 RX1 yX1_isNumberWithin wsX1_isNumberWithin) := goodIn_app (goodIn_r _ [24, 25, 26, 4] rfl (by decide +kernel)) ggX1_takeNumber_X1_isNumberWithin
theorem dX1_takeNumber_0_t : dqK cX1_takeNumber.data.toList 0 [(0, .aload_n 0, 1), (1, .invokevirtual 51, 3), (4, .ifCond .eq 16, 3), (7, .aload_n 0, 1), (8, .iload_n 1, 1), (9, .iload_n 2, 1), (10, .invokevirtual 152, 3), (13, .ifCond .eq 7, 3), (16, .iconst 1, 1), (17, .goto 4, 3), (20, .iconst 0, 1), (21, .ireturn, 1)] = true := by decide +kernel
theorem dX1_takeNumber_0 : decode cX1_takeNumber 0 = .ok (.aload_n 0, 1) := dq_get dX1_takeNumber_0_t 0 rfl
theorem dX1_takeNumber_1 : decode cX1_takeNumber 1 = .ok (.invokevirtual 51, 3) := dq_get dX1_takeNumber_0_t 1 rfl
theorem dX1_takeNumber_4 : decode cX1_takeNumber 4 = .ok (.ifCond .eq 16, 3) := dq_get dX1_takeNumber_0_t 2 rfl
theorem dX1_takeNumber_7 : decode cX1_takeNumber 7 = .ok (.aload_n 0, 1) := dq_get dX1_takeNumber_0_t 3 rfl
theorem dX1_takeNumber_8 : decode cX1_takeNumber 8 = .ok (.iload_n 1, 1) := dq_get dX1_takeNumber_0_t 4 rfl
theorem dX1_takeNumber_9 : decode cX1_takeNumber 9 = .ok (.iload_n 2, 1) := dq_get dX1_takeNumber_0_t 5 rfl
theorem dX1_takeNumber_10 : decode cX1_takeNumber 10 = .ok (.invokevirtual 152, 3) := dq_get dX1_takeNumber_0_t 6 rfl
theorem dX1_takeNumber_13 : decode cX1_takeNumber 13 = .ok (.ifCond .eq 7, 3) := dq_get dX1_takeNumber_0_t 7 rfl
theorem dX1_takeNumber_16 : decode cX1_takeNumber 16 = .ok (.iconst 1, 1) := dq_get dX1_takeNumber_0_t 8 rfl
theorem dX1_takeNumber_17 : decode cX1_takeNumber 17 = .ok (.goto 4, 3) := dq_get dX1_takeNumber_0_t 9 rfl
theorem dX1_takeNumber_20 : decode cX1_takeNumber 20 = .ok (.iconst 0, 1) := dq_get dX1_takeNumber_0_t 10 rfl
theorem dX1_takeNumber_21 : decode cX1_takeNumber 21 = .ok (.ireturn, 1) := dq_get dX1_takeNumber_0_t 11 rfl
theorem gt_wsX1_isNumberWithin_wsX10 : GoodIn wsX1_isNumberWithin wsX10 := fun w hw => ⟨List.mem_cons_of_mem _ (List.mem_append_right _ hw), good_of_word (List.all_eq_true.mp gw_wsX10 w hw)⟩
set_option maxRecDepth 20000 in
theorem ggX1_isNumberWithin_X1_refuse : GoodIn wsX1_isNumberWithin wsX1_refuse := goodIn_ca (goodIn_r _ [8, 9, 10] rfl (by decide +kernel)) gt_wsX1_isNumberWithin_wsX10
set_option maxRecDepth 20000 in
theorem gX1_isNumberWithin_X1_refuse : GoodIn wsX1_isNumberWithin (wsV RX1 64 RX1 yX1_refuse wsX1_refuse) := goodIn_app (goodIn_r _ [4, 5, 6, 7] rfl (by decide +kernel)) ggX1_isNumberWithin_X1_refuse
theorem dX1_isNumberWithin_0_t : dqK cX1_isNumberWithin.data.toList 0 [(0, .aload_n 0, 1), (1, .getfield 55, 3), (4, .iconst 2, 1), (5, .if_icmp .eq 13, 3), (8, .aload_n 0, 1), (9, .iconst 2, 1), (10, .aload_n 0, 1), (11, .getfield 95, 3), (14, .invokevirtual 64, 3), (17, .ireturn, 1), (18, .aload_n 0, 1), (19, .getfield 130, 3), (22, .iload_n 1, 1), (23, .if_icmp .lt 11, 3), (26, .aload_n 0, 1), (27, .getfield 130, 3), (30, .iload_n 2, 1), (31, .if_icmp .le 15, 3), (34, .aload_n 0, 1), (35, .iconst 3, 1), (36, .aload_n 0, 1), (37, .getfield 95, 3), (40, .invokevirtual 64, 3), (43, .ifCond .eq 7, 3), (46, .iconst 1, 1), (47, .goto 4, 3), (50, .iconst 0, 1), (51, .ireturn, 1)] = true := by decide +kernel
theorem dX1_isNumberWithin_0 : decode cX1_isNumberWithin 0 = .ok (.aload_n 0, 1) := dq_get dX1_isNumberWithin_0_t 0 rfl
theorem dX1_isNumberWithin_1 : decode cX1_isNumberWithin 1 = .ok (.getfield 55, 3) := dq_get dX1_isNumberWithin_0_t 1 rfl
theorem dX1_isNumberWithin_4 : decode cX1_isNumberWithin 4 = .ok (.iconst 2, 1) := dq_get dX1_isNumberWithin_0_t 2 rfl
theorem dX1_isNumberWithin_5 : decode cX1_isNumberWithin 5 = .ok (.if_icmp .eq 13, 3) := dq_get dX1_isNumberWithin_0_t 3 rfl
theorem dX1_isNumberWithin_8 : decode cX1_isNumberWithin 8 = .ok (.aload_n 0, 1) := dq_get dX1_isNumberWithin_0_t 4 rfl
theorem dX1_isNumberWithin_9 : decode cX1_isNumberWithin 9 = .ok (.iconst 2, 1) := dq_get dX1_isNumberWithin_0_t 5 rfl
theorem dX1_isNumberWithin_10 : decode cX1_isNumberWithin 10 = .ok (.aload_n 0, 1) := dq_get dX1_isNumberWithin_0_t 6 rfl
theorem dX1_isNumberWithin_11 : decode cX1_isNumberWithin 11 = .ok (.getfield 95, 3) := dq_get dX1_isNumberWithin_0_t 7 rfl
theorem dX1_isNumberWithin_14 : decode cX1_isNumberWithin 14 = .ok (.invokevirtual 64, 3) := dq_get dX1_isNumberWithin_0_t 8 rfl
theorem dX1_isNumberWithin_17 : decode cX1_isNumberWithin 17 = .ok (.ireturn, 1) := dq_get dX1_isNumberWithin_0_t 9 rfl
theorem dX1_isNumberWithin_18 : decode cX1_isNumberWithin 18 = .ok (.aload_n 0, 1) := dq_get dX1_isNumberWithin_0_t 10 rfl
theorem dX1_isNumberWithin_19 : decode cX1_isNumberWithin 19 = .ok (.getfield 130, 3) := dq_get dX1_isNumberWithin_0_t 11 rfl
theorem dX1_isNumberWithin_22 : decode cX1_isNumberWithin 22 = .ok (.iload_n 1, 1) := dq_get dX1_isNumberWithin_0_t 12 rfl
theorem dX1_isNumberWithin_23 : decode cX1_isNumberWithin 23 = .ok (.if_icmp .lt 11, 3) := dq_get dX1_isNumberWithin_0_t 13 rfl
theorem dX1_isNumberWithin_26 : decode cX1_isNumberWithin 26 = .ok (.aload_n 0, 1) := dq_get dX1_isNumberWithin_0_t 14 rfl
theorem dX1_isNumberWithin_27 : decode cX1_isNumberWithin 27 = .ok (.getfield 130, 3) := dq_get dX1_isNumberWithin_0_t 15 rfl
theorem dX1_isNumberWithin_30 : decode cX1_isNumberWithin 30 = .ok (.iload_n 2, 1) := dq_get dX1_isNumberWithin_0_t 16 rfl
theorem dX1_isNumberWithin_31 : decode cX1_isNumberWithin 31 = .ok (.if_icmp .le 15, 3) := dq_get dX1_isNumberWithin_0_t 17 rfl
theorem dX1_isNumberWithin_34 : decode cX1_isNumberWithin 34 = .ok (.aload_n 0, 1) := dq_get dX1_isNumberWithin_0_t 18 rfl
theorem dX1_isNumberWithin_35 : decode cX1_isNumberWithin 35 = .ok (.iconst 3, 1) := dq_get dX1_isNumberWithin_0_t 19 rfl
theorem dX1_isNumberWithin_36 : decode cX1_isNumberWithin 36 = .ok (.aload_n 0, 1) := dq_get dX1_isNumberWithin_0_t 20 rfl
theorem dX1_isNumberWithin_37 : decode cX1_isNumberWithin 37 = .ok (.getfield 95, 3) := dq_get dX1_isNumberWithin_0_t 21 rfl
theorem dX1_isNumberWithin_40 : decode cX1_isNumberWithin 40 = .ok (.invokevirtual 64, 3) := dq_get dX1_isNumberWithin_0_t 22 rfl
theorem dX1_isNumberWithin_43 : decode cX1_isNumberWithin 43 = .ok (.ifCond .eq 7, 3) := dq_get dX1_isNumberWithin_0_t 23 rfl
theorem dX1_isNumberWithin_46 : decode cX1_isNumberWithin 46 = .ok (.iconst 1, 1) := dq_get dX1_isNumberWithin_0_t 24 rfl
theorem dX1_isNumberWithin_47 : decode cX1_isNumberWithin 47 = .ok (.goto 4, 3) := dq_get dX1_isNumberWithin_0_t 25 rfl
theorem dX1_isNumberWithin_50 : decode cX1_isNumberWithin 50 = .ok (.iconst 0, 1) := dq_get dX1_isNumberWithin_0_t 26 rfl
theorem dX1_isNumberWithin_51 : decode cX1_isNumberWithin 51 = .ok (.ireturn, 1) := dq_get dX1_isNumberWithin_0_t 27 rfl
theorem gt_wsX1_takeSemicolon_wsX10 : GoodIn wsX1_takeSemicolon wsX10 := fun w hw => ⟨List.mem_cons_of_mem _ (List.mem_append_right _ hw), good_of_word (List.all_eq_true.mp gw_wsX10 w hw)⟩
set_option maxRecDepth 20000 in
theorem ggX1_takeSemicolon_X1_takeToken : GoodIn wsX1_takeSemicolon wsX1_takeToken := goodIn_ca (goodIn_r _ [7, 8, 9, 10, 2, 1, 11, 12, 13, 6, 14, 15, 16, 17, 18, 19, 20, 21, 22, 23] rfl (by decide +kernel)) gt_wsX1_takeSemicolon_wsX10
set_option maxRecDepth 20000 in
theorem gX1_takeSemicolon_X1_takeToken : GoodIn wsX1_takeSemicolon (wsV RX1 51 RX1 yX1_takeToken wsX1_takeToken) := goodIn_app (goodIn_r _ [3, 4, 5, 6] rfl (by decide +kernel)) ggX1_takeSemicolon_X1_takeToken
set_option maxRecDepth 20000 in
theorem ggX1_takeSemicolon_X1_refuse : GoodIn wsX1_takeSemicolon wsX1_refuse := goodIn_ca (goodIn_r _ [21, 22, 23] rfl (by decide +kernel)) gt_wsX1_takeSemicolon_wsX10
set_option maxRecDepth 20000 in
theorem gX1_takeSemicolon_X1_refuse : GoodIn wsX1_takeSemicolon (wsV RX1 64 RX1 yX1_refuse wsX1_refuse) := goodIn_app (goodIn_r _ [18, 19, 20, 6] rfl (by decide +kernel)) ggX1_takeSemicolon_X1_refuse
theorem dX1_takeSemicolon_0_t : dqK cX1_takeSemicolon.data.toList 0 [(0, .aload_n 0, 1), (1, .invokevirtual 51, 3), (4, .ifCond .eq 27, 3), (7, .aload_n 0, 1), (8, .getfield 55, 3), (11, .iconst 3, 1), (12, .if_icmp .eq 15, 3), (15, .aload_n 0, 1), (16, .iconst 2, 1), (17, .aload_n 0, 1), (18, .getfield 95, 3), (21, .invokevirtual 64, 3), (24, .ifCond .eq 7, 3), (27, .iconst 1, 1), (28, .goto 4, 3), (31, .iconst 0, 1), (32, .ireturn, 1)] = true := by decide +kernel
theorem dX1_takeSemicolon_0 : decode cX1_takeSemicolon 0 = .ok (.aload_n 0, 1) := dq_get dX1_takeSemicolon_0_t 0 rfl
theorem dX1_takeSemicolon_1 : decode cX1_takeSemicolon 1 = .ok (.invokevirtual 51, 3) := dq_get dX1_takeSemicolon_0_t 1 rfl
theorem dX1_takeSemicolon_4 : decode cX1_takeSemicolon 4 = .ok (.ifCond .eq 27, 3) := dq_get dX1_takeSemicolon_0_t 2 rfl
theorem dX1_takeSemicolon_7 : decode cX1_takeSemicolon 7 = .ok (.aload_n 0, 1) := dq_get dX1_takeSemicolon_0_t 3 rfl
theorem dX1_takeSemicolon_8 : decode cX1_takeSemicolon 8 = .ok (.getfield 55, 3) := dq_get dX1_takeSemicolon_0_t 4 rfl
theorem dX1_takeSemicolon_11 : decode cX1_takeSemicolon 11 = .ok (.iconst 3, 1) := dq_get dX1_takeSemicolon_0_t 5 rfl
theorem dX1_takeSemicolon_12 : decode cX1_takeSemicolon 12 = .ok (.if_icmp .eq 15, 3) := dq_get dX1_takeSemicolon_0_t 6 rfl
theorem dX1_takeSemicolon_15 : decode cX1_takeSemicolon 15 = .ok (.aload_n 0, 1) := dq_get dX1_takeSemicolon_0_t 7 rfl
theorem dX1_takeSemicolon_16 : decode cX1_takeSemicolon 16 = .ok (.iconst 2, 1) := dq_get dX1_takeSemicolon_0_t 8 rfl
theorem dX1_takeSemicolon_17 : decode cX1_takeSemicolon 17 = .ok (.aload_n 0, 1) := dq_get dX1_takeSemicolon_0_t 9 rfl
theorem dX1_takeSemicolon_18 : decode cX1_takeSemicolon 18 = .ok (.getfield 95, 3) := dq_get dX1_takeSemicolon_0_t 10 rfl
theorem dX1_takeSemicolon_21 : decode cX1_takeSemicolon 21 = .ok (.invokevirtual 64, 3) := dq_get dX1_takeSemicolon_0_t 11 rfl
theorem dX1_takeSemicolon_24 : decode cX1_takeSemicolon 24 = .ok (.ifCond .eq 7, 3) := dq_get dX1_takeSemicolon_0_t 12 rfl
theorem dX1_takeSemicolon_27 : decode cX1_takeSemicolon 27 = .ok (.iconst 1, 1) := dq_get dX1_takeSemicolon_0_t 13 rfl
theorem dX1_takeSemicolon_28 : decode cX1_takeSemicolon 28 = .ok (.goto 4, 3) := dq_get dX1_takeSemicolon_0_t 14 rfl
theorem dX1_takeSemicolon_31 : decode cX1_takeSemicolon 31 = .ok (.iconst 0, 1) := dq_get dX1_takeSemicolon_0_t 15 rfl
theorem dX1_takeSemicolon_32 : decode cX1_takeSemicolon 32 = .ok (.ireturn, 1) := dq_get dX1_takeSemicolon_0_t 16 rfl
set_option maxRecDepth 20000 in
theorem ggX1_takeToken_X1_isLetter : GoodIn wsX1_takeToken wsX1_isLetter := goodIn_r _ [10] rfl (by decide +kernel)
set_option maxRecDepth 20000 in
theorem gX1_takeToken_X1_isLetter : GoodIn wsX1_takeToken (va_wsS RX1 155 yX1_isLetter wsX1_isLetter) := goodIn_app (goodIn_r _ [7, 8, 9] rfl (by decide +kernel)) ggX1_takeToken_X1_isLetter
set_option maxRecDepth 20000 in
theorem ggX1_takeToken_X1_isFigure : GoodIn wsX1_takeToken wsX1_isFigure := goodIn_r _ [13] rfl (by decide +kernel)
set_option maxRecDepth 20000 in
theorem gX1_takeToken_X1_isFigure : GoodIn wsX1_takeToken (va_wsS RX1 158 yX1_isFigure wsX1_isFigure) := goodIn_app (goodIn_r _ [11, 12, 9] rfl (by decide +kernel)) ggX1_takeToken_X1_isFigure
theorem gt_wsX1_takeToken_wsX10 : GoodIn wsX1_takeToken wsX10 := fun w hw => ⟨List.mem_cons_of_mem _ (List.mem_append_right _ hw), good_of_word (List.all_eq_true.mp gw_wsX10 w hw)⟩
set_option maxRecDepth 20000 in
theorem ggX1_takeToken_X1_refuse : GoodIn wsX1_takeToken wsX1_refuse := goodIn_ca (goodIn_r _ [17, 18, 19] rfl (by decide +kernel)) gt_wsX1_takeToken_wsX10
set_option maxRecDepth 20000 in
theorem gX1_takeToken_X1_refuse : GoodIn wsX1_takeToken (wsV RX1 64 RX1 yX1_refuse wsX1_refuse) := goodIn_app (goodIn_r _ [14, 15, 16, 9] rfl (by decide +kernel)) ggX1_takeToken_X1_refuse
theorem dX1_takeToken_0_t : dqK cX1_takeToken.data.toList 0 [(0, .aload_n 0, 1), (1, .getfield 26, 3), (4, .aload_n 0, 1), (5, .getfield 22, 3), (8, .if_icmp .ge 30, 3), (11, .aload_n 0, 1), (12, .getfield 18, 3), (15, .aload_n 0, 1), (16, .getfield 26, 3), (19, .baload, 1), (20, .bipush 32, 2), (22, .if_icmp .ne 16, 3), (25, .aload_n 0, 1), (26, .dup, 1), (27, .getfield 26, 3), (30, .iconst 1, 1), (31, .iadd, 1), (32, .putfield 26, 3), (35, .goto (-35), 3), (38, .aload_n 0, 1), (39, .aload_n 0, 1), (40, .getfield 26, 3), (43, .putfield 95, 3), (46, .aload_n 0, 1), (47, .getfield 26, 3), (50, .aload_n 0, 1), (51, .getfield 22, 3), (54, .if_icmp .lt 10, 3), (57, .aload_n 0, 1), (58, .iconst 0, 1), (59, .putfield 55, 3), (62, .iconst 1, 1), (63, .ireturn, 1), (64, .aload_n 0, 1), (65, .getfield 18, 3), (68, .aload_n 0, 1), (69, .getfield 26, 3), (72, .baload, 1), (73, .bipush 59, 2), (75, .if_icmp .ne 20, 3)] = true := by decide +kernel
theorem dX1_takeToken_0 : decode cX1_takeToken 0 = .ok (.aload_n 0, 1) := dq_get dX1_takeToken_0_t 0 rfl
theorem dX1_takeToken_1 : decode cX1_takeToken 1 = .ok (.getfield 26, 3) := dq_get dX1_takeToken_0_t 1 rfl
theorem dX1_takeToken_4 : decode cX1_takeToken 4 = .ok (.aload_n 0, 1) := dq_get dX1_takeToken_0_t 2 rfl
theorem dX1_takeToken_5 : decode cX1_takeToken 5 = .ok (.getfield 22, 3) := dq_get dX1_takeToken_0_t 3 rfl
theorem dX1_takeToken_8 : decode cX1_takeToken 8 = .ok (.if_icmp .ge 30, 3) := dq_get dX1_takeToken_0_t 4 rfl
theorem dX1_takeToken_11 : decode cX1_takeToken 11 = .ok (.aload_n 0, 1) := dq_get dX1_takeToken_0_t 5 rfl
theorem dX1_takeToken_12 : decode cX1_takeToken 12 = .ok (.getfield 18, 3) := dq_get dX1_takeToken_0_t 6 rfl
theorem dX1_takeToken_15 : decode cX1_takeToken 15 = .ok (.aload_n 0, 1) := dq_get dX1_takeToken_0_t 7 rfl
theorem dX1_takeToken_16 : decode cX1_takeToken 16 = .ok (.getfield 26, 3) := dq_get dX1_takeToken_0_t 8 rfl
theorem dX1_takeToken_19 : decode cX1_takeToken 19 = .ok (.baload, 1) := dq_get dX1_takeToken_0_t 9 rfl
theorem dX1_takeToken_20 : decode cX1_takeToken 20 = .ok (.bipush 32, 2) := dq_get dX1_takeToken_0_t 10 rfl
theorem dX1_takeToken_22 : decode cX1_takeToken 22 = .ok (.if_icmp .ne 16, 3) := dq_get dX1_takeToken_0_t 11 rfl
theorem dX1_takeToken_25 : decode cX1_takeToken 25 = .ok (.aload_n 0, 1) := dq_get dX1_takeToken_0_t 12 rfl
theorem dX1_takeToken_26 : decode cX1_takeToken 26 = .ok (.dup, 1) := dq_get dX1_takeToken_0_t 13 rfl
theorem dX1_takeToken_27 : decode cX1_takeToken 27 = .ok (.getfield 26, 3) := dq_get dX1_takeToken_0_t 14 rfl
theorem dX1_takeToken_30 : decode cX1_takeToken 30 = .ok (.iconst 1, 1) := dq_get dX1_takeToken_0_t 15 rfl
theorem dX1_takeToken_31 : decode cX1_takeToken 31 = .ok (.iadd, 1) := dq_get dX1_takeToken_0_t 16 rfl
theorem dX1_takeToken_32 : decode cX1_takeToken 32 = .ok (.putfield 26, 3) := dq_get dX1_takeToken_0_t 17 rfl
theorem dX1_takeToken_35 : decode cX1_takeToken 35 = .ok (.goto (-35), 3) := dq_get dX1_takeToken_0_t 18 rfl
theorem dX1_takeToken_38 : decode cX1_takeToken 38 = .ok (.aload_n 0, 1) := dq_get dX1_takeToken_0_t 19 rfl
theorem dX1_takeToken_39 : decode cX1_takeToken 39 = .ok (.aload_n 0, 1) := dq_get dX1_takeToken_0_t 20 rfl
theorem dX1_takeToken_40 : decode cX1_takeToken 40 = .ok (.getfield 26, 3) := dq_get dX1_takeToken_0_t 21 rfl
theorem dX1_takeToken_43 : decode cX1_takeToken 43 = .ok (.putfield 95, 3) := dq_get dX1_takeToken_0_t 22 rfl
theorem dX1_takeToken_46 : decode cX1_takeToken 46 = .ok (.aload_n 0, 1) := dq_get dX1_takeToken_0_t 23 rfl
theorem dX1_takeToken_47 : decode cX1_takeToken 47 = .ok (.getfield 26, 3) := dq_get dX1_takeToken_0_t 24 rfl
theorem dX1_takeToken_50 : decode cX1_takeToken 50 = .ok (.aload_n 0, 1) := dq_get dX1_takeToken_0_t 25 rfl
theorem dX1_takeToken_51 : decode cX1_takeToken 51 = .ok (.getfield 22, 3) := dq_get dX1_takeToken_0_t 26 rfl
theorem dX1_takeToken_54 : decode cX1_takeToken 54 = .ok (.if_icmp .lt 10, 3) := dq_get dX1_takeToken_0_t 27 rfl
theorem dX1_takeToken_57 : decode cX1_takeToken 57 = .ok (.aload_n 0, 1) := dq_get dX1_takeToken_0_t 28 rfl
theorem dX1_takeToken_58 : decode cX1_takeToken 58 = .ok (.iconst 0, 1) := dq_get dX1_takeToken_0_t 29 rfl
theorem dX1_takeToken_59 : decode cX1_takeToken 59 = .ok (.putfield 55, 3) := dq_get dX1_takeToken_0_t 30 rfl
theorem dX1_takeToken_62 : decode cX1_takeToken 62 = .ok (.iconst 1, 1) := dq_get dX1_takeToken_0_t 31 rfl
theorem dX1_takeToken_63 : decode cX1_takeToken 63 = .ok (.ireturn, 1) := dq_get dX1_takeToken_0_t 32 rfl
theorem dX1_takeToken_64 : decode cX1_takeToken 64 = .ok (.aload_n 0, 1) := dq_get dX1_takeToken_0_t 33 rfl
theorem dX1_takeToken_65 : decode cX1_takeToken 65 = .ok (.getfield 18, 3) := dq_get dX1_takeToken_0_t 34 rfl
theorem dX1_takeToken_68 : decode cX1_takeToken 68 = .ok (.aload_n 0, 1) := dq_get dX1_takeToken_0_t 35 rfl
theorem dX1_takeToken_69 : decode cX1_takeToken 69 = .ok (.getfield 26, 3) := dq_get dX1_takeToken_0_t 36 rfl
theorem dX1_takeToken_72 : decode cX1_takeToken 72 = .ok (.baload, 1) := dq_get dX1_takeToken_0_t 37 rfl
theorem dX1_takeToken_73 : decode cX1_takeToken 73 = .ok (.bipush 59, 2) := dq_get dX1_takeToken_0_t 38 rfl
theorem dX1_takeToken_75 : decode cX1_takeToken 75 = .ok (.if_icmp .ne 20, 3) := dq_get dX1_takeToken_0_t 39 rfl
theorem dX1_takeToken_78_t : dqK cX1_takeToken.data.toList 0 [(78, .aload_n 0, 1), (79, .dup, 1), (80, .getfield 26, 3), (83, .iconst 1, 1), (84, .iadd, 1), (85, .putfield 26, 3), (88, .aload_n 0, 1), (89, .iconst 3, 1), (90, .putfield 55, 3), (93, .iconst 1, 1), (94, .ireturn, 1), (95, .aload_n 0, 1), (96, .getfield 18, 3), (99, .aload_n 0, 1), (100, .getfield 26, 3), (103, .baload, 1), (104, .invokestatic 155, 3), (107, .ifCond .eq 49, 3), (110, .aload_n 0, 1), (111, .getfield 26, 3), (114, .aload_n 0, 1), (115, .getfield 22, 3), (118, .if_icmp .ge 31, 3), (121, .aload_n 0, 1), (122, .getfield 18, 3), (125, .aload_n 0, 1), (126, .getfield 26, 3), (129, .baload, 1), (130, .invokestatic 155, 3), (133, .ifCond .eq 16, 3), (136, .aload_n 0, 1), (137, .dup, 1), (138, .getfield 26, 3), (141, .iconst 1, 1), (142, .iadd, 1), (143, .putfield 26, 3), (146, .goto (-36), 3), (149, .aload_n 0, 1), (150, .iconst 1, 1), (151, .putfield 55, 3)] = true := by decide +kernel
theorem dX1_takeToken_78 : decode cX1_takeToken 78 = .ok (.aload_n 0, 1) := dq_get dX1_takeToken_78_t 0 rfl
theorem dX1_takeToken_79 : decode cX1_takeToken 79 = .ok (.dup, 1) := dq_get dX1_takeToken_78_t 1 rfl
theorem dX1_takeToken_80 : decode cX1_takeToken 80 = .ok (.getfield 26, 3) := dq_get dX1_takeToken_78_t 2 rfl
theorem dX1_takeToken_83 : decode cX1_takeToken 83 = .ok (.iconst 1, 1) := dq_get dX1_takeToken_78_t 3 rfl
theorem dX1_takeToken_84 : decode cX1_takeToken 84 = .ok (.iadd, 1) := dq_get dX1_takeToken_78_t 4 rfl
theorem dX1_takeToken_85 : decode cX1_takeToken 85 = .ok (.putfield 26, 3) := dq_get dX1_takeToken_78_t 5 rfl
theorem dX1_takeToken_88 : decode cX1_takeToken 88 = .ok (.aload_n 0, 1) := dq_get dX1_takeToken_78_t 6 rfl
theorem dX1_takeToken_89 : decode cX1_takeToken 89 = .ok (.iconst 3, 1) := dq_get dX1_takeToken_78_t 7 rfl
theorem dX1_takeToken_90 : decode cX1_takeToken 90 = .ok (.putfield 55, 3) := dq_get dX1_takeToken_78_t 8 rfl
theorem dX1_takeToken_93 : decode cX1_takeToken 93 = .ok (.iconst 1, 1) := dq_get dX1_takeToken_78_t 9 rfl
theorem dX1_takeToken_94 : decode cX1_takeToken 94 = .ok (.ireturn, 1) := dq_get dX1_takeToken_78_t 10 rfl
theorem dX1_takeToken_95 : decode cX1_takeToken 95 = .ok (.aload_n 0, 1) := dq_get dX1_takeToken_78_t 11 rfl
theorem dX1_takeToken_96 : decode cX1_takeToken 96 = .ok (.getfield 18, 3) := dq_get dX1_takeToken_78_t 12 rfl
theorem dX1_takeToken_99 : decode cX1_takeToken 99 = .ok (.aload_n 0, 1) := dq_get dX1_takeToken_78_t 13 rfl
theorem dX1_takeToken_100 : decode cX1_takeToken 100 = .ok (.getfield 26, 3) := dq_get dX1_takeToken_78_t 14 rfl
theorem dX1_takeToken_103 : decode cX1_takeToken 103 = .ok (.baload, 1) := dq_get dX1_takeToken_78_t 15 rfl
theorem dX1_takeToken_104 : decode cX1_takeToken 104 = .ok (.invokestatic 155, 3) := dq_get dX1_takeToken_78_t 16 rfl
theorem dX1_takeToken_107 : decode cX1_takeToken 107 = .ok (.ifCond .eq 49, 3) := dq_get dX1_takeToken_78_t 17 rfl
theorem dX1_takeToken_110 : decode cX1_takeToken 110 = .ok (.aload_n 0, 1) := dq_get dX1_takeToken_78_t 18 rfl
theorem dX1_takeToken_111 : decode cX1_takeToken 111 = .ok (.getfield 26, 3) := dq_get dX1_takeToken_78_t 19 rfl
theorem dX1_takeToken_114 : decode cX1_takeToken 114 = .ok (.aload_n 0, 1) := dq_get dX1_takeToken_78_t 20 rfl
theorem dX1_takeToken_115 : decode cX1_takeToken 115 = .ok (.getfield 22, 3) := dq_get dX1_takeToken_78_t 21 rfl
theorem dX1_takeToken_118 : decode cX1_takeToken 118 = .ok (.if_icmp .ge 31, 3) := dq_get dX1_takeToken_78_t 22 rfl
theorem dX1_takeToken_121 : decode cX1_takeToken 121 = .ok (.aload_n 0, 1) := dq_get dX1_takeToken_78_t 23 rfl
theorem dX1_takeToken_122 : decode cX1_takeToken 122 = .ok (.getfield 18, 3) := dq_get dX1_takeToken_78_t 24 rfl
theorem dX1_takeToken_125 : decode cX1_takeToken 125 = .ok (.aload_n 0, 1) := dq_get dX1_takeToken_78_t 25 rfl
theorem dX1_takeToken_126 : decode cX1_takeToken 126 = .ok (.getfield 26, 3) := dq_get dX1_takeToken_78_t 26 rfl
theorem dX1_takeToken_129 : decode cX1_takeToken 129 = .ok (.baload, 1) := dq_get dX1_takeToken_78_t 27 rfl
theorem dX1_takeToken_130 : decode cX1_takeToken 130 = .ok (.invokestatic 155, 3) := dq_get dX1_takeToken_78_t 28 rfl
theorem dX1_takeToken_133 : decode cX1_takeToken 133 = .ok (.ifCond .eq 16, 3) := dq_get dX1_takeToken_78_t 29 rfl
theorem dX1_takeToken_136 : decode cX1_takeToken 136 = .ok (.aload_n 0, 1) := dq_get dX1_takeToken_78_t 30 rfl
theorem dX1_takeToken_137 : decode cX1_takeToken 137 = .ok (.dup, 1) := dq_get dX1_takeToken_78_t 31 rfl
theorem dX1_takeToken_138 : decode cX1_takeToken 138 = .ok (.getfield 26, 3) := dq_get dX1_takeToken_78_t 32 rfl
theorem dX1_takeToken_141 : decode cX1_takeToken 141 = .ok (.iconst 1, 1) := dq_get dX1_takeToken_78_t 33 rfl
theorem dX1_takeToken_142 : decode cX1_takeToken 142 = .ok (.iadd, 1) := dq_get dX1_takeToken_78_t 34 rfl
theorem dX1_takeToken_143 : decode cX1_takeToken 143 = .ok (.putfield 26, 3) := dq_get dX1_takeToken_78_t 35 rfl
theorem dX1_takeToken_146 : decode cX1_takeToken 146 = .ok (.goto (-36), 3) := dq_get dX1_takeToken_78_t 36 rfl
theorem dX1_takeToken_149 : decode cX1_takeToken 149 = .ok (.aload_n 0, 1) := dq_get dX1_takeToken_78_t 37 rfl
theorem dX1_takeToken_150 : decode cX1_takeToken 150 = .ok (.iconst 1, 1) := dq_get dX1_takeToken_78_t 38 rfl
theorem dX1_takeToken_151 : decode cX1_takeToken 151 = .ok (.putfield 55, 3) := dq_get dX1_takeToken_78_t 39 rfl
theorem dX1_takeToken_154_t : dqK cX1_takeToken.data.toList 0 [(154, .iconst 1, 1), (155, .ireturn, 1), (156, .aload_n 0, 1), (157, .iconst 0, 1), (158, .putfield 130, 3), (161, .aload_n 0, 1), (162, .getfield 26, 3), (165, .aload_n 0, 1), (166, .getfield 22, 3), (169, .if_icmp .ge 55, 3), (172, .aload_n 0, 1), (173, .getfield 18, 3), (176, .aload_n 0, 1), (177, .getfield 26, 3), (180, .baload, 1), (181, .invokestatic 158, 3), (184, .ifCond .eq 40, 3), (187, .aload_n 0, 1), (188, .bipush 10, 2), (190, .aload_n 0, 1), (191, .getfield 130, 3), (194, .imul, 1), (195, .aload_n 0, 1), (196, .getfield 18, 3), (199, .aload_n 0, 1), (200, .getfield 26, 3), (203, .baload, 1), (204, .iadd, 1), (205, .bipush 48, 2), (207, .isub, 1), (208, .putfield 130, 3), (211, .aload_n 0, 1), (212, .dup, 1), (213, .getfield 26, 3), (216, .iconst 1, 1), (217, .iadd, 1), (218, .putfield 26, 3), (221, .goto (-60), 3), (224, .aload_n 0, 1), (225, .iconst 2, 1)] = true := by decide +kernel
theorem dX1_takeToken_154 : decode cX1_takeToken 154 = .ok (.iconst 1, 1) := dq_get dX1_takeToken_154_t 0 rfl
theorem dX1_takeToken_155 : decode cX1_takeToken 155 = .ok (.ireturn, 1) := dq_get dX1_takeToken_154_t 1 rfl
theorem dX1_takeToken_156 : decode cX1_takeToken 156 = .ok (.aload_n 0, 1) := dq_get dX1_takeToken_154_t 2 rfl
theorem dX1_takeToken_157 : decode cX1_takeToken 157 = .ok (.iconst 0, 1) := dq_get dX1_takeToken_154_t 3 rfl
theorem dX1_takeToken_158 : decode cX1_takeToken 158 = .ok (.putfield 130, 3) := dq_get dX1_takeToken_154_t 4 rfl
theorem dX1_takeToken_161 : decode cX1_takeToken 161 = .ok (.aload_n 0, 1) := dq_get dX1_takeToken_154_t 5 rfl
theorem dX1_takeToken_162 : decode cX1_takeToken 162 = .ok (.getfield 26, 3) := dq_get dX1_takeToken_154_t 6 rfl
theorem dX1_takeToken_165 : decode cX1_takeToken 165 = .ok (.aload_n 0, 1) := dq_get dX1_takeToken_154_t 7 rfl
theorem dX1_takeToken_166 : decode cX1_takeToken 166 = .ok (.getfield 22, 3) := dq_get dX1_takeToken_154_t 8 rfl
theorem dX1_takeToken_169 : decode cX1_takeToken 169 = .ok (.if_icmp .ge 55, 3) := dq_get dX1_takeToken_154_t 9 rfl
theorem dX1_takeToken_172 : decode cX1_takeToken 172 = .ok (.aload_n 0, 1) := dq_get dX1_takeToken_154_t 10 rfl
theorem dX1_takeToken_173 : decode cX1_takeToken 173 = .ok (.getfield 18, 3) := dq_get dX1_takeToken_154_t 11 rfl
theorem dX1_takeToken_176 : decode cX1_takeToken 176 = .ok (.aload_n 0, 1) := dq_get dX1_takeToken_154_t 12 rfl
theorem dX1_takeToken_177 : decode cX1_takeToken 177 = .ok (.getfield 26, 3) := dq_get dX1_takeToken_154_t 13 rfl
theorem dX1_takeToken_180 : decode cX1_takeToken 180 = .ok (.baload, 1) := dq_get dX1_takeToken_154_t 14 rfl
theorem dX1_takeToken_181 : decode cX1_takeToken 181 = .ok (.invokestatic 158, 3) := dq_get dX1_takeToken_154_t 15 rfl
theorem dX1_takeToken_184 : decode cX1_takeToken 184 = .ok (.ifCond .eq 40, 3) := dq_get dX1_takeToken_154_t 16 rfl
theorem dX1_takeToken_187 : decode cX1_takeToken 187 = .ok (.aload_n 0, 1) := dq_get dX1_takeToken_154_t 17 rfl
theorem dX1_takeToken_188 : decode cX1_takeToken 188 = .ok (.bipush 10, 2) := dq_get dX1_takeToken_154_t 18 rfl
theorem dX1_takeToken_190 : decode cX1_takeToken 190 = .ok (.aload_n 0, 1) := dq_get dX1_takeToken_154_t 19 rfl
theorem dX1_takeToken_191 : decode cX1_takeToken 191 = .ok (.getfield 130, 3) := dq_get dX1_takeToken_154_t 20 rfl
theorem dX1_takeToken_194 : decode cX1_takeToken 194 = .ok (.imul, 1) := dq_get dX1_takeToken_154_t 21 rfl
theorem dX1_takeToken_195 : decode cX1_takeToken 195 = .ok (.aload_n 0, 1) := dq_get dX1_takeToken_154_t 22 rfl
theorem dX1_takeToken_196 : decode cX1_takeToken 196 = .ok (.getfield 18, 3) := dq_get dX1_takeToken_154_t 23 rfl
theorem dX1_takeToken_199 : decode cX1_takeToken 199 = .ok (.aload_n 0, 1) := dq_get dX1_takeToken_154_t 24 rfl
theorem dX1_takeToken_200 : decode cX1_takeToken 200 = .ok (.getfield 26, 3) := dq_get dX1_takeToken_154_t 25 rfl
theorem dX1_takeToken_203 : decode cX1_takeToken 203 = .ok (.baload, 1) := dq_get dX1_takeToken_154_t 26 rfl
theorem dX1_takeToken_204 : decode cX1_takeToken 204 = .ok (.iadd, 1) := dq_get dX1_takeToken_154_t 27 rfl
theorem dX1_takeToken_205 : decode cX1_takeToken 205 = .ok (.bipush 48, 2) := dq_get dX1_takeToken_154_t 28 rfl
theorem dX1_takeToken_207 : decode cX1_takeToken 207 = .ok (.isub, 1) := dq_get dX1_takeToken_154_t 29 rfl
theorem dX1_takeToken_208 : decode cX1_takeToken 208 = .ok (.putfield 130, 3) := dq_get dX1_takeToken_154_t 30 rfl
theorem dX1_takeToken_211 : decode cX1_takeToken 211 = .ok (.aload_n 0, 1) := dq_get dX1_takeToken_154_t 31 rfl
theorem dX1_takeToken_212 : decode cX1_takeToken 212 = .ok (.dup, 1) := dq_get dX1_takeToken_154_t 32 rfl
theorem dX1_takeToken_213 : decode cX1_takeToken 213 = .ok (.getfield 26, 3) := dq_get dX1_takeToken_154_t 33 rfl
theorem dX1_takeToken_216 : decode cX1_takeToken 216 = .ok (.iconst 1, 1) := dq_get dX1_takeToken_154_t 34 rfl
theorem dX1_takeToken_217 : decode cX1_takeToken 217 = .ok (.iadd, 1) := dq_get dX1_takeToken_154_t 35 rfl
theorem dX1_takeToken_218 : decode cX1_takeToken 218 = .ok (.putfield 26, 3) := dq_get dX1_takeToken_154_t 36 rfl
theorem dX1_takeToken_221 : decode cX1_takeToken 221 = .ok (.goto (-60), 3) := dq_get dX1_takeToken_154_t 37 rfl
theorem dX1_takeToken_224 : decode cX1_takeToken 224 = .ok (.aload_n 0, 1) := dq_get dX1_takeToken_154_t 38 rfl
theorem dX1_takeToken_225 : decode cX1_takeToken 225 = .ok (.iconst 2, 1) := dq_get dX1_takeToken_154_t 39 rfl
theorem dX1_takeToken_226_t : dqK cX1_takeToken.data.toList 0 [(226, .putfield 55, 3), (229, .aload_n 0, 1), (230, .getfield 26, 3), (233, .aload_n 0, 1), (234, .getfield 95, 3), (237, .isub, 1), (238, .iconst 1, 1), (239, .if_icmp .eq 28, 3), (242, .aload_n 0, 1), (243, .getfield 26, 3), (246, .aload_n 0, 1), (247, .getfield 95, 3), (250, .isub, 1), (251, .iconst 2, 1), (252, .if_icmp .eq 15, 3), (255, .aload_n 0, 1), (256, .iconst 1, 1), (257, .aload_n 0, 1), (258, .getfield 95, 3), (261, .invokevirtual 64, 3), (264, .ifCond .eq 7, 3), (267, .iconst 1, 1), (268, .goto 4, 3), (271, .iconst 0, 1), (272, .ireturn, 1)] = true := by decide +kernel
theorem dX1_takeToken_226 : decode cX1_takeToken 226 = .ok (.putfield 55, 3) := dq_get dX1_takeToken_226_t 0 rfl
theorem dX1_takeToken_229 : decode cX1_takeToken 229 = .ok (.aload_n 0, 1) := dq_get dX1_takeToken_226_t 1 rfl
theorem dX1_takeToken_230 : decode cX1_takeToken 230 = .ok (.getfield 26, 3) := dq_get dX1_takeToken_226_t 2 rfl
theorem dX1_takeToken_233 : decode cX1_takeToken 233 = .ok (.aload_n 0, 1) := dq_get dX1_takeToken_226_t 3 rfl
theorem dX1_takeToken_234 : decode cX1_takeToken 234 = .ok (.getfield 95, 3) := dq_get dX1_takeToken_226_t 4 rfl
theorem dX1_takeToken_237 : decode cX1_takeToken 237 = .ok (.isub, 1) := dq_get dX1_takeToken_226_t 5 rfl
theorem dX1_takeToken_238 : decode cX1_takeToken 238 = .ok (.iconst 1, 1) := dq_get dX1_takeToken_226_t 6 rfl
theorem dX1_takeToken_239 : decode cX1_takeToken 239 = .ok (.if_icmp .eq 28, 3) := dq_get dX1_takeToken_226_t 7 rfl
theorem dX1_takeToken_242 : decode cX1_takeToken 242 = .ok (.aload_n 0, 1) := dq_get dX1_takeToken_226_t 8 rfl
theorem dX1_takeToken_243 : decode cX1_takeToken 243 = .ok (.getfield 26, 3) := dq_get dX1_takeToken_226_t 9 rfl
theorem dX1_takeToken_246 : decode cX1_takeToken 246 = .ok (.aload_n 0, 1) := dq_get dX1_takeToken_226_t 10 rfl
theorem dX1_takeToken_247 : decode cX1_takeToken 247 = .ok (.getfield 95, 3) := dq_get dX1_takeToken_226_t 11 rfl
theorem dX1_takeToken_250 : decode cX1_takeToken 250 = .ok (.isub, 1) := dq_get dX1_takeToken_226_t 12 rfl
theorem dX1_takeToken_251 : decode cX1_takeToken 251 = .ok (.iconst 2, 1) := dq_get dX1_takeToken_226_t 13 rfl
theorem dX1_takeToken_252 : decode cX1_takeToken 252 = .ok (.if_icmp .eq 15, 3) := dq_get dX1_takeToken_226_t 14 rfl
theorem dX1_takeToken_255 : decode cX1_takeToken 255 = .ok (.aload_n 0, 1) := dq_get dX1_takeToken_226_t 15 rfl
theorem dX1_takeToken_256 : decode cX1_takeToken 256 = .ok (.iconst 1, 1) := dq_get dX1_takeToken_226_t 16 rfl
theorem dX1_takeToken_257 : decode cX1_takeToken 257 = .ok (.aload_n 0, 1) := dq_get dX1_takeToken_226_t 17 rfl
theorem dX1_takeToken_258 : decode cX1_takeToken 258 = .ok (.getfield 95, 3) := dq_get dX1_takeToken_226_t 18 rfl
theorem dX1_takeToken_261 : decode cX1_takeToken 261 = .ok (.invokevirtual 64, 3) := dq_get dX1_takeToken_226_t 19 rfl
theorem dX1_takeToken_264 : decode cX1_takeToken 264 = .ok (.ifCond .eq 7, 3) := dq_get dX1_takeToken_226_t 20 rfl
theorem dX1_takeToken_267 : decode cX1_takeToken 267 = .ok (.iconst 1, 1) := dq_get dX1_takeToken_226_t 21 rfl
theorem dX1_takeToken_268 : decode cX1_takeToken 268 = .ok (.goto 4, 3) := dq_get dX1_takeToken_226_t 22 rfl
theorem dX1_takeToken_271 : decode cX1_takeToken 271 = .ok (.iconst 0, 1) := dq_get dX1_takeToken_226_t 23 rfl
theorem dX1_takeToken_272 : decode cX1_takeToken 272 = .ok (.ireturn, 1) := dq_get dX1_takeToken_226_t 24 rfl
theorem dX1_isLetter_0_t : dqK cX1_isLetter.data.toList 0 [(0, .iload_n 0, 1), (1, .bipush 97, 2), (3, .if_icmp .lt 13, 3), (6, .iload_n 0, 1), (7, .bipush 122, 2), (9, .if_icmp .gt 7, 3), (12, .iconst 1, 1), (13, .goto 4, 3), (16, .iconst 0, 1), (17, .ireturn, 1)] = true := by decide +kernel
theorem dX1_isLetter_0 : decode cX1_isLetter 0 = .ok (.iload_n 0, 1) := dq_get dX1_isLetter_0_t 0 rfl
theorem dX1_isLetter_1 : decode cX1_isLetter 1 = .ok (.bipush 97, 2) := dq_get dX1_isLetter_0_t 1 rfl
theorem dX1_isLetter_3 : decode cX1_isLetter 3 = .ok (.if_icmp .lt 13, 3) := dq_get dX1_isLetter_0_t 2 rfl
theorem dX1_isLetter_6 : decode cX1_isLetter 6 = .ok (.iload_n 0, 1) := dq_get dX1_isLetter_0_t 3 rfl
theorem dX1_isLetter_7 : decode cX1_isLetter 7 = .ok (.bipush 122, 2) := dq_get dX1_isLetter_0_t 4 rfl
theorem dX1_isLetter_9 : decode cX1_isLetter 9 = .ok (.if_icmp .gt 7, 3) := dq_get dX1_isLetter_0_t 5 rfl
theorem dX1_isLetter_12 : decode cX1_isLetter 12 = .ok (.iconst 1, 1) := dq_get dX1_isLetter_0_t 6 rfl
theorem dX1_isLetter_13 : decode cX1_isLetter 13 = .ok (.goto 4, 3) := dq_get dX1_isLetter_0_t 7 rfl
theorem dX1_isLetter_16 : decode cX1_isLetter 16 = .ok (.iconst 0, 1) := dq_get dX1_isLetter_0_t 8 rfl
theorem dX1_isLetter_17 : decode cX1_isLetter 17 = .ok (.ireturn, 1) := dq_get dX1_isLetter_0_t 9 rfl
theorem dX1_isFigure_0_t : dqK cX1_isFigure.data.toList 0 [(0, .iload_n 0, 1), (1, .bipush 48, 2), (3, .if_icmp .lt 13, 3), (6, .iload_n 0, 1), (7, .bipush 57, 2), (9, .if_icmp .gt 7, 3), (12, .iconst 1, 1), (13, .goto 4, 3), (16, .iconst 0, 1), (17, .ireturn, 1)] = true := by decide +kernel
theorem dX1_isFigure_0 : decode cX1_isFigure 0 = .ok (.iload_n 0, 1) := dq_get dX1_isFigure_0_t 0 rfl
theorem dX1_isFigure_1 : decode cX1_isFigure 1 = .ok (.bipush 48, 2) := dq_get dX1_isFigure_0_t 1 rfl
theorem dX1_isFigure_3 : decode cX1_isFigure 3 = .ok (.if_icmp .lt 13, 3) := dq_get dX1_isFigure_0_t 2 rfl
theorem dX1_isFigure_6 : decode cX1_isFigure 6 = .ok (.iload_n 0, 1) := dq_get dX1_isFigure_0_t 3 rfl
theorem dX1_isFigure_7 : decode cX1_isFigure 7 = .ok (.bipush 57, 2) := dq_get dX1_isFigure_0_t 4 rfl
theorem dX1_isFigure_9 : decode cX1_isFigure 9 = .ok (.if_icmp .gt 7, 3) := dq_get dX1_isFigure_0_t 5 rfl
theorem dX1_isFigure_12 : decode cX1_isFigure 12 = .ok (.iconst 1, 1) := dq_get dX1_isFigure_0_t 6 rfl
theorem dX1_isFigure_13 : decode cX1_isFigure 13 = .ok (.goto 4, 3) := dq_get dX1_isFigure_0_t 7 rfl
theorem dX1_isFigure_16 : decode cX1_isFigure 16 = .ok (.iconst 0, 1) := dq_get dX1_isFigure_0_t 8 rfl
theorem dX1_isFigure_17 : decode cX1_isFigure 17 = .ok (.ireturn, 1) := dq_get dX1_isFigure_0_t 9 rfl
set_option maxRecDepth 20000 in
theorem ggX1_isName_J0_length_8abf5 : GoodIn wsX1_isName wsJ0_length_8abf5 := goodIn_r _ [8, 9, 10, 11, 12, 7, 13, 14, 15] rfl (by decide +kernel)
set_option maxRecDepth 20000 in
theorem gX1_isName_J0_length_8abf5 : GoodIn wsX1_isName (wsV RX1 161 RJ0 yJ0_length_8abf5 wsJ0_length_8abf5) := goodIn_app (goodIn_r _ [4, 5, 6, 7] rfl (by decide +kernel)) ggX1_isName_J0_length_8abf5
set_option maxRecDepth 20000 in
theorem ggX1_isName_J0_charAt_5068e : GoodIn wsX1_isName wsJ0_charAt_5068e := goodIn_r _ [19, 9, 20, 21, 22, 7, 23, 14, 15, 24, 25, 26, 27, 28, 29, 30, 31, 32, 33, 34, 35, 36, 37, 38, 39, 40, 41, 42, 43, 44, 45, 46, 47, 48, 49, 50, 51, 52] rfl (by decide +kernel)
set_option maxRecDepth 20000 in
theorem gX1_isName_J0_charAt_5068e : GoodIn wsX1_isName (wsV RX1 165 RJ0 yJ0_charAt_5068e wsJ0_charAt_5068e) := goodIn_app (goodIn_r _ [16, 17, 18, 7] rfl (by decide +kernel)) ggX1_isName_J0_charAt_5068e
theorem dX1_isName_0_t : dqK cX1_isName.data.toList 0 [(0, .aload_n 0, 1), (1, .getfield 26, 3), (4, .aload_n 0, 1), (5, .getfield 95, 3), (8, .isub, 1), (9, .aload_n 1, 1), (10, .invokevirtual 161, 3), (13, .if_icmp .eq 5, 3), (16, .iconst 0, 1), (17, .ireturn, 1), (18, .iconst 0, 1), (19, .istore_n 2, 1), (20, .iload_n 2, 1), (21, .aload_n 1, 1), (22, .invokevirtual 161, 3), (25, .if_icmp .ge 30, 3), (28, .aload_n 0, 1), (29, .getfield 18, 3), (32, .aload_n 0, 1), (33, .getfield 95, 3), (36, .iload_n 2, 1), (37, .iadd, 1), (38, .baload, 1), (39, .aload_n 1, 1), (40, .iload_n 2, 1), (41, .invokevirtual 165, 3), (44, .if_icmp .eq 5, 3), (47, .iconst 0, 1), (48, .ireturn, 1), (49, .iinc 2 1, 3), (52, .goto (-32), 3), (55, .iconst 1, 1), (56, .ireturn, 1)] = true := by decide +kernel
theorem dX1_isName_0 : decode cX1_isName 0 = .ok (.aload_n 0, 1) := dq_get dX1_isName_0_t 0 rfl
theorem dX1_isName_1 : decode cX1_isName 1 = .ok (.getfield 26, 3) := dq_get dX1_isName_0_t 1 rfl
theorem dX1_isName_4 : decode cX1_isName 4 = .ok (.aload_n 0, 1) := dq_get dX1_isName_0_t 2 rfl
theorem dX1_isName_5 : decode cX1_isName 5 = .ok (.getfield 95, 3) := dq_get dX1_isName_0_t 3 rfl
theorem dX1_isName_8 : decode cX1_isName 8 = .ok (.isub, 1) := dq_get dX1_isName_0_t 4 rfl
theorem dX1_isName_9 : decode cX1_isName 9 = .ok (.aload_n 1, 1) := dq_get dX1_isName_0_t 5 rfl
theorem dX1_isName_10 : decode cX1_isName 10 = .ok (.invokevirtual 161, 3) := dq_get dX1_isName_0_t 6 rfl
theorem dX1_isName_13 : decode cX1_isName 13 = .ok (.if_icmp .eq 5, 3) := dq_get dX1_isName_0_t 7 rfl
theorem dX1_isName_16 : decode cX1_isName 16 = .ok (.iconst 0, 1) := dq_get dX1_isName_0_t 8 rfl
theorem dX1_isName_17 : decode cX1_isName 17 = .ok (.ireturn, 1) := dq_get dX1_isName_0_t 9 rfl
theorem dX1_isName_18 : decode cX1_isName 18 = .ok (.iconst 0, 1) := dq_get dX1_isName_0_t 10 rfl
theorem dX1_isName_19 : decode cX1_isName 19 = .ok (.istore_n 2, 1) := dq_get dX1_isName_0_t 11 rfl
theorem dX1_isName_20 : decode cX1_isName 20 = .ok (.iload_n 2, 1) := dq_get dX1_isName_0_t 12 rfl
theorem dX1_isName_21 : decode cX1_isName 21 = .ok (.aload_n 1, 1) := dq_get dX1_isName_0_t 13 rfl
theorem dX1_isName_22 : decode cX1_isName 22 = .ok (.invokevirtual 161, 3) := dq_get dX1_isName_0_t 14 rfl
theorem dX1_isName_25 : decode cX1_isName 25 = .ok (.if_icmp .ge 30, 3) := dq_get dX1_isName_0_t 15 rfl
theorem dX1_isName_28 : decode cX1_isName 28 = .ok (.aload_n 0, 1) := dq_get dX1_isName_0_t 16 rfl
theorem dX1_isName_29 : decode cX1_isName 29 = .ok (.getfield 18, 3) := dq_get dX1_isName_0_t 17 rfl
theorem dX1_isName_32 : decode cX1_isName 32 = .ok (.aload_n 0, 1) := dq_get dX1_isName_0_t 18 rfl
theorem dX1_isName_33 : decode cX1_isName 33 = .ok (.getfield 95, 3) := dq_get dX1_isName_0_t 19 rfl
theorem dX1_isName_36 : decode cX1_isName 36 = .ok (.iload_n 2, 1) := dq_get dX1_isName_0_t 20 rfl
theorem dX1_isName_37 : decode cX1_isName 37 = .ok (.iadd, 1) := dq_get dX1_isName_0_t 21 rfl
theorem dX1_isName_38 : decode cX1_isName 38 = .ok (.baload, 1) := dq_get dX1_isName_0_t 22 rfl
theorem dX1_isName_39 : decode cX1_isName 39 = .ok (.aload_n 1, 1) := dq_get dX1_isName_0_t 23 rfl
theorem dX1_isName_40 : decode cX1_isName 40 = .ok (.iload_n 2, 1) := dq_get dX1_isName_0_t 24 rfl
theorem dX1_isName_41 : decode cX1_isName 41 = .ok (.invokevirtual 165, 3) := dq_get dX1_isName_0_t 25 rfl
theorem dX1_isName_44 : decode cX1_isName 44 = .ok (.if_icmp .eq 5, 3) := dq_get dX1_isName_0_t 26 rfl
theorem dX1_isName_47 : decode cX1_isName 47 = .ok (.iconst 0, 1) := dq_get dX1_isName_0_t 27 rfl
theorem dX1_isName_48 : decode cX1_isName 48 = .ok (.ireturn, 1) := dq_get dX1_isName_0_t 28 rfl
theorem dX1_isName_49 : decode cX1_isName 49 = .ok (.iinc 2 1, 3) := dq_get dX1_isName_0_t 29 rfl
theorem dX1_isName_52 : decode cX1_isName 52 = .ok (.goto (-32), 3) := dq_get dX1_isName_0_t 30 rfl
theorem dX1_isName_55 : decode cX1_isName 55 = .ok (.iconst 1, 1) := dq_get dX1_isName_0_t 31 rfl
theorem dX1_isName_56 : decode cX1_isName 56 = .ok (.ireturn, 1) := dq_get dX1_isName_0_t 32 rfl
theorem dX2_init_0_t : dqK cX2_init.data.toList 0 [(0, .aload_n 0, 1), (1, .invokespecial 3, 3), (4, .aload_n 0, 1), (5, .iload_n 1, 1), (6, .putfield 9, 3), (9, .aload_n 0, 1), (10, .iconst 3, 1), (11, .iload_n 1, 1), (12, .imul, 1), (15, .putfield 15, 3), (18, .return_, 1)] = true := by decide +kernel
theorem dX2_init_0 : decode cX2_init 0 = .ok (.aload_n 0, 1) := dq_get dX2_init_0_t 0 rfl
theorem dX2_init_1 : decode cX2_init 1 = .ok (.invokespecial 3, 3) := dq_get dX2_init_0_t 1 rfl
theorem dX2_init_4 : decode cX2_init 4 = .ok (.aload_n 0, 1) := dq_get dX2_init_0_t 2 rfl
theorem dX2_init_5 : decode cX2_init 5 = .ok (.iload_n 1, 1) := dq_get dX2_init_0_t 3 rfl
theorem dX2_init_6 : decode cX2_init 6 = .ok (.putfield 9, 3) := dq_get dX2_init_0_t 4 rfl
theorem dX2_init_9 : decode cX2_init 9 = .ok (.aload_n 0, 1) := dq_get dX2_init_0_t 5 rfl
theorem dX2_init_10 : decode cX2_init 10 = .ok (.iconst 3, 1) := dq_get dX2_init_0_t 6 rfl
theorem dX2_init_11 : decode cX2_init 11 = .ok (.iload_n 1, 1) := dq_get dX2_init_0_t 7 rfl
theorem dX2_init_12 : decode cX2_init 12 = .ok (.imul, 1) := dq_get dX2_init_0_t 8 rfl
theorem dX2_init_15 : decode cX2_init 15 = .ok (.putfield 15, 3) := dq_get dX2_init_0_t 9 rfl
theorem dX2_init_18 : decode cX2_init 18 = .ok (.return_, 1) := dq_get dX2_init_0_t 10 rfl
theorem dX2_init_13 : decode cX2_init 13 = .ok (.newarray .int, 2) := by decide +kernel
theorem dX2_has_0_t : dqK cX2_has.data.toList 0 [(0, .iload_n 1, 1), (1, .ifCond .lt 15, 3), (4, .iload_n 1, 1), (5, .aload_n 0, 1), (6, .getfield 19, 3), (9, .if_icmp .ge 7, 3), (12, .iconst 1, 1), (13, .goto 4, 3), (16, .iconst 0, 1), (17, .ireturn, 1)] = true := by decide +kernel
theorem dX2_has_0 : decode cX2_has 0 = .ok (.iload_n 1, 1) := dq_get dX2_has_0_t 0 rfl
theorem dX2_has_1 : decode cX2_has 1 = .ok (.ifCond .lt 15, 3) := dq_get dX2_has_0_t 1 rfl
theorem dX2_has_4 : decode cX2_has 4 = .ok (.iload_n 1, 1) := dq_get dX2_has_0_t 2 rfl
theorem dX2_has_5 : decode cX2_has 5 = .ok (.aload_n 0, 1) := dq_get dX2_has_0_t 3 rfl
theorem dX2_has_6 : decode cX2_has 6 = .ok (.getfield 19, 3) := dq_get dX2_has_0_t 4 rfl
theorem dX2_has_9 : decode cX2_has 9 = .ok (.if_icmp .ge 7, 3) := dq_get dX2_has_0_t 5 rfl
theorem dX2_has_12 : decode cX2_has 12 = .ok (.iconst 1, 1) := dq_get dX2_has_0_t 6 rfl
theorem dX2_has_13 : decode cX2_has 13 = .ok (.goto 4, 3) := dq_get dX2_has_0_t 7 rfl
theorem dX2_has_16 : decode cX2_has 16 = .ok (.iconst 0, 1) := dq_get dX2_has_0_t 8 rfl
theorem dX2_has_17 : decode cX2_has 17 = .ok (.ireturn, 1) := dq_get dX2_has_0_t 9 rfl
theorem dX2_number_0_t : dqK cX2_number.data.toList 0 [(0, .aload_n 0, 1), (1, .getfield 15, 3), (4, .iconst 3, 1), (5, .iload_n 1, 1), (6, .imul, 1), (7, .iload_n 2, 1), (8, .iadd, 1), (9, .iaload, 1), (10, .ireturn, 1)] = true := by decide +kernel
theorem dX2_number_0 : decode cX2_number 0 = .ok (.aload_n 0, 1) := dq_get dX2_number_0_t 0 rfl
theorem dX2_number_1 : decode cX2_number 1 = .ok (.getfield 15, 3) := dq_get dX2_number_0_t 1 rfl
theorem dX2_number_4 : decode cX2_number 4 = .ok (.iconst 3, 1) := dq_get dX2_number_0_t 2 rfl
theorem dX2_number_5 : decode cX2_number 5 = .ok (.iload_n 1, 1) := dq_get dX2_number_0_t 3 rfl
theorem dX2_number_6 : decode cX2_number 6 = .ok (.imul, 1) := dq_get dX2_number_0_t 4 rfl
theorem dX2_number_7 : decode cX2_number 7 = .ok (.iload_n 2, 1) := dq_get dX2_number_0_t 5 rfl
theorem dX2_number_8 : decode cX2_number 8 = .ok (.iadd, 1) := dq_get dX2_number_0_t 6 rfl
theorem dX2_number_9 : decode cX2_number 9 = .ok (.iaload, 1) := dq_get dX2_number_0_t 7 rfl
theorem dX2_number_10 : decode cX2_number 10 = .ok (.ireturn, 1) := dq_get dX2_number_0_t 8 rfl
theorem dX2_replace_0_t : dqK cX2_replace.data.toList 0 [(0, .aload_n 0, 1), (1, .getfield 15, 3), (4, .iconst 3, 1), (5, .iload_n 1, 1), (6, .imul, 1), (7, .iload_n 2, 1), (8, .iadd, 1), (9, .iaload, 1), (10, .istore 4, 2), (12, .aload_n 0, 1), (13, .getfield 15, 3), (16, .iconst 3, 1), (17, .iload_n 1, 1), (18, .imul, 1), (19, .iload_n 2, 1), (20, .iadd, 1), (21, .iload_n 3, 1), (22, .iastore, 1), (23, .iload 4, 2), (25, .ireturn, 1)] = true := by decide +kernel
theorem dX2_replace_0 : decode cX2_replace 0 = .ok (.aload_n 0, 1) := dq_get dX2_replace_0_t 0 rfl
theorem dX2_replace_1 : decode cX2_replace 1 = .ok (.getfield 15, 3) := dq_get dX2_replace_0_t 1 rfl
theorem dX2_replace_4 : decode cX2_replace 4 = .ok (.iconst 3, 1) := dq_get dX2_replace_0_t 2 rfl
theorem dX2_replace_5 : decode cX2_replace 5 = .ok (.iload_n 1, 1) := dq_get dX2_replace_0_t 3 rfl
theorem dX2_replace_6 : decode cX2_replace 6 = .ok (.imul, 1) := dq_get dX2_replace_0_t 4 rfl
theorem dX2_replace_7 : decode cX2_replace 7 = .ok (.iload_n 2, 1) := dq_get dX2_replace_0_t 5 rfl
theorem dX2_replace_8 : decode cX2_replace 8 = .ok (.iadd, 1) := dq_get dX2_replace_0_t 6 rfl
theorem dX2_replace_9 : decode cX2_replace 9 = .ok (.iaload, 1) := dq_get dX2_replace_0_t 7 rfl
theorem dX2_replace_10 : decode cX2_replace 10 = .ok (.istore 4, 2) := dq_get dX2_replace_0_t 8 rfl
theorem dX2_replace_12 : decode cX2_replace 12 = .ok (.aload_n 0, 1) := dq_get dX2_replace_0_t 9 rfl
theorem dX2_replace_13 : decode cX2_replace 13 = .ok (.getfield 15, 3) := dq_get dX2_replace_0_t 10 rfl
theorem dX2_replace_16 : decode cX2_replace 16 = .ok (.iconst 3, 1) := dq_get dX2_replace_0_t 11 rfl
theorem dX2_replace_17 : decode cX2_replace 17 = .ok (.iload_n 1, 1) := dq_get dX2_replace_0_t 12 rfl
theorem dX2_replace_18 : decode cX2_replace 18 = .ok (.imul, 1) := dq_get dX2_replace_0_t 13 rfl
theorem dX2_replace_19 : decode cX2_replace 19 = .ok (.iload_n 2, 1) := dq_get dX2_replace_0_t 14 rfl
theorem dX2_replace_20 : decode cX2_replace 20 = .ok (.iadd, 1) := dq_get dX2_replace_0_t 15 rfl
theorem dX2_replace_21 : decode cX2_replace 21 = .ok (.iload_n 3, 1) := dq_get dX2_replace_0_t 16 rfl
theorem dX2_replace_22 : decode cX2_replace 22 = .ok (.iastore, 1) := dq_get dX2_replace_0_t 17 rfl
theorem dX2_replace_23 : decode cX2_replace 23 = .ok (.iload 4, 2) := dq_get dX2_replace_0_t 18 rfl
theorem dX2_replace_25 : decode cX2_replace 25 = .ok (.ireturn, 1) := dq_get dX2_replace_0_t 19 rfl
theorem dX2_add_0_t : dqK cX2_add.data.toList 0 [(0, .aload_n 0, 1), (1, .getfield 19, 3), (4, .aload_n 0, 1), (5, .getfield 9, 3), (8, .if_icmp .lt 6, 3), (11, .bipush (-3), 2), (13, .ireturn, 1), (14, .aload_n 0, 1), (15, .getfield 15, 3), (18, .iconst 3, 1), (19, .aload_n 0, 1), (20, .getfield 19, 3), (23, .imul, 1), (24, .iload_n 1, 1), (25, .iastore, 1), (26, .aload_n 0, 1), (27, .getfield 15, 3), (30, .iconst 3, 1), (31, .aload_n 0, 1), (32, .getfield 19, 3), (35, .imul, 1), (36, .iconst 1, 1), (37, .iadd, 1), (38, .iload_n 2, 1), (39, .iastore, 1), (40, .aload_n 0, 1), (41, .getfield 15, 3), (44, .iconst 3, 1), (45, .aload_n 0, 1), (46, .getfield 19, 3), (49, .imul, 1), (50, .iconst 2, 1), (51, .iadd, 1), (52, .iload_n 3, 1), (53, .iastore, 1), (54, .aload_n 0, 1), (55, .dup, 1), (56, .getfield 19, 3), (59, .iconst 1, 1), (60, .iadd, 1)] = true := by decide +kernel
theorem dX2_add_0 : decode cX2_add 0 = .ok (.aload_n 0, 1) := dq_get dX2_add_0_t 0 rfl
theorem dX2_add_1 : decode cX2_add 1 = .ok (.getfield 19, 3) := dq_get dX2_add_0_t 1 rfl
theorem dX2_add_4 : decode cX2_add 4 = .ok (.aload_n 0, 1) := dq_get dX2_add_0_t 2 rfl
theorem dX2_add_5 : decode cX2_add 5 = .ok (.getfield 9, 3) := dq_get dX2_add_0_t 3 rfl
theorem dX2_add_8 : decode cX2_add 8 = .ok (.if_icmp .lt 6, 3) := dq_get dX2_add_0_t 4 rfl
theorem dX2_add_11 : decode cX2_add 11 = .ok (.bipush (-3), 2) := dq_get dX2_add_0_t 5 rfl
theorem dX2_add_13 : decode cX2_add 13 = .ok (.ireturn, 1) := dq_get dX2_add_0_t 6 rfl
theorem dX2_add_14 : decode cX2_add 14 = .ok (.aload_n 0, 1) := dq_get dX2_add_0_t 7 rfl
theorem dX2_add_15 : decode cX2_add 15 = .ok (.getfield 15, 3) := dq_get dX2_add_0_t 8 rfl
theorem dX2_add_18 : decode cX2_add 18 = .ok (.iconst 3, 1) := dq_get dX2_add_0_t 9 rfl
theorem dX2_add_19 : decode cX2_add 19 = .ok (.aload_n 0, 1) := dq_get dX2_add_0_t 10 rfl
theorem dX2_add_20 : decode cX2_add 20 = .ok (.getfield 19, 3) := dq_get dX2_add_0_t 11 rfl
theorem dX2_add_23 : decode cX2_add 23 = .ok (.imul, 1) := dq_get dX2_add_0_t 12 rfl
theorem dX2_add_24 : decode cX2_add 24 = .ok (.iload_n 1, 1) := dq_get dX2_add_0_t 13 rfl
theorem dX2_add_25 : decode cX2_add 25 = .ok (.iastore, 1) := dq_get dX2_add_0_t 14 rfl
theorem dX2_add_26 : decode cX2_add 26 = .ok (.aload_n 0, 1) := dq_get dX2_add_0_t 15 rfl
theorem dX2_add_27 : decode cX2_add 27 = .ok (.getfield 15, 3) := dq_get dX2_add_0_t 16 rfl
theorem dX2_add_30 : decode cX2_add 30 = .ok (.iconst 3, 1) := dq_get dX2_add_0_t 17 rfl
theorem dX2_add_31 : decode cX2_add 31 = .ok (.aload_n 0, 1) := dq_get dX2_add_0_t 18 rfl
theorem dX2_add_32 : decode cX2_add 32 = .ok (.getfield 19, 3) := dq_get dX2_add_0_t 19 rfl
theorem dX2_add_35 : decode cX2_add 35 = .ok (.imul, 1) := dq_get dX2_add_0_t 20 rfl
theorem dX2_add_36 : decode cX2_add 36 = .ok (.iconst 1, 1) := dq_get dX2_add_0_t 21 rfl
theorem dX2_add_37 : decode cX2_add 37 = .ok (.iadd, 1) := dq_get dX2_add_0_t 22 rfl
theorem dX2_add_38 : decode cX2_add 38 = .ok (.iload_n 2, 1) := dq_get dX2_add_0_t 23 rfl
theorem dX2_add_39 : decode cX2_add 39 = .ok (.iastore, 1) := dq_get dX2_add_0_t 24 rfl
theorem dX2_add_40 : decode cX2_add 40 = .ok (.aload_n 0, 1) := dq_get dX2_add_0_t 25 rfl
theorem dX2_add_41 : decode cX2_add 41 = .ok (.getfield 15, 3) := dq_get dX2_add_0_t 26 rfl
theorem dX2_add_44 : decode cX2_add 44 = .ok (.iconst 3, 1) := dq_get dX2_add_0_t 27 rfl
theorem dX2_add_45 : decode cX2_add 45 = .ok (.aload_n 0, 1) := dq_get dX2_add_0_t 28 rfl
theorem dX2_add_46 : decode cX2_add 46 = .ok (.getfield 19, 3) := dq_get dX2_add_0_t 29 rfl
theorem dX2_add_49 : decode cX2_add 49 = .ok (.imul, 1) := dq_get dX2_add_0_t 30 rfl
theorem dX2_add_50 : decode cX2_add 50 = .ok (.iconst 2, 1) := dq_get dX2_add_0_t 31 rfl
theorem dX2_add_51 : decode cX2_add 51 = .ok (.iadd, 1) := dq_get dX2_add_0_t 32 rfl
theorem dX2_add_52 : decode cX2_add 52 = .ok (.iload_n 3, 1) := dq_get dX2_add_0_t 33 rfl
theorem dX2_add_53 : decode cX2_add 53 = .ok (.iastore, 1) := dq_get dX2_add_0_t 34 rfl
theorem dX2_add_54 : decode cX2_add 54 = .ok (.aload_n 0, 1) := dq_get dX2_add_0_t 35 rfl
theorem dX2_add_55 : decode cX2_add 55 = .ok (.dup, 1) := dq_get dX2_add_0_t 36 rfl
theorem dX2_add_56 : decode cX2_add 56 = .ok (.getfield 19, 3) := dq_get dX2_add_0_t 37 rfl
theorem dX2_add_59 : decode cX2_add 59 = .ok (.iconst 1, 1) := dq_get dX2_add_0_t 38 rfl
theorem dX2_add_60 : decode cX2_add 60 = .ok (.iadd, 1) := dq_get dX2_add_0_t 39 rfl
theorem dX2_add_61_t : dqK cX2_add.data.toList 0 [(61, .putfield 19, 3), (64, .aload_n 0, 1), (65, .getfield 19, 3), (68, .ireturn, 1)] = true := by decide +kernel
theorem dX2_add_61 : decode cX2_add 61 = .ok (.putfield 19, 3) := dq_get dX2_add_61_t 0 rfl
theorem dX2_add_64 : decode cX2_add 64 = .ok (.aload_n 0, 1) := dq_get dX2_add_61_t 1 rfl
theorem dX2_add_65 : decode cX2_add 65 = .ok (.getfield 19, 3) := dq_get dX2_add_61_t 2 rfl
theorem dX2_add_68 : decode cX2_add 68 = .ok (.ireturn, 1) := dq_get dX2_add_61_t 3 rfl
theorem dX2_shorten_0_t : dqK cX2_shorten.data.toList 0 [(0, .iload_n 1, 1), (1, .ifCond .lt 11, 3), (4, .iload_n 1, 1), (5, .aload_n 0, 1), (6, .getfield 19, 3), (9, .if_icmp .le 5, 3), (12, .iconst (-1), 1), (13, .ireturn, 1), (14, .aload_n 0, 1), (15, .getfield 19, 3), (18, .istore_n 2, 1), (19, .aload_n 0, 1), (20, .iload_n 1, 1), (21, .putfield 19, 3), (24, .iload_n 2, 1), (25, .ireturn, 1)] = true := by decide +kernel
theorem dX2_shorten_0 : decode cX2_shorten 0 = .ok (.iload_n 1, 1) := dq_get dX2_shorten_0_t 0 rfl
theorem dX2_shorten_1 : decode cX2_shorten 1 = .ok (.ifCond .lt 11, 3) := dq_get dX2_shorten_0_t 1 rfl
theorem dX2_shorten_4 : decode cX2_shorten 4 = .ok (.iload_n 1, 1) := dq_get dX2_shorten_0_t 2 rfl
theorem dX2_shorten_5 : decode cX2_shorten 5 = .ok (.aload_n 0, 1) := dq_get dX2_shorten_0_t 3 rfl
theorem dX2_shorten_6 : decode cX2_shorten 6 = .ok (.getfield 19, 3) := dq_get dX2_shorten_0_t 4 rfl
theorem dX2_shorten_9 : decode cX2_shorten 9 = .ok (.if_icmp .le 5, 3) := dq_get dX2_shorten_0_t 5 rfl
theorem dX2_shorten_12 : decode cX2_shorten 12 = .ok (.iconst (-1), 1) := dq_get dX2_shorten_0_t 6 rfl
theorem dX2_shorten_13 : decode cX2_shorten 13 = .ok (.ireturn, 1) := dq_get dX2_shorten_0_t 7 rfl
theorem dX2_shorten_14 : decode cX2_shorten 14 = .ok (.aload_n 0, 1) := dq_get dX2_shorten_0_t 8 rfl
theorem dX2_shorten_15 : decode cX2_shorten 15 = .ok (.getfield 19, 3) := dq_get dX2_shorten_0_t 9 rfl
theorem dX2_shorten_18 : decode cX2_shorten 18 = .ok (.istore_n 2, 1) := dq_get dX2_shorten_0_t 10 rfl
theorem dX2_shorten_19 : decode cX2_shorten 19 = .ok (.aload_n 0, 1) := dq_get dX2_shorten_0_t 11 rfl
theorem dX2_shorten_20 : decode cX2_shorten 20 = .ok (.iload_n 1, 1) := dq_get dX2_shorten_0_t 12 rfl
theorem dX2_shorten_21 : decode cX2_shorten 21 = .ok (.putfield 19, 3) := dq_get dX2_shorten_0_t 13 rfl
theorem dX2_shorten_24 : decode cX2_shorten 24 = .ok (.iload_n 2, 1) := dq_get dX2_shorten_0_t 14 rfl
theorem dX2_shorten_25 : decode cX2_shorten 25 = .ok (.ireturn, 1) := dq_get dX2_shorten_0_t 15 rfl
theorem dX2_become_0_t : dqK cX2_become.data.toList 0 [(0, .aload_n 0, 1), (1, .aload_n 1, 1), (2, .getfield 19, 3), (5, .putfield 19, 3), (8, .aload_n 1, 1), (9, .getfield 15, 3), (12, .iconst 0, 1), (13, .aload_n 0, 1), (14, .getfield 15, 3), (17, .iconst 0, 1), (18, .aload_n 0, 1), (19, .getfield 15, 3), (22, .arraylength, 1), (23, .invokestatic 22, 3), (26, .return_, 1)] = true := by decide +kernel
theorem dX2_become_0 : decode cX2_become 0 = .ok (.aload_n 0, 1) := dq_get dX2_become_0_t 0 rfl
theorem dX2_become_1 : decode cX2_become 1 = .ok (.aload_n 1, 1) := dq_get dX2_become_0_t 1 rfl
theorem dX2_become_2 : decode cX2_become 2 = .ok (.getfield 19, 3) := dq_get dX2_become_0_t 2 rfl
theorem dX2_become_5 : decode cX2_become 5 = .ok (.putfield 19, 3) := dq_get dX2_become_0_t 3 rfl
theorem dX2_become_8 : decode cX2_become 8 = .ok (.aload_n 1, 1) := dq_get dX2_become_0_t 4 rfl
theorem dX2_become_9 : decode cX2_become 9 = .ok (.getfield 15, 3) := dq_get dX2_become_0_t 5 rfl
theorem dX2_become_12 : decode cX2_become 12 = .ok (.iconst 0, 1) := dq_get dX2_become_0_t 6 rfl
theorem dX2_become_13 : decode cX2_become 13 = .ok (.aload_n 0, 1) := dq_get dX2_become_0_t 7 rfl
theorem dX2_become_14 : decode cX2_become 14 = .ok (.getfield 15, 3) := dq_get dX2_become_0_t 8 rfl
theorem dX2_become_17 : decode cX2_become 17 = .ok (.iconst 0, 1) := dq_get dX2_become_0_t 9 rfl
theorem dX2_become_18 : decode cX2_become 18 = .ok (.aload_n 0, 1) := dq_get dX2_become_0_t 10 rfl
theorem dX2_become_19 : decode cX2_become 19 = .ok (.getfield 15, 3) := dq_get dX2_become_0_t 11 rfl
theorem dX2_become_22 : decode cX2_become 22 = .ok (.arraylength, 1) := dq_get dX2_become_0_t 12 rfl
theorem dX2_become_23 : decode cX2_become 23 = .ok (.invokestatic 22, 3) := dq_get dX2_become_0_t 13 rfl
theorem dX2_become_26 : decode cX2_become 26 = .ok (.return_, 1) := dq_get dX2_become_0_t 14 rfl
theorem dX3_init_0_t : dqK cX3_init.data.toList 0 [(0, .aload_n 0, 1), (1, .invokespecial 3, 3), (4, .aload_n 0, 1), (5, .bipush 40, 2), (9, .putfield 9, 3), (12, .aload_n 0, 1), (13, .iconst (-1), 1), (14, .putfield 15, 3), (17, .return_, 1)] = true := by decide +kernel
theorem dX3_init_0 : decode cX3_init 0 = .ok (.aload_n 0, 1) := dq_get dX3_init_0_t 0 rfl
theorem dX3_init_1 : decode cX3_init 1 = .ok (.invokespecial 3, 3) := dq_get dX3_init_0_t 1 rfl
theorem dX3_init_4 : decode cX3_init 4 = .ok (.aload_n 0, 1) := dq_get dX3_init_0_t 2 rfl
theorem dX3_init_5 : decode cX3_init 5 = .ok (.bipush 40, 2) := dq_get dX3_init_0_t 3 rfl
theorem dX3_init_9 : decode cX3_init 9 = .ok (.putfield 9, 3) := dq_get dX3_init_0_t 4 rfl
theorem dX3_init_12 : decode cX3_init 12 = .ok (.aload_n 0, 1) := dq_get dX3_init_0_t 5 rfl
theorem dX3_init_13 : decode cX3_init 13 = .ok (.iconst (-1), 1) := dq_get dX3_init_0_t 6 rfl
theorem dX3_init_14 : decode cX3_init 14 = .ok (.putfield 15, 3) := dq_get dX3_init_0_t 7 rfl
theorem dX3_init_17 : decode cX3_init 17 = .ok (.return_, 1) := dq_get dX3_init_0_t 8 rfl
theorem dX3_init_7 : decode cX3_init 7 = .ok (.newarray .int, 2) := by decide +kernel
theorem dX3_isNothing_0_t : dqK cX3_isNothing.data.toList 0 [(0, .aload_n 0, 1), (1, .getfield 15, 3), (4, .iconst (-1), 1), (5, .if_icmp .ne 7, 3), (8, .iconst 1, 1), (9, .goto 4, 3), (12, .iconst 0, 1), (13, .ireturn, 1)] = true := by decide +kernel
theorem dX3_isNothing_0 : decode cX3_isNothing 0 = .ok (.aload_n 0, 1) := dq_get dX3_isNothing_0_t 0 rfl
theorem dX3_isNothing_1 : decode cX3_isNothing 1 = .ok (.getfield 15, 3) := dq_get dX3_isNothing_0_t 1 rfl
theorem dX3_isNothing_4 : decode cX3_isNothing 4 = .ok (.iconst (-1), 1) := dq_get dX3_isNothing_0_t 2 rfl
theorem dX3_isNothing_5 : decode cX3_isNothing 5 = .ok (.if_icmp .ne 7, 3) := dq_get dX3_isNothing_0_t 3 rfl
theorem dX3_isNothing_8 : decode cX3_isNothing 8 = .ok (.iconst 1, 1) := dq_get dX3_isNothing_0_t 4 rfl
theorem dX3_isNothing_9 : decode cX3_isNothing 9 = .ok (.goto 4, 3) := dq_get dX3_isNothing_0_t 5 rfl
theorem dX3_isNothing_12 : decode cX3_isNothing 12 = .ok (.iconst 0, 1) := dq_get dX3_isNothing_0_t 6 rfl
theorem dX3_isNothing_13 : decode cX3_isNothing 13 = .ok (.ireturn, 1) := dq_get dX3_isNothing_0_t 7 rfl
set_option maxRecDepth 20000 in
theorem ggX3_renew_J7_fill_53178 : GoodIn wsX3_renew wsJ7_fill_53178 := goodIn_r _ [7] rfl (by decide +kernel)
set_option maxRecDepth 20000 in
theorem gX3_renew_J7_fill_53178 : GoodIn wsX3_renew (va_wsS RX3 22 yJ7_fill_53178 wsJ7_fill_53178) := goodIn_app (goodIn_r _ [4, 5, 6] rfl (by decide +kernel)) ggX3_renew_J7_fill_53178
theorem dX3_renew_0_t : dqK cX3_renew.data.toList 0 [(0, .aload_n 0, 1), (1, .iload_n 1, 1), (2, .putfield 19, 3), (5, .aload_n 0, 1), (6, .iload_n 2, 1), (7, .putfield 15, 3), (10, .aload_n 0, 1), (11, .getfield 9, 3), (14, .iconst 0, 1), (15, .invokestatic 22, 3), (18, .return_, 1)] = true := by decide +kernel
theorem dX3_renew_0 : decode cX3_renew 0 = .ok (.aload_n 0, 1) := dq_get dX3_renew_0_t 0 rfl
theorem dX3_renew_1 : decode cX3_renew 1 = .ok (.iload_n 1, 1) := dq_get dX3_renew_0_t 1 rfl
theorem dX3_renew_2 : decode cX3_renew 2 = .ok (.putfield 19, 3) := dq_get dX3_renew_0_t 2 rfl
theorem dX3_renew_5 : decode cX3_renew 5 = .ok (.aload_n 0, 1) := dq_get dX3_renew_0_t 3 rfl
theorem dX3_renew_6 : decode cX3_renew 6 = .ok (.iload_n 2, 1) := dq_get dX3_renew_0_t 4 rfl
theorem dX3_renew_7 : decode cX3_renew 7 = .ok (.putfield 15, 3) := dq_get dX3_renew_0_t 5 rfl
theorem dX3_renew_10 : decode cX3_renew 10 = .ok (.aload_n 0, 1) := dq_get dX3_renew_0_t 6 rfl
theorem dX3_renew_11 : decode cX3_renew 11 = .ok (.getfield 9, 3) := dq_get dX3_renew_0_t 7 rfl
theorem dX3_renew_14 : decode cX3_renew 14 = .ok (.iconst 0, 1) := dq_get dX3_renew_0_t 8 rfl
theorem dX3_renew_15 : decode cX3_renew 15 = .ok (.invokestatic 22, 3) := dq_get dX3_renew_0_t 9 rfl
theorem dX3_renew_18 : decode cX3_renew 18 = .ok (.return_, 1) := dq_get dX3_renew_0_t 10 rfl
theorem gt_wsX3_faultAsLane_wsX30 : GoodIn wsX3_faultAsLane wsX30 := fun w hw => ⟨List.mem_cons_of_mem _ (List.mem_append_right _ hw), good_of_word (List.all_eq_true.mp gw_wsX30 w hw)⟩
set_option maxRecDepth 20000 in
theorem ggX3_faultAsLane_X3_isNothing : GoodIn wsX3_faultAsLane wsX3_isNothing := goodIn_ca (goodIn_r _ [6, 7] rfl (by decide +kernel)) gt_wsX3_faultAsLane_wsX30
set_option maxRecDepth 20000 in
theorem gX3_faultAsLane_X3_isNothing : GoodIn wsX3_faultAsLane (wsV RX3 28 RX3 yX3_isNothing wsX3_isNothing) := goodIn_app (goodIn_r _ [2, 3, 4, 5] rfl (by decide +kernel)) ggX3_faultAsLane_X3_isNothing
theorem dX3_faultAsLane_0_t : dqK cX3_faultAsLane.data.toList 0 [(0, .aload_n 0, 1), (1, .invokevirtual 28, 3), (4, .ifCond .ne 11, 3), (7, .aload_n 0, 1), (8, .getfield 19, 3), (11, .iload_n 1, 1), (12, .if_icmp .ne 7, 3), (15, .iconst 0, 1), (16, .goto 4, 3), (19, .iconst 3, 1), (20, .ireturn, 1)] = true := by decide +kernel
theorem dX3_faultAsLane_0 : decode cX3_faultAsLane 0 = .ok (.aload_n 0, 1) := dq_get dX3_faultAsLane_0_t 0 rfl
theorem dX3_faultAsLane_1 : decode cX3_faultAsLane 1 = .ok (.invokevirtual 28, 3) := dq_get dX3_faultAsLane_0_t 1 rfl
theorem dX3_faultAsLane_4 : decode cX3_faultAsLane 4 = .ok (.ifCond .ne 11, 3) := dq_get dX3_faultAsLane_0_t 2 rfl
theorem dX3_faultAsLane_7 : decode cX3_faultAsLane 7 = .ok (.aload_n 0, 1) := dq_get dX3_faultAsLane_0_t 3 rfl
theorem dX3_faultAsLane_8 : decode cX3_faultAsLane 8 = .ok (.getfield 19, 3) := dq_get dX3_faultAsLane_0_t 4 rfl
theorem dX3_faultAsLane_11 : decode cX3_faultAsLane 11 = .ok (.iload_n 1, 1) := dq_get dX3_faultAsLane_0_t 5 rfl
theorem dX3_faultAsLane_12 : decode cX3_faultAsLane 12 = .ok (.if_icmp .ne 7, 3) := dq_get dX3_faultAsLane_0_t 6 rfl
theorem dX3_faultAsLane_15 : decode cX3_faultAsLane 15 = .ok (.iconst 0, 1) := dq_get dX3_faultAsLane_0_t 7 rfl
theorem dX3_faultAsLane_16 : decode cX3_faultAsLane 16 = .ok (.goto 4, 3) := dq_get dX3_faultAsLane_0_t 8 rfl
theorem dX3_faultAsLane_19 : decode cX3_faultAsLane 19 = .ok (.iconst 3, 1) := dq_get dX3_faultAsLane_0_t 9 rfl
theorem dX3_faultAsLane_20 : decode cX3_faultAsLane 20 = .ok (.ireturn, 1) := dq_get dX3_faultAsLane_0_t 10 rfl
theorem gt_wsX3_faultAt_wsX30 : GoodIn wsX3_faultAt wsX30 := fun w hw => ⟨List.mem_cons_of_mem _ (List.mem_append_right _ hw), good_of_word (List.all_eq_true.mp gw_wsX30 w hw)⟩
set_option maxRecDepth 20000 in
theorem ggX3_faultAt_X3_isNothing : GoodIn wsX3_faultAt wsX3_isNothing := goodIn_ca (goodIn_r _ [6, 1] rfl (by decide +kernel)) gt_wsX3_faultAt_wsX30
set_option maxRecDepth 20000 in
theorem gX3_faultAt_X3_isNothing : GoodIn wsX3_faultAt (wsV RX3 28 RX3 yX3_isNothing wsX3_isNothing) := goodIn_app (goodIn_r _ [2, 3, 4, 5] rfl (by decide +kernel)) ggX3_faultAt_X3_isNothing
theorem dX3_faultAt_0_t : dqK cX3_faultAt.data.toList 0 [(0, .aload_n 0, 1), (1, .invokevirtual 28, 3), (4, .ifCond .eq 5, 3), (7, .iconst 1, 1), (8, .ireturn, 1), (9, .iload_n 1, 1), (10, .ifCond .lt 15, 3), (13, .iload_n 1, 1), (14, .aload_n 0, 1), (15, .getfield 15, 3), (18, .if_icmp .ge 7, 3), (21, .iconst 0, 1), (22, .goto 4, 3), (25, .iconst 2, 1), (26, .ireturn, 1)] = true := by decide +kernel
theorem dX3_faultAt_0 : decode cX3_faultAt 0 = .ok (.aload_n 0, 1) := dq_get dX3_faultAt_0_t 0 rfl
theorem dX3_faultAt_1 : decode cX3_faultAt 1 = .ok (.invokevirtual 28, 3) := dq_get dX3_faultAt_0_t 1 rfl
theorem dX3_faultAt_4 : decode cX3_faultAt 4 = .ok (.ifCond .eq 5, 3) := dq_get dX3_faultAt_0_t 2 rfl
theorem dX3_faultAt_7 : decode cX3_faultAt 7 = .ok (.iconst 1, 1) := dq_get dX3_faultAt_0_t 3 rfl
theorem dX3_faultAt_8 : decode cX3_faultAt 8 = .ok (.ireturn, 1) := dq_get dX3_faultAt_0_t 4 rfl
theorem dX3_faultAt_9 : decode cX3_faultAt 9 = .ok (.iload_n 1, 1) := dq_get dX3_faultAt_0_t 5 rfl
theorem dX3_faultAt_10 : decode cX3_faultAt 10 = .ok (.ifCond .lt 15, 3) := dq_get dX3_faultAt_0_t 6 rfl
theorem dX3_faultAt_13 : decode cX3_faultAt 13 = .ok (.iload_n 1, 1) := dq_get dX3_faultAt_0_t 7 rfl
theorem dX3_faultAt_14 : decode cX3_faultAt 14 = .ok (.aload_n 0, 1) := dq_get dX3_faultAt_0_t 8 rfl
theorem dX3_faultAt_15 : decode cX3_faultAt 15 = .ok (.getfield 15, 3) := dq_get dX3_faultAt_0_t 9 rfl
theorem dX3_faultAt_18 : decode cX3_faultAt 18 = .ok (.if_icmp .ge 7, 3) := dq_get dX3_faultAt_0_t 10 rfl
theorem dX3_faultAt_21 : decode cX3_faultAt 21 = .ok (.iconst 0, 1) := dq_get dX3_faultAt_0_t 11 rfl
theorem dX3_faultAt_22 : decode cX3_faultAt 22 = .ok (.goto 4, 3) := dq_get dX3_faultAt_0_t 12 rfl
theorem dX3_faultAt_25 : decode cX3_faultAt 25 = .ok (.iconst 2, 1) := dq_get dX3_faultAt_0_t 13 rfl
theorem dX3_faultAt_26 : decode cX3_faultAt 26 = .ok (.ireturn, 1) := dq_get dX3_faultAt_0_t 14 rfl
theorem gt_wsX3_faultAtThree_wsX30 : GoodIn wsX3_faultAtThree wsX30 := fun w hw => ⟨List.mem_cons_of_mem _ (List.mem_append_right _ hw), good_of_word (List.all_eq_true.mp gw_wsX30 w hw)⟩
set_option maxRecDepth 20000 in
theorem ggX3_faultAtThree_X3_faultAt : GoodIn wsX3_faultAtThree wsX3_faultAt := goodIn_ca (goodIn_r _ [5, 6, 7, 8, 9, 4, 10] rfl (by decide +kernel)) gt_wsX3_faultAtThree_wsX30
set_option maxRecDepth 20000 in
theorem gX3_faultAtThree_X3_faultAt : GoodIn wsX3_faultAtThree (wsV RX3 32 RX3 yX3_faultAt wsX3_faultAt) := goodIn_app (goodIn_r _ [1, 2, 3, 4] rfl (by decide +kernel)) ggX3_faultAtThree_X3_faultAt
theorem dX3_faultAtThree_0_t : dqK cX3_faultAtThree.data.toList 0 [(0, .aload_n 0, 1), (1, .iload_n 1, 1), (2, .invokevirtual 32, 3), (5, .istore_n 2, 1), (6, .iload_n 2, 1), (7, .ifCond .ne 13, 3), (10, .aload_n 0, 1), (11, .iload_n 1, 1), (12, .iconst 2, 1), (13, .iadd, 1), (14, .invokevirtual 32, 3), (17, .goto 4, 3), (20, .iload_n 2, 1), (21, .ireturn, 1)] = true := by decide +kernel
theorem dX3_faultAtThree_0 : decode cX3_faultAtThree 0 = .ok (.aload_n 0, 1) := dq_get dX3_faultAtThree_0_t 0 rfl
theorem dX3_faultAtThree_1 : decode cX3_faultAtThree 1 = .ok (.iload_n 1, 1) := dq_get dX3_faultAtThree_0_t 1 rfl
theorem dX3_faultAtThree_2 : decode cX3_faultAtThree 2 = .ok (.invokevirtual 32, 3) := dq_get dX3_faultAtThree_0_t 2 rfl
theorem dX3_faultAtThree_5 : decode cX3_faultAtThree 5 = .ok (.istore_n 2, 1) := dq_get dX3_faultAtThree_0_t 3 rfl
theorem dX3_faultAtThree_6 : decode cX3_faultAtThree 6 = .ok (.iload_n 2, 1) := dq_get dX3_faultAtThree_0_t 4 rfl
theorem dX3_faultAtThree_7 : decode cX3_faultAtThree 7 = .ok (.ifCond .ne 13, 3) := dq_get dX3_faultAtThree_0_t 5 rfl
theorem dX3_faultAtThree_10 : decode cX3_faultAtThree 10 = .ok (.aload_n 0, 1) := dq_get dX3_faultAtThree_0_t 6 rfl
theorem dX3_faultAtThree_11 : decode cX3_faultAtThree 11 = .ok (.iload_n 1, 1) := dq_get dX3_faultAtThree_0_t 7 rfl
theorem dX3_faultAtThree_12 : decode cX3_faultAtThree 12 = .ok (.iconst 2, 1) := dq_get dX3_faultAtThree_0_t 8 rfl
theorem dX3_faultAtThree_13 : decode cX3_faultAtThree 13 = .ok (.iadd, 1) := dq_get dX3_faultAtThree_0_t 9 rfl
theorem dX3_faultAtThree_14 : decode cX3_faultAtThree 14 = .ok (.invokevirtual 32, 3) := dq_get dX3_faultAtThree_0_t 10 rfl
theorem dX3_faultAtThree_17 : decode cX3_faultAtThree 17 = .ok (.goto 4, 3) := dq_get dX3_faultAtThree_0_t 11 rfl
theorem dX3_faultAtThree_20 : decode cX3_faultAtThree 20 = .ok (.iload_n 2, 1) := dq_get dX3_faultAtThree_0_t 12 rfl
theorem dX3_faultAtThree_21 : decode cX3_faultAtThree 21 = .ok (.ireturn, 1) := dq_get dX3_faultAtThree_0_t 13 rfl
theorem dX3_put_0_t : dqK cX3_put.data.toList 0 [(0, .aload_n 0, 1), (1, .getfield 19, 3), (4, .ifCond .ne 14, 3), (7, .aload_n 0, 1), (8, .getfield 9, 3), (11, .iload_n 1, 1), (12, .iload_n 2, 1), (13, .i2b, 1), (14, .iastore, 1), (15, .goto 29, 3), (18, .aload_n 0, 1), (19, .getfield 19, 3), (22, .iconst 1, 1), (23, .if_icmp .ne 14, 3), (26, .aload_n 0, 1), (27, .getfield 9, 3), (30, .iload_n 1, 1), (31, .iload_n 2, 1), (32, .i2s, 1), (33, .iastore, 1), (34, .goto 10, 3), (37, .aload_n 0, 1), (38, .getfield 9, 3), (41, .iload_n 1, 1), (42, .iload_n 2, 1), (43, .iastore, 1), (44, .return_, 1)] = true := by decide +kernel
theorem dX3_put_0 : decode cX3_put 0 = .ok (.aload_n 0, 1) := dq_get dX3_put_0_t 0 rfl
theorem dX3_put_1 : decode cX3_put 1 = .ok (.getfield 19, 3) := dq_get dX3_put_0_t 1 rfl
theorem dX3_put_4 : decode cX3_put 4 = .ok (.ifCond .ne 14, 3) := dq_get dX3_put_0_t 2 rfl
theorem dX3_put_7 : decode cX3_put 7 = .ok (.aload_n 0, 1) := dq_get dX3_put_0_t 3 rfl
theorem dX3_put_8 : decode cX3_put 8 = .ok (.getfield 9, 3) := dq_get dX3_put_0_t 4 rfl
theorem dX3_put_11 : decode cX3_put 11 = .ok (.iload_n 1, 1) := dq_get dX3_put_0_t 5 rfl
theorem dX3_put_12 : decode cX3_put 12 = .ok (.iload_n 2, 1) := dq_get dX3_put_0_t 6 rfl
theorem dX3_put_13 : decode cX3_put 13 = .ok (.i2b, 1) := dq_get dX3_put_0_t 7 rfl
theorem dX3_put_14 : decode cX3_put 14 = .ok (.iastore, 1) := dq_get dX3_put_0_t 8 rfl
theorem dX3_put_15 : decode cX3_put 15 = .ok (.goto 29, 3) := dq_get dX3_put_0_t 9 rfl
theorem dX3_put_18 : decode cX3_put 18 = .ok (.aload_n 0, 1) := dq_get dX3_put_0_t 10 rfl
theorem dX3_put_19 : decode cX3_put 19 = .ok (.getfield 19, 3) := dq_get dX3_put_0_t 11 rfl
theorem dX3_put_22 : decode cX3_put 22 = .ok (.iconst 1, 1) := dq_get dX3_put_0_t 12 rfl
theorem dX3_put_23 : decode cX3_put 23 = .ok (.if_icmp .ne 14, 3) := dq_get dX3_put_0_t 13 rfl
theorem dX3_put_26 : decode cX3_put 26 = .ok (.aload_n 0, 1) := dq_get dX3_put_0_t 14 rfl
theorem dX3_put_27 : decode cX3_put 27 = .ok (.getfield 9, 3) := dq_get dX3_put_0_t 15 rfl
theorem dX3_put_30 : decode cX3_put 30 = .ok (.iload_n 1, 1) := dq_get dX3_put_0_t 16 rfl
theorem dX3_put_31 : decode cX3_put 31 = .ok (.iload_n 2, 1) := dq_get dX3_put_0_t 17 rfl
theorem dX3_put_32 : decode cX3_put 32 = .ok (.i2s, 1) := dq_get dX3_put_0_t 18 rfl
theorem dX3_put_33 : decode cX3_put 33 = .ok (.iastore, 1) := dq_get dX3_put_0_t 19 rfl
theorem dX3_put_34 : decode cX3_put 34 = .ok (.goto 10, 3) := dq_get dX3_put_0_t 20 rfl
theorem dX3_put_37 : decode cX3_put 37 = .ok (.aload_n 0, 1) := dq_get dX3_put_0_t 21 rfl
theorem dX3_put_38 : decode cX3_put 38 = .ok (.getfield 9, 3) := dq_get dX3_put_0_t 22 rfl
theorem dX3_put_41 : decode cX3_put 41 = .ok (.iload_n 1, 1) := dq_get dX3_put_0_t 23 rfl
theorem dX3_put_42 : decode cX3_put 42 = .ok (.iload_n 2, 1) := dq_get dX3_put_0_t 24 rfl
theorem dX3_put_43 : decode cX3_put 43 = .ok (.iastore, 1) := dq_get dX3_put_0_t 25 rfl
theorem dX3_put_44 : decode cX3_put 44 = .ok (.return_, 1) := dq_get dX3_put_0_t 26 rfl
theorem dX4_init_0_t : dqK cX4_init.data.toList 0 [(0, .aload_n 0, 1), (1, .invokespecial 3, 3), (4, .aload_n 0, 1), (5, .sipush 176, 3), (10, .putfield 9, 3), (13, .aload_n 0, 1), (14, .sipush 160, 3), (19, .putfield 15, 3), (22, .aload_n 0, 1), (23, .iconst 1, 1), (24, .putfield 18, 3), (27, .return_, 1)] = true := by decide +kernel
theorem dX4_init_0 : decode cX4_init 0 = .ok (.aload_n 0, 1) := dq_get dX4_init_0_t 0 rfl
theorem dX4_init_1 : decode cX4_init 1 = .ok (.invokespecial 3, 3) := dq_get dX4_init_0_t 1 rfl
theorem dX4_init_4 : decode cX4_init 4 = .ok (.aload_n 0, 1) := dq_get dX4_init_0_t 2 rfl
theorem dX4_init_5 : decode cX4_init 5 = .ok (.sipush 176, 3) := dq_get dX4_init_0_t 3 rfl
theorem dX4_init_10 : decode cX4_init 10 = .ok (.putfield 9, 3) := dq_get dX4_init_0_t 4 rfl
theorem dX4_init_13 : decode cX4_init 13 = .ok (.aload_n 0, 1) := dq_get dX4_init_0_t 5 rfl
theorem dX4_init_14 : decode cX4_init 14 = .ok (.sipush 160, 3) := dq_get dX4_init_0_t 6 rfl
theorem dX4_init_19 : decode cX4_init 19 = .ok (.putfield 15, 3) := dq_get dX4_init_0_t 7 rfl
theorem dX4_init_22 : decode cX4_init 22 = .ok (.aload_n 0, 1) := dq_get dX4_init_0_t 8 rfl
theorem dX4_init_23 : decode cX4_init 23 = .ok (.iconst 1, 1) := dq_get dX4_init_0_t 9 rfl
theorem dX4_init_24 : decode cX4_init 24 = .ok (.putfield 18, 3) := dq_get dX4_init_0_t 10 rfl
theorem dX4_init_27 : decode cX4_init 27 = .ok (.return_, 1) := dq_get dX4_init_0_t 11 rfl
theorem dX4_init_8 : decode cX4_init 8 = .ok (.newarray .int, 2) := by decide +kernel
theorem dX4_init_17 : decode cX4_init 17 = .ok (.newarray .int, 2) := by decide +kernel
theorem gt_wsX4_build_wsX00 : GoodIn wsX4_build wsX00 := fun w hw => ⟨List.mem_cons_of_mem _ (List.mem_append_left _ (List.mem_append_left _ (List.mem_append_right _ hw))), good_of_word (List.all_eq_true.mp gw_wsX00 w hw)⟩
theorem gt_wsX4_build_wsX40 : GoodIn wsX4_build wsX40 := fun w hw => ⟨List.mem_cons_of_mem _ (List.mem_append_left _ (List.mem_append_right _ hw)), good_of_word (List.all_eq_true.mp gw_wsX40 w hw)⟩
theorem gt_wsX4_build_wsX20 : GoodIn wsX4_build wsX20 := fun w hw => ⟨List.mem_cons_of_mem _ (List.mem_append_right _ hw), good_of_word (List.all_eq_true.mp gw_wsX20 w hw)⟩
set_option maxRecDepth 20000 in
theorem ggX4_build_X4_buildMarks : GoodIn wsX4_build wsX4_buildMarks := goodIn_ca (goodIn_ca (goodIn_ca (goodIn_r _ [9, 10, 11, 12, 13, 14, 15, 16, 17, 18, 19, 20] rfl (by decide +kernel)) gt_wsX4_build_wsX00) gt_wsX4_build_wsX40) gt_wsX4_build_wsX20
set_option maxRecDepth 20000 in
theorem gX4_build_X4_buildMarks : GoodIn wsX4_build (wsV RX4 36 RX4 yX4_buildMarks wsX4_buildMarks) := goodIn_app (goodIn_r _ [5, 6, 7, 8] rfl (by decide +kernel)) ggX4_build_X4_buildMarks
set_option maxRecDepth 20000 in
theorem ggX4_build_X4_sight : GoodIn wsX4_build wsX4_sight := goodIn_ca (goodIn_r _ [24, 1, 2, 25, 26, 27, 8, 28, 10] rfl (by decide +kernel)) gt_wsX4_build_wsX40
set_option maxRecDepth 20000 in
theorem gX4_build_X4_sight : GoodIn wsX4_build (wsV RX4 40 RX4 yX4_sight wsX4_sight) := goodIn_app (goodIn_r _ [21, 22, 23, 8] rfl (by decide +kernel)) ggX4_build_X4_sight
theorem dX4_build_0_t : dqK cX4_build.data.toList 0 [(0, .aload_n 0, 1), (1, .aload_n 1, 1), (2, .getfield 22, 3), (5, .putfield 28, 3), (8, .aload_n 0, 1), (9, .aload_n 1, 1), (10, .getfield 29, 3), (13, .putfield 32, 3), (16, .iconst 0, 1), (17, .istore_n 2, 1), (18, .iload_n 2, 1), (19, .aload_n 1, 1), (20, .getfield 33, 3), (23, .if_icmp .gt 56, 3), (26, .aload_n 0, 1), (27, .aload_n 1, 1), (28, .iload_n 2, 1), (29, .invokevirtual 36, 3), (32, .iconst 0, 1), (33, .istore_n 3, 1), (34, .iload_n 3, 1), (35, .aload_n 0, 1), (36, .getfield 28, 3), (39, .aload_n 0, 1), (40, .getfield 32, 3), (43, .imul, 1), (44, .if_icmp .ge 29, 3), (47, .aload_n 0, 1), (48, .getfield 15, 3), (51, .iload_n 2, 1), (52, .bipush 16, 2), (54, .imul, 1), (55, .iload_n 3, 1), (56, .iadd, 1), (57, .aload_n 0, 1), (58, .iload_n 2, 1), (59, .bipush 16, 2), (61, .imul, 1), (62, .iload_n 3, 1), (63, .invokevirtual 40, 3)] = true := by decide +kernel
theorem dX4_build_0 : decode cX4_build 0 = .ok (.aload_n 0, 1) := dq_get dX4_build_0_t 0 rfl
theorem dX4_build_1 : decode cX4_build 1 = .ok (.aload_n 1, 1) := dq_get dX4_build_0_t 1 rfl
theorem dX4_build_2 : decode cX4_build 2 = .ok (.getfield 22, 3) := dq_get dX4_build_0_t 2 rfl
theorem dX4_build_5 : decode cX4_build 5 = .ok (.putfield 28, 3) := dq_get dX4_build_0_t 3 rfl
theorem dX4_build_8 : decode cX4_build 8 = .ok (.aload_n 0, 1) := dq_get dX4_build_0_t 4 rfl
theorem dX4_build_9 : decode cX4_build 9 = .ok (.aload_n 1, 1) := dq_get dX4_build_0_t 5 rfl
theorem dX4_build_10 : decode cX4_build 10 = .ok (.getfield 29, 3) := dq_get dX4_build_0_t 6 rfl
theorem dX4_build_13 : decode cX4_build 13 = .ok (.putfield 32, 3) := dq_get dX4_build_0_t 7 rfl
theorem dX4_build_16 : decode cX4_build 16 = .ok (.iconst 0, 1) := dq_get dX4_build_0_t 8 rfl
theorem dX4_build_17 : decode cX4_build 17 = .ok (.istore_n 2, 1) := dq_get dX4_build_0_t 9 rfl
theorem dX4_build_18 : decode cX4_build 18 = .ok (.iload_n 2, 1) := dq_get dX4_build_0_t 10 rfl
theorem dX4_build_19 : decode cX4_build 19 = .ok (.aload_n 1, 1) := dq_get dX4_build_0_t 11 rfl
theorem dX4_build_20 : decode cX4_build 20 = .ok (.getfield 33, 3) := dq_get dX4_build_0_t 12 rfl
theorem dX4_build_23 : decode cX4_build 23 = .ok (.if_icmp .gt 56, 3) := dq_get dX4_build_0_t 13 rfl
theorem dX4_build_26 : decode cX4_build 26 = .ok (.aload_n 0, 1) := dq_get dX4_build_0_t 14 rfl
theorem dX4_build_27 : decode cX4_build 27 = .ok (.aload_n 1, 1) := dq_get dX4_build_0_t 15 rfl
theorem dX4_build_28 : decode cX4_build 28 = .ok (.iload_n 2, 1) := dq_get dX4_build_0_t 16 rfl
theorem dX4_build_29 : decode cX4_build 29 = .ok (.invokevirtual 36, 3) := dq_get dX4_build_0_t 17 rfl
theorem dX4_build_32 : decode cX4_build 32 = .ok (.iconst 0, 1) := dq_get dX4_build_0_t 18 rfl
theorem dX4_build_33 : decode cX4_build 33 = .ok (.istore_n 3, 1) := dq_get dX4_build_0_t 19 rfl
theorem dX4_build_34 : decode cX4_build 34 = .ok (.iload_n 3, 1) := dq_get dX4_build_0_t 20 rfl
theorem dX4_build_35 : decode cX4_build 35 = .ok (.aload_n 0, 1) := dq_get dX4_build_0_t 21 rfl
theorem dX4_build_36 : decode cX4_build 36 = .ok (.getfield 28, 3) := dq_get dX4_build_0_t 22 rfl
theorem dX4_build_39 : decode cX4_build 39 = .ok (.aload_n 0, 1) := dq_get dX4_build_0_t 23 rfl
theorem dX4_build_40 : decode cX4_build 40 = .ok (.getfield 32, 3) := dq_get dX4_build_0_t 24 rfl
theorem dX4_build_43 : decode cX4_build 43 = .ok (.imul, 1) := dq_get dX4_build_0_t 25 rfl
theorem dX4_build_44 : decode cX4_build 44 = .ok (.if_icmp .ge 29, 3) := dq_get dX4_build_0_t 26 rfl
theorem dX4_build_47 : decode cX4_build 47 = .ok (.aload_n 0, 1) := dq_get dX4_build_0_t 27 rfl
theorem dX4_build_48 : decode cX4_build 48 = .ok (.getfield 15, 3) := dq_get dX4_build_0_t 28 rfl
theorem dX4_build_51 : decode cX4_build 51 = .ok (.iload_n 2, 1) := dq_get dX4_build_0_t 29 rfl
theorem dX4_build_52 : decode cX4_build 52 = .ok (.bipush 16, 2) := dq_get dX4_build_0_t 30 rfl
theorem dX4_build_54 : decode cX4_build 54 = .ok (.imul, 1) := dq_get dX4_build_0_t 31 rfl
theorem dX4_build_55 : decode cX4_build 55 = .ok (.iload_n 3, 1) := dq_get dX4_build_0_t 32 rfl
theorem dX4_build_56 : decode cX4_build 56 = .ok (.iadd, 1) := dq_get dX4_build_0_t 33 rfl
theorem dX4_build_57 : decode cX4_build 57 = .ok (.aload_n 0, 1) := dq_get dX4_build_0_t 34 rfl
theorem dX4_build_58 : decode cX4_build 58 = .ok (.iload_n 2, 1) := dq_get dX4_build_0_t 35 rfl
theorem dX4_build_59 : decode cX4_build 59 = .ok (.bipush 16, 2) := dq_get dX4_build_0_t 36 rfl
theorem dX4_build_61 : decode cX4_build 61 = .ok (.imul, 1) := dq_get dX4_build_0_t 37 rfl
theorem dX4_build_62 : decode cX4_build 62 = .ok (.iload_n 3, 1) := dq_get dX4_build_0_t 38 rfl
theorem dX4_build_63 : decode cX4_build 63 = .ok (.invokevirtual 40, 3) := dq_get dX4_build_0_t 39 rfl
theorem dX4_build_66_t : dqK cX4_build.data.toList 0 [(66, .iastore, 1), (67, .iinc 3 1, 3), (70, .goto (-36), 3), (73, .iinc 2 1, 3), (76, .goto (-58), 3), (79, .aload_n 0, 1), (80, .iconst 0, 1), (81, .putfield 18, 3), (84, .return_, 1)] = true := by decide +kernel
theorem dX4_build_66 : decode cX4_build 66 = .ok (.iastore, 1) := dq_get dX4_build_66_t 0 rfl
theorem dX4_build_67 : decode cX4_build 67 = .ok (.iinc 3 1, 3) := dq_get dX4_build_66_t 1 rfl
theorem dX4_build_70 : decode cX4_build 70 = .ok (.goto (-36), 3) := dq_get dX4_build_66_t 2 rfl
theorem dX4_build_73 : decode cX4_build 73 = .ok (.iinc 2 1, 3) := dq_get dX4_build_66_t 3 rfl
theorem dX4_build_76 : decode cX4_build 76 = .ok (.goto (-58), 3) := dq_get dX4_build_66_t 4 rfl
theorem dX4_build_79 : decode cX4_build 79 = .ok (.aload_n 0, 1) := dq_get dX4_build_66_t 5 rfl
theorem dX4_build_80 : decode cX4_build 80 = .ok (.iconst 0, 1) := dq_get dX4_build_66_t 6 rfl
theorem dX4_build_81 : decode cX4_build 81 = .ok (.putfield 18, 3) := dq_get dX4_build_66_t 7 rfl
theorem dX4_build_84 : decode cX4_build 84 = .ok (.return_, 1) := dq_get dX4_build_66_t 8 rfl
theorem gt_wsX4_buildMarks_wsX20 : GoodIn wsX4_buildMarks wsX20 := fun w hw => ⟨List.mem_cons_of_mem _ (List.mem_append_right _ hw), good_of_word (List.all_eq_true.mp gw_wsX20 w hw)⟩
set_option maxRecDepth 20000 in
theorem ggX4_buildMarks_X2_number : GoodIn wsX4_buildMarks wsX2_number := goodIn_ca (goodIn_r _ [10, 11] rfl (by decide +kernel)) gt_wsX4_buildMarks_wsX20
set_option maxRecDepth 20000 in
theorem gX4_buildMarks_X2_number : GoodIn wsX4_buildMarks (wsV RX4 62 RX2 yX2_number wsX2_number) := goodIn_app (goodIn_r _ [6, 7, 8, 9] rfl (by decide +kernel)) ggX4_buildMarks_X2_number
theorem dX4_buildMarks_0_t : dqK cX4_buildMarks.data.toList 0 [(0, .iload_n 2, 1), (1, .bipush 16, 2), (3, .imul, 1), (4, .istore_n 3, 1), (5, .iload_n 2, 1), (6, .ifCond .ne 21, 3), (9, .aload_n 1, 1), (10, .getfield 44, 3), (13, .iconst 0, 1), (14, .aload_n 0, 1), (15, .getfield 9, 3), (18, .iconst 0, 1), (19, .bipush 16, 2), (21, .invokestatic 47, 3), (24, .goto 21, 3), (27, .aload_n 0, 1), (28, .getfield 9, 3), (31, .iload_n 3, 1), (32, .bipush 16, 2), (34, .isub, 1), (35, .aload_n 0, 1), (36, .getfield 9, 3), (39, .iload_n 3, 1), (40, .bipush 16, 2), (42, .invokestatic 47, 3), (45, .iconst 0, 1), (46, .istore 4, 2), (48, .iload 4, 2), (50, .aload_n 1, 1), (51, .getfield 53, 3), (54, .getfield 57, 3), (57, .if_icmp .ge 50, 3), (60, .aload_n 1, 1), (61, .getfield 53, 3), (64, .iload 4, 2), (66, .iconst 0, 1), (67, .invokevirtual 62, 3), (70, .iload_n 2, 1), (71, .if_icmp .ne 30, 3), (74, .aload_n 0, 1)] = true := by decide +kernel
theorem dX4_buildMarks_0 : decode cX4_buildMarks 0 = .ok (.iload_n 2, 1) := dq_get dX4_buildMarks_0_t 0 rfl
theorem dX4_buildMarks_1 : decode cX4_buildMarks 1 = .ok (.bipush 16, 2) := dq_get dX4_buildMarks_0_t 1 rfl
theorem dX4_buildMarks_3 : decode cX4_buildMarks 3 = .ok (.imul, 1) := dq_get dX4_buildMarks_0_t 2 rfl
theorem dX4_buildMarks_4 : decode cX4_buildMarks 4 = .ok (.istore_n 3, 1) := dq_get dX4_buildMarks_0_t 3 rfl
theorem dX4_buildMarks_5 : decode cX4_buildMarks 5 = .ok (.iload_n 2, 1) := dq_get dX4_buildMarks_0_t 4 rfl
theorem dX4_buildMarks_6 : decode cX4_buildMarks 6 = .ok (.ifCond .ne 21, 3) := dq_get dX4_buildMarks_0_t 5 rfl
theorem dX4_buildMarks_9 : decode cX4_buildMarks 9 = .ok (.aload_n 1, 1) := dq_get dX4_buildMarks_0_t 6 rfl
theorem dX4_buildMarks_10 : decode cX4_buildMarks 10 = .ok (.getfield 44, 3) := dq_get dX4_buildMarks_0_t 7 rfl
theorem dX4_buildMarks_13 : decode cX4_buildMarks 13 = .ok (.iconst 0, 1) := dq_get dX4_buildMarks_0_t 8 rfl
theorem dX4_buildMarks_14 : decode cX4_buildMarks 14 = .ok (.aload_n 0, 1) := dq_get dX4_buildMarks_0_t 9 rfl
theorem dX4_buildMarks_15 : decode cX4_buildMarks 15 = .ok (.getfield 9, 3) := dq_get dX4_buildMarks_0_t 10 rfl
theorem dX4_buildMarks_18 : decode cX4_buildMarks 18 = .ok (.iconst 0, 1) := dq_get dX4_buildMarks_0_t 11 rfl
theorem dX4_buildMarks_19 : decode cX4_buildMarks 19 = .ok (.bipush 16, 2) := dq_get dX4_buildMarks_0_t 12 rfl
theorem dX4_buildMarks_21 : decode cX4_buildMarks 21 = .ok (.invokestatic 47, 3) := dq_get dX4_buildMarks_0_t 13 rfl
theorem dX4_buildMarks_24 : decode cX4_buildMarks 24 = .ok (.goto 21, 3) := dq_get dX4_buildMarks_0_t 14 rfl
theorem dX4_buildMarks_27 : decode cX4_buildMarks 27 = .ok (.aload_n 0, 1) := dq_get dX4_buildMarks_0_t 15 rfl
theorem dX4_buildMarks_28 : decode cX4_buildMarks 28 = .ok (.getfield 9, 3) := dq_get dX4_buildMarks_0_t 16 rfl
theorem dX4_buildMarks_31 : decode cX4_buildMarks 31 = .ok (.iload_n 3, 1) := dq_get dX4_buildMarks_0_t 17 rfl
theorem dX4_buildMarks_32 : decode cX4_buildMarks 32 = .ok (.bipush 16, 2) := dq_get dX4_buildMarks_0_t 18 rfl
theorem dX4_buildMarks_34 : decode cX4_buildMarks 34 = .ok (.isub, 1) := dq_get dX4_buildMarks_0_t 19 rfl
theorem dX4_buildMarks_35 : decode cX4_buildMarks 35 = .ok (.aload_n 0, 1) := dq_get dX4_buildMarks_0_t 20 rfl
theorem dX4_buildMarks_36 : decode cX4_buildMarks 36 = .ok (.getfield 9, 3) := dq_get dX4_buildMarks_0_t 21 rfl
theorem dX4_buildMarks_39 : decode cX4_buildMarks 39 = .ok (.iload_n 3, 1) := dq_get dX4_buildMarks_0_t 22 rfl
theorem dX4_buildMarks_40 : decode cX4_buildMarks 40 = .ok (.bipush 16, 2) := dq_get dX4_buildMarks_0_t 23 rfl
theorem dX4_buildMarks_42 : decode cX4_buildMarks 42 = .ok (.invokestatic 47, 3) := dq_get dX4_buildMarks_0_t 24 rfl
theorem dX4_buildMarks_45 : decode cX4_buildMarks 45 = .ok (.iconst 0, 1) := dq_get dX4_buildMarks_0_t 25 rfl
theorem dX4_buildMarks_46 : decode cX4_buildMarks 46 = .ok (.istore 4, 2) := dq_get dX4_buildMarks_0_t 26 rfl
theorem dX4_buildMarks_48 : decode cX4_buildMarks 48 = .ok (.iload 4, 2) := dq_get dX4_buildMarks_0_t 27 rfl
theorem dX4_buildMarks_50 : decode cX4_buildMarks 50 = .ok (.aload_n 1, 1) := dq_get dX4_buildMarks_0_t 28 rfl
theorem dX4_buildMarks_51 : decode cX4_buildMarks 51 = .ok (.getfield 53, 3) := dq_get dX4_buildMarks_0_t 29 rfl
theorem dX4_buildMarks_54 : decode cX4_buildMarks 54 = .ok (.getfield 57, 3) := dq_get dX4_buildMarks_0_t 30 rfl
theorem dX4_buildMarks_57 : decode cX4_buildMarks 57 = .ok (.if_icmp .ge 50, 3) := dq_get dX4_buildMarks_0_t 31 rfl
theorem dX4_buildMarks_60 : decode cX4_buildMarks 60 = .ok (.aload_n 1, 1) := dq_get dX4_buildMarks_0_t 32 rfl
theorem dX4_buildMarks_61 : decode cX4_buildMarks 61 = .ok (.getfield 53, 3) := dq_get dX4_buildMarks_0_t 33 rfl
theorem dX4_buildMarks_64 : decode cX4_buildMarks 64 = .ok (.iload 4, 2) := dq_get dX4_buildMarks_0_t 34 rfl
theorem dX4_buildMarks_66 : decode cX4_buildMarks 66 = .ok (.iconst 0, 1) := dq_get dX4_buildMarks_0_t 35 rfl
theorem dX4_buildMarks_67 : decode cX4_buildMarks 67 = .ok (.invokevirtual 62, 3) := dq_get dX4_buildMarks_0_t 36 rfl
theorem dX4_buildMarks_70 : decode cX4_buildMarks 70 = .ok (.iload_n 2, 1) := dq_get dX4_buildMarks_0_t 37 rfl
theorem dX4_buildMarks_71 : decode cX4_buildMarks 71 = .ok (.if_icmp .ne 30, 3) := dq_get dX4_buildMarks_0_t 38 rfl
theorem dX4_buildMarks_74 : decode cX4_buildMarks 74 = .ok (.aload_n 0, 1) := dq_get dX4_buildMarks_0_t 39 rfl
theorem dX4_buildMarks_75_t : dqK cX4_buildMarks.data.toList 0 [(75, .getfield 9, 3), (78, .iload_n 3, 1), (79, .aload_n 1, 1), (80, .getfield 53, 3), (83, .iload 4, 2), (85, .iconst 1, 1), (86, .invokevirtual 62, 3), (89, .iadd, 1), (90, .aload_n 1, 1), (91, .getfield 53, 3), (94, .iload 4, 2), (96, .iconst 2, 1), (97, .invokevirtual 62, 3), (100, .iastore, 1), (101, .iinc 4 1, 3), (104, .goto (-56), 3), (107, .return_, 1)] = true := by decide +kernel
theorem dX4_buildMarks_75 : decode cX4_buildMarks 75 = .ok (.getfield 9, 3) := dq_get dX4_buildMarks_75_t 0 rfl
theorem dX4_buildMarks_78 : decode cX4_buildMarks 78 = .ok (.iload_n 3, 1) := dq_get dX4_buildMarks_75_t 1 rfl
theorem dX4_buildMarks_79 : decode cX4_buildMarks 79 = .ok (.aload_n 1, 1) := dq_get dX4_buildMarks_75_t 2 rfl
theorem dX4_buildMarks_80 : decode cX4_buildMarks 80 = .ok (.getfield 53, 3) := dq_get dX4_buildMarks_75_t 3 rfl
theorem dX4_buildMarks_83 : decode cX4_buildMarks 83 = .ok (.iload 4, 2) := dq_get dX4_buildMarks_75_t 4 rfl
theorem dX4_buildMarks_85 : decode cX4_buildMarks 85 = .ok (.iconst 1, 1) := dq_get dX4_buildMarks_75_t 5 rfl
theorem dX4_buildMarks_86 : decode cX4_buildMarks 86 = .ok (.invokevirtual 62, 3) := dq_get dX4_buildMarks_75_t 6 rfl
theorem dX4_buildMarks_89 : decode cX4_buildMarks 89 = .ok (.iadd, 1) := dq_get dX4_buildMarks_75_t 7 rfl
theorem dX4_buildMarks_90 : decode cX4_buildMarks 90 = .ok (.aload_n 1, 1) := dq_get dX4_buildMarks_75_t 8 rfl
theorem dX4_buildMarks_91 : decode cX4_buildMarks 91 = .ok (.getfield 53, 3) := dq_get dX4_buildMarks_75_t 9 rfl
theorem dX4_buildMarks_94 : decode cX4_buildMarks 94 = .ok (.iload 4, 2) := dq_get dX4_buildMarks_75_t 10 rfl
theorem dX4_buildMarks_96 : decode cX4_buildMarks 96 = .ok (.iconst 2, 1) := dq_get dX4_buildMarks_75_t 11 rfl
theorem dX4_buildMarks_97 : decode cX4_buildMarks 97 = .ok (.invokevirtual 62, 3) := dq_get dX4_buildMarks_75_t 12 rfl
theorem dX4_buildMarks_100 : decode cX4_buildMarks 100 = .ok (.iastore, 1) := dq_get dX4_buildMarks_75_t 13 rfl
theorem dX4_buildMarks_101 : decode cX4_buildMarks 101 = .ok (.iinc 4 1, 3) := dq_get dX4_buildMarks_75_t 14 rfl
theorem dX4_buildMarks_104 : decode cX4_buildMarks 104 = .ok (.goto (-56), 3) := dq_get dX4_buildMarks_75_t 15 rfl
theorem dX4_buildMarks_107 : decode cX4_buildMarks 107 = .ok (.return_, 1) := dq_get dX4_buildMarks_75_t 16 rfl
theorem gt_wsX4_sight_wsX40 : GoodIn wsX4_sight wsX40 := fun w hw => ⟨List.mem_cons_of_mem _ (List.mem_append_right _ hw), good_of_word (List.all_eq_true.mp gw_wsX40 w hw)⟩
set_option maxRecDepth 20000 in
theorem ggX4_sight_X4_ray : GoodIn wsX4_sight wsX4_ray := goodIn_ca (goodIn_r _ [7, 8] rfl (by decide +kernel)) gt_wsX4_sight_wsX40
set_option maxRecDepth 20000 in
theorem gX4_sight_X4_ray : GoodIn wsX4_sight (wsV RX4 65 RX4 yX4_ray wsX4_ray) := goodIn_app (goodIn_r _ [3, 4, 5, 6] rfl (by decide +kernel)) ggX4_sight_X4_ray
theorem dX4_sight_0_t : dqK cX4_sight.data.toList 0 [(0, .aload_n 0, 1), (1, .getfield 28, 3), (4, .ifCond .le 12, 3), (7, .iload_n 2, 1), (8, .aload_n 0, 1), (9, .getfield 28, 3), (12, .idiv, 1), (13, .goto 4, 3), (16, .iconst 0, 1), (17, .istore_n 3, 1), (18, .iload_n 2, 1), (19, .iload_n 3, 1), (20, .aload_n 0, 1), (21, .getfield 28, 3), (24, .imul, 1), (25, .isub, 1), (26, .istore 4, 2), (28, .iconst 1, 1), (29, .iload_n 2, 1), (30, .ishl, 1), (31, .aload_n 0, 1), (32, .iload_n 1, 1), (33, .iload_n 2, 1), (34, .aload_n 0, 1), (35, .getfield 28, 3), (38, .ineg, 1), (39, .iload_n 3, 1), (40, .iconst 1, 1), (41, .invokevirtual 65, 3), (44, .ior, 1), (45, .aload_n 0, 1), (46, .iload_n 1, 1), (47, .iload_n 2, 1), (48, .aload_n 0, 1), (49, .getfield 28, 3), (52, .aload_n 0, 1), (53, .getfield 32, 3), (56, .iconst 1, 1), (57, .isub, 1), (58, .iload_n 3, 1)] = true := by decide +kernel
theorem dX4_sight_0 : decode cX4_sight 0 = .ok (.aload_n 0, 1) := dq_get dX4_sight_0_t 0 rfl
theorem dX4_sight_1 : decode cX4_sight 1 = .ok (.getfield 28, 3) := dq_get dX4_sight_0_t 1 rfl
theorem dX4_sight_4 : decode cX4_sight 4 = .ok (.ifCond .le 12, 3) := dq_get dX4_sight_0_t 2 rfl
theorem dX4_sight_7 : decode cX4_sight 7 = .ok (.iload_n 2, 1) := dq_get dX4_sight_0_t 3 rfl
theorem dX4_sight_8 : decode cX4_sight 8 = .ok (.aload_n 0, 1) := dq_get dX4_sight_0_t 4 rfl
theorem dX4_sight_9 : decode cX4_sight 9 = .ok (.getfield 28, 3) := dq_get dX4_sight_0_t 5 rfl
theorem dX4_sight_12 : decode cX4_sight 12 = .ok (.idiv, 1) := dq_get dX4_sight_0_t 6 rfl
theorem dX4_sight_13 : decode cX4_sight 13 = .ok (.goto 4, 3) := dq_get dX4_sight_0_t 7 rfl
theorem dX4_sight_16 : decode cX4_sight 16 = .ok (.iconst 0, 1) := dq_get dX4_sight_0_t 8 rfl
theorem dX4_sight_17 : decode cX4_sight 17 = .ok (.istore_n 3, 1) := dq_get dX4_sight_0_t 9 rfl
theorem dX4_sight_18 : decode cX4_sight 18 = .ok (.iload_n 2, 1) := dq_get dX4_sight_0_t 10 rfl
theorem dX4_sight_19 : decode cX4_sight 19 = .ok (.iload_n 3, 1) := dq_get dX4_sight_0_t 11 rfl
theorem dX4_sight_20 : decode cX4_sight 20 = .ok (.aload_n 0, 1) := dq_get dX4_sight_0_t 12 rfl
theorem dX4_sight_21 : decode cX4_sight 21 = .ok (.getfield 28, 3) := dq_get dX4_sight_0_t 13 rfl
theorem dX4_sight_24 : decode cX4_sight 24 = .ok (.imul, 1) := dq_get dX4_sight_0_t 14 rfl
theorem dX4_sight_25 : decode cX4_sight 25 = .ok (.isub, 1) := dq_get dX4_sight_0_t 15 rfl
theorem dX4_sight_26 : decode cX4_sight 26 = .ok (.istore 4, 2) := dq_get dX4_sight_0_t 16 rfl
theorem dX4_sight_28 : decode cX4_sight 28 = .ok (.iconst 1, 1) := dq_get dX4_sight_0_t 17 rfl
theorem dX4_sight_29 : decode cX4_sight 29 = .ok (.iload_n 2, 1) := dq_get dX4_sight_0_t 18 rfl
theorem dX4_sight_30 : decode cX4_sight 30 = .ok (.ishl, 1) := dq_get dX4_sight_0_t 19 rfl
theorem dX4_sight_31 : decode cX4_sight 31 = .ok (.aload_n 0, 1) := dq_get dX4_sight_0_t 20 rfl
theorem dX4_sight_32 : decode cX4_sight 32 = .ok (.iload_n 1, 1) := dq_get dX4_sight_0_t 21 rfl
theorem dX4_sight_33 : decode cX4_sight 33 = .ok (.iload_n 2, 1) := dq_get dX4_sight_0_t 22 rfl
theorem dX4_sight_34 : decode cX4_sight 34 = .ok (.aload_n 0, 1) := dq_get dX4_sight_0_t 23 rfl
theorem dX4_sight_35 : decode cX4_sight 35 = .ok (.getfield 28, 3) := dq_get dX4_sight_0_t 24 rfl
theorem dX4_sight_38 : decode cX4_sight 38 = .ok (.ineg, 1) := dq_get dX4_sight_0_t 25 rfl
theorem dX4_sight_39 : decode cX4_sight 39 = .ok (.iload_n 3, 1) := dq_get dX4_sight_0_t 26 rfl
theorem dX4_sight_40 : decode cX4_sight 40 = .ok (.iconst 1, 1) := dq_get dX4_sight_0_t 27 rfl
theorem dX4_sight_41 : decode cX4_sight 41 = .ok (.invokevirtual 65, 3) := dq_get dX4_sight_0_t 28 rfl
theorem dX4_sight_44 : decode cX4_sight 44 = .ok (.ior, 1) := dq_get dX4_sight_0_t 29 rfl
theorem dX4_sight_45 : decode cX4_sight 45 = .ok (.aload_n 0, 1) := dq_get dX4_sight_0_t 30 rfl
theorem dX4_sight_46 : decode cX4_sight 46 = .ok (.iload_n 1, 1) := dq_get dX4_sight_0_t 31 rfl
theorem dX4_sight_47 : decode cX4_sight 47 = .ok (.iload_n 2, 1) := dq_get dX4_sight_0_t 32 rfl
theorem dX4_sight_48 : decode cX4_sight 48 = .ok (.aload_n 0, 1) := dq_get dX4_sight_0_t 33 rfl
theorem dX4_sight_49 : decode cX4_sight 49 = .ok (.getfield 28, 3) := dq_get dX4_sight_0_t 34 rfl
theorem dX4_sight_52 : decode cX4_sight 52 = .ok (.aload_n 0, 1) := dq_get dX4_sight_0_t 35 rfl
theorem dX4_sight_53 : decode cX4_sight 53 = .ok (.getfield 32, 3) := dq_get dX4_sight_0_t 36 rfl
theorem dX4_sight_56 : decode cX4_sight 56 = .ok (.iconst 1, 1) := dq_get dX4_sight_0_t 37 rfl
theorem dX4_sight_57 : decode cX4_sight 57 = .ok (.isub, 1) := dq_get dX4_sight_0_t 38 rfl
theorem dX4_sight_58 : decode cX4_sight 58 = .ok (.iload_n 3, 1) := dq_get dX4_sight_0_t 39 rfl
theorem dX4_sight_59_t : dqK cX4_sight.data.toList 0 [(59, .isub, 1), (60, .iconst 1, 1), (61, .invokevirtual 65, 3), (64, .ior, 1), (65, .aload_n 0, 1), (66, .iload_n 1, 1), (67, .iload_n 2, 1), (68, .iconst (-1), 1), (69, .iload 4, 2), (71, .iconst 0, 1), (72, .invokevirtual 65, 3), (75, .ior, 1), (76, .aload_n 0, 1), (77, .iload_n 1, 1), (78, .iload_n 2, 1), (79, .iconst 1, 1), (80, .aload_n 0, 1), (81, .getfield 28, 3), (84, .iconst 1, 1), (85, .isub, 1), (86, .iload 4, 2), (88, .isub, 1), (89, .iconst 0, 1), (90, .invokevirtual 65, 3), (93, .ior, 1), (94, .ireturn, 1)] = true := by decide +kernel
theorem dX4_sight_59 : decode cX4_sight 59 = .ok (.isub, 1) := dq_get dX4_sight_59_t 0 rfl
theorem dX4_sight_60 : decode cX4_sight 60 = .ok (.iconst 1, 1) := dq_get dX4_sight_59_t 1 rfl
theorem dX4_sight_61 : decode cX4_sight 61 = .ok (.invokevirtual 65, 3) := dq_get dX4_sight_59_t 2 rfl
theorem dX4_sight_64 : decode cX4_sight 64 = .ok (.ior, 1) := dq_get dX4_sight_59_t 3 rfl
theorem dX4_sight_65 : decode cX4_sight 65 = .ok (.aload_n 0, 1) := dq_get dX4_sight_59_t 4 rfl
theorem dX4_sight_66 : decode cX4_sight 66 = .ok (.iload_n 1, 1) := dq_get dX4_sight_59_t 5 rfl
theorem dX4_sight_67 : decode cX4_sight 67 = .ok (.iload_n 2, 1) := dq_get dX4_sight_59_t 6 rfl
theorem dX4_sight_68 : decode cX4_sight 68 = .ok (.iconst (-1), 1) := dq_get dX4_sight_59_t 7 rfl
theorem dX4_sight_69 : decode cX4_sight 69 = .ok (.iload 4, 2) := dq_get dX4_sight_59_t 8 rfl
theorem dX4_sight_71 : decode cX4_sight 71 = .ok (.iconst 0, 1) := dq_get dX4_sight_59_t 9 rfl
theorem dX4_sight_72 : decode cX4_sight 72 = .ok (.invokevirtual 65, 3) := dq_get dX4_sight_59_t 10 rfl
theorem dX4_sight_75 : decode cX4_sight 75 = .ok (.ior, 1) := dq_get dX4_sight_59_t 11 rfl
theorem dX4_sight_76 : decode cX4_sight 76 = .ok (.aload_n 0, 1) := dq_get dX4_sight_59_t 12 rfl
theorem dX4_sight_77 : decode cX4_sight 77 = .ok (.iload_n 1, 1) := dq_get dX4_sight_59_t 13 rfl
theorem dX4_sight_78 : decode cX4_sight 78 = .ok (.iload_n 2, 1) := dq_get dX4_sight_59_t 14 rfl
theorem dX4_sight_79 : decode cX4_sight 79 = .ok (.iconst 1, 1) := dq_get dX4_sight_59_t 15 rfl
theorem dX4_sight_80 : decode cX4_sight 80 = .ok (.aload_n 0, 1) := dq_get dX4_sight_59_t 16 rfl
theorem dX4_sight_81 : decode cX4_sight 81 = .ok (.getfield 28, 3) := dq_get dX4_sight_59_t 17 rfl
theorem dX4_sight_84 : decode cX4_sight 84 = .ok (.iconst 1, 1) := dq_get dX4_sight_59_t 18 rfl
theorem dX4_sight_85 : decode cX4_sight 85 = .ok (.isub, 1) := dq_get dX4_sight_59_t 19 rfl
theorem dX4_sight_86 : decode cX4_sight 86 = .ok (.iload 4, 2) := dq_get dX4_sight_59_t 20 rfl
theorem dX4_sight_88 : decode cX4_sight 88 = .ok (.isub, 1) := dq_get dX4_sight_59_t 21 rfl
theorem dX4_sight_89 : decode cX4_sight 89 = .ok (.iconst 0, 1) := dq_get dX4_sight_59_t 22 rfl
theorem dX4_sight_90 : decode cX4_sight 90 = .ok (.invokevirtual 65, 3) := dq_get dX4_sight_59_t 23 rfl
theorem dX4_sight_93 : decode cX4_sight 93 = .ok (.ior, 1) := dq_get dX4_sight_59_t 24 rfl
theorem dX4_sight_94 : decode cX4_sight 94 = .ok (.ireturn, 1) := dq_get dX4_sight_59_t 25 rfl
theorem dX4_ray_0_t : dqK cX4_ray.data.toList 0 [(0, .iconst 0, 1), (1, .istore 6, 2), (3, .iconst 1, 1), (4, .istore 7, 2), (6, .iload 7, 2), (8, .iload 4, 2), (10, .if_icmp .gt 57, 3), (13, .iload_n 2, 1), (14, .iload 7, 2), (16, .iload_n 3, 1), (17, .imul, 1), (18, .iadd, 1), (19, .istore 8, 2), (21, .iload 6, 2), (23, .iconst 1, 1), (24, .iload 8, 2), (26, .ishl, 1), (27, .ior, 1), (28, .istore 6, 2), (30, .aload_n 0, 1), (31, .getfield 9, 3), (34, .iload_n 1, 1), (35, .iload 8, 2), (37, .iadd, 1), (38, .iaload, 1), (39, .istore 9, 2), (41, .iload 9, 2), (43, .iconst 4, 1), (44, .if_icmp .eq 23, 3), (47, .iload 5, 2), (49, .ifCond .eq 12, 3), (52, .iload 9, 2), (54, .iconst 5, 1), (55, .if_icmp .ne 6, 3), (58, .goto 9, 3), (61, .iinc 7 1, 3), (64, .goto (-58), 3), (67, .iload 6, 2), (69, .ireturn, 1)] = true := by decide +kernel
theorem dX4_ray_0 : decode cX4_ray 0 = .ok (.iconst 0, 1) := dq_get dX4_ray_0_t 0 rfl
theorem dX4_ray_1 : decode cX4_ray 1 = .ok (.istore 6, 2) := dq_get dX4_ray_0_t 1 rfl
theorem dX4_ray_3 : decode cX4_ray 3 = .ok (.iconst 1, 1) := dq_get dX4_ray_0_t 2 rfl
theorem dX4_ray_4 : decode cX4_ray 4 = .ok (.istore 7, 2) := dq_get dX4_ray_0_t 3 rfl
theorem dX4_ray_6 : decode cX4_ray 6 = .ok (.iload 7, 2) := dq_get dX4_ray_0_t 4 rfl
theorem dX4_ray_8 : decode cX4_ray 8 = .ok (.iload 4, 2) := dq_get dX4_ray_0_t 5 rfl
theorem dX4_ray_10 : decode cX4_ray 10 = .ok (.if_icmp .gt 57, 3) := dq_get dX4_ray_0_t 6 rfl
theorem dX4_ray_13 : decode cX4_ray 13 = .ok (.iload_n 2, 1) := dq_get dX4_ray_0_t 7 rfl
theorem dX4_ray_14 : decode cX4_ray 14 = .ok (.iload 7, 2) := dq_get dX4_ray_0_t 8 rfl
theorem dX4_ray_16 : decode cX4_ray 16 = .ok (.iload_n 3, 1) := dq_get dX4_ray_0_t 9 rfl
theorem dX4_ray_17 : decode cX4_ray 17 = .ok (.imul, 1) := dq_get dX4_ray_0_t 10 rfl
theorem dX4_ray_18 : decode cX4_ray 18 = .ok (.iadd, 1) := dq_get dX4_ray_0_t 11 rfl
theorem dX4_ray_19 : decode cX4_ray 19 = .ok (.istore 8, 2) := dq_get dX4_ray_0_t 12 rfl
theorem dX4_ray_21 : decode cX4_ray 21 = .ok (.iload 6, 2) := dq_get dX4_ray_0_t 13 rfl
theorem dX4_ray_23 : decode cX4_ray 23 = .ok (.iconst 1, 1) := dq_get dX4_ray_0_t 14 rfl
theorem dX4_ray_24 : decode cX4_ray 24 = .ok (.iload 8, 2) := dq_get dX4_ray_0_t 15 rfl
theorem dX4_ray_26 : decode cX4_ray 26 = .ok (.ishl, 1) := dq_get dX4_ray_0_t 16 rfl
theorem dX4_ray_27 : decode cX4_ray 27 = .ok (.ior, 1) := dq_get dX4_ray_0_t 17 rfl
theorem dX4_ray_28 : decode cX4_ray 28 = .ok (.istore 6, 2) := dq_get dX4_ray_0_t 18 rfl
theorem dX4_ray_30 : decode cX4_ray 30 = .ok (.aload_n 0, 1) := dq_get dX4_ray_0_t 19 rfl
theorem dX4_ray_31 : decode cX4_ray 31 = .ok (.getfield 9, 3) := dq_get dX4_ray_0_t 20 rfl
theorem dX4_ray_34 : decode cX4_ray 34 = .ok (.iload_n 1, 1) := dq_get dX4_ray_0_t 21 rfl
theorem dX4_ray_35 : decode cX4_ray 35 = .ok (.iload 8, 2) := dq_get dX4_ray_0_t 22 rfl
theorem dX4_ray_37 : decode cX4_ray 37 = .ok (.iadd, 1) := dq_get dX4_ray_0_t 23 rfl
theorem dX4_ray_38 : decode cX4_ray 38 = .ok (.iaload, 1) := dq_get dX4_ray_0_t 24 rfl
theorem dX4_ray_39 : decode cX4_ray 39 = .ok (.istore 9, 2) := dq_get dX4_ray_0_t 25 rfl
theorem dX4_ray_41 : decode cX4_ray 41 = .ok (.iload 9, 2) := dq_get dX4_ray_0_t 26 rfl
theorem dX4_ray_43 : decode cX4_ray 43 = .ok (.iconst 4, 1) := dq_get dX4_ray_0_t 27 rfl
theorem dX4_ray_44 : decode cX4_ray 44 = .ok (.if_icmp .eq 23, 3) := dq_get dX4_ray_0_t 28 rfl
theorem dX4_ray_47 : decode cX4_ray 47 = .ok (.iload 5, 2) := dq_get dX4_ray_0_t 29 rfl
theorem dX4_ray_49 : decode cX4_ray 49 = .ok (.ifCond .eq 12, 3) := dq_get dX4_ray_0_t 30 rfl
theorem dX4_ray_52 : decode cX4_ray 52 = .ok (.iload 9, 2) := dq_get dX4_ray_0_t 31 rfl
theorem dX4_ray_54 : decode cX4_ray 54 = .ok (.iconst 5, 1) := dq_get dX4_ray_0_t 32 rfl
theorem dX4_ray_55 : decode cX4_ray 55 = .ok (.if_icmp .ne 6, 3) := dq_get dX4_ray_0_t 33 rfl
theorem dX4_ray_58 : decode cX4_ray 58 = .ok (.goto 9, 3) := dq_get dX4_ray_0_t 34 rfl
theorem dX4_ray_61 : decode cX4_ray 61 = .ok (.iinc 7 1, 3) := dq_get dX4_ray_0_t 35 rfl
theorem dX4_ray_64 : decode cX4_ray 64 = .ok (.goto (-58), 3) := dq_get dX4_ray_0_t 36 rfl
theorem dX4_ray_67 : decode cX4_ray 67 = .ok (.iload 6, 2) := dq_get dX4_ray_0_t 37 rfl
theorem dX4_ray_69 : decode cX4_ray 69 = .ok (.ireturn, 1) := dq_get dX4_ray_0_t 38 rfl
theorem dX4_markOf_0_t : dqK cX4_markOf.data.toList 0 [(0, .aload_n 0, 1), (1, .getfield 9, 3), (4, .iload_n 2, 1), (5, .bipush 16, 2), (7, .imul, 1), (8, .iload_n 1, 1), (9, .iadd, 1), (10, .iaload, 1), (11, .ireturn, 1)] = true := by decide +kernel
theorem dX4_markOf_0 : decode cX4_markOf 0 = .ok (.aload_n 0, 1) := dq_get dX4_markOf_0_t 0 rfl
theorem dX4_markOf_1 : decode cX4_markOf 1 = .ok (.getfield 9, 3) := dq_get dX4_markOf_0_t 1 rfl
theorem dX4_markOf_4 : decode cX4_markOf 4 = .ok (.iload_n 2, 1) := dq_get dX4_markOf_0_t 2 rfl
theorem dX4_markOf_5 : decode cX4_markOf 5 = .ok (.bipush 16, 2) := dq_get dX4_markOf_0_t 3 rfl
theorem dX4_markOf_7 : decode cX4_markOf 7 = .ok (.imul, 1) := dq_get dX4_markOf_0_t 4 rfl
theorem dX4_markOf_8 : decode cX4_markOf 8 = .ok (.iload_n 1, 1) := dq_get dX4_markOf_0_t 5 rfl
theorem dX4_markOf_9 : decode cX4_markOf 9 = .ok (.iadd, 1) := dq_get dX4_markOf_0_t 6 rfl
theorem dX4_markOf_10 : decode cX4_markOf 10 = .ok (.iaload, 1) := dq_get dX4_markOf_0_t 7 rfl
theorem dX4_markOf_11 : decode cX4_markOf 11 = .ok (.ireturn, 1) := dq_get dX4_markOf_0_t 8 rfl
theorem dX4_sightOf_0_t : dqK cX4_sightOf.data.toList 0 [(0, .aload_n 0, 1), (1, .getfield 15, 3), (4, .iload_n 2, 1), (5, .bipush 16, 2), (7, .imul, 1), (8, .iload_n 1, 1), (9, .iadd, 1), (10, .iaload, 1), (11, .ireturn, 1)] = true := by decide +kernel
theorem dX4_sightOf_0 : decode cX4_sightOf 0 = .ok (.aload_n 0, 1) := dq_get dX4_sightOf_0_t 0 rfl
theorem dX4_sightOf_1 : decode cX4_sightOf 1 = .ok (.getfield 15, 3) := dq_get dX4_sightOf_0_t 1 rfl
theorem dX4_sightOf_4 : decode cX4_sightOf 4 = .ok (.iload_n 2, 1) := dq_get dX4_sightOf_0_t 2 rfl
theorem dX4_sightOf_5 : decode cX4_sightOf 5 = .ok (.bipush 16, 2) := dq_get dX4_sightOf_0_t 3 rfl
theorem dX4_sightOf_7 : decode cX4_sightOf 7 = .ok (.imul, 1) := dq_get dX4_sightOf_0_t 4 rfl
theorem dX4_sightOf_8 : decode cX4_sightOf 8 = .ok (.iload_n 1, 1) := dq_get dX4_sightOf_0_t 5 rfl
theorem dX4_sightOf_9 : decode cX4_sightOf 9 = .ok (.iadd, 1) := dq_get dX4_sightOf_0_t 6 rfl
theorem dX4_sightOf_10 : decode cX4_sightOf 10 = .ok (.iaload, 1) := dq_get dX4_sightOf_0_t 7 rfl
theorem dX4_sightOf_11 : decode cX4_sightOf 11 = .ok (.ireturn, 1) := dq_get dX4_sightOf_0_t 8 rfl
theorem gt_wsX4_answerOf_wsX40 : GoodIn wsX4_answerOf wsX40 := fun w hw => ⟨List.mem_cons_of_mem _ (List.mem_append_right _ hw), good_of_word (List.all_eq_true.mp gw_wsX40 w hw)⟩
set_option maxRecDepth 20000 in
theorem ggX4_answerOf_X4_sightOf : GoodIn wsX4_answerOf wsX4_sightOf := goodIn_ca (goodIn_r _ [5, 6] rfl (by decide +kernel)) gt_wsX4_answerOf_wsX40
set_option maxRecDepth 20000 in
theorem gX4_answerOf_X4_sightOf : GoodIn wsX4_answerOf (wsV RX4 69 RX4 yX4_sightOf wsX4_sightOf) := goodIn_app (goodIn_r _ [1, 2, 3, 4] rfl (by decide +kernel)) ggX4_answerOf_X4_sightOf
set_option maxRecDepth 20000 in
theorem ggX4_answerOf_X4_markOf : GoodIn wsX4_answerOf wsX4_markOf := goodIn_ca (goodIn_r _ [10, 11] rfl (by decide +kernel)) gt_wsX4_answerOf_wsX40
set_option maxRecDepth 20000 in
theorem gX4_answerOf_X4_markOf : GoodIn wsX4_answerOf (wsV RX4 72 RX4 yX4_markOf wsX4_markOf) := goodIn_app (goodIn_r _ [7, 8, 9, 4] rfl (by decide +kernel)) ggX4_answerOf_X4_markOf
theorem dX4_answerOf_0_t : dqK cX4_answerOf.data.toList 0 [(0, .aload_n 0, 1), (1, .iload_n 1, 1), (2, .iload_n 3, 1), (3, .invokevirtual 69, 3), (6, .iload_n 2, 1), (7, .ishr, 1), (8, .iconst 1, 1), (9, .iand, 1), (10, .ifCond .eq 12, 3), (13, .aload_n 0, 1), (14, .iload_n 2, 1), (15, .iload_n 3, 1), (16, .invokevirtual 72, 3), (19, .goto 5, 3), (22, .bipush (-4), 2), (24, .ireturn, 1)] = true := by decide +kernel
theorem dX4_answerOf_0 : decode cX4_answerOf 0 = .ok (.aload_n 0, 1) := dq_get dX4_answerOf_0_t 0 rfl
theorem dX4_answerOf_1 : decode cX4_answerOf 1 = .ok (.iload_n 1, 1) := dq_get dX4_answerOf_0_t 1 rfl
theorem dX4_answerOf_2 : decode cX4_answerOf 2 = .ok (.iload_n 3, 1) := dq_get dX4_answerOf_0_t 2 rfl
theorem dX4_answerOf_3 : decode cX4_answerOf 3 = .ok (.invokevirtual 69, 3) := dq_get dX4_answerOf_0_t 3 rfl
theorem dX4_answerOf_6 : decode cX4_answerOf 6 = .ok (.iload_n 2, 1) := dq_get dX4_answerOf_0_t 4 rfl
theorem dX4_answerOf_7 : decode cX4_answerOf 7 = .ok (.ishr, 1) := dq_get dX4_answerOf_0_t 5 rfl
theorem dX4_answerOf_8 : decode cX4_answerOf 8 = .ok (.iconst 1, 1) := dq_get dX4_answerOf_0_t 6 rfl
theorem dX4_answerOf_9 : decode cX4_answerOf 9 = .ok (.iand, 1) := dq_get dX4_answerOf_0_t 7 rfl
theorem dX4_answerOf_10 : decode cX4_answerOf 10 = .ok (.ifCond .eq 12, 3) := dq_get dX4_answerOf_0_t 8 rfl
theorem dX4_answerOf_13 : decode cX4_answerOf 13 = .ok (.aload_n 0, 1) := dq_get dX4_answerOf_0_t 9 rfl
theorem dX4_answerOf_14 : decode cX4_answerOf 14 = .ok (.iload_n 2, 1) := dq_get dX4_answerOf_0_t 10 rfl
theorem dX4_answerOf_15 : decode cX4_answerOf 15 = .ok (.iload_n 3, 1) := dq_get dX4_answerOf_0_t 11 rfl
theorem dX4_answerOf_16 : decode cX4_answerOf 16 = .ok (.invokevirtual 72, 3) := dq_get dX4_answerOf_0_t 12 rfl
theorem dX4_answerOf_19 : decode cX4_answerOf 19 = .ok (.goto 5, 3) := dq_get dX4_answerOf_0_t 13 rfl
theorem dX4_answerOf_22 : decode cX4_answerOf 22 = .ok (.bipush (-4), 2) := dq_get dX4_answerOf_0_t 14 rfl
theorem dX4_answerOf_24 : decode cX4_answerOf 24 = .ok (.ireturn, 1) := dq_get dX4_answerOf_0_t 15 rfl
theorem gt_wsX4_cellsWith_wsX40 : GoodIn wsX4_cellsWith wsX40 := fun w hw => ⟨List.mem_cons_of_mem _ (List.mem_append_right _ hw), good_of_word (List.all_eq_true.mp gw_wsX40 w hw)⟩
set_option maxRecDepth 20000 in
theorem ggX4_cellsWith_X4_markOf : GoodIn wsX4_cellsWith wsX4_markOf := goodIn_ca (goodIn_r _ [7, 8] rfl (by decide +kernel)) gt_wsX4_cellsWith_wsX40
set_option maxRecDepth 20000 in
theorem gX4_cellsWith_X4_markOf : GoodIn wsX4_cellsWith (wsV RX4 72 RX4 yX4_markOf wsX4_markOf) := goodIn_app (goodIn_r _ [3, 4, 5, 6] rfl (by decide +kernel)) ggX4_cellsWith_X4_markOf
theorem dX4_cellsWith_0_t : dqK cX4_cellsWith.data.toList 0 [(0, .iconst 0, 1), (1, .istore_n 3, 1), (2, .iconst 0, 1), (3, .istore 4, 2), (5, .iload 4, 2), (7, .aload_n 0, 1), (8, .getfield 28, 3), (11, .aload_n 0, 1), (12, .getfield 32, 3), (15, .imul, 1), (16, .if_icmp .ge 27, 3), (19, .aload_n 0, 1), (20, .iload 4, 2), (22, .iload_n 2, 1), (23, .invokevirtual 72, 3), (26, .iload_n 1, 1), (27, .if_icmp .ne 10, 3), (30, .iload_n 3, 1), (31, .iconst 1, 1), (32, .iload 4, 2), (34, .ishl, 1), (35, .ior, 1), (36, .istore_n 3, 1), (37, .iinc 4 1, 3), (40, .goto (-35), 3), (43, .iload_n 3, 1), (44, .ireturn, 1)] = true := by decide +kernel
theorem dX4_cellsWith_0 : decode cX4_cellsWith 0 = .ok (.iconst 0, 1) := dq_get dX4_cellsWith_0_t 0 rfl
theorem dX4_cellsWith_1 : decode cX4_cellsWith 1 = .ok (.istore_n 3, 1) := dq_get dX4_cellsWith_0_t 1 rfl
theorem dX4_cellsWith_2 : decode cX4_cellsWith 2 = .ok (.iconst 0, 1) := dq_get dX4_cellsWith_0_t 2 rfl
theorem dX4_cellsWith_3 : decode cX4_cellsWith 3 = .ok (.istore 4, 2) := dq_get dX4_cellsWith_0_t 3 rfl
theorem dX4_cellsWith_5 : decode cX4_cellsWith 5 = .ok (.iload 4, 2) := dq_get dX4_cellsWith_0_t 4 rfl
theorem dX4_cellsWith_7 : decode cX4_cellsWith 7 = .ok (.aload_n 0, 1) := dq_get dX4_cellsWith_0_t 5 rfl
theorem dX4_cellsWith_8 : decode cX4_cellsWith 8 = .ok (.getfield 28, 3) := dq_get dX4_cellsWith_0_t 6 rfl
theorem dX4_cellsWith_11 : decode cX4_cellsWith 11 = .ok (.aload_n 0, 1) := dq_get dX4_cellsWith_0_t 7 rfl
theorem dX4_cellsWith_12 : decode cX4_cellsWith 12 = .ok (.getfield 32, 3) := dq_get dX4_cellsWith_0_t 8 rfl
theorem dX4_cellsWith_15 : decode cX4_cellsWith 15 = .ok (.imul, 1) := dq_get dX4_cellsWith_0_t 9 rfl
theorem dX4_cellsWith_16 : decode cX4_cellsWith 16 = .ok (.if_icmp .ge 27, 3) := dq_get dX4_cellsWith_0_t 10 rfl
theorem dX4_cellsWith_19 : decode cX4_cellsWith 19 = .ok (.aload_n 0, 1) := dq_get dX4_cellsWith_0_t 11 rfl
theorem dX4_cellsWith_20 : decode cX4_cellsWith 20 = .ok (.iload 4, 2) := dq_get dX4_cellsWith_0_t 12 rfl
theorem dX4_cellsWith_22 : decode cX4_cellsWith 22 = .ok (.iload_n 2, 1) := dq_get dX4_cellsWith_0_t 13 rfl
theorem dX4_cellsWith_23 : decode cX4_cellsWith 23 = .ok (.invokevirtual 72, 3) := dq_get dX4_cellsWith_0_t 14 rfl
theorem dX4_cellsWith_26 : decode cX4_cellsWith 26 = .ok (.iload_n 1, 1) := dq_get dX4_cellsWith_0_t 15 rfl
theorem dX4_cellsWith_27 : decode cX4_cellsWith 27 = .ok (.if_icmp .ne 10, 3) := dq_get dX4_cellsWith_0_t 16 rfl
theorem dX4_cellsWith_30 : decode cX4_cellsWith 30 = .ok (.iload_n 3, 1) := dq_get dX4_cellsWith_0_t 17 rfl
theorem dX4_cellsWith_31 : decode cX4_cellsWith 31 = .ok (.iconst 1, 1) := dq_get dX4_cellsWith_0_t 18 rfl
theorem dX4_cellsWith_32 : decode cX4_cellsWith 32 = .ok (.iload 4, 2) := dq_get dX4_cellsWith_0_t 19 rfl
theorem dX4_cellsWith_34 : decode cX4_cellsWith 34 = .ok (.ishl, 1) := dq_get dX4_cellsWith_0_t 20 rfl
theorem dX4_cellsWith_35 : decode cX4_cellsWith 35 = .ok (.ior, 1) := dq_get dX4_cellsWith_0_t 21 rfl
theorem dX4_cellsWith_36 : decode cX4_cellsWith 36 = .ok (.istore_n 3, 1) := dq_get dX4_cellsWith_0_t 22 rfl
theorem dX4_cellsWith_37 : decode cX4_cellsWith 37 = .ok (.iinc 4 1, 3) := dq_get dX4_cellsWith_0_t 23 rfl
theorem dX4_cellsWith_40 : decode cX4_cellsWith 40 = .ok (.goto (-35), 3) := dq_get dX4_cellsWith_0_t 24 rfl
theorem dX4_cellsWith_43 : decode cX4_cellsWith 43 = .ok (.iload_n 3, 1) := dq_get dX4_cellsWith_0_t 25 rfl
theorem dX4_cellsWith_44 : decode cX4_cellsWith 44 = .ok (.ireturn, 1) := dq_get dX4_cellsWith_0_t 26 rfl
theorem gt_wsX4_unlike_wsX40 : GoodIn wsX4_unlike wsX40 := fun w hw => ⟨List.mem_cons_of_mem _ (List.mem_append_right _ hw), good_of_word (List.all_eq_true.mp gw_wsX40 w hw)⟩
set_option maxRecDepth 20000 in
theorem ggX4_unlike_X4_markOf : GoodIn wsX4_unlike wsX4_markOf := goodIn_ca (goodIn_r _ [7, 8] rfl (by decide +kernel)) gt_wsX4_unlike_wsX40
set_option maxRecDepth 20000 in
theorem gX4_unlike_X4_markOf : GoodIn wsX4_unlike (wsV RX4 72 RX4 yX4_markOf wsX4_markOf) := goodIn_app (goodIn_r _ [3, 4, 5, 6] rfl (by decide +kernel)) ggX4_unlike_X4_markOf
theorem dX4_unlike_0_t : dqK cX4_unlike.data.toList 0 [(0, .iconst 0, 1), (1, .istore_n 3, 1), (2, .iconst 0, 1), (3, .istore 4, 2), (5, .iload 4, 2), (7, .aload_n 0, 1), (8, .getfield 28, 3), (11, .aload_n 0, 1), (12, .getfield 32, 3), (15, .imul, 1), (16, .if_icmp .ge 33, 3), (19, .aload_n 0, 1), (20, .iload 4, 2), (22, .iload_n 1, 1), (23, .invokevirtual 72, 3), (26, .aload_n 0, 1), (27, .iload 4, 2), (29, .iload_n 2, 1), (30, .invokevirtual 72, 3), (33, .if_icmp .eq 10, 3), (36, .iload_n 3, 1), (37, .iconst 1, 1), (38, .iload 4, 2), (40, .ishl, 1), (41, .ior, 1), (42, .istore_n 3, 1), (43, .iinc 4 1, 3), (46, .goto (-41), 3), (49, .iload_n 3, 1), (50, .ireturn, 1)] = true := by decide +kernel
theorem dX4_unlike_0 : decode cX4_unlike 0 = .ok (.iconst 0, 1) := dq_get dX4_unlike_0_t 0 rfl
theorem dX4_unlike_1 : decode cX4_unlike 1 = .ok (.istore_n 3, 1) := dq_get dX4_unlike_0_t 1 rfl
theorem dX4_unlike_2 : decode cX4_unlike 2 = .ok (.iconst 0, 1) := dq_get dX4_unlike_0_t 2 rfl
theorem dX4_unlike_3 : decode cX4_unlike 3 = .ok (.istore 4, 2) := dq_get dX4_unlike_0_t 3 rfl
theorem dX4_unlike_5 : decode cX4_unlike 5 = .ok (.iload 4, 2) := dq_get dX4_unlike_0_t 4 rfl
theorem dX4_unlike_7 : decode cX4_unlike 7 = .ok (.aload_n 0, 1) := dq_get dX4_unlike_0_t 5 rfl
theorem dX4_unlike_8 : decode cX4_unlike 8 = .ok (.getfield 28, 3) := dq_get dX4_unlike_0_t 6 rfl
theorem dX4_unlike_11 : decode cX4_unlike 11 = .ok (.aload_n 0, 1) := dq_get dX4_unlike_0_t 7 rfl
theorem dX4_unlike_12 : decode cX4_unlike 12 = .ok (.getfield 32, 3) := dq_get dX4_unlike_0_t 8 rfl
theorem dX4_unlike_15 : decode cX4_unlike 15 = .ok (.imul, 1) := dq_get dX4_unlike_0_t 9 rfl
theorem dX4_unlike_16 : decode cX4_unlike 16 = .ok (.if_icmp .ge 33, 3) := dq_get dX4_unlike_0_t 10 rfl
theorem dX4_unlike_19 : decode cX4_unlike 19 = .ok (.aload_n 0, 1) := dq_get dX4_unlike_0_t 11 rfl
theorem dX4_unlike_20 : decode cX4_unlike 20 = .ok (.iload 4, 2) := dq_get dX4_unlike_0_t 12 rfl
theorem dX4_unlike_22 : decode cX4_unlike 22 = .ok (.iload_n 1, 1) := dq_get dX4_unlike_0_t 13 rfl
theorem dX4_unlike_23 : decode cX4_unlike 23 = .ok (.invokevirtual 72, 3) := dq_get dX4_unlike_0_t 14 rfl
theorem dX4_unlike_26 : decode cX4_unlike 26 = .ok (.aload_n 0, 1) := dq_get dX4_unlike_0_t 15 rfl
theorem dX4_unlike_27 : decode cX4_unlike 27 = .ok (.iload 4, 2) := dq_get dX4_unlike_0_t 16 rfl
theorem dX4_unlike_29 : decode cX4_unlike 29 = .ok (.iload_n 2, 1) := dq_get dX4_unlike_0_t 17 rfl
theorem dX4_unlike_30 : decode cX4_unlike 30 = .ok (.invokevirtual 72, 3) := dq_get dX4_unlike_0_t 18 rfl
theorem dX4_unlike_33 : decode cX4_unlike 33 = .ok (.if_icmp .eq 10, 3) := dq_get dX4_unlike_0_t 19 rfl
theorem dX4_unlike_36 : decode cX4_unlike 36 = .ok (.iload_n 3, 1) := dq_get dX4_unlike_0_t 20 rfl
theorem dX4_unlike_37 : decode cX4_unlike 37 = .ok (.iconst 1, 1) := dq_get dX4_unlike_0_t 21 rfl
theorem dX4_unlike_38 : decode cX4_unlike 38 = .ok (.iload 4, 2) := dq_get dX4_unlike_0_t 22 rfl
theorem dX4_unlike_40 : decode cX4_unlike 40 = .ok (.ishl, 1) := dq_get dX4_unlike_0_t 23 rfl
theorem dX4_unlike_41 : decode cX4_unlike 41 = .ok (.ior, 1) := dq_get dX4_unlike_0_t 24 rfl
theorem dX4_unlike_42 : decode cX4_unlike 42 = .ok (.istore_n 3, 1) := dq_get dX4_unlike_0_t 25 rfl
theorem dX4_unlike_43 : decode cX4_unlike 43 = .ok (.iinc 4 1, 3) := dq_get dX4_unlike_0_t 26 rfl
theorem dX4_unlike_46 : decode cX4_unlike 46 = .ok (.goto (-41), 3) := dq_get dX4_unlike_0_t 27 rfl
theorem dX4_unlike_49 : decode cX4_unlike 49 = .ok (.iload_n 3, 1) := dq_get dX4_unlike_0_t 28 rfl
theorem dX4_unlike_50 : decode cX4_unlike 50 = .ok (.ireturn, 1) := dq_get dX4_unlike_0_t 29 rfl
theorem gt_wsX4_tellingApart_wsX40 : GoodIn wsX4_tellingApart wsX40 := fun w hw => ⟨List.mem_cons_of_mem _ (List.mem_append_right _ hw), good_of_word (List.all_eq_true.mp gw_wsX40 w hw)⟩
set_option maxRecDepth 20000 in
theorem ggX4_tellingApart_X4_unlike : GoodIn wsX4_tellingApart wsX4_unlike := goodIn_ca (goodIn_r _ [5, 6, 7, 8, 9, 10, 4, 11, 12] rfl (by decide +kernel)) gt_wsX4_tellingApart_wsX40
set_option maxRecDepth 20000 in
theorem gX4_tellingApart_X4_unlike : GoodIn wsX4_tellingApart (wsV RX4 75 RX4 yX4_unlike wsX4_unlike) := goodIn_app (goodIn_r _ [1, 2, 3, 4] rfl (by decide +kernel)) ggX4_tellingApart_X4_unlike
set_option maxRecDepth 20000 in
theorem ggX4_tellingApart_X4_sightOf : GoodIn wsX4_tellingApart wsX4_sightOf := goodIn_ca (goodIn_r _ [16, 17] rfl (by decide +kernel)) gt_wsX4_tellingApart_wsX40
set_option maxRecDepth 20000 in
theorem gX4_tellingApart_X4_sightOf : GoodIn wsX4_tellingApart (wsV RX4 69 RX4 yX4_sightOf wsX4_sightOf) := goodIn_app (goodIn_r _ [13, 14, 15, 4] rfl (by decide +kernel)) ggX4_tellingApart_X4_sightOf
theorem dX4_tellingApart_0_t : dqK cX4_tellingApart.data.toList 0 [(0, .aload_n 0, 1), (1, .iload_n 1, 1), (2, .iload_n 2, 1), (3, .invokevirtual 75, 3), (6, .istore 4, 2), (8, .iconst 0, 1), (9, .istore 5, 2), (11, .iconst 0, 1), (12, .istore 6, 2), (14, .iload 6, 2), (16, .iload_n 3, 1), (17, .if_icmp .ge 48, 3), (20, .aload_n 0, 1), (21, .iload 6, 2), (23, .iload_n 1, 1), (24, .invokevirtual 69, 3), (27, .aload_n 0, 1), (28, .iload 6, 2), (30, .iload_n 2, 1), (31, .invokevirtual 69, 3), (34, .if_icmp .ne 16, 3), (37, .aload_n 0, 1), (38, .iload 6, 2), (40, .iload_n 1, 1), (41, .invokevirtual 69, 3), (44, .iload 4, 2), (46, .iand, 1), (47, .ifCond .eq 12, 3), (50, .iload 5, 2), (52, .iconst 1, 1), (53, .iload 6, 2), (55, .ishl, 1), (56, .ior, 1), (57, .istore 5, 2), (59, .iinc 6 1, 3), (62, .goto (-48), 3), (65, .iload 5, 2), (67, .ireturn, 1)] = true := by decide +kernel
theorem dX4_tellingApart_0 : decode cX4_tellingApart 0 = .ok (.aload_n 0, 1) := dq_get dX4_tellingApart_0_t 0 rfl
theorem dX4_tellingApart_1 : decode cX4_tellingApart 1 = .ok (.iload_n 1, 1) := dq_get dX4_tellingApart_0_t 1 rfl
theorem dX4_tellingApart_2 : decode cX4_tellingApart 2 = .ok (.iload_n 2, 1) := dq_get dX4_tellingApart_0_t 2 rfl
theorem dX4_tellingApart_3 : decode cX4_tellingApart 3 = .ok (.invokevirtual 75, 3) := dq_get dX4_tellingApart_0_t 3 rfl
theorem dX4_tellingApart_6 : decode cX4_tellingApart 6 = .ok (.istore 4, 2) := dq_get dX4_tellingApart_0_t 4 rfl
theorem dX4_tellingApart_8 : decode cX4_tellingApart 8 = .ok (.iconst 0, 1) := dq_get dX4_tellingApart_0_t 5 rfl
theorem dX4_tellingApart_9 : decode cX4_tellingApart 9 = .ok (.istore 5, 2) := dq_get dX4_tellingApart_0_t 6 rfl
theorem dX4_tellingApart_11 : decode cX4_tellingApart 11 = .ok (.iconst 0, 1) := dq_get dX4_tellingApart_0_t 7 rfl
theorem dX4_tellingApart_12 : decode cX4_tellingApart 12 = .ok (.istore 6, 2) := dq_get dX4_tellingApart_0_t 8 rfl
theorem dX4_tellingApart_14 : decode cX4_tellingApart 14 = .ok (.iload 6, 2) := dq_get dX4_tellingApart_0_t 9 rfl
theorem dX4_tellingApart_16 : decode cX4_tellingApart 16 = .ok (.iload_n 3, 1) := dq_get dX4_tellingApart_0_t 10 rfl
theorem dX4_tellingApart_17 : decode cX4_tellingApart 17 = .ok (.if_icmp .ge 48, 3) := dq_get dX4_tellingApart_0_t 11 rfl
theorem dX4_tellingApart_20 : decode cX4_tellingApart 20 = .ok (.aload_n 0, 1) := dq_get dX4_tellingApart_0_t 12 rfl
theorem dX4_tellingApart_21 : decode cX4_tellingApart 21 = .ok (.iload 6, 2) := dq_get dX4_tellingApart_0_t 13 rfl
theorem dX4_tellingApart_23 : decode cX4_tellingApart 23 = .ok (.iload_n 1, 1) := dq_get dX4_tellingApart_0_t 14 rfl
theorem dX4_tellingApart_24 : decode cX4_tellingApart 24 = .ok (.invokevirtual 69, 3) := dq_get dX4_tellingApart_0_t 15 rfl
theorem dX4_tellingApart_27 : decode cX4_tellingApart 27 = .ok (.aload_n 0, 1) := dq_get dX4_tellingApart_0_t 16 rfl
theorem dX4_tellingApart_28 : decode cX4_tellingApart 28 = .ok (.iload 6, 2) := dq_get dX4_tellingApart_0_t 17 rfl
theorem dX4_tellingApart_30 : decode cX4_tellingApart 30 = .ok (.iload_n 2, 1) := dq_get dX4_tellingApart_0_t 18 rfl
theorem dX4_tellingApart_31 : decode cX4_tellingApart 31 = .ok (.invokevirtual 69, 3) := dq_get dX4_tellingApart_0_t 19 rfl
theorem dX4_tellingApart_34 : decode cX4_tellingApart 34 = .ok (.if_icmp .ne 16, 3) := dq_get dX4_tellingApart_0_t 20 rfl
theorem dX4_tellingApart_37 : decode cX4_tellingApart 37 = .ok (.aload_n 0, 1) := dq_get dX4_tellingApart_0_t 21 rfl
theorem dX4_tellingApart_38 : decode cX4_tellingApart 38 = .ok (.iload 6, 2) := dq_get dX4_tellingApart_0_t 22 rfl
theorem dX4_tellingApart_40 : decode cX4_tellingApart 40 = .ok (.iload_n 1, 1) := dq_get dX4_tellingApart_0_t 23 rfl
theorem dX4_tellingApart_41 : decode cX4_tellingApart 41 = .ok (.invokevirtual 69, 3) := dq_get dX4_tellingApart_0_t 24 rfl
theorem dX4_tellingApart_44 : decode cX4_tellingApart 44 = .ok (.iload 4, 2) := dq_get dX4_tellingApart_0_t 25 rfl
theorem dX4_tellingApart_46 : decode cX4_tellingApart 46 = .ok (.iand, 1) := dq_get dX4_tellingApart_0_t 26 rfl
theorem dX4_tellingApart_47 : decode cX4_tellingApart 47 = .ok (.ifCond .eq 12, 3) := dq_get dX4_tellingApart_0_t 27 rfl
theorem dX4_tellingApart_50 : decode cX4_tellingApart 50 = .ok (.iload 5, 2) := dq_get dX4_tellingApart_0_t 28 rfl
theorem dX4_tellingApart_52 : decode cX4_tellingApart 52 = .ok (.iconst 1, 1) := dq_get dX4_tellingApart_0_t 29 rfl
theorem dX4_tellingApart_53 : decode cX4_tellingApart 53 = .ok (.iload 6, 2) := dq_get dX4_tellingApart_0_t 30 rfl
theorem dX4_tellingApart_55 : decode cX4_tellingApart 55 = .ok (.ishl, 1) := dq_get dX4_tellingApart_0_t 31 rfl
theorem dX4_tellingApart_56 : decode cX4_tellingApart 56 = .ok (.ior, 1) := dq_get dX4_tellingApart_0_t 32 rfl
theorem dX4_tellingApart_57 : decode cX4_tellingApart 57 = .ok (.istore 5, 2) := dq_get dX4_tellingApart_0_t 33 rfl
theorem dX4_tellingApart_59 : decode cX4_tellingApart 59 = .ok (.iinc 6 1, 3) := dq_get dX4_tellingApart_0_t 34 rfl
theorem dX4_tellingApart_62 : decode cX4_tellingApart 62 = .ok (.goto (-48), 3) := dq_get dX4_tellingApart_0_t 35 rfl
theorem dX4_tellingApart_65 : decode cX4_tellingApart 65 = .ok (.iload 5, 2) := dq_get dX4_tellingApart_0_t 36 rfl
theorem dX4_tellingApart_67 : decode cX4_tellingApart 67 = .ok (.ireturn, 1) := dq_get dX4_tellingApart_0_t 37 rfl
theorem dX4_copyToSpareDay_0_t : dqK cX4_copyToSpareDay.data.toList 0 [(0, .aload_n 0, 1), (1, .getfield 9, 3), (4, .iload_n 1, 1), (5, .bipush 16, 2), (7, .imul, 1), (8, .aload_n 0, 1), (9, .getfield 9, 3), (12, .sipush 160, 3), (15, .bipush 16, 2), (17, .invokestatic 47, 3), (20, .return_, 1)] = true := by decide +kernel
theorem dX4_copyToSpareDay_0 : decode cX4_copyToSpareDay 0 = .ok (.aload_n 0, 1) := dq_get dX4_copyToSpareDay_0_t 0 rfl
theorem dX4_copyToSpareDay_1 : decode cX4_copyToSpareDay 1 = .ok (.getfield 9, 3) := dq_get dX4_copyToSpareDay_0_t 1 rfl
theorem dX4_copyToSpareDay_4 : decode cX4_copyToSpareDay 4 = .ok (.iload_n 1, 1) := dq_get dX4_copyToSpareDay_0_t 2 rfl
theorem dX4_copyToSpareDay_5 : decode cX4_copyToSpareDay 5 = .ok (.bipush 16, 2) := dq_get dX4_copyToSpareDay_0_t 3 rfl
theorem dX4_copyToSpareDay_7 : decode cX4_copyToSpareDay 7 = .ok (.imul, 1) := dq_get dX4_copyToSpareDay_0_t 4 rfl
theorem dX4_copyToSpareDay_8 : decode cX4_copyToSpareDay 8 = .ok (.aload_n 0, 1) := dq_get dX4_copyToSpareDay_0_t 5 rfl
theorem dX4_copyToSpareDay_9 : decode cX4_copyToSpareDay 9 = .ok (.getfield 9, 3) := dq_get dX4_copyToSpareDay_0_t 6 rfl
theorem dX4_copyToSpareDay_12 : decode cX4_copyToSpareDay 12 = .ok (.sipush 160, 3) := dq_get dX4_copyToSpareDay_0_t 7 rfl
theorem dX4_copyToSpareDay_15 : decode cX4_copyToSpareDay 15 = .ok (.bipush 16, 2) := dq_get dX4_copyToSpareDay_0_t 8 rfl
theorem dX4_copyToSpareDay_17 : decode cX4_copyToSpareDay 17 = .ok (.invokestatic 47, 3) := dq_get dX4_copyToSpareDay_0_t 9 rfl
theorem dX4_copyToSpareDay_20 : decode cX4_copyToSpareDay 20 = .ok (.return_, 1) := dq_get dX4_copyToSpareDay_0_t 10 rfl
theorem dX4_markOnSpareDay_0_t : dqK cX4_markOnSpareDay.data.toList 0 [(0, .aload_n 0, 1), (1, .getfield 9, 3), (4, .sipush 160, 3), (7, .iload_n 1, 1), (8, .iadd, 1), (9, .iload_n 2, 1), (10, .iastore, 1), (11, .return_, 1)] = true := by decide +kernel
theorem dX4_markOnSpareDay_0 : decode cX4_markOnSpareDay 0 = .ok (.aload_n 0, 1) := dq_get dX4_markOnSpareDay_0_t 0 rfl
theorem dX4_markOnSpareDay_1 : decode cX4_markOnSpareDay 1 = .ok (.getfield 9, 3) := dq_get dX4_markOnSpareDay_0_t 1 rfl
theorem dX4_markOnSpareDay_4 : decode cX4_markOnSpareDay 4 = .ok (.sipush 160, 3) := dq_get dX4_markOnSpareDay_0_t 2 rfl
theorem dX4_markOnSpareDay_7 : decode cX4_markOnSpareDay 7 = .ok (.iload_n 1, 1) := dq_get dX4_markOnSpareDay_0_t 3 rfl
theorem dX4_markOnSpareDay_8 : decode cX4_markOnSpareDay 8 = .ok (.iadd, 1) := dq_get dX4_markOnSpareDay_0_t 4 rfl
theorem dX4_markOnSpareDay_9 : decode cX4_markOnSpareDay 9 = .ok (.iload_n 2, 1) := dq_get dX4_markOnSpareDay_0_t 5 rfl
theorem dX4_markOnSpareDay_10 : decode cX4_markOnSpareDay 10 = .ok (.iastore, 1) := dq_get dX4_markOnSpareDay_0_t 6 rfl
theorem dX4_markOnSpareDay_11 : decode cX4_markOnSpareDay 11 = .ok (.return_, 1) := dq_get dX4_markOnSpareDay_0_t 7 rfl
theorem gt_wsX4_sightOnSpareDay_wsX40 : GoodIn wsX4_sightOnSpareDay wsX40 := fun w hw => ⟨List.mem_cons_of_mem _ (List.mem_append_right _ hw), good_of_word (List.all_eq_true.mp gw_wsX40 w hw)⟩
set_option maxRecDepth 20000 in
theorem ggX4_sightOnSpareDay_X4_sight : GoodIn wsX4_sightOnSpareDay wsX4_sight := goodIn_ca (goodIn_r _ [5, 6, 7, 8, 9, 10, 4, 11, 12] rfl (by decide +kernel)) gt_wsX4_sightOnSpareDay_wsX40
set_option maxRecDepth 20000 in
theorem gX4_sightOnSpareDay_X4_sight : GoodIn wsX4_sightOnSpareDay (wsV RX4 40 RX4 yX4_sight wsX4_sight) := goodIn_app (goodIn_r _ [1, 2, 3, 4] rfl (by decide +kernel)) ggX4_sightOnSpareDay_X4_sight
theorem dX4_sightOnSpareDay_0_t : dqK cX4_sightOnSpareDay.data.toList 0 [(0, .aload_n 0, 1), (1, .sipush 160, 3), (4, .iload_n 1, 1), (5, .invokevirtual 40, 3), (8, .ireturn, 1)] = true := by decide +kernel
theorem dX4_sightOnSpareDay_0 : decode cX4_sightOnSpareDay 0 = .ok (.aload_n 0, 1) := dq_get dX4_sightOnSpareDay_0_t 0 rfl
theorem dX4_sightOnSpareDay_1 : decode cX4_sightOnSpareDay 1 = .ok (.sipush 160, 3) := dq_get dX4_sightOnSpareDay_0_t 1 rfl
theorem dX4_sightOnSpareDay_4 : decode cX4_sightOnSpareDay 4 = .ok (.iload_n 1, 1) := dq_get dX4_sightOnSpareDay_0_t 2 rfl
theorem dX4_sightOnSpareDay_5 : decode cX4_sightOnSpareDay 5 = .ok (.invokevirtual 40, 3) := dq_get dX4_sightOnSpareDay_0_t 3 rfl
theorem dX4_sightOnSpareDay_8 : decode cX4_sightOnSpareDay 8 = .ok (.ireturn, 1) := dq_get dX4_sightOnSpareDay_0_t 4 rfl
