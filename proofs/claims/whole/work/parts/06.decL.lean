set_option maxRecDepth 20000 in
theorem ggL_addWorld_X4_addWorld : GoodIn wsL_addWorld wsX4_addWorld := goodIn_ca (goodIn_ca (goodIn_r _ [7, 8, 9, 10, 11, 12, 13, 14, 6, 15, 16, 17, 18, 19, 20, 21, 22, 23, 24, 25, 26, 27, 28, 29, 30, 31, 32] (by decide +kernel) (by decide +kernel)) (goodIn_sub (fun _ h => List.mem_cons_of_mem _ (List.mem_append_left _ (List.mem_append_right _ h))) (by decide +kernel))) (goodIn_sub (fun _ h => List.mem_cons_of_mem _ (List.mem_append_right _ h)) (by decide +kernel))
set_option maxRecDepth 20000 in
theorem gL_addWorld_X4_addWorld : GoodIn wsL_addWorld (wsV RL 7 RX4 yX4_addWorld wsX4_addWorld) := goodIn_app (goodIn_of _ (by decide +kernel)) ggL_addWorld_X4_addWorld
theorem dL_addWorld_0 : decode cL_addWorld 0 = .ok (.aload_n 2, 1) := by decide +kernel
theorem dL_addWorld_1 : decode cL_addWorld 1 = .ok (.iconst 0, 1) := by decide +kernel
theorem dL_addWorld_2 : decode cL_addWorld 2 = .ok (.aload_n 0, 1) := by decide +kernel
theorem dL_addWorld_3 : decode cL_addWorld 3 = .ok (.iload_n 1, 1) := by decide +kernel
theorem dL_addWorld_4 : decode cL_addWorld 4 = .ok (.invokevirtual 7, 3) := by decide +kernel
theorem dL_addWorld_7 : decode cL_addWorld 7 = .ok (.i2l, 1) := by decide +kernel
theorem dL_addWorld_8 : decode cL_addWorld 8 = .ok (.lastore, 1) := by decide +kernel
theorem dL_addWorld_9 : decode cL_addWorld 9 = .ok (.goto 9, 3) := by decide +kernel
theorem dL_addWorld_12 : decode cL_addWorld 12 = .ok (.astore_n 3, 1) := by decide +kernel
theorem dL_addWorld_13 : decode cL_addWorld 13 = .ok (.iconst 1, 1) := by decide +kernel
theorem dL_addWorld_14 : decode cL_addWorld 14 = .ok (.ireturn, 1) := by decide +kernel
theorem dL_addWorld_15 : decode cL_addWorld 15 = .ok (.astore_n 3, 1) := by decide +kernel
theorem dL_addWorld_16 : decode cL_addWorld 16 = .ok (.iconst 2, 1) := by decide +kernel
theorem dL_addWorld_17 : decode cL_addWorld 17 = .ok (.ireturn, 1) := by decide +kernel
theorem dL_addWorld_18 : decode cL_addWorld 18 = .ok (.iconst 0, 1) := by decide +kernel
theorem dL_addWorld_19 : decode cL_addWorld 19 = .ok (.ireturn, 1) := by decide +kernel
set_option maxRecDepth 20000 in
theorem ggL_setAtoms_X4_setAtoms : GoodIn wsL_setAtoms wsX4_setAtoms := goodIn_ca (goodIn_ca (goodIn_r _ [7, 8, 9, 10, 11, 12, 6, 13, 14, 15, 16, 17, 18, 19, 20, 21, 22, 23, 24, 25, 26, 27, 28, 29, 30] (by decide +kernel) (by decide +kernel)) (goodIn_sub (fun _ h => List.mem_cons_of_mem _ (List.mem_append_left _ (List.mem_append_right _ h))) (by decide +kernel))) (goodIn_sub (fun _ h => List.mem_cons_of_mem _ (List.mem_append_right _ h)) (by decide +kernel))
set_option maxRecDepth 20000 in
theorem gL_setAtoms_X4_setAtoms : GoodIn wsL_setAtoms (wsV RL 17 RX4 yX4_setAtoms wsX4_setAtoms) := goodIn_app (goodIn_of _ (by decide +kernel)) ggL_setAtoms_X4_setAtoms
theorem dL_setAtoms_0 : decode cL_setAtoms 0 = .ok (.aload_n 3, 1) := by decide +kernel
theorem dL_setAtoms_1 : decode cL_setAtoms 1 = .ok (.iconst 0, 1) := by decide +kernel
theorem dL_setAtoms_2 : decode cL_setAtoms 2 = .ok (.aload_n 0, 1) := by decide +kernel
theorem dL_setAtoms_3 : decode cL_setAtoms 3 = .ok (.iload_n 1, 1) := by decide +kernel
theorem dL_setAtoms_4 : decode cL_setAtoms 4 = .ok (.iload_n 2, 1) := by decide +kernel
theorem dL_setAtoms_5 : decode cL_setAtoms 5 = .ok (.invokevirtual 17, 3) := by decide +kernel
theorem dL_setAtoms_8 : decode cL_setAtoms 8 = .ok (.i2l, 1) := by decide +kernel
theorem dL_setAtoms_9 : decode cL_setAtoms 9 = .ok (.lastore, 1) := by decide +kernel
theorem dL_setAtoms_10 : decode cL_setAtoms 10 = .ok (.goto 11, 3) := by decide +kernel
theorem dL_setAtoms_13 : decode cL_setAtoms 13 = .ok (.astore 4, 2) := by decide +kernel
theorem dL_setAtoms_15 : decode cL_setAtoms 15 = .ok (.iconst 1, 1) := by decide +kernel
theorem dL_setAtoms_16 : decode cL_setAtoms 16 = .ok (.ireturn, 1) := by decide +kernel
theorem dL_setAtoms_17 : decode cL_setAtoms 17 = .ok (.astore 4, 2) := by decide +kernel
theorem dL_setAtoms_19 : decode cL_setAtoms 19 = .ok (.iconst 2, 1) := by decide +kernel
theorem dL_setAtoms_20 : decode cL_setAtoms 20 = .ok (.ireturn, 1) := by decide +kernel
theorem dL_setAtoms_21 : decode cL_setAtoms 21 = .ok (.iconst 0, 1) := by decide +kernel
theorem dL_setAtoms_22 : decode cL_setAtoms 22 = .ok (.ireturn, 1) := by decide +kernel
set_option maxRecDepth 20000 in
theorem ggL_connect_X4_connect : GoodIn wsL_connect wsX4_connect := goodIn_ca (goodIn_r _ [6, 7, 8, 9, 10, 11, 5, 12, 13, 14, 15, 16, 17, 18, 19, 20, 21, 22, 23, 24, 25, 26, 27, 28, 29, 30, 31, 32, 33] (by decide +kernel) (by decide +kernel)) (goodIn_sub (fun _ h => List.mem_cons_of_mem _ (List.mem_append_right _ h)) (by decide +kernel))
set_option maxRecDepth 20000 in
theorem gL_connect_X4_connect : GoodIn wsL_connect (wsV RL 23 RX4 yX4_connect wsX4_connect) := goodIn_app (goodIn_of _ (by decide +kernel)) ggL_connect_X4_connect
theorem dL_connect_0 : decode cL_connect 0 = .ok (.aload 5, 2) := by decide +kernel
theorem dL_connect_2 : decode cL_connect 2 = .ok (.iconst 0, 1) := by decide +kernel
theorem dL_connect_3 : decode cL_connect 3 = .ok (.aload_n 0, 1) := by decide +kernel
theorem dL_connect_4 : decode cL_connect 4 = .ok (.iload_n 1, 1) := by decide +kernel
theorem dL_connect_5 : decode cL_connect 5 = .ok (.iload_n 2, 1) := by decide +kernel
theorem dL_connect_6 : decode cL_connect 6 = .ok (.iload_n 3, 1) := by decide +kernel
theorem dL_connect_7 : decode cL_connect 7 = .ok (.iload 4, 2) := by decide +kernel
theorem dL_connect_9 : decode cL_connect 9 = .ok (.invokevirtual 23, 3) := by decide +kernel
theorem dL_connect_12 : decode cL_connect 12 = .ok (.ifCond .eq 7, 3) := by decide +kernel
theorem dL_connect_15 : decode cL_connect 15 = .ok (.lconst 1, 1) := by decide +kernel
theorem dL_connect_16 : decode cL_connect 16 = .ok (.goto 4, 3) := by decide +kernel
theorem dL_connect_19 : decode cL_connect 19 = .ok (.lconst 0, 1) := by decide +kernel
theorem dL_connect_20 : decode cL_connect 20 = .ok (.lastore, 1) := by decide +kernel
theorem dL_connect_21 : decode cL_connect 21 = .ok (.goto 7, 3) := by decide +kernel
theorem dL_connect_24 : decode cL_connect 24 = .ok (.astore 6, 2) := by decide +kernel
theorem dL_connect_26 : decode cL_connect 26 = .ok (.iconst 1, 1) := by decide +kernel
theorem dL_connect_27 : decode cL_connect 27 = .ok (.ireturn, 1) := by decide +kernel
theorem dL_connect_28 : decode cL_connect 28 = .ok (.iconst 0, 1) := by decide +kernel
theorem dL_connect_29 : decode cL_connect 29 = .ok (.ireturn, 1) := by decide +kernel
set_option maxRecDepth 20000 in
theorem ggL_gather_X4_gather : GoodIn wsL_gather wsX4_gather := goodIn_ca (goodIn_ca (goodIn_r _ [7, 8, 9, 10, 11, 12, 13, 6, 14, 15, 16, 17, 18, 19, 20, 21, 22, 23, 24, 25, 26, 27, 28, 29, 30, 31, 32, 33, 34, 35, 36, 37, 38, 39, 40, 41, 42, 43, 44] (by decide +kernel) (by decide +kernel)) (goodIn_sub (fun _ h => List.mem_cons_of_mem _ (List.mem_append_left _ (List.mem_append_right _ h))) (by decide +kernel))) (goodIn_sub (fun _ h => List.mem_cons_of_mem _ (List.mem_append_right _ h)) (by decide +kernel))
set_option maxRecDepth 20000 in
theorem gL_gather_X4_gather : GoodIn wsL_gather (wsV RL 27 RX4 yX4_gather wsX4_gather) := goodIn_app (goodIn_of _ (by decide +kernel)) ggL_gather_X4_gather
theorem dL_gather_0 : decode cL_gather 0 = .ok (.aload_n 3, 1) := by decide +kernel
theorem dL_gather_1 : decode cL_gather 1 = .ok (.iconst 0, 1) := by decide +kernel
theorem dL_gather_2 : decode cL_gather 2 = .ok (.aload_n 0, 1) := by decide +kernel
theorem dL_gather_3 : decode cL_gather 3 = .ok (.iload_n 1, 1) := by decide +kernel
theorem dL_gather_4 : decode cL_gather 4 = .ok (.iload_n 2, 1) := by decide +kernel
theorem dL_gather_5 : decode cL_gather 5 = .ok (.invokevirtual 27, 3) := by decide +kernel
theorem dL_gather_8 : decode cL_gather 8 = .ok (.i2l, 1) := by decide +kernel
theorem dL_gather_9 : decode cL_gather 9 = .ok (.lastore, 1) := by decide +kernel
theorem dL_gather_10 : decode cL_gather 10 = .ok (.goto 11, 3) := by decide +kernel
theorem dL_gather_13 : decode cL_gather 13 = .ok (.astore 4, 2) := by decide +kernel
theorem dL_gather_15 : decode cL_gather 15 = .ok (.iconst 1, 1) := by decide +kernel
theorem dL_gather_16 : decode cL_gather 16 = .ok (.ireturn, 1) := by decide +kernel
theorem dL_gather_17 : decode cL_gather 17 = .ok (.astore 4, 2) := by decide +kernel
theorem dL_gather_19 : decode cL_gather 19 = .ok (.iconst 2, 1) := by decide +kernel
theorem dL_gather_20 : decode cL_gather 20 = .ok (.ireturn, 1) := by decide +kernel
theorem dL_gather_21 : decode cL_gather 21 = .ok (.iconst 0, 1) := by decide +kernel
theorem dL_gather_22 : decode cL_gather 22 = .ok (.ireturn, 1) := by decide +kernel
set_option maxRecDepth 20000 in
theorem ggL_setActual_X4_setActual : GoodIn wsL_setActual wsX4_setActual := goodIn_ca (goodIn_r _ [6, 7, 8, 9, 10, 11, 5, 12, 13, 14, 15, 16, 17, 18, 19, 20, 21, 22, 23] (by decide +kernel) (by decide +kernel)) (goodIn_sub (fun _ h => List.mem_cons_of_mem _ (List.mem_append_right _ h)) (by decide +kernel))
set_option maxRecDepth 20000 in
theorem gL_setActual_X4_setActual : GoodIn wsL_setActual (wsV RL 30 RX4 yX4_setActual wsX4_setActual) := goodIn_app (goodIn_of _ (by decide +kernel)) ggL_setActual_X4_setActual
theorem dL_setActual_0 : decode cL_setActual 0 = .ok (.aload_n 2, 1) := by decide +kernel
theorem dL_setActual_1 : decode cL_setActual 1 = .ok (.iconst 0, 1) := by decide +kernel
theorem dL_setActual_2 : decode cL_setActual 2 = .ok (.aload_n 0, 1) := by decide +kernel
theorem dL_setActual_3 : decode cL_setActual 3 = .ok (.iload_n 1, 1) := by decide +kernel
theorem dL_setActual_4 : decode cL_setActual 4 = .ok (.invokevirtual 30, 3) := by decide +kernel
theorem dL_setActual_7 : decode cL_setActual 7 = .ok (.i2l, 1) := by decide +kernel
theorem dL_setActual_8 : decode cL_setActual 8 = .ok (.lastore, 1) := by decide +kernel
theorem dL_setActual_9 : decode cL_setActual 9 = .ok (.goto 6, 3) := by decide +kernel
theorem dL_setActual_12 : decode cL_setActual 12 = .ok (.astore_n 3, 1) := by decide +kernel
theorem dL_setActual_13 : decode cL_setActual 13 = .ok (.iconst 1, 1) := by decide +kernel
theorem dL_setActual_14 : decode cL_setActual 14 = .ok (.ireturn, 1) := by decide +kernel
theorem dL_setActual_15 : decode cL_setActual 15 = .ok (.iconst 0, 1) := by decide +kernel
theorem dL_setActual_16 : decode cL_setActual 16 = .ok (.ireturn, 1) := by decide +kernel
set_option maxRecDepth 20000 in
theorem ggL_actual_X4_actual : GoodIn wsL_actual wsX4_actual := goodIn_ca (goodIn_r _ [6, 7, 8, 9, 10, 11, 5, 12, 13, 14, 15, 16, 17, 18, 19, 20, 21, 22, 23] (by decide +kernel) (by decide +kernel)) (goodIn_sub (fun _ h => List.mem_cons_of_mem _ (List.mem_append_right _ h)) (by decide +kernel))
set_option maxRecDepth 20000 in
theorem gL_actual_X4_actual : GoodIn wsL_actual (wsV RL 33 RX4 yX4_actual wsX4_actual) := goodIn_app (goodIn_of _ (by decide +kernel)) ggL_actual_X4_actual
theorem dL_actual_0 : decode cL_actual 0 = .ok (.aload_n 1, 1) := by decide +kernel
theorem dL_actual_1 : decode cL_actual 1 = .ok (.iconst 0, 1) := by decide +kernel
theorem dL_actual_2 : decode cL_actual 2 = .ok (.aload_n 0, 1) := by decide +kernel
theorem dL_actual_3 : decode cL_actual 3 = .ok (.invokevirtual 33, 3) := by decide +kernel
theorem dL_actual_6 : decode cL_actual 6 = .ok (.i2l, 1) := by decide +kernel
theorem dL_actual_7 : decode cL_actual 7 = .ok (.lastore, 1) := by decide +kernel
theorem dL_actual_8 : decode cL_actual 8 = .ok (.goto 6, 3) := by decide +kernel
theorem dL_actual_11 : decode cL_actual 11 = .ok (.astore_n 2, 1) := by decide +kernel
theorem dL_actual_12 : decode cL_actual 12 = .ok (.iconst 1, 1) := by decide +kernel
theorem dL_actual_13 : decode cL_actual 13 = .ok (.ireturn, 1) := by decide +kernel
theorem dL_actual_14 : decode cL_actual 14 = .ok (.iconst 0, 1) := by decide +kernel
theorem dL_actual_15 : decode cL_actual 15 = .ok (.ireturn, 1) := by decide +kernel
set_option maxRecDepth 20000 in
theorem ggL_atoms_X4_atoms : GoodIn wsL_atoms wsX4_atoms := goodIn_ca (goodIn_r _ [6, 7, 8, 9, 10, 11, 5, 12, 13, 14, 15, 16, 17, 18, 19, 20, 21, 22, 23] (by decide +kernel) (by decide +kernel)) (goodIn_sub (fun _ h => List.mem_cons_of_mem _ (List.mem_append_right _ h)) (by decide +kernel))
set_option maxRecDepth 20000 in
theorem gL_atoms_X4_atoms : GoodIn wsL_atoms (wsV RL 37 RX4 yX4_atoms wsX4_atoms) := goodIn_app (goodIn_of _ (by decide +kernel)) ggL_atoms_X4_atoms
theorem dL_atoms_0 : decode cL_atoms 0 = .ok (.aload_n 2, 1) := by decide +kernel
theorem dL_atoms_1 : decode cL_atoms 1 = .ok (.iconst 0, 1) := by decide +kernel
theorem dL_atoms_2 : decode cL_atoms 2 = .ok (.aload_n 0, 1) := by decide +kernel
theorem dL_atoms_3 : decode cL_atoms 3 = .ok (.iload_n 1, 1) := by decide +kernel
theorem dL_atoms_4 : decode cL_atoms 4 = .ok (.invokevirtual 37, 3) := by decide +kernel
theorem dL_atoms_7 : decode cL_atoms 7 = .ok (.i2l, 1) := by decide +kernel
theorem dL_atoms_8 : decode cL_atoms 8 = .ok (.lastore, 1) := by decide +kernel
theorem dL_atoms_9 : decode cL_atoms 9 = .ok (.goto 6, 3) := by decide +kernel
theorem dL_atoms_12 : decode cL_atoms 12 = .ok (.astore_n 3, 1) := by decide +kernel
theorem dL_atoms_13 : decode cL_atoms 13 = .ok (.iconst 1, 1) := by decide +kernel
theorem dL_atoms_14 : decode cL_atoms 14 = .ok (.ireturn, 1) := by decide +kernel
theorem dL_atoms_15 : decode cL_atoms 15 = .ok (.iconst 0, 1) := by decide +kernel
theorem dL_atoms_16 : decode cL_atoms 16 = .ok (.ireturn, 1) := by decide +kernel
set_option maxRecDepth 20000 in
theorem ggL_seen_X4_seen : GoodIn wsL_seen wsX4_seen := goodIn_ca (goodIn_r _ [6, 7, 8, 9, 10, 11, 5, 12, 13, 14, 15, 16, 17, 18, 19, 20, 21, 22, 23, 24, 25, 26, 27] (by decide +kernel) (by decide +kernel)) (goodIn_sub (fun _ h => List.mem_cons_of_mem _ (List.mem_append_right _ h)) (by decide +kernel))
set_option maxRecDepth 20000 in
theorem gL_seen_X4_seen : GoodIn wsL_seen (wsV RL 40 RX4 yX4_seen wsX4_seen) := goodIn_app (goodIn_of _ (by decide +kernel)) ggL_seen_X4_seen
theorem dL_seen_0 : decode cL_seen 0 = .ok (.aload_n 3, 1) := by decide +kernel
theorem dL_seen_1 : decode cL_seen 1 = .ok (.iconst 0, 1) := by decide +kernel
theorem dL_seen_2 : decode cL_seen 2 = .ok (.aload_n 0, 1) := by decide +kernel
theorem dL_seen_3 : decode cL_seen 3 = .ok (.iload_n 1, 1) := by decide +kernel
theorem dL_seen_4 : decode cL_seen 4 = .ok (.iload_n 2, 1) := by decide +kernel
theorem dL_seen_5 : decode cL_seen 5 = .ok (.invokevirtual 40, 3) := by decide +kernel
theorem dL_seen_8 : decode cL_seen 8 = .ok (.i2l, 1) := by decide +kernel
theorem dL_seen_9 : decode cL_seen 9 = .ok (.lastore, 1) := by decide +kernel
theorem dL_seen_10 : decode cL_seen 10 = .ok (.goto 7, 3) := by decide +kernel
theorem dL_seen_13 : decode cL_seen 13 = .ok (.astore 4, 2) := by decide +kernel
theorem dL_seen_15 : decode cL_seen 15 = .ok (.iconst 1, 1) := by decide +kernel
theorem dL_seen_16 : decode cL_seen 16 = .ok (.ireturn, 1) := by decide +kernel
theorem dL_seen_17 : decode cL_seen 17 = .ok (.iconst 0, 1) := by decide +kernel
theorem dL_seen_18 : decode cL_seen 18 = .ok (.ireturn, 1) := by decide +kernel
set_option maxRecDepth 20000 in
theorem ggL_arrowCount_X4_arrowCount : GoodIn wsL_arrowCount wsX4_arrowCount := goodIn_ca (goodIn_r _ [6, 7, 8, 9, 10, 5, 11, 12, 13, 14, 15, 16, 17, 18, 19, 20, 21, 22, 23, 24, 25, 26, 27, 28, 29, 30, 31, 32, 33, 34, 35] (by decide +kernel) (by decide +kernel)) (goodIn_sub (fun _ h => List.mem_cons_of_mem _ (List.mem_append_right _ h)) (by decide +kernel))
set_option maxRecDepth 20000 in
theorem gL_arrowCount_X4_arrowCount : GoodIn wsL_arrowCount (wsV RL 43 RX4 yX4_arrowCount wsX4_arrowCount) := goodIn_app (goodIn_of _ (by decide +kernel)) ggL_arrowCount_X4_arrowCount
theorem dL_arrowCount_0 : decode cL_arrowCount 0 = .ok (.aload_n 2, 1) := by decide +kernel
theorem dL_arrowCount_1 : decode cL_arrowCount 1 = .ok (.iconst 0, 1) := by decide +kernel
theorem dL_arrowCount_2 : decode cL_arrowCount 2 = .ok (.aload_n 0, 1) := by decide +kernel
theorem dL_arrowCount_3 : decode cL_arrowCount 3 = .ok (.iload_n 1, 1) := by decide +kernel
theorem dL_arrowCount_4 : decode cL_arrowCount 4 = .ok (.invokevirtual 43, 3) := by decide +kernel
theorem dL_arrowCount_7 : decode cL_arrowCount 7 = .ok (.i2l, 1) := by decide +kernel
theorem dL_arrowCount_8 : decode cL_arrowCount 8 = .ok (.lastore, 1) := by decide +kernel
theorem dL_arrowCount_9 : decode cL_arrowCount 9 = .ok (.goto 6, 3) := by decide +kernel
theorem dL_arrowCount_12 : decode cL_arrowCount 12 = .ok (.astore_n 3, 1) := by decide +kernel
theorem dL_arrowCount_13 : decode cL_arrowCount 13 = .ok (.iconst 1, 1) := by decide +kernel
theorem dL_arrowCount_14 : decode cL_arrowCount 14 = .ok (.ireturn, 1) := by decide +kernel
theorem dL_arrowCount_15 : decode cL_arrowCount 15 = .ok (.iconst 0, 1) := by decide +kernel
theorem dL_arrowCount_16 : decode cL_arrowCount 16 = .ok (.ireturn, 1) := by decide +kernel
set_option maxRecDepth 20000 in
theorem ggL_shape_X4_shape : GoodIn wsL_shape wsX4_shape := goodIn_ca (goodIn_r _ [6, 7, 8, 9, 10, 5, 11, 12, 13, 14, 15, 16, 17, 18, 19, 20, 21, 22, 23, 24, 25, 26, 27, 28, 29, 30, 31, 32, 33, 34, 35, 36, 37, 38] (by decide +kernel) (by decide +kernel)) (goodIn_sub (fun _ h => List.mem_cons_of_mem _ (List.mem_append_right _ h)) (by decide +kernel))
set_option maxRecDepth 20000 in
theorem gL_shape_X4_shape : GoodIn wsL_shape (wsV RL 46 RX4 yX4_shape wsX4_shape) := goodIn_app (goodIn_of _ (by decide +kernel)) ggL_shape_X4_shape
theorem dL_shape_0 : decode cL_shape 0 = .ok (.aload_n 2, 1) := by decide +kernel
theorem dL_shape_1 : decode cL_shape 1 = .ok (.iconst 0, 1) := by decide +kernel
theorem dL_shape_2 : decode cL_shape 2 = .ok (.aload_n 0, 1) := by decide +kernel
theorem dL_shape_3 : decode cL_shape 3 = .ok (.iload_n 1, 1) := by decide +kernel
theorem dL_shape_4 : decode cL_shape 4 = .ok (.invokevirtual 46, 3) := by decide +kernel
theorem dL_shape_7 : decode cL_shape 7 = .ok (.i2l, 1) := by decide +kernel
theorem dL_shape_8 : decode cL_shape 8 = .ok (.lastore, 1) := by decide +kernel
theorem dL_shape_9 : decode cL_shape 9 = .ok (.goto 6, 3) := by decide +kernel
theorem dL_shape_12 : decode cL_shape 12 = .ok (.astore_n 3, 1) := by decide +kernel
theorem dL_shape_13 : decode cL_shape 13 = .ok (.iconst 1, 1) := by decide +kernel
theorem dL_shape_14 : decode cL_shape 14 = .ok (.ireturn, 1) := by decide +kernel
theorem dL_shape_15 : decode cL_shape 15 = .ok (.iconst 0, 1) := by decide +kernel
theorem dL_shape_16 : decode cL_shape 16 = .ok (.ireturn, 1) := by decide +kernel
set_option maxRecDepth 20000 in
theorem ggL_atom_X4_atom : GoodIn wsL_atom wsX4_atom := goodIn_ca (goodIn_ca (goodIn_r _ [7, 8, 9, 10, 11, 12, 13, 6, 14, 15, 16, 17, 18, 19, 20, 21, 22, 23, 24, 25, 26, 27, 28, 29, 30, 31, 32, 33, 34, 35, 36, 37, 38, 39, 40, 41, 42, 43, 44, 45, 46, 47, 48, 49, 50, 51, 52, 53, 54] (by decide +kernel) (by decide +kernel)) (goodIn_sub (fun _ h => List.mem_cons_of_mem _ (List.mem_append_left _ (List.mem_append_right _ h))) (by decide +kernel))) (goodIn_sub (fun _ h => List.mem_cons_of_mem _ (List.mem_append_right _ h)) (by decide +kernel))
set_option maxRecDepth 20000 in
theorem gL_atom_X4_atom : GoodIn wsL_atom (wsV RL 49 RX4 yX4_atom wsX4_atom) := goodIn_app (goodIn_of _ (by decide +kernel)) ggL_atom_X4_atom
theorem dL_atom_0 : decode cL_atom 0 = .ok (.aload_n 2, 1) := by decide +kernel
theorem dL_atom_1 : decode cL_atom 1 = .ok (.iconst 0, 1) := by decide +kernel
theorem dL_atom_2 : decode cL_atom 2 = .ok (.aload_n 0, 1) := by decide +kernel
theorem dL_atom_3 : decode cL_atom 3 = .ok (.iload_n 1, 1) := by decide +kernel
theorem dL_atom_4 : decode cL_atom 4 = .ok (.invokevirtual 49, 3) := by decide +kernel
theorem dL_atom_7 : decode cL_atom 7 = .ok (.i2l, 1) := by decide +kernel
theorem dL_atom_8 : decode cL_atom 8 = .ok (.lastore, 1) := by decide +kernel
theorem dL_atom_9 : decode cL_atom 9 = .ok (.goto 9, 3) := by decide +kernel
theorem dL_atom_12 : decode cL_atom 12 = .ok (.astore_n 3, 1) := by decide +kernel
theorem dL_atom_13 : decode cL_atom 13 = .ok (.iconst 1, 1) := by decide +kernel
theorem dL_atom_14 : decode cL_atom 14 = .ok (.ireturn, 1) := by decide +kernel
theorem dL_atom_15 : decode cL_atom 15 = .ok (.astore_n 3, 1) := by decide +kernel
theorem dL_atom_16 : decode cL_atom 16 = .ok (.iconst 2, 1) := by decide +kernel
theorem dL_atom_17 : decode cL_atom 17 = .ok (.ireturn, 1) := by decide +kernel
theorem dL_atom_18 : decode cL_atom 18 = .ok (.iconst 0, 1) := by decide +kernel
theorem dL_atom_19 : decode cL_atom 19 = .ok (.ireturn, 1) := by decide +kernel
set_option maxRecDepth 20000 in
theorem ggL_not_X4_not : GoodIn wsL_not wsX4_not := goodIn_ca (goodIn_ca (goodIn_r _ [7, 8, 9, 10, 11, 6, 12, 13, 14, 15, 16, 17, 18, 19, 20, 21, 22, 23, 24, 25, 26, 27, 28, 29, 30, 31, 32, 33, 34, 35, 36, 37, 38, 39, 40, 41, 42, 43, 44, 45, 46, 47, 48, 49, 50, 51, 52, 53, 54, 55, 56, 57, 58] (by decide +kernel) (by decide +kernel)) (goodIn_sub (fun _ h => List.mem_cons_of_mem _ (List.mem_append_left _ (List.mem_append_right _ h))) (by decide +kernel))) (goodIn_sub (fun _ h => List.mem_cons_of_mem _ (List.mem_append_right _ h)) (by decide +kernel))
set_option maxRecDepth 20000 in
theorem gL_not_X4_not : GoodIn wsL_not (wsV RL 52 RX4 yX4_not wsX4_not) := goodIn_app (goodIn_of _ (by decide +kernel)) ggL_not_X4_not
theorem dL_not_0 : decode cL_not 0 = .ok (.aload_n 2, 1) := by decide +kernel
theorem dL_not_1 : decode cL_not 1 = .ok (.iconst 0, 1) := by decide +kernel
theorem dL_not_2 : decode cL_not 2 = .ok (.aload_n 0, 1) := by decide +kernel
theorem dL_not_3 : decode cL_not 3 = .ok (.iload_n 1, 1) := by decide +kernel
theorem dL_not_4 : decode cL_not 4 = .ok (.invokevirtual 52, 3) := by decide +kernel
theorem dL_not_7 : decode cL_not 7 = .ok (.i2l, 1) := by decide +kernel
theorem dL_not_8 : decode cL_not 8 = .ok (.lastore, 1) := by decide +kernel
theorem dL_not_9 : decode cL_not 9 = .ok (.goto 9, 3) := by decide +kernel
theorem dL_not_12 : decode cL_not 12 = .ok (.astore_n 3, 1) := by decide +kernel
theorem dL_not_13 : decode cL_not 13 = .ok (.iconst 1, 1) := by decide +kernel
theorem dL_not_14 : decode cL_not 14 = .ok (.ireturn, 1) := by decide +kernel
theorem dL_not_15 : decode cL_not 15 = .ok (.astore_n 3, 1) := by decide +kernel
theorem dL_not_16 : decode cL_not 16 = .ok (.iconst 2, 1) := by decide +kernel
theorem dL_not_17 : decode cL_not 17 = .ok (.ireturn, 1) := by decide +kernel
theorem dL_not_18 : decode cL_not 18 = .ok (.iconst 0, 1) := by decide +kernel
theorem dL_not_19 : decode cL_not 19 = .ok (.ireturn, 1) := by decide +kernel
set_option maxRecDepth 20000 in
theorem ggL_both_X4_both : GoodIn wsL_both wsX4_both := goodIn_ca (goodIn_ca (goodIn_r _ [7, 8, 9, 10, 11, 6, 12, 13, 14, 15, 16, 17, 18, 19, 20, 21, 22, 23, 24, 25, 26, 27, 28, 29, 30, 31, 32, 33, 34, 35, 36, 37, 38, 39, 40, 41, 42, 43, 44, 45, 46, 47, 48, 49, 50, 51, 52, 53, 54, 55, 56, 57, 58] (by decide +kernel) (by decide +kernel)) (goodIn_sub (fun _ h => List.mem_cons_of_mem _ (List.mem_append_left _ (List.mem_append_right _ h))) (by decide +kernel))) (goodIn_sub (fun _ h => List.mem_cons_of_mem _ (List.mem_append_right _ h)) (by decide +kernel))
set_option maxRecDepth 20000 in
theorem gL_both_X4_both : GoodIn wsL_both (wsV RL 55 RX4 yX4_both wsX4_both) := goodIn_app (goodIn_of _ (by decide +kernel)) ggL_both_X4_both
theorem dL_both_0 : decode cL_both 0 = .ok (.aload_n 3, 1) := by decide +kernel
theorem dL_both_1 : decode cL_both 1 = .ok (.iconst 0, 1) := by decide +kernel
theorem dL_both_2 : decode cL_both 2 = .ok (.aload_n 0, 1) := by decide +kernel
theorem dL_both_3 : decode cL_both 3 = .ok (.iload_n 1, 1) := by decide +kernel
theorem dL_both_4 : decode cL_both 4 = .ok (.iload_n 2, 1) := by decide +kernel
theorem dL_both_5 : decode cL_both 5 = .ok (.invokevirtual 55, 3) := by decide +kernel
theorem dL_both_8 : decode cL_both 8 = .ok (.i2l, 1) := by decide +kernel
theorem dL_both_9 : decode cL_both 9 = .ok (.lastore, 1) := by decide +kernel
theorem dL_both_10 : decode cL_both 10 = .ok (.goto 11, 3) := by decide +kernel
theorem dL_both_13 : decode cL_both 13 = .ok (.astore 4, 2) := by decide +kernel
theorem dL_both_15 : decode cL_both 15 = .ok (.iconst 1, 1) := by decide +kernel
theorem dL_both_16 : decode cL_both 16 = .ok (.ireturn, 1) := by decide +kernel
theorem dL_both_17 : decode cL_both 17 = .ok (.astore 4, 2) := by decide +kernel
theorem dL_both_19 : decode cL_both 19 = .ok (.iconst 2, 1) := by decide +kernel
theorem dL_both_20 : decode cL_both 20 = .ok (.ireturn, 1) := by decide +kernel
theorem dL_both_21 : decode cL_both 21 = .ok (.iconst 0, 1) := by decide +kernel
theorem dL_both_22 : decode cL_both 22 = .ok (.ireturn, 1) := by decide +kernel
set_option maxRecDepth 20000 in
theorem ggL_knows_X4_knows : GoodIn wsL_knows wsX4_knows := goodIn_ca (goodIn_ca (goodIn_r _ [7, 8, 9, 10, 11, 6, 12, 13, 14, 15, 16, 17, 18, 19, 20, 21, 22, 23, 24, 25, 26, 27, 28, 29, 30, 31, 32, 33, 34, 35, 36, 37, 38, 39, 40, 41, 42, 43, 44, 45, 46, 47, 48, 49, 50, 51, 52, 53, 54, 55, 56, 57, 58, 59, 60, 61, 62, 63, 64, 65] (by decide +kernel) (by decide +kernel)) (goodIn_sub (fun _ h => List.mem_cons_of_mem _ (List.mem_append_left _ (List.mem_append_right _ h))) (by decide +kernel))) (goodIn_sub (fun _ h => List.mem_cons_of_mem _ (List.mem_append_right _ h)) (by decide +kernel))
set_option maxRecDepth 20000 in
theorem gL_knows_X4_knows : GoodIn wsL_knows (wsV RL 58 RX4 yX4_knows wsX4_knows) := goodIn_app (goodIn_of _ (by decide +kernel)) ggL_knows_X4_knows
theorem dL_knows_0 : decode cL_knows 0 = .ok (.aload_n 3, 1) := by decide +kernel
theorem dL_knows_1 : decode cL_knows 1 = .ok (.iconst 0, 1) := by decide +kernel
theorem dL_knows_2 : decode cL_knows 2 = .ok (.aload_n 0, 1) := by decide +kernel
theorem dL_knows_3 : decode cL_knows 3 = .ok (.iload_n 1, 1) := by decide +kernel
theorem dL_knows_4 : decode cL_knows 4 = .ok (.iload_n 2, 1) := by decide +kernel
theorem dL_knows_5 : decode cL_knows 5 = .ok (.invokevirtual 58, 3) := by decide +kernel
theorem dL_knows_8 : decode cL_knows 8 = .ok (.i2l, 1) := by decide +kernel
theorem dL_knows_9 : decode cL_knows 9 = .ok (.lastore, 1) := by decide +kernel
theorem dL_knows_10 : decode cL_knows 10 = .ok (.goto 11, 3) := by decide +kernel
theorem dL_knows_13 : decode cL_knows 13 = .ok (.astore 4, 2) := by decide +kernel
theorem dL_knows_15 : decode cL_knows 15 = .ok (.iconst 1, 1) := by decide +kernel
theorem dL_knows_16 : decode cL_knows 16 = .ok (.ireturn, 1) := by decide +kernel
theorem dL_knows_17 : decode cL_knows 17 = .ok (.astore 4, 2) := by decide +kernel
theorem dL_knows_19 : decode cL_knows 19 = .ok (.iconst 2, 1) := by decide +kernel
theorem dL_knows_20 : decode cL_knows 20 = .ok (.ireturn, 1) := by decide +kernel
theorem dL_knows_21 : decode cL_knows 21 = .ok (.iconst 0, 1) := by decide +kernel
theorem dL_knows_22 : decode cL_knows 22 = .ok (.ireturn, 1) := by decide +kernel
set_option maxRecDepth 20000 in
theorem ggL_ofGroup_X4_ofGroup : GoodIn wsL_ofGroup wsX4_ofGroup := goodIn_ca (goodIn_ca (goodIn_ca (goodIn_r _ [8, 9, 10, 11, 12, 7, 13, 14, 15, 16, 17, 18, 19, 20, 21, 22, 23, 24, 25, 26, 27, 28, 29, 30, 31, 32, 33, 34, 35, 36, 37, 38, 39, 40, 41, 42, 43, 44, 45, 46, 47, 48, 49, 50, 51, 52, 53, 54, 55, 56, 57, 58, 59, 60, 61, 62, 63, 64, 65] (by decide +kernel) (by decide +kernel)) (goodIn_sub (fun _ h => List.mem_cons_of_mem _ (List.mem_append_left _ (List.mem_append_left _ (List.mem_append_right _ h)))) (by decide +kernel))) (goodIn_sub (fun _ h => List.mem_cons_of_mem _ (List.mem_append_left _ (List.mem_append_right _ h))) (by decide +kernel))) (goodIn_sub (fun _ h => List.mem_cons_of_mem _ (List.mem_append_right _ h)) (by decide +kernel))
set_option maxRecDepth 20000 in
theorem gL_ofGroup_X4_ofGroup : GoodIn wsL_ofGroup (wsV RL 61 RX4 yX4_ofGroup wsX4_ofGroup) := goodIn_app (goodIn_of _ (by decide +kernel)) ggL_ofGroup_X4_ofGroup
theorem dL_ofGroup_0 : decode cL_ofGroup 0 = .ok (.aload 4, 2) := by decide +kernel
theorem dL_ofGroup_2 : decode cL_ofGroup 2 = .ok (.iconst 0, 1) := by decide +kernel
theorem dL_ofGroup_3 : decode cL_ofGroup 3 = .ok (.aload_n 0, 1) := by decide +kernel
theorem dL_ofGroup_4 : decode cL_ofGroup 4 = .ok (.iload_n 1, 1) := by decide +kernel
theorem dL_ofGroup_5 : decode cL_ofGroup 5 = .ok (.iload_n 2, 1) := by decide +kernel
theorem dL_ofGroup_6 : decode cL_ofGroup 6 = .ok (.iload_n 3, 1) := by decide +kernel
theorem dL_ofGroup_7 : decode cL_ofGroup 7 = .ok (.invokevirtual 61, 3) := by decide +kernel
theorem dL_ofGroup_10 : decode cL_ofGroup 10 = .ok (.i2l, 1) := by decide +kernel
theorem dL_ofGroup_11 : decode cL_ofGroup 11 = .ok (.lastore, 1) := by decide +kernel
theorem dL_ofGroup_12 : decode cL_ofGroup 12 = .ok (.goto 15, 3) := by decide +kernel
theorem dL_ofGroup_15 : decode cL_ofGroup 15 = .ok (.astore 5, 2) := by decide +kernel
theorem dL_ofGroup_17 : decode cL_ofGroup 17 = .ok (.iconst 1, 1) := by decide +kernel
theorem dL_ofGroup_18 : decode cL_ofGroup 18 = .ok (.ireturn, 1) := by decide +kernel
theorem dL_ofGroup_19 : decode cL_ofGroup 19 = .ok (.astore 5, 2) := by decide +kernel
theorem dL_ofGroup_21 : decode cL_ofGroup 21 = .ok (.iconst 2, 1) := by decide +kernel
theorem dL_ofGroup_22 : decode cL_ofGroup 22 = .ok (.ireturn, 1) := by decide +kernel
theorem dL_ofGroup_23 : decode cL_ofGroup 23 = .ok (.astore 5, 2) := by decide +kernel
theorem dL_ofGroup_25 : decode cL_ofGroup 25 = .ok (.iconst 3, 1) := by decide +kernel
theorem dL_ofGroup_26 : decode cL_ofGroup 26 = .ok (.ireturn, 1) := by decide +kernel
theorem dL_ofGroup_27 : decode cL_ofGroup 27 = .ok (.iconst 0, 1) := by decide +kernel
theorem dL_ofGroup_28 : decode cL_ofGroup 28 = .ok (.ireturn, 1) := by decide +kernel
set_option maxRecDepth 20000 in
theorem ggL_after_X4_after : GoodIn wsL_after wsX4_after := goodIn_ca (goodIn_ca (goodIn_ca (goodIn_r _ [8, 9, 10, 11, 12, 13, 14, 15, 16, 17, 18, 19, 7, 20, 21, 22, 23, 24, 25, 26, 27, 28, 29, 30, 31, 32, 33, 34, 35, 36, 37, 38, 39, 40, 41, 42, 43, 44, 45, 46, 47, 48, 49, 50, 51, 52, 53, 54, 55, 56, 57, 58, 59, 60, 61, 62, 63] (by decide +kernel) (by decide +kernel)) (goodIn_sub (fun _ h => List.mem_cons_of_mem _ (List.mem_append_left _ (List.mem_append_left _ (List.mem_append_right _ h)))) (by decide +kernel))) (goodIn_sub (fun _ h => List.mem_cons_of_mem _ (List.mem_append_left _ (List.mem_append_right _ h))) (by decide +kernel))) (goodIn_sub (fun _ h => List.mem_cons_of_mem _ (List.mem_append_right _ h)) (by decide +kernel))
set_option maxRecDepth 20000 in
theorem gL_after_X4_after : GoodIn wsL_after (wsV RL 65 RX4 yX4_after wsX4_after) := goodIn_app (goodIn_of _ (by decide +kernel)) ggL_after_X4_after
theorem dL_after_0 : decode cL_after 0 = .ok (.aload_n 3, 1) := by decide +kernel
theorem dL_after_1 : decode cL_after 1 = .ok (.iconst 0, 1) := by decide +kernel
theorem dL_after_2 : decode cL_after 2 = .ok (.aload_n 0, 1) := by decide +kernel
theorem dL_after_3 : decode cL_after 3 = .ok (.iload_n 1, 1) := by decide +kernel
theorem dL_after_4 : decode cL_after 4 = .ok (.iload_n 2, 1) := by decide +kernel
theorem dL_after_5 : decode cL_after 5 = .ok (.invokevirtual 65, 3) := by decide +kernel
theorem dL_after_8 : decode cL_after 8 = .ok (.i2l, 1) := by decide +kernel
theorem dL_after_9 : decode cL_after 9 = .ok (.lastore, 1) := by decide +kernel
theorem dL_after_10 : decode cL_after 10 = .ok (.goto 15, 3) := by decide +kernel
theorem dL_after_13 : decode cL_after 13 = .ok (.astore 4, 2) := by decide +kernel
theorem dL_after_15 : decode cL_after 15 = .ok (.iconst 1, 1) := by decide +kernel
theorem dL_after_16 : decode cL_after 16 = .ok (.ireturn, 1) := by decide +kernel
theorem dL_after_17 : decode cL_after 17 = .ok (.astore 4, 2) := by decide +kernel
theorem dL_after_19 : decode cL_after 19 = .ok (.iconst 2, 1) := by decide +kernel
theorem dL_after_20 : decode cL_after 20 = .ok (.ireturn, 1) := by decide +kernel
theorem dL_after_21 : decode cL_after 21 = .ok (.astore 4, 2) := by decide +kernel
theorem dL_after_23 : decode cL_after 23 = .ok (.iconst 3, 1) := by decide +kernel
theorem dL_after_24 : decode cL_after 24 = .ok (.ireturn, 1) := by decide +kernel
theorem dL_after_25 : decode cL_after 25 = .ok (.iconst 0, 1) := by decide +kernel
theorem dL_after_26 : decode cL_after 26 = .ok (.ireturn, 1) := by decide +kernel
set_option maxRecDepth 20000 in
theorem ggL_depth_X4_depth : GoodIn wsL_depth wsX4_depth := goodIn_ca (goodIn_r _ [6, 7, 8, 9, 10, 11, 5, 12, 13, 14, 15, 16, 17, 18, 19, 20, 21, 22, 23, 24, 25, 26, 27] (by decide +kernel) (by decide +kernel)) (goodIn_sub (fun _ h => List.mem_cons_of_mem _ (List.mem_append_right _ h)) (by decide +kernel))
set_option maxRecDepth 20000 in
theorem gL_depth_X4_depth : GoodIn wsL_depth (wsV RL 68 RX4 yX4_depth wsX4_depth) := goodIn_app (goodIn_of _ (by decide +kernel)) ggL_depth_X4_depth
theorem dL_depth_0 : decode cL_depth 0 = .ok (.aload_n 2, 1) := by decide +kernel
theorem dL_depth_1 : decode cL_depth 1 = .ok (.iconst 0, 1) := by decide +kernel
theorem dL_depth_2 : decode cL_depth 2 = .ok (.aload_n 0, 1) := by decide +kernel
theorem dL_depth_3 : decode cL_depth 3 = .ok (.iload_n 1, 1) := by decide +kernel
theorem dL_depth_4 : decode cL_depth 4 = .ok (.invokevirtual 68, 3) := by decide +kernel
theorem dL_depth_7 : decode cL_depth 7 = .ok (.i2l, 1) := by decide +kernel
theorem dL_depth_8 : decode cL_depth 8 = .ok (.lastore, 1) := by decide +kernel
theorem dL_depth_9 : decode cL_depth 9 = .ok (.goto 6, 3) := by decide +kernel
theorem dL_depth_12 : decode cL_depth 12 = .ok (.astore_n 3, 1) := by decide +kernel
theorem dL_depth_13 : decode cL_depth 13 = .ok (.iconst 1, 1) := by decide +kernel
theorem dL_depth_14 : decode cL_depth 14 = .ok (.ireturn, 1) := by decide +kernel
theorem dL_depth_15 : decode cL_depth 15 = .ok (.iconst 0, 1) := by decide +kernel
theorem dL_depth_16 : decode cL_depth 16 = .ok (.ireturn, 1) := by decide +kernel
set_option maxRecDepth 20000 in
theorem ggL_nesting_X4_nesting : GoodIn wsL_nesting wsX4_nesting := goodIn_ca (goodIn_r _ [6, 7, 8, 9, 10, 11, 5, 12, 13, 14, 15, 16, 17, 18, 19, 20, 21, 22, 23, 24, 25, 26, 27] (by decide +kernel) (by decide +kernel)) (goodIn_sub (fun _ h => List.mem_cons_of_mem _ (List.mem_append_right _ h)) (by decide +kernel))
set_option maxRecDepth 20000 in
theorem gL_nesting_X4_nesting : GoodIn wsL_nesting (wsV RL 71 RX4 yX4_nesting wsX4_nesting) := goodIn_app (goodIn_of _ (by decide +kernel)) ggL_nesting_X4_nesting
theorem dL_nesting_0 : decode cL_nesting 0 = .ok (.aload_n 2, 1) := by decide +kernel
theorem dL_nesting_1 : decode cL_nesting 1 = .ok (.iconst 0, 1) := by decide +kernel
theorem dL_nesting_2 : decode cL_nesting 2 = .ok (.aload_n 0, 1) := by decide +kernel
theorem dL_nesting_3 : decode cL_nesting 3 = .ok (.iload_n 1, 1) := by decide +kernel
theorem dL_nesting_4 : decode cL_nesting 4 = .ok (.invokevirtual 71, 3) := by decide +kernel
theorem dL_nesting_7 : decode cL_nesting 7 = .ok (.i2l, 1) := by decide +kernel
theorem dL_nesting_8 : decode cL_nesting 8 = .ok (.lastore, 1) := by decide +kernel
theorem dL_nesting_9 : decode cL_nesting 9 = .ok (.goto 6, 3) := by decide +kernel
theorem dL_nesting_12 : decode cL_nesting 12 = .ok (.astore_n 3, 1) := by decide +kernel
theorem dL_nesting_13 : decode cL_nesting 13 = .ok (.iconst 1, 1) := by decide +kernel
theorem dL_nesting_14 : decode cL_nesting 14 = .ok (.ireturn, 1) := by decide +kernel
theorem dL_nesting_15 : decode cL_nesting 15 = .ok (.iconst 0, 1) := by decide +kernel
theorem dL_nesting_16 : decode cL_nesting 16 = .ok (.ireturn, 1) := by decide +kernel
set_option maxRecDepth 20000 in
theorem ggL_where_X4_where : GoodIn wsL_where wsX4_where := goodIn_ca (goodIn_r _ [6, 7, 8, 9, 10, 5, 11, 12, 13, 14, 15, 16, 17, 18, 19, 20, 21, 22, 23, 24, 25, 26, 27, 28, 29, 30, 31, 32, 33, 34, 35, 36, 37, 38, 39, 40, 41, 42, 43, 44, 45, 46, 47, 48, 49, 50, 51, 52, 53, 54, 55, 56, 57, 58, 59, 60, 61, 62, 63, 64, 65, 66, 67, 68, 69, 70, 71, 72, 73, 74, 75, 76, 77, 78, 79, 80, 81, 82, 83, 84, 85, 86, 87, 88, 89] (by decide +kernel) (by decide +kernel)) (goodIn_sub (fun _ h => List.mem_cons_of_mem _ (List.mem_append_right _ h)) (by decide +kernel))
set_option maxRecDepth 20000 in
theorem gL_where_X4_where : GoodIn wsL_where (wsV RL 74 RX4 yX4_where wsX4_where) := goodIn_app (goodIn_of _ (by decide +kernel)) ggL_where_X4_where
theorem dL_where_0 : decode cL_where 0 = .ok (.aload_n 2, 1) := by decide +kernel
theorem dL_where_1 : decode cL_where 1 = .ok (.iconst 0, 1) := by decide +kernel
theorem dL_where_2 : decode cL_where 2 = .ok (.aload_n 0, 1) := by decide +kernel
theorem dL_where_3 : decode cL_where 3 = .ok (.iload_n 1, 1) := by decide +kernel
theorem dL_where_4 : decode cL_where 4 = .ok (.invokevirtual 74, 3) := by decide +kernel
theorem dL_where_7 : decode cL_where 7 = .ok (.i2l, 1) := by decide +kernel
theorem dL_where_8 : decode cL_where 8 = .ok (.lastore, 1) := by decide +kernel
theorem dL_where_9 : decode cL_where 9 = .ok (.goto 6, 3) := by decide +kernel
theorem dL_where_12 : decode cL_where 12 = .ok (.astore_n 3, 1) := by decide +kernel
theorem dL_where_13 : decode cL_where 13 = .ok (.iconst 1, 1) := by decide +kernel
theorem dL_where_14 : decode cL_where 14 = .ok (.ireturn, 1) := by decide +kernel
theorem dL_where_15 : decode cL_where 15 = .ok (.iconst 0, 1) := by decide +kernel
theorem dL_where_16 : decode cL_where 16 = .ok (.ireturn, 1) := by decide +kernel
set_option maxRecDepth 20000 in
theorem ggL_holds_X4_holds : GoodIn wsL_holds wsX4_holds := goodIn_ca (goodIn_ca (goodIn_r _ [7, 8, 9, 10, 11, 12, 13, 6, 14, 15, 16, 17, 18, 19, 20, 21, 22, 23, 24, 25, 26, 27, 28, 29, 30, 31, 32, 33, 34, 35, 36, 37, 38, 39, 40, 41, 42, 43, 44, 45, 46, 47, 48, 49, 50, 51, 52, 53, 54, 55, 56, 57, 58, 59, 60, 61, 62, 63, 64, 65, 66, 67, 68, 69, 70, 71, 72, 73, 74, 75, 76, 77, 78, 79, 80, 81, 82, 83, 84, 85, 86, 87, 88, 89, 90, 91, 92, 93, 94, 95, 96, 97, 98, 99, 100] (by decide +kernel) (by decide +kernel)) (goodIn_sub (fun _ h => List.mem_cons_of_mem _ (List.mem_append_left _ (List.mem_append_right _ h))) (by decide +kernel))) (goodIn_sub (fun _ h => List.mem_cons_of_mem _ (List.mem_append_right _ h)) (by decide +kernel))
set_option maxRecDepth 20000 in
theorem gL_holds_X4_holds : GoodIn wsL_holds (wsV RL 77 RX4 yX4_holds wsX4_holds) := goodIn_app (goodIn_of _ (by decide +kernel)) ggL_holds_X4_holds
theorem dL_holds_0 : decode cL_holds 0 = .ok (.aload_n 2, 1) := by decide +kernel
theorem dL_holds_1 : decode cL_holds 1 = .ok (.iconst 0, 1) := by decide +kernel
theorem dL_holds_2 : decode cL_holds 2 = .ok (.aload_n 0, 1) := by decide +kernel
theorem dL_holds_3 : decode cL_holds 3 = .ok (.iload_n 1, 1) := by decide +kernel
theorem dL_holds_4 : decode cL_holds 4 = .ok (.invokevirtual 77, 3) := by decide +kernel
theorem dL_holds_7 : decode cL_holds 7 = .ok (.ifCond .eq 7, 3) := by decide +kernel
theorem dL_holds_10 : decode cL_holds 10 = .ok (.lconst 1, 1) := by decide +kernel
theorem dL_holds_11 : decode cL_holds 11 = .ok (.goto 4, 3) := by decide +kernel
theorem dL_holds_14 : decode cL_holds 14 = .ok (.lconst 0, 1) := by decide +kernel
theorem dL_holds_15 : decode cL_holds 15 = .ok (.lastore, 1) := by decide +kernel
theorem dL_holds_16 : decode cL_holds 16 = .ok (.goto 9, 3) := by decide +kernel
theorem dL_holds_19 : decode cL_holds 19 = .ok (.astore_n 3, 1) := by decide +kernel
theorem dL_holds_20 : decode cL_holds 20 = .ok (.iconst 1, 1) := by decide +kernel
theorem dL_holds_21 : decode cL_holds 21 = .ok (.ireturn, 1) := by decide +kernel
theorem dL_holds_22 : decode cL_holds 22 = .ok (.astore_n 3, 1) := by decide +kernel
theorem dL_holds_23 : decode cL_holds 23 = .ok (.iconst 2, 1) := by decide +kernel
theorem dL_holds_24 : decode cL_holds 24 = .ok (.ireturn, 1) := by decide +kernel
theorem dL_holds_25 : decode cL_holds 25 = .ok (.iconst 0, 1) := by decide +kernel
theorem dL_holds_26 : decode cL_holds 26 = .ok (.ireturn, 1) := by decide +kernel
set_option maxRecDepth 20000 in
theorem ggL_share_X4_share : GoodIn wsL_share wsX4_share := goodIn_ca (goodIn_r _ [6, 7, 8, 9, 10, 11, 12, 5, 13, 14, 15, 16, 17, 18, 19, 20, 21, 22, 23, 24, 25, 26, 27, 28, 29, 30, 31, 32, 33, 34, 35, 36, 37, 38, 39, 40, 41, 42, 43, 44, 45, 46, 47, 48, 49, 50, 51, 52, 53, 54, 55, 56, 57, 58, 59, 60, 61, 62, 63, 64, 65, 66, 67, 68, 69, 70, 71, 72, 73, 74, 75, 76, 77, 78, 79, 80, 81, 82, 83, 84, 85, 86, 87, 88, 89, 90, 91, 92, 93, 94, 95, 96, 97, 98] (by decide +kernel) (by decide +kernel)) (goodIn_sub (fun _ h => List.mem_cons_of_mem _ (List.mem_append_right _ h)) (by decide +kernel))
set_option maxRecDepth 20000 in
theorem gL_share_X4_share : GoodIn wsL_share (wsV RL 81 RX4 yX4_share wsX4_share) := goodIn_app (goodIn_of _ (by decide +kernel)) ggL_share_X4_share
theorem dL_share_0 : decode cL_share 0 = .ok (.aload_n 2, 1) := by decide +kernel
theorem dL_share_1 : decode cL_share 1 = .ok (.iconst 0, 1) := by decide +kernel
theorem dL_share_2 : decode cL_share 2 = .ok (.aload_n 0, 1) := by decide +kernel
theorem dL_share_3 : decode cL_share 3 = .ok (.iload_n 1, 1) := by decide +kernel
theorem dL_share_4 : decode cL_share 4 = .ok (.invokevirtual 81, 3) := by decide +kernel
theorem dL_share_7 : decode cL_share 7 = .ok (.dastore, 1) := by decide +kernel
theorem dL_share_8 : decode cL_share 8 = .ok (.goto 6, 3) := by decide +kernel
theorem dL_share_11 : decode cL_share 11 = .ok (.astore_n 3, 1) := by decide +kernel
theorem dL_share_12 : decode cL_share 12 = .ok (.iconst 1, 1) := by decide +kernel
theorem dL_share_13 : decode cL_share 13 = .ok (.ireturn, 1) := by decide +kernel
theorem dL_share_14 : decode cL_share 14 = .ok (.iconst 0, 1) := by decide +kernel
theorem dL_share_15 : decode cL_share 15 = .ok (.ireturn, 1) := by decide +kernel
set_option maxRecDepth 20000 in
theorem ggL_decided_X4_decided : GoodIn wsL_decided wsX4_decided := goodIn_ca (goodIn_ca (goodIn_r _ [7, 8, 9, 10, 11, 12, 13, 6, 14, 15, 16, 17, 18, 19, 20, 21, 22, 23, 24, 25, 26, 27, 28, 29, 30, 31, 32, 33, 34, 35, 36, 37, 38, 39, 40] (by decide +kernel) (by decide +kernel)) (goodIn_sub (fun _ h => List.mem_cons_of_mem _ (List.mem_append_left _ (List.mem_append_right _ h))) (by decide +kernel))) (goodIn_sub (fun _ h => List.mem_cons_of_mem _ (List.mem_append_right _ h)) (by decide +kernel))
set_option maxRecDepth 20000 in
theorem gL_decided_X4_decided : GoodIn wsL_decided (wsV RL 85 RX4 yX4_decided wsX4_decided) := goodIn_app (goodIn_of _ (by decide +kernel)) ggL_decided_X4_decided
theorem dL_decided_0 : decode cL_decided 0 = .ok (.aload_n 2, 1) := by decide +kernel
theorem dL_decided_1 : decode cL_decided 1 = .ok (.iconst 0, 1) := by decide +kernel
theorem dL_decided_2 : decode cL_decided 2 = .ok (.aload_n 0, 1) := by decide +kernel
theorem dL_decided_3 : decode cL_decided 3 = .ok (.iload_n 1, 1) := by decide +kernel
theorem dL_decided_4 : decode cL_decided 4 = .ok (.invokevirtual 85, 3) := by decide +kernel
theorem dL_decided_7 : decode cL_decided 7 = .ok (.i2l, 1) := by decide +kernel
theorem dL_decided_8 : decode cL_decided 8 = .ok (.lastore, 1) := by decide +kernel
theorem dL_decided_9 : decode cL_decided 9 = .ok (.goto 9, 3) := by decide +kernel
theorem dL_decided_12 : decode cL_decided 12 = .ok (.astore_n 3, 1) := by decide +kernel
theorem dL_decided_13 : decode cL_decided 13 = .ok (.iconst 1, 1) := by decide +kernel
theorem dL_decided_14 : decode cL_decided 14 = .ok (.ireturn, 1) := by decide +kernel
theorem dL_decided_15 : decode cL_decided 15 = .ok (.astore_n 3, 1) := by decide +kernel
theorem dL_decided_16 : decode cL_decided 16 = .ok (.iconst 2, 1) := by decide +kernel
theorem dL_decided_17 : decode cL_decided 17 = .ok (.ireturn, 1) := by decide +kernel
theorem dL_decided_18 : decode cL_decided 18 = .ok (.iconst 0, 1) := by decide +kernel
theorem dL_decided_19 : decode cL_decided 19 = .ok (.ireturn, 1) := by decide +kernel
set_option maxRecDepth 20000 in
theorem ggL_reached_X4_reached : GoodIn wsL_reached wsX4_reached := goodIn_ca (goodIn_ca (goodIn_r _ [7, 8, 9, 10, 11, 6, 12, 13, 14, 15, 16, 17, 18, 19, 20, 21, 22, 23, 24, 25, 26, 27, 28, 29, 30, 31, 32, 33, 34, 35, 36, 37, 38, 39, 40, 41, 42] (by decide +kernel) (by decide +kernel)) (goodIn_sub (fun _ h => List.mem_cons_of_mem _ (List.mem_append_left _ (List.mem_append_right _ h))) (by decide +kernel))) (goodIn_sub (fun _ h => List.mem_cons_of_mem _ (List.mem_append_right _ h)) (by decide +kernel))
set_option maxRecDepth 20000 in
theorem gL_reached_X4_reached : GoodIn wsL_reached (wsV RL 88 RX4 yX4_reached wsX4_reached) := goodIn_app (goodIn_of _ (by decide +kernel)) ggL_reached_X4_reached
theorem dL_reached_0 : decode cL_reached 0 = .ok (.aload_n 3, 1) := by decide +kernel
theorem dL_reached_1 : decode cL_reached 1 = .ok (.iconst 0, 1) := by decide +kernel
theorem dL_reached_2 : decode cL_reached 2 = .ok (.aload_n 0, 1) := by decide +kernel
theorem dL_reached_3 : decode cL_reached 3 = .ok (.iload_n 1, 1) := by decide +kernel
theorem dL_reached_4 : decode cL_reached 4 = .ok (.iload_n 2, 1) := by decide +kernel
theorem dL_reached_5 : decode cL_reached 5 = .ok (.invokevirtual 88, 3) := by decide +kernel
theorem dL_reached_8 : decode cL_reached 8 = .ok (.i2l, 1) := by decide +kernel
theorem dL_reached_9 : decode cL_reached 9 = .ok (.lastore, 1) := by decide +kernel
theorem dL_reached_10 : decode cL_reached 10 = .ok (.goto 11, 3) := by decide +kernel
theorem dL_reached_13 : decode cL_reached 13 = .ok (.astore 4, 2) := by decide +kernel
theorem dL_reached_15 : decode cL_reached 15 = .ok (.iconst 1, 1) := by decide +kernel
theorem dL_reached_16 : decode cL_reached 16 = .ok (.ireturn, 1) := by decide +kernel
theorem dL_reached_17 : decode cL_reached 17 = .ok (.astore 4, 2) := by decide +kernel
theorem dL_reached_19 : decode cL_reached 19 = .ok (.iconst 2, 1) := by decide +kernel
theorem dL_reached_20 : decode cL_reached 20 = .ok (.ireturn, 1) := by decide +kernel
theorem dL_reached_21 : decode cL_reached 21 = .ok (.iconst 0, 1) := by decide +kernel
theorem dL_reached_22 : decode cL_reached 22 = .ok (.ireturn, 1) := by decide +kernel
set_option maxRecDepth 20000 in
theorem ggL_areAlike_X4_areAlike : GoodIn wsL_areAlike wsX4_areAlike := goodIn_ca (goodIn_r _ [6, 7, 8, 9, 10, 11, 5, 12, 13, 14, 15, 16, 17, 18, 19, 20, 21, 22, 23, 24, 25, 26, 27, 28, 29, 30, 31, 32, 33, 34, 35, 36, 37, 38, 39, 40, 41, 42, 43, 44, 45, 46, 47, 48, 49, 50, 51, 52, 53, 54, 55, 56, 57, 58, 59, 60, 61, 62, 63, 64, 65, 66, 67, 68] (by decide +kernel) (by decide +kernel)) (goodIn_sub (fun _ h => List.mem_cons_of_mem _ (List.mem_append_right _ h)) (by decide +kernel))
set_option maxRecDepth 20000 in
theorem gL_areAlike_X4_areAlike : GoodIn wsL_areAlike (wsV RL 91 RX4 yX4_areAlike wsX4_areAlike) := goodIn_app (goodIn_of _ (by decide +kernel)) ggL_areAlike_X4_areAlike
theorem dL_areAlike_0 : decode cL_areAlike 0 = .ok (.aload_n 3, 1) := by decide +kernel
theorem dL_areAlike_1 : decode cL_areAlike 1 = .ok (.iconst 0, 1) := by decide +kernel
theorem dL_areAlike_2 : decode cL_areAlike 2 = .ok (.aload_n 0, 1) := by decide +kernel
theorem dL_areAlike_3 : decode cL_areAlike 3 = .ok (.iload_n 1, 1) := by decide +kernel
theorem dL_areAlike_4 : decode cL_areAlike 4 = .ok (.iload_n 2, 1) := by decide +kernel
theorem dL_areAlike_5 : decode cL_areAlike 5 = .ok (.invokevirtual 91, 3) := by decide +kernel
theorem dL_areAlike_8 : decode cL_areAlike 8 = .ok (.ifCond .eq 7, 3) := by decide +kernel
theorem dL_areAlike_11 : decode cL_areAlike 11 = .ok (.lconst 1, 1) := by decide +kernel
theorem dL_areAlike_12 : decode cL_areAlike 12 = .ok (.goto 4, 3) := by decide +kernel
theorem dL_areAlike_15 : decode cL_areAlike 15 = .ok (.lconst 0, 1) := by decide +kernel
theorem dL_areAlike_16 : decode cL_areAlike 16 = .ok (.lastore, 1) := by decide +kernel
theorem dL_areAlike_17 : decode cL_areAlike 17 = .ok (.goto 7, 3) := by decide +kernel
theorem dL_areAlike_20 : decode cL_areAlike 20 = .ok (.astore 4, 2) := by decide +kernel
theorem dL_areAlike_22 : decode cL_areAlike 22 = .ok (.iconst 1, 1) := by decide +kernel
theorem dL_areAlike_23 : decode cL_areAlike 23 = .ok (.ireturn, 1) := by decide +kernel
theorem dL_areAlike_24 : decode cL_areAlike 24 = .ok (.iconst 0, 1) := by decide +kernel
theorem dL_areAlike_25 : decode cL_areAlike 25 = .ok (.ireturn, 1) := by decide +kernel
set_option maxRecDepth 20000 in
theorem ggL_announce_X4_announce : GoodIn wsL_announce wsX4_announce := goodIn_ca (goodIn_ca (goodIn_r _ [7, 8, 9, 10, 11, 12, 6, 13, 14, 15, 16, 17, 18, 19, 20, 21, 22, 23, 24, 25, 26, 27, 28, 29, 30, 31, 32, 33, 34, 35, 36, 37, 38, 39, 40, 41, 42, 43, 44, 45, 46, 47, 48, 49, 50, 51, 52, 53, 54, 55, 56, 57, 58, 59, 60, 61, 62, 63, 64, 65, 66, 67, 68, 69, 70, 71, 72, 73, 74, 75, 76, 77, 78, 79, 80, 81, 82, 83, 84, 85, 86, 87, 88, 89, 90, 91, 92, 93, 94, 95, 96, 97, 98, 99, 100, 101, 102, 103, 104, 105, 106, 107, 108, 109, 110, 111, 112, 113, 114, 115, 116, 117, 118, 119, 120, 121, 122, 123, 124, 125, 126, 127] (by decide +kernel) (by decide +kernel)) (goodIn_sub (fun _ h => List.mem_cons_of_mem _ (List.mem_append_left _ (List.mem_append_right _ h))) (by decide +kernel))) (goodIn_sub (fun _ h => List.mem_cons_of_mem _ (List.mem_append_right _ h)) (by decide +kernel))
set_option maxRecDepth 20000 in
theorem gL_announce_X4_announce : GoodIn wsL_announce (wsV RL 95 RX4 yX4_announce wsX4_announce) := goodIn_app (goodIn_of _ (by decide +kernel)) ggL_announce_X4_announce
theorem dL_announce_0 : decode cL_announce 0 = .ok (.aload_n 2, 1) := by decide +kernel
theorem dL_announce_1 : decode cL_announce 1 = .ok (.iconst 0, 1) := by decide +kernel
theorem dL_announce_2 : decode cL_announce 2 = .ok (.aload_n 0, 1) := by decide +kernel
theorem dL_announce_3 : decode cL_announce 3 = .ok (.iload_n 1, 1) := by decide +kernel
theorem dL_announce_4 : decode cL_announce 4 = .ok (.invokevirtual 95, 3) := by decide +kernel
theorem dL_announce_7 : decode cL_announce 7 = .ok (.i2l, 1) := by decide +kernel
theorem dL_announce_8 : decode cL_announce 8 = .ok (.lastore, 1) := by decide +kernel
theorem dL_announce_9 : decode cL_announce 9 = .ok (.goto 9, 3) := by decide +kernel
theorem dL_announce_12 : decode cL_announce 12 = .ok (.astore_n 3, 1) := by decide +kernel
theorem dL_announce_13 : decode cL_announce 13 = .ok (.iconst 1, 1) := by decide +kernel
theorem dL_announce_14 : decode cL_announce 14 = .ok (.ireturn, 1) := by decide +kernel
theorem dL_announce_15 : decode cL_announce 15 = .ok (.astore_n 3, 1) := by decide +kernel
theorem dL_announce_16 : decode cL_announce 16 = .ok (.iconst 2, 1) := by decide +kernel
theorem dL_announce_17 : decode cL_announce 17 = .ok (.ireturn, 1) := by decide +kernel
theorem dL_announce_18 : decode cL_announce 18 = .ok (.iconst 0, 1) := by decide +kernel
theorem dL_announce_19 : decode cL_announce 19 = .ok (.ireturn, 1) := by decide +kernel
set_option maxRecDepth 20000 in
theorem ggL_tell_X4_tell : GoodIn wsL_tell wsX4_tell := goodIn_ca (goodIn_ca (goodIn_r _ [7, 8, 9, 10, 11, 12, 6, 13, 14, 15, 16, 17, 18, 19, 20, 21, 22, 23, 24, 25, 26, 27, 28, 29, 30, 31, 32, 33, 34, 35, 36, 37, 38, 39, 40, 41, 42, 43, 44, 45, 46, 47, 48, 49, 50, 51, 52, 53, 54, 55, 56, 57, 58, 59, 60, 61, 62, 63, 64, 65, 66, 67, 68, 69, 70, 71, 72, 73, 74, 75, 76, 77, 78, 79, 80, 81, 82, 83, 84, 85, 86, 87, 88, 89, 90, 91, 92, 93, 94, 95, 96, 97, 98, 99, 100, 101, 102, 103, 104, 105, 106, 107, 108] (by decide +kernel) (by decide +kernel)) (goodIn_sub (fun _ h => List.mem_cons_of_mem _ (List.mem_append_left _ (List.mem_append_right _ h))) (by decide +kernel))) (goodIn_sub (fun _ h => List.mem_cons_of_mem _ (List.mem_append_right _ h)) (by decide +kernel))
set_option maxRecDepth 20000 in
theorem gL_tell_X4_tell : GoodIn wsL_tell (wsV RL 98 RX4 yX4_tell wsX4_tell) := goodIn_app (goodIn_of _ (by decide +kernel)) ggL_tell_X4_tell
theorem dL_tell_0 : decode cL_tell 0 = .ok (.aload_n 3, 1) := by decide +kernel
theorem dL_tell_1 : decode cL_tell 1 = .ok (.iconst 0, 1) := by decide +kernel
theorem dL_tell_2 : decode cL_tell 2 = .ok (.aload_n 0, 1) := by decide +kernel
theorem dL_tell_3 : decode cL_tell 3 = .ok (.iload_n 1, 1) := by decide +kernel
theorem dL_tell_4 : decode cL_tell 4 = .ok (.iload_n 2, 1) := by decide +kernel
theorem dL_tell_5 : decode cL_tell 5 = .ok (.invokevirtual 98, 3) := by decide +kernel
theorem dL_tell_8 : decode cL_tell 8 = .ok (.i2l, 1) := by decide +kernel
theorem dL_tell_9 : decode cL_tell 9 = .ok (.lastore, 1) := by decide +kernel
theorem dL_tell_10 : decode cL_tell 10 = .ok (.goto 11, 3) := by decide +kernel
theorem dL_tell_13 : decode cL_tell 13 = .ok (.astore 4, 2) := by decide +kernel
theorem dL_tell_15 : decode cL_tell 15 = .ok (.iconst 1, 1) := by decide +kernel
theorem dL_tell_16 : decode cL_tell 16 = .ok (.ireturn, 1) := by decide +kernel
theorem dL_tell_17 : decode cL_tell 17 = .ok (.astore 4, 2) := by decide +kernel
theorem dL_tell_19 : decode cL_tell 19 = .ok (.iconst 2, 1) := by decide +kernel
theorem dL_tell_20 : decode cL_tell 20 = .ok (.ireturn, 1) := by decide +kernel
theorem dL_tell_21 : decode cL_tell 21 = .ok (.iconst 0, 1) := by decide +kernel
theorem dL_tell_22 : decode cL_tell 22 = .ok (.ireturn, 1) := by decide +kernel
set_option maxRecDepth 20000 in
theorem ggL_whisper_X4_whisper : GoodIn wsL_whisper wsX4_whisper := goodIn_ca (goodIn_ca (goodIn_ca (goodIn_r _ [8, 9, 10, 11, 12, 13, 14, 15, 16, 7, 17, 18, 19, 20, 21, 22, 23, 24, 25, 26, 27, 28, 29, 30, 31, 32, 33, 34, 35, 36, 37, 38, 39, 40, 41, 42, 43, 44, 45, 46, 47, 48, 49, 50, 51, 52, 53, 54, 55, 56, 57, 58, 59, 60, 61, 62, 63, 64, 65, 66, 67, 68, 69, 70, 71, 72, 73, 74, 75, 76, 77, 78, 79, 80, 81, 82, 83, 84, 85, 86, 87, 88, 89, 90, 91, 92, 93, 94, 95, 96, 97, 98, 99, 100, 101, 102, 103, 104, 105, 106, 107, 108, 109, 110, 111, 112, 113, 114, 115, 116, 117, 118, 119, 120, 121, 122, 123, 124, 125, 126, 127, 128, 129, 130, 131, 132, 133] (by decide +kernel) (by decide +kernel)) (goodIn_sub (fun _ h => List.mem_cons_of_mem _ (List.mem_append_left _ (List.mem_append_left _ (List.mem_append_right _ h)))) (by decide +kernel))) (goodIn_sub (fun _ h => List.mem_cons_of_mem _ (List.mem_append_left _ (List.mem_append_right _ h))) (by decide +kernel))) (goodIn_sub (fun _ h => List.mem_cons_of_mem _ (List.mem_append_right _ h)) (by decide +kernel))
set_option maxRecDepth 20000 in
theorem gL_whisper_X4_whisper : GoodIn wsL_whisper (wsV RL 101 RX4 yX4_whisper wsX4_whisper) := goodIn_app (goodIn_of _ (by decide +kernel)) ggL_whisper_X4_whisper
theorem dL_whisper_0 : decode cL_whisper 0 = .ok (.aload_n 3, 1) := by decide +kernel
theorem dL_whisper_1 : decode cL_whisper 1 = .ok (.iconst 0, 1) := by decide +kernel
theorem dL_whisper_2 : decode cL_whisper 2 = .ok (.aload_n 0, 1) := by decide +kernel
theorem dL_whisper_3 : decode cL_whisper 3 = .ok (.iload_n 1, 1) := by decide +kernel
theorem dL_whisper_4 : decode cL_whisper 4 = .ok (.iload_n 2, 1) := by decide +kernel
theorem dL_whisper_5 : decode cL_whisper 5 = .ok (.invokevirtual 101, 3) := by decide +kernel
theorem dL_whisper_8 : decode cL_whisper 8 = .ok (.i2l, 1) := by decide +kernel
theorem dL_whisper_9 : decode cL_whisper 9 = .ok (.lastore, 1) := by decide +kernel
theorem dL_whisper_10 : decode cL_whisper 10 = .ok (.goto 15, 3) := by decide +kernel
theorem dL_whisper_13 : decode cL_whisper 13 = .ok (.astore 4, 2) := by decide +kernel
theorem dL_whisper_15 : decode cL_whisper 15 = .ok (.iconst 1, 1) := by decide +kernel
theorem dL_whisper_16 : decode cL_whisper 16 = .ok (.ireturn, 1) := by decide +kernel
theorem dL_whisper_17 : decode cL_whisper 17 = .ok (.astore 4, 2) := by decide +kernel
theorem dL_whisper_19 : decode cL_whisper 19 = .ok (.iconst 2, 1) := by decide +kernel
theorem dL_whisper_20 : decode cL_whisper 20 = .ok (.ireturn, 1) := by decide +kernel
theorem dL_whisper_21 : decode cL_whisper 21 = .ok (.astore 4, 2) := by decide +kernel
theorem dL_whisper_23 : decode cL_whisper 23 = .ok (.iconst 3, 1) := by decide +kernel
theorem dL_whisper_24 : decode cL_whisper 24 = .ok (.ireturn, 1) := by decide +kernel
theorem dL_whisper_25 : decode cL_whisper 25 = .ok (.iconst 0, 1) := by decide +kernel
theorem dL_whisper_26 : decode cL_whisper 26 = .ok (.ireturn, 1) := by decide +kernel
