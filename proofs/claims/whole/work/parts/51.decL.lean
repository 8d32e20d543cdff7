set_option maxRecDepth 20000 in
theorem ggL_addWorld_X4_addWorld : GoodIn wsL_addWorld wsX4_addWorld := goodIn_ca (goodIn_ca (goodIn_r _ [7, 8, 9, 10, 11, 12, 13, 14, 6, 15, 16, 17, 18, 19, 20, 21, 22, 23, 24, 25, 26, 27, 28, 29, 30, 31, 32] (by decide +kernel) (by decide +kernel)) (goodIn_sub (fun _ h => List.mem_cons_of_mem _ (List.mem_append_left _ (List.mem_append_right _ h))) (by decide +kernel))) (goodIn_sub (fun _ h => List.mem_cons_of_mem _ (List.mem_append_right _ h)) (by decide +kernel))
set_option maxRecDepth 20000 in
theorem gL_addWorld_X4_addWorld : GoodIn wsL_addWorld (wsV RL 7 RX4 yX4_addWorld wsX4_addWorld) := goodIn_app (goodIn_of _ (by decide +kernel)) ggL_addWorld_X4_addWorld
theorem dL_addWorld_0 : decode cL_addWorld 0 = .ok (.aload_n 2, 1) := by decide +kernel
theorem dL_addWorld_1 : decode cL_addWorld 1 = .ok (.iconst 0, 1) := by decide +kernel
theorem dL_addWorld_2 : decode cL_addWorld 2 = .ok (.aload_n 0, 1) := by decide +kernel
theorem dL_addWorld_3 : decode cL_addWorld 3 = .ok (.iload_n 1, 1) := by decide +kernel
theorem dL_addWorld_4 : decode cL_addWorld 4 = .ok (.invokevirtual 7, 3) := by decide +kernel
theorem dL_addWorld_7 : decode cL_addWorld 7 = .ok (.i2l, 1) := by decide +kernel
theorem dL_addWorld_8 : decode cL_addWorld 8 = .ok (.lastore, 1) := by decide +kernel
theorem dL_addWorld_9 : decode cL_addWorld 9 = .ok (.goto 9, 3) := by decide +kernel
theorem dL_addWorld_12 : decode cL_addWorld 12 = .ok (.astore_n 3, 1) := by decide +kernel
theorem dL_addWorld_13 : decode cL_addWorld 13 = .ok (.iconst 1, 1) := by decide +kernel
theorem dL_addWorld_14 : decode cL_addWorld 14 = .ok (.ireturn, 1) := by decide +kernel
theorem dL_addWorld_15 : decode cL_addWorld 15 = .ok (.astore_n 3, 1) := by decide +kernel
theorem dL_addWorld_16 : decode cL_addWorld 16 = .ok (.iconst 2, 1) := by decide +kernel
theorem dL_addWorld_17 : decode cL_addWorld 17 = .ok (.ireturn, 1) := by decide +kernel
theorem dL_addWorld_18 : decode cL_addWorld 18 = .ok (.iconst 0, 1) := by decide +kernel
theorem dL_addWorld_19 : decode cL_addWorld 19 = .ok (.ireturn, 1) := by decide +kernel
set_option maxRecDepth 20000 in
theorem ggL_setAtoms_X4_setAtoms : GoodIn wsL_setAtoms wsX4_setAtoms := goodIn_ca (goodIn_ca (goodIn_r _ [7, 8, 9, 10, 11, 12, 6, 13, 14, 15, 16, 17, 18, 19, 20, 21, 22, 23, 24, 25, 26, 27, 28, 29, 30] (by decide +kernel) (by decide +kernel)) (goodIn_sub (fun _ h => List.mem_cons_of_mem _ (List.mem_append_left _ (List.mem_append_right _ h))) (by decide +kernel))) (goodIn_sub (fun _ h => List.mem_cons_of_mem _ (List.mem_append_right _ h)) (by decide +kernel))
set_option maxRecDepth 20000 in
theorem gL_setAtoms_X4_setAtoms : GoodIn wsL_setAtoms (wsV RL 17 RX4 yX4_setAtoms wsX4_setAtoms) := goodIn_app (goodIn_of _ (by decide +kernel)) ggL_setAtoms_X4_setAtoms
theorem dL_setAtoms_0 : decode cL_setAtoms 0 = .ok (.aload_n 3, 1) := by decide +kernel
theorem dL_setAtoms_1 : decode cL_setAtoms 1 = .ok (.iconst 0, 1) := by decide +kernel
theorem dL_setAtoms_2 : decode cL_setAtoms 2 = .ok (.aload_n 0, 1) := by decide +kernel
theorem dL_setAtoms_3 : decode cL_setAtoms 3 = .ok (.iload_n 1, 1) := by decide +kernel
theorem dL_setAtoms_4 : decode cL_setAtoms 4 = .ok (.iload_n 2, 1) := by decide +kernel
theorem dL_setAtoms_5 : decode cL_setAtoms 5 = .ok (.invokevirtual 17, 3) := by decide +kernel
theorem dL_setAtoms_8 : decode cL_setAtoms 8 = .ok (.i2l, 1) := by decide +kernel
theorem dL_setAtoms_9 : decode cL_setAtoms 9 = .ok (.lastore, 1) := by decide +kernel
theorem dL_setAtoms_10 : decode cL_setAtoms 10 = .ok (.goto 11, 3) := by decide +kernel
theorem dL_setAtoms_13 : decode cL_setAtoms 13 = .ok (.astore 4, 2) := by decide +kernel
theorem dL_setAtoms_15 : decode cL_setAtoms 15 = .ok (.iconst 1, 1) := by decide +kernel
theorem dL_setAtoms_16 : decode cL_setAtoms 16 = .ok (.ireturn, 1) := by decide +kernel
theorem dL_setAtoms_17 : decode cL_setAtoms 17 = .ok (.astore 4, 2) := by decide +kernel
theorem dL_setAtoms_19 : decode cL_setAtoms 19 = .ok (.iconst 2, 1) := by decide +kernel
theorem dL_setAtoms_20 : decode cL_setAtoms 20 = .ok (.ireturn, 1) := by decide +kernel
theorem dL_setAtoms_21 : decode cL_setAtoms 21 = .ok (.iconst 0, 1) := by decide +kernel
theorem dL_setAtoms_22 : decode cL_setAtoms 22 = .ok (.ireturn, 1) := by decide +kernel
set_option maxRecDepth 20000 in
theorem ggL_connect_X4_connect : GoodIn wsL_connect wsX4_connect := goodIn_ca (goodIn_r _ [6, 7, 8, 9, 10, 11, 5, 12, 13, 14, 15, 16, 17, 18, 19, 20, 21, 22, 23, 24, 25, 26, 27, 28, 29, 30, 31, 32, 33] (by decide +kernel) (by decide +kernel)) (goodIn_sub (fun _ h => List.mem_cons_of_mem _ (List.mem_append_right _ h)) (by decide +kernel))
set_option maxRecDepth 20000 in
theorem gL_connect_X4_connect : GoodIn wsL_connect (wsV RL 23 RX4 yX4_connect wsX4_connect) := goodIn_app (goodIn_of _ (by decide +kernel)) ggL_connect_X4_connect
theorem dL_connect_0 : decode cL_connect 0 = .ok (.aload 5, 2) := by decide +kernel
theorem dL_connect_2 : decode cL_connect 2 = .ok (.iconst 0, 1) := by decide +kernel
theorem dL_connect_3 : decode cL_connect 3 = .ok (.aload_n 0, 1) := by decide +kernel
theorem dL_connect_4 : decode cL_connect 4 = .ok (.iload_n 1, 1) := by decide +kernel
theorem dL_connect_5 : decode cL_connect 5 = .ok (.iload_n 2, 1) := by decide +kernel
theorem dL_connect_6 : decode cL_connect 6 = .ok (.iload_n 3, 1) := by decide +kernel
theorem dL_connect_7 : decode cL_connect 7 = .ok (.iload 4, 2) := by decide +kernel
theorem dL_connect_9 : decode cL_connect 9 = .ok (.invokevirtual 23, 3) := by decide +kernel
theorem dL_connect_12 : decode cL_connect 12 = .ok (.ifCond .eq 7, 3) := by decide +kernel
theorem dL_connect_15 : decode cL_connect 15 = .ok (.lconst 1, 1) := by decide +kernel
theorem dL_connect_16 : decode cL_connect 16 = .ok (.goto 4, 3) := by decide +kernel
theorem dL_connect_19 : decode cL_connect 19 = .ok (.lconst 0, 1) := by decide +kernel
theorem dL_connect_20 : decode cL_connect 20 = .ok (.lastore, 1) := by decide +kernel
theorem dL_connect_21 : decode cL_connect 21 = .ok (.goto 7, 3) := by decide +kernel
theorem dL_connect_24 : decode cL_connect 24 = .ok (.astore 6, 2) := by decide +kernel
theorem dL_connect_26 : decode cL_connect 26 = .ok (.iconst 1, 1) := by decide +kernel
theorem dL_connect_27 : decode cL_connect 27 = .ok (.ireturn, 1) := by decide +kernel
theorem dL_connect_28 : decode cL_connect 28 = .ok (.iconst 0, 1) := by decide +kernel
theorem dL_connect_29 : decode cL_connect 29 = .ok (.ireturn, 1) := by decide +kernel
set_option maxRecDepth 20000 in
theorem ggL_gather_X4_gather : GoodIn wsL_gather wsX4_gather := goodIn_ca (goodIn_ca (goodIn_r _ [7, 8, 9, 10, 11, 12, 13, 6, 14, 15, 16, 17, 18, 19, 20, 21, 22, 23, 24, 25, 26, 27, 28, 29, 30, 31, 32, 33, 34, 35, 36, 37, 38, 39, 40, 41, 42, 43, 44, 45, 46] (by decide +kernel) (by decide +kernel)) (goodIn_sub (fun _ h => List.mem_cons_of_mem _ (List.mem_append_left _ (List.mem_append_right _ h))) (by decide +kernel))) (goodIn_sub (fun _ h => List.mem_cons_of_mem _ (List.mem_append_right _ h)) (by decide +kernel))
set_option maxRecDepth 20000 in
theorem gL_gather_X4_gather : GoodIn wsL_gather (wsV RL 27 RX4 yX4_gather wsX4_gather) := goodIn_app (goodIn_of _ (by decide +kernel)) ggL_gather_X4_gather
theorem dL_gather_0 : decode cL_gather 0 = .ok (.aload_n 3, 1) := by decide +kernel
theorem dL_gather_1 : decode cL_gather 1 = .ok (.iconst 0, 1) := by decide +kernel
theorem dL_gather_2 : decode cL_gather 2 = .ok (.aload_n 0, 1) := by decide +kernel
theorem dL_gather_3 : decode cL_gather 3 = .ok (.iload_n 1, 1) := by decide +kernel
theorem dL_gather_4 : decode cL_gather 4 = .ok (.iload_n 2, 1) := by decide +kernel
theorem dL_gather_5 : decode cL_gather 5 = .ok (.invokevirtual 27, 3) := by decide +kernel
theorem dL_gather_8 : decode cL_gather 8 = .ok (.i2l, 1) := by decide +kernel
theorem dL_gather_9 : decode cL_gather 9 = .ok (.lastore, 1) := by decide +kernel
theorem dL_gather_10 : decode cL_gather 10 = .ok (.goto 11, 3) := by decide +kernel
theorem dL_gather_13 : decode cL_gather 13 = .ok (.astore 4, 2) := by decide +kernel
theorem dL_gather_15 : decode cL_gather 15 = .ok (.iconst 1, 1) := by decide +kernel
theorem dL_gather_16 : decode cL_gather 16 = .ok (.ireturn, 1) := by decide +kernel
theorem dL_gather_17 : decode cL_gather 17 = .ok (.astore 4, 2) := by decide +kernel
theorem dL_gather_19 : decode cL_gather 19 = .ok (.iconst 2, 1) := by decide +kernel
theorem dL_gather_20 : decode cL_gather 20 = .ok (.ireturn, 1) := by decide +kernel
theorem dL_gather_21 : decode cL_gather 21 = .ok (.iconst 0, 1) := by decide +kernel
theorem dL_gather_22 : decode cL_gather 22 = .ok (.ireturn, 1) := by decide +kernel
set_option maxRecDepth 20000 in
theorem ggL_setActual_X4_setActual : GoodIn wsL_setActual wsX4_setActual := goodIn_ca (goodIn_r _ [6, 7, 8, 9, 10, 11, 5, 12, 13, 14, 15, 16, 17, 18, 19, 20, 21, 22, 23] (by decide +kernel) (by decide +kernel)) (goodIn_sub (fun _ h => List.mem_cons_of_mem _ (List.mem_append_right _ h)) (by decide +kernel))
set_option maxRecDepth 20000 in
theorem gL_setActual_X4_setActual : GoodIn wsL_setActual (wsV RL 30 RX4 yX4_setActual wsX4_setActual) := goodIn_app (goodIn_of _ (by decide +kernel)) ggL_setActual_X4_setActual
theorem dL_setActual_0 : decode cL_setActual 0 = .ok (.aload_n 2, 1) := by decide +kernel
theorem dL_setActual_1 : decode cL_setActual 1 = .ok (.iconst 0, 1) := by decide +kernel
theorem dL_setActual_2 : decode cL_setActual 2 = .ok (.aload_n 0, 1) := by decide +kernel
theorem dL_setActual_3 : decode cL_setActual 3 = .ok (.iload_n 1, 1) := by decide +kernel
theorem dL_setActual_4 : decode cL_setActual 4 = .ok (.invokevirtual 30, 3) := by decide +kernel
theorem dL_setActual_7 : decode cL_setActual 7 = .ok (.i2l, 1) := by decide +kernel
theorem dL_setActual_8 : decode cL_setActual 8 = .ok (.lastore, 1) := by decide +kernel
theorem dL_setActual_9 : decode cL_setActual 9 = .ok (.goto 6, 3) := by decide +kernel
theorem dL_setActual_12 : decode cL_setActual 12 = .ok (.astore_n 3, 1) := by decide +kernel
theorem dL_setActual_13 : decode cL_setActual 13 = .ok (.iconst 1, 1) := by decide +kernel
theorem dL_setActual_14 : decode cL_setActual 14 = .ok (.ireturn, 1) := by decide +kernel
theorem dL_setActual_15 : decode cL_setActual 15 = .ok (.iconst 0, 1) := by decide +kernel
theorem dL_setActual_16 : decode cL_setActual 16 = .ok (.ireturn, 1) := by decide +kernel
set_option maxRecDepth 20000 in
theorem ggL_actual_X4_actual : GoodIn wsL_actual wsX4_actual := goodIn_ca (goodIn_r _ [6, 7, 8, 9, 10, 11, 5, 12, 13, 14, 15, 16, 17, 18, 19, 20, 21, 22, 23] (by decide +kernel) (by decide +kernel)) (goodIn_sub (fun _ h => List.mem_cons_of_mem _ (List.mem_append_right _ h)) (by decide +kernel))
set_option maxRecDepth 20000 in
theorem gL_actual_X4_actual : GoodIn wsL_actual (wsV RL 33 RX4 yX4_actual wsX4_actual) := goodIn_app (goodIn_of _ (by decide +kernel)) ggL_actual_X4_actual
theorem dL_actual_0 : decode cL_actual 0 = .ok (.aload_n 1, 1) := by decide +kernel
theorem dL_actual_1 : decode cL_actual 1 = .ok (.iconst 0, 1) := by decide +kernel
theorem dL_actual_2 : decode cL_actual 2 = .ok (.aload_n 0, 1) := by decide +kernel
theorem dL_actual_3 : decode cL_actual 3 = .ok (.invokevirtual 33, 3) := by decide +kernel
theorem dL_actual_6 : decode cL_actual 6 = .ok (.i2l, 1) := by decide +kernel
theorem dL_actual_7 : decode cL_actual 7 = .ok (.lastore, 1) := by decide +kernel
theorem dL_actual_8 : decode cL_actual 8 = .ok (.goto 6, 3) := by decide +kernel
theorem dL_actual_11 : decode cL_actual 11 = .ok (.astore_n 2, 1) := by decide +kernel
theorem dL_actual_12 : decode cL_actual 12 = .ok (.iconst 1, 1) := by decide +kernel
theorem dL_actual_13 : decode cL_actual 13 = .ok (.ireturn, 1) := by decide +kernel
theorem dL_actual_14 : decode cL_actual 14 = .ok (.iconst 0, 1) := by decide +kernel
theorem dL_actual_15 : decode cL_actual 15 = .ok (.ireturn, 1) := by decide +kernel
set_option maxRecDepth 20000 in
theorem ggL_atoms_X4_atoms : GoodIn wsL_atoms wsX4_atoms := goodIn_ca (goodIn_r _ [6, 7, 8, 9, 10, 11, 5, 12, 13, 14, 15, 16, 17, 18, 19, 20, 21, 22, 23] (by decide +kernel) (by decide +kernel)) (goodIn_sub (fun _ h => List.mem_cons_of_mem _ (List.mem_append_right _ h)) (by decide +kernel))
set_option maxRecDepth 20000 in
theorem gL_atoms_X4_atoms : GoodIn wsL_atoms (wsV RL 37 RX4 yX4_atoms wsX4_atoms) := goodIn_app (goodIn_of _ (by decide +kernel)) ggL_atoms_X4_atoms
theorem dL_atoms_0 : decode cL_atoms 0 = .ok (.aload_n 2, 1) := by decide +kernel
theorem dL_atoms_1 : decode cL_atoms 1 = .ok (.iconst 0, 1) := by decide +kernel
theorem dL_atoms_2 : decode cL_atoms 2 = .ok (.aload_n 0, 1) := by decide +kernel
theorem dL_atoms_3 : decode cL_atoms 3 = .ok (.iload_n 1, 1) := by decide +kernel
theorem dL_atoms_4 : decode cL_atoms 4 = .ok (.invokevirtual 37, 3) := by decide +kernel
theorem dL_atoms_7 : decode cL_atoms 7 = .ok (.i2l, 1) := by decide +kernel
theorem dL_atoms_8 : decode cL_atoms 8 = .ok (.lastore, 1) := by decide +kernel
theorem dL_atoms_9 : decode cL_atoms 9 = .ok (.goto 6, 3) := by decide +kernel
theorem dL_atoms_12 : decode cL_atoms 12 = .ok (.astore_n 3, 1) := by decide +kernel
theorem dL_atoms_13 : decode cL_atoms 13 = .ok (.iconst 1, 1) := by decide +kernel
theorem dL_atoms_14 : decode cL_atoms 14 = .ok (.ireturn, 1) := by decide +kernel
theorem dL_atoms_15 : decode cL_atoms 15 = .ok (.iconst 0, 1) := by decide +kernel
theorem dL_atoms_16 : decode cL_atoms 16 = .ok (.ireturn, 1) := by decide +kernel
set_option maxRecDepth 20000 in
theorem ggL_seen_X4_seen : GoodIn wsL_seen wsX4_seen := goodIn_ca (goodIn_r _ [6, 7, 8, 9, 10, 11, 5, 12, 13, 14, 15, 16, 17, 18, 19, 20, 21, 22, 23, 24, 25, 26, 27] (by decide +kernel) (by decide +kernel)) (goodIn_sub (fun _ h => List.mem_cons_of_mem _ (List.mem_append_right _ h)) (by decide +kernel))
set_option maxRecDepth 20000 in
theorem gL_seen_X4_seen : GoodIn wsL_seen (wsV RL 40 RX4 yX4_seen wsX4_seen) := goodIn_app (goodIn_of _ (by decide +kernel)) ggL_seen_X4_seen
theorem dL_seen_0 : decode cL_seen 0 = .ok (.aload_n 3, 1) := by decide +kernel
theorem dL_seen_1 : decode cL_seen 1 = .ok (.iconst 0, 1) := by decide +kernel
theorem dL_seen_2 : decode cL_seen 2 = .ok (.aload_n 0, 1) := by decide +kernel
theorem dL_seen_3 : decode cL_seen 3 = .ok (.iload_n 1, 1) := by decide +kernel
theorem dL_seen_4 : decode cL_seen 4 = .ok (.iload_n 2, 1) := by decide +kernel
theorem dL_seen_5 : decode cL_seen 5 = .ok (.invokevirtual 40, 3) := by decide +kernel
theorem dL_seen_8 : decode cL_seen 8 = .ok (.i2l, 1) := by decide +kernel
theorem dL_seen_9 : decode cL_seen 9 = .ok (.lastore, 1) := by decide +kernel
theorem dL_seen_10 : decode cL_seen 10 = .ok (.goto 7, 3) := by decide +kernel
theorem dL_seen_13 : decode cL_seen 13 = .ok (.astore 4, 2) := by decide +kernel
theorem dL_seen_15 : decode cL_seen 15 = .ok (.iconst 1, 1) := by decide +kernel
theorem dL_seen_16 : decode cL_seen 16 = .ok (.ireturn, 1) := by decide +kernel
theorem dL_seen_17 : decode cL_seen 17 = .ok (.iconst 0, 1) := by decide +kernel
theorem dL_seen_18 : decode cL_seen 18 = .ok (.ireturn, 1) := by decide +kernel
set_option maxRecDepth 20000 in
theorem ggL_arrowCount_X4_arrowCount : GoodIn wsL_arrowCount wsX4_arrowCount := goodIn_ca (goodIn_r _ [6, 7, 8, 9, 10, 5, 11, 12, 13, 14, 15, 16, 17, 18, 19, 20, 21, 22, 23, 24, 25, 26, 27, 28, 29, 30, 31, 32, 33, 34, 35] (by decide +kernel) (by decide +kernel)) (goodIn_sub (fun _ h => List.mem_cons_of_mem _ (List.mem_append_right _ h)) (by decide +kernel))
set_option maxRecDepth 20000 in
theorem gL_arrowCount_X4_arrowCount : GoodIn wsL_arrowCount (wsV RL 43 RX4 yX4_arrowCount wsX4_arrowCount) := goodIn_app (goodIn_of _ (by decide +kernel)) ggL_arrowCount_X4_arrowCount
theorem dL_arrowCount_0 : decode cL_arrowCount 0 = .ok (.aload_n 2, 1) := by decide +kernel
theorem dL_arrowCount_1 : decode cL_arrowCount 1 = .ok (.iconst 0, 1) := by decide +kernel
theorem dL_arrowCount_2 : decode cL_arrowCount 2 = .ok (.aload_n 0, 1) := by decide +kernel
theorem dL_arrowCount_3 : decode cL_arrowCount 3 = .ok (.iload_n 1, 1) := by decide +kernel
theorem dL_arrowCount_4 : decode cL_arrowCount 4 = .ok (.invokevirtual 43, 3) := by decide +kernel
theorem dL_arrowCount_7 : decode cL_arrowCount 7 = .ok (.i2l, 1) := by decide +kernel
theorem dL_arrowCount_8 : decode cL_arrowCount 8 = .ok (.lastore, 1) := by decide +kernel
theorem dL_arrowCount_9 : decode cL_arrowCount 9 = .ok (.goto 6, 3) := by decide +kernel
theorem dL_arrowCount_12 : decode cL_arrowCount 12 = .ok (.astore_n 3, 1) := by decide +kernel
theorem dL_arrowCount_13 : decode cL_arrowCount 13 = .ok (.iconst 1, 1) := by decide +kernel
theorem dL_arrowCount_14 : decode cL_arrowCount 14 = .ok (.ireturn, 1) := by decide +kernel
theorem dL_arrowCount_15 : decode cL_arrowCount 15 = .ok (.iconst 0, 1) := by decide +kernel
theorem dL_arrowCount_16 : decode cL_arrowCount 16 = .ok (.ireturn, 1) := by decide +kernel
set_option maxRecDepth 20000 in
theorem ggL_shape_X4_shape : GoodIn wsL_shape wsX4_shape := goodIn_ca (goodIn_r _ [6, 7, 8, 9, 10, 5, 11, 12, 13, 14, 15, 16, 17, 18, 19, 20, 21, 22, 23, 24, 25, 26, 27, 28, 29, 30, 31, 32, 33, 34, 35, 36, 37, 38] (by decide +kernel) (by decide +kernel)) (goodIn_sub (fun _ h => List.mem_cons_of_mem _ (List.mem_append_right _ h)) (by decide +kernel))
set_option maxRecDepth 20000 in
theorem gL_shape_X4_shape : GoodIn wsL_shape (wsV RL 46 RX4 yX4_shape wsX4_shape) := goodIn_app (goodIn_of _ (by decide +kernel)) ggL_shape_X4_shape
theorem dL_shape_0 : decode cL_shape 0 = .ok (.aload_n 2, 1) := by decide +kernel
theorem dL_shape_1 : decode cL_shape 1 = .ok (.iconst 0, 1) := by decide +kernel
theorem dL_shape_2 : decode cL_shape 2 = .ok (.aload_n 0, 1) := by decide +kernel
theorem dL_shape_3 : decode cL_shape 3 = .ok (.iload_n 1, 1) := by decide +kernel
theorem dL_shape_4 : decode cL_shape 4 = .ok (.invokevirtual 46, 3) := by decide +kernel
theorem dL_shape_7 : decode cL_shape 7 = .ok (.i2l, 1) := by decide +kernel
theorem dL_shape_8 : decode cL_shape 8 = .ok (.lastore, 1) := by decide +kernel
theorem dL_shape_9 : decode cL_shape 9 = .ok (.goto 6, 3) := by decide +kernel
theorem dL_shape_12 : decode cL_shape 12 = .ok (.astore_n 3, 1) := by decide +kernel
theorem dL_shape_13 : decode cL_shape 13 = .ok (.iconst 1, 1) := by decide +kernel
theorem dL_shape_14 : decode cL_shape 14 = .ok (.ireturn, 1) := by decide +kernel
theorem dL_shape_15 : decode cL_shape 15 = .ok (.iconst 0, 1) := by decide +kernel
theorem dL_shape_16 : decode cL_shape 16 = .ok (.ireturn, 1) := by decide +kernel
set_option maxRecDepth 20000 in
theorem ggL_atom_X4_atom : GoodIn wsL_atom wsX4_atom := goodIn_ca (goodIn_ca (goodIn_r _ [7, 8, 9, 10, 11, 12, 13, 6, 14, 15, 16, 17, 18, 19, 20, 21, 22, 23, 24, 25, 26, 27, 28, 29, 30, 31, 32, 33, 34, 35, 36, 37, 38, 39, 40, 41, 42, 43, 44, 45, 46, 47, 48, 49, 50, 51, 52, 53, 54] (by decide +kernel) (by decide +kernel)) (goodIn_sub (fun _ h => List.mem_cons_of_mem _ (List.mem_append_left _ (List.mem_append_right _ h))) (by decide +kernel))) (goodIn_sub (fun _ h => List.mem_cons_of_mem _ (List.mem_append_right _ h)) (by decide +kernel))
set_option maxRecDepth 20000 in
theorem gL_atom_X4_atom : GoodIn wsL_atom (wsV RL 49 RX4 yX4_atom wsX4_atom) := goodIn_app (goodIn_of _ (by decide +kernel)) ggL_atom_X4_atom
theorem dL_atom_0 : decode cL_atom 0 = .ok (.aload_n 2, 1) := by decide +kernel
theorem dL_atom_1 : decode cL_atom 1 = .ok (.iconst 0, 1) := by decide +kernel
theorem dL_atom_2 : decode cL_atom 2 = .ok (.aload_n 0, 1) := by decide +kernel
theorem dL_atom_3 : decode cL_atom 3 = .ok (.iload_n 1, 1) := by decide +kernel
theorem dL_atom_4 : decode cL_atom 4 = .ok (.invokevirtual 49, 3) := by decide +kernel
theorem dL_atom_7 : decode cL_atom 7 = .ok (.i2l, 1) := by decide +kernel
theorem dL_atom_8 : decode cL_atom 8 = .ok (.lastore, 1) := by decide +kernel
theorem dL_atom_9 : decode cL_atom 9 = .ok (.goto 9, 3) := by decide +kernel
theorem dL_atom_12 : decode cL_atom 12 = .ok (.astore_n 3, 1) := by decide +kernel
theorem dL_atom_13 : decode cL_atom 13 = .ok (.iconst 1, 1) := by decide +kernel
theorem dL_atom_14 : decode cL_atom 14 = .ok (.ireturn, 1) := by decide +kernel
theorem dL_atom_15 : decode cL_atom 15 = .ok (.astore_n 3, 1) := by decide +kernel
theorem dL_atom_16 : decode cL_atom 16 = .ok (.iconst 2, 1) := by decide +kernel
theorem dL_atom_17 : decode cL_atom 17 = .ok (.ireturn, 1) := by decide +kernel
theorem dL_atom_18 : decode cL_atom 18 = .ok (.iconst 0, 1) := by decide +kernel
theorem dL_atom_19 : decode cL_atom 19 = .ok (.ireturn, 1) := by decide +kernel
set_option maxRecDepth 20000 in
theorem ggL_not_X4_not : GoodIn wsL_not wsX4_not := goodIn_ca (goodIn_ca (goodIn_r _ [7, 8, 9, 10, 11, 6, 12, 13, 14, 15, 16, 17, 18, 19, 20, 21, 22, 23, 24, 25, 26, 27, 28, 29, 30, 31, 32, 33, 34, 35, 36, 37, 38, 39, 40, 41, 42, 43, 44, 45, 46, 47, 48, 49, 50, 51, 52, 53, 54, 55, 56, 57, 58] (by decide +kernel) (by decide +kernel)) (goodIn_sub (fun _ h => List.mem_cons_of_mem _ (List.mem_append_left _ (List.mem_append_right _ h))) (by decide +kernel))) (goodIn_sub (fun _ h => List.mem_cons_of_mem _ (List.mem_append_right _ h)) (by decide +kernel))
set_option maxRecDepth 20000 in
theorem gL_not_X4_not : GoodIn wsL_not (wsV RL 52 RX4 yX4_not wsX4_not) := goodIn_app (goodIn_of _ (by decide +kernel)) ggL_not_X4_not
theorem dL_not_0 : decode cL_not 0 = .ok (.aload_n 2, 1) := by decide +kernel
theorem dL_not_1 : decode cL_not 1 = .ok (.iconst 0, 1) := by decide +kernel
theorem dL_not_2 : decode cL_not 2 = .ok (.aload_n 0, 1) := by decide +kernel
theorem dL_not_3 : decode cL_not 3 = .ok (.iload_n 1, 1) := by decide +kernel
theorem dL_not_4 : decode cL_not 4 = .ok (.invokevirtual 52, 3) := by decide +kernel
theorem dL_not_7 : decode cL_not 7 = .ok (.i2l, 1) := by decide +kernel
theorem dL_not_8 : decode cL_not 8 = .ok (.lastore, 1) := by decide +kernel
theorem dL_not_9 : decode cL_not 9 = .ok (.goto 9, 3) := by decide +kernel
theorem dL_not_12 : decode cL_not 12 = .ok (.astore_n 3, 1) := by decide +kernel
theorem dL_not_13 : decode cL_not 13 = .ok (.iconst 1, 1) := by decide +kernel
theorem dL_not_14 : decode cL_not 14 = .ok (.ireturn, 1) := by decide +kernel
theorem dL_not_15 : decode cL_not 15 = .ok (.astore_n 3, 1) := by decide +kernel
theorem dL_not_16 : decode cL_not 16 = .ok (.iconst 2, 1) := by decide +kernel
theorem dL_not_17 : decode cL_not 17 = .ok (.ireturn, 1) := by decide +kernel
theorem dL_not_18 : decode cL_not 18 = .ok (.iconst 0, 1) := by decide +kernel
theorem dL_not_19 : decode cL_not 19 = .ok (.ireturn, 1) := by decide +kernel
set_option maxRecDepth 20000 in
theorem ggL_both_X4_both : GoodIn wsL_both wsX4_both := goodIn_ca (goodIn_ca (goodIn_r _ [7, 8, 9, 10, 11, 6, 12, 13, 14, 15, 16, 17, 18, 19, 20, 21, 22, 23, 24, 25, 26, 27, 28, 29, 30, 31, 32, 33, 34, 35, 36, 37, 38, 39, 40, 41, 42, 43, 44, 45, 46, 47, 48, 49, 50, 51, 52, 53, 54, 55, 56, 57, 58] (by decide +kernel) (by decide +kernel)) (goodIn_sub (fun _ h => List.mem_cons_of_mem _ (List.mem_append_left _ (List.mem_append_right _ h))) (by decide +kernel))) (goodIn_sub (fun _ h => List.mem_cons_of_mem _ (List.mem_append_right _ h)) (by decide +kernel))
set_option maxRecDepth 20000 in
theorem gL_both_X4_both : GoodIn wsL_both (wsV RL 55 RX4 yX4_both wsX4_both) := goodIn_app (goodIn_of _ (by decide +kernel)) ggL_both_X4_both
theorem dL_both_0 : decode cL_both 0 = .ok (.aload_n 3, 1) := by decide +kernel
theorem dL_both_1 : decode cL_both 1 = .ok (.iconst 0, 1) := by decide +kernel
theorem dL_both_2 : decode cL_both 2 = .ok (.aload_n 0, 1) := by decide +kernel
theorem dL_both_3 : decode cL_both 3 = .ok (.iload_n 1, 1) := by decide +kernel
theorem dL_both_4 : decode cL_both 4 = .ok (.iload_n 2, 1) := by decide +kernel
theorem dL_both_5 : decode cL_both 5 = .ok (.invokevirtual 55, 3) := by decide +kernel
theorem dL_both_8 : decode cL_both 8 = .ok (.i2l, 1) := by decide +kernel
theorem dL_both_9 : decode cL_both 9 = .ok (.lastore, 1) := by decide +kernel
theorem dL_both_10 : decode cL_both 10 = .ok (.goto 11, 3) := by decide +kernel
theorem dL_both_13 : decode cL_both 13 = .ok (.astore 4, 2) := by decide +kernel
theorem dL_both_15 : decode cL_both 15 = .ok (.iconst 1, 1) := by decide +kernel
theorem dL_both_16 : decode cL_both 16 = .ok (.ireturn, 1) := by decide +kernel
theorem dL_both_17 : decode cL_both 17 = .ok (.astore 4, 2) := by decide +kernel
theorem dL_both_19 : decode cL_both 19 = .ok (.iconst 2, 1) := by decide +kernel
theorem dL_both_20 : decode cL_both 20 = .ok (.ireturn, 1) := by decide +kernel
theorem dL_both_21 : decode cL_both 21 = .ok (.iconst 0, 1) := by decide +kernel
theorem dL_both_22 : decode cL_both 22 = .ok (.ireturn, 1) := by decide +kernel
set_option maxRecDepth 20000 in
theorem ggL_knows_X4_knows : GoodIn wsL_knows wsX4_knows := goodIn_ca (goodIn_ca (goodIn_r _ [7, 8, 9, 10, 11, 6, 12, 13, 14, 15, 16, 17, 18, 19, 20, 21, 22, 23, 24, 25, 26, 27, 28, 29, 30, 31, 32, 33, 34, 35, 36, 37, 38, 39, 40, 41, 42, 43, 44, 45, 46, 47, 48, 49, 50, 51, 52, 53, 54, 55, 56, 57, 58, 59, 60, 61, 62, 63, 64, 65] (by decide +kernel) (by decide +kernel)) (goodIn_sub (fun _ h => List.mem_cons_of_mem _ (List.mem_append_left _ (List.mem_append_right _ h))) (by decide +kernel))) (goodIn_sub (fun _ h => List.mem_cons_of_mem _ (List.mem_append_right _ h)) (by decide +kernel))
set_option maxRecDepth 20000 in
theorem gL_knows_X4_knows : GoodIn wsL_knows (wsV RL 58 RX4 yX4_knows wsX4_knows) := goodIn_app (goodIn_of _ (by decide +kernel)) ggL_knows_X4_knows
theorem dL_knows_0 : decode cL_knows 0 = .ok (.aload_n 3, 1) := by decide +kernel
theorem dL_knows_1 : decode cL_knows 1 = .ok (.iconst 0, 1) := by decide +kernel
theorem dL_knows_2 : decode cL_knows 2 = .ok (.aload_n 0, 1) := by decide +kernel
theorem dL_knows_3 : decode cL_knows 3 = .ok (.iload_n 1, 1) := by decide +kernel
theorem dL_knows_4 : decode cL_knows 4 = .ok (.iload_n 2, 1) := by decide +kernel
theorem dL_knows_5 : decode cL_knows 5 = .ok (.invokevirtual 58, 3) := by decide +kernel
theorem dL_knows_8 : decode cL_knows 8 = .ok (.i2l, 1) := by decide +kernel
theorem dL_knows_9 : decode cL_knows 9 = .ok (.lastore, 1) := by decide +kernel
theorem dL_knows_10 : decode cL_knows 10 = .ok (.goto 11, 3) := by decide +kernel
theorem dL_knows_13 : decode cL_knows 13 = .ok (.astore 4, 2) := by decide +kernel
theorem dL_knows_15 : decode cL_knows 15 = .ok (.iconst 1, 1) := by decide +kernel
theorem dL_knows_16 : decode cL_knows 16 = .ok (.ireturn, 1) := by decide +kernel
theorem dL_knows_17 : decode cL_knows 17 = .ok (.astore 4, 2) := by decide +kernel
theorem dL_knows_19 : decode cL_knows 19 = .ok (.iconst 2, 1) := by decide +kernel
theorem dL_knows_20 : decode cL_knows 20 = .ok (.ireturn, 1) := by decide +kernel
theorem dL_knows_21 : decode cL_knows 21 = .ok (.iconst 0, 1) := by decide +kernel
theorem dL_knows_22 : decode cL_knows 22 = .ok (.ireturn, 1) := by decide +kernel
set_option maxRecDepth 20000 in
theorem ggL_ofGroup_X4_ofGroup : GoodIn wsL_ofGroup wsX4_ofGroup := goodIn_ca (goodIn_ca (goodIn_ca (goodIn_r _ [8, 9, 10, 11, 12, 7, 13, 14, 15, 16, 17, 18, 19, 20, 21, 22, 23, 24, 25, 26, 27, 28, 29, 30, 31, 32, 33, 34, 35, 36, 37, 38, 39, 40, 41, 42, 43, 44, 45, 46, 47, 48, 49, 50, 51, 52, 53, 54, 55, 56, 57, 58, 59, 60, 61, 62, 63, 64, 65] (by decide +kernel) (by decide +kernel)) (goodIn_sub (fun _ h => List.mem_cons_of_mem _ (List.mem_append_left _ (List.mem_append_left _ (List.mem_append_right _ h)))) (by decide +kernel))) (goodIn_sub (fun _ h => List.mem_cons_of_mem _ (List.mem_append_left _ (List.mem_append_right _ h))) (by decide +kernel))) (goodIn_sub (fun _ h => List.mem_cons_of_mem _ (List.mem_append_right _ h)) (by decide +kernel))
set_option maxRecDepth 20000 in
theorem gL_ofGroup_X4_ofGroup : GoodIn wsL_ofGroup (wsV RL 61 RX4 yX4_ofGroup wsX4_ofGroup) := goodIn_app (goodIn_of _ (by decide +kernel)) ggL_ofGroup_X4_ofGroup
theorem dL_ofGroup_0 : decode cL_ofGroup 0 = .ok (.aload 4, 2) := by decide +kernel
theorem dL_ofGroup_2 : decode cL_ofGroup 2 = .ok (.iconst 0, 1) := by decide +kernel
theorem dL_ofGroup_3 : decode cL_ofGroup 3 = .ok (.aload_n 0, 1) := by decide +kernel
theorem dL_ofGroup_4 : decode cL_ofGroup 4 = .ok (.iload_n 1, 1) := by decide +kernel
theorem dL_ofGroup_5 : decode cL_ofGroup 5 = .ok (.iload_n 2, 1) := by decide +kernel
theorem dL_ofGroup_6 : decode cL_ofGroup 6 = .ok (.iload_n 3, 1) := by decide +kernel
theorem dL_ofGroup_7 : decode cL_ofGroup 7 = .ok (.invokevirtual 61, 3) := by decide +kernel
theorem dL_ofGroup_10 : decode cL_ofGroup 10 = .ok (.i2l, 1) := by decide +kernel
theorem dL_ofGroup_11 : decode cL_ofGroup 11 = .ok (.lastore, 1) := by decide +kernel
theorem dL_ofGroup_12 : decode cL_ofGroup 12 = .ok (.goto 15, 3) := by decide +kernel
theorem dL_ofGroup_15 : decode cL_ofGroup 15 = .ok (.astore 5, 2) := by decide +kernel
theorem dL_ofGroup_17 : decode cL_ofGroup 17 = .ok (.iconst 1, 1) := by decide +kernel
theorem dL_ofGroup_18 : decode cL_ofGroup 18 = .ok (.ireturn, 1) := by decide +kernel
theorem dL_ofGroup_19 : decode cL_ofGroup 19 = .ok (.astore 5, 2) := by decide +kernel
theorem dL_ofGroup_21 : decode cL_ofGroup 21 = .ok (.iconst 2, 1) := by decide +kernel
theorem dL_ofGroup_22 : decode cL_ofGroup 22 = .ok (.ireturn, 1) := by decide +kernel
theorem dL_ofGroup_23 : decode cL_ofGroup 23 = .ok (.astore 5, 2) := by decide +kernel
theorem dL_ofGroup_25 : decode cL_ofGroup 25 = .ok (.iconst 3, 1) := by decide +kernel
theorem dL_ofGroup_26 : decode cL_ofGroup 26 = .ok (.ireturn, 1) := by decide +kernel
theorem dL_ofGroup_27 : decode cL_ofGroup 27 = .ok (.iconst 0, 1) := by decide +kernel
theorem dL_ofGroup_28 : decode cL_ofGroup 28 = .ok (.ireturn, 1) := by decide +kernel
set_option maxRecDepth 20000 in
theorem ggL_after_X4_after : GoodIn wsL_after wsX4_after := goodIn_ca (goodIn_ca (goodIn_ca (goodIn_r _ [8, 9, 10, 11, 12, 13, 14, 15, 16, 17, 18, 19, 7, 20, 21, 22, 23, 24, 25, 26, 27, 28, 29, 30, 31, 32, 33, 34, 35, 36, 37, 38, 39, 40, 41, 42, 43, 44, 45, 46, 47, 48, 49, 50, 51, 52, 53, 54, 55, 56, 57, 58, 59, 60, 61, 62, 63] (by decide +kernel) (by decide +kernel)) (goodIn_sub (fun _ h => List.mem_cons_of_mem _ (List.mem_append_left _ (List.mem_append_left _ (List.mem_append_right _ h)))) (by decide +kernel))) (goodIn_sub (fun _ h => List.mem_cons_of_mem _ (List.mem_append_left _ (List.mem_append_right _ h))) (by decide +kernel))) (goodIn_sub (fun _ h => List.mem_cons_of_mem _ (List.mem_append_right _ h)) (by decide +kernel))
set_option maxRecDepth 20000 in
theorem gL_after_X4_after : GoodIn wsL_after (wsV RL 65 RX4 yX4_after wsX4_after) := goodIn_app (goodIn_of _ (by decide +kernel)) ggL_after_X4_after
theorem dL_after_0 : decode cL_after 0 = .ok (.aload_n 3, 1) := by decide +kernel
theorem dL_after_1 : decode cL_after 1 = .ok (.iconst 0, 1) := by decide +kernel
theorem dL_after_2 : decode cL_after 2 = .ok (.aload_n 0, 1) := by decide +kernel
theorem dL_after_3 : decode cL_after 3 = .ok (.iload_n 1, 1) := by decide +kernel
theorem dL_after_4 : decode cL_after 4 = .ok (.iload_n 2, 1) := by decide +kernel
theorem dL_after_5 : decode cL_after 5 = .ok (.invokevirtual 65, 3) := by decide +kernel
theorem dL_after_8 : decode cL_after 8 = .ok (.i2l, 1) := by decide +kernel
theorem dL_after_9 : decode cL_after 9 = .ok (.lastore, 1) := by decide +kernel
theorem dL_after_10 : decode cL_after 10 = .ok (.goto 15, 3) := by decide +kernel
theorem dL_after_13 : decode cL_after 13 = .ok (.astore 4, 2) := by decide +kernel
theorem dL_after_15 : decode cL_after 15 = .ok (.iconst 1, 1) := by decide +kernel
theorem dL_after_16 : decode cL_after 16 = .ok (.ireturn, 1) := by decide +kernel
theorem dL_after_17 : decode cL_after 17 = .ok (.astore 4, 2) := by decide +kernel
theorem dL_after_19 : decode cL_after 19 = .ok (.iconst 2, 1) := by decide +kernel
theorem dL_after_20 : decode cL_after 20 = .ok (.ireturn, 1) := by decide +kernel
theorem dL_after_21 : decode cL_after 21 = .ok (.astore 4, 2) := by decide +kernel
theorem dL_after_23 : decode cL_after 23 = .ok (.iconst 3, 1) := by decide +kernel
theorem dL_after_24 : decode cL_after 24 = .ok (.ireturn, 1) := by decide +kernel
theorem dL_after_25 : decode cL_after 25 = .ok (.iconst 0, 1) := by decide +kernel
theorem dL_after_26 : decode cL_after 26 = .ok (.ireturn, 1) := by decide +kernel
set_option maxRecDepth 20000 in
theorem ggL_depth_X4_depth : GoodIn wsL_depth wsX4_depth := goodIn_ca (goodIn_r _ [6, 7, 8, 9, 10, 11, 5, 12, 13, 14, 15, 16, 17, 18, 19, 20, 21, 22, 23, 24, 25, 26, 27] (by decide +kernel) (by decide +kernel)) (goodIn_sub (fun _ h => List.mem_cons_of_mem _ (List.mem_append_right _ h)) (by decide +kernel))
set_option maxRecDepth 20000 in
theorem gL_depth_X4_depth : GoodIn wsL_depth (wsV RL 68 RX4 yX4_depth wsX4_depth) := goodIn_app (goodIn_of _ (by decide +kernel)) ggL_depth_X4_depth
theorem dL_depth_0 : decode cL_depth 0 = .ok (.aload_n 2, 1) := by decide +kernel
theorem dL_depth_1 : decode cL_depth 1 = .ok (.iconst 0, 1) := by decide +kernel
theorem dL_depth_2 : decode cL_depth 2 = .ok (.aload_n 0, 1) := by decide +kernel
theorem dL_depth_3 : decode cL_depth 3 = .ok (.iload_n 1, 1) := by decide +kernel
theorem dL_depth_4 : decode cL_depth 4 = .ok (.invokevirtual 68, 3) := by decide +kernel
theorem dL_depth_7 : decode cL_depth 7 = .ok (.i2l, 1) := by decide +kernel
theorem dL_depth_8 : decode cL_depth 8 = .ok (.lastore, 1) := by decide +kernel
theorem dL_depth_9 : decode cL_depth 9 = .ok (.goto 6, 3) := by decide +kernel
theorem dL_depth_12 : decode cL_depth 12 = .ok (.astore_n 3, 1) := by decide +kernel
theorem dL_depth_13 : decode cL_depth 13 = .ok (.iconst 1, 1) := by decide +kernel
theorem dL_depth_14 : decode cL_depth 14 = .ok (.ireturn, 1) := by decide +kernel
theorem dL_depth_15 : decode cL_depth 15 = .ok (.iconst 0, 1) := by decide +kernel
theorem dL_depth_16 : decode cL_depth 16 = .ok (.ireturn, 1) := by decide +kernel
set_option maxRecDepth 20000 in
theorem ggL_nesting_X4_nesting : GoodIn wsL_nesting wsX4_nesting := goodIn_ca (goodIn_r _ [6, 7, 8, 9, 10, 11, 5, 12, 13, 14, 15, 16, 17, 18, 19, 20, 21, 22, 23, 24, 25, 26, 27] (by decide +kernel) (by decide +kernel)) (goodIn_sub (fun _ h => List.mem_cons_of_mem _ (List.mem_append_right _ h)) (by decide +kernel))
set_option maxRecDepth 20000 in
theorem gL_nesting_X4_nesting : GoodIn wsL_nesting (wsV RL 71 RX4 yX4_nesting wsX4_nesting) := goodIn_app (goodIn_of _ (by decide +kernel)) ggL_nesting_X4_nesting
theorem dL_nesting_0 : decode cL_nesting 0 = .ok (.aload_n 2, 1) := by decide +kernel
theorem dL_nesting_1 : decode cL_nesting 1 = .ok (.iconst 0, 1) := by decide +kernel
theorem dL_nesting_2 : decode cL_nesting 2 = .ok (.aload_n 0, 1) := by decide +kernel
theorem dL_nesting_3 : decode cL_nesting 3 = .ok (.iload_n 1, 1) := by decide +kernel
theorem dL_nesting_4 : decode cL_nesting 4 = .ok (.invokevirtual 71, 3) := by decide +kernel
theorem dL_nesting_7 : decode cL_nesting 7 = .ok (.i2l, 1) := by decide +kernel
theorem dL_nesting_8 : decode cL_nesting 8 = .ok (.lastore, 1) := by decide +kernel
theorem dL_nesting_9 : decode cL_nesting 9 = .ok (.goto 6, 3) := by decide +kernel
theorem dL_nesting_12 : decode cL_nesting 12 = .ok (.astore_n 3, 1) := by decide +kernel
theorem dL_nesting_13 : decode cL_nesting 13 = .ok (.iconst 1, 1) := by decide +kernel
theorem dL_nesting_14 : decode cL_nesting 14 = .ok (.ireturn, 1) := by decide +kernel
theorem dL_nesting_15 : decode cL_nesting 15 = .ok (.iconst 0, 1) := by decide +kernel
theorem dL_nesting_16 : decode cL_nesting 16 = .ok (.ireturn, 1) := by decide +kernel
set_option maxRecDepth 20000 in
theorem ggL_where_X4_where : GoodIn wsL_where wsX4_where := goodIn_ca (goodIn_r _ [6, 7, 8, 9, 10, 5, 11, 12, 13, 14, 15, 16, 17, 18, 19, 20, 21, 22, 23, 24, 25, 26, 27, 28, 29, 30, 31, 32, 33, 34, 35, 36, 37, 38, 39, 40, 41, 42, 43, 44, 45, 46, 47, 48, 49, 50, 51, 52, 53, 54, 55, 56, 57, 58, 59, 60, 61, 62, 63, 64, 65, 66, 67, 68, 69, 70, 71, 72, 73, 74, 75, 76, 77, 78, 79, 80, 81, 82, 83, 84, 85, 86, 87, 88, 89] (by decide +kernel) (by decide +kernel)) (goodIn_sub (fun _ h => List.mem_cons_of_mem _ (List.mem_append_right _ h)) (by decide +kernel))
set_option maxRecDepth 20000 in
theorem gL_where_X4_where : GoodIn wsL_where (wsV RL 74 RX4 yX4_where wsX4_where) := goodIn_app (goodIn_of _ (by decide +kernel)) ggL_where_X4_where
theorem dL_where_0 : decode cL_where 0 = .ok (.aload_n 2, 1) := by decide +kernel
theorem dL_where_1 : decode cL_where 1 = .ok (.iconst 0, 1) := by decide +kernel
theorem dL_where_2 : decode cL_where 2 = .ok (.aload_n 0, 1) := by decide +kernel
theorem dL_where_3 : decode cL_where 3 = .ok (.iload_n 1, 1) := by decide +kernel
theorem dL_where_4 : decode cL_where 4 = .ok (.invokevirtual 74, 3) := by decide +kernel
theorem dL_where_7 : decode cL_where 7 = .ok (.i2l, 1) := by decide +kernel
theorem dL_where_8 : decode cL_where 8 = .ok (.lastore, 1) := by decide +kernel
theorem dL_where_9 : decode cL_where 9 = .ok (.goto 6, 3) := by decide +kernel
theorem dL_where_12 : decode cL_where 12 = .ok (.astore_n 3, 1) := by decide +kernel
theorem dL_where_13 : decode cL_where 13 = .ok (.iconst 1, 1) := by decide +kernel
theorem dL_where_14 : decode cL_where 14 = .ok (.ireturn, 1) := by decide +kernel
theorem dL_where_15 : decode cL_where 15 = .ok (.iconst 0, 1) := by decide +kernel
theorem dL_where_16 : decode cL_where 16 = .ok (.ireturn, 1) := by decide +kernel
set_option maxRecDepth 20000 in
theorem ggL_holds_X4_holds : GoodIn wsL_holds wsX4_holds := goodIn_ca (goodIn_ca (goodIn_r _ [7, 8, 9, 10, 11, 12, 13, 6, 14, 15, 16, 17, 18, 19, 20, 21, 22, 23, 24, 25, 26, 27, 28, 29, 30, 31, 32, 33, 34, 35, 36, 37, 38, 39, 40, 41, 42, 43, 44, 45, 46, 47, 48, 49, 50, 51, 52, 53, 54, 55, 56, 57, 58, 59, 60, 61, 62, 63, 64, 65, 66, 67, 68, 69, 70, 71, 72, 73, 74, 75, 76, 77, 78, 79, 80, 81, 82, 83, 84, 85, 86, 87, 88, 89, 90, 91, 92, 93, 94, 95, 96, 97, 98, 99, 100] (by decide +kernel) (by decide +kernel)) (goodIn_sub (fun _ h => List.mem_cons_of_mem _ (List.mem_append_left _ (List.mem_append_right _ h))) (by decide +kernel))) (goodIn_sub (fun _ h => List.mem_cons_of_mem _ (List.mem_append_right _ h)) (by decide +kernel))
set_option maxRecDepth 20000 in
theorem gL_holds_X4_holds : GoodIn wsL_holds (wsV RL 77 RX4 yX4_holds wsX4_holds) := goodIn_app (goodIn_of _ (by decide +kernel)) ggL_holds_X4_holds
theorem dL_holds_0 : decode cL_holds 0 = .ok (.aload_n 2, 1) := by decide +kernel
theorem dL_holds_1 : decode cL_holds 1 = .ok (.iconst 0, 1) := by decide +kernel
theorem dL_holds_2 : decode cL_holds 2 = .ok (.aload_n 0, 1) := by decide +kernel
theorem dL_holds_3 : decode cL_holds 3 = .ok (.iload_n 1, 1) := by decide +kernel
theorem dL_holds_4 : decode cL_holds 4 = .ok (.invokevirtual 77, 3) := by decide +kernel
theorem dL_holds_7 : decode cL_holds 7 = .ok (.ifCond .eq 7, 3) := by decide +kernel
theorem dL_holds_10 : decode cL_holds 10 = .ok (.lconst 1, 1) := by decide +kernel
theorem dL_holds_11 : decode cL_holds 11 = .ok (.goto 4, 3) := by decide +kernel
theorem dL_holds_14 : decode cL_holds 14 = .ok (.lconst 0, 1) := by decide +kernel
theorem dL_holds_15 : decode cL_holds 15 = .ok (.lastore, 1) := by decide +kernel
theorem dL_holds_16 : decode cL_holds 16 = .ok (.goto 9, 3) := by decide +kernel
theorem dL_holds_19 : decode cL_holds 19 = .ok (.astore_n 3, 1) := by decide +kernel
theorem dL_holds_20 : decode cL_holds 20 = .ok (.iconst 1, 1) := by decide +kernel
theorem dL_holds_21 : decode cL_holds 21 = .ok (.ireturn, 1) := by decide +kernel
theorem dL_holds_22 : decode cL_holds 22 = .ok (.astore_n 3, 1) := by decide +kernel
theorem dL_holds_23 : decode cL_holds 23 = .ok (.iconst 2, 1) := by decide +kernel
theorem dL_holds_24 : decode cL_holds 24 = .ok (.ireturn, 1) := by decide +kernel
theorem dL_holds_25 : decode cL_holds 25 = .ok (.iconst 0, 1) := by decide +kernel
theorem dL_holds_26 : decode cL_holds 26 = .ok (.ireturn, 1) := by decide +kernel
set_option maxRecDepth 20000 in
theorem ggL_share_X4_share : GoodIn wsL_share wsX4_share := goodIn_ca (goodIn_r _ [6, 7, 8, 9, 10, 11, 12, 5, 13, 14, 15, 16, 17, 18, 19, 20, 21, 22, 23, 24, 25, 26, 27, 28, 29, 30, 31, 32, 33, 34, 35, 36, 37, 38, 39, 40, 41, 42, 43, 44, 45, 46, 47, 48, 49, 50, 51, 52, 53, 54, 55, 56, 57, 58, 59, 60, 61, 62, 63, 64, 65, 66, 67, 68, 69, 70, 71, 72, 73, 74, 75, 76, 77, 78, 79, 80, 81, 82, 83, 84, 85, 86, 87, 88, 89, 90, 91, 92, 93, 94, 95, 96, 97, 98] (by decide +kernel) (by decide +kernel)) (goodIn_sub (fun _ h => List.mem_cons_of_mem _ (List.mem_append_right _ h)) (by decide +kernel))
set_option maxRecDepth 20000 in
theorem gL_share_X4_share : GoodIn wsL_share (wsV RL 81 RX4 yX4_share wsX4_share) := goodIn_app (goodIn_of _ (by decide +kernel)) ggL_share_X4_share
theorem dL_share_0 : decode cL_share 0 = .ok (.aload_n 2, 1) := by decide +kernel
theorem dL_share_1 : decode cL_share 1 = .ok (.iconst 0, 1) := by decide +kernel
theorem dL_share_2 : decode cL_share 2 = .ok (.aload_n 0, 1) := by decide +kernel
theorem dL_share_3 : decode cL_share 3 = .ok (.iload_n 1, 1) := by decide +kernel
theorem dL_share_4 : decode cL_share 4 = .ok (.invokevirtual 81, 3) := by decide +kernel
theorem dL_share_7 : decode cL_share 7 = .ok (.dastore, 1) := by decide +kernel
theorem dL_share_8 : decode cL_share 8 = .ok (.goto 6, 3) := by decide +kernel
theorem dL_share_11 : decode cL_share 11 = .ok (.astore_n 3, 1) := by decide +kernel
theorem dL_share_12 : decode cL_share 12 = .ok (.iconst 1, 1) := by decide +kernel
theorem dL_share_13 : decode cL_share 13 = .ok (.ireturn, 1) := by decide +kernel
theorem dL_share_14 : decode cL_share 14 = .ok (.iconst 0, 1) := by decide +kernel
theorem dL_share_15 : decode cL_share 15 = .ok (.ireturn, 1) := by decide +kernel
set_option maxRecDepth 20000 in
theorem ggL_decided_X4_decided : GoodIn wsL_decided wsX4_decided := goodIn_ca (goodIn_ca (goodIn_r _ [7, 8, 9, 10, 11, 12, 13, 6, 14, 15, 16, 17, 18, 19, 20, 21, 22, 23, 24, 25, 26, 27, 28, 29, 30, 31, 32, 33, 34, 35, 36, 37, 38, 39, 40] (by decide +kernel) (by decide +kernel)) (goodIn_sub (fun _ h => List.mem_cons_of_mem _ (List.mem_append_left _ (List.mem_append_right _ h))) (by decide +kernel))) (goodIn_sub (fun _ h => List.mem_cons_of_mem _ (List.mem_append_right _ h)) (by decide +kernel))
set_option maxRecDepth 20000 in
theorem gL_decided_X4_decided : GoodIn wsL_decided (wsV RL 85 RX4 yX4_decided wsX4_decided) := goodIn_app (goodIn_of _ (by decide +kernel)) ggL_decided_X4_decided
theorem dL_decided_0 : decode cL_decided 0 = .ok (.aload_n 2, 1) := by decide +kernel
theorem dL_decided_1 : decode cL_decided 1 = .ok (.iconst 0, 1) := by decide +kernel
theorem dL_decided_2 : decode cL_decided 2 = .ok (.aload_n 0, 1) := by decide +kernel
theorem dL_decided_3 : decode cL_decided 3 = .ok (.iload_n 1, 1) := by decide +kernel
theorem dL_decided_4 : decode cL_decided 4 = .ok (.invokevirtual 85, 3) := by decide +kernel
theorem dL_decided_7 : decode cL_decided 7 = .ok (.i2l, 1) := by decide +kernel
theorem dL_decided_8 : decode cL_decided 8 = .ok (.lastore, 1) := by decide +kernel
theorem dL_decided_9 : decode cL_decided 9 = .ok (.goto 9, 3) := by decide +kernel
theorem dL_decided_12 : decode cL_decided 12 = .ok (.astore_n 3, 1) := by decide +kernel
theorem dL_decided_13 : decode cL_decided 13 = .ok (.iconst 1, 1) := by decide +kernel
theorem dL_decided_14 : decode cL_decided 14 = .ok (.ireturn, 1) := by decide +kernel
theorem dL_decided_15 : decode cL_decided 15 = .ok (.astore_n 3, 1) := by decide +kernel
theorem dL_decided_16 : decode cL_decided 16 = .ok (.iconst 2, 1) := by decide +kernel
theorem dL_decided_17 : decode cL_decided 17 = .ok (.ireturn, 1) := by decide +kernel
theorem dL_decided_18 : decode cL_decided 18 = .ok (.iconst 0, 1) := by decide +kernel
theorem dL_decided_19 : decode cL_decided 19 = .ok (.ireturn, 1) := by decide +kernel
set_option maxRecDepth 20000 in
theorem ggL_reached_X4_reached : GoodIn wsL_reached wsX4_reached := goodIn_ca (goodIn_ca (goodIn_r _ [7, 8, 9, 10, 11, 6, 12, 13, 14, 15, 16, 17, 18, 19, 20, 21, 22, 23, 24, 25, 26, 27, 28, 29, 30, 31, 32, 33, 34, 35, 36, 37, 38, 39, 40, 41, 42] (by decide +kernel) (by decide +kernel)) (goodIn_sub (fun _ h => List.mem_cons_of_mem _ (List.mem_append_left _ (List.mem_append_right _ h))) (by decide +kernel))) (goodIn_sub (fun _ h => List.mem_cons_of_mem _ (List.mem_append_right _ h)) (by decide +kernel))
set_option maxRecDepth 20000 in
theorem gL_reached_X4_reached : GoodIn wsL_reached (wsV RL 88 RX4 yX4_reached wsX4_reached) := goodIn_app (goodIn_of _ (by decide +kernel)) ggL_reached_X4_reached
theorem dL_reached_0 : decode cL_reached 0 = .ok (.aload_n 3, 1) := by decide +kernel
theorem dL_reached_1 : decode cL_reached 1 = .ok (.iconst 0, 1) := by decide +kernel
theorem dL_reached_2 : decode cL_reached 2 = .ok (.aload_n 0, 1) := by decide +kernel
theorem dL_reached_3 : decode cL_reached 3 = .ok (.iload_n 1, 1) := by decide +kernel
theorem dL_reached_4 : decode cL_reached 4 = .ok (.iload_n 2, 1) := by decide +kernel
theorem dL_reached_5 : decode cL_reached 5 = .ok (.invokevirtual 88, 3) := by decide +kernel
theorem dL_reached_8 : decode cL_reached 8 = .ok (.i2l, 1) := by decide +kernel
theorem dL_reached_9 : decode cL_reached 9 = .ok (.lastore, 1) := by decide +kernel
theorem dL_reached_10 : decode cL_reached 10 = .ok (.goto 11, 3) := by decide +kernel
theorem dL_reached_13 : decode cL_reached 13 = .ok (.astore 4, 2) := by decide +kernel
theorem dL_reached_15 : decode cL_reached 15 = .ok (.iconst 1, 1) := by decide +kernel
theorem dL_reached_16 : decode cL_reached 16 = .ok (.ireturn, 1) := by decide +kernel
theorem dL_reached_17 : decode cL_reached 17 = .ok (.astore 4, 2) := by decide +kernel
theorem dL_reached_19 : decode cL_reached 19 = .ok (.iconst 2, 1) := by decide +kernel
theorem dL_reached_20 : decode cL_reached 20 = .ok (.ireturn, 1) := by decide +kernel
theorem dL_reached_21 : decode cL_reached 21 = .ok (.iconst 0, 1) := by decide +kernel
theorem dL_reached_22 : decode cL_reached 22 = .ok (.ireturn, 1) := by decide +kernel
set_option maxRecDepth 20000 in
theorem ggL_areAlike_X4_areAlike : GoodIn wsL_areAlike wsX4_areAlike := goodIn_ca (goodIn_r _ [6, 7, 8, 9, 10, 11, 5, 12, 13, 14, 15, 16, 17, 18, 19, 20, 21, 22, 23, 24, 25, 26, 27, 28, 29, 30, 31, 32, 33, 34, 35, 36, 37, 38, 39, 40, 41, 42, 43, 44, 45, 46, 47, 48, 49, 50, 51, 52, 53, 54, 55, 56, 57, 58, 59, 60, 61, 62, 63, 64, 65, 66, 67, 68] (by decide +kernel) (by decide +kernel)) (goodIn_sub (fun _ h => List.mem_cons_of_mem _ (List.mem_append_right _ h)) (by decide +kernel))
set_option maxRecDepth 20000 in
theorem gL_areAlike_X4_areAlike : GoodIn wsL_areAlike (wsV RL 91 RX4 yX4_areAlike wsX4_areAlike) := goodIn_app (goodIn_of _ (by decide +kernel)) ggL_areAlike_X4_areAlike
theorem dL_areAlike_0 : decode cL_areAlike 0 = .ok (.aload_n 3, 1) := by decide +kernel
theorem dL_areAlike_1 : decode cL_areAlike 1 = .ok (.iconst 0, 1) := by decide +kernel
theorem dL_areAlike_2 : decode cL_areAlike 2 = .ok (.aload_n 0, 1) := by decide +kernel
theorem dL_areAlike_3 : decode cL_areAlike 3 = .ok (.iload_n 1, 1) := by decide +kernel
theorem dL_areAlike_4 : decode cL_areAlike 4 = .ok (.iload_n 2, 1) := by decide +kernel
theorem dL_areAlike_5 : decode cL_areAlike 5 = .ok (.invokevirtual 91, 3) := by decide +kernel
theorem dL_areAlike_8 : decode cL_areAlike 8 = .ok (.ifCond .eq 7, 3) := by decide +kernel
theorem dL_areAlike_11 : decode cL_areAlike 11 = .ok (.lconst 1, 1) := by decide +kernel
theorem dL_areAlike_12 : decode cL_areAlike 12 = .ok (.goto 4, 3) := by decide +kernel
theorem dL_areAlike_15 : decode cL_areAlike 15 = .ok (.lconst 0, 1) := by decide +kernel
theorem dL_areAlike_16 : decode cL_areAlike 16 = .ok (.lastore, 1) := by decide +kernel
theorem dL_areAlike_17 : decode cL_areAlike 17 = .ok (.goto 7, 3) := by decide +kernel
theorem dL_areAlike_20 : decode cL_areAlike 20 = .ok (.astore 4, 2) := by decide +kernel
theorem dL_areAlike_22 : decode cL_areAlike 22 = .ok (.iconst 1, 1) := by decide +kernel
theorem dL_areAlike_23 : decode cL_areAlike 23 = .ok (.ireturn, 1) := by decide +kernel
theorem dL_areAlike_24 : decode cL_areAlike 24 = .ok (.iconst 0, 1) := by decide +kernel
theorem dL_areAlike_25 : decode cL_areAlike 25 = .ok (.ireturn, 1) := by decide +kernel
set_option maxRecDepth 20000 in
theorem ggL_announce_X4_announce : GoodIn wsL_announce wsX4_announce := goodIn_ca (goodIn_ca (goodIn_r _ [7, 8, 9, 10, 11, 12, 6, 13, 14, 15, 16, 17, 18, 19, 20, 21, 22, 23, 24, 25, 26, 27, 28, 29, 30, 31, 32, 33, 34, 35, 36, 37, 38, 39, 40, 41, 42, 43, 44, 45, 46, 47, 48, 49, 50, 51, 52, 53, 54, 55, 56, 57, 58, 59, 60, 61, 62, 63, 64, 65, 66, 67, 68, 69, 70, 71, 72, 73, 74, 75, 76, 77, 78, 79, 80, 81, 82, 83, 84, 85, 86, 87, 88, 89, 90, 91, 92, 93, 94, 95, 96, 97, 98, 99, 100, 101, 102, 103, 104, 105, 106, 107, 108, 109, 110, 111, 112, 113, 114, 115, 116, 117, 118, 119, 120, 121, 122, 123, 124, 125, 126, 127] (by decide +kernel) (by decide +kernel)) (goodIn_sub (fun _ h => List.mem_cons_of_mem _ (List.mem_append_left _ (List.mem_append_right _ h))) (by decide +kernel))) (goodIn_sub (fun _ h => List.mem_cons_of_mem _ (List.mem_append_right _ h)) (by decide +kernel))
set_option maxRecDepth 20000 in
theorem gL_announce_X4_announce : GoodIn wsL_announce (wsV RL 95 RX4 yX4_announce wsX4_announce) := goodIn_app (goodIn_of _ (by decide +kernel)) ggL_announce_X4_announce
theorem dL_announce_0 : decode cL_announce 0 = .ok (.aload_n 2, 1) := by decide +kernel
theorem dL_announce_1 : decode cL_announce 1 = .ok (.iconst 0, 1) := by decide +kernel
theorem dL_announce_2 : decode cL_announce 2 = .ok (.aload_n 0, 1) := by decide +kernel
theorem dL_announce_3 : decode cL_announce 3 = .ok (.iload_n 1, 1) := by decide +kernel
theorem dL_announce_4 : decode cL_announce 4 = .ok (.invokevirtual 95, 3) := by decide +kernel
theorem dL_announce_7 : decode cL_announce 7 = .ok (.i2l, 1) := by decide +kernel
theorem dL_announce_8 : decode cL_announce 8 = .ok (.lastore, 1) := by decide +kernel
theorem dL_announce_9 : decode cL_announce 9 = .ok (.goto 9, 3) := by decide +kernel
theorem dL_announce_12 : decode cL_announce 12 = .ok (.astore_n 3, 1) := by decide +kernel
theorem dL_announce_13 : decode cL_announce 13 = .ok (.iconst 1, 1) := by decide +kernel
theorem dL_announce_14 : decode cL_announce 14 = .ok (.ireturn, 1) := by decide +kernel
theorem dL_announce_15 : decode cL_announce 15 = .ok (.astore_n 3, 1) := by decide +kernel
theorem dL_announce_16 : decode cL_announce 16 = .ok (.iconst 2, 1) := by decide +kernel
theorem dL_announce_17 : decode cL_announce 17 = .ok (.ireturn, 1) := by decide +kernel
theorem dL_announce_18 : decode cL_announce 18 = .ok (.iconst 0, 1) := by decide +kernel
theorem dL_announce_19 : decode cL_announce 19 = .ok (.ireturn, 1) := by decide +kernel
set_option maxRecDepth 20000 in
theorem ggL_tell_X4_tell : GoodIn wsL_tell wsX4_tell := goodIn_ca (goodIn_ca (goodIn_r _ [7, 8, 9, 10, 11, 12, 6, 13, 14, 15, 16, 17, 18, 19, 20, 21, 22, 23, 24, 25, 26, 27, 28, 29, 30, 31, 32, 33, 34, 35, 36, 37, 38, 39, 40, 41, 42, 43, 44, 45, 46, 47, 48, 49, 50, 51, 52, 53, 54, 55, 56, 57, 58, 59, 60, 61, 62, 63, 64, 65, 66, 67, 68, 69, 70, 71, 72, 73, 74, 75, 76, 77, 78, 79, 80, 81, 82, 83, 84, 85, 86, 87, 88, 89, 90, 91, 92, 93, 94, 95, 96, 97, 98, 99, 100, 101, 102, 103, 104, 105, 106, 107, 108] (by decide +kernel) (by decide +kernel)) (goodIn_sub (fun _ h => List.mem_cons_of_mem _ (List.mem_append_left _ (List.mem_append_right _ h))) (by decide +kernel))) (goodIn_sub (fun _ h => List.mem_cons_of_mem _ (List.mem_append_right _ h)) (by decide +kernel))
set_option maxRecDepth 20000 in
theorem gL_tell_X4_tell : GoodIn wsL_tell (wsV RL 98 RX4 yX4_tell wsX4_tell) := goodIn_app (goodIn_of _ (by decide +kernel)) ggL_tell_X4_tell
theorem dL_tell_0 : decode cL_tell 0 = .ok (.aload_n 3, 1) := by decide +kernel
theorem dL_tell_1 : decode cL_tell 1 = .ok (.iconst 0, 1) := by decide +kernel
theorem dL_tell_2 : decode cL_tell 2 = .ok (.aload_n 0, 1) := by decide +kernel
theorem dL_tell_3 : decode cL_tell 3 = .ok (.iload_n 1, 1) := by decide +kernel
theorem dL_tell_4 : decode cL_tell 4 = .ok (.iload_n 2, 1) := by decide +kernel
theorem dL_tell_5 : decode cL_tell 5 = .ok (.invokevirtual 98, 3) := by decide +kernel
theorem dL_tell_8 : decode cL_tell 8 = .ok (.i2l, 1) := by decide +kernel
theorem dL_tell_9 : decode cL_tell 9 = .ok (.lastore, 1) := by decide +kernel
theorem dL_tell_10 : decode cL_tell 10 = .ok (.goto 11, 3) := by decide +kernel
theorem dL_tell_13 : decode cL_tell 13 = .ok (.astore 4, 2) := by decide +kernel
theorem dL_tell_15 : decode cL_tell 15 = .ok (.iconst 1, 1) := by decide +kernel
theorem dL_tell_16 : decode cL_tell 16 = .ok (.ireturn, 1) := by decide +kernel
theorem dL_tell_17 : decode cL_tell 17 = .ok (.astore 4, 2) := by decide +kernel
theorem dL_tell_19 : decode cL_tell 19 = .ok (.iconst 2, 1) := by decide +kernel
theorem dL_tell_20 : decode cL_tell 20 = .ok (.ireturn, 1) := by decide +kernel
theorem dL_tell_21 : decode cL_tell 21 = .ok (.iconst 0, 1) := by decide +kernel
theorem dL_tell_22 : decode cL_tell 22 = .ok (.ireturn, 1) := by decide +kernel
set_option maxRecDepth 20000 in
theorem ggL_whisper_X4_whisper : GoodIn wsL_whisper wsX4_whisper := goodIn_ca (goodIn_ca (goodIn_ca (goodIn_r _ [8, 9, 10, 11, 12, 13, 14, 15, 16, 7, 17, 18, 19, 20, 21, 22, 23, 24, 25, 26, 27, 28, 29, 30, 31, 32, 33, 34, 35, 36, 37, 38, 39, 40, 41, 42, 43, 44, 45, 46, 47, 48, 49, 50, 51, 52, 53, 54, 55, 56, 57, 58, 59, 60, 61, 62, 63, 64, 65, 66, 67, 68, 69, 70, 71, 72, 73, 74, 75, 76, 77, 78, 79, 80, 81, 82, 83, 84, 85, 86, 87, 88, 89, 90, 91, 92, 93, 94, 95, 96, 97, 98, 99, 100, 101, 102, 103, 104, 105, 106, 107, 108, 109, 110, 111, 112, 113, 114, 115, 116, 117, 118, 119, 120, 121, 122, 123, 124, 125, 126, 127, 128, 129, 130, 131, 132, 133] (by decide +kernel) (by decide +kernel)) (goodIn_sub (fun _ h => List.mem_cons_of_mem _ (List.mem_append_left _ (List.mem_append_left _ (List.mem_append_right _ h)))) (by decide +kernel))) (goodIn_sub (fun _ h => List.mem_cons_of_mem _ (List.mem_append_left _ (List.mem_append_right _ h))) (by decide +kernel))) (goodIn_sub (fun _ h => List.mem_cons_of_mem _ (List.mem_append_right _ h)) (by decide +kernel))
set_option maxRecDepth 20000 in
theorem gL_whisper_X4_whisper : GoodIn wsL_whisper (wsV RL 101 RX4 yX4_whisper wsX4_whisper) := goodIn_app (goodIn_of _ (by decide +kernel)) ggL_whisper_X4_whisper
theorem dL_whisper_0 : decode cL_whisper 0 = .ok (.aload_n 3, 1) := by decide +kernel
theorem dL_whisper_1 : decode cL_whisper 1 = .ok (.iconst 0, 1) := by decide +kernel
theorem dL_whisper_2 : decode cL_whisper 2 = .ok (.aload_n 0, 1) := by decide +kernel
theorem dL_whisper_3 : decode cL_whisper 3 = .ok (.iload_n 1, 1) := by decide +kernel
theorem dL_whisper_4 : decode cL_whisper 4 = .ok (.iload_n 2, 1) := by decide +kernel
theorem dL_whisper_5 : decode cL_whisper 5 = .ok (.invokevirtual 101, 3) := by decide +kernel
theorem dL_whisper_8 : decode cL_whisper 8 = .ok (.i2l, 1) := by decide +kernel
theorem dL_whisper_9 : decode cL_whisper 9 = .ok (.lastore, 1) := by decide +kernel
theorem dL_whisper_10 : decode cL_whisper 10 = .ok (.goto 15, 3) := by decide +kernel
theorem dL_whisper_13 : decode cL_whisper 13 = .ok (.astore 4, 2) := by decide +kernel
theorem dL_whisper_15 : decode cL_whisper 15 = .ok (.iconst 1, 1) := by decide +kernel
theorem dL_whisper_16 : decode cL_whisper 16 = .ok (.ireturn, 1) := by decide +kernel
theorem dL_whisper_17 : decode cL_whisper 17 = .ok (.astore 4, 2) := by decide +kernel
theorem dL_whisper_19 : decode cL_whisper 19 = .ok (.iconst 2, 1) := by decide +kernel
theorem dL_whisper_20 : decode cL_whisper 20 = .ok (.ireturn, 1) := by decide +kernel
theorem dL_whisper_21 : decode cL_whisper 21 = .ok (.astore 4, 2) := by decide +kernel
theorem dL_whisper_23 : decode cL_whisper 23 = .ok (.iconst 3, 1) := by decide +kernel
theorem dL_whisper_24 : decode cL_whisper 24 = .ok (.ireturn, 1) := by decide +kernel
theorem dL_whisper_25 : decode cL_whisper 25 = .ok (.iconst 0, 1) := by decide +kernel
theorem dL_whisper_26 : decode cL_whisper 26 = .ok (.ireturn, 1) := by decide +kernel
set_option maxRecDepth 20000 in
theorem ggL_law_X4_init : GoodIn wsL_law wsX4_init := goodIn_r _ [10, 11, 12, 13, 14, 15, 16, 17, 18, 19, 20, 21, 22, 23, 24, 25, 26, 27, 28, 29, 30, 31, 32, 33, 34, 35, 36, 37, 38, 39, 40, 41, 42, 43, 44, 45, 46, 47, 48, 49, 6, 50, 51, 52, 53, 54, 55, 56, 57, 58, 59, 60, 61, 62, 63, 64, 65, 66, 67, 68, 754, 755, 756, 757, 735, 736, 737, 738, 758, 759, 760, 761, 762, 763, 764, 765, 766, 767, 768, 769, 770, 771, 772] (by decide +kernel) (by decide +kernel)
set_option maxRecDepth 20000 in
theorem gL_law_X4_init : GoodIn wsL_law (wsX4_init) := ggL_law_X4_init
set_option maxRecDepth 20000 in
theorem ggL_law_X5_init : GoodIn wsL_law wsX5_init := goodIn_r _ [71, 72, 12, 13, 34, 73, 74, 75, 76, 77, 78, 79, 80, 81, 82, 83, 84, 739, 740, 741, 742, 743, 744, 745, 746, 747, 748, 749, 750, 751, 752, 753] (by decide +kernel) (by decide +kernel)
set_option maxRecDepth 20000 in
theorem gL_law_X5_init : GoodIn wsL_law (wsX5_init) := ggL_law_X5_init
set_option maxRecDepth 20000 in
theorem ggL_law_L_addWorld : GoodIn wsL_law wsL_addWorld := goodIn_ca (goodIn_ca (goodIn_r _ [88, 89, 90, 91, 92, 93, 2, 94, 95, 96, 17, 97, 98, 99, 100, 101, 102, 103, 104, 105, 106, 16, 107, 38, 35, 735, 736, 737, 738, 754, 755, 756, 757] (by decide +kernel) (by decide +kernel)) (goodIn_sub (fun _ h => List.mem_append_left _ (List.mem_append_left _ (List.mem_append_right _ h))) (by decide +kernel))) (goodIn_sub (fun _ h => List.mem_append_left _ (List.mem_append_right _ h)) (by decide +kernel))
set_option maxRecDepth 20000 in
theorem gL_law_L_addWorld : GoodIn wsL_law (va_wsS RL 108 yL_addWorld wsL_addWorld) := goodIn_app (goodIn_of _ (by decide +kernel)) ggL_law_L_addWorld
set_option maxRecDepth 20000 in
theorem ggL_law_X5_addWorld : GoodIn wsL_law wsX5_addWorld := goodIn_r _ [111, 112, 113, 73, 74, 114, 115, 116, 5, 117, 118, 119, 120, 121, 739, 740, 741, 742, 743, 744, 745, 746, 747, 748, 749, 750, 751, 752, 753] (by decide +kernel) (by decide +kernel)
set_option maxRecDepth 20000 in
theorem gL_law_X5_addWorld : GoodIn wsL_law (wsV RL 113 RX5 yX5_addWorld wsX5_addWorld) := goodIn_app (goodIn_of _ (by decide +kernel)) ggL_law_X5_addWorld
set_option maxRecDepth 20000 in
theorem ggL_law_X5_thrown : GoodIn wsL_law wsX5_thrown := goodIn_r _ [125, 112, 739, 740, 741, 742, 743, 744, 745, 746, 747, 748, 749, 750, 751, 752, 753] (by decide +kernel) (by decide +kernel)
set_option maxRecDepth 20000 in
theorem gL_law_X5_thrown : GoodIn wsL_law (wsV RL 114 RX5 yX5_thrown wsX5_thrown) := goodIn_app (goodIn_of _ (by decide +kernel)) ggL_law_X5_thrown
set_option maxRecDepth 20000 in
theorem ggL_law_L_setAtoms : GoodIn wsL_law wsL_setAtoms := goodIn_ca (goodIn_ca (goodIn_r _ [128, 129, 89, 130, 131, 132, 2, 133, 17, 134, 135, 136, 137, 138, 139, 140, 97, 98, 99, 100, 101, 102, 103, 735, 736, 737, 738, 754, 755, 756, 757] (by decide +kernel) (by decide +kernel)) (goodIn_sub (fun _ h => List.mem_append_right _ h) (by decide +kernel))) (goodIn_sub (fun _ h => List.mem_append_left _ (List.mem_append_right _ h)) (by decide +kernel))
set_option maxRecDepth 20000 in
theorem gL_law_L_setAtoms : GoodIn wsL_law (va_wsS RL 117 yL_setAtoms wsL_setAtoms) := goodIn_app (goodIn_of _ (by decide +kernel)) ggL_law_L_setAtoms
set_option maxRecDepth 20000 in
theorem ggL_law_X5_setAtoms : GoodIn wsL_law wsX5_setAtoms := goodIn_r _ [144, 112, 73, 145, 146, 147, 5, 148, 113, 118, 119, 120, 121, 115, 116, 117, 739, 740, 741, 742, 743, 744, 745, 746, 747, 748, 749, 750, 751, 752, 753] (by decide +kernel) (by decide +kernel)
set_option maxRecDepth 20000 in
theorem gL_law_X5_setAtoms : GoodIn wsL_law (wsV RL 120 RX5 yX5_setAtoms wsX5_setAtoms) := goodIn_app (goodIn_of _ (by decide +kernel)) ggL_law_X5_setAtoms
set_option maxRecDepth 20000 in
theorem ggL_law_L_connect : GoodIn wsL_law wsL_connect := goodIn_ca (goodIn_r _ [151, 129, 152, 153, 154, 2, 155, 17, 156, 157, 158, 159, 160, 139, 140, 135, 136, 137, 138, 97, 161, 162, 163, 164, 165, 166, 735, 736, 737, 738, 754, 755, 756, 757] (by decide +kernel) (by decide +kernel)) (goodIn_sub (fun _ h => List.mem_append_right _ h) (by decide +kernel))
set_option maxRecDepth 20000 in
theorem gL_law_L_connect : GoodIn wsL_law (va_wsS RL 121 yL_connect wsL_connect) := goodIn_app (goodIn_of _ (by decide +kernel)) ggL_law_L_connect
set_option maxRecDepth 20000 in
theorem ggL_law_X5_connect : GoodIn wsL_law wsX5_connect := goodIn_r _ [170, 112, 74, 171, 172, 5, 173, 145, 146, 147, 148, 113, 174, 175, 176, 739, 740, 741, 742, 743, 744, 745, 746, 747, 748, 749, 750, 751, 752, 753] (by decide +kernel) (by decide +kernel)
set_option maxRecDepth 20000 in
theorem gL_law_X5_connect : GoodIn wsL_law (wsV RL 124 RX5 yX5_connect wsX5_connect) := goodIn_app (goodIn_of _ (by decide +kernel)) ggL_law_X5_connect
set_option maxRecDepth 20000 in
theorem ggL_law_L_gather : GoodIn wsL_law wsL_gather := goodIn_ca (goodIn_ca (goodIn_r _ [179, 129, 89, 180, 181, 182, 2, 183, 102, 103, 17, 157, 158, 159, 160, 139, 140, 184, 185, 186, 16, 187, 38, 162, 163, 188, 189, 190, 191, 37, 165, 166, 192, 193, 194, 195, 196, 197, 198, 735, 736, 737, 738, 754, 755, 756, 757] (by decide +kernel) (by decide +kernel)) (goodIn_sub (fun _ h => List.mem_append_left _ (List.mem_append_right _ h)) (by decide +kernel))) (goodIn_sub (fun _ h => List.mem_append_right _ h) (by decide +kernel))
set_option maxRecDepth 20000 in
theorem gL_law_L_gather : GoodIn wsL_law (va_wsS RL 125 yL_gather wsL_gather) := goodIn_app (goodIn_of _ (by decide +kernel)) ggL_law_L_gather
set_option maxRecDepth 20000 in
theorem ggL_law_X5_gather : GoodIn wsL_law wsX5_gather := goodIn_r _ [202, 112, 113, 74, 171, 172, 5, 173, 118, 119, 120, 121, 174, 175, 176, 203, 193, 194, 195, 196, 197, 198, 739, 740, 741, 742, 743, 744, 745, 746, 747, 748, 749, 750, 751, 752, 753] (by decide +kernel) (by decide +kernel)
set_option maxRecDepth 20000 in
theorem gL_law_X5_gather : GoodIn wsL_law (wsV RL 127 RX5 yX5_gather wsX5_gather) := goodIn_app (goodIn_of _ (by decide +kernel)) ggL_law_X5_gather
set_option maxRecDepth 20000 in
theorem ggL_law_L_setActual : GoodIn wsL_law wsL_setActual := goodIn_ca (goodIn_r _ [206, 129, 207, 208, 209, 2, 210, 17, 211, 135, 136, 137, 138, 139, 140, 97, 735, 736, 737, 738, 754, 755, 756, 757] (by decide +kernel) (by decide +kernel)) (goodIn_sub (fun _ h => List.mem_append_right _ h) (by decide +kernel))
set_option maxRecDepth 20000 in
theorem gL_law_L_setActual : GoodIn wsL_law (va_wsS RL 128 yL_setActual wsL_setActual) := goodIn_app (goodIn_of _ (by decide +kernel)) ggL_law_L_setActual
set_option maxRecDepth 20000 in
theorem ggL_law_X5_setActual : GoodIn wsL_law wsX5_setActual := goodIn_r _ [215, 112, 114, 145, 146, 147, 5, 148, 113, 118, 119, 120, 121, 739, 740, 741, 742, 743, 744, 745, 746, 747, 748, 749, 750, 751, 752, 753] (by decide +kernel) (by decide +kernel)
set_option maxRecDepth 20000 in
theorem gL_law_X5_setActual : GoodIn wsL_law (wsV RL 130 RX5 yX5_setActual wsX5_setActual) := goodIn_app (goodIn_of _ (by decide +kernel)) ggL_law_X5_setActual
set_option maxRecDepth 20000 in
theorem ggL_law_L_actual : GoodIn wsL_law wsL_actual := goodIn_ca (goodIn_r _ [218, 90, 219, 220, 221, 2, 222, 17, 211, 223, 224, 225, 226, 95, 96, 97, 735, 736, 737, 738, 754, 755, 756, 757] (by decide +kernel) (by decide +kernel)) (goodIn_sub (fun _ h => List.mem_append_left _ (List.mem_append_left _ (List.mem_append_right _ h))) (by decide +kernel))
set_option maxRecDepth 20000 in
theorem gL_law_L_actual : GoodIn wsL_law (va_wsS RL 131 yL_actual wsL_actual) := goodIn_app (goodIn_of _ (by decide +kernel)) ggL_law_L_actual
set_option maxRecDepth 20000 in
theorem ggL_law_X5_actual : GoodIn wsL_law wsX5_actual := goodIn_r _ [230, 112, 113, 114, 118, 119, 120, 5, 121, 739, 740, 741, 742, 743, 744, 745, 746, 747, 748, 749, 750, 751, 752, 753] (by decide +kernel) (by decide +kernel)
set_option maxRecDepth 20000 in
theorem gL_law_X5_actual : GoodIn wsL_law (wsV RL 134 RX5 yX5_actual wsX5_actual) := goodIn_app (goodIn_of _ (by decide +kernel)) ggL_law_X5_actual
set_option maxRecDepth 20000 in
theorem ggL_law_X4_worldCount : GoodIn wsL_law wsX4_worldCount := goodIn_r _ [234, 17, 97, 735, 736, 737, 738, 754, 755, 756, 757] (by decide +kernel) (by decide +kernel)
set_option maxRecDepth 20000 in
theorem gL_law_X4_worldCount : GoodIn wsL_law (wsV RL 135 RX4 yX4_worldCount wsX4_worldCount) := goodIn_app (goodIn_of _ (by decide +kernel)) ggL_law_X4_worldCount
set_option maxRecDepth 20000 in
theorem ggL_law_X5_worldCount : GoodIn wsL_law wsX5_worldCount := goodIn_r _ [238, 112, 113, 739, 740, 741, 742, 743, 744, 745, 746, 747, 748, 749, 750, 751, 752, 753] (by decide +kernel) (by decide +kernel)
set_option maxRecDepth 20000 in
theorem gL_law_X5_worldCount : GoodIn wsL_law (wsV RL 138 RX5 yX5_worldCount wsX5_worldCount) := goodIn_app (goodIn_of _ (by decide +kernel)) ggL_law_X5_worldCount
set_option maxRecDepth 20000 in
theorem ggL_law_L_atoms : GoodIn wsL_law wsL_atoms := goodIn_ca (goodIn_r _ [241, 129, 242, 243, 244, 2, 245, 17, 134, 135, 136, 137, 138, 139, 140, 97, 735, 736, 737, 738, 754, 755, 756, 757] (by decide +kernel) (by decide +kernel)) (goodIn_sub (fun _ h => List.mem_append_right _ h) (by decide +kernel))
set_option maxRecDepth 20000 in
theorem gL_law_L_atoms : GoodIn wsL_law (va_wsS RL 139 yL_atoms wsL_atoms) := goodIn_app (goodIn_of _ (by decide +kernel)) ggL_law_L_atoms
set_option maxRecDepth 20000 in
theorem ggL_law_X5_atoms : GoodIn wsL_law wsX5_atoms := goodIn_r _ [249, 112, 73, 145, 146, 147, 5, 148, 113, 118, 119, 120, 121, 739, 740, 741, 742, 743, 744, 745, 746, 747, 748, 749, 750, 751, 752, 753] (by decide +kernel) (by decide +kernel)
set_option maxRecDepth 20000 in
theorem gL_law_X5_atoms : GoodIn wsL_law (wsV RL 141 RX5 yX5_atoms wsX5_atoms) := goodIn_app (goodIn_of _ (by decide +kernel)) ggL_law_X5_atoms
set_option maxRecDepth 20000 in
theorem ggL_law_L_seen : GoodIn wsL_law wsL_seen := goodIn_ca (goodIn_r _ [252, 129, 253, 254, 255, 2, 256, 17, 156, 157, 158, 159, 160, 139, 140, 135, 136, 137, 138, 97, 735, 736, 737, 738, 754, 755, 756, 757] (by decide +kernel) (by decide +kernel)) (goodIn_sub (fun _ h => List.mem_append_right _ h) (by decide +kernel))
set_option maxRecDepth 20000 in
theorem gL_law_L_seen : GoodIn wsL_law (va_wsS RL 142 yL_seen wsL_seen) := goodIn_app (goodIn_of _ (by decide +kernel)) ggL_law_L_seen
set_option maxRecDepth 20000 in
theorem ggL_law_X5_seen : GoodIn wsL_law wsX5_seen := goodIn_r _ [260, 112, 74, 171, 172, 5, 173, 145, 146, 147, 148, 113, 118, 119, 120, 121, 739, 740, 741, 742, 743, 744, 745, 746, 747, 748, 749, 750, 751, 752, 753] (by decide +kernel) (by decide +kernel)
set_option maxRecDepth 20000 in
theorem gL_law_X5_seen : GoodIn wsL_law (wsV RL 144 RX5 yX5_seen wsX5_seen) := goodIn_app (goodIn_of _ (by decide +kernel)) ggL_law_X5_seen
set_option maxRecDepth 20000 in
theorem ggL_law_L_arrowCount : GoodIn wsL_law wsL_arrowCount := goodIn_ca (goodIn_r _ [263, 129, 264, 265, 266, 2, 267, 17, 157, 158, 159, 160, 139, 140, 268, 269, 270, 16, 271, 38, 37, 192, 193, 194, 195, 196, 197, 198, 735, 736, 737, 738, 754, 755, 756, 757] (by decide +kernel) (by decide +kernel)) (goodIn_sub (fun _ h => List.mem_append_right _ h) (by decide +kernel))
set_option maxRecDepth 20000 in
theorem gL_law_L_arrowCount : GoodIn wsL_law (va_wsS RL 145 yL_arrowCount wsL_arrowCount) := goodIn_app (goodIn_of _ (by decide +kernel)) ggL_law_L_arrowCount
set_option maxRecDepth 20000 in
theorem ggL_law_X5_arrowCount : GoodIn wsL_law wsX5_arrowCount := goodIn_r _ [275, 112, 113, 74, 171, 172, 5, 173, 118, 119, 120, 121, 203, 193, 194, 195, 196, 197, 198, 739, 740, 741, 742, 743, 744, 745, 746, 747, 748, 749, 750, 751, 752, 753] (by decide +kernel) (by decide +kernel)
set_option maxRecDepth 20000 in
theorem gL_law_X5_arrowCount : GoodIn wsL_law (wsV RL 147 RX5 yX5_arrowCount wsX5_arrowCount) := goodIn_app (goodIn_of _ (by decide +kernel)) ggL_law_X5_arrowCount
set_option maxRecDepth 20000 in
theorem ggL_law_L_shape : GoodIn wsL_law wsL_shape := goodIn_ca (goodIn_r _ [278, 129, 279, 280, 281, 2, 282, 17, 157, 158, 159, 160, 139, 140, 283, 284, 285, 16, 286, 38, 37, 165, 166, 287, 288, 289, 290, 291, 292, 293, 294, 735, 736, 737, 738, 754, 755, 756, 757] (by decide +kernel) (by decide +kernel)) (goodIn_sub (fun _ h => List.mem_append_right _ h) (by decide +kernel))
set_option maxRecDepth 20000 in
theorem gL_law_L_shape : GoodIn wsL_law (va_wsS RL 148 yL_shape wsL_shape) := goodIn_app (goodIn_of _ (by decide +kernel)) ggL_law_L_shape
set_option maxRecDepth 20000 in
theorem ggL_law_X5_shape : GoodIn wsL_law wsX5_shape := goodIn_r _ [298, 112, 113, 74, 171, 172, 5, 173, 118, 119, 120, 121, 174, 175, 176, 739, 740, 741, 742, 743, 744, 745, 746, 747, 748, 749, 750, 751, 752, 753] (by decide +kernel) (by decide +kernel)
set_option maxRecDepth 20000 in
theorem gL_law_X5_shape : GoodIn wsL_law (wsV RL 150 RX5 yX5_shape wsX5_shape) := goodIn_app (goodIn_of _ (by decide +kernel)) ggL_law_X5_shape
set_option maxRecDepth 20000 in
theorem ggL_law_L_atom : GoodIn wsL_law wsL_atom := goodIn_ca (goodIn_ca (goodIn_r _ [301, 129, 90, 302, 303, 304, 2, 305, 139, 140, 21, 306, 307, 308, 309, 95, 96, 310, 311, 312, 313, 20, 314, 51, 44, 45, 46, 47, 48, 49, 50, 315, 316, 317, 318, 319, 320, 321, 322, 323, 324, 325, 326, 735, 736, 737, 738, 758, 759, 760, 761, 762, 763, 764, 765] (by decide +kernel) (by decide +kernel)) (goodIn_sub (fun _ h => List.mem_append_right _ h) (by decide +kernel))) (goodIn_sub (fun _ h => List.mem_append_left _ (List.mem_append_left _ (List.mem_append_right _ h))) (by decide +kernel))
set_option maxRecDepth 20000 in
theorem gL_law_L_atom : GoodIn wsL_law (va_wsS RL 151 yL_atom wsL_atom) := goodIn_app (goodIn_of _ (by decide +kernel)) ggL_law_L_atom
set_option maxRecDepth 20000 in
theorem ggL_law_X5_atom : GoodIn wsL_law wsX5_atom := goodIn_r _ [330, 112, 331, 332, 333, 5, 334, 335, 75, 76, 77, 78, 79, 118, 119, 120, 121, 739, 740, 741, 742, 743, 744, 745, 746, 747, 748, 749, 750, 751, 752, 753] (by decide +kernel) (by decide +kernel)
set_option maxRecDepth 20000 in
theorem gL_law_X5_atom : GoodIn wsL_law (wsV RL 153 RX5 yX5_atom wsX5_atom) := goodIn_app (goodIn_of _ (by decide +kernel)) ggL_law_X5_atom
set_option maxRecDepth 20000 in
theorem ggL_law_L_not : GoodIn wsL_law wsL_not := goodIn_ca (goodIn_ca (goodIn_r _ [338, 129, 90, 339, 340, 341, 2, 342, 21, 343, 344, 345, 346, 139, 140, 310, 306, 307, 308, 309, 95, 96, 311, 312, 313, 20, 314, 51, 44, 45, 46, 47, 48, 49, 50, 315, 316, 317, 318, 319, 320, 321, 322, 323, 324, 325, 326, 735, 736, 737, 738, 758, 759, 760, 761, 762, 763, 764, 765] (by decide +kernel) (by decide +kernel)) (goodIn_sub (fun _ h => List.mem_append_right _ h) (by decide +kernel))) (goodIn_sub (fun _ h => List.mem_append_left _ (List.mem_append_left _ (List.mem_append_right _ h))) (by decide +kernel))
set_option maxRecDepth 20000 in
theorem gL_law_L_not : GoodIn wsL_law (va_wsS RL 154 yL_not wsL_not) := goodIn_app (goodIn_of _ (by decide +kernel)) ggL_law_L_not
set_option maxRecDepth 20000 in
theorem ggL_law_X5_not : GoodIn wsL_law wsX5_not := goodIn_r _ [350, 112, 78, 79, 351, 352, 353, 5, 354, 335, 331, 332, 333, 334, 75, 76, 77, 118, 119, 120, 121, 739, 740, 741, 742, 743, 744, 745, 746, 747, 748, 749, 750, 751, 752, 753] (by decide +kernel) (by decide +kernel)
set_option maxRecDepth 20000 in
theorem gL_law_X5_not : GoodIn wsL_law (wsV RL 156 RX5 yX5_not wsX5_not) := goodIn_app (goodIn_of _ (by decide +kernel)) ggL_law_X5_not
set_option maxRecDepth 20000 in
theorem ggL_law_L_both : GoodIn wsL_law wsL_both := goodIn_ca (goodIn_ca (goodIn_r _ [357, 129, 90, 358, 359, 360, 2, 361, 21, 343, 344, 345, 346, 139, 140, 310, 306, 307, 308, 309, 95, 96, 311, 312, 313, 20, 314, 51, 44, 45, 46, 47, 48, 49, 50, 315, 316, 317, 318, 319, 320, 321, 322, 323, 324, 325, 326, 735, 736, 737, 738, 758, 759, 760, 761, 762, 763, 764, 765] (by decide +kernel) (by decide +kernel)) (goodIn_sub (fun _ h => List.mem_append_right _ h) (by decide +kernel))) (goodIn_sub (fun _ h => List.mem_append_left _ (List.mem_append_left _ (List.mem_append_right _ h))) (by decide +kernel))
set_option maxRecDepth 20000 in
theorem gL_law_L_both : GoodIn wsL_law (va_wsS RL 157 yL_both wsL_both) := goodIn_app (goodIn_of _ (by decide +kernel)) ggL_law_L_both
set_option maxRecDepth 20000 in
theorem ggL_law_X5_both : GoodIn wsL_law wsX5_both := goodIn_r _ [365, 112, 78, 366, 320, 321, 322, 79, 351, 352, 353, 5, 354, 335, 331, 332, 333, 334, 75, 76, 77, 118, 119, 120, 121, 739, 740, 741, 742, 743, 744, 745, 746, 747, 748, 749, 750, 751, 752, 753] (by decide +kernel) (by decide +kernel)
set_option maxRecDepth 20000 in
theorem gL_law_X5_both : GoodIn wsL_law (wsV RL 159 RX5 yX5_both wsX5_both) := goodIn_app (goodIn_of _ (by decide +kernel)) ggL_law_X5_both
set_option maxRecDepth 20000 in
theorem ggL_law_L_knows : GoodIn wsL_law wsL_knows := goodIn_ca (goodIn_ca (goodIn_r _ [369, 129, 90, 370, 371, 372, 2, 373, 21, 157, 158, 159, 160, 139, 140, 343, 344, 345, 346, 310, 306, 307, 308, 309, 95, 96, 161, 162, 163, 311, 312, 313, 20, 314, 51, 44, 45, 46, 47, 48, 49, 50, 315, 316, 317, 318, 319, 320, 321, 322, 323, 324, 325, 326, 735, 736, 737, 738, 758, 759, 760, 761, 762, 763, 764, 765] (by decide +kernel) (by decide +kernel)) (goodIn_sub (fun _ h => List.mem_append_right _ h) (by decide +kernel))) (goodIn_sub (fun _ h => List.mem_append_left _ (List.mem_append_left _ (List.mem_append_right _ h))) (by decide +kernel))
set_option maxRecDepth 20000 in
theorem gL_law_L_knows : GoodIn wsL_law (va_wsS RL 160 yL_knows wsL_knows) := goodIn_app (goodIn_of _ (by decide +kernel)) ggL_law_L_knows
set_option maxRecDepth 20000 in
theorem ggL_law_X5_knows : GoodIn wsL_law wsX5_knows := goodIn_r _ [377, 112, 78, 79, 171, 172, 5, 173, 351, 352, 353, 354, 335, 331, 332, 333, 334, 75, 76, 77, 118, 119, 120, 121, 739, 740, 741, 742, 743, 744, 745, 746, 747, 748, 749, 750, 751, 752, 753] (by decide +kernel) (by decide +kernel)
set_option maxRecDepth 20000 in
theorem gL_law_X5_knows : GoodIn wsL_law (wsV RL 162 RX5 yX5_knows wsX5_knows) := goodIn_app (goodIn_of _ (by decide +kernel)) ggL_law_X5_knows
set_option maxRecDepth 20000 in
theorem ggL_law_L_ofGroup : GoodIn wsL_law wsL_ofGroup := goodIn_ca (goodIn_ca (goodIn_ca (goodIn_r _ [380, 129, 89, 90, 381, 382, 383, 2, 384, 21, 343, 344, 345, 346, 139, 140, 310, 385, 386, 387, 388, 102, 103, 306, 307, 308, 309, 95, 96, 311, 312, 313, 20, 314, 51, 44, 45, 46, 47, 48, 49, 50, 315, 316, 317, 318, 319, 320, 321, 322, 323, 324, 325, 326, 735, 736, 737, 738, 758, 759, 760, 761, 762, 763, 764, 765] (by decide +kernel) (by decide +kernel)) (goodIn_sub (fun _ h => List.mem_append_right _ h) (by decide +kernel))) (goodIn_sub (fun _ h => List.mem_append_left _ (List.mem_append_right _ h)) (by decide +kernel))) (goodIn_sub (fun _ h => List.mem_append_left _ (List.mem_append_left _ (List.mem_append_right _ h))) (by decide +kernel))
set_option maxRecDepth 20000 in
theorem gL_law_L_ofGroup : GoodIn wsL_law (va_wsS RL 163 yL_ofGroup wsL_ofGroup) := goodIn_app (goodIn_of _ (by decide +kernel)) ggL_law_L_ofGroup
set_option maxRecDepth 20000 in
theorem ggL_law_X5_ofGroup : GoodIn wsL_law wsX5_ofGroup := goodIn_r _ [392, 112, 78, 79, 351, 352, 353, 5, 354, 335, 118, 119, 120, 121, 393, 394, 395, 331, 332, 333, 334, 75, 76, 77, 739, 740, 741, 742, 743, 744, 745, 746, 747, 748, 749, 750, 751, 752, 753] (by decide +kernel) (by decide +kernel)
set_option maxRecDepth 20000 in
theorem gL_law_X5_ofGroup : GoodIn wsL_law (wsV RL 166 RX5 yX5_ofGroup wsX5_ofGroup) := goodIn_app (goodIn_of _ (by decide +kernel)) ggL_law_X5_ofGroup
set_option maxRecDepth 20000 in
theorem ggL_law_L_after : GoodIn wsL_law wsL_after := goodIn_ca (goodIn_ca (goodIn_ca (goodIn_r _ [398, 129, 89, 90, 399, 400, 401, 2, 402, 102, 103, 21, 403, 404, 320, 321, 322, 343, 344, 345, 346, 139, 140, 310, 306, 307, 308, 309, 95, 96, 311, 312, 313, 20, 314, 51, 44, 45, 46, 47, 48, 49, 50, 315, 316, 317, 318, 319, 323, 324, 325, 326, 735, 736, 737, 738, 758, 759, 760, 761, 762, 763, 764, 765] (by decide +kernel) (by decide +kernel)) (goodIn_sub (fun _ h => List.mem_append_left _ (List.mem_append_right _ h)) (by decide +kernel))) (goodIn_sub (fun _ h => List.mem_append_right _ h) (by decide +kernel))) (goodIn_sub (fun _ h => List.mem_append_left _ (List.mem_append_left _ (List.mem_append_right _ h))) (by decide +kernel))
set_option maxRecDepth 20000 in
theorem gL_law_L_after : GoodIn wsL_law (va_wsS RL 167 yL_after wsL_after) := goodIn_app (goodIn_of _ (by decide +kernel)) ggL_law_L_after
set_option maxRecDepth 20000 in
theorem ggL_law_X5_after : GoodIn wsL_law wsX5_after := goodIn_r _ [408, 112, 79, 366, 320, 321, 322, 78, 351, 352, 353, 5, 354, 335, 118, 119, 120, 121, 331, 332, 333, 334, 75, 76, 77, 739, 740, 741, 742, 743, 744, 745, 746, 747, 748, 749, 750, 751, 752, 753] (by decide +kernel) (by decide +kernel)
set_option maxRecDepth 20000 in
theorem gL_law_X5_after : GoodIn wsL_law (wsV RL 169 RX5 yX5_after wsX5_after) := goodIn_app (goodIn_of _ (by decide +kernel)) ggL_law_X5_after
set_option maxRecDepth 20000 in
theorem ggL_law_X4_formulaCount : GoodIn wsL_law wsX4_formulaCount := goodIn_r _ [412, 21, 310, 735, 736, 737, 738, 758, 759, 760, 761, 762, 763, 764, 765] (by decide +kernel) (by decide +kernel)
set_option maxRecDepth 20000 in
theorem gL_law_X4_formulaCount : GoodIn wsL_law (wsV RL 170 RX4 yX4_formulaCount wsX4_formulaCount) := goodIn_app (goodIn_of _ (by decide +kernel)) ggL_law_X4_formulaCount
set_option maxRecDepth 20000 in
theorem ggL_law_X5_formulaCount : GoodIn wsL_law wsX5_formulaCount := goodIn_r _ [416, 112, 335, 739, 740, 741, 742, 743, 744, 745, 746, 747, 748, 749, 750, 751, 752, 753] (by decide +kernel) (by decide +kernel)
set_option maxRecDepth 20000 in
theorem gL_law_X5_formulaCount : GoodIn wsL_law (wsV RL 173 RX5 yX5_formulaCount wsX5_formulaCount) := goodIn_app (goodIn_of _ (by decide +kernel)) ggL_law_X5_formulaCount
set_option maxRecDepth 20000 in
theorem ggL_law_L_depth : GoodIn wsL_law wsL_depth := goodIn_ca (goodIn_r _ [419, 129, 420, 421, 422, 2, 423, 21, 424, 343, 344, 345, 346, 139, 140, 310, 735, 736, 737, 738, 758, 759, 760, 761, 762, 763, 764, 765] (by decide +kernel) (by decide +kernel)) (goodIn_sub (fun _ h => List.mem_append_right _ h) (by decide +kernel))
set_option maxRecDepth 20000 in
theorem gL_law_L_depth : GoodIn wsL_law (va_wsS RL 174 yL_depth wsL_depth) := goodIn_app (goodIn_of _ (by decide +kernel)) ggL_law_L_depth
set_option maxRecDepth 20000 in
theorem ggL_law_X5_depth : GoodIn wsL_law wsX5_depth := goodIn_r _ [428, 112, 78, 351, 352, 353, 5, 354, 335, 118, 119, 120, 121, 739, 740, 741, 742, 743, 744, 745, 746, 747, 748, 749, 750, 751, 752, 753] (by decide +kernel) (by decide +kernel)
set_option maxRecDepth 20000 in
theorem gL_law_X5_depth : GoodIn wsL_law (wsV RL 176 RX5 yX5_depth wsX5_depth) := goodIn_app (goodIn_of _ (by decide +kernel)) ggL_law_X5_depth
set_option maxRecDepth 20000 in
theorem ggL_law_L_nesting : GoodIn wsL_law wsL_nesting := goodIn_ca (goodIn_r _ [431, 129, 432, 433, 434, 2, 435, 21, 403, 343, 344, 345, 346, 139, 140, 310, 735, 736, 737, 738, 758, 759, 760, 761, 762, 763, 764, 765] (by decide +kernel) (by decide +kernel)) (goodIn_sub (fun _ h => List.mem_append_right _ h) (by decide +kernel))
set_option maxRecDepth 20000 in
theorem gL_law_L_nesting : GoodIn wsL_law (va_wsS RL 177 yL_nesting wsL_nesting) := goodIn_app (goodIn_of _ (by decide +kernel)) ggL_law_L_nesting
set_option maxRecDepth 20000 in
theorem ggL_law_X5_nesting : GoodIn wsL_law wsX5_nesting := goodIn_r _ [439, 112, 79, 351, 352, 353, 5, 354, 335, 118, 119, 120, 121, 739, 740, 741, 742, 743, 744, 745, 746, 747, 748, 749, 750, 751, 752, 753] (by decide +kernel) (by decide +kernel)
set_option maxRecDepth 20000 in
theorem gL_law_X5_nesting : GoodIn wsL_law (wsV RL 179 RX5 yX5_nesting wsX5_nesting) := goodIn_app (goodIn_of _ (by decide +kernel)) ggL_law_X5_nesting
set_option maxRecDepth 20000 in
theorem ggL_law_L_where : GoodIn wsL_law wsL_where := goodIn_ca (goodIn_r _ [442, 129, 443, 444, 445, 2, 446, 25, 343, 344, 345, 346, 139, 140, 21, 310, 447, 448, 449, 24, 450, 56, 451, 185, 186, 16, 187, 38, 162, 163, 452, 453, 454, 455, 57, 456, 59, 457, 458, 459, 460, 461, 462, 463, 464, 465, 466, 467, 468, 35, 165, 166, 469, 470, 471, 472, 473, 474, 475, 476, 477, 37, 478, 479, 480, 481, 482, 483, 484, 485, 486, 735, 736, 737, 738, 758, 759, 760, 761, 762, 763, 764, 765, 766, 767, 768, 754, 755, 756, 757] (by decide +kernel) (by decide +kernel)) (goodIn_sub (fun _ h => List.mem_append_right _ h) (by decide +kernel))
set_option maxRecDepth 20000 in
theorem gL_law_L_where : GoodIn wsL_law (va_wsS RL 180 yL_where wsL_where) := goodIn_app (goodIn_of _ (by decide +kernel)) ggL_law_L_where
set_option maxRecDepth 20000 in
theorem ggL_law_X5_where : GoodIn wsL_law wsX5_where := goodIn_r _ [490, 112, 351, 352, 353, 5, 354, 335, 491, 492, 493, 494, 495, 496, 497, 498, 113, 499, 500, 501, 502, 80, 82, 503, 504, 505, 506, 83, 76, 77, 75, 74, 73, 174, 175, 176, 507, 508, 509, 510, 511, 512, 513, 514, 515, 516, 517, 518, 118, 119, 120, 121, 739, 740, 741, 742, 743, 744, 745, 746, 747, 748, 749, 750, 751, 752, 753] (by decide +kernel) (by decide +kernel)
set_option maxRecDepth 20000 in
theorem gL_law_X5_where : GoodIn wsL_law (wsV RL 182 RX5 yX5_where wsX5_where) := goodIn_app (goodIn_of _ (by decide +kernel)) ggL_law_X5_where
set_option maxRecDepth 20000 in
theorem ggL_law_L_holds : GoodIn wsL_law wsL_holds := goodIn_ca (goodIn_ca (goodIn_r _ [521, 129, 90, 522, 523, 524, 2, 525, 25, 17, 211, 343, 344, 345, 346, 139, 140, 21, 310, 223, 224, 225, 226, 95, 96, 97, 447, 448, 449, 24, 450, 56, 451, 185, 186, 16, 187, 38, 162, 163, 452, 453, 454, 455, 57, 456, 59, 457, 458, 459, 460, 461, 462, 463, 464, 465, 466, 467, 468, 35, 165, 166, 469, 470, 471, 472, 473, 474, 475, 476, 477, 37, 478, 479, 480, 481, 482, 483, 484, 485, 486, 164, 735, 736, 737, 738, 754, 755, 756, 757, 758, 759, 760, 761, 762, 763, 764, 765, 766, 767, 768] (by decide +kernel) (by decide +kernel)) (goodIn_sub (fun _ h => List.mem_append_right _ h) (by decide +kernel))) (goodIn_sub (fun _ h => List.mem_append_left _ (List.mem_append_left _ (List.mem_append_right _ h))) (by decide +kernel))
set_option maxRecDepth 20000 in
theorem gL_law_L_holds : GoodIn wsL_law (va_wsS RL 183 yL_holds wsL_holds) := goodIn_app (goodIn_of _ (by decide +kernel)) ggL_law_L_holds
set_option maxRecDepth 20000 in
theorem ggL_law_X5_holds : GoodIn wsL_law wsX5_holds := goodIn_r _ [529, 113, 112, 114, 351, 352, 353, 5, 354, 335, 491, 492, 493, 494, 495, 496, 497, 498, 499, 500, 501, 502, 80, 82, 503, 504, 505, 506, 83, 76, 77, 75, 74, 73, 174, 175, 176, 507, 508, 509, 510, 511, 512, 513, 514, 515, 516, 517, 518, 739, 740, 741, 742, 743, 744, 745, 746, 747, 748, 749, 750, 751, 752, 753] (by decide +kernel) (by decide +kernel)
set_option maxRecDepth 20000 in
theorem gL_law_X5_holds : GoodIn wsL_law (wsV RL 185 RX5 yX5_holds wsX5_holds) := goodIn_app (goodIn_of _ (by decide +kernel)) ggL_law_X5_holds
set_option maxRecDepth 20000 in
theorem ggL_law_L_share : GoodIn wsL_law wsL_share := goodIn_ca (goodIn_r _ [532, 129, 533, 534, 535, 2, 536, 17, 97, 25, 343, 344, 345, 346, 139, 140, 21, 310, 447, 448, 449, 24, 450, 56, 451, 185, 186, 16, 187, 38, 162, 163, 452, 453, 454, 455, 57, 456, 59, 457, 458, 459, 460, 461, 462, 463, 464, 465, 466, 467, 468, 35, 165, 166, 469, 470, 471, 472, 473, 474, 475, 476, 477, 37, 478, 479, 480, 481, 482, 483, 484, 485, 486, 537, 193, 194, 195, 196, 197, 198, 735, 736, 737, 738, 754, 755, 756, 757, 758, 759, 760, 761, 762, 763, 764, 765, 766, 767, 768] (by decide +kernel) (by decide +kernel)) (goodIn_sub (fun _ h => List.mem_append_right _ h) (by decide +kernel))
set_option maxRecDepth 20000 in
theorem gL_law_L_share : GoodIn wsL_law (va_wsS RL 186 yL_share wsL_share) := goodIn_app (goodIn_of _ (by decide +kernel)) ggL_law_L_share
set_option maxRecDepth 20000 in
theorem ggL_law_X5_share : GoodIn wsL_law wsX5_share := goodIn_r _ [541, 112, 113, 351, 352, 353, 5, 354, 335, 491, 492, 493, 494, 495, 496, 497, 498, 499, 500, 501, 502, 80, 82, 503, 504, 505, 506, 83, 76, 77, 75, 74, 73, 174, 175, 176, 507, 508, 509, 510, 511, 512, 513, 514, 515, 516, 517, 518, 203, 193, 194, 195, 196, 197, 198, 739, 740, 741, 742, 743, 744, 745, 746, 747, 748, 749, 750, 751, 752, 753] (by decide +kernel) (by decide +kernel)
set_option maxRecDepth 20000 in
theorem gL_law_X5_share : GoodIn wsL_law (wsV RL 189 RX5 yX5_share wsX5_share) := goodIn_app (goodIn_of _ (by decide +kernel)) ggL_law_X5_share
set_option maxRecDepth 20000 in
theorem ggL_law_L_decided : GoodIn wsL_law wsL_decided := goodIn_ca (goodIn_ca (goodIn_r _ [544, 129, 90, 545, 546, 547, 2, 548, 17, 156, 211, 157, 158, 159, 160, 139, 140, 223, 224, 225, 226, 95, 96, 97, 549, 550, 551, 16, 552, 38, 35, 165, 166, 735, 736, 737, 738, 754, 755, 756, 757] (by decide +kernel) (by decide +kernel)) (goodIn_sub (fun _ h => List.mem_append_right _ h) (by decide +kernel))) (goodIn_sub (fun _ h => List.mem_append_left _ (List.mem_append_left _ (List.mem_append_right _ h))) (by decide +kernel))
set_option maxRecDepth 20000 in
theorem gL_law_L_decided : GoodIn wsL_law (va_wsS RL 190 yL_decided wsL_decided) := goodIn_app (goodIn_of _ (by decide +kernel)) ggL_law_L_decided
set_option maxRecDepth 20000 in
theorem ggL_law_X5_decided : GoodIn wsL_law wsX5_decided := goodIn_r _ [556, 112, 113, 74, 114, 73, 171, 172, 5, 173, 118, 119, 120, 121, 174, 175, 176, 739, 740, 741, 742, 743, 744, 745, 746, 747, 748, 749, 750, 751, 752, 753] (by decide +kernel) (by decide +kernel)
set_option maxRecDepth 20000 in
theorem gL_law_X5_decided : GoodIn wsL_law (wsV RL 192 RX5 yX5_decided wsX5_decided) := goodIn_app (goodIn_of _ (by decide +kernel)) ggL_law_X5_decided
set_option maxRecDepth 20000 in
theorem ggL_law_L_reached : GoodIn wsL_law wsL_reached := goodIn_ca (goodIn_ca (goodIn_r _ [559, 89, 129, 560, 561, 562, 2, 563, 17, 385, 386, 387, 388, 102, 103, 135, 136, 137, 138, 139, 140, 97, 564, 565, 566, 16, 567, 38, 568, 484, 485, 486, 37, 165, 166, 735, 736, 737, 738, 754, 755, 756, 757] (by decide +kernel) (by decide +kernel)) (goodIn_sub (fun _ h => List.mem_append_left _ (List.mem_append_right _ h)) (by decide +kernel))) (goodIn_sub (fun _ h => List.mem_append_right _ h) (by decide +kernel))
set_option maxRecDepth 20000 in
theorem gL_law_L_reached : GoodIn wsL_law (va_wsS RL 193 yL_reached wsL_reached) := goodIn_app (goodIn_of _ (by decide +kernel)) ggL_law_L_reached
set_option maxRecDepth 20000 in
theorem ggL_law_X5_reached : GoodIn wsL_law wsX5_reached := goodIn_r _ [572, 112, 393, 394, 5, 395, 118, 119, 120, 121, 145, 146, 147, 148, 113, 495, 496, 497, 498, 507, 508, 509, 510, 511, 512, 513, 514, 74, 174, 175, 176, 739, 740, 741, 742, 743, 744, 745, 746, 747, 748, 749, 750, 751, 752, 753] (by decide +kernel) (by decide +kernel)
set_option maxRecDepth 20000 in
theorem gL_law_X5_reached : GoodIn wsL_law (wsV RL 195 RX5 yX5_reached wsX5_reached) := goodIn_app (goodIn_of _ (by decide +kernel)) ggL_law_X5_reached
set_option maxRecDepth 20000 in
theorem ggL_law_L_areAlike : GoodIn wsL_law wsL_areAlike := goodIn_ca (goodIn_r _ [575, 129, 576, 577, 578, 2, 579, 29, 580, 135, 136, 137, 138, 139, 140, 17, 97, 581, 582, 583, 28, 584, 64, 585, 65, 586, 587, 588, 589, 67, 590, 591, 592, 593, 594, 165, 166, 162, 163, 595, 596, 597, 598, 68, 599, 600, 601, 602, 603, 604, 605, 606, 607, 608, 609, 610, 611, 735, 736, 737, 738, 769, 770, 771, 772, 754, 755, 756, 757] (by decide +kernel) (by decide +kernel)) (goodIn_sub (fun _ h => List.mem_append_right _ h) (by decide +kernel))
set_option maxRecDepth 20000 in
theorem gL_law_L_areAlike : GoodIn wsL_law (va_wsS RL 196 yL_areAlike wsL_areAlike) := goodIn_app (goodIn_of _ (by decide +kernel)) ggL_law_L_areAlike
set_option maxRecDepth 20000 in
theorem ggL_law_X5_areAlike : GoodIn wsL_law wsX5_areAlike := goodIn_r _ [615, 112, 84, 145, 146, 147, 5, 148, 113, 616, 617, 618, 619, 34, 620, 621, 622, 623, 73, 74, 624, 625, 626, 627, 174, 175, 176, 739, 740, 741, 742, 743, 744, 745, 746, 747, 748, 749, 750, 751, 752, 753] (by decide +kernel) (by decide +kernel)
set_option maxRecDepth 20000 in
theorem gL_law_X5_areAlike : GoodIn wsL_law (wsV RL 198 RX5 yX5_areAlike wsX5_areAlike) := goodIn_app (goodIn_of _ (by decide +kernel)) ggL_law_X5_areAlike
set_option maxRecDepth 20000 in
theorem ggL_law_L_announce : GoodIn wsL_law wsL_announce := goodIn_ca (goodIn_ca (goodIn_r _ [630, 129, 90, 631, 632, 633, 2, 634, 25, 17, 343, 344, 345, 346, 139, 140, 21, 310, 447, 448, 449, 24, 450, 56, 451, 185, 186, 16, 187, 38, 162, 163, 452, 453, 454, 455, 57, 456, 59, 457, 458, 459, 460, 461, 462, 463, 464, 465, 466, 467, 468, 35, 165, 166, 469, 470, 471, 472, 473, 474, 475, 476, 477, 37, 478, 479, 480, 481, 482, 483, 484, 485, 486, 635, 636, 637, 638, 95, 96, 211, 223, 224, 225, 226, 97, 164, 639, 640, 641, 642, 39, 192, 193, 194, 195, 196, 197, 198, 643, 644, 645, 646, 647, 161, 537, 648, 649, 650, 651, 735, 736, 737, 738, 758, 759, 760, 761, 762, 763, 764, 765, 766, 767, 768, 754, 755, 756, 757] (by decide +kernel) (by decide +kernel)) (goodIn_sub (fun _ h => List.mem_append_right _ h) (by decide +kernel))) (goodIn_sub (fun _ h => List.mem_append_left _ (List.mem_append_left _ (List.mem_append_right _ h))) (by decide +kernel))
set_option maxRecDepth 20000 in
theorem gL_law_L_announce : GoodIn wsL_law (va_wsS RL 199 yL_announce wsL_announce) := goodIn_app (goodIn_of _ (by decide +kernel)) ggL_law_L_announce
set_option maxRecDepth 20000 in
theorem ggL_law_X5_announce : GoodIn wsL_law wsX5_announce := goodIn_r _ [655, 112, 113, 114, 351, 352, 353, 5, 354, 335, 118, 119, 120, 121, 491, 492, 493, 494, 495, 496, 497, 498, 499, 500, 501, 502, 80, 82, 503, 504, 505, 506, 83, 76, 77, 75, 74, 73, 174, 175, 176, 507, 508, 509, 510, 511, 512, 513, 514, 515, 516, 517, 518, 656, 657, 658, 659, 34, 739, 740, 741, 742, 743, 744, 745, 746, 747, 748, 749, 750, 751, 752, 753] (by decide +kernel) (by decide +kernel)
set_option maxRecDepth 20000 in
theorem gL_law_X5_announce : GoodIn wsL_law (wsV RL 201 RX5 yX5_announce wsX5_announce) := goodIn_app (goodIn_of _ (by decide +kernel)) ggL_law_X5_announce
set_option maxRecDepth 20000 in
theorem ggL_law_L_tell : GoodIn wsL_law wsL_tell := goodIn_ca (goodIn_ca (goodIn_r _ [662, 129, 89, 663, 664, 665, 2, 666, 17, 25, 343, 344, 345, 346, 139, 140, 21, 310, 385, 386, 387, 388, 102, 103, 447, 448, 449, 24, 450, 56, 451, 185, 186, 16, 187, 38, 162, 163, 452, 453, 454, 455, 57, 456, 59, 457, 458, 459, 460, 461, 462, 463, 464, 465, 466, 467, 468, 35, 165, 166, 469, 470, 471, 472, 473, 474, 475, 476, 477, 37, 478, 479, 480, 481, 482, 483, 484, 485, 486, 667, 668, 669, 670, 192, 193, 194, 195, 196, 197, 198, 735, 736, 737, 738, 758, 759, 760, 761, 762, 763, 764, 765, 766, 767, 768, 754, 755, 756, 757] (by decide +kernel) (by decide +kernel)) (goodIn_sub (fun _ h => List.mem_append_right _ h) (by decide +kernel))) (goodIn_sub (fun _ h => List.mem_append_left _ (List.mem_append_right _ h)) (by decide +kernel))
set_option maxRecDepth 20000 in
theorem gL_law_L_tell : GoodIn wsL_law (va_wsS RL 202 yL_tell wsL_tell) := goodIn_app (goodIn_of _ (by decide +kernel)) ggL_law_L_tell
set_option maxRecDepth 20000 in
theorem ggL_law_X5_tell : GoodIn wsL_law wsX5_tell := goodIn_r _ [674, 112, 113, 74, 351, 352, 353, 5, 354, 335, 118, 119, 120, 121, 393, 394, 395, 491, 492, 493, 494, 495, 496, 497, 498, 499, 500, 501, 502, 80, 82, 503, 504, 505, 506, 83, 76, 77, 75, 73, 174, 175, 176, 507, 508, 509, 510, 511, 512, 513, 514, 515, 516, 517, 518, 203, 193, 194, 195, 196, 197, 198, 739, 740, 741, 742, 743, 744, 745, 746, 747, 748, 749, 750, 751, 752, 753] (by decide +kernel) (by decide +kernel)
set_option maxRecDepth 20000 in
theorem gL_law_X5_tell : GoodIn wsL_law (wsV RL 204 RX5 yX5_tell wsX5_tell) := goodIn_app (goodIn_of _ (by decide +kernel)) ggL_law_X5_tell
set_option maxRecDepth 20000 in
theorem ggL_law_L_whisper : GoodIn wsL_law wsL_whisper := goodIn_ca (goodIn_ca (goodIn_ca (goodIn_r _ [677, 129, 89, 90, 678, 679, 680, 2, 681, 95, 96, 25, 17, 97, 343, 344, 345, 346, 139, 140, 21, 310, 385, 386, 387, 388, 102, 103, 447, 448, 449, 24, 450, 56, 451, 185, 186, 16, 187, 38, 162, 163, 452, 453, 454, 455, 57, 456, 59, 457, 458, 459, 460, 461, 462, 463, 464, 465, 466, 467, 468, 35, 165, 166, 469, 470, 471, 472, 473, 474, 475, 476, 477, 37, 478, 479, 480, 481, 482, 483, 484, 485, 486, 635, 636, 637, 638, 211, 223, 224, 225, 226, 164, 537, 193, 194, 195, 196, 197, 198, 682, 683, 684, 685, 39, 686, 105, 106, 107, 643, 644, 645, 646, 647, 161, 735, 736, 737, 738, 754, 755, 756, 757, 758, 759, 760, 761, 762, 763, 764, 765, 766, 767, 768] (by decide +kernel) (by decide +kernel)) (goodIn_sub (fun _ h => List.mem_append_left _ (List.mem_append_left _ (List.mem_append_right _ h))) (by decide +kernel))) (goodIn_sub (fun _ h => List.mem_append_right _ h) (by decide +kernel))) (goodIn_sub (fun _ h => List.mem_append_left _ (List.mem_append_right _ h)) (by decide +kernel))
set_option maxRecDepth 20000 in
theorem gL_law_L_whisper : GoodIn wsL_law (va_wsS RL 205 yL_whisper wsL_whisper) := goodIn_app (goodIn_of _ (by decide +kernel)) ggL_law_L_whisper
set_option maxRecDepth 20000 in
theorem ggL_law_X5_whisper : GoodIn wsL_law wsX5_whisper := goodIn_r _ [690, 112, 113, 114, 34, 73, 74, 351, 352, 353, 5, 354, 335, 118, 119, 120, 121, 393, 394, 395, 491, 492, 493, 494, 495, 496, 497, 498, 499, 500, 501, 502, 80, 82, 503, 504, 505, 506, 83, 76, 77, 75, 174, 175, 176, 507, 508, 509, 510, 511, 512, 513, 514, 515, 516, 517, 518, 203, 193, 194, 195, 196, 197, 198, 739, 740, 741, 742, 743, 744, 745, 746, 747, 748, 749, 750, 751, 752, 753] (by decide +kernel) (by decide +kernel)
set_option maxRecDepth 20000 in
theorem gL_law_X5_whisper : GoodIn wsL_law (wsV RL 207 RX5 yX5_whisper wsX5_whisper) := goodIn_app (goodIn_of _ (by decide +kernel)) ggL_law_X5_whisper
set_option maxRecDepth 20000 in
theorem ggL_law_X4_contract : GoodIn wsL_law wsX4_contract := goodIn_r _ [694, 29, 17, 97, 581, 582, 583, 28, 584, 64, 585, 65, 586, 587, 588, 589, 67, 590, 591, 592, 593, 594, 165, 2, 166, 162, 163, 595, 596, 597, 598, 68, 599, 600, 601, 602, 603, 604, 605, 606, 607, 608, 609, 610, 611, 695, 696, 697, 16, 698, 38, 699, 35, 37, 700, 39, 648, 649, 650, 651, 735, 736, 737, 738, 754, 755, 756, 757, 769, 770, 771, 772] (by decide +kernel) (by decide +kernel)
set_option maxRecDepth 20000 in
theorem gL_law_X4_contract : GoodIn wsL_law (wsV RL 208 RX4 yX4_contract wsX4_contract) := goodIn_app (goodIn_of _ (by decide +kernel)) ggL_law_X4_contract
set_option maxRecDepth 20000 in
theorem ggL_law_X5_contract : GoodIn wsL_law wsX5_contract := goodIn_r _ [704, 112, 113, 84, 74, 114, 616, 617, 618, 5, 619, 34, 620, 621, 622, 623, 73, 624, 625, 626, 627, 174, 175, 176, 656, 657, 658, 659, 739, 740, 741, 742, 743, 744, 745, 746, 747, 748, 749, 750, 751, 752, 753] (by decide +kernel) (by decide +kernel)
set_option maxRecDepth 20000 in
theorem gL_law_X5_contract : GoodIn wsL_law (wsV RL 211 RX5 yX5_contract wsX5_contract) := goodIn_app (goodIn_of _ (by decide +kernel)) ggL_law_X5_contract
set_option maxRecDepth 20000 in
theorem ggL_law_X4_prune : GoodIn wsL_law wsX4_prune := goodIn_r _ [708, 17, 97, 211, 564, 565, 566, 16, 567, 38, 568, 484, 485, 486, 37, 165, 2, 166, 161, 162, 163, 639, 640, 641, 642, 35, 39, 192, 193, 194, 195, 196, 197, 198, 643, 644, 164, 645, 646, 647, 537, 648, 649, 650, 651, 735, 736, 737, 738, 754, 755, 756, 757] (by decide +kernel) (by decide +kernel)
set_option maxRecDepth 20000 in
theorem gL_law_X4_prune : GoodIn wsL_law (wsV RL 212 RX4 yX4_prune wsX4_prune) := goodIn_app (goodIn_of _ (by decide +kernel)) ggL_law_X4_prune
set_option maxRecDepth 20000 in
theorem ggL_law_X5_prune : GoodIn wsL_law wsX5_prune := goodIn_r _ [712, 112, 113, 114, 495, 496, 497, 5, 498, 507, 508, 509, 510, 511, 512, 513, 514, 74, 174, 175, 176, 656, 657, 658, 659, 34, 73, 739, 740, 741, 742, 743, 744, 745, 746, 747, 748, 749, 750, 751, 752, 753] (by decide +kernel) (by decide +kernel)
set_option maxRecDepth 20000 in
theorem gL_law_X5_prune : GoodIn wsL_law (wsV RL 215 RX5 yX5_prune wsX5_prune) := goodIn_app (goodIn_of _ (by decide +kernel)) ggL_law_X5_prune
set_option maxRecDepth 20000 in
theorem ggL_law_X4_digest : GoodIn wsL_law wsX4_digest := goodIn_r _ [716, 21, 17, 717, 718, 719, 720, 16, 721, 38, 35, 37, 39, 722, 2, 723, 724, 725, 726, 727, 20, 728, 51, 44, 48, 49, 735, 736, 737, 738, 754, 755, 756, 757, 758, 759, 760, 761, 762, 763, 764, 765] (by decide +kernel) (by decide +kernel)
set_option maxRecDepth 20000 in
theorem gL_law_X4_digest : GoodIn wsL_law (wsV RL 216 RX4 yX4_digest wsX4_digest) := goodIn_app (goodIn_of _ (by decide +kernel)) ggL_law_X4_digest
set_option maxRecDepth 20000 in
theorem ggL_law_X5_digest : GoodIn wsL_law wsX5_digest := goodIn_r _ [732, 112, 733, 113, 734, 73, 74, 114, 335, 75, 78, 79, 739, 740, 741, 742, 743, 744, 745, 746, 747, 748, 749, 750, 751, 752, 753] (by decide +kernel) (by decide +kernel)
set_option maxRecDepth 20000 in
theorem gL_law_X5_digest : GoodIn wsL_law (wsV RL 220 RX5 yX5_digest wsX5_digest) := goodIn_app (goodIn_of _ (by decide +kernel)) ggL_law_X5_digest
