theorem dX5_init_0 : decode cX5_init 0 = .ok (.aload_n 0, 1) := by decide +kernel
theorem dX5_init_1 : decode cX5_init 1 = .ok (.invokespecial 1, 3) := by decide +kernel
theorem dX5_init_4 : decode cX5_init 4 = .ok (.aload_n 0, 1) := by decide +kernel
theorem dX5_init_5 : decode cX5_init 5 = .ok (.bipush 24, 2) := by decide +kernel
theorem dX5_init_7 : decode cX5_init 7 = .ok (.newarray .int, 2) := by decide +kernel
theorem dX5_init_9 : decode cX5_init 9 = .ok (.putfield 9, 3) := by decide +kernel
theorem dX5_init_12 : decode cX5_init 12 = .ok (.aload_n 0, 1) := by decide +kernel
theorem dX5_init_13 : decode cX5_init 13 = .ok (.bipush 96, 2) := by decide +kernel
theorem dX5_init_15 : decode cX5_init 15 = .ok (.newarray .int, 2) := by decide +kernel
theorem dX5_init_17 : decode cX5_init 17 = .ok (.putfield 13, 3) := by decide +kernel
theorem dX5_init_20 : decode cX5_init 20 = .ok (.aload_n 0, 1) := by decide +kernel
theorem dX5_init_21 : decode cX5_init 21 = .ok (.bipush 40, 2) := by decide +kernel
theorem dX5_init_23 : decode cX5_init 23 = .ok (.newarray .int, 2) := by decide +kernel
theorem dX5_init_25 : decode cX5_init 25 = .ok (.putfield 16, 3) := by decide +kernel
theorem dX5_init_28 : decode cX5_init 28 = .ok (.aload_n 0, 1) := by decide +kernel
theorem dX5_init_29 : decode cX5_init 29 = .ok (.bipush 40, 2) := by decide +kernel
theorem dX5_init_31 : decode cX5_init 31 = .ok (.newarray .int, 2) := by decide +kernel
theorem dX5_init_33 : decode cX5_init 33 = .ok (.putfield 19, 3) := by decide +kernel
theorem dX5_init_36 : decode cX5_init 36 = .ok (.aload_n 0, 1) := by decide +kernel
theorem dX5_init_37 : decode cX5_init 37 = .ok (.bipush 40, 2) := by decide +kernel
theorem dX5_init_39 : decode cX5_init 39 = .ok (.newarray .int, 2) := by decide +kernel
theorem dX5_init_41 : decode cX5_init 41 = .ok (.putfield 22, 3) := by decide +kernel
theorem dX5_init_44 : decode cX5_init 44 = .ok (.aload_n 0, 1) := by decide +kernel
theorem dX5_init_45 : decode cX5_init 45 = .ok (.bipush 40, 2) := by decide +kernel
theorem dX5_init_47 : decode cX5_init 47 = .ok (.newarray .int, 2) := by decide +kernel
theorem dX5_init_49 : decode cX5_init 49 = .ok (.putfield 25, 3) := by decide +kernel
theorem dX5_init_52 : decode cX5_init 52 = .ok (.aload_n 0, 1) := by decide +kernel
theorem dX5_init_53 : decode cX5_init 53 = .ok (.bipush 40, 2) := by decide +kernel
theorem dX5_init_55 : decode cX5_init 55 = .ok (.newarray .int, 2) := by decide +kernel
theorem dX5_init_57 : decode cX5_init 57 = .ok (.putfield 28, 3) := by decide +kernel
theorem dX5_init_60 : decode cX5_init 60 = .ok (.aload_n 0, 1) := by decide +kernel
theorem dX5_init_61 : decode cX5_init 61 = .ok (.iconst 3, 1) := by decide +kernel
theorem dX5_init_62 : decode cX5_init 62 = .ok (.newarray .int, 2) := by decide +kernel
theorem dX5_init_64 : decode cX5_init 64 = .ok (.putfield 31, 3) := by decide +kernel
theorem dX5_init_67 : decode cX5_init 67 = .ok (.aload_n 0, 1) := by decide +kernel
theorem dX5_init_68 : decode cX5_init 68 = .ok (.bipush 120, 2) := by decide +kernel
theorem dX5_init_70 : decode cX5_init 70 = .ok (.newarray .boolean, 2) := by decide +kernel
theorem dX5_init_72 : decode cX5_init 72 = .ok (.putfield 34, 3) := by decide +kernel
theorem dX5_init_75 : decode cX5_init 75 = .ok (.aload_n 0, 1) := by decide +kernel
theorem dX5_init_76 : decode cX5_init 76 = .ok (.bipush 120, 2) := by decide +kernel
theorem dX5_init_78 : decode cX5_init 78 = .ok (.newarray .int, 2) := by decide +kernel
theorem dX5_init_80 : decode cX5_init 80 = .ok (.putfield 38, 3) := by decide +kernel
theorem dX5_init_83 : decode cX5_init 83 = .ok (.aload_n 0, 1) := by decide +kernel
theorem dX5_init_84 : decode cX5_init 84 = .ok (.bipush 24, 2) := by decide +kernel
theorem dX5_init_86 : decode cX5_init 86 = .ok (.newarray .int, 2) := by decide +kernel
theorem dX5_init_88 : decode cX5_init 88 = .ok (.putfield 41, 3) := by decide +kernel
theorem dX5_init_91 : decode cX5_init 91 = .ok (.return_, 1) := by decide +kernel
theorem dX5_thrown_0 : decode cX5_thrown 0 = .ok (.aload_n 0, 1) := by decide +kernel
theorem dX5_thrown_1 : decode cX5_thrown 1 = .ok (.getfield 44, 3) := by decide +kernel
theorem dX5_thrown_4 : decode cX5_thrown 4 = .ok (.ireturn, 1) := by decide +kernel
theorem dX5_no_0 : decode cX5_no 0 = .ok (.aload_n 0, 1) := by decide +kernel
theorem dX5_no_1 : decode cX5_no 1 = .ok (.iload_n 1, 1) := by decide +kernel
theorem dX5_no_2 : decode cX5_no 2 = .ok (.putfield 44, 3) := by decide +kernel
theorem dX5_no_5 : decode cX5_no 5 = .ok (.iconst 0, 1) := by decide +kernel
theorem dX5_no_6 : decode cX5_no 6 = .ok (.ireturn, 1) := by decide +kernel
theorem dX5_isWorld_0 : decode cX5_isWorld 0 = .ok (.iload_n 1, 1) := by decide +kernel
theorem dX5_isWorld_1 : decode cX5_isWorld 1 = .ok (.ifCond .lt 15, 3) := by decide +kernel
theorem dX5_isWorld_4 : decode cX5_isWorld 4 = .ok (.iload_n 1, 1) := by decide +kernel
theorem dX5_isWorld_5 : decode cX5_isWorld 5 = .ok (.aload_n 0, 1) := by decide +kernel
theorem dX5_isWorld_6 : decode cX5_isWorld 6 = .ok (.getfield 48, 3) := by decide +kernel
theorem dX5_isWorld_9 : decode cX5_isWorld 9 = .ok (.if_icmp .ge 7, 3) := by decide +kernel
theorem dX5_isWorld_12 : decode cX5_isWorld 12 = .ok (.iconst 1, 1) := by decide +kernel
theorem dX5_isWorld_13 : decode cX5_isWorld 13 = .ok (.goto 4, 3) := by decide +kernel
theorem dX5_isWorld_16 : decode cX5_isWorld 16 = .ok (.iconst 0, 1) := by decide +kernel
theorem dX5_isWorld_17 : decode cX5_isWorld 17 = .ok (.ireturn, 1) := by decide +kernel
theorem dX5_isAgent_0 : decode cX5_isAgent 0 = .ok (.iload_n 0, 1) := by decide +kernel
theorem dX5_isAgent_1 : decode cX5_isAgent 1 = .ok (.ifCond .lt 12, 3) := by decide +kernel
theorem dX5_isAgent_4 : decode cX5_isAgent 4 = .ok (.iload_n 0, 1) := by decide +kernel
theorem dX5_isAgent_5 : decode cX5_isAgent 5 = .ok (.iconst 4, 1) := by decide +kernel
theorem dX5_isAgent_6 : decode cX5_isAgent 6 = .ok (.if_icmp .ge 7, 3) := by decide +kernel
theorem dX5_isAgent_9 : decode cX5_isAgent 9 = .ok (.iconst 1, 1) := by decide +kernel
theorem dX5_isAgent_10 : decode cX5_isAgent 10 = .ok (.goto 4, 3) := by decide +kernel
theorem dX5_isAgent_13 : decode cX5_isAgent 13 = .ok (.iconst 0, 1) := by decide +kernel
theorem dX5_isAgent_14 : decode cX5_isAgent 14 = .ok (.ireturn, 1) := by decide +kernel
theorem dX5_isGroup_0 : decode cX5_isGroup 0 = .ok (.iload_n 0, 1) := by decide +kernel
theorem dX5_isGroup_1 : decode cX5_isGroup 1 = .ok (.iconst 1, 1) := by decide +kernel
theorem dX5_isGroup_2 : decode cX5_isGroup 2 = .ok (.if_icmp .lt 13, 3) := by decide +kernel
theorem dX5_isGroup_5 : decode cX5_isGroup 5 = .ok (.iload_n 0, 1) := by decide +kernel
theorem dX5_isGroup_6 : decode cX5_isGroup 6 = .ok (.bipush 16, 2) := by decide +kernel
theorem dX5_isGroup_8 : decode cX5_isGroup 8 = .ok (.if_icmp .ge 7, 3) := by decide +kernel
theorem dX5_isGroup_11 : decode cX5_isGroup 11 = .ok (.iconst 1, 1) := by decide +kernel
theorem dX5_isGroup_12 : decode cX5_isGroup 12 = .ok (.goto 4, 3) := by decide +kernel
theorem dX5_isGroup_15 : decode cX5_isGroup 15 = .ok (.iconst 0, 1) := by decide +kernel
theorem dX5_isGroup_16 : decode cX5_isGroup 16 = .ok (.ireturn, 1) := by decide +kernel
theorem dX5_isFormula_0 : decode cX5_isFormula 0 = .ok (.iload_n 1, 1) := by decide +kernel
theorem dX5_isFormula_1 : decode cX5_isFormula 1 = .ok (.ifCond .lt 15, 3) := by decide +kernel
theorem dX5_isFormula_4 : decode cX5_isFormula 4 = .ok (.iload_n 1, 1) := by decide +kernel
theorem dX5_isFormula_5 : decode cX5_isFormula 5 = .ok (.aload_n 0, 1) := by decide +kernel
theorem dX5_isFormula_6 : decode cX5_isFormula 6 = .ok (.getfield 51, 3) := by decide +kernel
theorem dX5_isFormula_9 : decode cX5_isFormula 9 = .ok (.if_icmp .ge 7, 3) := by decide +kernel
theorem dX5_isFormula_12 : decode cX5_isFormula 12 = .ok (.iconst 1, 1) := by decide +kernel
theorem dX5_isFormula_13 : decode cX5_isFormula 13 = .ok (.goto 4, 3) := by decide +kernel
theorem dX5_isFormula_16 : decode cX5_isFormula 16 = .ok (.iconst 0, 1) := by decide +kernel
theorem dX5_isFormula_17 : decode cX5_isFormula 17 = .ok (.ireturn, 1) := by decide +kernel
theorem dX5_areAtoms_0 : decode cX5_areAtoms 0 = .ok (.iload_n 0, 1) := by decide +kernel
theorem dX5_areAtoms_1 : decode cX5_areAtoms 1 = .ok (.ifCond .lt 13, 3) := by decide +kernel
theorem dX5_areAtoms_4 : decode cX5_areAtoms 4 = .ok (.iload_n 0, 1) := by decide +kernel
theorem dX5_areAtoms_5 : decode cX5_areAtoms 5 = .ok (.bipush 64, 2) := by decide +kernel
theorem dX5_areAtoms_7 : decode cX5_areAtoms 7 = .ok (.if_icmp .ge 7, 3) := by decide +kernel
theorem dX5_areAtoms_10 : decode cX5_areAtoms 10 = .ok (.iconst 1, 1) := by decide +kernel
theorem dX5_areAtoms_11 : decode cX5_areAtoms 11 = .ok (.goto 4, 3) := by decide +kernel
theorem dX5_areAtoms_14 : decode cX5_areAtoms 14 = .ok (.iconst 0, 1) := by decide +kernel
theorem dX5_areAtoms_15 : decode cX5_areAtoms 15 = .ok (.ireturn, 1) := by decide +kernel
theorem dX5_has_0 : decode cX5_has 0 = .ok (.iload_n 0, 1) := by decide +kernel
theorem dX5_has_1 : decode cX5_has 1 = .ok (.iload_n 1, 1) := by decide +kernel
theorem dX5_has_2 : decode cX5_has 2 = .ok (.ishr, 1) := by decide +kernel
theorem dX5_has_3 : decode cX5_has 3 = .ok (.iconst 1, 1) := by decide +kernel
theorem dX5_has_4 : decode cX5_has 4 = .ok (.iand, 1) := by decide +kernel
theorem dX5_has_5 : decode cX5_has 5 = .ok (.iconst 1, 1) := by decide +kernel
theorem dX5_has_6 : decode cX5_has 6 = .ok (.if_icmp .ne 7, 3) := by decide +kernel
theorem dX5_has_9 : decode cX5_has 9 = .ok (.iconst 1, 1) := by decide +kernel
theorem dX5_has_10 : decode cX5_has 10 = .ok (.goto 4, 3) := by decide +kernel
theorem dX5_has_13 : decode cX5_has 13 = .ok (.iconst 0, 1) := by decide +kernel
theorem dX5_has_14 : decode cX5_has 14 = .ok (.ireturn, 1) := by decide +kernel
theorem dX5_all_0 : decode cX5_all 0 = .ok (.iconst 1, 1) := by decide +kernel
theorem dX5_all_1 : decode cX5_all 1 = .ok (.aload_n 0, 1) := by decide +kernel
theorem dX5_all_2 : decode cX5_all 2 = .ok (.getfield 48, 3) := by decide +kernel
theorem dX5_all_5 : decode cX5_all 5 = .ok (.ishl, 1) := by decide +kernel
theorem dX5_all_6 : decode cX5_all 6 = .ok (.iconst 1, 1) := by decide +kernel
theorem dX5_all_7 : decode cX5_all 7 = .ok (.isub, 1) := by decide +kernel
theorem dX5_all_8 : decode cX5_all 8 = .ok (.ireturn, 1) := by decide +kernel
set_option maxRecDepth 20000 in
theorem ggX5_addWorld_X5_areAtoms : GoodIn wsX5_addWorld wsX5_areAtoms := goodIn_r _ [9] (by decide +kernel) (by decide +kernel)
set_option maxRecDepth 20000 in
theorem gX5_addWorld_X5_areAtoms : GoodIn wsX5_addWorld (va_wsS RX5 54 yX5_areAtoms wsX5_areAtoms) := goodIn_app (goodIn_of _ (by decide +kernel)) ggX5_addWorld_X5_areAtoms
set_option maxRecDepth 20000 in
theorem ggX5_addWorld_X5_no : GoodIn wsX5_addWorld wsX5_no := goodIn_r _ [13, 1, 14, 15, 16, 17, 18, 19, 20, 21, 22, 23, 24, 25, 26, 27, 28] (by decide +kernel) (by decide +kernel)
set_option maxRecDepth 20000 in
theorem gX5_addWorld_X5_no : GoodIn wsX5_addWorld (wsV RX5 58 RX5 yX5_no wsX5_no) := goodIn_app (goodIn_of _ (by decide +kernel)) ggX5_addWorld_X5_no
theorem dX5_addWorld_0 : decode cX5_addWorld 0 = .ok (.aload_n 0, 1) := by decide +kernel
theorem dX5_addWorld_1 : decode cX5_addWorld 1 = .ok (.iconst 0, 1) := by decide +kernel
theorem dX5_addWorld_2 : decode cX5_addWorld 2 = .ok (.putfield 44, 3) := by decide +kernel
theorem dX5_addWorld_5 : decode cX5_addWorld 5 = .ok (.iload_n 1, 1) := by decide +kernel
theorem dX5_addWorld_6 : decode cX5_addWorld 6 = .ok (.invokestatic 54, 3) := by decide +kernel
theorem dX5_addWorld_9 : decode cX5_addWorld 9 = .ok (.ifCond .ne 9, 3) := by decide +kernel
theorem dX5_addWorld_12 : decode cX5_addWorld 12 = .ok (.aload_n 0, 1) := by decide +kernel
theorem dX5_addWorld_13 : decode cX5_addWorld 13 = .ok (.iconst 1, 1) := by decide +kernel
theorem dX5_addWorld_14 : decode cX5_addWorld 14 = .ok (.invokevirtual 58, 3) := by decide +kernel
theorem dX5_addWorld_17 : decode cX5_addWorld 17 = .ok (.ireturn, 1) := by decide +kernel
theorem dX5_addWorld_18 : decode cX5_addWorld 18 = .ok (.aload_n 0, 1) := by decide +kernel
theorem dX5_addWorld_19 : decode cX5_addWorld 19 = .ok (.getfield 48, 3) := by decide +kernel
theorem dX5_addWorld_22 : decode cX5_addWorld 22 = .ok (.bipush 24, 2) := by decide +kernel
theorem dX5_addWorld_24 : decode cX5_addWorld 24 = .ok (.if_icmp .ne 9, 3) := by decide +kernel
theorem dX5_addWorld_27 : decode cX5_addWorld 27 = .ok (.aload_n 0, 1) := by decide +kernel
theorem dX5_addWorld_28 : decode cX5_addWorld 28 = .ok (.iconst 2, 1) := by decide +kernel
theorem dX5_addWorld_29 : decode cX5_addWorld 29 = .ok (.invokevirtual 58, 3) := by decide +kernel
theorem dX5_addWorld_32 : decode cX5_addWorld 32 = .ok (.ireturn, 1) := by decide +kernel
theorem dX5_addWorld_33 : decode cX5_addWorld 33 = .ok (.aload_n 0, 1) := by decide +kernel
theorem dX5_addWorld_34 : decode cX5_addWorld 34 = .ok (.getfield 9, 3) := by decide +kernel
theorem dX5_addWorld_37 : decode cX5_addWorld 37 = .ok (.aload_n 0, 1) := by decide +kernel
theorem dX5_addWorld_38 : decode cX5_addWorld 38 = .ok (.getfield 48, 3) := by decide +kernel
theorem dX5_addWorld_41 : decode cX5_addWorld 41 = .ok (.iload_n 1, 1) := by decide +kernel
theorem dX5_addWorld_42 : decode cX5_addWorld 42 = .ok (.iastore, 1) := by decide +kernel
theorem dX5_addWorld_43 : decode cX5_addWorld 43 = .ok (.iconst 0, 1) := by decide +kernel
theorem dX5_addWorld_44 : decode cX5_addWorld 44 = .ok (.istore_n 2, 1) := by decide +kernel
theorem dX5_addWorld_45 : decode cX5_addWorld 45 = .ok (.iload_n 2, 1) := by decide +kernel
theorem dX5_addWorld_46 : decode cX5_addWorld 46 = .ok (.iconst 4, 1) := by decide +kernel
theorem dX5_addWorld_47 : decode cX5_addWorld 47 = .ok (.if_icmp .ge 24, 3) := by decide +kernel
theorem dX5_addWorld_50 : decode cX5_addWorld 50 = .ok (.aload_n 0, 1) := by decide +kernel
theorem dX5_addWorld_51 : decode cX5_addWorld 51 = .ok (.getfield 13, 3) := by decide +kernel
theorem dX5_addWorld_54 : decode cX5_addWorld 54 = .ok (.bipush 24, 2) := by decide +kernel
theorem dX5_addWorld_56 : decode cX5_addWorld 56 = .ok (.iload_n 2, 1) := by decide +kernel
theorem dX5_addWorld_57 : decode cX5_addWorld 57 = .ok (.imul, 1) := by decide +kernel
theorem dX5_addWorld_58 : decode cX5_addWorld 58 = .ok (.aload_n 0, 1) := by decide +kernel
theorem dX5_addWorld_59 : decode cX5_addWorld 59 = .ok (.getfield 48, 3) := by decide +kernel
theorem dX5_addWorld_62 : decode cX5_addWorld 62 = .ok (.iadd, 1) := by decide +kernel
theorem dX5_addWorld_63 : decode cX5_addWorld 63 = .ok (.iconst 0, 1) := by decide +kernel
theorem dX5_addWorld_64 : decode cX5_addWorld 64 = .ok (.iastore, 1) := by decide +kernel
theorem dX5_addWorld_65 : decode cX5_addWorld 65 = .ok (.iinc 2 1, 3) := by decide +kernel
theorem dX5_addWorld_68 : decode cX5_addWorld 68 = .ok (.goto (-23), 3) := by decide +kernel
theorem dX5_addWorld_71 : decode cX5_addWorld 71 = .ok (.aload_n 0, 1) := by decide +kernel
theorem dX5_addWorld_72 : decode cX5_addWorld 72 = .ok (.getfield 48, 3) := by decide +kernel
theorem dX5_addWorld_75 : decode cX5_addWorld 75 = .ok (.ifCond .ne 8, 3) := by decide +kernel
theorem dX5_addWorld_78 : decode cX5_addWorld 78 = .ok (.aload_n 0, 1) := by decide +kernel
theorem dX5_addWorld_79 : decode cX5_addWorld 79 = .ok (.iconst 0, 1) := by decide +kernel
theorem dX5_addWorld_80 : decode cX5_addWorld 80 = .ok (.putfield 62, 3) := by decide +kernel
theorem dX5_addWorld_83 : decode cX5_addWorld 83 = .ok (.aload_n 0, 1) := by decide +kernel
theorem dX5_addWorld_84 : decode cX5_addWorld 84 = .ok (.dup, 1) := by decide +kernel
theorem dX5_addWorld_85 : decode cX5_addWorld 85 = .ok (.getfield 48, 3) := by decide +kernel
theorem dX5_addWorld_88 : decode cX5_addWorld 88 = .ok (.iconst 1, 1) := by decide +kernel
theorem dX5_addWorld_89 : decode cX5_addWorld 89 = .ok (.iadd, 1) := by decide +kernel
theorem dX5_addWorld_90 : decode cX5_addWorld 90 = .ok (.putfield 48, 3) := by decide +kernel
theorem dX5_addWorld_93 : decode cX5_addWorld 93 = .ok (.aload_n 0, 1) := by decide +kernel
theorem dX5_addWorld_94 : decode cX5_addWorld 94 = .ok (.getfield 48, 3) := by decide +kernel
theorem dX5_addWorld_97 : decode cX5_addWorld 97 = .ok (.iconst 1, 1) := by decide +kernel
theorem dX5_addWorld_98 : decode cX5_addWorld 98 = .ok (.isub, 1) := by decide +kernel
theorem dX5_addWorld_99 : decode cX5_addWorld 99 = .ok (.ireturn, 1) := by decide +kernel
set_option maxRecDepth 20000 in
theorem ggX5_setAtoms_X5_isWorld : GoodIn wsX5_setAtoms wsX5_isWorld := goodIn_r _ [7, 8, 16, 17, 18, 19, 20, 21, 22, 23, 24, 25, 26, 27, 28, 29, 30] (by decide +kernel) (by decide +kernel)
set_option maxRecDepth 20000 in
theorem gX5_setAtoms_X5_isWorld : GoodIn wsX5_setAtoms (wsV RX5 65 RX5 yX5_isWorld wsX5_isWorld) := goodIn_app (goodIn_of _ (by decide +kernel)) ggX5_setAtoms_X5_isWorld
set_option maxRecDepth 20000 in
theorem ggX5_setAtoms_X5_no : GoodIn wsX5_setAtoms wsX5_no := goodIn_r _ [12, 1, 16, 17, 18, 19, 20, 21, 22, 23, 24, 25, 26, 27, 28, 29, 30] (by decide +kernel) (by decide +kernel)
set_option maxRecDepth 20000 in
theorem gX5_setAtoms_X5_no : GoodIn wsX5_setAtoms (wsV RX5 58 RX5 yX5_no wsX5_no) := goodIn_app (goodIn_of _ (by decide +kernel)) ggX5_setAtoms_X5_no
set_option maxRecDepth 20000 in
theorem ggX5_setAtoms_X5_areAtoms : GoodIn wsX5_setAtoms wsX5_areAtoms := goodIn_r _ [15] (by decide +kernel) (by decide +kernel)
set_option maxRecDepth 20000 in
theorem gX5_setAtoms_X5_areAtoms : GoodIn wsX5_setAtoms (va_wsS RX5 54 yX5_areAtoms wsX5_areAtoms) := goodIn_app (goodIn_of _ (by decide +kernel)) ggX5_setAtoms_X5_areAtoms
theorem dX5_setAtoms_0 : decode cX5_setAtoms 0 = .ok (.aload_n 0, 1) := by decide +kernel
theorem dX5_setAtoms_1 : decode cX5_setAtoms 1 = .ok (.iconst 0, 1) := by decide +kernel
theorem dX5_setAtoms_2 : decode cX5_setAtoms 2 = .ok (.putfield 44, 3) := by decide +kernel
theorem dX5_setAtoms_5 : decode cX5_setAtoms 5 = .ok (.aload_n 0, 1) := by decide +kernel
theorem dX5_setAtoms_6 : decode cX5_setAtoms 6 = .ok (.iload_n 1, 1) := by decide +kernel
theorem dX5_setAtoms_7 : decode cX5_setAtoms 7 = .ok (.invokevirtual 65, 3) := by decide +kernel
theorem dX5_setAtoms_10 : decode cX5_setAtoms 10 = .ok (.ifCond .ne 9, 3) := by decide +kernel
theorem dX5_setAtoms_13 : decode cX5_setAtoms 13 = .ok (.aload_n 0, 1) := by decide +kernel
theorem dX5_setAtoms_14 : decode cX5_setAtoms 14 = .ok (.iconst 1, 1) := by decide +kernel
theorem dX5_setAtoms_15 : decode cX5_setAtoms 15 = .ok (.invokevirtual 58, 3) := by decide +kernel
theorem dX5_setAtoms_18 : decode cX5_setAtoms 18 = .ok (.ireturn, 1) := by decide +kernel
theorem dX5_setAtoms_19 : decode cX5_setAtoms 19 = .ok (.iload_n 2, 1) := by decide +kernel
theorem dX5_setAtoms_20 : decode cX5_setAtoms 20 = .ok (.invokestatic 54, 3) := by decide +kernel
theorem dX5_setAtoms_23 : decode cX5_setAtoms 23 = .ok (.ifCond .ne 9, 3) := by decide +kernel
theorem dX5_setAtoms_26 : decode cX5_setAtoms 26 = .ok (.aload_n 0, 1) := by decide +kernel
theorem dX5_setAtoms_27 : decode cX5_setAtoms 27 = .ok (.iconst 2, 1) := by decide +kernel
theorem dX5_setAtoms_28 : decode cX5_setAtoms 28 = .ok (.invokevirtual 58, 3) := by decide +kernel
theorem dX5_setAtoms_31 : decode cX5_setAtoms 31 = .ok (.ireturn, 1) := by decide +kernel
theorem dX5_setAtoms_32 : decode cX5_setAtoms 32 = .ok (.aload_n 0, 1) := by decide +kernel
theorem dX5_setAtoms_33 : decode cX5_setAtoms 33 = .ok (.getfield 9, 3) := by decide +kernel
theorem dX5_setAtoms_36 : decode cX5_setAtoms 36 = .ok (.iload_n 1, 1) := by decide +kernel
theorem dX5_setAtoms_37 : decode cX5_setAtoms 37 = .ok (.iaload, 1) := by decide +kernel
theorem dX5_setAtoms_38 : decode cX5_setAtoms 38 = .ok (.istore_n 3, 1) := by decide +kernel
theorem dX5_setAtoms_39 : decode cX5_setAtoms 39 = .ok (.aload_n 0, 1) := by decide +kernel
theorem dX5_setAtoms_40 : decode cX5_setAtoms 40 = .ok (.getfield 9, 3) := by decide +kernel
theorem dX5_setAtoms_43 : decode cX5_setAtoms 43 = .ok (.iload_n 1, 1) := by decide +kernel
theorem dX5_setAtoms_44 : decode cX5_setAtoms 44 = .ok (.iload_n 2, 1) := by decide +kernel
theorem dX5_setAtoms_45 : decode cX5_setAtoms 45 = .ok (.iastore, 1) := by decide +kernel
theorem dX5_setAtoms_46 : decode cX5_setAtoms 46 = .ok (.iload_n 3, 1) := by decide +kernel
theorem dX5_setAtoms_47 : decode cX5_setAtoms 47 = .ok (.ireturn, 1) := by decide +kernel
set_option maxRecDepth 20000 in
theorem ggX5_connect_X5_isAgent : GoodIn wsX5_connect wsX5_isAgent := goodIn_r _ [6] (by decide +kernel) (by decide +kernel)
set_option maxRecDepth 20000 in
theorem gX5_connect_X5_isAgent : GoodIn wsX5_connect (va_wsS RX5 68 yX5_isAgent wsX5_isAgent) := goodIn_app (goodIn_of _ (by decide +kernel)) ggX5_connect_X5_isAgent
set_option maxRecDepth 20000 in
theorem ggX5_connect_X5_isWorld : GoodIn wsX5_connect wsX5_isWorld := goodIn_r _ [10, 11, 15, 16, 17, 18, 19, 20, 21, 22, 23, 24, 25, 26, 27, 28, 29] (by decide +kernel) (by decide +kernel)
set_option maxRecDepth 20000 in
theorem gX5_connect_X5_isWorld : GoodIn wsX5_connect (wsV RX5 65 RX5 yX5_isWorld wsX5_isWorld) := goodIn_app (goodIn_of _ (by decide +kernel)) ggX5_connect_X5_isWorld
set_option maxRecDepth 20000 in
theorem ggX5_connect_X5_has : GoodIn wsX5_connect wsX5_has := goodIn_r _ [14] (by decide +kernel) (by decide +kernel)
set_option maxRecDepth 20000 in
theorem gX5_connect_X5_has : GoodIn wsX5_connect (va_wsS RX5 71 yX5_has wsX5_has) := goodIn_app (goodIn_of _ (by decide +kernel)) ggX5_connect_X5_has
theorem dX5_connect_0 : decode cX5_connect 0 = .ok (.aload_n 0, 1) := by decide +kernel
theorem dX5_connect_1 : decode cX5_connect 1 = .ok (.iload_n 1, 1) := by decide +kernel
theorem dX5_connect_2 : decode cX5_connect 2 = .ok (.invokestatic 68, 3) := by decide +kernel
theorem dX5_connect_5 : decode cX5_connect 5 = .ok (.ifCond .eq 23, 3) := by decide +kernel
theorem dX5_connect_8 : decode cX5_connect 8 = .ok (.aload_n 0, 1) := by decide +kernel
theorem dX5_connect_9 : decode cX5_connect 9 = .ok (.iload_n 2, 1) := by decide +kernel
theorem dX5_connect_10 : decode cX5_connect 10 = .ok (.invokevirtual 65, 3) := by decide +kernel
theorem dX5_connect_13 : decode cX5_connect 13 = .ok (.ifCond .eq 15, 3) := by decide +kernel
theorem dX5_connect_16 : decode cX5_connect 16 = .ok (.aload_n 0, 1) := by decide +kernel
theorem dX5_connect_17 : decode cX5_connect 17 = .ok (.iload_n 3, 1) := by decide +kernel
theorem dX5_connect_18 : decode cX5_connect 18 = .ok (.invokevirtual 65, 3) := by decide +kernel
theorem dX5_connect_21 : decode cX5_connect 21 = .ok (.ifCond .eq 7, 3) := by decide +kernel
theorem dX5_connect_24 : decode cX5_connect 24 = .ok (.iconst 0, 1) := by decide +kernel
theorem dX5_connect_25 : decode cX5_connect 25 = .ok (.goto 4, 3) := by decide +kernel
theorem dX5_connect_28 : decode cX5_connect 28 = .ok (.iconst 1, 1) := by decide +kernel
theorem dX5_connect_29 : decode cX5_connect 29 = .ok (.putfield 44, 3) := by decide +kernel
theorem dX5_connect_32 : decode cX5_connect 32 = .ok (.aload_n 0, 1) := by decide +kernel
theorem dX5_connect_33 : decode cX5_connect 33 = .ok (.getfield 44, 3) := by decide +kernel
theorem dX5_connect_36 : decode cX5_connect 36 = .ok (.ifCond .eq 5, 3) := by decide +kernel
theorem dX5_connect_39 : decode cX5_connect 39 = .ok (.iconst 0, 1) := by decide +kernel
theorem dX5_connect_40 : decode cX5_connect 40 = .ok (.ireturn, 1) := by decide +kernel
theorem dX5_connect_41 : decode cX5_connect 41 = .ok (.bipush 24, 2) := by decide +kernel
theorem dX5_connect_43 : decode cX5_connect 43 = .ok (.iload_n 1, 1) := by decide +kernel
theorem dX5_connect_44 : decode cX5_connect 44 = .ok (.imul, 1) := by decide +kernel
theorem dX5_connect_45 : decode cX5_connect 45 = .ok (.iload_n 2, 1) := by decide +kernel
theorem dX5_connect_46 : decode cX5_connect 46 = .ok (.iadd, 1) := by decide +kernel
theorem dX5_connect_47 : decode cX5_connect 47 = .ok (.istore 5, 2) := by decide +kernel
theorem dX5_connect_49 : decode cX5_connect 49 = .ok (.aload_n 0, 1) := by decide +kernel
theorem dX5_connect_50 : decode cX5_connect 50 = .ok (.getfield 13, 3) := by decide +kernel
theorem dX5_connect_53 : decode cX5_connect 53 = .ok (.iload 5, 2) := by decide +kernel
theorem dX5_connect_55 : decode cX5_connect 55 = .ok (.iaload, 1) := by decide +kernel
theorem dX5_connect_56 : decode cX5_connect 56 = .ok (.iload_n 3, 1) := by decide +kernel
theorem dX5_connect_57 : decode cX5_connect 57 = .ok (.invokestatic 71, 3) := by decide +kernel
theorem dX5_connect_60 : decode cX5_connect 60 = .ok (.istore 6, 2) := by decide +kernel
theorem dX5_connect_62 : decode cX5_connect 62 = .ok (.aload_n 0, 1) := by decide +kernel
theorem dX5_connect_63 : decode cX5_connect 63 = .ok (.getfield 13, 3) := by decide +kernel
theorem dX5_connect_66 : decode cX5_connect 66 = .ok (.iload 5, 2) := by decide +kernel
theorem dX5_connect_68 : decode cX5_connect 68 = .ok (.iload 4, 2) := by decide +kernel
theorem dX5_connect_70 : decode cX5_connect 70 = .ok (.ifCond .eq 17, 3) := by decide +kernel
theorem dX5_connect_73 : decode cX5_connect 73 = .ok (.aload_n 0, 1) := by decide +kernel
theorem dX5_connect_74 : decode cX5_connect 74 = .ok (.getfield 13, 3) := by decide +kernel
theorem dX5_connect_77 : decode cX5_connect 77 = .ok (.iload 5, 2) := by decide +kernel
theorem dX5_connect_79 : decode cX5_connect 79 = .ok (.iaload, 1) := by decide +kernel
theorem dX5_connect_80 : decode cX5_connect 80 = .ok (.iconst 1, 1) := by decide +kernel
theorem dX5_connect_81 : decode cX5_connect 81 = .ok (.iload_n 3, 1) := by decide +kernel
theorem dX5_connect_82 : decode cX5_connect 82 = .ok (.ishl, 1) := by decide +kernel
theorem dX5_connect_83 : decode cX5_connect 83 = .ok (.ior, 1) := by decide +kernel
theorem dX5_connect_84 : decode cX5_connect 84 = .ok (.goto 16, 3) := by decide +kernel
theorem dX5_connect_87 : decode cX5_connect 87 = .ok (.aload_n 0, 1) := by decide +kernel
theorem dX5_connect_88 : decode cX5_connect 88 = .ok (.getfield 13, 3) := by decide +kernel
theorem dX5_connect_91 : decode cX5_connect 91 = .ok (.iload 5, 2) := by decide +kernel
theorem dX5_connect_93 : decode cX5_connect 93 = .ok (.iaload, 1) := by decide +kernel
theorem dX5_connect_94 : decode cX5_connect 94 = .ok (.iconst 1, 1) := by decide +kernel
theorem dX5_connect_95 : decode cX5_connect 95 = .ok (.iload_n 3, 1) := by decide +kernel
theorem dX5_connect_96 : decode cX5_connect 96 = .ok (.ishl, 1) := by decide +kernel
theorem dX5_connect_97 : decode cX5_connect 97 = .ok (.iconst (-1), 1) := by decide +kernel
theorem dX5_connect_98 : decode cX5_connect 98 = .ok (.ixor, 1) := by decide +kernel
theorem dX5_connect_99 : decode cX5_connect 99 = .ok (.iand, 1) := by decide +kernel
theorem dX5_connect_100 : decode cX5_connect 100 = .ok (.iastore, 1) := by decide +kernel
theorem dX5_connect_101 : decode cX5_connect 101 = .ok (.iload 6, 2) := by decide +kernel
theorem dX5_connect_103 : decode cX5_connect 103 = .ok (.ireturn, 1) := by decide +kernel
set_option maxRecDepth 20000 in
theorem ggX5_gather_X5_isAgent : GoodIn wsX5_gather wsX5_isAgent := goodIn_r _ [7] (by decide +kernel) (by decide +kernel)
set_option maxRecDepth 20000 in
theorem gX5_gather_X5_isAgent : GoodIn wsX5_gather (va_wsS RX5 68 yX5_isAgent wsX5_isAgent) := goodIn_app (goodIn_of _ (by decide +kernel)) ggX5_gather_X5_isAgent
set_option maxRecDepth 20000 in
theorem ggX5_gather_X5_no : GoodIn wsX5_gather wsX5_no := goodIn_r _ [11, 1, 22, 23, 24, 25, 26, 27, 28, 29, 30, 31, 32, 33, 34, 35, 36] (by decide +kernel) (by decide +kernel)
set_option maxRecDepth 20000 in
theorem gX5_gather_X5_no : GoodIn wsX5_gather (wsV RX5 58 RX5 yX5_no wsX5_no) := goodIn_app (goodIn_of _ (by decide +kernel)) ggX5_gather_X5_no
set_option maxRecDepth 20000 in
theorem ggX5_gather_X5_has : GoodIn wsX5_gather wsX5_has := goodIn_r _ [14] (by decide +kernel) (by decide +kernel)
set_option maxRecDepth 20000 in
theorem gX5_gather_X5_has : GoodIn wsX5_gather (va_wsS RX5 71 yX5_has wsX5_has) := goodIn_app (goodIn_of _ (by decide +kernel)) ggX5_gather_X5_has
set_option maxRecDepth 20000 in
theorem ggX5_gather_J6_bitCount_0f7a4 : GoodIn wsX5_gather wsJ6_bitCount_0f7a4 := goodIn_r _ [18, 19, 20, 21] (by decide +kernel) (by decide +kernel)
set_option maxRecDepth 20000 in
theorem gX5_gather_J6_bitCount_0f7a4 : GoodIn wsX5_gather (va_wsS RX5 75 yJ6_bitCount_0f7a4 wsJ6_bitCount_0f7a4) := goodIn_app (goodIn_of _ (by decide +kernel)) ggX5_gather_J6_bitCount_0f7a4
theorem dX5_gather_0 : decode cX5_gather 0 = .ok (.aload_n 0, 1) := by decide +kernel
theorem dX5_gather_1 : decode cX5_gather 1 = .ok (.iconst 0, 1) := by decide +kernel
theorem dX5_gather_2 : decode cX5_gather 2 = .ok (.putfield 44, 3) := by decide +kernel
theorem dX5_gather_5 : decode cX5_gather 5 = .ok (.iload_n 1, 1) := by decide +kernel
theorem dX5_gather_6 : decode cX5_gather 6 = .ok (.invokestatic 68, 3) := by decide +kernel
theorem dX5_gather_9 : decode cX5_gather 9 = .ok (.ifCond .ne 9, 3) := by decide +kernel
theorem dX5_gather_12 : decode cX5_gather 12 = .ok (.aload_n 0, 1) := by decide +kernel
theorem dX5_gather_13 : decode cX5_gather 13 = .ok (.iconst 1, 1) := by decide +kernel
theorem dX5_gather_14 : decode cX5_gather 14 = .ok (.invokevirtual 58, 3) := by decide +kernel
theorem dX5_gather_17 : decode cX5_gather 17 = .ok (.ireturn, 1) := by decide +kernel
theorem dX5_gather_18 : decode cX5_gather 18 = .ok (.iload_n 2, 1) := by decide +kernel
theorem dX5_gather_19 : decode cX5_gather 19 = .ok (.ifCond .lt 12, 3) := by decide +kernel
theorem dX5_gather_22 : decode cX5_gather 22 = .ok (.iload_n 2, 1) := by decide +kernel
theorem dX5_gather_23 : decode cX5_gather 23 = .ok (.aload_n 0, 1) := by decide +kernel
theorem dX5_gather_24 : decode cX5_gather 24 = .ok (.getfield 48, 3) := by decide +kernel
theorem dX5_gather_27 : decode cX5_gather 27 = .ok (.ishr, 1) := by decide +kernel
theorem dX5_gather_28 : decode cX5_gather 28 = .ok (.ifCond .eq 9, 3) := by decide +kernel
theorem dX5_gather_31 : decode cX5_gather 31 = .ok (.aload_n 0, 1) := by decide +kernel
theorem dX5_gather_32 : decode cX5_gather 32 = .ok (.iconst 2, 1) := by decide +kernel
theorem dX5_gather_33 : decode cX5_gather 33 = .ok (.invokevirtual 58, 3) := by decide +kernel
theorem dX5_gather_36 : decode cX5_gather 36 = .ok (.ireturn, 1) := by decide +kernel
theorem dX5_gather_37 : decode cX5_gather 37 = .ok (.iconst 0, 1) := by decide +kernel
theorem dX5_gather_38 : decode cX5_gather 38 = .ok (.istore_n 3, 1) := by decide +kernel
theorem dX5_gather_39 : decode cX5_gather 39 = .ok (.iconst 0, 1) := by decide +kernel
theorem dX5_gather_40 : decode cX5_gather 40 = .ok (.istore 4, 2) := by decide +kernel
theorem dX5_gather_42 : decode cX5_gather 42 = .ok (.iload 4, 2) := by decide +kernel
theorem dX5_gather_44 : decode cX5_gather 44 = .ok (.aload_n 0, 1) := by decide +kernel
theorem dX5_gather_45 : decode cX5_gather 45 = .ok (.getfield 48, 3) := by decide +kernel
theorem dX5_gather_48 : decode cX5_gather 48 = .ok (.if_icmp .ge 59, 3) := by decide +kernel
theorem dX5_gather_51 : decode cX5_gather 51 = .ok (.iload_n 2, 1) := by decide +kernel
theorem dX5_gather_52 : decode cX5_gather 52 = .ok (.iload 4, 2) := by decide +kernel
theorem dX5_gather_54 : decode cX5_gather 54 = .ok (.invokestatic 71, 3) := by decide +kernel
theorem dX5_gather_57 : decode cX5_gather 57 = .ok (.ifCond .ne 6, 3) := by decide +kernel
theorem dX5_gather_60 : decode cX5_gather 60 = .ok (.goto 41, 3) := by decide +kernel
theorem dX5_gather_63 : decode cX5_gather 63 = .ok (.iload_n 3, 1) := by decide +kernel
theorem dX5_gather_64 : decode cX5_gather 64 = .ok (.iload_n 2, 1) := by decide +kernel
theorem dX5_gather_65 : decode cX5_gather 65 = .ok (.aload_n 0, 1) := by decide +kernel
theorem dX5_gather_66 : decode cX5_gather 66 = .ok (.getfield 13, 3) := by decide +kernel
theorem dX5_gather_69 : decode cX5_gather 69 = .ok (.bipush 24, 2) := by decide +kernel
theorem dX5_gather_71 : decode cX5_gather 71 = .ok (.iload_n 1, 1) := by decide +kernel
theorem dX5_gather_72 : decode cX5_gather 72 = .ok (.imul, 1) := by decide +kernel
theorem dX5_gather_73 : decode cX5_gather 73 = .ok (.iload 4, 2) := by decide +kernel
theorem dX5_gather_75 : decode cX5_gather 75 = .ok (.iadd, 1) := by decide +kernel
theorem dX5_gather_76 : decode cX5_gather 76 = .ok (.iaload, 1) := by decide +kernel
theorem dX5_gather_77 : decode cX5_gather 77 = .ok (.iconst (-1), 1) := by decide +kernel
theorem dX5_gather_78 : decode cX5_gather 78 = .ok (.ixor, 1) := by decide +kernel
theorem dX5_gather_79 : decode cX5_gather 79 = .ok (.iand, 1) := by decide +kernel
theorem dX5_gather_80 : decode cX5_gather 80 = .ok (.invokestatic 75, 3) := by decide +kernel
theorem dX5_gather_83 : decode cX5_gather 83 = .ok (.iadd, 1) := by decide +kernel
theorem dX5_gather_84 : decode cX5_gather 84 = .ok (.istore_n 3, 1) := by decide +kernel
theorem dX5_gather_85 : decode cX5_gather 85 = .ok (.aload_n 0, 1) := by decide +kernel
theorem dX5_gather_86 : decode cX5_gather 86 = .ok (.getfield 13, 3) := by decide +kernel
theorem dX5_gather_89 : decode cX5_gather 89 = .ok (.bipush 24, 2) := by decide +kernel
theorem dX5_gather_91 : decode cX5_gather 91 = .ok (.iload_n 1, 1) := by decide +kernel
theorem dX5_gather_92 : decode cX5_gather 92 = .ok (.imul, 1) := by decide +kernel
theorem dX5_gather_93 : decode cX5_gather 93 = .ok (.iload 4, 2) := by decide +kernel
theorem dX5_gather_95 : decode cX5_gather 95 = .ok (.iadd, 1) := by decide +kernel
theorem dX5_gather_96 : decode cX5_gather 96 = .ok (.dup2, 1) := by decide +kernel
theorem dX5_gather_97 : decode cX5_gather 97 = .ok (.iaload, 1) := by decide +kernel
theorem dX5_gather_98 : decode cX5_gather 98 = .ok (.iload_n 2, 1) := by decide +kernel
theorem dX5_gather_99 : decode cX5_gather 99 = .ok (.ior, 1) := by decide +kernel
theorem dX5_gather_100 : decode cX5_gather 100 = .ok (.iastore, 1) := by decide +kernel
theorem dX5_gather_101 : decode cX5_gather 101 = .ok (.iinc 4 1, 3) := by decide +kernel
theorem dX5_gather_104 : decode cX5_gather 104 = .ok (.goto (-62), 3) := by decide +kernel
theorem dX5_gather_107 : decode cX5_gather 107 = .ok (.iload_n 3, 1) := by decide +kernel
theorem dX5_gather_108 : decode cX5_gather 108 = .ok (.ireturn, 1) := by decide +kernel
set_option maxRecDepth 20000 in
theorem ggX5_setActual_X5_isWorld : GoodIn wsX5_setActual wsX5_isWorld := goodIn_r _ [7, 8, 13, 14, 15, 16, 17, 18, 19, 20, 21, 22, 23, 24, 25, 26, 27] (by decide +kernel) (by decide +kernel)
set_option maxRecDepth 20000 in
theorem gX5_setActual_X5_isWorld : GoodIn wsX5_setActual (wsV RX5 65 RX5 yX5_isWorld wsX5_isWorld) := goodIn_app (goodIn_of _ (by decide +kernel)) ggX5_setActual_X5_isWorld
set_option maxRecDepth 20000 in
theorem ggX5_setActual_X5_no : GoodIn wsX5_setActual wsX5_no := goodIn_r _ [12, 1, 13, 14, 15, 16, 17, 18, 19, 20, 21, 22, 23, 24, 25, 26, 27] (by decide +kernel) (by decide +kernel)
set_option maxRecDepth 20000 in
theorem gX5_setActual_X5_no : GoodIn wsX5_setActual (wsV RX5 58 RX5 yX5_no wsX5_no) := goodIn_app (goodIn_of _ (by decide +kernel)) ggX5_setActual_X5_no
theorem dX5_setActual_0 : decode cX5_setActual 0 = .ok (.aload_n 0, 1) := by decide +kernel
theorem dX5_setActual_1 : decode cX5_setActual 1 = .ok (.iconst 0, 1) := by decide +kernel
theorem dX5_setActual_2 : decode cX5_setActual 2 = .ok (.putfield 44, 3) := by decide +kernel
theorem dX5_setActual_5 : decode cX5_setActual 5 = .ok (.aload_n 0, 1) := by decide +kernel
theorem dX5_setActual_6 : decode cX5_setActual 6 = .ok (.iload_n 1, 1) := by decide +kernel
theorem dX5_setActual_7 : decode cX5_setActual 7 = .ok (.invokevirtual 65, 3) := by decide +kernel
theorem dX5_setActual_10 : decode cX5_setActual 10 = .ok (.ifCond .ne 9, 3) := by decide +kernel
theorem dX5_setActual_13 : decode cX5_setActual 13 = .ok (.aload_n 0, 1) := by decide +kernel
theorem dX5_setActual_14 : decode cX5_setActual 14 = .ok (.iconst 1, 1) := by decide +kernel
theorem dX5_setActual_15 : decode cX5_setActual 15 = .ok (.invokevirtual 58, 3) := by decide +kernel
theorem dX5_setActual_18 : decode cX5_setActual 18 = .ok (.ireturn, 1) := by decide +kernel
theorem dX5_setActual_19 : decode cX5_setActual 19 = .ok (.aload_n 0, 1) := by decide +kernel
theorem dX5_setActual_20 : decode cX5_setActual 20 = .ok (.getfield 62, 3) := by decide +kernel
theorem dX5_setActual_23 : decode cX5_setActual 23 = .ok (.istore_n 2, 1) := by decide +kernel
theorem dX5_setActual_24 : decode cX5_setActual 24 = .ok (.aload_n 0, 1) := by decide +kernel
theorem dX5_setActual_25 : decode cX5_setActual 25 = .ok (.iload_n 1, 1) := by decide +kernel
theorem dX5_setActual_26 : decode cX5_setActual 26 = .ok (.putfield 62, 3) := by decide +kernel
theorem dX5_setActual_29 : decode cX5_setActual 29 = .ok (.iload_n 2, 1) := by decide +kernel
theorem dX5_setActual_30 : decode cX5_setActual 30 = .ok (.ireturn, 1) := by decide +kernel
set_option maxRecDepth 20000 in
theorem ggX5_actual_X5_no : GoodIn wsX5_actual wsX5_no := goodIn_r _ [8, 1, 9, 10, 11, 12, 13, 14, 15, 16, 17, 18, 19, 20, 21, 22, 23] (by decide +kernel) (by decide +kernel)
set_option maxRecDepth 20000 in
theorem gX5_actual_X5_no : GoodIn wsX5_actual (wsV RX5 58 RX5 yX5_no wsX5_no) := goodIn_app (goodIn_of _ (by decide +kernel)) ggX5_actual_X5_no
theorem dX5_actual_0 : decode cX5_actual 0 = .ok (.aload_n 0, 1) := by decide +kernel
theorem dX5_actual_1 : decode cX5_actual 1 = .ok (.iconst 0, 1) := by decide +kernel
theorem dX5_actual_2 : decode cX5_actual 2 = .ok (.putfield 44, 3) := by decide +kernel
theorem dX5_actual_5 : decode cX5_actual 5 = .ok (.aload_n 0, 1) := by decide +kernel
theorem dX5_actual_6 : decode cX5_actual 6 = .ok (.getfield 48, 3) := by decide +kernel
theorem dX5_actual_9 : decode cX5_actual 9 = .ok (.ifCond .ne 11, 3) := by decide +kernel
theorem dX5_actual_12 : decode cX5_actual 12 = .ok (.aload_n 0, 1) := by decide +kernel
theorem dX5_actual_13 : decode cX5_actual 13 = .ok (.iconst 1, 1) := by decide +kernel
theorem dX5_actual_14 : decode cX5_actual 14 = .ok (.invokevirtual 58, 3) := by decide +kernel
theorem dX5_actual_17 : decode cX5_actual 17 = .ok (.goto 7, 3) := by decide +kernel
theorem dX5_actual_20 : decode cX5_actual 20 = .ok (.aload_n 0, 1) := by decide +kernel
theorem dX5_actual_21 : decode cX5_actual 21 = .ok (.getfield 62, 3) := by decide +kernel
theorem dX5_actual_24 : decode cX5_actual 24 = .ok (.ireturn, 1) := by decide +kernel
theorem dX5_worldCount_0 : decode cX5_worldCount 0 = .ok (.aload_n 0, 1) := by decide +kernel
theorem dX5_worldCount_1 : decode cX5_worldCount 1 = .ok (.iconst 0, 1) := by decide +kernel
theorem dX5_worldCount_2 : decode cX5_worldCount 2 = .ok (.putfield 44, 3) := by decide +kernel
theorem dX5_worldCount_5 : decode cX5_worldCount 5 = .ok (.aload_n 0, 1) := by decide +kernel
theorem dX5_worldCount_6 : decode cX5_worldCount 6 = .ok (.getfield 48, 3) := by decide +kernel
theorem dX5_worldCount_9 : decode cX5_worldCount 9 = .ok (.ireturn, 1) := by decide +kernel
set_option maxRecDepth 20000 in
theorem ggX5_atoms_X5_isWorld : GoodIn wsX5_atoms wsX5_isWorld := goodIn_r _ [7, 8, 13, 14, 15, 16, 17, 18, 19, 20, 21, 22, 23, 24, 25, 26, 27] (by decide +kernel) (by decide +kernel)
set_option maxRecDepth 20000 in
theorem gX5_atoms_X5_isWorld : GoodIn wsX5_atoms (wsV RX5 65 RX5 yX5_isWorld wsX5_isWorld) := goodIn_app (goodIn_of _ (by decide +kernel)) ggX5_atoms_X5_isWorld
set_option maxRecDepth 20000 in
theorem ggX5_atoms_X5_no : GoodIn wsX5_atoms wsX5_no := goodIn_r _ [12, 1, 13, 14, 15, 16, 17, 18, 19, 20, 21, 22, 23, 24, 25, 26, 27] (by decide +kernel) (by decide +kernel)
set_option maxRecDepth 20000 in
theorem gX5_atoms_X5_no : GoodIn wsX5_atoms (wsV RX5 58 RX5 yX5_no wsX5_no) := goodIn_app (goodIn_of _ (by decide +kernel)) ggX5_atoms_X5_no
theorem dX5_atoms_0 : decode cX5_atoms 0 = .ok (.aload_n 0, 1) := by decide +kernel
theorem dX5_atoms_1 : decode cX5_atoms 1 = .ok (.iconst 0, 1) := by decide +kernel
theorem dX5_atoms_2 : decode cX5_atoms 2 = .ok (.putfield 44, 3) := by decide +kernel
theorem dX5_atoms_5 : decode cX5_atoms 5 = .ok (.aload_n 0, 1) := by decide +kernel
theorem dX5_atoms_6 : decode cX5_atoms 6 = .ok (.iload_n 1, 1) := by decide +kernel
theorem dX5_atoms_7 : decode cX5_atoms 7 = .ok (.invokevirtual 65, 3) := by decide +kernel
theorem dX5_atoms_10 : decode cX5_atoms 10 = .ok (.ifCond .eq 12, 3) := by decide +kernel
theorem dX5_atoms_13 : decode cX5_atoms 13 = .ok (.aload_n 0, 1) := by decide +kernel
theorem dX5_atoms_14 : decode cX5_atoms 14 = .ok (.getfield 9, 3) := by decide +kernel
theorem dX5_atoms_17 : decode cX5_atoms 17 = .ok (.iload_n 1, 1) := by decide +kernel
theorem dX5_atoms_18 : decode cX5_atoms 18 = .ok (.iaload, 1) := by decide +kernel
theorem dX5_atoms_19 : decode cX5_atoms 19 = .ok (.goto 8, 3) := by decide +kernel
theorem dX5_atoms_22 : decode cX5_atoms 22 = .ok (.aload_n 0, 1) := by decide +kernel
theorem dX5_atoms_23 : decode cX5_atoms 23 = .ok (.iconst 1, 1) := by decide +kernel
theorem dX5_atoms_24 : decode cX5_atoms 24 = .ok (.invokevirtual 58, 3) := by decide +kernel
theorem dX5_atoms_27 : decode cX5_atoms 27 = .ok (.ireturn, 1) := by decide +kernel
set_option maxRecDepth 20000 in
theorem ggX5_seen_X5_isAgent : GoodIn wsX5_seen wsX5_isAgent := goodIn_r _ [6] (by decide +kernel) (by decide +kernel)
set_option maxRecDepth 20000 in
theorem gX5_seen_X5_isAgent : GoodIn wsX5_seen (va_wsS RX5 68 yX5_isAgent wsX5_isAgent) := goodIn_app (goodIn_of _ (by decide +kernel)) ggX5_seen_X5_isAgent
set_option maxRecDepth 20000 in
theorem ggX5_seen_X5_isWorld : GoodIn wsX5_seen wsX5_isWorld := goodIn_r _ [10, 11, 16, 17, 18, 19, 20, 21, 22, 23, 24, 25, 26, 27, 28, 29, 30] (by decide +kernel) (by decide +kernel)
set_option maxRecDepth 20000 in
theorem gX5_seen_X5_isWorld : GoodIn wsX5_seen (wsV RX5 65 RX5 yX5_isWorld wsX5_isWorld) := goodIn_app (goodIn_of _ (by decide +kernel)) ggX5_seen_X5_isWorld
set_option maxRecDepth 20000 in
theorem ggX5_seen_X5_no : GoodIn wsX5_seen wsX5_no := goodIn_r _ [15, 1, 16, 17, 18, 19, 20, 21, 22, 23, 24, 25, 26, 27, 28, 29, 30] (by decide +kernel) (by decide +kernel)
set_option maxRecDepth 20000 in
theorem gX5_seen_X5_no : GoodIn wsX5_seen (wsV RX5 58 RX5 yX5_no wsX5_no) := goodIn_app (goodIn_of _ (by decide +kernel)) ggX5_seen_X5_no
theorem dX5_seen_0 : decode cX5_seen 0 = .ok (.aload_n 0, 1) := by decide +kernel
theorem dX5_seen_1 : decode cX5_seen 1 = .ok (.iconst 0, 1) := by decide +kernel
theorem dX5_seen_2 : decode cX5_seen 2 = .ok (.putfield 44, 3) := by decide +kernel
theorem dX5_seen_5 : decode cX5_seen 5 = .ok (.iload_n 1, 1) := by decide +kernel
theorem dX5_seen_6 : decode cX5_seen 6 = .ok (.invokestatic 68, 3) := by decide +kernel
theorem dX5_seen_9 : decode cX5_seen 9 = .ok (.ifCond .eq 25, 3) := by decide +kernel
theorem dX5_seen_12 : decode cX5_seen 12 = .ok (.aload_n 0, 1) := by decide +kernel
theorem dX5_seen_13 : decode cX5_seen 13 = .ok (.iload_n 2, 1) := by decide +kernel
theorem dX5_seen_14 : decode cX5_seen 14 = .ok (.invokevirtual 65, 3) := by decide +kernel
theorem dX5_seen_17 : decode cX5_seen 17 = .ok (.ifCond .eq 17, 3) := by decide +kernel
theorem dX5_seen_20 : decode cX5_seen 20 = .ok (.aload_n 0, 1) := by decide +kernel
theorem dX5_seen_21 : decode cX5_seen 21 = .ok (.getfield 13, 3) := by decide +kernel
theorem dX5_seen_24 : decode cX5_seen 24 = .ok (.bipush 24, 2) := by decide +kernel
theorem dX5_seen_26 : decode cX5_seen 26 = .ok (.iload_n 1, 1) := by decide +kernel
theorem dX5_seen_27 : decode cX5_seen 27 = .ok (.imul, 1) := by decide +kernel
theorem dX5_seen_28 : decode cX5_seen 28 = .ok (.iload_n 2, 1) := by decide +kernel
theorem dX5_seen_29 : decode cX5_seen 29 = .ok (.iadd, 1) := by decide +kernel
theorem dX5_seen_30 : decode cX5_seen 30 = .ok (.iaload, 1) := by decide +kernel
theorem dX5_seen_31 : decode cX5_seen 31 = .ok (.goto 8, 3) := by decide +kernel
theorem dX5_seen_34 : decode cX5_seen 34 = .ok (.aload_n 0, 1) := by decide +kernel
theorem dX5_seen_35 : decode cX5_seen 35 = .ok (.iconst 1, 1) := by decide +kernel
theorem dX5_seen_36 : decode cX5_seen 36 = .ok (.invokevirtual 58, 3) := by decide +kernel
theorem dX5_seen_39 : decode cX5_seen 39 = .ok (.ireturn, 1) := by decide +kernel
set_option maxRecDepth 20000 in
theorem ggX5_arrowCount_X5_isAgent : GoodIn wsX5_arrowCount wsX5_isAgent := goodIn_r _ [7] (by decide +kernel) (by decide +kernel)
set_option maxRecDepth 20000 in
theorem gX5_arrowCount_X5_isAgent : GoodIn wsX5_arrowCount (va_wsS RX5 68 yX5_isAgent wsX5_isAgent) := goodIn_app (goodIn_of _ (by decide +kernel)) ggX5_arrowCount_X5_isAgent
set_option maxRecDepth 20000 in
theorem ggX5_arrowCount_X5_no : GoodIn wsX5_arrowCount wsX5_no := goodIn_r _ [11, 1, 19, 20, 21, 22, 23, 24, 25, 26, 27, 28, 29, 30, 31, 32, 33] (by decide +kernel) (by decide +kernel)
set_option maxRecDepth 20000 in
theorem gX5_arrowCount_X5_no : GoodIn wsX5_arrowCount (wsV RX5 58 RX5 yX5_no wsX5_no) := goodIn_app (goodIn_of _ (by decide +kernel)) ggX5_arrowCount_X5_no
set_option maxRecDepth 20000 in
theorem ggX5_arrowCount_J6_bitCount_0f7a4 : GoodIn wsX5_arrowCount wsJ6_bitCount_0f7a4 := goodIn_r _ [15, 16, 17, 18] (by decide +kernel) (by decide +kernel)
set_option maxRecDepth 20000 in
theorem gX5_arrowCount_J6_bitCount_0f7a4 : GoodIn wsX5_arrowCount (va_wsS RX5 75 yJ6_bitCount_0f7a4 wsJ6_bitCount_0f7a4) := goodIn_app (goodIn_of _ (by decide +kernel)) ggX5_arrowCount_J6_bitCount_0f7a4
theorem dX5_arrowCount_0 : decode cX5_arrowCount 0 = .ok (.aload_n 0, 1) := by decide +kernel
theorem dX5_arrowCount_1 : decode cX5_arrowCount 1 = .ok (.iconst 0, 1) := by decide +kernel
theorem dX5_arrowCount_2 : decode cX5_arrowCount 2 = .ok (.putfield 44, 3) := by decide +kernel
theorem dX5_arrowCount_5 : decode cX5_arrowCount 5 = .ok (.iload_n 1, 1) := by decide +kernel
theorem dX5_arrowCount_6 : decode cX5_arrowCount 6 = .ok (.invokestatic 68, 3) := by decide +kernel
theorem dX5_arrowCount_9 : decode cX5_arrowCount 9 = .ok (.ifCond .ne 9, 3) := by decide +kernel
theorem dX5_arrowCount_12 : decode cX5_arrowCount 12 = .ok (.aload_n 0, 1) := by decide +kernel
theorem dX5_arrowCount_13 : decode cX5_arrowCount 13 = .ok (.iconst 1, 1) := by decide +kernel
theorem dX5_arrowCount_14 : decode cX5_arrowCount 14 = .ok (.invokevirtual 58, 3) := by decide +kernel
theorem dX5_arrowCount_17 : decode cX5_arrowCount 17 = .ok (.ireturn, 1) := by decide +kernel
theorem dX5_arrowCount_18 : decode cX5_arrowCount 18 = .ok (.iconst 0, 1) := by decide +kernel
theorem dX5_arrowCount_19 : decode cX5_arrowCount 19 = .ok (.istore_n 2, 1) := by decide +kernel
theorem dX5_arrowCount_20 : decode cX5_arrowCount 20 = .ok (.iconst 0, 1) := by decide +kernel
theorem dX5_arrowCount_21 : decode cX5_arrowCount 21 = .ok (.istore_n 3, 1) := by decide +kernel
theorem dX5_arrowCount_22 : decode cX5_arrowCount 22 = .ok (.iload_n 3, 1) := by decide +kernel
theorem dX5_arrowCount_23 : decode cX5_arrowCount 23 = .ok (.aload_n 0, 1) := by decide +kernel
theorem dX5_arrowCount_24 : decode cX5_arrowCount 24 = .ok (.getfield 48, 3) := by decide +kernel
theorem dX5_arrowCount_27 : decode cX5_arrowCount 27 = .ok (.if_icmp .ge 26, 3) := by decide +kernel
theorem dX5_arrowCount_30 : decode cX5_arrowCount 30 = .ok (.iload_n 2, 1) := by decide +kernel
theorem dX5_arrowCount_31 : decode cX5_arrowCount 31 = .ok (.aload_n 0, 1) := by decide +kernel
theorem dX5_arrowCount_32 : decode cX5_arrowCount 32 = .ok (.getfield 13, 3) := by decide +kernel
theorem dX5_arrowCount_35 : decode cX5_arrowCount 35 = .ok (.bipush 24, 2) := by decide +kernel
theorem dX5_arrowCount_37 : decode cX5_arrowCount 37 = .ok (.iload_n 1, 1) := by decide +kernel
theorem dX5_arrowCount_38 : decode cX5_arrowCount 38 = .ok (.imul, 1) := by decide +kernel
theorem dX5_arrowCount_39 : decode cX5_arrowCount 39 = .ok (.iload_n 3, 1) := by decide +kernel
theorem dX5_arrowCount_40 : decode cX5_arrowCount 40 = .ok (.iadd, 1) := by decide +kernel
theorem dX5_arrowCount_41 : decode cX5_arrowCount 41 = .ok (.iaload, 1) := by decide +kernel
theorem dX5_arrowCount_42 : decode cX5_arrowCount 42 = .ok (.invokestatic 75, 3) := by decide +kernel
theorem dX5_arrowCount_45 : decode cX5_arrowCount 45 = .ok (.iadd, 1) := by decide +kernel
theorem dX5_arrowCount_46 : decode cX5_arrowCount 46 = .ok (.istore_n 2, 1) := by decide +kernel
theorem dX5_arrowCount_47 : decode cX5_arrowCount 47 = .ok (.iinc 3 1, 3) := by decide +kernel
theorem dX5_arrowCount_50 : decode cX5_arrowCount 50 = .ok (.goto (-28), 3) := by decide +kernel
theorem dX5_arrowCount_53 : decode cX5_arrowCount 53 = .ok (.iload_n 2, 1) := by decide +kernel
theorem dX5_arrowCount_54 : decode cX5_arrowCount 54 = .ok (.ireturn, 1) := by decide +kernel
set_option maxRecDepth 20000 in
theorem ggX5_shape_X5_isAgent : GoodIn wsX5_shape wsX5_isAgent := goodIn_r _ [7] (by decide +kernel) (by decide +kernel)
set_option maxRecDepth 20000 in
theorem gX5_shape_X5_isAgent : GoodIn wsX5_shape (va_wsS RX5 68 yX5_isAgent wsX5_isAgent) := goodIn_app (goodIn_of _ (by decide +kernel)) ggX5_shape_X5_isAgent
set_option maxRecDepth 20000 in
theorem ggX5_shape_X5_no : GoodIn wsX5_shape wsX5_no := goodIn_r _ [11, 1, 15, 16, 17, 18, 19, 20, 21, 22, 23, 24, 25, 26, 27, 28, 29] (by decide +kernel) (by decide +kernel)
set_option maxRecDepth 20000 in
theorem gX5_shape_X5_no : GoodIn wsX5_shape (wsV RX5 58 RX5 yX5_no wsX5_no) := goodIn_app (goodIn_of _ (by decide +kernel)) ggX5_shape_X5_no
set_option maxRecDepth 20000 in
theorem ggX5_shape_X5_has : GoodIn wsX5_shape wsX5_has := goodIn_r _ [14] (by decide +kernel) (by decide +kernel)
set_option maxRecDepth 20000 in
theorem gX5_shape_X5_has : GoodIn wsX5_shape (va_wsS RX5 71 yX5_has wsX5_has) := goodIn_app (goodIn_of _ (by decide +kernel)) ggX5_shape_X5_has
theorem dX5_shape_0 : decode cX5_shape 0 = .ok (.aload_n 0, 1) := by decide +kernel
theorem dX5_shape_1 : decode cX5_shape 1 = .ok (.iconst 0, 1) := by decide +kernel
theorem dX5_shape_2 : decode cX5_shape 2 = .ok (.putfield 44, 3) := by decide +kernel
theorem dX5_shape_5 : decode cX5_shape 5 = .ok (.iload_n 1, 1) := by decide +kernel
theorem dX5_shape_6 : decode cX5_shape 6 = .ok (.invokestatic 68, 3) := by decide +kernel
theorem dX5_shape_9 : decode cX5_shape 9 = .ok (.ifCond .ne 9, 3) := by decide +kernel
theorem dX5_shape_12 : decode cX5_shape 12 = .ok (.aload_n 0, 1) := by decide +kernel
theorem dX5_shape_13 : decode cX5_shape 13 = .ok (.iconst 1, 1) := by decide +kernel
theorem dX5_shape_14 : decode cX5_shape 14 = .ok (.invokevirtual 58, 3) := by decide +kernel
theorem dX5_shape_17 : decode cX5_shape 17 = .ok (.ireturn, 1) := by decide +kernel
theorem dX5_shape_18 : decode cX5_shape 18 = .ok (.iconst 1, 1) := by decide +kernel
theorem dX5_shape_19 : decode cX5_shape 19 = .ok (.istore_n 2, 1) := by decide +kernel
theorem dX5_shape_20 : decode cX5_shape 20 = .ok (.iconst 1, 1) := by decide +kernel
theorem dX5_shape_21 : decode cX5_shape 21 = .ok (.istore_n 3, 1) := by decide +kernel
theorem dX5_shape_22 : decode cX5_shape 22 = .ok (.iconst 1, 1) := by decide +kernel
theorem dX5_shape_23 : decode cX5_shape 23 = .ok (.istore 4, 2) := by decide +kernel
theorem dX5_shape_25 : decode cX5_shape 25 = .ok (.iconst 0, 1) := by decide +kernel
theorem dX5_shape_26 : decode cX5_shape 26 = .ok (.istore 5, 2) := by decide +kernel
theorem dX5_shape_28 : decode cX5_shape 28 = .ok (.iload 5, 2) := by decide +kernel
theorem dX5_shape_30 : decode cX5_shape 30 = .ok (.aload_n 0, 1) := by decide +kernel
theorem dX5_shape_31 : decode cX5_shape 31 = .ok (.getfield 48, 3) := by decide +kernel
theorem dX5_shape_34 : decode cX5_shape 34 = .ok (.if_icmp .ge 136, 3) := by decide +kernel
theorem dX5_shape_37 : decode cX5_shape 37 = .ok (.aload_n 0, 1) := by decide +kernel
theorem dX5_shape_38 : decode cX5_shape 38 = .ok (.getfield 13, 3) := by decide +kernel
theorem dX5_shape_41 : decode cX5_shape 41 = .ok (.bipush 24, 2) := by decide +kernel
theorem dX5_shape_43 : decode cX5_shape 43 = .ok (.iload_n 1, 1) := by decide +kernel
theorem dX5_shape_44 : decode cX5_shape 44 = .ok (.imul, 1) := by decide +kernel
theorem dX5_shape_45 : decode cX5_shape 45 = .ok (.iload 5, 2) := by decide +kernel
theorem dX5_shape_47 : decode cX5_shape 47 = .ok (.iadd, 1) := by decide +kernel
theorem dX5_shape_48 : decode cX5_shape 48 = .ok (.iaload, 1) := by decide +kernel
theorem dX5_shape_49 : decode cX5_shape 49 = .ok (.istore 6, 2) := by decide +kernel
theorem dX5_shape_51 : decode cX5_shape 51 = .ok (.iload_n 2, 1) := by decide +kernel
theorem dX5_shape_52 : decode cX5_shape 52 = .ok (.ifCond .eq 17, 3) := by decide +kernel
theorem dX5_shape_55 : decode cX5_shape 55 = .ok (.iload 6, 2) := by decide +kernel
theorem dX5_shape_57 : decode cX5_shape 57 = .ok (.iload 5, 2) := by decide +kernel
theorem dX5_shape_59 : decode cX5_shape 59 = .ok (.invokestatic 71, 3) := by decide +kernel
theorem dX5_shape_62 : decode cX5_shape 62 = .ok (.ifCond .eq 7, 3) := by decide +kernel
theorem dX5_shape_65 : decode cX5_shape 65 = .ok (.iconst 1, 1) := by decide +kernel
theorem dX5_shape_66 : decode cX5_shape 66 = .ok (.goto 4, 3) := by decide +kernel
theorem dX5_shape_69 : decode cX5_shape 69 = .ok (.iconst 0, 1) := by decide +kernel
theorem dX5_shape_70 : decode cX5_shape 70 = .ok (.istore_n 2, 1) := by decide +kernel
theorem dX5_shape_71 : decode cX5_shape 71 = .ok (.iconst 0, 1) := by decide +kernel
theorem dX5_shape_72 : decode cX5_shape 72 = .ok (.istore 7, 2) := by decide +kernel
theorem dX5_shape_74 : decode cX5_shape 74 = .ok (.iload 7, 2) := by decide +kernel
theorem dX5_shape_76 : decode cX5_shape 76 = .ok (.aload_n 0, 1) := by decide +kernel
theorem dX5_shape_77 : decode cX5_shape 77 = .ok (.getfield 48, 3) := by decide +kernel
theorem dX5_shape_80 : decode cX5_shape 80 = .ok (.if_icmp .ge 84, 3) := by decide +kernel
theorem dX5_shape_83 : decode cX5_shape 83 = .ok (.iload 6, 2) := by decide +kernel
theorem dX5_shape_85 : decode cX5_shape 85 = .ok (.iload 7, 2) := by decide +kernel
theorem dX5_shape_87 : decode cX5_shape 87 = .ok (.invokestatic 71, 3) := by decide +kernel
theorem dX5_shape_90 : decode cX5_shape 90 = .ok (.ifCond .ne 6, 3) := by decide +kernel
theorem dX5_shape_93 : decode cX5_shape 93 = .ok (.goto 65, 3) := by decide +kernel
theorem dX5_shape_96 : decode cX5_shape 96 = .ok (.iload_n 3, 1) := by decide +kernel
theorem dX5_shape_97 : decode cX5_shape 97 = .ok (.ifCond .eq 27, 3) := by decide +kernel
theorem dX5_shape_100 : decode cX5_shape 100 = .ok (.aload_n 0, 1) := by decide +kernel
theorem dX5_shape_101 : decode cX5_shape 101 = .ok (.getfield 13, 3) := by decide +kernel
theorem dX5_shape_104 : decode cX5_shape 104 = .ok (.bipush 24, 2) := by decide +kernel
theorem dX5_shape_106 : decode cX5_shape 106 = .ok (.iload_n 1, 1) := by decide +kernel
theorem dX5_shape_107 : decode cX5_shape 107 = .ok (.imul, 1) := by decide +kernel
theorem dX5_shape_108 : decode cX5_shape 108 = .ok (.iload 7, 2) := by decide +kernel
theorem dX5_shape_110 : decode cX5_shape 110 = .ok (.iadd, 1) := by decide +kernel
theorem dX5_shape_111 : decode cX5_shape 111 = .ok (.iaload, 1) := by decide +kernel
theorem dX5_shape_112 : decode cX5_shape 112 = .ok (.iload 5, 2) := by decide +kernel
theorem dX5_shape_114 : decode cX5_shape 114 = .ok (.invokestatic 71, 3) := by decide +kernel
theorem dX5_shape_117 : decode cX5_shape 117 = .ok (.ifCond .eq 7, 3) := by decide +kernel
theorem dX5_shape_120 : decode cX5_shape 120 = .ok (.iconst 1, 1) := by decide +kernel
theorem dX5_shape_121 : decode cX5_shape 121 = .ok (.goto 4, 3) := by decide +kernel
theorem dX5_shape_124 : decode cX5_shape 124 = .ok (.iconst 0, 1) := by decide +kernel
theorem dX5_shape_125 : decode cX5_shape 125 = .ok (.istore_n 3, 1) := by decide +kernel
theorem dX5_shape_126 : decode cX5_shape 126 = .ok (.iload 4, 2) := by decide +kernel
theorem dX5_shape_128 : decode cX5_shape 128 = .ok (.ifCond .eq 27, 3) := by decide +kernel
theorem dX5_shape_131 : decode cX5_shape 131 = .ok (.aload_n 0, 1) := by decide +kernel
theorem dX5_shape_132 : decode cX5_shape 132 = .ok (.getfield 13, 3) := by decide +kernel
theorem dX5_shape_135 : decode cX5_shape 135 = .ok (.bipush 24, 2) := by decide +kernel
theorem dX5_shape_137 : decode cX5_shape 137 = .ok (.iload_n 1, 1) := by decide +kernel
theorem dX5_shape_138 : decode cX5_shape 138 = .ok (.imul, 1) := by decide +kernel
theorem dX5_shape_139 : decode cX5_shape 139 = .ok (.iload 7, 2) := by decide +kernel
theorem dX5_shape_141 : decode cX5_shape 141 = .ok (.iadd, 1) := by decide +kernel
theorem dX5_shape_142 : decode cX5_shape 142 = .ok (.iaload, 1) := by decide +kernel
theorem dX5_shape_143 : decode cX5_shape 143 = .ok (.iload 6, 2) := by decide +kernel
theorem dX5_shape_145 : decode cX5_shape 145 = .ok (.iconst (-1), 1) := by decide +kernel
theorem dX5_shape_146 : decode cX5_shape 146 = .ok (.ixor, 1) := by decide +kernel
theorem dX5_shape_147 : decode cX5_shape 147 = .ok (.iand, 1) := by decide +kernel
theorem dX5_shape_148 : decode cX5_shape 148 = .ok (.ifCond .ne 7, 3) := by decide +kernel
theorem dX5_shape_151 : decode cX5_shape 151 = .ok (.iconst 1, 1) := by decide +kernel
theorem dX5_shape_152 : decode cX5_shape 152 = .ok (.goto 4, 3) := by decide +kernel
theorem dX5_shape_155 : decode cX5_shape 155 = .ok (.iconst 0, 1) := by decide +kernel
theorem dX5_shape_156 : decode cX5_shape 156 = .ok (.istore 4, 2) := by decide +kernel
theorem dX5_shape_158 : decode cX5_shape 158 = .ok (.iinc 7 1, 3) := by decide +kernel
theorem dX5_shape_161 : decode cX5_shape 161 = .ok (.goto (-87), 3) := by decide +kernel
theorem dX5_shape_164 : decode cX5_shape 164 = .ok (.iinc 5 1, 3) := by decide +kernel
theorem dX5_shape_167 : decode cX5_shape 167 = .ok (.goto (-139), 3) := by decide +kernel
theorem dX5_shape_170 : decode cX5_shape 170 = .ok (.iload_n 2, 1) := by decide +kernel
theorem dX5_shape_171 : decode cX5_shape 171 = .ok (.ifCond .eq 7, 3) := by decide +kernel
theorem dX5_shape_174 : decode cX5_shape 174 = .ok (.iconst 1, 1) := by decide +kernel
theorem dX5_shape_175 : decode cX5_shape 175 = .ok (.goto 4, 3) := by decide +kernel
theorem dX5_shape_178 : decode cX5_shape 178 = .ok (.iconst 0, 1) := by decide +kernel
theorem dX5_shape_179 : decode cX5_shape 179 = .ok (.iload_n 3, 1) := by decide +kernel
theorem dX5_shape_180 : decode cX5_shape 180 = .ok (.ifCond .eq 7, 3) := by decide +kernel
theorem dX5_shape_183 : decode cX5_shape 183 = .ok (.iconst 2, 1) := by decide +kernel
theorem dX5_shape_184 : decode cX5_shape 184 = .ok (.goto 4, 3) := by decide +kernel
theorem dX5_shape_187 : decode cX5_shape 187 = .ok (.iconst 0, 1) := by decide +kernel
theorem dX5_shape_188 : decode cX5_shape 188 = .ok (.iadd, 1) := by decide +kernel
theorem dX5_shape_189 : decode cX5_shape 189 = .ok (.iload 4, 2) := by decide +kernel
theorem dX5_shape_191 : decode cX5_shape 191 = .ok (.ifCond .eq 7, 3) := by decide +kernel
theorem dX5_shape_194 : decode cX5_shape 194 = .ok (.iconst 4, 1) := by decide +kernel
theorem dX5_shape_195 : decode cX5_shape 195 = .ok (.goto 4, 3) := by decide +kernel
theorem dX5_shape_198 : decode cX5_shape 198 = .ok (.iconst 0, 1) := by decide +kernel
theorem dX5_shape_199 : decode cX5_shape 199 = .ok (.iadd, 1) := by decide +kernel
theorem dX5_shape_200 : decode cX5_shape 200 = .ok (.ireturn, 1) := by decide +kernel
set_option maxRecDepth 20000 in
theorem ggX5_create_X5_no : GoodIn wsX5_create wsX5_no := goodIn_r _ [11, 12, 13, 14, 15, 16, 17, 18, 19, 20, 21, 22, 23, 24, 25, 26, 27] (by decide +kernel) (by decide +kernel)
set_option maxRecDepth 20000 in
theorem gX5_create_X5_no : GoodIn wsX5_create (wsV RX5 58 RX5 yX5_no wsX5_no) := goodIn_app (goodIn_of _ (by decide +kernel)) ggX5_create_X5_no
theorem dX5_create_0 : decode cX5_create 0 = .ok (.aload_n 0, 1) := by decide +kernel
theorem dX5_create_1 : decode cX5_create 1 = .ok (.getfield 51, 3) := by decide +kernel
theorem dX5_create_4 : decode cX5_create 4 = .ok (.bipush 40, 2) := by decide +kernel
theorem dX5_create_6 : decode cX5_create 6 = .ok (.if_icmp .ne 29, 3) := by decide +kernel
theorem dX5_create_9 : decode cX5_create 9 = .ok (.aload_n 0, 1) := by decide +kernel
theorem dX5_create_10 : decode cX5_create 10 = .ok (.iload_n 1, 1) := by decide +kernel
theorem dX5_create_11 : decode cX5_create 11 = .ok (.iconst 4, 1) := by decide +kernel
theorem dX5_create_12 : decode cX5_create 12 = .ok (.if_icmp .eq 14, 3) := by decide +kernel
theorem dX5_create_15 : decode cX5_create 15 = .ok (.iload_n 1, 1) := by decide +kernel
theorem dX5_create_16 : decode cX5_create 16 = .ok (.iconst 5, 1) := by decide +kernel
theorem dX5_create_17 : decode cX5_create 17 = .ok (.if_icmp .eq 9, 3) := by decide +kernel
theorem dX5_create_20 : decode cX5_create 20 = .ok (.iload_n 1, 1) := by decide +kernel
theorem dX5_create_21 : decode cX5_create 21 = .ok (.bipush 6, 2) := by decide +kernel
theorem dX5_create_23 : decode cX5_create 23 = .ok (.if_icmp .ne 7, 3) := by decide +kernel
theorem dX5_create_26 : decode cX5_create 26 = .ok (.iconst 3, 1) := by decide +kernel
theorem dX5_create_27 : decode cX5_create 27 = .ok (.goto 4, 3) := by decide +kernel
theorem dX5_create_30 : decode cX5_create 30 = .ok (.iconst 2, 1) := by decide +kernel
theorem dX5_create_31 : decode cX5_create 31 = .ok (.invokevirtual 58, 3) := by decide +kernel
theorem dX5_create_34 : decode cX5_create 34 = .ok (.ireturn, 1) := by decide +kernel
theorem dX5_create_35 : decode cX5_create 35 = .ok (.aload_n 0, 1) := by decide +kernel
theorem dX5_create_36 : decode cX5_create 36 = .ok (.getfield 16, 3) := by decide +kernel
theorem dX5_create_39 : decode cX5_create 39 = .ok (.aload_n 0, 1) := by decide +kernel
theorem dX5_create_40 : decode cX5_create 40 = .ok (.getfield 51, 3) := by decide +kernel
theorem dX5_create_43 : decode cX5_create 43 = .ok (.iload_n 1, 1) := by decide +kernel
theorem dX5_create_44 : decode cX5_create 44 = .ok (.iastore, 1) := by decide +kernel
theorem dX5_create_45 : decode cX5_create 45 = .ok (.aload_n 0, 1) := by decide +kernel
theorem dX5_create_46 : decode cX5_create 46 = .ok (.getfield 19, 3) := by decide +kernel
theorem dX5_create_49 : decode cX5_create 49 = .ok (.aload_n 0, 1) := by decide +kernel
theorem dX5_create_50 : decode cX5_create 50 = .ok (.getfield 51, 3) := by decide +kernel
theorem dX5_create_53 : decode cX5_create 53 = .ok (.iload_n 2, 1) := by decide +kernel
theorem dX5_create_54 : decode cX5_create 54 = .ok (.iastore, 1) := by decide +kernel
theorem dX5_create_55 : decode cX5_create 55 = .ok (.aload_n 0, 1) := by decide +kernel
theorem dX5_create_56 : decode cX5_create 56 = .ok (.getfield 22, 3) := by decide +kernel
theorem dX5_create_59 : decode cX5_create 59 = .ok (.aload_n 0, 1) := by decide +kernel
theorem dX5_create_60 : decode cX5_create 60 = .ok (.getfield 51, 3) := by decide +kernel
theorem dX5_create_63 : decode cX5_create 63 = .ok (.iload_n 3, 1) := by decide +kernel
theorem dX5_create_64 : decode cX5_create 64 = .ok (.iastore, 1) := by decide +kernel
theorem dX5_create_65 : decode cX5_create 65 = .ok (.aload_n 0, 1) := by decide +kernel
theorem dX5_create_66 : decode cX5_create 66 = .ok (.getfield 25, 3) := by decide +kernel
theorem dX5_create_69 : decode cX5_create 69 = .ok (.aload_n 0, 1) := by decide +kernel
theorem dX5_create_70 : decode cX5_create 70 = .ok (.getfield 51, 3) := by decide +kernel
theorem dX5_create_73 : decode cX5_create 73 = .ok (.iload 4, 2) := by decide +kernel
theorem dX5_create_75 : decode cX5_create 75 = .ok (.iastore, 1) := by decide +kernel
theorem dX5_create_76 : decode cX5_create 76 = .ok (.aload_n 0, 1) := by decide +kernel
theorem dX5_create_77 : decode cX5_create 77 = .ok (.getfield 28, 3) := by decide +kernel
theorem dX5_create_80 : decode cX5_create 80 = .ok (.aload_n 0, 1) := by decide +kernel
theorem dX5_create_81 : decode cX5_create 81 = .ok (.getfield 51, 3) := by decide +kernel
theorem dX5_create_84 : decode cX5_create 84 = .ok (.iload 5, 2) := by decide +kernel
theorem dX5_create_86 : decode cX5_create 86 = .ok (.iastore, 1) := by decide +kernel
theorem dX5_create_87 : decode cX5_create 87 = .ok (.aload_n 0, 1) := by decide +kernel
theorem dX5_create_88 : decode cX5_create 88 = .ok (.dup, 1) := by decide +kernel
theorem dX5_create_89 : decode cX5_create 89 = .ok (.getfield 51, 3) := by decide +kernel
theorem dX5_create_92 : decode cX5_create 92 = .ok (.iconst 1, 1) := by decide +kernel
theorem dX5_create_93 : decode cX5_create 93 = .ok (.iadd, 1) := by decide +kernel
theorem dX5_create_94 : decode cX5_create 94 = .ok (.putfield 51, 3) := by decide +kernel
theorem dX5_create_97 : decode cX5_create 97 = .ok (.aload_n 0, 1) := by decide +kernel
theorem dX5_create_98 : decode cX5_create 98 = .ok (.getfield 51, 3) := by decide +kernel
theorem dX5_create_101 : decode cX5_create 101 = .ok (.iconst 1, 1) := by decide +kernel
theorem dX5_create_102 : decode cX5_create 102 = .ok (.isub, 1) := by decide +kernel
theorem dX5_create_103 : decode cX5_create 103 = .ok (.ireturn, 1) := by decide +kernel
set_option maxRecDepth 20000 in
theorem ggX5_atom_X5_create : GoodIn wsX5_atom wsX5_create := goodIn_r _ [6, 7, 8, 9, 10, 11, 12, 13, 14, 15, 5, 16, 1, 17, 18, 19, 20, 21, 22, 23, 24, 25, 26, 27, 28, 29, 30, 31] (by decide +kernel) (by decide +kernel)
set_option maxRecDepth 20000 in
theorem gX5_atom_X5_create : GoodIn wsX5_atom (wsV RX5 80 RX5 yX5_create wsX5_create) := goodIn_app (goodIn_of _ (by decide +kernel)) ggX5_atom_X5_create
set_option maxRecDepth 20000 in
theorem ggX5_atom_X5_no : GoodIn wsX5_atom wsX5_no := goodIn_r _ [16, 1, 17, 18, 19, 20, 21, 22, 23, 24, 25, 26, 27, 28, 29, 30, 31] (by decide +kernel) (by decide +kernel)
set_option maxRecDepth 20000 in
theorem gX5_atom_X5_no : GoodIn wsX5_atom (wsV RX5 58 RX5 yX5_no wsX5_no) := goodIn_app (goodIn_of _ (by decide +kernel)) ggX5_atom_X5_no
theorem dX5_atom_0 : decode cX5_atom 0 = .ok (.aload_n 0, 1) := by decide +kernel
theorem dX5_atom_1 : decode cX5_atom 1 = .ok (.iconst 0, 1) := by decide +kernel
theorem dX5_atom_2 : decode cX5_atom 2 = .ok (.putfield 44, 3) := by decide +kernel
theorem dX5_atom_5 : decode cX5_atom 5 = .ok (.iload_n 1, 1) := by decide +kernel
theorem dX5_atom_6 : decode cX5_atom 6 = .ok (.ifCond .lt 21, 3) := by decide +kernel
theorem dX5_atom_9 : decode cX5_atom 9 = .ok (.iload_n 1, 1) := by decide +kernel
theorem dX5_atom_10 : decode cX5_atom 10 = .ok (.bipush 6, 2) := by decide +kernel
theorem dX5_atom_12 : decode cX5_atom 12 = .ok (.if_icmp .ge 15, 3) := by decide +kernel
theorem dX5_atom_15 : decode cX5_atom 15 = .ok (.aload_n 0, 1) := by decide +kernel
theorem dX5_atom_16 : decode cX5_atom 16 = .ok (.iconst 0, 1) := by decide +kernel
theorem dX5_atom_17 : decode cX5_atom 17 = .ok (.iload_n 1, 1) := by decide +kernel
theorem dX5_atom_18 : decode cX5_atom 18 = .ok (.iconst (-1), 1) := by decide +kernel
theorem dX5_atom_19 : decode cX5_atom 19 = .ok (.iconst 0, 1) := by decide +kernel
theorem dX5_atom_20 : decode cX5_atom 20 = .ok (.iconst 0, 1) := by decide +kernel
theorem dX5_atom_21 : decode cX5_atom 21 = .ok (.invokevirtual 80, 3) := by decide +kernel
theorem dX5_atom_24 : decode cX5_atom 24 = .ok (.goto 8, 3) := by decide +kernel
theorem dX5_atom_27 : decode cX5_atom 27 = .ok (.aload_n 0, 1) := by decide +kernel
theorem dX5_atom_28 : decode cX5_atom 28 = .ok (.iconst 1, 1) := by decide +kernel
theorem dX5_atom_29 : decode cX5_atom 29 = .ok (.invokevirtual 58, 3) := by decide +kernel
theorem dX5_atom_32 : decode cX5_atom 32 = .ok (.ireturn, 1) := by decide +kernel
set_option maxRecDepth 20000 in
theorem ggX5_not_X5_isFormula : GoodIn wsX5_not wsX5_isFormula := goodIn_r _ [8, 9, 21, 22, 23, 24, 25, 26, 27, 28, 29, 30, 31, 32, 33, 34, 35] (by decide +kernel) (by decide +kernel)
set_option maxRecDepth 20000 in
theorem gX5_not_X5_isFormula : GoodIn wsX5_not (wsV RX5 84 RX5 yX5_isFormula wsX5_isFormula) := goodIn_app (goodIn_of _ (by decide +kernel)) ggX5_not_X5_isFormula
set_option maxRecDepth 20000 in
theorem ggX5_not_X5_create : GoodIn wsX5_not wsX5_create := goodIn_r _ [13, 9, 14, 15, 16, 2, 3, 17, 18, 19, 7, 20, 1, 21, 22, 23, 24, 25, 26, 27, 28, 29, 30, 31, 32, 33, 34, 35] (by decide +kernel) (by decide +kernel)
set_option maxRecDepth 20000 in
theorem gX5_not_X5_create : GoodIn wsX5_not (wsV RX5 80 RX5 yX5_create wsX5_create) := goodIn_app (goodIn_of _ (by decide +kernel)) ggX5_not_X5_create
set_option maxRecDepth 20000 in
theorem ggX5_not_X5_no : GoodIn wsX5_not wsX5_no := goodIn_r _ [20, 1, 21, 22, 23, 24, 25, 26, 27, 28, 29, 30, 31, 32, 33, 34, 35] (by decide +kernel) (by decide +kernel)
set_option maxRecDepth 20000 in
theorem gX5_not_X5_no : GoodIn wsX5_not (wsV RX5 58 RX5 yX5_no wsX5_no) := goodIn_app (goodIn_of _ (by decide +kernel)) ggX5_not_X5_no
theorem dX5_not_0 : decode cX5_not 0 = .ok (.aload_n 0, 1) := by decide +kernel
theorem dX5_not_1 : decode cX5_not 1 = .ok (.iconst 0, 1) := by decide +kernel
theorem dX5_not_2 : decode cX5_not 2 = .ok (.putfield 44, 3) := by decide +kernel
theorem dX5_not_5 : decode cX5_not 5 = .ok (.aload_n 0, 1) := by decide +kernel
theorem dX5_not_6 : decode cX5_not 6 = .ok (.iload_n 1, 1) := by decide +kernel
theorem dX5_not_7 : decode cX5_not 7 = .ok (.invokevirtual 84, 3) := by decide +kernel
theorem dX5_not_10 : decode cX5_not 10 = .ok (.ifCond .eq 25, 3) := by decide +kernel
theorem dX5_not_13 : decode cX5_not 13 = .ok (.aload_n 0, 1) := by decide +kernel
theorem dX5_not_14 : decode cX5_not 14 = .ok (.iconst 1, 1) := by decide +kernel
theorem dX5_not_15 : decode cX5_not 15 = .ok (.iconst (-1), 1) := by decide +kernel
theorem dX5_not_16 : decode cX5_not 16 = .ok (.iload_n 1, 1) := by decide +kernel
theorem dX5_not_17 : decode cX5_not 17 = .ok (.aload_n 0, 1) := by decide +kernel
theorem dX5_not_18 : decode cX5_not 18 = .ok (.getfield 25, 3) := by decide +kernel
theorem dX5_not_21 : decode cX5_not 21 = .ok (.iload_n 1, 1) := by decide +kernel
theorem dX5_not_22 : decode cX5_not 22 = .ok (.iaload, 1) := by decide +kernel
theorem dX5_not_23 : decode cX5_not 23 = .ok (.aload_n 0, 1) := by decide +kernel
theorem dX5_not_24 : decode cX5_not 24 = .ok (.getfield 28, 3) := by decide +kernel
theorem dX5_not_27 : decode cX5_not 27 = .ok (.iload_n 1, 1) := by decide +kernel
theorem dX5_not_28 : decode cX5_not 28 = .ok (.iaload, 1) := by decide +kernel
theorem dX5_not_29 : decode cX5_not 29 = .ok (.invokevirtual 80, 3) := by decide +kernel
theorem dX5_not_32 : decode cX5_not 32 = .ok (.goto 8, 3) := by decide +kernel
theorem dX5_not_35 : decode cX5_not 35 = .ok (.aload_n 0, 1) := by decide +kernel
theorem dX5_not_36 : decode cX5_not 36 = .ok (.iconst 1, 1) := by decide +kernel
theorem dX5_not_37 : decode cX5_not 37 = .ok (.invokevirtual 58, 3) := by decide +kernel
theorem dX5_not_40 : decode cX5_not 40 = .ok (.ireturn, 1) := by decide +kernel
set_option maxRecDepth 20000 in
theorem ggX5_both_X5_isFormula : GoodIn wsX5_both wsX5_isFormula := goodIn_r _ [12, 13, 25, 26, 27, 28, 29, 30, 31, 32, 33, 34, 35, 36, 37, 38, 39] (by decide +kernel) (by decide +kernel)
set_option maxRecDepth 20000 in
theorem gX5_both_X5_isFormula : GoodIn wsX5_both (wsV RX5 84 RX5 yX5_isFormula wsX5_isFormula) := goodIn_app (goodIn_of _ (by decide +kernel)) ggX5_both_X5_isFormula
set_option maxRecDepth 20000 in
theorem ggX5_both_X5_create : GoodIn wsX5_both wsX5_create := goodIn_r _ [17, 13, 18, 19, 20, 2, 7, 21, 22, 23, 11, 24, 1, 25, 26, 27, 28, 29, 30, 31, 32, 33, 34, 35, 36, 37, 38, 39] (by decide +kernel) (by decide +kernel)
set_option maxRecDepth 20000 in
theorem gX5_both_X5_create : GoodIn wsX5_both (wsV RX5 80 RX5 yX5_create wsX5_create) := goodIn_app (goodIn_of _ (by decide +kernel)) ggX5_both_X5_create
set_option maxRecDepth 20000 in
theorem ggX5_both_X5_no : GoodIn wsX5_both wsX5_no := goodIn_r _ [24, 1, 25, 26, 27, 28, 29, 30, 31, 32, 33, 34, 35, 36, 37, 38, 39] (by decide +kernel) (by decide +kernel)
set_option maxRecDepth 20000 in
theorem gX5_both_X5_no : GoodIn wsX5_both (wsV RX5 58 RX5 yX5_no wsX5_no) := goodIn_app (goodIn_of _ (by decide +kernel)) ggX5_both_X5_no
theorem dX5_both_0 : decode cX5_both 0 = .ok (.aload_n 0, 1) := by decide +kernel
theorem dX5_both_1 : decode cX5_both 1 = .ok (.iconst 0, 1) := by decide +kernel
theorem dX5_both_2 : decode cX5_both 2 = .ok (.putfield 44, 3) := by decide +kernel
theorem dX5_both_5 : decode cX5_both 5 = .ok (.aload_n 0, 1) := by decide +kernel
theorem dX5_both_6 : decode cX5_both 6 = .ok (.iload_n 1, 1) := by decide +kernel
theorem dX5_both_7 : decode cX5_both 7 = .ok (.invokevirtual 84, 3) := by decide +kernel
theorem dX5_both_10 : decode cX5_both 10 = .ok (.ifCond .eq 51, 3) := by decide +kernel
theorem dX5_both_13 : decode cX5_both 13 = .ok (.aload_n 0, 1) := by decide +kernel
theorem dX5_both_14 : decode cX5_both 14 = .ok (.iload_n 2, 1) := by decide +kernel
theorem dX5_both_15 : decode cX5_both 15 = .ok (.invokevirtual 84, 3) := by decide +kernel
theorem dX5_both_18 : decode cX5_both 18 = .ok (.ifCond .eq 43, 3) := by decide +kernel
theorem dX5_both_21 : decode cX5_both 21 = .ok (.aload_n 0, 1) := by decide +kernel
theorem dX5_both_22 : decode cX5_both 22 = .ok (.iconst 2, 1) := by decide +kernel
theorem dX5_both_23 : decode cX5_both 23 = .ok (.iload_n 1, 1) := by decide +kernel
theorem dX5_both_24 : decode cX5_both 24 = .ok (.iload_n 2, 1) := by decide +kernel
theorem dX5_both_25 : decode cX5_both 25 = .ok (.aload_n 0, 1) := by decide +kernel
theorem dX5_both_26 : decode cX5_both 26 = .ok (.getfield 25, 3) := by decide +kernel
theorem dX5_both_29 : decode cX5_both 29 = .ok (.iload_n 1, 1) := by decide +kernel
theorem dX5_both_30 : decode cX5_both 30 = .ok (.iaload, 1) := by decide +kernel
theorem dX5_both_31 : decode cX5_both 31 = .ok (.aload_n 0, 1) := by decide +kernel
theorem dX5_both_32 : decode cX5_both 32 = .ok (.getfield 25, 3) := by decide +kernel
theorem dX5_both_35 : decode cX5_both 35 = .ok (.iload_n 2, 1) := by decide +kernel
theorem dX5_both_36 : decode cX5_both 36 = .ok (.iaload, 1) := by decide +kernel
theorem dX5_both_37 : decode cX5_both 37 = .ok (.invokestatic 87, 3) := by decide +kernel
theorem dX5_both_40 : decode cX5_both 40 = .ok (.aload_n 0, 1) := by decide +kernel
theorem dX5_both_41 : decode cX5_both 41 = .ok (.getfield 28, 3) := by decide +kernel
theorem dX5_both_44 : decode cX5_both 44 = .ok (.iload_n 1, 1) := by decide +kernel
theorem dX5_both_45 : decode cX5_both 45 = .ok (.iaload, 1) := by decide +kernel
theorem dX5_both_46 : decode cX5_both 46 = .ok (.aload_n 0, 1) := by decide +kernel
theorem dX5_both_47 : decode cX5_both 47 = .ok (.getfield 28, 3) := by decide +kernel
theorem dX5_both_50 : decode cX5_both 50 = .ok (.iload_n 2, 1) := by decide +kernel
theorem dX5_both_51 : decode cX5_both 51 = .ok (.iaload, 1) := by decide +kernel
theorem dX5_both_52 : decode cX5_both 52 = .ok (.invokestatic 87, 3) := by decide +kernel
theorem dX5_both_55 : decode cX5_both 55 = .ok (.invokevirtual 80, 3) := by decide +kernel
theorem dX5_both_58 : decode cX5_both 58 = .ok (.goto 8, 3) := by decide +kernel
theorem dX5_both_61 : decode cX5_both 61 = .ok (.aload_n 0, 1) := by decide +kernel
theorem dX5_both_62 : decode cX5_both 62 = .ok (.iconst 1, 1) := by decide +kernel
theorem dX5_both_63 : decode cX5_both 63 = .ok (.invokevirtual 58, 3) := by decide +kernel
theorem dX5_both_66 : decode cX5_both 66 = .ok (.ireturn, 1) := by decide +kernel
set_option maxRecDepth 20000 in
theorem ggX5_knows_X5_isAgent : GoodIn wsX5_knows wsX5_isAgent := goodIn_r _ [7] (by decide +kernel) (by decide +kernel)
set_option maxRecDepth 20000 in
theorem gX5_knows_X5_isAgent : GoodIn wsX5_knows (va_wsS RX5 68 yX5_isAgent wsX5_isAgent) := goodIn_app (goodIn_of _ (by decide +kernel)) ggX5_knows_X5_isAgent
set_option maxRecDepth 20000 in
theorem ggX5_knows_X5_isFormula : GoodIn wsX5_knows wsX5_isFormula := goodIn_r _ [11, 12, 24, 25, 26, 27, 28, 29, 30, 31, 32, 33, 34, 35, 36, 37, 38] (by decide +kernel) (by decide +kernel)
set_option maxRecDepth 20000 in
theorem gX5_knows_X5_isFormula : GoodIn wsX5_knows (wsV RX5 84 RX5 yX5_isFormula wsX5_isFormula) := goodIn_app (goodIn_of _ (by decide +kernel)) ggX5_knows_X5_isFormula
set_option maxRecDepth 20000 in
theorem ggX5_knows_X5_create : GoodIn wsX5_knows wsX5_create := goodIn_r _ [16, 12, 17, 18, 19, 2, 3, 20, 21, 22, 6, 23, 1, 24, 25, 26, 27, 28, 29, 30, 31, 32, 33, 34, 35, 36, 37, 38] (by decide +kernel) (by decide +kernel)
set_option maxRecDepth 20000 in
theorem gX5_knows_X5_create : GoodIn wsX5_knows (wsV RX5 80 RX5 yX5_create wsX5_create) := goodIn_app (goodIn_of _ (by decide +kernel)) ggX5_knows_X5_create
set_option maxRecDepth 20000 in
theorem ggX5_knows_X5_no : GoodIn wsX5_knows wsX5_no := goodIn_r _ [23, 1, 24, 25, 26, 27, 28, 29, 30, 31, 32, 33, 34, 35, 36, 37, 38] (by decide +kernel) (by decide +kernel)
set_option maxRecDepth 20000 in
theorem gX5_knows_X5_no : GoodIn wsX5_knows (wsV RX5 58 RX5 yX5_no wsX5_no) := goodIn_app (goodIn_of _ (by decide +kernel)) ggX5_knows_X5_no
theorem dX5_knows_0 : decode cX5_knows 0 = .ok (.aload_n 0, 1) := by decide +kernel
theorem dX5_knows_1 : decode cX5_knows 1 = .ok (.iconst 0, 1) := by decide +kernel
theorem dX5_knows_2 : decode cX5_knows 2 = .ok (.putfield 44, 3) := by decide +kernel
theorem dX5_knows_5 : decode cX5_knows 5 = .ok (.iload_n 1, 1) := by decide +kernel
theorem dX5_knows_6 : decode cX5_knows 6 = .ok (.invokestatic 68, 3) := by decide +kernel
theorem dX5_knows_9 : decode cX5_knows 9 = .ok (.ifCond .eq 35, 3) := by decide +kernel
theorem dX5_knows_12 : decode cX5_knows 12 = .ok (.aload_n 0, 1) := by decide +kernel
theorem dX5_knows_13 : decode cX5_knows 13 = .ok (.iload_n 2, 1) := by decide +kernel
theorem dX5_knows_14 : decode cX5_knows 14 = .ok (.invokevirtual 84, 3) := by decide +kernel
theorem dX5_knows_17 : decode cX5_knows 17 = .ok (.ifCond .eq 27, 3) := by decide +kernel
theorem dX5_knows_20 : decode cX5_knows 20 = .ok (.aload_n 0, 1) := by decide +kernel
theorem dX5_knows_21 : decode cX5_knows 21 = .ok (.iconst 3, 1) := by decide +kernel
theorem dX5_knows_22 : decode cX5_knows 22 = .ok (.iload_n 1, 1) := by decide +kernel
theorem dX5_knows_23 : decode cX5_knows 23 = .ok (.iload_n 2, 1) := by decide +kernel
theorem dX5_knows_24 : decode cX5_knows 24 = .ok (.iconst 1, 1) := by decide +kernel
theorem dX5_knows_25 : decode cX5_knows 25 = .ok (.aload_n 0, 1) := by decide +kernel
theorem dX5_knows_26 : decode cX5_knows 26 = .ok (.getfield 25, 3) := by decide +kernel
theorem dX5_knows_29 : decode cX5_knows 29 = .ok (.iload_n 2, 1) := by decide +kernel
theorem dX5_knows_30 : decode cX5_knows 30 = .ok (.iaload, 1) := by decide +kernel
theorem dX5_knows_31 : decode cX5_knows 31 = .ok (.iadd, 1) := by decide +kernel
theorem dX5_knows_32 : decode cX5_knows 32 = .ok (.aload_n 0, 1) := by decide +kernel
theorem dX5_knows_33 : decode cX5_knows 33 = .ok (.getfield 28, 3) := by decide +kernel
theorem dX5_knows_36 : decode cX5_knows 36 = .ok (.iload_n 2, 1) := by decide +kernel
theorem dX5_knows_37 : decode cX5_knows 37 = .ok (.iaload, 1) := by decide +kernel
theorem dX5_knows_38 : decode cX5_knows 38 = .ok (.invokevirtual 80, 3) := by decide +kernel
theorem dX5_knows_41 : decode cX5_knows 41 = .ok (.goto 8, 3) := by decide +kernel
theorem dX5_knows_44 : decode cX5_knows 44 = .ok (.aload_n 0, 1) := by decide +kernel
theorem dX5_knows_45 : decode cX5_knows 45 = .ok (.iconst 1, 1) := by decide +kernel
theorem dX5_knows_46 : decode cX5_knows 46 = .ok (.invokevirtual 58, 3) := by decide +kernel
theorem dX5_knows_49 : decode cX5_knows 49 = .ok (.ireturn, 1) := by decide +kernel
set_option maxRecDepth 20000 in
theorem ggX5_ofGroup_X5_isFormula : GoodIn wsX5_ofGroup wsX5_isFormula := goodIn_r _ [8, 9, 24, 25, 26, 27, 28, 29, 30, 31, 32, 33, 34, 35, 36, 37, 38] (by decide +kernel) (by decide +kernel)
set_option maxRecDepth 20000 in
theorem gX5_ofGroup_X5_isFormula : GoodIn wsX5_ofGroup (wsV RX5 84 RX5 yX5_isFormula wsX5_isFormula) := goodIn_app (goodIn_of _ (by decide +kernel)) ggX5_ofGroup_X5_isFormula
set_option maxRecDepth 20000 in
theorem ggX5_ofGroup_X5_no : GoodIn wsX5_ofGroup wsX5_no := goodIn_r _ [13, 1, 24, 25, 26, 27, 28, 29, 30, 31, 32, 33, 34, 35, 36, 37, 38] (by decide +kernel) (by decide +kernel)
set_option maxRecDepth 20000 in
theorem gX5_ofGroup_X5_no : GoodIn wsX5_ofGroup (wsV RX5 58 RX5 yX5_no wsX5_no) := goodIn_app (goodIn_of _ (by decide +kernel)) ggX5_ofGroup_X5_no
set_option maxRecDepth 20000 in
theorem ggX5_ofGroup_X5_isGroup : GoodIn wsX5_ofGroup wsX5_isGroup := goodIn_r _ [16] (by decide +kernel) (by decide +kernel)
set_option maxRecDepth 20000 in
theorem gX5_ofGroup_X5_isGroup : GoodIn wsX5_ofGroup (va_wsS RX5 93 yX5_isGroup wsX5_isGroup) := goodIn_app (goodIn_of _ (by decide +kernel)) ggX5_ofGroup_X5_isGroup
set_option maxRecDepth 20000 in
theorem ggX5_ofGroup_X5_create : GoodIn wsX5_ofGroup wsX5_create := goodIn_r _ [20, 9, 21, 22, 23, 2, 3, 10, 11, 12, 7, 13, 1, 24, 25, 26, 27, 28, 29, 30, 31, 32, 33, 34, 35, 36, 37, 38] (by decide +kernel) (by decide +kernel)
set_option maxRecDepth 20000 in
theorem gX5_ofGroup_X5_create : GoodIn wsX5_ofGroup (wsV RX5 80 RX5 yX5_create wsX5_create) := goodIn_app (goodIn_of _ (by decide +kernel)) ggX5_ofGroup_X5_create
theorem dX5_ofGroup_0 : decode cX5_ofGroup 0 = .ok (.aload_n 0, 1) := by decide +kernel
theorem dX5_ofGroup_1 : decode cX5_ofGroup 1 = .ok (.iconst 0, 1) := by decide +kernel
theorem dX5_ofGroup_2 : decode cX5_ofGroup 2 = .ok (.putfield 44, 3) := by decide +kernel
theorem dX5_ofGroup_5 : decode cX5_ofGroup 5 = .ok (.aload_n 0, 1) := by decide +kernel
theorem dX5_ofGroup_6 : decode cX5_ofGroup 6 = .ok (.iload_n 3, 1) := by decide +kernel
theorem dX5_ofGroup_7 : decode cX5_ofGroup 7 = .ok (.invokevirtual 84, 3) := by decide +kernel
theorem dX5_ofGroup_10 : decode cX5_ofGroup 10 = .ok (.ifCond .ne 9, 3) := by decide +kernel
theorem dX5_ofGroup_13 : decode cX5_ofGroup 13 = .ok (.aload_n 0, 1) := by decide +kernel
theorem dX5_ofGroup_14 : decode cX5_ofGroup 14 = .ok (.iconst 1, 1) := by decide +kernel
theorem dX5_ofGroup_15 : decode cX5_ofGroup 15 = .ok (.invokevirtual 58, 3) := by decide +kernel
theorem dX5_ofGroup_18 : decode cX5_ofGroup 18 = .ok (.ireturn, 1) := by decide +kernel
theorem dX5_ofGroup_19 : decode cX5_ofGroup 19 = .ok (.iload_n 2, 1) := by decide +kernel
theorem dX5_ofGroup_20 : decode cX5_ofGroup 20 = .ok (.invokestatic 93, 3) := by decide +kernel
theorem dX5_ofGroup_23 : decode cX5_ofGroup 23 = .ok (.ifCond .eq 35, 3) := by decide +kernel
theorem dX5_ofGroup_26 : decode cX5_ofGroup 26 = .ok (.aload_n 0, 1) := by decide +kernel
theorem dX5_ofGroup_27 : decode cX5_ofGroup 27 = .ok (.iload_n 1, 1) := by decide +kernel
theorem dX5_ofGroup_28 : decode cX5_ofGroup 28 = .ok (.ifCond .eq 7, 3) := by decide +kernel
theorem dX5_ofGroup_31 : decode cX5_ofGroup 31 = .ok (.iconst 4, 1) := by decide +kernel
theorem dX5_ofGroup_32 : decode cX5_ofGroup 32 = .ok (.goto 4, 3) := by decide +kernel
theorem dX5_ofGroup_35 : decode cX5_ofGroup 35 = .ok (.iconst 5, 1) := by decide +kernel
theorem dX5_ofGroup_36 : decode cX5_ofGroup 36 = .ok (.iload_n 2, 1) := by decide +kernel
theorem dX5_ofGroup_37 : decode cX5_ofGroup 37 = .ok (.iload_n 3, 1) := by decide +kernel
theorem dX5_ofGroup_38 : decode cX5_ofGroup 38 = .ok (.iconst 1, 1) := by decide +kernel
theorem dX5_ofGroup_39 : decode cX5_ofGroup 39 = .ok (.aload_n 0, 1) := by decide +kernel
theorem dX5_ofGroup_40 : decode cX5_ofGroup 40 = .ok (.getfield 25, 3) := by decide +kernel
theorem dX5_ofGroup_43 : decode cX5_ofGroup 43 = .ok (.iload_n 3, 1) := by decide +kernel
theorem dX5_ofGroup_44 : decode cX5_ofGroup 44 = .ok (.iaload, 1) := by decide +kernel
theorem dX5_ofGroup_45 : decode cX5_ofGroup 45 = .ok (.iadd, 1) := by decide +kernel
theorem dX5_ofGroup_46 : decode cX5_ofGroup 46 = .ok (.aload_n 0, 1) := by decide +kernel
theorem dX5_ofGroup_47 : decode cX5_ofGroup 47 = .ok (.getfield 28, 3) := by decide +kernel
theorem dX5_ofGroup_50 : decode cX5_ofGroup 50 = .ok (.iload_n 3, 1) := by decide +kernel
theorem dX5_ofGroup_51 : decode cX5_ofGroup 51 = .ok (.iaload, 1) := by decide +kernel
theorem dX5_ofGroup_52 : decode cX5_ofGroup 52 = .ok (.invokevirtual 80, 3) := by decide +kernel
theorem dX5_ofGroup_55 : decode cX5_ofGroup 55 = .ok (.goto 8, 3) := by decide +kernel
theorem dX5_ofGroup_58 : decode cX5_ofGroup 58 = .ok (.aload_n 0, 1) := by decide +kernel
theorem dX5_ofGroup_59 : decode cX5_ofGroup 59 = .ok (.iconst 2, 1) := by decide +kernel
theorem dX5_ofGroup_60 : decode cX5_ofGroup 60 = .ok (.invokevirtual 58, 3) := by decide +kernel
theorem dX5_ofGroup_63 : decode cX5_ofGroup 63 = .ok (.ireturn, 1) := by decide +kernel
set_option maxRecDepth 20000 in
theorem ggX5_after_X5_isFormula : GoodIn wsX5_after wsX5_isFormula := goodIn_r _ [12, 13, 25, 26, 27, 28, 29, 30, 31, 32, 33, 34, 35, 36, 37, 38, 39] (by decide +kernel) (by decide +kernel)
set_option maxRecDepth 20000 in
theorem gX5_after_X5_isFormula : GoodIn wsX5_after (wsV RX5 84 RX5 yX5_isFormula wsX5_isFormula) := goodIn_app (goodIn_of _ (by decide +kernel)) ggX5_after_X5_isFormula
set_option maxRecDepth 20000 in
theorem ggX5_after_X5_no : GoodIn wsX5_after wsX5_no := goodIn_r _ [17, 1, 25, 26, 27, 28, 29, 30, 31, 32, 33, 34, 35, 36, 37, 38, 39] (by decide +kernel) (by decide +kernel)
set_option maxRecDepth 20000 in
theorem gX5_after_X5_no : GoodIn wsX5_after (wsV RX5 58 RX5 yX5_no wsX5_no) := goodIn_app (goodIn_of _ (by decide +kernel)) ggX5_after_X5_no
set_option maxRecDepth 20000 in
theorem ggX5_after_X5_create : GoodIn wsX5_after wsX5_create := goodIn_r _ [21, 13, 22, 23, 24, 7, 2, 14, 15, 16, 11, 17, 1, 25, 26, 27, 28, 29, 30, 31, 32, 33, 34, 35, 36, 37, 38, 39] (by decide +kernel) (by decide +kernel)
set_option maxRecDepth 20000 in
theorem gX5_after_X5_create : GoodIn wsX5_after (wsV RX5 80 RX5 yX5_create wsX5_create) := goodIn_app (goodIn_of _ (by decide +kernel)) ggX5_after_X5_create
theorem dX5_after_0 : decode cX5_after 0 = .ok (.aload_n 0, 1) := by decide +kernel
theorem dX5_after_1 : decode cX5_after 1 = .ok (.iconst 0, 1) := by decide +kernel
theorem dX5_after_2 : decode cX5_after 2 = .ok (.putfield 44, 3) := by decide +kernel
theorem dX5_after_5 : decode cX5_after 5 = .ok (.aload_n 0, 1) := by decide +kernel
theorem dX5_after_6 : decode cX5_after 6 = .ok (.iload_n 1, 1) := by decide +kernel
theorem dX5_after_7 : decode cX5_after 7 = .ok (.invokevirtual 84, 3) := by decide +kernel
theorem dX5_after_10 : decode cX5_after 10 = .ok (.ifCond .eq 11, 3) := by decide +kernel
theorem dX5_after_13 : decode cX5_after 13 = .ok (.aload_n 0, 1) := by decide +kernel
theorem dX5_after_14 : decode cX5_after 14 = .ok (.iload_n 2, 1) := by decide +kernel
theorem dX5_after_15 : decode cX5_after 15 = .ok (.invokevirtual 84, 3) := by decide +kernel
theorem dX5_after_18 : decode cX5_after 18 = .ok (.ifCond .ne 9, 3) := by decide +kernel
theorem dX5_after_21 : decode cX5_after 21 = .ok (.aload_n 0, 1) := by decide +kernel
theorem dX5_after_22 : decode cX5_after 22 = .ok (.iconst 1, 1) := by decide +kernel
theorem dX5_after_23 : decode cX5_after 23 = .ok (.invokevirtual 58, 3) := by decide +kernel
theorem dX5_after_26 : decode cX5_after 26 = .ok (.ireturn, 1) := by decide +kernel
theorem dX5_after_27 : decode cX5_after 27 = .ok (.iconst 1, 1) := by decide +kernel
theorem dX5_after_28 : decode cX5_after 28 = .ok (.aload_n 0, 1) := by decide +kernel
theorem dX5_after_29 : decode cX5_after 29 = .ok (.getfield 28, 3) := by decide +kernel
theorem dX5_after_32 : decode cX5_after 32 = .ok (.iload_n 1, 1) := by decide +kernel
theorem dX5_after_33 : decode cX5_after 33 = .ok (.iaload, 1) := by decide +kernel
theorem dX5_after_34 : decode cX5_after 34 = .ok (.aload_n 0, 1) := by decide +kernel
theorem dX5_after_35 : decode cX5_after 35 = .ok (.getfield 28, 3) := by decide +kernel
theorem dX5_after_38 : decode cX5_after 38 = .ok (.iload_n 2, 1) := by decide +kernel
theorem dX5_after_39 : decode cX5_after 39 = .ok (.iaload, 1) := by decide +kernel
theorem dX5_after_40 : decode cX5_after 40 = .ok (.invokestatic 87, 3) := by decide +kernel
theorem dX5_after_43 : decode cX5_after 43 = .ok (.iadd, 1) := by decide +kernel
theorem dX5_after_44 : decode cX5_after 44 = .ok (.istore_n 3, 1) := by decide +kernel
theorem dX5_after_45 : decode cX5_after 45 = .ok (.iload_n 3, 1) := by decide +kernel
theorem dX5_after_46 : decode cX5_after 46 = .ok (.iconst 3, 1) := by decide +kernel
theorem dX5_after_47 : decode cX5_after 47 = .ok (.if_icmp .lt 11, 3) := by decide +kernel
theorem dX5_after_50 : decode cX5_after 50 = .ok (.aload_n 0, 1) := by decide +kernel
theorem dX5_after_51 : decode cX5_after 51 = .ok (.iconst 2, 1) := by decide +kernel
theorem dX5_after_52 : decode cX5_after 52 = .ok (.invokevirtual 58, 3) := by decide +kernel
theorem dX5_after_55 : decode cX5_after 55 = .ok (.goto 27, 3) := by decide +kernel
theorem dX5_after_58 : decode cX5_after 58 = .ok (.aload_n 0, 1) := by decide +kernel
theorem dX5_after_59 : decode cX5_after 59 = .ok (.bipush 6, 2) := by decide +kernel
theorem dX5_after_61 : decode cX5_after 61 = .ok (.iload_n 1, 1) := by decide +kernel
theorem dX5_after_62 : decode cX5_after 62 = .ok (.iload_n 2, 1) := by decide +kernel
theorem dX5_after_63 : decode cX5_after 63 = .ok (.aload_n 0, 1) := by decide +kernel
theorem dX5_after_64 : decode cX5_after 64 = .ok (.getfield 25, 3) := by decide +kernel
theorem dX5_after_67 : decode cX5_after 67 = .ok (.iload_n 1, 1) := by decide +kernel
theorem dX5_after_68 : decode cX5_after 68 = .ok (.iaload, 1) := by decide +kernel
theorem dX5_after_69 : decode cX5_after 69 = .ok (.aload_n 0, 1) := by decide +kernel
theorem dX5_after_70 : decode cX5_after 70 = .ok (.getfield 25, 3) := by decide +kernel
theorem dX5_after_73 : decode cX5_after 73 = .ok (.iload_n 2, 1) := by decide +kernel
theorem dX5_after_74 : decode cX5_after 74 = .ok (.iaload, 1) := by decide +kernel
theorem dX5_after_75 : decode cX5_after 75 = .ok (.invokestatic 87, 3) := by decide +kernel
theorem dX5_after_78 : decode cX5_after 78 = .ok (.iload_n 3, 1) := by decide +kernel
theorem dX5_after_79 : decode cX5_after 79 = .ok (.invokevirtual 80, 3) := by decide +kernel
theorem dX5_after_82 : decode cX5_after 82 = .ok (.ireturn, 1) := by decide +kernel
theorem dX5_formulaCount_0 : decode cX5_formulaCount 0 = .ok (.aload_n 0, 1) := by decide +kernel
theorem dX5_formulaCount_1 : decode cX5_formulaCount 1 = .ok (.iconst 0, 1) := by decide +kernel
theorem dX5_formulaCount_2 : decode cX5_formulaCount 2 = .ok (.putfield 44, 3) := by decide +kernel
theorem dX5_formulaCount_5 : decode cX5_formulaCount 5 = .ok (.aload_n 0, 1) := by decide +kernel
theorem dX5_formulaCount_6 : decode cX5_formulaCount 6 = .ok (.getfield 51, 3) := by decide +kernel
theorem dX5_formulaCount_9 : decode cX5_formulaCount 9 = .ok (.ireturn, 1) := by decide +kernel
set_option maxRecDepth 20000 in
theorem ggX5_depth_X5_isFormula : GoodIn wsX5_depth wsX5_isFormula := goodIn_r _ [7, 8, 13, 14, 15, 16, 17, 18, 19, 20, 21, 22, 23, 24, 25, 26, 27] (by decide +kernel) (by decide +kernel)
set_option maxRecDepth 20000 in
theorem gX5_depth_X5_isFormula : GoodIn wsX5_depth (wsV RX5 84 RX5 yX5_isFormula wsX5_isFormula) := goodIn_app (goodIn_of _ (by decide +kernel)) ggX5_depth_X5_isFormula
set_option maxRecDepth 20000 in
theorem ggX5_depth_X5_no : GoodIn wsX5_depth wsX5_no := goodIn_r _ [12, 1, 13, 14, 15, 16, 17, 18, 19, 20, 21, 22, 23, 24, 25, 26, 27] (by decide +kernel) (by decide +kernel)
set_option maxRecDepth 20000 in
theorem gX5_depth_X5_no : GoodIn wsX5_depth (wsV RX5 58 RX5 yX5_no wsX5_no) := goodIn_app (goodIn_of _ (by decide +kernel)) ggX5_depth_X5_no
theorem dX5_depth_0 : decode cX5_depth 0 = .ok (.aload_n 0, 1) := by decide +kernel
theorem dX5_depth_1 : decode cX5_depth 1 = .ok (.iconst 0, 1) := by decide +kernel
theorem dX5_depth_2 : decode cX5_depth 2 = .ok (.putfield 44, 3) := by decide +kernel
theorem dX5_depth_5 : decode cX5_depth 5 = .ok (.aload_n 0, 1) := by decide +kernel
theorem dX5_depth_6 : decode cX5_depth 6 = .ok (.iload_n 1, 1) := by decide +kernel
theorem dX5_depth_7 : decode cX5_depth 7 = .ok (.invokevirtual 84, 3) := by decide +kernel
theorem dX5_depth_10 : decode cX5_depth 10 = .ok (.ifCond .eq 12, 3) := by decide +kernel
theorem dX5_depth_13 : decode cX5_depth 13 = .ok (.aload_n 0, 1) := by decide +kernel
theorem dX5_depth_14 : decode cX5_depth 14 = .ok (.getfield 25, 3) := by decide +kernel
theorem dX5_depth_17 : decode cX5_depth 17 = .ok (.iload_n 1, 1) := by decide +kernel
theorem dX5_depth_18 : decode cX5_depth 18 = .ok (.iaload, 1) := by decide +kernel
theorem dX5_depth_19 : decode cX5_depth 19 = .ok (.goto 8, 3) := by decide +kernel
theorem dX5_depth_22 : decode cX5_depth 22 = .ok (.aload_n 0, 1) := by decide +kernel
theorem dX5_depth_23 : decode cX5_depth 23 = .ok (.iconst 1, 1) := by decide +kernel
theorem dX5_depth_24 : decode cX5_depth 24 = .ok (.invokevirtual 58, 3) := by decide +kernel
theorem dX5_depth_27 : decode cX5_depth 27 = .ok (.ireturn, 1) := by decide +kernel
set_option maxRecDepth 20000 in
theorem ggX5_nesting_X5_isFormula : GoodIn wsX5_nesting wsX5_isFormula := goodIn_r _ [7, 8, 13, 14, 15, 16, 17, 18, 19, 20, 21, 22, 23, 24, 25, 26, 27] (by decide +kernel) (by decide +kernel)
set_option maxRecDepth 20000 in
theorem gX5_nesting_X5_isFormula : GoodIn wsX5_nesting (wsV RX5 84 RX5 yX5_isFormula wsX5_isFormula) := goodIn_app (goodIn_of _ (by decide +kernel)) ggX5_nesting_X5_isFormula
set_option maxRecDepth 20000 in
theorem ggX5_nesting_X5_no : GoodIn wsX5_nesting wsX5_no := goodIn_r _ [12, 1, 13, 14, 15, 16, 17, 18, 19, 20, 21, 22, 23, 24, 25, 26, 27] (by decide +kernel) (by decide +kernel)
set_option maxRecDepth 20000 in
theorem gX5_nesting_X5_no : GoodIn wsX5_nesting (wsV RX5 58 RX5 yX5_no wsX5_no) := goodIn_app (goodIn_of _ (by decide +kernel)) ggX5_nesting_X5_no
theorem dX5_nesting_0 : decode cX5_nesting 0 = .ok (.aload_n 0, 1) := by decide +kernel
theorem dX5_nesting_1 : decode cX5_nesting 1 = .ok (.iconst 0, 1) := by decide +kernel
theorem dX5_nesting_2 : decode cX5_nesting 2 = .ok (.putfield 44, 3) := by decide +kernel
theorem dX5_nesting_5 : decode cX5_nesting 5 = .ok (.aload_n 0, 1) := by decide +kernel
theorem dX5_nesting_6 : decode cX5_nesting 6 = .ok (.iload_n 1, 1) := by decide +kernel
theorem dX5_nesting_7 : decode cX5_nesting 7 = .ok (.invokevirtual 84, 3) := by decide +kernel
theorem dX5_nesting_10 : decode cX5_nesting 10 = .ok (.ifCond .eq 12, 3) := by decide +kernel
theorem dX5_nesting_13 : decode cX5_nesting 13 = .ok (.aload_n 0, 1) := by decide +kernel
theorem dX5_nesting_14 : decode cX5_nesting 14 = .ok (.getfield 28, 3) := by decide +kernel
theorem dX5_nesting_17 : decode cX5_nesting 17 = .ok (.iload_n 1, 1) := by decide +kernel
theorem dX5_nesting_18 : decode cX5_nesting 18 = .ok (.iaload, 1) := by decide +kernel
theorem dX5_nesting_19 : decode cX5_nesting 19 = .ok (.goto 8, 3) := by decide +kernel
theorem dX5_nesting_22 : decode cX5_nesting 22 = .ok (.aload_n 0, 1) := by decide +kernel
theorem dX5_nesting_23 : decode cX5_nesting 23 = .ok (.iconst 1, 1) := by decide +kernel
theorem dX5_nesting_24 : decode cX5_nesting 24 = .ok (.invokevirtual 58, 3) := by decide +kernel
theorem dX5_nesting_27 : decode cX5_nesting 27 = .ok (.ireturn, 1) := by decide +kernel
theorem dX5_begin_0 : decode cX5_begin 0 = .ok (.aload_n 0, 1) := by decide +kernel
theorem dX5_begin_1 : decode cX5_begin 1 = .ok (.getfield 31, 3) := by decide +kernel
theorem dX5_begin_4 : decode cX5_begin 4 = .ok (.iload_n 1, 1) := by decide +kernel
theorem dX5_begin_5 : decode cX5_begin 5 = .ok (.iload_n 2, 1) := by decide +kernel
theorem dX5_begin_6 : decode cX5_begin 6 = .ok (.iastore, 1) := by decide +kernel
theorem dX5_begin_7 : decode cX5_begin 7 = .ok (.iconst 0, 1) := by decide +kernel
theorem dX5_begin_8 : decode cX5_begin 8 = .ok (.istore_n 3, 1) := by decide +kernel
theorem dX5_begin_9 : decode cX5_begin 9 = .ok (.iload_n 3, 1) := by decide +kernel
theorem dX5_begin_10 : decode cX5_begin 10 = .ok (.aload_n 0, 1) := by decide +kernel
theorem dX5_begin_11 : decode cX5_begin 11 = .ok (.getfield 51, 3) := by decide +kernel
theorem dX5_begin_14 : decode cX5_begin 14 = .ok (.if_icmp .ge 21, 3) := by decide +kernel
theorem dX5_begin_17 : decode cX5_begin 17 = .ok (.aload_n 0, 1) := by decide +kernel
theorem dX5_begin_18 : decode cX5_begin 18 = .ok (.getfield 34, 3) := by decide +kernel
theorem dX5_begin_21 : decode cX5_begin 21 = .ok (.bipush 40, 2) := by decide +kernel
theorem dX5_begin_23 : decode cX5_begin 23 = .ok (.iload_n 1, 1) := by decide +kernel
theorem dX5_begin_24 : decode cX5_begin 24 = .ok (.imul, 1) := by decide +kernel
theorem dX5_begin_25 : decode cX5_begin 25 = .ok (.iload_n 3, 1) := by decide +kernel
theorem dX5_begin_26 : decode cX5_begin 26 = .ok (.iadd, 1) := by decide +kernel
theorem dX5_begin_27 : decode cX5_begin 27 = .ok (.iconst 0, 1) := by decide +kernel
theorem dX5_begin_28 : decode cX5_begin 28 = .ok (.bastore, 1) := by decide +kernel
theorem dX5_begin_29 : decode cX5_begin 29 = .ok (.iinc 3 1, 3) := by decide +kernel
theorem dX5_begin_32 : decode cX5_begin 32 = .ok (.goto (-23), 3) := by decide +kernel
theorem dX5_begin_35 : decode cX5_begin 35 = .ok (.return_, 1) := by decide +kernel
set_option maxRecDepth 20000 in
theorem ggX5_reach_X5_step : GoodIn wsX5_reach wsX5_step := goodIn_r _ [5, 6, 7, 8, 9, 4, 10, 11, 12, 13, 14, 15, 16, 17, 18, 19, 20, 21, 22, 23, 24, 25] (by decide +kernel) (by decide +kernel)
set_option maxRecDepth 20000 in
theorem gX5_reach_X5_step : GoodIn wsX5_reach (wsV RX5 96 RX5 yX5_step wsX5_step) := goodIn_app (goodIn_of _ (by decide +kernel)) ggX5_reach_X5_step
theorem dX5_reach_0 : decode cX5_reach 0 = .ok (.iconst 0, 1) := by decide +kernel
theorem dX5_reach_1 : decode cX5_reach 1 = .ok (.istore 4, 2) := by decide +kernel
theorem dX5_reach_3 : decode cX5_reach 3 = .ok (.aload_n 0, 1) := by decide +kernel
theorem dX5_reach_4 : decode cX5_reach 4 = .ok (.iload_n 1, 1) := by decide +kernel
theorem dX5_reach_5 : decode cX5_reach 5 = .ok (.iconst 1, 1) := by decide +kernel
theorem dX5_reach_6 : decode cX5_reach 6 = .ok (.iload_n 2, 1) := by decide +kernel
theorem dX5_reach_7 : decode cX5_reach 7 = .ok (.ishl, 1) := by decide +kernel
theorem dX5_reach_8 : decode cX5_reach 8 = .ok (.invokevirtual 96, 3) := by decide +kernel
theorem dX5_reach_11 : decode cX5_reach 11 = .ok (.iload_n 3, 1) := by decide +kernel
theorem dX5_reach_12 : decode cX5_reach 12 = .ok (.iand, 1) := by decide +kernel
theorem dX5_reach_13 : decode cX5_reach 13 = .ok (.istore 5, 2) := by decide +kernel
theorem dX5_reach_15 : decode cX5_reach 15 = .ok (.iload 5, 2) := by decide +kernel
theorem dX5_reach_17 : decode cX5_reach 17 = .ok (.iload 4, 2) := by decide +kernel
theorem dX5_reach_19 : decode cX5_reach 19 = .ok (.if_icmp .eq 24, 3) := by decide +kernel
theorem dX5_reach_22 : decode cX5_reach 22 = .ok (.iload 5, 2) := by decide +kernel
theorem dX5_reach_24 : decode cX5_reach 24 = .ok (.istore 4, 2) := by decide +kernel
theorem dX5_reach_26 : decode cX5_reach 26 = .ok (.iload 4, 2) := by decide +kernel
theorem dX5_reach_28 : decode cX5_reach 28 = .ok (.aload_n 0, 1) := by decide +kernel
theorem dX5_reach_29 : decode cX5_reach 29 = .ok (.iload_n 1, 1) := by decide +kernel
theorem dX5_reach_30 : decode cX5_reach 30 = .ok (.iload 4, 2) := by decide +kernel
theorem dX5_reach_32 : decode cX5_reach 32 = .ok (.invokevirtual 96, 3) := by decide +kernel
theorem dX5_reach_35 : decode cX5_reach 35 = .ok (.iload_n 3, 1) := by decide +kernel
theorem dX5_reach_36 : decode cX5_reach 36 = .ok (.iand, 1) := by decide +kernel
theorem dX5_reach_37 : decode cX5_reach 37 = .ok (.ior, 1) := by decide +kernel
theorem dX5_reach_38 : decode cX5_reach 38 = .ok (.istore 5, 2) := by decide +kernel
theorem dX5_reach_40 : decode cX5_reach 40 = .ok (.goto (-25), 3) := by decide +kernel
theorem dX5_reach_43 : decode cX5_reach 43 = .ok (.iload 4, 2) := by decide +kernel
theorem dX5_reach_45 : decode cX5_reach 45 = .ok (.ireturn, 1) := by decide +kernel
set_option maxRecDepth 20000 in
theorem ggX5_step_X5_has : GoodIn wsX5_step wsX5_has := goodIn_r _ [6] (by decide +kernel) (by decide +kernel)
set_option maxRecDepth 20000 in
theorem gX5_step_X5_has : GoodIn wsX5_step (va_wsS RX5 71 yX5_has wsX5_has) := goodIn_app (goodIn_of _ (by decide +kernel)) ggX5_step_X5_has
theorem dX5_step_0 : decode cX5_step 0 = .ok (.iconst 0, 1) := by decide +kernel
theorem dX5_step_1 : decode cX5_step 1 = .ok (.istore_n 3, 1) := by decide +kernel
theorem dX5_step_2 : decode cX5_step 2 = .ok (.iconst 0, 1) := by decide +kernel
theorem dX5_step_3 : decode cX5_step 3 = .ok (.istore 4, 2) := by decide +kernel
theorem dX5_step_5 : decode cX5_step 5 = .ok (.iload 4, 2) := by decide +kernel
theorem dX5_step_7 : decode cX5_step 7 = .ok (.iconst 4, 1) := by decide +kernel
theorem dX5_step_8 : decode cX5_step 8 = .ok (.if_icmp .ge 61, 3) := by decide +kernel
theorem dX5_step_11 : decode cX5_step 11 = .ok (.iconst 0, 1) := by decide +kernel
theorem dX5_step_12 : decode cX5_step 12 = .ok (.istore 5, 2) := by decide +kernel
theorem dX5_step_14 : decode cX5_step 14 = .ok (.iload 5, 2) := by decide +kernel
theorem dX5_step_16 : decode cX5_step 16 = .ok (.aload_n 0, 1) := by decide +kernel
theorem dX5_step_17 : decode cX5_step 17 = .ok (.getfield 48, 3) := by decide +kernel
theorem dX5_step_20 : decode cX5_step 20 = .ok (.if_icmp .ge 43, 3) := by decide +kernel
theorem dX5_step_23 : decode cX5_step 23 = .ok (.iload_n 1, 1) := by decide +kernel
theorem dX5_step_24 : decode cX5_step 24 = .ok (.iload 4, 2) := by decide +kernel
theorem dX5_step_26 : decode cX5_step 26 = .ok (.invokestatic 71, 3) := by decide +kernel
theorem dX5_step_29 : decode cX5_step 29 = .ok (.ifCond .eq 34, 3) := by decide +kernel
theorem dX5_step_32 : decode cX5_step 32 = .ok (.iload_n 2, 1) := by decide +kernel
theorem dX5_step_33 : decode cX5_step 33 = .ok (.iload 5, 2) := by decide +kernel
theorem dX5_step_35 : decode cX5_step 35 = .ok (.invokestatic 71, 3) := by decide +kernel
theorem dX5_step_38 : decode cX5_step 38 = .ok (.ifCond .eq 19, 3) := by decide +kernel
theorem dX5_step_41 : decode cX5_step 41 = .ok (.iload_n 3, 1) := by decide +kernel
theorem dX5_step_42 : decode cX5_step 42 = .ok (.aload_n 0, 1) := by decide +kernel
theorem dX5_step_43 : decode cX5_step 43 = .ok (.getfield 13, 3) := by decide +kernel
theorem dX5_step_46 : decode cX5_step 46 = .ok (.bipush 24, 2) := by decide +kernel
theorem dX5_step_48 : decode cX5_step 48 = .ok (.iload 4, 2) := by decide +kernel
theorem dX5_step_50 : decode cX5_step 50 = .ok (.imul, 1) := by decide +kernel
theorem dX5_step_51 : decode cX5_step 51 = .ok (.iload 5, 2) := by decide +kernel
theorem dX5_step_53 : decode cX5_step 53 = .ok (.iadd, 1) := by decide +kernel
theorem dX5_step_54 : decode cX5_step 54 = .ok (.iaload, 1) := by decide +kernel
theorem dX5_step_55 : decode cX5_step 55 = .ok (.ior, 1) := by decide +kernel
theorem dX5_step_56 : decode cX5_step 56 = .ok (.istore_n 3, 1) := by decide +kernel
theorem dX5_step_57 : decode cX5_step 57 = .ok (.iinc 5 1, 3) := by decide +kernel
theorem dX5_step_60 : decode cX5_step 60 = .ok (.goto (-46), 3) := by decide +kernel
theorem dX5_step_63 : decode cX5_step 63 = .ok (.iinc 4 1, 3) := by decide +kernel
theorem dX5_step_66 : decode cX5_step 66 = .ok (.goto (-61), 3) := by decide +kernel
theorem dX5_step_69 : decode cX5_step 69 = .ok (.iload_n 3, 1) := by decide +kernel
theorem dX5_step_70 : decode cX5_step 70 = .ok (.ireturn, 1) := by decide +kernel
set_option maxRecDepth 20000 in
theorem ggX5_seenByAll_X5_all : GoodIn wsX5_seenByAll wsX5_all := goodIn_r _ [6, 7, 11, 12, 13, 14, 15, 16, 17, 18, 19, 20, 21, 22, 23, 24, 25] (by decide +kernel) (by decide +kernel)
set_option maxRecDepth 20000 in
theorem gX5_seenByAll_X5_all : GoodIn wsX5_seenByAll (wsV RX5 99 RX5 yX5_all wsX5_all) := goodIn_app (goodIn_of _ (by decide +kernel)) ggX5_seenByAll_X5_all
set_option maxRecDepth 20000 in
theorem ggX5_seenByAll_X5_has : GoodIn wsX5_seenByAll wsX5_has := goodIn_r _ [10] (by decide +kernel) (by decide +kernel)
set_option maxRecDepth 20000 in
theorem gX5_seenByAll_X5_has : GoodIn wsX5_seenByAll (va_wsS RX5 71 yX5_has wsX5_has) := goodIn_app (goodIn_of _ (by decide +kernel)) ggX5_seenByAll_X5_has
theorem dX5_seenByAll_0 : decode cX5_seenByAll 0 = .ok (.aload_n 0, 1) := by decide +kernel
theorem dX5_seenByAll_1 : decode cX5_seenByAll 1 = .ok (.invokevirtual 99, 3) := by decide +kernel
theorem dX5_seenByAll_4 : decode cX5_seenByAll 4 = .ok (.istore_n 3, 1) := by decide +kernel
theorem dX5_seenByAll_5 : decode cX5_seenByAll 5 = .ok (.iconst 0, 1) := by decide +kernel
theorem dX5_seenByAll_6 : decode cX5_seenByAll 6 = .ok (.istore 4, 2) := by decide +kernel
theorem dX5_seenByAll_8 : decode cX5_seenByAll 8 = .ok (.iload 4, 2) := by decide +kernel
theorem dX5_seenByAll_10 : decode cX5_seenByAll 10 = .ok (.iconst 4, 1) := by decide +kernel
theorem dX5_seenByAll_11 : decode cX5_seenByAll 11 = .ok (.if_icmp .ge 33, 3) := by decide +kernel
theorem dX5_seenByAll_14 : decode cX5_seenByAll 14 = .ok (.iload_n 1, 1) := by decide +kernel
theorem dX5_seenByAll_15 : decode cX5_seenByAll 15 = .ok (.iload 4, 2) := by decide +kernel
theorem dX5_seenByAll_17 : decode cX5_seenByAll 17 = .ok (.invokestatic 71, 3) := by decide +kernel
theorem dX5_seenByAll_20 : decode cX5_seenByAll 20 = .ok (.ifCond .eq 18, 3) := by decide +kernel
theorem dX5_seenByAll_23 : decode cX5_seenByAll 23 = .ok (.iload_n 3, 1) := by decide +kernel
theorem dX5_seenByAll_24 : decode cX5_seenByAll 24 = .ok (.aload_n 0, 1) := by decide +kernel
theorem dX5_seenByAll_25 : decode cX5_seenByAll 25 = .ok (.getfield 13, 3) := by decide +kernel
theorem dX5_seenByAll_28 : decode cX5_seenByAll 28 = .ok (.bipush 24, 2) := by decide +kernel
theorem dX5_seenByAll_30 : decode cX5_seenByAll 30 = .ok (.iload 4, 2) := by decide +kernel
theorem dX5_seenByAll_32 : decode cX5_seenByAll 32 = .ok (.imul, 1) := by decide +kernel
theorem dX5_seenByAll_33 : decode cX5_seenByAll 33 = .ok (.iload_n 2, 1) := by decide +kernel
theorem dX5_seenByAll_34 : decode cX5_seenByAll 34 = .ok (.iadd, 1) := by decide +kernel
theorem dX5_seenByAll_35 : decode cX5_seenByAll 35 = .ok (.iaload, 1) := by decide +kernel
theorem dX5_seenByAll_36 : decode cX5_seenByAll 36 = .ok (.iand, 1) := by decide +kernel
theorem dX5_seenByAll_37 : decode cX5_seenByAll 37 = .ok (.istore_n 3, 1) := by decide +kernel
theorem dX5_seenByAll_38 : decode cX5_seenByAll 38 = .ok (.iinc 4 1, 3) := by decide +kernel
theorem dX5_seenByAll_41 : decode cX5_seenByAll 41 = .ok (.goto (-33), 3) := by decide +kernel
theorem dX5_seenByAll_44 : decode cX5_seenByAll 44 = .ok (.iload_n 3, 1) := by decide +kernel
theorem dX5_seenByAll_45 : decode cX5_seenByAll 45 = .ok (.ireturn, 1) := by decide +kernel
set_option maxRecDepth 20000 in
theorem ggX5_truth_X5_truth : GoodIn wsX5_truth wsX5_truth := goodIn_r _ [0, 1, 2, 3, 4, 5, 6, 7, 8, 9, 10, 11, 12, 13, 14, 15, 16, 17, 18, 19, 20, 21, 22, 23, 24, 25, 26, 27, 28, 29, 30, 31, 32, 33, 34, 35, 36, 37, 38, 39, 40, 41, 42, 43, 44, 45, 46, 47, 48, 49, 50, 51, 52] (by decide +kernel) (by decide +kernel)
set_option maxRecDepth 20000 in
theorem gX5_truth_X5_truth : GoodIn wsX5_truth (wsV RX5 103 RX5 yX5_truth wsX5_truth) := goodIn_app (goodIn_of _ (by decide +kernel)) ggX5_truth_X5_truth
set_option maxRecDepth 20000 in
theorem ggX5_truth_X5_begin : GoodIn wsX5_truth wsX5_begin := goodIn_r _ [17, 3, 18, 1, 38, 39, 40, 41, 42, 43, 44, 45, 46, 47, 48, 49, 50, 51, 52] (by decide +kernel) (by decide +kernel)
set_option maxRecDepth 20000 in
theorem gX5_truth_X5_begin : GoodIn wsX5_truth (wsV RX5 106 RX5 yX5_begin wsX5_begin) := goodIn_app (goodIn_of _ (by decide +kernel)) ggX5_truth_X5_begin
set_option maxRecDepth 20000 in
theorem ggX5_truth_X5_has : GoodIn wsX5_truth wsX5_has := goodIn_r _ [21] (by decide +kernel) (by decide +kernel)
set_option maxRecDepth 20000 in
theorem gX5_truth_X5_has : GoodIn wsX5_truth (va_wsS RX5 71 yX5_has wsX5_has) := goodIn_app (goodIn_of _ (by decide +kernel)) ggX5_truth_X5_has
set_option maxRecDepth 20000 in
theorem ggX5_truth_X5_reach : GoodIn wsX5_truth wsX5_reach := goodIn_r _ [25, 26, 27, 28, 13, 29, 7, 8, 19, 20, 21, 38, 39, 40, 41, 42, 43, 44, 45, 46, 47, 48, 49, 50, 51, 52] (by decide +kernel) (by decide +kernel)
set_option maxRecDepth 20000 in
theorem gX5_truth_X5_reach : GoodIn wsX5_truth (wsV RX5 110 RX5 yX5_reach wsX5_reach) := goodIn_app (goodIn_of _ (by decide +kernel)) ggX5_truth_X5_reach
set_option maxRecDepth 20000 in
theorem ggX5_truth_X5_seenByAll : GoodIn wsX5_truth wsX5_seenByAll := goodIn_r _ [33, 8, 34, 35, 36, 13, 37, 7, 19, 20, 21, 38, 39, 40, 41, 42, 43, 44, 45, 46, 47, 48, 49, 50, 51, 52] (by decide +kernel) (by decide +kernel)
set_option maxRecDepth 20000 in
theorem gX5_truth_X5_seenByAll : GoodIn wsX5_truth (wsV RX5 114 RX5 yX5_seenByAll wsX5_seenByAll) := goodIn_app (goodIn_of _ (by decide +kernel)) ggX5_truth_X5_seenByAll
theorem dX5_truth_0 : decode cX5_truth 0 = .ok (.bipush 40, 2) := by decide +kernel
theorem dX5_truth_2 : decode cX5_truth 2 = .ok (.iload_n 1, 1) := by decide +kernel
theorem dX5_truth_3 : decode cX5_truth 3 = .ok (.imul, 1) := by decide +kernel
theorem dX5_truth_4 : decode cX5_truth 4 = .ok (.iload_n 2, 1) := by decide +kernel
theorem dX5_truth_5 : decode cX5_truth 5 = .ok (.iadd, 1) := by decide +kernel
theorem dX5_truth_6 : decode cX5_truth 6 = .ok (.istore_n 3, 1) := by decide +kernel
theorem dX5_truth_7 : decode cX5_truth 7 = .ok (.aload_n 0, 1) := by decide +kernel
theorem dX5_truth_8 : decode cX5_truth 8 = .ok (.getfield 34, 3) := by decide +kernel
theorem dX5_truth_11 : decode cX5_truth 11 = .ok (.iload_n 3, 1) := by decide +kernel
theorem dX5_truth_12 : decode cX5_truth 12 = .ok (.baload, 1) := by decide +kernel
theorem dX5_truth_13 : decode cX5_truth 13 = .ok (.ifCond .eq 10, 3) := by decide +kernel
theorem dX5_truth_16 : decode cX5_truth 16 = .ok (.aload_n 0, 1) := by decide +kernel
theorem dX5_truth_17 : decode cX5_truth 17 = .ok (.getfield 38, 3) := by decide +kernel
theorem dX5_truth_20 : decode cX5_truth 20 = .ok (.iload_n 3, 1) := by decide +kernel
theorem dX5_truth_21 : decode cX5_truth 21 = .ok (.iaload, 1) := by decide +kernel
theorem dX5_truth_22 : decode cX5_truth 22 = .ok (.ireturn, 1) := by decide +kernel
theorem dX5_truth_23 : decode cX5_truth 23 = .ok (.aload_n 0, 1) := by decide +kernel
theorem dX5_truth_24 : decode cX5_truth 24 = .ok (.getfield 31, 3) := by decide +kernel
theorem dX5_truth_27 : decode cX5_truth 27 = .ok (.iload_n 1, 1) := by decide +kernel
theorem dX5_truth_28 : decode cX5_truth 28 = .ok (.iaload, 1) := by decide +kernel
theorem dX5_truth_29 : decode cX5_truth 29 = .ok (.istore 4, 2) := by decide +kernel
theorem dX5_truth_31 : decode cX5_truth 31 = .ok (.aload_n 0, 1) := by decide +kernel
theorem dX5_truth_32 : decode cX5_truth 32 = .ok (.getfield 19, 3) := by decide +kernel
theorem dX5_truth_35 : decode cX5_truth 35 = .ok (.iload_n 2, 1) := by decide +kernel
theorem dX5_truth_36 : decode cX5_truth 36 = .ok (.iaload, 1) := by decide +kernel
theorem dX5_truth_37 : decode cX5_truth 37 = .ok (.istore 5, 2) := by decide +kernel
theorem dX5_truth_39 : decode cX5_truth 39 = .ok (.aload_n 0, 1) := by decide +kernel
theorem dX5_truth_40 : decode cX5_truth 40 = .ok (.getfield 22, 3) := by decide +kernel
theorem dX5_truth_43 : decode cX5_truth 43 = .ok (.iload_n 2, 1) := by decide +kernel
theorem dX5_truth_44 : decode cX5_truth 44 = .ok (.iaload, 1) := by decide +kernel
theorem dX5_truth_45 : decode cX5_truth 45 = .ok (.istore 6, 2) := by decide +kernel
theorem dX5_truth_47 : decode cX5_truth 47 = .ok (.iconst 0, 1) := by decide +kernel
theorem dX5_truth_48 : decode cX5_truth 48 = .ok (.istore 7, 2) := by decide +kernel
theorem dX5_truth_50 : decode cX5_truth 50 = .ok (.aload_n 0, 1) := by decide +kernel
theorem dX5_truth_51 : decode cX5_truth 51 = .ok (.getfield 16, 3) := by decide +kernel
theorem dX5_truth_54 : decode cX5_truth 54 = .ok (.iload_n 2, 1) := by decide +kernel
theorem dX5_truth_55 : decode cX5_truth 55 = .ok (.iaload, 1) := by decide +kernel
theorem dX5_truth_56 : decode cX5_truth 56 = .ok (.iconst 2, 1) := by decide +kernel
theorem dX5_truth_57 : decode cX5_truth 57 = .ok (.if_icmp .ne 23, 3) := by decide +kernel
theorem dX5_truth_60 : decode cX5_truth 60 = .ok (.aload_n 0, 1) := by decide +kernel
theorem dX5_truth_61 : decode cX5_truth 61 = .ok (.iload_n 1, 1) := by decide +kernel
theorem dX5_truth_62 : decode cX5_truth 62 = .ok (.iload 5, 2) := by decide +kernel
theorem dX5_truth_64 : decode cX5_truth 64 = .ok (.invokevirtual 103, 3) := by decide +kernel
theorem dX5_truth_67 : decode cX5_truth 67 = .ok (.aload_n 0, 1) := by decide +kernel
theorem dX5_truth_68 : decode cX5_truth 68 = .ok (.iload_n 1, 1) := by decide +kernel
theorem dX5_truth_69 : decode cX5_truth 69 = .ok (.iload 6, 2) := by decide +kernel
theorem dX5_truth_71 : decode cX5_truth 71 = .ok (.invokevirtual 103, 3) := by decide +kernel
theorem dX5_truth_74 : decode cX5_truth 74 = .ok (.iand, 1) := by decide +kernel
theorem dX5_truth_75 : decode cX5_truth 75 = .ok (.istore 7, 2) := by decide +kernel
theorem dX5_truth_77 : decode cX5_truth 77 = .ok (.goto 265, 3) := by decide +kernel
theorem dX5_truth_80 : decode cX5_truth 80 = .ok (.aload_n 0, 1) := by decide +kernel
theorem dX5_truth_81 : decode cX5_truth 81 = .ok (.getfield 16, 3) := by decide +kernel
theorem dX5_truth_84 : decode cX5_truth 84 = .ok (.iload_n 2, 1) := by decide +kernel
theorem dX5_truth_85 : decode cX5_truth 85 = .ok (.iaload, 1) := by decide +kernel
theorem dX5_truth_86 : decode cX5_truth 86 = .ok (.iconst 1, 1) := by decide +kernel
theorem dX5_truth_87 : decode cX5_truth 87 = .ok (.if_icmp .ne 20, 3) := by decide +kernel
theorem dX5_truth_90 : decode cX5_truth 90 = .ok (.iload 4, 2) := by decide +kernel
theorem dX5_truth_92 : decode cX5_truth 92 = .ok (.aload_n 0, 1) := by decide +kernel
theorem dX5_truth_93 : decode cX5_truth 93 = .ok (.iload_n 1, 1) := by decide +kernel
theorem dX5_truth_94 : decode cX5_truth 94 = .ok (.iload 6, 2) := by decide +kernel
theorem dX5_truth_96 : decode cX5_truth 96 = .ok (.invokevirtual 103, 3) := by decide +kernel
theorem dX5_truth_99 : decode cX5_truth 99 = .ok (.iconst (-1), 1) := by decide +kernel
theorem dX5_truth_100 : decode cX5_truth 100 = .ok (.ixor, 1) := by decide +kernel
theorem dX5_truth_101 : decode cX5_truth 101 = .ok (.iand, 1) := by decide +kernel
theorem dX5_truth_102 : decode cX5_truth 102 = .ok (.istore 7, 2) := by decide +kernel
theorem dX5_truth_104 : decode cX5_truth 104 = .ok (.goto 238, 3) := by decide +kernel
theorem dX5_truth_107 : decode cX5_truth 107 = .ok (.aload_n 0, 1) := by decide +kernel
theorem dX5_truth_108 : decode cX5_truth 108 = .ok (.getfield 16, 3) := by decide +kernel
theorem dX5_truth_111 : decode cX5_truth 111 = .ok (.iload_n 2, 1) := by decide +kernel
theorem dX5_truth_112 : decode cX5_truth 112 = .ok (.iaload, 1) := by decide +kernel
theorem dX5_truth_113 : decode cX5_truth 113 = .ok (.bipush 6, 2) := by decide +kernel
theorem dX5_truth_115 : decode cX5_truth 115 = .ok (.if_icmp .ne 43, 3) := by decide +kernel
theorem dX5_truth_118 : decode cX5_truth 118 = .ok (.aload_n 0, 1) := by decide +kernel
theorem dX5_truth_119 : decode cX5_truth 119 = .ok (.iload_n 1, 1) := by decide +kernel
theorem dX5_truth_120 : decode cX5_truth 120 = .ok (.iload 5, 2) := by decide +kernel
theorem dX5_truth_122 : decode cX5_truth 122 = .ok (.invokevirtual 103, 3) := by decide +kernel
theorem dX5_truth_125 : decode cX5_truth 125 = .ok (.istore 8, 2) := by decide +kernel
theorem dX5_truth_127 : decode cX5_truth 127 = .ok (.aload_n 0, 1) := by decide +kernel
theorem dX5_truth_128 : decode cX5_truth 128 = .ok (.iload_n 1, 1) := by decide +kernel
theorem dX5_truth_129 : decode cX5_truth 129 = .ok (.iconst 1, 1) := by decide +kernel
theorem dX5_truth_130 : decode cX5_truth 130 = .ok (.iadd, 1) := by decide +kernel
theorem dX5_truth_131 : decode cX5_truth 131 = .ok (.iload 8, 2) := by decide +kernel
theorem dX5_truth_133 : decode cX5_truth 133 = .ok (.invokevirtual 106, 3) := by decide +kernel
theorem dX5_truth_136 : decode cX5_truth 136 = .ok (.iload 4, 2) := by decide +kernel
theorem dX5_truth_138 : decode cX5_truth 138 = .ok (.iload 8, 2) := by decide +kernel
theorem dX5_truth_140 : decode cX5_truth 140 = .ok (.iconst (-1), 1) := by decide +kernel
theorem dX5_truth_141 : decode cX5_truth 141 = .ok (.ixor, 1) := by decide +kernel
theorem dX5_truth_142 : decode cX5_truth 142 = .ok (.iand, 1) := by decide +kernel
theorem dX5_truth_143 : decode cX5_truth 143 = .ok (.aload_n 0, 1) := by decide +kernel
theorem dX5_truth_144 : decode cX5_truth 144 = .ok (.iload_n 1, 1) := by decide +kernel
theorem dX5_truth_145 : decode cX5_truth 145 = .ok (.iconst 1, 1) := by decide +kernel
theorem dX5_truth_146 : decode cX5_truth 146 = .ok (.iadd, 1) := by decide +kernel
theorem dX5_truth_147 : decode cX5_truth 147 = .ok (.iload 6, 2) := by decide +kernel
theorem dX5_truth_149 : decode cX5_truth 149 = .ok (.invokevirtual 103, 3) := by decide +kernel
theorem dX5_truth_152 : decode cX5_truth 152 = .ok (.ior, 1) := by decide +kernel
theorem dX5_truth_153 : decode cX5_truth 153 = .ok (.istore 7, 2) := by decide +kernel
theorem dX5_truth_155 : decode cX5_truth 155 = .ok (.goto 187, 3) := by decide +kernel
theorem dX5_truth_158 : decode cX5_truth 158 = .ok (.aload_n 0, 1) := by decide +kernel
theorem dX5_truth_159 : decode cX5_truth 159 = .ok (.getfield 16, 3) := by decide +kernel
theorem dX5_truth_162 : decode cX5_truth 162 = .ok (.iload_n 2, 1) := by decide +kernel
theorem dX5_truth_163 : decode cX5_truth 163 = .ok (.iaload, 1) := by decide +kernel
theorem dX5_truth_164 : decode cX5_truth 164 = .ok (.ifCond .ne 7, 3) := by decide +kernel
theorem dX5_truth_167 : decode cX5_truth 167 = .ok (.iconst 0, 1) := by decide +kernel
theorem dX5_truth_168 : decode cX5_truth 168 = .ok (.goto 10, 3) := by decide +kernel
theorem dX5_truth_171 : decode cX5_truth 171 = .ok (.aload_n 0, 1) := by decide +kernel
theorem dX5_truth_172 : decode cX5_truth 172 = .ok (.iload_n 1, 1) := by decide +kernel
theorem dX5_truth_173 : decode cX5_truth 173 = .ok (.iload 6, 2) := by decide +kernel
theorem dX5_truth_175 : decode cX5_truth 175 = .ok (.invokevirtual 103, 3) := by decide +kernel
theorem dX5_truth_178 : decode cX5_truth 178 = .ok (.istore 8, 2) := by decide +kernel
theorem dX5_truth_180 : decode cX5_truth 180 = .ok (.iconst 0, 1) := by decide +kernel
theorem dX5_truth_181 : decode cX5_truth 181 = .ok (.istore 9, 2) := by decide +kernel
theorem dX5_truth_183 : decode cX5_truth 183 = .ok (.iload 9, 2) := by decide +kernel
theorem dX5_truth_185 : decode cX5_truth 185 = .ok (.aload_n 0, 1) := by decide +kernel
theorem dX5_truth_186 : decode cX5_truth 186 = .ok (.getfield 48, 3) := by decide +kernel
theorem dX5_truth_189 : decode cX5_truth 189 = .ok (.if_icmp .ge 153, 3) := by decide +kernel
theorem dX5_truth_192 : decode cX5_truth 192 = .ok (.iload 4, 2) := by decide +kernel
theorem dX5_truth_194 : decode cX5_truth 194 = .ok (.iload 9, 2) := by decide +kernel
theorem dX5_truth_196 : decode cX5_truth 196 = .ok (.invokestatic 71, 3) := by decide +kernel
theorem dX5_truth_199 : decode cX5_truth 199 = .ok (.ifCond .ne 6, 3) := by decide +kernel
theorem dX5_truth_202 : decode cX5_truth 202 = .ok (.goto 134, 3) := by decide +kernel
theorem dX5_truth_205 : decode cX5_truth 205 = .ok (.aload_n 0, 1) := by decide +kernel
theorem dX5_truth_206 : decode cX5_truth 206 = .ok (.getfield 16, 3) := by decide +kernel
theorem dX5_truth_209 : decode cX5_truth 209 = .ok (.iload_n 2, 1) := by decide +kernel
theorem dX5_truth_210 : decode cX5_truth 210 = .ok (.iaload, 1) := by decide +kernel
theorem dX5_truth_211 : decode cX5_truth 211 = .ok (.iconst 3, 1) := by decide +kernel
theorem dX5_truth_212 : decode cX5_truth 212 = .ok (.if_icmp .ne 19, 3) := by decide +kernel
theorem dX5_truth_215 : decode cX5_truth 215 = .ok (.aload_n 0, 1) := by decide +kernel
theorem dX5_truth_216 : decode cX5_truth 216 = .ok (.getfield 13, 3) := by decide +kernel
theorem dX5_truth_219 : decode cX5_truth 219 = .ok (.bipush 24, 2) := by decide +kernel
theorem dX5_truth_221 : decode cX5_truth 221 = .ok (.iload 5, 2) := by decide +kernel
theorem dX5_truth_223 : decode cX5_truth 223 = .ok (.imul, 1) := by decide +kernel
theorem dX5_truth_224 : decode cX5_truth 224 = .ok (.iload 9, 2) := by decide +kernel
theorem dX5_truth_226 : decode cX5_truth 226 = .ok (.iadd, 1) := by decide +kernel
theorem dX5_truth_227 : decode cX5_truth 227 = .ok (.iaload, 1) := by decide +kernel
theorem dX5_truth_228 : decode cX5_truth 228 = .ok (.goto 48, 3) := by decide +kernel
theorem dX5_truth_231 : decode cX5_truth 231 = .ok (.aload_n 0, 1) := by decide +kernel
theorem dX5_truth_232 : decode cX5_truth 232 = .ok (.getfield 16, 3) := by decide +kernel
theorem dX5_truth_235 : decode cX5_truth 235 = .ok (.iload_n 2, 1) := by decide +kernel
theorem dX5_truth_236 : decode cX5_truth 236 = .ok (.iaload, 1) := by decide +kernel
theorem dX5_truth_237 : decode cX5_truth 237 = .ok (.iconst 4, 1) := by decide +kernel
theorem dX5_truth_238 : decode cX5_truth 238 = .ok (.if_icmp .ne 16, 3) := by decide +kernel
theorem dX5_truth_241 : decode cX5_truth 241 = .ok (.aload_n 0, 1) := by decide +kernel
theorem dX5_truth_242 : decode cX5_truth 242 = .ok (.iload 5, 2) := by decide +kernel
theorem dX5_truth_244 : decode cX5_truth 244 = .ok (.iload 9, 2) := by decide +kernel
theorem dX5_truth_246 : decode cX5_truth 246 = .ok (.iload 4, 2) := by decide +kernel
theorem dX5_truth_248 : decode cX5_truth 248 = .ok (.invokevirtual 110, 3) := by decide +kernel
theorem dX5_truth_251 : decode cX5_truth 251 = .ok (.goto 25, 3) := by decide +kernel
theorem dX5_truth_254 : decode cX5_truth 254 = .ok (.aload_n 0, 1) := by decide +kernel
theorem dX5_truth_255 : decode cX5_truth 255 = .ok (.getfield 16, 3) := by decide +kernel
theorem dX5_truth_258 : decode cX5_truth 258 = .ok (.iload_n 2, 1) := by decide +kernel
theorem dX5_truth_259 : decode cX5_truth 259 = .ok (.iaload, 1) := by decide +kernel
theorem dX5_truth_260 : decode cX5_truth 260 = .ok (.iconst 5, 1) := by decide +kernel
theorem dX5_truth_261 : decode cX5_truth 261 = .ok (.if_icmp .ne 14, 3) := by decide +kernel
theorem dX5_truth_264 : decode cX5_truth 264 = .ok (.aload_n 0, 1) := by decide +kernel
theorem dX5_truth_265 : decode cX5_truth 265 = .ok (.iload 5, 2) := by decide +kernel
theorem dX5_truth_267 : decode cX5_truth 267 = .ok (.iload 9, 2) := by decide +kernel
theorem dX5_truth_269 : decode cX5_truth 269 = .ok (.invokevirtual 114, 3) := by decide +kernel
theorem dX5_truth_272 : decode cX5_truth 272 = .ok (.goto 4, 3) := by decide +kernel
theorem dX5_truth_275 : decode cX5_truth 275 = .ok (.iconst 0, 1) := by decide +kernel
theorem dX5_truth_276 : decode cX5_truth 276 = .ok (.istore 10, 2) := by decide +kernel
theorem dX5_truth_278 : decode cX5_truth 278 = .ok (.aload_n 0, 1) := by decide +kernel
theorem dX5_truth_279 : decode cX5_truth 279 = .ok (.getfield 16, 3) := by decide +kernel
theorem dX5_truth_282 : decode cX5_truth 282 = .ok (.iload_n 2, 1) := by decide +kernel
theorem dX5_truth_283 : decode cX5_truth 283 = .ok (.iaload, 1) := by decide +kernel
theorem dX5_truth_284 : decode cX5_truth 284 = .ok (.ifCond .ne 18, 3) := by decide +kernel
theorem dX5_truth_287 : decode cX5_truth 287 = .ok (.aload_n 0, 1) := by decide +kernel
theorem dX5_truth_288 : decode cX5_truth 288 = .ok (.getfield 9, 3) := by decide +kernel
theorem dX5_truth_291 : decode cX5_truth 291 = .ok (.iload 9, 2) := by decide +kernel
theorem dX5_truth_293 : decode cX5_truth 293 = .ok (.iaload, 1) := by decide +kernel
theorem dX5_truth_294 : decode cX5_truth 294 = .ok (.iload 5, 2) := by decide +kernel
theorem dX5_truth_296 : decode cX5_truth 296 = .ok (.invokestatic 71, 3) := by decide +kernel
theorem dX5_truth_299 : decode cX5_truth 299 = .ok (.goto 21, 3) := by decide +kernel
theorem dX5_truth_302 : decode cX5_truth 302 = .ok (.iload 10, 2) := by decide +kernel
theorem dX5_truth_304 : decode cX5_truth 304 = .ok (.iload 4, 2) := by decide +kernel
theorem dX5_truth_306 : decode cX5_truth 306 = .ok (.iand, 1) := by decide +kernel
theorem dX5_truth_307 : decode cX5_truth 307 = .ok (.iload 8, 2) := by decide +kernel
theorem dX5_truth_309 : decode cX5_truth 309 = .ok (.iconst (-1), 1) := by decide +kernel
theorem dX5_truth_310 : decode cX5_truth 310 = .ok (.ixor, 1) := by decide +kernel
theorem dX5_truth_311 : decode cX5_truth 311 = .ok (.iand, 1) := by decide +kernel
theorem dX5_truth_312 : decode cX5_truth 312 = .ok (.ifCond .ne 7, 3) := by decide +kernel
theorem dX5_truth_315 : decode cX5_truth 315 = .ok (.iconst 1, 1) := by decide +kernel
theorem dX5_truth_316 : decode cX5_truth 316 = .ok (.goto 4, 3) := by decide +kernel
theorem dX5_truth_319 : decode cX5_truth 319 = .ok (.iconst 0, 1) := by decide +kernel
theorem dX5_truth_320 : decode cX5_truth 320 = .ok (.istore 11, 2) := by decide +kernel
theorem dX5_truth_322 : decode cX5_truth 322 = .ok (.iload 11, 2) := by decide +kernel
theorem dX5_truth_324 : decode cX5_truth 324 = .ok (.ifCond .eq 12, 3) := by decide +kernel
theorem dX5_truth_327 : decode cX5_truth 327 = .ok (.iload 7, 2) := by decide +kernel
theorem dX5_truth_329 : decode cX5_truth 329 = .ok (.iconst 1, 1) := by decide +kernel
theorem dX5_truth_330 : decode cX5_truth 330 = .ok (.iload 9, 2) := by decide +kernel
theorem dX5_truth_332 : decode cX5_truth 332 = .ok (.ishl, 1) := by decide +kernel
theorem dX5_truth_333 : decode cX5_truth 333 = .ok (.ior, 1) := by decide +kernel
theorem dX5_truth_334 : decode cX5_truth 334 = .ok (.istore 7, 2) := by decide +kernel
theorem dX5_truth_336 : decode cX5_truth 336 = .ok (.iinc 9 1, 3) := by decide +kernel
theorem dX5_truth_339 : decode cX5_truth 339 = .ok (.goto (-156), 3) := by decide +kernel
theorem dX5_truth_342 : decode cX5_truth 342 = .ok (.aload_n 0, 1) := by decide +kernel
theorem dX5_truth_343 : decode cX5_truth 343 = .ok (.getfield 38, 3) := by decide +kernel
theorem dX5_truth_346 : decode cX5_truth 346 = .ok (.iload_n 3, 1) := by decide +kernel
theorem dX5_truth_347 : decode cX5_truth 347 = .ok (.iload 7, 2) := by decide +kernel
theorem dX5_truth_349 : decode cX5_truth 349 = .ok (.iastore, 1) := by decide +kernel
theorem dX5_truth_350 : decode cX5_truth 350 = .ok (.aload_n 0, 1) := by decide +kernel
theorem dX5_truth_351 : decode cX5_truth 351 = .ok (.getfield 34, 3) := by decide +kernel
theorem dX5_truth_354 : decode cX5_truth 354 = .ok (.iload_n 3, 1) := by decide +kernel
theorem dX5_truth_355 : decode cX5_truth 355 = .ok (.iconst 1, 1) := by decide +kernel
theorem dX5_truth_356 : decode cX5_truth 356 = .ok (.bastore, 1) := by decide +kernel
theorem dX5_truth_357 : decode cX5_truth 357 = .ok (.iload 7, 2) := by decide +kernel
theorem dX5_truth_359 : decode cX5_truth 359 = .ok (.ireturn, 1) := by decide +kernel
set_option maxRecDepth 20000 in
theorem ggX5_trueAt_X5_all : GoodIn wsX5_trueAt wsX5_all := goodIn_r _ [5, 6, 39, 40, 41, 42, 43, 44, 45, 46, 47, 48, 49, 50, 51, 52, 53] (by decide +kernel) (by decide +kernel)
set_option maxRecDepth 20000 in
theorem gX5_trueAt_X5_all : GoodIn wsX5_trueAt (wsV RX5 99 RX5 yX5_all wsX5_all) := goodIn_app (goodIn_of _ (by decide +kernel)) ggX5_trueAt_X5_all
set_option maxRecDepth 20000 in
theorem ggX5_trueAt_X5_begin : GoodIn wsX5_trueAt wsX5_begin := goodIn_r _ [10, 11, 12, 13, 39, 40, 41, 42, 43, 44, 45, 46, 47, 48, 49, 50, 51, 52, 53] (by decide +kernel) (by decide +kernel)
set_option maxRecDepth 20000 in
theorem gX5_trueAt_X5_begin : GoodIn wsX5_trueAt (wsV RX5 106 RX5 yX5_begin wsX5_begin) := goodIn_app (goodIn_of _ (by decide +kernel)) ggX5_trueAt_X5_begin
set_option maxRecDepth 20000 in
theorem ggX5_trueAt_X5_truth : GoodIn wsX5_trueAt wsX5_truth := goodIn_r _ [17, 13, 18, 11, 19, 20, 21, 6, 22, 23, 14, 15, 16, 4, 7, 8, 9, 10, 12, 24, 25, 26, 27, 28, 29, 30, 31, 32, 33, 34, 35, 36, 37, 38, 1, 2, 3, 5, 39, 40, 41, 42, 43, 44, 45, 46, 47, 48, 49, 50, 51, 52, 53] (by decide +kernel) (by decide +kernel)
set_option maxRecDepth 20000 in
theorem gX5_trueAt_X5_truth : GoodIn wsX5_trueAt (wsV RX5 103 RX5 yX5_truth wsX5_truth) := goodIn_app (goodIn_of _ (by decide +kernel)) ggX5_trueAt_X5_truth
theorem dX5_trueAt_0 : decode cX5_trueAt 0 = .ok (.aload_n 0, 1) := by decide +kernel
theorem dX5_trueAt_1 : decode cX5_trueAt 1 = .ok (.iconst 0, 1) := by decide +kernel
theorem dX5_trueAt_2 : decode cX5_trueAt 2 = .ok (.aload_n 0, 1) := by decide +kernel
theorem dX5_trueAt_3 : decode cX5_trueAt 3 = .ok (.invokevirtual 99, 3) := by decide +kernel
theorem dX5_trueAt_6 : decode cX5_trueAt 6 = .ok (.invokevirtual 106, 3) := by decide +kernel
theorem dX5_trueAt_9 : decode cX5_trueAt 9 = .ok (.aload_n 0, 1) := by decide +kernel
theorem dX5_trueAt_10 : decode cX5_trueAt 10 = .ok (.iconst 0, 1) := by decide +kernel
theorem dX5_trueAt_11 : decode cX5_trueAt 11 = .ok (.iload_n 1, 1) := by decide +kernel
theorem dX5_trueAt_12 : decode cX5_trueAt 12 = .ok (.invokevirtual 103, 3) := by decide +kernel
theorem dX5_trueAt_15 : decode cX5_trueAt 15 = .ok (.ireturn, 1) := by decide +kernel
set_option maxRecDepth 20000 in
theorem ggX5_where_X5_isFormula : GoodIn wsX5_where wsX5_isFormula := goodIn_r _ [6, 7, 52, 53, 54, 55, 56, 57, 58, 59, 60, 61, 62, 63, 64, 65, 66] (by decide +kernel) (by decide +kernel)
set_option maxRecDepth 20000 in
theorem gX5_where_X5_isFormula : GoodIn wsX5_where (wsV RX5 84 RX5 yX5_isFormula wsX5_isFormula) := goodIn_app (goodIn_of _ (by decide +kernel)) ggX5_where_X5_isFormula
set_option maxRecDepth 20000 in
theorem ggX5_where_X5_trueAt : GoodIn wsX5_where wsX5_trueAt := goodIn_r _ [11, 12, 13, 14, 5, 15, 16, 17, 18, 19, 20, 21, 7, 22, 23, 24, 25, 26, 27, 28, 29, 30, 31, 32, 33, 34, 35, 36, 37, 38, 39, 40, 41, 42, 43, 44, 45, 46, 47, 52, 53, 54, 55, 56, 57, 58, 59, 60, 61, 62, 63, 64, 65, 66] (by decide +kernel) (by decide +kernel)
set_option maxRecDepth 20000 in
theorem gX5_where_X5_trueAt : GoodIn wsX5_where (wsV RX5 117 RX5 yX5_trueAt wsX5_trueAt) := goodIn_app (goodIn_of _ (by decide +kernel)) ggX5_where_X5_trueAt
set_option maxRecDepth 20000 in
theorem ggX5_where_X5_no : GoodIn wsX5_where wsX5_no := goodIn_r _ [51, 1, 52, 53, 54, 55, 56, 57, 58, 59, 60, 61, 62, 63, 64, 65, 66] (by decide +kernel) (by decide +kernel)
set_option maxRecDepth 20000 in
theorem gX5_where_X5_no : GoodIn wsX5_where (wsV RX5 58 RX5 yX5_no wsX5_no) := goodIn_app (goodIn_of _ (by decide +kernel)) ggX5_where_X5_no
theorem dX5_where_0 : decode cX5_where 0 = .ok (.aload_n 0, 1) := by decide +kernel
theorem dX5_where_1 : decode cX5_where 1 = .ok (.iconst 0, 1) := by decide +kernel
theorem dX5_where_2 : decode cX5_where 2 = .ok (.putfield 44, 3) := by decide +kernel
theorem dX5_where_5 : decode cX5_where 5 = .ok (.aload_n 0, 1) := by decide +kernel
theorem dX5_where_6 : decode cX5_where 6 = .ok (.iload_n 1, 1) := by decide +kernel
theorem dX5_where_7 : decode cX5_where 7 = .ok (.invokevirtual 84, 3) := by decide +kernel
theorem dX5_where_10 : decode cX5_where 10 = .ok (.ifCond .eq 11, 3) := by decide +kernel
theorem dX5_where_13 : decode cX5_where 13 = .ok (.aload_n 0, 1) := by decide +kernel
theorem dX5_where_14 : decode cX5_where 14 = .ok (.iload_n 1, 1) := by decide +kernel
theorem dX5_where_15 : decode cX5_where 15 = .ok (.invokevirtual 117, 3) := by decide +kernel
theorem dX5_where_18 : decode cX5_where 18 = .ok (.goto 8, 3) := by decide +kernel
theorem dX5_where_21 : decode cX5_where 21 = .ok (.aload_n 0, 1) := by decide +kernel
theorem dX5_where_22 : decode cX5_where 22 = .ok (.iconst 1, 1) := by decide +kernel
theorem dX5_where_23 : decode cX5_where 23 = .ok (.invokevirtual 58, 3) := by decide +kernel
theorem dX5_where_26 : decode cX5_where 26 = .ok (.ireturn, 1) := by decide +kernel
set_option maxRecDepth 20000 in
theorem ggX5_holds_X5_isFormula : GoodIn wsX5_holds wsX5_isFormula := goodIn_r _ [8, 9, 49, 50, 51, 52, 53, 54, 55, 56, 57, 58, 59, 60, 61, 62, 63] (by decide +kernel) (by decide +kernel)
set_option maxRecDepth 20000 in
theorem gX5_holds_X5_isFormula : GoodIn wsX5_holds (wsV RX5 84 RX5 yX5_isFormula wsX5_isFormula) := goodIn_app (goodIn_of _ (by decide +kernel)) ggX5_holds_X5_isFormula
set_option maxRecDepth 20000 in
theorem ggX5_holds_X5_trueAt : GoodIn wsX5_holds wsX5_trueAt := goodIn_r _ [13, 14, 15, 16, 7, 17, 1, 18, 19, 20, 21, 22, 9, 23, 24, 25, 26, 27, 28, 29, 30, 31, 32, 33, 34, 35, 36, 37, 38, 39, 40, 41, 42, 43, 44, 45, 46, 47, 48, 49, 50, 51, 52, 53, 54, 55, 56, 57, 58, 59, 60, 61, 62, 63] (by decide +kernel) (by decide +kernel)
set_option maxRecDepth 20000 in
theorem gX5_holds_X5_trueAt : GoodIn wsX5_holds (wsV RX5 117 RX5 yX5_trueAt wsX5_trueAt) := goodIn_app (goodIn_of _ (by decide +kernel)) ggX5_holds_X5_trueAt
set_option maxRecDepth 20000 in
theorem ggX5_holds_X5_has : GoodIn wsX5_holds wsX5_has := goodIn_r _ [36] (by decide +kernel) (by decide +kernel)
set_option maxRecDepth 20000 in
theorem gX5_holds_X5_has : GoodIn wsX5_holds (va_wsS RX5 71 yX5_has wsX5_has) := goodIn_app (goodIn_of _ (by decide +kernel)) ggX5_holds_X5_has
theorem dX5_holds_0 : decode cX5_holds 0 = .ok (.aload_n 0, 1) := by decide +kernel
theorem dX5_holds_1 : decode cX5_holds 1 = .ok (.aload_n 0, 1) := by decide +kernel
theorem dX5_holds_2 : decode cX5_holds 2 = .ok (.iload_n 1, 1) := by decide +kernel
theorem dX5_holds_3 : decode cX5_holds 3 = .ok (.invokevirtual 84, 3) := by decide +kernel
theorem dX5_holds_6 : decode cX5_holds 6 = .ok (.ifCond .ne 7, 3) := by decide +kernel
theorem dX5_holds_9 : decode cX5_holds 9 = .ok (.iconst 1, 1) := by decide +kernel
theorem dX5_holds_10 : decode cX5_holds 10 = .ok (.goto 15, 3) := by decide +kernel
theorem dX5_holds_13 : decode cX5_holds 13 = .ok (.aload_n 0, 1) := by decide +kernel
theorem dX5_holds_14 : decode cX5_holds 14 = .ok (.getfield 48, 3) := by decide +kernel
theorem dX5_holds_17 : decode cX5_holds 17 = .ok (.ifCond .ne 7, 3) := by decide +kernel
theorem dX5_holds_20 : decode cX5_holds 20 = .ok (.iconst 2, 1) := by decide +kernel
theorem dX5_holds_21 : decode cX5_holds 21 = .ok (.goto 4, 3) := by decide +kernel
theorem dX5_holds_24 : decode cX5_holds 24 = .ok (.iconst 0, 1) := by decide +kernel
theorem dX5_holds_25 : decode cX5_holds 25 = .ok (.putfield 44, 3) := by decide +kernel
theorem dX5_holds_28 : decode cX5_holds 28 = .ok (.aload_n 0, 1) := by decide +kernel
theorem dX5_holds_29 : decode cX5_holds 29 = .ok (.getfield 44, 3) := by decide +kernel
theorem dX5_holds_32 : decode cX5_holds 32 = .ok (.ifCond .ne 22, 3) := by decide +kernel
theorem dX5_holds_35 : decode cX5_holds 35 = .ok (.aload_n 0, 1) := by decide +kernel
theorem dX5_holds_36 : decode cX5_holds 36 = .ok (.iload_n 1, 1) := by decide +kernel
theorem dX5_holds_37 : decode cX5_holds 37 = .ok (.invokevirtual 117, 3) := by decide +kernel
theorem dX5_holds_40 : decode cX5_holds 40 = .ok (.aload_n 0, 1) := by decide +kernel
theorem dX5_holds_41 : decode cX5_holds 41 = .ok (.getfield 62, 3) := by decide +kernel
theorem dX5_holds_44 : decode cX5_holds 44 = .ok (.invokestatic 71, 3) := by decide +kernel
theorem dX5_holds_47 : decode cX5_holds 47 = .ok (.ifCond .eq 7, 3) := by decide +kernel
theorem dX5_holds_50 : decode cX5_holds 50 = .ok (.iconst 1, 1) := by decide +kernel
theorem dX5_holds_51 : decode cX5_holds 51 = .ok (.goto 4, 3) := by decide +kernel
theorem dX5_holds_54 : decode cX5_holds 54 = .ok (.iconst 0, 1) := by decide +kernel
theorem dX5_holds_55 : decode cX5_holds 55 = .ok (.ireturn, 1) := by decide +kernel
set_option maxRecDepth 20000 in
theorem ggX5_share_X5_isFormula : GoodIn wsX5_share wsX5_isFormula := goodIn_r _ [7, 8, 55, 56, 57, 58, 59, 60, 61, 62, 63, 64, 65, 66, 67, 68, 69] (by decide +kernel) (by decide +kernel)
set_option maxRecDepth 20000 in
theorem gX5_share_X5_isFormula : GoodIn wsX5_share (wsV RX5 84 RX5 yX5_isFormula wsX5_isFormula) := goodIn_app (goodIn_of _ (by decide +kernel)) ggX5_share_X5_isFormula
set_option maxRecDepth 20000 in
theorem ggX5_share_X5_trueAt : GoodIn wsX5_share wsX5_trueAt := goodIn_r _ [12, 13, 14, 15, 6, 16, 2, 17, 18, 19, 20, 21, 8, 22, 23, 24, 25, 26, 27, 28, 29, 30, 31, 32, 33, 34, 35, 36, 37, 38, 39, 40, 41, 42, 43, 44, 45, 46, 47, 55, 56, 57, 58, 59, 60, 61, 62, 63, 64, 65, 66, 67, 68, 69] (by decide +kernel) (by decide +kernel)
set_option maxRecDepth 20000 in
theorem gX5_share_X5_trueAt : GoodIn wsX5_share (wsV RX5 117 RX5 yX5_trueAt wsX5_trueAt) := goodIn_app (goodIn_of _ (by decide +kernel)) ggX5_share_X5_trueAt
set_option maxRecDepth 20000 in
theorem ggX5_share_J6_bitCount_0f7a4 : GoodIn wsX5_share wsJ6_bitCount_0f7a4 := goodIn_r _ [51, 52, 53, 54] (by decide +kernel) (by decide +kernel)
set_option maxRecDepth 20000 in
theorem gX5_share_J6_bitCount_0f7a4 : GoodIn wsX5_share (va_wsS RX5 75 yJ6_bitCount_0f7a4 wsJ6_bitCount_0f7a4) := goodIn_app (goodIn_of _ (by decide +kernel)) ggX5_share_J6_bitCount_0f7a4
theorem dX5_share_0 : decode cX5_share 0 = .ok (.aload_n 0, 1) := by decide +kernel
theorem dX5_share_1 : decode cX5_share 1 = .ok (.aload_n 0, 1) := by decide +kernel
theorem dX5_share_2 : decode cX5_share 2 = .ok (.iload_n 1, 1) := by decide +kernel
theorem dX5_share_3 : decode cX5_share 3 = .ok (.invokevirtual 84, 3) := by decide +kernel
theorem dX5_share_6 : decode cX5_share 6 = .ok (.ifCond .eq 7, 3) := by decide +kernel
theorem dX5_share_9 : decode cX5_share 9 = .ok (.iconst 0, 1) := by decide +kernel
theorem dX5_share_10 : decode cX5_share 10 = .ok (.goto 4, 3) := by decide +kernel
theorem dX5_share_13 : decode cX5_share 13 = .ok (.iconst 1, 1) := by decide +kernel
theorem dX5_share_14 : decode cX5_share 14 = .ok (.putfield 44, 3) := by decide +kernel
theorem dX5_share_17 : decode cX5_share 17 = .ok (.aload_n 0, 1) := by decide +kernel
theorem dX5_share_18 : decode cX5_share 18 = .ok (.getfield 44, 3) := by decide +kernel
theorem dX5_share_21 : decode cX5_share 21 = .ok (.ifCond .ne 10, 3) := by decide +kernel
theorem dX5_share_24 : decode cX5_share 24 = .ok (.aload_n 0, 1) := by decide +kernel
theorem dX5_share_25 : decode cX5_share 25 = .ok (.getfield 48, 3) := by decide +kernel
theorem dX5_share_28 : decode cX5_share 28 = .ok (.ifCond .ne 7, 3) := by decide +kernel
theorem dX5_share_31 : decode cX5_share 31 = .ok (.dconst 0, 1) := by decide +kernel
theorem dX5_share_32 : decode cX5_share 32 = .ok (.goto 18, 3) := by decide +kernel
theorem dX5_share_35 : decode cX5_share 35 = .ok (.aload_n 0, 1) := by decide +kernel
theorem dX5_share_36 : decode cX5_share 36 = .ok (.iload_n 1, 1) := by decide +kernel
theorem dX5_share_37 : decode cX5_share 37 = .ok (.invokevirtual 117, 3) := by decide +kernel
theorem dX5_share_40 : decode cX5_share 40 = .ok (.invokestatic 75, 3) := by decide +kernel
theorem dX5_share_43 : decode cX5_share 43 = .ok (.i2d, 1) := by decide +kernel
theorem dX5_share_44 : decode cX5_share 44 = .ok (.aload_n 0, 1) := by decide +kernel
theorem dX5_share_45 : decode cX5_share 45 = .ok (.getfield 48, 3) := by decide +kernel
theorem dX5_share_48 : decode cX5_share 48 = .ok (.i2d, 1) := by decide +kernel
theorem dX5_share_49 : decode cX5_share 49 = .ok (.ddiv, 1) := by decide +kernel
theorem dX5_share_50 : decode cX5_share 50 = .ok (.dreturn, 1) := by decide +kernel
set_option maxRecDepth 20000 in
theorem ggX5_decided_X5_isAgent : GoodIn wsX5_decided wsX5_isAgent := goodIn_r _ [9] (by decide +kernel) (by decide +kernel)
set_option maxRecDepth 20000 in
theorem gX5_decided_X5_isAgent : GoodIn wsX5_decided (va_wsS RX5 68 yX5_isAgent wsX5_isAgent) := goodIn_app (goodIn_of _ (by decide +kernel)) ggX5_decided_X5_isAgent
set_option maxRecDepth 20000 in
theorem ggX5_decided_X5_no : GoodIn wsX5_decided wsX5_no := goodIn_r _ [13, 1, 17, 18, 19, 20, 21, 22, 23, 24, 25, 26, 27, 28, 29, 30, 31] (by decide +kernel) (by decide +kernel)
set_option maxRecDepth 20000 in
theorem gX5_decided_X5_no : GoodIn wsX5_decided (wsV RX5 58 RX5 yX5_no wsX5_no) := goodIn_app (goodIn_of _ (by decide +kernel)) ggX5_decided_X5_no
set_option maxRecDepth 20000 in
theorem ggX5_decided_X5_has : GoodIn wsX5_decided wsX5_has := goodIn_r _ [16] (by decide +kernel) (by decide +kernel)
set_option maxRecDepth 20000 in
theorem gX5_decided_X5_has : GoodIn wsX5_decided (va_wsS RX5 71 yX5_has wsX5_has) := goodIn_app (goodIn_of _ (by decide +kernel)) ggX5_decided_X5_has
theorem dX5_decided_0 : decode cX5_decided 0 = .ok (.aload_n 0, 1) := by decide +kernel
theorem dX5_decided_1 : decode cX5_decided 1 = .ok (.iconst 0, 1) := by decide +kernel
theorem dX5_decided_2 : decode cX5_decided 2 = .ok (.putfield 44, 3) := by decide +kernel
theorem dX5_decided_5 : decode cX5_decided 5 = .ok (.iload_n 1, 1) := by decide +kernel
theorem dX5_decided_6 : decode cX5_decided 6 = .ok (.invokestatic 68, 3) := by decide +kernel
theorem dX5_decided_9 : decode cX5_decided 9 = .ok (.ifCond .ne 9, 3) := by decide +kernel
theorem dX5_decided_12 : decode cX5_decided 12 = .ok (.aload_n 0, 1) := by decide +kernel
theorem dX5_decided_13 : decode cX5_decided 13 = .ok (.iconst 1, 1) := by decide +kernel
theorem dX5_decided_14 : decode cX5_decided 14 = .ok (.invokevirtual 58, 3) := by decide +kernel
theorem dX5_decided_17 : decode cX5_decided 17 = .ok (.ireturn, 1) := by decide +kernel
theorem dX5_decided_18 : decode cX5_decided 18 = .ok (.aload_n 0, 1) := by decide +kernel
theorem dX5_decided_19 : decode cX5_decided 19 = .ok (.getfield 48, 3) := by decide +kernel
theorem dX5_decided_22 : decode cX5_decided 22 = .ok (.ifCond .ne 9, 3) := by decide +kernel
theorem dX5_decided_25 : decode cX5_decided 25 = .ok (.aload_n 0, 1) := by decide +kernel
theorem dX5_decided_26 : decode cX5_decided 26 = .ok (.iconst 2, 1) := by decide +kernel
theorem dX5_decided_27 : decode cX5_decided 27 = .ok (.invokevirtual 58, 3) := by decide +kernel
theorem dX5_decided_30 : decode cX5_decided 30 = .ok (.ireturn, 1) := by decide +kernel
theorem dX5_decided_31 : decode cX5_decided 31 = .ok (.bipush 63, 2) := by decide +kernel
theorem dX5_decided_33 : decode cX5_decided 33 = .ok (.istore_n 2, 1) := by decide +kernel
theorem dX5_decided_34 : decode cX5_decided 34 = .ok (.iload_n 2, 1) := by decide +kernel
theorem dX5_decided_35 : decode cX5_decided 35 = .ok (.istore_n 3, 1) := by decide +kernel
theorem dX5_decided_36 : decode cX5_decided 36 = .ok (.iconst 0, 1) := by decide +kernel
theorem dX5_decided_37 : decode cX5_decided 37 = .ok (.istore 4, 2) := by decide +kernel
theorem dX5_decided_39 : decode cX5_decided 39 = .ok (.iload 4, 2) := by decide +kernel
theorem dX5_decided_41 : decode cX5_decided 41 = .ok (.aload_n 0, 1) := by decide +kernel
theorem dX5_decided_42 : decode cX5_decided 42 = .ok (.getfield 48, 3) := by decide +kernel
theorem dX5_decided_45 : decode cX5_decided 45 = .ok (.if_icmp .ge 56, 3) := by decide +kernel
theorem dX5_decided_48 : decode cX5_decided 48 = .ok (.aload_n 0, 1) := by decide +kernel
theorem dX5_decided_49 : decode cX5_decided 49 = .ok (.getfield 13, 3) := by decide +kernel
theorem dX5_decided_52 : decode cX5_decided 52 = .ok (.bipush 24, 2) := by decide +kernel
theorem dX5_decided_54 : decode cX5_decided 54 = .ok (.iload_n 1, 1) := by decide +kernel
theorem dX5_decided_55 : decode cX5_decided 55 = .ok (.imul, 1) := by decide +kernel
theorem dX5_decided_56 : decode cX5_decided 56 = .ok (.aload_n 0, 1) := by decide +kernel
theorem dX5_decided_57 : decode cX5_decided 57 = .ok (.getfield 62, 3) := by decide +kernel
theorem dX5_decided_60 : decode cX5_decided 60 = .ok (.iadd, 1) := by decide +kernel
theorem dX5_decided_61 : decode cX5_decided 61 = .ok (.iaload, 1) := by decide +kernel
theorem dX5_decided_62 : decode cX5_decided 62 = .ok (.iload 4, 2) := by decide +kernel
theorem dX5_decided_64 : decode cX5_decided 64 = .ok (.invokestatic 71, 3) := by decide +kernel
theorem dX5_decided_67 : decode cX5_decided 67 = .ok (.ifCond .ne 6, 3) := by decide +kernel
theorem dX5_decided_70 : decode cX5_decided 70 = .ok (.goto 25, 3) := by decide +kernel
theorem dX5_decided_73 : decode cX5_decided 73 = .ok (.iload_n 2, 1) := by decide +kernel
theorem dX5_decided_74 : decode cX5_decided 74 = .ok (.aload_n 0, 1) := by decide +kernel
theorem dX5_decided_75 : decode cX5_decided 75 = .ok (.getfield 9, 3) := by decide +kernel
theorem dX5_decided_78 : decode cX5_decided 78 = .ok (.iload 4, 2) := by decide +kernel
theorem dX5_decided_80 : decode cX5_decided 80 = .ok (.iaload, 1) := by decide +kernel
theorem dX5_decided_81 : decode cX5_decided 81 = .ok (.iand, 1) := by decide +kernel
theorem dX5_decided_82 : decode cX5_decided 82 = .ok (.istore_n 2, 1) := by decide +kernel
theorem dX5_decided_83 : decode cX5_decided 83 = .ok (.iload_n 3, 1) := by decide +kernel
theorem dX5_decided_84 : decode cX5_decided 84 = .ok (.aload_n 0, 1) := by decide +kernel
theorem dX5_decided_85 : decode cX5_decided 85 = .ok (.getfield 9, 3) := by decide +kernel
theorem dX5_decided_88 : decode cX5_decided 88 = .ok (.iload 4, 2) := by decide +kernel
theorem dX5_decided_90 : decode cX5_decided 90 = .ok (.iaload, 1) := by decide +kernel
theorem dX5_decided_91 : decode cX5_decided 91 = .ok (.iconst (-1), 1) := by decide +kernel
theorem dX5_decided_92 : decode cX5_decided 92 = .ok (.ixor, 1) := by decide +kernel
theorem dX5_decided_93 : decode cX5_decided 93 = .ok (.iand, 1) := by decide +kernel
theorem dX5_decided_94 : decode cX5_decided 94 = .ok (.istore_n 3, 1) := by decide +kernel
theorem dX5_decided_95 : decode cX5_decided 95 = .ok (.iinc 4 1, 3) := by decide +kernel
theorem dX5_decided_98 : decode cX5_decided 98 = .ok (.goto (-59), 3) := by decide +kernel
theorem dX5_decided_101 : decode cX5_decided 101 = .ok (.iload_n 2, 1) := by decide +kernel
theorem dX5_decided_102 : decode cX5_decided 102 = .ok (.iload_n 3, 1) := by decide +kernel
theorem dX5_decided_103 : decode cX5_decided 103 = .ok (.ior, 1) := by decide +kernel
theorem dX5_decided_104 : decode cX5_decided 104 = .ok (.ireturn, 1) := by decide +kernel
set_option maxRecDepth 20000 in
theorem ggX5_reached_X5_isGroup : GoodIn wsX5_reached wsX5_isGroup := goodIn_r _ [5] (by decide +kernel) (by decide +kernel)
set_option maxRecDepth 20000 in
theorem gX5_reached_X5_isGroup : GoodIn wsX5_reached (va_wsS RX5 93 yX5_isGroup wsX5_isGroup) := goodIn_app (goodIn_of _ (by decide +kernel)) ggX5_reached_X5_isGroup
set_option maxRecDepth 20000 in
theorem ggX5_reached_X5_no : GoodIn wsX5_reached wsX5_no := goodIn_r _ [9, 1, 31, 32, 33, 34, 35, 36, 37, 38, 39, 40, 41, 42, 43, 44, 45] (by decide +kernel) (by decide +kernel)
set_option maxRecDepth 20000 in
theorem gX5_reached_X5_no : GoodIn wsX5_reached (wsV RX5 58 RX5 yX5_no wsX5_no) := goodIn_app (goodIn_of _ (by decide +kernel)) ggX5_reached_X5_no
set_option maxRecDepth 20000 in
theorem ggX5_reached_X5_isWorld : GoodIn wsX5_reached wsX5_isWorld := goodIn_r _ [13, 14, 31, 32, 33, 34, 35, 36, 37, 38, 39, 40, 41, 42, 43, 44, 45] (by decide +kernel) (by decide +kernel)
set_option maxRecDepth 20000 in
theorem gX5_reached_X5_isWorld : GoodIn wsX5_reached (wsV RX5 65 RX5 yX5_isWorld wsX5_isWorld) := goodIn_app (goodIn_of _ (by decide +kernel)) ggX5_reached_X5_isWorld
set_option maxRecDepth 20000 in
theorem ggX5_reached_X5_all : GoodIn wsX5_reached wsX5_all := goodIn_r _ [18, 14, 31, 32, 33, 34, 35, 36, 37, 38, 39, 40, 41, 42, 43, 44, 45] (by decide +kernel) (by decide +kernel)
set_option maxRecDepth 20000 in
theorem gX5_reached_X5_all : GoodIn wsX5_reached (wsV RX5 99 RX5 yX5_all wsX5_all) := goodIn_app (goodIn_of _ (by decide +kernel)) ggX5_reached_X5_all
set_option maxRecDepth 20000 in
theorem ggX5_reached_X5_reach : GoodIn wsX5_reached wsX5_reach := goodIn_r _ [22, 23, 24, 25, 4, 26, 14, 27, 28, 29, 30, 31, 32, 33, 34, 35, 36, 37, 38, 39, 40, 41, 42, 43, 44, 45] (by decide +kernel) (by decide +kernel)
set_option maxRecDepth 20000 in
theorem gX5_reached_X5_reach : GoodIn wsX5_reached (wsV RX5 110 RX5 yX5_reach wsX5_reach) := goodIn_app (goodIn_of _ (by decide +kernel)) ggX5_reached_X5_reach
theorem dX5_reached_0 : decode cX5_reached 0 = .ok (.aload_n 0, 1) := by decide +kernel
theorem dX5_reached_1 : decode cX5_reached 1 = .ok (.iconst 0, 1) := by decide +kernel
theorem dX5_reached_2 : decode cX5_reached 2 = .ok (.putfield 44, 3) := by decide +kernel
theorem dX5_reached_5 : decode cX5_reached 5 = .ok (.iload_n 1, 1) := by decide +kernel
theorem dX5_reached_6 : decode cX5_reached 6 = .ok (.invokestatic 93, 3) := by decide +kernel
theorem dX5_reached_9 : decode cX5_reached 9 = .ok (.ifCond .ne 9, 3) := by decide +kernel
theorem dX5_reached_12 : decode cX5_reached 12 = .ok (.aload_n 0, 1) := by decide +kernel
theorem dX5_reached_13 : decode cX5_reached 13 = .ok (.iconst 1, 1) := by decide +kernel
theorem dX5_reached_14 : decode cX5_reached 14 = .ok (.invokevirtual 58, 3) := by decide +kernel
theorem dX5_reached_17 : decode cX5_reached 17 = .ok (.ireturn, 1) := by decide +kernel
theorem dX5_reached_18 : decode cX5_reached 18 = .ok (.aload_n 0, 1) := by decide +kernel
theorem dX5_reached_19 : decode cX5_reached 19 = .ok (.iload_n 2, 1) := by decide +kernel
theorem dX5_reached_20 : decode cX5_reached 20 = .ok (.invokevirtual 65, 3) := by decide +kernel
theorem dX5_reached_23 : decode cX5_reached 23 = .ok (.ifCond .eq 16, 3) := by decide +kernel
theorem dX5_reached_26 : decode cX5_reached 26 = .ok (.aload_n 0, 1) := by decide +kernel
theorem dX5_reached_27 : decode cX5_reached 27 = .ok (.iload_n 1, 1) := by decide +kernel
theorem dX5_reached_28 : decode cX5_reached 28 = .ok (.iload_n 2, 1) := by decide +kernel
theorem dX5_reached_29 : decode cX5_reached 29 = .ok (.aload_n 0, 1) := by decide +kernel
theorem dX5_reached_30 : decode cX5_reached 30 = .ok (.invokevirtual 99, 3) := by decide +kernel
theorem dX5_reached_33 : decode cX5_reached 33 = .ok (.invokevirtual 110, 3) := by decide +kernel
theorem dX5_reached_36 : decode cX5_reached 36 = .ok (.goto 8, 3) := by decide +kernel
theorem dX5_reached_39 : decode cX5_reached 39 = .ok (.aload_n 0, 1) := by decide +kernel
theorem dX5_reached_40 : decode cX5_reached 40 = .ok (.iconst 2, 1) := by decide +kernel
theorem dX5_reached_41 : decode cX5_reached 41 = .ok (.invokevirtual 58, 3) := by decide +kernel
theorem dX5_reached_44 : decode cX5_reached 44 = .ok (.ireturn, 1) := by decide +kernel
set_option maxRecDepth 20000 in
theorem ggX5_likesOf_X5_has : GoodIn wsX5_likesOf wsX5_has := goodIn_r _ [6] (by decide +kernel) (by decide +kernel)
set_option maxRecDepth 20000 in
theorem gX5_likesOf_X5_has : GoodIn wsX5_likesOf (va_wsS RX5 71 yX5_has wsX5_has) := goodIn_app (goodIn_of _ (by decide +kernel)) ggX5_likesOf_X5_has
theorem dX5_likesOf_0 : decode cX5_likesOf 0 = .ok (.iconst 0, 1) := by decide +kernel
theorem dX5_likesOf_1 : decode cX5_likesOf 1 = .ok (.istore_n 2, 1) := by decide +kernel
theorem dX5_likesOf_2 : decode cX5_likesOf 2 = .ok (.iconst 0, 1) := by decide +kernel
theorem dX5_likesOf_3 : decode cX5_likesOf 3 = .ok (.istore_n 3, 1) := by decide +kernel
theorem dX5_likesOf_4 : decode cX5_likesOf 4 = .ok (.iload_n 3, 1) := by decide +kernel
theorem dX5_likesOf_5 : decode cX5_likesOf 5 = .ok (.aload_n 0, 1) := by decide +kernel
theorem dX5_likesOf_6 : decode cX5_likesOf 6 = .ok (.getfield 48, 3) := by decide +kernel
theorem dX5_likesOf_9 : decode cX5_likesOf 9 = .ok (.if_icmp .ge 28, 3) := by decide +kernel
theorem dX5_likesOf_12 : decode cX5_likesOf 12 = .ok (.iload_n 1, 1) := by decide +kernel
theorem dX5_likesOf_13 : decode cX5_likesOf 13 = .ok (.iload_n 3, 1) := by decide +kernel
theorem dX5_likesOf_14 : decode cX5_likesOf 14 = .ok (.invokestatic 71, 3) := by decide +kernel
theorem dX5_likesOf_17 : decode cX5_likesOf 17 = .ok (.ifCond .eq 14, 3) := by decide +kernel
theorem dX5_likesOf_20 : decode cX5_likesOf 20 = .ok (.iload_n 2, 1) := by decide +kernel
theorem dX5_likesOf_21 : decode cX5_likesOf 21 = .ok (.iconst 1, 1) := by decide +kernel
theorem dX5_likesOf_22 : decode cX5_likesOf 22 = .ok (.aload_n 0, 1) := by decide +kernel
theorem dX5_likesOf_23 : decode cX5_likesOf 23 = .ok (.getfield 41, 3) := by decide +kernel
theorem dX5_likesOf_26 : decode cX5_likesOf 26 = .ok (.iload_n 3, 1) := by decide +kernel
theorem dX5_likesOf_27 : decode cX5_likesOf 27 = .ok (.iaload, 1) := by decide +kernel
theorem dX5_likesOf_28 : decode cX5_likesOf 28 = .ok (.ishl, 1) := by decide +kernel
theorem dX5_likesOf_29 : decode cX5_likesOf 29 = .ok (.ior, 1) := by decide +kernel
theorem dX5_likesOf_30 : decode cX5_likesOf 30 = .ok (.istore_n 2, 1) := by decide +kernel
theorem dX5_likesOf_31 : decode cX5_likesOf 31 = .ok (.iinc 3 1, 3) := by decide +kernel
theorem dX5_likesOf_34 : decode cX5_likesOf 34 = .ok (.goto (-30), 3) := by decide +kernel
theorem dX5_likesOf_37 : decode cX5_likesOf 37 = .ok (.iload_n 2, 1) := by decide +kernel
theorem dX5_likesOf_38 : decode cX5_likesOf 38 = .ok (.ireturn, 1) := by decide +kernel
set_option maxRecDepth 20000 in
theorem ggX5_areSame_X5_likesOf : GoodIn wsX5_areSame wsX5_likesOf := goodIn_r _ [8, 9, 1, 10, 11, 7, 12, 13, 14, 15, 16, 17, 18, 19, 20, 21, 22, 23, 24, 25, 26, 27] (by decide +kernel) (by decide +kernel)
set_option maxRecDepth 20000 in
theorem gX5_areSame_X5_likesOf : GoodIn wsX5_areSame (wsV RX5 120 RX5 yX5_likesOf wsX5_likesOf) := goodIn_app (goodIn_of _ (by decide +kernel)) ggX5_areSame_X5_likesOf
theorem dX5_areSame_0 : decode cX5_areSame 0 = .ok (.aload_n 0, 1) := by decide +kernel
theorem dX5_areSame_1 : decode cX5_areSame 1 = .ok (.getfield 41, 3) := by decide +kernel
theorem dX5_areSame_4 : decode cX5_areSame 4 = .ok (.iload_n 1, 1) := by decide +kernel
theorem dX5_areSame_5 : decode cX5_areSame 5 = .ok (.iaload, 1) := by decide +kernel
theorem dX5_areSame_6 : decode cX5_areSame 6 = .ok (.aload_n 0, 1) := by decide +kernel
theorem dX5_areSame_7 : decode cX5_areSame 7 = .ok (.getfield 41, 3) := by decide +kernel
theorem dX5_areSame_10 : decode cX5_areSame 10 = .ok (.iload_n 2, 1) := by decide +kernel
theorem dX5_areSame_11 : decode cX5_areSame 11 = .ok (.iaload, 1) := by decide +kernel
theorem dX5_areSame_12 : decode cX5_areSame 12 = .ok (.if_icmp .ne 22, 3) := by decide +kernel
theorem dX5_areSame_15 : decode cX5_areSame 15 = .ok (.aload_n 0, 1) := by decide +kernel
theorem dX5_areSame_16 : decode cX5_areSame 16 = .ok (.getfield 9, 3) := by decide +kernel
theorem dX5_areSame_19 : decode cX5_areSame 19 = .ok (.iload_n 1, 1) := by decide +kernel
theorem dX5_areSame_20 : decode cX5_areSame 20 = .ok (.iaload, 1) := by decide +kernel
theorem dX5_areSame_21 : decode cX5_areSame 21 = .ok (.aload_n 0, 1) := by decide +kernel
theorem dX5_areSame_22 : decode cX5_areSame 22 = .ok (.getfield 9, 3) := by decide +kernel
theorem dX5_areSame_25 : decode cX5_areSame 25 = .ok (.iload_n 2, 1) := by decide +kernel
theorem dX5_areSame_26 : decode cX5_areSame 26 = .ok (.iaload, 1) := by decide +kernel
theorem dX5_areSame_27 : decode cX5_areSame 27 = .ok (.if_icmp .ne 7, 3) := by decide +kernel
theorem dX5_areSame_30 : decode cX5_areSame 30 = .ok (.iconst 1, 1) := by decide +kernel
theorem dX5_areSame_31 : decode cX5_areSame 31 = .ok (.goto 4, 3) := by decide +kernel
theorem dX5_areSame_34 : decode cX5_areSame 34 = .ok (.iconst 0, 1) := by decide +kernel
theorem dX5_areSame_35 : decode cX5_areSame 35 = .ok (.istore_n 3, 1) := by decide +kernel
theorem dX5_areSame_36 : decode cX5_areSame 36 = .ok (.iconst 0, 1) := by decide +kernel
theorem dX5_areSame_37 : decode cX5_areSame 37 = .ok (.istore 4, 2) := by decide +kernel
theorem dX5_areSame_39 : decode cX5_areSame 39 = .ok (.iload 4, 2) := by decide +kernel
theorem dX5_areSame_41 : decode cX5_areSame 41 = .ok (.iconst 4, 1) := by decide +kernel
theorem dX5_areSame_42 : decode cX5_areSame 42 = .ok (.if_icmp .ge 54, 3) := by decide +kernel
theorem dX5_areSame_45 : decode cX5_areSame 45 = .ok (.iload_n 3, 1) := by decide +kernel
theorem dX5_areSame_46 : decode cX5_areSame 46 = .ok (.ifCond .eq 42, 3) := by decide +kernel
theorem dX5_areSame_49 : decode cX5_areSame 49 = .ok (.aload_n 0, 1) := by decide +kernel
theorem dX5_areSame_50 : decode cX5_areSame 50 = .ok (.aload_n 0, 1) := by decide +kernel
theorem dX5_areSame_51 : decode cX5_areSame 51 = .ok (.getfield 13, 3) := by decide +kernel
theorem dX5_areSame_54 : decode cX5_areSame 54 = .ok (.bipush 24, 2) := by decide +kernel
theorem dX5_areSame_56 : decode cX5_areSame 56 = .ok (.iload 4, 2) := by decide +kernel
theorem dX5_areSame_58 : decode cX5_areSame 58 = .ok (.imul, 1) := by decide +kernel
theorem dX5_areSame_59 : decode cX5_areSame 59 = .ok (.iload_n 1, 1) := by decide +kernel
theorem dX5_areSame_60 : decode cX5_areSame 60 = .ok (.iadd, 1) := by decide +kernel
theorem dX5_areSame_61 : decode cX5_areSame 61 = .ok (.iaload, 1) := by decide +kernel
theorem dX5_areSame_62 : decode cX5_areSame 62 = .ok (.invokevirtual 120, 3) := by decide +kernel
theorem dX5_areSame_65 : decode cX5_areSame 65 = .ok (.aload_n 0, 1) := by decide +kernel
theorem dX5_areSame_66 : decode cX5_areSame 66 = .ok (.aload_n 0, 1) := by decide +kernel
theorem dX5_areSame_67 : decode cX5_areSame 67 = .ok (.getfield 13, 3) := by decide +kernel
theorem dX5_areSame_70 : decode cX5_areSame 70 = .ok (.bipush 24, 2) := by decide +kernel
theorem dX5_areSame_72 : decode cX5_areSame 72 = .ok (.iload 4, 2) := by decide +kernel
theorem dX5_areSame_74 : decode cX5_areSame 74 = .ok (.imul, 1) := by decide +kernel
theorem dX5_areSame_75 : decode cX5_areSame 75 = .ok (.iload_n 2, 1) := by decide +kernel
theorem dX5_areSame_76 : decode cX5_areSame 76 = .ok (.iadd, 1) := by decide +kernel
theorem dX5_areSame_77 : decode cX5_areSame 77 = .ok (.iaload, 1) := by decide +kernel
theorem dX5_areSame_78 : decode cX5_areSame 78 = .ok (.invokevirtual 120, 3) := by decide +kernel
theorem dX5_areSame_81 : decode cX5_areSame 81 = .ok (.if_icmp .ne 7, 3) := by decide +kernel
theorem dX5_areSame_84 : decode cX5_areSame 84 = .ok (.iconst 1, 1) := by decide +kernel
theorem dX5_areSame_85 : decode cX5_areSame 85 = .ok (.goto 4, 3) := by decide +kernel
theorem dX5_areSame_88 : decode cX5_areSame 88 = .ok (.iconst 0, 1) := by decide +kernel
theorem dX5_areSame_89 : decode cX5_areSame 89 = .ok (.istore_n 3, 1) := by decide +kernel
theorem dX5_areSame_90 : decode cX5_areSame 90 = .ok (.iinc 4 1, 3) := by decide +kernel
theorem dX5_areSame_93 : decode cX5_areSame 93 = .ok (.goto (-54), 3) := by decide +kernel
theorem dX5_areSame_96 : decode cX5_areSame 96 = .ok (.iload_n 3, 1) := by decide +kernel
theorem dX5_areSame_97 : decode cX5_areSame 97 = .ok (.ireturn, 1) := by decide +kernel
set_option maxRecDepth 20000 in
theorem ggX5_findLikes_X5_areSame : GoodIn wsX5_findLikes wsX5_areSame := goodIn_r _ [8, 2, 9, 10, 11, 12, 13, 7, 14, 1, 15, 16, 17, 18, 19, 20, 21, 22, 23, 24, 25, 26, 27, 28, 29, 30, 31, 32] (by decide +kernel) (by decide +kernel)
set_option maxRecDepth 20000 in
theorem gX5_findLikes_X5_areSame : GoodIn wsX5_findLikes (wsV RX5 123 RX5 yX5_areSame wsX5_areSame) := goodIn_app (goodIn_of _ (by decide +kernel)) ggX5_findLikes_X5_areSame
theorem dX5_findLikes_0 : decode cX5_findLikes 0 = .ok (.iconst 0, 1) := by decide +kernel
theorem dX5_findLikes_1 : decode cX5_findLikes 1 = .ok (.istore_n 1, 1) := by decide +kernel
theorem dX5_findLikes_2 : decode cX5_findLikes 2 = .ok (.iload_n 1, 1) := by decide +kernel
theorem dX5_findLikes_3 : decode cX5_findLikes 3 = .ok (.aload_n 0, 1) := by decide +kernel
theorem dX5_findLikes_4 : decode cX5_findLikes 4 = .ok (.getfield 48, 3) := by decide +kernel
theorem dX5_findLikes_7 : decode cX5_findLikes 7 = .ok (.if_icmp .ge 16, 3) := by decide +kernel
theorem dX5_findLikes_10 : decode cX5_findLikes 10 = .ok (.aload_n 0, 1) := by decide +kernel
theorem dX5_findLikes_11 : decode cX5_findLikes 11 = .ok (.getfield 41, 3) := by decide +kernel
theorem dX5_findLikes_14 : decode cX5_findLikes 14 = .ok (.iload_n 1, 1) := by decide +kernel
theorem dX5_findLikes_15 : decode cX5_findLikes 15 = .ok (.iconst 0, 1) := by decide +kernel
theorem dX5_findLikes_16 : decode cX5_findLikes 16 = .ok (.iastore, 1) := by decide +kernel
theorem dX5_findLikes_17 : decode cX5_findLikes 17 = .ok (.iinc 1 1, 3) := by decide +kernel
theorem dX5_findLikes_20 : decode cX5_findLikes 20 = .ok (.goto (-18), 3) := by decide +kernel
theorem dX5_findLikes_23 : decode cX5_findLikes 23 = .ok (.iconst 1, 1) := by decide +kernel
theorem dX5_findLikes_24 : decode cX5_findLikes 24 = .ok (.istore_n 1, 1) := by decide +kernel
theorem dX5_findLikes_25 : decode cX5_findLikes 25 = .ok (.bipush 24, 2) := by decide +kernel
theorem dX5_findLikes_27 : decode cX5_findLikes 27 = .ok (.newarray .int, 2) := by decide +kernel
theorem dX5_findLikes_29 : decode cX5_findLikes 29 = .ok (.astore_n 2, 1) := by decide +kernel
theorem dX5_findLikes_30 : decode cX5_findLikes 30 = .ok (.iload_n 1, 1) := by decide +kernel
theorem dX5_findLikes_31 : decode cX5_findLikes 31 = .ok (.ifCond .eq 108, 3) := by decide +kernel
theorem dX5_findLikes_34 : decode cX5_findLikes 34 = .ok (.iconst 0, 1) := by decide +kernel
theorem dX5_findLikes_35 : decode cX5_findLikes 35 = .ok (.istore_n 1, 1) := by decide +kernel
theorem dX5_findLikes_36 : decode cX5_findLikes 36 = .ok (.iconst 0, 1) := by decide +kernel
theorem dX5_findLikes_37 : decode cX5_findLikes 37 = .ok (.istore_n 3, 1) := by decide +kernel
theorem dX5_findLikes_38 : decode cX5_findLikes 38 = .ok (.iload_n 3, 1) := by decide +kernel
theorem dX5_findLikes_39 : decode cX5_findLikes 39 = .ok (.aload_n 0, 1) := by decide +kernel
theorem dX5_findLikes_40 : decode cX5_findLikes 40 = .ok (.getfield 48, 3) := by decide +kernel
theorem dX5_findLikes_43 : decode cX5_findLikes 43 = .ok (.if_icmp .ge 46, 3) := by decide +kernel
theorem dX5_findLikes_46 : decode cX5_findLikes 46 = .ok (.aload_n 2, 1) := by decide +kernel
theorem dX5_findLikes_47 : decode cX5_findLikes 47 = .ok (.iload_n 3, 1) := by decide +kernel
theorem dX5_findLikes_48 : decode cX5_findLikes 48 = .ok (.iload_n 3, 1) := by decide +kernel
theorem dX5_findLikes_49 : decode cX5_findLikes 49 = .ok (.iastore, 1) := by decide +kernel
theorem dX5_findLikes_50 : decode cX5_findLikes 50 = .ok (.iload_n 3, 1) := by decide +kernel
theorem dX5_findLikes_51 : decode cX5_findLikes 51 = .ok (.iconst 1, 1) := by decide +kernel
theorem dX5_findLikes_52 : decode cX5_findLikes 52 = .ok (.isub, 1) := by decide +kernel
theorem dX5_findLikes_53 : decode cX5_findLikes 53 = .ok (.istore 4, 2) := by decide +kernel
theorem dX5_findLikes_55 : decode cX5_findLikes 55 = .ok (.iload 4, 2) := by decide +kernel
theorem dX5_findLikes_57 : decode cX5_findLikes 57 = .ok (.ifCond .lt 26, 3) := by decide +kernel
theorem dX5_findLikes_60 : decode cX5_findLikes 60 = .ok (.aload_n 0, 1) := by decide +kernel
theorem dX5_findLikes_61 : decode cX5_findLikes 61 = .ok (.iload 4, 2) := by decide +kernel
theorem dX5_findLikes_63 : decode cX5_findLikes 63 = .ok (.iload_n 3, 1) := by decide +kernel
theorem dX5_findLikes_64 : decode cX5_findLikes 64 = .ok (.invokevirtual 123, 3) := by decide +kernel
theorem dX5_findLikes_67 : decode cX5_findLikes 67 = .ok (.ifCond .eq 10, 3) := by decide +kernel
theorem dX5_findLikes_70 : decode cX5_findLikes 70 = .ok (.aload_n 2, 1) := by decide +kernel
theorem dX5_findLikes_71 : decode cX5_findLikes 71 = .ok (.iload_n 3, 1) := by decide +kernel
theorem dX5_findLikes_72 : decode cX5_findLikes 72 = .ok (.aload_n 2, 1) := by decide +kernel
theorem dX5_findLikes_73 : decode cX5_findLikes 73 = .ok (.iload 4, 2) := by decide +kernel
theorem dX5_findLikes_75 : decode cX5_findLikes 75 = .ok (.iaload, 1) := by decide +kernel
theorem dX5_findLikes_76 : decode cX5_findLikes 76 = .ok (.iastore, 1) := by decide +kernel
theorem dX5_findLikes_77 : decode cX5_findLikes 77 = .ok (.iinc 4 (-1), 3) := by decide +kernel
theorem dX5_findLikes_80 : decode cX5_findLikes 80 = .ok (.goto (-25), 3) := by decide +kernel
theorem dX5_findLikes_83 : decode cX5_findLikes 83 = .ok (.iinc 3 1, 3) := by decide +kernel
theorem dX5_findLikes_86 : decode cX5_findLikes 86 = .ok (.goto (-48), 3) := by decide +kernel
theorem dX5_findLikes_89 : decode cX5_findLikes 89 = .ok (.iconst 0, 1) := by decide +kernel
theorem dX5_findLikes_90 : decode cX5_findLikes 90 = .ok (.istore_n 3, 1) := by decide +kernel
theorem dX5_findLikes_91 : decode cX5_findLikes 91 = .ok (.iload_n 3, 1) := by decide +kernel
theorem dX5_findLikes_92 : decode cX5_findLikes 92 = .ok (.aload_n 0, 1) := by decide +kernel
theorem dX5_findLikes_93 : decode cX5_findLikes 93 = .ok (.getfield 48, 3) := by decide +kernel
theorem dX5_findLikes_96 : decode cX5_findLikes 96 = .ok (.if_icmp .ge 40, 3) := by decide +kernel
theorem dX5_findLikes_99 : decode cX5_findLikes 99 = .ok (.iload_n 1, 1) := by decide +kernel
theorem dX5_findLikes_100 : decode cX5_findLikes 100 = .ok (.ifCond .ne 15, 3) := by decide +kernel
theorem dX5_findLikes_103 : decode cX5_findLikes 103 = .ok (.aload_n 0, 1) := by decide +kernel
theorem dX5_findLikes_104 : decode cX5_findLikes 104 = .ok (.getfield 41, 3) := by decide +kernel
theorem dX5_findLikes_107 : decode cX5_findLikes 107 = .ok (.iload_n 3, 1) := by decide +kernel
theorem dX5_findLikes_108 : decode cX5_findLikes 108 = .ok (.iaload, 1) := by decide +kernel
theorem dX5_findLikes_109 : decode cX5_findLikes 109 = .ok (.aload_n 2, 1) := by decide +kernel
theorem dX5_findLikes_110 : decode cX5_findLikes 110 = .ok (.iload_n 3, 1) := by decide +kernel
theorem dX5_findLikes_111 : decode cX5_findLikes 111 = .ok (.iaload, 1) := by decide +kernel
theorem dX5_findLikes_112 : decode cX5_findLikes 112 = .ok (.if_icmp .eq 7, 3) := by decide +kernel
theorem dX5_findLikes_115 : decode cX5_findLikes 115 = .ok (.iconst 1, 1) := by decide +kernel
theorem dX5_findLikes_116 : decode cX5_findLikes 116 = .ok (.goto 4, 3) := by decide +kernel
theorem dX5_findLikes_119 : decode cX5_findLikes 119 = .ok (.iconst 0, 1) := by decide +kernel
theorem dX5_findLikes_120 : decode cX5_findLikes 120 = .ok (.istore_n 1, 1) := by decide +kernel
theorem dX5_findLikes_121 : decode cX5_findLikes 121 = .ok (.aload_n 0, 1) := by decide +kernel
theorem dX5_findLikes_122 : decode cX5_findLikes 122 = .ok (.getfield 41, 3) := by decide +kernel
theorem dX5_findLikes_125 : decode cX5_findLikes 125 = .ok (.iload_n 3, 1) := by decide +kernel
theorem dX5_findLikes_126 : decode cX5_findLikes 126 = .ok (.aload_n 2, 1) := by decide +kernel
theorem dX5_findLikes_127 : decode cX5_findLikes 127 = .ok (.iload_n 3, 1) := by decide +kernel
theorem dX5_findLikes_128 : decode cX5_findLikes 128 = .ok (.iaload, 1) := by decide +kernel
theorem dX5_findLikes_129 : decode cX5_findLikes 129 = .ok (.iastore, 1) := by decide +kernel
theorem dX5_findLikes_130 : decode cX5_findLikes 130 = .ok (.iinc 3 1, 3) := by decide +kernel
theorem dX5_findLikes_133 : decode cX5_findLikes 133 = .ok (.goto (-42), 3) := by decide +kernel
theorem dX5_findLikes_136 : decode cX5_findLikes 136 = .ok (.goto (-106), 3) := by decide +kernel
theorem dX5_findLikes_139 : decode cX5_findLikes 139 = .ok (.return_, 1) := by decide +kernel
set_option maxRecDepth 20000 in
theorem ggX5_areAlike_X5_isWorld : GoodIn wsX5_areAlike wsX5_isWorld := goodIn_r _ [7, 8, 27, 28, 29, 30, 31, 32, 33, 34, 35, 36, 37, 38, 39, 40, 41] (by decide +kernel) (by decide +kernel)
set_option maxRecDepth 20000 in
theorem gX5_areAlike_X5_isWorld : GoodIn wsX5_areAlike (wsV RX5 65 RX5 yX5_isWorld wsX5_isWorld) := goodIn_app (goodIn_of _ (by decide +kernel)) ggX5_areAlike_X5_isWorld
set_option maxRecDepth 20000 in
theorem ggX5_areAlike_X5_findLikes : GoodIn wsX5_areAlike wsX5_findLikes := goodIn_r _ [12, 8, 2, 13, 14, 15, 16, 6, 17, 18, 19, 20, 21, 22, 23, 24, 25, 26, 27, 28, 29, 30, 31, 32, 33, 34, 35, 36, 37, 38, 39, 40, 41] (by decide +kernel) (by decide +kernel)
set_option maxRecDepth 20000 in
theorem gX5_areAlike_X5_findLikes : GoodIn wsX5_areAlike (wsV RX5 126 RX5 yX5_findLikes wsX5_findLikes) := goodIn_app (goodIn_of _ (by decide +kernel)) ggX5_areAlike_X5_findLikes
theorem dX5_areAlike_0 : decode cX5_areAlike 0 = .ok (.aload_n 0, 1) := by decide +kernel
theorem dX5_areAlike_1 : decode cX5_areAlike 1 = .ok (.aload_n 0, 1) := by decide +kernel
theorem dX5_areAlike_2 : decode cX5_areAlike 2 = .ok (.iload_n 1, 1) := by decide +kernel
theorem dX5_areAlike_3 : decode cX5_areAlike 3 = .ok (.invokevirtual 65, 3) := by decide +kernel
theorem dX5_areAlike_6 : decode cX5_areAlike 6 = .ok (.ifCond .eq 15, 3) := by decide +kernel
theorem dX5_areAlike_9 : decode cX5_areAlike 9 = .ok (.aload_n 0, 1) := by decide +kernel
theorem dX5_areAlike_10 : decode cX5_areAlike 10 = .ok (.iload_n 2, 1) := by decide +kernel
theorem dX5_areAlike_11 : decode cX5_areAlike 11 = .ok (.invokevirtual 65, 3) := by decide +kernel
theorem dX5_areAlike_14 : decode cX5_areAlike 14 = .ok (.ifCond .eq 7, 3) := by decide +kernel
theorem dX5_areAlike_17 : decode cX5_areAlike 17 = .ok (.iconst 0, 1) := by decide +kernel
theorem dX5_areAlike_18 : decode cX5_areAlike 18 = .ok (.goto 4, 3) := by decide +kernel
theorem dX5_areAlike_21 : decode cX5_areAlike 21 = .ok (.iconst 1, 1) := by decide +kernel
theorem dX5_areAlike_22 : decode cX5_areAlike 22 = .ok (.putfield 44, 3) := by decide +kernel
theorem dX5_areAlike_25 : decode cX5_areAlike 25 = .ok (.aload_n 0, 1) := by decide +kernel
theorem dX5_areAlike_26 : decode cX5_areAlike 26 = .ok (.getfield 44, 3) := by decide +kernel
theorem dX5_areAlike_29 : decode cX5_areAlike 29 = .ok (.ifCond .eq 5, 3) := by decide +kernel
theorem dX5_areAlike_32 : decode cX5_areAlike 32 = .ok (.iconst 0, 1) := by decide +kernel
theorem dX5_areAlike_33 : decode cX5_areAlike 33 = .ok (.ireturn, 1) := by decide +kernel
theorem dX5_areAlike_34 : decode cX5_areAlike 34 = .ok (.aload_n 0, 1) := by decide +kernel
theorem dX5_areAlike_35 : decode cX5_areAlike 35 = .ok (.invokevirtual 126, 3) := by decide +kernel
theorem dX5_areAlike_38 : decode cX5_areAlike 38 = .ok (.aload_n 0, 1) := by decide +kernel
theorem dX5_areAlike_39 : decode cX5_areAlike 39 = .ok (.getfield 41, 3) := by decide +kernel
theorem dX5_areAlike_42 : decode cX5_areAlike 42 = .ok (.iload_n 1, 1) := by decide +kernel
theorem dX5_areAlike_43 : decode cX5_areAlike 43 = .ok (.iaload, 1) := by decide +kernel
theorem dX5_areAlike_44 : decode cX5_areAlike 44 = .ok (.aload_n 0, 1) := by decide +kernel
theorem dX5_areAlike_45 : decode cX5_areAlike 45 = .ok (.getfield 41, 3) := by decide +kernel
theorem dX5_areAlike_48 : decode cX5_areAlike 48 = .ok (.iload_n 2, 1) := by decide +kernel
theorem dX5_areAlike_49 : decode cX5_areAlike 49 = .ok (.iaload, 1) := by decide +kernel
theorem dX5_areAlike_50 : decode cX5_areAlike 50 = .ok (.if_icmp .ne 7, 3) := by decide +kernel
theorem dX5_areAlike_53 : decode cX5_areAlike 53 = .ok (.iconst 1, 1) := by decide +kernel
theorem dX5_areAlike_54 : decode cX5_areAlike 54 = .ok (.goto 4, 3) := by decide +kernel
theorem dX5_areAlike_57 : decode cX5_areAlike 57 = .ok (.iconst 0, 1) := by decide +kernel
theorem dX5_areAlike_58 : decode cX5_areAlike 58 = .ok (.ireturn, 1) := by decide +kernel
set_option maxRecDepth 20000 in
theorem ggX5_keep_X5_has : GoodIn wsX5_keep wsX5_has := goodIn_r _ [9] (by decide +kernel) (by decide +kernel)
set_option maxRecDepth 20000 in
theorem gX5_keep_X5_has : GoodIn wsX5_keep (va_wsS RX5 71 yX5_has wsX5_has) := goodIn_app (goodIn_of _ (by decide +kernel)) ggX5_keep_X5_has
theorem dX5_keep_0 : decode cX5_keep 0 = .ok (.bipush 24, 2) := by decide +kernel
theorem dX5_keep_2 : decode cX5_keep 2 = .ok (.newarray .int, 2) := by decide +kernel
theorem dX5_keep_4 : decode cX5_keep 4 = .ok (.astore_n 2, 1) := by decide +kernel
theorem dX5_keep_5 : decode cX5_keep 5 = .ok (.iconst 0, 1) := by decide +kernel
theorem dX5_keep_6 : decode cX5_keep 6 = .ok (.istore_n 3, 1) := by decide +kernel
theorem dX5_keep_7 : decode cX5_keep 7 = .ok (.iconst 0, 1) := by decide +kernel
theorem dX5_keep_8 : decode cX5_keep 8 = .ok (.istore 4, 2) := by decide +kernel
theorem dX5_keep_10 : decode cX5_keep 10 = .ok (.iload 4, 2) := by decide +kernel
theorem dX5_keep_12 : decode cX5_keep 12 = .ok (.aload_n 0, 1) := by decide +kernel
theorem dX5_keep_13 : decode cX5_keep 13 = .ok (.getfield 48, 3) := by decide +kernel
theorem dX5_keep_16 : decode cX5_keep 16 = .ok (.if_icmp .ge 31, 3) := by decide +kernel
theorem dX5_keep_19 : decode cX5_keep 19 = .ok (.aload_n 2, 1) := by decide +kernel
theorem dX5_keep_20 : decode cX5_keep 20 = .ok (.iload 4, 2) := by decide +kernel
theorem dX5_keep_22 : decode cX5_keep 22 = .ok (.iload_n 3, 1) := by decide +kernel
theorem dX5_keep_23 : decode cX5_keep 23 = .ok (.iastore, 1) := by decide +kernel
theorem dX5_keep_24 : decode cX5_keep 24 = .ok (.iload_n 3, 1) := by decide +kernel
theorem dX5_keep_25 : decode cX5_keep 25 = .ok (.iload_n 1, 1) := by decide +kernel
theorem dX5_keep_26 : decode cX5_keep 26 = .ok (.iload 4, 2) := by decide +kernel
theorem dX5_keep_28 : decode cX5_keep 28 = .ok (.invokestatic 71, 3) := by decide +kernel
theorem dX5_keep_31 : decode cX5_keep 31 = .ok (.ifCond .eq 7, 3) := by decide +kernel
theorem dX5_keep_34 : decode cX5_keep 34 = .ok (.iconst 1, 1) := by decide +kernel
theorem dX5_keep_35 : decode cX5_keep 35 = .ok (.goto 4, 3) := by decide +kernel
theorem dX5_keep_38 : decode cX5_keep 38 = .ok (.iconst 0, 1) := by decide +kernel
theorem dX5_keep_39 : decode cX5_keep 39 = .ok (.iadd, 1) := by decide +kernel
theorem dX5_keep_40 : decode cX5_keep 40 = .ok (.istore_n 3, 1) := by decide +kernel
theorem dX5_keep_41 : decode cX5_keep 41 = .ok (.iinc 4 1, 3) := by decide +kernel
theorem dX5_keep_44 : decode cX5_keep 44 = .ok (.goto (-34), 3) := by decide +kernel
theorem dX5_keep_47 : decode cX5_keep 47 = .ok (.iconst 0, 1) := by decide +kernel
theorem dX5_keep_48 : decode cX5_keep 48 = .ok (.istore 4, 2) := by decide +kernel
theorem dX5_keep_50 : decode cX5_keep 50 = .ok (.iload 4, 2) := by decide +kernel
theorem dX5_keep_52 : decode cX5_keep 52 = .ok (.aload_n 0, 1) := by decide +kernel
theorem dX5_keep_53 : decode cX5_keep 53 = .ok (.getfield 48, 3) := by decide +kernel
theorem dX5_keep_56 : decode cX5_keep 56 = .ok (.if_icmp .ge 124, 3) := by decide +kernel
theorem dX5_keep_59 : decode cX5_keep 59 = .ok (.iload_n 1, 1) := by decide +kernel
theorem dX5_keep_60 : decode cX5_keep 60 = .ok (.iload 4, 2) := by decide +kernel
theorem dX5_keep_62 : decode cX5_keep 62 = .ok (.invokestatic 71, 3) := by decide +kernel
theorem dX5_keep_65 : decode cX5_keep 65 = .ok (.ifCond .ne 6, 3) := by decide +kernel
theorem dX5_keep_68 : decode cX5_keep 68 = .ok (.goto 106, 3) := by decide +kernel
theorem dX5_keep_71 : decode cX5_keep 71 = .ok (.aload_n 0, 1) := by decide +kernel
theorem dX5_keep_72 : decode cX5_keep 72 = .ok (.getfield 9, 3) := by decide +kernel
theorem dX5_keep_75 : decode cX5_keep 75 = .ok (.aload_n 2, 1) := by decide +kernel
theorem dX5_keep_76 : decode cX5_keep 76 = .ok (.iload 4, 2) := by decide +kernel
theorem dX5_keep_78 : decode cX5_keep 78 = .ok (.iaload, 1) := by decide +kernel
theorem dX5_keep_79 : decode cX5_keep 79 = .ok (.aload_n 0, 1) := by decide +kernel
theorem dX5_keep_80 : decode cX5_keep 80 = .ok (.getfield 9, 3) := by decide +kernel
theorem dX5_keep_83 : decode cX5_keep 83 = .ok (.iload 4, 2) := by decide +kernel
theorem dX5_keep_85 : decode cX5_keep 85 = .ok (.iaload, 1) := by decide +kernel
theorem dX5_keep_86 : decode cX5_keep 86 = .ok (.iastore, 1) := by decide +kernel
theorem dX5_keep_87 : decode cX5_keep 87 = .ok (.iconst 0, 1) := by decide +kernel
theorem dX5_keep_88 : decode cX5_keep 88 = .ok (.istore 5, 2) := by decide +kernel
theorem dX5_keep_90 : decode cX5_keep 90 = .ok (.iload 5, 2) := by decide +kernel
theorem dX5_keep_92 : decode cX5_keep 92 = .ok (.iconst 4, 1) := by decide +kernel
theorem dX5_keep_93 : decode cX5_keep 93 = .ok (.if_icmp .ge 81, 3) := by decide +kernel
theorem dX5_keep_96 : decode cX5_keep 96 = .ok (.iconst 0, 1) := by decide +kernel
theorem dX5_keep_97 : decode cX5_keep 97 = .ok (.istore 6, 2) := by decide +kernel
theorem dX5_keep_99 : decode cX5_keep 99 = .ok (.iconst 0, 1) := by decide +kernel
theorem dX5_keep_100 : decode cX5_keep 100 = .ok (.istore 7, 2) := by decide +kernel
theorem dX5_keep_102 : decode cX5_keep 102 = .ok (.iload 7, 2) := by decide +kernel
theorem dX5_keep_104 : decode cX5_keep 104 = .ok (.aload_n 0, 1) := by decide +kernel
theorem dX5_keep_105 : decode cX5_keep 105 = .ok (.getfield 48, 3) := by decide +kernel
theorem dX5_keep_108 : decode cX5_keep 108 = .ok (.if_icmp .ge 43, 3) := by decide +kernel
theorem dX5_keep_111 : decode cX5_keep 111 = .ok (.aload_n 0, 1) := by decide +kernel
theorem dX5_keep_112 : decode cX5_keep 112 = .ok (.getfield 13, 3) := by decide +kernel
theorem dX5_keep_115 : decode cX5_keep 115 = .ok (.bipush 24, 2) := by decide +kernel
theorem dX5_keep_117 : decode cX5_keep 117 = .ok (.iload 5, 2) := by decide +kernel
theorem dX5_keep_119 : decode cX5_keep 119 = .ok (.imul, 1) := by decide +kernel
theorem dX5_keep_120 : decode cX5_keep 120 = .ok (.iload 4, 2) := by decide +kernel
theorem dX5_keep_122 : decode cX5_keep 122 = .ok (.iadd, 1) := by decide +kernel
theorem dX5_keep_123 : decode cX5_keep 123 = .ok (.iaload, 1) := by decide +kernel
theorem dX5_keep_124 : decode cX5_keep 124 = .ok (.iload_n 1, 1) := by decide +kernel
theorem dX5_keep_125 : decode cX5_keep 125 = .ok (.iand, 1) := by decide +kernel
theorem dX5_keep_126 : decode cX5_keep 126 = .ok (.iload 7, 2) := by decide +kernel
theorem dX5_keep_128 : decode cX5_keep 128 = .ok (.invokestatic 71, 3) := by decide +kernel
theorem dX5_keep_131 : decode cX5_keep 131 = .ok (.ifCond .eq 14, 3) := by decide +kernel
theorem dX5_keep_134 : decode cX5_keep 134 = .ok (.iload 6, 2) := by decide +kernel
theorem dX5_keep_136 : decode cX5_keep 136 = .ok (.iconst 1, 1) := by decide +kernel
theorem dX5_keep_137 : decode cX5_keep 137 = .ok (.aload_n 2, 1) := by decide +kernel
theorem dX5_keep_138 : decode cX5_keep 138 = .ok (.iload 7, 2) := by decide +kernel
theorem dX5_keep_140 : decode cX5_keep 140 = .ok (.iaload, 1) := by decide +kernel
theorem dX5_keep_141 : decode cX5_keep 141 = .ok (.ishl, 1) := by decide +kernel
theorem dX5_keep_142 : decode cX5_keep 142 = .ok (.ior, 1) := by decide +kernel
theorem dX5_keep_143 : decode cX5_keep 143 = .ok (.istore 6, 2) := by decide +kernel
theorem dX5_keep_145 : decode cX5_keep 145 = .ok (.iinc 7 1, 3) := by decide +kernel
theorem dX5_keep_148 : decode cX5_keep 148 = .ok (.goto (-46), 3) := by decide +kernel
theorem dX5_keep_151 : decode cX5_keep 151 = .ok (.aload_n 0, 1) := by decide +kernel
theorem dX5_keep_152 : decode cX5_keep 152 = .ok (.getfield 13, 3) := by decide +kernel
theorem dX5_keep_155 : decode cX5_keep 155 = .ok (.bipush 24, 2) := by decide +kernel
theorem dX5_keep_157 : decode cX5_keep 157 = .ok (.iload 5, 2) := by decide +kernel
theorem dX5_keep_159 : decode cX5_keep 159 = .ok (.imul, 1) := by decide +kernel
theorem dX5_keep_160 : decode cX5_keep 160 = .ok (.aload_n 2, 1) := by decide +kernel
theorem dX5_keep_161 : decode cX5_keep 161 = .ok (.iload 4, 2) := by decide +kernel
theorem dX5_keep_163 : decode cX5_keep 163 = .ok (.iaload, 1) := by decide +kernel
theorem dX5_keep_164 : decode cX5_keep 164 = .ok (.iadd, 1) := by decide +kernel
theorem dX5_keep_165 : decode cX5_keep 165 = .ok (.iload 6, 2) := by decide +kernel
theorem dX5_keep_167 : decode cX5_keep 167 = .ok (.iastore, 1) := by decide +kernel
theorem dX5_keep_168 : decode cX5_keep 168 = .ok (.iinc 5 1, 3) := by decide +kernel
theorem dX5_keep_171 : decode cX5_keep 171 = .ok (.goto (-81), 3) := by decide +kernel
theorem dX5_keep_174 : decode cX5_keep 174 = .ok (.iinc 4 1, 3) := by decide +kernel
theorem dX5_keep_177 : decode cX5_keep 177 = .ok (.goto (-127), 3) := by decide +kernel
theorem dX5_keep_180 : decode cX5_keep 180 = .ok (.aload_n 0, 1) := by decide +kernel
theorem dX5_keep_181 : decode cX5_keep 181 = .ok (.getfield 48, 3) := by decide +kernel
theorem dX5_keep_184 : decode cX5_keep 184 = .ok (.iload_n 3, 1) := by decide +kernel
theorem dX5_keep_185 : decode cX5_keep 185 = .ok (.isub, 1) := by decide +kernel
theorem dX5_keep_186 : decode cX5_keep 186 = .ok (.istore 4, 2) := by decide +kernel
theorem dX5_keep_188 : decode cX5_keep 188 = .ok (.aload_n 0, 1) := by decide +kernel
theorem dX5_keep_189 : decode cX5_keep 189 = .ok (.getfield 48, 3) := by decide +kernel
theorem dX5_keep_192 : decode cX5_keep 192 = .ok (.ifCond .le 13, 3) := by decide +kernel
theorem dX5_keep_195 : decode cX5_keep 195 = .ok (.aload_n 0, 1) := by decide +kernel
theorem dX5_keep_196 : decode cX5_keep 196 = .ok (.aload_n 2, 1) := by decide +kernel
theorem dX5_keep_197 : decode cX5_keep 197 = .ok (.aload_n 0, 1) := by decide +kernel
theorem dX5_keep_198 : decode cX5_keep 198 = .ok (.getfield 62, 3) := by decide +kernel
theorem dX5_keep_201 : decode cX5_keep 201 = .ok (.iaload, 1) := by decide +kernel
theorem dX5_keep_202 : decode cX5_keep 202 = .ok (.putfield 62, 3) := by decide +kernel
theorem dX5_keep_205 : decode cX5_keep 205 = .ok (.aload_n 0, 1) := by decide +kernel
theorem dX5_keep_206 : decode cX5_keep 206 = .ok (.iload_n 3, 1) := by decide +kernel
theorem dX5_keep_207 : decode cX5_keep 207 = .ok (.putfield 48, 3) := by decide +kernel
theorem dX5_keep_210 : decode cX5_keep 210 = .ok (.iload 4, 2) := by decide +kernel
theorem dX5_keep_212 : decode cX5_keep 212 = .ok (.ireturn, 1) := by decide +kernel
set_option maxRecDepth 20000 in
theorem ggX5_announce_X5_isFormula : GoodIn wsX5_announce wsX5_isFormula := goodIn_r _ [8, 9, 58, 59, 60, 61, 62, 63, 64, 65, 66, 67, 68, 69, 70, 71, 72] (by decide +kernel) (by decide +kernel)
set_option maxRecDepth 20000 in
theorem gX5_announce_X5_isFormula : GoodIn wsX5_announce (wsV RX5 84 RX5 yX5_isFormula wsX5_isFormula) := goodIn_app (goodIn_of _ (by decide +kernel)) ggX5_announce_X5_isFormula
set_option maxRecDepth 20000 in
theorem ggX5_announce_X5_no : GoodIn wsX5_announce wsX5_no := goodIn_r _ [13, 1, 58, 59, 60, 61, 62, 63, 64, 65, 66, 67, 68, 69, 70, 71, 72] (by decide +kernel) (by decide +kernel)
set_option maxRecDepth 20000 in
theorem gX5_announce_X5_no : GoodIn wsX5_announce (wsV RX5 58 RX5 yX5_no wsX5_no) := goodIn_app (goodIn_of _ (by decide +kernel)) ggX5_announce_X5_no
set_option maxRecDepth 20000 in
theorem ggX5_announce_X5_trueAt : GoodIn wsX5_announce wsX5_trueAt := goodIn_r _ [17, 18, 19, 20, 7, 21, 2, 22, 23, 24, 25, 26, 9, 27, 28, 29, 30, 31, 32, 33, 34, 35, 36, 37, 38, 39, 40, 41, 42, 43, 44, 45, 46, 47, 48, 49, 50, 51, 52, 58, 59, 60, 61, 62, 63, 64, 65, 66, 67, 68, 69, 70, 71, 72] (by decide +kernel) (by decide +kernel)
set_option maxRecDepth 20000 in
theorem gX5_announce_X5_trueAt : GoodIn wsX5_announce (wsV RX5 117 RX5 yX5_trueAt wsX5_trueAt) := goodIn_app (goodIn_of _ (by decide +kernel)) ggX5_announce_X5_trueAt
set_option maxRecDepth 20000 in
theorem ggX5_announce_X5_has : GoodIn wsX5_announce wsX5_has := goodIn_r _ [40] (by decide +kernel) (by decide +kernel)
set_option maxRecDepth 20000 in
theorem gX5_announce_X5_has : GoodIn wsX5_announce (va_wsS RX5 71 yX5_has wsX5_has) := goodIn_app (goodIn_of _ (by decide +kernel)) ggX5_announce_X5_has
set_option maxRecDepth 20000 in
theorem ggX5_announce_X5_keep : GoodIn wsX5_announce wsX5_keep := goodIn_r _ [56, 57, 2, 37, 36, 3, 38, 39, 7, 40, 58, 59, 60, 61, 62, 63, 64, 65, 66, 67, 68, 69, 70, 71, 72] (by decide +kernel) (by decide +kernel)
set_option maxRecDepth 20000 in
theorem gX5_announce_X5_keep : GoodIn wsX5_announce (wsV RX5 129 RX5 yX5_keep wsX5_keep) := goodIn_app (goodIn_of _ (by decide +kernel)) ggX5_announce_X5_keep
theorem dX5_announce_0 : decode cX5_announce 0 = .ok (.aload_n 0, 1) := by decide +kernel
theorem dX5_announce_1 : decode cX5_announce 1 = .ok (.iconst 0, 1) := by decide +kernel
theorem dX5_announce_2 : decode cX5_announce 2 = .ok (.putfield 44, 3) := by decide +kernel
theorem dX5_announce_5 : decode cX5_announce 5 = .ok (.aload_n 0, 1) := by decide +kernel
theorem dX5_announce_6 : decode cX5_announce 6 = .ok (.iload_n 1, 1) := by decide +kernel
theorem dX5_announce_7 : decode cX5_announce 7 = .ok (.invokevirtual 84, 3) := by decide +kernel
theorem dX5_announce_10 : decode cX5_announce 10 = .ok (.ifCond .ne 9, 3) := by decide +kernel
theorem dX5_announce_13 : decode cX5_announce 13 = .ok (.aload_n 0, 1) := by decide +kernel
theorem dX5_announce_14 : decode cX5_announce 14 = .ok (.iconst 1, 1) := by decide +kernel
theorem dX5_announce_15 : decode cX5_announce 15 = .ok (.invokevirtual 58, 3) := by decide +kernel
theorem dX5_announce_18 : decode cX5_announce 18 = .ok (.ireturn, 1) := by decide +kernel
theorem dX5_announce_19 : decode cX5_announce 19 = .ok (.aload_n 0, 1) := by decide +kernel
theorem dX5_announce_20 : decode cX5_announce 20 = .ok (.iload_n 1, 1) := by decide +kernel
theorem dX5_announce_21 : decode cX5_announce 21 = .ok (.invokevirtual 117, 3) := by decide +kernel
theorem dX5_announce_24 : decode cX5_announce 24 = .ok (.istore_n 2, 1) := by decide +kernel
theorem dX5_announce_25 : decode cX5_announce 25 = .ok (.aload_n 0, 1) := by decide +kernel
theorem dX5_announce_26 : decode cX5_announce 26 = .ok (.getfield 48, 3) := by decide +kernel
theorem dX5_announce_29 : decode cX5_announce 29 = .ok (.ifCond .eq 14, 3) := by decide +kernel
theorem dX5_announce_32 : decode cX5_announce 32 = .ok (.iload_n 2, 1) := by decide +kernel
theorem dX5_announce_33 : decode cX5_announce 33 = .ok (.aload_n 0, 1) := by decide +kernel
theorem dX5_announce_34 : decode cX5_announce 34 = .ok (.getfield 62, 3) := by decide +kernel
theorem dX5_announce_37 : decode cX5_announce 37 = .ok (.invokestatic 71, 3) := by decide +kernel
theorem dX5_announce_40 : decode cX5_announce 40 = .ok (.ifCond .ne 11, 3) := by decide +kernel
theorem dX5_announce_43 : decode cX5_announce 43 = .ok (.aload_n 0, 1) := by decide +kernel
theorem dX5_announce_44 : decode cX5_announce 44 = .ok (.iconst 2, 1) := by decide +kernel
theorem dX5_announce_45 : decode cX5_announce 45 = .ok (.invokevirtual 58, 3) := by decide +kernel
theorem dX5_announce_48 : decode cX5_announce 48 = .ok (.goto 8, 3) := by decide +kernel
theorem dX5_announce_51 : decode cX5_announce 51 = .ok (.aload_n 0, 1) := by decide +kernel
theorem dX5_announce_52 : decode cX5_announce 52 = .ok (.iload_n 2, 1) := by decide +kernel
theorem dX5_announce_53 : decode cX5_announce 53 = .ok (.invokevirtual 129, 3) := by decide +kernel
theorem dX5_announce_56 : decode cX5_announce 56 = .ok (.ireturn, 1) := by decide +kernel
set_option maxRecDepth 20000 in
theorem ggX5_tell_X5_isFormula : GoodIn wsX5_tell wsX5_isFormula := goodIn_r _ [8, 9, 62, 63, 64, 65, 66, 67, 68, 69, 70, 71, 72, 73, 74, 75, 76] (by decide +kernel) (by decide +kernel)
set_option maxRecDepth 20000 in
theorem gX5_tell_X5_isFormula : GoodIn wsX5_tell (wsV RX5 84 RX5 yX5_isFormula wsX5_isFormula) := goodIn_app (goodIn_of _ (by decide +kernel)) ggX5_tell_X5_isFormula
set_option maxRecDepth 20000 in
theorem ggX5_tell_X5_no : GoodIn wsX5_tell wsX5_no := goodIn_r _ [13, 1, 62, 63, 64, 65, 66, 67, 68, 69, 70, 71, 72, 73, 74, 75, 76] (by decide +kernel) (by decide +kernel)
set_option maxRecDepth 20000 in
theorem gX5_tell_X5_no : GoodIn wsX5_tell (wsV RX5 58 RX5 yX5_no wsX5_no) := goodIn_app (goodIn_of _ (by decide +kernel)) ggX5_tell_X5_no
set_option maxRecDepth 20000 in
theorem ggX5_tell_X5_isGroup : GoodIn wsX5_tell wsX5_isGroup := goodIn_r _ [16] (by decide +kernel) (by decide +kernel)
set_option maxRecDepth 20000 in
theorem gX5_tell_X5_isGroup : GoodIn wsX5_tell (va_wsS RX5 93 yX5_isGroup wsX5_isGroup) := goodIn_app (goodIn_of _ (by decide +kernel)) ggX5_tell_X5_isGroup
set_option maxRecDepth 20000 in
theorem ggX5_tell_X5_trueAt : GoodIn wsX5_tell wsX5_trueAt := goodIn_r _ [20, 21, 22, 23, 7, 24, 2, 25, 26, 27, 28, 29, 9, 30, 31, 32, 33, 34, 35, 36, 37, 38, 3, 39, 40, 41, 42, 43, 44, 45, 46, 47, 48, 49, 50, 51, 52, 53, 54, 62, 63, 64, 65, 66, 67, 68, 69, 70, 71, 72, 73, 74, 75, 76] (by decide +kernel) (by decide +kernel)
set_option maxRecDepth 20000 in
theorem gX5_tell_X5_trueAt : GoodIn wsX5_tell (wsV RX5 117 RX5 yX5_trueAt wsX5_trueAt) := goodIn_app (goodIn_of _ (by decide +kernel)) ggX5_tell_X5_trueAt
set_option maxRecDepth 20000 in
theorem ggX5_tell_X5_has : GoodIn wsX5_tell wsX5_has := goodIn_r _ [42] (by decide +kernel) (by decide +kernel)
set_option maxRecDepth 20000 in
theorem gX5_tell_X5_has : GoodIn wsX5_tell (va_wsS RX5 71 yX5_has wsX5_has) := goodIn_app (goodIn_of _ (by decide +kernel)) ggX5_tell_X5_has
set_option maxRecDepth 20000 in
theorem ggX5_tell_J6_bitCount_0f7a4 : GoodIn wsX5_tell wsJ6_bitCount_0f7a4 := goodIn_r _ [58, 59, 60, 61] (by decide +kernel) (by decide +kernel)
set_option maxRecDepth 20000 in
theorem gX5_tell_J6_bitCount_0f7a4 : GoodIn wsX5_tell (va_wsS RX5 75 yJ6_bitCount_0f7a4 wsJ6_bitCount_0f7a4) := goodIn_app (goodIn_of _ (by decide +kernel)) ggX5_tell_J6_bitCount_0f7a4
theorem dX5_tell_0 : decode cX5_tell 0 = .ok (.aload_n 0, 1) := by decide +kernel
theorem dX5_tell_1 : decode cX5_tell 1 = .ok (.iconst 0, 1) := by decide +kernel
theorem dX5_tell_2 : decode cX5_tell 2 = .ok (.putfield 44, 3) := by decide +kernel
theorem dX5_tell_5 : decode cX5_tell 5 = .ok (.aload_n 0, 1) := by decide +kernel
theorem dX5_tell_6 : decode cX5_tell 6 = .ok (.iload_n 2, 1) := by decide +kernel
theorem dX5_tell_7 : decode cX5_tell 7 = .ok (.invokevirtual 84, 3) := by decide +kernel
theorem dX5_tell_10 : decode cX5_tell 10 = .ok (.ifCond .ne 9, 3) := by decide +kernel
theorem dX5_tell_13 : decode cX5_tell 13 = .ok (.aload_n 0, 1) := by decide +kernel
theorem dX5_tell_14 : decode cX5_tell 14 = .ok (.iconst 1, 1) := by decide +kernel
theorem dX5_tell_15 : decode cX5_tell 15 = .ok (.invokevirtual 58, 3) := by decide +kernel
theorem dX5_tell_18 : decode cX5_tell 18 = .ok (.ireturn, 1) := by decide +kernel
theorem dX5_tell_19 : decode cX5_tell 19 = .ok (.iload_n 1, 1) := by decide +kernel
theorem dX5_tell_20 : decode cX5_tell 20 = .ok (.invokestatic 93, 3) := by decide +kernel
theorem dX5_tell_23 : decode cX5_tell 23 = .ok (.ifCond .ne 9, 3) := by decide +kernel
theorem dX5_tell_26 : decode cX5_tell 26 = .ok (.aload_n 0, 1) := by decide +kernel
theorem dX5_tell_27 : decode cX5_tell 27 = .ok (.iconst 2, 1) := by decide +kernel
theorem dX5_tell_28 : decode cX5_tell 28 = .ok (.invokevirtual 58, 3) := by decide +kernel
theorem dX5_tell_31 : decode cX5_tell 31 = .ok (.ireturn, 1) := by decide +kernel
theorem dX5_tell_32 : decode cX5_tell 32 = .ok (.aload_n 0, 1) := by decide +kernel
theorem dX5_tell_33 : decode cX5_tell 33 = .ok (.iload_n 2, 1) := by decide +kernel
theorem dX5_tell_34 : decode cX5_tell 34 = .ok (.invokevirtual 117, 3) := by decide +kernel
theorem dX5_tell_37 : decode cX5_tell 37 = .ok (.istore_n 3, 1) := by decide +kernel
theorem dX5_tell_38 : decode cX5_tell 38 = .ok (.iconst 0, 1) := by decide +kernel
theorem dX5_tell_39 : decode cX5_tell 39 = .ok (.istore 4, 2) := by decide +kernel
theorem dX5_tell_41 : decode cX5_tell 41 = .ok (.iconst 0, 1) := by decide +kernel
theorem dX5_tell_42 : decode cX5_tell 42 = .ok (.istore 5, 2) := by decide +kernel
theorem dX5_tell_44 : decode cX5_tell 44 = .ok (.iload 5, 2) := by decide +kernel
theorem dX5_tell_46 : decode cX5_tell 46 = .ok (.iconst 4, 1) := by decide +kernel
theorem dX5_tell_47 : decode cX5_tell 47 = .ok (.if_icmp .ge 101, 3) := by decide +kernel
theorem dX5_tell_50 : decode cX5_tell 50 = .ok (.iload_n 1, 1) := by decide +kernel
theorem dX5_tell_51 : decode cX5_tell 51 = .ok (.iload 5, 2) := by decide +kernel
theorem dX5_tell_53 : decode cX5_tell 53 = .ok (.invokestatic 71, 3) := by decide +kernel
theorem dX5_tell_56 : decode cX5_tell 56 = .ok (.ifCond .ne 6, 3) := by decide +kernel
theorem dX5_tell_59 : decode cX5_tell 59 = .ok (.goto 83, 3) := by decide +kernel
theorem dX5_tell_62 : decode cX5_tell 62 = .ok (.iconst 0, 1) := by decide +kernel
theorem dX5_tell_63 : decode cX5_tell 63 = .ok (.istore 6, 2) := by decide +kernel
theorem dX5_tell_65 : decode cX5_tell 65 = .ok (.iload 6, 2) := by decide +kernel
theorem dX5_tell_67 : decode cX5_tell 67 = .ok (.aload_n 0, 1) := by decide +kernel
theorem dX5_tell_68 : decode cX5_tell 68 = .ok (.getfield 48, 3) := by decide +kernel
theorem dX5_tell_71 : decode cX5_tell 71 = .ok (.if_icmp .ge 71, 3) := by decide +kernel
theorem dX5_tell_74 : decode cX5_tell 74 = .ok (.aload_n 0, 1) := by decide +kernel
theorem dX5_tell_75 : decode cX5_tell 75 = .ok (.getfield 13, 3) := by decide +kernel
theorem dX5_tell_78 : decode cX5_tell 78 = .ok (.bipush 24, 2) := by decide +kernel
theorem dX5_tell_80 : decode cX5_tell 80 = .ok (.iload 5, 2) := by decide +kernel
theorem dX5_tell_82 : decode cX5_tell 82 = .ok (.imul, 1) := by decide +kernel
theorem dX5_tell_83 : decode cX5_tell 83 = .ok (.iload 6, 2) := by decide +kernel
theorem dX5_tell_85 : decode cX5_tell 85 = .ok (.iadd, 1) := by decide +kernel
theorem dX5_tell_86 : decode cX5_tell 86 = .ok (.iaload, 1) := by decide +kernel
theorem dX5_tell_87 : decode cX5_tell 87 = .ok (.iload_n 3, 1) := by decide +kernel
theorem dX5_tell_88 : decode cX5_tell 88 = .ok (.iload 6, 2) := by decide +kernel
theorem dX5_tell_90 : decode cX5_tell 90 = .ok (.invokestatic 71, 3) := by decide +kernel
theorem dX5_tell_93 : decode cX5_tell 93 = .ok (.ifCond .eq 9, 3) := by decide +kernel
theorem dX5_tell_96 : decode cX5_tell 96 = .ok (.iload_n 3, 1) := by decide +kernel
theorem dX5_tell_97 : decode cX5_tell 97 = .ok (.iconst (-1), 1) := by decide +kernel
theorem dX5_tell_98 : decode cX5_tell 98 = .ok (.ixor, 1) := by decide +kernel
theorem dX5_tell_99 : decode cX5_tell 99 = .ok (.goto 4, 3) := by decide +kernel
theorem dX5_tell_102 : decode cX5_tell 102 = .ok (.iload_n 3, 1) := by decide +kernel
theorem dX5_tell_103 : decode cX5_tell 103 = .ok (.iand, 1) := by decide +kernel
theorem dX5_tell_104 : decode cX5_tell 104 = .ok (.istore 7, 2) := by decide +kernel
theorem dX5_tell_106 : decode cX5_tell 106 = .ok (.iload 4, 2) := by decide +kernel
theorem dX5_tell_108 : decode cX5_tell 108 = .ok (.iload 7, 2) := by decide +kernel
theorem dX5_tell_110 : decode cX5_tell 110 = .ok (.invokestatic 75, 3) := by decide +kernel
theorem dX5_tell_113 : decode cX5_tell 113 = .ok (.iadd, 1) := by decide +kernel
theorem dX5_tell_114 : decode cX5_tell 114 = .ok (.istore 4, 2) := by decide +kernel
theorem dX5_tell_116 : decode cX5_tell 116 = .ok (.aload_n 0, 1) := by decide +kernel
theorem dX5_tell_117 : decode cX5_tell 117 = .ok (.getfield 13, 3) := by decide +kernel
theorem dX5_tell_120 : decode cX5_tell 120 = .ok (.bipush 24, 2) := by decide +kernel
theorem dX5_tell_122 : decode cX5_tell 122 = .ok (.iload 5, 2) := by decide +kernel
theorem dX5_tell_124 : decode cX5_tell 124 = .ok (.imul, 1) := by decide +kernel
theorem dX5_tell_125 : decode cX5_tell 125 = .ok (.iload 6, 2) := by decide +kernel
theorem dX5_tell_127 : decode cX5_tell 127 = .ok (.iadd, 1) := by decide +kernel
theorem dX5_tell_128 : decode cX5_tell 128 = .ok (.dup2, 1) := by decide +kernel
theorem dX5_tell_129 : decode cX5_tell 129 = .ok (.iaload, 1) := by decide +kernel
theorem dX5_tell_130 : decode cX5_tell 130 = .ok (.iload 7, 2) := by decide +kernel
theorem dX5_tell_132 : decode cX5_tell 132 = .ok (.iconst (-1), 1) := by decide +kernel
theorem dX5_tell_133 : decode cX5_tell 133 = .ok (.ixor, 1) := by decide +kernel
theorem dX5_tell_134 : decode cX5_tell 134 = .ok (.iand, 1) := by decide +kernel
theorem dX5_tell_135 : decode cX5_tell 135 = .ok (.iastore, 1) := by decide +kernel
theorem dX5_tell_136 : decode cX5_tell 136 = .ok (.iinc 6 1, 3) := by decide +kernel
theorem dX5_tell_139 : decode cX5_tell 139 = .ok (.goto (-74), 3) := by decide +kernel
theorem dX5_tell_142 : decode cX5_tell 142 = .ok (.iinc 5 1, 3) := by decide +kernel
theorem dX5_tell_145 : decode cX5_tell 145 = .ok (.goto (-101), 3) := by decide +kernel
theorem dX5_tell_148 : decode cX5_tell 148 = .ok (.iload 4, 2) := by decide +kernel
theorem dX5_tell_150 : decode cX5_tell 150 = .ok (.ireturn, 1) := by decide +kernel
set_option maxRecDepth 20000 in
theorem ggX5_whisper_X5_isFormula : GoodIn wsX5_whisper wsX5_isFormula := goodIn_r _ [11, 12, 64, 65, 66, 67, 68, 69, 70, 71, 72, 73, 74, 75, 76, 77, 78] (by decide +kernel) (by decide +kernel)
set_option maxRecDepth 20000 in
theorem gX5_whisper_X5_isFormula : GoodIn wsX5_whisper (wsV RX5 84 RX5 yX5_isFormula wsX5_isFormula) := goodIn_app (goodIn_of _ (by decide +kernel)) ggX5_whisper_X5_isFormula
set_option maxRecDepth 20000 in
theorem ggX5_whisper_X5_no : GoodIn wsX5_whisper wsX5_no := goodIn_r _ [16, 1, 64, 65, 66, 67, 68, 69, 70, 71, 72, 73, 74, 75, 76, 77, 78] (by decide +kernel) (by decide +kernel)
set_option maxRecDepth 20000 in
theorem gX5_whisper_X5_no : GoodIn wsX5_whisper (wsV RX5 58 RX5 yX5_no wsX5_no) := goodIn_app (goodIn_of _ (by decide +kernel)) ggX5_whisper_X5_no
set_option maxRecDepth 20000 in
theorem ggX5_whisper_X5_isGroup : GoodIn wsX5_whisper wsX5_isGroup := goodIn_r _ [19] (by decide +kernel) (by decide +kernel)
set_option maxRecDepth 20000 in
theorem gX5_whisper_X5_isGroup : GoodIn wsX5_whisper (va_wsS RX5 93 yX5_isGroup wsX5_isGroup) := goodIn_app (goodIn_of _ (by decide +kernel)) ggX5_whisper_X5_isGroup
set_option maxRecDepth 20000 in
theorem ggX5_whisper_X5_trueAt : GoodIn wsX5_whisper wsX5_trueAt := goodIn_r _ [23, 24, 25, 26, 10, 27, 2, 28, 29, 30, 31, 32, 12, 33, 34, 35, 36, 37, 38, 39, 40, 41, 6, 5, 42, 43, 44, 45, 46, 47, 48, 49, 50, 51, 52, 53, 54, 55, 56, 64, 65, 66, 67, 68, 69, 70, 71, 72, 73, 74, 75, 76, 77, 78] (by decide +kernel) (by decide +kernel)
set_option maxRecDepth 20000 in
theorem gX5_whisper_X5_trueAt : GoodIn wsX5_whisper (wsV RX5 117 RX5 yX5_trueAt wsX5_trueAt) := goodIn_app (goodIn_of _ (by decide +kernel)) ggX5_whisper_X5_trueAt
set_option maxRecDepth 20000 in
theorem ggX5_whisper_X5_has : GoodIn wsX5_whisper wsX5_has := goodIn_r _ [44] (by decide +kernel) (by decide +kernel)
set_option maxRecDepth 20000 in
theorem gX5_whisper_X5_has : GoodIn wsX5_whisper (va_wsS RX5 71 yX5_has wsX5_has) := goodIn_app (goodIn_of _ (by decide +kernel)) ggX5_whisper_X5_has
set_option maxRecDepth 20000 in
theorem ggX5_whisper_J6_bitCount_0f7a4 : GoodIn wsX5_whisper wsJ6_bitCount_0f7a4 := goodIn_r _ [60, 61, 62, 63] (by decide +kernel) (by decide +kernel)
set_option maxRecDepth 20000 in
theorem gX5_whisper_J6_bitCount_0f7a4 : GoodIn wsX5_whisper (va_wsS RX5 75 yJ6_bitCount_0f7a4 wsJ6_bitCount_0f7a4) := goodIn_app (goodIn_of _ (by decide +kernel)) ggX5_whisper_J6_bitCount_0f7a4
theorem dX5_whisper_0 : decode cX5_whisper 0 = .ok (.aload_n 0, 1) := by decide +kernel
theorem dX5_whisper_1 : decode cX5_whisper 1 = .ok (.iconst 0, 1) := by decide +kernel
theorem dX5_whisper_2 : decode cX5_whisper 2 = .ok (.putfield 44, 3) := by decide +kernel
theorem dX5_whisper_5 : decode cX5_whisper 5 = .ok (.aload_n 0, 1) := by decide +kernel
theorem dX5_whisper_6 : decode cX5_whisper 6 = .ok (.iload_n 2, 1) := by decide +kernel
theorem dX5_whisper_7 : decode cX5_whisper 7 = .ok (.invokevirtual 84, 3) := by decide +kernel
theorem dX5_whisper_10 : decode cX5_whisper 10 = .ok (.ifCond .ne 9, 3) := by decide +kernel
theorem dX5_whisper_13 : decode cX5_whisper 13 = .ok (.aload_n 0, 1) := by decide +kernel
theorem dX5_whisper_14 : decode cX5_whisper 14 = .ok (.iconst 1, 1) := by decide +kernel
theorem dX5_whisper_15 : decode cX5_whisper 15 = .ok (.invokevirtual 58, 3) := by decide +kernel
theorem dX5_whisper_18 : decode cX5_whisper 18 = .ok (.ireturn, 1) := by decide +kernel
theorem dX5_whisper_19 : decode cX5_whisper 19 = .ok (.iload_n 1, 1) := by decide +kernel
theorem dX5_whisper_20 : decode cX5_whisper 20 = .ok (.invokestatic 93, 3) := by decide +kernel
theorem dX5_whisper_23 : decode cX5_whisper 23 = .ok (.ifCond .ne 9, 3) := by decide +kernel
theorem dX5_whisper_26 : decode cX5_whisper 26 = .ok (.aload_n 0, 1) := by decide +kernel
theorem dX5_whisper_27 : decode cX5_whisper 27 = .ok (.iconst 2, 1) := by decide +kernel
theorem dX5_whisper_28 : decode cX5_whisper 28 = .ok (.invokevirtual 58, 3) := by decide +kernel
theorem dX5_whisper_31 : decode cX5_whisper 31 = .ok (.ireturn, 1) := by decide +kernel
theorem dX5_whisper_32 : decode cX5_whisper 32 = .ok (.aload_n 0, 1) := by decide +kernel
theorem dX5_whisper_33 : decode cX5_whisper 33 = .ok (.iload_n 2, 1) := by decide +kernel
theorem dX5_whisper_34 : decode cX5_whisper 34 = .ok (.invokevirtual 117, 3) := by decide +kernel
theorem dX5_whisper_37 : decode cX5_whisper 37 = .ok (.istore_n 3, 1) := by decide +kernel
theorem dX5_whisper_38 : decode cX5_whisper 38 = .ok (.aload_n 0, 1) := by decide +kernel
theorem dX5_whisper_39 : decode cX5_whisper 39 = .ok (.getfield 48, 3) := by decide +kernel
theorem dX5_whisper_42 : decode cX5_whisper 42 = .ok (.ifCond .eq 28, 3) := by decide +kernel
theorem dX5_whisper_45 : decode cX5_whisper 45 = .ok (.iload_n 3, 1) := by decide +kernel
theorem dX5_whisper_46 : decode cX5_whisper 46 = .ok (.aload_n 0, 1) := by decide +kernel
theorem dX5_whisper_47 : decode cX5_whisper 47 = .ok (.getfield 62, 3) := by decide +kernel
theorem dX5_whisper_50 : decode cX5_whisper 50 = .ok (.invokestatic 71, 3) := by decide +kernel
theorem dX5_whisper_53 : decode cX5_whisper 53 = .ok (.ifCond .eq 17, 3) := by decide +kernel
theorem dX5_whisper_56 : decode cX5_whisper 56 = .ok (.aload_n 0, 1) := by decide +kernel
theorem dX5_whisper_57 : decode cX5_whisper 57 = .ok (.getfield 48, 3) := by decide +kernel
theorem dX5_whisper_60 : decode cX5_whisper 60 = .ok (.iload_n 3, 1) := by decide +kernel
theorem dX5_whisper_61 : decode cX5_whisper 61 = .ok (.invokestatic 75, 3) := by decide +kernel
theorem dX5_whisper_64 : decode cX5_whisper 64 = .ok (.iadd, 1) := by decide +kernel
theorem dX5_whisper_65 : decode cX5_whisper 65 = .ok (.bipush 24, 2) := by decide +kernel
theorem dX5_whisper_67 : decode cX5_whisper 67 = .ok (.if_icmp .le 9, 3) := by decide +kernel
theorem dX5_whisper_70 : decode cX5_whisper 70 = .ok (.aload_n 0, 1) := by decide +kernel
theorem dX5_whisper_71 : decode cX5_whisper 71 = .ok (.iconst 3, 1) := by decide +kernel
theorem dX5_whisper_72 : decode cX5_whisper 72 = .ok (.invokevirtual 58, 3) := by decide +kernel
theorem dX5_whisper_75 : decode cX5_whisper 75 = .ok (.ireturn, 1) := by decide +kernel
theorem dX5_whisper_76 : decode cX5_whisper 76 = .ok (.bipush 24, 2) := by decide +kernel
theorem dX5_whisper_78 : decode cX5_whisper 78 = .ok (.newarray .int, 2) := by decide +kernel
theorem dX5_whisper_80 : decode cX5_whisper 80 = .ok (.astore 4, 2) := by decide +kernel
theorem dX5_whisper_82 : decode cX5_whisper 82 = .ok (.aload_n 0, 1) := by decide +kernel
theorem dX5_whisper_83 : decode cX5_whisper 83 = .ok (.getfield 48, 3) := by decide +kernel
theorem dX5_whisper_86 : decode cX5_whisper 86 = .ok (.istore 5, 2) := by decide +kernel
theorem dX5_whisper_88 : decode cX5_whisper 88 = .ok (.iconst 0, 1) := by decide +kernel
theorem dX5_whisper_89 : decode cX5_whisper 89 = .ok (.istore 6, 2) := by decide +kernel
theorem dX5_whisper_91 : decode cX5_whisper 91 = .ok (.iload 6, 2) := by decide +kernel
theorem dX5_whisper_93 : decode cX5_whisper 93 = .ok (.aload_n 0, 1) := by decide +kernel
theorem dX5_whisper_94 : decode cX5_whisper 94 = .ok (.getfield 48, 3) := by decide +kernel
theorem dX5_whisper_97 : decode cX5_whisper 97 = .ok (.if_icmp .ge 35, 3) := by decide +kernel
theorem dX5_whisper_100 : decode cX5_whisper 100 = .ok (.aload 4, 2) := by decide +kernel
theorem dX5_whisper_102 : decode cX5_whisper 102 = .ok (.iload 6, 2) := by decide +kernel
theorem dX5_whisper_104 : decode cX5_whisper 104 = .ok (.iload 5, 2) := by decide +kernel
theorem dX5_whisper_106 : decode cX5_whisper 106 = .ok (.iastore, 1) := by decide +kernel
theorem dX5_whisper_107 : decode cX5_whisper 107 = .ok (.iload 5, 2) := by decide +kernel
theorem dX5_whisper_109 : decode cX5_whisper 109 = .ok (.iload_n 3, 1) := by decide +kernel
theorem dX5_whisper_110 : decode cX5_whisper 110 = .ok (.iload 6, 2) := by decide +kernel
theorem dX5_whisper_112 : decode cX5_whisper 112 = .ok (.invokestatic 71, 3) := by decide +kernel
theorem dX5_whisper_115 : decode cX5_whisper 115 = .ok (.ifCond .eq 7, 3) := by decide +kernel
theorem dX5_whisper_118 : decode cX5_whisper 118 = .ok (.iconst 1, 1) := by decide +kernel
theorem dX5_whisper_119 : decode cX5_whisper 119 = .ok (.goto 4, 3) := by decide +kernel
theorem dX5_whisper_122 : decode cX5_whisper 122 = .ok (.iconst 0, 1) := by decide +kernel
theorem dX5_whisper_123 : decode cX5_whisper 123 = .ok (.iadd, 1) := by decide +kernel
theorem dX5_whisper_124 : decode cX5_whisper 124 = .ok (.istore 5, 2) := by decide +kernel
theorem dX5_whisper_126 : decode cX5_whisper 126 = .ok (.iinc 6 1, 3) := by decide +kernel
theorem dX5_whisper_129 : decode cX5_whisper 129 = .ok (.goto (-38), 3) := by decide +kernel
theorem dX5_whisper_132 : decode cX5_whisper 132 = .ok (.iconst 0, 1) := by decide +kernel
theorem dX5_whisper_133 : decode cX5_whisper 133 = .ok (.istore 6, 2) := by decide +kernel
theorem dX5_whisper_135 : decode cX5_whisper 135 = .ok (.iload 6, 2) := by decide +kernel
theorem dX5_whisper_137 : decode cX5_whisper 137 = .ok (.aload_n 0, 1) := by decide +kernel
theorem dX5_whisper_138 : decode cX5_whisper 138 = .ok (.getfield 48, 3) := by decide +kernel
theorem dX5_whisper_141 : decode cX5_whisper 141 = .ok (.if_icmp .ge 161, 3) := by decide +kernel
theorem dX5_whisper_144 : decode cX5_whisper 144 = .ok (.iload_n 3, 1) := by decide +kernel
theorem dX5_whisper_145 : decode cX5_whisper 145 = .ok (.iload 6, 2) := by decide +kernel
theorem dX5_whisper_147 : decode cX5_whisper 147 = .ok (.invokestatic 71, 3) := by decide +kernel
theorem dX5_whisper_150 : decode cX5_whisper 150 = .ok (.ifCond .ne 6, 3) := by decide +kernel
theorem dX5_whisper_153 : decode cX5_whisper 153 = .ok (.goto 143, 3) := by decide +kernel
theorem dX5_whisper_156 : decode cX5_whisper 156 = .ok (.aload_n 0, 1) := by decide +kernel
theorem dX5_whisper_157 : decode cX5_whisper 157 = .ok (.getfield 9, 3) := by decide +kernel
theorem dX5_whisper_160 : decode cX5_whisper 160 = .ok (.aload 4, 2) := by decide +kernel
theorem dX5_whisper_162 : decode cX5_whisper 162 = .ok (.iload 6, 2) := by decide +kernel
theorem dX5_whisper_164 : decode cX5_whisper 164 = .ok (.iaload, 1) := by decide +kernel
theorem dX5_whisper_165 : decode cX5_whisper 165 = .ok (.aload_n 0, 1) := by decide +kernel
theorem dX5_whisper_166 : decode cX5_whisper 166 = .ok (.getfield 9, 3) := by decide +kernel
theorem dX5_whisper_169 : decode cX5_whisper 169 = .ok (.iload 6, 2) := by decide +kernel
theorem dX5_whisper_171 : decode cX5_whisper 171 = .ok (.iaload, 1) := by decide +kernel
theorem dX5_whisper_172 : decode cX5_whisper 172 = .ok (.iastore, 1) := by decide +kernel
theorem dX5_whisper_173 : decode cX5_whisper 173 = .ok (.iconst 0, 1) := by decide +kernel
theorem dX5_whisper_174 : decode cX5_whisper 174 = .ok (.istore 7, 2) := by decide +kernel
theorem dX5_whisper_176 : decode cX5_whisper 176 = .ok (.iload 7, 2) := by decide +kernel
theorem dX5_whisper_178 : decode cX5_whisper 178 = .ok (.iconst 4, 1) := by decide +kernel
theorem dX5_whisper_179 : decode cX5_whisper 179 = .ok (.if_icmp .ge 117, 3) := by decide +kernel
theorem dX5_whisper_182 : decode cX5_whisper 182 = .ok (.iload_n 1, 1) := by decide +kernel
theorem dX5_whisper_183 : decode cX5_whisper 183 = .ok (.iload 7, 2) := by decide +kernel
theorem dX5_whisper_185 : decode cX5_whisper 185 = .ok (.invokestatic 71, 3) := by decide +kernel
theorem dX5_whisper_188 : decode cX5_whisper 188 = .ok (.ifCond .eq 7, 3) := by decide +kernel
theorem dX5_whisper_191 : decode cX5_whisper 191 = .ok (.iconst 0, 1) := by decide +kernel
theorem dX5_whisper_192 : decode cX5_whisper 192 = .ok (.goto 16, 3) := by decide +kernel
theorem dX5_whisper_195 : decode cX5_whisper 195 = .ok (.aload_n 0, 1) := by decide +kernel
theorem dX5_whisper_196 : decode cX5_whisper 196 = .ok (.getfield 13, 3) := by decide +kernel
theorem dX5_whisper_199 : decode cX5_whisper 199 = .ok (.bipush 24, 2) := by decide +kernel
theorem dX5_whisper_201 : decode cX5_whisper 201 = .ok (.iload 7, 2) := by decide +kernel
theorem dX5_whisper_203 : decode cX5_whisper 203 = .ok (.imul, 1) := by decide +kernel
theorem dX5_whisper_204 : decode cX5_whisper 204 = .ok (.iload 6, 2) := by decide +kernel
theorem dX5_whisper_206 : decode cX5_whisper 206 = .ok (.iadd, 1) := by decide +kernel
theorem dX5_whisper_207 : decode cX5_whisper 207 = .ok (.iaload, 1) := by decide +kernel
theorem dX5_whisper_208 : decode cX5_whisper 208 = .ok (.istore 8, 2) := by decide +kernel
theorem dX5_whisper_210 : decode cX5_whisper 210 = .ok (.iconst 0, 1) := by decide +kernel
theorem dX5_whisper_211 : decode cX5_whisper 211 = .ok (.istore 9, 2) := by decide +kernel
theorem dX5_whisper_213 : decode cX5_whisper 213 = .ok (.iload 9, 2) := by decide +kernel
theorem dX5_whisper_215 : decode cX5_whisper 215 = .ok (.aload_n 0, 1) := by decide +kernel
theorem dX5_whisper_216 : decode cX5_whisper 216 = .ok (.getfield 48, 3) := by decide +kernel
theorem dX5_whisper_219 : decode cX5_whisper 219 = .ok (.if_icmp .ge 53, 3) := by decide +kernel
theorem dX5_whisper_222 : decode cX5_whisper 222 = .ok (.iload_n 1, 1) := by decide +kernel
theorem dX5_whisper_223 : decode cX5_whisper 223 = .ok (.iload 7, 2) := by decide +kernel
theorem dX5_whisper_225 : decode cX5_whisper 225 = .ok (.invokestatic 71, 3) := by decide +kernel
theorem dX5_whisper_228 : decode cX5_whisper 228 = .ok (.ifCond .eq 44, 3) := by decide +kernel
theorem dX5_whisper_231 : decode cX5_whisper 231 = .ok (.iload_n 3, 1) := by decide +kernel
theorem dX5_whisper_232 : decode cX5_whisper 232 = .ok (.aload_n 0, 1) := by decide +kernel
theorem dX5_whisper_233 : decode cX5_whisper 233 = .ok (.getfield 13, 3) := by decide +kernel
theorem dX5_whisper_236 : decode cX5_whisper 236 = .ok (.bipush 24, 2) := by decide +kernel
theorem dX5_whisper_238 : decode cX5_whisper 238 = .ok (.iload 7, 2) := by decide +kernel
theorem dX5_whisper_240 : decode cX5_whisper 240 = .ok (.imul, 1) := by decide +kernel
theorem dX5_whisper_241 : decode cX5_whisper 241 = .ok (.iload 6, 2) := by decide +kernel
theorem dX5_whisper_243 : decode cX5_whisper 243 = .ok (.iadd, 1) := by decide +kernel
theorem dX5_whisper_244 : decode cX5_whisper 244 = .ok (.iaload, 1) := by decide +kernel
theorem dX5_whisper_245 : decode cX5_whisper 245 = .ok (.iand, 1) := by decide +kernel
theorem dX5_whisper_246 : decode cX5_whisper 246 = .ok (.iload 9, 2) := by decide +kernel
theorem dX5_whisper_248 : decode cX5_whisper 248 = .ok (.invokestatic 71, 3) := by decide +kernel
theorem dX5_whisper_251 : decode cX5_whisper 251 = .ok (.ifCond .eq 15, 3) := by decide +kernel
theorem dX5_whisper_254 : decode cX5_whisper 254 = .ok (.iload 8, 2) := by decide +kernel
theorem dX5_whisper_256 : decode cX5_whisper 256 = .ok (.iconst 1, 1) := by decide +kernel
theorem dX5_whisper_257 : decode cX5_whisper 257 = .ok (.aload 4, 2) := by decide +kernel
theorem dX5_whisper_259 : decode cX5_whisper 259 = .ok (.iload 9, 2) := by decide +kernel
theorem dX5_whisper_261 : decode cX5_whisper 261 = .ok (.iaload, 1) := by decide +kernel
theorem dX5_whisper_262 : decode cX5_whisper 262 = .ok (.ishl, 1) := by decide +kernel
theorem dX5_whisper_263 : decode cX5_whisper 263 = .ok (.ior, 1) := by decide +kernel
theorem dX5_whisper_264 : decode cX5_whisper 264 = .ok (.istore 8, 2) := by decide +kernel
theorem dX5_whisper_266 : decode cX5_whisper 266 = .ok (.iinc 9 1, 3) := by decide +kernel
theorem dX5_whisper_269 : decode cX5_whisper 269 = .ok (.goto (-56), 3) := by decide +kernel
theorem dX5_whisper_272 : decode cX5_whisper 272 = .ok (.aload_n 0, 1) := by decide +kernel
theorem dX5_whisper_273 : decode cX5_whisper 273 = .ok (.getfield 13, 3) := by decide +kernel
theorem dX5_whisper_276 : decode cX5_whisper 276 = .ok (.bipush 24, 2) := by decide +kernel
theorem dX5_whisper_278 : decode cX5_whisper 278 = .ok (.iload 7, 2) := by decide +kernel
theorem dX5_whisper_280 : decode cX5_whisper 280 = .ok (.imul, 1) := by decide +kernel
theorem dX5_whisper_281 : decode cX5_whisper 281 = .ok (.aload 4, 2) := by decide +kernel
theorem dX5_whisper_283 : decode cX5_whisper 283 = .ok (.iload 6, 2) := by decide +kernel
theorem dX5_whisper_285 : decode cX5_whisper 285 = .ok (.iaload, 1) := by decide +kernel
theorem dX5_whisper_286 : decode cX5_whisper 286 = .ok (.iadd, 1) := by decide +kernel
theorem dX5_whisper_287 : decode cX5_whisper 287 = .ok (.iload 8, 2) := by decide +kernel
theorem dX5_whisper_289 : decode cX5_whisper 289 = .ok (.iastore, 1) := by decide +kernel
theorem dX5_whisper_290 : decode cX5_whisper 290 = .ok (.iinc 7 1, 3) := by decide +kernel
theorem dX5_whisper_293 : decode cX5_whisper 293 = .ok (.goto (-117), 3) := by decide +kernel
theorem dX5_whisper_296 : decode cX5_whisper 296 = .ok (.iinc 6 1, 3) := by decide +kernel
theorem dX5_whisper_299 : decode cX5_whisper 299 = .ok (.goto (-164), 3) := by decide +kernel
theorem dX5_whisper_302 : decode cX5_whisper 302 = .ok (.aload_n 0, 1) := by decide +kernel
theorem dX5_whisper_303 : decode cX5_whisper 303 = .ok (.aload 4, 2) := by decide +kernel
theorem dX5_whisper_305 : decode cX5_whisper 305 = .ok (.aload_n 0, 1) := by decide +kernel
theorem dX5_whisper_306 : decode cX5_whisper 306 = .ok (.getfield 62, 3) := by decide +kernel
theorem dX5_whisper_309 : decode cX5_whisper 309 = .ok (.iaload, 1) := by decide +kernel
theorem dX5_whisper_310 : decode cX5_whisper 310 = .ok (.putfield 62, 3) := by decide +kernel
theorem dX5_whisper_313 : decode cX5_whisper 313 = .ok (.aload_n 0, 1) := by decide +kernel
theorem dX5_whisper_314 : decode cX5_whisper 314 = .ok (.iload 5, 2) := by decide +kernel
theorem dX5_whisper_316 : decode cX5_whisper 316 = .ok (.putfield 48, 3) := by decide +kernel
theorem dX5_whisper_319 : decode cX5_whisper 319 = .ok (.aload_n 0, 1) := by decide +kernel
theorem dX5_whisper_320 : decode cX5_whisper 320 = .ok (.getfield 48, 3) := by decide +kernel
theorem dX5_whisper_323 : decode cX5_whisper 323 = .ok (.ireturn, 1) := by decide +kernel
set_option maxRecDepth 20000 in
theorem ggX5_contract_X5_findLikes : GoodIn wsX5_contract wsX5_findLikes := goodIn_r _ [10, 2, 3, 11, 12, 13, 14, 9, 15, 16, 4, 17, 18, 19, 20, 21, 22, 23, 28, 29, 30, 31, 32, 33, 34, 35, 36, 37, 38, 39, 40, 41, 42] (by decide +kernel) (by decide +kernel)
set_option maxRecDepth 20000 in
theorem gX5_contract_X5_findLikes : GoodIn wsX5_contract (wsV RX5 126 RX5 yX5_findLikes wsX5_findLikes) := goodIn_app (goodIn_of _ (by decide +kernel)) ggX5_contract_X5_findLikes
set_option maxRecDepth 20000 in
theorem ggX5_contract_X5_likesOf : GoodIn wsX5_contract wsX5_likesOf := goodIn_r _ [20, 2, 3, 21, 22, 9, 23, 28, 29, 30, 31, 32, 33, 34, 35, 36, 37, 38, 39, 40, 41, 42] (by decide +kernel) (by decide +kernel)
set_option maxRecDepth 20000 in
theorem gX5_contract_X5_likesOf : GoodIn wsX5_contract (wsV RX5 120 RX5 yX5_likesOf wsX5_likesOf) := goodIn_app (goodIn_of _ (by decide +kernel)) ggX5_contract_X5_likesOf
set_option maxRecDepth 20000 in
theorem ggX5_contract_X5_keep : GoodIn wsX5_contract wsX5_keep := goodIn_r _ [27, 11, 2, 16, 4, 5, 21, 22, 9, 23, 28, 29, 30, 31, 32, 33, 34, 35, 36, 37, 38, 39, 40, 41, 42] (by decide +kernel) (by decide +kernel)
set_option maxRecDepth 20000 in
theorem gX5_contract_X5_keep : GoodIn wsX5_contract (wsV RX5 129 RX5 yX5_keep wsX5_keep) := goodIn_app (goodIn_of _ (by decide +kernel)) ggX5_contract_X5_keep
theorem dX5_contract_0 : decode cX5_contract 0 = .ok (.aload_n 0, 1) := by decide +kernel
theorem dX5_contract_1 : decode cX5_contract 1 = .ok (.iconst 0, 1) := by decide +kernel
theorem dX5_contract_2 : decode cX5_contract 2 = .ok (.putfield 44, 3) := by decide +kernel
theorem dX5_contract_5 : decode cX5_contract 5 = .ok (.aload_n 0, 1) := by decide +kernel
theorem dX5_contract_6 : decode cX5_contract 6 = .ok (.invokevirtual 126, 3) := by decide +kernel
theorem dX5_contract_9 : decode cX5_contract 9 = .ok (.iconst 0, 1) := by decide +kernel
theorem dX5_contract_10 : decode cX5_contract 10 = .ok (.istore_n 1, 1) := by decide +kernel
theorem dX5_contract_11 : decode cX5_contract 11 = .ok (.iconst 0, 1) := by decide +kernel
theorem dX5_contract_12 : decode cX5_contract 12 = .ok (.istore_n 2, 1) := by decide +kernel
theorem dX5_contract_13 : decode cX5_contract 13 = .ok (.iload_n 2, 1) := by decide +kernel
theorem dX5_contract_14 : decode cX5_contract 14 = .ok (.aload_n 0, 1) := by decide +kernel
theorem dX5_contract_15 : decode cX5_contract 15 = .ok (.getfield 48, 3) := by decide +kernel
theorem dX5_contract_18 : decode cX5_contract 18 = .ok (.if_icmp .ge 20, 3) := by decide +kernel
theorem dX5_contract_21 : decode cX5_contract 21 = .ok (.iload_n 1, 1) := by decide +kernel
theorem dX5_contract_22 : decode cX5_contract 22 = .ok (.iconst 1, 1) := by decide +kernel
theorem dX5_contract_23 : decode cX5_contract 23 = .ok (.aload_n 0, 1) := by decide +kernel
theorem dX5_contract_24 : decode cX5_contract 24 = .ok (.getfield 41, 3) := by decide +kernel
theorem dX5_contract_27 : decode cX5_contract 27 = .ok (.iload_n 2, 1) := by decide +kernel
theorem dX5_contract_28 : decode cX5_contract 28 = .ok (.iaload, 1) := by decide +kernel
theorem dX5_contract_29 : decode cX5_contract 29 = .ok (.ishl, 1) := by decide +kernel
theorem dX5_contract_30 : decode cX5_contract 30 = .ok (.ior, 1) := by decide +kernel
theorem dX5_contract_31 : decode cX5_contract 31 = .ok (.istore_n 1, 1) := by decide +kernel
theorem dX5_contract_32 : decode cX5_contract 32 = .ok (.iinc 2 1, 3) := by decide +kernel
theorem dX5_contract_35 : decode cX5_contract 35 = .ok (.goto (-22), 3) := by decide +kernel
theorem dX5_contract_38 : decode cX5_contract 38 = .ok (.iconst 0, 1) := by decide +kernel
theorem dX5_contract_39 : decode cX5_contract 39 = .ok (.istore_n 2, 1) := by decide +kernel
theorem dX5_contract_40 : decode cX5_contract 40 = .ok (.iload_n 2, 1) := by decide +kernel
theorem dX5_contract_41 : decode cX5_contract 41 = .ok (.iconst 4, 1) := by decide +kernel
theorem dX5_contract_42 : decode cX5_contract 42 = .ok (.if_icmp .ge 51, 3) := by decide +kernel
theorem dX5_contract_45 : decode cX5_contract 45 = .ok (.iconst 0, 1) := by decide +kernel
theorem dX5_contract_46 : decode cX5_contract 46 = .ok (.istore_n 3, 1) := by decide +kernel
theorem dX5_contract_47 : decode cX5_contract 47 = .ok (.iload_n 3, 1) := by decide +kernel
theorem dX5_contract_48 : decode cX5_contract 48 = .ok (.aload_n 0, 1) := by decide +kernel
theorem dX5_contract_49 : decode cX5_contract 49 = .ok (.getfield 48, 3) := by decide +kernel
theorem dX5_contract_52 : decode cX5_contract 52 = .ok (.if_icmp .ge 35, 3) := by decide +kernel
theorem dX5_contract_55 : decode cX5_contract 55 = .ok (.aload_n 0, 1) := by decide +kernel
theorem dX5_contract_56 : decode cX5_contract 56 = .ok (.getfield 13, 3) := by decide +kernel
theorem dX5_contract_59 : decode cX5_contract 59 = .ok (.bipush 24, 2) := by decide +kernel
theorem dX5_contract_61 : decode cX5_contract 61 = .ok (.iload_n 2, 1) := by decide +kernel
theorem dX5_contract_62 : decode cX5_contract 62 = .ok (.imul, 1) := by decide +kernel
theorem dX5_contract_63 : decode cX5_contract 63 = .ok (.iload_n 3, 1) := by decide +kernel
theorem dX5_contract_64 : decode cX5_contract 64 = .ok (.iadd, 1) := by decide +kernel
theorem dX5_contract_65 : decode cX5_contract 65 = .ok (.aload_n 0, 1) := by decide +kernel
theorem dX5_contract_66 : decode cX5_contract 66 = .ok (.aload_n 0, 1) := by decide +kernel
theorem dX5_contract_67 : decode cX5_contract 67 = .ok (.getfield 13, 3) := by decide +kernel
theorem dX5_contract_70 : decode cX5_contract 70 = .ok (.bipush 24, 2) := by decide +kernel
theorem dX5_contract_72 : decode cX5_contract 72 = .ok (.iload_n 2, 1) := by decide +kernel
theorem dX5_contract_73 : decode cX5_contract 73 = .ok (.imul, 1) := by decide +kernel
theorem dX5_contract_74 : decode cX5_contract 74 = .ok (.iload_n 3, 1) := by decide +kernel
theorem dX5_contract_75 : decode cX5_contract 75 = .ok (.iadd, 1) := by decide +kernel
theorem dX5_contract_76 : decode cX5_contract 76 = .ok (.iaload, 1) := by decide +kernel
theorem dX5_contract_77 : decode cX5_contract 77 = .ok (.invokevirtual 120, 3) := by decide +kernel
theorem dX5_contract_80 : decode cX5_contract 80 = .ok (.iastore, 1) := by decide +kernel
theorem dX5_contract_81 : decode cX5_contract 81 = .ok (.iinc 3 1, 3) := by decide +kernel
theorem dX5_contract_84 : decode cX5_contract 84 = .ok (.goto (-37), 3) := by decide +kernel
theorem dX5_contract_87 : decode cX5_contract 87 = .ok (.iinc 2 1, 3) := by decide +kernel
theorem dX5_contract_90 : decode cX5_contract 90 = .ok (.goto (-50), 3) := by decide +kernel
theorem dX5_contract_93 : decode cX5_contract 93 = .ok (.aload_n 0, 1) := by decide +kernel
theorem dX5_contract_94 : decode cX5_contract 94 = .ok (.getfield 48, 3) := by decide +kernel
theorem dX5_contract_97 : decode cX5_contract 97 = .ok (.ifCond .le 16, 3) := by decide +kernel
theorem dX5_contract_100 : decode cX5_contract 100 = .ok (.aload_n 0, 1) := by decide +kernel
theorem dX5_contract_101 : decode cX5_contract 101 = .ok (.aload_n 0, 1) := by decide +kernel
theorem dX5_contract_102 : decode cX5_contract 102 = .ok (.getfield 41, 3) := by decide +kernel
theorem dX5_contract_105 : decode cX5_contract 105 = .ok (.aload_n 0, 1) := by decide +kernel
theorem dX5_contract_106 : decode cX5_contract 106 = .ok (.getfield 62, 3) := by decide +kernel
theorem dX5_contract_109 : decode cX5_contract 109 = .ok (.iaload, 1) := by decide +kernel
theorem dX5_contract_110 : decode cX5_contract 110 = .ok (.putfield 62, 3) := by decide +kernel
theorem dX5_contract_113 : decode cX5_contract 113 = .ok (.aload_n 0, 1) := by decide +kernel
theorem dX5_contract_114 : decode cX5_contract 114 = .ok (.iload_n 1, 1) := by decide +kernel
theorem dX5_contract_115 : decode cX5_contract 115 = .ok (.invokevirtual 129, 3) := by decide +kernel
theorem dX5_contract_118 : decode cX5_contract 118 = .ok (.pop, 1) := by decide +kernel
theorem dX5_contract_119 : decode cX5_contract 119 = .ok (.aload_n 0, 1) := by decide +kernel
theorem dX5_contract_120 : decode cX5_contract 120 = .ok (.getfield 48, 3) := by decide +kernel
theorem dX5_contract_123 : decode cX5_contract 123 = .ok (.ireturn, 1) := by decide +kernel
set_option maxRecDepth 20000 in
theorem ggX5_prune_X5_all : GoodIn wsX5_prune wsX5_all := goodIn_r _ [8, 2, 27, 28, 29, 30, 31, 32, 33, 34, 35, 36, 37, 38, 39, 40, 41] (by decide +kernel) (by decide +kernel)
set_option maxRecDepth 20000 in
theorem gX5_prune_X5_all : GoodIn wsX5_prune (wsV RX5 99 RX5 yX5_all wsX5_all) := goodIn_app (goodIn_of _ (by decide +kernel)) ggX5_prune_X5_all
set_option maxRecDepth 20000 in
theorem ggX5_prune_X5_reach : GoodIn wsX5_prune wsX5_reach := goodIn_r _ [12, 13, 14, 15, 7, 16, 2, 17, 18, 19, 20, 27, 28, 29, 30, 31, 32, 33, 34, 35, 36, 37, 38, 39, 40, 41] (by decide +kernel) (by decide +kernel)
set_option maxRecDepth 20000 in
theorem gX5_prune_X5_reach : GoodIn wsX5_prune (wsV RX5 110 RX5 yX5_reach wsX5_reach) := goodIn_app (goodIn_of _ (by decide +kernel)) ggX5_prune_X5_reach
set_option maxRecDepth 20000 in
theorem ggX5_prune_X5_keep : GoodIn wsX5_prune wsX5_keep := goodIn_r _ [24, 25, 2, 26, 17, 3, 18, 19, 7, 20, 27, 28, 29, 30, 31, 32, 33, 34, 35, 36, 37, 38, 39, 40, 41] (by decide +kernel) (by decide +kernel)
set_option maxRecDepth 20000 in
theorem gX5_prune_X5_keep : GoodIn wsX5_prune (wsV RX5 129 RX5 yX5_keep wsX5_keep) := goodIn_app (goodIn_of _ (by decide +kernel)) ggX5_prune_X5_keep
theorem dX5_prune_0 : decode cX5_prune 0 = .ok (.aload_n 0, 1) := by decide +kernel
theorem dX5_prune_1 : decode cX5_prune 1 = .ok (.iconst 0, 1) := by decide +kernel
theorem dX5_prune_2 : decode cX5_prune 2 = .ok (.putfield 44, 3) := by decide +kernel
theorem dX5_prune_5 : decode cX5_prune 5 = .ok (.aload_n 0, 1) := by decide +kernel
theorem dX5_prune_6 : decode cX5_prune 6 = .ok (.getfield 48, 3) := by decide +kernel
theorem dX5_prune_9 : decode cX5_prune 9 = .ok (.ifCond .ne 7, 3) := by decide +kernel
theorem dX5_prune_12 : decode cX5_prune 12 = .ok (.iconst 0, 1) := by decide +kernel
theorem dX5_prune_13 : decode cX5_prune 13 = .ok (.goto 28, 3) := by decide +kernel
theorem dX5_prune_16 : decode cX5_prune 16 = .ok (.aload_n 0, 1) := by decide +kernel
theorem dX5_prune_17 : decode cX5_prune 17 = .ok (.iconst 1, 1) := by decide +kernel
theorem dX5_prune_18 : decode cX5_prune 18 = .ok (.aload_n 0, 1) := by decide +kernel
theorem dX5_prune_19 : decode cX5_prune 19 = .ok (.getfield 62, 3) := by decide +kernel
theorem dX5_prune_22 : decode cX5_prune 22 = .ok (.ishl, 1) := by decide +kernel
theorem dX5_prune_23 : decode cX5_prune 23 = .ok (.aload_n 0, 1) := by decide +kernel
theorem dX5_prune_24 : decode cX5_prune 24 = .ok (.bipush 15, 2) := by decide +kernel
theorem dX5_prune_26 : decode cX5_prune 26 = .ok (.aload_n 0, 1) := by decide +kernel
theorem dX5_prune_27 : decode cX5_prune 27 = .ok (.getfield 62, 3) := by decide +kernel
theorem dX5_prune_30 : decode cX5_prune 30 = .ok (.aload_n 0, 1) := by decide +kernel
theorem dX5_prune_31 : decode cX5_prune 31 = .ok (.invokevirtual 99, 3) := by decide +kernel
theorem dX5_prune_34 : decode cX5_prune 34 = .ok (.invokevirtual 110, 3) := by decide +kernel
theorem dX5_prune_37 : decode cX5_prune 37 = .ok (.ior, 1) := by decide +kernel
theorem dX5_prune_38 : decode cX5_prune 38 = .ok (.invokevirtual 129, 3) := by decide +kernel
theorem dX5_prune_41 : decode cX5_prune 41 = .ok (.ireturn, 1) := by decide +kernel
theorem dX5_digest_0 : decode cX5_digest 0 = .ok (.aload_n 0, 1) := by decide +kernel
theorem dX5_digest_1 : decode cX5_digest 1 = .ok (.iconst 0, 1) := by decide +kernel
theorem dX5_digest_2 : decode cX5_digest 2 = .ok (.putfield 44, 3) := by decide +kernel
theorem dX5_digest_5 : decode cX5_digest 5 = .ok (.ldc2_w 132, 3) := by decide +kernel
theorem dX5_digest_8 : decode cX5_digest 8 = .ok (.aload_n 0, 1) := by decide +kernel
theorem dX5_digest_9 : decode cX5_digest 9 = .ok (.getfield 48, 3) := by decide +kernel
theorem dX5_digest_12 : decode cX5_digest 12 = .ok (.i2l, 1) := by decide +kernel
theorem dX5_digest_13 : decode cX5_digest 13 = .ok (.ladd, 1) := by decide +kernel
theorem dX5_digest_14 : decode cX5_digest 14 = .ok (.lstore_n 1, 1) := by decide +kernel
theorem dX5_digest_15 : decode cX5_digest 15 = .ok (.iconst 0, 1) := by decide +kernel
theorem dX5_digest_16 : decode cX5_digest 16 = .ok (.istore_n 3, 1) := by decide +kernel
theorem dX5_digest_17 : decode cX5_digest 17 = .ok (.iload_n 3, 1) := by decide +kernel
theorem dX5_digest_18 : decode cX5_digest 18 = .ok (.aload_n 0, 1) := by decide +kernel
theorem dX5_digest_19 : decode cX5_digest 19 = .ok (.getfield 48, 3) := by decide +kernel
theorem dX5_digest_22 : decode cX5_digest 22 = .ok (.if_icmp .ge 58, 3) := by decide +kernel
theorem dX5_digest_25 : decode cX5_digest 25 = .ok (.lload_n 1, 1) := by decide +kernel
theorem dX5_digest_26 : decode cX5_digest 26 = .ok (.ldc2_w 134, 3) := by decide +kernel
theorem dX5_digest_29 : decode cX5_digest 29 = .ok (.lmul, 1) := by decide +kernel
theorem dX5_digest_30 : decode cX5_digest 30 = .ok (.aload_n 0, 1) := by decide +kernel
theorem dX5_digest_31 : decode cX5_digest 31 = .ok (.getfield 9, 3) := by decide +kernel
theorem dX5_digest_34 : decode cX5_digest 34 = .ok (.iload_n 3, 1) := by decide +kernel
theorem dX5_digest_35 : decode cX5_digest 35 = .ok (.iaload, 1) := by decide +kernel
theorem dX5_digest_36 : decode cX5_digest 36 = .ok (.i2l, 1) := by decide +kernel
theorem dX5_digest_37 : decode cX5_digest 37 = .ok (.ladd, 1) := by decide +kernel
theorem dX5_digest_38 : decode cX5_digest 38 = .ok (.lstore_n 1, 1) := by decide +kernel
theorem dX5_digest_39 : decode cX5_digest 39 = .ok (.iconst 0, 1) := by decide +kernel
theorem dX5_digest_40 : decode cX5_digest 40 = .ok (.istore 4, 2) := by decide +kernel
theorem dX5_digest_42 : decode cX5_digest 42 = .ok (.iload 4, 2) := by decide +kernel
theorem dX5_digest_44 : decode cX5_digest 44 = .ok (.iconst 4, 1) := by decide +kernel
theorem dX5_digest_45 : decode cX5_digest 45 = .ok (.if_icmp .ge 29, 3) := by decide +kernel
theorem dX5_digest_48 : decode cX5_digest 48 = .ok (.lload_n 1, 1) := by decide +kernel
theorem dX5_digest_49 : decode cX5_digest 49 = .ok (.ldc2_w 134, 3) := by decide +kernel
theorem dX5_digest_52 : decode cX5_digest 52 = .ok (.lmul, 1) := by decide +kernel
theorem dX5_digest_53 : decode cX5_digest 53 = .ok (.aload_n 0, 1) := by decide +kernel
theorem dX5_digest_54 : decode cX5_digest 54 = .ok (.getfield 13, 3) := by decide +kernel
theorem dX5_digest_57 : decode cX5_digest 57 = .ok (.bipush 24, 2) := by decide +kernel
theorem dX5_digest_59 : decode cX5_digest 59 = .ok (.iload 4, 2) := by decide +kernel
theorem dX5_digest_61 : decode cX5_digest 61 = .ok (.imul, 1) := by decide +kernel
theorem dX5_digest_62 : decode cX5_digest 62 = .ok (.iload_n 3, 1) := by decide +kernel
theorem dX5_digest_63 : decode cX5_digest 63 = .ok (.iadd, 1) := by decide +kernel
theorem dX5_digest_64 : decode cX5_digest 64 = .ok (.iaload, 1) := by decide +kernel
theorem dX5_digest_65 : decode cX5_digest 65 = .ok (.i2l, 1) := by decide +kernel
theorem dX5_digest_66 : decode cX5_digest 66 = .ok (.ladd, 1) := by decide +kernel
theorem dX5_digest_67 : decode cX5_digest 67 = .ok (.lstore_n 1, 1) := by decide +kernel
theorem dX5_digest_68 : decode cX5_digest 68 = .ok (.iinc 4 1, 3) := by decide +kernel
theorem dX5_digest_71 : decode cX5_digest 71 = .ok (.goto (-29), 3) := by decide +kernel
theorem dX5_digest_74 : decode cX5_digest 74 = .ok (.iinc 3 1, 3) := by decide +kernel
theorem dX5_digest_77 : decode cX5_digest 77 = .ok (.goto (-60), 3) := by decide +kernel
theorem dX5_digest_80 : decode cX5_digest 80 = .ok (.lload_n 1, 1) := by decide +kernel
theorem dX5_digest_81 : decode cX5_digest 81 = .ok (.ldc2_w 134, 3) := by decide +kernel
theorem dX5_digest_84 : decode cX5_digest 84 = .ok (.lmul, 1) := by decide +kernel
theorem dX5_digest_85 : decode cX5_digest 85 = .ok (.aload_n 0, 1) := by decide +kernel
theorem dX5_digest_86 : decode cX5_digest 86 = .ok (.getfield 48, 3) := by decide +kernel
theorem dX5_digest_89 : decode cX5_digest 89 = .ok (.ifCond .ne 7, 3) := by decide +kernel
theorem dX5_digest_92 : decode cX5_digest 92 = .ok (.iconst (-1), 1) := by decide +kernel
theorem dX5_digest_93 : decode cX5_digest 93 = .ok (.goto 7, 3) := by decide +kernel
theorem dX5_digest_96 : decode cX5_digest 96 = .ok (.aload_n 0, 1) := by decide +kernel
theorem dX5_digest_97 : decode cX5_digest 97 = .ok (.getfield 62, 3) := by decide +kernel
theorem dX5_digest_100 : decode cX5_digest 100 = .ok (.i2l, 1) := by decide +kernel
theorem dX5_digest_101 : decode cX5_digest 101 = .ok (.ladd, 1) := by decide +kernel
theorem dX5_digest_102 : decode cX5_digest 102 = .ok (.ldc2_w 134, 3) := by decide +kernel
theorem dX5_digest_105 : decode cX5_digest 105 = .ok (.lmul, 1) := by decide +kernel
theorem dX5_digest_106 : decode cX5_digest 106 = .ok (.aload_n 0, 1) := by decide +kernel
theorem dX5_digest_107 : decode cX5_digest 107 = .ok (.getfield 51, 3) := by decide +kernel
theorem dX5_digest_110 : decode cX5_digest 110 = .ok (.i2l, 1) := by decide +kernel
theorem dX5_digest_111 : decode cX5_digest 111 = .ok (.ladd, 1) := by decide +kernel
theorem dX5_digest_112 : decode cX5_digest 112 = .ok (.lstore_n 1, 1) := by decide +kernel
theorem dX5_digest_113 : decode cX5_digest 113 = .ok (.iconst 0, 1) := by decide +kernel
theorem dX5_digest_114 : decode cX5_digest 114 = .ok (.istore_n 3, 1) := by decide +kernel
theorem dX5_digest_115 : decode cX5_digest 115 = .ok (.iload_n 3, 1) := by decide +kernel
theorem dX5_digest_116 : decode cX5_digest 116 = .ok (.aload_n 0, 1) := by decide +kernel
theorem dX5_digest_117 : decode cX5_digest 117 = .ok (.getfield 51, 3) := by decide +kernel
theorem dX5_digest_120 : decode cX5_digest 120 = .ok (.if_icmp .ge 47, 3) := by decide +kernel
theorem dX5_digest_123 : decode cX5_digest 123 = .ok (.lload_n 1, 1) := by decide +kernel
theorem dX5_digest_124 : decode cX5_digest 124 = .ok (.ldc2_w 134, 3) := by decide +kernel
theorem dX5_digest_127 : decode cX5_digest 127 = .ok (.lmul, 1) := by decide +kernel
theorem dX5_digest_128 : decode cX5_digest 128 = .ok (.aload_n 0, 1) := by decide +kernel
theorem dX5_digest_129 : decode cX5_digest 129 = .ok (.getfield 16, 3) := by decide +kernel
theorem dX5_digest_132 : decode cX5_digest 132 = .ok (.iload_n 3, 1) := by decide +kernel
theorem dX5_digest_133 : decode cX5_digest 133 = .ok (.iaload, 1) := by decide +kernel
theorem dX5_digest_134 : decode cX5_digest 134 = .ok (.i2l, 1) := by decide +kernel
theorem dX5_digest_135 : decode cX5_digest 135 = .ok (.ladd, 1) := by decide +kernel
theorem dX5_digest_136 : decode cX5_digest 136 = .ok (.ldc2_w 134, 3) := by decide +kernel
theorem dX5_digest_139 : decode cX5_digest 139 = .ok (.lmul, 1) := by decide +kernel
theorem dX5_digest_140 : decode cX5_digest 140 = .ok (.aload_n 0, 1) := by decide +kernel
theorem dX5_digest_141 : decode cX5_digest 141 = .ok (.getfield 25, 3) := by decide +kernel
theorem dX5_digest_144 : decode cX5_digest 144 = .ok (.iload_n 3, 1) := by decide +kernel
theorem dX5_digest_145 : decode cX5_digest 145 = .ok (.iaload, 1) := by decide +kernel
theorem dX5_digest_146 : decode cX5_digest 146 = .ok (.i2l, 1) := by decide +kernel
theorem dX5_digest_147 : decode cX5_digest 147 = .ok (.ladd, 1) := by decide +kernel
theorem dX5_digest_148 : decode cX5_digest 148 = .ok (.ldc2_w 134, 3) := by decide +kernel
theorem dX5_digest_151 : decode cX5_digest 151 = .ok (.lmul, 1) := by decide +kernel
theorem dX5_digest_152 : decode cX5_digest 152 = .ok (.aload_n 0, 1) := by decide +kernel
theorem dX5_digest_153 : decode cX5_digest 153 = .ok (.getfield 28, 3) := by decide +kernel
theorem dX5_digest_156 : decode cX5_digest 156 = .ok (.iload_n 3, 1) := by decide +kernel
theorem dX5_digest_157 : decode cX5_digest 157 = .ok (.iaload, 1) := by decide +kernel
theorem dX5_digest_158 : decode cX5_digest 158 = .ok (.i2l, 1) := by decide +kernel
theorem dX5_digest_159 : decode cX5_digest 159 = .ok (.ladd, 1) := by decide +kernel
theorem dX5_digest_160 : decode cX5_digest 160 = .ok (.lstore_n 1, 1) := by decide +kernel
theorem dX5_digest_161 : decode cX5_digest 161 = .ok (.iinc 3 1, 3) := by decide +kernel
theorem dX5_digest_164 : decode cX5_digest 164 = .ok (.goto (-49), 3) := by decide +kernel
theorem dX5_digest_167 : decode cX5_digest 167 = .ok (.lload_n 1, 1) := by decide +kernel
theorem dX5_digest_168 : decode cX5_digest 168 = .ok (.lreturn, 1) := by decide +kernel
theorem dJ6_bitCount_0f7a4_0 : decode cJ6_bitCount_0f7a4 0 = .ok (.iload_n 0, 1) := by decide +kernel
theorem dJ6_bitCount_0f7a4_1 : decode cJ6_bitCount_0f7a4 1 = .ok (.iload_n 0, 1) := by decide +kernel
theorem dJ6_bitCount_0f7a4_2 : decode cJ6_bitCount_0f7a4 2 = .ok (.iconst 1, 1) := by decide +kernel
theorem dJ6_bitCount_0f7a4_3 : decode cJ6_bitCount_0f7a4 3 = .ok (.iushr, 1) := by decide +kernel
theorem dJ6_bitCount_0f7a4_4 : decode cJ6_bitCount_0f7a4 4 = .ok (.ldc_w 265, 3) := by decide +kernel
theorem dJ6_bitCount_0f7a4_7 : decode cJ6_bitCount_0f7a4 7 = .ok (.iand, 1) := by decide +kernel
theorem dJ6_bitCount_0f7a4_8 : decode cJ6_bitCount_0f7a4 8 = .ok (.isub, 1) := by decide +kernel
theorem dJ6_bitCount_0f7a4_9 : decode cJ6_bitCount_0f7a4 9 = .ok (.istore_n 0, 1) := by decide +kernel
theorem dJ6_bitCount_0f7a4_10 : decode cJ6_bitCount_0f7a4 10 = .ok (.iload_n 0, 1) := by decide +kernel
theorem dJ6_bitCount_0f7a4_11 : decode cJ6_bitCount_0f7a4 11 = .ok (.ldc_w 266, 3) := by decide +kernel
theorem dJ6_bitCount_0f7a4_14 : decode cJ6_bitCount_0f7a4 14 = .ok (.iand, 1) := by decide +kernel
theorem dJ6_bitCount_0f7a4_15 : decode cJ6_bitCount_0f7a4 15 = .ok (.iload_n 0, 1) := by decide +kernel
theorem dJ6_bitCount_0f7a4_16 : decode cJ6_bitCount_0f7a4 16 = .ok (.iconst 2, 1) := by decide +kernel
theorem dJ6_bitCount_0f7a4_17 : decode cJ6_bitCount_0f7a4 17 = .ok (.iushr, 1) := by decide +kernel
theorem dJ6_bitCount_0f7a4_18 : decode cJ6_bitCount_0f7a4 18 = .ok (.ldc_w 266, 3) := by decide +kernel
theorem dJ6_bitCount_0f7a4_21 : decode cJ6_bitCount_0f7a4 21 = .ok (.iand, 1) := by decide +kernel
theorem dJ6_bitCount_0f7a4_22 : decode cJ6_bitCount_0f7a4 22 = .ok (.iadd, 1) := by decide +kernel
theorem dJ6_bitCount_0f7a4_23 : decode cJ6_bitCount_0f7a4 23 = .ok (.istore_n 0, 1) := by decide +kernel
theorem dJ6_bitCount_0f7a4_24 : decode cJ6_bitCount_0f7a4 24 = .ok (.iload_n 0, 1) := by decide +kernel
theorem dJ6_bitCount_0f7a4_25 : decode cJ6_bitCount_0f7a4 25 = .ok (.iload_n 0, 1) := by decide +kernel
theorem dJ6_bitCount_0f7a4_26 : decode cJ6_bitCount_0f7a4 26 = .ok (.iconst 4, 1) := by decide +kernel
theorem dJ6_bitCount_0f7a4_27 : decode cJ6_bitCount_0f7a4 27 = .ok (.iushr, 1) := by decide +kernel
theorem dJ6_bitCount_0f7a4_28 : decode cJ6_bitCount_0f7a4 28 = .ok (.iadd, 1) := by decide +kernel
theorem dJ6_bitCount_0f7a4_29 : decode cJ6_bitCount_0f7a4 29 = .ok (.ldc_w 267, 3) := by decide +kernel
theorem dJ6_bitCount_0f7a4_32 : decode cJ6_bitCount_0f7a4 32 = .ok (.iand, 1) := by decide +kernel
theorem dJ6_bitCount_0f7a4_33 : decode cJ6_bitCount_0f7a4 33 = .ok (.istore_n 0, 1) := by decide +kernel
theorem dJ6_bitCount_0f7a4_34 : decode cJ6_bitCount_0f7a4 34 = .ok (.iload_n 0, 1) := by decide +kernel
theorem dJ6_bitCount_0f7a4_35 : decode cJ6_bitCount_0f7a4 35 = .ok (.iload_n 0, 1) := by decide +kernel
theorem dJ6_bitCount_0f7a4_36 : decode cJ6_bitCount_0f7a4 36 = .ok (.bipush 8, 2) := by decide +kernel
theorem dJ6_bitCount_0f7a4_38 : decode cJ6_bitCount_0f7a4 38 = .ok (.iushr, 1) := by decide +kernel
theorem dJ6_bitCount_0f7a4_39 : decode cJ6_bitCount_0f7a4 39 = .ok (.iadd, 1) := by decide +kernel
theorem dJ6_bitCount_0f7a4_40 : decode cJ6_bitCount_0f7a4 40 = .ok (.istore_n 0, 1) := by decide +kernel
theorem dJ6_bitCount_0f7a4_41 : decode cJ6_bitCount_0f7a4 41 = .ok (.iload_n 0, 1) := by decide +kernel
theorem dJ6_bitCount_0f7a4_42 : decode cJ6_bitCount_0f7a4 42 = .ok (.iload_n 0, 1) := by decide +kernel
theorem dJ6_bitCount_0f7a4_43 : decode cJ6_bitCount_0f7a4 43 = .ok (.bipush 16, 2) := by decide +kernel
theorem dJ6_bitCount_0f7a4_45 : decode cJ6_bitCount_0f7a4 45 = .ok (.iushr, 1) := by decide +kernel
theorem dJ6_bitCount_0f7a4_46 : decode cJ6_bitCount_0f7a4 46 = .ok (.iadd, 1) := by decide +kernel
theorem dJ6_bitCount_0f7a4_47 : decode cJ6_bitCount_0f7a4 47 = .ok (.istore_n 0, 1) := by decide +kernel
theorem dJ6_bitCount_0f7a4_48 : decode cJ6_bitCount_0f7a4 48 = .ok (.iload_n 0, 1) := by decide +kernel
theorem dJ6_bitCount_0f7a4_49 : decode cJ6_bitCount_0f7a4 49 = .ok (.bipush 63, 2) := by decide +kernel
theorem dJ6_bitCount_0f7a4_51 : decode cJ6_bitCount_0f7a4 51 = .ok (.iand, 1) := by decide +kernel
theorem dJ6_bitCount_0f7a4_52 : decode cJ6_bitCount_0f7a4 52 = .ok (.ireturn, 1) := by decide +kernel
theorem dJ9_max_7cf53_0 : decode cJ9_max_7cf53 0 = .ok (.iload_n 0, 1) := by decide +kernel
theorem dJ9_max_7cf53_1 : decode cJ9_max_7cf53 1 = .ok (.iload_n 1, 1) := by decide +kernel
theorem dJ9_max_7cf53_2 : decode cJ9_max_7cf53 2 = .ok (.if_icmp .lt 7, 3) := by decide +kernel
theorem dJ9_max_7cf53_5 : decode cJ9_max_7cf53 5 = .ok (.iload_n 0, 1) := by decide +kernel
theorem dJ9_max_7cf53_6 : decode cJ9_max_7cf53 6 = .ok (.goto 4, 3) := by decide +kernel
theorem dJ9_max_7cf53_9 : decode cJ9_max_7cf53 9 = .ok (.iload_n 1, 1) := by decide +kernel
theorem dJ9_max_7cf53_10 : decode cJ9_max_7cf53 10 = .ok (.ireturn, 1) := by decide +kernel
